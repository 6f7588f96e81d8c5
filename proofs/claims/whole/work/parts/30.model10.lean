def popc (x : Int) : Int :=
  let a1 := x - zAnd (zUshr x 1) 1431655765
  let a2 := zAnd a1 858993459 + zAnd (zUshr a1 2) 858993459
  let a3 := zAnd (a2 + zUshr a2 4) 252645135
  let a4 := a3 + zUshr a3 8
  let a5 := a4 + zUshr a4 16
  zAnd a5 63
theorem popc_rg (x : Int) : Rg (popc x) := zAnd_rg _ _
/-! bits -/
theorem sh_k : ∀ k : Nat, k < 32 → ((iI (k : Int) &&& 31).toBitVec.smod 32) = BitVec.ofNat 32 k := by decide +kernel
theorem shl_k : ∀ k : Nat, k < 32 → ∀ j : Nat, j < 32 → (iI 1 <<< (iI (k : Int) &&& 31)).toBitVec.getLsbD j = decide (j = k) := by decide +kernel
theorem inS_bit {w o : Int} (h : 0 ≤ o ∧ o < 32) : inS w o ↔ (iI w).toBitVec.getLsbD o.toNat = true := by
  obtain ⟨k, rfl⟩ : ∃ k : Nat, o = k := ⟨o.toNat, by omega⟩
  have hk : k < 32 := by omega
  have e : (iI w >>> (iI (k : Int) &&& 31) &&& iI 1).toBitVec = (iI w).toBitVec.sshiftRight k &&& 1#32 := by
    rw [Int32.toBitVec_and, Int32.toBitVec_shiftRight, sh_k k hk]
    have : (BitVec.ofNat 32 k).toNat = k := by rw [BitVec.toNat_ofNat]; omega
    show (iI w).toBitVec.sshiftRight (BitVec.ofNat 32 k).toNat &&& _ = _
    rw [this]; rfl
  have e2 : zAnd (zShr w k) 1 = ((iI w).toBitVec.sshiftRight k &&& 1#32).toInt := by
    unfold zAnd
    rw [zShr_i, ← e]; rfl
  have e3 : ((iI w).toBitVec.sshiftRight k).getLsbD 0 = (iI w).toBitVec.getLsbD k := by
    rw [BitVec.getLsbD_sshiftRight, if_pos (by omega)]
    simp
  unfold inS
  rw [e2, BitVec.and_one_eq_setWidth_ofBool_getLsbD, e3, show (k : Int).toNat = k by omega]
  cases (iI w).toBitVec.getLsbD k <;> decide
theorem inS_or {a b o : Int} (h : 0 ≤ o ∧ o < 32) : inS (zOr a b) o ↔ inS a o ∨ inS b o := by
  rw [inS_bit h, inS_bit h, inS_bit h, zOr_i, Int32.toBitVec_or, BitVec.getLsbD_or, Bool.or_eq_true]
theorem inS_xor {a b o : Int} (h : 0 ≤ o ∧ o < 32) : inS (zXor a b) o ↔ ¬ (inS a o ↔ inS b o) := by
  rw [inS_bit h, inS_bit h, inS_bit h, zXor_i, Int32.toBitVec_xor, BitVec.getLsbD_xor]
  cases (iI a).toBitVec.getLsbD o.toNat <;> cases (iI b).toBitVec.getLsbD o.toNat <;> decide
theorem inS_shl {k o : Int} (hk : 0 ≤ k ∧ k < 32) (h : 0 ≤ o ∧ o < 32) : inS (zShl 1 k) o ↔ o = k := by
  obtain ⟨j, rfl⟩ : ∃ j : Nat, k = j := ⟨k.toNat, by omega⟩
  rw [inS_bit h, zShl_i, shl_k j (by omega) o.toNat (by omega)]
  rw [decide_eq_true_iff]; omega
theorem inS_0 {o : Int} (h : 0 ≤ o ∧ o < 32) : ¬ inS 0 o := by
  rw [inS_bit h]
  show ¬ (0#32 : BitVec 32).getLsbD _ = true
  simp
theorem inS_x {a b : Int} (ha : Rg a) (hb : Rg b) (h : ∀ o, 0 ≤ o → o < 32 → (inS a o ↔ inS b o)) : a = b := by
  have e : iI a = iI b := by
    apply Int32.toBitVec_inj.mp
    apply BitVec.eq_of_getLsbD_eq
    intro i hi
    have := h i (by omega) (by omega)
    rw [inS_bit (by omega), inS_bit (by omega)] at this
    rw [show (i : Int).toNat = i by omega] at this
    exact Bool.eq_iff_iff.mpr this
  exact (iI_eq ha hb).mp e
/-! serving -/
noncomputable def lstP (Q : Int → Prop) : Int := Classical.epsilon fun b => 0 ≤ b ∧ Q b ∧ ∀ c, 0 ≤ c → c < b → ¬ Q c
theorem lstP_i {Q : Int → Prop} {b : Int} (h : 0 ≤ b) (hq : Q b) (hn : ∀ c, 0 ≤ c → c < b → ¬ Q c) : b = lstP Q := by
  have k : ∃ b, 0 ≤ b ∧ Q b ∧ ∀ c, 0 ≤ c → c < b → ¬ Q c := ⟨b, h, hq, hn⟩
  obtain ⟨h1, h2, h3⟩ := Classical.epsilon_spec k
  change 0 ≤ lstP Q at h1
  change Q (lstP Q) at h2
  rcases Int.lt_trichotomy b (lstP Q) with q | q | q
  · exact absurd hq (h3 b h q)
  · exact q
  · exact absurd h2 (hn _ h1 q)
noncomputable def svN (N M : Int) (mt : Int → Int → Prop) (set : Int) : Nat → Int × Int × (Int → Prop)
  | 0 => (0, set, fun _ => True)
  | k + 1 => cif (inS set (k : Int)) (zOr (svN N M mt set k).1 (zShl 1 (lstP (giveP N M (svN N M mt set k).2.2 mt (inS (zXor (svN N M mt set k).2.1 (zShl 1 (k : Int)))) (k : Int)))), zXor (svN N M mt set k).2.1 (zShl 1 (k : Int)), fun c => (svN N M mt set k).2.2 c ∧ c ≠ lstP (giveP N M (svN N M mt set k).2.2 mt (inS (zXor (svN N M mt set k).2.1 (zShl 1 (k : Int)))) (k : Int))) (svN N M mt set k)
noncomputable def svI (N M : Int) (mt : Int → Int → Prop) (set o : Int) : Int × Int × (Int → Prop) := svN N M mt set o.toNat
theorem svI_y {N M : Int} {mt : Int → Int → Prop} {set o : Int} (h : 0 ≤ o) (hs : inS set o) : svI N M mt set (o + 1) = (zOr (svI N M mt set o).1 (zShl 1 (lstP (giveP N M (svI N M mt set o).2.2 mt (inS (zXor (svI N M mt set o).2.1 (zShl 1 o))) o))), zXor (svI N M mt set o).2.1 (zShl 1 o), fun c => (svI N M mt set o).2.2 c ∧ c ≠ lstP (giveP N M (svI N M mt set o).2.2 mt (inS (zXor (svI N M mt set o).2.1 (zShl 1 o))) o)) := by
  obtain ⟨k, rfl⟩ : ∃ k : Nat, o = k := ⟨o.toNat, by omega⟩
  unfold svI
  rw [show ((k : Int) + 1).toNat = k + 1 by omega, show (k : Int).toNat = k by omega]
  exact cif_t hs
theorem svI_n {N M : Int} {mt : Int → Int → Prop} {set o : Int} (h : 0 ≤ o) (hs : ¬ inS set o) : svI N M mt set (o + 1) = svI N M mt set o := by
  obtain ⟨k, rfl⟩ : ∃ k : Nat, o = k := ⟨o.toNat, by omega⟩
  unfold svI
  rw [show ((k : Int) + 1).toNat = k + 1 by omega, show (k : Int).toNat = k by omega]
  exact cif_f hs
theorem giveP_c {N M o b : Int} {A A' : Int → Prop} {mt : Int → Int → Prop} {S : Int → Prop} (hb : 0 ≤ b ∧ b < N) (h : ∀ c, 0 ≤ c → c < N → (A c ↔ A' c)) : giveP N M A mt S o b ↔ giveP N M A' mt S o b := by
  unfold giveP
  constructor
  · rintro ⟨a, c, d⟩; exact ⟨(h b hb.1 hb.2).mp a, c, d.c (fun x x1 x2 q => ⟨(h x x1 x2).mp q.1, q.2⟩) (fun _ _ q => q) (fun _ _ _ q => q)⟩
  · rintro ⟨a, c, d⟩; exact ⟨(h b hb.1 hb.2).mpr a, c, d.c (fun x x1 x2 q => ⟨(h x x1 x2).mpr q.1, q.2⟩) (fun _ _ q => q) (fun _ _ _ q => q)⟩
theorem give_ex {N M o : Int} {A : Int → Prop} {mt : Int → Int → Prop} {S S' : Int → Prop} (h : CanP N M A mt S) (ho : 0 ≤ o ∧ o < M) (hS : S o) (hS' : ∀ x, 0 ≤ x → x < M → S' x → S x ∧ x ≠ o) : ∃ b, 0 ≤ b ∧ b < N ∧ giveP N M A mt S' o b := by
  obtain ⟨g, g1, g2⟩ := h
  have k := g1 o ho.1 ho.2 hS
  refine ⟨g o, k.1.1, k.1.2, k.2.1, k.2.2, g, fun x x1 x2 x3 => ?_, fun x y x1 x2 y1 y2 x3 y3 e => g2 x y x1 x2 y1 y2 (hS' x x1 x2 x3).1 (hS' y y1 y2 y3).1 e⟩
  have k2 := g1 x x1 x2 (hS' x x1 x2 x3).1
  exact ⟨k2.1, ⟨k2.2.1, fun e => (hS' x x1 x2 x3).2 (g2 x o x1 x2 ho.1 ho.2 (hS' x x1 x2 x3).1 hS e)⟩, k2.2.2⟩
theorem lst_ex {Q : Int → Prop} : ∀ (n : Nat) (b : Int), 0 ≤ b → b < n → Q b → ∃ b', 0 ≤ b' ∧ b' ≤ b ∧ Q b' ∧ ∀ c, 0 ≤ c → c < b' → ¬ Q c
  | 0, b, h0, h1, _ => by omega
  | n + 1, b, h0, h1, hq => by
    by_cases k : ∃ c, 0 ≤ c ∧ c < b ∧ Q c
    · obtain ⟨c, c0, c1, c2⟩ := k
      obtain ⟨b', d0, d1, d2, d3⟩ := lst_ex n c c0 (by omega) c2
      exact ⟨b', d0, by omega, d2, d3⟩
    · exact ⟨b, h0, Int.le_refl _, hq, fun c a d e => k ⟨c, a, d, e⟩⟩
theorem sv_inv {N M : Int} {mt : Int → Int → Prop} {set : Int} (hM : M ≤ 31) (hc : CanP N M (fun _ => True) mt (inS set)) : ∀ k : Nat, (k : Int) ≤ M → (∀ o, 0 ≤ o → o < M → (inS (svN N M mt set k).2.1 o ↔ inS set o ∧ (k : Int) ≤ o)) ∧ CanP N M (svN N M mt set k).2.2 mt (inS (svN N M mt set k).2.1)
  | 0, _ => ⟨fun o a b => ⟨fun q => ⟨q, a⟩, fun q => q.1⟩, hc⟩
  | k + 1, hk => by
    obtain ⟨i1, i2⟩ := sv_inv hM hc k (by omega)
    by_cases hs : inS set (k : Int)
    · have e : svN N M mt set (k + 1) = (zOr (svN N M mt set k).1 (zShl 1 (lstP (giveP N M (svN N M mt set k).2.2 mt (inS (zXor (svN N M mt set k).2.1 (zShl 1 (k : Int)))) (k : Int)))), zXor (svN N M mt set k).2.1 (zShl 1 (k : Int)), fun c => (svN N M mt set k).2.2 c ∧ c ≠ lstP (giveP N M (svN N M mt set k).2.2 mt (inS (zXor (svN N M mt set k).2.1 (zShl 1 (k : Int)))) (k : Int))) := cif_t hs
      have x1 : ∀ o, 0 ≤ o → o < M → (inS (zXor (svN N M mt set k).2.1 (zShl 1 (k : Int))) o ↔ inS set o ∧ ((k + 1 : Nat) : Int) ≤ o) := fun o a b => by
        rw [inS_xor ⟨a, by omega⟩, i1 o a b, inS_shl ⟨by omega, by omega⟩ ⟨a, by omega⟩]
        by_cases q : o = (k : Int)
        · rw [q]
          constructor
          · intro h; exact absurd ⟨fun _ => rfl, fun _ => ⟨hs, Int.le_refl _⟩⟩ h
          · intro h; exact absurd h.2 (by omega)
        · constructor
          · intro h
            have h3 : inS set o ∧ (k : Int) ≤ o := Classical.byContradiction fun z => h ⟨fun y => absurd y z, fun y => absurd y q⟩
            exact ⟨h3.1, by omega⟩
          · intro h h2
            exact q (h2.mp ⟨h.1, by omega⟩)
      obtain ⟨b, b0, b1, b2⟩ := give_ex (S' := inS (zXor (svN N M mt set k).2.1 (zShl 1 (k : Int)))) i2 (o := (k : Int)) ⟨by omega, by omega⟩ ((i1 k (by omega) (by omega)).mpr ⟨hs, Int.le_refl _⟩) (fun x a c d => by
        have := (x1 x a c).mp d
        exact ⟨(i1 x a c).mpr ⟨this.1, by omega⟩, by omega⟩)
      obtain ⟨b', d0, d1, d2, d3⟩ := lst_ex (Q := giveP N M (svN N M mt set k).2.2 mt (inS (zXor (svN N M mt set k).2.1 (zShl 1 (k : Int)))) (k : Int)) (b.toNat + 1) b b0 (by omega) b2
      have e2 := lstP_i d0 d2 d3
      rw [e]
      refine ⟨x1, ?_⟩
      rw [← e2]
      exact d2.2.2
    · have e : svN N M mt set (k + 1) = svN N M mt set k := cif_f hs
      rw [e]
      refine ⟨fun o a b => (i1 o a b).trans ⟨fun q => ⟨q.1, ?_⟩, fun q => ⟨q.1, by omega⟩⟩, i2⟩
      have h1 := q.2
      have h2 : o ≠ (k : Int) := fun z => hs (z ▸ q.1)
      omega
theorem sv_ex {N M o : Int} {mt : Int → Int → Prop} {set : Int} (hc : CanP N M (fun _ => True) mt (inS set)) (hM : 0 ≤ M ∧ M ≤ 6) (h0 : 0 ≤ o) (ho : o < M) (hs : inS set o) : ∃ b, 0 ≤ b ∧ b < N ∧ giveP N M (svI N M mt set o).2.2 mt (inS (zXor (svI N M mt set o).2.1 (zShl 1 o))) o b := by
  obtain ⟨k, rfl⟩ : ∃ k : Nat, o = k := ⟨o.toNat, by omega⟩
  obtain ⟨i1, i2⟩ := sv_inv (by omega) hc k (by omega)
  unfold svI
  rw [show (k : Int).toNat = k by omega]
  refine give_ex i2 ⟨by omega, ho⟩ ((i1 k (by omega) ho).mpr ⟨hs, Int.le_refl _⟩) (fun x a b c => ?_)
  rw [inS_xor ⟨a, by omega⟩, inS_shl ⟨by omega, by omega⟩ ⟨a, by omega⟩] at c
  have hx : x ≠ (k : Int) := fun q => c ⟨fun _ => q, fun _ => by rw [q]; exact (i1 k (by omega) ho).mpr ⟨hs, Int.le_refl _⟩⟩
  exact ⟨Classical.byContradiction fun q => c ⟨fun y => absurd y q, fun y => absurd y hx⟩, hx⟩
theorem gsN_can {N M : Int} {A : Int → Prop} {mt : Int → Int → Prop} (hM : M ≤ 31) : ∀ k : Nat, CanP N M A mt (inS (gsN (fun s => CanP N M A mt (inS s)) k))
  | 0 => ⟨fun _ => 0, fun o a b c => absurd c (inS_0 ⟨a, by omega⟩), fun o o' a b c d e _ _ => absurd e (inS_0 ⟨a, by omega⟩)⟩
  | k + 1 => by
    have ih := gsN_can (N := N) (A := A) (mt := mt) hM k
    show CanP N M A mt (inS (zOr _ (cif _ _ _)))
    by_cases q : CanP N M A mt (inS (zOr (gsN (fun s => CanP N M A mt (inS s)) k) (zShl 1 (k : Int))))
    · rw [cif_t q]; exact q
    · rw [cif_f q]
      refine ih.c (fun _ _ _ q => q) (fun _ _ q => q) (fun o a b c => ?_)
      rw [inS_or ⟨a, by omega⟩] at c
      rcases c with c | c
      · exact c
      · exact absurd c (inS_0 ⟨a, by omega⟩)
theorem gs_can {V : Nat → Int → Int} (h : 0 ≤ V 42 9) (h6 : V 42 9 ≤ 6) : CanP (V 42 7) (V 42 9) (fun _ => True) (meetP (V 45) (V 46)) (inS (gsS (canF V) (V 42 9))) := gsN_can (by omega) _
theorem sv_y1 {N M : Int} {mt : Int → Int → Prop} {w o gv b : Int} (h : 0 ≤ o) (hs : zAnd (zShr w o) 1 = 1) (hg : gv = (svI N M mt w o).1) (hb : b = lstP (giveP N M (svI N M mt w o).2.2 mt (inS (zXor (svI N M mt w o).2.1 (zShl 1 o))) o)) : zOr gv (zShl 1 b) = (svI N M mt w (o + 1)).1 := by rw [svI_y h hs, hb, hg]
theorem sv_y2 {N M : Int} {mt : Int → Int → Prop} {w o lf : Int} (h : 0 ≤ o) (hs : zAnd (zShr w o) 1 = 1) (hg : lf = (svI N M mt w o).2.1) : zXor lf (zShl 1 o) = (svI N M mt w (o + 1)).2.1 := by rw [svI_y h hs, hg]
theorem sv_n1 {N M : Int} {mt : Int → Int → Prop} {w o gv : Int} (h : 0 ≤ o) (hs : ¬ zAnd (zShr w o) 1 = 1) (hg : gv = (svI N M mt w o).1) : gv = (svI N M mt w (o + 1)).1 := by rw [svI_n h hs, hg]
theorem sv_n2 {N M : Int} {mt : Int → Int → Prop} {w o gv : Int} (h : 0 ≤ o) (hs : ¬ zAnd (zShr w o) 1 = 1) (hg : gv = (svI N M mt w o).2.1) : gv = (svI N M mt w (o + 1)).2.1 := by rw [svI_n h hs, hg]
theorem sv_n3 {N M : Int} {mt : Int → Int → Prop} {w o : Int} {h : Int → Int} (h0 : 0 ≤ o) (hs : ¬ zAnd (zShr w o) 1 = 1) (hg : ∀ c, 0 ≤ c → c < N → (-1 ≤ h c ↔ (svI N M mt w o).2.2 c)) : ∀ c, 0 ≤ c → c < N → (-1 ≤ h c ↔ (svI N M mt w (o + 1)).2.2 c) := by rw [svI_n h0 hs]; exact hg
theorem sv_y3 {N M : Int} {mt : Int → Int → Prop} {w o b : Int} {h h' : Int → Int} {pr : Prop} (h0 : 0 ≤ o) (hs : zAnd (zShr w o) 1 = 1) (hb : b = lstP (giveP N M (svI N M mt w o).2.2 mt (inS (zXor (svI N M mt w o).2.1 (zShl 1 o))) o)) (hp : pr) (hg : ∀ c, 0 ≤ c → c < N → (-1 ≤ h c ↔ (svI N M mt w o).2.2 c)) (h4 : ∀ c, 0 ≤ c → c < N → (-1 ≤ h' c ↔ (-1 ≤ h c ∧ (pr → c ≠ b)))) : ∀ c, 0 ≤ c → c < N → (-1 ≤ h' c ↔ (svI N M mt w (o + 1)).2.2 c) := fun c a d => by
  rw [svI_y h0 hs, ← hb, h4 c a d, hg c a d]
  exact ⟨fun q => ⟨q.1, q.2 hp⟩, fun q => ⟨q.1, fun _ => q.2⟩⟩
/-- the whole call of serve -/
def servP (V V1 : Nat → Int → Int) (r : Int) : Prop := r = popc (gsS (canF V) (V 42 9)) ∧ V1 42 7 = leftK (svI (V 42 7) (V 42 9) (meetP (V 45) (V 46)) (gsS (canF V) (V 42 9)) (V 42 9)).1 (V 42 7) ∧ V1 42 9 = leftK (gsS (canF V) (V 42 9)) (V 42 9) ∧
  tookP (svI (V 42 7) (V 42 9) (meetP (V 45) (V 46)) (gsS (canF V) (V 42 9)) (V 42 9)).1 (V 42 7) (V 45) (V1 45) ∧ tookP (gsS (canF V) (V 42 9)) (V 42 9) (V 46) (V1 46) ∧ ∀ q z, q ≠ 45 → q ≠ 46 → q ≠ 56 → q ≠ 57 → ¬ (q = 42 ∧ (z = 7 ∨ z = 9)) → V1 q z = V q z
theorem servP_i {V V2 V5 V6 : Nat → Int → Int} {w o gv : Int} (hw : w = gsS (canF V) (V 42 9)) (ho : V 42 9 = o) (hF : FrG V V2) (hg : gv = (svI (V 42 7) (V 42 9) (meetP (V 45) (V 46)) w o).1) (t5 : tookP gv (V2 42 7) (V2 45) (V5 45)) (t6 : tookP w (V5 42 9) (u2 V5 42 7 (leftK gv (V2 42 7)) 46) (V6 46)) (h5 : FrT V2 V5 45) (h6 : FrT (u2 V5 42 7 (leftK gv (V2 42 7))) V6 46) : servP V (u2 V6 42 9 (leftK w (V5 42 9))) (popc w) := by
  have e42 := hF 42 (by decide) (by decide)
  have f42 := h5 42 (by decide)
  have g42 := h6 42 (by decide)
  have g45 := h6 45 (by decide)
  subst hw
  rw [← ho] at hg
  subst hg
  rw [e42] at t5 t6 f42
  rw [e42] at g42 h6
  rw [u2_n (by decide)] at t6 g45
  rw [f42] at t6
  rw [hF 45 (by decide) (by decide)] at t5
  rw [h5 46 (by decide), hF 46 (by decide) (by decide)] at t6
  refine ⟨rfl, ?_, ?_, ?_, ?_, fun q z a b c d e => ?_⟩
  · rw [u2_s, u1_n (by decide), g42, u2_s, u1_s]
  · rw [u2_s, u1_s, f42]
  · rw [u2_n (by decide), g45]; exact t5
  · rw [u2_n (by decide)]; exact t6
  · rw [u2_at, if_neg (fun x => e ⟨x.1, Or.inr x.2⟩), h6 q b, u2_at, if_neg (fun x => e ⟨x.1, Or.inl x.2⟩), h5 q a, hF q c d]

set_option maxRecDepth 100000 in
set_option maxHeartbeats 4000000 in
theorem m_J6_bitCount_0f7a4 (G : GS) (n : Nat) (V : Nat → Int → Int) (R : Nat → Int → Option Nat) (x : Int) : Cn G yJ6_bitCount_0f7a4 cJ6_bitCount_0f7a4 1 (some .int) (rmk 1 0 0 16) [.int (iI x)] n V R 0 0 (fun vv uu => vv = some (.int (iI (popc x))) ∧ uu = (n, V, R)) := by
  refine Cn.of (by decide) (Nat.le_of_ble_eq_true rfl) (fun K C hct => ?_)
  show Xw K G 0 0 _ n V R 0 [(0, .int (iI x))] []
  refine x_iload_n C 0 dJ6_bitCount_0f7a4_0 rfl rfl ?_
  refine x_iload_n C 0 dJ6_bitCount_0f7a4_1 rfl rfl ?_
  refine x_iconst C dJ6_bitCount_0f7a4_2 ?_
  refine x_iushr C dJ6_bitCount_0f7a4_3 ?_
  refine x_ldcw C dJ6_bitCount_0f7a4_4 q_42_14 (w := 1431655765) (by decide) ?_
  refine x_iand C dJ6_bitCount_0f7a4_7 ?_
  refine x_isub C dJ6_bitCount_0f7a4_8 ?_
  refine x_nm (fun a1 h_a1 => ?_)
  refine x_istore_n C dJ6_bitCount_0f7a4_9 rfl (by decide) (lv' := [(0, .int (iI a1))]) rfl ?_
  refine x_iload_n C 0 dJ6_bitCount_0f7a4_10 rfl rfl ?_
  refine x_ldcw C dJ6_bitCount_0f7a4_11 q_42_15 (w := 858993459) (by decide) ?_
  refine x_iand C dJ6_bitCount_0f7a4_14 ?_
  refine x_iload_n C 0 dJ6_bitCount_0f7a4_15 rfl rfl ?_
  refine x_iconst C dJ6_bitCount_0f7a4_16 ?_
  refine x_iushr C dJ6_bitCount_0f7a4_17 ?_
  refine x_ldcw C dJ6_bitCount_0f7a4_18 q_42_15 (w := 858993459) (by decide) ?_
  refine x_iand C dJ6_bitCount_0f7a4_21 ?_
  refine x_iadd C dJ6_bitCount_0f7a4_22 ?_
  refine x_nm (fun a2 h_a2 => ?_)
  refine x_istore_n C dJ6_bitCount_0f7a4_23 rfl (by decide) (lv' := [(0, .int (iI a2))]) rfl ?_
  refine x_iload_n C 0 dJ6_bitCount_0f7a4_24 rfl rfl ?_
  refine x_iload_n C 0 dJ6_bitCount_0f7a4_25 rfl rfl ?_
  refine x_iconst C dJ6_bitCount_0f7a4_26 ?_
  refine x_iushr C dJ6_bitCount_0f7a4_27 ?_
  refine x_iadd C dJ6_bitCount_0f7a4_28 ?_
  refine x_ldcw C dJ6_bitCount_0f7a4_29 q_42_16 (w := 252645135) (by decide) ?_
  refine x_iand C dJ6_bitCount_0f7a4_32 ?_
  refine x_nm (fun a3 h_a3 => ?_)
  refine x_istore_n C dJ6_bitCount_0f7a4_33 rfl (by decide) (lv' := [(0, .int (iI a3))]) rfl ?_
  refine x_iload_n C 0 dJ6_bitCount_0f7a4_34 rfl rfl ?_
  refine x_iload_n C 0 dJ6_bitCount_0f7a4_35 rfl rfl ?_
  refine x_bipush C dJ6_bitCount_0f7a4_36 (w := 8) (by decide) ?_
  refine x_iushr C dJ6_bitCount_0f7a4_38 ?_
  refine x_iadd C dJ6_bitCount_0f7a4_39 ?_
  refine x_nm (fun a4 h_a4 => ?_)
  refine x_istore_n C dJ6_bitCount_0f7a4_40 rfl (by decide) (lv' := [(0, .int (iI a4))]) rfl ?_
  refine x_iload_n C 0 dJ6_bitCount_0f7a4_41 rfl rfl ?_
  refine x_iload_n C 0 dJ6_bitCount_0f7a4_42 rfl rfl ?_
  refine x_bipush C dJ6_bitCount_0f7a4_43 (w := 16) (by decide) ?_
  refine x_iushr C dJ6_bitCount_0f7a4_45 ?_
  refine x_iadd C dJ6_bitCount_0f7a4_46 ?_
  refine x_nm (fun a5 h_a5 => ?_)
  refine x_istore_n C dJ6_bitCount_0f7a4_47 rfl (by decide) (lv' := [(0, .int (iI a5))]) rfl ?_
  refine x_iload_n C 0 dJ6_bitCount_0f7a4_48 rfl rfl ?_
  refine x_bipush C dJ6_bitCount_0f7a4_49 (w := 63) (by decide) ?_
  refine x_iand C dJ6_bitCount_0f7a4_51 ?_
  refine x_iret C dJ6_bitCount_0f7a4_52 ⟨congrArg (fun z => some (Value.int (iI z))) (by subst h_a1; subst h_a2; subst h_a3; subst h_a4; subst h_a5; rfl), rfl⟩
set_option maxRecDepth 100000 in
set_option maxHeartbeats 4000000 in
theorem m_X12_serve (G : GS) (n : Nat) (V : Nat → Int → Int) (R : Nat → Int → Option Nat) (hn : 67 ≤ n) (hLR : LR R) (hnb : 0 ≤ V 42 7 ∧ V 42 7 ≤ 16) (hno : 0 ≤ V 42 9 ∧ V 42 9 ≤ 6) : Cn G yX12_serve cX12_serve 6 (some .int) (rmk 22 0 0 788) [.ref (aG G 42)] n V R 0 0 (fun vv uu => ∃ (r : Int), ∃ (V1 : Nat → Int → Int), vv = some (.int (iI r)) ∧ uu = (n, V1, R) ∧ (servP V V1 r)) := by
  refine Cn.of (by decide) (Nat.le_of_ble_eq_true rfl) (fun K C hct => ?_)
  show Xw K G 0 0 _ n V R 0 [(0, .ref (aG G 42))] []
  refine x_aload_n C 0 dX12_serve_0 rfl rfl ?_
  refine x_runU (r_callV C ok_Model 42 (lt67 hn rfl) rfl (ce_X12_metOnes) (m_X12_metOnes G n V R hn hLR (by first | assumption | omega | decide) (by first | assumption | omega | decide)) rfl dX12_serve_1 q_42_21 q_42_22 q_42_23 rfl rfl ⟨Nat.le_of_ble_eq_true rfl, Nat.le_of_ble_eq_true rfl⟩ ⟨rfl, rfl⟩ ⟨Nat.le_of_ble_eq_true rfl, Nat.le_of_ble_eq_true rfl⟩ (Nat.le_of_ble_eq_true rfl)) (fun v1 u1 hp1 => ?_)
  obtain ⟨Va, rfl, rfl, hFa⟩ := hp1
  show Xw K G 0 0 _ n Va R 4 [(0, .ref (aG G 42))] [.int (iI (gsS (canF V) (V 42 9)))]
  refine x_nm (fun w h_w => ?_)
  refine x_istore_n C dX12_serve_4 rfl (by decide) (lv' := [(0, .ref (aG G 42)), (1, .int (iI w))]) rfl ?_
  refine x_aload_n C 0 dX12_serve_5 rfl rfl ?_
  refine x_runU (r_callV C ok_Model 42 (lt67 hn rfl) rfl (ce_X12_clears) (m_X12_clears G n Va R hn hLR) rfl dX12_serve_6 q_43_1 q_43_2 q_43_3 rfl rfl ⟨Nat.le_of_ble_eq_true rfl, Nat.le_of_ble_eq_true rfl⟩ ⟨rfl, rfl⟩ ⟨Nat.le_of_ble_eq_true rfl, Nat.le_of_ble_eq_true rfl⟩ (Nat.le_of_ble_eq_true rfl)) (fun v6 u6 hp6 => ?_)
  obtain ⟨Vb, rfl, rfl, hfb, hmb⟩ := hp6
  show Xw K G 0 0 _ n Vb R 9 [(0, .ref (aG G 42)), (1, .int (iI w))] []
  have hFVb : FrG V Vb := fun q a b => by rw [hfb q a, hFa q a b]
  have hcs : CanP (V 42 7) (V 42 9) (fun _ => True) (meetP (V 45) (V 46)) (inS w) := by rw [h_w]; exact gs_can hno.1 hno.2
  refine x_iconst C dX12_serve_9 ?_
  refine x_istore_n C dX12_serve_10 rfl (by decide) (lv' := [(0, .ref (aG G 42)), (1, .int (iI w)), (2, .int (iI 0))]) rfl ?_
  refine x_iload_n C 1 dX12_serve_11 rfl rfl ?_
  refine x_istore_n C dX12_serve_12 rfl (by decide) (lv' := [(0, .ref (aG G 42)), (1, .int (iI w)), (2, .int (iI 0)), (3, .int (iI w))]) rfl ?_
  refine x_iconst C dX12_serve_13 ?_
  refine x_istore C dX12_serve_14 (by decide) (lv' := [(0, .ref (aG G 42)), (1, .int (iI w)), (2, .int (iI 0)), (3, .int (iI w)), (4, .int (iI 0))]) rfl ?_
  have lp_16 : ∀ (fuel : Nat) (gv : Int) (lf : Int) (o : Int) (V2 : Nat → Int → Int), (0 ≤ o ∧ o ≤ V 42 9) → (gv = (svI (V 42 7) (V 42 9) (meetP (V 45) (V 46)) w o).1) → (lf = (svI (V 42 7) (V 42 9) (meetP (V 45) (V 46)) w o).2.1) → (FrG V V2) → (∀ c, 0 ≤ c → c < V 42 7 → (-1 ≤ V2 56 c ↔ (svI (V 42 7) (V 42 9) (meetP (V 45) (V 46)) w o).2.2 c)) → (V 42 9 - o) < (fuel : Int) → Xw K G 0 0 (EndQ K G 0 0 (fun vv uu => ∃ (r : Int), ∃ (V1 : Nat → Int → Int), vv = some (.int (iI r)) ∧ uu = (n, V1, R) ∧ (servP V V1 r))) n V2 R 16 [(0, .ref (aG G 42)), (1, .int (iI w)), (2, .int (iI gv)), (3, .int (iI lf)), (4, .int (iI o))] [] := by
    intro fuel16
    induction fuel16 with
    | zero => intro gv lf o V2 ho hgv hlf0 hFV2 hav hfu16; exfalso; omega
    | succ fuel16 ih16 =>
      intro gv lf o V2 ho hgv hlf0 hFV2 hav hfu16
      have e42V2 : V2 42 = V 42 := hFV2 42 (by decide) (by decide)
      have e45V2 : V2 45 = V 45 := hFV2 45 (by decide) (by decide)
      have e46V2 : V2 46 = V 46 := hFV2 46 (by decide) (by decide)
      have e427V2 : V2 42 7 = V 42 7 := by rw [e42V2]
      have e429V2 : V2 42 9 = V 42 9 := by rw [e42V2]
      refine x_iload C 4 dX12_serve_16 rfl ?_
      refine x_aload_n C 0 dX12_serve_18 rfl rfl ?_
      refine x_geti C ok_Model 42 9 dX12_serve_19 (lt67 hn rfl) rfl (by decide) rfl q_41_4 rfl (kz := 9) rfl (fun rg19 => ?_)
      refine x_icmp_ge C dX12_serve_22 (tgt := 76) (by decide) (by first | assumption | (constructor <;> omega)) (by first | assumption | (constructor <;> omega)) (fun h22 => ?_) (fun h22 => ?_)
      · skip
        refine x_iload_n C 1 dX12_serve_76 rfl rfl ?_
        refine x_runU (r_callS C (ce_J6_bitCount_0f7a4) (m_J6_bitCount_0f7a4 G n V2 R (w)) dX12_serve_77 q_44_20 q_42_11 rfl rfl ⟨Nat.le_of_ble_eq_true rfl, Nat.le_of_ble_eq_true rfl⟩ ⟨rfl, rfl⟩ ⟨Nat.le_of_ble_eq_true rfl, Nat.le_of_ble_eq_true rfl⟩ (Nat.le_of_ble_eq_true rfl)) (fun v77 u77 hp77 => ?_)
        obtain ⟨rfl, rfl⟩ := hp77
        show Xw K G 0 0 _ n V2 R 80 [(0, .ref (aG G 42)), (1, .int (iI w)), (2, .int (iI gv)), (3, .int (iI lf)), (4, .int (iI o))] [.int (iI (popc w))]
        refine x_istore C dX12_serve_80 (by decide) (lv' := [(0, .ref (aG G 42)), (1, .int (iI w)), (2, .int (iI gv)), (3, .int (iI lf)), (4, .int (iI (popc w)))]) rfl ?_
        refine x_aload_n C 0 dX12_serve_82 rfl rfl ?_
        refine x_aload_n C 0 dX12_serve_83 rfl rfl ?_
        refine x_getr C ok_Model 42 8 (d := 45) dX12_serve_84 (lt67 hn rfl) rfl (by decide) rfl q_4_3 rfl (kz := 8) rfl (lr_42_8 hLR) ?_
        refine x_aload_n C 0 dX12_serve_87 rfl rfl ?_
        refine x_geti C ok_Model 42 7 dX12_serve_88 (lt67 hn rfl) rfl (by decide) rfl q_40_4 rfl (kz := 7) rfl (fun rg88 => ?_)
        refine x_iload_n C 2 dX12_serve_91 rfl rfl ?_
        refine x_runU (r_callS C (ce_X12_takesOut) (m_X12_takesOut G n V2 R (45) (64) (V2 42 7) (gv) hn hLR (by first | assumption | omega | decide) (by first | assumption | omega | decide)) dX12_serve_92 q_44_21 q_44_22 rfl rfl ⟨Nat.le_of_ble_eq_true rfl, Nat.le_of_ble_eq_true rfl⟩ ⟨rfl, rfl⟩ ⟨Nat.le_of_ble_eq_true rfl, Nat.le_of_ble_eq_true rfl⟩ (Nat.le_of_ble_eq_true rfl)) (fun v92 u92 hp92 => ?_)
        obtain ⟨V5, rfl, rfl, hF5, ht5⟩ := hp92
        show Xw K G 0 0 _ n V5 R 95 [(0, .ref (aG G 42)), (1, .int (iI w)), (2, .int (iI gv)), (3, .int (iI lf)), (4, .int (iI (popc w)))] [.int (iI (leftK gv (V2 42 7))), .ref (aG G 42)]
        have hl5 := leftK_b (w := gv) (k := V2 42 7) (by omega)
        refine x_puti C ok_Model 42 7 dX12_serve_95 (lt67 hn rfl) rfl (by decide) rfl q_40_4 rfl rfl (Or.inl rfl) (by first | assumption | (constructor <;> omega)) (kz := 7) rfl ?_
        have e429V5 : V5 42 9 = V 42 9 := by rw [hF5 42 (by decide), e42V2]
        refine x_aload_n C 0 dX12_serve_98 rfl rfl ?_
        refine x_aload_n C 0 dX12_serve_99 rfl rfl ?_
        refine x_getr C ok_Model 42 10 (d := 46) dX12_serve_100 (lt67 hn rfl) rfl (by decide) rfl q_4_4 rfl (kz := 10) rfl (lr_42_10 hLR) ?_
        refine x_aload_n C 0 dX12_serve_103 rfl rfl ?_
        refine x_geti C ok_Model 42 9 dX12_serve_104 (lt67 hn rfl) rfl (by decide) rfl q_41_4 rfl (kz := 9) rfl (fun rg104 => ?_)
        refine x_top (b := (V5 42 9)) (by first | rfl | (simp only [u2_at]; simp) | (simp only [u2_at]; first | (rw [if_neg (by omega)]) | omega)) ?_
        refine x_iload_n C 1 dX12_serve_107 rfl rfl ?_
        refine x_runU (r_callS C (ce_X12_takesOut) (m_X12_takesOut G n (u2 V5 42 7 (leftK gv (V2 42 7))) R (46) (24) (V5 42 9) (w) hn hLR (by first | assumption | omega | decide) (by rw [e429V5]; omega)) dX12_serve_108 q_44_21 q_44_22 rfl rfl ⟨Nat.le_of_ble_eq_true rfl, Nat.le_of_ble_eq_true rfl⟩ ⟨rfl, rfl⟩ ⟨Nat.le_of_ble_eq_true rfl, Nat.le_of_ble_eq_true rfl⟩ (Nat.le_of_ble_eq_true rfl)) (fun v108 u108 hp108 => ?_)
        obtain ⟨V6, rfl, rfl, hF6, ht6⟩ := hp108
        show Xw K G 0 0 _ n V6 R 111 [(0, .ref (aG G 42)), (1, .int (iI w)), (2, .int (iI gv)), (3, .int (iI lf)), (4, .int (iI (popc w)))] [.int (iI (leftK w (V5 42 9))), .ref (aG G 42)]
        have hl6 := leftK_b (w := w) (k := V5 42 9) (by omega)
        refine x_puti C ok_Model 42 9 dX12_serve_111 (lt67 hn rfl) rfl (by decide) rfl q_41_4 rfl rfl (Or.inl rfl) (by first | assumption | (constructor <;> omega)) (kz := 9) rfl ?_
        refine x_iload C 4 dX12_serve_114 rfl ?_
        refine x_iret C dX12_serve_116 ⟨_, _, rfl, rfl, ?_⟩
        · exact servP_i h_w (show V 42 9 = o by omega) hFV2 hgv ht5 ht6 hF5 hF6
      · skip
        refine x_iload_n C 1 dX12_serve_25 rfl rfl ?_
        refine x_iload C 4 dX12_serve_26 rfl ?_
        refine x_ishr C dX12_serve_28 ?_
        refine x_iconst C dX12_serve_29 ?_
        refine x_iand C dX12_serve_30 ?_
        refine x_iconst C dX12_serve_31 ?_
        refine x_icmp_ne C dX12_serve_32 (tgt := 70) (by decide) (by first | exact zAnd_rg _ _ | (constructor <;> omega)) (by first | exact zAnd_rg _ _ | (constructor <;> omega)) (fun h32 => ?_) (fun h32 => ?_)
        · skip
          refine x_iinc C 4 dX12_serve_70 rfl (by decide) (lv' := [(0, .ref (aG G 42)), (1, .int (iI w)), (2, .int (iI gv)), (3, .int (iI lf)), (4, .int (iI (o + 1)))]) rfl ?_
          refine x_goto C dX12_serve_73 (tgt := 16) (by decide) ?_
          exact ih16 (gv) (lf) ((o + 1)) (V2) (by omega) (by first | exact sv_y1 ho.1 h32 hgv hlst | exact sv_n1 ho.1 h32 hgv) (by first | exact sv_y2 ho.1 h32 hlf0 | exact sv_n2 ho.1 h32 hlf0) (by first | exact hFV4 | exact hFV2) (by first | exact sv_y3 ho.1 h32 hlst hp4A hav3 hA4 | exact sv_n3 ho.1 h32 hav) (by omega)
        · skip
          refine x_iload_n C 3 dX12_serve_35 rfl rfl ?_
          refine x_iconst C dX12_serve_36 ?_
          refine x_iload C 4 dX12_serve_37 rfl ?_
          refine x_ishl C dX12_serve_39 ?_
          refine x_ixor C dX12_serve_40 ?_
          refine x_istore_n C dX12_serve_41 rfl (by decide) (lv' := [(0, .ref (aG G 42)), (1, .int (iI w)), (2, .int (iI gv)), (3, .int (iI (zXor lf (zShl 1 o)))), (4, .int (iI o))]) rfl ?_
          have hlf : zXor lf (zShl 1 o) = zXor (svI (V 42 7) (V 42 9) (meetP (V 45) (V 46)) w o).2.1 (zShl 1 o) := by rw [hlf0]
          obtain ⟨bb, hbb0, hbbN, hbbg⟩ := sv_ex hcs hno ho.1 (by omega) h32
          have hbnd : ∀ b, (∀ c, 0 ≤ c → c < b → ¬ giveP (V 42 7) (V 42 9) (svI (V 42 7) (V 42 9) (meetP (V 45) (V 46)) w o).2.2 (meetP (V 45) (V 46)) (inS (zXor (svI (V 42 7) (V 42 9) (meetP (V 45) (V 46)) w o).2.1 (zShl 1 o))) o c) → b < V 42 7 := fun b h => by rcases (show b < V 42 7 ∨ V 42 7 ≤ b by omega) with q | q; exact q; exact absurd hbbg (h bb hbb0 (by omega))
          refine x_iconst C dX12_serve_42 ?_
          refine x_istore C dX12_serve_43 (by decide) (lv' := [(0, .ref (aG G 42)), (1, .int (iI w)), (2, .int (iI gv)), (3, .int (iI (zXor lf (zShl 1 o)))), (4, .int (iI o)), (5, .int (iI 0))]) rfl ?_
          have lp_45 : ∀ (fuel : Nat) (b : Int) (V3 : Nat → Int → Int), (0 ≤ b) → (FrG V V3) → (∀ c, 0 ≤ c → c < V 42 7 → (-1 ≤ V3 56 c ↔ (svI (V 42 7) (V 42 9) (meetP (V 45) (V 46)) w o).2.2 c)) → (∀ c, 0 ≤ c → c < b → ¬ giveP (V 42 7) (V 42 9) (svI (V 42 7) (V 42 9) (meetP (V 45) (V 46)) w o).2.2 (meetP (V 45) (V 46)) (inS (zXor (svI (V 42 7) (V 42 9) (meetP (V 45) (V 46)) w o).2.1 (zShl 1 o))) o c) → (V 42 7 - b) < (fuel : Int) → Xw K G 0 0 (EndQ K G 0 0 (fun vv uu => ∃ (r : Int), ∃ (V1 : Nat → Int → Int), vv = some (.int (iI r)) ∧ uu = (n, V1, R) ∧ (servP V V1 r))) n V3 R 45 [(0, .ref (aG G 42)), (1, .int (iI w)), (2, .int (iI gv)), (3, .int (iI (zXor lf (zShl 1 o)))), (4, .int (iI o)), (5, .int (iI b))] [] := by
            intro fuel45
            induction fuel45 with
            | zero => intro b V3 hb0 hFV3 hav3 hnot hfu45; exfalso; have := hbnd b hnot; omega
            | succ fuel45 ih45 =>
              intro b V3 hb0 hFV3 hav3 hnot hfu45
              have e42V3 : V3 42 = V 42 := hFV3 42 (by decide) (by decide)
              have e45V3 : V3 45 = V 45 := hFV3 45 (by decide) (by decide)
              have e46V3 : V3 46 = V 46 := hFV3 46 (by decide) (by decide)
              have e427V3 : V3 42 7 = V 42 7 := by rw [e42V3]
              have e429V3 : V3 42 9 = V 42 9 := by rw [e42V3]
              have hbN := hbnd b hnot
              refine x_aload_n C 0 dX12_serve_45 rfl rfl ?_
              refine x_iload C 5 dX12_serve_46 rfl ?_
              refine x_iload C 4 dX12_serve_48 rfl ?_
              refine x_iload_n C 3 dX12_serve_50 rfl rfl ?_
              refine x_runU (r_callV C ok_Model 42 (lt67 hn rfl) rfl (ce_X12_mayGive) (m_X12_mayGive G n V3 R (b) (o) (zXor lf (zShl 1 o)) hn hLR (by rw [e42V3]; exact hnb) (by rw [e42V3]; exact hno) (by rw [e42V3]; omega) (by rw [e42V3]; omega)) rfl dX12_serve_51 q_44_16 q_44_17 q_44_18 rfl rfl ⟨Nat.le_of_ble_eq_true rfl, Nat.le_of_ble_eq_true rfl⟩ ⟨rfl, rfl⟩ ⟨Nat.le_of_ble_eq_true rfl, Nat.le_of_ble_eq_true rfl⟩ (Nat.le_of_ble_eq_true rfl)) (fun v51 u51 hp51 => ?_)
              obtain ⟨pr, V4, rfl, rfl, hF4, hp4, hA4⟩ := hp51
              show Xw K G 0 0 _ n V4 R 54 [(0, .ref (aG G 42)), (1, .int (iI w)), (2, .int (iI gv)), (3, .int (iI (zXor lf (zShl 1 o)))), (4, .int (iI o)), (5, .int (iI b))] [.int (iI (bI (pr)))]
              have hFV4 : FrG V V4 := hFV3.tr hF4
              rw [e42V3, e45V3, e46V3] at hp4
              rw [e42V3] at hA4
              rw [hlf] at hp4
              rw [giveP_c (b := b) (A := fun c => -1 ≤ V3 56 c) (A' := (svI (V 42 7) (V 42 9) (meetP (V 45) (V 46)) w o).2.2) ⟨hb0, hbN⟩ hav3] at hp4
              refine x_ifne_b C dX12_serve_54 (tgt := 63) (by decide) (fun h54 => ?_) (fun h54 => ?_)
              · skip
                have hlst : b = lstP (giveP (V 42 7) (V 42 9) (svI (V 42 7) (V 42 9) (meetP (V 45) (V 46)) w o).2.2 (meetP (V 45) (V 46)) (inS (zXor (svI (V 42 7) (V 42 9) (meetP (V 45) (V 46)) w o).2.1 (zShl 1 o))) o) := lstP_i hb0 (hp4.mp h54) hnot
                have hp4A := h54
                refine x_iload_n C 2 dX12_serve_63 rfl rfl ?_
                refine x_iconst C dX12_serve_64 ?_
                refine x_iload C 5 dX12_serve_65 rfl ?_
                refine x_ishl C dX12_serve_67 ?_
                refine x_ior C dX12_serve_68 ?_
                refine x_istore_n C dX12_serve_69 rfl (by decide) (lv' := [(0, .ref (aG G 42)), (1, .int (iI w)), (2, .int (iI (zOr gv (zShl 1 b)))), (3, .int (iI (zXor lf (zShl 1 o)))), (4, .int (iI o)), (5, .int (iI b))]) rfl ?_
                refine x_iinc C 4 dX12_serve_70 rfl (by decide) (lv' := [(0, .ref (aG G 42)), (1, .int (iI w)), (2, .int (iI (zOr gv (zShl 1 b)))), (3, .int (iI (zXor lf (zShl 1 o)))), (4, .int (iI (o + 1))), (5, .int (iI b))]) rfl ?_
                refine x_goto C dX12_serve_73 (tgt := 16) (by decide) ?_
                refine x_sub [0, 1, 2, 3, 4] (lv' := [(0, .ref (aG G 42)), (1, .int (iI w)), (2, .int (iI (zOr gv (zShl 1 b)))), (3, .int (iI (zXor lf (zShl 1 o)))), (4, .int (iI (o + 1)))]) rfl ?_
                exact ih16 ((zOr gv (zShl 1 b))) ((zXor lf (zShl 1 o))) ((o + 1)) (V4) (by omega) (by first | exact sv_y1 ho.1 h32 hgv hlst | exact sv_n1 ho.1 h32 hgv) (by first | exact sv_y2 ho.1 h32 hlf0 | exact sv_n2 ho.1 h32 hlf0) (by first | exact hFV4 | exact hFV2) (by first | exact sv_y3 ho.1 h32 hlst hp4A hav3 hA4 | exact sv_n3 ho.1 h32 hav) (by omega)
              · skip
                refine x_iinc C 5 dX12_serve_57 rfl (by decide) (lv' := [(0, .ref (aG G 42)), (1, .int (iI w)), (2, .int (iI gv)), (3, .int (iI (zXor lf (zShl 1 o)))), (4, .int (iI o)), (5, .int (iI (b + 1)))]) rfl ?_
                refine x_goto C dX12_serve_60 (tgt := 45) (by decide) ?_
                exact ih45 ((b + 1)) (V4) (by omega) (by exact hFV4) (by exact fun c a d => (hA4 c a d).trans ⟨fun q => (hav3 c a d).mp q.1, fun q => ⟨(hav3 c a d).mpr q, fun z => absurd z h54⟩⟩) (by exact ext_lt hnot (fun z => h54 (hp4.mpr z))) (by omega)
          exact lp_45 ((V 42 7 - 0).toNat + 1) (0) (V2) (by omega) (by exact hFV2) (by exact hav) (by exact fun c a b => by omega) (by omega)
  exact lp_16 ((V 42 9 - 0).toNat + 1) (0) (w) (0) (Vb) (by omega) (by rfl) (by rfl) (by exact hFVb) (by exact fun c a b => ⟨fun _ => trivial, fun _ => by rw [hmb c a (by omega)]; decide⟩) (by omega)
