/-! System.arraycopy of ints, of longs -/
/-- cell b with k numbers of cell a from sp copied to dp -/
def cpy (V : Nat → Int → Int) (a b : Nat) (sp dp k : Int) : Nat → Int → Int := uC V b (fun z => if dp ≤ z ∧ z < dp + k then V a (sp + (z - dp)) else V b z)
theorem cpy_n {V : Nat → Int → Int} {a b c : Nat} {sp dp k : Int} (h : c ≠ b) : cpy V a b sp dp k c = V c := uC_n h
theorem cpy_s {V : Nat → Int → Int} {a b : Nat} {sp dp k z : Int} : cpy V a b sp dp k b z = if dp ≤ z ∧ z < dp + k then V a (sp + (z - dp)) else V b z := by unfold cpy; rw [uC_s]
section XA
variable {K : XS} {G : GS} {cells slots : Nat} {Q : State → Prop} {n : Nat} {V : Nat → Int → Int} {R : Nat → Int → Option Nat} {cc : ByteArray} {own : String} {nL : Nat} {ret : Option FieldType} {rm : Room} {pc : Nat} {lv lv' : List (Nat × Value)} {st : List Value} {ix : Nat}
abbrev injJ (f : Nat → Int64) : (Nat → Int32) ⊕ (Nat → Int64) ⊕ (Nat → UInt32) ⊕ (Nat → UInt64) ⊕ (Nat → Option Nat) := .inr (.inl f)
theorem x_acpi (C : Cx K G cc own nL ret rm) (a b : Nat) {N M : Nat} {sp dp k : Int} (hd : decode cc pc = .ok (.invokestatic ix, 3)) (hac : a < n) (hbc : b < n) (hta : tb a = (20, N)) (htb : tb b = (20, M)) (h1 : 0 ≤ sp ∧ 0 ≤ dp ∧ 0 ≤ k ∧ sp + k ≤ N ∧ dp + k ≤ M) (hw : Cond.methodLink own ix arraycopyName ∈ BW) (hnat : Cond.native arraycopyName ∈ BW) (hsta : Cond.static arraycopyName ∈ BW) (hini : Cond.initialized "java/lang/System" ∈ BW) (hfr : 1 ≤ rm.frames) (hlo : (st.map fun v => v.category).sum + (nativeFrameWords "java/lang/System" "arraycopy" 5 + 11) ≤ rm.locals)
    (kk : Xw K G cells slots Q n (cpy V a b sp dp k) R (pc + 3) lv st) : Xw K G cells slots Q n V R pc lv (.int (iI k) :: .int (iI dp) :: .ref (aG G b) :: .int (iI sp) :: .ref (aG G a) :: st) := by
  obtain ⟨p, e, Rm, s, m, args, below, meth, co⟩ := K
  obtain ⟨l, b0, D, Y⟩ := G
  obtain ⟨⟨hx, hb, hml, ho, hts⟩, hlk, hkx, hret, hRm⟩ := C
  subst hRm
  intro H locs ls g hs hl
  have hN : N ≤ 2000 := by have := tb_len a; rw [hta] at this; exact this
  have hM : M ≤ 2000 := by have := tb_len b; rw [htb] at this; exact this
  have rs : Rg sp := ⟨by omega, by omega⟩
  have rd : Rg dp := ⟨by omega, by omega⟩
  have rk : Rg k := ⟨by omega, by omega⟩
  have g1 : ¬ iI sp < 0 := by rw [iI_0, iI_lt rs ⟨by omega, by omega⟩]; omega
  have g2 : ¬ iI dp < 0 := by rw [iI_0, iI_lt rd ⟨by omega, by omega⟩]; omega
  have g3 : ¬ iI k < 0 := by rw [iI_0, iI_lt rk ⟨by omega, by omega⟩]; omega
  have c1 : (iI sp).toNatClampNeg = sp.toNat := iI_cl rs
  have c2 : (iI dp).toNatClampNeg = dp.toNat := iI_cl rd
  have c3 : (iI k).toNatClampNeg = k.toNat := iI_cl rk
  have g4 : (iI sp).toNatClampNeg + (iI k).toNatClampNeg ≤ N := by rw [c1, c3]; omega
  have g5 : (iI dp).toNatClampNeg + (iI k).toNatClampNeg ≤ M := by rw [c2, c3]; omega
  intro T hT X
  have hc0 : H[b0 + a]? = some (vp_cell (Y 0) (N, .inl (fun j => iI (V a j)))) := by have := g.2.1 a hac; rw [hta] at this; exact this
  have hc1 : H[b0 + b]? = some (vp_cell (Y 0) (M, .inl (fun j => iI (V b j)))) := by have := g.2.1 b hbc; rw [htb] at this; exact this
  obtain ⟨-, k0, hk0, cm0, hkk0⟩ := (hkx.k.2 0 _ rfl).1 N (fun j => .int (iI (V a j)))
  obtain ⟨-, k1, hk1, cm1, hkk1⟩ := (hkx.k.2 0 _ rfl).1 M (fun j => .int (iI (V b j)))
  obtain ⟨vm', X', step⟩ := X.arraycopy hx ho (hts _ hw) (hts _ hnat) (hts _ hsta) (hts _ hini) (src := b0 + a) (dst := b0 + b) (cs := vp_cell (Y 0) (N, .inl (fun j => iI (V a j)))) (cd := vp_cell (Y 0) (M, .inl (fun j => iI (V b j)))) (srcPos := iI sp) (destPos := iI dp) (n := iI k) (by rw [hT]; exact hc0) (by rw [hT]; exact hc1)
    (fun _ h => by cases h) (fun _ h => by cases h) (fun h => by cases h) (fun h => by cases h) hk0 hk1 hkk0 hkk1 (by simp [refKind]) g1 g2 g3
    (by rw [iI_toInt rs, iI_toInt rk]; show ¬ _ > ((arrV (Y 0) N (fun j => .int (iI (V a j)))).slots.size : Int); rw [arrV_size]; omega)
    (by rw [iI_toInt rd, iI_toInt rk]; show ¬ _ > ((arrV (Y 0) M (fun j => .int (iI (V b j)))).slots.size : Int); rw [arrV_size]; omega)
    (fun vm₁ _ i hi => by
      have e : (vp_cell (Y 0) (N, .inl (fun j => iI (V a j)))).slots.getD ((iI sp).toNatClampNeg + i) .null = .int (iI (V a ((iI sp).toNatClampNeg + i : Nat))) := by
        show (arrV (Y 0) N (fun j => .int (iI (V a j)))).slots.getD _ _ = _
        rw [Array.getD_eq_getD_getElem?, arrV_read _ _ (by omega)]
        rfl
      refine ⟨?_, ?_⟩
      · rw [e]; rfl
      · rw [e]; exact trivial)
    (g := F0 m pc ls (.int (iI k) :: .int (iI dp) :: .ref (b0 + b) :: .int (iI sp) :: .ref (b0 + a) :: st)) rfl hl.1 (rest := st) rfl (by rw [hb]; exact hd) hfr (by show 2 * 0 + _ + _ ≤ _; omega)
  have e1 : copied (vp_cell (Y 0) (N, .inl (fun j => iI (V a j)))) (vp_cell (Y 0) (M, .inl (fun j => iI (V b j)))) (iI sp) (iI dp) (iI k) = vp_cell (Y 0) (M, .inl (va_cpy (fun j : Nat => iI (V a j)) (fun j : Nat => iI (V b j)) (iI sp).toNatClampNeg (iI dp).toNatClampNeg (iI k).toNatClampNeg)) := va_copied (fun z => .int z) (Y 0) (Y 0) (fun j : Nat => iI (V a j)) (fun j : Nat => iI (V b j)) g4
  rw [e1] at X' step
  have e2 : va_cpy (fun j : Nat => iI (V a j)) (fun j : Nat => iI (V b j)) (iI sp).toNatClampNeg (iI dp).toNatClampNeg (iI k).toNatClampNeg = fun j : Nat => iI (cpy V a b sp dp k b j) := by
    funext j
    rw [c1, c2, c3, cpy_s]
    unfold va_cpy
    by_cases q : dp ≤ (j : Int) ∧ (j : Int) < dp + k
    · rw [if_pos q, if_pos (by omega)]
      show iI (V a ((sp.toNat + (j - dp.toNat) : Nat) : Int)) = _
      rw [show ((sp.toNat + (j - dp.toNat) : Nat) : Int) = sp + (j - dp) by omega]
    · rw [if_neg q, if_neg (by omega)]
  rw [e2] at X' step
  have hlt : b0 + b < H.size := (Array.getElem?_eq_some_iff.mp hc1).1
  have hheap : ((T.setVm vm').setCell (b0 + b) (vp_cell (Y 0) (M, .inl (fun j : Nat => iI (cpy V a b sp dp k b j))))).heap = H.setIfInBounds (b0 + b) (vp_cell (Y 0) (M, .inl (fun j : Nat => iI (cpy V a b sp dp k b j)))) := by rw [← hT]; rfl
  have oq : ∀ q : Nat, q ≠ b0 + b → (H.setIfInBounds (b0 + b) (vp_cell (Y 0) (M, .inl (fun j : Nat => iI (cpy V a b sp dp k b j)))))[q]? = H[q]? := fun q hq => by simp [Array.getElem?_setIfInBounds, Ne.symm hq]
  have hrV : RgV (cpy V a b sp dp k) := by
    intro c z
    by_cases q : c = b
    · subst q
      rw [cpy_s]
      have ra := g.2.2 a (sp + (z - dp))
      have rb := g.2.2 c z
      rw [hta] at ra
      rw [htb] at rb ⊢
      split
      · exact ra
      · exact rb
    · rw [cpy_n q]; exact g.2.2 c z
  have hG2 : GW b0 D Y n (cpy V a b sp dp k) R (H.setIfInBounds (b0 + b) (vp_cell (Y 0) (M, .inl (fun j : Nat => iI (cpy V a b sp dp k b j))))) := by
    refine g.upd b ?_ (fun d h => cpy_n h) (fun _ _ => rfl) (by simp) oq hrV
    rw [htb]
    show _ = some _
    rw [Array.getElem?_setIfInBounds, if_pos rfl, if_pos hlt]
  obtain ⟨t, a1, b1⟩ := kk (H.setIfInBounds (b0 + b) (vp_cell (Y 0) (M, .inl (fun j : Nat => iI (cpy V a b sp dp k b j))))) _ ls hG2 ⟨by simp; exact hs.1, fun q p1 p2 => by
      rw [oq q (fun e => p2 (by rw [e]; exact aA_in))]
      exact hs.2.1 q p1 p2, fun q hq => by
      rcases List.mem_append.mp hq with h | h
      · exact hs.2.2 q h
      · obtain ⟨z, -, hz⟩ := List.mem_map.mp h
        rw [← hz]
        exact aA_in⟩ hl _ hheap X'
  exact ⟨t, step t a1, b1⟩
theorem x_acpl (C : Cx K G cc own nL ret rm) (a b : Nat) {N M : Nat} {sp dp k : Int} (hd : decode cc pc = .ok (.invokestatic ix, 3)) (hac : a < n) (hbc : b < n) (hta : tb a = (21, N)) (htb : tb b = (21, M)) (h1 : 0 ≤ sp ∧ 0 ≤ dp ∧ 0 ≤ k ∧ sp + k ≤ N ∧ dp + k ≤ M) (hw : Cond.methodLink own ix arraycopyName ∈ BW) (hnat : Cond.native arraycopyName ∈ BW) (hsta : Cond.static arraycopyName ∈ BW) (hini : Cond.initialized "java/lang/System" ∈ BW) (hfr : 1 ≤ rm.frames) (hlo : (st.map fun v => v.category).sum + (nativeFrameWords "java/lang/System" "arraycopy" 5 + 11) ≤ rm.locals)
    (kk : Xw K G cells slots Q n (cpy V a b sp dp k) R (pc + 3) lv st) : Xw K G cells slots Q n V R pc lv (.int (iI k) :: .int (iI dp) :: .ref (aG G b) :: .int (iI sp) :: .ref (aG G a) :: st) := by
  obtain ⟨p, e, Rm, s, m, args, below, meth, co⟩ := K
  obtain ⟨l, b0, D, Y⟩ := G
  obtain ⟨⟨hx, hb, hml, ho, hts⟩, hlk, hkx, hret, hRm⟩ := C
  subst hRm
  intro H locs ls g hs hl
  have hN : N ≤ 2000 := by have := tb_len a; rw [hta] at this; exact this
  have hM : M ≤ 2000 := by have := tb_len b; rw [htb] at this; exact this
  have rs : Rg sp := ⟨by omega, by omega⟩
  have rd : Rg dp := ⟨by omega, by omega⟩
  have rk : Rg k := ⟨by omega, by omega⟩
  have g1 : ¬ iI sp < 0 := by rw [iI_0, iI_lt rs ⟨by omega, by omega⟩]; omega
  have g2 : ¬ iI dp < 0 := by rw [iI_0, iI_lt rd ⟨by omega, by omega⟩]; omega
  have g3 : ¬ iI k < 0 := by rw [iI_0, iI_lt rk ⟨by omega, by omega⟩]; omega
  have c1 : (iI sp).toNatClampNeg = sp.toNat := iI_cl rs
  have c2 : (iI dp).toNatClampNeg = dp.toNat := iI_cl rd
  have c3 : (iI k).toNatClampNeg = k.toNat := iI_cl rk
  have g4 : (iI sp).toNatClampNeg + (iI k).toNatClampNeg ≤ N := by rw [c1, c3]; omega
  have g5 : (iI dp).toNatClampNeg + (iI k).toNatClampNeg ≤ M := by rw [c2, c3]; omega
  intro T hT X
  have hc0 : H[b0 + a]? = some (vp_cell (Y 1) (N, injJ (fun j => jI (V a j)))) := by have := g.2.1 a hac; rw [hta] at this; exact this
  have hc1 : H[b0 + b]? = some (vp_cell (Y 1) (M, injJ (fun j => jI (V b j)))) := by have := g.2.1 b hbc; rw [htb] at this; exact this
  obtain ⟨-, k0, hk0, cm0, hkk0⟩ := (hkx.k.2 1 _ rfl).1 N (fun j => .long (jI (V a j)))
  obtain ⟨-, k1, hk1, cm1, hkk1⟩ := (hkx.k.2 1 _ rfl).1 M (fun j => .long (jI (V b j)))
  obtain ⟨vm', X', step⟩ := X.arraycopy hx ho (hts _ hw) (hts _ hnat) (hts _ hsta) (hts _ hini) (src := b0 + a) (dst := b0 + b) (cs := vp_cell (Y 1) (N, injJ (fun j => jI (V a j)))) (cd := vp_cell (Y 1) (M, injJ (fun j => jI (V b j)))) (srcPos := iI sp) (destPos := iI dp) (n := iI k) (by rw [hT]; exact hc0) (by rw [hT]; exact hc1)
    (fun _ h => by cases h) (fun _ h => by cases h) (fun h => by cases h) (fun h => by cases h) hk0 hk1 hkk0 hkk1 (by simp [refKind]) g1 g2 g3
    (by rw [iI_toInt rs, iI_toInt rk]; show ¬ _ > ((arrV (Y 1) N (fun j => .long (jI (V a j)))).slots.size : Int); rw [arrV_size]; omega)
    (by rw [iI_toInt rd, iI_toInt rk]; show ¬ _ > ((arrV (Y 1) M (fun j => .long (jI (V b j)))).slots.size : Int); rw [arrV_size]; omega)
    (fun vm₁ _ i hi => by
      have e : (vp_cell (Y 1) (N, injJ (fun j => jI (V a j)))).slots.getD ((iI sp).toNatClampNeg + i) .null = .long (jI (V a ((iI sp).toNatClampNeg + i : Nat))) := by
        show (arrV (Y 1) N (fun j => .long (jI (V a j)))).slots.getD _ _ = _
        rw [Array.getD_eq_getD_getElem?, arrV_read _ _ (by omega)]
        rfl
      refine ⟨?_, ?_⟩
      · rw [e]; rfl
      · rw [e]; exact trivial)
    (g := F0 m pc ls (.int (iI k) :: .int (iI dp) :: .ref (b0 + b) :: .int (iI sp) :: .ref (b0 + a) :: st)) rfl hl.1 (rest := st) rfl (by rw [hb]; exact hd) hfr (by show 2 * 0 + _ + _ ≤ _; omega)
  have e1 : copied (vp_cell (Y 1) (N, injJ (fun j => jI (V a j)))) (vp_cell (Y 1) (M, injJ (fun j => jI (V b j)))) (iI sp) (iI dp) (iI k) = vp_cell (Y 1) (M, injJ (va_cpy (fun j : Nat => jI (V a j)) (fun j : Nat => jI (V b j)) (iI sp).toNatClampNeg (iI dp).toNatClampNeg (iI k).toNatClampNeg)) := va_copied (fun z => .long z) (Y 1) (Y 1) (fun j : Nat => jI (V a j)) (fun j : Nat => jI (V b j)) g4
  rw [e1] at X' step
  have e2 : va_cpy (fun j : Nat => jI (V a j)) (fun j : Nat => jI (V b j)) (iI sp).toNatClampNeg (iI dp).toNatClampNeg (iI k).toNatClampNeg = fun j : Nat => jI (cpy V a b sp dp k b j) := by
    funext j
    rw [c1, c2, c3, cpy_s]
    unfold va_cpy
    by_cases q : dp ≤ (j : Int) ∧ (j : Int) < dp + k
    · rw [if_pos q, if_pos (by omega)]
      show jI (V a ((sp.toNat + (j - dp.toNat) : Nat) : Int)) = _
      rw [show ((sp.toNat + (j - dp.toNat) : Nat) : Int) = sp + (j - dp) by omega]
    · rw [if_neg q, if_neg (by omega)]
  rw [e2] at X' step
  have hlt : b0 + b < H.size := (Array.getElem?_eq_some_iff.mp hc1).1
  have hheap : ((T.setVm vm').setCell (b0 + b) (vp_cell (Y 1) (M, injJ (fun j : Nat => jI (cpy V a b sp dp k b j))))).heap = H.setIfInBounds (b0 + b) (vp_cell (Y 1) (M, injJ (fun j : Nat => jI (cpy V a b sp dp k b j)))) := by rw [← hT]; rfl
  have oq : ∀ q : Nat, q ≠ b0 + b → (H.setIfInBounds (b0 + b) (vp_cell (Y 1) (M, injJ (fun j : Nat => jI (cpy V a b sp dp k b j)))))[q]? = H[q]? := fun q hq => by simp [Array.getElem?_setIfInBounds, Ne.symm hq]
  have hrV : RgV (cpy V a b sp dp k) := by
    intro c z
    by_cases q : c = b
    · subst q
      rw [cpy_s]
      have ra := g.2.2 a (sp + (z - dp))
      have rb := g.2.2 c z
      rw [hta] at ra
      rw [htb] at rb ⊢
      split
      · exact ra
      · exact rb
    · rw [cpy_n q]; exact g.2.2 c z
  have hG2 : GW b0 D Y n (cpy V a b sp dp k) R (H.setIfInBounds (b0 + b) (vp_cell (Y 1) (M, injJ (fun j : Nat => jI (cpy V a b sp dp k b j))))) := by
    refine g.upd b ?_ (fun d h => cpy_n h) (fun _ _ => rfl) (by simp) oq hrV
    rw [htb]
    show _ = some _
    rw [Array.getElem?_setIfInBounds, if_pos rfl, if_pos hlt]
  obtain ⟨t, a1, b1⟩ := kk (H.setIfInBounds (b0 + b) (vp_cell (Y 1) (M, injJ (fun j : Nat => jI (cpy V a b sp dp k b j))))) _ ls hG2 ⟨by simp; exact hs.1, fun q p1 p2 => by
      rw [oq q (fun e => p2 (by rw [e]; exact aA_in))]
      exact hs.2.1 q p1 p2, fun q hq => by
      rcases List.mem_append.mp hq with h | h
      · exact hs.2.2 q h
      · obtain ⟨z, -, hz⟩ := List.mem_map.mp h
        rw [← hz]
        exact aA_in⟩ hl _ hheap X'
  exact ⟨t, step t a1, b1⟩
end XA
