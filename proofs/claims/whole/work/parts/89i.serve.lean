/-! serving: the class's way is the model's -/
theorem and_bit {x c : Int} (h : 0 ≤ c ∧ c < 32) : zAnd x (zShl 1 c) ≠ 0 ↔ inS x c := by
  constructor
  · intro q
    refine Classical.byContradiction fun z => q (inS_x (zAnd_rg _ _) ⟨by decide, by decide⟩ fun o a b => ?_)
    rw [inS_and ⟨a, b⟩, inS_shl h ⟨a, b⟩]
    exact ⟨fun w => absurd (w.2 ▸ w.1) z, fun w => absurd w (inS_0 ⟨a, b⟩)⟩
  · intro q e
    have : inS (zAnd x (zShl 1 c)) c := by
      rw [inS_and h, inS_shl h h]; exact ⟨q, rfl⟩
    rw [e] at this
    exact inS_0 h this
theorem out_bit {x k : Int} (h : 0 ≤ k ∧ k < 32) (hx : inS x k) : zAnd x (zXor (zShl 1 k) (-1)) = zXor x (zShl 1 k) := inS_x (zAnd_rg _ _) (zXor_rg _ _) fun o a b => by
  rw [inS_and ⟨a, b⟩, inS_not ⟨a, b⟩, inS_xor ⟨a, b⟩, inS_shl h ⟨a, b⟩]
  by_cases e : o = k
  · subst e
    exact ⟨fun q => absurd rfl q.2, fun q => absurd ⟨fun _ => rfl, fun _ => hx⟩ q⟩
  · exact ⟨fun q w => e (w.mp q.1), fun q => ⟨Classical.byContradiction fun w => q ⟨fun y => absurd y w, fun y => absurd y e⟩, e⟩⟩
theorem CanP.a {N M : Int} {A A' : Int → Prop} {mt : Int → Int → Prop} {S : Int → Prop} (h : ∀ b, 0 ≤ b → b < N → (A b ↔ A' b)) : CanP N M A mt S ↔ CanP N M A' mt S := ⟨fun q => q.c (fun b x y => (h b x y).mp) (fun _ _ q => q) (fun _ _ _ q => q), fun q => q.c (fun b x y => (h b x y).mpr) (fun _ _ q => q) (fun _ _ _ q => q)⟩
theorem sv_eq {M : Int → Int} {n m : Nat} {om : Int} {mt : Int → Int → Prop} (hM : MaskP M n m mt) (hn : n ≤ 16) (hm : m ≤ 6) (hom : 0 ≤ om ∧ om ≤ 63) (hoM : ∀ o : Nat, m ≤ o → o < 32 → ¬ inS om (o : Int)) (hc : CanP n m (fun _ => True) mt (inS om)) : ∀ k : Nat, k ≤ m → (svCN M om (zShl 1 n - 1) k).1 = (svN n m mt om k).2.1 ∧ (0 ≤ (svCN M om (zShl 1 n - 1) k).1 ∧ (svCN M om (zShl 1 n - 1) k).1 ≤ 63) ∧ (∀ o : Nat, m ≤ o → o < 32 → ¬ inS (svCN M om (zShl 1 n - 1) k).1 (o : Int)) ∧ (∀ c : Int, 0 ≤ c → c < n → ((svN n m mt om k).2.2 c ↔ inS (svCN M om (zShl 1 n - 1) k).2 c)) ∧ (∀ c : Int, 0 ≤ c → c < n → (inS (svN n m mt om k).1 c ↔ ¬ inS (svCN M om (zShl 1 n - 1) k).2 c))
  | 0, _ => ⟨rfl, hom, hoM, fun c a b => ⟨fun _ => (inS_ones ⟨by omega, by omega⟩ ⟨a, by omega⟩).mpr b, fun _ => trivial⟩, fun c a b => ⟨fun q => absurd q (inS_0 ⟨a, by omega⟩), fun q => absurd ((inS_ones ⟨by omega, by omega⟩ ⟨a, by omega⟩).mpr b) q⟩⟩
  | k + 1, hk => by
    obtain ⟨i1, i2, i3, i4, i5⟩ := sv_eq hM hn hm hom hoM hc k (by omega)
    by_cases hs : inS om (k : Int)
    · have s1 : svCN M om (zShl 1 n - 1) (k + 1) = (zAnd (svCN M om (zShl 1 n - 1) k).1 (zXor (zShl 1 (k : Int)) (-1)), zAnd (svCN M om (zShl 1 n - 1) k).2 (zXor (bfC M (k : Int) (zAnd (svCN M om (zShl 1 n - 1) k).1 (zXor (zShl 1 (k : Int)) (-1))) (svCN M om (zShl 1 n - 1) k).2) (-1))) := cif_t hs
      have s2 : svN n m mt om (k + 1) = (zOr (svN n m mt om k).1 (zShl 1 (lstP (giveP n m (svN n m mt om k).2.2 mt (inS (zXor (svN n m mt om k).2.1 (zShl 1 (k : Int)))) (k : Int)))), zXor (svN n m mt om k).2.1 (zShl 1 (k : Int)), fun c => (svN n m mt om k).2.2 c ∧ c ≠ lstP (giveP n m (svN n m mt om k).2.2 mt (inS (zXor (svN n m mt om k).2.1 (zShl 1 (k : Int)))) (k : Int))) := cif_t hs
      obtain ⟨j1, j2⟩ := sv_inv (by omega) hc k (by omega)
      have hx : inS (svCN M om (zShl 1 n - 1) k).1 (k : Int) := by rw [i1]; exact (j1 k (by omega) (by omega)).mpr ⟨hs, Int.le_refl _⟩
      have e1 : zAnd (svCN M om (zShl 1 n - 1) k).1 (zXor (zShl 1 (k : Int)) (-1)) = zXor (svN n m mt om k).2.1 (zShl 1 (k : Int)) := by rw [out_bit ⟨by omega, by omega⟩ hx, i1]
      have b1 := zAnd_63 (b := zXor (zShl 1 (k : Int)) (-1)) i2
      have b2 : ∀ o : Nat, m ≤ o → o < 32 → ¬ inS (zAnd (svCN M om (zShl 1 n - 1) k).1 (zXor (zShl 1 (k : Int)) (-1))) (o : Int) := fun o a b c => by
        rw [inS_and ⟨by omega, by omega⟩] at c
        exact i3 o a b c.1
      obtain ⟨b0, c1, c2, c3⟩ := sv_ex (N := n) (M := m) (o := (k : Int)) hc ⟨by omega, by omega⟩ (by omega) (by omega) hs
      have c3' : giveP n m (svN n m mt om k).2.2 mt (inS (zXor (svN n m mt om k).2.1 (zShl 1 (k : Int)))) (k : Int) b0 := c3
      obtain ⟨b', d1, d2, d3, d4⟩ := lst_ex (b0.toNat + 1) b0 c1 (by omega) c3'
      have e2 := lstP_i d1 d3 d4
      have cond : ∀ c : Int, 0 ≤ c → c < 16 → ((zAnd (zAnd (M (k : Int)) (svCN M om (zShl 1 n - 1) k).2) (zShl 1 c) ≠ 0 ∧ HallQ M (zAnd (svCN M om (zShl 1 n - 1) k).1 (zXor (zShl 1 (k : Int)) (-1))) (zAnd (svCN M om (zShl 1 n - 1) k).2 (zXor (zShl 1 c) (-1)))) ↔ (c < n ∧ giveP n m (svN n m mt om k).2.2 mt (inS (zXor (svN n m mt om k).2.1 (zShl 1 (k : Int)))) (k : Int) c)) := fun c a b => by
        rw [and_bit ⟨a, by omega⟩, inS_and ⟨a, by omega⟩, (hM (k : Int) (by omega) (by omega)).2 c a (by omega), hallQ_iff hM hn hm b1 b2, e1]
        have q : CanP n m (inS (zAnd (svCN M om (zShl 1 n - 1) k).2 (zXor (zShl 1 c) (-1)))) mt (inS (zXor (svN n m mt om k).2.1 (zShl 1 (k : Int)))) ↔ CanP n m (fun d => (svN n m mt om k).2.2 d ∧ d ≠ c) mt (inS (zXor (svN n m mt om k).2.1 (zShl 1 (k : Int)))) := CanP.a fun d x y => by
          rw [inS_and ⟨x, by omega⟩, inS_not ⟨x, by omega⟩, inS_shl ⟨a, by omega⟩ ⟨x, by omega⟩, i4 d x y]
        rw [q]
        constructor
        · rintro ⟨⟨⟨x, y⟩, z⟩, w⟩
          exact ⟨x, (i4 c a x).mpr z, y, w⟩
        · rintro ⟨x, y, z, w⟩
          exact ⟨⟨⟨x, z⟩, (i4 c a x).mp y⟩, w⟩
      have bf : bfC M (k : Int) (zAnd (svCN M om (zShl 1 n - 1) k).1 (zXor (zShl 1 (k : Int)) (-1))) (svCN M om (zShl 1 n - 1) k).2 = zShl 1 b' := bf_u (Or.inl ⟨b', d1, by omega, rfl, (cond b' d1 (by omega)).mpr ⟨by omega, d3⟩, fun c x y z => d4 c x y ((cond c x (by omega)).mp z).2⟩)
      rw [s1, s2, bf, ← e2]
      refine ⟨e1, b1, b2, fun c a b => ?_, fun c a b => ?_⟩
      · show (svN n m mt om k).2.2 c ∧ c ≠ b' ↔ inS (zAnd (svCN M om (zShl 1 n - 1) k).2 (zXor (zShl 1 b') (-1))) c
        rw [inS_and ⟨a, by omega⟩, inS_not ⟨a, by omega⟩, inS_shl ⟨d1, by omega⟩ ⟨a, by omega⟩, i4 c a b]
      · show inS (zOr (svN n m mt om k).1 (zShl 1 b')) c ↔ ¬ inS (zAnd (svCN M om (zShl 1 n - 1) k).2 (zXor (zShl 1 b') (-1))) c
        rw [inS_or ⟨a, by omega⟩, inS_and ⟨a, by omega⟩, inS_not ⟨a, by omega⟩, inS_shl ⟨d1, by omega⟩ ⟨a, by omega⟩, i5 c a b]
        constructor
        · rintro (x | x) ⟨y, z⟩
          · exact x y
          · exact z x
        · intro x
          by_cases y : c = b'
          · exact Or.inr y
          · exact Or.inl fun z => x ⟨z, y⟩
    · have s1 : svCN M om (zShl 1 n - 1) (k + 1) = svCN M om (zShl 1 n - 1) k := cif_f hs
      have s2 : svN n m mt om (k + 1) = svN n m mt om k := cif_f hs
      rw [s1, s2]
      exact ⟨i1, i2, i3, i4, i5⟩
theorem svC_end {M : Int → Int} {om bs : Int} {m : Nat} (hoM : ∀ o : Nat, m ≤ o → o < 32 → ¬ inS om (o : Int)) : ∀ j : Nat, m + j ≤ 6 → svCN M om bs (m + j) = svCN M om bs m
  | 0, _ => rfl
  | j + 1, h => by
    have e : svCN M om bs (m + (j + 1)) = svCN M om bs (m + j) := cif_f (hoM (m + j) (by omega) (by omega))
    rw [e]
    exact svC_end hoM j (by omega)
/-- the boards that stay are those that aren't given -/
theorem serve_bs {M : Int → Int} {N Mo om : Int} {mt : Int → Int → Prop} (hM : MaskP M N Mo mt) (hN : 0 ≤ N ∧ N ≤ 16) (hMo : 0 ≤ Mo ∧ Mo ≤ 6) (hom : 0 ≤ om ∧ om ≤ 63) (hoM : ∀ o : Nat, Mo ≤ o → o < 32 → ¬ inS om (o : Int)) (hc : CanP N Mo (fun _ => True) mt (inS om)) : ∀ c : Int, 0 ≤ c → c < N → (inS (svC M om (zShl 1 N - 1) 6).2 c ↔ ¬ inS (svI N Mo mt om Mo).1 c) := by
  obtain ⟨n, rfl⟩ : ∃ j : Nat, N = j := ⟨N.toNat, by omega⟩
  obtain ⟨m, rfl⟩ : ∃ j : Nat, Mo = j := ⟨Mo.toNat, by omega⟩
  have h0 : ∀ o : Nat, m ≤ o → o < 32 → ¬ inS om (o : Int) := fun o a b => hoM o (by omega) b
  have h := (sv_eq hM (by omega) (by omega) hom h0 hc m (Nat.le_refl m)).2.2.2.2
  have e : svC M om (zShl 1 (n : Int) - 1) 6 = svCN M om (zShl 1 (n : Int) - 1) m := by
    have := svC_end (M := M) (bs := zShl 1 (n : Int) - 1) h0 (6 - m) (by omega)
    rw [show m + (6 - m) = 6 by omega] at this
    exact this
  intro c a b
  rw [e]
  have h2 := h c a b
  have e2 : (svI (n : Int) (m : Int) mt om (m : Int)).1 = (svN n m mt om m).1 := rfl
  rw [e2, h2]
  exact ⟨fun q z => z q, fun q => Classical.byContradiction q⟩
theorem kept_left {b w k : Int} (h : ∀ i, 0 ≤ i → i < k → (inS b i ↔ ¬ inS w i)) : keptK b k = leftK w k := sm_c fun i a c => bI_c ((h i a c).trans (bit01 w i).symm)
/-- each row left was one of those kept -/
theorem left_sur {w : Int} : ∀ (k : Nat) (i : Int), 0 ≤ i → i < leftK w k → ∃ z : Int, 0 ≤ z ∧ z < k ∧ zAnd (zShr w z) 1 = 0 ∧ leftK w z = i
  | 0, i, a, b => by
    have e : leftK w ((0 : Nat) : Int) = 0 := rfl
    omega
  | k + 1, i, a, b => by
    have e : (((k + 1 : Nat)) : Int) = (k : Int) + 1 := by omega
    rw [e, leftK_s (by omega)] at b
    by_cases q : i < leftK w k
    · obtain ⟨z, z1, z2, z3, z4⟩ := left_sur k i a q
      exact ⟨z, z1, by omega, z3, z4⟩
    · by_cases t : zAnd (zShr w (k : Int)) 1 = 0
      · rw [bI_t t] at b
        exact ⟨(k : Int), by omega, by omega, t, by omega⟩
      · rw [bI_f t] at b
        omega
