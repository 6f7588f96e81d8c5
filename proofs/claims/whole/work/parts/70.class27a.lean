theorem kb_dig {v : Int} (h : (48 ≤ v ∧ v ≤ 57) ∨ v = 32 ∨ v = 10) : ¬ 0 ≤ kbT v := by
  unfold kbT
  (repeat' split) <;> omega
theorem skS_bl {T : Int → Int} {n : Int} : ∀ (k : Nat) (p : Int), (n - p).toNat ≤ k → ∀ z, p ≤ z → z < skS T n p → blankT T z
  | 0, p, hk => fun z a b => by
    have e : ¬ (p < n ∧ blankT T p) := fun q => by have := q.1; omega
    rw [skS_n e] at b; omega
  | k + 1, p, hk => fun z a b => by
    by_cases e : p < n ∧ blankT T p
    · rw [skS_y e] at b
      by_cases w : z = p
      · rw [w]; exact e.2
      · exact skS_bl k (p + 1) (by have := e.1; omega) z (by omega) b
    · rw [skS_n e] at b; omega
theorem itE_inv {T : Int → Int} {n p : Int} (hp : 0 ≤ p) (h : itE T n p = -1) : (p < n ∧ 0 ≤ kbT (T p)) ∧ (p + 1 < n ∧ 48 ≤ T (p + 1) ∧ T (p + 1) ≤ 55) ∧ (p + 2 < n ∧ 48 ≤ T (p + 2) ∧ T (p + 2) ≤ 55) ∧ (p + 3 < n ∧ 49 ≤ T (p + 3) ∧ T (p + 3) ≤ 52) := by
  by_cases h0 : p < n ∧ 0 ≤ kbT (T p)
  · by_cases h1 : p + 1 < n ∧ 48 ≤ T (p + 1) ∧ T (p + 1) ≤ 55
    · by_cases h2 : p + 2 < n ∧ 48 ≤ T (p + 2) ∧ T (p + 2) ≤ 55
      · by_cases h3 : p + 3 < n ∧ 49 ≤ T (p + 3) ∧ T (p + 3) ≤ 52
        · exact ⟨h0, h1, h2, h3⟩
        · rw [itE_3 h0 h1 h2 h3] at h; omega
      · rw [itE_2 h0 h1 h2] at h; omega
    · rw [itE_1 h0 h1] at h; omega
  · rw [itE_0 h0] at h; omega
theorem itE_b {T : Int → Int} {n p : Int} (hp : 0 ≤ p ∧ p ≤ n) : -1 ≤ itE T n p ∧ itE T n p ≤ n := by
  by_cases h0 : p < n ∧ 0 ≤ kbT (T p)
  · by_cases h1 : p + 1 < n ∧ 48 ≤ T (p + 1) ∧ T (p + 1) ≤ 55
    · by_cases h2 : p + 2 < n ∧ 48 ≤ T (p + 2) ∧ T (p + 2) ≤ 55
      · by_cases h3 : p + 3 < n ∧ 49 ≤ T (p + 3) ∧ T (p + 3) ≤ 52
        · rw [itE_ok h0 h1 h2 h3]; omega
        · rw [itE_3 h0 h1 h2 h3]; omega
      · rw [itE_2 h0 h1 h2]; omega
    · rw [itE_1 h0 h1]; omega
  · rw [itE_0 h0]; omega
theorem prs_bN {T : Int → Int} {n : Int} : ∀ (k : Nat) (p : Int), (n - p).toNat ≤ k → 0 ≤ p → p ≤ n → -1 ≤ (prs T n p).2 ∧ (prs T n p).2 ≤ n
  | k, p, hk, h0, hn => by
    by_cases e : itE T n p = -1
    · by_cases w : skS T n (p + 4) < n
      · have hb := skS_b (T := T) (n := n) _ (p + 4) (Nat.le_refl _)
        rw [prs_s e w]
        cases k with
        | zero => omega
        | succ k => exact prs_bN k (skS T n (p + 4)) (by omega) (by omega) (by omega)
      · rw [prs_l e w]; show -1 ≤ (-1 : Int) ∧ (-1 : Int) ≤ n; omega
    · rw [prs_e e]; exact itE_b ⟨h0, hn⟩
theorem prs_b {T : Int → Int} {n : Int} (hn : 0 ≤ n) : -1 ≤ (prs T n (skS T n 0)).2 ∧ (prs T n (skS T n 0)).2 ≤ n := by
  have hb := skS_b (T := T) (n := n) _ 0 (Nat.le_refl _)
  exact prs_bN _ (skS T n 0) (Nat.le_refl _) (by omega) (hb.2.1 hn)
def okL (T : Int → Int) (n a : Int) : Prop := ∀ z, a ≤ z → z < n → 0 ≤ kbT (T z) → z + 3 < n ∧ (48 ≤ T (z + 1) ∧ T (z + 1) ≤ 55) ∧ (48 ≤ T (z + 2) ∧ T (z + 2) ≤ 55) ∧ (49 ≤ T (z + 3) ∧ T (z + 3) ≤ 52)
theorem lts_prs {T : Int → Int} {n : Int} : ∀ (k : Nat) (p : Int), (n - p).toNat ≤ k → 0 ≤ p → p ≤ n → (prs T n p).2 = -1 → lts T p n = (prs T n p).1 ∧ okL T n p
  | k, p, hk, h0, hn, h => by
    by_cases e : itE T n p = -1
    · obtain ⟨c0, c1, c2, c3⟩ := itE_inv h0 e
      have hb := skS_b (T := T) (n := n) _ (p + 4) (Nat.le_refl _)
      have hbl := skS_bl (T := T) (n := n) _ (p + 4) (Nat.le_refl _)
      have l4 : lts T p (p + 4) = [p] := by
        rw [lts_app (b := p + 1) (by omega) (by omega), lts_none (a := p + 1) (fun z a b q => by
          rcases (show z = p + 1 ∨ z = p + 2 ∨ z = p + 3 by omega) with w | w | w <;> rw [w] at q
          · exact kb_dig (Or.inl ⟨c1.2.1, by omega⟩) q
          · exact kb_dig (Or.inl ⟨c2.2.1, by omega⟩) q
          · exact kb_dig (Or.inl ⟨by omega, by omega⟩) q), List.append_nil]
        unfold lts
        rw [show (p + 1 - p).toNat = 1 by omega]
        show [] ++ (if 0 ≤ kbT (T (p + ((0 : Nat) : Int))) then [p + ((0 : Nat) : Int)] else []) = [p]
        rw [show p + ((0 : Nat) : Int) = p by omega, if_pos c0.2]; rfl
      have ok4 : ∀ z, p ≤ z → z < p + 4 → 0 ≤ kbT (T z) → z + 3 < n ∧ (48 ≤ T (z + 1) ∧ T (z + 1) ≤ 55) ∧ (48 ≤ T (z + 2) ∧ T (z + 2) ≤ 55) ∧ (49 ≤ T (z + 3) ∧ T (z + 3) ≤ 52) := fun z a b q => by
        rcases (show z = p ∨ z = p + 1 ∨ z = p + 2 ∨ z = p + 3 by omega) with w | w | w | w <;> rw [w] at q ⊢
        · exact ⟨by omega, c1.2, c2.2, c3.2⟩
        · exact absurd q (kb_dig (Or.inl ⟨c1.2.1, by omega⟩))
        · exact absurd q (kb_dig (Or.inl ⟨c2.2.1, by omega⟩))
        · exact absurd q (kb_dig (Or.inl ⟨by omega, by omega⟩))
      by_cases w : skS T n (p + 4) < n
      · rw [prs_s e w] at h ⊢
        have ih : lts T (skS T n (p + 4)) n = (prs T n (skS T n (p + 4))).1 ∧ okL T n (skS T n (p + 4)) := by
          cases k with
          | zero => omega
          | succ k => exact lts_prs k (skS T n (p + 4)) (by omega) (by omega) (by omega) h
        refine ⟨?_, fun z a b q => ?_⟩
        · rw [lts_app (b := p + 4) (by omega) (by omega), l4, lts_app (b := skS T n (p + 4)) hb.1 (by omega), lts_none (fun z a b q => kb_dig (Or.inr (hbl z a b)) q), ih.1]; rfl
        · by_cases w1 : z < p + 4
          · exact ok4 z a w1 q
          · by_cases w2 : z < skS T n (p + 4)
            · exact absurd q (kb_dig (Or.inr (hbl z (by omega) w2)))
            · exact ih.2 z (by omega) b q
      · have e2 : skS T n (p + 4) = n := by have := hb.2.1 (by omega); omega
        rw [prs_l e w]
        refine ⟨?_, fun z a b q => ?_⟩
        · rw [lts_app (b := p + 4) (by omega) (by omega), l4, lts_none (fun z a b q => kb_dig (Or.inr (hbl z a (by omega))) q)]; rfl
        · by_cases w1 : z < p + 4
          · exact ok4 z a w1 q
          · exact absurd q (kb_dig (Or.inr (hbl z (by omega) (by omega))))
    · rw [prs_e e] at h; exact absurd h e
theorem lts_0 {T : Int → Int} {n : Int} (hn : 0 ≤ n) (h : (prs T n (skS T n 0)).2 = -1) : lts T 0 n = (prs T n (skS T n 0)).1 ∧ okL T n 0 := by
  have hb := skS_b (T := T) (n := n) _ 0 (Nat.le_refl _)
  have hbl := skS_bl (T := T) (n := n) _ 0 (Nat.le_refl _)
  obtain ⟨h1, h2⟩ := lts_prs (T := T) (n := n) _ (skS T n 0) (Nat.le_refl _) (by omega) (hb.2.1 hn) h
  refine ⟨?_, fun z a b q => ?_⟩
  · rw [lts_app (b := skS T n 0) hb.1 (hb.2.1 hn), lts_none (fun z a b q => kb_dig (Or.inr (hbl z a b)) q), h1]; rfl
  · by_cases w2 : z < skS T n 0
    · exact absurd q (kb_dig (Or.inr (hbl z a w2)))
    · exact h2 z (by omega) b q
theorem lts_prs0 {T : Int → Int} {n : Int} {P : Prop} (hn : 0 ≤ n) (_ : P) (h : (prs T n (skS T n 0)).2 = -1) : lts T 0 n = (prs T n (skS T n 0)).1 := (lts_0 hn h).1
theorem lts_good {T : Int → Int} {n : Int} {P : Prop} (hn : 0 ≤ n) (_ : P) (h : (prs T n (skS T n 0)).2 = -1) : ∀ z, 0 ≤ z → z < n → 0 ≤ kbT (T z) → z + 3 < n ∧ (48 ≤ T (z + 1) ∧ T (z + 1) ≤ 55) ∧ (48 ≤ T (z + 2) ∧ T (z + 2) ≤ 55) ∧ (49 ≤ T (z + 3) ∧ T (z + 3) ≤ 52) := (lts_0 hn h).2
theorem ltsN_len {T : Int → Int} {p : Int} : ∀ k : Nat, (ltsN T p k).length ≤ k
  | 0 => Nat.le_refl _
  | k + 1 => by
    show (ltsN T p k ++ (if 0 ≤ kbT (T (p + k)) then [p + (k : Int)] else [])).length ≤ k + 1
    have h := ltsN_len (T := T) (p := p) k
    rw [List.length_append]
    split
    · show _ + 1 ≤ _; omega
    · show _ + 0 ≤ _; omega
theorem lts_len {T : Int → Int} {n : Int} (h : 0 ≤ n ∧ n ≤ 40) : ((lts T 0 n).length : Int) ≤ 40 := by
  have := ltsN_len (T := T) (p := 0) (n - 0).toNat
  unfold lts
  omega
theorem ro_fr {n n1 : Nat} {V V2 : Nat → Int → Int} {R2 : Nat → Int → Option Nat} {D : List Int} (h : ∀ q : Int, 0 ≤ q → q < (D.length : Int) → ∃ c, R2 2 (V 1 5 + q) = some c ∧ n ≤ c ∧ c < n1 ∧ V2 c 3 = kbT (V 36 (lat D q)) ∧ V2 c 0 = V 36 (lat D q + 1) - 48 ∧ V2 c 1 = V 36 (lat D q + 2) - 48 ∧ V2 c 2 = V 36 (lat D q + 3) - 48) (h67 : 67 ≤ n) : ∀ q : Int, 0 ≤ q → q < (D.length : Int) → ∃ c, R2 2 (V 1 5 + q) = some c ∧ n ≤ c ∧ c < n1 ∧ u2 V2 11 0 0 c 3 = kbT (V 36 (lat D q)) ∧ u2 V2 11 0 0 c 0 = V 36 (lat D q + 1) - 48 ∧ u2 V2 11 0 0 c 1 = V 36 (lat D q + 2) - 48 ∧ u2 V2 11 0 0 c 2 = V 36 (lat D q + 3) - 48 := by
  intro q a b
  obtain ⟨c, g1, g2, g3, g4⟩ := h q a b
  refine ⟨c, g1, g2, g3, ?_⟩
  rw [u2_n (by omega)]
  exact g4

