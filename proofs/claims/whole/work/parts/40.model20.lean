theorem kbT_b {v : Int} : -1 ≤ kbT v ∧ kbT v ≤ 6 := by unfold kbT; repeat' split <;> omega
/-- where the item at p goes wrong, or -1 -/
noncomputable def itE (T : Int → Int) (n p : Int) : Int := cif (¬ (p < n ∧ 0 ≤ kbT (T p))) p (cif (¬ (p + 1 < n ∧ 48 ≤ T (p + 1) ∧ T (p + 1) ≤ 55)) (p + 1) (cif (¬ (p + 2 < n ∧ 48 ≤ T (p + 2) ∧ T (p + 2) ≤ 55)) (p + 2) (cif (¬ (p + 3 < n ∧ 49 ≤ T (p + 3) ∧ T (p + 3) ≤ 52)) (p + 3) (-1))))
theorem itE_ok {T : Int → Int} {n p : Int} (h0 : p < n ∧ 0 ≤ kbT (T p)) (h1 : p + 1 < n ∧ 48 ≤ T (p + 1) ∧ T (p + 1) ≤ 55) (h2 : p + 2 < n ∧ 48 ≤ T (p + 2) ∧ T (p + 2) ≤ 55) (h3 : p + 3 < n ∧ 49 ≤ T (p + 3) ∧ T (p + 3) ≤ 52) : itE T n p = -1 := by
  unfold itE
  rw [cif_f (fun q => q h0), cif_f (fun q => q h1), cif_f (fun q => q h2), cif_f (fun q => q h3)]
theorem itE_0 {T : Int → Int} {n p : Int} (h0 : ¬ (p < n ∧ 0 ≤ kbT (T p))) : itE T n p = p := by
  unfold itE
  rw [cif_t h0]
theorem itE_1 {T : Int → Int} {n p : Int} (h0 : p < n ∧ 0 ≤ kbT (T p)) (h1 : ¬ (p + 1 < n ∧ 48 ≤ T (p + 1) ∧ T (p + 1) ≤ 55)) : itE T n p = p + 1 := by
  unfold itE
  rw [cif_f (fun q => q h0), cif_t h1]
theorem itE_2 {T : Int → Int} {n p : Int} (h0 : p < n ∧ 0 ≤ kbT (T p)) (h1 : p + 1 < n ∧ 48 ≤ T (p + 1) ∧ T (p + 1) ≤ 55) (h2 : ¬ (p + 2 < n ∧ 48 ≤ T (p + 2) ∧ T (p + 2) ≤ 55)) : itE T n p = p + 2 := by
  unfold itE
  rw [cif_f (fun q => q h0), cif_f (fun q => q h1), cif_t h2]
theorem itE_3 {T : Int → Int} {n p : Int} (h0 : p < n ∧ 0 ≤ kbT (T p)) (h1 : p + 1 < n ∧ 48 ≤ T (p + 1) ∧ T (p + 1) ≤ 55) (h2 : p + 2 < n ∧ 48 ≤ T (p + 2) ∧ T (p + 2) ≤ 55) (h3 : ¬ (p + 3 < n ∧ 49 ≤ T (p + 3) ∧ T (p + 3) ≤ 52)) : itE T n p = p + 3 := by
  unfold itE
  rw [cif_f (fun q => q h0), cif_f (fun q => q h1), cif_f (fun q => q h2), cif_t h3]
/-- the items from p on: their places; the place of the error or -1 -/
noncomputable def prsN (T : Int → Int) (n : Int) : Nat → Int → List Int × Int
  | 0, p => ([], p)
  | f + 1, p => cif (itE T n p = -1) (cif (skS T n (p + 4) < n) (p :: (prsN T n f (skS T n (p + 4))).1, (prsN T n f (skS T n (p + 4))).2) ([p], -1)) ([], itE T n p)
theorem prsN_m {T : Int → Int} {n : Int} : ∀ (f g : Nat) (p : Int), n - p < f → n - p < g → p ≤ n → prsN T n f p = prsN T n g p
  | 0, _, p, h, _, h2 => by omega
  | f + 1, 0, p, _, h, h2 => by omega
  | f + 1, g + 1, p, h1, h2, h3 => by
    show cif _ (cif _ _ _) _ = cif _ (cif _ _ _) _
    by_cases e : itE T n p = -1
    · rw [cif_t e, cif_t e]
      by_cases e2 : skS T n (p + 4) < n
      · have hb := skS_b (T := T) (n := n) (n - (p + 4)).toNat (p + 4) (Nat.le_refl _)
        rw [cif_t e2, cif_t e2, prsN_m f g (skS T n (p + 4)) (by omega) (by omega) (by omega)]
      · rw [cif_f e2, cif_f e2]
    · rw [cif_f e, cif_f e]
noncomputable def prs (T : Int → Int) (n p : Int) : List Int × Int := prsN T n ((n - p).toNat + 1) p
theorem prs_e {T : Int → Int} {n p : Int} (h : itE T n p ≠ -1) : prs T n p = ([], itE T n p) := cif_f h
theorem prs_l {T : Int → Int} {n p : Int} (h : itE T n p = -1) (h2 : ¬ skS T n (p + 4) < n) : prs T n p = ([p], -1) := (cif_t h).trans (cif_f h2)
theorem prs_s {T : Int → Int} {n p : Int} (h : itE T n p = -1) (h2 : skS T n (p + 4) < n) : prs T n p = (p :: (prs T n (skS T n (p + 4))).1, (prs T n (skS T n (p + 4))).2) := by
  have hb := skS_b (T := T) (n := n) (n - (p + 4)).toNat (p + 4) (Nat.le_refl _)
  have e : prsN T n (n - p).toNat (skS T n (p + 4)) = prs T n (skS T n (p + 4)) := prsN_m _ _ _ (by omega) (by omega) (by omega)
  rw [← e]
  exact (cif_t h).trans (cif_t h2)
/-- a row of the items read -/
def rowT (T : Int → Int) (p : Int) (c : Int → Int) (i : Int) : Prop := c (4 * i) = kbT (T p) ∧ c (4 * i + 1) = T (p + 1) - 48 ∧ c (4 * i + 2) = T (p + 2) - 48 ∧ c (4 * i + 3) = T (p + 3) - 48
theorem rdF {V VA : Nat → Int → Int} {zz x : Int} (h : ∀ q z, q ≠ 49 → ¬ (q = 42 ∧ (z = 17 ∨ z = 18)) → VA q z = V q z) : ∀ q z, q ≠ 49 → ¬ (q = 42 ∧ (z = 17 ∨ z = 18)) → (u2 VA 49 zz x) q z = V q z := fun q i a b => by rw [u2_at, if_neg (fun q => a q.1)]; exact h q i a b
theorem rdF2 {V VA Vd : Nat → Int → Int} (h : ∀ q z, q ≠ 49 → ¬ (q = 42 ∧ (z = 17 ∨ z = 18)) → VA q z = V q z) (hf : ∀ q z, ¬ (q = 42 ∧ (z = 17 ∨ z = 18)) → Vd q z = VA q z) : ∀ q z, q ≠ 49 → ¬ (q = 42 ∧ (z = 17 ∨ z = 18)) → Vd q z = V q z := fun q i a b => (hf q i (fun w => b w)).trans (h q i a b)
theorem rdL {V2 VA : Nat → Int → Int} {k z x : Int} (h : ∀ q, q < 4 * k → VA 49 q = V2 49 q) (hz : 4 * k ≤ z) : ∀ q, q < 4 * k → (u2 VA 49 z x) 49 q = V2 49 q := fun q a => by rw [u2_at, if_neg (by omega)]; exact h q a
theorem rdL2 {V2 VA Vd : Nat → Int → Int} {k : Int} (h : ∀ q, q < 4 * k → VA 49 q = V2 49 q) (hf : ∀ q z, ¬ (q = 42 ∧ (z = 17 ∨ z = 18)) → Vd q z = VA q z) : ∀ q, q < 4 * k → Vd 49 q = V2 49 q := fun q a => (hf 49 q (by omega)).trans (h q a)
theorem rdI {V V2 : Nat → Int → Int} {c d zz x : Int} (h : ∀ q z, q ≠ 49 → ¬ (q = 42 ∧ (z = 17 ∨ z = 18)) → V2 q z = V q z) : ∀ q z, q ≠ 49 → ¬ (q = 42 ∧ (z = 17 ∨ z = 18)) → (u2 (u2 (u2 V2 42 18 c) 42 17 d) 49 zz x) q z = V q z := fun q i a b => by rw [u2_at, if_neg (fun q => a q.1), u2_at, if_neg (by omega), u2_at, if_neg (by omega)]; exact h q i a b
theorem rdIL {V2 : Nat → Int → Int} {k c d x : Int} : ∀ q, q < 4 * k → (u2 (u2 (u2 V2 42 18 c) 42 17 d) 49 (4 * k) x) 49 q = V2 49 q := fun q a => by rw [u2_at, if_neg (by omega), u2_at, if_neg (by omega), u2_at, if_neg (by omega)]
theorem rdA0 {V V2 : Nat → Int → Int} {k : Int} (e47 : V2 47 = V 47) (e12 : V2 42 12 = V 42 12) (h : 0 ≤ kbT (hereT (V2 47) (V2 42 12) (V2 42 17))) : ((u2 (u2 (u2 V2 42 18 0) 42 17 (V2 42 17 + 1)) 49 (4 * k) (kbT (hereT (V2 47) (V2 42 12) (V2 42 17)))) 42 18 = 0 ∧ (u2 (u2 (u2 V2 42 18 0) 42 17 (V2 42 17 + 1)) 49 (4 * k) (kbT (hereT (V2 47) (V2 42 12) (V2 42 17)))) 42 17 = V2 42 17 + 1 ∧ (V2 42 17 < V 42 12 ∧ 0 ≤ kbT (V 47 (V2 42 17))) ∧ (u2 (u2 (u2 V2 42 18 0) 42 17 (V2 42 17 + 1)) 49 (4 * k) (kbT (hereT (V2 47) (V2 42 12) (V2 42 17)))) 49 (4 * k) = kbT (V 47 (V2 42 17))) ∨ ((u2 (u2 (u2 V2 42 18 0) 42 17 (V2 42 17 + 1)) 49 (4 * k) (kbT (hereT (V2 47) (V2 42 12) (V2 42 17)))) 42 18 = 1 ∧ itE (V 47) (V 42 12) (V2 42 17) = (u2 (u2 (u2 V2 42 18 0) 42 17 (V2 42 17 + 1)) 49 (4 * k) (kbT (hereT (V2 47) (V2 42 12) (V2 42 17)))) 42 17 ∧ V2 42 17 ≤ (u2 (u2 (u2 V2 42 18 0) 42 17 (V2 42 17 + 1)) 49 (4 * k) (kbT (hereT (V2 47) (V2 42 12) (V2 42 17)))) 42 17 ∧ (u2 (u2 (u2 V2 42 18 0) 42 17 (V2 42 17 + 1)) 49 (4 * k) (kbT (hereT (V2 47) (V2 42 12) (V2 42 17)))) 42 17 ≤ V2 42 17 + 0) := by
  rw [e47, e12] at h
  have a : V2 42 17 < V 42 12 := hereT_lt (T := V 47) (fun q => by rw [q] at h; exact absurd h (by decide))
  rw [hereT_in a] at h
  refine Or.inl ⟨?_, ?_, ⟨a, by omega⟩, ?_⟩
  · rw [u2_at, if_neg (by omega), u2_at, if_neg (by omega), u2_at, if_pos (by omega)]
  · rw [u2_at, if_neg (by omega), u2_at, if_pos (by omega)]
  · rw [u2_s, u1_s, e47, e12, hereT_in a]
theorem rdA1 {V V2 : Nat → Int → Int} {k : Int} (e47 : V2 47 = V 47) (e12 : V2 42 12 = V 42 12) (hpn : V2 42 17 ≤ V 42 12) (h : kbT (hereT (V2 47) (V2 42 12) (V2 42 17)) < 0) : ((u2 (u2 (u2 V2 42 18 1) 42 17 (V2 42 17 + 0)) 49 (4 * k) (kbT (hereT (V2 47) (V2 42 12) (V2 42 17)))) 42 18 = 0 ∧ (u2 (u2 (u2 V2 42 18 1) 42 17 (V2 42 17 + 0)) 49 (4 * k) (kbT (hereT (V2 47) (V2 42 12) (V2 42 17)))) 42 17 = V2 42 17 + 1 ∧ (V2 42 17 < V 42 12 ∧ 0 ≤ kbT (V 47 (V2 42 17))) ∧ (u2 (u2 (u2 V2 42 18 1) 42 17 (V2 42 17 + 0)) 49 (4 * k) (kbT (hereT (V2 47) (V2 42 12) (V2 42 17)))) 49 (4 * k) = kbT (V 47 (V2 42 17))) ∨ ((u2 (u2 (u2 V2 42 18 1) 42 17 (V2 42 17 + 0)) 49 (4 * k) (kbT (hereT (V2 47) (V2 42 12) (V2 42 17)))) 42 18 = 1 ∧ itE (V 47) (V 42 12) (V2 42 17) = (u2 (u2 (u2 V2 42 18 1) 42 17 (V2 42 17 + 0)) 49 (4 * k) (kbT (hereT (V2 47) (V2 42 12) (V2 42 17)))) 42 17 ∧ V2 42 17 ≤ (u2 (u2 (u2 V2 42 18 1) 42 17 (V2 42 17 + 0)) 49 (4 * k) (kbT (hereT (V2 47) (V2 42 12) (V2 42 17)))) 42 17 ∧ (u2 (u2 (u2 V2 42 18 1) 42 17 (V2 42 17 + 0)) 49 (4 * k) (kbT (hereT (V2 47) (V2 42 12) (V2 42 17)))) 42 17 ≤ V2 42 17 + 0) := by
  rw [e47, e12] at h
  have a : itE (V 47) (V 42 12) (V2 42 17) = V2 42 17 := itE_0 (fun q => by rw [hereT_in q.1] at h; omega)
  have b : (u2 (u2 (u2 V2 42 18 1) 42 17 (V2 42 17 + 0)) 49 (4 * k) (kbT (hereT (V2 47) (V2 42 12) (V2 42 17)))) 42 17 = V2 42 17 := by rw [u2_at, if_neg (by omega), u2_at, if_pos (by omega)]; omega
  refine Or.inr ⟨?_, a.trans b.symm, Int.le_of_eq b.symm, by rw [b]; omega⟩
  rw [u2_at, if_neg (by omega), u2_at, if_neg (by omega), u2_at, if_pos (by omega)]
theorem rdG0 {V V2 VA Vd : Nat → Int → Int} {k : Int} (hG : (VA 42 18 = 0 ∧ VA 42 17 = V2 42 17 + 1 ∧ (V2 42 17 < V 42 12 ∧ 0 ≤ kbT (V 47 (V2 42 17))) ∧ VA 49 (4 * k) = kbT (V 47 (V2 42 17))) ∨ (VA 42 18 = 1 ∧ itE (V 47) (V 42 12) (V2 42 17) = VA 42 17 ∧ V2 42 17 ≤ VA 42 17 ∧ VA 42 17 ≤ V2 42 17 + 0)) (h0 : VA 42 18 = 0) (e47 : VA 47 = V 47) (e12 : VA 42 12 = V 42 12) (hd : ((VA 42 17 < VA 42 12 ∧ 48 ≤ VA 47 (VA 42 17) ∧ VA 47 (VA 42 17) ≤ 55) ∧ Vd 42 18 = 0 ∧ Vd 42 17 = VA 42 17 + 1) ∨ (¬ (VA 42 17 < VA 42 12 ∧ 48 ≤ VA 47 (VA 42 17) ∧ VA 47 (VA 42 17) ≤ 55) ∧ Vd 42 18 = 1 ∧ Vd 42 17 = VA 42 17)) (hf : ∀ q z, ¬ (q = 42 ∧ (z = 17 ∨ z = 18)) → Vd q z = VA q z) : ((u2 Vd 49 (4 * k + 1) (hereT (VA 47) (VA 42 12) (VA 42 17) - 48)) 42 18 = 0 ∧ (u2 Vd 49 (4 * k + 1) (hereT (VA 47) (VA 42 12) (VA 42 17) - 48)) 42 17 = V2 42 17 + 2 ∧ (V2 42 17 < V 42 12 ∧ 0 ≤ kbT (V 47 (V2 42 17))) ∧ (V2 42 17 + 1 < V 42 12 ∧ 48 ≤ V 47 (V2 42 17 + 1) ∧ V 47 (V2 42 17 + 1) ≤ 55) ∧ (u2 Vd 49 (4 * k + 1) (hereT (VA 47) (VA 42 12) (VA 42 17) - 48)) 49 (4 * k) = kbT (V 47 (V2 42 17)) ∧ (u2 Vd 49 (4 * k + 1) (hereT (VA 47) (VA 42 12) (VA 42 17) - 48)) 49 (4 * k + 1) = V 47 (V2 42 17 + 1) - 48) ∨ ((u2 Vd 49 (4 * k + 1) (hereT (VA 47) (VA 42 12) (VA 42 17) - 48)) 42 18 = 1 ∧ itE (V 47) (V 42 12) (V2 42 17) = (u2 Vd 49 (4 * k + 1) (hereT (VA 47) (VA 42 12) (VA 42 17) - 48)) 42 17 ∧ V2 42 17 ≤ (u2 Vd 49 (4 * k + 1) (hereT (VA 47) (VA 42 12) (VA 42 17) - 48)) 42 17 ∧ (u2 Vd 49 (4 * k + 1) (hereT (VA 47) (VA 42 12) (VA 42 17) - 48)) 42 17 ≤ V2 42 17 + 1) := by
  rcases hG with ⟨_, hp, ⟨a0, b0⟩, r0⟩ | ⟨q, _⟩
  · have f49 : ∀ z, Vd 49 z = VA 49 z := fun z => hf 49 z (by omega)
    rw [e47, e12, hp] at hd
    rw [e47, e12, hp]
    rcases hd with ⟨d, d18, d17⟩ | ⟨d, d18, d17⟩
    · refine Or.inl ⟨?_, ?_, ⟨a0, b0⟩, d, ?_, ?_⟩
      · rw [u2_at, if_neg (by omega)]; exact d18
      · rw [u2_at, if_neg (by omega)]; omega
      · rw [u2_at, if_neg (by omega), f49]; exact r0
      · rw [u2_s, u1_s, hereT_in d.1]
    · have a : itE (V 47) (V 42 12) (V2 42 17) = V2 42 17 + 1 := itE_1 ⟨a0, b0⟩  d
      have b : (u2 Vd 49 (4 * k + 1) (hereT (V 47) (V 42 12) (V2 42 17 + 1) - 48)) 42 17 = V2 42 17 + 1 := by rw [u2_at, if_neg (by omega)]; exact d17
      refine Or.inr ⟨?_, a.trans b.symm, by rw [b]; omega, by rw [b]; omega⟩
      rw [u2_at, if_neg (by omega)]; exact d18
  · omega
theorem rdB0 {V V2 VA : Nat → Int → Int} {k : Int} (hG : (VA 42 18 = 0 ∧ VA 42 17 = V2 42 17 + 1 ∧ (V2 42 17 < V 42 12 ∧ 0 ≤ kbT (V 47 (V2 42 17))) ∧ VA 49 (4 * k) = kbT (V 47 (V2 42 17))) ∨ (VA 42 18 = 1 ∧ itE (V 47) (V 42 12) (V2 42 17) = VA 42 17 ∧ V2 42 17 ≤ VA 42 17 ∧ VA 42 17 ≤ V2 42 17 + 0)) (h0 : ¬ VA 42 18 = 0) : ((u2 VA 49 (4 * k + 1) 0) 42 18 = 0 ∧ (u2 VA 49 (4 * k + 1) 0) 42 17 = V2 42 17 + 2 ∧ (V2 42 17 < V 42 12 ∧ 0 ≤ kbT (V 47 (V2 42 17))) ∧ (V2 42 17 + 1 < V 42 12 ∧ 48 ≤ V 47 (V2 42 17 + 1) ∧ V 47 (V2 42 17 + 1) ≤ 55) ∧ (u2 VA 49 (4 * k + 1) 0) 49 (4 * k) = kbT (V 47 (V2 42 17)) ∧ (u2 VA 49 (4 * k + 1) 0) 49 (4 * k + 1) = V 47 (V2 42 17 + 1) - 48) ∨ ((u2 VA 49 (4 * k + 1) 0) 42 18 = 1 ∧ itE (V 47) (V 42 12) (V2 42 17) = (u2 VA 49 (4 * k + 1) 0) 42 17 ∧ V2 42 17 ≤ (u2 VA 49 (4 * k + 1) 0) 42 17 ∧ (u2 VA 49 (4 * k + 1) 0) 42 17 ≤ V2 42 17 + 1) := by
  rcases hG with ⟨q, _⟩ | ⟨q, a, b, c⟩
  · exact absurd q h0
  · refine Or.inr ⟨?_, ?_, ?_, ?_⟩ <;> rw [u2_at, if_neg (by omega)] <;> omega
theorem rdG1 {V V2 VA Vd : Nat → Int → Int} {k : Int} (hG : (VA 42 18 = 0 ∧ VA 42 17 = V2 42 17 + 2 ∧ (V2 42 17 < V 42 12 ∧ 0 ≤ kbT (V 47 (V2 42 17))) ∧ (V2 42 17 + 1 < V 42 12 ∧ 48 ≤ V 47 (V2 42 17 + 1) ∧ V 47 (V2 42 17 + 1) ≤ 55) ∧ VA 49 (4 * k) = kbT (V 47 (V2 42 17)) ∧ VA 49 (4 * k + 1) = V 47 (V2 42 17 + 1) - 48) ∨ (VA 42 18 = 1 ∧ itE (V 47) (V 42 12) (V2 42 17) = VA 42 17 ∧ V2 42 17 ≤ VA 42 17 ∧ VA 42 17 ≤ V2 42 17 + 1)) (h0 : VA 42 18 = 0) (e47 : VA 47 = V 47) (e12 : VA 42 12 = V 42 12) (hd : ((VA 42 17 < VA 42 12 ∧ 48 ≤ VA 47 (VA 42 17) ∧ VA 47 (VA 42 17) ≤ 55) ∧ Vd 42 18 = 0 ∧ Vd 42 17 = VA 42 17 + 1) ∨ (¬ (VA 42 17 < VA 42 12 ∧ 48 ≤ VA 47 (VA 42 17) ∧ VA 47 (VA 42 17) ≤ 55) ∧ Vd 42 18 = 1 ∧ Vd 42 17 = VA 42 17)) (hf : ∀ q z, ¬ (q = 42 ∧ (z = 17 ∨ z = 18)) → Vd q z = VA q z) : ((u2 Vd 49 (4 * k + 2) (hereT (VA 47) (VA 42 12) (VA 42 17) - 48)) 42 18 = 0 ∧ (u2 Vd 49 (4 * k + 2) (hereT (VA 47) (VA 42 12) (VA 42 17) - 48)) 42 17 = V2 42 17 + 3 ∧ (V2 42 17 < V 42 12 ∧ 0 ≤ kbT (V 47 (V2 42 17))) ∧ (V2 42 17 + 1 < V 42 12 ∧ 48 ≤ V 47 (V2 42 17 + 1) ∧ V 47 (V2 42 17 + 1) ≤ 55) ∧ (V2 42 17 + 2 < V 42 12 ∧ 48 ≤ V 47 (V2 42 17 + 2) ∧ V 47 (V2 42 17 + 2) ≤ 55) ∧ (u2 Vd 49 (4 * k + 2) (hereT (VA 47) (VA 42 12) (VA 42 17) - 48)) 49 (4 * k) = kbT (V 47 (V2 42 17)) ∧ (u2 Vd 49 (4 * k + 2) (hereT (VA 47) (VA 42 12) (VA 42 17) - 48)) 49 (4 * k + 1) = V 47 (V2 42 17 + 1) - 48 ∧ (u2 Vd 49 (4 * k + 2) (hereT (VA 47) (VA 42 12) (VA 42 17) - 48)) 49 (4 * k + 2) = V 47 (V2 42 17 + 2) - 48) ∨ ((u2 Vd 49 (4 * k + 2) (hereT (VA 47) (VA 42 12) (VA 42 17) - 48)) 42 18 = 1 ∧ itE (V 47) (V 42 12) (V2 42 17) = (u2 Vd 49 (4 * k + 2) (hereT (VA 47) (VA 42 12) (VA 42 17) - 48)) 42 17 ∧ V2 42 17 ≤ (u2 Vd 49 (4 * k + 2) (hereT (VA 47) (VA 42 12) (VA 42 17) - 48)) 42 17 ∧ (u2 Vd 49 (4 * k + 2) (hereT (VA 47) (VA 42 12) (VA 42 17) - 48)) 42 17 ≤ V2 42 17 + 2) := by
  rcases hG with ⟨_, hp, ⟨a0, b0⟩, ⟨a1, b1, c1⟩, r0, r1⟩ | ⟨q, _⟩
  · have f49 : ∀ z, Vd 49 z = VA 49 z := fun z => hf 49 z (by omega)
    rw [e47, e12, hp] at hd
    rw [e47, e12, hp]
    rcases hd with ⟨d, d18, d17⟩ | ⟨d, d18, d17⟩
    · refine Or.inl ⟨?_, ?_, ⟨a0, b0⟩, ⟨a1, b1, c1⟩, d, ?_, ?_, ?_⟩
      · rw [u2_at, if_neg (by omega)]; exact d18
      · rw [u2_at, if_neg (by omega)]; omega
      · rw [u2_at, if_neg (by omega), f49]; exact r0
      · rw [u2_at, if_neg (by omega), f49]; exact r1
      · rw [u2_s, u1_s, hereT_in d.1]
    · have a : itE (V 47) (V 42 12) (V2 42 17) = V2 42 17 + 2 := itE_2 ⟨a0, b0⟩ ⟨a1, b1, c1⟩ d
      have b : (u2 Vd 49 (4 * k + 2) (hereT (V 47) (V 42 12) (V2 42 17 + 2) - 48)) 42 17 = V2 42 17 + 2 := by rw [u2_at, if_neg (by omega)]; exact d17
      refine Or.inr ⟨?_, a.trans b.symm, by rw [b]; omega, by rw [b]; omega⟩
      rw [u2_at, if_neg (by omega)]; exact d18
  · omega
theorem rdB1 {V V2 VA : Nat → Int → Int} {k : Int} (hG : (VA 42 18 = 0 ∧ VA 42 17 = V2 42 17 + 2 ∧ (V2 42 17 < V 42 12 ∧ 0 ≤ kbT (V 47 (V2 42 17))) ∧ (V2 42 17 + 1 < V 42 12 ∧ 48 ≤ V 47 (V2 42 17 + 1) ∧ V 47 (V2 42 17 + 1) ≤ 55) ∧ VA 49 (4 * k) = kbT (V 47 (V2 42 17)) ∧ VA 49 (4 * k + 1) = V 47 (V2 42 17 + 1) - 48) ∨ (VA 42 18 = 1 ∧ itE (V 47) (V 42 12) (V2 42 17) = VA 42 17 ∧ V2 42 17 ≤ VA 42 17 ∧ VA 42 17 ≤ V2 42 17 + 1)) (h0 : ¬ VA 42 18 = 0) : ((u2 VA 49 (4 * k + 2) 0) 42 18 = 0 ∧ (u2 VA 49 (4 * k + 2) 0) 42 17 = V2 42 17 + 3 ∧ (V2 42 17 < V 42 12 ∧ 0 ≤ kbT (V 47 (V2 42 17))) ∧ (V2 42 17 + 1 < V 42 12 ∧ 48 ≤ V 47 (V2 42 17 + 1) ∧ V 47 (V2 42 17 + 1) ≤ 55) ∧ (V2 42 17 + 2 < V 42 12 ∧ 48 ≤ V 47 (V2 42 17 + 2) ∧ V 47 (V2 42 17 + 2) ≤ 55) ∧ (u2 VA 49 (4 * k + 2) 0) 49 (4 * k) = kbT (V 47 (V2 42 17)) ∧ (u2 VA 49 (4 * k + 2) 0) 49 (4 * k + 1) = V 47 (V2 42 17 + 1) - 48 ∧ (u2 VA 49 (4 * k + 2) 0) 49 (4 * k + 2) = V 47 (V2 42 17 + 2) - 48) ∨ ((u2 VA 49 (4 * k + 2) 0) 42 18 = 1 ∧ itE (V 47) (V 42 12) (V2 42 17) = (u2 VA 49 (4 * k + 2) 0) 42 17 ∧ V2 42 17 ≤ (u2 VA 49 (4 * k + 2) 0) 42 17 ∧ (u2 VA 49 (4 * k + 2) 0) 42 17 ≤ V2 42 17 + 2) := by
  rcases hG with ⟨q, _⟩ | ⟨q, a, b, c⟩
  · exact absurd q h0
  · refine Or.inr ⟨?_, ?_, ?_, ?_⟩ <;> rw [u2_at, if_neg (by omega)] <;> omega
theorem rdG2 {V V2 VA Vd : Nat → Int → Int} {k : Int} (hG : (VA 42 18 = 0 ∧ VA 42 17 = V2 42 17 + 3 ∧ (V2 42 17 < V 42 12 ∧ 0 ≤ kbT (V 47 (V2 42 17))) ∧ (V2 42 17 + 1 < V 42 12 ∧ 48 ≤ V 47 (V2 42 17 + 1) ∧ V 47 (V2 42 17 + 1) ≤ 55) ∧ (V2 42 17 + 2 < V 42 12 ∧ 48 ≤ V 47 (V2 42 17 + 2) ∧ V 47 (V2 42 17 + 2) ≤ 55) ∧ VA 49 (4 * k) = kbT (V 47 (V2 42 17)) ∧ VA 49 (4 * k + 1) = V 47 (V2 42 17 + 1) - 48 ∧ VA 49 (4 * k + 2) = V 47 (V2 42 17 + 2) - 48) ∨ (VA 42 18 = 1 ∧ itE (V 47) (V 42 12) (V2 42 17) = VA 42 17 ∧ V2 42 17 ≤ VA 42 17 ∧ VA 42 17 ≤ V2 42 17 + 2)) (h0 : VA 42 18 = 0) (e47 : VA 47 = V 47) (e12 : VA 42 12 = V 42 12) (hd : ((VA 42 17 < VA 42 12 ∧ 49 ≤ VA 47 (VA 42 17) ∧ VA 47 (VA 42 17) ≤ 52) ∧ Vd 42 18 = 0 ∧ Vd 42 17 = VA 42 17 + 1) ∨ (¬ (VA 42 17 < VA 42 12 ∧ 49 ≤ VA 47 (VA 42 17) ∧ VA 47 (VA 42 17) ≤ 52) ∧ Vd 42 18 = 1 ∧ Vd 42 17 = VA 42 17)) (hf : ∀ q z, ¬ (q = 42 ∧ (z = 17 ∨ z = 18)) → Vd q z = VA q z) : ((u2 Vd 49 (4 * k + 3) (hereT (VA 47) (VA 42 12) (VA 42 17) - 48)) 42 18 = 0 ∧ (u2 Vd 49 (4 * k + 3) (hereT (VA 47) (VA 42 12) (VA 42 17) - 48)) 42 17 = V2 42 17 + 4 ∧ (V2 42 17 < V 42 12 ∧ 0 ≤ kbT (V 47 (V2 42 17))) ∧ (V2 42 17 + 1 < V 42 12 ∧ 48 ≤ V 47 (V2 42 17 + 1) ∧ V 47 (V2 42 17 + 1) ≤ 55) ∧ (V2 42 17 + 2 < V 42 12 ∧ 48 ≤ V 47 (V2 42 17 + 2) ∧ V 47 (V2 42 17 + 2) ≤ 55) ∧ (V2 42 17 + 3 < V 42 12 ∧ 49 ≤ V 47 (V2 42 17 + 3) ∧ V 47 (V2 42 17 + 3) ≤ 52) ∧ (u2 Vd 49 (4 * k + 3) (hereT (VA 47) (VA 42 12) (VA 42 17) - 48)) 49 (4 * k) = kbT (V 47 (V2 42 17)) ∧ (u2 Vd 49 (4 * k + 3) (hereT (VA 47) (VA 42 12) (VA 42 17) - 48)) 49 (4 * k + 1) = V 47 (V2 42 17 + 1) - 48 ∧ (u2 Vd 49 (4 * k + 3) (hereT (VA 47) (VA 42 12) (VA 42 17) - 48)) 49 (4 * k + 2) = V 47 (V2 42 17 + 2) - 48 ∧ (u2 Vd 49 (4 * k + 3) (hereT (VA 47) (VA 42 12) (VA 42 17) - 48)) 49 (4 * k + 3) = V 47 (V2 42 17 + 3) - 48) ∨ ((u2 Vd 49 (4 * k + 3) (hereT (VA 47) (VA 42 12) (VA 42 17) - 48)) 42 18 = 1 ∧ itE (V 47) (V 42 12) (V2 42 17) = (u2 Vd 49 (4 * k + 3) (hereT (VA 47) (VA 42 12) (VA 42 17) - 48)) 42 17 ∧ V2 42 17 ≤ (u2 Vd 49 (4 * k + 3) (hereT (VA 47) (VA 42 12) (VA 42 17) - 48)) 42 17 ∧ (u2 Vd 49 (4 * k + 3) (hereT (VA 47) (VA 42 12) (VA 42 17) - 48)) 42 17 ≤ V2 42 17 + 3) := by
  rcases hG with ⟨_, hp, ⟨a0, b0⟩, ⟨a1, b1, c1⟩, ⟨a2, b2, c2⟩, r0, r1, r2⟩ | ⟨q, _⟩
  · have f49 : ∀ z, Vd 49 z = VA 49 z := fun z => hf 49 z (by omega)
    rw [e47, e12, hp] at hd
    rw [e47, e12, hp]
    rcases hd with ⟨d, d18, d17⟩ | ⟨d, d18, d17⟩
    · refine Or.inl ⟨?_, ?_, ⟨a0, b0⟩, ⟨a1, b1, c1⟩, ⟨a2, b2, c2⟩, d, ?_, ?_, ?_, ?_⟩
      · rw [u2_at, if_neg (by omega)]; exact d18
      · rw [u2_at, if_neg (by omega)]; omega
      · rw [u2_at, if_neg (by omega), f49]; exact r0
      · rw [u2_at, if_neg (by omega), f49]; exact r1
      · rw [u2_at, if_neg (by omega), f49]; exact r2
      · rw [u2_s, u1_s, hereT_in d.1]
    · have a : itE (V 47) (V 42 12) (V2 42 17) = V2 42 17 + 3 := itE_3 ⟨a0, b0⟩ ⟨a1, b1, c1⟩ ⟨a2, b2, c2⟩ d
      have b : (u2 Vd 49 (4 * k + 3) (hereT (V 47) (V 42 12) (V2 42 17 + 3) - 48)) 42 17 = V2 42 17 + 3 := by rw [u2_at, if_neg (by omega)]; exact d17
      refine Or.inr ⟨?_, a.trans b.symm, by rw [b]; omega, by rw [b]; omega⟩
      rw [u2_at, if_neg (by omega)]; exact d18
  · omega
theorem rdB2 {V V2 VA : Nat → Int → Int} {k : Int} (hG : (VA 42 18 = 0 ∧ VA 42 17 = V2 42 17 + 3 ∧ (V2 42 17 < V 42 12 ∧ 0 ≤ kbT (V 47 (V2 42 17))) ∧ (V2 42 17 + 1 < V 42 12 ∧ 48 ≤ V 47 (V2 42 17 + 1) ∧ V 47 (V2 42 17 + 1) ≤ 55) ∧ (V2 42 17 + 2 < V 42 12 ∧ 48 ≤ V 47 (V2 42 17 + 2) ∧ V 47 (V2 42 17 + 2) ≤ 55) ∧ VA 49 (4 * k) = kbT (V 47 (V2 42 17)) ∧ VA 49 (4 * k + 1) = V 47 (V2 42 17 + 1) - 48 ∧ VA 49 (4 * k + 2) = V 47 (V2 42 17 + 2) - 48) ∨ (VA 42 18 = 1 ∧ itE (V 47) (V 42 12) (V2 42 17) = VA 42 17 ∧ V2 42 17 ≤ VA 42 17 ∧ VA 42 17 ≤ V2 42 17 + 2)) (h0 : ¬ VA 42 18 = 0) : ((u2 VA 49 (4 * k + 3) 0) 42 18 = 0 ∧ (u2 VA 49 (4 * k + 3) 0) 42 17 = V2 42 17 + 4 ∧ (V2 42 17 < V 42 12 ∧ 0 ≤ kbT (V 47 (V2 42 17))) ∧ (V2 42 17 + 1 < V 42 12 ∧ 48 ≤ V 47 (V2 42 17 + 1) ∧ V 47 (V2 42 17 + 1) ≤ 55) ∧ (V2 42 17 + 2 < V 42 12 ∧ 48 ≤ V 47 (V2 42 17 + 2) ∧ V 47 (V2 42 17 + 2) ≤ 55) ∧ (V2 42 17 + 3 < V 42 12 ∧ 49 ≤ V 47 (V2 42 17 + 3) ∧ V 47 (V2 42 17 + 3) ≤ 52) ∧ (u2 VA 49 (4 * k + 3) 0) 49 (4 * k) = kbT (V 47 (V2 42 17)) ∧ (u2 VA 49 (4 * k + 3) 0) 49 (4 * k + 1) = V 47 (V2 42 17 + 1) - 48 ∧ (u2 VA 49 (4 * k + 3) 0) 49 (4 * k + 2) = V 47 (V2 42 17 + 2) - 48 ∧ (u2 VA 49 (4 * k + 3) 0) 49 (4 * k + 3) = V 47 (V2 42 17 + 3) - 48) ∨ ((u2 VA 49 (4 * k + 3) 0) 42 18 = 1 ∧ itE (V 47) (V 42 12) (V2 42 17) = (u2 VA 49 (4 * k + 3) 0) 42 17 ∧ V2 42 17 ≤ (u2 VA 49 (4 * k + 3) 0) 42 17 ∧ (u2 VA 49 (4 * k + 3) 0) 42 17 ≤ V2 42 17 + 3) := by
  rcases hG with ⟨q, _⟩ | ⟨q, a, b, c⟩
  · exact absurd q h0
  · refine Or.inr ⟨?_, ?_, ?_, ?_⟩ <;> rw [u2_at, if_neg (by omega)] <;> omega
theorem rdS {V : Nat → Int → Int} : skS ((u2 (u2 V 42 17 0) 42 18 0) 47) ((u2 (u2 V 42 17 0) 42 18 0) 42 12) ((u2 (u2 V 42 17 0) 42 18 0) 42 17) = skS (V 47) (V 42 12) 0 := by
  rw [u2_n (by decide), u2_n (by decide), u2_at, if_neg (by decide), u2_at, if_neg (by decide), u2_at, if_neg (by decide), u2_at, if_pos (by decide)]
theorem rdR {T : Int → Int} {D : List Int} {k p : Int} {a b : Int → Int} (hk : k = D.length) (h : ∀ i : Int, 0 ≤ i → i < D.length → rowT T (lat D i) a i) (hl : ∀ q, q < 4 * k → b q = a q) (r : b (4 * k) = kbT (T p) ∧ b (4 * k + 1) = T (p + 1) - 48 ∧ b (4 * k + 2) = T (p + 2) - 48 ∧ b (4 * k + 3) = T (p + 3) - 48) : ∀ i : Int, 0 ≤ i → i < (D ++ [p]).length → rowT T (lat (D ++ [p]) i) b i := by
  intro i hi hj
  rw [List.length_append] at hj
  have hj2 : i < ((D.length + 1 : Nat) : Int) := hj
  by_cases e : i < D.length
  · rw [lat_app hi e]
    have hh := h i hi e
    exact ⟨(hl _ (by omega)).trans hh.1, (hl _ (by omega)).trans hh.2.1, (hl _ (by omega)).trans hh.2.2.1, (hl _ (by omega)).trans hh.2.2.2⟩
  · have e2 : i = k := by omega
    rw [lat_mid (by omega), e2]
    exact r
theorem rdX {V V2 VD : Nat → Int → Int} {k : Int} {D : List Int} {P : List Int × Int} (hG : (VD 42 18 = 0 ∧ VD 42 17 = V2 42 17 + 4 ∧ (V2 42 17 < V 42 12 ∧ 0 ≤ kbT (V 47 (V2 42 17))) ∧ (V2 42 17 + 1 < V 42 12 ∧ 48 ≤ V 47 (V2 42 17 + 1) ∧ V 47 (V2 42 17 + 1) ≤ 55) ∧ (V2 42 17 + 2 < V 42 12 ∧ 48 ≤ V 47 (V2 42 17 + 2) ∧ V 47 (V2 42 17 + 2) ≤ 55) ∧ (V2 42 17 + 3 < V 42 12 ∧ 49 ≤ V 47 (V2 42 17 + 3) ∧ V 47 (V2 42 17 + 3) ≤ 52) ∧ VD 49 (4 * k) = kbT (V 47 (V2 42 17)) ∧ VD 49 (4 * k + 1) = V 47 (V2 42 17 + 1) - 48 ∧ VD 49 (4 * k + 2) = V 47 (V2 42 17 + 2) - 48 ∧ VD 49 (4 * k + 3) = V 47 (V2 42 17 + 3) - 48) ∨ (VD 42 18 = 1 ∧ itE (V 47) (V 42 12) (V2 42 17) = VD 42 17 ∧ V2 42 17 ≤ VD 42 17 ∧ VD 42 17 ≤ V2 42 17 + 3)) (h : ¬ VD 42 18 = 0) (hp : P = (D ++ (prs (V 47) (V 42 12) (V2 42 17)).1, (prs (V 47) (V 42 12) (V2 42 17)).2)) (hV : 0 ≤ V2 42 17) : (VD 42 18 = 1 ∧ ∃ L, P = (L, VD 42 17)) := by
  rcases hG with ⟨q, _⟩ | ⟨q, a, b, c⟩
  · exact absurd q h
  · refine ⟨q, D, hp.trans ?_⟩
    rw [prs_e (by omega), a, List.append_nil]
theorem rdY {V V2 VD V1 : Nat → Int → Int} {k : Int} {D : List Int} {P : List Int × Int} (hG : (VD 42 18 = 0 ∧ VD 42 17 = V2 42 17 + 4 ∧ (V2 42 17 < V 42 12 ∧ 0 ≤ kbT (V 47 (V2 42 17))) ∧ (V2 42 17 + 1 < V 42 12 ∧ 48 ≤ V 47 (V2 42 17 + 1) ∧ V 47 (V2 42 17 + 1) ≤ 55) ∧ (V2 42 17 + 2 < V 42 12 ∧ 48 ≤ V 47 (V2 42 17 + 2) ∧ V 47 (V2 42 17 + 2) ≤ 55) ∧ (V2 42 17 + 3 < V 42 12 ∧ 49 ≤ V 47 (V2 42 17 + 3) ∧ V 47 (V2 42 17 + 3) ≤ 52) ∧ VD 49 (4 * k) = kbT (V 47 (V2 42 17)) ∧ VD 49 (4 * k + 1) = V 47 (V2 42 17 + 1) - 48 ∧ VD 49 (4 * k + 2) = V 47 (V2 42 17 + 2) - 48 ∧ VD 49 (4 * k + 3) = V 47 (V2 42 17 + 3) - 48) ∨ (VD 42 18 = 1 ∧ itE (V 47) (V 42 12) (V2 42 17) = VD 42 17 ∧ V2 42 17 ≤ VD 42 17 ∧ VD 42 17 ≤ V2 42 17 + 3)) (h : VD 42 18 = 0) (hp : P = (D ++ (prs (V 47) (V 42 12) (V2 42 17)).1, (prs (V 47) (V 42 12) (V2 42 17)).2)) (hk : k = D.length) (h4 : 0 ≤ k ∧ 4 * k ≤ V2 42 17) (hr : ∀ i : Int, 0 ≤ i → i < D.length → rowT (V 47) (lat D i) (V2 49) i) (hl : ∀ q, q < 4 * k → VD 49 q = V2 49 q) (hf : ∀ z, V1 49 z = VD 49 z) (s18 : V1 42 18 = 0) (s17 : V1 42 17 = skS (V 47) (V 42 12) (VD 42 17)) :
    V1 42 18 = 0 ∧ (k + 1) = (D ++ [V2 42 17]).length ∧ 4 * (k + 1) ≤ V1 42 17 ∧ (V1 42 17 ≤ V 42 12) ∧ (∀ i : Int, 0 ≤ i → i < (D ++ [V2 42 17]).length → rowT (V 47) (lat (D ++ [V2 42 17]) i) (V1 49) i) ∧ ((k + 1) = 0 ∨ V1 42 17 < V 42 12 → P = ((D ++ [V2 42 17]) ++ (prs (V 47) (V 42 12) (V1 42 17)).1, (prs (V 47) (V 42 12) (V1 42 17)).2)) ∧ (¬ ((k + 1) = 0 ∨ V1 42 17 < V 42 12) → P = (D ++ [V2 42 17], -1)) := by
  rcases hG with ⟨_, g17, o0, o1, o2, o3, r0, r1, r2, r3⟩ | ⟨q, _⟩
  · have ie := itE_ok o0 o1 o2 o3
    rw [g17] at s17
    have sb := skS_b (T := V 47) (n := V 42 12) _ (V2 42 17 + 4) (Nat.le_refl _)
    rw [← s17] at sb
    refine ⟨s18, ?_, by omega, sb.2.1 (by omega), rdR hk hr (fun q a => (hf q).trans (hl q a)) ⟨(hf _).trans r0, (hf _).trans r1, (hf _).trans r2, (hf _).trans r3⟩, fun a => ?_, fun a => ?_⟩
    · rw [List.length_append]
      show k + 1 = ((D.length + 1 : Nat) : Int)
      omega
    · have a2 : V1 42 17 < V 42 12 := by omega
      rw [s17] at a2
      rw [hp, prs_s ie a2, ← s17, List.append_assoc]
      rfl
    · have a2 : ¬ V1 42 17 < V 42 12 := by omega
      rw [s17] at a2
      rw [hp, prs_l ie a2]
  · omega
theorem rdZ {T c d : Int → Int} {D : List Int} {f : Int} (hf : 0 ≤ f) (h : ∀ i : Int, 0 ≤ i → i < D.length → rowT T (lat D i) c i) (hc : ∀ z : Int, 0 ≤ z → z < 4 * D.length → d (4 * f + z) = c z) : ∀ i : Int, 0 ≤ i → i < D.length → rowT T (lat D i) d (f + i) := by
  intro i hi hj
  have hh := h i hi hj
  have e : ∀ j, 0 ≤ j → j < 4 → d (4 * (f + i) + j) = c (4 * i + j) := fun j a b => by rw [show 4 * (f + i) + j = 4 * f + (4 * i + j) by omega]; exact hc _ (by omega) (by omega)
  have e0 := e 0 (by omega) (by omega)
  rw [Int.add_zero, Int.add_zero] at e0
  exact ⟨e0.trans hh.1, (e 1 (by omega) (by omega)).trans hh.2.1, (e 2 (by omega) (by omega)).trans hh.2.2.1, (e 3 (by omega) (by omega)).trans hh.2.2.2⟩

set_option maxRecDepth 100000 in
set_option maxHeartbeats 4000000 in
theorem m_X12_reads (G : GS) (n : Nat) (V : Nat → Int → Int) (R : Nat → Int → Option Nat) (hn : 67 ≤ n) (hLR : LR R) (hn12 : 0 ≤ V 42 12 ∧ V 42 12 ≤ 40) (hby : ∀ z, 0 ≤ z → z < V 42 12 → 0 ≤ V 47 z ∧ V 47 z ≤ 255) : Cn G yX12_reads cX12_reads 3 (some .int) (rmk 3 0 0 64) [.ref (aG G 42)] n V R 0 0 (fun vv uu => ∃ (r : Int), ∃ (V1 : Nat → Int → Int), vv = some (.int (iI r)) ∧ uu = (n, V1, R) ∧ (∀ q z, q ≠ 49 → ¬ (q = 42 ∧ (z = 17 ∨ z = 18)) → V1 q z = V q z) ∧ ((V1 42 18 = 0 ∧ (prs (V 47) (V 42 12) (skS (V 47) (V 42 12) 0)).2 = -1 ∧ r = (prs (V 47) (V 42 12) (skS (V 47) (V 42 12) 0)).1.length ∧ 4 * r ≤ V 42 12 ∧ (∀ q : Int, 0 ≤ q → q < r → rowT (V 47) (lat (prs (V 47) (V 42 12) (skS (V 47) (V 42 12) 0)).1 q) (V1 49) q)) ∨ (V1 42 18 = 1 ∧ (prs (V 47) (V 42 12) (skS (V 47) (V 42 12) 0)).2 = V1 42 17 ∧ 0 ≤ V1 42 17 ∧ V1 42 17 ≤ 40))) := by
  refine Cn.of (by decide) (Nat.le_of_ble_eq_true rfl) (fun K C hct => ?_)
  show Xw K G 0 0 _ n V R 0 [(0, .ref (aG G 42))] []
  refine x_iconst C dX12_reads_0 ?_
  refine x_istore_n C dX12_reads_1 rfl (by decide) (lv' := [(0, .ref (aG G 42)), (1, .int (iI 0))]) rfl ?_
  refine x_aload_n C 0 dX12_reads_2 rfl rfl ?_
  refine x_iconst C dX12_reads_3 ?_
  refine x_puti C ok_Model 42 17 dX12_reads_4 (lt67 hn rfl) rfl (by decide) rfl q_15_17 rfl rfl (Or.inl rfl) (by first | assumption | (constructor <;> omega)) (kz := 17) rfl ?_
  refine x_aload_n C 0 dX12_reads_7 rfl rfl ?_
  refine x_iconst C dX12_reads_8 ?_
  refine x_puti C ok_Model 42 18 dX12_reads_9 (lt67 hn rfl) rfl (by decide) rfl q_15_16 rfl rfl (Or.inr ⟨rfl, by first | exact Or.inl rfl | exact Or.inr rfl | omega⟩) (by first | assumption | (constructor <;> omega)) (kz := 18) rfl ?_
  refine x_aload_n C 0 dX12_reads_12 rfl rfl ?_
  refine x_runU (r_callV C ok_Model 42 (lt67 hn rfl) rfl (ce_X12_skips) (m_X12_skips G n (u2 (u2 V 42 17 0) 42 18 0) R hn hLR (by rw [u2_at, if_neg (by decide), u2_at, if_pos (by decide)]; omega) (by rw [u2_at, if_neg (by decide), u2_at, if_neg (by decide)]; exact hn12) (by rw [u2_at, if_neg (by decide), u2_at, if_neg (by decide), u2_n (by decide), u2_n (by decide)]; exact hby)) rfl dX12_reads_13 q_15_22 q_15_23 q_16_0 rfl rfl ⟨Nat.le_of_ble_eq_true rfl, Nat.le_of_ble_eq_true rfl⟩ ⟨rfl, rfl⟩ ⟨Nat.le_of_ble_eq_true rfl, Nat.le_of_ble_eq_true rfl⟩ (Nat.le_of_ble_eq_true rfl)) (fun v13 u13 hp13 => ?_)
  obtain ⟨V1_13, rfl, rfl, hq13_0, hq13_1⟩ := hp13
  show Xw K G 0 0 _ n V1_13 R 16 [(0, .ref (aG G 42)), (1, .int (iI 0))] []
  have s17 : V1_13 42 17 = skS (V 47) (V 42 12) 0 := hq13_0.trans rdS
  have s18 : V1_13 42 18 = 0 := (hq13_1 42 18 (by omega)).trans (by rw [u2_at, if_pos (by decide)])
  have sb := skS_b (T := V 47) (n := V 42 12) _ 0 (Nat.le_refl _)
  have lp_16 : ∀ (fuel : Nat) (k : Int) (D : List Int) (V2 : Nat → Int → Int), (0 ≤ k ∧ k ≤ 11) → (∀ q z, q ≠ 49 → ¬ (q = 42 ∧ (z = 17 ∨ z = 18)) → V2 q z = V q z) → (0 ≤ V2 42 17 ∧ V2 42 17 ≤ 40) → ((V2 42 18 = 0 ∧ k = D.length ∧ 4 * k ≤ V2 42 17 ∧ (V2 42 17 ≤ V 42 12) ∧ (∀ i : Int, 0 ≤ i → i < D.length → rowT (V 47) (lat D i) (V2 49) i) ∧ (k = 0 ∨ V2 42 17 < V 42 12 → (prs (V 47) (V 42 12) (skS (V 47) (V 42 12) 0)) = (D ++ (prs (V 47) (V 42 12) (V2 42 17)).1, (prs (V 47) (V 42 12) (V2 42 17)).2)) ∧ (¬ (k = 0 ∨ V2 42 17 < V 42 12) → (prs (V 47) (V 42 12) (skS (V 47) (V 42 12) 0)) = (D, -1))) ∨ (V2 42 18 = 1 ∧ ∃ L, (prs (V 47) (V 42 12) (skS (V 47) (V 42 12) 0)) = (L, V2 42 17))) → ((46 : Int) - V2 42 17 + (1 - V2 42 18)*50 + 0) < (fuel : Int) → Xw K G 0 0 (EndQ K G 0 0 (fun vv uu => ∃ (r : Int), ∃ (V1 : Nat → Int → Int), vv = some (.int (iI r)) ∧ uu = (n, V1, R) ∧ (∀ q z, q ≠ 49 → ¬ (q = 42 ∧ (z = 17 ∨ z = 18)) → V1 q z = V q z) ∧ ((V1 42 18 = 0 ∧ (prs (V 47) (V 42 12) (skS (V 47) (V 42 12) 0)).2 = -1 ∧ r = (prs (V 47) (V 42 12) (skS (V 47) (V 42 12) 0)).1.length ∧ 4 * r ≤ V 42 12 ∧ (∀ q : Int, 0 ≤ q → q < r → rowT (V 47) (lat (prs (V 47) (V 42 12) (skS (V 47) (V 42 12) 0)).1 q) (V1 49) q)) ∨ (V1 42 18 = 1 ∧ (prs (V 47) (V 42 12) (skS (V 47) (V 42 12) 0)).2 = V1 42 17 ∧ 0 ≤ V1 42 17 ∧ V1 42 17 ≤ 40)))) n V2 R 16 [(0, .ref (aG G 42)), (1, .int (iI k))] [] := by
    intro fuel16
    induction fuel16 with
    | zero => intro k D V2 hk hF hp2 hst hfu16; exfalso; omega
    | succ fuel16 ih16 =>
      intro k D V2 hk hF hp2 hst hfu16
      have e47 : V2 47 = V 47 := funext fun z => hF 47 z (by decide) (by omega)
      have e12 : V2 42 12 = V 42 12 := hF 42 12 (by decide) (by omega)
      refine x_aload_n C 0 dX12_reads_16 rfl rfl ?_
      refine x_geti C ok_Model 42 18 dX12_reads_17 (lt67 hn rfl) rfl (by decide) rfl q_15_16 rfl (kz := 18) rfl (fun rg17 => ?_)
      refine x_if_ne C dX12_reads_20 (tgt := 193) (by decide) (by first | assumption | (constructor <;> omega)) (fun h20 => ?_) (fun h20 => ?_)
      · skip
        refine x_iload_n C 1 dX12_reads_193 rfl rfl ?_
        refine x_iret C dX12_reads_194 ⟨_, _, rfl, rfl, ?_, ?_⟩
        · exact hF
        · first | (obtain ⟨L, hL⟩ : ∃ L, (prs (V 47) (V 42 12) (skS (V 47) (V 42 12) 0)) = (L, V2 42 17) := (by rcases hst with ⟨q, _⟩ | ⟨_, q⟩; (exfalso; omega); exact q); exact Or.inr ⟨by omega, by rw [hL], hp2.1, hp2.2⟩) | (obtain ⟨i1, i2, i3, i4, i5, i6, i7⟩ : (V2 42 18 = 0 ∧ k = D.length ∧ 4 * k ≤ V2 42 17 ∧ (V2 42 17 ≤ V 42 12) ∧ (∀ i : Int, 0 ≤ i → i < D.length → rowT (V 47) (lat D i) (V2 49) i) ∧ (k = 0 ∨ V2 42 17 < V 42 12 → (prs (V 47) (V 42 12) (skS (V 47) (V 42 12) 0)) = (D ++ (prs (V 47) (V 42 12) (V2 42 17)).1, (prs (V 47) (V 42 12) (V2 42 17)).2)) ∧ (¬ (k = 0 ∨ V2 42 17 < V 42 12) → (prs (V 47) (V 42 12) (skS (V 47) (V 42 12) 0)) = (D, -1))) := (by rcases hst with h | ⟨q, _⟩; exact h; omega); have hL := i7 (by omega); exact Or.inl ⟨by omega, by rw [hL], by rw [hL]; exact i2, by omega, by rw [hL]; exact fun q a b => i5 q a (by omega)⟩)
      · skip
        have lp_38 : ∀ (_ : Unit), (k = 0 ∨ V2 42 17 < V 42 12) → Xw K G 0 0 (EndQ K G 0 0 (fun vv uu => ∃ (r : Int), ∃ (V1 : Nat → Int → Int), vv = some (.int (iI r)) ∧ uu = (n, V1, R) ∧ (∀ q z, q ≠ 49 → ¬ (q = 42 ∧ (z = 17 ∨ z = 18)) → V1 q z = V q z) ∧ ((V1 42 18 = 0 ∧ (prs (V 47) (V 42 12) (skS (V 47) (V 42 12) 0)).2 = -1 ∧ r = (prs (V 47) (V 42 12) (skS (V 47) (V 42 12) 0)).1.length ∧ 4 * r ≤ V 42 12 ∧ (∀ q : Int, 0 ≤ q → q < r → rowT (V 47) (lat (prs (V 47) (V 42 12) (skS (V 47) (V 42 12) 0)).1 q) (V1 49) q)) ∨ (V1 42 18 = 1 ∧ (prs (V 47) (V 42 12) (skS (V 47) (V 42 12) 0)).2 = V1 42 17 ∧ 0 ≤ V1 42 17 ∧ V1 42 17 ≤ 40)))) n V2 R 38 [(0, .ref (aG G 42)), (1, .int (iI k))] [] := by
          intro _ hgo
          obtain ⟨i1, i2, i3, i4, i5, i6, i7⟩ : (V2 42 18 = 0 ∧ k = D.length ∧ 4 * k ≤ V2 42 17 ∧ (V2 42 17 ≤ V 42 12) ∧ (∀ i : Int, 0 ≤ i → i < D.length → rowT (V 47) (lat D i) (V2 49) i) ∧ (k = 0 ∨ V2 42 17 < V 42 12 → (prs (V 47) (V 42 12) (skS (V 47) (V 42 12) 0)) = (D ++ (prs (V 47) (V 42 12) (V2 42 17)).1, (prs (V 47) (V 42 12) (V2 42 17)).2)) ∧ (¬ (k = 0 ∨ V2 42 17 < V 42 12) → (prs (V 47) (V 42 12) (skS (V 47) (V 42 12) 0)) = (D, -1))) := by (rcases hst with h | ⟨q, _⟩; exact h; omega)
          have hby2 : ∀ z, 0 ≤ z → z < V2 42 12 → 0 ≤ V2 47 z ∧ V2 47 z ≤ 255 := by rw [e12, e47]; exact hby
          have hhb := hereT_b hp2.1 hby2
          have hkb := kbT_b (v := hereT (V2 47) (V2 42 12) (V2 42 17))
          refine x_aload_n C 0 dX12_reads_38 rfl rfl ?_
          refine x_runU (r_callV C ok_Model 42 (lt67 hn rfl) rfl (ce_X12_here) (m_X12_here G n V2 R hn hLR (by first | assumption | omega | decide) (by rw [e12]; exact hn12)) rfl dX12_reads_39 q_16_2 q_16_3 q_16_4 rfl rfl ⟨Nat.le_of_ble_eq_true rfl, Nat.le_of_ble_eq_true rfl⟩ ⟨rfl, rfl⟩ ⟨Nat.le_of_ble_eq_true rfl, Nat.le_of_ble_eq_true rfl⟩ (Nat.le_of_ble_eq_true rfl)) (fun v39 u39 hp39 => ?_)
          obtain ⟨rfl, rfl⟩ := hp39
          show Xw K G 0 0 _ n V2 R 42 [(0, .ref (aG G 42)), (1, .int (iI k))] [.int (iI (hereT (V2 47) (V2 42 12) (V2 42 17)))]
          refine x_runU (r_callS C (ce_X12_kindOf) (m_X12_kindOf G n V2 R (hereT (V2 47) (V2 42 12) (V2 42 17)) (by first | assumption | omega | decide)) dX12_reads_42 q_16_6 q_16_7 rfl rfl ⟨Nat.le_of_ble_eq_true rfl, Nat.le_of_ble_eq_true rfl⟩ ⟨rfl, rfl⟩ ⟨Nat.le_of_ble_eq_true rfl, Nat.le_of_ble_eq_true rfl⟩ (Nat.le_of_ble_eq_true rfl)) (fun v42 u42 hp42 => ?_)
          obtain ⟨rfl, rfl⟩ := hp42
          show Xw K G 0 0 _ n V2 R 45 [(0, .ref (aG G 42)), (1, .int (iI k))] [.int (iI (kbT (hereT (V2 47) (V2 42 12) (V2 42 17))))]
          refine x_istore_n C dX12_reads_45 rfl (by decide) (lv' := [(0, .ref (aG G 42)), (1, .int (iI k)), (2, .int (iI (kbT (hereT (V2 47) (V2 42 12) (V2 42 17)))))]) rfl ?_
          have lp_89 : ∀ (VA : Nat → Int → Int), (∀ q z, q ≠ 49 → ¬ (q = 42 ∧ (z = 17 ∨ z = 18)) → VA q z = V q z) → (∀ q, q < 4 * k → VA 49 q = V2 49 q) → ((VA 42 18 = 0 ∧ VA 42 17 = V2 42 17 + 1 ∧ (V2 42 17 < V 42 12 ∧ 0 ≤ kbT (V 47 (V2 42 17))) ∧ VA 49 (4 * k) = kbT (V 47 (V2 42 17))) ∨ (VA 42 18 = 1 ∧ itE (V 47) (V 42 12) (V2 42 17) = VA 42 17 ∧ V2 42 17 ≤ VA 42 17 ∧ VA 42 17 ≤ V2 42 17 + 0)) → Xw K G 0 0 (EndQ K G 0 0 (fun vv uu => ∃ (r : Int), ∃ (V1 : Nat → Int → Int), vv = some (.int (iI r)) ∧ uu = (n, V1, R) ∧ (∀ q z, q ≠ 49 → ¬ (q = 42 ∧ (z = 17 ∨ z = 18)) → V1 q z = V q z) ∧ ((V1 42 18 = 0 ∧ (prs (V 47) (V 42 12) (skS (V 47) (V 42 12) 0)).2 = -1 ∧ r = (prs (V 47) (V 42 12) (skS (V 47) (V 42 12) 0)).1.length ∧ 4 * r ≤ V 42 12 ∧ (∀ q : Int, 0 ≤ q → q < r → rowT (V 47) (lat (prs (V 47) (V 42 12) (skS (V 47) (V 42 12) 0)).1 q) (V1 49) q)) ∨ (V1 42 18 = 1 ∧ (prs (V 47) (V 42 12) (skS (V 47) (V 42 12) 0)).2 = V1 42 17 ∧ 0 ≤ V1 42 17 ∧ V1 42 17 ≤ 40)))) n VA R 89 [(0, .ref (aG G 42)), (1, .int (iI k)), (2, .int (iI (kbT (hereT (V2 47) (V2 42 12) (V2 42 17)))))] [] := by
            intro VA hFVA hLVA hGVA
            have e47VA : VA 47 = V 47 := funext fun z => hFVA 47 z (by decide) (by omega)
            have e12VA : VA 42 12 = V 42 12 := hFVA 42 12 (by decide) (by omega)
            have hpVA : 0 ≤ VA 42 17 ∧ VA 42 17 ≤ 40 := by omega
            have hbyVA : ∀ z, 0 ≤ z → z < VA 42 12 → 0 ≤ VA 47 z ∧ VA 47 z ≤ 255 := by rw [e12VA, e47VA]; exact hby
            have hflVA : VA 42 18 = 0 ∨ VA 42 18 = 1 := by omega
            have hhbVA := hereT_b hpVA.1 hbyVA
            have lp_118 : ∀ (VB : Nat → Int → Int), (∀ q z, q ≠ 49 → ¬ (q = 42 ∧ (z = 17 ∨ z = 18)) → VB q z = V q z) → (∀ q, q < 4 * k → VB 49 q = V2 49 q) → ((VB 42 18 = 0 ∧ VB 42 17 = V2 42 17 + 2 ∧ (V2 42 17 < V 42 12 ∧ 0 ≤ kbT (V 47 (V2 42 17))) ∧ (V2 42 17 + 1 < V 42 12 ∧ 48 ≤ V 47 (V2 42 17 + 1) ∧ V 47 (V2 42 17 + 1) ≤ 55) ∧ VB 49 (4 * k) = kbT (V 47 (V2 42 17)) ∧ VB 49 (4 * k + 1) = V 47 (V2 42 17 + 1) - 48) ∨ (VB 42 18 = 1 ∧ itE (V 47) (V 42 12) (V2 42 17) = VB 42 17 ∧ V2 42 17 ≤ VB 42 17 ∧ VB 42 17 ≤ V2 42 17 + 1)) → Xw K G 0 0 (EndQ K G 0 0 (fun vv uu => ∃ (r : Int), ∃ (V1 : Nat → Int → Int), vv = some (.int (iI r)) ∧ uu = (n, V1, R) ∧ (∀ q z, q ≠ 49 → ¬ (q = 42 ∧ (z = 17 ∨ z = 18)) → V1 q z = V q z) ∧ ((V1 42 18 = 0 ∧ (prs (V 47) (V 42 12) (skS (V 47) (V 42 12) 0)).2 = -1 ∧ r = (prs (V 47) (V 42 12) (skS (V 47) (V 42 12) 0)).1.length ∧ 4 * r ≤ V 42 12 ∧ (∀ q : Int, 0 ≤ q → q < r → rowT (V 47) (lat (prs (V 47) (V 42 12) (skS (V 47) (V 42 12) 0)).1 q) (V1 49) q)) ∨ (V1 42 18 = 1 ∧ (prs (V 47) (V 42 12) (skS (V 47) (V 42 12) 0)).2 = V1 42 17 ∧ 0 ≤ V1 42 17 ∧ V1 42 17 ≤ 40)))) n VB R 118 [(0, .ref (aG G 42)), (1, .int (iI k)), (2, .int (iI (kbT (hereT (V2 47) (V2 42 12) (V2 42 17)))))] [] := by
              intro VB hFVB hLVB hGVB
              have e47VB : VB 47 = V 47 := funext fun z => hFVB 47 z (by decide) (by omega)
              have e12VB : VB 42 12 = V 42 12 := hFVB 42 12 (by decide) (by omega)
              have hpVB : 0 ≤ VB 42 17 ∧ VB 42 17 ≤ 40 := by omega
              have hbyVB : ∀ z, 0 ≤ z → z < VB 42 12 → 0 ≤ VB 47 z ∧ VB 47 z ≤ 255 := by rw [e12VB, e47VB]; exact hby
              have hflVB : VB 42 18 = 0 ∨ VB 42 18 = 1 := by omega
              have hhbVB := hereT_b hpVB.1 hbyVB
              have lp_147 : ∀ (VC : Nat → Int → Int), (∀ q z, q ≠ 49 → ¬ (q = 42 ∧ (z = 17 ∨ z = 18)) → VC q z = V q z) → (∀ q, q < 4 * k → VC 49 q = V2 49 q) → ((VC 42 18 = 0 ∧ VC 42 17 = V2 42 17 + 3 ∧ (V2 42 17 < V 42 12 ∧ 0 ≤ kbT (V 47 (V2 42 17))) ∧ (V2 42 17 + 1 < V 42 12 ∧ 48 ≤ V 47 (V2 42 17 + 1) ∧ V 47 (V2 42 17 + 1) ≤ 55) ∧ (V2 42 17 + 2 < V 42 12 ∧ 48 ≤ V 47 (V2 42 17 + 2) ∧ V 47 (V2 42 17 + 2) ≤ 55) ∧ VC 49 (4 * k) = kbT (V 47 (V2 42 17)) ∧ VC 49 (4 * k + 1) = V 47 (V2 42 17 + 1) - 48 ∧ VC 49 (4 * k + 2) = V 47 (V2 42 17 + 2) - 48) ∨ (VC 42 18 = 1 ∧ itE (V 47) (V 42 12) (V2 42 17) = VC 42 17 ∧ V2 42 17 ≤ VC 42 17 ∧ VC 42 17 ≤ V2 42 17 + 2)) → Xw K G 0 0 (EndQ K G 0 0 (fun vv uu => ∃ (r : Int), ∃ (V1 : Nat → Int → Int), vv = some (.int (iI r)) ∧ uu = (n, V1, R) ∧ (∀ q z, q ≠ 49 → ¬ (q = 42 ∧ (z = 17 ∨ z = 18)) → V1 q z = V q z) ∧ ((V1 42 18 = 0 ∧ (prs (V 47) (V 42 12) (skS (V 47) (V 42 12) 0)).2 = -1 ∧ r = (prs (V 47) (V 42 12) (skS (V 47) (V 42 12) 0)).1.length ∧ 4 * r ≤ V 42 12 ∧ (∀ q : Int, 0 ≤ q → q < r → rowT (V 47) (lat (prs (V 47) (V 42 12) (skS (V 47) (V 42 12) 0)).1 q) (V1 49) q)) ∨ (V1 42 18 = 1 ∧ (prs (V 47) (V 42 12) (skS (V 47) (V 42 12) 0)).2 = V1 42 17 ∧ 0 ≤ V1 42 17 ∧ V1 42 17 ≤ 40)))) n VC R 147 [(0, .ref (aG G 42)), (1, .int (iI k)), (2, .int (iI (kbT (hereT (V2 47) (V2 42 12) (V2 42 17)))))] [] := by
                intro VC hFVC hLVC hGVC
                have e47VC : VC 47 = V 47 := funext fun z => hFVC 47 z (by decide) (by omega)
                have e12VC : VC 42 12 = V 42 12 := hFVC 42 12 (by decide) (by omega)
                have hpVC : 0 ≤ VC 42 17 ∧ VC 42 17 ≤ 40 := by omega
                have hbyVC : ∀ z, 0 ≤ z → z < VC 42 12 → 0 ≤ VC 47 z ∧ VC 47 z ≤ 255 := by rw [e12VC, e47VC]; exact hby
                have hflVC : VC 42 18 = 0 ∨ VC 42 18 = 1 := by omega
                have hhbVC := hereT_b hpVC.1 hbyVC
                have lp_176 : ∀ (VD : Nat → Int → Int), (∀ q z, q ≠ 49 → ¬ (q = 42 ∧ (z = 17 ∨ z = 18)) → VD q z = V q z) → (∀ q, q < 4 * k → VD 49 q = V2 49 q) → ((VD 42 18 = 0 ∧ VD 42 17 = V2 42 17 + 4 ∧ (V2 42 17 < V 42 12 ∧ 0 ≤ kbT (V 47 (V2 42 17))) ∧ (V2 42 17 + 1 < V 42 12 ∧ 48 ≤ V 47 (V2 42 17 + 1) ∧ V 47 (V2 42 17 + 1) ≤ 55) ∧ (V2 42 17 + 2 < V 42 12 ∧ 48 ≤ V 47 (V2 42 17 + 2) ∧ V 47 (V2 42 17 + 2) ≤ 55) ∧ (V2 42 17 + 3 < V 42 12 ∧ 49 ≤ V 47 (V2 42 17 + 3) ∧ V 47 (V2 42 17 + 3) ≤ 52) ∧ VD 49 (4 * k) = kbT (V 47 (V2 42 17)) ∧ VD 49 (4 * k + 1) = V 47 (V2 42 17 + 1) - 48 ∧ VD 49 (4 * k + 2) = V 47 (V2 42 17 + 2) - 48 ∧ VD 49 (4 * k + 3) = V 47 (V2 42 17 + 3) - 48) ∨ (VD 42 18 = 1 ∧ itE (V 47) (V 42 12) (V2 42 17) = VD 42 17 ∧ V2 42 17 ≤ VD 42 17 ∧ VD 42 17 ≤ V2 42 17 + 3)) → Xw K G 0 0 (EndQ K G 0 0 (fun vv uu => ∃ (r : Int), ∃ (V1 : Nat → Int → Int), vv = some (.int (iI r)) ∧ uu = (n, V1, R) ∧ (∀ q z, q ≠ 49 → ¬ (q = 42 ∧ (z = 17 ∨ z = 18)) → V1 q z = V q z) ∧ ((V1 42 18 = 0 ∧ (prs (V 47) (V 42 12) (skS (V 47) (V 42 12) 0)).2 = -1 ∧ r = (prs (V 47) (V 42 12) (skS (V 47) (V 42 12) 0)).1.length ∧ 4 * r ≤ V 42 12 ∧ (∀ q : Int, 0 ≤ q → q < r → rowT (V 47) (lat (prs (V 47) (V 42 12) (skS (V 47) (V 42 12) 0)).1 q) (V1 49) q)) ∨ (V1 42 18 = 1 ∧ (prs (V 47) (V 42 12) (skS (V 47) (V 42 12) 0)).2 = V1 42 17 ∧ 0 ≤ V1 42 17 ∧ V1 42 17 ≤ 40)))) n VD R 176 [(0, .ref (aG G 42)), (1, .int (iI k)), (2, .int (iI (kbT (hereT (V2 47) (V2 42 12) (V2 42 17)))))] [] := by
                  intro VD hFVD hLVD hGVD
                  have e47VD : VD 47 = V 47 := funext fun z => hFVD 47 z (by decide) (by omega)
                  have e12VD : VD 42 12 = V 42 12 := hFVD 42 12 (by decide) (by omega)
                  have hpVD : 0 ≤ VD 42 17 ∧ VD 42 17 ≤ 40 := by omega
                  have hbyVD : ∀ z, 0 ≤ z → z < VD 42 12 → 0 ≤ VD 47 z ∧ VD 47 z ≤ 255 := by rw [e12VD, e47VD]; exact hby
                  have hflVD : VD 42 18 = 0 ∨ VD 42 18 = 1 := by omega
                  have hhbVD := hereT_b hpVD.1 hbyVD
                  refine x_iinc C 1 dX12_reads_176 rfl (by decide) (lv' := [(0, .ref (aG G 42)), (1, .int (iI (k + 1))), (2, .int (iI (kbT (hereT (V2 47) (V2 42 12) (V2 42 17)))))]) rfl ?_
                  refine x_aload_n C 0 dX12_reads_179 rfl rfl ?_
                  refine x_geti C ok_Model 42 18 dX12_reads_180 (lt67 hn rfl) rfl (by decide) rfl q_15_16 rfl (kz := 18) rfl (fun rg180 => ?_)
                  refine x_if_ne C dX12_reads_183 (tgt := 190) (by decide) (by first | assumption | (constructor <;> omega)) (fun h183 => ?_) (fun h183 => ?_)
                  · skip
                    refine x_goto C dX12_reads_190 (tgt := 16) (by decide) ?_
                    refine x_sub [0, 1] (lv' := [(0, .ref (aG G 42)), (1, .int (iI (k + 1)))]) rfl ?_
                    exact ih16 ((k + 1)) (D ++ [V2 42 17]) (VD) (by omega) (by first | exact hFVD | exact fun q z a b => (hq187_1 q z (by omega)).trans (hFVD q z a b)) (by omega) (by first | exact Or.inr (rdX hGVD (by assumption) (i6 hgo) (by omega)) | exact Or.inl (rdY hGVD (by assumption) (i6 hgo) i2 (by omega) i5 hLVD (fun z => hq187_1 49 z (by omega)) s18 s17)) (by omega)
                  · skip
                    refine x_aload_n C 0 dX12_reads_186 rfl rfl ?_
                    refine x_runU (r_callV C ok_Model 42 (lt67 hn rfl) rfl (ce_X12_skips) (m_X12_skips G n VD R hn hLR (by omega) (by rw [e12VD]; exact hn12) (by exact hbyVD)) rfl dX12_reads_187 q_15_22 q_15_23 q_16_0 rfl rfl ⟨Nat.le_of_ble_eq_true rfl, Nat.le_of_ble_eq_true rfl⟩ ⟨rfl, rfl⟩ ⟨Nat.le_of_ble_eq_true rfl, Nat.le_of_ble_eq_true rfl⟩ (Nat.le_of_ble_eq_true rfl)) (fun v187 u187 hp187 => ?_)
                    obtain ⟨V1_187, rfl, rfl, hq187_0, hq187_1⟩ := hp187
                    show Xw K G 0 0 _ n V1_187 R 190 [(0, .ref (aG G 42)), (1, .int (iI (k + 1))), (2, .int (iI (kbT (hereT (V2 47) (V2 42 12) (V2 42 17)))))] []
                    have s17 : V1_187 42 17 = skS (V 47) (V 42 12) (VD 42 17) := by rw [hq187_0, e47VD, e12VD]
                    have s18 : V1_187 42 18 = 0 := (hq187_1 42 18 (by omega)).trans (by assumption)
                    have sb := skS_b (T := V 47) (n := V 42 12) _ (VD 42 17) (Nat.le_refl _)
                    refine x_goto C dX12_reads_190 (tgt := 16) (by decide) ?_
                    refine x_sub [0, 1] (lv' := [(0, .ref (aG G 42)), (1, .int (iI (k + 1)))]) rfl ?_
                    exact ih16 ((k + 1)) (D ++ [V2 42 17]) (V1_187) (by omega) (by first | exact hFVD | exact fun q z a b => (hq187_1 q z (by omega)).trans (hFVD q z a b)) (by omega) (by first | exact Or.inr (rdX hGVD (by assumption) (i6 hgo) (by omega)) | exact Or.inl (rdY hGVD (by assumption) (i6 hgo) i2 (by omega) i5 hLVD (fun z => hq187_1 49 z (by omega)) s18 s17)) (by omega)
                refine x_aload_n C 0 dX12_reads_147 rfl rfl ?_
                refine x_getr C ok_Model 42 19 (d := 49) dX12_reads_148 (lt67 hn rfl) rfl (by decide) rfl q_4_7 rfl (kz := 19) rfl (lr_42_19 hLR) ?_
                refine x_iconst C dX12_reads_151 ?_
                refine x_iload_n C 1 dX12_reads_152 rfl rfl ?_
                refine x_imul C dX12_reads_153 ?_
                refine x_iconst C dX12_reads_154 ?_
                refine x_iadd C dX12_reads_155 ?_
                refine x_aload_n C 0 dX12_reads_156 rfl rfl ?_
                refine x_geti C ok_Model 42 18 dX12_reads_157 (lt67 hn rfl) rfl (by decide) rfl q_15_16 rfl (kz := 18) rfl (fun rg157 => ?_)
                refine x_if_eq C dX12_reads_160 (tgt := 167) (by decide) (by first | assumption | (constructor <;> omega)) (fun h160 => ?_) (fun h160 => ?_)
                · skip
                  refine x_aload_n C 0 dX12_reads_167 rfl rfl ?_
                  refine x_bipush C dX12_reads_168 (w := 49) (by decide) ?_
                  refine x_bipush C dX12_reads_170 (w := 52) (by decide) ?_
                  refine x_runU (r_callV C ok_Model 42 (lt67 hn rfl) rfl (ce_X12_digit) (m_X12_digit G n VC R (49) (52) hn hLR (by omega) (by rw [e12VC]; exact hn12) (by exact hbyVC) (by omega) (by first | assumption | omega | decide) (by first | assumption | omega | decide)) rfl dX12_reads_172 q_16_9 q_16_10 q_16_11 rfl rfl ⟨Nat.le_of_ble_eq_true rfl, Nat.le_of_ble_eq_true rfl⟩ ⟨rfl, rfl⟩ ⟨Nat.le_of_ble_eq_true rfl, Nat.le_of_ble_eq_true rfl⟩ (Nat.le_of_ble_eq_true rfl)) (fun v172 u172 hp172 => ?_)
                  obtain ⟨V1_172, rfl, rfl, hq172_0, hq172_1⟩ := hp172
                  show Xw K G 0 0 _ n V1_172 R 175 [(0, .ref (aG G 42)), (1, .int (iI k)), (2, .int (iI (kbT (hereT (V2 47) (V2 42 12) (V2 42 17)))))] [.int (iI ((hereT (VC 47) (VC 42 12) (VC 42 17)) - 48)), .int (iI ((4 * k) + 3)), .ref (aG G 49)]
                  refine x_iast C 49 dX12_reads_175 (lt67 hn rfl) rfl (by refine ⟨?_, ?_⟩ <;> omega) (by first | assumption | (constructor <;> omega)) ?_
                  exact lp_176 ((u2 V1_172 49 ((4 * k) + 3) ((hereT (VC 47) (VC 42 12) (VC 42 17)) - 48))) (by first | exact rdF hFVC | exact rdF (rdF2 hFVC hq172_1)) (by first | exact rdL hLVC (by omega) | exact rdL (rdL2 hLVC hq172_1) (by omega)) (by first | exact rdB2 hGVC (by assumption) | exact rdG2 hGVC (by assumption) e47VC e12VC hq172_0 hq172_1)
                · skip
                  refine x_iconst C dX12_reads_163 ?_
                  refine x_goto C dX12_reads_164 (tgt := 175) (by decide) ?_
                  refine x_iast C 49 dX12_reads_175 (lt67 hn rfl) rfl (by refine ⟨?_, ?_⟩ <;> omega) (by first | assumption | (constructor <;> omega)) ?_
                  exact lp_176 ((u2 VC 49 ((4 * k) + 3) 0)) (by first | exact rdF hFVC | exact rdF (rdF2 hFVC hq172_1)) (by first | exact rdL hLVC (by omega) | exact rdL (rdL2 hLVC hq172_1) (by omega)) (by first | exact rdB2 hGVC (by assumption) | exact rdG2 hGVC (by assumption) e47VC e12VC hq172_0 hq172_1)
              refine x_aload_n C 0 dX12_reads_118 rfl rfl ?_
              refine x_getr C ok_Model 42 19 (d := 49) dX12_reads_119 (lt67 hn rfl) rfl (by decide) rfl q_4_7 rfl (kz := 19) rfl (lr_42_19 hLR) ?_
              refine x_iconst C dX12_reads_122 ?_
              refine x_iload_n C 1 dX12_reads_123 rfl rfl ?_
              refine x_imul C dX12_reads_124 ?_
              refine x_iconst C dX12_reads_125 ?_
              refine x_iadd C dX12_reads_126 ?_
              refine x_aload_n C 0 dX12_reads_127 rfl rfl ?_
              refine x_geti C ok_Model 42 18 dX12_reads_128 (lt67 hn rfl) rfl (by decide) rfl q_15_16 rfl (kz := 18) rfl (fun rg128 => ?_)
              refine x_if_eq C dX12_reads_131 (tgt := 138) (by decide) (by first | assumption | (constructor <;> omega)) (fun h131 => ?_) (fun h131 => ?_)
              · skip
                refine x_aload_n C 0 dX12_reads_138 rfl rfl ?_
                refine x_bipush C dX12_reads_139 (w := 48) (by decide) ?_
                refine x_bipush C dX12_reads_141 (w := 55) (by decide) ?_
                refine x_runU (r_callV C ok_Model 42 (lt67 hn rfl) rfl (ce_X12_digit) (m_X12_digit G n VB R (48) (55) hn hLR (by omega) (by rw [e12VB]; exact hn12) (by exact hbyVB) (by omega) (by first | assumption | omega | decide) (by first | assumption | omega | decide)) rfl dX12_reads_143 q_16_9 q_16_10 q_16_11 rfl rfl ⟨Nat.le_of_ble_eq_true rfl, Nat.le_of_ble_eq_true rfl⟩ ⟨rfl, rfl⟩ ⟨Nat.le_of_ble_eq_true rfl, Nat.le_of_ble_eq_true rfl⟩ (Nat.le_of_ble_eq_true rfl)) (fun v143 u143 hp143 => ?_)
                obtain ⟨V1_143, rfl, rfl, hq143_0, hq143_1⟩ := hp143
                show Xw K G 0 0 _ n V1_143 R 146 [(0, .ref (aG G 42)), (1, .int (iI k)), (2, .int (iI (kbT (hereT (V2 47) (V2 42 12) (V2 42 17)))))] [.int (iI ((hereT (VB 47) (VB 42 12) (VB 42 17)) - 48)), .int (iI ((4 * k) + 2)), .ref (aG G 49)]
                refine x_iast C 49 dX12_reads_146 (lt67 hn rfl) rfl (by refine ⟨?_, ?_⟩ <;> omega) (by first | assumption | (constructor <;> omega)) ?_
                exact lp_147 ((u2 V1_143 49 ((4 * k) + 2) ((hereT (VB 47) (VB 42 12) (VB 42 17)) - 48))) (by first | exact rdF hFVB | exact rdF (rdF2 hFVB hq143_1)) (by first | exact rdL hLVB (by omega) | exact rdL (rdL2 hLVB hq143_1) (by omega)) (by first | exact rdB1 hGVB (by assumption) | exact rdG1 hGVB (by assumption) e47VB e12VB hq143_0 hq143_1)
              · skip
                refine x_iconst C dX12_reads_134 ?_
                refine x_goto C dX12_reads_135 (tgt := 146) (by decide) ?_
                refine x_iast C 49 dX12_reads_146 (lt67 hn rfl) rfl (by refine ⟨?_, ?_⟩ <;> omega) (by first | assumption | (constructor <;> omega)) ?_
                exact lp_147 ((u2 VB 49 ((4 * k) + 2) 0)) (by first | exact rdF hFVB | exact rdF (rdF2 hFVB hq143_1)) (by first | exact rdL hLVB (by omega) | exact rdL (rdL2 hLVB hq143_1) (by omega)) (by first | exact rdB1 hGVB (by assumption) | exact rdG1 hGVB (by assumption) e47VB e12VB hq143_0 hq143_1)
            refine x_aload_n C 0 dX12_reads_89 rfl rfl ?_
            refine x_getr C ok_Model 42 19 (d := 49) dX12_reads_90 (lt67 hn rfl) rfl (by decide) rfl q_4_7 rfl (kz := 19) rfl (lr_42_19 hLR) ?_
            refine x_iconst C dX12_reads_93 ?_
            refine x_iload_n C 1 dX12_reads_94 rfl rfl ?_
            refine x_imul C dX12_reads_95 ?_
            refine x_iconst C dX12_reads_96 ?_
            refine x_iadd C dX12_reads_97 ?_
            refine x_aload_n C 0 dX12_reads_98 rfl rfl ?_
            refine x_geti C ok_Model 42 18 dX12_reads_99 (lt67 hn rfl) rfl (by decide) rfl q_15_16 rfl (kz := 18) rfl (fun rg99 => ?_)
            refine x_if_eq C dX12_reads_102 (tgt := 109) (by decide) (by first | assumption | (constructor <;> omega)) (fun h102 => ?_) (fun h102 => ?_)
            · skip
              refine x_aload_n C 0 dX12_reads_109 rfl rfl ?_
              refine x_bipush C dX12_reads_110 (w := 48) (by decide) ?_
              refine x_bipush C dX12_reads_112 (w := 55) (by decide) ?_
              refine x_runU (r_callV C ok_Model 42 (lt67 hn rfl) rfl (ce_X12_digit) (m_X12_digit G n VA R (48) (55) hn hLR (by omega) (by rw [e12VA]; exact hn12) (by exact hbyVA) (by omega) (by first | assumption | omega | decide) (by first | assumption | omega | decide)) rfl dX12_reads_114 q_16_9 q_16_10 q_16_11 rfl rfl ⟨Nat.le_of_ble_eq_true rfl, Nat.le_of_ble_eq_true rfl⟩ ⟨rfl, rfl⟩ ⟨Nat.le_of_ble_eq_true rfl, Nat.le_of_ble_eq_true rfl⟩ (Nat.le_of_ble_eq_true rfl)) (fun v114 u114 hp114 => ?_)
              obtain ⟨V1_114, rfl, rfl, hq114_0, hq114_1⟩ := hp114
              show Xw K G 0 0 _ n V1_114 R 117 [(0, .ref (aG G 42)), (1, .int (iI k)), (2, .int (iI (kbT (hereT (V2 47) (V2 42 12) (V2 42 17)))))] [.int (iI ((hereT (VA 47) (VA 42 12) (VA 42 17)) - 48)), .int (iI ((4 * k) + 1)), .ref (aG G 49)]
              refine x_iast C 49 dX12_reads_117 (lt67 hn rfl) rfl (by refine ⟨?_, ?_⟩ <;> omega) (by first | assumption | (constructor <;> omega)) ?_
              exact lp_118 ((u2 V1_114 49 ((4 * k) + 1) ((hereT (VA 47) (VA 42 12) (VA 42 17)) - 48))) (by first | exact rdF hFVA | exact rdF (rdF2 hFVA hq114_1)) (by first | exact rdL hLVA (by omega) | exact rdL (rdL2 hLVA hq114_1) (by omega)) (by first | exact rdB0 hGVA (by assumption) | exact rdG0 hGVA (by assumption) e47VA e12VA hq114_0 hq114_1)
            · skip
              refine x_iconst C dX12_reads_105 ?_
              refine x_goto C dX12_reads_106 (tgt := 117) (by decide) ?_
              refine x_iast C 49 dX12_reads_117 (lt67 hn rfl) rfl (by refine ⟨?_, ?_⟩ <;> omega) (by first | assumption | (constructor <;> omega)) ?_
              exact lp_118 ((u2 VA 49 ((4 * k) + 1) 0)) (by first | exact rdF hFVA | exact rdF (rdF2 hFVA hq114_1)) (by first | exact rdL hLVA (by omega) | exact rdL (rdL2 hLVA hq114_1) (by omega)) (by first | exact rdB0 hGVA (by assumption) | exact rdG0 hGVA (by assumption) e47VA e12VA hq114_0 hq114_1)
          refine x_aload_n C 0 dX12_reads_46 rfl rfl ?_
          refine x_iload_n C 2 dX12_reads_47 rfl rfl ?_
          refine x_if_ge C dX12_reads_48 (tgt := 55) (by decide) (by first | assumption | (constructor <;> omega)) (fun h48 => ?_) (fun h48 => ?_)
          · skip
            refine x_iconst C dX12_reads_55 ?_
            refine x_puti C ok_Model 42 18 dX12_reads_56 (lt67 hn rfl) rfl (by decide) rfl q_15_16 rfl rfl (Or.inr ⟨rfl, by first | exact Or.inl rfl | exact Or.inr rfl | omega⟩) (by first | assumption | (constructor <;> omega)) (kz := 18) rfl ?_
            refine x_aload_n C 0 dX12_reads_59 rfl rfl ?_
            refine x_dup C dX12_reads_60 rfl ?_
            refine x_geti C ok_Model 42 17 dX12_reads_61 (lt67 hn rfl) rfl (by decide) rfl q_15_17 rfl (kz := 17) rfl (fun rg61 => ?_)
            refine x_top (b := (V2 42 17)) (by first | rfl | (simp only [u2_at]; simp) | (simp only [u2_at]; first | (rw [if_neg (by omega)]) | omega)) ?_
            refine x_aload_n C 0 dX12_reads_64 rfl rfl ?_
            refine x_geti C ok_Model 42 18 dX12_reads_65 (lt67 hn rfl) rfl (by decide) rfl q_15_16 rfl (kz := 18) rfl (fun rg65 => ?_)
            refine x_top (b := 0) (by first | rfl | (simp only [u2_at]; simp) | (simp only [u2_at]; first | (rw [if_neg (by omega)]) | omega)) ?_
            refine x_if_eq C dX12_reads_68 (tgt := 75) (by decide) (by first | assumption | (constructor <;> omega)) (fun h68 => ?_) (fun h68 => (by exfalso; omega))
            refine x_iconst C dX12_reads_75 ?_
            refine x_iadd C dX12_reads_76 ?_
            refine x_puti C ok_Model 42 17 dX12_reads_77 (lt67 hn rfl) rfl (by decide) rfl q_15_17 rfl rfl (Or.inl rfl) (by first | assumption | (constructor <;> omega)) (kz := 17) rfl ?_
            refine x_aload_n C 0 dX12_reads_80 rfl rfl ?_
            refine x_getr C ok_Model 42 19 (d := 49) dX12_reads_81 (lt67 hn rfl) rfl (by decide) rfl q_4_7 rfl (kz := 19) rfl (lr_42_19 hLR) ?_
            refine x_iconst C dX12_reads_84 ?_
            refine x_iload_n C 1 dX12_reads_85 rfl rfl ?_
            refine x_imul C dX12_reads_86 ?_
            refine x_iload_n C 2 dX12_reads_87 rfl rfl ?_
            refine x_iast C 49 dX12_reads_88 (lt67 hn rfl) rfl (by refine ⟨?_, ?_⟩ <;> omega) (by first | assumption | (constructor <;> omega)) ?_
            exact lp_89 ((u2 (u2 (u2 V2 42 18 0) 42 17 ((V2 42 17) + 1)) 49 (4 * k) (kbT (hereT (V2 47) (V2 42 12) (V2 42 17))))) (by exact rdI hF) (by exact rdIL) (by first | exact rdA0 e47 e12 (by assumption) | exact rdA1 e47 e12 i4 (by assumption))
          · skip
            refine x_iconst C dX12_reads_51 ?_
            refine x_goto C dX12_reads_52 (tgt := 56) (by decide) ?_
            refine x_puti C ok_Model 42 18 dX12_reads_56 (lt67 hn rfl) rfl (by decide) rfl q_15_16 rfl rfl (Or.inr ⟨rfl, by first | exact Or.inl rfl | exact Or.inr rfl | omega⟩) (by first | assumption | (constructor <;> omega)) (kz := 18) rfl ?_
            refine x_aload_n C 0 dX12_reads_59 rfl rfl ?_
            refine x_dup C dX12_reads_60 rfl ?_
            refine x_geti C ok_Model 42 17 dX12_reads_61 (lt67 hn rfl) rfl (by decide) rfl q_15_17 rfl (kz := 17) rfl (fun rg61 => ?_)
            refine x_top (b := (V2 42 17)) (by first | rfl | (simp only [u2_at]; simp) | (simp only [u2_at]; first | (rw [if_neg (by omega)]) | omega)) ?_
            refine x_aload_n C 0 dX12_reads_64 rfl rfl ?_
            refine x_geti C ok_Model 42 18 dX12_reads_65 (lt67 hn rfl) rfl (by decide) rfl q_15_16 rfl (kz := 18) rfl (fun rg65 => ?_)
            refine x_top (b := 1) (by first | rfl | (simp only [u2_at]; simp) | (simp only [u2_at]; first | (rw [if_neg (by omega)]) | omega)) ?_
            refine x_if_eq C dX12_reads_68 (tgt := 75) (by decide) (by first | assumption | (constructor <;> omega)) (fun h68 => (by exfalso; omega)) (fun h68 => ?_)
            refine x_iconst C dX12_reads_71 ?_
            refine x_goto C dX12_reads_72 (tgt := 76) (by decide) ?_
            refine x_iadd C dX12_reads_76 ?_
            refine x_puti C ok_Model 42 17 dX12_reads_77 (lt67 hn rfl) rfl (by decide) rfl q_15_17 rfl rfl (Or.inl rfl) (by first | assumption | (constructor <;> omega)) (kz := 17) rfl ?_
            refine x_aload_n C 0 dX12_reads_80 rfl rfl ?_
            refine x_getr C ok_Model 42 19 (d := 49) dX12_reads_81 (lt67 hn rfl) rfl (by decide) rfl q_4_7 rfl (kz := 19) rfl (lr_42_19 hLR) ?_
            refine x_iconst C dX12_reads_84 ?_
            refine x_iload_n C 1 dX12_reads_85 rfl rfl ?_
            refine x_imul C dX12_reads_86 ?_
            refine x_iload_n C 2 dX12_reads_87 rfl rfl ?_
            refine x_iast C 49 dX12_reads_88 (lt67 hn rfl) rfl (by refine ⟨?_, ?_⟩ <;> omega) (by first | assumption | (constructor <;> omega)) ?_
            exact lp_89 ((u2 (u2 (u2 V2 42 18 1) 42 17 ((V2 42 17) + 0)) 49 (4 * k) (kbT (hereT (V2 47) (V2 42 12) (V2 42 17))))) (by exact rdI hF) (by exact rdIL) (by first | exact rdA0 e47 e12 (by assumption) | exact rdA1 e47 e12 i4 (by assumption))
        refine x_iload_n C 1 dX12_reads_23 rfl rfl ?_
        refine x_if_eq C dX12_reads_24 (tgt := 38) (by decide) (by first | assumption | (constructor <;> omega)) (fun h24 => ?_) (fun h24 => ?_)
        · skip
          exact lp_38 () (by omega)
        · skip
          refine x_aload_n C 0 dX12_reads_27 rfl rfl ?_
          refine x_geti C ok_Model 42 17 dX12_reads_28 (lt67 hn rfl) rfl (by decide) rfl q_15_17 rfl (kz := 17) rfl (fun rg28 => ?_)
          refine x_aload_n C 0 dX12_reads_31 rfl rfl ?_
          refine x_geti C ok_Model 42 12 dX12_reads_32 (lt67 hn rfl) rfl (by decide) rfl q_8_0 rfl (kz := 12) rfl (fun rg32 => ?_)
          refine x_icmp_ge C dX12_reads_35 (tgt := 193) (by decide) (by first | assumption | (constructor <;> omega)) (by first | assumption | (constructor <;> omega)) (fun h35 => ?_) (fun h35 => ?_)
          · skip
            refine x_iload_n C 1 dX12_reads_193 rfl rfl ?_
            refine x_iret C dX12_reads_194 ⟨_, _, rfl, rfl, ?_, ?_⟩
            · exact hF
            · first | (obtain ⟨L, hL⟩ : ∃ L, (prs (V 47) (V 42 12) (skS (V 47) (V 42 12) 0)) = (L, V2 42 17) := (by rcases hst with ⟨q, _⟩ | ⟨_, q⟩; (exfalso; omega); exact q); exact Or.inr ⟨by omega, by rw [hL], hp2.1, hp2.2⟩) | (obtain ⟨i1, i2, i3, i4, i5, i6, i7⟩ : (V2 42 18 = 0 ∧ k = D.length ∧ 4 * k ≤ V2 42 17 ∧ (V2 42 17 ≤ V 42 12) ∧ (∀ i : Int, 0 ≤ i → i < D.length → rowT (V 47) (lat D i) (V2 49) i) ∧ (k = 0 ∨ V2 42 17 < V 42 12 → (prs (V 47) (V 42 12) (skS (V 47) (V 42 12) 0)) = (D ++ (prs (V 47) (V 42 12) (V2 42 17)).1, (prs (V 47) (V 42 12) (V2 42 17)).2)) ∧ (¬ (k = 0 ∨ V2 42 17 < V 42 12) → (prs (V 47) (V 42 12) (skS (V 47) (V 42 12) 0)) = (D, -1))) := (by rcases hst with h | ⟨q, _⟩; exact h; omega); have hL := i7 (by omega); exact Or.inl ⟨by omega, by rw [hL], by rw [hL]; exact i2, by omega, by rw [hL]; exact fun q a b => i5 q a (by omega)⟩)
          · skip
            exact lp_38 () (by omega)
  exact lp_16 (((46 : Int) - V1_13 42 17 + (1 - V1_13 42 18)*50 + 0).toNat + 1) (0) ([]) (V1_13) (by omega) (by exact fun q z a b => (hq13_1 q z (by omega)).trans (by rw [u2_at, if_neg (by omega), u2_at, if_neg (by omega)])) (by omega) (by exact Or.inl ⟨s18, rfl, by omega, by omega, fun q a b => (by have b2 : q < 0 := b; omega), fun _ => by rw [s17]; rfl, fun a => absurd (Or.inl rfl) a⟩) (by omega)
set_option maxRecDepth 100000 in
set_option maxHeartbeats 4000000 in
theorem m_X12_text (G : GS) (n : Nat) (V : Nat → Int → Int) (R : Nat → Int → Option Nat) (hn : 67 ≤ n) (hLR : LR R) (hn12 : 0 ≤ V 42 12 ∧ V 42 12 ≤ 40) (hby : ∀ z, 0 ≤ z → z < V 42 12 → 0 ≤ V 47 z ∧ V 47 z ≤ 255) (h4 : 0 ≤ V 42 4 ∧ V 42 4 ≤ 8) : Cn G yX12_text cX12_text 3 (some .int) (rmk 4 0 0 86) [.ref (aG G 42)] n V R 0 0 (fun vv uu => ∃ (r : Int), ∃ (V1 : Nat → Int → Int), vv = some (.int (iI r)) ∧ uu = (n, V1, R) ∧ (∀ q z, q ≠ 49 → q ≠ 43 → ¬ (q = 42 ∧ (z = 4 ∨ z = 12 ∨ z = 17 ∨ z = 18)) → V1 q z = V q z) ∧ ((V 42 2 = 0 ∧ r = -3 ∧ V1 = V) ∨ (V 42 2 ≠ 0 ∧ (prs (V 47) (V 42 12) (skS (V 47) (V 42 12) 0)).2 ≠ -1 ∧ r = -100 - (prs (V 47) (V 42 12) (skS (V 47) (V 42 12) 0)).2 ∧ 0 ≤ (prs (V 47) (V 42 12) (skS (V 47) (V 42 12) 0)).2 ∧ (prs (V 47) (V 42 12) (skS (V 47) (V 42 12) 0)).2 ≤ 40 ∧ V1 42 12 = 0 ∧ V1 42 4 = V 42 4 ∧ V1 43 = V 43) ∨ (V 42 2 ≠ 0 ∧ (prs (V 47) (V 42 12) (skS (V 47) (V 42 12) 0)).2 = -1 ∧ 8 < V 42 4 + (prs (V 47) (V 42 12) (skS (V 47) (V 42 12) 0)).1.length ∧ r = -4 ∧ V1 42 12 = 0 ∧ V1 42 4 = V 42 4 ∧ V1 43 = V 43) ∨ (V 42 2 ≠ 0 ∧ (prs (V 47) (V 42 12) (skS (V 47) (V 42 12) 0)).2 = -1 ∧ V 42 4 + (prs (V 47) (V 42 12) (skS (V 47) (V 42 12) 0)).1.length ≤ 8 ∧ r = V 42 4 + (prs (V 47) (V 42 12) (skS (V 47) (V 42 12) 0)).1.length ∧ V1 42 12 = 0 ∧ V1 42 4 = r ∧ (∀ z, ¬ (4 * V 42 4 ≤ z ∧ z < 4 * r) → V1 43 z = V 43 z) ∧ (∀ q : Int, 0 ≤ q → q < (prs (V 47) (V 42 12) (skS (V 47) (V 42 12) 0)).1.length → rowT (V 47) (lat (prs (V 47) (V 42 12) (skS (V 47) (V 42 12) 0)).1 q) (V1 43) (V 42 4 + q))))) := by
  refine Cn.of (by decide) (Nat.le_of_ble_eq_true rfl) (fun K C hct => ?_)
  show Xw K G 0 0 _ n V R 0 [(0, .ref (aG G 42))] []
  refine x_aload_n C 0 dX12_text_0 rfl rfl ?_
  refine x_geti C ok_Model 42 2 dX12_text_1 (lt67 hn rfl) rfl (by decide) rfl q_6_12 rfl (kz := 2) rfl (fun rg1 => ?_)
  refine x_if_ne C dX12_text_4 (tgt := 10) (by decide) (by first | assumption | (constructor <;> omega)) (fun h4 => ?_) (fun h4 => ?_)
  · skip
    refine x_aload_n C 0 dX12_text_10 rfl rfl ?_
    refine x_runU (r_callV C ok_Model 42 (lt67 hn rfl) rfl (ce_X12_reads) (m_X12_reads G n V R hn hLR (by first | assumption | omega | decide) (by first | assumption | omega | decide)) rfl dX12_text_11 q_15_18 q_15_19 q_15_20 rfl rfl ⟨Nat.le_of_ble_eq_true rfl, Nat.le_of_ble_eq_true rfl⟩ ⟨rfl, rfl⟩ ⟨Nat.le_of_ble_eq_true rfl, Nat.le_of_ble_eq_true rfl⟩ (Nat.le_of_ble_eq_true rfl)) (fun v11 u11 hp11 => ?_)
    obtain ⟨r_11, V1_11, rfl, rfl, hq11_0, hq11_1⟩ := hp11
    show Xw K G 0 0 _ n V1_11 R 14 [(0, .ref (aG G 42))] [.int (iI r_11)]
    refine x_istore_n C dX12_text_14 rfl (by decide) (lv' := [(0, .ref (aG G 42)), (1, .int (iI r_11))]) rfl ?_
    refine x_aload_n C 0 dX12_text_15 rfl rfl ?_
    refine x_iconst C dX12_text_16 ?_
    refine x_puti C ok_Model 42 12 dX12_text_17 (lt67 hn rfl) rfl (by decide) rfl q_8_0 rfl rfl (Or.inl rfl) (by first | assumption | (constructor <;> omega)) (kz := 12) rfl ?_
    obtain ⟨VA, h_VA⟩ : ∃ x : Nat → Int → Int, x = (u2 V1_11 42 12 0) := ⟨_, rfl⟩
    rw [← h_VA]
    have hFA : ∀ q z, q ≠ 49 → ¬ (q = 42 ∧ (z = 12 ∨ z = 17 ∨ z = 18)) → VA q z = V q z := by intro q z a b; rw [h_VA, u2_at, if_neg (by omega)]; exact hq11_0 q z a (by omega)
    have a12 : VA 42 12 = 0 := by rw [h_VA, u2_s, u1_s]
    have a17 : VA 42 17 = V1_11 42 17 := by rw [h_VA, u2_at, if_neg (by decide)]
    have a18 : VA 42 18 = V1_11 42 18 := by rw [h_VA, u2_at, if_neg (by decide)]
    have a49 : ∀ z, VA 49 z = V1_11 49 z := fun z => by rw [h_VA, u2_at, if_neg (by omega)]
    have a4 : VA 42 4 = V 42 4 := hFA 42 4 (by decide) (by omega)
    have a43 : VA 43 = V 43 := funext fun z => hFA 43 z (by decide) (by omega)
    clear h_VA
    have hr11 : 0 ≤ r_11 ∨ V1_11 42 18 = 1 := by (rcases hq11_1 with h | h; (exact Or.inl (by omega)); exact Or.inr (by omega))
    refine x_aload_n C 0 dX12_text_20 rfl rfl ?_
    refine x_geti C ok_Model 42 18 dX12_text_21 (lt67 hn rfl) rfl (by decide) rfl q_15_16 rfl (kz := 18) rfl (fun rg21 => ?_)
    refine x_if_eq C dX12_text_24 (tgt := 35) (by decide) (by first | assumption | (constructor <;> omega)) (fun h24 => ?_) (fun h24 => ?_)
    · skip
      obtain ⟨g1, g2, g3, g4⟩ : (prs (V 47) (V 42 12) (skS (V 47) (V 42 12) 0)).2 = -1 ∧ r_11 = (prs (V 47) (V 42 12) (skS (V 47) (V 42 12) 0)).1.length ∧ 4 * r_11 ≤ V 42 12 ∧ (∀ q : Int, 0 ≤ q → q < r_11 → rowT (V 47) (lat (prs (V 47) (V 42 12) (skS (V 47) (V 42 12) 0)).1 q) (V1_11 49) q) := by (rcases hq11_1 with h | h; exact h.2; omega)
      have h24b : VA 42 18 = 0 := by omega
      refine x_aload_n C 0 dX12_text_35 rfl rfl ?_
      refine x_geti C ok_Model 42 4 dX12_text_36 (lt67 hn rfl) rfl (by decide) rfl q_6_14 rfl (kz := 4) rfl (fun rg36 => ?_)
      refine x_iload_n C 1 dX12_text_39 rfl rfl ?_
      refine x_iadd C dX12_text_40 ?_
      refine x_bipush C dX12_text_41 (w := 8) (by decide) ?_
      refine x_icmp_le C dX12_text_43 (tgt := 49) (by decide) (by first | assumption | (constructor <;> omega)) (by first | assumption | (constructor <;> omega)) (fun h43 => ?_) (fun h43 => ?_)
      · skip
        refine x_iconst C dX12_text_49 ?_
        refine x_istore_n C dX12_text_50 rfl (by decide) (lv' := [(0, .ref (aG G 42)), (1, .int (iI r_11)), (2, .int (iI 0))]) rfl ?_
        have lp_51 : ∀ (fuel : Nat) (m : Int) (V2 : Nat → Int → Int), (0 ≤ m ∧ m ≤ 4 * r_11) → (∀ q z, q ≠ 43 → V2 q z = VA q z) → (∀ z, 0 ≤ z → z < m → V2 43 (4 * V 42 4 + z) = VA 49 z) → (∀ z, ¬ (4 * V 42 4 ≤ z ∧ z < 4 * V 42 4 + m) → V2 43 z = V 43 z) → ((4 * r_11 + 1) - m) < (fuel : Int) → Xw K G 0 0 (EndQ K G 0 0 (fun vv uu => ∃ (r : Int), ∃ (V1 : Nat → Int → Int), vv = some (.int (iI r)) ∧ uu = (n, V1, R) ∧ (∀ q z, q ≠ 49 → q ≠ 43 → ¬ (q = 42 ∧ (z = 4 ∨ z = 12 ∨ z = 17 ∨ z = 18)) → V1 q z = V q z) ∧ ((V 42 2 = 0 ∧ r = -3 ∧ V1 = V) ∨ (V 42 2 ≠ 0 ∧ (prs (V 47) (V 42 12) (skS (V 47) (V 42 12) 0)).2 ≠ -1 ∧ r = -100 - (prs (V 47) (V 42 12) (skS (V 47) (V 42 12) 0)).2 ∧ 0 ≤ (prs (V 47) (V 42 12) (skS (V 47) (V 42 12) 0)).2 ∧ (prs (V 47) (V 42 12) (skS (V 47) (V 42 12) 0)).2 ≤ 40 ∧ V1 42 12 = 0 ∧ V1 42 4 = V 42 4 ∧ V1 43 = V 43) ∨ (V 42 2 ≠ 0 ∧ (prs (V 47) (V 42 12) (skS (V 47) (V 42 12) 0)).2 = -1 ∧ 8 < V 42 4 + (prs (V 47) (V 42 12) (skS (V 47) (V 42 12) 0)).1.length ∧ r = -4 ∧ V1 42 12 = 0 ∧ V1 42 4 = V 42 4 ∧ V1 43 = V 43) ∨ (V 42 2 ≠ 0 ∧ (prs (V 47) (V 42 12) (skS (V 47) (V 42 12) 0)).2 = -1 ∧ V 42 4 + (prs (V 47) (V 42 12) (skS (V 47) (V 42 12) 0)).1.length ≤ 8 ∧ r = V 42 4 + (prs (V 47) (V 42 12) (skS (V 47) (V 42 12) 0)).1.length ∧ V1 42 12 = 0 ∧ V1 42 4 = r ∧ (∀ z, ¬ (4 * V 42 4 ≤ z ∧ z < 4 * r) → V1 43 z = V 43 z) ∧ (∀ q : Int, 0 ≤ q → q < (prs (V 47) (V 42 12) (skS (V 47) (V 42 12) 0)).1.length → rowT (V 47) (lat (prs (V 47) (V 42 12) (skS (V 47) (V 42 12) 0)).1 q) (V1 43) (V 42 4 + q)))))) n V2 R 51 [(0, .ref (aG G 42)), (1, .int (iI r_11)), (2, .int (iI m))] [] := by
          intro fuel51
          induction fuel51 with
          | zero => intro m V2 hm hF2 hC hE hfu51; exfalso; omega
          | succ fuel51 ih51 =>
            intro m V2 hm hF2 hC hE hfu51
            have b4 : V2 42 4 = V 42 4 := (hF2 42 4 (by decide)).trans a4
            refine x_iload_n C 2 dX12_text_51 rfl rfl ?_
            refine x_iconst C dX12_text_52 ?_
            refine x_iload_n C 1 dX12_text_53 rfl rfl ?_
            refine x_imul C dX12_text_54 ?_
            refine x_icmp_ge C dX12_text_55 (tgt := 83) (by decide) (by first | assumption | (constructor <;> omega)) (by first | assumption | (constructor <;> omega)) (fun h55 => ?_) (fun h55 => ?_)
            · skip
              refine x_aload_n C 0 dX12_text_83 rfl rfl ?_
              refine x_dup C dX12_text_84 rfl ?_
              refine x_geti C ok_Model 42 4 dX12_text_85 (lt67 hn rfl) rfl (by decide) rfl q_6_14 rfl (kz := 4) rfl (fun rg85 => ?_)
              refine x_iload_n C 1 dX12_text_88 rfl rfl ?_
              refine x_iadd C dX12_text_89 ?_
              refine x_puti C ok_Model 42 4 dX12_text_90 (lt67 hn rfl) rfl (by decide) rfl q_6_14 rfl rfl (Or.inl rfl) (by first | assumption | (constructor <;> omega)) (kz := 4) rfl ?_
              refine x_aload_n C 0 dX12_text_93 rfl rfl ?_
              refine x_geti C ok_Model 42 4 dX12_text_94 (lt67 hn rfl) rfl (by decide) rfl q_6_14 rfl (kz := 4) rfl (fun rg94 => ?_)
              refine x_top (b := ((V2 42 4) + r_11)) (by first | rfl | (simp only [u2_at]; simp) | (simp only [u2_at]; first | (rw [if_neg (by omega)]) | omega)) ?_
              refine x_iret C dX12_text_97 ⟨_, _, rfl, rfl, ?_, ?_⟩
              · exact fun q z a c b => by rw [u2_at, if_neg (by omega)]; exact (hF2 q z c).trans (hFA q z a (by omega))
              · exact Or.inr (Or.inr (Or.inr ⟨by omega, g1, by omega, by omega, by rw [u2_at, if_neg (by decide)]; exact (hF2 42 12 (by decide)).trans a12, by rw [u2_s, u1_s], fun z a => by rw [u2_at, if_neg (by omega)]; exact hE z (by omega), by rw [u2_n (by decide)]; exact rdZ (by omega) (fun q a b => g4 q a (by omega)) (fun z a b => (hC z a (by omega)).trans (a49 z))⟩))
            · skip
              refine x_aload_n C 0 dX12_text_58 rfl rfl ?_
              refine x_getr C ok_Model 42 5 (d := 43) dX12_text_59 (lt67 hn rfl) rfl (by decide) rfl q_4_1 rfl (kz := 5) rfl (lr_42_5 hLR) ?_
              refine x_iconst C dX12_text_62 ?_
              refine x_aload_n C 0 dX12_text_63 rfl rfl ?_
              refine x_geti C ok_Model 42 4 dX12_text_64 (lt67 hn rfl) rfl (by decide) rfl q_6_14 rfl (kz := 4) rfl (fun rg64 => ?_)
              refine x_imul C dX12_text_67 ?_
              refine x_iload_n C 2 dX12_text_68 rfl rfl ?_
              refine x_iadd C dX12_text_69 ?_
              refine x_aload_n C 0 dX12_text_70 rfl rfl ?_
              refine x_getr C ok_Model 42 19 (d := 49) dX12_text_71 (lt67 hn rfl) rfl (by decide) rfl q_4_7 rfl (kz := 19) rfl (lr_42_19 hLR) ?_
              refine x_iload_n C 2 dX12_text_74 rfl rfl ?_
              refine x_iald C 49 dX12_text_75 (lt67 hn rfl) rfl (by refine ⟨?_, ?_⟩ <;> omega) (fun rg75 => ?_)
              refine x_iast C 43 dX12_text_76 (lt67 hn rfl) rfl (by refine ⟨?_, ?_⟩ <;> omega) (by first | assumption | (constructor <;> omega)) ?_
              refine x_iinc C 2 dX12_text_77 rfl (by decide) (lv' := [(0, .ref (aG G 42)), (1, .int (iI r_11)), (2, .int (iI (m + 1)))]) rfl ?_
              refine x_goto C dX12_text_80 (tgt := 51) (by decide) ?_
              exact ih51 ((m + 1)) ((u2 V2 43 ((4 * (V2 42 4)) + m) (V2 49 m))) (by omega) (by exact fun q z a => by rw [u2_at, if_neg (fun x => a x.1)]; exact hF2 q z a) (by exact fun z a b => by (rw [u2_at, b4]; by_cases e : z = m; (rw [if_pos ⟨rfl, by omega⟩, e]; exact hF2 49 m (by decide)); (rw [if_neg (by omega)]; exact hC z a (by omega)))) (by exact fun z a => by rw [u2_at, if_neg (by omega)]; exact hE z (by omega)) (by omega)
        exact lp_51 (((4 * r_11 + 1) - 0).toNat + 1) (0) (VA) (by omega) (by exact fun _ _ _ => rfl) (by exact fun z a b => by omega) (by exact fun z a => by rw [a43]) (by omega)
      · skip
        refine x_bipush C dX12_text_46 (w := -4) (by decide) ?_
        refine x_iret C dX12_text_48 ⟨_, _, rfl, rfl, ?_, ?_⟩
        · exact fun q z a _ b => hFA q z a (by omega)
        · exact Or.inr (Or.inr (Or.inl ⟨by omega, g1, by omega, rfl, a12, a4, a43⟩))
    · skip
      obtain ⟨g1, g2, g3⟩ : (prs (V 47) (V 42 12) (skS (V 47) (V 42 12) 0)).2 = V1_11 42 17 ∧ 0 ≤ V1_11 42 17 ∧ V1_11 42 17 ≤ 40 := by (rcases hq11_1 with h | h; omega; exact h.2)
      refine x_bipush C dX12_text_27 (w := -100) (by decide) ?_
      refine x_aload_n C 0 dX12_text_29 rfl rfl ?_
      refine x_geti C ok_Model 42 17 dX12_text_30 (lt67 hn rfl) rfl (by decide) rfl q_15_17 rfl (kz := 17) rfl (fun rg30 => ?_)
      refine x_isub C dX12_text_33 ?_
      refine x_iret C dX12_text_34 ⟨_, _, rfl, rfl, ?_, ?_⟩
      · exact fun q z a _ b => hFA q z a (by omega)
      · exact Or.inr (Or.inl ⟨by omega, by omega, by omega, by omega, by omega, a12, a4, a43⟩)
  · skip
    refine x_bipush C dX12_text_7 (w := -3) (by decide) ?_
    refine x_iret C dX12_text_9 ⟨_, _, rfl, rfl, ?_, ?_⟩
    · exact fun _ _ _ _ _ => rfl
    · exact Or.inl ⟨by omega, rfl, rfl⟩
