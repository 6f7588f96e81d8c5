theorem okT_b {lo hi : Int} {T : Int → Int} {n q : Int} : True := trivial
/-- where the item at p goes wrong, or -1 -/
noncomputable def itE (T : Int → Int) (n p : Int) : Int := cif (¬ (p < n ∧ 0 ≤ kbT (T p))) p (cif (¬ (p + 1 < n ∧ 48 ≤ T (p + 1) ∧ T (p + 1) ≤ 55)) (p + 1) (cif (¬ (p + 2 < n ∧ 48 ≤ T (p + 2) ∧ T (p + 2) ≤ 55)) (p + 2) (cif (¬ (p + 3 < n ∧ 49 ≤ T (p + 3) ∧ T (p + 3) ≤ 52)) (p + 3) (-1))))
theorem itE_ok {T : Int → Int} {n p : Int} (h0 : p < n ∧ 0 ≤ kbT (T p)) (h1 : p + 1 < n ∧ 48 ≤ T (p + 1) ∧ T (p + 1) ≤ 55) (h2 : p + 2 < n ∧ 48 ≤ T (p + 2) ∧ T (p + 2) ≤ 55) (h3 : p + 3 < n ∧ 49 ≤ T (p + 3) ∧ T (p + 3) ≤ 52) : itE T n p = -1 := by
  unfold itE
  rw [cif_f (fun q => q h0), cif_f (fun q => q h1), cif_f (fun q => q h2), cif_f (fun q => q h3)]
theorem itE_0 {T : Int → Int} {n p : Int} (h0 : ¬ (p < n ∧ 0 ≤ kbT (T p))) : itE T n p = p := by
  unfold itE
  rw [cif_t h0]
theorem itE_1 {T : Int → Int} {n p : Int} (h0 : p < n ∧ 0 ≤ kbT (T p)) (h1 : ¬ (p + 1 < n ∧ 48 ≤ T (p + 1) ∧ T (p + 1) ≤ 55)) : itE T n p = p + 1 := by
  unfold itE
  rw [cif_f (fun q => q h0), cif_t h1]
theorem itE_2 {T : Int → Int} {n p : Int} (h0 : p < n ∧ 0 ≤ kbT (T p)) (h1 : p + 1 < n ∧ 48 ≤ T (p + 1) ∧ T (p + 1) ≤ 55) (h2 : ¬ (p + 2 < n ∧ 48 ≤ T (p + 2) ∧ T (p + 2) ≤ 55)) : itE T n p = p + 2 := by
  unfold itE
  rw [cif_f (fun q => q h0), cif_f (fun q => q h1), cif_t h2]
theorem itE_3 {T : Int → Int} {n p : Int} (h0 : p < n ∧ 0 ≤ kbT (T p)) (h1 : p + 1 < n ∧ 48 ≤ T (p + 1) ∧ T (p + 1) ≤ 55) (h2 : p + 2 < n ∧ 48 ≤ T (p + 2) ∧ T (p + 2) ≤ 55) (h3 : ¬ (p + 3 < n ∧ 49 ≤ T (p + 3) ∧ T (p + 3) ≤ 52)) : itE T n p = p + 3 := by
  unfold itE
  rw [cif_f (fun q => q h0), cif_f (fun q => q h1), cif_f (fun q => q h2), cif_t h3]
/-- the items from p on: their places; the place of the error or -1 -/
noncomputable def prsN (T : Int → Int) (n : Int) : Nat → Int → List Int × Int
  | 0, p => ([], p)
  | f + 1, p => cif (itE T n p = -1) (cif (skS T n (p + 4) < n) (p :: (prsN T n f (skS T n (p + 4))).1, (prsN T n f (skS T n (p + 4))).2) ([p], -1)) ([], itE T n p)
theorem prsN_m {T : Int → Int} {n : Int} : ∀ (f g : Nat) (p : Int), n - p < f → n - p < g → p ≤ n → prsN T n f p = prsN T n g p
  | 0, _, p, h, _, h2 => by omega
  | f + 1, 0, p, _, h, h2 => by omega
  | f + 1, g + 1, p, h1, h2, h3 => by
    show cif _ (cif _ _ _) _ = cif _ (cif _ _ _) _
    by_cases e : itE T n p = -1
    · rw [cif_t e, cif_t e]
      by_cases e2 : skS T n (p + 4) < n
      · have hb := skS_b (T := T) (n := n) (n - (p + 4)).toNat (p + 4) (Nat.le_refl _)
        rw [cif_t e2, cif_t e2, prsN_m f g (skS T n (p + 4)) (by omega) (by omega) (by omega)]
      · rw [cif_f e2, cif_f e2]
    · rw [cif_f e, cif_f e]
noncomputable def prs (T : Int → Int) (n p : Int) : List Int × Int := prsN T n ((n - p).toNat + 1) p
theorem prs_e {T : Int → Int} {n p : Int} (h : itE T n p ≠ -1) : prs T n p = ([], itE T n p) := cif_f h
theorem prs_l {T : Int → Int} {n p : Int} (h : itE T n p = -1) (h2 : ¬ skS T n (p + 4) < n) : prs T n p = ([p], -1) := (cif_t h).trans (cif_f h2)
theorem prs_s {T : Int → Int} {n p : Int} (h : itE T n p = -1) (h2 : skS T n (p + 4) < n) : prs T n p = (p :: (prs T n (skS T n (p + 4))).1, (prs T n (skS T n (p + 4))).2) := by
  have hb := skS_b (T := T) (n := n) (n - (p + 4)).toNat (p + 4) (Nat.le_refl _)
  have e : prsN T n (n - p).toNat (skS T n (p + 4)) = prs T n (skS T n (p + 4)) := prsN_m _ _ _ (by omega) (by omega) (by omega)
  rw [← e]
  exact (cif_t h).trans (cif_t h2)
/-- a row of the items read -/
def rowT (T : Int → Int) (p : Int) (c : Int → Int) (i : Int) : Prop := c (4 * i) = kbT (T p) ∧ c (4 * i + 1) = T (p + 1) - 48 ∧ c (4 * i + 2) = T (p + 2) - 48 ∧ c (4 * i + 3) = T (p + 3) - 48

