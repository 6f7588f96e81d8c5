/-! the best piece of a board, the row of cuts, its boards -/
def BestB (r t L : Int) (f : Int → Int → Int) (m g : Int) (pr : Int → Int) (y k W AR A B S T G : Int) : Prop := BestOf (grP f m g y k) (wP f m g pr y k) (CandP (fun s => fcS r t y k s) L (pr 1)) W AR A B S T G
noncomputable def bestW (r t L : Int) (f : Int → Int → Int) (m g : Int) (pr : Int → Int) (y k : Int) : Int := Classical.epsilon fun W => ∃ AR A B S T G, BestB r t L f m g pr y k W AR A B S T G
noncomputable def bestG (r t L : Int) (f : Int → Int → Int) (m g : Int) (pr : Int → Int) (y k : Int) : Int := Classical.epsilon fun G => ∃ W AR A B S T, 0 < W ∧ BestB r t L f m g pr y k W AR A B S T G
theorem BestB.w {r t L : Int} {f : Int → Int → Int} {m g : Int} {pr : Int → Int} {y k W AR A B S T G : Int} (h : BestB r t L f m g pr y k W AR A B S T G) : W = bestW r t L f m g pr y k := by
  have h2 : ∃ AR A B S T G, BestB r t L f m g pr y k (bestW r t L f m g pr y k) AR A B S T G := Classical.epsilon_spec (p := fun W => ∃ AR A B S T G, BestB r t L f m g pr y k W AR A B S T G) ⟨W, AR, A, B, S, T, G, h⟩
  obtain ⟨AR', A', B', S', T', G', h3⟩ := h2
  exact (BestOf.u h h3).1
theorem BestB.g {r t L : Int} {f : Int → Int → Int} {m g : Int} {pr : Int → Int} {y k W AR A B S T G : Int} (h : BestB r t L f m g pr y k W AR A B S T G) (hw : 0 < W) : G = bestG r t L f m g pr y k := by
  have h2 : ∃ W AR A B S T, 0 < W ∧ BestB r t L f m g pr y k W AR A B S T (bestG r t L f m g pr y k) := Classical.epsilon_spec (p := fun G => ∃ W AR A B S T, 0 < W ∧ BestB r t L f m g pr y k W AR A B S T G) ⟨G, W, AR, A, B, S, T, hw, h⟩
  obtain ⟨W', AR', A', B', S', T', -, h3⟩ := h2
  exact ((BestOf.u h h3).2 hw).2.2.2.2.2
theorem wP_b {f : Int → Int → Int} {m g : Int} {pr : Int → Int} {y k a b s t : Int} (hpr : ∀ z, 2 ≤ z → z ≤ 5 → 0 ≤ pr z ∧ pr z ≤ 99) (hk : 1 ≤ k ∧ k ≤ 4) (ha : 0 ≤ a ∧ a ≤ b + 1) (hb : b ≤ 11) (hs : 0 ≤ s ∧ s ≤ t + 1) (ht : t ≤ 7) : 0 ≤ wP f m g pr y k a b s t ∧ wP f m g pr y k a b s t ≤ 38016 := by
  unfold wP
  have hg := gradeS_b (faceH f m g y a b s t) (faceH f m g (y + k - 1) a b s t) (face9 f m g y a b s t) (face9 f m g (y + k - 1) a b s t) ((b - a + 1) * (t - s + 1))
  change 0 ≤ grP f m g y k a b s t ∧ grP f m g y k a b s t ≤ 4 at hg
  split
  · omega
  · next h =>
    have a1 := mul_bd (a := b - a + 1) (b := t - s + 1) (A := 12) (B := 8) (by omega) (by omega)
    have a2 := mul_bd (a := (b - a + 1) * (t - s + 1)) (b := k) (A := 96) (B := 4) (by omega) (by omega)
    have a3 := mul_bd (a := (b - a + 1) * (t - s + 1) * k) (b := pr (2 + grP f m g y k a b s t)) (A := 384) (B := 99) (by omega) (hpr _ (by omega) (by omega))
    omega
theorem CandP_b {F : Int → Int} {L sv a b s t : Int} (h : CandP F L sv a b s t) (hF : ∀ x, 0 ≤ F x) (hL : 1 ≤ L ∧ L ≤ 8) : (0 ≤ a ∧ a ≤ b) ∧ b ≤ 11 ∧ (0 ≤ s ∧ s ≤ t) ∧ t ≤ L - 1 := by
  have h1 := hF (L - 1)
  have h2 := hF t
  unfold CandP at h
  rcases h with h | h | h
  · omega
  · omega
  · omega
theorem BestB.b {r t L : Int} {f : Int → Int → Int} {m g : Int} {pr : Int → Int} {y k W AR A B S T G : Int} (h : BestB r t L f m g pr y k W AR A B S T G) (hpr : ∀ z, 2 ≤ z → z ≤ 5 → 0 ≤ pr z ∧ pr z ≤ 99) (hk : 1 ≤ k ∧ k ≤ 4) (hL : 1 ≤ L ∧ L ≤ 8) : 0 ≤ W ∧ W ≤ 38016 := by
  rcases h with ⟨q, -⟩ | ⟨h0, h1, h2, -⟩
  · omega
  · obtain ⟨c1, c2, c3, c4⟩ := CandP_b h1 (fun x => (fcS_b _ _ _ _ _).1) hL
    have := wP_b (f := f) (m := m) (g := g) (y := y) (s := S) (t := T) (a := A) (b := B) hpr hk (by omega) (by omega) (by omega) (by omega)
    omega
/-- the part of a best piece that can be used -/
theorem BestB.r {r t L : Int} {f : Int → Int → Int} {m g : Int} {pr : Int → Int} {y k W AR A B S T G : Int} (h : BestB r t L f m g pr y k W AR A B S T G) (hL : 1 ≤ L ∧ L ≤ 8) (hw : 0 < W) : (0 ≤ A ∧ A ≤ B) ∧ B ≤ 11 ∧ (0 ≤ S ∧ S ≤ T) ∧ T ≤ L - 1 ∧ (0 ≤ G ∧ G ≤ 3) := by
  rcases h with ⟨q, -⟩ | ⟨h0, h1, h2, h3, h4, -⟩
  · omega
  · obtain ⟨c1, c2, c3, c4⟩ := CandP_b h1 (fun x => (fcS_b _ _ _ _ _).1) hL
    refine ⟨c1, c2, c3, c4, ?_⟩
    have hg : 0 ≤ grP f m g y k A B S T ∧ grP f m g y k A B S T ≤ 4 := gradeS_b _ _ _ _ _
    rw [h4]
    by_cases e : grP f m g y k A B S T = 4
    · exfalso
      unfold wP at h2
      rw [if_pos e] at h2
      omega
    · omega
def thickP (th n : Int) : Prop := zAnd (zShr th n) 1 = 1
/-- row y: n thicknesses are tried -/
noncomputable def dpS (bw : Int → Int → Int) (th kf : Int) (W : Int → Int) (y : Int) : Nat → Int × Int
  | 0 => (W (y + 1), 0)
  | n + 1 => cif (y + (n + 1) ≤ 12 ∧ thickP th (n + 1) ∧ 0 < bw y (n + 1) ∧ (dpS bw th kf W y n).1 ≤ bw y (n + 1) + W (y + (n + 1) + kf)) (bw y (n + 1) + W (y + (n + 1) + kf), (n + 1 : Int)) (dpS bw th kf W y n)
noncomputable def dpI (bw : Int → Int → Int) (th kf : Int) (W : Int → Int) (y n : Int) : Int × Int := dpS bw th kf W y n.toNat
theorem dpI_s {bw : Int → Int → Int} {th kf : Int} {W : Int → Int} {y n : Int} (h : 1 ≤ n) : dpI bw th kf W y n = cif (y + n ≤ 12 ∧ thickP th n ∧ 0 < bw y n ∧ (dpI bw th kf W y (n - 1)).1 ≤ bw y n + W (y + n + kf)) (bw y n + W (y + n + kf), n) (dpI bw th kf W y (n - 1)) := by
  unfold dpI
  obtain ⟨j, hj⟩ : ∃ j : Nat, n = (j : Int) + 1 := ⟨(n - 1).toNat, by omega⟩
  subst hj
  rw [show ((j : Int) + 1).toNat = j + 1 by omega, show ((j : Int) + 1 - 1).toNat = j by omega]
  rfl
theorem dpI_0 {bw : Int → Int → Int} {th kf : Int} {W : Int → Int} {y : Int} : dpI bw th kf W y 0 = (W (y + 1), 0) := rfl
/-- rows 11, 10 .. : k of them are done -/
noncomputable def dpTab (bw : Int → Int → Int) (th kf : Int) : Nat → (Int → Int) × (Int → Int)
  | 0 => (fun _ => 0, fun _ => 0)
  | k + 1 => (u1 (dpTab bw th kf k).1 (11 - k) (dpI bw th kf (dpTab bw th kf k).1 (11 - k) 4).1, u1 (dpTab bw th kf k).2 (11 - k) (dpI bw th kf (dpTab bw th kf k).1 (11 - k) 4).2)
theorem dpR_ex : ∃ F : (Int → Int → Int) → Int → Int → Int → (Int → Int) × (Int → Int), ∀ bw th kf y, F bw th kf y = dpTab bw th kf (11 - y).toNat := ⟨fun bw th kf y => dpTab bw th kf (11 - y).toNat, fun _ _ _ _ => rfl⟩
/-- (kept shut: nobody unfolds it by chance) -/
noncomputable def dpR : (Int → Int → Int) → Int → Int → Int → (Int → Int) × (Int → Int) := Classical.choose dpR_ex
theorem dpR_e (bw : Int → Int → Int) (th kf y : Int) : dpR bw th kf y = dpTab bw th kf (11 - y).toNat := Classical.choose_spec dpR_ex bw th kf y
theorem dpR_0 {bw : Int → Int → Int} {th kf : Int} : dpR bw th kf 11 = (fun _ => 0, fun _ => 0) := by rw [dpR_e]; rfl
theorem dpR_s {bw : Int → Int → Int} {th kf y : Int} (h : y ≤ 11) : dpR bw th kf (y - 1) = (u1 (dpR bw th kf y).1 y (dpI bw th kf (dpR bw th kf y).1 y 4).1, u1 (dpR bw th kf y).2 y (dpI bw th kf (dpR bw th kf y).1 y 4).2) := by
  rw [dpR_e, dpR_e]
  obtain ⟨j, hj⟩ : ∃ j : Nat, y = 11 - (j : Int) := ⟨(11 - y).toNat, by omega⟩
  subst hj
  rw [show (11 - (11 - (j : Int) - 1)).toNat = j + 1 by omega, show (11 - (11 - (j : Int))).toNat = j by omega]
  rfl
theorem dpI_b {bw : Int → Int → Int} {th kf : Int} {W : Int → Int} {y B : Int} (hW : ∀ z, 0 ≤ W z ∧ W z ≤ B) (hb : ∀ n, 1 ≤ n → n ≤ 4 → y + n ≤ 12 → 0 ≤ bw y n ∧ bw y n ≤ 38016) : ∀ n : Int, 0 ≤ n → n ≤ 4 → (0 ≤ (dpI bw th kf W y n).1 ∧ (dpI bw th kf W y n).1 ≤ B + 38016) ∧ (0 ≤ (dpI bw th kf W y n).2 ∧ (dpI bw th kf W y n).2 ≤ n ∧ y + (dpI bw th kf W y n).2 ≤ max 12 y) ∧ (0 < (dpI bw th kf W y n).2 → 0 < bw y (dpI bw th kf W y n).2) := by
  have key : ∀ n : Nat, n ≤ 4 → (0 ≤ (dpI bw th kf W y n).1 ∧ (dpI bw th kf W y n).1 ≤ B + 38016) ∧ (0 ≤ (dpI bw th kf W y n).2 ∧ (dpI bw th kf W y n).2 ≤ n ∧ y + (dpI bw th kf W y n).2 ≤ max 12 y) ∧ (0 < (dpI bw th kf W y n).2 → 0 < bw y (dpI bw th kf W y n).2) := by
    intro n
    induction n with
    | zero =>
      intro _
      have := hW (y + 1)
      show (0 ≤ W (y + 1) ∧ W (y + 1) ≤ B + 38016) ∧ ((0 : Int) ≤ 0 ∧ (0 : Int) ≤ 0 ∧ y + 0 ≤ max 12 y) ∧ ((0 : Int) < 0 → _)
      exact ⟨by omega, by omega, fun h => by omega⟩
    | succ n ih =>
      intro hn
      have h1 := ih (by omega)
      rw [show ((n + 1 : Nat) : Int) = (n : Int) + 1 by omega, dpI_s (by omega), show (n : Int) + 1 - 1 = n by omega]
      by_cases c : y + ((n : Int) + 1) ≤ 12 ∧ thickP th ((n : Int) + 1) ∧ 0 < bw y ((n : Int) + 1) ∧ (dpI bw th kf W y n).1 ≤ bw y ((n : Int) + 1) + W (y + ((n : Int) + 1) + kf)
      · rw [cif_t c]
        have h2 := hb ((n : Int) + 1) (by omega) (by omega) c.1
        have h3 := hW (y + ((n : Int) + 1) + kf)
        refine ⟨⟨?_, ?_⟩, ⟨?_, ?_, ?_⟩, fun _ => c.2.2.1⟩
        · show 0 ≤ bw y ((n : Int) + 1) + W (y + ((n : Int) + 1) + kf); omega
        · show bw y ((n : Int) + 1) + W (y + ((n : Int) + 1) + kf) ≤ _; omega
        · show 0 ≤ (n : Int) + 1; omega
        · show (n : Int) + 1 ≤ _; omega
        · show y + ((n : Int) + 1) ≤ _; omega
      · rw [cif_f c]
        exact ⟨h1.1, ⟨h1.2.1.1, by omega, h1.2.1.2.2⟩, h1.2.2⟩
  intro n h0 h4
  have := key n.toNat (by omega)
  rw [Int.toNat_of_nonneg h0] at this
  exact this
theorem dpTab_b {bw : Int → Int → Int} {th kf : Int} (hb : ∀ y n, 0 ≤ y → 1 ≤ n → n ≤ 4 → y + n ≤ 12 → 0 ≤ bw y n ∧ bw y n ≤ 38016) : ∀ k : Nat, k ≤ 12 → (∀ z, 0 ≤ (dpTab bw th kf k).1 z ∧ (dpTab bw th kf k).1 z ≤ 38016 * k) ∧ (∀ z, 0 ≤ (dpTab bw th kf k).2 z ∧ (dpTab bw th kf k).2 z ≤ 4 ∧ ((dpTab bw th kf k).2 z = 0 ∨ (0 ≤ z ∧ z + (dpTab bw th kf k).2 z ≤ 12))) ∧ (∀ z, 0 < (dpTab bw th kf k).2 z → 0 < bw z ((dpTab bw th kf k).2 z)) ∧ (∀ z, 12 ≤ z → (dpTab bw th kf k).1 z = 0)
  | 0, _ => ⟨fun z => ⟨Int.le_refl _, by show (0 : Int) ≤ 38016 * 0; decide⟩, fun z => ⟨Int.le_refl _, by show (0 : Int) ≤ 4; decide, Or.inl rfl⟩, fun z h => absurd h (Int.lt_irrefl _), fun _ _ => rfl⟩
  | k + 1, hk => by
    obtain ⟨h1, h2, h3, h4⟩ := dpTab_b (th := th) (kf := kf) hb k (by omega)
    have h5 := dpI_b (th := th) (kf := kf) (y := 11 - k) h1 (fun n a b c => hb (11 - k) n (by omega) a b c) 4 (by decide) (by decide)
    have e : (38016 : Int) * ((k + 1 : Nat) : Int) = 38016 * k + 38016 := by omega
    refine ⟨fun z => ?_, fun z => ?_, fun z => ?_, fun z hz => ?_⟩
    · show 0 ≤ u1 _ _ _ z ∧ u1 _ _ _ z ≤ _
      have := h1 z
      by_cases q : z = 11 - (k : Int)
      · rw [q, u1_s, e]; exact h5.1
      · rw [u1_n q, e]; omega
    · show 0 ≤ u1 _ _ _ z ∧ u1 _ _ _ z ≤ 4 ∧ (u1 _ _ _ z = 0 ∨ (0 ≤ z ∧ z + u1 _ _ _ z ≤ 12))
      by_cases q : z = 11 - (k : Int)
      · rw [q, u1_s]; have := h5.2.1; omega
      · rw [u1_n q]; exact h2 z
    · show 0 < u1 _ _ _ z → 0 < bw z (u1 _ _ _ z)
      by_cases q : z = 11 - (k : Int)
      · rw [q, u1_s]; exact h5.2.2
      · rw [u1_n q]; exact h3 z
    · show u1 _ _ _ z = 0
      rw [u1_n (by omega)]; exact h4 z hz
/-- the rows at which the opening's boards begin -/
def blN (T : Int → Int) (kf : Int) : Nat → Int → List Int
  | 0, _ => []
  | f + 1, y => if 12 ≤ y then [] else if 0 < T y then y :: blN T kf f (y + T y + kf) else blN T kf f (y + 1)
theorem blN_m {T : Int → Int} {kf : Int} (hk : 0 ≤ kf) : ∀ (f g : Nat) (y : Int), 12 - y ≤ f → 12 - y ≤ g → blN T kf f y = blN T kf g y
  | 0, 0, _, _, _ => rfl
  | 0, g + 1, y, h1, _ => by
    show [] = if 12 ≤ y then [] else _
    rw [if_pos (by omega)]
  | f + 1, 0, y, _, h2 => by
    show (if 12 ≤ y then [] else _) = []
    rw [if_pos (by omega)]
  | f + 1, g + 1, y, h1, h2 => by
    show (if 12 ≤ y then [] else _) = (if 12 ≤ y then [] else _)
    by_cases q : 12 ≤ y
    · rw [if_pos q, if_pos q]
    · rw [if_neg q, if_neg q]
      by_cases q2 : 0 < T y
      · rw [if_pos q2, if_pos q2, blN_m hk f g (y + T y + kf) (by omega) (by omega)]
      · rw [if_neg q2, if_neg q2, blN_m hk f g (y + 1) (by omega) (by omega)]
theorem bl_ex : ∃ F : (Int → Int) → Int → Int → List Int, ∀ T kf y, F T kf y = blN T kf (12 - y).toNat y := ⟨fun T kf y => blN T kf (12 - y).toNat y, fun _ _ _ => rfl⟩
noncomputable def bl : (Int → Int) → Int → Int → List Int := Classical.choose bl_ex
theorem bl_d (T : Int → Int) (kf y : Int) : bl T kf y = blN T kf (12 - y).toNat y := Classical.choose_spec bl_ex T kf y
theorem bl_e {T : Int → Int} {kf y : Int} (h : 12 ≤ y) : bl T kf y = [] := by rw [bl_d]; rw [show (12 - y).toNat = 0 by omega]; rfl
theorem bl_y {T : Int → Int} {kf y : Int} (hk : 0 ≤ kf) (h : y < 12) (ht : 0 < T y) : bl T kf y = y :: bl T kf (y + T y + kf) := by
  rw [bl_d, bl_d]
  obtain ⟨j, hj⟩ : ∃ j : Nat, (12 - y).toNat = j + 1 := ⟨(12 - y).toNat - 1, by omega⟩
  rw [hj]
  show (if 12 ≤ y then [] else if 0 < T y then y :: blN T kf j (y + T y + kf) else _) = _
  rw [if_neg (by omega), if_pos ht, blN_m hk j (12 - (y + T y + kf)).toNat _ (by omega) (by omega)]
theorem bl_n {T : Int → Int} {kf y : Int} (hk : 0 ≤ kf) (h : y < 12) (ht : ¬ 0 < T y) : bl T kf y = bl T kf (y + 1) := by
  rw [bl_d, bl_d]
  obtain ⟨j, hj⟩ : ∃ j : Nat, (12 - y).toNat = j + 1 := ⟨(12 - y).toNat - 1, by omega⟩
  rw [hj]
  show (if 12 ≤ y then [] else if 0 < T y then _ else blN T kf j (y + 1)) = _
  rw [if_neg (by omega), if_neg ht, blN_m hk j (12 - (y + 1)).toNat _ (by omega) (by omega)]
theorem bl_len {T : Int → Int} {kf : Int} (hk : 0 ≤ kf) : ∀ (f : Nat) (y : Int), ((blN T kf f y).length : Int) ≤ max 0 (12 - y)
  | 0, y => by show ((0 : Nat) : Int) ≤ _; omega
  | f + 1, y => by
    show (((if 12 ≤ y then [] else if 0 < T y then y :: blN T kf f (y + T y + kf) else blN T kf f (y + 1)) : List Int).length : Int) ≤ _
    have h1 := bl_len (T := T) hk f (y + T y + kf)
    have h2 := bl_len (T := T) hk f (y + 1)
    split
    · show ((0 : Nat) : Int) ≤ _; omega
    · split
      · rw [List.length_cons]; omega
      · omega
theorem bl_mem {T : Int → Int} {kf : Int} (hk : 0 ≤ kf) (hT : ∀ z, 0 ≤ T z) : ∀ (f : Nat) (y z : Int), 0 ≤ y → z ∈ blN T kf f y → y ≤ z ∧ z < 12 ∧ 0 < T z
  | 0, y, z, _, h => by simp [blN] at h
  | f + 1, y, z, hy, h => by
    unfold blN at h
    split at h
    · simp at h
    · split at h
      · next h2 =>
        rcases List.mem_cons.mp h with e | e
        · rw [e]; exact ⟨by omega, by omega, h2⟩
        · have := bl_mem hk hT f _ z (by omega) e
          omega
      · have := bl_mem hk hT f _ z (by omega) h
        omega
def lat (l : List Int) (i : Int) : Int := l.getD i.toNat 0
theorem lat_mem {l : List Int} {i : Int} (h : 0 ≤ i) (h2 : i < l.length) : lat l i ∈ l := by
  unfold lat
  rw [List.getD_eq_getElem?_getD, List.getElem?_eq_getElem (by omega)]
  exact List.getElem_mem _
theorem lat_app {p q : List Int} {i : Int} (h : 0 ≤ i) (h2 : i < p.length) : lat (p ++ q) i = lat p i := by
  unfold lat
  rw [List.getD_eq_getElem?_getD, List.getD_eq_getElem?_getD, List.getElem?_append_left (by omega)]
theorem lat_mid {p q : List Int} {x : Int} {i : Int} (h2 : i = p.length) : lat (p ++ x :: q) i = x := by
  unfold lat
  subst h2
  rw [List.getD_eq_getElem?_getD, List.getElem?_append_right (by omega), show (p.length : Int).toNat - p.length = 0 by omega]
  rfl
