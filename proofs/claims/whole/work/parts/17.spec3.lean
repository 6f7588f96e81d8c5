/-! boards: sums of hurt, grades, the first column, the best piece -/
def LogOk (V : Nat → Int → Int) : Prop := (0 ≤ V 42 0 ∧ V 42 0 ≤ 6) ∧ (0 ≤ V 42 1 ∧ V 42 1 ≤ 4) ∧ (0 ≤ V 42 2 ∧ V 42 2 ≤ 8) ∧ (0 ≤ V 42 3 ∧ V 42 3 ≤ 3) ∧ (0 ≤ V 42 4 ∧ V 42 4 ≤ 8) ∧ ∀ i, 0 ≤ i → i < V 42 4 → okM V i
def LogEq (V V2 : Nat → Int → Int) : Prop := (∀ z, 0 ≤ z → z ≤ 4 → V2 42 z = V 42 z) ∧ V2 43 = V 43
theorem LogEq.FM {V V2 : Nat → Int → Int} (h : LogEq V V2) : FM V2 = FM V := by funext i j; unfold _root_.Jvm.Pilot.CLogSawyerLaw_law_r1793_69ec12.FM; rw [h.2]
theorem LogOk.eq {V V2 : Nat → Int → Int} (h : LogOk V) (e : LogEq V V2) : LogOk V2 := by
  obtain ⟨h1, h2, h3, h5, h4, hF⟩ := h
  have e0 := e.1 0 (by decide) (by decide)
  have e1 := e.1 1 (by decide) (by decide)
  have e2 := e.1 2 (by decide) (by decide)
  have e3 := e.1 3 (by decide) (by decide)
  have e4 := e.1 4 (by decide) (by decide)
  refine ⟨by rw [e0]; exact h1, by rw [e1]; exact h2, by rw [e2]; exact h3, by rw [e3]; exact h5, by rw [e4]; exact h4, fun i a b => ?_⟩
  have := hF i a (by rw [← e4]; exact b)
  unfold okM at this ⊢
  rw [e.2]; exact this
theorem LogEq.rf {V : Nat → Int → Int} : LogEq V V := ⟨fun _ _ _ => rfl, rfl⟩
/-- the sum over a stretch of a row of prefix sums -/
def wsum (g : Int → Int) (y a b s t : Int) : Int := sm (fun i => g (13 * (12 * i + y) + b + 1) - g (13 * (12 * i + y) + a)) (t + 1) - sm (fun i => g (13 * (12 * i + y) + b + 1) - g (13 * (12 * i + y) + a)) s
noncomputable def rowH (f : Int → Int → Int) (m by' s y : Int) : Int → Int := fun x => hurtS f m x y s by'
noncomputable def row9 (f : Int → Int → Int) (m by' s y : Int) : Int → Int := fun x => bI (hurtS f m x y s by' = 9)
noncomputable def faceH (f : Int → Int → Int) (m by' y a b s t : Int) : Int := sm (fun i => sm (rowH f m by' i y) (b + 1) - sm (rowH f m by' i y) a) (t + 1) - sm (fun i => sm (rowH f m by' i y) (b + 1) - sm (rowH f m by' i y) a) s
noncomputable def face9 (f : Int → Int → Int) (m by' y a b s t : Int) : Int := sm (fun i => sm (row9 f m by' i y) (b + 1) - sm (row9 f m by' i y) a) (t + 1) - sm (fun i => sm (row9 f m by' i y) (b + 1) - sm (row9 f m by' i y) a) s
theorem sm_diff {f : Int → Int} {A : Int} (hA : 0 ≤ A) {a : Int} (ha : 0 ≤ a) (h : ∀ i : Int, 0 ≤ i → 0 ≤ f i ∧ f i ≤ A) : ∀ (k : Nat), 0 ≤ sm f (a + k) - sm f a ∧ sm f (a + k) - sm f a ≤ A * k
  | 0 => by simp
  | k + 1 => by
    have h1 := sm_diff hA ha h k
    have h2 := h (a + k) (by omega)
    have e : a + ((k + 1 : Nat) : Int) = (a + k) + 1 := by omega
    rw [e, sm_s (by omega)]
    have e2 : A * ((k + 1 : Nat) : Int) = A * k + A := by rw [Int.natCast_add, Int.mul_add]; omega
    rw [e2]; omega
theorem sm_diffI {f : Int → Int} {A : Int} (hA : 0 ≤ A) {a b : Int} (ha : 0 ≤ a) (hab : a ≤ b) (h : ∀ i : Int, 0 ≤ i → 0 ≤ f i ∧ f i ≤ A) : 0 ≤ sm f b - sm f a ∧ sm f b - sm f a ≤ A * (b - a) := by
  have := sm_diff hA ha h (b - a).toNat
  rw [Int.toNat_of_nonneg (by omega), show a + (b - a) = b by omega] at this
  exact this
theorem face_b {r : Int → Int → Int} (hr : ∀ i x, 0 ≤ r i x ∧ r i x ≤ 9) {a b s t : Int} (ha : 0 ≤ a) (hab : a ≤ b + 1) (hb : b ≤ 11) (hs : 0 ≤ s) (hst : s ≤ t + 1) (ht : t ≤ 7) : 0 ≤ sm (fun i => sm (r i) (b + 1) - sm (r i) a) (t + 1) - sm (fun i => sm (r i) (b + 1) - sm (r i) a) s ∧ sm (fun i => sm (r i) (b + 1) - sm (r i) a) (t + 1) - sm (fun i => sm (r i) (b + 1) - sm (r i) a) s ≤ 864 := by
  have h1 : ∀ i : Int, 0 ≤ i → 0 ≤ sm (r i) (b + 1) - sm (r i) a ∧ sm (r i) (b + 1) - sm (r i) a ≤ 108 := fun i _ => by
    have := sm_diffI (f := r i) (A := 9) (by decide) ha hab (fun x _ => hr i x)
    omega
  have := sm_diffI (f := fun i => sm (r i) (b + 1) - sm (r i) a) (A := 108) (by decide) hs hst h1
  omega
theorem rowH_b (f : Int → Int → Int) (m by' y : Int) : ∀ i x, 0 ≤ rowH f m by' i y x ∧ rowH f m by' i y x ≤ 9 := fun _ _ => hurtS_b _ _ _ _ _ _
theorem row9_b (f : Int → Int → Int) (m by' y : Int) : ∀ i x, 0 ≤ row9 f m by' i y x ∧ row9 f m by' i y x ≤ 9 := fun i x => by have := bI_b (hurtS f m x y i by' = 9); unfold row9; omega
/-- the two rows of prefix sums, up to row k -/
def sumsR (V : Nat → Int → Int) (f : Int → Int → Int) (m by' k : Int) : Prop := ∀ w x, 0 ≤ w → w < k → 0 ≤ x → x ≤ 12 → V 50 (13 * w + x) = sm (rowH f m by' (w / 12) (w % 12)) x ∧ V 51 (13 * w + x) = sm (row9 f m by' (w / 12) (w % 12)) x
theorem sumsR.ws {V : Nat → Int → Int} {f : Int → Int → Int} {m by' L : Int} (h : sumsR V f m by' (12 * L)) {y a b s t : Int} (hy : 0 ≤ y ∧ y ≤ 11) (ha : 0 ≤ a) (ha2 : a ≤ 12) (hb0 : -1 ≤ b) (hb : b ≤ 11) (hs : 0 ≤ s) (hst : s ≤ t + 1) (ht : t < L) : wsum (V 50) y a b s t = faceH f m by' y a b s t ∧ wsum (V 51) y a b s t = face9 f m by' y a b s t := by
  have e : ∀ i : Int, 0 ≤ i → i < t + 1 → (V 50 (13 * (12 * i + y) + b + 1) - V 50 (13 * (12 * i + y) + a) = sm (rowH f m by' i y) (b + 1) - sm (rowH f m by' i y) a) ∧ (V 51 (13 * (12 * i + y) + b + 1) - V 51 (13 * (12 * i + y) + a) = sm (row9 f m by' i y) (b + 1) - sm (row9 f m by' i y) a) := fun i i0 i1 => by
    have g1 := h (12 * i + y) (b + 1) (by omega) (by omega) (by omega) (by omega)
    have g2 := h (12 * i + y) a (by omega) (by omega) (by omega) (by omega)
    rw [show (12 * i + y) / 12 = i by omega, show (12 * i + y) % 12 = y by omega] at g1 g2
    rw [show 13 * (12 * i + y) + b + 1 = 13 * (12 * i + y) + (b + 1) by omega]
    exact ⟨by rw [g1.1, g2.1], by rw [g1.2, g2.2]⟩
  unfold wsum faceH face9
  refine ⟨?_, ?_⟩
  · rw [sm_c (fun i i0 i1 => (e i i0 i1).1), sm_c (z := s) (fun i i0 i1 => (e i i0 (by omega)).1)]
  · rw [sm_c (fun i i0 i1 => (e i i0 i1).2), sm_c (z := s) (fun i i0 i1 => (e i i0 (by omega)).2)]
def gradeS (up lo nu nl ar : Int) : Int := if max up lo = 0 then 0 else if min up lo = 0 ∧ 8 * max up lo ≤ ar then 1 else if 2 * max up lo ≤ ar ∧ nu + nl = 0 then 2 else if min up lo ≤ ar then 3 else 4
theorem gradeS_b (up lo nu nl ar : Int) : 0 ≤ gradeS up lo nu nl ar ∧ gradeS up lo nu nl ar ≤ 4 := by unfold gradeS; repeat' split <;> omega
noncomputable def grP (f : Int → Int → Int) (m by' y n a b s t : Int) : Int := gradeS (faceH f m by' y a b s t) (faceH f m by' (y + n - 1) a b s t) (face9 f m by' y a b s t) (face9 f m by' (y + n - 1) a b s t) ((b - a + 1) * (t - s + 1))
noncomputable def wP (f : Int → Int → Int) (m by' : Int) (pr : Int → Int) (y n a b s t : Int) : Int := if grP f m by' y n a b s t = 4 then 0 else (b - a + 1) * (t - s + 1) * n * pr (2 + grP f m by' y n a b s t)
/-- which piece comes first, by s, t, a, b -/
def lexP (a b s t A B S T : Int) : Prop := if s ≠ S ∨ t ≠ T then (s < S ∨ s = S ∧ t < T) else (a < A ∨ a = A ∧ b < B)
def betterP (w ar a b s t W AR A B S T : Int) : Prop := W < w ∨ (0 < w ∧ w = W ∧ (AR < ar ∨ (ar = AR ∧ lexP a b s t A B S T)))
def areaP (a b s t : Int) : Int := (b - a + 1) * (t - s + 1)
/-- the best of the pieces of a set: W 0: none is worth anything -/
def BestOf (gr w : Int → Int → Int → Int → Int) (S : Int → Int → Int → Int → Prop) (W AR A B Sx T Gx : Int) : Prop :=
  (W = 0 ∧ ∀ a b s t, S a b s t → w a b s t ≤ 0) ∨
  (0 < W ∧ S A B Sx T ∧ W = w A B Sx T ∧ AR = areaP A B Sx T ∧ Gx = gr A B Sx T ∧ ∀ a b s t, S a b s t → ¬ betterP (w a b s t) (areaP a b s t) a b s t W AR A B Sx T)
theorem BestOf.u {gr w : Int → Int → Int → Int → Int} {S : Int → Int → Int → Int → Prop} {W AR A B Sx T Gx W' AR' A' B' S' T' G' : Int} (h : BestOf gr w S W AR A B Sx T Gx) (h' : BestOf gr w S W' AR' A' B' S' T' G') : W = W' ∧ (0 < W → AR = AR' ∧ A = A' ∧ B = B' ∧ Sx = S' ∧ T = T' ∧ Gx = G') := by
  rcases h with ⟨e, h⟩ | ⟨h0, h1, h2, h3, h4, h5⟩ <;> rcases h' with ⟨e', h'⟩ | ⟨h0', h1', h2', h3', h4', h5'⟩
  · exact ⟨by omega, fun q => by omega⟩
  · have := h _ _ _ _ h1'; omega
  · have := h' _ _ _ _ h1; omega
  · have g1 := h5 _ _ _ _ h1'
    have g2 := h5' _ _ _ _ h1
    rw [← h2', ← h3'] at g1
    rw [← h2, ← h3] at g2
    unfold betterP lexP at g1 g2
    have k : W = W' ∧ AR = AR' ∧ A = A' ∧ B = B' ∧ Sx = S' ∧ T = T' := by
      split at g1 <;> split at g2 <;> omega
    obtain ⟨k1, k2, k3, k4, k5, k6⟩ := k
    refine ⟨k1, fun _ => ⟨k2, k3, k4, k5, k6, ?_⟩⟩
    rw [h4, h4', k3, k4, k5, k6]
theorem BestOf.mono {gr w : Int → Int → Int → Int → Int} {S S' : Int → Int → Int → Int → Prop} {W AR A B Sx T Gx : Int} (h : BestOf gr w S W AR A B Sx T Gx) (e : ∀ a b s t, S a b s t ↔ S' a b s t) : BestOf gr w S' W AR A B Sx T Gx := by
  rcases h with ⟨q, h⟩ | ⟨h0, h1, h2, h3, h4, h5⟩
  · exact Or.inl ⟨q, fun a b s t z => h a b s t ((e a b s t).mpr z)⟩
  · exact Or.inr ⟨h0, (e _ _ _ _).mp h1, h2, h3, h4, fun a b s t z => h5 a b s t ((e a b s t).mpr z)⟩
theorem better_tr {w ar a b s t W AR A B S T w2 ar2 a2 b2 s2 t2 : Int} (h1 : betterP w ar a b s t W AR A B S T) (h2 : ¬ betterP w2 ar2 a2 b2 s2 t2 W AR A B S T) (hw : 0 ≤ W) : ¬ betterP w2 ar2 a2 b2 s2 t2 w ar a b s t := by
  unfold betterP lexP at *
  split <;> split at h1 <;> split at h2 <;> omega
theorem better_ir {w ar a b s t : Int} : ¬ betterP w ar a b s t w ar a b s t := by
  unfold betterP lexP
  split <;> omega
/-- one piece more is tried -/
theorem BestOf.step {gr w : Int → Int → Int → Int → Int} {S : Int → Int → Int → Int → Prop} {W AR A B Sx T Gx W' AR' A' B' S' T' G' a b s t : Int} (h : BestOf gr w S W AR A B Sx T Gx)
    (hc : (betterP (w a b s t) (areaP a b s t) a b s t W AR A B Sx T ∧ W' = w a b s t ∧ AR' = areaP a b s t ∧ A' = a ∧ B' = b ∧ S' = s ∧ T' = t ∧ G' = gr a b s t) ∨ (¬ betterP (w a b s t) (areaP a b s t) a b s t W AR A B Sx T ∧ W' = W ∧ AR' = AR ∧ A' = A ∧ B' = B ∧ S' = Sx ∧ T' = T ∧ G' = Gx)) :
    BestOf gr w (fun x y u v => S x y u v ∨ (x = a ∧ y = b ∧ u = s ∧ v = t)) W' AR' A' B' S' T' G' := by
  have hW : 0 ≤ W := by rcases h with ⟨q, -⟩ | ⟨q, -⟩ <;> omega
  rcases hc with ⟨c, rfl, rfl, rfl, rfl, rfl, rfl, rfl⟩ | ⟨c, rfl, rfl, rfl, rfl, rfl, rfl, rfl⟩
  · have hp : 0 < w A' B' S' T' := by unfold betterP at c; rcases h with ⟨q, -⟩ | ⟨q, -⟩ <;> omega
    refine Or.inr ⟨hp, Or.inr ⟨rfl, rfl, rfl, rfl⟩, rfl, rfl, rfl, fun x y u v z => ?_⟩
    rcases z with z | ⟨rfl, rfl, rfl, rfl⟩
    · refine better_tr c ?_ hW
      rcases h with ⟨q, h⟩ | ⟨h0, h1, h2, h3, h4, h5⟩
      · have := h x y u v z
        unfold betterP; omega
      · exact h5 x y u v z
    · exact better_ir
  · rcases h with ⟨q, h⟩ | ⟨h0, h1, h2, h3, h4, h5⟩
    · refine Or.inl ⟨q, fun x y u v z => ?_⟩
      rcases z with z | ⟨rfl, rfl, rfl, rfl⟩
      · exact h x y u v z
      · unfold betterP at c; omega
    · refine Or.inr ⟨h0, Or.inl h1, h2, h3, h4, fun x y u v z => ?_⟩
      rcases z with z | ⟨rfl, rfl, rfl, rfl⟩
      · exact h5 x y u v z
      · exact c
/-! the first column of wood, 6: there is none -/
noncomputable def fwS (r t y s : Int) : Int := cif (woodP r t 0 y s) 0 (cif (woodP r t 1 y s) 1 (cif (woodP r t 2 y s) 2 (cif (woodP r t 3 y s) 3 (cif (woodP r t 4 y s) 4 (cif (woodP r t 5 y s) 5 6)))))
theorem fwS_sp (r t y s : Int) : (0 ≤ fwS r t y s ∧ fwS r t y s ≤ 6) ∧ (∀ j, 0 ≤ j → j < fwS r t y s → ¬ woodP r t j y s) ∧ (fwS r t y s < 6 → woodP r t (fwS r t y s) y s) := by
  unfold fwS
  by_cases h0 : woodP r t 0 y s
  · rw [cif_t h0]; exact ⟨by decide, fun j a b => by omega, fun _ => h0⟩
  rw [cif_f h0]
  by_cases h1 : woodP r t 1 y s
  · rw [cif_t h1]; exact ⟨by decide, fun j a b => by rw [show j = 0 by omega]; exact h0, fun _ => h1⟩
  rw [cif_f h1]
  by_cases h2 : woodP r t 2 y s
  · rw [cif_t h2]; exact ⟨by decide, fun j a b => by rcases (show j = 0 ∨ j = 1 by omega) with e | e <;> rw [e] <;> assumption, fun _ => h2⟩
  rw [cif_f h2]
  by_cases h3 : woodP r t 3 y s
  · rw [cif_t h3]; exact ⟨by decide, fun j a b => by rcases (show j = 0 ∨ j = 1 ∨ j = 2 by omega) with e | e | e <;> rw [e] <;> assumption, fun _ => h3⟩
  rw [cif_f h3]
  by_cases h4 : woodP r t 4 y s
  · rw [cif_t h4]; exact ⟨by decide, fun j a b => by rcases (show j = 0 ∨ j = 1 ∨ j = 2 ∨ j = 3 by omega) with e | e | e | e <;> rw [e] <;> assumption, fun _ => h4⟩
  rw [cif_f h4]
  by_cases h5 : woodP r t 5 y s
  · rw [cif_t h5]; exact ⟨by decide, fun j a b => by rcases (show j = 0 ∨ j = 1 ∨ j = 2 ∨ j = 3 ∨ j = 4 by omega) with e | e | e | e | e <;> rw [e] <;> assumption, fun _ => h5⟩
  rw [cif_f h5]
  exact ⟨by decide, fun j a b => by rcases (show j = 0 ∨ j = 1 ∨ j = 2 ∨ j = 3 ∨ j = 4 ∨ j = 5 by omega) with e | e | e | e | e | e <;> rw [e] <;> assumption, fun q => by omega⟩
theorem wood_mono {r t y s j k : Int} (h : woodP r t j y s) (hjk : j ≤ k) (hk : k ≤ 5) : woodP r t k y s := by
  unfold woodP at *
  have h1 : (2 * k - 11) * (2 * k - 11) ≤ (2 * j - 11) * (2 * j - 11) := by
    have e1 : (2 * k - 11) * (2 * k - 11) = (11 - 2 * k) * (11 - 2 * k) := by rw [← Int.neg_mul_neg]; congr 1 <;> omega
    have e2 : (2 * j - 11) * (2 * j - 11) = (11 - 2 * j) * (11 - 2 * j) := by rw [← Int.neg_mul_neg]; congr 1 <;> omega
    rw [e1, e2]
    exact Int.mul_le_mul (by omega) (by omega) (by omega) (by omega)
  omega
noncomputable def fwM (r t y s : Int) : Nat → Int
  | 0 => 0
  | k + 1 => max (fwM r t y s k) (fwS r t (y + k) s)
noncomputable def fcS (r t y n s : Int) : Int := fwM r t y s n.toNat
theorem fwM_b (r t y s : Int) : ∀ k : Nat, 0 ≤ fwM r t y s k ∧ fwM r t y s k ≤ 6
  | 0 => ⟨Int.le_refl _, by show (0 : Int) ≤ 6; decide⟩
  | k + 1 => by
    have h1 := fwM_b r t y s k
    have h2 := (fwS_sp r t (y + k) s).1
    show 0 ≤ max _ _ ∧ max _ _ ≤ _
    omega
theorem fcS_b (r t y n s : Int) : 0 ≤ fcS r t y n s ∧ fcS r t y n s ≤ 6 := fwM_b _ _ _ _ _
theorem fcS_s {r t y k s : Int} (h : 0 ≤ k) : fcS r t y (k + 1) s = max (fcS r t y k s) (fwS r t (y + k) s) := by
  unfold fcS
  rw [show (k + 1).toNat = k.toNat + 1 by omega]
  show max _ (fwS r t (y + (k.toNat : Int)) s) = _
  rw [Int.toNat_of_nonneg h]
/-- the pieces of a board that can be had -/
def CandP (F : Int → Int) (L sv : Int) (a b s t : Int) : Prop :=
  (F (L - 1) < 6 ∧ a = F (L - 1) ∧ b = 11 - F (L - 1) ∧ s = 0 ∧ t = L - 1) ∨
  (sv = 1 ∧ 0 ≤ s ∧ s ≤ t ∧ t ≤ L - 1 ∧ F t < 6 ∧ a = F t ∧ b = 11 - F t) ∨
  (sv = 1 ∧ s = 0 ∧ t = L - 1 ∧ F (L - 1) ≤ a ∧ a ≤ b ∧ b ≤ 11 - F (L - 1))
