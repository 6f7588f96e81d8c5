/-- the reading stands before place j, at part q of an item, a: there was an item -/
def AutI (T : Int → Int) (n E q a j : Int) : Prop :=
  (q = 0 ∧ ((a = 0 ∧ E = (prs T n (skS T n j)).2) ∨ (a = 1 ∧ ((skS T n j < n ∧ E = (prs T n (skS T n j)).2) ∨ (¬ skS T n j < n ∧ E = -1))))) ∨
  (1 ≤ q ∧ 0 ≤ j - q ∧ E = (prs T n (j - q)).2 ∧ (j - q < n ∧ 0 ≤ kbT (T (j - q))) ∧ (2 ≤ q → j - q + 1 < n ∧ 48 ≤ T (j - q + 1) ∧ T (j - q + 1) ≤ 55) ∧ (3 ≤ q → j - q + 2 < n ∧ 48 ≤ T (j - q + 2) ∧ T (j - q + 2) ≤ 55))
section AU
variable {T : Int → Int} {n E q a j : Int}
theorem AutI.zero : AutI T n (prs T n (skS T n 0)).2 0 0 0 := Or.inl ⟨rfl, Or.inl ⟨rfl, rfl⟩⟩
theorem AutI.blank (h : AutI T n E q a j) (hb : T j = 32 ∨ T j = 10) (hq : q = 0) (hj : j < n) : AutI T n E q a (j + 1) := by
  rcases h with ⟨h1, h2⟩ | ⟨h1, -⟩
  · rw [skS_y ⟨hj, hb⟩] at h2
    exact Or.inl ⟨h1, h2⟩
  · omega
/-- the places of the part q -/
theorem AutI.at (h : AutI T n E q a j) (hb : q = 0 → ¬ (T j = 32 ∨ T j = 10)) (hj : j < n) (hq : 0 ≤ q ∧ q ≤ 3) (hj0 : 0 ≤ j) : (E = (prs T n (j - q)).2 ∧ 0 ≤ j - q) ∧ (1 ≤ q → (j - q < n ∧ 0 ≤ kbT (T (j - q))) ∧ (2 ≤ q → j - q + 1 < n ∧ 48 ≤ T (j - q + 1) ∧ T (j - q + 1) ≤ 55) ∧ (3 ≤ q → j - q + 2 < n ∧ 48 ≤ T (j - q + 2) ∧ T (j - q + 2) ≤ 55)) := by
  rcases h with ⟨h1, h2⟩ | ⟨h1, h0, h3, h4⟩
  · subst h1
    have e : skS T n j = j := skS_n (fun w => hb rfl w.2)
    rw [e] at h2
    refine ⟨⟨?_, by omega⟩, fun w => by omega⟩
    rw [Int.sub_zero]
    rcases h2 with ⟨-, h2⟩ | ⟨-, ⟨-, h2⟩ | ⟨h2, -⟩⟩
    · exact h2
    · exact h2
    · exact absurd hj h2
  · exact ⟨⟨h3, h0⟩, fun _ => h4⟩
theorem AutI.bad (h : AutI T n E q a j) (hc : ¬ canP (T j) q) (hj : j < n) (hq : 0 ≤ q ∧ q ≤ 3) (hb : q = 0 → ¬ (T j = 32 ∨ T j = 10) := by omega) (hj0 : 0 ≤ j := by omega) : j = E := by
  obtain ⟨⟨h1, h00⟩, h2⟩ := h.at hb hj hq hj0
  unfold canP at hc
  have e : itE T n (j - q) = j := by
    rcases (show q = 0 ∨ q = 1 ∨ q = 2 ∨ q = 3 by omega) with w | w | w | w <;> subst w
    · rw [Int.sub_zero]; exact itE_0 (fun z => hc (Or.inl ⟨rfl, z.2⟩))
    · have h3 := h2 (by decide)
      rw [itE_1 h3.1 (fun z => hc (Or.inr (Or.inr ⟨by decide, by decide, by rw [show j - 1 + 1 = j by omega] at z; exact z.2⟩)))]; omega
    · have h3 := h2 (by decide)
      rw [itE_2 h3.1 (h3.2.1 (by decide)) (fun z => hc (Or.inr (Or.inr ⟨by decide, by decide, by rw [show j - 2 + 2 = j by omega] at z; exact z.2⟩)))]; omega
    · have h3 := h2 (by decide)
      rw [itE_3 h3.1 (h3.2.1 (by decide)) (h3.2.2 (by decide)) (fun z => hc (Or.inr (Or.inl ⟨rfl, by rw [show j - 3 + 3 = j by omega] at z; exact z.2⟩)))]; omega
  rw [h1, prs_e (by omega)]
  exact e.symm
theorem AutI.part (h : AutI T n E q a j) (hc : canP (T j) q) (hj : j < n) (hq : 0 ≤ q ∧ q ≤ 3) (hj0 : 0 ≤ j) (hb : q = 0 → ¬ (T j = 32 ∨ T j = 10)) : AutI T n E ((q + 1) % 4) 1 (j + 1) := by
  obtain ⟨⟨h1, h00⟩, h2⟩ := h.at hb hj hq hj0
  unfold canP at hc
  rcases (show q = 0 ∨ q = 1 ∨ q = 2 ∨ q = 3 by omega) with w | w | w | w <;> subst w
  · refine Or.inr ⟨by decide, by omega, ?_, ?_, fun z => by omega, fun z => by omega⟩
    · rw [show j + 1 - (0 + 1) % 4 = j - 0 by omega]; exact h1
    · rw [show j + 1 - (0 + 1) % 4 = j by omega]; exact ⟨hj, by omega⟩
  · have h3 := h2 (by decide)
    rw [show ((1 : Int) + 1) % 4 = 2 by rfl]
    refine Or.inr ⟨by decide, by omega, ?_, ?_, fun _ => ?_, fun z => by omega⟩
    · rw [show j + 1 - 2 = j - 1 by omega]; exact h1
    · rw [show j + 1 - 2 = j - 1 by omega]; exact h3.1
    · rw [show j + 1 - 2 + 1 = j by omega]; exact ⟨hj, by omega⟩
  · have h3 := h2 (by decide)
    rw [show ((2 : Int) + 1) % 4 = 3 by rfl]
    refine Or.inr ⟨by decide, by omega, ?_, ?_, fun _ => ?_, fun _ => ?_⟩
    · rw [show j + 1 - 3 = j - 2 by omega]; exact h1
    · rw [show j + 1 - 3 = j - 2 by omega]; exact h3.1
    · rw [show j + 1 - 3 = j - 2 by omega]; exact h3.2.1 (by decide)
    · rw [show j + 1 - 3 + 2 = j by omega]; exact ⟨hj, by omega⟩
  · have h3 := h2 (by decide)
    have e : itE T n (j - 3) = -1 := itE_ok h3.1 (h3.2.1 (by decide)) (h3.2.2 (by decide)) (by rw [show j - 3 + 3 = j by omega]; exact ⟨hj, by omega⟩)
    rw [show ((3 : Int) + 1) % 4 = 0 by rfl]
    refine Or.inl ⟨rfl, Or.inr ⟨rfl, ?_⟩⟩
    rw [show j + 1 = j - 3 + 4 by omega]
    by_cases w : skS T n (j - 3 + 4) < n
    · exact Or.inl ⟨w, by rw [h1, prs_s e w]⟩
    · exact Or.inr ⟨w, by rw [h1, prs_l e w]⟩
theorem AutI.fin1 (h : AutI T n E q a j) (hj : j = n) (hq : q = 0) (ha : a = 1) (hn : 0 ≤ n) : E = -1 := by
  have e : skS T n j = n := by rw [hj]; exact skS_n (fun w => by have := w.1; omega)
  rcases h with ⟨-, ⟨h2, -⟩ | ⟨-, ⟨h3, -⟩ | ⟨-, h3⟩⟩⟩ | ⟨h1, -⟩
  · omega
  · omega
  · exact h3
  · omega
theorem AutI.fin2 (h : AutI T n E q a j) (hj : j = n) (hq : (q = 0 ∧ a = 0) ∨ (1 ≤ q ∧ q ≤ 3)) (hn : 0 ≤ n) : E = n := by
  have e : skS T n j = n := by rw [hj]; exact skS_n (fun w => by have := w.1; omega)
  rcases h with ⟨h1, ⟨-, h2⟩ | ⟨h2, -⟩⟩ | ⟨h1, h0, h2, h3, h4, h5⟩
  · rw [h2, e]
    have e2 : itE T n n = n := itE_0 (fun w => by have := w.1; omega)
    rw [prs_e (by omega), e2]
  · omega
  · have e2 : itE T n (j - q) = n := by
      rcases (show q = 1 ∨ q = 2 ∨ q = 3 by omega) with w | w | w <;> subst w
      · rw [itE_1 h3 (fun z => by omega)]; omega
      · rw [itE_2 h3 (h4 (by decide)) (fun z => by omega)]; omega
      · rw [itE_3 h3 (h4 (by decide)) (h5 (by decide)) (fun z => by omega)]; omega
    rw [h2, prs_e (by omega), e2]
end AU

