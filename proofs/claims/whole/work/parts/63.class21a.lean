/-- faults drawn in thought -/
def DrC (n n1 : Nat) (V V1 : Nat → Int → Int) (R R1 : Nat → Int → Option Nat) (f : Int → Int → Int) (m seed k r : Int) : Prop :=
  n ≤ n1 ∧ (∀ q, q < n → V1 q = V q) ∧ (∀ p, p ≠ 35 → R1 p = R p) ∧ (r = m + min k (8 - m) ∧ 0 ≤ r ∧ r ≤ 8) ∧ FsOk n1 V1 R1 35 r ∧ ∀ j, 0 ≤ j → j < r → ∀ x, 0 ≤ x → x ≤ 3 → FR V1 R1 35 j x = dwF f m seed j x
theorem dr_st {n n2 : Nat} {V2 V3 : Nat → Int → Int} {R : Nat → Int → Option Nat} {m i cnt seed : Int} (h : ∀ x : Int, 0 ≤ x → x < i → ∃ c, R 35 (m + x) = some c ∧ n ≤ c ∧ c < n2 ∧ V2 c 3 = drF seed x 0 ∧ V2 c 0 = drF seed x 1 ∧ V2 c 1 = drF seed x 2 ∧ V2 c 2 = drF seed x 3)
    (hn : NewF V2 V3 n2 (zUshr (dsd seed (4 * i + 1)) 9 % 7) (zUshr (dsd seed (4 * i + 2)) 9 % 8) (zUshr (dsd seed (4 * i + 3)) 9 % 8) (zUshr (dsd seed (4 * i + 4)) 9 % 4 + 1)) (hc : cnt = m + i) (hi : 0 ≤ i) (hnn : n ≤ n2) : ∀ x : Int, 0 ≤ x → x < i + 1 → ∃ c, u2 R 35 cnt (some n2) 35 (m + x) = some c ∧ n ≤ c ∧ c < n2 + 1 ∧ V3 c 3 = drF seed x 0 ∧ V3 c 0 = drF seed x 1 ∧ V3 c 1 = drF seed x 2 ∧ V3 c 2 = drF seed x 3 := by
  intro x a b
  rw [u2_at]
  by_cases e : x = i
  · subst e
    rw [if_pos ⟨rfl, hc.symm⟩]
    exact ⟨n2, rfl, hnn, by omega, hn.1, hn.2.1, hn.2.2.1, hn.2.2.2.1.trans (Int.add_comm _ _)⟩
  · rw [if_neg (by omega)]
    obtain ⟨c, h1, h2, h3, h4⟩ := h x a (by omega)
    refine ⟨c, h1, h2, by omega, ?_⟩
    rw [hn.2.2.2.2 c (by omega)]
    exact h4
theorem dr_end {n n2 : Nat} {V V2 : Nat → Int → Int} {R R2 : Nat → Int → Option Nat} {lr lt L : Int} {f : Int → Int → Int} {m g : Int} {pr : Int → Int} {seed k i cnt : Int} (hI : CInv n V R lr lt L f m g pr) (hc : cnt = m + i ∧ cnt ≤ 8) (hi : 0 ≤ i ∧ i ≤ k) (he : k ≤ i ∨ 8 ≤ cnt) (hn : n2 = n + i.toNat ∧ 67 ≤ n) (hV : ∀ q, q < n → V2 q = V q) (hR : ∀ p, p ≠ 35 → R2 p = R p) (hN : ∀ x : Int, 0 ≤ x → x < m → R2 35 x = R 2 x)
    (hD : ∀ x : Int, 0 ≤ x → x < i → ∃ c, R2 35 (m + x) = some c ∧ n ≤ c ∧ c < n2 ∧ V2 c 3 = drF seed x 0 ∧ V2 c 0 = drF seed x 1 ∧ V2 c 1 = drF seed x 2 ∧ V2 c 2 = drF seed x 3) : DrC n n2 V V2 R R2 f m seed k cnt := by
  have hm := hI.1.2.1.2.2.2.2
  refine ⟨by omega, hV, hR, ⟨by omega, by omega, by omega⟩, fun j a b => ?_, fun j a b x c d => ?_⟩
  · by_cases e : j < m
    · obtain ⟨c, h1, h2⟩ := hI.1.2.2.1 j a e
      refine ⟨c, by rw [hN j a e]; exact h1, ?_⟩
      have h3 := h2.fr (hV c h2.2.1)
      exact ⟨h3.1, by have := h3.2.1; omega, h3.2.2⟩
    · obtain ⟨c, h1, h2, h3, h4, h5, h6, h7⟩ := hD (j - m) (by omega) (by omega)
      rw [show m + (j - m) = j by omega] at h1
      refine ⟨c, h1, by omega, h3, ?_⟩
      rw [h4, h5, h6, h7]
      exact drF_b seed (j - m)
  · unfold dwF
    by_cases e : j < m
    · rw [if_pos e, ← hI.1.2.2.2.2.2 j a e x c d]
      obtain ⟨c0, h1, h2⟩ := hI.1.2.2.1 j a e
      have h3 : R2 35 j = some c0 := by rw [hN j a e]; exact h1
      unfold FR
      rw [h3, h1]
      show (if x = 0 then V2 c0 3 else V2 c0 (x - 1)) = (if x = 0 then V c0 3 else V c0 (x - 1))
      rw [hV c0 h2.2.1]
    · rw [if_neg e]
      obtain ⟨c0, h1, h2, h3, h4, h5, h6, h7⟩ := hD (j - m) (by omega) (by omega)
      rw [show m + (j - m) = j by omega] at h1
      obtain ⟨e0, e1, e2, e3⟩ := FR_e (V := V2) h1
      rcases (show x = 0 ∨ x = 1 ∨ x = 2 ∨ x = 3 by omega) with q | q | q | q <;> subst q
      · rw [e0, h4]
      · rw [e1, h5]
      · rw [e2, h6]
      · rw [e3, h7]
theorem dw_eq {n n1 : Nat} {V V1 : Nat → Int → Int} {R R1 : Nat → Int → Option Nat} {lr lt L : Int} {f : Int → Int → Int} {m g : Int} {pr : Int → Int} {seed k r : Int} (h : DrC n n1 V V1 R R1 f m seed k r) : (opT lr lt L (FR V1 R1 35) r pr g (-1)).1 0 = dwV lr lt L f m pr g seed k := by
  obtain ⟨-, -, -, ⟨h1, -, -⟩, -, h2⟩ := h
  unfold dwV
  rw [← h1, (hurtS_c h2).opT]
theorem CInv.grow {n n1 : Nat} {V V1 : Nat → Int → Int} {R R1 : Nat → Int → Option Nat} {lr lt L : Int} {f : Int → Int → Int} {m g : Int} {pr : Int → Int} (hI : CInv n V R lr lt L f m g pr) (hn : n ≤ n1) (hV : ∀ q, q < n → V1 q = V q) (hR : ∀ p, p ≠ 35 → R1 p = R p) (h67 : 67 ≤ n := by assumption) : CInv n1 V1 R1 lr lt L f m g pr := by
  have e : ∀ q, q < 67 → V1 q = V q := fun q a => hV q (by omega)
  have h1 : CInv n V R1 lr lt L f m g pr := hI.R (hR 2 (by decide))
  refine ⟨?_, ?_, h1.2.2.1.fr (e _ (by omega)) (e _ (by omega)), by rw [e 19 (by omega)]; exact h1.2.2.2.1, h1.2.2.2.2.1.fr (e _ (by omega)) (e _ (by omega)), by rw [e 31 (by omega)]; exact h1.2.2.2.2.2⟩
  · obtain ⟨a1, a2, a3, a4, a5, a6⟩ := h1.1
    refine ⟨by rw [e 1 (by omega)]; exact a1, a2, fun i a b => ?_, a4, by rw [e 3 (by omega)]; exact a5, fun i a b => ?_⟩
    · obtain ⟨c, hc, hF⟩ := a3 i a b
      have h3 := hF.fr (hV c hF.2.1)
      exact ⟨c, hc, h3.1, by have := h3.2.1; omega, h3.2.2⟩
    · obtain ⟨c, hc, hF⟩ := a3 i a b
      rw [FR_fr hc (hV c hF.2.1)]
      exact a6 i a b
  · have h11 := e 11 (by omega)
    obtain ⟨a1, a2, a3⟩ := h1.2.1
    unfold LiesC
    rw [h11]
    refine ⟨a1, a2, fun a => ⟨(a3 a).1.fr2 (fun z _ => by rw [h11]) (fun q b => e q (by omega)), fun b => ?_⟩⟩
    have h := (a3 a).2 b
    unfold OpenOk at h ⊢
    rw [h11, e (11 + 11) (by omega), e (11 + 9) (by omega), e (11 + 10) (by omega)]
    exact h

