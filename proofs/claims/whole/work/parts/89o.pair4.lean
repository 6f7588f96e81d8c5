section P4
variable {G : GS} {n : Nat} {V : Nat → Int → Int} {R : Nat → Int → Option Nat}
theorem pr_fault {q a s z : Int} (h : Rel n V R) (gq : Rg q) (ga : Rg a) (gs : Rg s) (gz : Rg z) : PairOk G yX11_fault cX11_fault 5 (rmk 6 1 3 131) yX12_fault cX12_fault 5 (rmk 2 0 0 41) .int iM [.int (iI q), .int (iI a), .int (iI s), .int (iI z)] n V R 1 3 := by
  obtain ⟨b0, b1, b2, b5⟩ := h.rng5
  obtain ⟨e2, e3, e5⟩ := h.e
  have hb := h.b
  have h67 := h.h67
  refine ⟨_, m_X11_fault G n V R q a s z h.h67 h.lr gq ga gs gz b5 h.fs5 b0 b1 b2, fun v u hp => ?_⟩
  obtain ⟨r, n1, V1, R1, rfl, rfl, hp⟩ := hp
  rcases hp with ⟨p1, p2, rfl, rfl, rfl⟩ | ⟨p1, p0, p2, rfl, rfl, rfl⟩ | ⟨p1, p0, p3, p2, rfl, rfl, rfl⟩ | ⟨p1, p0, p3, p2, rfl, ⟨V3, pn, p4⟩, rfl⟩
  · refine ⟨r, rfl, h.h67, _, m_X12_fault G n1 V1 R1 q a s z h.h67 h.lr gq ga gs gz hb.2.2.2.2, fun v2 u2 hq => ?_⟩
    obtain ⟨r2, V2, rfl, rfl, hq⟩ := hq
    rcases hq with ⟨q1, q2, rfl⟩ | ⟨q1, q2, rfl⟩ | ⟨q1, q2, rfl⟩ | ⟨q1, q2, q3⟩
    · exact ⟨by rw [p2, q2], h⟩
    · omega
    · omega
    · omega
  · refine ⟨r, rfl, h.h67, _, m_X12_fault G n1 V1 R1 q a s z h.h67 h.lr gq ga gs gz hb.2.2.2.2, fun v2 u2 hq => ?_⟩
    obtain ⟨r2, V2, rfl, rfl, hq⟩ := hq
    rcases hq with ⟨q1, q2, rfl⟩ | ⟨q1, q2, rfl⟩ | ⟨q1, q2, rfl⟩ | ⟨q1, q2, q3⟩
    · omega
    · exact ⟨by rw [p2, q2], h⟩
    · exact absurd q1.2.1 p0
    · exact absurd q1.2.1 p0
  · refine ⟨r, rfl, h.h67, _, m_X12_fault G n1 V1 R1 q a s z h.h67 h.lr gq ga gs gz hb.2.2.2.2, fun v2 u2 hq => ?_⟩
    obtain ⟨r2, V2, rfl, rfl, hq⟩ := hq
    rcases hq with ⟨q1, q2, rfl⟩ | ⟨q1, q2, rfl⟩ | ⟨q1, q2, rfl⟩ | ⟨q1, q2, q3⟩
    · omega
    · exact absurd p0 q1.2
    · exact ⟨by rw [p2, q2], h⟩
    · omega
  · have hLR : LR (u2 R 2 (V 1 5) (some n)) := h.lr.fr (fun q x _ _ => u2_n x)
    have k1 : ∀ c x, c ≠ n → ¬ (c = 1 ∧ x = 5) → ¬ (c = 11 ∧ x = 0) → V1 c x = V c x := fun c x y w t => by rw [p4, u2_at, if_neg t, u2_at, if_neg w, pn.2.2.2.2 c y]
    have e42 : ∀ x, V1 42 x = V 42 x := fun x => k1 42 x (by omega) (by omega) (by omega)
    refine ⟨r, rfl, by show 67 ≤ n + 1; omega, _, m_X12_fault G (n + 1) V1 _ q a s z (by omega) hLR gq ga gs gz (by rw [e42]; exact hb.2.2.2.2), fun v2 u2 hq => ?_⟩
    obtain ⟨r2, V2, rfl, rfl, hq⟩ := hq
    rw [e42, e42] at hq
    rcases hq with ⟨q1, q2, q3⟩ | ⟨q1, q2, q3⟩ | ⟨q1, q2, q3⟩ | ⟨q1, q2, q3⟩
    · omega
    · exact absurd p0 q1.2
    · omega
    · refine ⟨by rw [p2, q2, e5], ?_⟩
      dsimp only
      have kM : ∀ c x, ¬ (c = 42 ∧ x = 4) → ¬ (c = 43 ∧ 4 * V 42 4 ≤ x ∧ x ≤ 4 * V 42 4 + 3) → V2 c x = V1 c x := fun c x y w => by
        rw [q3, u2_at, if_neg (by omega), u2_at, if_neg (by omega), u2_at, if_neg (by omega), u2_at, if_neg (by omega), u2_at, if_neg (by omega)]
      have k : ∀ c x, c ≠ n → ¬ (c = 1 ∧ x = 5) → ¬ (c = 11 ∧ x = 0) → ¬ (c = 42 ∧ x = 4) → ¬ (c = 43 ∧ 4 * V 42 4 ≤ x ∧ x ≤ 4 * V 42 4 + 3) → V2 c x = V c x := fun c x y w t o i => (kM c x o i).trans (k1 c x y w t)
      have m4 : V2 42 4 = V 42 4 + 1 := by rw [q3, u2_at, if_pos ⟨rfl, rfl⟩]
      have f0 : V2 43 (4 * V 42 4) = q ∧ V2 43 (4 * V 42 4 + 1) = a ∧ V2 43 (4 * V 42 4 + 2) = s ∧ V2 43 (4 * V 42 4 + 3) = z := by
        rw [q3]
        refine ⟨?_, ?_, ?_, ?_⟩
        · rw [u2_at, if_neg (by omega), u2_at, if_neg (by omega), u2_at, if_neg (by omega), u2_at, if_neg (by omega), u2_at, if_pos ⟨rfl, rfl⟩]
        · rw [u2_at, if_neg (by omega), u2_at, if_neg (by omega), u2_at, if_neg (by omega), u2_at, if_pos ⟨rfl, rfl⟩]
        · rw [u2_at, if_neg (by omega), u2_at, if_neg (by omega), u2_at, if_pos ⟨rfl, rfl⟩]
        · rw [u2_at, if_neg (by omega), u2_at, if_pos ⟨rfl, rfl⟩]
      have fn : V2 n 3 = q ∧ V2 n 0 = a ∧ V2 n 1 = s ∧ V2 n 2 = z := by
        have kn : ∀ x, V2 n x = V3 n x := fun x => by rw [kM n x (by omega) (by omega), p4, u2_at, if_neg (by omega), u2_at, if_neg (by omega)]
        rw [kn, kn, kn, kn]
        exact ⟨pn.1, pn.2.1, pn.2.2.1, pn.2.2.2.1⟩
      obtain ⟨c1, c2, c3, c4, c5, c6⟩ := h.c.1
      refine h.lg (by omega) ?_ (by rw [kM 11 0 (by omega) (by omega), p4, u2_at, if_pos ⟨rfl, rfl⟩]) ?_ ?_ ?_ (fun c x y => k c x (by unfold KS at y; omega) (by unfold KS at y; omega) (by unfold KS at y; omega) (by unfold KS at y; omega) (by unfold KS at y; omega)) (fun c x => u2_n x) ?_
      · rw [m4, k 1 0 (by omega) (by omega) (by omega) (by omega) (by omega), k 1 1 (by omega) (by omega) (by omega) (by omega) (by omega), k 42 2 (by omega) (by omega) (by omega) (by omega) (by omega), k 42 3 (by omega) (by omega) (by omega) (by omega) (by omega), show V2 44 = V 44 from funext fun z => k 44 z (by omega) (by omega) (by omega) (by omega) (by omega)]
        have rN : ∀ i, i ≠ V 42 4 → u2 R 2 (V 1 5) (some n) 2 i = R 2 i := fun i x => by rw [u2_at, if_neg (by omega)]
        have rS : u2 R 2 (V 1 5) (some n) 2 (V 42 4) = some n := by rw [u2_at, if_pos ⟨rfl, e5.symm⟩]
        refine ⟨⟨k 1 0 (by omega) (by omega) (by omega) (by omega) (by omega), k 1 1 (by omega) (by omega) (by omega) (by omega) (by omega), ?_, ?_, ?_⟩, ⟨hb.1, hb.2.1, hb.2.2.1, hb.2.2.2.1, by omega⟩, fun i x y => ?_, c4, fun z x y => (k 3 z (by omega) (by omega) (by omega) (by omega) (by omega)).trans (c5 z x y), fun i x y j u w => ?_⟩
        · rw [k 1 2 (by omega) (by omega) (by omega) (by omega) (by omega)]; exact e2
        · rw [k 1 3 (by omega) (by omega) (by omega) (by omega) (by omega)]; exact e3
        · rw [kM 1 5 (by omega) (by omega), p4, u2_at, if_neg (by omega), u2_at, if_pos ⟨rfl, rfl⟩, e5]
        · by_cases t : i = V 42 4
          · subst t
            refine ⟨n, rS, h67, by omega, ?_⟩
            rw [fn.1, fn.2.1, fn.2.2.1, fn.2.2.2]
            exact p0
          · obtain ⟨c, hc, hO⟩ := c3 i x (by omega)
            have h2 := hO.fr (V2 := V2) (funext fun z => k c z (by have := hO.2.1; omega) (by have := hO.1; omega) (by have := hO.1; omega) (by have := hO.1; omega) (by have := hO.1; omega))
            exact ⟨c, by rw [rN i t]; exact hc, h2.1, by have := h2.2.1; omega, h2.2.2⟩
        · by_cases t : i = V 42 4
          · subst t
            obtain ⟨g0, g1, g2, g3⟩ := FR_e (V := V2) rS
            unfold FM
            rcases (show j = 0 ∨ j = 1 ∨ j = 2 ∨ j = 3 by omega) with o | o | o | o <;> subst o
            · rw [g0, fn.1, Int.add_zero, f0.1]
            · rw [g1, fn.2.1, f0.2.1]
            · rw [g2, fn.2.2.1, f0.2.2.1]
            · rw [g3, fn.2.2.2, f0.2.2.2]
          · have c6i := c6 i x (by omega) j u w
            obtain ⟨c, hc, hO⟩ := c3 i x (by omega)
            have hc2 : u2 R 2 (V 1 5) (some n) 2 i = some c := by rw [rN i t]; exact hc
            have e1 : FR V2 (u2 R 2 (V 1 5) (some n)) 2 i j = FR V R 2 i j := by
              unfold FR
              rw [hc2, hc]
              show (if j = 0 then V2 c 3 else V2 c (j - 1)) = (if j = 0 then V c 3 else V c (j - 1))
              have hh := hO.1
              have hh2 := hO.2.1
              rw [k c 3 (by omega) (by omega) (by omega) (by omega) (by omega), k c (j - 1) (by omega) (by omega) (by omega) (by omega) (by omega)]
            rw [e1, c6i]
            exact (k 43 (4 * i + j) (by omega) (by omega) (by omega) (by omega) (by omega)).symm
      · rw [k 42 2 (by omega) (by omega) (by omega) (by omega) (by omega), k 1 0 (by omega) (by omega) (by omega) (by omega) (by omega), k 1 1 (by omega) (by omega) (by omega) (by omega) (by omega), k 42 0 (by omega) (by omega) (by omega) (by omega) (by omega), k 42 1 (by omega) (by omega) (by omega) (by omega) (by omega)]; exact h.same
      · rw [k 42 0 (by omega) (by omega) (by omega) (by omega) (by omega), k 42 1 (by omega) (by omega) (by omega) (by omega) (by omega)]; exact h.rg
      · rw [k 42 2 (by omega) (by omega) (by omega) (by omega) (by omega)]
        intro x
        omega
      · intro x d y w t
        rw [u2_at] at t
        split at t
        · cases t
          exact ⟨by omega, tb_dyn h67⟩
        · have := h.r2 x d y w t
          exact ⟨by omega, this.2⟩
theorem pr_order {k g w l : Int} (h : Rel n V R) (gk : Rg k) (gg : Rg g) (gw : Rg w) (gl : Rg l) : PairOk G yX11_order cX11_order 5 (rmk 3 0 0 65) yX12_order cX12_order 5 (rmk 2 0 0 41) .int iM [.int (iI k), .int (iI g), .int (iI w), .int (iI l)] n V R 0 0 := by
  obtain ⟨o1, o2, o3⟩ := h.or
  have h67 := h.h67
  refine ⟨_, m_X11_order G n V R k g w l h.h67 h.lr gk gg gw gl (by omega), fun v u hp => ?_⟩
  obtain ⟨r, V1, rfl, rfl, hp⟩ := hp
  rcases hp with ⟨p1, p2, rfl⟩ | ⟨p1, p0, p2, rfl⟩ | ⟨p1, p0, p2, p3⟩
  · refine ⟨r, rfl, h.h67, _, m_X12_order G n V1 R k g w l h.h67 h.lr gk gg gw gl h.bo.2.1 o2, fun v2 u2 hq => ?_⟩
    obtain ⟨r2, V2, rfl, rfl, hq⟩ := hq
    rcases hq with ⟨q1, q2, rfl⟩ | ⟨q1, q2, rfl⟩ | ⟨q1, q2, q3⟩
    · exact ⟨by rw [p2, q2], h⟩
    · exact absurd q1.1 p1
    · exact absurd q1.1 p1
  · refine ⟨r, rfl, h.h67, _, m_X12_order G n V1 R k g w l h.h67 h.lr gk gg gw gl h.bo.2.1 o2, fun v2 u2 hq => ?_⟩
    obtain ⟨r2, V2, rfl, rfl, hq⟩ := hq
    rcases hq with ⟨q1, q2, rfl⟩ | ⟨q1, q2, rfl⟩ | ⟨q1, q2, q3⟩
    · exact absurd p1 q1
    · exact ⟨by rw [p2, q2], h⟩
    · omega
  · have k1 : ∀ c x, ¬ (c = 1 ∧ x = 10) → ¬ (c = 5 ∧ 4 * V 1 10 ≤ x ∧ x ≤ 4 * V 1 10 + 3) → V1 c x = V c x := fun c x y t => by
      rw [p3, u2_at, if_neg (by omega), u2_at, if_neg (by omega), u2_at, if_neg (by omega), u2_at, if_neg (by omega), u2_at, if_neg (by omega)]
    have e42 : ∀ x, V1 42 x = V 42 x := fun x => k1 42 x (by omega) (by omega)
    refine ⟨r, rfl, h.h67, _, m_X12_order G n V1 R k g w l h.h67 h.lr gk gg gw gl (by rw [e42]; exact h.bo.2.1) (by rw [e42]; exact o2), fun v2 u2 hq => ?_⟩
    obtain ⟨r2, V2, rfl, rfl, hq⟩ := hq
    rw [e42] at hq
    rcases hq with ⟨q1, q2, q3⟩ | ⟨q1, q2, q3⟩ | ⟨q1, q2, q3⟩
    · exact absurd p1 q1
    · omega
    · refine ⟨by rw [p2, q2, o1], ?_⟩
      dsimp only
      have kM : ∀ c x, ¬ (c = 42 ∧ x = 9) → ¬ (c = 46 ∧ 4 * V 42 9 ≤ x ∧ x ≤ 4 * V 42 9 + 3) → V2 c x = V1 c x := fun c x y t => by
        rw [q3, u2_at, if_neg (by omega), u2_at, if_neg (by omega), u2_at, if_neg (by omega), u2_at, if_neg (by omega), u2_at, if_neg (by omega)]
      have kk : ∀ c x, ¬ (c = 1 ∧ x = 10) → ¬ (c = 5 ∧ 4 * V 1 10 ≤ x ∧ x ≤ 4 * V 1 10 + 3) → ¬ (c = 42 ∧ x = 9) → ¬ (c = 46 ∧ 4 * V 42 9 ≤ x ∧ x ≤ 4 * V 42 9 + 3) → V2 c x = V c x := fun c x y t s i => (kM c x s i).trans (k1 c x y t)
      have n9 : V2 42 9 = V 42 9 + 1 := by rw [q3, u2_at, if_pos ⟨rfl, rfl⟩]
      have n10 : V2 1 10 = V 1 10 + 1 := by rw [kM 1 10 (by omega) (by omega), p3, u2_at, if_pos ⟨rfl, rfl⟩]
      refine h.kp (Nat.le_refl _) ⟨h.bo.fr fun q z x => kk q z (by omega) (by omega) (by omega) (by omega), ⟨by omega, by omega, fun j x y => ?_⟩, h.ta.fr fun q z x => kk q z (by omega) (by omega) (by omega) (by omega), h.im.fr (Nat.le_refl _) (fun q z x => kk q z (by omega) (by omega) (by omega) (by omega)) (fun _ _ _ => rfl), h.sh.fr fun q z x => kk q z (by omega) (by omega) (by omega) (by omega)⟩ h.2.2.1 (fun q z x => kk q z (by omega) (by omega) (by omega) (by omega)) (fun _ _ _ => rfl)
      by_cases t : j = V 42 9
      · subst t
        have a0 : V2 5 (4 * V 42 9) = k ∧ V2 5 (4 * V 42 9 + 3) = g ∧ V2 5 (4 * V 42 9 + 1) = w ∧ V2 5 (4 * V 42 9 + 2) = l := by
          rw [kM 5 _ (by omega) (by omega), kM 5 _ (by omega) (by omega), kM 5 _ (by omega) (by omega), kM 5 _ (by omega) (by omega), p3, o1]
          refine ⟨?_, ?_, ?_, ?_⟩
          · rw [u2_at, if_neg (by omega), u2_at, if_neg (by omega), u2_at, if_neg (by omega), u2_at, if_neg (by omega), u2_at, if_pos ⟨rfl, rfl⟩]
          · rw [u2_at, if_neg (by omega), u2_at, if_pos ⟨rfl, rfl⟩]
          · rw [u2_at, if_neg (by omega), u2_at, if_neg (by omega), u2_at, if_neg (by omega), u2_at, if_pos ⟨rfl, rfl⟩]
          · rw [u2_at, if_neg (by omega), u2_at, if_neg (by omega), u2_at, if_pos ⟨rfl, rfl⟩]
        have b0 : V2 46 (4 * V 42 9) = k ∧ V2 46 (4 * V 42 9 + 1) = g ∧ V2 46 (4 * V 42 9 + 2) = w ∧ V2 46 (4 * V 42 9 + 3) = l := by
          rw [q3]
          refine ⟨?_, ?_, ?_, ?_⟩
          · rw [u2_at, if_neg (by omega), u2_at, if_neg (by omega), u2_at, if_neg (by omega), u2_at, if_neg (by omega), u2_at, if_pos ⟨rfl, rfl⟩]
          · rw [u2_at, if_neg (by omega), u2_at, if_neg (by omega), u2_at, if_neg (by omega), u2_at, if_pos ⟨rfl, rfl⟩]
          · rw [u2_at, if_neg (by omega), u2_at, if_neg (by omega), u2_at, if_pos ⟨rfl, rfl⟩]
          · rw [u2_at, if_neg (by omega), u2_at, if_pos ⟨rfl, rfl⟩]
        rw [a0.1, a0.2.1, a0.2.2.1, a0.2.2.2, b0.1, b0.2.1, b0.2.2.1, b0.2.2.2]
        exact ⟨rfl, rfl, rfl, rfl⟩
      · rw [kk 5 (4 * j) (by omega) (by omega) (by omega) (by omega), kk 5 (4 * j + 3) (by omega) (by omega) (by omega) (by omega), kk 5 (4 * j + 1) (by omega) (by omega) (by omega) (by omega), kk 5 (4 * j + 2) (by omega) (by omega) (by omega) (by omega), kk 46 (4 * j) (by omega) (by omega) (by omega) (by omega), kk 46 (4 * j + 1) (by omega) (by omega) (by omega) (by omega), kk 46 (4 * j + 2) (by omega) (by omega) (by omega) (by omega), kk 46 (4 * j + 3) (by omega) (by omega) (by omega) (by omega)]
        exact o3 j x (by omega)
end P4
