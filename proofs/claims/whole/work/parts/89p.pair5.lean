section P5
variable {G : GS} {n : Nat} {V : Nat → Int → Int} {R : Nat → Int → Option Nat}
theorem Rel.hs37 (h : Rel n V R) : ∀ z, 0 ≤ z → z ≤ 3 → (-1 ≤ V 37 z ∧ V 37 z ≤ 1) ∧ (0 ≤ V 38 z ∧ V 38 z ≤ 40) := fun z a b => ⟨(h.sh z a b).1, (h.sh z a b).2.2.1⟩
theorem Rel.hs65 (h : Rel n V R) : ∀ z, 0 ≤ z → z ≤ 3 → 0 ≤ V 65 z ∧ V 65 z ≤ 40 := fun z a b => (h.sh z a b).2.2.2.1
/-- the sheets alone have changed -/
theorem Rel.shk {V' : Nat → Int → Int} (h : Rel n V R) (hS : ShR V') (e : ∀ q z, ¬ (37 ≤ q ∧ q ≤ 39) → ¬ (60 ≤ q ∧ q ≤ 66) → V' q z = V q z) : Rel n V' R := by
  have h67 := h.h67
  exact h.kp (Nat.le_refl _) ⟨h.bo.fr fun q z x => e q z (by omega) (by omega), h.or.fr fun q z x => e q z (by omega) (by omega), h.ta.fr fun q z x => e q z (by omega) (by omega), h.im.fr (Nat.le_refl _) (fun q z x => e q z (by omega) (by omega)) (fun _ _ _ => rfl), hS⟩ h.2.2.1 (fun q z x => e q z (by omega) (by omega)) (fun _ _ _ => rfl)
theorem pr_sheet {s w m : Int} (h : Rel n V R) (gs : Rg s) (gw : Rg w) (gm : Rg m) : PairOk G yX11_sheet cX11_sheet 5 (rmk 3 0 0 58) yX12_sheet cX12_sheet 5 (rmk 3 0 0 61) .int iM [.int (iI s), .int (iI w), .int (iI m)] n V R 0 0 := by
  refine ⟨_, m_X11_sheet G n V R s w m h.h67 h.lr gs gw gm, fun v u hp => ?_⟩
  obtain ⟨r, V1, rfl, rfl, hp⟩ := hp
  refine ⟨r, rfl, h.h67, _, m_X12_sheet G n V1 R s w m h.h67 h.lr gs gw gm, fun v2 u2 hq => ?_⟩
  obtain ⟨r2, V2, rfl, rfl, hq⟩ := hq
  rcases hp with ⟨p1, p2, rfl⟩ | ⟨p1, p3, p4, p2, rfl⟩ | ⟨p1, p3, p2, p5⟩ | ⟨p1, p3, p4, p2, p5, p6, p7, p8⟩
  · rcases hq with ⟨q1, q2, rfl⟩ | ⟨q1, q3, q4, q2, rfl⟩ | ⟨q1, q3, q2, q5⟩
    · exact ⟨by rw [p2, q2], h⟩
    · exact absurd p1 q1
    · exact absurd p1 q1
  · rcases hq with ⟨q1, q2, rfl⟩ | ⟨q1, q3, q4, q2, rfl⟩ | ⟨q1, q3, q2, q5⟩
    · exact absurd q1 p1
    · exact ⟨by rw [p2, q2], h⟩
    · omega
  · rcases hq with ⟨q1, q2, q5⟩ | ⟨q1, q3, q4, q2, q5⟩ | ⟨q1, q3, q2, q5, q6, q7, q8⟩
    · exact absurd q1 p1
    · omega
    · refine ⟨by rw [p2, q2], ?_⟩
      dsimp only
      refine h.shk (fun u a b => ?_) (fun q z a b => ?_)
      · have e37 : V2 37 u = if u = s then -1 else V 37 u := by
          rw [q8 37 (by omega) (by omega) (by omega), p5, u2_at]
          by_cases t : u = s
          · rw [if_pos ⟨rfl, t⟩, if_pos t]
          · rw [if_neg (fun y => t y.2), if_neg t]
        have f : ∀ c z, c ≠ 37 → c ≠ 64 → c ≠ 65 → c ≠ 60 + s.toNat → V2 c z = V c z := fun c z x y t o => by rw [q8 c y t o, p5, u2_at, if_neg (by omega)]
        have e1 : ∀ z, V1 64 z = V 64 z := fun z => by rw [p5, u2_at, if_neg (by omega)]
        have e2 : ∀ z, V1 65 z = V 65 z := fun z => by rw [p5, u2_at, if_neg (by omega)]
        have hu := h.sh u a b
        by_cases t : u = s
        · subst t
          rw [e37, if_pos rfl, q5, q6, u1_s, u1_s, f 38 u (by omega) (by omega) (by omega) (by omega), if_pos (by omega)]
          exact ⟨by omega, p3, hu.2.2.1, by omega, fun y => absurd y (by decide)⟩
        · rw [e37, if_neg t, q5, q6, u1_n t, u1_n t, e1, e2, f 38 u (by omega) (by omega) (by omega) (by omega)]
          refine ⟨hu.1, hu.2.1, hu.2.2.1, hu.2.2.2.1, fun y => ⟨(hu.2.2.2.2 y).1, fun i c d => ?_⟩⟩
          rw [f 39 _ (by omega) (by omega) (by omega) (by omega), f (60 + u.toNat) i (by omega) (by omega) (by omega) (by omega)]
          exact (hu.2.2.2.2 y).2 i c d
      · rw [q8 q (by omega) (by omega) (by omega), p5, u2_at, if_neg (by omega)]
  · rcases hq with ⟨q1, q2, q5⟩ | ⟨q1, q3, q4, q2, q5⟩ | ⟨q1, q3, q2, q5, q6, q7, q8⟩
    · exact absurd q1 p1
    · omega
    · refine ⟨by rw [p2, q2], ?_⟩
      dsimp only
      refine h.shk (fun u a b => ?_) (fun q z a b => ?_)
      · have f : ∀ c z, c ≠ 37 → c ≠ 38 → c ≠ 39 → c ≠ 64 → c ≠ 65 → c ≠ 60 + s.toNat → V2 c z = V c z := fun c z x y t o i j => by rw [q8 c o i j, p8 c x y t]
        have e1 : V1 64 = V 64 := p8 64 (by omega) (by omega) (by omega)
        have e2 : V1 65 = V 65 := p8 65 (by omega) (by omega) (by omega)
        have hu := h.sh u a b
        rw [q8 37 (by omega) (by omega) (by omega), q8 38 (by omega) (by omega) (by omega), q8 39 (by omega) (by omega) (by omega), p5, p6, q5, q6, e1, e2]
        by_cases t : u = s
        · subst t
          rw [u1_s, u1_s, u1_s, u1_s, if_neg (by omega)]
          refine ⟨by omega, rfl, by omega, by omega, fun y => ⟨rfl, fun i c d => ?_⟩⟩
          rw [p7, if_pos (by omega), q7 i c (by omega)]
        · rw [u1_n t, u1_n t, u1_n t, u1_n t]
          refine ⟨hu.1, hu.2.1, hu.2.2.1, hu.2.2.2.1, fun y => ⟨(hu.2.2.2.2 y).1, fun i c d => ?_⟩⟩
          rw [p7, if_neg (by omega), f (60 + u.toNat) i (by omega) (by omega) (by omega) (by omega) (by omega) (by omega)]
          exact (hu.2.2.2.2 y).2 i c d
      · rw [q8 q (by omega) (by omega) (by omega), p8 q (by omega) (by omega) (by omega)]
theorem pr_put {s j v0 : Int} (h : Rel n V R) (gs : Rg s) (gj : Rg j) (gv : Rl v0) : PairOk G yX11_put cX11_put 5 (rmk 3 0 0 58) yX12_put cX12_put 5 (rmk 3 0 0 61) .int iM [.int (iI s), .int (iI j), .long (jI v0)] n V R 0 0 := by
  refine ⟨_, m_X11_put G n V R s j v0 h.h67 h.lr gs gj gv h.hs37, fun v u hp => ?_⟩
  obtain ⟨r, V1, rfl, rfl, hp⟩ := hp
  have e65 : ∀ z, V1 65 z = V 65 z := fun z => by
    rcases hp with ⟨_, _, rfl⟩ | ⟨_, _, _, rfl⟩ | ⟨_, _, _, _, rfl⟩ | ⟨_, _, _, _, p⟩
    · rfl
    · rfl
    · rfl
    · rw [p, u2_at, if_neg (by omega)]
  refine ⟨r, rfl, h.h67, _, m_X12_put G n V1 R s j v0 h.h67 h.lr gs gj gv (fun z a b => by rw [e65]; exact h.hs65 z a b), fun v2 u2 hq => ?_⟩
  obtain ⟨r2, V2, rfl, rfl, hq⟩ := hq
  by_cases hs : 0 ≤ s ∧ s ≤ 3
  · have hu := h.sh s hs.1 hs.2
    rcases hp with ⟨p1, p2, rfl⟩ | ⟨p1, p3, p2, rfl⟩ | ⟨p1, p3, p4, p2, rfl⟩ | ⟨p1, p3, p4, p2, p5⟩
    · exact absurd hs p1
    · rcases hq with ⟨q1, q2, rfl⟩ | ⟨q1, q3, q2, rfl⟩ | ⟨q1, q3, q4, q2, rfl⟩ | ⟨q1, q3, q4, q2, q5⟩
      · exact absurd hs q1
      · exact ⟨by rw [p2, q2], h⟩
      · omega
      · omega
    · have hz := (hu.2.2.2.2 (by omega)).1
      rcases hq with ⟨q1, q2, rfl⟩ | ⟨q1, q3, q2, rfl⟩ | ⟨q1, q3, q4, q2, rfl⟩ | ⟨q1, q3, q4, q2, q5⟩
      · exact absurd hs q1
      · omega
      · exact ⟨by rw [p2, q2], h⟩
      · omega
    · have hz := (hu.2.2.2.2 (by omega)).1
      have f1 : ∀ c z, ¬ (c = 39 ∧ z = 40 * s + j) → V1 c z = V c z := fun c z x => by rw [p5, u2_at, if_neg x]
      have e64 : V1 64 s = V 64 s := f1 64 s (by omega)
      rw [e64, e65] at hq
      rcases hq with ⟨q1, q2, q5⟩ | ⟨q1, q3, q2, q5⟩ | ⟨q1, q3, q4, q2, q5⟩ | ⟨q1, q3, q4, q2, q5⟩
      · exact absurd hs q1
      · omega
      · omega
      · refine ⟨by rw [p2, q2], ?_⟩
        dsimp only
        refine h.shk (fun u a b => ?_) (fun q z a b => ?_)
        · have f2 : ∀ c z, ¬ (c = 60 + s.toNat ∧ z = j) → V2 c z = V1 c z := fun c z x => by rw [q5, u2_at, if_neg x]
          have hu2 := h.sh u a b
          rw [f2 37 u (by omega), f1 37 u (by omega), f2 64 u (by omega), f1 64 u (by omega), f2 38 u (by omega), f1 38 u (by omega), f2 65 u (by omega), f1 65 u (by omega)]
          refine ⟨hu2.1, hu2.2.1, hu2.2.2.1, hu2.2.2.2.1, fun y => ⟨(hu2.2.2.2.2 y).1, fun i c d => ?_⟩⟩
          rw [f2 39 _ (by omega)]
          by_cases t : u = s ∧ i = j
          · obtain ⟨t1, t2⟩ := t
            subst t1
            subst t2
            have x1 : V1 39 (40 * u + i) = (if V 37 u = 0 then v0 else wr v0) := by rw [p5, u2_at, if_pos ⟨rfl, rfl⟩]
            have x2 : V2 (60 + u.toNat) i = (if V 64 u = 0 then v0 else wr v0) := by rw [q5, u2_at, if_pos ⟨rfl, rfl⟩]
            rw [x1, x2, hu.2.1]
          · rw [f1 39 _ (by omega), f2 (60 + u.toNat) i (by omega), f1 (60 + u.toNat) i (by omega)]
            exact (hu2.2.2.2.2 y).2 i c d
        · rw [q5, u2_at, if_neg (by omega), f1 q z (by omega)]
  · rcases hp with ⟨p1, p2, rfl⟩ | ⟨p1, p3, p2, rfl⟩ | ⟨p1, p3, p4, p2, rfl⟩ | ⟨p1, p3, p4, p2, p5⟩
    · rcases hq with ⟨q1, q2, rfl⟩ | ⟨q1, q3, q2, rfl⟩ | ⟨q1, q3, q4, q2, rfl⟩ | ⟨q1, q3, q4, q2, q5⟩
      · exact ⟨by rw [p2, q2], h⟩
      · exact absurd q1 hs
      · exact absurd q1 hs
      · exact absurd q1 hs
    · exact absurd p1 hs
    · exact absurd p1 hs
    · exact absurd p1 hs
theorem pr_copy {s a t b m : Int} (h : Rel n V R) (gs : Rg s) (ga : Rg a) (gt : Rg t) (gb : Rg b) (gm : Rg m) : PairOk G yX11_copy cX11_copy 6 (rmk 3 0 0 64) yX12_copy cX12_copy 7 (rmk 3 0 0 61) .int iM [.int (iI s), .int (iI a), .int (iI t), .int (iI b), .int (iI m)] n V R 0 0 := by
  refine ⟨_, m_X11_copy G n V R s a t b m h.h67 h.lr gs ga gt gb gm h.hs37, fun v u hp => ?_⟩
  obtain ⟨r, V1, rfl, rfl, hp⟩ := hp
  have f1 : ∀ c, c ≠ 39 → V1 c = V c := fun c x => by
    rcases hp with ⟨_, _, rfl⟩ | ⟨_, _, _, rfl⟩ | ⟨_, _, _, _, _, rfl⟩ | ⟨_, _, _, _, _, rfl⟩ | ⟨_, _, _, _, _, p⟩
    · rfl
    · rfl
    · rfl
    · rfl
    · rw [p]; unfold cpy; rw [uC_n x]
  have e64 := f1 64 (by omega)
  have e65 := f1 65 (by omega)
  refine ⟨r, rfl, h.h67, _, m_X12_copy G n V1 R s a t b m h.h67 h.lr gs ga gt gb gm (fun z x y => by rw [e65]; exact h.hs65 z x y), fun v2 u2 hq => ?_⟩
  obtain ⟨r2, V2, rfl, rfl, hq⟩ := hq
  rw [e64, e65] at hq
  by_cases hs : (0 ≤ s ∧ s ≤ 3) ∧ (0 ≤ t ∧ t ≤ 3)
  · have hu := h.sh s hs.1.1 hs.1.2
    have ht := h.sh t hs.2.1 hs.2.2
    by_cases hm : V 37 s = -1 ∨ V 37 t = -1
    · have e : V1 = V ∧ r = -11 := by
        rcases hp with ⟨p1, p2, p⟩ | ⟨p1, p3, p2, p⟩ | ⟨p1, p3, p4, p5, p2, p⟩ | ⟨p1, p3, p4, p5, p2, p⟩ | ⟨p1, p3, p4, p5, p2, p⟩
        · exact absurd hs p1
        · exact ⟨p, p2⟩
        · omega
        · omega
        · omega
      obtain ⟨rfl, p2⟩ := e
      rcases hq with ⟨q1, q2, rfl⟩ | ⟨q1, q3, q2, rfl⟩ | ⟨q1, q3, q4, q5, q2, rfl⟩ | ⟨q1, q3, q4, q5, q2, rfl⟩ | ⟨q1, q3, q4, q5, q2, q6, q7⟩
      · exact absurd hs q1
      · exact ⟨by rw [p2, q2], h⟩
      · omega
      · omega
      · omega
    · have hz := (hu.2.2.2.2 (by omega)).1
      have hzt := (ht.2.2.2.2 (by omega)).1
      rcases hp with ⟨p1, p2, p⟩ | ⟨p1, p3, p2, p⟩ | ⟨p1, p3, p4, p5, p2, rfl⟩ | ⟨p1, p3, p4, p5, p2, rfl⟩ | ⟨p1, p3, p4, p5, p2, p⟩
      · exact absurd hs p1
      · exact absurd p3 hm
      · rcases hq with ⟨q1, q2, rfl⟩ | ⟨q1, q3, q2, rfl⟩ | ⟨q1, q3, q4, q5, q2, rfl⟩ | ⟨q1, q3, q4, q5, q2, rfl⟩ | ⟨q1, q3, q4, q5, q2, q6, q7⟩
        · exact absurd hs q1
        · omega
        · exact ⟨by rw [p2, q2], h⟩
        · omega
        · omega
      · rcases hq with ⟨q1, q2, rfl⟩ | ⟨q1, q3, q2, rfl⟩ | ⟨q1, q3, q4, q5, q2, rfl⟩ | ⟨q1, q3, q4, q5, q2, rfl⟩ | ⟨q1, q3, q4, q5, q2, q6, q7⟩
        · exact absurd hs q1
        · omega
        · omega
        · exact ⟨by rw [p2, q2], h⟩
        · omega
      · rcases hq with ⟨q1, q2, q6⟩ | ⟨q1, q3, q2, q6⟩ | ⟨q1, q3, q4, q5, q2, q6⟩ | ⟨q1, q3, q4, q5, q2, q6⟩ | ⟨q1, q3, q4, q5, q2, q6, q7⟩
        · exact absurd hs q1
        · omega
        · omega
        · omega
        · refine ⟨by rw [p2, q2], ?_⟩
          dsimp only
          refine h.shk (fun u x y => ?_) (fun q z x y => ?_)
          · have hu2 := h.sh u x y
            rw [q7 37 (by omega) (by omega), f1 37 (by omega), q7 64 (by omega) (by omega), e64, q7 38 (by omega) (by omega), f1 38 (by omega), q7 65 (by omega) (by omega), e65, q7 39 (by omega) (by omega)]
            refine ⟨hu2.1, hu2.2.1, hu2.2.2.1, hu2.2.2.2.1, fun w => ⟨(hu2.2.2.2.2 w).1, fun i c d => ?_⟩⟩
            have e39 : V1 39 (40 * u + i) = if 40 * t + b ≤ 40 * u + i ∧ 40 * u + i < 40 * t + b + m then V 39 (40 * s + a + (40 * u + i - (40 * t + b))) else V 39 (40 * u + i) := by rw [p]; unfold cpy; rw [uC_s]
            rw [e39]
            by_cases o : u = t
            · subst o
              rw [q6, f1 (60 + s.toNat) (by omega), f1 (60 + u.toNat) (by omega)]
              by_cases g : b ≤ i ∧ i < b + m
              · rw [if_pos (by omega), if_pos g, show 40 * s + a + (40 * u + i - (40 * u + b)) = 40 * s + (a + (i - b)) by omega]
                exact (hu.2.2.2.2 (by omega)).2 _ (by omega) (by omega)
              · rw [if_neg (by omega), if_neg g]
                exact (hu2.2.2.2.2 w).2 i c d
            · rw [if_neg (by omega), q7 (60 + u.toNat) (by omega) (by omega), f1 (60 + u.toNat) (by omega)]
              exact (hu2.2.2.2.2 w).2 i c d
          · rw [q7 q (by omega) (by omega), f1 q (by omega)]
  · rcases hp with ⟨p1, p2, rfl⟩ | ⟨p1, p3, p2, p⟩ | ⟨p1, p3, p4, p5, p2, p⟩ | ⟨p1, p3, p4, p5, p2, p⟩ | ⟨p1, p3, p4, p5, p2, p⟩
    · rcases hq with ⟨q1, q2, rfl⟩ | ⟨q1, q3⟩ | ⟨q1, q3⟩ | ⟨q1, q3⟩ | ⟨q1, q3⟩
      · exact ⟨by rw [p2, q2], h⟩
      · exact absurd q1 hs
      · exact absurd q1 hs
      · exact absurd q1 hs
      · exact absurd q1 hs
    · exact absurd p1 hs
    · exact absurd p1 hs
    · exact absurd p1 hs
    · exact absurd p1 hs
end P5
