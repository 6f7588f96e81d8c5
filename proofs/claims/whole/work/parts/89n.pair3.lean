section P3
variable {G : GS} {n : Nat} {V : Nat → Int → Int} {R : Nat → Int → Option Nat}
/-- neither the log nor its faults have changed; the rest is given anew -/
theorem Rel.kp {n' : Nat} {V' : Nat → Int → Int} {R' : Nat → Int → Option Nat} (h : Rel n V R) (hn : n ≤ n') (hS : Rst n' V' R') (hR : RfR n' R') (e : ∀ q z, (q = 1 ∧ z ≤ 5) ∨ q = 3 ∨ (11 ≤ q ∧ q ≤ 34) ∨ (67 ≤ q ∧ q < n) ∨ (q = 42 ∧ 0 ≤ z ∧ z ≤ 4) ∨ (q = 43 ∧ 0 ≤ z ∧ z < 32) ∨ (q = 44 ∧ 0 ≤ z ∧ z < 7) → V' q z = V q z) (eR : ∀ q, q ≠ 7 → q ≠ 35 → R' q = R q) : Rel n' V' R' := by
  have a0 := e 42 0 (by omega)
  have a1 := e 42 1 (by omega)
  have a2 := e 42 2 (by omega)
  have a3 := e 42 3 (by omega)
  have a4 := e 42 4 (by omega)
  have y0 := e 1 0 (by omega)
  have y1 := e 1 1 (by omega)
  have hb := h.b
  refine ⟨by have := h.h67; omega, h.lr.fr (fun q a b c => eR q b c), hR, ⟨?_, ?_, ?_, ?_⟩, hS⟩
  · rw [a2, a3, a4, y0, y1]
    refine (h.c.cg (f' := FM V') (pr' := V' 44) (fun i x y j u v => ?_) (fun z x y => (e 44 z (by omega)).symm)).mv hn (fun q z x => e q z (by omega)) (fun _ _ _ => by rw [eR 2 (by decide) (by decide)])
    exact (e 43 (4 * i + j) (by omega)).symm
  · rw [a0, a1, a2, y0, y1]; exact h.same
  · rw [a0, a1]; exact h.rg
  · rw [a2, a4]; exact h.z
theorem argF_b {a b c d e k : Int} (ha : 0 ≤ a ∧ a ≤ 255) (hb : 0 ≤ b ∧ b ≤ 255) (hc : 0 ≤ c ∧ c ≤ 255) (hd : 0 ≤ d ∧ d ≤ 255) (he : 0 ≤ e ∧ e ≤ 255) : 0 ≤ argF a b c d e k ∧ argF a b c d e k ≤ 255 := by
  unfold argF
  repeat' split <;> omega
theorem pr_feed {k a b c d e : Int} (h : Rel n V R) (gk : Rg k) (ga : Rg a) (gb : Rg b) (gc : Rg c) (gd : Rg d) (ge : Rg e) : PairOk G yX11_feed cX11_feed 7 (rmk 3 0 0 58) yX12_feed cX12_feed 8 (rmk 2 0 0 41) .int iM [.int (iI k), .int (iI a), .int (iI b), .int (iI c), .int (iI d), .int (iI e)] n V R 0 0 := by
  obtain ⟨t1, t2, t3, t4⟩ := h.ta
  refine ⟨_, m_X11_feed G n V R k a b c d e h.h67 h.lr gk ga gb gc gd ge (by omega), fun v u hp => ?_⟩
  obtain ⟨r, V1, rfl, rfl, hp⟩ := hp
  rcases hp with ⟨p1, p2, rfl⟩ | ⟨p1, p3, p2, rfl⟩ | ⟨p1, p3, p2, p4, p5, p6⟩
  · refine ⟨r, rfl, h.h67, _, m_X12_feed G n V1 R k a b c d e h.h67 h.lr gk ga gb gc gd ge t2, fun v2 u2 hq => ?_⟩
    obtain ⟨r2, V2, rfl, rfl, hq⟩ := hq
    rcases hq with ⟨q1, q2, rfl⟩ | ⟨q1, q3, q2, rfl⟩ | ⟨q1, _⟩
    · exact ⟨by rw [p2, q2], h⟩
    · exact absurd q1 p1
    · exact absurd q1 p1
  · refine ⟨r, rfl, h.h67, _, m_X12_feed G n V1 R k a b c d e h.h67 h.lr gk ga gb gc gd ge t2, fun v2 u2 hq => ?_⟩
    obtain ⟨r2, V2, rfl, rfl, hq⟩ := hq
    rcases hq with ⟨q1, q2, rfl⟩ | ⟨q1, q3, q2, rfl⟩ | ⟨q1, q3, _⟩
    · exact absurd p1 q1
    · exact ⟨by rw [p2, q2], h⟩
    · omega
  · have e42 : ∀ z, V1 42 z = V 42 z := fun z => p6 42 z (by omega) (by omega)
    refine ⟨r, rfl, h.h67, _, m_X12_feed G n V1 R k a b c d e h.h67 h.lr gk ga gb gc gd ge (by rw [e42]; exact t2), fun v2 u2 hq => ?_⟩
    obtain ⟨r2, V2, rfl, rfl, hq⟩ := hq
    rw [e42] at hq
    rcases hq with ⟨q1, q2, q3⟩ | ⟨q1, q3, q2, q4⟩ | ⟨q1, q3, q2, q4, q5, q6⟩
    · exact absurd p1 q1
    · omega
    · rw [e42] at q4 q5 q6
      refine ⟨by rw [p2, q2, t1], ?_⟩
      dsimp only
      obtain ⟨g1, ga', gb', gc', gd', ge'⟩ := p1
      have kk : ∀ q z, ¬ (q = 0 ∧ z = 7) → q ≠ 36 → ¬ (q = 42 ∧ z = 12) → q ≠ 47 → V2 q z = V q z := fun q z x y w s => by rw [q6 q z w (by omega), p6 q z x (by omega)]
      refine h.kp (Nat.le_refl _) ⟨h.bo.fr fun q z x => kk q z (by omega) (by omega) (by omega) (by omega), h.or.fr fun q z x => kk q z (by omega) (by omega) (by omega) (by omega), ⟨?_, ?_, ?_, ?_⟩, h.im.fr (Nat.le_refl _) (fun q z x => kk q z (by omega) (by have := h.h67; omega) (by omega) (by omega)) (fun _ _ _ => rfl), h.sh.fr fun q z x => kk q z (by omega) (by omega) (by omega) (by omega)⟩ h.2.2.1 (fun q z x => kk q z (by omega) (by omega) (by omega) (by omega)) (fun _ _ _ => rfl)
      · rw [q6 0 7 (by omega) (by omega), p4, q4, t1]
      · rw [q4]; omega
      · intro z
        rw [q6 36 z (by omega) (by omega)]
        by_cases w : V 42 12 ≤ z ∧ z < V 42 12 + k
        · have x1 := p5 (z - V 42 12) (by omega) (by omega)
          have x2 := q5 (z - V 42 12) (by omega) (by omega)
          rw [show V 0 7 + (z - V 42 12) = z by omega] at x1
          rw [show V 42 12 + (z - V 42 12) = z by omega] at x2
          rw [x1, x2]
        · rw [q6 47 z (by omega) (by omega), p6 36 z (by omega) (by omega), p6 47 z (by omega) (by omega)]
          exact t3 z
      · intro z x y
        rw [q4] at y
        by_cases w : z < V 42 12
        · rw [q6 47 z (by omega) (by omega), p6 47 z (by omega) (by omega)]
          exact t4 z x w
        · have x2 := q5 (z - V 42 12) (by omega) (by omega)
          rw [show V 42 12 + (z - V 42 12) = z by omega] at x2
          rw [x2]
          exact argF_b ga' gb' gc' gd' ge'
theorem pr_heal {f : Int} (h : Rel n V R) (gf : Rg f) : PairOk G yX11_heal cX11_heal 2 (rmk 3 0 0 59) yX12_heal cX12_heal 2 (rmk 2 0 0 41) .int iM [.int (iI f)] n V R 0 0 := by
  obtain ⟨b0, b1, b2, b5⟩ := h.rng5
  obtain ⟨e2, e3, e5⟩ := h.e
  have hb := h.b
  refine ⟨_, m_X11_heal G n V R f h.h67 h.lr gf b5 h.fs5, fun v u hp => ?_⟩
  obtain ⟨r, V1, R1, rfl, rfl, hp⟩ := hp
  rcases hp with ⟨p1, p2, rfl, rfl⟩ | ⟨p1, p2, p3, p4, p5, p6⟩
  · refine ⟨r, rfl, h.h67, _, m_X12_heal G n V1 R1 f h.h67 h.lr gf hb.2.2.2.2, fun v2 u2 hq => ?_⟩
    obtain ⟨r2, V2, rfl, rfl, hq⟩ := hq
    rcases hq with ⟨q1, q2, rfl⟩ | ⟨q1, q2, q3⟩
    · exact ⟨by rw [p2, q2], h⟩
    · omega
  · have e42 : ∀ z, V1 42 z = V 42 z := fun z => by rw [p3, u2_at, if_neg (by omega), u2_at, if_neg (by omega)]
    have hLR : LR R1 := h.lr.fr (fun q x _ _ => p4 q x)
    refine ⟨r, rfl, h.h67, _, m_X12_heal G n V1 R1 f h.h67 hLR gf (by rw [e42]; exact hb.2.2.2.2), fun v2 u2 hq => ?_⟩
    obtain ⟨r2, V2, rfl, rfl, hq⟩ := hq
    rw [e42] at hq
    rcases hq with ⟨q1, q2, q3⟩ | ⟨q1, q2, q3, q4, q5⟩
    · omega
    · refine ⟨by rw [p2, q2, e5], ?_⟩
      dsimp only
      have k : ∀ q z, ¬ (q = 42 ∧ z = 4) → q ≠ 43 → ¬ (q = 1 ∧ z = 5) → ¬ (q = 11 ∧ z = 0) → V2 q z = V q z := fun q z x y w s => by rw [q5 q z x y, p3, u2_at, if_neg s, u2_at, if_neg w]
      have k43 : ∀ z, 0 ≤ z → z < 4 * (V 42 4 - 1) → V2 43 z = if z < 4 * f then V 43 z else V 43 (z + 4) := fun z x y => by
        rw [q4 z x y, p3, u2_n (by decide), u2_n (by decide)]
      obtain ⟨c1, c2, c3, c4, c5, c6⟩ := h.c.1
      have idx : ∀ i : Int, 0 ≤ i → i < V 42 4 - 1 → 0 ≤ (if i < f then i else i + 1) ∧ (if i < f then i else i + 1) < V 42 4 := fun i x y => ⟨by split <;> omega, by split <;> omega⟩
      refine h.lg (Nat.le_refl _) ?_ (by rw [q5 11 0 (by omega) (by omega), p3, u2_at, if_pos ⟨rfl, rfl⟩]) ?_ ?_ ?_ (fun q z x => k q z (by unfold KS at x; omega) (by unfold KS at x; omega) (by unfold KS at x; omega) (by unfold KS at x; omega)) p4 ?_
      · have n4 : V2 42 4 = V 42 4 - 1 := q3
        rw [n4, k 1 0 (by omega) (by omega) (by omega) (by omega), k 1 1 (by omega) (by omega) (by omega) (by omega), k 42 2 (by omega) (by omega) (by omega) (by omega), k 42 3 (by omega) (by omega) (by omega) (by omega), show V2 44 = V 44 from funext fun z => k 44 z (by omega) (by omega) (by omega) (by omega)]
        have fz : FsOk n V2 R1 2 (V 42 4 - 1) := fun i x y => by
          rw [p5 i x (by omega)]
          obtain ⟨c, hc, hO⟩ := c3 _ (idx i x y).1 (idx i x y).2
          exact ⟨c, hc, hO.fr (funext fun z => k c z (by have := hO.1; omega) (by have := hO.1; omega) (by have := hO.1; omega) (by have := hO.1; omega))⟩
        refine ⟨⟨k 1 0 (by omega) (by omega) (by omega) (by omega), k 1 1 (by omega) (by omega) (by omega) (by omega), (k 1 2 (by omega) (by omega) (by omega) (by omega)).trans e2, (k 1 3 (by omega) (by omega) (by omega) (by omega)).trans e3, ?_⟩, ⟨hb.1, hb.2.1, hb.2.2.1, hb.2.2.2.1, by omega⟩, fz, c4, fun z x y => (k 3 z (by omega) (by omega) (by omega) (by omega)).trans (c5 z x y), fun i x y j u w => ?_⟩
        · rw [q5 1 5 (by omega) (by omega), p3, u2_at, if_neg (by omega), u2_at, if_pos ⟨rfl, rfl⟩, e5]
        · have c6i := c6 _ (idx i x y).1 (idx i x y).2 j u w
          have eR := p5 i x (by omega)
          obtain ⟨c, hc, hO⟩ := c3 _ (idx i x y).1 (idx i x y).2
          have e1 : FR V2 R1 2 i j = FR V R 2 (if i < f then i else i + 1) j := by
            unfold FR
            rw [eR, hc]
            show (if j = 0 then V2 c 3 else V2 c (j - 1)) = (if j = 0 then V c 3 else V c (j - 1))
            rw [k c 3 (by have := hO.1; omega) (by have := hO.1; omega) (by have := hO.1; omega) (by have := hO.1; omega), k c (j - 1) (by have := hO.1; omega) (by have := hO.1; omega) (by have := hO.1; omega) (by have := hO.1; omega)]
          rw [e1, c6i]
          unfold FM
          rw [k43 _ (by omega) (by omega)]
          by_cases s : i < f
          · rw [if_pos s, if_pos (by omega)]
          · rw [if_neg s, if_neg (by omega), show 4 * i + j + 4 = 4 * (i + 1) + j by omega]
      · rw [k 42 2 (by omega) (by omega) (by omega) (by omega), k 1 0 (by omega) (by omega) (by omega) (by omega), k 1 1 (by omega) (by omega) (by omega) (by omega), k 42 0 (by omega) (by omega) (by omega) (by omega), k 42 1 (by omega) (by omega) (by omega) (by omega)]; exact h.same
      · rw [k 42 0 (by omega) (by omega) (by omega) (by omega), k 42 1 (by omega) (by omega) (by omega) (by omega)]; exact h.rg
      · rw [k 42 2 (by omega) (by omega) (by omega) (by omega)]
        intro x
        have := h.z x
        omega
      · intro z d x y w
        by_cases s : z < V 42 4 - 1
        · rw [p5 z x (by omega)] at w
          exact h.r2 _ d (idx z x s).1 (Int.lt_of_lt_of_le (idx z x s).2 hb.2.2.2.2.2) w
        · rcases p6 z (by omega) with t | t
          · rw [t] at w; exact h.r2 z d x y w
          · rw [t] at w; cases w
end P3
