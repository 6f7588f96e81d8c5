section P2
variable {G : GS} {n : Nat} {V : Nat → Int → Int} {R : Nat → Int → Option Nat}
theorem Rel.rng5 (h : Rel n V R) : (0 ≤ V 1 0 ∧ V 1 0 ≤ 6) ∧ (0 ≤ V 1 1 ∧ V 1 1 ≤ 4) ∧ (0 ≤ V 1 2 ∧ V 1 2 ≤ 8) ∧ (0 ≤ V 1 5 ∧ V 1 5 ≤ 8) := by
  have hb := h.b
  obtain ⟨e2, e3, e5⟩ := h.e
  omega
theorem Rel.fs5 (h : Rel n V R) : FsOk n V R 2 (V 1 5) := by rw [h.e.2.2]; exact h.fs
theorem Rel.fm (h : Rel n V R) {f : Int} (a : 0 ≤ f) (b : f < V 42 4) : FR V R 2 f 0 = V 43 (4 * f) ∧ FR V R 2 f 1 = V 43 (4 * f + 1) ∧ FR V R 2 f 2 = V 43 (4 * f + 2) ∧ FR V R 2 f 3 = V 43 (4 * f + 3) :=
  ⟨(h.fe f a b 0 (by decide) (by decide)).trans (FM_0 V f), h.fe f a b 1 (by decide) (by decide), h.fe f a b 2 (by decide) (by decide), h.fe f a b 3 (by decide) (by decide)⟩
theorem pr_told {f w : Int} (h : Rel n V R) (gf : Rg f) (gw : Rg w) : PairOk G yX11_told cX11_told 4 (rmk 5 0 0 106) yX12_told cX12_told 3 (rmk 4 0 0 93) .int iM [.int (iI f), .int (iI w)] n V R 0 0 := by
  obtain ⟨b0, b1, b2, b5⟩ := h.rng5
  obtain ⟨e2, e3, e5⟩ := h.e
  refine ⟨_, m_X11_told G n V R f w h.h67 h.lr gf gw b5 h.fs5 b0 b1 b2, fun v u hp => ?_⟩
  obtain ⟨r, rfl, rfl, hp⟩ := hp
  refine ⟨r, rfl, h.h67, _, m_X12_told G n V R f w h.h67 h.lr gf gw h.b.2.2.2.2 h.okm h.rg.1 h.rg.2 h.b.2.2.1, fun v2 u2 hq => ?_⟩
  obtain ⟨r2, rfl, rfl, hq⟩ := hq
  have hr : r2 = r := by
    by_cases hi : 0 ≤ f ∧ f ≤ V 42 4 - 1
    · have hL : V 42 2 ≠ 0 := fun e => by have := h.z e; omega
      obtain ⟨s0, s1⟩ := h.same hL
      obtain ⟨k0, k1, k2, k3⟩ := h.fm hi.1 (by omega)
      rw [k0, k1, k2, k3, s0, s1, e2, e5] at hp
      rcases hp with p | p | p | p | p | p | p | p | p <;> rcases hq with q | q | q | q | q | q | q | q | q <;> omega
    · rw [e5] at hp
      rcases hp with p | p | p | p | p | p | p | p | p <;> rcases hq with q | q | q | q | q | q | q | q | q <;> omega
  exact ⟨by rw [hr], h⟩
theorem pr_taken {f w : Int} (h : Rel n V R) (gf : Rg f) (gw : Rg w) : PairOk G yX11_taken cX11_taken 4 (rmk 5 0 0 100) yX12_taken cX12_taken 5 (rmk 3 0 0 67) .int iM [.int (iI f), .int (iI w)] n V R 0 0 := by
  obtain ⟨b0, b1, b2, b5⟩ := h.rng5
  obtain ⟨e2, e3, e5⟩ := h.e
  refine ⟨_, m_X11_taken G n V R f w h.h67 h.lr gf gw b5 h.fs5, fun v u hp => ?_⟩
  obtain ⟨r, rfl, rfl, hp⟩ := hp
  refine ⟨r, rfl, h.h67, _, m_X12_taken G n V R f w h.h67 h.lr gf gw h.b.2.2.2.2 h.okm, fun v2 u2 hq => ?_⟩
  obtain ⟨r2, rfl, rfl, hq⟩ := hq
  have hr : r2 = r := by
    by_cases hi : 0 ≤ f ∧ f ≤ V 42 4 - 1
    · obtain ⟨k0, k1, k2, k3⟩ := h.fm hi.1 (by omega)
      rw [k0, k1, k3, e5] at hp
      rcases hp with p | p | p <;> rcases hq with q | q | q <;> first | omega | exact absurd q.1.2.2 p.1.2.2 | exact absurd p.1.2.2 q.1.2.2
    · rw [e5] at hp
      rcases hp with p | p | p <;> rcases hq with q | q | q <;> omega
  exact ⟨by rw [hr], h⟩
theorem pr_stack {k w : Int} (h : Rel n V R) (gk : Rg k) (gw : Rg w) : PairOk G yX11_stack cX11_stack 3 (rmk 2 0 0 38) yX12_stack cX12_stack 3 (rmk 2 0 0 41) .int iM [.int (iI k), .int (iI w)] n V R 0 0 := by
  obtain ⟨c1, c2, c3⟩ := h.bo
  refine ⟨_, m_X11_stack G n V R k w h.h67 h.lr gk gw (by omega), fun v u hp => ?_⟩
  obtain ⟨r, rfl, rfl, hp⟩ := hp
  refine ⟨r, rfl, h.h67, _, m_X12_stack G n V R k w h.h67 h.lr gk gw c2 h.or.2.1, fun v2 u2 hq => ?_⟩
  obtain ⟨r2, rfl, rfl, hq⟩ := hq
  have hr : r2 = r := by
    rcases hp with p | p | p | p <;> rcases hq with q | q | q | q <;> first | omega | exact q.2.trans ((c3 _ (by omega) (by omega)).symm.trans p.2.2.symm)
  exact ⟨by rw [hr], h⟩
/-- the log's own state has changed, on both sides; the rest is as it was -/
theorem Rel.lg {n' : Nat} {V' : Nat → Int → Int} {R' : Nat → Int → Option Nat} (h : Rel n V R) (hn : n ≤ n') (hC : LogC n' V' R' (V' 1 0) (V' 1 1) (V' 42 2) (FM V') (V' 42 4) (V' 42 3) (V' 44)) (h0 : V' 11 0 = 0) (hs : V' 42 2 ≠ 0 → V' 1 0 = V' 42 0 ∧ V' 1 1 = V' 42 1) (hg : (0 ≤ V' 42 0 ∧ V' 42 0 ≤ 6) ∧ (0 ≤ V' 42 1 ∧ V' 42 1 ≤ 4)) (hz : V' 42 2 = 0 → V' 42 4 = 0)
    (e : ∀ q z, (q = 11 ∧ z = 1) ∨ (12 ≤ q ∧ q ≤ 34) ∨ KS n q z → V' q z = V q z) (eR : ∀ q, q ≠ 2 → R' q = R q) (hR : ∀ z d, 0 ≤ z → z < 8 → R' 2 z = some d → d < n' ∧ tb d = (99, 0)) : Rel n' V' R' := by
  have h7 := eR 7 (by decide)
  refine ⟨by have := h.h67; omega, h.lr.fr (fun q a b c => eR q a), fun z d a b c => ?_, ⟨CInv.off hC h0 ?_ (h.c.2.2.fr fun q z a => e q z (by omega)), hs, hg, hz⟩, h.rst.fr hn (fun q z a => e q z (Or.inr (Or.inr a))) (fun i _ _ => by rw [h7])⟩
  · rcases c with c | c
    · exact hR z d a b c
    · rw [h7] at c
      have := h.2.2.1 z d a b (Or.inr c)
      exact ⟨by omega, this.2⟩
  · rw [e 11 1 (by omega)]; exact h.c.2.1.2.1
theorem Rel.r2 (h : Rel n V R) : ∀ z d, 0 ≤ z → z < 8 → R 2 z = some d → d < n ∧ tb d = (99, 0) := fun z d a b c => h.2.2.1 z d a b (Or.inl c)
theorem pr_turn {t : Int} (h : Rel n V R) (gt : Rg t) : PairOk G yX11_turn cX11_turn 3 (rmk 2 0 0 38) yX12_turn cX12_turn 3 (rmk 2 0 0 41) .int iM [.int (iI t)] n V R 0 0 := by
  obtain ⟨b0, b1, b2, b5⟩ := h.rng5
  obtain ⟨e2, e3, e5⟩ := h.e
  have hb := h.b
  refine ⟨_, m_X11_turn G n V R t h.h67 h.lr gt b0 b1 b2, fun v u hp => ?_⟩
  obtain ⟨r, V1, rfl, rfl, hp⟩ := hp
  refine ⟨r, rfl, h.h67, _, m_X12_turn G n V1 R t h.h67 h.lr gt, fun v2 u2 hq => ?_⟩
  obtain ⟨r2, V2, rfl, rfl, hq⟩ := hq
  rcases hp with ⟨p1, p2, rfl⟩ | ⟨p1, p3, p2, rfl⟩ | ⟨p1, p3, p2, p4⟩
  · rcases hq with ⟨q1, q2, rfl⟩ | ⟨q1, q2, rfl⟩ | ⟨q1, q2, q3⟩
    · exact ⟨by rw [p2, q2], h⟩
    · omega
    · omega
  · rcases hq with ⟨q1, q2, rfl⟩ | ⟨q1, q2, rfl⟩ | ⟨q1, q2, q3⟩
    · omega
    · exact ⟨by rw [p2, q2], h⟩
    · omega
  · have a : ∀ z, V1 42 z = V 42 z := fun z => by rw [p4, u2_at, if_neg (by omega), u2_at, if_neg (by omega)]
    rw [a] at hq
    rcases hq with ⟨q1, q2, rfl⟩ | ⟨q1, q2, rfl⟩ | ⟨q1, q2, q3⟩
    · omega
    · omega
    · refine ⟨by rw [p2, q2, a, e3], ?_⟩
      dsimp only
      have k : ∀ q z, ¬ (q = 42 ∧ z = 3) → ¬ (q = 1 ∧ z = 3) → ¬ (q = 11 ∧ z = 0) → V2 q z = V q z := fun q z x y w => by rw [q3, u2_at, if_neg x, p4, u2_at, if_neg w, u2_at, if_neg y]
      have k3 : V2 42 3 = t := by rw [q3, u2_at, if_pos ⟨rfl, rfl⟩]
      have kF : FM V2 = FM V := FM_c (funext fun z => k 43 z (by omega) (by omega) (by omega))
      obtain ⟨c1, c2, c3, c4, c5, c6⟩ := h.c.1
      refine h.lg (Nat.le_refl _) ?_ (by rw [q3, u2_at, if_neg (by omega), p4, u2_at, if_pos ⟨rfl, rfl⟩]) ?_ ?_ ?_ (fun q z x => k q z (by unfold KS at x; omega) (by unfold KS at x; omega) (by unfold KS at x; omega)) (fun _ _ => rfl) h.r2
      · rw [k3, kF, k 1 0 (by omega) (by omega) (by omega), k 1 1 (by omega) (by omega) (by omega), k 42 2 (by omega) (by omega) (by omega), k 42 4 (by omega) (by omega) (by omega), show V2 44 = V 44 from funext fun z => k 44 z (by omega) (by omega) (by omega)]
        refine ⟨⟨k 1 0 (by omega) (by omega) (by omega), k 1 1 (by omega) (by omega) (by omega), (k 1 2 (by omega) (by omega) (by omega)).trans e2, ?_, (k 1 5 (by omega) (by omega) (by omega)).trans e5⟩, ⟨hb.1, hb.2.1, hb.2.2.1, by omega, hb.2.2.2.2⟩, c3.mv (Nat.le_refl _) (fun q z x y => k q z (by omega) (by omega) (by omega)) (fun _ _ _ => rfl), c4, fun z x y => (k 3 z (by omega) (by omega) (by omega)).trans (c5 z x y), c6.mv c3 (fun q z x y => k q z (by omega) (by omega) (by omega)) (fun _ _ _ => rfl)⟩
        rw [q3, u2_at, if_neg (by omega), p4, u2_at, if_neg (by omega), u2_at, if_pos ⟨rfl, rfl⟩]
      · rw [k 42 2 (by omega) (by omega) (by omega), k 1 0 (by omega) (by omega) (by omega), k 1 1 (by omega) (by omega) (by omega), k 42 0 (by omega) (by omega) (by omega), k 42 1 (by omega) (by omega) (by omega)]; exact h.same
      · rw [k 42 0 (by omega) (by omega) (by omega), k 42 1 (by omega) (by omega) (by omega)]; exact h.rg
      · rw [k 42 2 (by omega) (by omega) (by omega), k 42 4 (by omega) (by omega) (by omega)]; exact h.z
theorem pr_rule {w v0 : Int} (h : Rel n V R) (gw : Rg w) (gv : Rg v0) : PairOk G yX11_rule cX11_rule 4 (rmk 2 0 0 38) yX12_rule cX12_rule 4 (rmk 3 0 0 62) .int iM [.int (iI w), .int (iI v0)] n V R 0 0 := by
  refine ⟨_, m_X11_rule G n V R w v0 h.h67 h.lr gw gv, fun v u hp => ?_⟩
  obtain ⟨r, V1, rfl, rfl, hp⟩ := hp
  refine ⟨r, rfl, h.h67, _, m_X12_rule G n V1 R w v0 h.h67 h.lr gw gv, fun v2 u2 hq => ?_⟩
  obtain ⟨r2, V2, rfl, rfl, hq⟩ := hq
  rcases hp with ⟨p1, p2, rfl⟩ | ⟨p1, p2, p4⟩ <;> rcases hq with ⟨q1, q2, q3⟩ | ⟨q1, q2, q3⟩
  · subst q3
    exact ⟨by rw [p2, q2], h⟩
  · exact absurd q1 p1
  · exact absurd p1 q1
  · have hw : 0 ≤ w ∧ w < 7 := by omega
    obtain ⟨c1, c2, c3, c4, c5, c6⟩ := h.c.1
    have a : V1 44 w = V 44 w := by rw [p4, u2_at, if_neg (by omega), u2_at, if_neg (by omega)]
    refine ⟨by rw [p2, q2, a, c5 w hw.1 hw.2], ?_⟩
    dsimp only
    have k : ∀ q z, ¬ (q = 44 ∧ z = w) → ¬ (q = 3 ∧ z = w) → ¬ (q = 11 ∧ z = 0) → V2 q z = V q z := fun q z x y w => by rw [q3, u2_at, if_neg x, p4, u2_at, if_neg w, u2_at, if_neg y]
    have k44 : ∀ z, V2 44 z = if z = w then v0 else V 44 z := fun z => by
      rw [q3, u2_at]
      by_cases x : z = w
      · rw [if_pos ⟨rfl, x⟩, if_pos x]
      · rw [if_neg (fun y => x y.2), if_neg x, p4, u2_at, if_neg (by omega), u2_at, if_neg (by omega)]
    have k3 : ∀ z, V2 3 z = if z = w then v0 else V 3 z := fun z => by
      rw [q3, u2_at, if_neg (by omega), p4, u2_at, if_neg (by omega), u2_at]
      by_cases x : z = w
      · rw [if_pos ⟨rfl, x⟩, if_pos x]
      · rw [if_neg (fun y => x y.2), if_neg x]
    have kF : FM V2 = FM V := FM_c (funext fun z => k 43 z (by omega) (by omega) (by omega))
    refine h.lg (Nat.le_refl _) ?_ (by rw [q3, u2_at, if_neg (by omega), p4, u2_at, if_pos ⟨rfl, rfl⟩]) ?_ ?_ ?_ (fun q z x => k q z (by unfold KS at x; omega) (by unfold KS at x; omega) (by unfold KS at x; omega)) (fun _ _ => rfl) h.r2
    · rw [kF, k 1 0 (by omega) (by omega) (by omega), k 1 1 (by omega) (by omega) (by omega), k 42 2 (by omega) (by omega) (by omega), k 42 4 (by omega) (by omega) (by omega), k 42 3 (by omega) (by omega) (by omega)]
      refine ⟨?_, c2, c3.mv (Nat.le_refl _) (fun q z x y => k q z (by omega) (by omega) (by omega)) (fun _ _ _ => rfl), ?_, fun z x y => ?_, c6.mv c3 (fun q z x y => k q z (by omega) (by omega) (by omega)) (fun _ _ _ => rfl)⟩
      · rw [k 1 0 (by omega) (by omega) (by omega), k 1 1 (by omega) (by omega) (by omega), k 1 2 (by omega) (by omega) (by omega), k 1 3 (by omega) (by omega) (by omega), k 1 5 (by omega) (by omega) (by omega)]; exact c1
      · obtain ⟨r0, r1, r2, r3⟩ := c4
        unfold RulesOk
        rw [k44, k44, k44]
        refine ⟨by split <;> omega, by split <;> omega, fun z x y => ?_, by split <;> omega⟩
        rw [k44]
        have := r2 z x y
        split <;> omega
      · rw [k3, k44, c5 z x y]
    · rw [k 42 2 (by omega) (by omega) (by omega), k 1 0 (by omega) (by omega) (by omega), k 1 1 (by omega) (by omega) (by omega), k 42 0 (by omega) (by omega) (by omega), k 42 1 (by omega) (by omega) (by omega)]; exact h.same
    · rw [k 42 0 (by omega) (by omega) (by omega), k 42 1 (by omega) (by omega) (by omega)]; exact h.rg
    · rw [k 42 2 (by omega) (by omega) (by omega), k 42 4 (by omega) (by omega) (by omega)]; exact h.z
theorem pr_log {a b c : Int} (h : Rel n V R) (ga : Rg a) (gb : Rg b) (gc : Rg c) : PairOk G yX11_log cX11_log 4 (rmk 4 0 0 85) yX12_log cX12_log 4 (rmk 4 0 0 85) .int iM [.int (iI a), .int (iI b), .int (iI c)] n V R 0 0 := by
  refine ⟨_, m_X11_log G n V R a b c h.h67 h.lr ga gb gc, fun v u hp => ?_⟩
  obtain ⟨r, V1, R1, rfl, rfl, hp⟩ := hp
  rcases hp with ⟨p1, p2, rfl, rfl⟩ | ⟨p1, p2, p3, p4, p5⟩
  · refine ⟨r, rfl, h.h67, _, m_X12_log G n V1 R1 a b c h.h67 h.lr ga gb gc, fun v2 u2 hq => ?_⟩
    obtain ⟨r2, V2, rfl, rfl, hq⟩ := hq
    rcases hq with ⟨q1, q2, rfl⟩ | ⟨q1, q2, q3⟩
    · exact ⟨by rw [p2, q2], h⟩
    · exact absurd q1 p1
  · have hLR : LR R1 := h.lr.fr (fun q x _ _ => p4 q x)
    refine ⟨r, rfl, h.h67, _, m_X12_log G n V1 R1 a b c h.h67 hLR ga gb gc, fun v2 u2 hq => ?_⟩
    obtain ⟨r2, V2, rfl, rfl, hq⟩ := hq
    rcases hq with ⟨q1, q2, rfl⟩ | ⟨q1, q2, q3⟩
    · exact absurd p1 q1
    · refine ⟨by rw [p2, q2], ?_⟩
      dsimp only
      have k : ∀ q z, ¬ (q = 42 ∧ 0 ≤ z ∧ z ≤ 4) → ¬ (q = 1 ∧ (z = 0 ∨ z = 1 ∨ z = 2 ∨ z = 3 ∨ z = 5)) → ¬ (q = 11 ∧ z = 0) → V2 q z = V q z := fun q z x y w => by
        rw [q3, u2_at, if_neg (by omega), u2_at, if_neg (by omega), u2_at, if_neg (by omega), u2_at, if_neg (by omega), u2_at, if_neg (by omega), p3, u2_at, if_neg (by omega), u2_at, if_neg (by omega), u2_at, if_neg (by omega), u2_at, if_neg (by omega), u2_at, if_neg (by omega), u2_at, if_neg (by omega)]
      have m0 : V2 42 0 = a ∧ V2 42 1 = b ∧ V2 42 2 = c ∧ V2 42 3 = 0 ∧ V2 42 4 = 0 := by rw [q3]; simp [u2_at]
      have y0 : V2 1 0 = a ∧ V2 1 1 = b ∧ V2 1 2 = c ∧ V2 1 3 = 0 ∧ V2 1 5 = 0 := by rw [q3, p3]; simp [u2_at]
      have k44 : V2 44 = V 44 := funext fun z => k 44 z (by omega) (by omega) (by omega)
      refine h.lg (Nat.le_refl _) ?_ (by rw [q3, p3]; simp [u2_at]) (fun _ => by omega) (by omega) (fun _ => by omega) (fun q z x => k q z (by unfold KS at x; omega) (by unfold KS at x; omega) (by unfold KS at x; omega)) p4 (fun z d x y w => by rw [p5 z x y] at w; cases w)
      rw [k44]
      refine ⟨⟨rfl, rfl, by omega, by omega, by omega⟩, by omega, fun i x y => by omega, h.rules, fun z x y => (k 3 z (by omega) (by omega) (by omega)).trans (h.c.1.2.2.2.2.1 z x y), fun i x y => by omega⟩
end P2
