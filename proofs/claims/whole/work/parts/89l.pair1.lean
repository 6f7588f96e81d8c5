/-! ONE CALL ON BOTH SIDES -/
abbrev iM : Int → Value := fun r => .int (iI r)
abbrev lM : Int → Value := fun r => .long (jI r)
def PairOk (G : GS) (y1 : MethodName) (c1 : ByteArray) (L1 : Nat) (rm1 : Room) (y2 : MethodName) (c2 : ByteArray) (L2 : Nat) (rm2 : Room) (ret : FieldType) (mk : Int → Value) (As : List Value) (n : Nat) (V : Nat → Int → Int) (R : Nat → Int → Option Nat) (mc ms : Nat) : Prop :=
  ∃ post, Cn G y1 c1 L1 (some ret) rm1 (.ref (aG G 0) :: As) n V R mc ms post ∧ ∀ v u, post v u → ∃ r, v = some (mk r) ∧ 67 ≤ u.1 ∧ ∃ post2, Cn G y2 c2 L2 (some ret) rm2 (.ref (aG G 42) :: As) u.1 u.2.1 u.2.2 0 0 post2 ∧ ∀ v2 u2, post2 v2 u2 → v2 = some (mk r) ∧ Rel u2.1 u2.2.1 u2.2.2
section P1
variable {G : GS} {n : Nat} {V V1 V2 : Nat → Int → Int} {R : Nat → Int → Option Nat}
theorem Rel.l1 (h : Rel n V R) (e42 : V1 42 = V 42) (e43 : V1 43 = V 43) : LogOk V1 := h.log.eq ⟨fun z _ _ => by rw [e42], e43⟩
theorem FrL.at (h : FrL V V2) {q : Nat} {z : Int} (a : q < 50 ∨ 55 < q) (b : ¬ (q = 42 ∧ ((22 ≤ z ∧ z ≤ 28) ∨ z = 31))) : V2 q z = V q z := h q z (by omega) (by omega) (by omega) (by omega) (by omega) (by omega) b
theorem FM_c (e43 : V1 43 = V 43) : FM V1 = FM V := by
  unfold FM
  rw [e43]
/-- both sides wrote their own scratch alone -/
theorem Rel.scr {lo hi : Nat} (h : Rel n V R) (hb : 11 ≤ lo ∧ hi ≤ 34) (hf : ∀ q, q < lo ∨ (hi < q ∧ q ≠ 41) → V1 q = V q) (hC : CInv n V1 R (V 1 0) (V 1 1) (V 42 2) (FM V) (V 42 4) (V 42 3) (V 44)) (hF : FrL V1 V2) : Rel n V2 R :=
  Rel.mv h (Nat.le_refl _) hC (fun q z a => hF.at (by omega) (by omega)) (fun q z a => by
    unfold KS at a
    exact (hF.at (by omega) (by omega)).trans (congrFun (hf q (by omega)) z)) (fun _ _ => rfl)
theorem pr_board {y k w : Int} (h : Rel n V R) (gy : Rg y) (gk : Rg k) (gw : Rg w) : PairOk G yX11_board cX11_board 5 (rmk 7 0 0 154) yX12_board cX12_board 4 (rmk 5 0 0 131) .int iM [.int (iI y), .int (iI k), .int (iI w)] n V R 0 0 := by
  refine ⟨_, m_X11_board G n V R _ _ _ _ _ _ _ y k w h.h67 h.lr h.c gy gk gw, fun v u hp => ?_⟩
  obtain ⟨r, V1, rfl, rfl, hf, hC, hp⟩ := hp
  have e42 := hf 42 (by omega)
  have e43 := hf 43 (by omega)
  have e44 := hf 44 (by omega)
  refine ⟨r, rfl, h.h67, _, m_X12_board G n V1 R y k w h.h67 h.lr gy gk gw (h.l1 e42 e43) (by rw [e44]; exact h.rules), fun v2 u2 hq => ?_⟩
  obtain ⟨r2, V2, rfl, rfl, hF, hq⟩ := hq
  rw [e42, e44, FM_c e43] at hq
  have hr : r2 = r := by
    rcases hp with p | p | p <;> rcases hq with q | q | q <;> first | omega | (obtain ⟨s0, s1⟩ := h.same p.1; rw [s0, s1] at p; exact boardP_u q.2.2 p.2.2)
  exact ⟨by rw [hr], h.scr (lo := 11) (hi := 22) (by omega) (fun q a => hf q (by omega)) hC hF.O.L⟩
theorem pr_graded {y k a b s : Int} (h : Rel n V R) (gy : Rg y) (gk : Rg k) (ga : Rg a) (gb : Rg b) (gs : Rg s) : PairOk G yX11_graded cX11_graded 9 (rmk 7 0 0 154) yX12_graded cX12_graded 9 (rmk 5 0 0 117) .int iM [.int (iI y), .int (iI k), .int (iI a), .int (iI b), .int (iI s)] n V R 0 0 := by
  refine ⟨_, m_X11_graded G n V R _ _ _ _ _ _ _ y k a b s h.h67 h.lr h.c gy gk ga gb gs, fun v u hp => ?_⟩
  obtain ⟨r, V1, rfl, rfl, hf, hC, hp⟩ := hp
  have e42 := hf 42 (by omega)
  have e43 := hf 43 (by omega)
  have e44 := hf 44 (by omega)
  refine ⟨r, rfl, h.h67, _, m_X12_graded G n V1 R y k a b s h.h67 h.lr gy gk ga gb gs (h.l1 e42 e43) (by rw [e44]; exact h.rules), fun v2 u2 hq => ?_⟩
  obtain ⟨r2, V2, rfl, rfl, hF, hq⟩ := hq
  rw [e42, FM_c e43] at hq
  have hr : r2 = r := by
    by_cases hL : V 42 2 = 0
    · rcases hp with p | p | p | p <;> rcases hq with q | q | q | q <;> first | exact absurd hL p.1 | exact absurd hL q.1 | omega
    · obtain ⟨s0, s1⟩ := h.same hL
      rw [s0, s1] at hp
      rcases hp with p | p | p | p <;> rcases hq with q | q | q | q <;> first | exact absurd p.1 hL | exact absurd q.1 hL | exact q.2.2.trans p.2.2.symm | exact absurd q.2.1 p.2.1 | exact absurd p.2.1 q.2.1 | exact q.2.2.2.trans p.2.2.2.symm | exact absurd q.2.2.1 p.2.2.1 | exact absurd p.2.2.1 q.2.2.1
  exact ⟨by rw [hr], h.scr (lo := 11) (hi := 22) (by omega) (fun q a => hf q (by omega)) hC hF.O.L⟩
theorem pr_worth {y k : Int} (h : Rel n V R) (gy : Rg y) (gk : Rg k) : PairOk G yX11_worth cX11_worth 3 (rmk 7 0 0 154) yX12_worth cX12_worth 3 (rmk 5 0 0 131) .long lM [.int (iI y), .int (iI k)] n V R 0 0 := by
  refine ⟨_, m_X11_worth G n V R _ _ _ _ _ _ _ y k h.h67 h.lr h.c gy gk, fun v u hp => ?_⟩
  obtain ⟨r, V1, rfl, rfl, hf, hC, hp⟩ := hp
  have e42 := hf 42 (by omega)
  have e43 := hf 43 (by omega)
  have e44 := hf 44 (by omega)
  refine ⟨r, rfl, h.h67, _, m_X12_worth G n V1 R y k h.h67 h.lr gy gk (h.l1 e42 e43) (by rw [e44]; exact h.rules), fun v2 u2 hq => ?_⟩
  obtain ⟨r2, V2, rfl, rfl, hF, hq⟩ := hq
  rw [e42, e44, FM_c e43] at hq
  have hr : r2 = r := by
    rcases hp with p | p <;> rcases hq with q | q <;> first | omega | (obtain ⟨s0, s1⟩ := h.same p.1; rw [s0, s1] at p; exact q.2.2.trans p.2.2.symm)
  exact ⟨by rw [hr], h.scr (lo := 11) (hi := 22) (by omega) (fun q a => hf q (by omega)) hC hF.O.L⟩
theorem pr_opening {k w : Int} (h : Rel n V R) (gk : Rg k) (gw : Rg w) : PairOk G yX11_opening cX11_opening 4 (rmk 8 0 0 181) yX12_opening cX12_opening 3 (rmk 7 0 0 177) .int iM [.int (iI k), .int (iI w)] n V R 0 0 := by
  refine ⟨_, m_X11_opening G n V R _ _ _ _ _ _ _ k w h.h67 h.lr h.c gk gw, fun v u hp => ?_⟩
  obtain ⟨r, V1, rfl, rfl, hf, hC, hp⟩ := hp
  have e42 := hf 42 (by omega)
  have e43 := hf 43 (by omega)
  have e44 := hf 44 (by omega)
  refine ⟨r, rfl, h.h67, _, m_X12_opening G n V1 R k w h.h67 h.lr gk gw (h.l1 e42 e43) (by rw [e44]; exact h.rules), fun v2 u2 hq => ?_⟩
  obtain ⟨r2, V2, rfl, rfl, hF, hq⟩ := hq
  unfold opLM opM opGM at hq
  rw [e42, e44, FM_c e43] at hq
  have hr : r2 = r := by
    by_cases hL : V 42 2 = 0
    · rcases hp with p | p | p | p | p <;> rcases hq with q | q | q | q | q <;> first | exact absurd hL p.1 | exact absurd hL q.1 | omega
    · obtain ⟨s0, s1⟩ := h.same hL
      rw [s0, s1] at hp
      generalize opL (V 42 0) (V 42 1) (V 42 2) (FM V) (V 42 4) (V 44) (V 42 3) = l at hp hq
      generalize lat l k = x at hp hq
      generalize (opT (V 42 0) (V 42 1) (V 42 2) (FM V) (V 42 4) (V 44) (V 42 3) (-1)).2 x = x1 at hp hq
      generalize opG (V 42 0) (V 42 1) (V 42 2) (FM V) (V 42 4) (V 44) (V 42 3) x = x2 at hp hq
      omega
  exact ⟨by rw [hr], h.scr (lo := 11) (hi := 22) (by omega) (fun q a => hf q (by omega)) hC hF⟩
theorem pr_cell {x y s w : Int} (h : Rel n V R) (gx : Rg x) (gy : Rg y) (gs : Rg s) (gw : Rg w) : PairOk G yX11_cell cX11_cell 5 (rmk 7 0 0 154) yX12_cell cX12_cell 6 (rmk 4 0 0 93) .int iM [.int (iI x), .int (iI y), .int (iI s), .int (iI w)] n V R 0 0 := by
  refine ⟨_, m_X11_cell G n V R _ _ _ _ _ _ _ x y s w h.h67 h.lr h.c gx gy gs gw, fun v u hp => ?_⟩
  obtain ⟨r, V1, rfl, rfl, hf, hC, hp⟩ := hp
  have e42 := hf 42 (by omega)
  have e43 := hf 43 (by omega)
  have e44 := hf 44 (by omega)
  obtain ⟨l0, l1, l2, l3, l4, l5⟩ := h.l1 (V1 := V1) e42 e43
  refine ⟨r, rfl, h.h67, _, m_X12_cell G n V1 R x y s w h.h67 h.lr gx gy gs gw l2 l0 l1 l4 l5 l3, fun v2 u2 hq => ?_⟩
  obtain ⟨r2, rfl, rfl, hq⟩ := hq
  rw [e42, FM_c e43] at hq
  have hr : r2 = r := by
    by_cases hL : V 42 2 = 0
    · rcases hp with p | p | p | p | p <;> rcases hq with q | q | q | q | q <;> first | exact absurd hL p.1.1 | exact absurd hL q.1.1 | exact absurd hL p.1 | exact absurd hL q.1 | omega
    · obtain ⟨s0, s1⟩ := h.same hL
      rw [s0, s1] at hp
      rcases hp with p | p | p | p | p <;> rcases hq with q | q | q | q | q <;> first | omega | exact leastP_u q.2.2.2.2.2 p.2.2.2.2.2
  exact ⟨by rw [hr], h.scr (lo := 11) (hi := 22) (by omega) (fun q a => hf q (by omega)) hC FrL.rf⟩
theorem pr_best {t : Int} (h : Rel n V R) (gt : Rg t) : PairOk G yX11_best cX11_best 2 (rmk 8 0 0 203) yX12_best cX12_best 2 (rmk 7 0 0 179) .long lM [.int (iI t)] n V R 0 0 := by
  refine ⟨_, m_X11_best G n V R _ _ _ _ _ _ _ t h.h67 h.lr h.c gt, fun v u hp => ?_⟩
  obtain ⟨r, V1, rfl, rfl, hf, hC, hp⟩ := hp
  have e42 := hf 42 (by omega)
  have e43 := hf 43 (by omega)
  have e44 := hf 44 (by omega)
  refine ⟨r, rfl, h.h67, _, m_X12_best G n V1 R t h.h67 h.lr gt (h.l1 e42 e43) (by rw [e44]; exact h.rules), fun v2 u2 hq => ?_⟩
  obtain ⟨r2, V2, rfl, rfl, hF, hq⟩ := hq
  unfold opM at hq
  rw [e42, e44, FM_c e43] at hq
  have hr : r2 = r := by
    by_cases hL : V 42 2 = 0
    · rcases hp with p | p | p <;> rcases hq with q | q | q <;> first | exact absurd hL p.1 | exact absurd hL q.1 | omega
    · obtain ⟨s0, s1⟩ := h.same hL
      rw [s0, s1] at hp
      rcases hp with p | p | p <;> rcases hq with q | q | q <;> first | omega | exact q.2.2.trans p.2.2.symm | (obtain ⟨u1, p1, p2⟩ := p.2.2; obtain ⟨u2, q1, q2⟩ := q.2.2; rw [q2, p2, turnP_u q1 p1])
  exact ⟨by rw [hr], h.scr (lo := 23) (hi := 34) (by omega) (fun q a => hf q (by omega)) hC hF.L⟩
theorem pr_bestTurn (h : Rel n V R) : PairOk G yX11_bestTurn cX11_bestTurn 1 (rmk 8 0 0 203) yX12_bestTurn cX12_bestTurn 1 (rmk 7 0 0 179) .int iM [] n V R 0 0 := by
  refine ⟨_, m_X11_bestTurn G n V R _ _ _ _ _ _ _ h.h67 h.lr h.c, fun v u hp => ?_⟩
  obtain ⟨r, V1, rfl, rfl, hf, hC, hp⟩ := hp
  have e42 := hf 42 (by omega)
  have e43 := hf 43 (by omega)
  have e44 := hf 44 (by omega)
  refine ⟨r, rfl, h.h67, _, m_X12_bestTurn G n V1 R h.h67 h.lr (h.l1 e42 e43) (by rw [e44]; exact h.rules), fun v2 u2 hq => ?_⟩
  obtain ⟨r2, V2, rfl, rfl, hF, hq⟩ := hq
  unfold opM at hq
  rw [e42, e44, FM_c e43] at hq
  have hr : r2 = r := by
    rcases hp with p | p <;> rcases hq with q | q <;> first | omega | (obtain ⟨s0, s1⟩ := h.same p.1; rw [s0, s1] at p; exact turnP_u q.2 p.2)
  exact ⟨by rw [hr], h.scr (lo := 23) (hi := 34) (by omega) (fun q a => hf q (by omega)) hC hF.L⟩
theorem pr_count {w : Int} (h : Rel n V R) (gw : Rg w) : PairOk G yX11_count cX11_count 2 (rmk 8 0 0 180) yX12_count cX12_count 2 (rmk 5 0 0 118) .int iM [.int (iI w)] n V R 0 0 := by
  refine ⟨_, m_X11_count G n V R _ _ _ _ _ _ _ w h.h67 h.lr h.c gw, fun v u hp => ?_⟩
  obtain ⟨r, V1, rfl, rfl, hf, hC, hp⟩ := hp
  have e42 := hf 42 (by omega)
  have e43 := hf 43 (by omega)
  refine ⟨r, rfl, h.h67, _, m_X12_count G n V1 R w h.h67 h.lr gw (h.l1 e42 e43), fun v2 u2 hq => ?_⟩
  obtain ⟨r2, rfl, rfl, hq⟩ := hq
  rw [e42, FM_c e43] at hq
  have hr : r2 = r := by
    have b1 := h.bo.1
    have o1 := h.or.1
    have t1 := h.ta.1
    have hb := h.b
    by_cases hL : V 42 2 = 0
    · have e0 : hurtW (V 42 0) (V 42 1) (V 42 2) (FM V) (V 42 4) = 0 := by rw [hL]; rfl
      rw [e0] at hq
      rcases hp with p | p | p | p | p | p | p | p <;> rcases hq with q | q | q | q | q | q | q | q <;> omega
    · obtain ⟨s0, s1⟩ := h.same hL
      rw [s0, s1, hurtT_W hb.2.2.1.1 hb.2.2.2.1] at hp
      rcases hp with p | p | p | p | p | p | p | p <;> rcases hq with q | q | q | q | q | q | q | q <;> omega
  exact ⟨by rw [hr], h.scr (lo := 11) (hi := 22) (by omega) (fun q a => hf q (by omega)) hC FrL.rf⟩
end P1
