section P6
variable {G : GS} {n : Nat} {V : Nat → Int → Int} {R : Nat → Int → Option Nat}
theorem Rel.mask {c : Int → Int} (h : Rel n V R) (hm : ∀ o, 0 ≤ o → o < V 1 10 → Rg (c o) ∧ ∀ q, 0 ≤ q → q < 32 → (inS (c o) q ↔ (q < V 1 8 ∧ meetQ (V 4) (V 5) (4 * q) (4 * o)))) : MaskP c (V 42 7) (V 42 9) (meetP (V 45) (V 46)) := fun o a b => by
  obtain ⟨b1, b2, b3⟩ := h.bo
  obtain ⟨o1, o2, o3⟩ := h.or
  have k := hm o a (by omega)
  refine ⟨k.1, fun q x y => ?_⟩
  rw [k.2 q x y, b1]
  exact ⟨fun z => ⟨z.1, (meet_eq b3 o3 ⟨x, z.1⟩ ⟨a, b⟩).mp z.2⟩, fun z => ⟨z.1, (meet_eq b3 o3 ⟨x, z.1⟩ ⟨a, b⟩).mpr z.2⟩⟩
theorem pr_met {w : Int} (h : Rel n V R) (gw : Rg w) : PairOk G yX11_met cX11_met 2 (rmk 5 0 0 106) yX12_met cX12_met 6 (rmk 22 0 0 787) .int iM [.int (iI w)] n V R 0 0 := by
  obtain ⟨b1, b2, b3⟩ := h.bo
  obtain ⟨o1, o2, o3⟩ := h.or
  refine ⟨_, m_X11_met G n V R w h.h67 h.lr gw (by omega) (by omega), fun v u hp => ?_⟩
  obtain ⟨r, V1, rfl, rfl, hf, hp⟩ := hp
  have e42 := hf 42 (by omega)
  have e45 := hf 45 (by omega)
  have e46 := hf 46 (by omega)
  refine ⟨r, rfl, h.h67, _, m_X12_met G n V1 R w h.h67 h.lr gw (by rw [e42]; exact b2) (by rw [e42]; exact o2), fun v2 u2 hq => ?_⟩
  obtain ⟨r2, V2, rfl, rfl, hF, hq⟩ := hq
  have hr : r2 = r := by
    rcases hp with ⟨p1, p2⟩ | ⟨hm, p⟩
    · rcases hq with ⟨q1, q2⟩ | ⟨q1, q2⟩ | ⟨q1, q2⟩ <;> omega
    · have mk := h.mask hm
      have g1 := omS_gs mk b2 o2
      have g2 := bm_met mk b2 o2
      have ec : gsS (canF V1) (V1 42 9) = gsS (fun s => CanP (V 42 7) (V 42 9) (fun _ => True) (meetP (V 45) (V 46)) (inS s)) (V 42 9) := by
        have : canF V1 = (fun s => CanP (V 42 7) (V 42 9) (fun _ => True) (meetP (V 45) (V 46)) (inS s)) := by
          funext s
          unfold canF
          rw [e42, e45, e46]
        rw [this, e42]
      have em : metB V1 = sm (fun b => bI (∃ o, 0 ≤ o ∧ o < V 42 9 ∧ meetP (V 45) (V 46) b o)) (V 42 7) := by
        unfold metB
        rw [e42, e45, e46]
      rw [b1, o1, g1.1, g2] at p
      rw [ec, em] at hq
      rcases hq with ⟨q1, q2⟩ | ⟨q1, q2⟩ | ⟨q1, q2⟩ <;> rcases p with ⟨p1, p2⟩ | ⟨p1, p2⟩ <;> first | omega | exact q2.trans p2.symm
  refine ⟨by rw [hr], ?_⟩
  dsimp only
  refine h.kp (Nat.le_refl _) (h.rst.fr (Nat.le_refl _) (fun q z a => ?_) (fun _ _ _ => rfl)) h.2.2.1 (fun q z a => ?_) (fun _ _ _ => rfl)
  · unfold KS at a
    rw [hF q (by omega) (by omega), hf q (by omega)]
  · have := h.h67
    rw [hF q (by omega) (by omega), hf q (by omega)]
/-- rows that stay: both sides keep the same, in the same places -/
theorem row_kept {w N : Int} {b : Int} {c c1 d d1 : Int → Int} (hN : 0 ≤ N) (hk : ∀ z, 0 ≤ z → z < N → (inS b z ↔ ¬ inS w z)) (h1 : ∀ z, 0 ≤ z → z < N → inS b z → ∀ j, 0 ≤ j → j < 4 → c1 (4 * keptK b z + j) = c (4 * z + j)) (h2 : tookP w N d d1) {i : Int} (hi : 0 ≤ i) (hl : i < leftK w N) : ∃ z, 0 ≤ z ∧ z < N ∧ ∀ j, 0 ≤ j → j < 4 → c1 (4 * i + j) = c (4 * z + j) ∧ d1 (4 * i + j) = d (4 * z + j) := by
  obtain ⟨m, rfl⟩ : ∃ m : Nat, N = m := ⟨N.toNat, by omega⟩
  obtain ⟨z, z1, z2, z3, z4⟩ := left_sur m i hi hl
  have hz : inS b z := (hk z z1 z2).mpr ((bit01 w z).mp z3)
  have e : keptK b z = i := (kept_left fun x a b' => hk x a (by omega)).trans z4
  refine ⟨z, z1, z2, fun j a b' => ⟨?_, ?_⟩⟩
  · have := h1 z z1 z2 hz j a b'
    rw [e] at this; exact this
  · have := h2 z z1 z2 z3 j a b'
    rw [z4] at this; exact this
theorem pr_serve (h : Rel n V R) : PairOk G yX11_serve cX11_serve 5 (rmk 5 0 0 109) yX12_serve cX12_serve 6 (rmk 22 0 0 788) .int iM [] n V R 0 0 := by
  obtain ⟨b1, b2, b3⟩ := h.bo
  obtain ⟨o1, o2, o3⟩ := h.or
  have h67 := h.h67
  refine ⟨_, m_X11_serve G n V R h.h67 h.lr (by omega) (by omega), fun v u hp => ?_⟩
  obtain ⟨r, V1, rfl, rfl, p1, hm, hf, p2, p3, p4, p5⟩ := hp
  have e42 : V1 42 = V 42 := funext fun z => hf 42 z (by omega) (by omega) (by omega) (by omega)
  have e45 : V1 45 = V 45 := funext fun z => hf 45 z (by omega) (by omega) (by omega) (by omega)
  have e46 : V1 46 = V 46 := funext fun z => hf 46 z (by omega) (by omega) (by omega) (by omega)
  refine ⟨r, rfl, h.h67, _, m_X12_serve G n V1 R h.h67 h.lr (by rw [e42]; exact b2) (by rw [e42]; exact o2), fun v2 u2 hq => ?_⟩
  obtain ⟨r2, V2, rfl, rfl, q1, q2, q3, q4, q5, q6⟩ := hq
  have mk := h.mask hm
  obtain ⟨g1, g2, g3⟩ := omS_gs mk b2 o2
  have ec : gsS (canF V1) (V1 42 9) = omS (V1 40) (zShl 1 (V 42 7) - 1) (V 42 9) := by
    have : canF V1 = (fun s => CanP (V 42 7) (V 42 9) (fun _ => True) (meetP (V 45) (V 46)) (inS s)) := by
      funext s
      unfold canF
      rw [e42, e45, e46]
    rw [this, e42, g1]
  have hc : CanP (V 42 7) (V 42 9) (fun _ => True) (meetP (V 45) (V 46)) (inS (omS (V1 40) (zShl 1 (V 42 7) - 1) (V 42 9))) := by
    rw [g1]
    exact gsN_can (by omega) _
  rw [ec, e42, e45, e46] at q2
  rw [ec, e42] at q3
  rw [ec, e42, e45, e46] at q4
  rw [ec, e42, e46] at q5
  rw [ec] at q1
  rw [b1, o1] at p1 p2 p3 p4 p5
  generalize omS (V1 40) (zShl 1 (V 42 7) - 1) (V 42 9) = om at *
  have sb := serve_bs mk b2 o2 g2 g3 hc
  generalize (svC (V1 40) om (zShl 1 (V 42 7) - 1) 6).2 = bs at *
  generalize (svI (V 42 7) (V 42 9) (meetP (V 45) (V 46)) om (V 42 9)).1 = gv at *
  have k1 : keptK bs (V 42 7) = leftK gv (V 42 7) := kept_left sb
  have so : ∀ z, 0 ≤ z → z < V 42 9 → (inS (zXor om (-1)) z ↔ ¬ inS om z) := fun z a b => inS_not ⟨a, by omega⟩
  have k2 : keptK (zXor om (-1)) (V 42 9) = leftK om (V 42 9) := kept_left so
  have lb := leftK_b (w := gv) b2.1
  have lo := leftK_b (w := om) o2.1
  refine ⟨by rw [q1, p1], ?_⟩
  dsimp only
  have k : ∀ q z, q ≠ 40 → q ≠ 4 → q ≠ 5 → ¬ (q = 1 ∧ (z = 8 ∨ z = 10)) → q ≠ 45 → q ≠ 46 → q ≠ 56 → q ≠ 57 → ¬ (q = 42 ∧ (z = 7 ∨ z = 9)) → V2 q z = V q z := fun q z a b c d e f g i j => by rw [q6 q z e f g i j, hf q z a b c d]
  refine h.kp (Nat.le_refl _) ⟨⟨?_, by omega, fun z a b => ?_⟩, ⟨?_, by omega, fun j a b => ?_⟩, h.ta.fr fun q z a => k q z (by omega) (by omega) (by omega) (by omega) (by omega) (by omega) (by omega) (by omega) (by omega), h.im.fr (Nat.le_refl _) (fun q z a => k q z (by omega) (by omega) (by omega) (by omega) (by omega) (by omega) (by omega) (by omega) (by omega)) (fun _ _ _ => rfl), h.sh.fr fun q z a => k q z (by omega) (by omega) (by omega) (by omega) (by omega) (by omega) (by omega) (by omega) (by omega)⟩ h.2.2.1 (fun q z a => k q z (by omega) (by omega) (by omega) (by omega) (by omega) (by omega) (by omega) (by omega) (by omega)) (fun _ _ _ => rfl)
  · rw [q6 1 8 (by omega) (by omega) (by omega) (by omega) (by omega), p2, k1, q2]
  · rw [q2] at b
    obtain ⟨y, y1, y2, y3⟩ := row_kept b2.1 sb p3 q4 (i := z / 4) (by omega) (by omega)
    obtain ⟨y4, y5⟩ := y3 (z % 4) (by omega) (by omega)
    rw [show 4 * (z / 4) + z % 4 = z by omega] at y4 y5
    rw [q6 4 z (by omega) (by omega) (by omega) (by omega) (by omega), y4, y5]
    exact b3 _ (by omega) (by omega)
  · rw [q6 1 10 (by omega) (by omega) (by omega) (by omega) (by omega), p4, k2, q3]
  · rw [q3] at b
    obtain ⟨y, y1, y2, y3⟩ := row_kept o2.1 so p5 q5 (i := j) a b
    obtain ⟨u0, w0⟩ := y3 0 (by omega) (by omega)
    obtain ⟨u1, w1⟩ := y3 1 (by omega) (by omega)
    obtain ⟨u2, w2⟩ := y3 2 (by omega) (by omega)
    obtain ⟨u3, w3⟩ := y3 3 (by omega) (by omega)
    rw [Int.add_zero, Int.add_zero] at u0 w0
    have e5 : V2 5 = V1 5 := funext fun z => q6 5 z (by omega) (by omega) (by omega) (by omega) (by omega)
    rw [e5, u0, u1, u2, u3, w0, w1, w2, w3]
    exact o3 y y1 y2
end P6
