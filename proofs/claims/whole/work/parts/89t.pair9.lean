section P9
variable {G : GS} {n : Nat} {V : Nat → Int → Int} {R : Nat → Int → Option Nat}
theorem sawRow_u {r t L : Int} {f : Int → Int → Int} {m g : Int} {pr : Int → Int} {c c' : Int → Int} {j j' y k : Int} (h : sawRow r t L f m g pr c j y k) (h' : sawRow r t L f m g pr c' j' y k) : ∀ x, 0 ≤ x → x < 4 → c (4 * j + x) = c' (4 * j' + x) := by
  obtain ⟨W, AR, A, B, S, T, Gx, w, hB, a0, a1, a2, a3⟩ := h
  obtain ⟨W', AR', A', B', S', T', Gx', w', hB', b0, b1, b2, b3⟩ := h'
  obtain ⟨e, e2⟩ := BestOf.u hB hB'
  obtain ⟨e3, e4, e5, e6, e7, e8⟩ := e2 w
  subst e3 e4 e5 e6 e7 e8
  intro x h0 h4
  rcases (show x = 0 ∨ x = 1 ∨ x = 2 ∨ x = 3 by omega) with o | o | o | o <;> subst o
  · rw [Int.add_zero, Int.add_zero, a0, b0]
  · rw [a1, b1]
  · rw [a2, b2]
  · rw [a3, b3]
theorem pr_saw (h : Rel n V R) : PairOk G yX11_saw cX11_saw 4 (rmk 8 0 0 181) yX12_saw cX12_saw 3 (rmk 7 0 0 177) .int iM [] n V R 0 0 := by
  have hb := h.b
  have h67 := h.h67
  obtain ⟨c1, c2, c3⟩ := h.bo
  obtain ⟨o1, o2, o3⟩ := h.or
  refine ⟨_, m_X11_saw G n V R _ _ _ _ _ _ _ h.h67 h.lr h.c (by omega), fun v u hp => ?_⟩
  obtain ⟨r, V1, R1, rfl, rfl, hp⟩ := hp
  have f42 : V1 42 = V 42 ∧ V1 43 = V 43 ∧ V1 44 = V 44 ∧ V1 45 = V 45 ∧ LR R1 := by
    rcases hp with ⟨_, _, rfl, rfl⟩ | ⟨_, _, _, rfl, F, _⟩ | ⟨_, _, _, _, _, _, _, _, F, hR, _⟩
    · exact ⟨rfl, rfl, rfl, rfl, h.lr⟩
    · exact ⟨F 42 (by omega), F 43 (by omega), F 44 (by omega), F 45 (by omega), h.lr⟩
    · exact ⟨F 42 (by omega) (by omega) (by omega), F 43 (by omega) (by omega) (by omega), F 44 (by omega) (by omega) (by omega), F 45 (by omega) (by omega) (by omega), h.lr.fr (fun q a _ _ => hR q a)⟩
  obtain ⟨e42, e43, e44, e45, hLR⟩ := f42
  refine ⟨r, rfl, h.h67, _, m_X12_saw G n V1 R1 h.h67 hLR (h.l1 e42 e43) (by rw [e44]; exact h.rules) (by rw [e42]; exact c2) (by rw [e42]; exact o2), fun v2 u2 hq => ?_⟩
  obtain ⟨r2, V2, rfl, rfl, hq⟩ := hq
  unfold sawRowM opLM opM at hq
  rw [e42, e44, FM_c e43] at hq
  rcases hp with ⟨p1, p2, a1, a2⟩ | ⟨p1, p3, p2, a2, F, hC⟩ | ⟨p1, p3, p2, hN, s8, ⟨y0, y1, y2, y3, y5, y10⟩, s0, sL, F, hR, hR2, hZ, s1⟩
  · rcases hq with ⟨q1, q2, q3⟩ | ⟨q1, _⟩ | ⟨q1, _⟩
    · subst a1
      subst a2
      subst q3
      exact ⟨by rw [p2, q2], h⟩
    · exact absurd p1 q1
    · exact absurd p1 q1
  · obtain ⟨g0, g1⟩ := h.same p1
    subst a2
    rcases hq with ⟨q1, _⟩ | ⟨q1, q3, q2, hF⟩ | ⟨q1, q3, _⟩
    · exact absurd q1 p1
    · exact ⟨by rw [p2, q2], h.scr (lo := 11) (hi := 22) (by omega) (fun q a => F q (by omega)) hC hF⟩
    · rw [g0, g1] at p3; omega
  · obtain ⟨g0, g1⟩ := h.same p1
    rw [g0, g1] at p3 p2 hN
    rcases hq with ⟨q1, _⟩ | ⟨q1, q3, _⟩ | ⟨q1, q3, q2, m7, m2, m3, m4, mL, mN, hF⟩
    · exact absurd q1 p1
    · omega
    · generalize opL (V 42 0) (V 42 1) (V 42 2) (FM V) (V 42 4) (V 44) (V 42 3) = P at hN mN p2 q2 p3 q3 m7
      refine ⟨by rw [p2, q2], ?_⟩
      dsimp only
      have k : ∀ q z, q ≠ 50 → q ≠ 51 → q ≠ 52 → q ≠ 53 → q ≠ 54 → q ≠ 55 → q ≠ 45 → ¬ (q = 42 ∧ ((22 ≤ z ∧ z ≤ 28) ∨ z = 31 ∨ z = 7 ∨ (2 ≤ z ∧ z ≤ 4))) → q ≠ 1 → q ≠ 4 → (q < 11 ∨ 22 < q) → V2 q z = V q z := fun q z x1 x2 x3 x4 x5 x6 x7 x8 x9 x10 x11 => by
        rw [hF q z x1 x2 x3 x4 x5 x6 x7 x8, F q x9 x10 x11]
      have kc : ∀ q z, q < 42 → V2 q z = V1 q z := fun q z x => hF q z (by omega) (by omega) (by omega) (by omega) (by omega) (by omega) (by omega) (by omega)
      have e3' : ∀ z, V2 3 z = V 3 z := fun z => k 3 z (by omega) (by omega) (by omega) (by omega) (by omega) (by omega) (by omega) (by omega) (by omega) (by omega) (by omega)
      have e44' : V2 44 = V 44 := funext fun z => k 44 z (by omega) (by omega) (by omega) (by omega) (by omega) (by omega) (by omega) (by omega) (by omega) (by omega) (by omega)
      have l0 : V2 42 0 = V 42 0 := k 42 0 (by omega) (by omega) (by omega) (by omega) (by omega) (by omega) (by omega) (by omega) (by omega) (by omega) (by omega)
      have l1 : V2 42 1 = V 42 1 := k 42 1 (by omega) (by omega) (by omega) (by omega) (by omega) (by omega) (by omega) (by omega) (by omega) (by omega) (by omega)
      refine h.lg2 (Nat.le_refl _) ?_ (by rw [kc 11 0 (by omega)]; exact s0) (by rw [kc 11 1 (by omega)]; exact s1) (hZ.fr fun q z x => kc q z (by omega)) (fun x => absurd m2 x) (by rw [l0, l1]; exact h.rg) (fun _ => m4) ⟨⟨?_, by omega, fun z a b => ?_⟩, ?_, h.ta.fr fun q z x => k q z (by omega) (by omega) (by omega) (by omega) (by omega) (by omega) (by omega) (by omega) (by omega) (by omega) (by omega), h.im.fr (Nat.le_refl _) (fun q z x => k q z (by omega) (by omega) (by omega) (by omega) (by omega) (by omega) (by omega) (by omega) (by omega) (by omega) (by omega)) (fun i _ _ => by rw [hR 7 (by decide)]), h.sh.fr fun q z x => k q z (by omega) (by omega) (by omega) (by omega) (by omega) (by omega) (by omega) (by omega) (by omega) (by omega) (by omega)⟩ hR (fun z d a b w => by rw [hR2 z a b] at w; cases w)
      · rw [e44', m2, m3, m4]
        refine ⟨⟨rfl, rfl, (kc 1 2 (by omega)).trans y2, (kc 1 3 (by omega)).trans y3, (kc 1 5 (by omega)).trans y5⟩, ?_, fun i x y => by omega, h.rules, fun z x y => (e3' z).trans (h.c.1.2.2.2.2.1 z x y), fun i x y => by omega⟩
        rw [kc 1 0 (by omega), kc 1 1 (by omega), y0, y1]
        omega
      · rw [kc 1 8 (by omega), s8, m7, p2, c1]
      · rw [m7] at b
        rw [kc 4 z (by omega)]
        by_cases w : z < 4 * V 42 7
        · rw [sL z (by omega), mL z w, e45]
          exact c3 z a w
        · have h1 := hN (z / 4 - V 42 7) (by omega) (by omega)
          have h2 := mN (z / 4 - V 42 7) (by omega) (by omega)
          have h3 := sawRow_u h1 h2 (z % 4) (by omega) (by omega)
          rw [show 4 * (V 1 8 + (z / 4 - V 42 7)) + z % 4 = z by omega, show 4 * (V 42 7 + (z / 4 - V 42 7)) + z % 4 = z by omega] at h3
          exact h3
      · have m9 : V2 42 9 = V 42 9 := k 42 9 (by omega) (by omega) (by omega) (by omega) (by omega) (by omega) (by omega) (by omega) (by omega) (by omega) (by omega)
        refine ⟨by rw [kc 1 10 (by omega), y10, m9, o1], by rw [m9]; exact o2, ?_⟩
        rw [m9, show V2 5 = V 5 from funext fun z => k 5 z (by omega) (by omega) (by omega) (by omega) (by omega) (by omega) (by omega) (by omega) (by omega) (by omega) (by omega), show V2 46 = V 46 from funext fun z => k 46 z (by omega) (by omega) (by omega) (by omega) (by omega) (by omega) (by omega) (by omega) (by omega) (by omega) (by omega)]
        exact o3
/-! the image -/
theorem cpyat {X : Nat → Int → Int} {a b c : Nat} {sp dp k z : Int} : cpy X a b sp dp k c z = if c = b then (if dp ≤ z ∧ z < dp + k then X a (sp + (z - dp)) else X b z) else X c z := by
  unfold cpy
  by_cases h : c = b
  · rw [if_pos h, h, uC_s]
  · rw [if_neg h, uC_n h]
theorem cpyn {X : Nat → Int → Int} {a b c : Nat} {sp dp k z : Int} (h : c ≠ b) : cpy X a b sp dp k c z = X c z := by rw [cpyat, if_neg h]
theorem cpys {X : Nat → Int → Int} {a b : Nat} {k z : Int} (h : 0 ≤ z ∧ z < k) : cpy X a b 0 0 k b z = X a z := by
  rw [cpyat, if_pos rfl, if_pos (by omega)]
  congr 1
  omega
/-- what all slots of an image say -/
theorem srcall {W : Nat → Int → Int} {S : Int → Int} (h : ∀ p, 0 ≤ p → p < 134 → src W p = S p) : (W 42 0 = S 0 ∧ W 42 1 = S 1 ∧ W 42 2 = S 2 ∧ W 42 3 = S 3 ∧ W 42 4 = S 4 ∧ W 42 7 = S 5 ∧ W 42 9 = S 6) ∧ (∀ z, 0 ≤ z → z < 32 → W 43 z = S (7 + z)) ∧ (∀ z, 0 ≤ z → z < 7 → W 44 z = S (39 + z)) ∧ (∀ z, 0 ≤ z → z < 64 → W 45 z = S (46 + z)) ∧ (∀ z, 0 ≤ z → z < 24 → W 46 z = S (110 + z)) := by
  refine ⟨⟨?_, ?_, ?_, ?_, ?_, ?_, ?_⟩, fun z a b => ?_, fun z a b => ?_, fun z a b => ?_, fun z a b => ?_⟩
  · exact h 0 (by decide) (by decide)
  · exact h 1 (by decide) (by decide)
  · exact h 2 (by decide) (by decide)
  · exact h 3 (by decide) (by decide)
  · exact h 4 (by decide) (by decide)
  · exact h 5 (by decide) (by decide)
  · exact h 6 (by decide) (by decide)
  · have e := h (7 + z) (by omega) (by omega)
    unfold src at e
    rw [if_neg (by omega), if_pos (by omega), show 7 + z - 7 = z by omega] at e
    exact e
  · have e := h (39 + z) (by omega) (by omega)
    unfold src at e
    rw [if_neg (by omega), if_neg (by omega), if_pos (by omega), show 39 + z - 39 = z by omega] at e
    exact e
  · have e := h (46 + z) (by omega) (by omega)
    unfold src at e
    rw [if_neg (by omega), if_neg (by omega), if_neg (by omega), if_pos (by omega), show 46 + z - 46 = z by omega] at e
    exact e
  · have e := h (110 + z) (by omega) (by omega)
    unfold src at e
    rw [if_neg (by omega), if_neg (by omega), if_neg (by omega), if_neg (by omega), show 110 + z - 110 = z by omega] at e
    exact e
theorem srcc {V W : Nat → Int → Int} (e : ∀ q z, (q = 42 ∧ z ≠ 14) ∨ (43 ≤ q ∧ q ≤ 46) → W q z = V q z) (p : Int) : src W p = src V p := by
  have f : fk p ≠ 14 ∨ 7 ≤ p := by
    unfold fk
    repeat' split <;> omega
  unfold src
  split
  · next hh => exact e 42 _ (Or.inl ⟨rfl, by omega⟩)
  · split
    · exact e 43 _ (by omega)
    · split
      · exact e 44 _ (by omega)
      · split
        · exact e 45 _ (by omega)
        · exact e 46 _ (by omega)
theorem pr_image (h : Rel n V R) (hE : ∀ z d, R 2 z = some d → d < n ∧ tb d = (99, 0)) : PairOk G yX11_image cX11_image 1 (rmk 2 0 0 86) yX12_image cX12_image 1 (rmk 4 0 0 81) .int iM [] n V R 0 0 := by
  have hb := h.b
  have h67 := h.h67
  obtain ⟨e2, e3, e5⟩ := h.e
  obtain ⟨c1, c2, c3⟩ := h.bo
  obtain ⟨o1, o2, o3⟩ := h.or
  refine ⟨_, m_X11_image G n V R h.h67 h.lr hE, fun v u hp => ?_⟩
  obtain ⟨R1, rfl, rfl, hR, hR7⟩ := hp
  generalize hV1 : (u2 (cpy (cpy (cpy (u2 (u2 (u2 (u2 (u2 (u2 (u2 V 6 0 (V 1 0)) 6 1 (V 1 1)) 6 2 (V 1 2)) 6 3 (V 1 3)) 6 5 (V 1 5)) 6 8 (V 1 8)) 6 10 (V 1 10)) 3 8 0 0 7) 4 9 0 0 64) 5 10 0 0 24) 0 2 1) = V1
  have hLR : LR R1 := h.lr.fr (fun q _ a _ => hR q a)
  refine ⟨V 1 5, rfl, h.h67, _, m_X12_image G n V1 R1 h.h67 hLR, fun v2 u2' hq => ?_⟩
  obtain ⟨r2, V2, rfl, rfl, ⟨_, _, i1, _, i3, hF⟩, q1⟩ := hq
  have k1 : ∀ q z, ¬ (q = 6 ∧ (z = 0 ∨ z = 1 ∨ z = 2 ∨ z = 3 ∨ z = 5 ∨ z = 8 ∨ z = 10)) → q ≠ 8 → q ≠ 9 → q ≠ 10 → ¬ (q = 0 ∧ z = 2) → V1 q z = V q z := fun q z a b c d e => by
    rw [← hV1, u2_at, if_neg e, cpyn d, cpyn c, cpyn b, u2_at, if_neg (by omega), u2_at, if_neg (by omega), u2_at, if_neg (by omega), u2_at, if_neg (by omega), u2_at, if_neg (by omega), u2_at, if_neg (by omega), u2_at, if_neg (by omega)]
  have y6 : V1 6 0 = V 1 0 ∧ V1 6 1 = V 1 1 ∧ V1 6 2 = V 1 2 ∧ V1 6 3 = V 1 3 ∧ V1 6 5 = V 1 5 ∧ V1 6 8 = V 1 8 ∧ V1 6 10 = V 1 10 := by
    have f : ∀ z, V1 6 z = (u2 (u2 (u2 (u2 (u2 (u2 (u2 V 6 0 (V 1 0)) 6 1 (V 1 1)) 6 2 (V 1 2)) 6 3 (V 1 3)) 6 5 (V 1 5)) 6 8 (V 1 8)) 6 10 (V 1 10)) 6 z := fun z => by
      rw [← hV1, u2_at, if_neg (by omega), cpyn (by decide), cpyn (by decide), cpyn (by decide)]
    rw [f, f, f, f, f, f, f]
    simp [u2_at]
  have y8 : ∀ z, 0 ≤ z → z < 7 → V1 8 z = V 3 z := fun z a b => by
    rw [← hV1, u2_at, if_neg (by omega), cpyn (by decide), cpyn (by decide), cpys ⟨a, b⟩, u2_at, if_neg (by omega), u2_at, if_neg (by omega), u2_at, if_neg (by omega), u2_at, if_neg (by omega), u2_at, if_neg (by omega), u2_at, if_neg (by omega), u2_at, if_neg (by omega)]
  have y9 : ∀ z, 0 ≤ z → z < 64 → V1 9 z = V 4 z := fun z a b => by
    rw [← hV1, u2_at, if_neg (by omega), cpyn (by decide), cpys ⟨a, b⟩, cpyn (by decide), u2_at, if_neg (by omega), u2_at, if_neg (by omega), u2_at, if_neg (by omega), u2_at, if_neg (by omega), u2_at, if_neg (by omega), u2_at, if_neg (by omega), u2_at, if_neg (by omega)]
  have y10 : ∀ z, 0 ≤ z → z < 24 → V1 10 z = V 5 z := fun z a b => by
    rw [← hV1, u2_at, if_neg (by omega), cpys ⟨a, b⟩, cpyn (by decide), cpyn (by decide), u2_at, if_neg (by omega), u2_at, if_neg (by omega), u2_at, if_neg (by omega), u2_at, if_neg (by omega), u2_at, if_neg (by omega), u2_at, if_neg (by omega), u2_at, if_neg (by omega)]
  have y0 : V1 0 2 = 1 := by rw [← hV1, u2_at, if_pos ⟨rfl, rfl⟩]
  clear hV1
  have sv : ∀ p, src (u2 V1 42 14 1) p = src V p := srcc fun q z a => by
    rw [u2_at, if_neg (by omega)]
    exact k1 q z (by omega) (by omega) (by omega) (by omega) (by omega)
  have i48 : ∀ p, 0 ≤ p → p < 134 → V2 48 p = src V p := fun p a b => (i1 p a b).1.trans (sv p)
  have isr : ∀ p, 0 ≤ p → p < 134 → src V2 p = src V p := fun p a b => (i1 p a b).2.trans (sv p)
  have sV := srcall (W := V) (S := src V) (fun p _ _ => rfl)
  obtain ⟨⟨m0, m1, m2, m3, m4, m7, m9⟩, m43, m44, m45, m46⟩ := sV
  obtain ⟨⟨w0, w1, w2, w3, w4, w7, w9⟩, w43, w44, w45, w46⟩ := srcall isr
  have k : ∀ q z, q < 42 ∨ 47 ≤ q → q ≠ 48 → ¬ (q = 6 ∧ (z = 0 ∨ z = 1 ∨ z = 2 ∨ z = 3 ∨ z = 5 ∨ z = 8 ∨ z = 10)) → q ≠ 8 → q ≠ 9 → q ≠ 10 → ¬ (q = 0 ∧ z = 2) → V2 q z = V q z := fun q z a b c d e f g => by
    rw [hF q z (by omega) (by omega) (by omega) (by omega) (by omega) (by omega), u2_at, if_neg (by omega), k1 q z c d e f g]
  have kc : ∀ q z, q < 42 → V2 q z = V1 q z := fun q z a => by
    rw [hF q z (by omega) (by omega) (by omega) (by omega) (by omega) (by omega), u2_at, if_neg (by omega)]
  have k12 : V2 42 12 = V 42 12 := by
    rw [hF 42 12 (by omega) (by omega) (by omega) (by omega) (by omega) (by omega), u2_at, if_neg (by omega), k1 42 12 (by omega) (by omega) (by omega) (by omega) (by omega)]
  have k14 : V2 42 14 = 1 := by
    rw [hF 42 14 (by omega) (by omega) (by omega) (by omega) (by omega) (by omega), u2_at, if_pos ⟨rfl, rfl⟩]
  have n4 : V2 42 4 = V 42 4 := w4.trans m4.symm
  refine ⟨by rw [q1, n4, e5], ?_⟩
  dsimp only
  have n7 : V2 42 7 = V 42 7 := w7.trans m7.symm
  have n9 : V2 42 9 = V 42 9 := w9.trans m9.symm
  refine h.kp (Nat.le_refl _) ⟨⟨?_, by omega, fun z a b => ?_⟩, ⟨?_, by omega, fun j a b => ?_⟩, h.ta.fr fun q z x => ?_, ⟨?_, by omega, fun _ => ?_⟩, h.sh.fr fun q z x => k q z (by omega) (by omega) (by omega) (by omega) (by omega) (by omega) (by omega)⟩ ?_ (fun q z x => ?_) (fun q x _ => hR q x)
  · rw [k 1 8 (by omega) (by omega) (by omega) (by omega) (by omega) (by omega) (by omega), n7]; exact c1
  · rw [n7] at b
    rw [k 4 z (by omega) (by omega) (by omega) (by omega) (by omega) (by omega) (by omega), w45 z a (by omega), ← m45 z a (by omega)]
    exact c3 z a b
  · rw [k 1 10 (by omega) (by omega) (by omega) (by omega) (by omega) (by omega) (by omega), n9]; exact o1
  · rw [n9] at b
    have f5 : ∀ z, V2 5 z = V 5 z := fun z => k 5 z (by omega) (by omega) (by omega) (by omega) (by omega) (by omega) (by omega)
    have f6 : ∀ z, 0 ≤ z → z < 24 → V2 46 z = V 46 z := fun z x y => (w46 z x y).trans (m46 z x y).symm
    rw [f5, f5, f5, f5, f6 _ (by omega) (by omega), f6 _ (by omega) (by omega), f6 _ (by omega) (by omega), f6 _ (by omega) (by omega)]
    exact o3 j a b
  · rcases x with x | x | x | x
    · rw [x.1, x.2]; exact k 0 7 (by omega) (by omega) (by omega) (by omega) (by omega) (by omega) (by omega)
    · exact k q z (by omega) (by omega) (by omega) (by omega) (by omega) (by omega) (by omega)
    · rw [x.1, x.2]; exact k12
    · exact k q z (by omega) (by omega) (by omega) (by omega) (by omega) (by omega) (by omega)
  · rw [kc 0 2 (by omega), y0, k14]
  · have j0 := (i48 0 (by decide) (by decide)).trans m0.symm
    have j1 := (i48 1 (by decide) (by decide)).trans m1.symm
    have j2 := (i48 2 (by decide) (by decide)).trans m2.symm
    have j3 := (i48 3 (by decide) (by decide)).trans m3.symm
    have j4 := (i48 4 (by decide) (by decide)).trans m4.symm
    have j5 := (i48 5 (by decide) (by decide)).trans m7.symm
    have j6 := (i48 6 (by decide) (by decide)).trans m9.symm
    have kd : ∀ q z, 67 ≤ q → q < n → V2 q z = V q z := fun q z x y => k q z (by omega) (by omega) (by omega) (by omega) (by omega) (by omega) (by omega)
    have fs7 : FsOk n V2 R1 7 (V 42 4) := fun i x y => by
      rw [hR7 i x (by omega)]
      obtain ⟨c, hc, hO⟩ := h.fs i x y
      exact ⟨c, hc, hO.fr (funext fun z => kd c z hO.1 hO.2.1)⟩
    have j44 : ∀ z, 0 ≤ z → z < 7 → V2 48 (39 + z) = V 44 z := fun z x y => (i48 _ (by omega) (by omega)).trans (m44 z x y).symm
    unfold ImOk
    rw [kc 6 0 (by omega), kc 6 1 (by omega), kc 6 2 (by omega), kc 6 3 (by omega), kc 6 5 (by omega), kc 6 8 (by omega), kc 6 10 (by omega), y6.1, y6.2.1, y6.2.2.1, y6.2.2.2.1, y6.2.2.2.2.1, y6.2.2.2.2.2.1, y6.2.2.2.2.2.2, j0, j1, j2, j3, j4, j5, j6]
    refine ⟨⟨h.same, e2, e3, e5, c1, o1⟩, ⟨hb.1, hb.2.1, h.rg.1, h.rg.2, hb.2.2.1, hb.2.2.2.1, hb.2.2.2.2, c2, o2⟩, h.z, fs7, fun i x y j u w => ?_, ?_, fun z x y => ?_, fun z x y => ?_, fun j x y => ?_⟩
    · show FR V2 R1 7 i j = V2 48 (7 + (4 * i + j))
      rw [i48 _ (by omega) (by omega), ← m43 _ (by omega) (by omega)]
      obtain ⟨c, hc, hO⟩ := h.fs i x y
      have hc2 : R1 7 i = some c := by rw [hR7 i x (by omega)]; exact hc
      have g := h.fe i x y j u w
      unfold FR at g ⊢
      rw [hc2]
      rw [hc] at g
      refine Eq.trans ?_ g
      show (if j = 0 then V2 c 3 else V2 c (j - 1)) = (if j = 0 then V c 3 else V c (j - 1))
      rw [kd c 3 hO.1 hO.2.1, kd c (j - 1) hO.1 hO.2.1]
    · obtain ⟨r0, r1, r2, r3⟩ := h.rules
      refine ⟨?_, ?_, fun z x y => ?_, ?_⟩
      · show 0 ≤ V2 48 (39 + 0) ∧ V2 48 (39 + 0) ≤ 2
        rw [j44 0 (by omega) (by omega)]; exact r0
      · show 0 ≤ V2 48 (39 + 1) ∧ V2 48 (39 + 1) ≤ 1
        rw [j44 1 (by omega) (by omega)]; exact r1
      · show 0 ≤ V2 48 (39 + z) ∧ V2 48 (39 + z) ≤ 99
        rw [j44 z (by omega) (by omega)]; exact r2 z x y
      · show 0 ≤ V2 48 (39 + 6) ∧ V2 48 (39 + 6) ≤ 30 ∧ V2 48 (39 + 6) % 2 = 0
        rw [j44 6 (by omega) (by omega)]; exact r3
    · rw [kc 8 z (by omega), y8 z x y, j44 z x y]
      exact h.c.1.2.2.2.2.1 z x y
    · show V2 9 z = V2 48 (46 + z)
      rw [kc 9 z (by omega), y9 z x (by omega), i48 _ (by omega) (by omega), ← m45 z x (by omega)]
      exact c3 z x y
    · show V2 10 (4 * j) = V2 48 (110 + 4 * j) ∧ V2 10 (4 * j + 3) = V2 48 (110 + (4 * j + 1)) ∧ V2 10 (4 * j + 1) = V2 48 (110 + (4 * j + 2)) ∧ V2 10 (4 * j + 2) = V2 48 (110 + (4 * j + 3))
      have f10 : ∀ z, 0 ≤ z → z < 24 → V2 10 z = V 5 z := fun z a b => (kc 10 z (by omega)).trans (y10 z a b)
      have f46 : ∀ z, 0 ≤ z → z < 24 → V2 48 (110 + z) = V 46 z := fun z a b => (i48 _ (by omega) (by omega)).trans (m46 z a b).symm
      rw [f10 _ (by omega) (by omega), f10 _ (by omega) (by omega), f10 _ (by omega) (by omega), f10 _ (by omega) (by omega), f46 _ (by omega) (by omega), f46 _ (by omega) (by omega), f46 _ (by omega) (by omega), f46 _ (by omega) (by omega)]
      exact o3 j x y
  · intro z d a b c
    rw [hR 2 (by decide), hR7 z a b] at c
    exact h.r2 z d a b (c.elim id id)
  · rcases x with x | x | x | x | x | x | x
    · exact k q z (by omega) (by omega) (by omega) (by omega) (by omega) (by omega) (by omega)
    · exact k q z (by omega) (by omega) (by omega) (by omega) (by omega) (by omega) (by omega)
    · exact k q z (by omega) (by omega) (by omega) (by omega) (by omega) (by omega) (by omega)
    · exact k q z (by omega) (by omega) (by omega) (by omega) (by omega) (by omega) (by omega)
    · rw [x.1]
      rcases (show z = 0 ∨ z = 1 ∨ z = 2 ∨ z = 3 ∨ z = 4 by omega) with o | o | o | o | o <;> subst o
      · exact w0.trans m0.symm
      · exact w1.trans m1.symm
      · exact w2.trans m2.symm
      · exact w3.trans m3.symm
      · exact n4
    · rw [x.1]; exact (w43 z x.2.1 x.2.2).trans (m43 z x.2.1 x.2.2).symm
    · rw [x.1]; exact (w44 z x.2.1 x.2.2).trans (m44 z x.2.1 x.2.2).symm
end P9
