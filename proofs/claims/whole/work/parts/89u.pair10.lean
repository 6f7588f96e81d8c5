section P10
variable {G : GS} {n : Nat} {V : Nat → Int → Int} {R : Nat → Int → Option Nat}
theorem pr_back (h : Rel n V R) (hE : ∀ z d, R 7 z = some d → d < n ∧ tb d = (99, 0)) : PairOk G yX11_back cX11_back 1 (rmk 2 0 0 86) yX12_back cX12_back 1 (rmk 4 0 0 81) .int iM [] n V R 0 0 := by
  have hb := h.b
  have h67 := h.h67
  obtain ⟨g1, g2, g3⟩ := h.im
  refine ⟨_, m_X11_back G n V R h.h67 h.lr hE (by omega), fun v u hp => ?_⟩
  obtain ⟨r, V1, R1, rfl, rfl, hp⟩ := hp
  rcases hp with ⟨p1, p2, a1, a2⟩ | ⟨p1, p2, hV1, hR, hR2⟩
  · subst a1
    subst a2
    refine ⟨r, rfl, h.h67, _, m_X12_back G n V1 R1 h.h67 h.lr, fun v2 u2' hq => ?_⟩
    obtain ⟨r2, V2, rfl, rfl, hq⟩ := hq
    rcases hq with ⟨q1, q2, rfl⟩ | ⟨q1, _⟩
    · exact ⟨by rw [p2, q2], h⟩
    · omega
  · have hLR : LR R1 := h.lr.fr (fun q a _ _ => hR q a)
    have hI := g3 (by omega)
    obtain ⟨⟨j01, j2, j3, j4, j5, j6⟩, ⟨b60, b61, b0, b1, b2, b3, b4, b5, b6⟩, hz, fs, fe, ru, r8, ro, oo⟩ := hI
    refine ⟨r, rfl, h.h67, _, m_X12_back G n V1 R1 h.h67 hLR, fun v2 u2' hq => ?_⟩
    obtain ⟨r2, V2, rfl, rfl, hq⟩ := hq
    have k1 : ∀ q z, ¬ (q = 1 ∧ (z = 0 ∨ z = 1 ∨ z = 2 ∨ z = 3 ∨ z = 5 ∨ z = 8 ∨ z = 10)) → q ≠ 3 → q ≠ 4 → q ≠ 5 → ¬ (q = 11 ∧ z = 0) → V1 q z = V q z := fun q z a b c d e => by
      rw [hV1, u2_at, if_neg e, cpyn d, cpyn c, cpyn b, u2_at, if_neg (by omega), u2_at, if_neg (by omega), u2_at, if_neg (by omega), u2_at, if_neg (by omega), u2_at, if_neg (by omega), u2_at, if_neg (by omega), u2_at, if_neg (by omega)]
    have y1 : V1 1 0 = V 6 0 ∧ V1 1 1 = V 6 1 ∧ V1 1 2 = V 6 2 ∧ V1 1 3 = V 6 3 ∧ V1 1 5 = V 6 5 ∧ V1 1 8 = V 6 8 ∧ V1 1 10 = V 6 10 := by
      have f : ∀ z, V1 1 z = (u2 (u2 (u2 (u2 (u2 (u2 (u2 V 1 0 (V 6 0)) 1 1 (V 6 1)) 1 2 (V 6 2)) 1 3 (V 6 3)) 1 5 (V 6 5)) 1 8 (V 6 8)) 1 10 (V 6 10)) 1 z := fun z => by
        rw [hV1, u2_at, if_neg (by omega), cpyn (by decide), cpyn (by decide), cpyn (by decide)]
      rw [f, f, f, f, f, f, f]
      simp [u2_at]
    have y3 : ∀ z, 0 ≤ z → z < 7 → V1 3 z = V 8 z := fun z a b => by
      rw [hV1, u2_at, if_neg (by omega), cpyn (by decide), cpyn (by decide), cpys ⟨a, b⟩, u2_at, if_neg (by omega), u2_at, if_neg (by omega), u2_at, if_neg (by omega), u2_at, if_neg (by omega), u2_at, if_neg (by omega), u2_at, if_neg (by omega), u2_at, if_neg (by omega)]
    have y4 : ∀ z, 0 ≤ z → z < 64 → V1 4 z = V 9 z := fun z a b => by
      rw [hV1, u2_at, if_neg (by omega), cpyn (by decide), cpys ⟨a, b⟩, cpyn (by decide), u2_at, if_neg (by omega), u2_at, if_neg (by omega), u2_at, if_neg (by omega), u2_at, if_neg (by omega), u2_at, if_neg (by omega), u2_at, if_neg (by omega), u2_at, if_neg (by omega)]
    have y5 : ∀ z, 0 ≤ z → z < 24 → V1 5 z = V 10 z := fun z a b => by
      rw [hV1, u2_at, if_neg (by omega), cpys ⟨a, b⟩, cpyn (by decide), cpyn (by decide), u2_at, if_neg (by omega), u2_at, if_neg (by omega), u2_at, if_neg (by omega), u2_at, if_neg (by omega), u2_at, if_neg (by omega), u2_at, if_neg (by omega), u2_at, if_neg (by omega)]
    have y11 : V1 11 0 = 0 := by rw [hV1, u2_at, if_pos ⟨rfl, rfl⟩]
    clear hV1
    have e14 : V1 42 14 = V 42 14 := k1 42 14 (by omega) (by omega) (by omega) (by omega) (by omega)
    rcases hq with ⟨q1, _⟩ | ⟨q1, q2, _, _, i1, _, i3, hF⟩
    · omega
    · have i48 : ∀ p, V2 48 p = V 48 p := fun p => by
        by_cases a : 0 ≤ p ∧ p < 134
        · refine (i1 p a.1 a.2).1.trans ?_
          show V1 48 p = V 48 p
          exact k1 48 p (by omega) (by omega) (by omega) (by omega) (by omega)
        · rw [i3 p a]
          exact k1 48 p (by omega) (by omega) (by omega) (by omega) (by omega)
      have isr : ∀ p, 0 ≤ p → p < 134 → src V2 p = V 48 p := fun p a b => by
        refine (i1 p a b).2.trans ?_
        show V1 48 p = V 48 p
        exact k1 48 p (by omega) (by omega) (by omega) (by omega) (by omega)
      obtain ⟨⟨w0, w1, w2, w3, w4, w7, w9⟩, w43, w44, w45, w46⟩ := srcall isr
      have kc : ∀ q z, q < 42 → V2 q z = V1 q z := fun q z a => hF q z (by omega) (by omega) (by omega) (by omega) (by omega) (by omega)
      have k : ∀ q z, q < 42 ∨ 47 ≤ q → q ≠ 48 → ¬ (q = 1 ∧ (z = 0 ∨ z = 1 ∨ z = 2 ∨ z = 3 ∨ z = 5 ∨ z = 8 ∨ z = 10)) → q ≠ 3 → q ≠ 4 → q ≠ 5 → ¬ (q = 11 ∧ z = 0) → V2 q z = V q z := fun q z a b c d e f g => by
        rw [hF q z (by omega) (by omega) (by omega) (by omega) (by omega) (by omega), k1 q z c d e f g]
      have k12 : V2 42 12 = V 42 12 := by
        rw [hF 42 12 (by omega) (by omega) (by omega) (by omega) (by omega) (by omega), k1 42 12 (by omega) (by omega) (by omega) (by omega) (by omega)]
      have k14 : V2 42 14 = V 42 14 := by
        rw [hF 42 14 (by omega) (by omega) (by omega) (by omega) (by omega) (by omega), e14]
      have kd : ∀ q z, 67 ≤ q → q < n → V2 q z = V q z := fun q z x y => k q z (by omega) (by omega) (by omega) (by omega) (by omega) (by omega) (by omega)
      refine ⟨by rw [q2, w4, p2, j4], ?_⟩
      dsimp only
      have hImO : ImOk n V R := g3 (by omega)
      refine h.lg2 (Nat.le_refl _) ?_ (by rw [kc 11 0 (by omega)]; exact y11) (by rw [k 11 1 (by omega) (by omega) (by omega) (by omega) (by omega) (by omega) (by omega)]; exact h.c.2.1.2.1) (h.c.2.2.fr fun q z x => k q z (by omega) (by omega) (by omega) (by omega) (by omega) (by omega) (by omega)) ?_ (by rw [w0, w1]; exact ⟨b0, b1⟩) (by rw [w2, w4]; exact hz) ⟨⟨?_, by omega, fun z a b => ?_⟩, ⟨?_, by omega, fun j a b => ?_⟩, h.ta.fr fun q z x => ?_, ⟨?_, by rw [k14]; exact g2, fun _ => hImO.fr (Nat.le_refl _) (fun q z x => ?_) (fun i _ _ => by rw [hR 7 (by decide)])⟩, h.sh.fr fun q z x => k q z (by omega) (by omega) (by omega) (by omega) (by omega) (by omega) (by omega)⟩ hR ?_
      · rw [w2, w3, w4]
        have e44 : ∀ z, 0 ≤ z → z < 7 → V2 44 z = V 48 (39 + z) := w44
        have fs2 : FsOk n V2 R1 2 (V 48 4) := fun i x y => by
          rw [hR2 i x (by omega)]
          obtain ⟨c, hc, hO⟩ := fs i x y
          exact ⟨c, hc, hO.fr (funext fun z => kd c z hO.1 hO.2.1)⟩
        refine ⟨⟨rfl, rfl, ?_, ?_, ?_⟩, ⟨?_, ?_, b2, b3, b4⟩, fs2, ?_, fun z x y => ?_, fun i x y j u w => ?_⟩
        · rw [kc 1 2 (by omega), y1.2.2.1, j2]
        · rw [kc 1 3 (by omega), y1.2.2.2.1, j3]
        · rw [kc 1 5 (by omega), y1.2.2.2.2.1, j4]
        · rw [kc 1 0 (by omega), y1.1]; exact b60
        · rw [kc 1 1 (by omega), y1.2.1]; exact b61
        · obtain ⟨u0, u1', u2', u3⟩ := ru
          unfold RulesOk
          rw [e44 0 (by omega) (by omega), e44 1 (by omega) (by omega), e44 6 (by omega) (by omega)]
          exact ⟨u0, u1', fun z x y => by rw [e44 z (by omega) (by omega)]; exact u2' z x y, u3⟩
        · rw [kc 3 z (by omega), y3 z x y, e44 z x y]
          exact r8 z x y
        · have g := fe i x y j u w
          have e43 : FM V2 i j = V 48 (7 + (4 * i + j)) := w43 (4 * i + j) (by omega) (by omega)
          rw [e43]
          refine Eq.trans ?_ g
          obtain ⟨c, hc, hO⟩ := fs i x y
          have hc2 : R1 2 i = some c := by rw [hR2 i x (by omega)]; exact hc
          unfold FR
          rw [hc2, hc]
          show (if j = 0 then V2 c 3 else V2 c (j - 1)) = (if j = 0 then V c 3 else V c (j - 1))
          rw [kd c 3 hO.1 hO.2.1, kd c (j - 1) hO.1 hO.2.1]
      · rw [w2, w0, w1, kc 1 0 (by omega), kc 1 1 (by omega), y1.1, y1.2.1]
        exact j01
      · rw [kc 1 8 (by omega), y1.2.2.2.2.2.1, w7, j5]
      · rw [w7] at b
        rw [kc 4 z (by omega), y4 z a (by omega), w45 z a (by omega)]
        exact ro z a b
      · rw [kc 1 10 (by omega), y1.2.2.2.2.2.2, w9, j6]
      · rw [w9] at b
        have f5 : ∀ z, 0 ≤ z → z < 24 → V2 5 z = V 10 z := fun z x y => (kc 5 z (by omega)).trans (y5 z x y)
        rw [f5 _ (by omega) (by omega), f5 _ (by omega) (by omega), f5 _ (by omega) (by omega), f5 _ (by omega) (by omega), w46 _ (by omega) (by omega), w46 _ (by omega) (by omega), w46 _ (by omega) (by omega), w46 _ (by omega) (by omega)]
        exact oo j a b
      · rcases x with x | x | x | x
        · rw [x.1, x.2]; exact k 0 7 (by omega) (by omega) (by omega) (by omega) (by omega) (by omega) (by omega)
        · exact k q z (by omega) (by omega) (by omega) (by omega) (by omega) (by omega) (by omega)
        · rw [x.1, x.2]; exact k12
        · exact k q z (by omega) (by omega) (by omega) (by omega) (by omega) (by omega) (by omega)
      · rw [k 0 2 (by omega) (by omega) (by omega) (by omega) (by omega) (by omega) (by omega), k14]
        exact g1
      · rcases x with x | x | x
        · exact k q z (by omega) (by omega) (by omega) (by omega) (by omega) (by omega) (by omega)
        · rw [x]; exact i48 z
        · exact kd q z x.1 x.2
      · intro z d a b c
        rw [hR2 z a b] at c
        exact h.2.2.1 z d a b (Or.inr c)
end P10
