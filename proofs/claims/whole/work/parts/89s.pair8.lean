section P8
variable {G : GS} {n : Nat} {V : Nat → Int → Int} {R : Nat → Int → Option Nat}
/-- the log's own state has changed, on both sides; the rest is given anew -/
theorem Rel.lg2 {n' : Nat} {V' : Nat → Int → Int} {R' : Nat → Int → Option Nat} (h : Rel n V R) (hn : n ≤ n') (hC : LogC n' V' R' (V' 1 0) (V' 1 1) (V' 42 2) (FM V') (V' 42 4) (V' 42 3) (V' 44)) (h0 : V' 11 0 = 0) (h1 : V' 11 1 = 0 ∨ V' 11 1 = 1) (hZ : SawZ V') (hs : V' 42 2 ≠ 0 → V' 1 0 = V' 42 0 ∧ V' 1 1 = V' 42 1) (hg : (0 ≤ V' 42 0 ∧ V' 42 0 ≤ 6) ∧ (0 ≤ V' 42 1 ∧ V' 42 1 ≤ 4)) (hz : V' 42 2 = 0 → V' 42 4 = 0)
    (hS : Rst n' V' R') (eR : ∀ q, q ≠ 2 → R' q = R q) (hR : ∀ z d, 0 ≤ z → z < 8 → R' 2 z = some d → d < n' ∧ tb d = (99, 0)) : Rel n' V' R' := by
  have h7 := eR 7 (by decide)
  refine ⟨by have := h.h67; omega, h.lr.fr (fun q a b c => eR q a), fun z d a b c => ?_, ⟨CInv.off hC h0 h1 hZ, hs, hg, hz⟩, hS⟩
  rcases c with c | c
  · exact hR z d a b c
  · rw [h7] at c
    have := h.2.2.1 z d a b (Or.inr c)
    exact ⟨by omega, this.2⟩
theorem itE_m1 {T : Int → Int} {n p : Int} (hp : 0 ≤ p) (h : itE T n p = -1) : (p < n ∧ 0 ≤ kbT (T p)) ∧ (p + 1 < n ∧ 48 ≤ T (p + 1) ∧ T (p + 1) ≤ 55) ∧ (p + 2 < n ∧ 48 ≤ T (p + 2) ∧ T (p + 2) ≤ 55) ∧ (p + 3 < n ∧ 49 ≤ T (p + 3) ∧ T (p + 3) ≤ 52) := by
  by_cases h0 : p < n ∧ 0 ≤ kbT (T p)
  · by_cases h1 : p + 1 < n ∧ 48 ≤ T (p + 1) ∧ T (p + 1) ≤ 55
    · by_cases h2 : p + 2 < n ∧ 48 ≤ T (p + 2) ∧ T (p + 2) ≤ 55
      · by_cases h3 : p + 3 < n ∧ 49 ≤ T (p + 3) ∧ T (p + 3) ≤ 52
        · exact ⟨h0, h1, h2, h3⟩
        · rw [itE_3 h0 h1 h2 h3] at h; omega
      · rw [itE_2 h0 h1 h2] at h; omega
    · rw [itE_1 h0 h1] at h; omega
  · rw [itE_0 h0] at h; omega
theorem prsN_mem {T : Int → Int} {n : Int} : ∀ (f : Nat) (p : Int), 0 ≤ p → ∀ x, x ∈ (prsN T n f p).1 → 0 ≤ x ∧ itE T n x = -1
  | 0, _, _, x, hx => absurd hx List.not_mem_nil
  | f + 1, p, hp, x, hx => by
    have e : prsN T n (f + 1) p = cif (itE T n p = -1) (cif (skS T n (p + 4) < n) (p :: (prsN T n f (skS T n (p + 4))).1, (prsN T n f (skS T n (p + 4))).2) ([p], -1)) ([], itE T n p) := rfl
    rw [e] at hx
    by_cases a : itE T n p = -1
    · rw [cif_t a] at hx
      by_cases b : skS T n (p + 4) < n
      · rw [cif_t b] at hx
        rcases List.mem_cons.mp hx with c | c
        · rw [c]; exact ⟨hp, a⟩
        · have hb := skS_b (T := T) (n := n) _ (p + 4) (Nat.le_refl _)
          exact prsN_mem f _ (by omega) x c
      · rw [cif_f b] at hx
        rcases List.mem_cons.mp hx with c | c
        · rw [c]; exact ⟨hp, a⟩
        · exact absurd c List.not_mem_nil
    · rw [cif_f a] at hx
      exact absurd hx List.not_mem_nil
theorem prs_at {T : Int → Int} {n : Int} {q : Int} (h0 : 0 ≤ q) (h1 : q < (prs T n (skS T n 0)).1.length) : (lat (prs T n (skS T n 0)).1 q < n ∧ 0 ≤ kbT (T (lat (prs T n (skS T n 0)).1 q))) ∧ (48 ≤ T (lat (prs T n (skS T n 0)).1 q + 1) ∧ T (lat (prs T n (skS T n 0)).1 q + 1) ≤ 55) ∧ (48 ≤ T (lat (prs T n (skS T n 0)).1 q + 2) ∧ T (lat (prs T n (skS T n 0)).1 q + 2) ≤ 55) ∧ (49 ≤ T (lat (prs T n (skS T n 0)).1 q + 3) ∧ T (lat (prs T n (skS T n 0)).1 q + 3) ≤ 52) := by
  have hb := skS_b (T := T) (n := n) _ 0 (Nat.le_refl _)
  have hm := prsN_mem (T := T) (n := n) _ (skS T n 0) hb.1 _ (lat_mem h0 h1)
  obtain ⟨a, b, c, d⟩ := itE_m1 hm.1 hm.2
  exact ⟨a, b.2, c.2, d.2⟩
theorem pr_text (h : Rel n V R) : PairOk G yX11_text cX11_text 3 (rmk 8 8 24 172) yX12_text cX12_text 3 (rmk 4 0 0 86) .int iM [] n V R 8 24 := by
  have hb := h.b
  have h67 := h.h67
  obtain ⟨b0, b1, b2, b5⟩ := h.rng5
  obtain ⟨e2, e3, e5⟩ := h.e
  obtain ⟨t1, t2, t3, t4⟩ := h.ta
  have e36 : V 36 = V 47 := funext t3
  refine ⟨_, m_X11_text G n V R h.h67 h.lr (by omega) (fun z a b => by rw [e36]; exact t4 z a (by omega)) b5 b2, fun v u hp => ?_⟩
  obtain ⟨r, n1, V1, R1, rfl, rfl, hp⟩ := hp
  rw [e36, t1, e2, e5] at hp
  have f42 : V1 42 = V 42 ∧ V1 47 = V 47 ∧ V1 43 = V 43 ∧ LR R1 ∧ 67 ≤ n1 := by
    rcases hp with ⟨_, _, rfl, rfl, rfl⟩ | ⟨_, _, _, rfl, rfl, rfl⟩ | ⟨_, _, _, _, rfl, rfl, rfl⟩ | ⟨_, _, _, _, hn, F, _, _, _, _, _, _, hR, _⟩
    · exact ⟨rfl, rfl, rfl, h.lr, h67⟩
    · exact ⟨u2_n (by decide), u2_n (by decide), u2_n (by decide), h.lr, h67⟩
    · exact ⟨u2_n (by decide), u2_n (by decide), u2_n (by decide), h.lr, h67⟩
    · exact ⟨F 42 (by omega) (by omega) (by omega) (by omega), F 47 (by omega) (by omega) (by omega) (by omega), F 43 (by omega) (by omega) (by omega) (by omega), h.lr.fr (fun q a _ _ => hR q a), by omega⟩
  obtain ⟨e42, e47, e43, hLR, hn67⟩ := f42
  refine ⟨r, rfl, hn67, _, m_X12_text G n1 V1 R1 hn67 hLR (by rw [e42]; exact t2) (fun z a b => by rw [e47]; rw [e42] at b; exact t4 z a b) (by rw [e42]; exact hb.2.2.2.2), fun v2 u2 hq => ?_⟩
  obtain ⟨r2, V2, rfl, rfl, hF, hq⟩ := hq
  rw [e42, e47] at hq
  have pat := fun (q : Int) (a : 0 ≤ q) (b : q < (prs (V 47) (V 42 12) (skS (V 47) (V 42 12) 0)).1.length) => prs_at a b
  generalize prs (V 47) (V 42 12) (skS (V 47) (V 42 12) 0) = P at hp hq pat
  have done : V1 = u2 V 0 7 0 → n1 = n → R1 = R → V2 42 12 = 0 → V2 42 4 = V 42 4 → V2 43 = V1 43 → Rel n1 V2 R1 := fun a1 a2 a3 a4 a5 a6 => by
    subst a2
    subst a3
    have k : ∀ q z, q ≠ 49 → ¬ (q = 42 ∧ (z = 12 ∨ z = 17 ∨ z = 18)) → ¬ (q = 0 ∧ z = 7) → V2 q z = V q z := fun q z x y w => by
      by_cases c1 : q = 43
      · rw [c1, a6, e43]
      · by_cases c2 : q = 42 ∧ z = 4
        · rw [c2.1, c2.2, a5]
        · rw [hF q z x c1 (by omega), a1, u2_at, if_neg w]
    refine h.kp (Nat.le_refl _) ⟨h.bo.fr fun q z x => k q z (by omega) (by omega) (by omega), h.or.fr fun q z x => k q z (by omega) (by omega) (by omega), ⟨?_, by omega, fun z => ?_, fun z x y => by omega⟩, h.im.fr (Nat.le_refl _) (fun q z x => k q z (by omega) (by omega) (by omega)) (fun _ _ _ => rfl), h.sh.fr fun q z x => k q z (by omega) (by omega) (by omega)⟩ h.2.2.1 (fun q z x => k q z (by omega) (by omega) (by omega)) (fun _ _ _ => rfl)
    · rw [a4, hF 0 7 (by omega) (by omega) (by omega), a1, u2_at, if_pos ⟨rfl, rfl⟩]
    · rw [k 36 z (by omega) (by omega) (by omega), k 47 z (by omega) (by omega) (by omega)]; exact t3 z
  rcases hp with ⟨p1, p2, a2, a1, a3⟩ | ⟨p1, p3, p2, a2, a1, a3⟩ | ⟨p1, p3, p4, p2, a2, a1, a3⟩ | ⟨p1, p3, p4, p2, hn, F, F0, F07, F1, F11, F110, F15, hR, hR2, hN, _⟩
  · rcases hq with ⟨q1, q2, q3⟩ | ⟨q1, _⟩ | ⟨q1, _⟩ | ⟨q1, _⟩
    · subst a1
      subst a2
      subst a3
      subst q3
      exact ⟨by rw [p2, q2], h⟩
    · omega
    · omega
    · omega
  · rcases hq with ⟨q1, q2, q3⟩ | ⟨q1, q3, q2, _, _, q4, q5, q6⟩ | ⟨q1, q3, _⟩ | ⟨q1, q3, _⟩
    · omega
    · exact ⟨by rw [p2, q2], done a1 a2 a3 q4 q5 q6⟩
    · omega
    · omega
  · rcases hq with ⟨q1, q2, q3⟩ | ⟨q1, q3, q2, _⟩ | ⟨q1, q3, q7, q2, q4, q5, q6⟩ | ⟨q1, q3, q7, _⟩
    · omega
    · omega
    · exact ⟨by rw [p2, q2], done a1 a2 a3 q4 q5 q6⟩
    · omega
  · rcases hq with ⟨q1, q2, q3⟩ | ⟨q1, q3, q2, _⟩ | ⟨q1, q3, q7, _⟩ | ⟨q1, q3, q7, q2, q4, q5, q6, q8⟩
    · omega
    · omega
    · omega
    · refine ⟨by rw [p2, q2], ?_⟩
      dsimp only
      have k : ∀ q z, q ≠ 49 → q ≠ 43 → ¬ (q = 42 ∧ (z = 4 ∨ z = 12 ∨ z = 17 ∨ z = 18)) → ¬ (q = 0 ∧ z = 7) → ¬ (q = 1 ∧ z = 5) → ¬ (q = 11 ∧ z = 0) → q < n → V2 q z = V q z := fun q z x y w c1 c2 c3 c4 => by
        rw [hF q z x y w]
        by_cases d1 : q = 0
        · subst d1; exact F0 z (by omega)
        · by_cases d2 : q = 1
          · subst d2; exact F1 z (by omega)
          · by_cases d3 : q = 11
            · subst d3; exact F11 z (by omega)
            · rw [F q c4 d1 d2 d3]
      have k43 : ∀ z, ¬ (4 * V 42 4 ≤ z ∧ z < 4 * r2) → V2 43 z = V 43 z := fun z x => by rw [q6 z x, e43]
      obtain ⟨c1, c2, c3, c4, c5, c6⟩ := h.c.1
      have m4 : V2 42 4 = V 42 4 + (P.1.length : Int) := by rw [q5, q2]
      have v15 : V2 1 5 = V 42 4 + (P.1.length : Int) := by rw [hF 1 5 (by omega) (by omega) (by omega), F15, p2]
      have nw : ∀ i, V 42 4 ≤ i → i < V 42 4 + (P.1.length : Int) → ∃ c, R1 2 i = some c ∧ FOk n1 V2 c ∧ V2 c 3 = V2 43 (4 * i) ∧ V2 c 0 = V2 43 (4 * i + 1) ∧ V2 c 1 = V2 43 (4 * i + 2) ∧ V2 c 2 = V2 43 (4 * i + 3) := fun i x y => by
        obtain ⟨c, g1, g2, g3, g4, g5, g6, g7⟩ := hN (i - V 42 4) (by omega) (by omega)
        have hr := q8 (i - V 42 4) (by omega) (by omega)
        obtain ⟨⟨s0, s1⟩, s2, s3, s4⟩ := pat (i - V 42 4) (by omega) (by omega)
        have kb := kbT_b (v := V 47 (lat P.1 (i - V 42 4)))
        have ec : ∀ z, V2 c z = V1 c z := fun z => hF c z (by omega) (by omega) (by omega)
        rw [show V 42 4 + (i - V 42 4) = i by omega] at g1 hr
        unfold rowT at hr
        refine ⟨c, g1, ?_, ?_⟩
        · unfold FOk
          rw [ec, ec, ec, ec, g4, g5, g6, g7]
          omega
        · rw [ec, ec, ec, ec, g4, g5, g6, g7]
          exact ⟨hr.1.symm, hr.2.1.symm, hr.2.2.1.symm, hr.2.2.2.symm⟩
      have hb4 := hb.2.2.2.2
      refine h.lg2 hn ?_ (by rw [hF 11 0 (by omega) (by omega) (by omega)]; exact F110) (by rw [k 11 1 (by omega) (by omega) (by omega) (by omega) (by omega) (by omega) (by omega)]; exact h.c.2.1.2.1) (h.c.2.2.fr fun q z x => k q z (by omega) (by omega) (by omega) (by omega) (by omega) (by omega) (by omega)) ?_ ?_ ?_ ⟨h.bo.fr fun q z x => k q z (by omega) (by omega) (by omega) (by omega) (by omega) (by omega) (by omega), h.or.fr fun q z x => k q z (by omega) (by omega) (by omega) (by omega) (by omega) (by omega) (by omega), ⟨?_, by omega, fun z => ?_, fun z x y => by omega⟩, h.im.fr hn (fun q z x => k q z (by omega) (by omega) (by omega) (by omega) (by omega) (by omega) (by omega)) (fun i _ _ => by rw [hR 7 (by decide)]), h.sh.fr fun q z x => k q z (by omega) (by omega) (by omega) (by omega) (by omega) (by omega) (by omega)⟩ hR ?_
      · rw [m4, k 1 0 (by omega) (by omega) (by omega) (by omega) (by omega) (by omega) (by omega), k 1 1 (by omega) (by omega) (by omega) (by omega) (by omega) (by omega) (by omega), k 42 2 (by omega) (by omega) (by omega) (by omega) (by omega) (by omega) (by omega), k 42 3 (by omega) (by omega) (by omega) (by omega) (by omega) (by omega) (by omega), show V2 44 = V 44 from funext fun z => k 44 z (by omega) (by omega) (by omega) (by omega) (by omega) (by omega) (by omega)]
        have old : ∀ i, 0 ≤ i → i < V 42 4 → R1 2 i = R 2 i := fun i x y => hR2 i (Or.inl y)
        refine ⟨⟨k 1 0 (by omega) (by omega) (by omega) (by omega) (by omega) (by omega) (by omega), k 1 1 (by omega) (by omega) (by omega) (by omega) (by omega) (by omega) (by omega), ?_, ?_, v15⟩, ⟨hb.1, hb.2.1, hb.2.2.1, hb.2.2.2.1, by omega⟩, fun i x y => ?_, c4, fun z x y => (k 3 z (by omega) (by omega) (by omega) (by omega) (by omega) (by omega) (by omega)).trans (c5 z x y), fun i x y j u w => ?_⟩
        · rw [k 1 2 (by omega) (by omega) (by omega) (by omega) (by omega) (by omega) (by omega)]; exact e2
        · rw [k 1 3 (by omega) (by omega) (by omega) (by omega) (by omega) (by omega) (by omega)]; exact e3
        · by_cases t : i < V 42 4
          · obtain ⟨c, hc, hO⟩ := c3 i x t
            have g1 := hO.1
            have g2 := hO.2.1
            have h2 := hO.fr (V2 := V2) (funext fun z => k c z (by omega) (by omega) (by omega) (by omega) (by omega) (by omega) (by omega))
            exact ⟨c, by rw [old i x t]; exact hc, h2.1, by omega, h2.2.2⟩
          · obtain ⟨c, g1, g2, _⟩ := nw i (by omega) y
            exact ⟨c, g1, g2⟩
        · by_cases t : i < V 42 4
          · have c6i := c6 i x t j u w
            obtain ⟨c, hc, hO⟩ := c3 i x t
            have g1 := hO.1
            have g2 := hO.2.1
            have hc2 : R1 2 i = some c := by rw [old i x t]; exact hc
            have e1 : FR V2 R1 2 i j = FR V R 2 i j := by
              unfold FR
              rw [hc2, hc]
              show (if j = 0 then V2 c 3 else V2 c (j - 1)) = (if j = 0 then V c 3 else V c (j - 1))
              rw [k c 3 (by omega) (by omega) (by omega) (by omega) (by omega) (by omega) (by omega), k c (j - 1) (by omega) (by omega) (by omega) (by omega) (by omega) (by omega) (by omega)]
            rw [e1, c6i]
            exact (k43 (4 * i + j) (by omega)).symm
          · obtain ⟨c, g1, g2, g3, g4, g5, g6⟩ := nw i (by omega) y
            obtain ⟨d0, d1, d2, d3⟩ := FR_e (V := V2) g1
            unfold FM
            rcases (show j = 0 ∨ j = 1 ∨ j = 2 ∨ j = 3 by omega) with o | o | o | o <;> subst o
            · rw [d0, g3, Int.add_zero]
            · rw [d1, g4]
            · rw [d2, g5]
            · rw [d3, g6]
      · rw [k 42 2 (by omega) (by omega) (by omega) (by omega) (by omega) (by omega) (by omega), k 1 0 (by omega) (by omega) (by omega) (by omega) (by omega) (by omega) (by omega), k 1 1 (by omega) (by omega) (by omega) (by omega) (by omega) (by omega) (by omega), k 42 0 (by omega) (by omega) (by omega) (by omega) (by omega) (by omega) (by omega), k 42 1 (by omega) (by omega) (by omega) (by omega) (by omega) (by omega) (by omega)]; exact h.same
      · rw [k 42 0 (by omega) (by omega) (by omega) (by omega) (by omega) (by omega) (by omega), k 42 1 (by omega) (by omega) (by omega) (by omega) (by omega) (by omega) (by omega)]; exact h.rg
      · rw [k 42 2 (by omega) (by omega) (by omega) (by omega) (by omega) (by omega) (by omega)]
        intro x
        omega
      · rw [q4, hF 0 7 (by omega) (by omega) (by omega), F07]
      · rw [k 36 z (by omega) (by omega) (by omega) (by omega) (by omega) (by omega) (by omega), k 47 z (by omega) (by omega) (by omega) (by omega) (by omega) (by omega) (by omega)]; exact t3 z
      · intro z d x y w
        by_cases t : V 42 4 ≤ z ∧ z < V 42 4 + (P.1.length : Int)
        · obtain ⟨c, g1, g2, _⟩ := nw z t.1 t.2
          rw [g1] at w
          cases w
          exact ⟨g2.2.1, tb_dyn g2.1⟩
        · rw [hR2 z (by omega)] at w
          have := h.r2 z d x y w
          exact ⟨by omega, this.2⟩
end P8
