section P7
variable {G : GS} {n : Nat} {V : Nat → Int → Int} {R : Nat → Int → Option Nat}
/-- the model thought of faults: its own are as they were -/
theorem Rel.tho {n' : Nat} {V1 V2 : Nat → Int → Int} {R1 : Nat → Int → Option Nat} (h : Rel n V R) (hn : n ≤ n') (hf : ∀ q, q < 23 ∨ (34 < q ∧ q < n) → V1 q = V q) (hR : ∀ q, q ≠ 35 → R1 q = R q) (hC : CInv n' V1 R1 (V 1 0) (V 1 1) (V 42 2) (FM V) (V 42 4) (V 42 3) (V 44)) (hF : ∀ q z, q ≠ 50 → q ≠ 51 → q ≠ 52 → q ≠ 53 → q ≠ 58 → ¬ (q = 42 ∧ ((22 ≤ z ∧ z ≤ 28) ∨ z = 37)) → (q = 43 → 0 ≤ z ∧ z < 32) → V2 q z = V1 q z) : Rel n' V2 R1 := by
  have h67 := h.h67
  exact h.mv hn hC (fun q z a => hF q z (by omega) (by omega) (by omega) (by omega) (by omega) (by omega) (by omega)) (fun q z a => by
    unfold KS at a
    exact (hF q z (by omega) (by omega) (by omega) (by omega) (by omega) (by omega) (by omega)).trans (congrFun (hf q (by omega)) z)) hR
theorem pr_without {f : Int} (h : Rel n V R) (gf : Rg f) : PairOk G yX11_without cX11_without 4 (rmk 7 0 0 181) yX12_without cX12_without 4 (rmk 6 0 0 155) .long lM [.int (iI f)] n V R 0 0 := by
  have hb := h.b
  have h67 := h.h67
  refine ⟨_, m_X11_without G n V R _ _ _ _ _ _ _ f h.h67 h.lr h.c gf (fun a => by have := h.z; omega), fun v u hp => ?_⟩
  obtain ⟨r, V1, R1, rfl, rfl, hf, hR, hC, hp⟩ := hp
  have e42 := hf 42 (by omega)
  have e43 := hf 43 (by omega)
  have e44 := hf 44 (by omega)
  have hLR : LR R1 := h.lr.fr fun q _ _ x => hR q x
  refine ⟨r, rfl, h.h67, _, m_X12_without G n V1 R1 f h.h67 hLR gf (h.l1 e42 e43) (by rw [e44]; exact h.rules) (by rw [e42]; exact h.z), fun v2 u2 hq => ?_⟩
  obtain ⟨r2, V2, rfl, rfl, hF, hq⟩ := hq
  rw [e42, e44, FM_c e43] at hq
  have hr : r2 = r := by
    rcases hp with ⟨p1, p2⟩ | ⟨p1, F, p2, p3⟩ <;> rcases hq with ⟨q1, q2⟩ | ⟨q1, F', q2, q3⟩
    · rw [p2, q2]
    · exact absurd q1 p1
    · exact absurd p1 q1
    · obtain ⟨s0, s1⟩ := h.same (fun e => by have := h.z e; omega)
      have hu : HurtEq F (V 42 4 - 1) F' (V 42 4 - 1) := hurtS_c fun i a b j c d => by
        rw [p2 i a b j c d, q2 i a b j c d]
        split <;> rfl
      rw [q3, p3, s0, s1, hu.opT]
  exact ⟨by rw [hr], h.tho (Nat.le_refl _) (fun q a => hf q (by omega)) hR hC hF⟩
theorem pr_drawn {seed k : Int} (h : Rel n V R) (gs : Rg seed) (gk : Rg k) : PairOk G yX11_drawn cX11_drawn 3 (rmk 7 8 24 181) yX12_drawn cX12_drawn 3 (rmk 7 0 0 182) .long lM [.int (iI seed), .int (iI k)] n V R 8 24 := by
  have hb := h.b
  have h67 := h.h67
  refine ⟨_, m_X11_drawn G n V R _ _ _ _ _ _ _ seed k h.h67 h.lr h.c gs gk, fun v u hp => ?_⟩
  obtain ⟨r, n1, V1, R1, rfl, rfl, hn, hf, hR, hC, hp⟩ := hp
  have e42 := hf 42 (by omega)
  have e43 := hf 43 (by omega)
  have e44 := hf 44 (by omega)
  have hLR : LR R1 := h.lr.fr fun q _ _ x => hR q x
  refine ⟨r, rfl, by show 67 ≤ n1; omega, _, m_X12_drawn G n1 V1 R1 seed k (by omega) hLR gk (h.l1 e42 e43) (by rw [e44]; exact h.rules), fun v2 u2 hq => ?_⟩
  obtain ⟨r2, V2, rfl, rfl, hF, hq⟩ := hq
  rw [e42, e44, FM_c e43, wr_id gs] at hq
  have hr : r2 = r := by
    rcases hp with ⟨p1, p2⟩ | ⟨p1, p3, p2⟩ <;> rcases hq with ⟨q1, q2⟩ | ⟨q1, q3, F', q2, q4, q5⟩
    · rw [p2, q2]
    · omega
    · omega
    · obtain ⟨s0, s1⟩ := h.same p1
      have hu : HurtEq F' (V 42 4 + min k (8 - V 42 4)) (dwF (FM V) (V 42 4) seed) (V 42 4 + min k (8 - V 42 4)) := hurtS_c fun i a b j c d => by
        unfold dwF
        by_cases t : i < V 42 4
        · rw [if_pos t, q2 i a t j c d]
        · rw [if_neg t]
          have := q4 (i - V 42 4) (by omega) (by omega) j c d
          rw [show V 42 4 + (i - V 42 4) = i by omega] at this
          exact this
      rw [q5, p2, s0, s1, hu.opT]
      rfl
  exact ⟨by rw [hr], h.tho hn hf hR hC hF⟩
theorem pr_chance {seed m w p : Int} (h : Rel n V R) (gm : Rg m) (gw : Rg w) (gp : Rg p) : PairOk G yX11_chance cX11_chance 7 (rmk 7 64 192 181) yX12_chance cX12_chance 7 (rmk 7 0 0 182) .int iM [.int (iI seed), .int (iI m), .int (iI w), .int (iI p)] n V R 64 192 := by
  have hb := h.b
  have h67 := h.h67
  refine ⟨_, m_X11_chance G n V R _ _ _ _ _ _ _ seed m w p h.h67 h.lr h.c gm gw gp, fun v u hp => ?_⟩
  obtain ⟨r, n1, V1, R1, rfl, rfl, hn, hf, hR, hC, hp⟩ := hp
  have e42 := hf 42 (by omega)
  have e43 := hf 43 (by omega)
  have e44 := hf 44 (by omega)
  have hLR : LR R1 := h.lr.fr fun q _ _ x => hR q x
  refine ⟨r, rfl, by show 67 ≤ n1; omega, _, m_X12_chance G n1 V1 R1 seed m w p (by omega) hLR gm gw gp (h.l1 e42 e43) (by rw [e44]; exact h.rules), fun v2 u2 hq => ?_⟩
  obtain ⟨r2, V2, rfl, rfl, hF, hq⟩ := hq
  have ed : dwM V1 = dwV (V 42 0) (V 42 1) (V 42 2) (FM V) (V 42 4) (V 44) (V 42 3) := by
    funext a b
    unfold dwM
    rw [e42, e44, FM_c e43]
  rw [e42, ed] at hq
  have hr : r2 = r := by
    rcases hp with ⟨p1, p2⟩ | ⟨p1, p3, p2⟩ | ⟨p1, p3, p2⟩ <;> rcases hq with ⟨q1, q2⟩ | ⟨q1, q3, q2⟩ | ⟨q1, q3, q2⟩
    · rw [p2, q2]
    · exact absurd p1 q1
    · exact absurd p1 q1
    · exact absurd q1 p1
    · rw [p2, q2]
    · exact absurd q3 p3
    · exact absurd q1 p1
    · exact absurd p3 q3
    · obtain ⟨s0, s1⟩ := h.same p1
      rw [s0, s1] at p2
      rw [q2, p2]
  exact ⟨by rw [hr], h.tho hn hf hR hC hF⟩
theorem othP_c {gr it it' : Int → Int} {len size r : Int} (e : ∀ i, 0 ≤ i → i < size → it i = it' i) (h : othP gr it len size r) : othP gr it' len size r := by
  rcases h with ⟨h0, h1, h2, h3, h4⟩ | ⟨h0, h1⟩
  · exact Or.inl ⟨h0, h1, h2, by rw [← e r h0 h2]; exact h3, fun i a b => by rw [← e i a (by omega)]; exact h4 i a b⟩
  · exact Or.inr ⟨fun i a b c => by rw [← e i a c]; exact h0 i a b c, h1⟩
theorem tellR_c {lr lt L : Int} {f : Int → Int → Int} {m : Int} {pr : Int → Int} {g size r : Int} {it it' : Int → Int} (e : ∀ i, 0 ≤ i → i < size → it i = it' i) : tellR lr lt L f m pr g it size r ↔ tellR lr lt L f m pr g it' size r := ⟨othP_c e, othP_c fun i a b => (e i a b).symm⟩
theorem pr_tells {s w : Int} (h : Rel n V R) (gs : Rg s) (gw : Rg w) : PairOk G yX11_tells cX11_tells 3 (rmk 8 0 0 204) yX12_tells cX12_tells 5 (rmk 9 0 0 224) .int iM [.int (iI s), .int (iI w)] n V R 0 0 := by
  have hb := h.b
  have h67 := h.h67
  refine ⟨_, m_X11_tells G n V R _ _ _ _ _ _ _ s w h.h67 h.lr h.c gs gw h.hs37, fun v u hp => ?_⟩
  obtain ⟨r, V1, rfl, rfl, hf, hC, hp⟩ := hp
  have e42 := hf 42 (by omega)
  have e43 := hf 43 (by omega)
  have e44 := hf 44 (by omega)
  have e64 := hf 64 (by omega)
  have e65 := hf 65 (by omega)
  refine ⟨r, rfl, h.h67, _, m_X12_tells G n V1 R s w h.h67 h.lr gs gw (h.l1 e42 e43) (by rw [e44]; exact h.rules) (by rw [e65]; exact h.hs65), fun v2 u2 hq => ?_⟩
  obtain ⟨r2, V2, rfl, rfl, hF, hq⟩ := hq
  rw [e42, e44, e64, e65] at hq
  have hr : r2 = r := by
    by_cases hL : V 42 2 = 0
    · rcases hp with p | p | p | p | p <;> rcases hq with q | q | q | q | q <;> first | exact absurd hL p.1 | exact absurd hL q.1 | omega
    · by_cases hs : (0 ≤ s ∧ s ≤ 3) ∧ (0 ≤ w ∧ w ≤ 2)
      · have hu := h.sh s hs.1.1 hs.1.2
        obtain ⟨s0, s1⟩ := h.same hL
        by_cases hm : V 37 s = -1
        · rcases hp with p | p | p | p | p <;> rcases hq with q | q | q | q | q <;> first | exact absurd p.1 hL | exact absurd q.1 hL | exact absurd hs p.2.1 | exact absurd hs q.2.1 | omega
        · have hz := (hu.2.2.2.2 (by omega)).1
          have hi := (hu.2.2.2.2 (by omega)).2
          by_cases h12 : 12 < V 38 s
          · rcases hp with p | p | p | p | p <;> rcases hq with q | q | q | q | q <;> first | exact absurd p.1 hL | exact absurd q.1 hL | exact absurd hs p.2.1 | exact absurd hs q.2.1 | omega
          · have e60 : V1 (60 + s.toNat) = V (60 + s.toNat) := hf _ (by omega)
            have et : ∀ (pr : Int → Int) (g x : Int), tellM V1 pr g s x ↔ tellR (V 42 0) (V 42 1) (V 42 2) (FM V) (V 42 4) pr g (fun q => V 39 (40 * s + q)) (V 38 s) x := fun pr g x => by
              unfold tellM
              rw [e42, FM_c e43, e60, e65, hz]
              exact (tellR_c fun i a b => hi i a b).symm
            have et2 : ∀ (pr : Int → Int) (g : Int), (∃ x, tellM V1 pr g s x ∧ x < 0) = (∃ x, tellR (V 42 0) (V 42 1) (V 42 2) (FM V) (V 42 4) pr g (fun q => V 39 (40 * s + q)) (V 38 s) x ∧ x < 0) := fun pr g => by
              refine propext ⟨fun ⟨x, a, b⟩ => ⟨x, (et pr g x).mp a, b⟩, fun ⟨x, a, b⟩ => ⟨x, (et pr g x).mpr a, b⟩⟩
            rw [s0, s1] at hp
            rcases hp with p | p | p | p | p
            · exact absurd p.1 hL
            · exact absurd hs p.2.1
            · exact absurd p.2.2.1 hm
            · exact absurd p.2.2.2.1 h12
            · rcases hq with q | q | q | q | q
              · exact absurd q.1 hL
              · exact absurd hs q.2.1
              · omega
              · omega
              · have p5 := p.2.2.2.2
                have q5 := q.2.2.2.2
                rcases p5 with ⟨a1, a2⟩ | ⟨a1, a2⟩ | ⟨a1, a2⟩ <;> rcases q5 with ⟨c1, c2⟩ | ⟨c1, c2⟩ | ⟨c1, c2⟩
                · exact othP_u ((et _ _ _).mp c2) a2
                · omega
                · omega
                · omega
                · rw [a2, c2]
                  exact congrArg (fun P => acS P 4) (funext fun t => et2 _ _)
                · omega
                · omega
                · omega
                · rw [a2, c2]
                  exact congrArg (fun P => acS P 3) (funext fun t => et2 _ _)
      · rcases hp with p | p | p | p | p <;> rcases hq with q | q | q | q | q <;> first | exact absurd p.1 hL | exact absurd q.1 hL | exact absurd p.2.1 hs | exact absurd q.2.1 hs | exact q.2.2.trans p.2.2.symm
  exact ⟨by rw [hr], h.scr (lo := 11) (hi := 34) (by omega) (fun q a => hf q (by omega)) hC hF⟩
end P7
