/-! Hall's theorem -/
theorem ct_pos {P : Nat → Prop} {n i : Nat} (h : i < n) (p : P i) : 1 ≤ ct P n := by
  have a := ct_1 i n
  rw [if_pos h] at a
  rw [← a]
  exact ct_mono n fun j _ e => e ▸ p
def nbS (E : Nat → Nat → Prop) (M : Nat) (T : Nat → Prop) : Nat → Prop := fun b => ∃ o, o < M ∧ T o ∧ E o b
theorem hallM (N M : Nat) : ∀ (k : Nat) (S : Nat → Prop) (E : Nat → Nat → Prop), ct S M ≤ k → (∀ T : Nat → Prop, (∀ i, T i → S i) → ct T M ≤ ct (nbS E M T) N) →
    ∃ g : Nat → Nat, (∀ o, o < M → S o → g o < N ∧ E o (g o)) ∧ ∀ o o', o < M → o' < M → S o → S o' → g o = g o' → o = o'
  | 0, S, E, h, _ => ⟨fun _ => 0, fun o a b => by (have := ct_pos a b; omega), fun o _ a _ b _ _ => by (have := ct_pos a b; omega)⟩
  | k + 1, S, E, h, H => by
    by_cases c : ∃ T : Nat → Prop, (∀ i, T i → S i) ∧ (∃ i, i < M ∧ T i) ∧ (∃ i, i < M ∧ S i ∧ ¬ T i) ∧ ct (nbS E M T) N ≤ ct T M
    · obtain ⟨T, t1, ⟨i, i1, i2⟩, ⟨j, j1, j2, j3⟩, t4⟩ := c
      have d : ct (fun z => T z ∨ (S z ∧ ¬ T z)) M = ct T M + ct (fun z => S z ∧ ¬ T z) M := ct_dis M fun z _ a b => b.2 a
      have e : ct (fun z => T z ∨ (S z ∧ ¬ T z)) M ≤ ct S M := ct_mono M fun z _ a => a.elim (t1 z) (fun b => b.1)
      have p1 : 1 ≤ ct T M := ct_pos i1 i2
      have p2 : 1 ≤ ct (fun z => S z ∧ ¬ T z) M := ct_pos (P := fun z => S z ∧ ¬ T z) j1 ⟨j2, j3⟩
      obtain ⟨g1, a1, a2⟩ := hallM N M k T E (by omega) fun U hU => H U fun z a => t1 z (hU z a)
      obtain ⟨g2, b1, b2⟩ := hallM N M k (fun z => S z ∧ ¬ T z) (fun o b => E o b ∧ ¬ nbS E M T b) (by omega) fun U hU => by
        have q1 : ct (fun z => U z ∨ T z) M = ct U M + ct T M := ct_dis M fun z _ a b => (hU z a).2 b
        have q2 := H (fun z => U z ∨ T z) fun z a => a.elim (fun b => (hU z b).1) (t1 z)
        have q3 : ct (nbS E M (fun z => U z ∨ T z)) N ≤ ct (fun b => nbS (fun o b => E o b ∧ ¬ nbS E M T b) M U b ∨ nbS E M T b) N := ct_mono N fun b _ ⟨o, o1, o2, o3⟩ => by
          by_cases w : nbS E M T b
          · exact Or.inr w
          · rcases o2 with o2 | o2
            · exact Or.inl ⟨o, o1, o2, o3, w⟩
            · exact absurd ⟨o, o1, o2, o3⟩ w
        have q4 := ct_or (P := nbS (fun o b => E o b ∧ ¬ nbS E M T b) M U) (Q := nbS E M T) N
        omega
      classical
      refine ⟨fun o => if T o then g1 o else g2 o, fun o ho hs => ?_, fun o o' ho ho' hs hs' he => ?_⟩
      · by_cases w : T o
        · show (if T o then g1 o else g2 o) < N ∧ E o (if T o then g1 o else g2 o)
          rw [if_pos w]; exact a1 o ho w
        · show (if T o then g1 o else g2 o) < N ∧ E o (if T o then g1 o else g2 o)
          rw [if_neg w]; have := b1 o ho ⟨hs, w⟩; exact ⟨this.1, this.2.1⟩
      · have he' : (if T o then g1 o else g2 o) = (if T o' then g1 o' else g2 o') := he
        by_cases w : T o
        · by_cases w' : T o'
          · rw [if_pos w, if_pos w'] at he'; exact a2 o o' ho ho' w w' he'
          · rw [if_pos w, if_neg w'] at he'
            exact absurd ⟨o, ho, w, he' ▸ (a1 o ho w).2⟩ (b1 o' ho' ⟨hs', w'⟩).2.2
        · by_cases w' : T o'
          · rw [if_neg w, if_pos w'] at he'
            exact absurd ⟨o', ho', w', he' ▸ (a1 o' ho' w').2⟩ (b1 o ho ⟨hs, w⟩).2.2
          · rw [if_neg w, if_neg w'] at he'; exact b2 o o' ho ho' ⟨hs, w⟩ ⟨hs', w'⟩ he'
    · by_cases s : ∃ o, o < M ∧ S o
      · obtain ⟨o0, s1, s2⟩ := s
        have h1 := H (fun z => z = o0) fun z e => e ▸ s2
        rw [ct_1, if_pos s1] at h1
        obtain ⟨b0, n1, ⟨o1, n2, n3, n4⟩⟩ := ct_ex (show 0 < ct (nbS E M (fun z => z = o0)) N by omega)
        subst n3
        have d : ct (fun z => (z = o1) ∨ (S z ∧ z ≠ o1)) M = ct (fun z => z = o1) M + ct (fun z => S z ∧ z ≠ o1) M := ct_dis M fun z _ a b => b.2 a
        have e : ct (fun z => (z = o1) ∨ (S z ∧ z ≠ o1)) M ≤ ct S M := ct_mono M fun z _ a => a.elim (fun q => q ▸ s2) (fun b => b.1)
        rw [ct_1, if_pos s1] at d
        obtain ⟨g, b1, b2⟩ := hallM N M k (fun z => S z ∧ z ≠ o1) (fun o b => E o b ∧ b ≠ b0) (by omega) fun U hU => by
          by_cases u : ∃ i, i < M ∧ U i
          · have q1 : ct U M < ct (nbS E M U) N := Nat.lt_of_not_le fun q => c ⟨U, fun z a => (hU z a).1, u, ⟨o1, s1, s2, fun a => (hU _ a).2 rfl⟩, q⟩
            have q3 : ct (nbS E M U) N ≤ ct (fun b => nbS (fun o b => E o b ∧ b ≠ b0) M U b ∨ b = b0) N := ct_mono N fun b _ ⟨o, r1, r2, r3⟩ => by
              by_cases w : b = b0
              · exact Or.inr w
              · exact Or.inl ⟨o, r1, r2, r3, w⟩
            have q4 := ct_or (P := nbS (fun o b => E o b ∧ b ≠ b0) M U) (Q := fun b => b = b0) N
            rw [ct_1, if_pos n1] at q4
            omega
          · rw [ct_0 M fun i a b => u ⟨i, a, b⟩]; exact Nat.zero_le _
        classical
        refine ⟨fun o => if o = o1 then b0 else g o, fun o ho hs => ?_, fun o o' ho ho' hs hs' he => ?_⟩
        · show (if o = o1 then b0 else g o) < N ∧ E o (if o = o1 then b0 else g o)
          by_cases w : o = o1
          · rw [if_pos w, w]; exact ⟨n1, n4⟩
          · rw [if_neg w]; have := b1 o ho ⟨hs, w⟩; exact ⟨this.1, this.2.1⟩
        · have he' : (if o = o1 then b0 else g o) = (if o' = o1 then b0 else g o') := he
          by_cases w : o = o1
          · by_cases w' : o' = o1
            · rw [w, w']
            · rw [if_pos w, if_neg w'] at he'; exact absurd he'.symm (b1 o' ho' ⟨hs', w'⟩).2.2
          · by_cases w' : o' = o1
            · rw [if_neg w, if_pos w'] at he'; exact absurd he' (b1 o ho ⟨hs, w⟩).2.2
            · rw [if_neg w, if_neg w'] at he'; exact b2 o o' ho ho' ⟨hs, w⟩ ⟨hs', w'⟩ he'
      · exact ⟨fun _ => 0, fun o a b => absurd ⟨o, a, b⟩ s, fun o _ a _ b _ _ => absurd ⟨o, a, b⟩ s⟩
