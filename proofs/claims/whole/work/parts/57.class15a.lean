theorem CInv.fr {n : Nat} {V V1 : Nat → Int → Int} {R : Nat → Int → Option Nat} {lr lt L : Int} {f : Int → Int → Int} {m g : Int} {pr : Int → Int} (hI : CInv n V R lr lt L f m g pr) (hf : ∀ q, q = 1 ∨ q = 3 ∨ (11 ≤ q ∧ q ≤ 34) ∨ 67 ≤ q → V1 q = V q) : CInv n V1 R lr lt L f m g pr := by
  have h11 := hf 11 (by omega)
  refine ⟨hI.1.fr (fun q a => hf q (by omega)), ?_, hI.2.2.1.fr (hf _ (by omega)) (hf _ (by omega)), by rw [hf 19 (by omega)]; exact hI.2.2.2.1, hI.2.2.2.2.1.fr (hf _ (by omega)) (hf _ (by omega)), by rw [hf 31 (by omega)]; exact hI.2.2.2.2.2⟩
  obtain ⟨a1, a2, a3⟩ := hI.2.1
  unfold LiesC
  rw [h11]
  refine ⟨a1, a2, fun a => ⟨(a3 a).1.fr2 (fun z _ => by rw [h11]) (fun q b => hf q (by omega)), fun b => ?_⟩⟩
  have h := (a3 a).2 b
  unfold OpenOk at h ⊢
  rw [h11, hf (11 + 11) (by omega), hf (11 + 9) (by omega), hf (11 + 10) (by omega)]
  exact h
section TM
variable {O : Int → Int} {t w : Int}
theorem tm_at {V : Nat → Int → Int} (h : ∀ u, 0 ≤ u → u < t → V 41 u = O u) (hM : (t = 0 ∧ w = 0) ∨ (0 < t ∧ 0 ≤ w ∧ w < t ∧ (∀ u, 0 ≤ u → u < t → O u ≤ O w) ∧ ∀ u, 0 ≤ u → u < w → O u < O w)) : u2 V 41 t (O t) 41 w = O w := by
  rw [u2_s]
  by_cases e : w = t
  · rw [e, u1_s]
  · rw [u1_n e]
    rcases hM with q | q
    · omega
    · exact h w q.2.1 q.2.2.1
theorem tm_y (hM : (t = 0 ∧ w = 0) ∨ (0 < t ∧ 0 ≤ w ∧ w < t ∧ (∀ u, 0 ≤ u → u < t → O u ≤ O w) ∧ ∀ u, 0 ≤ u → u < w → O u < O w)) (ht : 0 ≤ t) (h : O w < O t) : (t + 1 = 0 ∧ t = 0) ∨ (0 < t + 1 ∧ 0 ≤ t ∧ t < t + 1 ∧ (∀ u, 0 ≤ u → u < t + 1 → O u ≤ O t) ∧ ∀ u, 0 ≤ u → u < t → O u < O t) := by
  refine Or.inr ⟨by omega, ht, by omega, fun u a b => ?_, fun u a b => ?_⟩
  · by_cases e : u = t
    · rw [e]; exact Int.le_refl _
    · rcases hM with q | q
      · omega
      · have := q.2.2.2.1 u a (by omega); omega
  · rcases hM with q | q
    · omega
    · have := q.2.2.2.1 u a b; omega
theorem tm_n (hM : (t = 0 ∧ w = 0) ∨ (0 < t ∧ 0 ≤ w ∧ w < t ∧ (∀ u, 0 ≤ u → u < t → O u ≤ O w) ∧ ∀ u, 0 ≤ u → u < w → O u < O w)) (ht : 0 ≤ t) (h : O t ≤ O w) : (t + 1 = 0 ∧ w = 0) ∨ (0 < t + 1 ∧ 0 ≤ w ∧ w < t + 1 ∧ (∀ u, 0 ≤ u → u < t + 1 → O u ≤ O w) ∧ ∀ u, 0 ≤ u → u < w → O u < O w) := by
  refine Or.inr ?_
  rcases hM with ⟨q1, q2⟩ | q
  · subst q1 q2
    exact ⟨by omega, by omega, by omega, fun u a b => by rw [show u = 0 by omega]; exact Int.le_refl _, fun u a b => by omega⟩
  · refine ⟨by omega, q.2.1, by omega, fun u a b => ?_, q.2.2.2.2⟩
    by_cases e : u = t
    · rw [e]; exact h
    · exact q.2.2.2.1 u a (by omega)
theorem tm_e (hM : (t = 0 ∧ w = 0) ∨ (0 < t ∧ 0 ≤ w ∧ w < t ∧ (∀ u, 0 ≤ u → u < t → O u ≤ O w) ∧ ∀ u, 0 ≤ u → u < w → O u < O w)) (ht : t = 4) : turnP O w := by
  rcases hM with q | q
  · omega
  · exact ⟨by omega, fun u a b => q.2.2.2.1 u a (by omega), q.2.2.2.2⟩
end TM
theorem hit_f {f f' : Int → Int → Int} {i x y s : Int} (h : ∀ j, 0 ≤ j → j ≤ 3 → f i j = f' i j) : hitF f i x y s ↔ hitF f' i x y s := by
  unfold hitF
  rw [h 0 (by decide) (by decide), h 1 (by decide) (by decide), h 2 (by decide) (by decide), h 3 (by decide) (by decide)]
theorem leastP_c {V : Nat → Int → Int} {R : Nat → Int → Option Nat} {a : Nat} {f : Int → Int → Int} {m x y s r : Int} (h : FEq V R a f m) (hl : leastP (FR V R a) m x y s r) : leastP f m x y s r := by
  rcases hl with ⟨h1, h2⟩ | ⟨h1, h2, h3, h4⟩
  · exact Or.inl ⟨h1, fun i b c => fun q => h2 i b c ((hit_f (fun j d e => h i b c j d e)).mpr q)⟩
  · exact Or.inr ⟨h1, h2, (hit_f (fun j d e => h r h1 h2 j d e)).mp h3, fun i b c => fun q => h4 i b c ((hit_f (fun j d e => h i b (by omega) j d e)).mpr q)⟩

