/-! boards that meet orders: who can be met -/
def meetP (c o : Int → Int) (b j : Int) : Prop := c (4 * b) = o (4 * j) ∧ c (4 * b + 3) ≤ o (4 * j + 1) ∧ o (4 * j + 2) ≤ c (4 * b + 1) ∧ o (4 * j + 3) ≤ c (4 * b + 2)
noncomputable def cntH (h : Int → Int) (N y : Int) : Int := sm (fun b => bI (h b = y)) N
theorem cntH_u0 {h : Int → Int} {b o y : Int} (hb : 0 ≤ b) : ∀ k : Nat, psum (fun b' => bI (u1 h b o b' = y)) k = psum (fun b' => bI (h b' = y)) k + (if b < k then bI (o = y) - bI (h b = y) else 0)
  | 0 => by show (0 : Int) = 0 + _; rw [if_neg (by omega)]; rfl
  | k + 1 => by
    show psum _ k + bI (u1 h b o (k : Int) = y) = psum _ k + bI (h (k : Int) = y) + _
    rw [cntH_u0 hb k]
    by_cases e : (k : Int) = b
    · rw [e, u1_s, if_neg (by omega), if_pos (by omega)]; omega
    · rw [u1_n e]
      by_cases q : b < k
      · rw [if_pos q, if_pos (by omega)]; omega
      · rw [if_neg q, if_neg (by omega)]; omega
theorem cntH_u {h : Int → Int} {N b o y : Int} (hb : 0 ≤ b) (hN : b < N) : cntH (u1 h b o) N y = cntH h N y + bI (o = y) - bI (h b = y) := by
  unfold cntH sm
  rw [cntH_u0 hb, if_pos (by omega)]; omega
theorem psum_mem {P : Int → Prop} {b : Int} (hb : 0 ≤ b) (hp : P b) : ∀ k : Nat, b < k → 1 ≤ psum (fun x => bI (P x)) k
  | 0, h => by omega
  | k + 1, h => by
    have h0 := bI_b (P (k : Int))
    have h1 := psum_b (f := fun x => bI (P x)) (A := 1) (k := k) (fun i _ _ => bI_b _)
    show 1 ≤ psum _ k + bI (P (k : Int))
    by_cases e : (k : Int) = b
    · rw [e, bI_t hp]; omega
    · have := psum_mem hb hp k (by omega); omega
theorem cntH_mem {h : Int → Int} {N b y : Int} (hb : 0 ≤ b) (hN : b < N) (e : h b = y) : 1 ≤ cntH h N y := psum_mem (P := fun x => h x = y) hb e N.toNat (by omega)
theorem psum_two {P : Int → Prop} {a b : Int} (ha : 0 ≤ a) (hab : a < b) (hp : P a) (hq : P b) : ∀ k : Nat, b < k → 2 ≤ psum (fun x => bI (P x)) k
  | 0, h => by omega
  | k + 1, h => by
    have h0 := bI_b (P (k : Int))
    show 2 ≤ psum _ k + bI (P (k : Int))
    by_cases e : (k : Int) = b
    · have := psum_mem ha hp k (by omega); rw [e, bI_t hq]; omega
    · have := psum_two ha hab hp hq k (by omega); omega
theorem cntH_two {h : Int → Int} {N a b : Int} (ha : 0 ≤ a ∧ a < N) (hb : 0 ≤ b ∧ b < N) (e : h a = h b) (hc : cntH h N (h a) ≤ 1) : a = b := by
  unfold cntH sm at hc
  rcases Int.lt_trichotomy a b with q | q | q
  · have := psum_two (P := fun x => h x = h a) ha.1 q rfl e.symm N.toNat (by omega); omega
  · exact q
  · have := psum_two (P := fun x => h x = h a) hb.1 q e.symm rfl N.toNat (by omega); omega
theorem psum_ex {P : Int → Prop} : ∀ k : Nat, 1 ≤ psum (fun x => bI (P x)) k → ∃ b : Int, 0 ≤ b ∧ b < k ∧ P b
  | 0, h => by exact absurd h (by show ¬ (1 : Int) ≤ 0; decide)
  | k + 1, h => by
    by_cases e : P (k : Int)
    · exact ⟨k, by omega, by omega, e⟩
    · have h2 : 1 ≤ psum (fun x => bI (P x)) k + bI (P (k : Int)) := h
      rw [bI_f e] at h2
      obtain ⟨b, h3, h4, h5⟩ := psum_ex (P := P) k (by omega)
      exact ⟨b, h3, by omega, h5⟩
theorem cntH_ex {h : Int → Int} {N y : Int} (hN : 0 ≤ N) (h1 : 1 ≤ cntH h N y) : ∃ b, 0 ≤ b ∧ b < N ∧ h b = y := by
  obtain ⟨b, h2, h3, h4⟩ := psum_ex N.toNat h1
  exact ⟨b, h2, by omega, h4⟩
/-- all orders of a set by boards that can be given -/
def CanP (N M : Int) (A : Int → Prop) (mt : Int → Int → Prop) (S : Int → Prop) : Prop := ∃ g : Int → Int, (∀ o, 0 ≤ o → o < M → S o → (0 ≤ g o ∧ g o < N) ∧ A (g o) ∧ mt (g o) o) ∧ ∀ o o', 0 ≤ o → o < M → 0 ≤ o' → o' < M → S o → S o' → g o = g o' → o = o'
theorem CanP.c {N M : Int} {A A' : Int → Prop} {mt mt' : Int → Int → Prop} {S S' : Int → Prop} (h : CanP N M A mt S) (hA : ∀ b, 0 ≤ b → b < N → A b → A' b) (hm : ∀ b o, mt b o → mt' b o) (hS : ∀ o, 0 ≤ o → o < M → S' o → S o) : CanP N M A' mt' S' := by
  obtain ⟨g, h1, h2⟩ := h
  exact ⟨g, fun o a b c => ⟨(h1 o a b (hS o a b c)).1, hA _ (h1 o a b (hS o a b c)).1.1 (h1 o a b (hS o a b c)).1.2 (h1 o a b (hS o a b c)).2.1, hm _ _ (h1 o a b (hS o a b c)).2.2⟩, fun o o' a b c d e f q => h2 o o' a b c d (hS o a b e) (hS o' c d f) q⟩
theorem php : ∀ (N : Nat) (f : Nat → Int), (∀ i, i ≤ N → 0 ≤ f i ∧ f i < N) → ∃ i j, i < j ∧ j ≤ N ∧ f i = f j
  | 0, f, h => by have := h 0 (Nat.le_refl _); omega
  | N + 1, f, h => by
    by_cases q : ∃ i, i ≤ N ∧ f i = f (N + 1)
    · obtain ⟨i, h1, h2⟩ := q
      exact ⟨i, N + 1, by omega, Nat.le_refl _, h2⟩
    · have q2 : ∀ i, i ≤ N → f i ≠ f (N + 1) := fun i a b => q ⟨i, a, b⟩
      have hv := h (N + 1) (Nat.le_refl _)
      obtain ⟨i, j, h1, h2, h3⟩ := php N (fun i => if f i = N then f (N + 1) else f i) (fun i hi => by
        have h5 := h i (by omega)
        have h6 := q2 i hi
        show 0 ≤ (if f i = N then f (N + 1) else f i) ∧ (if f i = N then f (N + 1) else f i) < N
        split <;> omega)
      have h7 := q2 i (by omega)
      have h8 := q2 j h2
      refine ⟨i, j, h1, by omega, ?_⟩
      change (if f i = N then f (N + 1) else f i) = (if f j = N then f (N + 1) else f j) at h3
      split at h3 <;> split at h3 <;> omega
def orb (g h : Int → Int) (x : Int) : Nat → Int
  | 0 => x
  | k + 1 => g (h (orb g h x k))
theorem hall {N M o : Int} {h : Int → Int} {A T : Int → Prop} {mt : Int → Int → Prop} {S : Int → Prop} (hN : 0 ≤ N) (hc : ∀ y, 0 ≤ y → cntH h N y ≤ 1) (h0 : cntH h N o = 0) (ho : 0 ≤ o ∧ o < M) (hS : S o) (hm : ∀ b, 0 ≤ b → b < N → 0 ≤ h b → h b < M ∧ S (h b))
    (c1 : ∀ b, 0 ≤ b → b < N → A b → mt b o → T b) (c2 : ∀ b, 0 ≤ b → b < N → T b → 0 ≤ h b ∧ ∀ c, 0 ≤ c → c < N → A c → mt c (h b) → T c) : ¬ CanP N M A mt S := by
  rintro ⟨g, g1, g2⟩
  have key : ∀ k, (0 ≤ orb g h (g o) k ∧ orb g h (g o) k < N) ∧ T (orb g h (g o) k) := by
    intro k
    induction k with
    | zero =>
      have q := g1 o ho.1 ho.2 hS
      exact ⟨q.1, c1 _ q.1.1 q.1.2 q.2.1 q.2.2⟩
    | succ k ih =>
      obtain ⟨q1, q2⟩ := c2 _ ih.1.1 ih.1.2 ih.2
      obtain ⟨q3, q4⟩ := hm _ ih.1.1 ih.1.2 q1
      have q := g1 _ q1 q3 q4
      exact ⟨q.1, q2 _ q.1.1 q.1.2 q.2.1 q.2.2⟩
  have no : ∀ i j, i < j → orb g h (g o) i ≠ orb g h (g o) j := by
    intro i
    induction i with
    | zero =>
      intro j hj e
      obtain ⟨j, rfl⟩ : ∃ j', j = j' + 1 := ⟨j - 1, by omega⟩
      have k1 := key j
      obtain ⟨q1, -⟩ := c2 _ k1.1.1 k1.1.2 k1.2
      obtain ⟨q3, q4⟩ := hm _ k1.1.1 k1.1.2 q1
      have := g2 o _ ho.1 ho.2 q1 q3 hS q4 e
      have := cntH_mem (h := h) (y := o) k1.1.1 k1.1.2 this.symm
      omega
    | succ i ih =>
      intro j hj e
      obtain ⟨j, rfl⟩ : ∃ j', j = j' + 1 := ⟨j - 1, by omega⟩
      have k1 := key j
      have k2 := key i
      obtain ⟨q1, -⟩ := c2 _ k1.1.1 k1.1.2 k1.2
      obtain ⟨q3, q4⟩ := hm _ k1.1.1 k1.1.2 q1
      obtain ⟨p1, -⟩ := c2 _ k2.1.1 k2.1.2 k2.2
      obtain ⟨p3, p4⟩ := hm _ k2.1.1 k2.1.2 p1
      have e2 := g2 _ _ p1 p3 q1 q3 p4 q4 e
      exact ih j (by omega) (cntH_two k2.1 k1.1 e2 (hc _ p1))
  obtain ⟨i, j, h1, h2, h3⟩ := php N.toNat (orb g h (g o)) (fun i _ => by have := (key i).1; omega)
  exact no i j h1 h3
/-- what gets leaves -/
def FrG (V V1 : Nat → Int → Int) : Prop := ∀ q, q ≠ 56 → q ≠ 57 → V1 q = V q
def MatchOk (V : Nat → Int → Int) (h : Int → Int) : Prop := ∀ b, 0 ≤ b → b < V 42 7 → 0 ≤ h b → h b < V 42 9 ∧ meetP (V 45) (V 46) b (h b)
noncomputable def untr (V : Nat → Int → Int) : Int := sm (fun b => bI (V 57 b = 0)) (V 42 7)
def getsT (V V1 : Nat → Int → Int) (o : Int) : Prop := (∀ y, 0 ≤ y → cntH (V1 56) (V 42 7) y = cntH (V 56) (V 42 7) y + bI (o = y)) ∧ (∀ b, V 57 b ≠ 0 → V1 56 b = V 56 b) ∧ (∀ b, 0 ≤ b → b < V 42 7 → (-1 ≤ V1 56 b ↔ -1 ≤ V 56 b)) ∧ MatchOk V (V1 56)
def clos (V V1 : Nat → Int → Int) : Prop := ∀ b, 0 ≤ b → b < V 42 7 → V1 57 b ≠ 0 → V 57 b = 0 → 0 ≤ V 56 b ∧ ∀ c, 0 ≤ c → c < V 42 7 → -1 ≤ V 56 c → meetP (V 45) (V 46) c (V 56 b) → V1 57 c ≠ 0
def getsF (V V1 : Nat → Int → Int) (o : Int) : Prop := V1 56 = V 56 ∧ (∀ b, 0 ≤ b → b < V 42 7 → -1 ≤ V 56 b → meetP (V 45) (V 46) b o → V1 57 b ≠ 0) ∧ clos V V1
def monT (V V1 : Nat → Int → Int) : Prop := ∀ b, V 57 b ≠ 0 → V1 57 b ≠ 0
theorem psum_le {f g : Int → Int} : ∀ k : Nat, (∀ i : Int, 0 ≤ i → i < k → f i ≤ g i) → psum f k ≤ psum g k
  | 0, _ => Int.le_refl _
  | k + 1, h => by
    have h1 := psum_le k (fun i a b => h i a (by omega))
    have h2 := h k (by omega) (by omega)
    show psum f k + f k ≤ psum g k + g k
    omega
theorem psum_lt {f g : Int → Int} {b : Int} (hb : 0 ≤ b) (hl : f b < g b) : ∀ k : Nat, b < k → (∀ i : Int, 0 ≤ i → i < k → f i ≤ g i) → psum f k < psum g k
  | 0, h, _ => by omega
  | k + 1, h, hh => by
    have h2 := hh k (by omega) (by omega)
    show psum f k + f k < psum g k + g k
    by_cases e : (k : Int) = b
    · have h1 := psum_le (f := f) (g := g) k (fun i a b => hh i a (by omega))
      rw [e] at h2 ⊢; omega
    · have h1 := psum_lt hb hl k (by omega) (fun i a b => hh i a (by omega))
      omega
theorem untr_lt {V V2 : Nat → Int → Int} {b : Int} (hf : V2 42 7 = V 42 7) (hm : monT V V2) (hb : 0 ≤ b ∧ b < V 42 7) (h0 : V2 57 b = 0) {V3 : Nat → Int → Int} (e3 : V3 57 = u1 (V2 57) b 1) (e4 : V3 42 7 = V 42 7) : untr V3 < untr V := by
  unfold untr sm
  rw [e4]
  refine psum_lt (b := b) hb.1 ?_ _ (by omega) (fun i a c => ?_)
  · show bI (V3 57 b = 0) < bI (V 57 b = 0)
    rw [e3, u1_s, bI_f (by decide), bI_t (Classical.byContradiction fun q => hm b q h0)]; decide
  · show bI (V3 57 i = 0) ≤ bI (V 57 i = 0)
    rw [e3]
    by_cases e : i = b
    · rw [e, u1_s, bI_f (by decide)]; exact (bI_b _).1
    · rw [u1_n e]
      by_cases q : V2 57 i = 0
      · rw [bI_t q, bI_t (Classical.byContradiction fun z => hm i z q)]; exact Int.le_refl _
      · rw [bI_f q]; exact (bI_b _).1
theorem untr_0 (V : Nat → Int → Int) (h : 0 ≤ V 42 7) : 0 ≤ untr V ∧ untr V ≤ V 42 7 := by
  have := sm_b (f := fun b => bI (V 57 b = 0)) (A := 1) h (fun i _ _ => bI_b _)
  unfold untr; omega
theorem FrG.rf {V : Nat → Int → Int} : FrG V V := fun _ _ _ => rfl
theorem FrG.w {V V2 : Nat → Int → Int} (h : FrG V V2) {c : Nat} {z v : Int} (hc : c = 56 ∨ c = 57) : FrG V (u2 V2 c z v) := fun q a b => by
  rw [u2_n (by omega)]; exact h q a b
theorem FrG.tr {V V2 V3 : Nat → Int → Int} (h : FrG V V2) (h2 : FrG V2 V3) : FrG V V3 := fun q a b => by rw [h2 q a b, h q a b]
theorem monT.rf {V : Nat → Int → Int} : monT V V := fun _ h => h
theorem monT.tr {V V2 V3 : Nat → Int → Int} (h : monT V V2) (h2 : monT V2 V3) : monT V V3 := fun b q => h2 b (h b q)
theorem monT.m {V V2 : Nat → Int → Int} (h : monT V V2) {b : Int} : monT V (u2 V2 57 b 1) := fun c q => by
  rw [u2_s]
  by_cases e : c = b
  · rw [e, u1_s]; decide
  · rw [u1_n e]; exact h c q
theorem monT.h {V V2 : Nat → Int → Int} (h : monT V V2) {b o : Int} : monT V (u2 V2 56 b o) := fun c q => by
  rw [u2_n (by decide)]; exact h c q
/-- a free board is given -/
theorem gets_f {V V2 : Nat → Int → Int} {b o : Int} (hF : FrG V V2) (hm : monT V V2) (h56 : V2 56 = V 56) (hM : MatchOk V (V 56)) (hb : 0 ≤ b ∧ b < V 42 7) (ho : 0 ≤ o ∧ o < V 42 9) (h0 : V2 57 b = 0) (ha : -1 ≤ V 56 b) (hn : V 56 b < 0) (hme : meetP (V 45) (V 46) b o) : getsT V (u2 (u2 V2 57 b 1) 56 b o) o := by
  have e : (u2 (u2 V2 57 b 1) 56 b o) 56 = u1 (V 56) b o := by rw [u2_s, u2_n (by decide), h56]
  refine ⟨fun y hy => ?_, fun c hc => ?_, fun c a d => ?_, fun c a d => ?_⟩
  · rw [e, cntH_u hb.1 hb.2, bI_f (p := V 56 b = y) (by omega)]; omega
  · rw [e]
    have : c ≠ b := fun q => hm c hc (by rw [q]; exact h0)
    rw [u1_n this]
  · rw [e]
    by_cases q : c = b
    · rw [q, u1_s]; omega
    · rw [u1_n q]
  · rw [e]
    by_cases q : c = b
    · rw [q, u1_s]; exact fun _ => ⟨ho.2, hme⟩
    · rw [u1_n q]; exact hM c a d
/-- a board is taken over -/
theorem gets_t {V V2 V4 : Nat → Int → Int} {b o : Int} (hF : FrG V V2) (hm : monT V V2) (h56 : V2 56 = V 56) (hM : MatchOk V (V 56)) (hb : 0 ≤ b ∧ b < V 42 7) (ho : 0 ≤ o ∧ o < V 42 9) (h0 : V2 57 b = 0) (ha : -1 ≤ V 56 b) (hn : 0 ≤ V 56 b) (hme : meetP (V 45) (V 46) b o) (hT : getsT (u2 V2 57 b 1) V4 (V 56 b)) : getsT V (u2 V4 56 b o) o := by
  obtain ⟨t1, t2, t3, t4⟩ := hT
  have f42 : (u2 V2 57 b 1) 42 = V 42 := by rw [u2_n (by decide)]; exact hF 42 (by decide) (by decide)
  have f56 : (u2 V2 57 b 1) 56 = V 56 := by rw [u2_n (by decide)]; exact h56
  have f45 : (u2 V2 57 b 1) 45 = V 45 := by rw [u2_n (by decide)]; exact hF 45 (by decide) (by decide)
  have f46 : (u2 V2 57 b 1) 46 = V 46 := by rw [u2_n (by decide)]; exact hF 46 (by decide) (by decide)
  rw [f42, f56] at t1
  rw [f42, f56] at t3
  rw [f56] at t2
  unfold MatchOk at t4
  rw [f42, f45, f46] at t4
  have e : (u2 V4 56 b o) 56 = u1 (V4 56) b o := u2_s
  have eb : V4 56 b = V 56 b := t2 b (by rw [u2_s, u1_s]; decide)
  refine ⟨fun y hy => ?_, fun c hc => ?_, fun c a d => ?_, fun c a d => ?_⟩
  · rw [e, cntH_u hb.1 hb.2, t1 y hy, eb]; omega
  · rw [e]
    have : c ≠ b := fun q => hm c hc (by rw [q]; exact h0)
    rw [u1_n this]
    exact t2 c (by rw [u2_s, u1_n this]; exact hm c hc)
  · rw [e]
    by_cases q : c = b
    · rw [q, u1_s]; omega
    · rw [u1_n q]; exact t3 c a d
  · rw [e]
    by_cases q : c = b
    · rw [q, u1_s]; exact fun _ => ⟨ho.2, hme⟩
    · rw [u1_n q]; exact t4 c a d
/-- a board isn't to be had: the tried ones stay shut -/
theorem gets_c {V V2 V4 : Nat → Int → Int} {b : Int} (hF : FrG V V2) (hm : monT V V2) (h56 : V2 56 = V 56) (hb : 0 ≤ b ∧ b < V 42 7) (hn : 0 ≤ V 56 b) (hc : clos V V2) (hm4 : monT (u2 V2 57 b 1) V4) (hT : getsF (u2 V2 57 b 1) V4 (V 56 b)) : clos V V4 := by
  obtain ⟨t1, t2, t3⟩ := hT
  have f42 : (u2 V2 57 b 1) 42 = V 42 := by rw [u2_n (by decide)]; exact hF 42 (by decide) (by decide)
  have f56 : (u2 V2 57 b 1) 56 = V 56 := by rw [u2_n (by decide)]; exact h56
  have f45 : (u2 V2 57 b 1) 45 = V 45 := by rw [u2_n (by decide)]; exact hF 45 (by decide) (by decide)
  have f46 : (u2 V2 57 b 1) 46 = V 46 := by rw [u2_n (by decide)]; exact hF 46 (by decide) (by decide)
  unfold clos at t3
  rw [f42, f45, f46, f56] at t2 t3
  have m2 : monT V2 V4 := (monT.rf.m).tr hm4
  intro c c1 c2 c3 c4
  by_cases q : (u2 V2 57 b 1) 57 c = 0
  · exact t3 c c1 c2 c3 q
  · by_cases e : c = b
    · rw [e]; exact ⟨hn, t2⟩
    · rw [u2_s, u1_n e] at q
      obtain ⟨k1, k2⟩ := hc c c1 c2 q c4
      exact ⟨k1, fun d d1 d2 d3 d4 => m2 d (k2 d d1 d2 d3 d4)⟩
theorem gets_d {V2 V4 : Nat → Int → Int} {b : Int} {P : Int → Prop} (hd : ∀ c, 0 ≤ c → c < b → P c → V2 57 c ≠ 0) (h4 : monT V2 V4) (hb : P b → V4 57 b ≠ 0) : ∀ c, 0 ≤ c → c < b + 1 → P c → V4 57 c ≠ 0 := fun c a d e => by
  rcases (show c < b ∨ c = b by omega) with q | q
  · exact h4 c (hd c a q e)
  · rw [q] at e ⊢; exact hb e
/-- the set of orders that an int spells -/
def inS (set o : Int) : Prop := zAnd (zShr set o) 1 = 1
def canM (V : Nat → Int → Int) (set : Int) : Prop := CanP (V 42 7) (V 42 9) (fun b => -1 ≤ V 56 b) (meetP (V 45) (V 46)) (inS set)
theorem can_f {V V2 V3 V4 : Nat → Int → Int} {set o : Int} (hF : FrG V V2) (hN : 0 ≤ V 42 7) (hA : ∀ b, 0 ≤ b → b < V 42 7 → (-1 ≤ V2 56 b ↔ -1 ≤ V 56 b)) (hM : MatchOk V (V2 56)) (hcn : ∀ y, 0 ≤ y → cntH (V2 56) (V 42 7) y = bI (y < o ∧ inS set y)) (ho : 0 ≤ o ∧ o < V 42 9) (hS : inS set o) (hF3 : FrG V V3) (h3 : V3 56 = V2 56) (h57 : ∀ b, 0 ≤ b → b < V 42 7 → V3 57 b = 0) (hT : getsF V3 V4 o) : ¬ canM V set := by
  obtain ⟨t1, t2, t3⟩ := hT
  unfold clos at t3
  have e42 := hF3 42 (by decide) (by decide)
  have e45 := hF3 45 (by decide) (by decide)
  have e46 := hF3 46 (by decide) (by decide)
  rw [e42, e45, e46, h3] at t2 t3
  refine hall (h := V2 56) (T := fun b => V4 57 b ≠ 0) (o := o) hN (fun y hy => ?_) ?_ ho hS (fun b b1 b2 b3 => ⟨(hM b b1 b2 b3).1, ?_⟩) (fun b b1 b2 b3 b4 => t2 b b1 b2 ((hA b b1 b2).mpr b3) b4) (fun b b1 b2 b3 => ?_)
  · rw [hcn y hy]; exact (bI_b _).2
  · rw [hcn o ho.1, bI_f (fun q => Int.lt_irrefl _ q.1)]
  · have h1 := cntH_mem (h := V2 56) (N := V 42 7) b1 b2 rfl
    rw [hcn _ b3] at h1
    have h2 := bI_1.mp (show bI (V2 56 b < o ∧ inS set (V2 56 b)) = 1 by have := bI_b (V2 56 b < o ∧ inS set (V2 56 b)); omega)
    exact h2.2
  · obtain ⟨k1, k2⟩ := t3 b b1 b2 b3 (h57 b b1 b2)
    exact ⟨k1, fun c c1 c2 c3 c4 => k2 c c1 c2 ((hA c c1 c2).mpr c3) c4⟩
theorem can_t {V V2 : Nat → Int → Int} {set : Int} (hN : 0 ≤ V 42 7) (hA : ∀ b, 0 ≤ b → b < V 42 7 → (-1 ≤ V2 56 b ↔ -1 ≤ V 56 b)) (hM : MatchOk V (V2 56)) (hcn : ∀ y, 0 ≤ y → cntH (V2 56) (V 42 7) y = bI (y < V 42 9 ∧ inS set y)) : canM V set := by
  have key : ∀ o, 0 ≤ o → o < V 42 9 → inS set o → ∃ b, 0 ≤ b ∧ b < V 42 7 ∧ V2 56 b = o := fun o a b c => cntH_ex hN (by rw [hcn o a, bI_t ⟨b, c⟩]; exact Int.le_refl _)
  refine ⟨fun o => Classical.epsilon fun b => 0 ≤ b ∧ b < V 42 7 ∧ V2 56 b = o, fun o a b c => ?_, fun o o' a b c d e f q => ?_⟩
  · have h := Classical.epsilon_spec (key o a b c)
    refine ⟨⟨h.1, h.2.1⟩, (hA _ h.1 h.2.1).mp (by rw [h.2.2]; omega), ?_⟩
    have h2 := (hM _ h.1 h.2.1 (by rw [h.2.2]; exact a)).2
    rw [h.2.2] at h2
    exact h2
  · have h := Classical.epsilon_spec (key o a b e)
    have h2 := Classical.epsilon_spec (key o' c d f)
    rw [← h.2.2, ← h2.2.2]
    exact congrArg (V2 56) q
/-- orders met, the greedy set: k orders are looked at -/
noncomputable def gsN (P : Int → Prop) : Nat → Int
  | 0 => 0
  | k + 1 => zOr (gsN P k) (cif (P (zOr (gsN P k) (zShl 1 (k : Int)))) (zShl 1 (k : Int)) 0)
noncomputable def gsS (P : Int → Prop) (o : Int) : Int := gsN P o.toNat
theorem gsS_s {P : Int → Prop} {o : Int} (h : 0 ≤ o) : gsS P (o + 1) = zOr (gsS P o) (cif (P (zOr (gsS P o) (zShl 1 o))) (zShl 1 o) 0) := by
  unfold gsS
  rw [show (o + 1).toNat = o.toNat + 1 by omega]
  show zOr _ (cif (P (zOr _ (zShl 1 (o.toNat : Int)))) (zShl 1 (o.toNat : Int)) 0) = _
  rw [Int.toNat_of_nonneg h]
theorem gsS_rg (P : Int → Prop) (o : Int) : Rg (gsS P o) := by
  unfold gsS
  cases o.toNat with
  | zero => show Rg 0; constructor <;> decide
  | succ k => exact zOr_rg _ _
/-- with no board given away -/
def canF (V : Nat → Int → Int) (set : Int) : Prop := CanP (V 42 7) (V 42 9) (fun _ => True) (meetP (V 45) (V 46)) (inS set)
theorem canF_c {V V2 : Nat → Int → Int} {set : Int} (hF : FrG V V2) (hA : ∀ b, 0 ≤ b → b < V 42 7 → -1 ≤ V2 56 b) : canM V2 set ↔ canF V set := by
  unfold canM canF
  rw [hF 42 (by decide) (by decide), hF 45 (by decide) (by decide), hF 46 (by decide) (by decide)]
  exact ⟨fun h => h.c (fun _ _ _ _ => trivial) (fun _ _ q => q) (fun _ _ _ q => q), fun h => h.c (fun b b1 b2 _ => hA b b1 b2) (fun _ _ q => q) (fun _ _ _ q => q)⟩
/-- how many boards meet some order -/
noncomputable def metB (V : Nat → Int → Int) : Int := sm (fun b => bI (∃ o, 0 ≤ o ∧ o < V 42 9 ∧ meetP (V 45) (V 46) b o)) (V 42 7)
