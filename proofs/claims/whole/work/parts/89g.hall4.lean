/-! bits: and, not, all below N -/
theorem inS_and {a b o : Int} (h : 0 ≤ o ∧ o < 32) : inS (zAnd a b) o ↔ inS a o ∧ inS b o := by
  rw [inS_bit h, inS_bit h, inS_bit h, zAnd_i, Int32.toBitVec_and, BitVec.getLsbD_and, Bool.and_eq_true]
theorem inS_m1 {o : Int} (h : 0 ≤ o ∧ o < 32) : inS (-1) o := by
  obtain ⟨k, rfl⟩ : ∃ k : Nat, o = k := ⟨o.toNat, by omega⟩
  have e : ∀ k : Fin 32, zAnd (zShr (-1) ((k.val : Nat) : Int)) 1 = 1 := by decide +kernel
  exact e ⟨k, by omega⟩
theorem inS_not {a o : Int} (h : 0 ≤ o ∧ o < 32) : inS (zXor a (-1)) o ↔ ¬ inS a o := by
  rw [inS_xor h]
  exact ⟨fun q z => q ⟨fun _ => inS_m1 h, fun _ => z⟩, fun q z => q (z.mpr (inS_m1 h))⟩
theorem inS_ones {N q : Int} (hN : 0 ≤ N ∧ N ≤ 16) (h : 0 ≤ q ∧ q < 32) : inS (zShl 1 N - 1) q ↔ q < N := by
  obtain ⟨k, rfl⟩ : ∃ k : Nat, q = k := ⟨q.toNat, by omega⟩
  obtain ⟨j, rfl⟩ : ∃ j : Nat, N = j := ⟨N.toNat, by omega⟩
  have e : ∀ j : Fin 17, ∀ k : Fin 32, zAnd (zShr (zShl 1 ((j.val : Nat) : Int) - 1) ((k.val : Nat) : Int)) 1 = 1 ↔ ((k.val : Nat) : Int) < ((j.val : Nat) : Int) := by decide +kernel
  exact e ⟨j, by omega⟩ ⟨k, by omega⟩
theorem zAnd_c (a b : Int) : zAnd a b = zAnd b a := by
  unfold zAnd
  rw [Int32.and_comm]
theorem bit01 (w i : Int) : zAnd (zShr w i) 1 = 0 ↔ ¬ inS w i := by
  have h := zAnd_le (a := 1) (b := zShr w i) ⟨by decide, by decide⟩
  rw [zAnd_c] at h
  unfold inS
  omega
theorem rng16 {x : Int} (hx : Rg x) (h : ∀ q, 16 ≤ q → q < 32 → ¬ inS x q) : 0 ≤ x ∧ x < 65536 := by
  have e : x = zAnd 65535 x := inS_x hx (zAnd_rg _ _) (fun o a b => by
    rw [inS_and ⟨a, b⟩]
    have k : inS 65535 o ↔ o < 16 := by
      have := inS_ones (N := 16) ⟨by decide, by decide⟩ ⟨a, b⟩
      rwa [show zShl 1 16 - 1 = 65535 by decide +kernel] at this
    rw [k]
    exact ⟨fun q => ⟨Classical.byContradiction fun z => h o (by omega) b q, q⟩, fun q => q.2⟩)
  have := zAnd_le (a := 65535) (b := x) ⟨by decide, by decide⟩
  rw [← e] at this
  omega
/-! counts -/
theorem ct_le {P : Nat → Prop} : ∀ n : Nat, ct P n ≤ n
  | 0 => Nat.le_refl _
  | n + 1 => by
    have ih := ct_le (P := P) n
    show ct P n + cif (P n) 1 0 ≤ n + 1
    by_cases p : P n
    · rw [cifN_t p]; omega
    · rw [cifN_f p]; omega
theorem ct_sub {P : Nat → Prop} {m : Nat} : ∀ k : Nat, (∀ i, m ≤ i → i < m + k → ¬ P i) → ct P (m + k) = ct P m
  | 0, _ => rfl
  | k + 1, h => by
    show ct P (m + k) + cif (P (m + k)) 1 0 = ct P m
    rw [ct_sub k (fun i a b => h i a (by omega)), cifN_f (h (m + k) (by omega) (by omega))]
    rfl
theorem ct_eq {P Q : Nat → Prop} (n : Nat) (h : ∀ i, i < n → (P i ↔ Q i)) : ct P n = ct Q n := Nat.le_antisymm (ct_mono n fun i a => (h i a).mp) (ct_mono n fun i a => (h i a).mpr)
theorem ct_inj {n : Nat} {g : Nat → Nat} : ∀ (m : Nat) (P Q : Nat → Prop), (∀ o, o < m → P o → g o < n ∧ Q (g o)) → (∀ o o', o < m → o' < m → P o → P o' → g o = g o' → o = o') → ct P m ≤ ct Q n
  | 0, _, _, _, _ => Nat.zero_le _
  | m + 1, P, Q, h1, h2 => by
    show ct P m + cif (P m) 1 0 ≤ ct Q n
    by_cases p : P m
    · rw [cifN_t p]
      have a := h1 m (by omega) p
      have ih := ct_inj (n := n) (g := g) m P (fun b => Q b ∧ b ≠ g m) (fun o b c => ⟨(h1 o (by omega) c).1, (h1 o (by omega) c).2, fun e => by (have := h2 o m (by omega) (by omega) c p e; omega)⟩) (fun o o' b c d e f => h2 o o' (by omega) (by omega) d e f)
      have d : ct (fun b => (Q b ∧ b ≠ g m) ∨ b = g m) n = ct (fun b => Q b ∧ b ≠ g m) n + ct (fun b => b = g m) n := ct_dis n fun i _ x y => x.2 y
      rw [ct_1, if_pos a.1] at d
      have e : ct (fun b => (Q b ∧ b ≠ g m) ∨ b = g m) n ≤ ct Q n := ct_mono n fun i _ x => x.elim (fun z => z.1) (fun z => z ▸ a.2)
      omega
    · rw [cifN_f p]
      exact ct_inj m P Q (fun o b => h1 o (by omega)) (fun o o' b c => h2 o o' (by omega) (by omega))
/-! the int that spells a set -/
noncomputable def mkS (T : Nat → Prop) : Nat → Int
  | 0 => 0
  | k + 1 => zOr (mkS T k) (cif (T k) (zShl 1 (k : Int)) 0)
theorem mkS_in {T : Nat → Prop} : ∀ k : Nat, k ≤ 6 → ∀ o : Nat, o < 32 → (inS (mkS T k) (o : Int) ↔ o < k ∧ T o)
  | 0, _, o, ho => ⟨fun h => absurd h (inS_0 ⟨by omega, by omega⟩), fun h => absurd h.1 (Nat.not_lt_zero _)⟩
  | k + 1, hk, o, ho => by
    show inS (zOr (mkS T k) (cif (T k) (zShl 1 (k : Int)) 0)) (o : Int) ↔ _
    rw [inS_or ⟨by omega, by omega⟩, mkS_in k (by omega) o ho]
    by_cases t : T k
    · rw [cif_t t, inS_shl ⟨by omega, by omega⟩ ⟨by omega, by omega⟩]
      constructor
      · rintro (⟨a, b⟩ | a)
        · exact ⟨by omega, b⟩
        · have e : o = k := by omega
          exact ⟨by omega, e ▸ t⟩
      · rintro ⟨a, b⟩
        by_cases e : o = k
        · exact Or.inr (by omega)
        · exact Or.inl ⟨by omega, b⟩
    · rw [cif_f t]
      constructor
      · rintro (⟨a, b⟩ | a)
        · exact ⟨by omega, b⟩
        · exact absurd a (inS_0 ⟨by omega, by omega⟩)
      · rintro ⟨a, b⟩
        have e : o ≠ k := fun e => t (e ▸ b)
        exact Or.inl ⟨by omega, b⟩
theorem mkS_b {T : Nat → Prop} : ∀ k : Nat, k ≤ 6 → 0 ≤ mkS T k ∧ mkS T k ≤ 63
  | 0, _ => ⟨Int.le_refl _, by show (0 : Int) ≤ 63; decide⟩
  | k + 1, hk => by
    have ih := mkS_b (T := T) k (by omega)
    show 0 ≤ zOr (mkS T k) (cif (T k) (zShl 1 (k : Int)) 0) ∧ zOr (mkS T k) (cif (T k) (zShl 1 (k : Int)) 0) ≤ 63
    by_cases t : T k
    · rw [cif_t t]; exact zOr_63 ih ⟨by omega, by omega⟩
    · rw [cif_f t, zOr_0 ⟨by omega, by omega⟩]; exact ih
/-! the boards that meet some order of few -/
theorem bm_in {M : Int → Int} {fw : Int} : ∀ k : Nat, k ≤ 6 → ∀ q, 0 ≤ q → q < 32 → (inS (bmN M fw k) q ↔ ∃ o : Nat, o < k ∧ inS fw (o : Int) ∧ inS (M (o : Int)) q)
  | 0, _, q, a, b => ⟨fun h => absurd h (inS_0 ⟨a, b⟩), fun ⟨o, h, _⟩ => absurd h (Nat.not_lt_zero _)⟩
  | k + 1, hk, q, a, b => by
    show inS (cif (inS fw (k : Int)) (zOr (bmN M fw k) (M (k : Int))) (bmN M fw k)) q ↔ _
    have ih := bm_in (M := M) (fw := fw) k (by omega) q a b
    by_cases t : inS fw (k : Int)
    · rw [cif_t t, inS_or ⟨a, b⟩, ih]
      constructor
      · rintro (⟨o, x, y, z⟩ | h)
        · exact ⟨o, by omega, y, z⟩
        · exact ⟨k, by omega, t, h⟩
      · rintro ⟨o, x, y, z⟩
        by_cases e : o = k
        · subst e; exact Or.inr z
        · exact Or.inl ⟨o, by omega, y, z⟩
    · rw [cif_f t, ih]
      constructor
      · rintro ⟨o, x, y, z⟩; exact ⟨o, by omega, y, z⟩
      · rintro ⟨o, x, y, z⟩
        by_cases e : o = k
        · subst e; exact absurd y t
        · exact ⟨o, by omega, y, z⟩
theorem bm_rg {M : Int → Int} {fw : Int} : ∀ k : Nat, Rg (bmN M fw k)
  | 0 => by show Rg 0; constructor <;> decide
  | k + 1 => by
    show Rg (cif (inS fw (k : Int)) (zOr (bmN M fw k) (M (k : Int))) (bmN M fw k))
    by_cases t : inS fw (k : Int)
    · rw [cif_t t]; exact zOr_rg _ _
    · rw [cif_f t]; exact bm_rg k
/-- the masks M tell which boards meet which order -/
def MaskP (M : Int → Int) (N Mo : Int) (mt : Int → Int → Prop) : Prop := ∀ o, 0 ≤ o → o < Mo → Rg (M o) ∧ ∀ q, 0 ≤ q → q < 32 → (inS (M o) q ↔ (q < N ∧ mt q o))
theorem bmS_m {M : Int → Int} {fw : Int} {n m : Nat} {mt : Int → Int → Prop} (hM : MaskP M n m mt) (hm : m ≤ 6) (hoM : ∀ o : Nat, m ≤ o → o < 32 → ¬ inS fw (o : Int)) {q : Int} (a : 0 ≤ q) (b : q < 32) : inS (bmS M fw 6) q ↔ q < n ∧ ∃ o : Nat, o < m ∧ inS fw (o : Int) ∧ mt q o := by
  have e : bmS M fw 6 = bmN M fw 6 := rfl
  rw [e, bm_in 6 (by omega) q a b]
  constructor
  · rintro ⟨o, x, y, z⟩
    have ho : o < m := Classical.byContradiction fun w => hoM o (by omega) (by omega) y
    have := ((hM o (by omega) (by omega)).2 q a b).mp z
    exact ⟨this.1, o, ho, y, this.2⟩
  · rintro ⟨x, o, y, z, w⟩
    exact ⟨o, by omega, z, ((hM o (by omega) (by omega)).2 q a b).mpr ⟨x, w⟩⟩
theorem popc_lim {x : Int} {n : Nat} (hx : Rg x) (hn : n ≤ 16) (h : ∀ q : Int, (n : Int) ≤ q → q < 32 → ¬ inS x q) : popc x = ((ct (fun i => inS x (i : Int)) n : Nat) : Int) := by
  rw [popc_ct (rng16 hx fun q a b => h q (by omega) b)]
  have e := ct_sub (P := fun i => inS x (i : Int)) (m := n) (16 - n) (fun i a b => h i (by omega) (by omega))
  rw [show n + (16 - n) = 16 by omega] at e
  rw [e]
/-- Hall: the class's test is the model's -/
theorem hallQ_iff {M : Int → Int} {n m : Nat} {os bs : Int} {mt : Int → Int → Prop} (hM : MaskP M n m mt) (hn : n ≤ 16) (hm : m ≤ 6) (hos : 0 ≤ os ∧ os ≤ 63) (hoM : ∀ o : Nat, m ≤ o → o < 32 → ¬ inS os (o : Int)) : HallQ M os bs ↔ CanP n m (inS bs) mt (inS os) := by
  have key : ∀ fw, 0 ≤ fw → fw ≤ 63 → (∀ o : Nat, o < 32 → inS fw (o : Int) → inS os (o : Int)) → popc fw = ((ct (fun i => inS fw (i : Int)) m : Nat) : Int) ∧ popc (zAnd (bmS M fw 6) bs) = ((ct (fun i => inS bs (i : Int) ∧ ∃ o : Nat, o < m ∧ inS fw (o : Int) ∧ mt (i : Int) (o : Int)) n : Nat) : Int) := by
    intro fw a b c
    have hf : ∀ o : Nat, m ≤ o → o < 32 → ¬ inS fw (o : Int) := fun o x y z => hoM o x y (c o y z)
    refine ⟨popc_lim ⟨by omega, by omega⟩ (by omega) (fun q x y z => ?_), ?_⟩
    · refine hf q.toNat (by omega) (by omega) ?_
      rw [Int.toNat_of_nonneg (by omega)]; exact z
    · have e := popc_lim (x := zAnd (bmS M fw 6) bs) (n := n) (zAnd_rg _ _) hn (fun q x y z => by
        rw [inS_and ⟨by omega, by omega⟩, bmS_m hM hm hf (by omega) (by omega)] at z
        omega)
      rw [e]
      refine congrArg (fun k : Nat => (k : Int)) (ct_eq n fun i hi => ?_)
      rw [inS_and ⟨by omega, by omega⟩, bmS_m hM hm hf (by omega) (by omega)]
      exact ⟨fun w => ⟨w.2, w.1.2⟩, fun w => ⟨⟨by omega, w.2⟩, w.1⟩⟩
  constructor
  · intro H
    obtain ⟨g, g1, g2⟩ := hallM n m m (fun i => i < m ∧ inS os (i : Int)) (fun o b => inS bs (b : Int) ∧ mt (b : Int) (o : Int)) (ct_le m) (fun T hT => by
      by_cases t : ∃ i, i < m ∧ T i
      · obtain ⟨i, i1, i2⟩ := t
        have hin := fun o ho => mkS_in (T := T) m hm o ho
        have hb := mkS_b (T := T) m hm
        have hne : mkS T m ≠ 0 := fun e => by
          have := (hin i (by omega)).mpr ⟨i1, i2⟩
          rw [e] at this
          exact inS_0 ⟨by omega, by omega⟩ this
        have hsub : ∀ o : Nat, o < 32 → inS (mkS T m) (o : Int) → inS os (o : Int) := fun o a b => (hT o ((hin o a).mp b).2).2
        have hle : mkS T m ≤ os := by
          have e : mkS T m = zAnd os (mkS T m) := inS_x ⟨by omega, by omega⟩ (zAnd_rg _ _) (fun o a b => by
            rw [inS_and ⟨a, b⟩]
            refine ⟨fun q => ⟨?_, q⟩, fun q => q.2⟩
            have := hsub o.toNat (by omega)
            rw [Int.toNat_of_nonneg a] at this
            exact this q)
          have := zAnd_le (a := os) (b := mkS T m) ⟨by omega, by omega⟩
          omega
        have hz : zAnd (mkS T m) (zXor os (-1)) = 0 := inS_x (zAnd_rg _ _) ⟨by decide, by decide⟩ (fun o a b => by
          rw [inS_and ⟨a, b⟩, inS_not ⟨a, b⟩]
          refine ⟨fun q => absurd ?_ q.2, fun q => absurd q (inS_0 ⟨a, b⟩)⟩
          have := hsub o.toNat (by omega)
          rw [Int.toNat_of_nonneg a] at this
          exact this q.1)
        have h1 := H (mkS T m) (by omega) hle hz
        obtain ⟨k1, k2⟩ := key (mkS T m) hb.1 hb.2 hsub
        rw [k1, k2] at h1
        have e1 : ct T m = ct (fun i => inS (mkS T m) (i : Int)) m := ct_eq m fun i a => ⟨fun q => (hin i (by omega)).mpr ⟨a, q⟩, fun q => ((hin i (by omega)).mp q).2⟩
        have e2 : ct (fun i => inS bs (i : Int) ∧ ∃ o : Nat, o < m ∧ inS (mkS T m) (o : Int) ∧ mt (i : Int) (o : Int)) n ≤ ct (nbS (fun o b => inS bs (b : Int) ∧ mt (b : Int) (o : Int)) m T) n := ct_mono n fun i a q => by
          obtain ⟨q1, o, q2, q3, q4⟩ := q
          exact ⟨o, q2, ((hin o (by omega)).mp q3).2, q1, q4⟩
        omega
      · rw [ct_0 m fun i a b => t ⟨i, a, b⟩]; exact Nat.zero_le _)
    refine ⟨fun o => ((g o.toNat : Nat) : Int), fun o a b c => ?_, fun o o' a b c d e f h => ?_⟩
    · have e : ((o.toNat : Nat) : Int) = o := Int.toNat_of_nonneg a
      have := g1 o.toNat (by omega) ⟨by omega, by rw [e]; exact c⟩
      rw [e] at this
      exact ⟨⟨by show (0 : Int) ≤ ((g o.toNat : Nat) : Int); omega, by show ((g o.toNat : Nat) : Int) < (n : Int); omega⟩, this.2.1, this.2.2⟩
    · have e1 : ((o.toNat : Nat) : Int) = o := Int.toNat_of_nonneg a
      have e2 : ((o'.toNat : Nat) : Int) = o' := Int.toNat_of_nonneg c
      have h' : ((g o.toNat : Nat) : Int) = ((g o'.toNat : Nat) : Int) := h
      have := g2 o.toNat o'.toNat (by omega) (by omega) ⟨by omega, by rw [e1]; exact e⟩ ⟨by omega, by rw [e2]; exact f⟩ (by omega)
      omega
  · rintro ⟨g, g1, g2⟩ fw a b c
    have hsub : ∀ o : Nat, o < 32 → inS fw (o : Int) → inS os (o : Int) := fun o x y => Classical.byContradiction fun z => by
      have h : inS (zAnd fw (zXor os (-1))) (o : Int) := by
        rw [inS_and ⟨by omega, by omega⟩, inS_not ⟨by omega, by omega⟩]
        exact ⟨y, z⟩
      rw [c] at h
      exact inS_0 ⟨by omega, by omega⟩ h
    obtain ⟨k1, k2⟩ := key fw (by omega) (by omega) hsub
    rw [k1, k2]
    refine Int.ofNat_le.mpr (ct_inj (g := fun o => (g (o : Int)).toNat) m _ _ (fun o x y => ?_) (fun o o' x y z w e => ?_))
    · have h := g1 o (by omega) (by omega) (hsub o (by omega) y)
      have e : (((g (o : Int)).toNat : Nat) : Int) = g (o : Int) := Int.toNat_of_nonneg h.1.1
      refine ⟨by omega, ?_⟩
      show inS bs (((g (o : Int)).toNat : Nat) : Int) ∧ ∃ o' : Nat, o' < m ∧ inS fw (o' : Int) ∧ mt (((g (o : Int)).toNat : Nat) : Int) (o' : Int)
      rw [e]
      exact ⟨h.2.1, o, x, y, h.2.2⟩
    · have h := g1 o (by omega) (by omega) (hsub o (by omega) z)
      have h' := g1 o' (by omega) (by omega) (hsub o' (by omega) w)
      have e' : (g (o : Int)).toNat = (g (o' : Int)).toNat := e
      have := g2 o o' (by omega) (by omega) (by omega) (by omega) (hsub o (by omega) z) (hsub o' (by omega) w) (by omega)
      omega
