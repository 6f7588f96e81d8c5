theorem zOr_0 {q : Int} (h : Rg q) : zOr q 0 = q := by
  have e := zOr_i q 0
  have e2 : iI (zOr q 0) = iI q := by
    rw [e]
    apply Int32.toBitVec_inj.mp
    rw [Int32.toBitVec_or]
    show (iI q).toBitVec ||| (0#32 : BitVec 32) = _
    rw [BitVec.or_zero]
  exact (iI_eq (zOr_rg _ _) h).mp e2
theorem oth_b {gr it : Int → Int} {len size r : Int} (h : othP gr it len size r) (hl : 0 ≤ len ∧ len ≤ 12) (hs : 0 ≤ size ∧ size ≤ 40) : -1 ≤ r ∧ r ≤ 40 := by
  rcases h with ⟨h0, h1, -⟩ | ⟨-, h1⟩
  · omega
  · rw [h1]; split <;> omega
theorem open_rows {V : Nat → Int → Int} {sv : Nat} {lr lt L : Int} {f : Int → Int → Int} {m g : Int} {pr : Int → Int} (h : OpenOk V sv lr lt L f m g pr (pr 0)) (hru : RulesOk pr) : (V sv 2 = ((opL lr lt L f m pr g).length : Int) ∧ 0 ≤ ((opL lr lt L f m pr g).length : Int) ∧ ((opL lr lt L f m pr g).length : Int) ≤ 12) ∧ ∀ q : Int, 0 ≤ q → q < ((opL lr lt L f m pr g).length : Int) → (0 ≤ V (sv + 11) q ∧ V (sv + 11) q ≤ 11) ∧ V (sv + 10) (V (sv + 11) q) = (fun i => opG lr lt L f m pr g (lat (opL lr lt L f m pr g) i)) q := by
  obtain ⟨⟨c1, c2⟩, c3⟩ := h
  change V sv 2 = (opL lr lt L f m pr g).length at c1
  change ∀ q : Int, 0 ≤ q → q < (opL lr lt L f m pr g).length → V (sv + 11) q = lat (opL lr lt L f m pr g) q at c2
  have hk0 := hru.1.1
  have hlen := opL_len (r := lr) (t := lt) (L := L) (f := f) (m := m) (pr := pr) (g := g) hk0
  refine ⟨⟨c1, by omega, hlen⟩, fun q a b => ?_⟩
  have hm := opL_mem (r := lr) (t := lt) (L := L) (f := f) (m := m) (pr := pr) (g := g) hk0 (lat_mem (l := opL lr lt L f m pr g) (i := q) a b)
  rw [c2 q a b]
  refine ⟨by omega, ?_⟩
  obtain ⟨d1, d2⟩ := c3 (lat (opL lr lt L f m pr g) q) (by omega) (by omega)
  have d3 := d2 (by rw [d1]; exact hm.2.2)
  rw [d3, d1]
  rfl
theorem wP_pr {f : Int → Int → Int} {m g : Int} {pr pr' : Int → Int} (h : ∀ z, 1 ≤ z → pr' z = pr z) : wP f m g pr' = wP f m g pr := by
  funext y k a b s t
  unfold wP
  have hg : 0 ≤ grP f m g y k a b s t ∧ grP f m g y k a b s t ≤ 4 := gradeS_b _ _ _ _ _
  rw [h _ (by omega)]
theorem BestB_pr {lr lt L : Int} {f : Int → Int → Int} {m g : Int} {pr pr' : Int → Int} (h : ∀ z, 1 ≤ z → pr' z = pr z) : BestB lr lt L f m g pr' = BestB lr lt L f m g pr := by
  funext y k W AR A B S T G
  unfold BestB
  rw [wP_pr h, h 1 (by decide)]
theorem open_kf {V : Nat → Int → Int} {sv : Nat} {lr lt L : Int} {f : Int → Int → Int} {m g : Int} {pr : Int → Int} {k : Int} (h : OpenOk V sv lr lt L f m g pr k) : OpenOk V sv lr lt L f m g (u1 pr 0 k) (u1 pr 0 k 0) := by
  have e := BestB_pr (lr := lr) (lt := lt) (L := L) (f := f) (m := m) (g := g) (pr := pr) (pr' := u1 pr 0 k) (fun z a => u1_n (by omega))
  have e1 : bwC lr lt L f m g (u1 pr 0 k) = bwC lr lt L f m g pr := by
    funext y n
    unfold bwC bestW
    rw [e]
  have e2 : bestG lr lt L f m g (u1 pr 0 k) = bestG lr lt L f m g pr := by
    funext y n
    unfold bestG
    rw [e]
  unfold OpenOk at h ⊢
  rw [e1, e2, u1_s, u1_n (show (6 : Int) ≠ 0 by decide)]
  exact h

