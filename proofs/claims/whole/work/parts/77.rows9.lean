/-! arrays of references, arrays of arrays, and a copy out of a static array -/
section XN3
variable {K : XS} {G : GS} {cells slots : Nat} {Q : State → Prop} {n : Nat} {V : Nat → Int → Int} {R : Nat → Int → Option Nat} {cc : ByteArray} {own : String} {nL : Nat} {ret : Option FieldType} {rm : Room} {pc : Nat} {lv lv' : List (Nat × Value)} {st stk : List Value} {ix : Nat}
theorem tRF_Rg (z : Int) : Rg (tat tRF z) := by
  unfold tat
  generalize z.toNat = j
  match j with
  | 0 | 1 | 2 | 3 | 4 | 5 | 6 => constructor <;> decide
  | j + 7 => constructor <;> (show _ ≤ _; simp [tRF])
theorem x_acpT (C : Cx K G cc own nL ret rm) (b : Nat) (hd : decode cc pc = .ok (.invokestatic ix, 3)) (hbc : b < n) (htb : tb b = (20, 7)) (hw : Cond.methodLink own ix arraycopyName ∈ BW) (hnat : Cond.native arraycopyName ∈ BW) (hsta : Cond.static arraycopyName ∈ BW) (hini : Cond.initialized "java/lang/System" ∈ BW) (hfr : 1 ≤ rm.frames) (hlo : (st.map fun v => v.category).sum + (nativeFrameWords "java/lang/System" "arraycopy" 5 + 11) ≤ rm.locals)
    (kk : Xw K G cells slots Q n (uC V b (fun z => if 0 ≤ z ∧ z < 7 then tat tRF z else V b z)) R (pc + 3) lv st) : Xw K G cells slots Q n V R pc lv (.int (iI 7) :: .int (iI 0) :: .ref (aG G b) :: .int (iI 0) :: .ref (yG G 6) :: st) := by
  obtain ⟨p, e, Rm, s, m, args, below, meth, co⟩ := K
  obtain ⟨l, b0, D, Y⟩ := G
  obtain ⟨⟨hx, hb, hml, ho, hts⟩, hlk, hkx, hret, hRm⟩ := C
  subst hRm
  intro H locs ls g hs hl
  have r0 : Rg 0 := by constructor <;> decide
  have r7 : Rg 7 := by constructor <;> decide
  have g1 : ¬ iI 0 < 0 := by rw [iI_0, iI_lt r0 r0]; omega
  have g3 : ¬ iI 7 < 0 := by rw [iI_0, iI_lt r7 r0]; omega
  have c1 : (iI 0).toNatClampNeg = 0 := iI_cl r0
  have c3 : (iI 7).toNatClampNeg = 7 := iI_cl r7
  intro T hT X
  obtain ⟨scr, hs1, hs2, hs3, hs4, hsz, hs5, hs6⟩ := (hkx.stc (k := 6) ⟨by decide, by decide⟩).2
  have hlt6 : Y 6 < s.heap.size := (Array.getElem?_eq_some_iff.mp hs1).1
  have hc0 : H[Y 6]? = some scr := by rw [hs.2.1 _ hlt6 hs6]; exact hs1
  have hs5' : ∀ j, j < 7 → scr.slots[j]? = some (.int (iI (tRF.getD j 0))) := hs5
  have hs4' : 7 ≤ scr.slots.size := hs4
  have hc1 : H[b0 + b]? = some (vp_cell (Y 0) (7, .inl (fun j => iI (V b j)))) := by have := g.2.1 b hbc; rw [htb] at this; exact this
  obtain ⟨hsx, k0, hk0, cm0, hkk0⟩ := hs2
  obtain ⟨-, k1, hk1, cm1, hkk1⟩ := (hkx.k.2 0 _ rfl).1 7 (fun j => .int (iI (V b j)))
  obtain ⟨vm', X', step⟩ := X.arraycopy hx ho (hts _ hw) (hts _ hnat) (hts _ hsta) (hts _ hini) (src := Y 6) (dst := b0 + b) (cs := scr) (cd := vp_cell (Y 0) (7, .inl (fun j => iI (V b j)))) (srcPos := iI 0) (destPos := iI 0) (n := iI 7) (by rw [hT]; exact hc0) (by rw [hT]; exact hc1)
    hsx (fun _ h => by cases h) hs3 (fun h => by cases h) hk0 hk1 hkk0 hkk1 (by simp [refKind]) g1 g1 g3
    (by rw [iI_toInt r0, iI_toInt r7]; omega)
    (by rw [iI_toInt r0, iI_toInt r7]; show ¬ _ > ((arrV (Y 0) 7 (fun j => .int (iI (V b j)))).slots.size : Int); rw [arrV_size]; omega)
    (fun vm₁ _ i hi => by
      have e : scr.slots.getD ((iI 0).toNatClampNeg + i) .null = .int (iI (tRF.getD ((iI 0).toNatClampNeg + i) 0)) := by
        rw [Array.getD_eq_getD_getElem?, hs5' _ (by omega)]
        rfl
      refine ⟨?_, ?_⟩
      · rw [e]; rfl
      · rw [e]; exact trivial)
    (g := F0 m pc ls (.int (iI 7) :: .int (iI 0) :: .ref (b0 + b) :: .int (iI 0) :: .ref (Y 6) :: st)) rfl hl.1 (rest := st) rfl (by rw [hb]; exact hd) hfr (by show 2 * 0 + _ + _ ≤ _; omega)
  have e1 : copied scr (vp_cell (Y 0) (7, .inl (fun j => iI (V b j)))) (iI 0) (iI 0) (iI 7) = vp_cell (Y 0) (7, .inl (va_cpy (fun j : Nat => iI (tRF.getD j 0)) (fun j : Nat => iI (V b j)) (iI 0).toNatClampNeg (iI 0).toNatClampNeg (iI 7).toNatClampNeg)) := va_copiedX (fun z => .int z) scr (Y 0) (fun j : Nat => iI (tRF.getD j 0)) (fun j : Nat => iI (V b j)) hs5' (by omega)
  rw [e1] at X' step
  generalize hWd : uC V b (fun z => if 0 ≤ z ∧ z < 7 then tat tRF z else V b z) = W at kk
  have wn : ∀ d, d ≠ b → W d = V d := fun d h => by rw [← hWd]; exact uC_n h
  have wb : ∀ z, W b z = if 0 ≤ z ∧ z < 7 then tat tRF z else V b z := fun z => by rw [← hWd, uC_s]
  have e2 : va_cpy (fun j : Nat => iI (tRF.getD j 0)) (fun j : Nat => iI (V b j)) (iI 0).toNatClampNeg (iI 0).toNatClampNeg (iI 7).toNatClampNeg = fun j : Nat => iI (W b j) := by
    funext j
    rw [c1, c3, wb]
    unfold va_cpy
    by_cases q : (0 : Int) ≤ (j : Int) ∧ (j : Int) < 7
    · rw [if_pos q, if_pos (by omega)]
      show iI (tRF.getD (0 + (j - 0)) 0) = iI (tRF.getD (j : Int).toNat 0)
      rw [show 0 + (j - 0) = j by omega, show (j : Int).toNat = j by omega]
    · rw [if_neg q, if_neg (by omega)]
  rw [e2] at X' step
  have hlt : b0 + b < H.size := (Array.getElem?_eq_some_iff.mp hc1).1
  have hheap : ((T.setVm vm').setCell (b0 + b) (vp_cell (Y 0) (7, .inl (fun j : Nat => iI (W b j))))).heap = H.setIfInBounds (b0 + b) (vp_cell (Y 0) (7, .inl (fun j : Nat => iI (W b j)))) := by rw [← hT]; rfl
  have oq : ∀ q : Nat, q ≠ b0 + b → (H.setIfInBounds (b0 + b) (vp_cell (Y 0) (7, .inl (fun j : Nat => iI (W b j)))))[q]? = H[q]? := fun q hq => by simp [Array.getElem?_setIfInBounds, Ne.symm hq]
  have hrV : RgV W := by
    intro c z
    by_cases q : c = b
    · subst q
      rw [wb]
      split
      · exact ⟨(tRF_Rg z).l, fun _ => tRF_Rg z⟩
      · exact g.2.2 c z
    · rw [wn c q]; exact g.2.2 c z
  have hG2 : GW b0 D Y n W R (H.setIfInBounds (b0 + b) (vp_cell (Y 0) (7, .inl (fun j : Nat => iI (W b j))))) := by
    refine g.upd b ?_ wn (fun _ _ => rfl) (by simp) oq hrV
    rw [htb]
    show _ = some _
    rw [Array.getElem?_setIfInBounds, if_pos rfl, if_pos hlt]
  obtain ⟨t, a1, b1⟩ := kk (H.setIfInBounds (b0 + b) (vp_cell (Y 0) (7, .inl (fun j : Nat => iI (W b j))))) _ ls hG2 ⟨by simp; exact hs.1, fun q p1 p2 => by
      rw [oq q (fun e => p2 (by rw [e]; exact aA_in))]
      exact hs.2.1 q p1 p2, fun q hq => by
      rcases List.mem_append.mp hq with h | h
      · exact hs.2.2 q h
      · obtain ⟨z, -, hz⟩ := List.mem_map.mp h
        rw [← hz]
        exact aA_in⟩ hl _ hheap X'
  exact ⟨t, step t a1, b1⟩
end XN3
