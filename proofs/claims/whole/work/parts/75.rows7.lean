/-! new objects of the fixed classes, new arrays -/
section XN
variable {K : XS} {G : GS} {cells slots : Nat} {Q : State → Prop} {n : Nat} {V : Nat → Int → Int} {R : Nat → Int → Option Nat} {cc : ByteArray} {own : String} {nL : Nat} {ret : Option FieldType} {rm : Room} {pc : Nat} {lv lv' : List (Nat × Value)} {st stk : List Value} {ix : Nat}
theorem RgV.new {n : Nat} {V : Nat → Int → Int} (h : RgV V) : RgV (uC V n (fun _ => 0)) := by
  intro c z
  by_cases e : c = n
  · subst e; rw [uC_s]
    exact ⟨by constructor <;> decide, fun _ => by constructor <;> decide⟩
  · rw [uC_n e]; exact h c z
theorem va_S.grow {b0 n : Nat} {H0 H H1 : Heap} {locs : List Loc} (h : va_S (aA b0) H0 H locs) (hz : H.size = b0 + n) (z1 : H1.size = b0 + n + 1) (o1 : ∀ q, q < b0 + n → H1[q]? = H[q]?) : va_S (aA b0) H0 H1 locs :=
  ⟨by rw [z1]; have := h.1; omega, fun q h1 h2 => (o1 q (by have := h.1; omega)).trans (h.2.1 q h1 h2), h.2.2⟩
theorem x_newO {ci : Nat} {Cn : String} {T : u_T} {ty : Nat → FieldType} (C : Cx K G cc own nL ret rm) (hok : ClsOk ci Cn T ty) (hdf : ∀ j, j < nF ci → defaultValue (ty j) = if rF ci j = true then .null else .int 0) (hd : decode cc pc = .ok (.new ix, 3)) (htn : tb n = (ci, 0)) (hw : Cond.classLink own ix Cn ∈ BW) (hi : Cond.instantiable Cn (nF ci) ∈ BW) (hini : Cond.initialized Cn ∈ BW) (hcells : cells + 1 ≤ rm.cells) (hslots : slots + nF ci ≤ rm.slots)
    (kk : Xw K G (cells + 1) (slots + nF ci) Q (n + 1) (uC V n (fun _ => 0)) (uC R n (fun _ => none)) (pc + 3) lv (.ref (aG G n) :: st)) : Xw K G cells slots Q n V R pc lv st := by
  obtain ⟨p, e, Rm, s, m, args, below, meth, co⟩ := K
  obtain ⟨l, b0, D, Y⟩ := G
  obtain ⟨⟨hx, hb, hml, ho, hts⟩, hlk, hkx, hret, hRm⟩ := C
  subst hRm
  intro H locs ls g hs hl
  obtain ⟨h1, h2, h3, h4, h5, h6⟩ := hok
  have hKn := hkx.k.1 _ _ h1
  refine W.newcK hx hb ho (hts _ hw) (hts _ hi) (hts _ hini) rfl hd hcells hslots hKn.2.1 g.1 fun H1 kC hkC e1 z1 o1 => ?_
  have hg : GW b0 D Y (n + 1) (uC V n (fun _ => 0)) (uC R n (fun _ => none)) H1 := by
    refine g.push ?_ (fun d h => uC_n h) (fun d h => uC_n h) (by rw [z1, g.1]) (fun q h => o1 q (by rw [g.1] at h; exact h)) g.2.2.new
    rw [htn, uC_s, uC_s, h3]
    refine ⟨_, h1, (u_born ty hts h2 hKn hkC e1 h4).to fun j hj => ?_⟩
    rw [hdf j hj]
    show _ = (((List.range (nF ci)).map (fv b0 ci (fun _ => 0) (fun _ => none)))[j]?).getD .null
    rw [fv_get hj]
    show _ = fv b0 ci (fun _ => 0) (fun _ => none) j
    unfold fv
    split <;> rfl
  exact kk H1 locs ls hg (hs.grow g.1 z1 o1) hl
theorem x_newI (C : Cx K G cc own nL ret rm) {N : Nat} {z : Int} (hz : z = N) (hN : N ≤ 2000) (hd : decode cc pc = .ok (.newarray .int, 2)) (htn : tb n = (20, N)) (harr : Cond.arrayClass .int ∈ BW) (hcells : cells + 1 ≤ rm.cells) (hslots : slots + N ≤ rm.slots)
    (kk : Xw K G (cells + 1) (slots + N) Q (n + 1) (uC V n (fun _ => 0)) R (pc + 2) lv (.ref (aG G n) :: st)) : Xw K G cells slots Q n V R pc lv (.int (iI z) :: st) := by
  obtain ⟨p, e, Rm, s, m, args, below, meth, co⟩ := K
  obtain ⟨l, b0, D, Y⟩ := G
  obtain ⟨⟨hx, hb, hml, ho, hts⟩, hlk, hkx, hret, hRm⟩ := C
  subst hRm
  intro H locs ls g hs hl
  have hr : Rg z := ⟨by omega, by omega⟩
  have h0 : ¬ iI z < 0 := by rw [iI_0, iI_lt hr ⟨by omega, by omega⟩]; omega
  refine va_newaK hx hb (atype := .int) (hts _ harr) rfl hd rfl h0 (N := N) (by rw [iI_cl hr]; omega) (by show N * 4 ≤ 536870912; omega) hcells hslots g.1 fun H1 cA e1 z1 o1 hT hfc => ?_
  have hY : cA = Y 0 := Option.some.inj (hfc.symm.trans (hkx.k.2 0 _ rfl).2)
  subst hY
  have hg : GW b0 D Y (n + 1) (uC V n (fun _ => 0)) R H1 := by
    refine g.push ?_ (fun d h => uC_n h) (fun _ _ => rfl) (by rw [z1, g.1]) (fun q h => o1 q (by rw [g.1] at h; exact h)) g.2.2.new
    rw [htn, uC_s]
    exact e1
  exact kk H1 locs ls hg (hs.grow g.1 z1 o1) hl
theorem x_newL (C : Cx K G cc own nL ret rm) {N : Nat} {z : Int} (hz : z = N) (hN : N ≤ 2000) (hd : decode cc pc = .ok (.newarray .long, 2)) (htn : tb n = (21, N)) (harr : Cond.arrayClass .long ∈ BW) (hcells : cells + 1 ≤ rm.cells) (hslots : slots + N ≤ rm.slots)
    (kk : Xw K G (cells + 1) (slots + N) Q (n + 1) (uC V n (fun _ => 0)) R (pc + 2) lv (.ref (aG G n) :: st)) : Xw K G cells slots Q n V R pc lv (.int (iI z) :: st) := by
  obtain ⟨p, e, Rm, s, m, args, below, meth, co⟩ := K
  obtain ⟨l, b0, D, Y⟩ := G
  obtain ⟨⟨hx, hb, hml, ho, hts⟩, hlk, hkx, hret, hRm⟩ := C
  subst hRm
  intro H locs ls g hs hl
  have hr : Rg z := ⟨by omega, by omega⟩
  have h0 : ¬ iI z < 0 := by rw [iI_0, iI_lt hr ⟨by omega, by omega⟩]; omega
  refine va_newaK hx hb (atype := .long) (hts _ harr) rfl hd rfl h0 (N := N) (by rw [iI_cl hr]; omega) (by show N * 8 ≤ 536870912; omega) hcells hslots g.1 fun H1 cA e1 z1 o1 hT hfc => ?_
  have hY : cA = Y 1 := Option.some.inj (hfc.symm.trans (hkx.k.2 1 _ rfl).2)
  subst hY
  have hg : GW b0 D Y (n + 1) (uC V n (fun _ => 0)) R H1 := by
    refine g.push ?_ (fun d h => uC_n h) (fun _ _ => rfl) (by rw [z1, g.1]) (fun q h => o1 q (by rw [g.1] at h; exact h)) g.2.2.new
    rw [htn, uC_s]
    exact e1
  exact kk H1 locs ls hg (hs.grow g.1 z1 o1) hl
theorem x_newZ (C : Cx K G cc own nL ret rm) {N : Nat} {z : Int} (hz : z = N) (hN : N ≤ 2000) (hd : decode cc pc = .ok (.newarray .boolean, 2)) (htn : tb n = (22, N)) (harr : Cond.arrayClass .boolean ∈ BW) (hcells : cells + 1 ≤ rm.cells) (hslots : slots + N ≤ rm.slots)
    (kk : Xw K G (cells + 1) (slots + N) Q (n + 1) (uC V n (fun _ => 0)) R (pc + 2) lv (.ref (aG G n) :: st)) : Xw K G cells slots Q n V R pc lv (.int (iI z) :: st) := by
  obtain ⟨p, e, Rm, s, m, args, below, meth, co⟩ := K
  obtain ⟨l, b0, D, Y⟩ := G
  obtain ⟨⟨hx, hb, hml, ho, hts⟩, hlk, hkx, hret, hRm⟩ := C
  subst hRm
  intro H locs ls g hs hl
  have hr : Rg z := ⟨by omega, by omega⟩
  have h0 : ¬ iI z < 0 := by rw [iI_0, iI_lt hr ⟨by omega, by omega⟩]; omega
  refine va_newaK hx hb (atype := .boolean) (hts _ harr) rfl hd rfl h0 (N := N) (by rw [iI_cl hr]; omega) (by show N * 1 ≤ 536870912; omega) hcells hslots g.1 fun H1 cA e1 z1 o1 hT hfc => ?_
  have hY : cA = Y 2 := Option.some.inj (hfc.symm.trans (hkx.k.2 2 _ rfl).2)
  subst hY
  have hg : GW b0 D Y (n + 1) (uC V n (fun _ => 0)) R H1 := by
    refine g.push ?_ (fun d h => uC_n h) (fun _ _ => rfl) (by rw [z1, g.1]) (fun q h => o1 q (by rw [g.1] at h; exact h)) g.2.2.new
    rw [htn, uC_s]
    exact e1
  exact kk H1 locs ls hg (hs.grow g.1 z1 o1) hl
end XN
