/-! arrays of references, arrays of arrays, and a copy out of a static array -/
section XN2
variable {K : XS} {G : GS} {cells slots : Nat} {Q : State → Prop} {n : Nat} {V : Nat → Int → Int} {R : Nat → Int → Option Nat} {cc : ByteArray} {own : String} {nL : Nat} {ret : Option FieldType} {rm : Room} {pc : Nat} {lv lv' : List (Nat × Value)} {st stk : List Value} {ix : Nat}
theorem x_newR (C : Cx K G cc own nL ret rm) {z : Int} (hz : z = 8) (hd : decode cc pc = .ok (.anewarray ix, 3)) (htn : tb n = (23, 8)) (hw : Cond.classLink own ix "LogSawyer$Fault" ∈ BW) (hcells : cells + 1 ≤ rm.cells) (hslots : slots + 8 ≤ rm.slots)
    (kk : Xw K G (cells + 1) (slots + 8) Q (n + 1) V (uC R n (fun _ => none)) (pc + 3) lv (.ref (aG G n) :: st)) : Xw K G cells slots Q n V R pc lv (.int (iI z) :: st) := by
  obtain ⟨p, e, Rm, s, m, args, below, meth, co⟩ := K
  obtain ⟨l, b0, D, Y⟩ := G
  obtain ⟨⟨hx, hb, hml, ho, hts⟩, hlk, hkx, hret, hRm⟩ := C
  subst hRm
  subst hz
  intro H locs ls g hs hl
  have h8 : (iI 8).toNatClampNeg = 8 := by rw [iI_cl (by constructor <;> decide)]; rfl
  have h0 : ¬ iI 8 < 0 := by rw [iI_0, iI_lt (by constructor <;> decide) (by constructor <;> decide)]; omega
  refine W.anew hx hb ho (hts _ hw) (va_AO.use hkx.ao.1) rfl hd rfl h0 (by rw [h8]; decide) hcells (by rw [h8]; exact hslots) fun cA kA comp f1 f2 f3 f4 => ?_
  generalize hH1 : H.push ({ cls := cA, slots := Array.replicate (iI 8).toNatClampNeg .null, vm := .none } : Cell) = H1
  rw [h8] at hH1 ⊢
  have z1 : H1.size = b0 + n + 1 := by rw [← hH1, Array.size_push, g.1]
  have e1 : H1[b0 + n]? = some (arrV cA 8 (fun _ => .null)) := by rw [← hH1, ← g.1, Array.getElem?_push_size, ← arrV_new]
  have o1 : ∀ q : Nat, q < b0 + n → H1[q]? = H[q]? := fun q hq => by rw [← hH1, Array.getElem?_push, if_neg (by rw [g.1]; exact Nat.ne_of_lt hq)]
  have hY : cA = Y 3 := by
    obtain ⟨-, -, -, -, -, h4⟩ := (hkx.k.2 3 _ rfl).2
    exact Option.some.inj (f1.symm.trans h4)
  subst hY
  have hg : GW b0 D Y (n + 1) V (uC R n (fun _ => none)) H1 := by
    refine g.push ?_ (fun _ _ => rfl) (fun d h => uC_n h) (by rw [z1, g.1]) (fun q h => o1 q (by rw [g.1] at h; exact h)) g.2.2
    rw [htn, uC_s]
    exact e1
  have h := kk H1 locs ls hg (hs.grow g.1 z1 o1) hl
  rw [g.1]
  exact h
end XN2
