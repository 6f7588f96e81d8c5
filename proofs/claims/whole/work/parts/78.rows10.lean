/-! arrays of references, arrays of arrays, and a copy out of a static array -/
section XN4
variable {K : XS} {G : GS} {cells slots : Nat} {Q : State → Prop} {n : Nat} {V : Nat → Int → Int} {R : Nat → Int → Option Nat} {cc : ByteArray} {own : String} {nL : Nat} {ret : Option FieldType} {rm : Room} {pc : Nat} {lv lv' : List (Nat × Value)} {st stk : List Value} {ix : Nat}
theorem arrV_congr {c : ClassId} {N : Nat} {f g : Nat → Value} (h : ∀ j, j < N → f j = g j) : arrV c N f = arrV c N g := by
  have e : (Array.ofFn (n := N) fun j => f j.val) = Array.ofFn (n := N) fun j => g j.val := congrArg _ (funext fun j => h j.val j.isLt)
  unfold arrV
  rw [e]
theorem outV (c : ClassId) (N h0 : Nat) : ∀ i, Jvm.Free.Multi.outerC c N h0 i = arrV c N (fun j => if j < i then .ref (h0 + 1 + j) else .null)
  | 0 => by
    show ({ cls := c, slots := Array.replicate N .null, vm := .none } : Cell) = _
    rw [arrV_new]
    exact arrV_congr fun j _ => by rw [if_neg (by omega)]
  | i + 1 => by
    show (Jvm.Free.Multi.outerC c N h0 i).setSlot i (.ref (h0 + 1 + i)) = _
    rw [outV c N h0 i, arrV_store]
    refine arrV_congr fun j _ => ?_
    unfold updV
    by_cases q : j = i
    · rw [if_pos q, if_pos (by omega), q]
    · rw [if_neg q]
      show (if j < i then Value.ref (h0 + 1 + j) else .null) = _
      by_cases w : j < i
      · rw [if_pos w, if_pos (by omega)]
      · rw [if_neg w, if_neg (by omega)]
def mV (V : Nat → Int → Int) : Nat → Int → Int := fun c => if 59 < c ∧ c < 64 then fun _ => 0 else V c
theorem mV_n {V : Nat → Int → Int} {c : Nat} (h : ¬ (59 < c ∧ c < 64)) : mV V c = V c := if_neg h
theorem mV_s {V : Nat → Int → Int} {c : Nat} (h : 59 < c ∧ c < 64) : mV V c = fun _ => 0 := if_pos h
theorem x_newM (C : Cx K G cc own nL ret rm) (hn : n = 59) (hd : decode cc pc = .ok (.multianewarray ix 2, 4)) (hw : Cond.classLink own ix "[[J" ∈ BW) (harr : Cond.arrayClass .long ∈ BW) (hcells : cells + 5 ≤ rm.cells) (hslots : slots + 164 ≤ rm.slots)
    (kk : Xw K G (cells + 5) (slots + 164) Q 64 (mV V) (uC R 59 (fun z => some (60 + z.toNat))) (pc + 4) lv (.ref (aG G 59) :: st)) : Xw K G cells slots Q n V R pc lv (.int (iI 40) :: .int (iI 4) :: st) := by
  obtain ⟨p, e, Rm, s, m, args, below, meth, co⟩ := K
  obtain ⟨l, b0, D, Y⟩ := G
  obtain ⟨⟨hx, hb, hml, ho, hts⟩, hlk, hkx, hret, hRm⟩ := C
  subst hRm
  subst hn
  intro H locs ls g hs hl
  have r0 : Rg 0 := by constructor <;> decide
  have r4 : Rg 4 := by constructor <;> decide
  have r40 : Rg 40 := by constructor <;> decide
  have g1 : ¬ iI 4 < 0 := by rw [iI_0, iI_lt r4 r0]; omega
  have g3 : ¬ iI 40 < 0 := by rw [iI_0, iI_lt r40 r0]; omega
  have c1 : (iI 4).toNatClampNeg = 4 := iI_cl r4
  have c3 : (iI 40).toNatClampNeg = 40 := iI_cl r40
  intro T hT X
  obtain ⟨vm₁, cA, comp, hW, hfA, hfC, -, -, X1, step⟩ := X.multianewarray2K hx (ty := .long) ho (hts _ hw) hkx.ao.2 (hts _ harr) (g := F0 m pc ls (.int (iI 40) :: .int (iI 4) :: st)) rfl (by rw [hb]; exact hd) (n := iI 4) (k := iI 40) (rest := st) rfl g1 g3 (by rw [c1]; decide) (by rw [c3]; decide) (by rw [c3]; decide) (by rfl) (by rfl) (by rw [c1]; exact hcells) (by rw [c1, c3]; exact hslots)
  have hYA : cA = Y 4 := Option.some.inj (hfA.symm.trans (hkx.k.2 4 _ rfl).2)
  have hfY : s.vm.findClass ("[" ++ FieldType.long.toString) = some (Y 1) := (hkx.k.2 1 _ rfl).2
  have hYC : comp = Y 1 := Option.some.inj (hfC.symm.trans hfY)
  subst hYA
  subst hYC
  rw [c1, c3] at X1 step
  have hTz : (T.setVm vm₁).heap.size = b0 + 59 := by show T.heap.size = _; rw [hT, g.1]
  have hTz' : T.heap.size = b0 + 59 := hTz
  obtain ⟨f1, f2, -, -⟩ := Jvm.Free.Multi.fill_facts (T.setVm vm₁) (Y 4) (Y 1) 4 40 (defaultValue .long) 4
  have f3 := fun j hj => Jvm.Free.Multi.fill_inner (T.setVm vm₁) (Y 4) (Y 1) 4 40 (defaultValue .long) 4 j hj
  have f4 := fun (a : Nat) ha => Jvm.Free.Multi.fill_old (T.setVm vm₁) (Y 4) (Y 1) 4 40 (defaultValue .long) (a := a) ha 4
  generalize hF : Jvm.Free.Multi.fill (T.setVm vm₁) (Y 4) (Y 1) 4 40 (defaultValue .long) 4 = F at X1 step f1 f2 f3 f4
  rw [hTz] at f1 f2 f3 f4
  have hold : ∀ q : Nat, q < b0 + 59 → F.heap[q]? = H[q]? := fun q hq => (f4 q hq).trans (by show T.heap[q]? = _; rw [hT])
  have hin : ∀ j, j < 4 → F.heap[b0 + (60 + j)]? = some (arrV (Y 1) 40 (fun _ => .long (jI 0))) := by
    intro j hj
    have := f3 j hj
    rw [show b0 + 59 + 1 + j = b0 + (60 + j) by omega] at this
    rw [this]
    exact congrArg some (arrV_new _ _ _)
  have hG2 : GW b0 D Y 64 (mV V) (uC R 59 (fun z => some (60 + z.toNat))) F.heap := by
    refine ⟨by rw [f1], fun c hc => ?_, fun c z => ?_⟩
    · by_cases h : c < 59
      · rw [mV_n (by omega), uC_n (by omega)]
        exact (g.2.1 c h).kept (hold _ (by show b0 + c < _; omega))
      · by_cases h2 : c = 59
        · subst h2
          rw [mV_n (by omega), uC_s]
          show F.heap[b0 + 59]? = some (arrV (Y 4) 4 (fun j => va_rf ((some (60 + (j : Int).toNat)).map (fun x => b0 + x))))
          rw [f2]
          refine congrArg some ?_
          rw [outV]
          refine arrV_congr fun j hj => ?_
          rw [if_pos hj]
          show Value.ref (b0 + 59 + 1 + j) = Value.ref (b0 + (60 + j))
          rw [show b0 + 59 + 1 + j = b0 + (60 + j) by omega]
        · rw [mV_s (by omega), uC_n h2]
          have := hin (c - 60) (by omega)
          rw [show 60 + (c - 60) = c by omega] at this
          have ht : tb c = (21, 40) := by
            rcases (show c = 60 ∨ c = 61 ∨ c = 62 ∨ c = 63 by omega) with h | h | h | h <;> subst h <;> rfl
          rw [ht]
          exact this
    · by_cases h : 59 < c ∧ c < 64
      · rw [mV_s h]; show Rl 0 ∧ (_ → Rg 0); exact ⟨by constructor <;> decide, fun _ => by constructor <;> decide⟩
      · rw [mV_n h]; exact g.2.2 c z
  have hz : H.size = b0 + 59 := g.1
  rw [show cells + 1 + 4 = cells + 5 from rfl, show slots + 4 + 4 * 40 = slots + 164 from rfl, hTz'] at X1
  obtain ⟨t, a1, b1⟩ := kk F.heap _ ls hG2 ⟨by rw [f1]; have := hs.1; omega, fun q p1 p2 => (hold q (by have := hs.1; omega)).trans (hs.2.1 q p1 p2), fun q hq => by
      rcases List.mem_append.mp hq with h | h
      · exact hs.2.2 q h
      · obtain ⟨z, -, hz⟩ := List.mem_map.mp h
        rw [← hz]
        exact aA_in⟩ hl F rfl X1
  rw [hTz'] at step
  exact ⟨t, step t a1, b1⟩

end XN4
