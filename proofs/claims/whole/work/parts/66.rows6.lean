/-! the string LETTERS, its bytes; the class String's flag -/
def tLT : List Int := [107, 108, 115, 104, 114, 111, 116]
/-- a byte of an int -/
def sB (c : Int) : Int := (iI c).toInt8.toInt32.toInt
theorem sB_c {c : Int} (h : 0 ≤ c ∧ c ≤ 255) : sB c = if c < 128 then c else c - 256 := by
  obtain ⟨k, rfl⟩ : ∃ k : Nat, c = k := ⟨c.toNat, by omega⟩
  have e : ∀ k : Fin 256, sB ((k.val : Nat) : Int) = if ((k.val : Nat) : Int) < 128 then ((k.val : Nat) : Int) else ((k.val : Nat) : Int) - 256 := by decide +kernel
  exact e ⟨k, by omega⟩
theorem Kx.str {b0 : Nat} {D : va_G} {Y : Nat → Nat} {U : State} {H : Heap} (h : Kx b0 D Y U H) : vk_R "LogSawyer" 126 "klshrot" (Y 9) U ∧ vk_S 1 [7] [[107, 108, 115, 104, 114, 111, 116]] (fun _ => Y 9) (fun _ => Y 10) (aA b0) U H ∧ va_Z "java/lang/String" "COMPACT_STRINGS" "Z" (.int 1) (aA b0) U H := by
  obtain ⟨h0, h1, h2, h3, h4, h5, h6, h7, h8⟩ := h
  exact ⟨h6, h7, h8⟩
section XG
variable {K : XS} {G : GS} {cells slots : Nat} {Q : State → Prop} {n : Nat} {V : Nat → Int → Int} {R : Nat → Int → Option Nat} {cc : ByteArray} {own : String} {nL : Nat} {ret : Option FieldType} {rm : Room} {pc : Nat} {lv lv' : List (Nat × Value)} {st stk : List Value} {post : Option Value → Mem → Prop} {mc ms : Nat}
variable {y : MethodName} {cc' : ByteArray} {maxL nA ix : Nat} {ret' : Option FieldType} {rm' : Room} {av : List Value}
theorem x_ldcS (C : Cx K G cc own nL ret rm) (hown : own = "LogSawyer") (hd : decode cc pc = .ok (.ldc 126, 2)) (kk : Xw K G cells slots Q n V R (pc + 2) lv (.ref (yG G 9) :: st)) : Xw K G cells slots Q n V R pc lv st := by
  obtain ⟨p, e, Rm, s, m, args, below, meth, co⟩ := K
  obtain ⟨l, b0, D, Y⟩ := G
  obtain ⟨⟨hx, hb, hml, ho, hts⟩, hlk, hkx, hret, hRm⟩ := C
  intro H locs ls g hs hl
  subst hown
  exact va_ldcS hx hb ho hkx.str.1 hd (kk H locs ls g hs hl)
theorem x_strv (C : Cx K G cc own nL ret rm) {ref : String} (hd : decode cc pc = .ok (.getfield ix, 3)) (hw : Cond.fieldLink own ix ref "value" "[B" ∈ BW) (hr : ref = "java/lang/String") (kk : Xw K G cells slots Q n V R (pc + 3) lv (.ref (yG G 10) :: st)) : Xw K G cells slots Q n V R pc lv (.ref (yG G 9) :: st) := by
  obtain ⟨p, e, Rm, s, m, args, below, meth, co⟩ := K
  obtain ⟨l, b0, D, Y⟩ := G
  obtain ⟨⟨hx, hb, hml, ho, hts⟩, hlk, hkx, hret, hRm⟩ := C
  intro H locs ls g hs hl
  subst hr
  exact vk_getf hx hb (hkx.str.2.1.1 0 (by decide)).2.2.1 hs ho (hts _ hw) (fun _ h => h) hd (kk H locs ls g hs hl)
theorem x_strc (C : Cx K G cc own nL ret rm) {ref : String} (hd : decode cc pc = .ok (.getfield ix, 3)) (hw : Cond.fieldLink own ix ref "coder" "B" ∈ BW) (hr : ref = "java/lang/String") (kk : Xw K G cells slots Q n V R (pc + 3) lv (.int (iI 0) :: st)) : Xw K G cells slots Q n V R pc lv (.ref (yG G 9) :: st) := by
  obtain ⟨p, e, Rm, s, m, args, below, meth, co⟩ := K
  obtain ⟨l, b0, D, Y⟩ := G
  obtain ⟨⟨hx, hb, hml, ho, hts⟩, hlk, hkx, hret, hRm⟩ := C
  intro H locs ls g hs hl
  subst hr
  refine vk_getf hx hb (hkx.str.2.1.1 0 (by decide)).2.1 hs ho (hts _ hw) (fun _ h => h) hd ?_
  rw [iI_0]
  exact kk H locs ls g hs hl
theorem x_getsZ (C : Cx K G cc own nL ret rm) {ref : String} (hd : decode cc pc = .ok (.getstatic ix, 3)) (hw : Cond.fieldLink own ix ref "COMPACT_STRINGS" "Z" ∈ BW) (hr : ref = "java/lang/String") (kk : Xw K G cells slots Q n V R (pc + 3) lv (.int (iI 1) :: st)) : Xw K G cells slots Q n V R pc lv st := by
  obtain ⟨p, e, Rm, s, m, args, below, meth, co⟩ := K
  obtain ⟨l, b0, D, Y⟩ := G
  obtain ⟨⟨hx, hb, hml, ho, hts⟩, hlk, hkx, hret, hRm⟩ := C
  intro H locs ls g hs hl
  subst hr
  refine va_gets hx hb hkx.str.2.2 hs ho (hts _ hw) (fun _ h => h) hd ?_
  rw [iI_1]
  exact kk H locs ls g hs hl
theorem x_blen (C : Cx K G cc own nL ret rm) (hd : decode cc pc = .ok (.arraylength, 1)) (kk : Xw K G cells slots Q n V R (pc + 1) lv (.int (iI 7) :: st)) : Xw K G cells slots Q n V R pc lv (.ref (yG G 10) :: st) := by
  obtain ⟨p, e, Rm, s, m, args, below, meth, co⟩ := K
  obtain ⟨l, b0, D, Y⟩ := G
  obtain ⟨⟨hx, hb, hml, ho, hts⟩, hlk, hkx, hret, hRm⟩ := C
  intro H locs ls g hs hl
  exact va_tlen hx hb (hkx.str.2.1.1 0 (by decide)).2.2.2 hs (iI_ofNat 7) hd (kk H locs ls g hs hl)
theorem x_bald (C : Cx K G cc own nL ret rm) {z : Int} (hd : decode cc pc = .ok (.baload, 1)) (hz : 0 ≤ z ∧ z < 7) (kk : Xw K G cells slots Q n V R (pc + 1) lv (.int (iI (tat tLT z)) :: st)) : Xw K G cells slots Q n V R pc lv (.int (iI z) :: .ref (yG G 10) :: st) := by
  obtain ⟨p, e, Rm, s, m, args, below, meth, co⟩ := K
  obtain ⟨l, b0, D, Y⟩ := G
  obtain ⟨⟨hx, hb, hml, ho, hts⟩, hlk, hkx, hret, hRm⟩ := C
  intro H locs ls g hs hl
  have hr : Rg z := ⟨by omega, by omega⟩
  refine va_tb hx hb (hkx.str.2.1.1 0 (by decide)).2.2.2 hs (iI_in (n := 7) hz (by omega)) ?_ hd (kk H locs ls g hs hl)
  rw [iI_cl hr]
  have e : ∀ k : Fin 7, (([[107, 108, 115, 104, 114, 111, 116]] : List (List Int32)).getD 0 []).getD k.val 0 = iI (tat tLT (k.val : Nat)) := by decide +kernel
  obtain ⟨k, rfl⟩ : ∃ k : Nat, z = k := ⟨z.toNat, by omega⟩
  have e2 := e ⟨k, by omega⟩
  rw [Int.toNat_natCast]
  exact congrArg Value.int e2
theorem x_i2b (C : Cx K G cc own nL ret rm) {a : Int} (hd : decode cc pc = .ok (.i2b, 1)) (kk : Xw K G cells slots Q n V R (pc + 1) lv (.int (iI (sB a)) :: st)) : Xw K G cells slots Q n V R pc lv (.int (iI a) :: st) := by
  obtain ⟨p, e, Rm, s, m, args, below, meth, co⟩ := K
  obtain ⟨l, b0, D, Y⟩ := G
  obtain ⟨⟨hx, hb, hml, ho, hts⟩, hlk, hkx, hret, hRm⟩ := C
  intro H locs ls g hs hl
  exact lv_i2b hx hb hd (iI_self _).symm (kk H locs ls g hs hl)
/-- a call on the string -/
theorem r_callT {As : List Value} (C : Cx K G cc own nL ret rm) (hce : CeOk y cc' maxL ret' nA) (hM : Cn G y cc' maxL ret' rm' av n V R mc ms post) (hav : av = .ref (yG G 9) :: As) (hd : decode cc pc = .ok (.invokevirtual ix, 3)) (hw : Cond.methodLink own ix y ∈ BW) (hin : Cond.instanceMethod y ∈ BW) (hsel : Cond.selects "java/lang/String" y y ∈ BW) (hlen : As.length = nA) (hstk : stk = As.reverse ++ .ref (yG G 9) :: st) (hR : rm'.frames + 1 ≤ rm.frames ∧ 8 + (maxL + 11) + rm'.locals ≤ rm.locals) (hrc : rm'.cells = mc ∧ rm'.slots = ms) (hf : cells + mc ≤ rm.cells ∧ slots + ms ≤ rm.slots) (hst8 : (st.map fun v => v.category).sum ≤ 8) : XRun K G cells slots n V R pc lv stk st mc ms post := by
  obtain ⟨p, e, Rm, s, m, args, below, meth, co⟩ := K
  obtain ⟨l, b0, D, Y⟩ := G
  obtain ⟨⟨hx, hb, hml, ho, hts⟩, hlk, hkx, hret, hRm⟩ := C
  subst hRm
  intro H locs ls g hs hl
  subst hstk
  subst hav
  intro T hT X
  obtain ⟨v, st₀, t, T', L, h0, X', hL, e1, e2, hq, st⟩ := va_runV (As := As) (rest := st) (b := Y 9) (C := "java/lang/String") (g := F0 m pc ls (As.reverse ++ .ref (Y 9) :: st)) ⟨hx, hb, hml, ho, hts⟩ hM ⟨(callB_of nA hts (BW_code hce.1) rfl hrc.1 hrc.2 (hts _ hce.2.1) (hts _ hw) hce.2.2 hR), hts _ hin, hts _ hsel⟩ ⟨fr_blind, vk_recv (i := 0) hkx.str.2.1 (by decide) hs, fr_pre hkx g hs⟩ rfl hlen (by rw [← hml]; exact hl.1) rfl (lv_room hst8) hd hf T hT X
  exact ⟨v, st₀, t, T', L, h0, X', hL, e1, e2, hq, st⟩
theorem x_bret (C : Cx K G cc own nL (some .byte) rm) {a : Int} (ha : a = 0 ∨ a = 1) (hd : decode cc pc = .ok (.ireturn, 1)) (h : post (some (.int (iI a))) (n, V, R)) : Xw K G cells slots (EndQ K G cells slots post) n V R pc lv [.int (iI a)] := by
  obtain ⟨p, e, Rm, s, m, args, below, meth, co⟩ := K
  obtain ⟨l, b0, D, Y⟩ := G
  obtain ⟨⟨hx, hb, hml, ho, hts⟩, hlk, hkx, hret, hRm⟩ := C
  intro H locs ls g hs hl
  exact W.zret hx hb hret (by rcases ha with q | q <;> subst q <;> decide) (fun t ht2 hW => ⟨⟨_, (n, V, R), rfl, h, by rw [ht2]; exact g⟩, hs.F ht2⟩) hs.2.2 hd (hlocks := hlk)
end XG
