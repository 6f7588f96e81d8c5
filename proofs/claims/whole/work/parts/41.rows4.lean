/-! more rows: virtual calls on faults with one end, super.lasts(), instanceof, new faults, their fields -/
section XD
variable {K : XS} {G : GS} {cells slots : Nat} {Q : State → Prop} {n : Nat} {V : Nat → Int → Int} {R : Nat → Int → Option Nat} {cc : ByteArray} {own : String} {nL : Nat} {ret : Option FieldType} {rm : Room} {pc : Nat} {lv lv' : List (Nat × Value)} {st stk : List Value} {post post' : Option Value → Mem → Prop} {mc ms : Nat}
variable {y : MethodName} {cc' : ByteArray} {maxL nA ix : Nat} {ret' : Option FieldType} {rm' : Room} {av : List Value}
theorem XRun.mono (h : XRun K G cells slots n V R pc lv stk st mc ms post) (i : ∀ v u, post v u → post' v u) : XRun K G cells slots n V R pc lv stk st mc ms post' := by
  obtain ⟨p, e, Rm, s, m, args, below, meth, co⟩ := K
  obtain ⟨l, b0, D, Y⟩ := G
  intro H locs ls g hs hl T hT X
  obtain ⟨v, st₀, t, T', L, h0, X', hL, e1, e2, ⟨⟨v2, u, hv, hp, hb⟩, hz⟩, st⟩ := h H locs ls g hs hl T hT X
  exact ⟨v, st₀, t, T', L, h0, X', hL, e1, e2, ⟨⟨v2, u, hv, i _ _ hp, hb⟩, hz⟩, st⟩
theorem vkcl_ex (z : Int) : ∃ r, vwCl[kcl z]? = some r := by obtain ⟨Cn, T, ty, h, _⟩ := kcl_ok z; exact ⟨_, h⟩
theorem castSelf {C : String} {c : ClassId} {s : State} (h : s.vm.findClass C = some c) : va_Nw (.castable C C) s := by
  have e : s.vm.assignable c c = true := by
    show s.vm.assignableAux (255 + 1) c c = true
    rw [Vm.assignableAux]
    simp only [beq_self_eq_true, Bool.true_or]
  show (Cond.castable C C).before #[] s = true
  simp [Cond.before, Cond.holds, Cond.value, h, e]
theorem x_instY {r : vw_C} {nm : String} (C : Cx K G cc own nL ret rm) (c : Nat) (hc : c < n) (ht : tb c = (99, 0)) (hr : vwCl[kcl (V c 3)]? = some r) (hd : decode cc pc = .ok (.instanceof ix, 3)) (hw : Cond.classLink own ix nm ∈ BW) (hy : Cond.castable r.1 nm ∈ nwL ∨ r.1 = nm)
    (kk : Xw K G cells slots Q n V R (pc + 3) lv (.int (iI 1) :: st)) : Xw K G cells slots Q n V R pc lv (.ref (aG G c) :: st) := by
  obtain ⟨p, e, Rm, s, m, args, below, meth, co⟩ := K
  obtain ⟨l, b0, D, Y⟩ := G
  obtain ⟨⟨hx, hb, hml, ho, hts⟩, hlk, hkx, hret, hRm⟩ := C
  intro H locs ls g hs hl
  have hcst : va_Nw (.castable r.1 nm) s := by
    rcases hy with h | h
    · exact hkx.nw _ h
    · rw [← h]; exact castSelf (hkx.k.1 _ r hr).2.1
  exact va_instY hx hb ho (hts _ hw) hcst (recvF hkx.k g hc ht hr) hd (kk H locs ls g hs hl)
theorem x_instN {r : vw_C} {nm : String} (C : Cx K G cc own nL ret rm) (c : Nat) (hc : c < n) (ht : tb c = (99, 0)) (hr : vwCl[kcl (V c 3)]? = some r) (hd : decode cc pc = .ok (.instanceof ix, 3)) (hw : Cond.classLink own ix nm ∈ BW) (hy : (r.1, nm) ∈ ncL)
    (kk : Xw K G cells slots Q n V R (pc + 3) lv (.int (iI 0) :: st)) : Xw K G cells slots Q n V R pc lv (.ref (aG G c) :: st) := by
  obtain ⟨p, e, Rm, s, m, args, below, meth, co⟩ := K
  obtain ⟨l, b0, D, Y⟩ := G
  obtain ⟨⟨hx, hb, hml, ho, hts⟩, hlk, hkx, hret, hRm⟩ := C
  intro H locs ls g hs hl
  exact va_instNo hx hb ho (hts _ hw) (hkx.nc _ hy) (recvF hkx.k g hc ht hr) hd (kk H locs ls g hs hl)
/-- super.lasts() of a Spike: the Knot's -/
theorem r_callSL {r : vw_C} {As : List Value} (C : Cx K G cc RX8 nL ret rm) (c : Nat) (hc : c < n) (ht : tb c = (99, 0)) (hr : vwCl[kcl (V c 3)]? = some r) (hce : CeOk yX1_lasts cc' maxL ret' nA) (hM : Cn G yX1_lasts cc' maxL ret' rm' av n V R mc ms post) (hav : av = .ref (aG G c) :: As) (hd : decode cc pc = .ok (.invokespecial 7, 3)) (hsup : Cond.superclass RX2 RX1 ∈ BW) (hin : Cond.instanceMethod yX1_lasts ∈ BW) (hlen : As.length = nA) (hstk : stk = As.reverse ++ .ref (aG G c) :: st) (hR : rm'.frames + 1 ≤ rm.frames ∧ 8 + (maxL + 11) + rm'.locals ≤ rm.locals) (hrc : rm'.cells = mc ∧ rm'.slots = ms) (hf : cells + mc ≤ rm.cells ∧ slots + ms ≤ rm.slots) (hst8 : (st.map fun v => v.category).sum ≤ 8) : XRun K G cells slots n V R pc lv stk st mc ms post := by
  obtain ⟨p, e, Rm, s, m, args, below, meth, co⟩ := K
  obtain ⟨l, b0, D, Y⟩ := G
  obtain ⟨⟨hx, hb, hml, ho, hts⟩, hlk, hkx, hret, hRm⟩ := C
  subst hRm
  intro H locs ls g hs hl
  subst hstk
  subst hav
  have hl1 : (Cond.methodLink RX8 7 ⟨RX2, "lasts", "(I)I"⟩).before args s = true := va_Nw.use rfl (hkx.ns _ (List.mem_of_getElem? (i := 0) rfl))
  have hl2 : (Cond.sameMethod RX2 RX1 "lasts" "(I)I").before args s = true := va_Nw.use rfl (hkx.ns _ (List.mem_of_getElem? (i := 1) rfl))
  have hl3 : (Cond.superclass RX8 RX2).before args s = true := va_Nw.use rfl (hkx.ns _ (List.mem_of_getElem? (i := 2) rfl))
  have hcode := hts _ hce.1
  have hini := hts _ hce.2.1
  have hK : Back l _ p e below s args yX1_lasts 3 8 (PreOf _ mc ms _) (PostOf _ mc ms _) := back_of (bytes := cc') (maxL := maxL) (ret := ret') hM fr_blind hrc.1 hrc.2 hR.1 hR.2 (pay_in hts (BW_code hce.1)) List.mem_cons_self (fun a' U hW => word_at hW (Or.inl (by first | rfl | simp [Cond.onTables, Cond.keeps, Cond.steady])) hini)
  obtain ⟨cellB, hcB, hoB, hclB⟩ := recvF hkx.k g hc ht hr
  obtain ⟨hfc, kB, hkB, -⟩ := (hkx.k.1 _ r hr).2
  rw [Option.some.inj (hfc.symm.trans hclB)] at hkB
  obtain ⟨mk, methM, hnamed, hmethM, hstM, habM⟩ := Cond.instanceMethod_spec (hts _ hin)
  obtain ⟨methM', cM, hmethM', -, -, -, -, -, -, hsigM⟩ := Cond.code_spec hnamed hcode
  cases hmethM.symm.trans hmethM'
  obtain ⟨ps, dk, kp, hps, hdk, hkp, hsuper, -, -, hnid⟩ := Cond.superclass_spec ho hl3
  obtain ⟨p2, dk2, kp2, hps2, hdk2, hkp2, hsuper2, -, -, -⟩ := Cond.superclass_spec hps (hts _ hsup)
  have hn : s.methodNamed? ⟨RX1, "lasts", "(I)I"⟩ = some mk := hnamed
  have hpm : p2 = mk.cls := Option.some.inj (hps2.symm.trans (findClass_of_methodNamed hnamed))
  have hsub : s.vm.isSubclass ps mk.cls = true := by
    obtain ⟨z, hz⟩ : ∃ z, s.vm.classes.size = z + 1 := ⟨s.vm.classes.size - 1, by have := (Array.getElem?_eq_some_iff.mp hdk2).1; omega⟩
    rw [← hpm]
    simp [Vm.isSubclass, Vm.isSubclassAux, hz, hdk2, hsuper2]
  intro T hT X
  obtain ⟨vm₁, X₁, hstep₁⟩ := X.invokespecialUp hx ho hl1 hl2 hn hmethM hstM habM (by decide) hdk hnid hps hsuper hsub (a := b0 + c) (cell := cellB) (by rw [hT]; exact hcB)
    (fun z h => by rw [h] at hoB; cases hoB) hkB (g := F0 m pc ls (As.reverse ++ .ref (b0 + c) :: st)) rfl (argsL := As) (rest := st) (hlen.trans (by have h2 := hce.2.2.2.2; rw [hsigM] at h2; exact (Option.some.inj h2).symm)) rfl (by rw [hb]; exact hd)
  obtain ⟨v, B, X', hpost, hsteps⟩ := hK m meth co ⟨T.setVm vm₁, locs, cells, slots⟩ { F0 m pc ls st with stack := st } (.invokespecial 7) mk (Value.ref (b0 + c) :: As).toArray X₁ rfl (by exact hl.1) (by rw [hb]; exact hd) (lv_room hst8) (X₁.named hnamed) ⟨hf.1, hf.2, fr_pre hkx g hs (T.setVm vm₁) hT X₁.warmed⟩
  obtain ⟨U', l2, c2, s2⟩ := B
  obtain ⟨g', mk', t, L, e1, e2, hq, h1, hL, h2, h3⟩ := hpost
  dsimp only [Pt.U, Pt.locs, Pt.cells, Pt.slots] at X' e1 e2 h1 h2 h3 hsteps
  subst h1; subst h2; subst h3
  exact ⟨v, (T.setVm vm₁).calling g' mk' (Value.ref (b0 + c) :: As).toArray, t, U', L, hT, X', hL, e1, e2, hq, fun target h => hstep₁ _ (by rw [doInvoke_state]; exact hsteps.trans h)⟩
/-- a new fault -/
theorem x_newF {k : Int} {Cn : String} {T : u_T} {ty : Nat → FieldType} (C : Cx K G cc own nL ret rm) (hk : 0 ≤ k ∧ k ≤ 6) (hcl : vwCl[kcl k]? = some (Cn, T, 3)) (hin : ∀ w ∈ u_ws Cn T 3, w ∈ BW) (hty : ∀ j, j < 3 → parseFieldDescriptor (T j).2.2.1 = some (ty j)) (hint : ∀ j, j < 3 → defaultValue (ty j) = .int 0) (hd : decode cc pc = .ok (.new ix, 3)) (hw : Cond.classLink own ix Cn ∈ BW) (hi : Cond.instantiable Cn 3 ∈ BW) (hini : Cond.initialized Cn ∈ BW) (h67 : 67 ≤ n) (hcells : cells + 1 ≤ rm.cells) (hslots : slots + 3 ≤ rm.slots)
    (kk : Xw K G (cells + 1) (slots + 3) Q (n + 1) (uC V n (fun z => if z = 3 then k else 0)) R (pc + 3) lv (.ref (aG G n) :: st)) : Xw K G cells slots Q n V R pc lv st := by
  obtain ⟨p, e, Rm, s, m, args, below, meth, co⟩ := K
  obtain ⟨l, b0, D, Y⟩ := G
  obtain ⟨⟨hx, hb, hml, ho, hts⟩, hlk, hkx, hret, hRm⟩ := C
  subst hRm
  intro H locs ls g hs hl
  have hKn := hkx.k.1 _ _ hcl
  refine W.newcK hx hb ho (hts _ hw) (hts _ hi) (hts _ hini) rfl hd hcells hslots hKn.2.1 g.1 fun H1 kC hkC e1 z1 o1 => ?_
  have htn : tb n = (99, 0) := tb_dyn h67
  have hg : GW b0 D Y (n + 1) (uC V n (fun z => if z = 3 then k else 0)) R H1 := by
    refine g.push ?_ (fun d h => uC_n h) (fun _ _ => rfl) (by rw [z1, g.1]) (fun q h => o1 q (by rw [g.1] at h; exact h)) ?_
    · rw [htn, uC_s]
      show va_at D vwCl (b0 + n, .inr (kcl (if (3 : Int) = 3 then k else 0), [.int (iI (if (0 : Int) = 3 then k else 0)), .int (iI (if (1 : Int) = 3 then k else 0)), .int (iI (if (2 : Int) = 3 then k else 0))])) H1
      rw [if_pos rfl, if_neg (by decide), if_neg (by decide), if_neg (by decide)]
      refine ⟨_, hcl, (u_born ty hts hin hKn hkC e1 hty).to fun j hj => ?_⟩
      rw [hint j hj]
      match j, hj with
      | 0, _ => rfl
      | 1, _ => rfl
      | 2, _ => rfl
    · intro c z
      by_cases h : c = n
      · subst h
        rw [uC_s]
        show Rl (if z = 3 then k else 0) ∧ (_ → Rg (if z = 3 then k else 0))
        have : Rg (if z = 3 then k else 0) := by split <;> constructor <;> omega
        exact ⟨this.l, fun _ => this⟩
      · rw [uC_n h]; exact g.2.2 c z
  have hh := kk H1 locs ls hg ⟨by rw [z1]; have := hs.1; rw [g.1] at this; omega, fun q h1 h2 => (o1 q (by have := hs.1; rw [g.1] at this; omega)).trans (hs.2.1 q h1 h2), hs.2.2⟩ hl
  exact hh
/-- a fault's field, set in its constructor -/
theorem x_putF (C : Cx K G cc own nL ret rm) (hct : CtorK K) (hown0 : own = RX0) (c k : Nat) {ix : Nat} {ref : String} {a : Int} (hd : decode cc pc = .ok (.putfield ix, 3)) (hc : c < n) (ht : tb c = (99, 0)) (hk : k < 3) (hw : Cond.fieldLink own ix ref (TX1 k).2.1 (TX1 k).2.2.1 ∈ BW) (hsame : ref = (TX1 k).1) (ha : Rg a) {kz : Int} (hkz : ((k : Nat) : Int) = kz)
    (kk : Xw K G cells slots Q n (u2 V c kz a) R (pc + 3) lv st) : Xw K G cells slots Q n V R pc lv (.int (iI a) :: .ref (aG G c) :: st) := by
  obtain ⟨p, e, Rm, s, m, args, below, meth, co⟩ := K
  obtain ⟨l, b0, D, Y⟩ := G
  obtain ⟨⟨hx, hb, hml, ho, hts⟩, hlk, hkx, hret, hRm⟩ := C
  subst hkz
  intro H locs ls g hs hl
  obtain ⟨Cn, T, ty, h1, h2, h3, h4, h5⟩ := kcl_ok (V c 3)
  have hP := g.2.1 c hc
  rw [ht] at hP
  have hti : ty k = .int := by
    have e := h4 k hk
    rw [h3 k] at e
    match k, hk with
    | 0, _ => exact (Option.some.inj e).symm
    | 1, _ => exact (Option.some.inj e).symm
    | 2, _ => exact (Option.some.inj e).symm
  have h0 : (TX1 k).1 = RX0 := by
    match k, hk with
    | 0, _ => rfl
    | 1, _ => rfl
    | 2, _ => rfl
  refine xputK hx hb hts h2 ty h4 h5 ho hkx.k hP h1 k hk (index := ix) (ref := ref) (by rw [h3 k]; exact hts _ hw) (by rw [h3 k]; exact hsame) (Or.inr ⟨hct, by rw [h3 k, h0, hown0]⟩) (v := .int (iI a)) (by rw [hti]; rfl) (by rw [hti]; rfl) (by exact hk) hd fun H1 j hat hz oq => ?_
  have hg : GW b0 D Y n (u2 V c k a) R H1 := by
    refine g.upd c ?_ (fun d h => u2_n h) (fun _ _ => rfl) hz oq (g.2.2.u2 ha.l (fun _ => ha))
    rw [ht]
    show va_at D vwCl (b0 + c, .inr (kcl (u2 V c k a c 3), [.int (iI (u2 V c k a c 0)), .int (iI (u2 V c k a c 1)), .int (iI (u2 V c k a c 2))])) H1
    match k, hk with
    | 0, _ => rw [u2_s]; exact hat
    | 1, _ => rw [u2_s]; exact hat
    | 2, _ => rw [u2_s]; exact hat
  exact kk H1 _ ls hg (hs.put hz oq aA_in) hl
end XD
