/-! contracts, ends, calls -/
def QX (b0 : Nat) (D : va_G) (Y : Nat → Nat) (post : Option Value → Mem → Prop) : Array Value → State → Outcome → State → Prop := fun _ st oc t => (∃ (v : Option Value) (u : Mem), oc = .returned v ∧ post v u ∧ GW b0 D Y u.1 u.2.1 u.2.2 t.heap) ∧ va_F (aA b0) st t
def EndQ (K : XS) (G : GS) (cells slots : Nat) (post : Option Value → Mem → Prop) : State → Prop := match K, G with
  | (p, e, Rm, s, m, args, below, meth, c), (l, b0, D, Y) => MQ below (QX b0 D Y post) args s cells slots (aA b0)
/-- method y's contract: at these arguments and this memory it comes back, with an answer and a memory of which post holds; mc cells of ms slots are new -/
def Cn (G : GS) (y : MethodName) (cc : ByteArray) (maxL : Nat) (ret : Option FieldType) (rm : Room) (av : List Value) (n : Nat) (V : Nat → Int → Int) (R : Nat → Int → Option Nat) (mc ms : Nat) (post : Option Value → Mem → Prop) : Prop := match G with
  | (l, b0, D, Y) => Met l y (Cond.code y cc maxL ret :: BW) rm (va_Pc av (fun U => Kx b0 D Y U U.heap ∧ GW b0 D Y n V R U.heap)) (QX b0 D Y post) mc ms (aA b0)
abbrev rmk (fr mc ms lo : Nat) : Room := { frames := fr, cells := mc, slots := ms, locals := lo }
/-- what a call's own words say of its callee -/
def CeOk (y : MethodName) (cc : ByteArray) (maxL : Nat) (ret : Option FieldType) (nA : Nat) : Prop := Cond.code y cc maxL ret ∈ BW ∧ Cond.initialized y.cls ∈ BW ∧ (y.cls ≠ "java/lang/invoke/MethodHandle" ∧ y.cls ≠ "java/lang/invoke/VarHandle" ∧ (parseMethodDescriptor y.desc).map (fun d => d.parameters.length) = some nA)
theorem BW_code {y : MethodName} {cc : ByteArray} {maxL : Nat} {ret : Option FieldType} (h : Cond.code y cc maxL ret ∈ BW) : GoodIn BW (Cond.code y cc maxL ret :: BW) := fun w hw => by
  rcases List.mem_cons.mp hw with e | e
  · rw [e]; exact ⟨h, good_of_word (BW_good _ h)⟩
  · exact ⟨e, good_of_word (BW_good _ e)⟩
theorem Cn.of {G : GS} {y : MethodName} {cc : ByteArray} {maxL : Nat} {ret : Option FieldType} {rm : Room} {av : List Value} {n : Nat} {V : Nat → Int → Int} {R : Nat → Int → Option Nat} {mc ms : Nat} {post : Option Value → Mem → Prop} (hy : plainName y.cls = true) (hsl : (lg_sl av).length ≤ maxL)
    (body : ∀ K : XS, Cx K G cc y.cls maxL ret rm → (y.name = "<init>" → CtorK K) → Xw K G 0 0 (EndQ K G mc ms post) n V R 0 (lv_args 0 av) []) : Cn G y cc maxL ret rm av n V R mc ms post := by
  obtain ⟨l, b0, D, Y⟩ := G
  refine Met.ofW (cc := cc) (maxL := maxL) (ret := ret) hy rfl ?_
  intro p e s m args below meth c s₁ B hml hv
  obtain ⟨rfl, hK, hG⟩ := hv
  have hts := atoms_spec (ws := Cond.code y cc maxL ret :: BW) B.pre
  have hown : s.vm.findClass y.cls = some m.cls := findClass_of_methodNamed B.named
  have hb := body (p, e, rm, s, m, av.toArray, below, meth, c) ⟨⟨B.exec, B.bytes, hml, hown, fun w h => hts w (List.mem_cons_of_mem _ h)⟩, B.notSynchronized, hK, B.returns, rfl⟩ (fun h => (name_of_methodNamed B.named B.method).1.trans h)
  have hl := lv_entry av (n := maxL) hsl
  rw [lg_entry_eq]
  exact hb s.heap [] _ hG va_S.rf (by rw [hml]; exact hl)
/-- a call, ready: whatever the heap, it comes back with post -/
def XRun (K : XS) (G : GS) (cells slots n : Nat) (V : Nat → Int → Int) (R : Nat → Int → Option Nat) (pc : Nat) (lv : List (Nat × Value)) (stk rest : List Value) (mc ms : Nat) (post : Option Value → Mem → Prop) : Prop := match K, G with
  | (p, e, Rm, s, m, args, below, meth, c), (l, b0, D, Y) => ∀ (H : Heap) (locs : List Loc) (ls : Array Slot), GW b0 D Y n V R H → va_S (aA b0) s.heap H locs → lv_has ls c.maxLocals lv → va_Run p l e Rm s m args below meth c H locs cells slots mc ms (F0 m pc ls stk) rest (QX b0 D Y post #[]) (aA b0)
theorem fr_blind {b0 : Nat} {D : va_G} {Y : Nat → Nat} {av : List Value} {n : Nat} {V : Nat → Int → Int} {R : Nat → Int → Option Nat} : FrameBlind (va_Pc av (fun U => Kx b0 D Y U U.heap ∧ GW b0 D Y n V R U.heap)) := fun a U g mk q => ⟨q.1, q.2.1.call, q.2.2⟩
theorem fr_pre {b0 : Nat} {D : va_G} {Y : Nat → Nat} {av : List Value} {n : Nat} {V : Nat → Int → Int} {R : Nat → Int → Option Nat} {s : State} {H : Heap} {locs : List Loc} (hk : Kx b0 D Y s s.heap) (g : GW b0 D Y n V R H) (hs : va_S (aA b0) s.heap H locs) : ∀ U : State, U.heap = H → s.WarmedH U.vm → va_Pc av (fun U => Kx b0 D Y U U.heap ∧ GW b0 D Y n V R U.heap) av.toArray U := fun U hU hW => ⟨rfl, by rw [hU]; exact hk.to hW hs, by rw [hU]; exact g⟩
/-- an object of a known class stands at c -/
def RecvOk (D : va_G) (s : State) (H : Heap) (a : Nat) (C : String) : Prop := ∃ cellB : Cell, H[a]? = some cellB ∧ cellB.vm.isStatics = false ∧ s.vm.findClass C = some cellB.cls
section XC
variable {K : XS} {G : GS} {cells slots : Nat} {Q : State → Prop} {n : Nat} {V : Nat → Int → Int} {R : Nat → Int → Option Nat} {cc : ByteArray} {own : String} {nL : Nat} {ret : Option FieldType} {rm : Room} {pc : Nat} {lv lv' : List (Nat × Value)} {st stk : List Value} {post : Option Value → Mem → Prop} {mc ms : Nat}
variable {y : MethodName} {cc' : ByteArray} {maxL nA ix : Nat} {ret' : Option FieldType} {rm' : Room} {av : List Value}
theorem x_run (hr : XRun K G cells slots n V R pc lv stk st mc ms post) (kk : ∀ (v : Option Value) (n' : Nat) (V' : Nat → Int → Int) (R' : Nat → Int → Option Nat), post v (n', V', R') → Xw K G (cells + mc) (slots + ms) Q n' V' R' (pc + 3) lv (v.toList ++ st)) : Xw K G cells slots Q n V R pc lv stk := by
  obtain ⟨p, e, Rm, s, m, args, below, meth, co⟩ := K
  obtain ⟨l, b0, D, Y⟩ := G
  intro H locs ls g hs hl T hT X
  obtain ⟨v, st₀, t, T', L, h0, X', hL, e1, e2, ⟨⟨v2, u, hv, hp, hb⟩, hz, hk⟩, st⟩ := hr H locs ls g hs hl T hT X
  cases hv
  rw [h0] at hz hk
  obtain ⟨t2, a1, b1⟩ := kk _ u.1 u.2.1 u.2.2 hp T'.heap (locs ++ L) ls (by rw [e1]; exact hb)
    ⟨Nat.le_trans hs.1 (by rw [e1]; exact hz), fun q h1 h2 => by rw [e1, hk q (Nat.lt_of_lt_of_le h1 hs.1) h2]; exact hs.2.1 q h1 h2, fun q hq => by
      rcases List.mem_append.mp hq with h | h
      · exact hs.2.2 q h
      · exact hL q h⟩ hl T' rfl X'
  exact ⟨t2, st t2 a1, b1⟩
theorem x_runU (hr : XRun K G cells slots n V R pc lv stk st mc ms post) (kk : ∀ (v : Option Value) (u : Mem), post v u → Xw K G (cells + mc) (slots + ms) Q u.1 u.2.1 u.2.2 (pc + 3) lv (v.toList ++ st)) : Xw K G cells slots Q n V R pc lv stk :=
  x_run hr (fun v n' V' R' h => kk v (n', V', R') h)
theorem r_callS (C : Cx K G cc own nL ret rm) (hce : CeOk y cc' maxL ret' nA) (hM : Cn G y cc' maxL ret' rm' av n V R mc ms post) (hd : decode cc pc = .ok (.invokestatic ix, 3)) (hw : Cond.methodLink own ix y ∈ BW) (hsta : Cond.static y ∈ BW) (hlen : av.length = nA) (hstk : stk = av.reverse ++ st) (hR : rm'.frames + 1 ≤ rm.frames ∧ 8 + (maxL + 11) + rm'.locals ≤ rm.locals) (hrc : rm'.cells = mc ∧ rm'.slots = ms) (hf : cells + mc ≤ rm.cells ∧ slots + ms ≤ rm.slots) (hst8 : (st.map fun v => v.category).sum ≤ 8) : XRun K G cells slots n V R pc lv stk st mc ms post := by
  obtain ⟨p, e, Rm, s, m, args, below, meth, co⟩ := K
  obtain ⟨l, b0, D, Y⟩ := G
  obtain ⟨⟨hx, hb, hml, ho, hts⟩, hlk, hkx, hret, hRm⟩ := C
  subst hRm
  intro H locs ls g hs hl
  subst hstk
  intro T hT X
  obtain ⟨v, st₀, t, T', L, h0, X', hL, e1, e2, hq, st⟩ := va_runS (As := av) (rest := st) (g := F0 m pc ls (av.reverse ++ st)) ⟨hx, hb, hml, ho, hts⟩ hM ⟨(callB_of nA hts (BW_code hce.1) rfl hrc.1 hrc.2 (hts _ hce.2.1) (hts _ hw) hce.2.2 hR), hts _ hsta⟩ ⟨fr_blind, fr_pre hkx g hs⟩ rfl hlen (by rw [← hml]; exact hl.1) rfl (lv_room hst8) hd hf T hT X
  exact ⟨v, st₀, t, T', L, h0, X', hL, e1, e2, hq, st⟩
theorem r_callSN {host : String} (C : Cx K G cc own nL ret rm) (hce : CeOk y cc' maxL ret' nA) (hM : Cn G y cc' maxL ret' rm' av n V R mc ms post) (hd : decode cc pc = .ok (.invokestatic ix, 3)) (hw : Cond.methodLinkNest own ix y host ∈ nwL) (hsta : Cond.static y ∈ BW) (hlen : av.length = nA) (hstk : stk = av.reverse ++ st) (hR : rm'.frames + 1 ≤ rm.frames ∧ 8 + (maxL + 11) + rm'.locals ≤ rm.locals) (hrc : rm'.cells = mc ∧ rm'.slots = ms) (hf : cells + mc ≤ rm.cells ∧ slots + ms ≤ rm.slots) (hst8 : (st.map fun v => v.category).sum ≤ 8) : XRun K G cells slots n V R pc lv stk st mc ms post := by
  obtain ⟨p, e, Rm, s, m, args, below, meth, co⟩ := K
  obtain ⟨l, b0, D, Y⟩ := G
  obtain ⟨⟨hx, hb, hml, ho, hts⟩, hlk, hkx, hret, hRm⟩ := C
  subst hRm
  intro H locs ls g hs hl
  subst hstk
  intro T hT X
  obtain ⟨v, st₀, t, T', L, h0, X', hL, e1, e2, hq, st⟩ := va_runSN (As := av) (rest := st) (g := F0 m pc ls (av.reverse ++ st)) ⟨hx, hb, hml, ho, hts⟩ hM ⟨⟨⟨hrc.1, hrc.2, hR.1, hR.2, pay_in hts (BW_code hce.1), List.mem_cons_self⟩, hts _ hce.1, hts _ hce.2.1, ⟨hce.2.2.1, hce.2.2.2.1⟩, fun sig h => by have h2 := hce.2.2.2.2; rw [h] at h2; exact (Option.some.inj h2).symm, va_Nw.use rfl (hkx.nw _ hw)⟩, hts _ hsta, trivial⟩ ⟨fr_blind, fr_pre hkx g hs⟩ rfl hlen (by rw [← hml]; exact hl.1) rfl (lv_room hst8) hd hf T hT X
  exact ⟨v, st₀, t, T', L, h0, X', hL, e1, e2, hq, st⟩
theorem recvO {ci : Nat} {Cn : String} {T : u_T} {ty : Nat → FieldType} (hok : ClsOk ci Cn T ty) {c : Nat} {b0 : Nat} {D : va_G} {Y : Nat → Nat} {s : State} {H : Heap} (hk : va_K D vwCl (tysY Y) s) (g : GW b0 D Y n V R H) (hc : c < n) (ht : tb c = (ci, 0)) : ∃ cellB : Cell, H[b0 + c]? = some cellB ∧ cellB.vm.isStatics = false ∧ s.vm.findClass Cn = some cellB.cls := by
  obtain ⟨h1, h2, h3, h4, h5, h6⟩ := hok
  have hP := g.one hc
  rw [ht, h3] at hP
  exact va_recv hk hP h1 (q0 := 0) rfl
theorem recvF {c : Nat} {b0 : Nat} {D : va_G} {Y : Nat → Nat} {s : State} {H : Heap} {r : vw_C} (hk : va_K D vwCl (tysY Y) s) (g : GW b0 D Y n V R H) (hc : c < n) (ht : tb c = (99, 0)) (hr : vwCl[kcl (V c 3)]? = some r) : ∃ cellB : Cell, H[b0 + c]? = some cellB ∧ cellB.vm.isStatics = false ∧ s.vm.findClass r.1 = some cellB.cls := by
  have hP := g.one hc
  rw [ht] at hP
  exact va_recv hk hP hr (q0 := 0) rfl
theorem r_callV {ci : Nat} {Cn0 : String} {T : u_T} {ty : Nat → FieldType} {As : List Value} (C : Cx K G cc own nL ret rm) (hok : ClsOk ci Cn0 T ty) (c : Nat) (hc : c < n) (ht : tb c = (ci, 0)) (hce : CeOk y cc' maxL ret' nA) (hM : Cn G y cc' maxL ret' rm' av n V R mc ms post) (hav : av = .ref (aG G c) :: As) (hd : decode cc pc = .ok (.invokevirtual ix, 3)) (hw : Cond.methodLink own ix y ∈ BW) (hin : Cond.instanceMethod y ∈ BW) (hsel : Cond.selects Cn0 y y ∈ BW) (hlen : As.length = nA) (hstk : stk = As.reverse ++ .ref (aG G c) :: st) (hR : rm'.frames + 1 ≤ rm.frames ∧ 8 + (maxL + 11) + rm'.locals ≤ rm.locals) (hrc : rm'.cells = mc ∧ rm'.slots = ms) (hf : cells + mc ≤ rm.cells ∧ slots + ms ≤ rm.slots) (hst8 : (st.map fun v => v.category).sum ≤ 8) : XRun K G cells slots n V R pc lv stk st mc ms post := by
  obtain ⟨p, e, Rm, s, m, args, below, meth, co⟩ := K
  obtain ⟨l, b0, D, Y⟩ := G
  obtain ⟨⟨hx, hb, hml, ho, hts⟩, hlk, hkx, hret, hRm⟩ := C
  subst hRm
  intro H locs ls g hs hl
  subst hstk
  subst hav
  intro T hT X
  obtain ⟨v, st₀, t, T', L, h0, X', hL, e1, e2, hq, st⟩ := va_runV (As := As) (rest := st) (b := b0 + c) (C := Cn0) (g := F0 m pc ls (As.reverse ++ .ref (b0 + c) :: st)) ⟨hx, hb, hml, ho, hts⟩ hM ⟨(callB_of nA hts (BW_code hce.1) rfl hrc.1 hrc.2 (hts _ hce.2.1) (hts _ hw) hce.2.2 hR), hts _ hin, hts _ hsel⟩ ⟨fr_blind, recvO hok hkx.k g hc ht, fr_pre hkx g hs⟩ rfl hlen (by rw [← hml]; exact hl.1) rfl (lv_room hst8) hd hf T hT X
  exact ⟨v, st₀, t, T', L, h0, X', hL, e1, e2, hq, st⟩
theorem r_callI {As : List Value} {a : Nat} (C : Cx K G cc own nL ret rm) (hce : CeOk y cc' maxL ret' nA) (hM : Cn G y cc' maxL ret' rm' av n V R mc ms post) (hav : av = .ref a :: As) (hret0 : ret' = none) (hd : decode cc pc = .ok (.invokespecial ix, 3)) (hw : Cond.methodLink own ix y ∈ BW) (hin : Cond.instanceMethod y ∈ BW) (hnm : y.name = "<init>") (hlen : As.length = nA) (hstk : stk = As.reverse ++ .ref a :: st) (hR : rm'.frames + 1 ≤ rm.frames ∧ 8 + (maxL + 11) + rm'.locals ≤ rm.locals) (hrc : rm'.cells = mc ∧ rm'.slots = ms) (hf : cells + mc ≤ rm.cells ∧ slots + ms ≤ rm.slots) (hst8 : (st.map fun v => v.category).sum ≤ 8) : XRun K G cells slots n V R pc lv stk st mc ms post := by
  obtain ⟨p, e, Rm, s, m, args, below, meth, co⟩ := K
  obtain ⟨l, b0, D, Y⟩ := G
  obtain ⟨⟨hx, hb, hml, ho, hts⟩, hlk, hkx, hret, hRm⟩ := C
  subst hRm
  intro H locs ls g hs hl
  subst hstk
  subst hav
  subst hret0
  intro T hT X
  obtain ⟨v, st₀, t, T', L, h0, X', hL, e1, e2, hq, st⟩ := va_runI (As := As) (rest := st) (b := a) (g := F0 m pc ls (As.reverse ++ .ref a :: st)) ⟨hx, hb, hml, ho, hts⟩ hM ⟨(callB_of nA hts (BW_code hce.1) rfl hrc.1 hrc.2 (hts _ hce.2.1) (hts _ hw) hce.2.2 hR), hnm, hts _ hin⟩ ⟨fr_blind, fr_pre hkx g hs⟩ rfl hlen (by rw [← hml]; exact hl.1) rfl (lv_room hst8) hd hf T hT X
  exact ⟨v, st₀, t, T', L, h0, X', hL, e1, e2, hq, st⟩
theorem r_callIN {As : List Value} {a : Nat} {host : String} (C : Cx K G cc own nL ret rm) (hce : CeOk y cc' maxL ret' nA) (hM : Cn G y cc' maxL ret' rm' av n V R mc ms post) (hav : av = .ref a :: As) (hret0 : ret' = none) (hd : decode cc pc = .ok (.invokespecial ix, 3)) (hw : Cond.methodLinkNest own ix y host ∈ nwL) (hin : Cond.instanceMethod y ∈ BW) (hnm : y.name = "<init>") (hlen : As.length = nA) (hstk : stk = As.reverse ++ .ref a :: st) (hR : rm'.frames + 1 ≤ rm.frames ∧ 8 + (maxL + 11) + rm'.locals ≤ rm.locals) (hrc : rm'.cells = mc ∧ rm'.slots = ms) (hf : cells + mc ≤ rm.cells ∧ slots + ms ≤ rm.slots) (hst8 : (st.map fun v => v.category).sum ≤ 8) : XRun K G cells slots n V R pc lv stk st mc ms post := by
  obtain ⟨p, e, Rm, s, m, args, below, meth, co⟩ := K
  obtain ⟨l, b0, D, Y⟩ := G
  obtain ⟨⟨hx, hb, hml, ho, hts⟩, hlk, hkx, hret, hRm⟩ := C
  subst hRm
  intro H locs ls g hs hl
  subst hstk
  subst hav
  subst hret0
  intro T hT X
  obtain ⟨v, st₀, t, T', L, h0, X', hL, e1, e2, hq, st⟩ := va_runIN (As := As) (rest := st) (b := a) (g := F0 m pc ls (As.reverse ++ .ref a :: st)) ⟨hx, hb, hml, ho, hts⟩ hM ⟨⟨⟨hrc.1, hrc.2, hR.1, hR.2, pay_in hts (BW_code hce.1), List.mem_cons_self⟩, hts _ hce.1, hts _ hce.2.1, ⟨hce.2.2.1, hce.2.2.2.1⟩, fun sig h => by have h2 := hce.2.2.2.2; rw [h] at h2; exact (Option.some.inj h2).symm, va_Nw.use rfl (hkx.nw _ hw)⟩, hnm, hts _ hin⟩ ⟨fr_blind, fr_pre hkx g hs⟩ rfl hlen (by rw [← hml]; exact hl.1) rfl (lv_room hst8) hd hf T hT X
  exact ⟨v, st₀, t, T', L, h0, X', hL, e1, e2, hq, st⟩
/-- a virtual call on a fault: x is what the reference names, y what the receiver's class selects -/
theorem r_callF {r : vw_C} {owner : String} {x : MethodName} {As : List Value} (C : Cx K G cc own nL ret rm) (c : Nat) (hc : c < n) (ht : tb c = (99, 0)) (hr : vwCl[kcl (V c 3)]? = some r) (hce : CeOk y cc' maxL ret' nA) (hM : Cn G y cc' maxL ret' rm' av n V R mc ms post) (hav : av = .ref (aG G c) :: As) (hd : decode cc pc = .ok (.invokevirtual ix, 3)) (hw : Cond.methodLink own ix x ∈ BW) (hsm : Cond.sameMethod x.cls owner x.name x.desc ∈ BW) (hown : owner ≠ "java/lang/invoke/MethodHandle" ∧ owner ≠ "java/lang/invoke/VarHandle")
    (hdec : Cond.declares ⟨owner, x.name, x.desc⟩ ∈ nwL ∨ ∃ b0 m0 r0, Cond.code ⟨owner, x.name, x.desc⟩ b0 m0 r0 ∈ BW ∧ Cond.instanceMethod ⟨owner, x.name, x.desc⟩ ∈ BW) (hxd : (parseMethodDescriptor x.desc).map (fun d => d.parameters.length) = some nA) (hsel : Cond.selects r.1 x y ∈ BW) (hin : Cond.instanceMethod y ∈ BW) (hlen : As.length = nA) (hstk : stk = As.reverse ++ .ref (aG G c) :: st) (hR : rm'.frames + 1 ≤ rm.frames ∧ 8 + (maxL + 11) + rm'.locals ≤ rm.locals) (hrc : rm'.cells = mc ∧ rm'.slots = ms) (hf : cells + mc ≤ rm.cells ∧ slots + ms ≤ rm.slots) (hst8 : (st.map fun v => v.category).sum ≤ 8) : XRun K G cells slots n V R pc lv stk st mc ms post := by
  obtain ⟨p, e, Rm, s, m, args, below, meth, co⟩ := K
  obtain ⟨l, b0, D, Y⟩ := G
  obtain ⟨⟨hx, hb, hml, ho, hts⟩, hlk, hkx, hret, hRm⟩ := C
  subst hRm
  intro H locs ls g hs hl
  subst hstk
  subst hav
  have hdecl : va_Decl s ⟨owner, x.name, x.desc⟩ := by
    rcases hdec with h | ⟨b1, m1, r1, h1, h2⟩
    · exact va_Decl.abs (hkx.nw _ h)
    · exact va_Decl.of (hts _ h2) (hts _ h1)
  intro T hT X
  obtain ⟨v, st₀, t, T', L, h0, X', hL, e1, e2, hq, st⟩ := va_runU (As := As) (rest := st) (b := b0 + c) (C := r.1) (owner := owner) (g := F0 m pc ls (As.reverse ++ .ref (b0 + c) :: st)) ⟨hx, hb, hml, ho, hts⟩ hM ⟨⟨hrc.1, hrc.2, hR.1, hR.2, pay_in hts (BW_code hce.1), List.mem_cons_self⟩, hts _ hce.1, hts _ hce.2.1, hown, fun sig h => by rw [h] at hxd; exact (Option.some.inj hxd).symm, hts _ hw, hts _ hsm, hdecl, hts _ hsel, hts _ hin⟩ ⟨fr_blind, recvF hkx.k g hc ht hr, fr_pre hkx g hs⟩ rfl hlen (by rw [← hml]; exact hl.1) rfl (lv_room hst8) hd hf T hT X
  exact ⟨v, st₀, t, T', L, h0, X', hL, e1, e2, hq, st⟩
/-- super.y() on a fault -/
theorem r_callSU {r : vw_C} {As : List Value} (C : Cx K G cc own nL ret rm) (c : Nat) (hc : c < n) (ht : tb c = (99, 0)) (hr : vwCl[kcl (V c 3)]? = some r) (hce : CeOk y cc' maxL ret' nA) (hM : Cn G y cc' maxL ret' rm' av n V R mc ms post) (hav : av = .ref (aG G c) :: As) (hd : decode cc pc = .ok (.invokespecial ix, 3)) (hw : Cond.methodLink own ix y ∈ BW) (hsm : Cond.sameMethod y.cls y.cls y.name y.desc ∈ BW) (hsup : Cond.superclass own y.cls ∈ BW) (hin : Cond.instanceMethod y ∈ BW) (hnm : y.name ≠ "<init>") (hlen : As.length = nA) (hstk : stk = As.reverse ++ .ref (aG G c) :: st) (hR : rm'.frames + 1 ≤ rm.frames ∧ 8 + (maxL + 11) + rm'.locals ≤ rm.locals) (hrc : rm'.cells = mc ∧ rm'.slots = ms) (hf : cells + mc ≤ rm.cells ∧ slots + ms ≤ rm.slots) (hst8 : (st.map fun v => v.category).sum ≤ 8) : XRun K G cells slots n V R pc lv stk st mc ms post := by
  obtain ⟨p, e, Rm, s, m, args, below, meth, co⟩ := K
  obtain ⟨l, b0, D, Y⟩ := G
  obtain ⟨⟨hx, hb, hml, ho, hts⟩, hlk, hkx, hret, hRm⟩ := C
  subst hRm
  intro H locs ls g hs hl
  subst hstk
  subst hav
  intro T hT X
  obtain ⟨v, st₀, t, T', L, h0, X', hL, e1, e2, hq, st⟩ := va_runSU (hkx.k.1 _ r hr).2 (As := As) (rest := st) (b := b0 + c) (C := r.1) (g := F0 m pc ls (As.reverse ++ .ref (b0 + c) :: st)) ⟨hx, hb, hml, ho, hts⟩ hM ⟨⟨hrc.1, hrc.2, hR.1, hR.2, pay_in hts (BW_code hce.1), List.mem_cons_self⟩, hts _ hw, hts _ hsm, hts _ hsup, hts _ hin, hts _ hce.2.1, hts _ hce.1, hnm, fun sig h => by have h2 := hce.2.2.2.2; rw [h] at h2; exact (Option.some.inj h2).symm⟩ ⟨fr_blind, recvF hkx.k g hc ht hr, fr_pre hkx g hs⟩ rfl hlen (by rw [← hml]; exact hl.1) rfl (lv_room hst8) hd hf T hT X
  exact ⟨v, st₀, t, T', L, h0, X', hL, e1, e2, hq, st⟩
theorem x_iret (C : Cx K G cc own nL (some .int) rm) {a : Int} (hd : decode cc pc = .ok (.ireturn, 1)) (h : post (some (.int (iI a))) (n, V, R)) : Xw K G cells slots (EndQ K G cells slots post) n V R pc lv [.int (iI a)] := by
  obtain ⟨p, e, Rm, s, m, args, below, meth, co⟩ := K
  obtain ⟨l, b0, D, Y⟩ := G
  obtain ⟨⟨hx, hb, hml, ho, hts⟩, hlk, hkx, hret, hRm⟩ := C
  intro H locs ls g hs hl
  exact W.iret hx hb hret (fun t ht2 hW => ⟨⟨_, (n, V, R), rfl, h, by rw [ht2]; exact g⟩, hs.F ht2⟩) hs.2.2 hd (hlocks := hlk)
theorem x_zret (C : Cx K G cc own nL (some .boolean) rm) {a : Int} (ha : a = 0 ∨ a = 1) (hd : decode cc pc = .ok (.ireturn, 1)) (h : post (some (.int (iI a))) (n, V, R)) : Xw K G cells slots (EndQ K G cells slots post) n V R pc lv [.int (iI a)] := by
  obtain ⟨p, e, Rm, s, m, args, below, meth, co⟩ := K
  obtain ⟨l, b0, D, Y⟩ := G
  obtain ⟨⟨hx, hb, hml, ho, hts⟩, hlk, hkx, hret, hRm⟩ := C
  intro H locs ls g hs hl
  exact W.zret hx hb hret (by rcases ha with q | q <;> subst q <;> decide) (fun t ht2 hW => ⟨⟨_, (n, V, R), rfl, h, by rw [ht2]; exact g⟩, hs.F ht2⟩) hs.2.2 hd (hlocks := hlk)
theorem x_lret (C : Cx K G cc own nL (some .long) rm) {a : Int} (hd : decode cc pc = .ok (.lreturn, 1)) (h : post (some (.long (jI a))) (n, V, R)) : Xw K G cells slots (EndQ K G cells slots post) n V R pc lv [.long (jI a)] := by
  obtain ⟨p, e, Rm, s, m, args, below, meth, co⟩ := K
  obtain ⟨l, b0, D, Y⟩ := G
  obtain ⟨⟨hx, hb, hml, ho, hts⟩, hlk, hkx, hret, hRm⟩ := C
  intro H locs ls g hs hl
  exact W.lret hx hb hret (fun t ht2 hW => ⟨⟨_, (n, V, R), rfl, h, by rw [ht2]; exact g⟩, hs.F ht2⟩) hs.2.2 hd (hlocks := hlk)
theorem x_vret (C : Cx K G cc own nL (none) rm)  (hd : decode cc pc = .ok (.return_, 1)) (h : post (none) (n, V, R)) : Xw K G cells slots (EndQ K G cells slots post) n V R pc lv [] := by
  obtain ⟨p, e, Rm, s, m, args, below, meth, co⟩ := K
  obtain ⟨l, b0, D, Y⟩ := G
  obtain ⟨⟨hx, hb, hml, ho, hts⟩, hlk, hkx, hret, hRm⟩ := C
  intro H locs ls g hs hl
  exact W.vret hx hb hret (fun t ht2 hW => ⟨⟨_, (n, V, R), rfl, h, by rw [ht2]; exact g⟩, hs.F ht2⟩) hs.2.2 hd (hlocks := hlk)
theorem x_aret {cn : String} (C : Cx K G cc own nL (some (.object cn)) rm) {a : Nat} (hd : decode cc pc = .ok (.areturn, 1)) (h : post (some (.ref a)) (n, V, R)) : Xw K G cells slots (EndQ K G cells slots post) n V R pc lv [.ref a] := by
  obtain ⟨p, e, Rm, s, m, args, below, meth, co⟩ := K
  obtain ⟨l, b0, D, Y⟩ := G
  obtain ⟨⟨hx, hb, hml, ho, hts⟩, hlk, hkx, hret, hRm⟩ := C
  intro H locs ls g hs hl
  exact W.aret hx hb hret (Or.inl ⟨_, rfl⟩) (Or.inr ⟨_, rfl⟩) (fun t ht2 hW => ⟨⟨_, (n, V, R), rfl, h, by rw [ht2]; exact g⟩, hs.F ht2⟩) hs.2.2 hd (hlocks := hlk)
theorem x_aretN {cn : String} (C : Cx K G cc own nL (some (.object cn)) rm)  (hd : decode cc pc = .ok (.areturn, 1)) (h : post (some .null) (n, V, R)) : Xw K G cells slots (EndQ K G cells slots post) n V R pc lv [.null] := by
  obtain ⟨p, e, Rm, s, m, args, below, meth, co⟩ := K
  obtain ⟨l, b0, D, Y⟩ := G
  obtain ⟨⟨hx, hb, hml, ho, hts⟩, hlk, hkx, hret, hRm⟩ := C
  intro H locs ls g hs hl
  exact W.aret hx hb hret (Or.inl ⟨_, rfl⟩) (Or.inl rfl) (fun t ht2 hW => ⟨⟨_, (n, V, R), rfl, h, by rw [ht2]; exact g⟩, hs.F ht2⟩) hs.2.2 hd (hlocks := hlk)
theorem x_wid {cells' slots' : Nat} (h1 : cells ≤ cells') (h2 : slots ≤ slots') (kk : Xw K G cells' slots' Q n V R pc lv st) : Xw K G cells slots Q n V R pc lv st := by
  obtain ⟨p, e, Rm, s, m, args, below, meth, co⟩ := K
  obtain ⟨l, b0, D, Y⟩ := G
  intro H locs ls g hs hl
  exact W.widen h1 h2 (kk H locs ls g hs hl)
/-- the facts of the memory's own range, at any time -/
theorem x_rg (kk : RgV V → Xw K G cells slots Q n V R pc lv st) : Xw K G cells slots Q n V R pc lv st := by
  obtain ⟨p, e, Rm, s, m, args, below, meth, co⟩ := K
  obtain ⟨l, b0, D, Y⟩ := G
  intro H locs ls g hs hl
  exact kk g.2.2 H locs ls g hs hl
/-- any Int of the machine may be its own rest -/
theorem x_wr {a : Int} (kk : Xw K G cells slots Q n V R pc lv (.int (iI (wr a)) :: st)) : Xw K G cells slots Q n V R pc lv (.int (iI a) :: st) := by
  rw [← iI_wr]; exact kk
theorem x_top {a b : Int} (h : a = b) (kk : Xw K G cells slots Q n V R pc lv (.int (iI b) :: st)) : Xw K G cells slots Q n V R pc lv (.int (iI a) :: st) := by
  rw [h]; exact kk
theorem x_max (C : Cx K G cc own nL ret rm) {a b : Int} (hd : decode cc pc = .ok (.invokestatic ix, 3)) (hw : Cond.methodLink own ix Lib.Math.max.name ∈ BW) (hM1 : Cond.static Lib.Math.max.name ∈ BW) (hM2 : Cond.initialized "java/lang/Math" ∈ BW) (hM3 : Cond.code Lib.Math.max.name Lib.Math.max.code 2 (some .int) ∈ BW) (hR : 1 ≤ rm.frames ∧ (st.map fun v => v.category).sum + 13 ≤ rm.locals) (hf : cells ≤ rm.cells ∧ slots ≤ rm.slots) (ha : Rg a) (hb2 : Rg b)
    (kk : Xw K G cells slots Q n V R (pc + 3) lv (.int (iI (max a b)) :: st)) : Xw K G cells slots Q n V R pc lv (.int (iI b) :: .int (iI a) :: st) := by
  obtain ⟨p, e, Rm, s, m, args, below, meth, co⟩ := K
  obtain ⟨l, b0, D, Y⟩ := G
  obtain ⟨⟨hx, hb, hml, ho, hts⟩, hlk, hkx, hret, hRm⟩ := C
  subst hRm
  intro H locs ls g hs hl
  have e1 : (if iI a < iI b then iI b else iI a) = iI (max a b) := by
    by_cases q : a < b
    · rw [if_pos ((iI_lt ha hb2).mpr q)]; congr 1; omega
    · rw [if_neg (fun z => q ((iI_lt ha hb2).mp z))]; congr 1; omega
  refine va_mmax hx hb hl.1.symm ho (hts _ hw) (hts _ hM1) (hts _ hM2) (hts _ hM3) hR.1 hR.2 hf.1 hf.2 hd ?_
  rw [e1]
  exact kk H locs ls g hs hl
theorem x_min (C : Cx K G cc own nL ret rm) {a b : Int} (hd : decode cc pc = .ok (.invokestatic ix, 3)) (hw : Cond.methodLink own ix Lib.Math.min.name ∈ BW) (hM1 : Cond.static Lib.Math.min.name ∈ BW) (hM2 : Cond.initialized "java/lang/Math" ∈ BW) (hM3 : Cond.code Lib.Math.min.name Lib.Math.min.code 2 (some .int) ∈ BW) (hR : 1 ≤ rm.frames ∧ (st.map fun v => v.category).sum + 13 ≤ rm.locals) (hf : cells ≤ rm.cells ∧ slots ≤ rm.slots) (ha : Rg a) (hb2 : Rg b)
    (kk : Xw K G cells slots Q n V R (pc + 3) lv (.int (iI (min a b)) :: st)) : Xw K G cells slots Q n V R pc lv (.int (iI b) :: .int (iI a) :: st) := by
  obtain ⟨p, e, Rm, s, m, args, below, meth, co⟩ := K
  obtain ⟨l, b0, D, Y⟩ := G
  obtain ⟨⟨hx, hb, hml, ho, hts⟩, hlk, hkx, hret, hRm⟩ := C
  subst hRm
  intro H locs ls g hs hl
  have e1 : (if iI b < iI a then iI b else iI a) = iI (min a b) := by
    by_cases q : b < a
    · rw [if_pos ((iI_lt hb2 ha).mpr q)]; congr 1; omega
    · rw [if_neg (fun z => q ((iI_lt hb2 ha).mp z))]; congr 1; omega
  refine va_mmin hx hb hl.1.symm ho (hts _ hw) (hts _ hM1) (hts _ hM2) (hts _ hM3) hR.1 hR.2 hf.1 hf.2 hd ?_
  rw [e1]
  exact kk H locs ls g hs hl
theorem x_abs (C : Cx K G cc own nL ret rm) {a : Int} (hd : decode cc pc = .ok (.invokestatic ix, 3)) (hw : Cond.methodLink own ix Lib.Math.abs.name ∈ BW) (hM1 : Cond.static Lib.Math.abs.name ∈ BW) (hM2 : Cond.initialized "java/lang/Math" ∈ BW) (hM3 : Cond.code Lib.Math.abs.name Lib.Math.abs.code 1 (some .int) ∈ BW) (hR : 1 ≤ rm.frames ∧ (st.map fun v => v.category).sum + 13 ≤ rm.locals) (hf : cells ≤ rm.cells ∧ slots ≤ rm.slots) (ha : Rg a)
    (kk : Xw K G cells slots Q n V R (pc + 3) lv (.int (iI ((a.natAbs : Int))) :: st)) : Xw K G cells slots Q n V R pc lv (.int (iI a) :: st) := by
  obtain ⟨p, e, Rm, s, m, args, below, meth, co⟩ := K
  obtain ⟨l, b0, D, Y⟩ := G
  obtain ⟨⟨hx, hb, hml, ho, hts⟩, hlk, hkx, hret, hRm⟩ := C
  subst hRm
  intro H locs ls g hs hl
  have e1 : (if 0 ≤ iI a then iI a else 0 - iI a) = iI ((a.natAbs : Int)) := by
    by_cases q : 0 ≤ a
    · rw [if_pos (by rw [iI_0]; exact (iI_le ⟨by omega, by omega⟩ ha).mpr q)]; congr 1; omega
    · rw [if_neg (fun z => q (by rw [iI_0] at z; exact (iI_le ⟨by omega, by omega⟩ ha).mp z)), iI_0, iI_sub]; congr 1; omega
  refine va_mabs hx hb hl.1.symm ho (hts _ hw) (hts _ hM1) (hts _ hM2) (hts _ hM3) hR.1 hR.2 hf.1 hf.2 hd ?_
  rw [e1]
  exact kk H locs ls g hs hl
end XC
