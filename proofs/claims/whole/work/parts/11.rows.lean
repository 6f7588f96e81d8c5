/-! bits and compares, as whole numbers -/
def zAnd (a b : Int) : Int := (iI a &&& iI b).toInt
def zOr (a b : Int) : Int := (iI a ||| iI b).toInt
def zXor (a b : Int) : Int := (iI a ^^^ iI b).toInt
def zShl (a b : Int) : Int := (iI a <<< (iI b &&& 31)).toInt
def zShr (a b : Int) : Int := (iI a >>> (iI b &&& 31)).toInt
def zUshr (a b : Int) : Int := (((iI a).toUInt32 >>> ((iI b).toUInt32 &&& Int32.toUInt32 31)).toInt32).toInt
theorem zAnd_i (a b : Int) : iI (zAnd a b) = iI a &&& iI b := iI_self _
theorem zOr_i (a b : Int) : iI (zOr a b) = iI a ||| iI b := iI_self _
theorem zXor_i (a b : Int) : iI (zXor a b) = iI a ^^^ iI b := iI_self _
theorem zShl_i (a b : Int) : iI (zShl a b) = iI a <<< (iI b &&& 31) := iI_self _
theorem zShr_i (a b : Int) : iI (zShr a b) = iI a >>> (iI b &&& 31) := iI_self _
theorem zUshr_i (a b : Int) : iI (zUshr a b) = ((iI a).toUInt32 >>> ((iI b).toUInt32 &&& Int32.toUInt32 31)).toInt32 := iI_self _
def zCmp (a b : Int) : Int := if a < b then -1 else if a = b then 0 else 1
theorem jI_cmp {a b : Int} (ha : Rl a) (hb : Rl b) : lg_cmp (jI a) (jI b) = iI (zCmp a b) := by
  unfold lg_cmp zCmp
  by_cases h1 : a < b
  · have e1 : ¬ jI b < jI a := fun z => by have := (jI_lt hb ha).mp z; omega
    have e2 : ¬ jI a = jI b := fun z => by have := (jI_eq ha hb).mp z; omega
    have e3 : jI a < jI b := (jI_lt ha hb).mpr h1
    simp [h1, e1, e2, e3]
    decide
  · by_cases h2 : a = b
    · subst h2
      have e1 : ¬ jI a < jI a := fun z => by have := (jI_lt ha ha).mp z; omega
      simp [e1]
      decide
    · have e1 : jI b < jI a := (jI_lt hb ha).mpr (by omega)
      have e2 : ¬ jI a = jI b := fun z => h2 ((jI_eq ha hb).mp z)
      have e3 : ¬ jI a < jI b := fun z => h1 ((jI_lt ha hb).mp z)
      simp [h1, h2, e1, e2, e3]
      decide
theorem iI_i2c {a : Int} (h : 0 ≤ a ∧ a < 65536) : ((iI a).toUInt32 % 65536).toInt32 = iI a := by
  obtain ⟨k, rfl⟩ : ∃ k : Nat, a = k := ⟨a.toNat, by omega⟩
  have h1 := pk_char (iI (k : Int))
  rw [h1]
  have e : iI (k : Int) = nI k := (iI_ofNat k).symm
  rw [e, pk_tn (by omega), Nat.mod_eq_of_lt (by omega)]
/-! THE JUDGEMENT: from the frame at pc with locals lv, stack st and the memory (n, V, R) the machine comes to Q. K holds the method's own data (nobody looks into it). -/
abbrev XS : Type := Program × Env × Room × State × MethodId × Array Value × List Frame × Method × Code
abbrev GS : Type := Launch × Nat × va_G × (Nat → Nat)
/-- the address of the memory's cell c; what the tables call Y k -/
def aG (G : GS) (c : Nat) : Nat := G.2.1 + c
def yG (G : GS) (k : Nat) : Nat := G.2.2.2 k
def Xw (K : XS) (G : GS) (cells slots : Nat) (Q : State → Prop) (n : Nat) (V : Nat → Int → Int) (R : Nat → Int → Option Nat) (pc : Nat) (lv : List (Nat × Value)) (st : List Value) : Prop := match K, G with
  | (p, e, Rm, s, m, args, below, meth, c), (l, b0, D, Y) => ∀ (H : Heap) (locs : List Loc) (ls : Array Slot), GW b0 D Y n V R H → va_S (aA b0) s.heap H locs → lv_has ls c.maxLocals lv → W p l e Rm s m args below meth c H locs cells slots Q (F0 m pc ls st)
def Cx (K : XS) (G : GS) (cc : ByteArray) (own : String) (nL : Nat) (ret : Option FieldType) (rm : Room) : Prop := match K, G with
  | (p, e, Rm, s, m, args, below, meth, c), (l, b0, D, Y) => CallFix p m c cc nL s args BW own ∧ meth.locks = false ∧ Kx b0 D Y s s.heap ∧ meth.sig.returnType = ret ∧ Rm = rm
section XR
variable {K : XS} {G : GS} {cells slots : Nat} {Q : State → Prop} {n : Nat} {V : Nat → Int → Int} {R : Nat → Int → Option Nat} {cc : ByteArray} {own : String} {nL : Nat} {ret : Option FieldType} {rm : Room} {pc : Nat} {lv lv' : List (Nat × Value)} {st : List Value}
theorem x_iconst (C : Cx K G cc own nL ret rm) {z : Int} (hd : decode cc pc = .ok (.iconst z, 1)) (k : Xw K G cells slots Q n V R (pc + 1) lv (.int (iI z) :: st)) : Xw K G cells slots Q n V R pc lv (st) := by
  obtain ⟨p, e, Rm, s, m, args, below, meth, c⟩ := K
  obtain ⟨l, b0, D, Y⟩ := G
  obtain ⟨⟨hx, hb, hml, ho, hts⟩, hlk, hkx, hret, hRm⟩ := C
  intro H locs ls g hs hl
  exact lv_iconst hx hb hd rfl (k H locs ls g hs hl)
theorem x_bipush (C : Cx K G cc own nL ret rm) {z w : Int} (hd : decode cc pc = .ok (.bipush z, 2)) (hv : (Int8.ofInt z).toInt32 = iI w) (k : Xw K G cells slots Q n V R (pc + 2) lv (.int (iI w) :: st)) : Xw K G cells slots Q n V R pc lv (st) := by
  obtain ⟨p, e, Rm, s, m, args, below, meth, c⟩ := K
  obtain ⟨l, b0, D, Y⟩ := G
  obtain ⟨⟨hx, hb, hml, ho, hts⟩, hlk, hkx, hret, hRm⟩ := C
  intro H locs ls g hs hl
  exact lv_bipush hx hb hd hv (k H locs ls g hs hl)
theorem x_sipush (C : Cx K G cc own nL ret rm) {z w : Int} (hd : decode cc pc = .ok (.sipush z, 3)) (hv : (Int16.ofInt z).toInt32 = iI w) (k : Xw K G cells slots Q n V R (pc + 3) lv (.int (iI w) :: st)) : Xw K G cells slots Q n V R pc lv (st) := by
  obtain ⟨p, e, Rm, s, m, args, below, meth, c⟩ := K
  obtain ⟨l, b0, D, Y⟩ := G
  obtain ⟨⟨hx, hb, hml, ho, hts⟩, hlk, hkx, hret, hRm⟩ := C
  intro H locs ls g hs hl
  exact lv_sipush hx hb hd hv (k H locs ls g hs hl)
theorem x_lconst (C : Cx K G cc own nL ret rm) {z : Fin 2} {w : Int} (hd : decode cc pc = .ok (.lconst z, 1)) (hv : Int64.ofNat (z : Nat) = jI w) (k : Xw K G cells slots Q n V R (pc + 1) lv (.long (jI w) :: st)) : Xw K G cells slots Q n V R pc lv (st) := by
  obtain ⟨p, e, Rm, s, m, args, below, meth, c⟩ := K
  obtain ⟨l, b0, D, Y⟩ := G
  obtain ⟨⟨hx, hb, hml, ho, hts⟩, hlk, hkx, hret, hRm⟩ := C
  intro H locs ls g hs hl
  exact lv_lconst hx hb hd hv (k H locs ls g hs hl)
theorem x_ldc (C : Cx K G cc own nL ret rm) {ix : Nat} {w : Int} {v : Int32} (hd : decode cc pc = .ok (.ldc ix, 2)) (hw : Cond.constant own ix v ∈ BW) (hv : v = iI w) (k : Xw K G cells slots Q n V R (pc + 2) lv (.int (iI w) :: st)) : Xw K G cells slots Q n V R pc lv (st) := by
  obtain ⟨p, e, Rm, s, m, args, below, meth, c⟩ := K
  obtain ⟨l, b0, D, Y⟩ := G
  obtain ⟨⟨hx, hb, hml, ho, hts⟩, hlk, hkx, hret, hRm⟩ := C
  intro H locs ls g hs hl
  subst hv; exact lv_ldc hx hb ho (hts _ hw) hd (k H locs ls g hs hl)
theorem x_ldcw (C : Cx K G cc own nL ret rm) {ix : Nat} {w : Int} {v : Int32} (hd : decode cc pc = .ok (.ldc_w ix, 3)) (hw : Cond.constant own ix v ∈ BW) (hv : v = iI w) (k : Xw K G cells slots Q n V R (pc + 3) lv (.int (iI w) :: st)) : Xw K G cells slots Q n V R pc lv (st) := by
  obtain ⟨p, e, Rm, s, m, args, below, meth, c⟩ := K
  obtain ⟨l, b0, D, Y⟩ := G
  obtain ⟨⟨hx, hb, hml, ho, hts⟩, hlk, hkx, hret, hRm⟩ := C
  intro H locs ls g hs hl
  subst hv; exact lv_ldcw hx hb ho (hts _ hw) hd (k H locs ls g hs hl)
theorem x_ldc2 (C : Cx K G cc own nL ret rm) {ix : Nat} {w : Int} {v : Int64} (hd : decode cc pc = .ok (.ldc2_w ix, 3)) (hw : Cond.constantLong own ix v ∈ BW) (hv : v = jI w) (k : Xw K G cells slots Q n V R (pc + 3) lv (.long (jI w) :: st)) : Xw K G cells slots Q n V R pc lv (st) := by
  obtain ⟨p, e, Rm, s, m, args, below, meth, c⟩ := K
  obtain ⟨l, b0, D, Y⟩ := G
  obtain ⟨⟨hx, hb, hml, ho, hts⟩, hlk, hkx, hret, hRm⟩ := C
  intro H locs ls g hs hl
  subst hv; exact lv_ldc2 hx hb ho (hts _ hw) hd (k H locs ls g hs hl)
theorem x_null (C : Cx K G cc own nL ret rm)  (hd : decode cc pc = .ok (.aconst_null, 1)) (k : Xw K G cells slots Q n V R (pc + 1) lv (.null :: st)) : Xw K G cells slots Q n V R pc lv (st) := by
  obtain ⟨p, e, Rm, s, m, args, below, meth, c⟩ := K
  obtain ⟨l, b0, D, Y⟩ := G
  obtain ⟨⟨hx, hb, hml, ho, hts⟩, hlk, hkx, hret, hRm⟩ := C
  intro H locs ls g hs hl
  exact lv_null hx hb hd (k H locs ls g hs hl)
theorem x_iload_n (C : Cx K G cc own nL ret rm) (i : Nat) {j : Fin 4} {q : Nat} {x : Int32} (hd : decode cc pc = .ok (.iload_n j, 1)) (hi : (j : Nat) = q) (hq : lv[i]? = some (q, .int x)) (k : Xw K G cells slots Q n V R (pc + 1) lv (.int x :: st)) : Xw K G cells slots Q n V R pc lv (st) := by
  obtain ⟨p, e, Rm, s, m, args, below, meth, c⟩ := K
  obtain ⟨l, b0, D, Y⟩ := G
  obtain ⟨⟨hx, hb, hml, ho, hts⟩, hlk, hkx, hret, hRm⟩ := C
  intro H locs ls g hs hl
  exact lv_iload_n hx hb hd hi (lv_at hl i hq) (k H locs ls g hs hl)
theorem x_iload (C : Cx K G cc own nL ret rm) (i : Nat) {q : Nat} {x : Int32} (hd : decode cc pc = .ok (.iload q, 2)) (hq : lv[i]? = some (q, .int x)) (k : Xw K G cells slots Q n V R (pc + 2) lv (.int x :: st)) : Xw K G cells slots Q n V R pc lv (st) := by
  obtain ⟨p, e, Rm, s, m, args, below, meth, c⟩ := K
  obtain ⟨l, b0, D, Y⟩ := G
  obtain ⟨⟨hx, hb, hml, ho, hts⟩, hlk, hkx, hret, hRm⟩ := C
  intro H locs ls g hs hl
  exact lv_iload hx hb hd (lv_at hl i hq) (k H locs ls g hs hl)
theorem x_lload_n (C : Cx K G cc own nL ret rm) (i : Nat) {j : Fin 4} {q : Nat} {x : Int64} (hd : decode cc pc = .ok (.lload_n j, 1)) (hi : (j : Nat) = q) (hq : lv[i]? = some (q, .long x)) (k : Xw K G cells slots Q n V R (pc + 1) lv (.long x :: st)) : Xw K G cells slots Q n V R pc lv (st) := by
  obtain ⟨p, e, Rm, s, m, args, below, meth, c⟩ := K
  obtain ⟨l, b0, D, Y⟩ := G
  obtain ⟨⟨hx, hb, hml, ho, hts⟩, hlk, hkx, hret, hRm⟩ := C
  intro H locs ls g hs hl
  exact lv_lload_n hx hb hd hi (lv_at hl i hq) (k H locs ls g hs hl)
theorem x_lload (C : Cx K G cc own nL ret rm) (i : Nat) {q : Nat} {x : Int64} (hd : decode cc pc = .ok (.lload q, 2)) (hq : lv[i]? = some (q, .long x)) (k : Xw K G cells slots Q n V R (pc + 2) lv (.long x :: st)) : Xw K G cells slots Q n V R pc lv (st) := by
  obtain ⟨p, e, Rm, s, m, args, below, meth, c⟩ := K
  obtain ⟨l, b0, D, Y⟩ := G
  obtain ⟨⟨hx, hb, hml, ho, hts⟩, hlk, hkx, hret, hRm⟩ := C
  intro H locs ls g hs hl
  exact lv_lload hx hb hd (lv_at hl i hq) (k H locs ls g hs hl)
theorem x_aload_n (C : Cx K G cc own nL ret rm) (i : Nat) {j : Fin 4} {q : Nat} {x : Nat} (hd : decode cc pc = .ok (.aload_n j, 1)) (hi : (j : Nat) = q) (hq : lv[i]? = some (q, .ref x)) (k : Xw K G cells slots Q n V R (pc + 1) lv (.ref x :: st)) : Xw K G cells slots Q n V R pc lv (st) := by
  obtain ⟨p, e, Rm, s, m, args, below, meth, c⟩ := K
  obtain ⟨l, b0, D, Y⟩ := G
  obtain ⟨⟨hx, hb, hml, ho, hts⟩, hlk, hkx, hret, hRm⟩ := C
  intro H locs ls g hs hl
  exact lv_aload_n hx hb hd hi (lv_at hl i hq) (k H locs ls g hs hl)
theorem x_aload (C : Cx K G cc own nL ret rm) (i : Nat) {q : Nat} {x : Nat} (hd : decode cc pc = .ok (.aload q, 2)) (hq : lv[i]? = some (q, .ref x)) (k : Xw K G cells slots Q n V R (pc + 2) lv (.ref x :: st)) : Xw K G cells slots Q n V R pc lv (st) := by
  obtain ⟨p, e, Rm, s, m, args, below, meth, c⟩ := K
  obtain ⟨l, b0, D, Y⟩ := G
  obtain ⟨⟨hx, hb, hml, ho, hts⟩, hlk, hkx, hret, hRm⟩ := C
  intro H locs ls g hs hl
  exact lv_aload hx hb hd (lv_at hl i hq) (k H locs ls g hs hl)
theorem x_aload_nN (C : Cx K G cc own nL ret rm) (i : Nat) {j : Fin 4} {q : Nat} (hd : decode cc pc = .ok (.aload_n j, 1)) (hi : (j : Nat) = q) (hq : lv[i]? = some (q, .null)) (k : Xw K G cells slots Q n V R (pc + 1) lv (.null :: st)) : Xw K G cells slots Q n V R pc lv (st) := by
  obtain ⟨p, e, Rm, s, m, args, below, meth, c⟩ := K
  obtain ⟨l, b0, D, Y⟩ := G
  obtain ⟨⟨hx, hb, hml, ho, hts⟩, hlk, hkx, hret, hRm⟩ := C
  intro H locs ls g hs hl
  exact lv_aload_nN hx hb hd hi (lv_at hl i hq) (k H locs ls g hs hl)
theorem x_aloadN (C : Cx K G cc own nL ret rm) (i : Nat) {q : Nat} (hd : decode cc pc = .ok (.aload q, 2)) (hq : lv[i]? = some (q, .null)) (k : Xw K G cells slots Q n V R (pc + 2) lv (.null :: st)) : Xw K G cells slots Q n V R pc lv (st) := by
  obtain ⟨p, e, Rm, s, m, args, below, meth, c⟩ := K
  obtain ⟨l, b0, D, Y⟩ := G
  obtain ⟨⟨hx, hb, hml, ho, hts⟩, hlk, hkx, hret, hRm⟩ := C
  intro H locs ls g hs hl
  exact lv_aloadN hx hb hd (lv_at hl i hq) (k H locs ls g hs hl)
theorem x_istore_n (C : Cx K G cc own nL ret rm) {j : Fin 4} {q : Nat} {x : Int32} (hd : decode cc pc = .ok (.istore_n j, 1)) (hi : (j : Nat) = q) (hn : q < nL) (hf : lst q (.int x) lv = lv') (k : Xw K G cells slots Q n V R (pc + 1) lv' (st)) : Xw K G cells slots Q n V R pc lv (.int x :: st) := by
  obtain ⟨p, e, Rm, s, m, args, below, meth, c⟩ := K
  obtain ⟨l, b0, D, Y⟩ := G
  obtain ⟨⟨hx, hb, hml, ho, hts⟩, hlk, hkx, hret, hRm⟩ := C
  intro H locs ls g hs hl
  exact lv_istore_n hx hb hd hi hl (by rw [hml]; exact hn) rfl (fun ls2 hl2 => k H locs ls2 g hs (by rw [← hf]; exact lin_has hl2))
theorem x_istore (C : Cx K G cc own nL ret rm) {q : Nat} {x : Int32} (hd : decode cc pc = .ok (.istore q, 2)) (hn : q < nL) (hf : lst q (.int x) lv = lv') (k : Xw K G cells slots Q n V R (pc + 2) lv' (st)) : Xw K G cells slots Q n V R pc lv (.int x :: st) := by
  obtain ⟨p, e, Rm, s, m, args, below, meth, c⟩ := K
  obtain ⟨l, b0, D, Y⟩ := G
  obtain ⟨⟨hx, hb, hml, ho, hts⟩, hlk, hkx, hret, hRm⟩ := C
  intro H locs ls g hs hl
  exact lv_istore hx hb hd hl (by rw [hml]; exact hn) rfl (fun ls2 hl2 => k H locs ls2 g hs (by rw [← hf]; exact lin_has hl2))
theorem x_astore_n (C : Cx K G cc own nL ret rm) {j : Fin 4} {q : Nat} {x : Nat} (hd : decode cc pc = .ok (.astore_n j, 1)) (hi : (j : Nat) = q) (hn : q < nL) (hf : lst q (.ref x) lv = lv') (k : Xw K G cells slots Q n V R (pc + 1) lv' (st)) : Xw K G cells slots Q n V R pc lv (.ref x :: st) := by
  obtain ⟨p, e, Rm, s, m, args, below, meth, c⟩ := K
  obtain ⟨l, b0, D, Y⟩ := G
  obtain ⟨⟨hx, hb, hml, ho, hts⟩, hlk, hkx, hret, hRm⟩ := C
  intro H locs ls g hs hl
  exact lv_astore_n hx hb hd hi hl (by rw [hml]; exact hn) rfl (fun ls2 hl2 => k H locs ls2 g hs (by rw [← hf]; exact lin_has hl2))
theorem x_astore (C : Cx K G cc own nL ret rm) {q : Nat} {x : Nat} (hd : decode cc pc = .ok (.astore q, 2)) (hn : q < nL) (hf : lst q (.ref x) lv = lv') (k : Xw K G cells slots Q n V R (pc + 2) lv' (st)) : Xw K G cells slots Q n V R pc lv (.ref x :: st) := by
  obtain ⟨p, e, Rm, s, m, args, below, meth, c⟩ := K
  obtain ⟨l, b0, D, Y⟩ := G
  obtain ⟨⟨hx, hb, hml, ho, hts⟩, hlk, hkx, hret, hRm⟩ := C
  intro H locs ls g hs hl
  exact lv_astore hx hb hd hl (by rw [hml]; exact hn) rfl (fun ls2 hl2 => k H locs ls2 g hs (by rw [← hf]; exact lin_has hl2))
theorem x_astore_nN (C : Cx K G cc own nL ret rm) {j : Fin 4} {q : Nat}  (hd : decode cc pc = .ok (.astore_n j, 1)) (hi : (j : Nat) = q) (hn : q < nL) (hf : lst q (.null) lv = lv') (k : Xw K G cells slots Q n V R (pc + 1) lv' (st)) : Xw K G cells slots Q n V R pc lv (.null :: st) := by
  obtain ⟨p, e, Rm, s, m, args, below, meth, c⟩ := K
  obtain ⟨l, b0, D, Y⟩ := G
  obtain ⟨⟨hx, hb, hml, ho, hts⟩, hlk, hkx, hret, hRm⟩ := C
  intro H locs ls g hs hl
  exact lv_astore_nN hx hb hd hi hl (by rw [hml]; exact hn) rfl (fun ls2 hl2 => k H locs ls2 g hs (by rw [← hf]; exact lin_has hl2))
theorem x_astoreN (C : Cx K G cc own nL ret rm) {q : Nat}  (hd : decode cc pc = .ok (.astore q, 2)) (hn : q < nL) (hf : lst q (.null) lv = lv') (k : Xw K G cells slots Q n V R (pc + 2) lv' (st)) : Xw K G cells slots Q n V R pc lv (.null :: st) := by
  obtain ⟨p, e, Rm, s, m, args, below, meth, c⟩ := K
  obtain ⟨l, b0, D, Y⟩ := G
  obtain ⟨⟨hx, hb, hml, ho, hts⟩, hlk, hkx, hret, hRm⟩ := C
  intro H locs ls g hs hl
  exact lv_astoreN hx hb hd hl (by rw [hml]; exact hn) rfl (fun ls2 hl2 => k H locs ls2 g hs (by rw [← hf]; exact lin_has hl2))
theorem x_iinc (C : Cx K G cc own nL ret rm) (i : Nat) {q : Nat} {z d : Int} (hd : decode cc pc = .ok (.iinc q d, 3)) (hq : lv[i]? = some (q, .int (iI z))) (hn : q < nL) (hf : lst q (.int (iI (z + d))) lv = lv') (k : Xw K G cells slots Q n V R (pc + 3) lv' (st)) : Xw K G cells slots Q n V R pc lv (st) := by
  obtain ⟨p, e, Rm, s, m, args, below, meth, c⟩ := K
  obtain ⟨l, b0, D, Y⟩ := G
  obtain ⟨⟨hx, hb, hml, ho, hts⟩, hlk, hkx, hret, hRm⟩ := C
  intro H locs ls g hs hl
  exact lv_iinc hx hb hd hl hq (show iI z + Int32.ofInt d = iI (z + d) from iI_add z d) (by rw [hml]; exact hn) rfl (fun ls2 hl2 => k H locs ls2 g hs (by rw [← hf]; exact lin_has hl2))
theorem x_sub (ks : List Nat) (h : lv_pick lv ks = lv') (k : Xw K G cells slots Q n V R pc lv' st) : Xw K G cells slots Q n V R pc lv st := by
  obtain ⟨p, e, Rm, s, m, args, below, meth, c⟩ := K
  obtain ⟨l, b0, D, Y⟩ := G
  intro H locs ls g hs hl
  exact k H locs ls g hs (lv_sub hl ks h)
theorem x_iadd (C : Cx K G cc own nL ret rm) {a b : Int} (hd : decode cc pc = .ok (.iadd, 1)) (k : Xw K G cells slots Q n V R (pc + 1) lv (.int (iI (a + b)) :: st)) : Xw K G cells slots Q n V R pc lv (.int (iI b) :: .int (iI a) :: st) := by
  obtain ⟨p, e, Rm, s, m, args, below, meth, c⟩ := K
  obtain ⟨l, b0, D, Y⟩ := G
  obtain ⟨⟨hx, hb, hml, ho, hts⟩, hlk, hkx, hret, hRm⟩ := C
  intro H locs ls g hs hl
  exact lv_iadd hx hb hd (by rw [iI_add]; exact (k H locs ls g hs hl))
theorem x_isub (C : Cx K G cc own nL ret rm) {a b : Int} (hd : decode cc pc = .ok (.isub, 1)) (k : Xw K G cells slots Q n V R (pc + 1) lv (.int (iI (a - b)) :: st)) : Xw K G cells slots Q n V R pc lv (.int (iI b) :: .int (iI a) :: st) := by
  obtain ⟨p, e, Rm, s, m, args, below, meth, c⟩ := K
  obtain ⟨l, b0, D, Y⟩ := G
  obtain ⟨⟨hx, hb, hml, ho, hts⟩, hlk, hkx, hret, hRm⟩ := C
  intro H locs ls g hs hl
  exact lv_isub hx hb hd (by rw [iI_sub]; exact (k H locs ls g hs hl))
theorem x_imul (C : Cx K G cc own nL ret rm) {a b : Int} (hd : decode cc pc = .ok (.imul, 1)) (k : Xw K G cells slots Q n V R (pc + 1) lv (.int (iI (a * b)) :: st)) : Xw K G cells slots Q n V R pc lv (.int (iI b) :: .int (iI a) :: st) := by
  obtain ⟨p, e, Rm, s, m, args, below, meth, c⟩ := K
  obtain ⟨l, b0, D, Y⟩ := G
  obtain ⟨⟨hx, hb, hml, ho, hts⟩, hlk, hkx, hret, hRm⟩ := C
  intro H locs ls g hs hl
  exact lv_imul hx hb hd (by rw [iI_mul]; exact (k H locs ls g hs hl))
theorem x_ineg (C : Cx K G cc own nL ret rm) {a : Int} (hd : decode cc pc = .ok (.ineg, 1)) (k : Xw K G cells slots Q n V R (pc + 1) lv (.int (iI (-a)) :: st)) : Xw K G cells slots Q n V R pc lv (.int (iI a) :: st) := by
  obtain ⟨p, e, Rm, s, m, args, below, meth, c⟩ := K
  obtain ⟨l, b0, D, Y⟩ := G
  obtain ⟨⟨hx, hb, hml, ho, hts⟩, hlk, hkx, hret, hRm⟩ := C
  intro H locs ls g hs hl
  exact lv_ineg hx hb hd (by rw [iI_neg]; exact (k H locs ls g hs hl))
theorem x_idiv (C : Cx K G cc own nL ret rm) {a b : Int} (hd : decode cc pc = .ok (.idiv, 1)) (ha : Rg a) (hb2 : Rg b) (h0 : 0 ≤ a) (h1 : 0 < b) (k : Xw K G cells slots Q n V R (pc + 1) lv (.int (iI (a / b)) :: st)) : Xw K G cells slots Q n V R pc lv (.int (iI b) :: .int (iI a) :: st) := by
  obtain ⟨p, e, Rm, s, m, args, below, meth, c⟩ := K
  obtain ⟨l, b0, D, Y⟩ := G
  obtain ⟨⟨hx, hb, hml, ho, hts⟩, hlk, hkx, hret, hRm⟩ := C
  intro H locs ls g hs hl
  exact lv_idiv hx hb hd (iI_nz hb2 h1) (by rw [iI_div ha hb2 h0 h1]; exact (k H locs ls g hs hl))
theorem x_itdiv (C : Cx K G cc own nL ret rm) {a b : Int} (hd : decode cc pc = .ok (.idiv, 1)) (ha : Rg a) (hb2 : Rg b) (h1 : 0 < b) (k : Xw K G cells slots Q n V R (pc + 1) lv (.int (iI (a.tdiv b)) :: st)) : Xw K G cells slots Q n V R pc lv (.int (iI b) :: .int (iI a) :: st) := by
  obtain ⟨p, e, Rm, s, m, args, below, meth, c⟩ := K
  obtain ⟨l, b0, D, Y⟩ := G
  obtain ⟨⟨hx, hb, hml, ho, hts⟩, hlk, hkx, hret, hRm⟩ := C
  intro H locs ls g hs hl
  exact lv_idiv hx hb hd (iI_nz hb2 h1) (by rw [iI_tdiv ha hb2 h1]; exact (k H locs ls g hs hl))
theorem x_irem (C : Cx K G cc own nL ret rm) {a b : Int} (hd : decode cc pc = .ok (.irem, 1)) (ha : Rg a) (hb2 : Rg b) (h0 : 0 ≤ a) (h1 : 0 < b) (k : Xw K G cells slots Q n V R (pc + 1) lv (.int (iI (a % b)) :: st)) : Xw K G cells slots Q n V R pc lv (.int (iI b) :: .int (iI a) :: st) := by
  obtain ⟨p, e, Rm, s, m, args, below, meth, c⟩ := K
  obtain ⟨l, b0, D, Y⟩ := G
  obtain ⟨⟨hx, hb, hml, ho, hts⟩, hlk, hkx, hret, hRm⟩ := C
  intro H locs ls g hs hl
  exact lv_irem hx hb hd (iI_nz hb2 h1) (by rw [iI_rem ha hb2 h0 h1]; exact (k H locs ls g hs hl))
theorem x_itrem (C : Cx K G cc own nL ret rm) {a b : Int} (hd : decode cc pc = .ok (.irem, 1)) (ha : Rg a) (hb2 : Rg b) (h1 : 0 < b) (k : Xw K G cells slots Q n V R (pc + 1) lv (.int (iI (a.tmod b)) :: st)) : Xw K G cells slots Q n V R pc lv (.int (iI b) :: .int (iI a) :: st) := by
  obtain ⟨p, e, Rm, s, m, args, below, meth, c⟩ := K
  obtain ⟨l, b0, D, Y⟩ := G
  obtain ⟨⟨hx, hb, hml, ho, hts⟩, hlk, hkx, hret, hRm⟩ := C
  intro H locs ls g hs hl
  exact lv_irem hx hb hd (iI_nz hb2 h1) (by rw [iI_trem ha hb2 h1]; exact (k H locs ls g hs hl))
theorem x_iand (C : Cx K G cc own nL ret rm) {a b : Int} (hd : decode cc pc = .ok (.iand, 1)) (k : Xw K G cells slots Q n V R (pc + 1) lv (.int (iI (zAnd a b)) :: st)) : Xw K G cells slots Q n V R pc lv (.int (iI b) :: .int (iI a) :: st) := by
  obtain ⟨p, e, Rm, s, m, args, below, meth, c⟩ := K
  obtain ⟨l, b0, D, Y⟩ := G
  obtain ⟨⟨hx, hb, hml, ho, hts⟩, hlk, hkx, hret, hRm⟩ := C
  intro H locs ls g hs hl
  exact lv_iand hx hb hd (by rw [← zAnd_i]; exact (k H locs ls g hs hl))
theorem x_ior (C : Cx K G cc own nL ret rm) {a b : Int} (hd : decode cc pc = .ok (.ior, 1)) (k : Xw K G cells slots Q n V R (pc + 1) lv (.int (iI (zOr a b)) :: st)) : Xw K G cells slots Q n V R pc lv (.int (iI b) :: .int (iI a) :: st) := by
  obtain ⟨p, e, Rm, s, m, args, below, meth, c⟩ := K
  obtain ⟨l, b0, D, Y⟩ := G
  obtain ⟨⟨hx, hb, hml, ho, hts⟩, hlk, hkx, hret, hRm⟩ := C
  intro H locs ls g hs hl
  exact lv_ior hx hb hd (by rw [← zOr_i]; exact (k H locs ls g hs hl))
theorem x_ixor (C : Cx K G cc own nL ret rm) {a b : Int} (hd : decode cc pc = .ok (.ixor, 1)) (k : Xw K G cells slots Q n V R (pc + 1) lv (.int (iI (zXor a b)) :: st)) : Xw K G cells slots Q n V R pc lv (.int (iI b) :: .int (iI a) :: st) := by
  obtain ⟨p, e, Rm, s, m, args, below, meth, c⟩ := K
  obtain ⟨l, b0, D, Y⟩ := G
  obtain ⟨⟨hx, hb, hml, ho, hts⟩, hlk, hkx, hret, hRm⟩ := C
  intro H locs ls g hs hl
  exact lv_ixor hx hb hd (by rw [← zXor_i]; exact (k H locs ls g hs hl))
theorem x_ishl (C : Cx K G cc own nL ret rm) {a b : Int} (hd : decode cc pc = .ok (.ishl, 1)) (k : Xw K G cells slots Q n V R (pc + 1) lv (.int (iI (zShl a b)) :: st)) : Xw K G cells slots Q n V R pc lv (.int (iI b) :: .int (iI a) :: st) := by
  obtain ⟨p, e, Rm, s, m, args, below, meth, c⟩ := K
  obtain ⟨l, b0, D, Y⟩ := G
  obtain ⟨⟨hx, hb, hml, ho, hts⟩, hlk, hkx, hret, hRm⟩ := C
  intro H locs ls g hs hl
  exact lv_ishl hx hb hd (by rw [← zShl_i]; exact (k H locs ls g hs hl))
theorem x_ishr (C : Cx K G cc own nL ret rm) {a b : Int} (hd : decode cc pc = .ok (.ishr, 1)) (k : Xw K G cells slots Q n V R (pc + 1) lv (.int (iI (zShr a b)) :: st)) : Xw K G cells slots Q n V R pc lv (.int (iI b) :: .int (iI a) :: st) := by
  obtain ⟨p, e, Rm, s, m, args, below, meth, c⟩ := K
  obtain ⟨l, b0, D, Y⟩ := G
  obtain ⟨⟨hx, hb, hml, ho, hts⟩, hlk, hkx, hret, hRm⟩ := C
  intro H locs ls g hs hl
  exact lv_ishr hx hb hd (by rw [← zShr_i]; exact (k H locs ls g hs hl))
theorem x_iushr (C : Cx K G cc own nL ret rm) {a b : Int} (hd : decode cc pc = .ok (.iushr, 1)) (k : Xw K G cells slots Q n V R (pc + 1) lv (.int (iI (zUshr a b)) :: st)) : Xw K G cells slots Q n V R pc lv (.int (iI b) :: .int (iI a) :: st) := by
  obtain ⟨p, e, Rm, s, m, args, below, meth, c⟩ := K
  obtain ⟨l, b0, D, Y⟩ := G
  obtain ⟨⟨hx, hb, hml, ho, hts⟩, hlk, hkx, hret, hRm⟩ := C
  intro H locs ls g hs hl
  exact lv_iushr hx hb hd (zUshr_i a b).symm (k H locs ls g hs hl)
theorem x_i2l (C : Cx K G cc own nL ret rm) {a : Int} (hd : decode cc pc = .ok (.i2l, 1)) (ha : Rg a) (k : Xw K G cells slots Q n V R (pc + 1) lv (.long (jI a) :: st)) : Xw K G cells slots Q n V R pc lv (.int (iI a) :: st) := by
  obtain ⟨p, e, Rm, s, m, args, below, meth, c⟩ := K
  obtain ⟨l, b0, D, Y⟩ := G
  obtain ⟨⟨hx, hb, hml, ho, hts⟩, hlk, hkx, hret, hRm⟩ := C
  intro H locs ls g hs hl
  exact lv_i2l hx hb hd (iI_i2l ha) (k H locs ls g hs hl)
theorem x_l2i (C : Cx K G cc own nL ret rm) {a : Int} (hd : decode cc pc = .ok (.l2i, 1)) (ha : Rl a) (k : Xw K G cells slots Q n V R (pc + 1) lv (.int (iI (wr a)) :: st)) : Xw K G cells slots Q n V R pc lv (.long (jI a) :: st) := by
  obtain ⟨p, e, Rm, s, m, args, below, meth, c⟩ := K
  obtain ⟨l, b0, D, Y⟩ := G
  obtain ⟨⟨hx, hb, hml, ho, hts⟩, hlk, hkx, hret, hRm⟩ := C
  intro H locs ls g hs hl
  exact lv_l2i hx hb hd (jI_l2i ha) (k H locs ls g hs hl)
theorem x_i2c (C : Cx K G cc own nL ret rm) {a : Int} (hd : decode cc pc = .ok (.i2c, 1)) (ha : 0 ≤ a ∧ a < 65536) (k : Xw K G cells slots Q n V R (pc + 1) lv (.int (iI a) :: st)) : Xw K G cells slots Q n V R pc lv (.int (iI a) :: st) := by
  obtain ⟨p, e, Rm, s, m, args, below, meth, c⟩ := K
  obtain ⟨l, b0, D, Y⟩ := G
  obtain ⟨⟨hx, hb, hml, ho, hts⟩, hlk, hkx, hret, hRm⟩ := C
  intro H locs ls g hs hl
  exact lv_i2c hx hb hd (iI_i2c ha) (k H locs ls g hs hl)
theorem x_lcmp (C : Cx K G cc own nL ret rm) {a b : Int} (hd : decode cc pc = .ok (.lcmp, 1)) (ha : Rl a) (hb2 : Rl b) (k : Xw K G cells slots Q n V R (pc + 1) lv (.int (iI (zCmp a b)) :: st)) : Xw K G cells slots Q n V R pc lv (.long (jI b) :: .long (jI a) :: st) := by
  obtain ⟨p, e, Rm, s, m, args, below, meth, c⟩ := K
  obtain ⟨l, b0, D, Y⟩ := G
  obtain ⟨⟨hx, hb, hml, ho, hts⟩, hlk, hkx, hret, hRm⟩ := C
  intro H locs ls g hs hl
  exact W.lcmp hx hb hd (by rw [jI_cmp ha hb2]; exact (k H locs ls g hs hl))
theorem x_dup (C : Cx K G cc own nL ret rm) {v : Value} (hd : decode cc pc = .ok (.dup, 1)) (hv : v.category = 1) (k : Xw K G cells slots Q n V R (pc + 1) lv (v :: v :: st)) : Xw K G cells slots Q n V R pc lv (v :: st) := by
  obtain ⟨p, e, Rm, s, m, args, below, meth, c⟩ := K
  obtain ⟨l, b0, D, Y⟩ := G
  obtain ⟨⟨hx, hb, hml, ho, hts⟩, hlk, hkx, hret, hRm⟩ := C
  intro H locs ls g hs hl
  exact lv_dup hx hb hd hv (k H locs ls g hs hl)
theorem x_pop (C : Cx K G cc own nL ret rm) {v : Value} (hd : decode cc pc = .ok (.pop, 1)) (hv : v.category = 1) (k : Xw K G cells slots Q n V R (pc + 1) lv (st)) : Xw K G cells slots Q n V R pc lv (v :: st) := by
  obtain ⟨p, e, Rm, s, m, args, below, meth, c⟩ := K
  obtain ⟨l, b0, D, Y⟩ := G
  obtain ⟨⟨hx, hb, hml, ho, hts⟩, hlk, hkx, hret, hRm⟩ := C
  intro H locs ls g hs hl
  exact lv_pop hx hb hd hv (k H locs ls g hs hl)
theorem x_icmp_eq (C : Cx K G cc own nL ret rm) {a b off : Int} {tgt : Nat} (hd : decode cc pc = .ok (.if_icmp .eq off, 3)) (ht : (pc : Int) + off = (tgt : Int)) (ha : Rg a) (hb2 : Rg b) (k1 : (a = b) → Xw K G cells slots Q n V R tgt lv (st)) (k2 : (¬ a = b) → Xw K G cells slots Q n V R (pc + 3) lv (st)) : Xw K G cells slots Q n V R pc lv (.int (iI b) :: .int (iI a) :: st) := by
  obtain ⟨p, e, Rm, s, m, args, below, meth, c⟩ := K
  obtain ⟨l, b0, D, Y⟩ := G
  obtain ⟨⟨hx, hb, hml, ho, hts⟩, hlk, hkx, hret, hRm⟩ := C
  intro H locs ls g hs hl
  exact lv_icmp_eq hx hb hd ht (fun q => k1 ((iI_eq ha hb2).mp q) H locs ls g hs hl) (fun q => k2 (fun z => q ((iI_eq ha hb2).mpr z)) H locs ls g hs hl)
theorem x_if_eq (C : Cx K G cc own nL ret rm) {a off : Int} {tgt : Nat} (hd : decode cc pc = .ok (.ifCond .eq off, 3)) (ht : (pc : Int) + off = (tgt : Int)) (ha : Rg a) (k1 : (a = 0) → Xw K G cells slots Q n V R tgt lv (st)) (k2 : (¬ a = 0) → Xw K G cells slots Q n V R (pc + 3) lv (st)) : Xw K G cells slots Q n V R pc lv (.int (iI a) :: st) := by
  obtain ⟨p, e, Rm, s, m, args, below, meth, c⟩ := K
  obtain ⟨l, b0, D, Y⟩ := G
  obtain ⟨⟨hx, hb, hml, ho, hts⟩, hlk, hkx, hret, hRm⟩ := C
  intro H locs ls g hs hl
  have hb2 : Rg 0 := by constructor <;> omega
  exact lv_if_eq hx hb hd ht (fun q => k1 (by rw [iI_0] at q; exact (iI_eq ha hb2).mp q) H locs ls g hs hl) (fun q => k2 (by rw [iI_0] at q; exact fun z => q ((iI_eq ha hb2).mpr z)) H locs ls g hs hl)
theorem x_icmp_ne (C : Cx K G cc own nL ret rm) {a b off : Int} {tgt : Nat} (hd : decode cc pc = .ok (.if_icmp .ne off, 3)) (ht : (pc : Int) + off = (tgt : Int)) (ha : Rg a) (hb2 : Rg b) (k1 : (¬ a = b) → Xw K G cells slots Q n V R tgt lv (st)) (k2 : (a = b) → Xw K G cells slots Q n V R (pc + 3) lv (st)) : Xw K G cells slots Q n V R pc lv (.int (iI b) :: .int (iI a) :: st) := by
  obtain ⟨p, e, Rm, s, m, args, below, meth, c⟩ := K
  obtain ⟨l, b0, D, Y⟩ := G
  obtain ⟨⟨hx, hb, hml, ho, hts⟩, hlk, hkx, hret, hRm⟩ := C
  intro H locs ls g hs hl
  exact lv_icmp_ne hx hb hd ht (fun q => k1 (fun z => q ((iI_eq ha hb2).mpr z)) H locs ls g hs hl) (fun q => k2 ((iI_eq ha hb2).mp q) H locs ls g hs hl)
theorem x_if_ne (C : Cx K G cc own nL ret rm) {a off : Int} {tgt : Nat} (hd : decode cc pc = .ok (.ifCond .ne off, 3)) (ht : (pc : Int) + off = (tgt : Int)) (ha : Rg a) (k1 : (¬ a = 0) → Xw K G cells slots Q n V R tgt lv (st)) (k2 : (a = 0) → Xw K G cells slots Q n V R (pc + 3) lv (st)) : Xw K G cells slots Q n V R pc lv (.int (iI a) :: st) := by
  obtain ⟨p, e, Rm, s, m, args, below, meth, c⟩ := K
  obtain ⟨l, b0, D, Y⟩ := G
  obtain ⟨⟨hx, hb, hml, ho, hts⟩, hlk, hkx, hret, hRm⟩ := C
  intro H locs ls g hs hl
  have hb2 : Rg 0 := by constructor <;> omega
  exact lv_if_ne hx hb hd ht (fun q => k1 (by rw [iI_0] at q; exact fun z => q ((iI_eq ha hb2).mpr z)) H locs ls g hs hl) (fun q => k2 (by rw [iI_0] at q; exact (iI_eq ha hb2).mp q) H locs ls g hs hl)
theorem x_icmp_lt (C : Cx K G cc own nL ret rm) {a b off : Int} {tgt : Nat} (hd : decode cc pc = .ok (.if_icmp .lt off, 3)) (ht : (pc : Int) + off = (tgt : Int)) (ha : Rg a) (hb2 : Rg b) (k1 : (a < b) → Xw K G cells slots Q n V R tgt lv (st)) (k2 : (b ≤ a) → Xw K G cells slots Q n V R (pc + 3) lv (st)) : Xw K G cells slots Q n V R pc lv (.int (iI b) :: .int (iI a) :: st) := by
  obtain ⟨p, e, Rm, s, m, args, below, meth, c⟩ := K
  obtain ⟨l, b0, D, Y⟩ := G
  obtain ⟨⟨hx, hb, hml, ho, hts⟩, hlk, hkx, hret, hRm⟩ := C
  intro H locs ls g hs hl
  exact lv_icmp_lt hx hb hd ht (fun q => k1 ((iI_lt ha hb2).mp q) H locs ls g hs hl) (fun q => k2 (Int.not_lt.mp (fun z => q ((iI_lt ha hb2).mpr z))) H locs ls g hs hl)
theorem x_if_lt (C : Cx K G cc own nL ret rm) {a off : Int} {tgt : Nat} (hd : decode cc pc = .ok (.ifCond .lt off, 3)) (ht : (pc : Int) + off = (tgt : Int)) (ha : Rg a) (k1 : (a < 0) → Xw K G cells slots Q n V R tgt lv (st)) (k2 : (0 ≤ a) → Xw K G cells slots Q n V R (pc + 3) lv (st)) : Xw K G cells slots Q n V R pc lv (.int (iI a) :: st) := by
  obtain ⟨p, e, Rm, s, m, args, below, meth, c⟩ := K
  obtain ⟨l, b0, D, Y⟩ := G
  obtain ⟨⟨hx, hb, hml, ho, hts⟩, hlk, hkx, hret, hRm⟩ := C
  intro H locs ls g hs hl
  have hb2 : Rg 0 := by constructor <;> omega
  exact lv_if_lt hx hb hd ht (fun q => k1 (by rw [iI_0] at q; exact (iI_lt ha hb2).mp q) H locs ls g hs hl) (fun q => k2 (by rw [iI_0] at q; exact Int.not_lt.mp (fun z => q ((iI_lt ha hb2).mpr z))) H locs ls g hs hl)
theorem x_icmp_ge (C : Cx K G cc own nL ret rm) {a b off : Int} {tgt : Nat} (hd : decode cc pc = .ok (.if_icmp .ge off, 3)) (ht : (pc : Int) + off = (tgt : Int)) (ha : Rg a) (hb2 : Rg b) (k1 : (b ≤ a) → Xw K G cells slots Q n V R tgt lv (st)) (k2 : (a < b) → Xw K G cells slots Q n V R (pc + 3) lv (st)) : Xw K G cells slots Q n V R pc lv (.int (iI b) :: .int (iI a) :: st) := by
  obtain ⟨p, e, Rm, s, m, args, below, meth, c⟩ := K
  obtain ⟨l, b0, D, Y⟩ := G
  obtain ⟨⟨hx, hb, hml, ho, hts⟩, hlk, hkx, hret, hRm⟩ := C
  intro H locs ls g hs hl
  exact lv_icmp_ge hx hb hd ht (fun q => k1 ((iI_le hb2 ha).mp q) H locs ls g hs hl) (fun q => k2 (Int.not_le.mp (fun z => q ((iI_le hb2 ha).mpr z))) H locs ls g hs hl)
theorem x_if_ge (C : Cx K G cc own nL ret rm) {a off : Int} {tgt : Nat} (hd : decode cc pc = .ok (.ifCond .ge off, 3)) (ht : (pc : Int) + off = (tgt : Int)) (ha : Rg a) (k1 : (0 ≤ a) → Xw K G cells slots Q n V R tgt lv (st)) (k2 : (a < 0) → Xw K G cells slots Q n V R (pc + 3) lv (st)) : Xw K G cells slots Q n V R pc lv (.int (iI a) :: st) := by
  obtain ⟨p, e, Rm, s, m, args, below, meth, c⟩ := K
  obtain ⟨l, b0, D, Y⟩ := G
  obtain ⟨⟨hx, hb, hml, ho, hts⟩, hlk, hkx, hret, hRm⟩ := C
  intro H locs ls g hs hl
  have hb2 : Rg 0 := by constructor <;> omega
  exact lv_if_ge hx hb hd ht (fun q => k1 (by rw [iI_0] at q; exact (iI_le hb2 ha).mp q) H locs ls g hs hl) (fun q => k2 (by rw [iI_0] at q; exact Int.not_le.mp (fun z => q ((iI_le hb2 ha).mpr z))) H locs ls g hs hl)
theorem x_icmp_gt (C : Cx K G cc own nL ret rm) {a b off : Int} {tgt : Nat} (hd : decode cc pc = .ok (.if_icmp .gt off, 3)) (ht : (pc : Int) + off = (tgt : Int)) (ha : Rg a) (hb2 : Rg b) (k1 : (b < a) → Xw K G cells slots Q n V R tgt lv (st)) (k2 : (a ≤ b) → Xw K G cells slots Q n V R (pc + 3) lv (st)) : Xw K G cells slots Q n V R pc lv (.int (iI b) :: .int (iI a) :: st) := by
  obtain ⟨p, e, Rm, s, m, args, below, meth, c⟩ := K
  obtain ⟨l, b0, D, Y⟩ := G
  obtain ⟨⟨hx, hb, hml, ho, hts⟩, hlk, hkx, hret, hRm⟩ := C
  intro H locs ls g hs hl
  exact lv_icmp_gt hx hb hd ht (fun q => k1 ((iI_lt hb2 ha).mp q) H locs ls g hs hl) (fun q => k2 (Int.not_lt.mp (fun z => q ((iI_lt hb2 ha).mpr z))) H locs ls g hs hl)
theorem x_if_gt (C : Cx K G cc own nL ret rm) {a off : Int} {tgt : Nat} (hd : decode cc pc = .ok (.ifCond .gt off, 3)) (ht : (pc : Int) + off = (tgt : Int)) (ha : Rg a) (k1 : (0 < a) → Xw K G cells slots Q n V R tgt lv (st)) (k2 : (a ≤ 0) → Xw K G cells slots Q n V R (pc + 3) lv (st)) : Xw K G cells slots Q n V R pc lv (.int (iI a) :: st) := by
  obtain ⟨p, e, Rm, s, m, args, below, meth, c⟩ := K
  obtain ⟨l, b0, D, Y⟩ := G
  obtain ⟨⟨hx, hb, hml, ho, hts⟩, hlk, hkx, hret, hRm⟩ := C
  intro H locs ls g hs hl
  have hb2 : Rg 0 := by constructor <;> omega
  exact lv_if_gt hx hb hd ht (fun q => k1 (by rw [iI_0] at q; exact (iI_lt hb2 ha).mp q) H locs ls g hs hl) (fun q => k2 (by rw [iI_0] at q; exact Int.not_lt.mp (fun z => q ((iI_lt hb2 ha).mpr z))) H locs ls g hs hl)
theorem x_icmp_le (C : Cx K G cc own nL ret rm) {a b off : Int} {tgt : Nat} (hd : decode cc pc = .ok (.if_icmp .le off, 3)) (ht : (pc : Int) + off = (tgt : Int)) (ha : Rg a) (hb2 : Rg b) (k1 : (a ≤ b) → Xw K G cells slots Q n V R tgt lv (st)) (k2 : (b < a) → Xw K G cells slots Q n V R (pc + 3) lv (st)) : Xw K G cells slots Q n V R pc lv (.int (iI b) :: .int (iI a) :: st) := by
  obtain ⟨p, e, Rm, s, m, args, below, meth, c⟩ := K
  obtain ⟨l, b0, D, Y⟩ := G
  obtain ⟨⟨hx, hb, hml, ho, hts⟩, hlk, hkx, hret, hRm⟩ := C
  intro H locs ls g hs hl
  exact lv_icmp_le hx hb hd ht (fun q => k1 ((iI_le ha hb2).mp q) H locs ls g hs hl) (fun q => k2 (Int.not_le.mp (fun z => q ((iI_le ha hb2).mpr z))) H locs ls g hs hl)
theorem x_if_le (C : Cx K G cc own nL ret rm) {a off : Int} {tgt : Nat} (hd : decode cc pc = .ok (.ifCond .le off, 3)) (ht : (pc : Int) + off = (tgt : Int)) (ha : Rg a) (k1 : (a ≤ 0) → Xw K G cells slots Q n V R tgt lv (st)) (k2 : (0 < a) → Xw K G cells slots Q n V R (pc + 3) lv (st)) : Xw K G cells slots Q n V R pc lv (.int (iI a) :: st) := by
  obtain ⟨p, e, Rm, s, m, args, below, meth, c⟩ := K
  obtain ⟨l, b0, D, Y⟩ := G
  obtain ⟨⟨hx, hb, hml, ho, hts⟩, hlk, hkx, hret, hRm⟩ := C
  intro H locs ls g hs hl
  have hb2 : Rg 0 := by constructor <;> omega
  exact lv_if_le hx hb hd ht (fun q => k1 (by rw [iI_0] at q; exact (iI_le ha hb2).mp q) H locs ls g hs hl) (fun q => k2 (by rw [iI_0] at q; exact Int.not_le.mp (fun z => q ((iI_le ha hb2).mpr z))) H locs ls g hs hl)
theorem x_goto (C : Cx K G cc own nL ret rm) {off : Int} {tgt : Nat} (hd : decode cc pc = .ok (.goto off, 3)) (ht : (pc : Int) + off = (tgt : Int)) (k : Xw K G cells slots Q n V R tgt lv (st)) : Xw K G cells slots Q n V R pc lv (st) := by
  obtain ⟨p, e, Rm, s, m, args, below, meth, c⟩ := K
  obtain ⟨l, b0, D, Y⟩ := G
  obtain ⟨⟨hx, hb, hml, ho, hts⟩, hlk, hkx, hret, hRm⟩ := C
  intro H locs ls g hs hl
  exact lv_goto hx hb hd ht (k H locs ls g hs hl)
theorem x_ifnonnull (C : Cx K G cc own nL ret rm) {x : Nat} {off : Int} {tgt : Nat} (hd : decode cc pc = .ok (.ifnonnull off, 3)) (ht : (pc : Int) + off = (tgt : Int)) (k : Xw K G cells slots Q n V R tgt lv (st)) : Xw K G cells slots Q n V R pc lv (.ref x :: st) := by
  obtain ⟨p, e, Rm, s, m, args, below, meth, c⟩ := K
  obtain ⟨l, b0, D, Y⟩ := G
  obtain ⟨⟨hx, hb, hml, ho, hts⟩, hlk, hkx, hret, hRm⟩ := C
  intro H locs ls g hs hl
  exact lv_ifnonnull hx hb hd ht (k H locs ls g hs hl)
theorem x_ifnull (C : Cx K G cc own nL ret rm) {x : Nat} {off : Int} (hd : decode cc pc = .ok (.ifnull off, 3)) (k : Xw K G cells slots Q n V R (pc + 3) lv (st)) : Xw K G cells slots Q n V R pc lv (.ref x :: st) := by
  obtain ⟨p, e, Rm, s, m, args, below, meth, c⟩ := K
  obtain ⟨l, b0, D, Y⟩ := G
  obtain ⟨⟨hx, hb, hml, ho, hts⟩, hlk, hkx, hret, hRm⟩ := C
  intro H locs ls g hs hl
  exact lv_ifnull hx hb hd (k H locs ls g hs hl)
theorem x_ifnonnullN (C : Cx K G cc own nL ret rm) {off : Int} (hd : decode cc pc = .ok (.ifnonnull off, 3)) (k : Xw K G cells slots Q n V R (pc + 3) lv (st)) : Xw K G cells slots Q n V R pc lv (.null :: st) := by
  obtain ⟨p, e, Rm, s, m, args, below, meth, c⟩ := K
  obtain ⟨l, b0, D, Y⟩ := G
  obtain ⟨⟨hx, hb, hml, ho, hts⟩, hlk, hkx, hret, hRm⟩ := C
  intro H locs ls g hs hl
  exact lv_ifnonnullN hx hb hd (k H locs ls g hs hl)
theorem x_ifnullN (C : Cx K G cc own nL ret rm) {off : Int} {tgt : Nat} (hd : decode cc pc = .ok (.ifnull off, 3)) (ht : (pc : Int) + off = (tgt : Int)) (k : Xw K G cells slots Q n V R tgt lv (st)) : Xw K G cells slots Q n V R pc lv (.null :: st) := by
  obtain ⟨p, e, Rm, s, m, args, below, meth, c⟩ := K
  obtain ⟨l, b0, D, Y⟩ := G
  obtain ⟨⟨hx, hb, hml, ho, hts⟩, hlk, hkx, hret, hRm⟩ := C
  intro H locs ls g hs hl
  exact lv_ifnullN hx hb hd ht (k H locs ls g hs hl)
theorem x_tout (C : Cx K G cc own nL ret rm) {dflt lo hi : Int} {offs : Array Int} {len : Nat} {a : Int} {tgt : Nat} (hd : decode cc pc = .ok (.tableswitch dflt lo hi offs, len)) (ht : (pc : Int) + dflt = (tgt : Int)) (ha : Rg a) (h : a < lo ∨ hi < a) (k : Xw K G cells slots Q n V R tgt lv (st)) : Xw K G cells slots Q n V R pc lv (.int (iI a) :: st) := by
  obtain ⟨p, e, Rm, s, m, args, below, meth, c⟩ := K
  obtain ⟨l, b0, D, Y⟩ := G
  obtain ⟨⟨hx, hb, hml, ho, hts⟩, hlk, hkx, hret, hRm⟩ := C
  intro H locs ls g hs hl
  exact lv_tableOut hx hb hd (by rw [iI_toInt ha]; exact h) ht (k H locs ls g hs hl)
theorem x_tin (C : Cx K G cc own nL ret rm) {dflt lo hi : Int} {offs : Array Int} {len : Nat} {a off : Int} {tgt : Nat} (z : Int) (hz : a = z) (hd : decode cc pc = .ok (.tableswitch dflt lo hi offs, len)) (hr : Rg z) (h1 : ¬ z < lo) (h2 : ¬ hi < z) (hof : offs[(z - lo).toNat]? = some off) (ht : (pc : Int) + off = (tgt : Int)) (k : Xw K G cells slots Q n V R tgt lv (st)) : Xw K G cells slots Q n V R pc lv (.int (iI a) :: st) := by
  obtain ⟨p, e, Rm, s, m, args, below, meth, c⟩ := K
  obtain ⟨l, b0, D, Y⟩ := G
  obtain ⟨⟨hx, hb, hml, ho, hts⟩, hlk, hkx, hret, hRm⟩ := C
  intro H locs ls g hs hl
  subst hz; exact lv_tableIn hx hb hd (by rw [iI_toInt hr]; exact h1) (by rw [iI_toInt hr]; exact h2) (by rw [iI_toInt hr]; exact hof) ht (k H locs ls g hs hl)
theorem x_look (C : Cx K G cc own nL ret rm) {dflt : Int} {ps : Array (Int × Int)} {len : Nat} {a off : Int} {tgt : Nat} (hd : decode cc pc = .ok (.lookupswitch dflt ps, len)) (hp : (ps.toList.zip (ps.toList.drop 1)).all (fun (a, next) => a.1 < next.1) = true) (ha : Rg a) (hof : Op.lookupswitch.offset ps.toList dflt a = off) (ht : (pc : Int) + off = (tgt : Int)) (k : Xw K G cells slots Q n V R tgt lv (st)) : Xw K G cells slots Q n V R pc lv (.int (iI a) :: st) := by
  obtain ⟨p, e, Rm, s, m, args, below, meth, c⟩ := K
  obtain ⟨l, b0, D, Y⟩ := G
  obtain ⟨⟨hx, hb, hml, ho, hts⟩, hlk, hkx, hret, hRm⟩ := C
  intro H locs ls g hs hl
  exact lv_lookup hx hb hd hp (by rw [iI_toInt ha]; exact hof) ht (k H locs ls g hs hl)
end XR
