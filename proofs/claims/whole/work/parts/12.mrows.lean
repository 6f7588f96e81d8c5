/-- the class's name by a fault's kind -/
def kNm (k : Nat) : String := match k with
  | 0 => "LogSawyer$Knot"
  | 1 => "LogSawyer$Loose"
  | 2 => "LogSawyer$Spike"
  | 3 => "LogSawyer$Shake"
  | 4 => "LogSawyer$Ring"
  | 5 => "LogSawyer$Rot"
  | _ => "LogSawyer$Stain"
theorem kcl_nm {z : Int} {r : vw_C} (h : vwCl[kcl z]? = some r) : ∃ k : Nat, k ≤ 6 ∧ r.1 = kNm k := by
  unfold kcl at h
  repeat' split at h
  · cases h; exact ⟨0, by omega, rfl⟩
  · cases h; exact ⟨1, by omega, rfl⟩
  · cases h; exact ⟨2, by omega, rfl⟩
  · cases h; exact ⟨3, by omega, rfl⟩
  · cases h; exact ⟨4, by omega, rfl⟩
  · cases h; exact ⟨5, by omega, rfl⟩
  · cases h; exact ⟨6, by omega, rfl⟩
theorem nw_cast {k : Nat} (h : k ≤ 6) : Cond.castable (kNm k) "LogSawyer$Fault" ∈ nwL := by
  rcases (show k = 0 ∨ k = 1 ∨ k = 2 ∨ k = 3 ∨ k = 4 ∨ k = 5 ∨ k = 6 by omega) with e | e | e | e | e | e | e <;> subst e
  · exact List.mem_of_getElem? (i := 0) rfl
  · exact List.mem_of_getElem? (i := 1) rfl
  · exact List.mem_of_getElem? (i := 2) rfl
  · exact List.mem_of_getElem? (i := 3) rfl
  · exact List.mem_of_getElem? (i := 4) rfl
  · exact List.mem_of_getElem? (i := 5) rfl
  · exact List.mem_of_getElem? (i := 6) rfl
/-- K is a constructor's -/
theorem nc21 {k N : Nat} (h : k ≠ 21) : ((k, N) : Nat × Nat).1 ≠ 21 := h
def CtorK (K : XS) : Prop := match K with
  | (_, _, _, _, _, _, _, meth, _) => meth.name = "<init>"
theorem asg_known {vm : Vm} {a b : ClassId} {ka : Class} (h : vm.assignable a b = true) (ha : vm.classes[a]? = some ka) : ∃ k : Class, vm.classes[b]? = some k := by
  by_cases e : a = b
  · subst e; exact ⟨ka, ha⟩
  · cases hb : vm.classes[b]? with
    | some k => exact ⟨k, rfl⟩
    | none => simp [Vm.assignable, Vm.assignableAux, e, ha, hb] at h
/-! classes of the cells that stand: what a row of theirs needs -/
def ClsOk (ci : Nat) (Cn : String) (T : u_T) (ty : Nat → FieldType) : Prop :=
  vwCl[ci]? = some (Cn, T, nF ci) ∧ (∀ w ∈ u_ws Cn T (nF ci), w ∈ BW) ∧ (∀ (b0 : Nat) (Y : Nat → Nat) (z : Nat) (f : Int → Int) (r : Int → Option Nat), entc b0 Y (ci, z) f r = .inr (ci, (List.range (nF ci)).map (fv b0 ci f r))) ∧
  (∀ k, k < nF ci → parseFieldDescriptor (T k).2.2.1 = some (ty k)) ∧ (∀ a, a < nF ci → ∀ b, b < nF ci → a ≠ b → (T a).2.1 ≠ (T b).2.1) ∧ ci ≠ 21
theorem ok_Piece : ClsOk 2 RX3 TX3 tyX3 := ⟨rfl, in_wsX30, fun _ _ _ _ _ => rfl, tyX3_ok, nmX3, by decide⟩
theorem ok_Saw : ClsOk 5 RX6 TX6 tyX6 := ⟨rfl, in_wsX60, fun _ _ _ _ _ => rfl, tyX6_ok, nmX6, by decide⟩
theorem ok_Yard : ClsOk 9 RX10 TX10 tyX10 := ⟨rfl, in_wsX100, fun _ _ _ _ _ => rfl, tyX10_ok, nmX10, by decide⟩
theorem ok_Class : ClsOk 10 RX11 TX11 tyX11 := ⟨rfl, in_wsX110, fun _ _ _ _ _ => rfl, tyX11_ok, nmX11, by decide⟩
theorem ok_Model : ClsOk 11 RX12 TX12 tyX12 := ⟨rfl, in_wsX120, fun _ _ _ _ _ => rfl, tyX12_ok, nmX12, by decide⟩
theorem fv_len (b0 ci : Nat) (f : Int → Int) (r : Int → Option Nat) : ((List.range (nF ci)).map (fv b0 ci f r)).length = nF ci := by simp
theorem fv_get {b0 ci : Nat} {f : Int → Int} {r : Int → Option Nat} {k : Nat} (h : k < nF ci) : ((List.range (nF ci)).map (fv b0 ci f r))[k]? = some (fv b0 ci f r k) := by
  rw [List.getElem?_map, List.getElem?_range h]; rfl
theorem fv_set {b0 ci : Nat} {f f' : Int → Int} {r r' : Int → Option Nat} {k : Nat} {v : Value} (h : k < nF ci) (hv : fv b0 ci f' r' k = v) (ho : ∀ j : Nat, j ≠ k → fv b0 ci f' r' j = fv b0 ci f r j) : ((List.range (nF ci)).map (fv b0 ci f r)).set k v = (List.range (nF ci)).map (fv b0 ci f' r') := by
  apply List.ext_getElem?
  intro i
  by_cases hi : i < nF ci
  · by_cases e : i = k
    · subst e
      rw [List.getElem?_set_self (by rw [fv_len]; exact hi), fv_get hi, hv]
    · rw [List.getElem?_set_ne (Ne.symm e), fv_get hi, fv_get hi, ho i e]
  · rw [List.getElem?_eq_none (by rw [List.length_set, fv_len]; omega), List.getElem?_eq_none (by rw [fv_len]; omega)]
/-- the classes of faults: all lay the same -/
theorem kcl_ok (z : Int) : ∃ (Cn : String) (T : u_T) (ty : Nat → FieldType), vwCl[kcl z]? = some (Cn, T, 3) ∧ (∀ w ∈ u_ws Cn T 3, w ∈ BW) ∧ (∀ k, T k = TX1 k) ∧ (∀ k, k < 3 → parseFieldDescriptor (T k).2.2.1 = some (ty k)) ∧ (∀ a, a < 3 → ∀ b, b < 3 → a ≠ b → (T a).2.1 ≠ (T b).2.1) := by
  unfold kcl
  repeat' split
  · exact ⟨RX1, TX1, tyX1, rfl, in_wsX10, fun _ => rfl, tyX1_ok, nmX1⟩
  · exact ⟨RX2, TX2, tyX2, rfl, in_wsX20, fun _ => rfl, tyX2_ok, nmX2⟩
  · exact ⟨RX8, TX8, tyX8, rfl, in_wsX80, fun _ => rfl, tyX8_ok, nmX8⟩
  · exact ⟨RX7, TX7, tyX7, rfl, in_wsX70, fun _ => rfl, tyX7_ok, nmX7⟩
  · exact ⟨RX4, TX4, tyX4, rfl, in_wsX40, fun _ => rfl, tyX4_ok, nmX4⟩
  · exact ⟨RX5, TX5, tyX5, rfl, in_wsX50, fun _ => rfl, tyX5_ok, nmX5⟩
  · exact ⟨RX9, TX9, tyX9, rfl, in_wsX90, fun _ => rfl, tyX9_ok, nmX9⟩
theorem tb_len (c : Nat) : (tb c).2 ≤ 2000 := by
  by_cases h : c < 67
  · have : ∀ i, i < 67 → (tb i).2 ≤ 2000 := by decide
    exact this c h
  · unfold tb
    rw [List.getD_eq_getElem?_getD, List.getElem?_eq_none (by show 67 ≤ c; omega)]
    exact Nat.zero_le _
theorem u1_i {f : Int → Int} {z v : Int} (hz : 0 ≤ z) (hr : Rg z) : (fun j : Nat => Value.int (iI (u1 f z v j))) = updV (fun j : Nat => .int (iI (f j))) (iI z).toNatClampNeg (.int (iI v)) := by
  funext j
  rw [iI_cl hr]
  unfold updV u1
  by_cases h : j = z.toNat
  · rw [if_pos h, if_pos (by omega)]
  · rw [if_neg h, if_neg (by omega)]
theorem u1_j {f : Int → Int} {z v : Int} (hz : 0 ≤ z) (hr : Rg z) : (fun j : Nat => Value.long (jI (u1 f z v j))) = updV (fun j : Nat => .long (jI (f j))) (iI z).toNatClampNeg (.long (jI v)) := by
  funext j
  rw [iI_cl hr]
  unfold updV u1
  by_cases h : j = z.toNat
  · rw [if_pos h, if_pos (by omega)]
  · rw [if_neg h, if_neg (by omega)]
theorem u1_r {b0 : Nat} {f : Int → Option Nat} {z : Int} {v : Option Nat} (hz : 0 ≤ z) (hr : Rg z) : (fun j : Nat => va_rf ((u1 f z v j).map (fun x => b0 + x))) = updV (fun j : Nat => va_rf ((f j).map (fun x => b0 + x))) (iI z).toNatClampNeg (rv b0 v) := by
  funext j
  rw [iI_cl hr]
  unfold updV u1
  by_cases h : j = z.toNat
  · rw [if_pos h, if_pos (by omega)]; rfl
  · rw [if_neg h, if_neg (by omega)]
theorem va_S.put1 {A : Nat → Prop} {H0 H H1 : Heap} {locs : List Loc} {a k : Nat} (h : va_S A H0 H locs) (z : H1.size = H.size) (oq : ∀ q : Nat, q ≠ a → H1[q]? = H[q]?) (ha : A a) : va_S A H0 H1 (locs ++ [⟨a, k⟩]) := h.put z oq ha
theorem aA_in {b0 c : Nat} : aA b0 (b0 + c) := Nat.le_add_right b0 c
section XM
variable {K : XS} {G : GS} {cells slots : Nat} {Q : State → Prop} {n : Nat} {V : Nat → Int → Int} {R : Nat → Int → Option Nat} {cc : ByteArray} {own : String} {nL : Nat} {ret : Option FieldType} {rm : Room} {pc : Nat} {lv lv' : List (Nat × Value)} {st : List Value}
theorem x_geti (C : Cx K G cc own nL ret rm) {ci : Nat} {Cn : String} {T : u_T} {ty : Nat → FieldType} (hok : ClsOk ci Cn T ty) (c k : Nat) {ix : Nat} {ref : String} (hd : decode cc pc = .ok (.getfield ix, 3)) (hc : c < n) (ht : tb c = (ci, 0)) (hk : k < nF ci) (hr : rF ci k = false) (hw : Cond.fieldLink own ix ref (T k).2.1 (T k).2.2.1 ∈ BW) (hsame : ref = (T k).1) {kz : Int} (hkz : ((k : Nat) : Int) = kz)
    (kk : Rg (V c kz) → Xw K G cells slots Q n V R (pc + 3) lv (.int (iI (V c kz)) :: st)) : Xw K G cells slots Q n V R pc lv (.ref (aG G c) :: st) := by
  obtain ⟨p, e, Rm, s, m, args, below, meth, co⟩ := K
  obtain ⟨l, b0, D, Y⟩ := G
  obtain ⟨⟨hx, hb, hml, ho, hts⟩, hlk, hkx, hret, hRm⟩ := C
  subst hkz
  intro H locs ls g hs hl
  obtain ⟨h1, h2, h3, h4, h5, h6⟩ := hok
  have hP := g.one hc
  rw [ht, h3] at hP
  have hv : ((List.range (nF ci)).map (fv b0 ci (V c) (R c)))[k]? = some (.int (iI (V c k))) := by
    rw [fv_get hk]; unfold fv; rw [hr]; rfl
  exact va_get hx hb hts h2 ho hkx.k hP 0 rfl h1 k hk (hts _ hw) (by subst hsame; exact fun x h => h) hv hd (kk ((g.2.2 c k).2 (by rw [ht]; exact h6)) H locs ls g hs hl)
theorem x_getr (C : Cx K G cc own nL ret rm) {ci : Nat} {Cn : String} {T : u_T} {ty : Nat → FieldType} (hok : ClsOk ci Cn T ty) (c k : Nat) {ix d : Nat} {ref : String} (hd : decode cc pc = .ok (.getfield ix, 3)) (hc : c < n) (ht : tb c = (ci, 0)) (hk : k < nF ci) (hr : rF ci k = true) (hw : Cond.fieldLink own ix ref (T k).2.1 (T k).2.2.1 ∈ BW) (hsame : ref = (T k).1) {kz : Int} (hkz : ((k : Nat) : Int) = kz) (hv : R c kz = some d)
    (kk : Xw K G cells slots Q n V R (pc + 3) lv (.ref (aG G d) :: st)) : Xw K G cells slots Q n V R pc lv (.ref (aG G c) :: st) := by
  obtain ⟨p, e, Rm, s, m, args, below, meth, co⟩ := K
  obtain ⟨l, b0, D, Y⟩ := G
  obtain ⟨⟨hx, hb, hml, ho, hts⟩, hlk, hkx, hret, hRm⟩ := C
  subst hkz
  intro H locs ls g hs hl
  obtain ⟨h1, h2, h3, h4, h5, h6⟩ := hok
  have hP := g.one hc
  rw [ht, h3] at hP
  have hv : ((List.range (nF ci)).map (fv b0 ci (V c) (R c)))[k]? = some (.ref (b0 + d)) := by
    rw [fv_get hk]; unfold fv rv; rw [hr, hv]; rfl
  exact va_get hx hb hts h2 ho hkx.k hP 0 rfl h1 k hk (hts _ hw) (by subst hsame; exact fun x h => h) hv hd (kk H locs ls g hs hl)
theorem x_getF (C : Cx K G cc own nL ret rm) (c k : Nat) {ix : Nat} {ref : String} (hd : decode cc pc = .ok (.getfield ix, 3)) (hc : c < n) (ht : tb c = (99, 0)) (hk : k < 3) (hw : Cond.fieldLink own ix ref (TX1 k).2.1 (TX1 k).2.2.1 ∈ BW) (hsame : ref = (TX1 k).1 ∨ Cond.sameField ref (TX1 k).1 (TX1 k).2.1 (TX1 k).2.2.1 ∈ BW) {kz : Int} (hkz : ((k : Nat) : Int) = kz)
    (kk : Rg (V c kz) → Xw K G cells slots Q n V R (pc + 3) lv (.int (iI (V c kz)) :: st)) : Xw K G cells slots Q n V R pc lv (.ref (aG G c) :: st) := by
  obtain ⟨p, e, Rm, s, m, args, below, meth, co⟩ := K
  obtain ⟨l, b0, D, Y⟩ := G
  obtain ⟨⟨hx, hb, hml, ho, hts⟩, hlk, hkx, hret, hRm⟩ := C
  subst hkz
  intro H locs ls g hs hl
  obtain ⟨Cn, T, ty, h1, h2, h3, h4, h5⟩ := kcl_ok (V c 3)
  have hP := g.one hc
  rw [ht] at hP
  have hv : ([.int (iI (V c 0)), .int (iI (V c 1)), .int (iI (V c 2))] : List Value)[k]? = some (.int (iI (V c k))) := by
    match k, hk with
    | 0, _ => rfl
    | 1, _ => rfl
    | 2, _ => rfl
  refine va_get hx hb hts h2 ho hkx.k hP 0 rfl h1 k hk (ref := ref) (index := ix) (by rw [h3 k]; exact hts _ hw) ?_ hv hd (kk ((g.2.2 c k).2 (by rw [ht]; exact nc21 (by decide))) H locs ls g hs hl)
  rw [h3 k]
  rcases hsame with h | h
  · subst h; exact fun x h => h
  · exact u_same (hts _ h)
theorem fieldput {b0 : Nat} {D : va_G} {Y : Nat → Nat} {n c ci k : Nat} {V V' : Nat → Int → Int} {R R' : Nat → Int → Option Nat} {H H1 : Heap} {v : Value} (g : GW b0 D Y n V R H) (hE : ∀ (b0 : Nat) (Y : Nat → Nat) (z : Nat) (f : Int → Int) (r : Int → Option Nat), entc b0 Y (ci, z) f r = .inr (ci, (List.range (nF ci)).map (fv b0 ci f r))) (hk : k < nF ci) (ht : tb c = (ci, 0))
    (hv : fv b0 ci (V' c) (R' c) k = v) (ho : ∀ j : Nat, j ≠ k → fv b0 ci (V' c) (R' c) j = fv b0 ci (V c) (R c) j) (hV : ∀ d, d ≠ c → V' d = V d) (hR : ∀ d, d ≠ c → R' d = R d) (hr : RgV V') (he : va_at D vwCl (b0 + c, .inr (ci, ((List.range (nF ci)).map (fv b0 ci (V c) (R c))).set k v)) H1) (hz : H1.size = H.size) (oq : ∀ q : Nat, q ≠ b0 + c → H1[q]? = H[q]?) : GW b0 D Y n V' R' H1 := by
  refine g.upd c ?_ hV hR hz oq hr
  rw [ht, hE]
  rw [fv_set hk hv ho] at he
  exact he
/-- the kit's putfield, with the heap's size kept -/
theorem xputK {p : Program} {l : Launch} {e : Env} {Rm : Room} {s : State} {m : MethodId} {args : Array Value} {below : List Frame} {meth : Method} {c : Code} {H : Heap} {locs : List Loc} {cells slots : Nat} {Q : State → Prop} {cc : ByteArray} {pc : Nat} {ls : Array Slot} {rest : List Value} {D : va_G} {a : Nat}
    (hexec : p.tables.exec = Jvm.exec) (hb : c.code = cc) {own ref C : String} {T : u_T} {N ci index : Nat} {Ts : List Cond} (hts : ∀ w ∈ Ts, w.before args s = true) (hin : ∀ w ∈ u_ws C T N, w ∈ Ts) (ty0 : Nat → FieldType) (hty : ∀ k, k < N → parseFieldDescriptor (T k).2.2.1 = some (ty0 k)) (hnm : ∀ a, a < N → ∀ b, b < N → a ≠ b → (T a).2.1 ≠ (T b).2.1) (hown : s.vm.findClass own = some m.cls) {tys : List (ClassId × FieldType)} (hK : va_K D vwCl tys s) {fs : List Value} (hat : va_at D vwCl (a, .inr (ci, fs)) H) (hc : vwCl[ci]? = some (C, T, N)) (k : Nat) (hk : k < N) (hlink : (Cond.fieldLink own index ref (T k).2.1 (T k).2.2.1).before args s = true) (hsame : ref = (T k).1) (hfin : (T k).2.2.2 = false ∨ (meth.name = "<init>" ∧ (T k).1 = own)) {v : Value} (hn : narrow (ty0 k) v = v) (hfit : fits (ty0 k) v = true) (hl : k < fs.length)
    (hdg : decode cc pc = .ok (.putfield index, 3)) (kk : ∀ (H1 : Heap) (j : Nat), va_at D vwCl (a, .inr (ci, fs.set k v)) H1 → H1.size = H.size → (∀ q : Nat, q ≠ a → H1[q]? = H[q]?) → W p l e Rm s m args below meth c H1 (locs ++ [⟨a, j⟩]) cells slots Q (F0 m (pc + 3) ls rest)) : W p l e Rm s m args below meth c H locs cells slots Q (F0 m pc ls (v :: .ref a :: rest)) := by
  have hap := va_apart (own := own) hts hin ty0 hty hnm hK hc
  obtain ⟨r, h1, cell, q1, q2, q3, q4⟩ := hat
  have hr : r = (C, T, N) := Option.some.inj (h1.symm.trans hc)
  subst hr
  obtain ⟨hS, hfc, kC, hkC, hkind⟩ := hK.1 ci _ hc
  obtain ⟨cf, kf, fi, f, hi, hsl⟩ := hS k hk
  have hlay := hts _ (hin _ (u_in_lay hk))
  unfold u_lay at hlay
  have hst := (u_facts hfc hkC (u_lays hts hin hk) hi).1
  have hfin' : ∀ H' : Heap, H'[a]? = some (cell.setSlot f.slot v) → H'.size = H.size → (∀ q, q ≠ a → H'[q]? = H[q]?) → W p l e Rm s m args below meth c H' (locs ++ [⟨a, f.slot⟩]) cells slots Q (F0 m (pc + 3) ls rest) := by
    intro H' e1 e2 e3
    rw [hsl] at e1
    exact kk H' f.slot ⟨_, hc, t_OB.to (V := updV (vp_V fs) k v) ⟨_, e1, q2, q3, t_set q4 hap hk v⟩ (fun j _ => vp_updV_set hl v j)⟩ e2 e3
  subst hsame
  by_cases hf : (T k).2.2.2 = true
  · rw [if_pos hf] at hlay
    have hini : meth.name = "<init>" ∧ (T k).1 = own := hfin.resolve_left (by rw [hf]; decide)
    have hcf : m.cls = cf := by
      obtain ⟨_, _, c', _, _, _, -, -, hf', -, -, -, hown2, -⟩ := Cond.laysFinal_spec hlay
      have e1 : c' = cf := by have := hi.symm.trans hf'; simp at this; exact this.1.symm
      rw [hini.2] at hown2
      rw [← e1]; exact Option.some.inj (hown.symm.trans hown2)
    have h6 := u_fits hfc hkC hkind (Or.inr hlay) hi (hty k hk) hn hfit
    exact W.putFinK hexec hb hown hlink hi hst hcf hini.1 (by rw [q2]; exact h6) q1 q3 (by rw [hsl]; exact k2_hasslot (q4 k hk)) rfl rfl hdg hfin'
  · rw [if_neg hf] at hlay
    have h6 := u_store hfc hkC hkind hlay hi (hty k hk) hn hfit
    exact W.putK hexec hb (f := f) ⟨hown, hlink, ⟨_, _, _, hi⟩, hst⟩ (by rw [q2]; exact h6) q1 q3 (by rw [hsl]; exact k2_hasslot (q4 k hk)) rfl rfl hdg hfin'
theorem x_puti (C : Cx K G cc own nL ret rm) {ci : Nat} {Cn : String} {T : u_T} {ty : Nat → FieldType} (hok : ClsOk ci Cn T ty) (c k : Nat) {ix : Nat} {a : Int} {ref : String} (hd : decode cc pc = .ok (.putfield ix, 3)) (hc : c < n) (ht : tb c = (ci, 0)) (hk : k < nF ci) (hr : rF ci k = false) (hw : Cond.fieldLink own ix ref (T k).2.1 (T k).2.2.1 ∈ BW) (hsame : ref = (T k).1) (hfin : (T k).2.2.2 = false) (hty : ty k = .int ∨ (ty k = .boolean ∧ (a = 0 ∨ a = 1))) (ha : Rg a) {kz : Int} (hkz : ((k : Nat) : Int) = kz)
    (kk : Xw K G cells slots Q n (u2 V c kz a) R (pc + 3) lv st) : Xw K G cells slots Q n V R pc lv (.int (iI a) :: .ref (aG G c) :: st) := by
  obtain ⟨p, e, Rm, s, m, args, below, meth, co⟩ := K
  obtain ⟨l, b0, D, Y⟩ := G
  obtain ⟨⟨hx, hb, hml, ho, hts⟩, hlk, hkx, hret, hRm⟩ := C
  subst hkz
  intro H locs ls g hs hl
  obtain ⟨h1, h2, h3, h4, h5, h6⟩ := hok
  have hP := g.2.1 c hc
  rw [ht, h3] at hP
  have hnf : narrow (ty k) (.int (iI a)) = .int (iI a) ∧ fits (ty k) (.int (iI a)) = true := by
    rcases hty with h | ⟨h, q | q⟩
    · rw [h]; exact ⟨rfl, rfl⟩
    · rw [h]; subst q; exact ⟨by decide, by decide⟩
    · rw [h]; subst q; exact ⟨by decide, by decide⟩
  refine xputK hx hb hts h2 ty h4 h5 ho hkx.k hP h1 k hk (hts _ hw) hsame (Or.inl hfin) hnf.1 hnf.2 (by rw [fv_len]; exact hk) hd fun H1 j he hz oq => ?_
  refine kk H1 _ ls (fieldput g h3 hk ht ?_ ?_ (fun d hd => u2_n hd) (fun d hd => rfl) (g.2.2.u2 ha.l (fun _ => ha)) he hz oq) (hs.put hz oq aA_in) hl
  · unfold fv; rw [hr, u2_s, u1_s]; rfl
  · intro j hj
    unfold fv
    rw [u2_s, u1_n (by omega)]
theorem x_putr (C : Cx K G cc own nL ret rm) (hin : CtorK K) {ci : Nat} {Cn : String} {T : u_T} {ty : Nat → FieldType} (hok : ClsOk ci Cn T ty) (c k : Nat) {ix d : Nat} {ref : String} (hd : decode cc pc = .ok (.putfield ix, 3)) (hc : c < n) (ht : tb c = (ci, 0)) (hk : k < nF ci) (hr : rF ci k = true) (hw : Cond.fieldLink own ix ref (T k).2.1 (T k).2.2.1 ∈ BW) (hsame : ref = (T k).1) (hown : (T k).1 = own) (hty : ∀ x, narrow (ty k) (.ref x) = .ref x ∧ fits (ty k) (.ref x) = true) {kz : Int} (hkz : ((k : Nat) : Int) = kz)
    (kk : Xw K G cells slots Q n V (u2 R c kz (some d)) (pc + 3) lv st) : Xw K G cells slots Q n V R pc lv (.ref (aG G d) :: .ref (aG G c) :: st) := by
  obtain ⟨p, e, Rm, s, m, args, below, meth, co⟩ := K
  obtain ⟨l, b0, D, Y⟩ := G
  obtain ⟨⟨hx, hb, hml, ho, hts⟩, hlk, hkx, hret, hRm⟩ := C
  subst hkz
  intro H locs ls g hs hl
  obtain ⟨h1, h2, h3, h4, h5, h6⟩ := hok
  have hP := g.2.1 c hc
  rw [ht, h3] at hP
  refine xputK hx hb hts h2 ty h4 h5 ho hkx.k hP h1 k hk (hts _ hw) hsame (Or.inr ⟨hin, hown⟩) (hty _).1 (hty _).2 (by rw [fv_len]; exact hk) hd fun H1 j he hz oq => ?_
  refine kk H1 _ ls (fieldput g h3 hk ht ?_ ?_ (fun d hd => rfl) (fun d hd => u2_n hd) g.2.2 he hz oq) (hs.put hz oq aA_in) hl
  · unfold fv; rw [hr, u2_s, u1_s]; rfl
  · intro j hj
    unfold fv
    rw [u2_s, u1_n (by omega)]
theorem x_iald (C : Cx K G cc own nL ret rm) (c : Nat) {N : Nat} {z : Int} (hd : decode cc pc = .ok (.iaload, 1)) (hc : c < n) (ht : tb c = (20, N)) (hz : 0 ≤ z ∧ z < N)
    (kk : Rg (V c z) → Xw K G cells slots Q n V R (pc + 1) lv (.int (iI (V c z)) :: st)) : Xw K G cells slots Q n V R pc lv (.int (iI z) :: .ref (aG G c) :: st) := by
  obtain ⟨p, e, Rm, s, m, args, below, meth, co⟩ := K
  obtain ⟨l, b0, D, Y⟩ := G
  obtain ⟨⟨hx, hb, hml, ho, hts⟩, hlk, hkx, hret, hRm⟩ := C
  intro H locs ls g hs hl
  have hP := g.2.1 c hc
  rw [ht] at hP
  have hN : N ≤ 2000 := by have := tb_len c; rw [ht] at this; exact this
  have hr : Rg z := ⟨by omega, by omega⟩
  have hlt : (iI z).toNatClampNeg < N := by rw [iI_cl hr]; omega
  refine W.iald hx hb hP ((hkx.k.2 0 _ rfl).1 N (fun j => .int (iI (V c (j : Nat))))) (fun q => by cases q) (by show ¬ (iI z < 0 ∨ (arrV _ _ _).slots.size ≤ _); rw [arrV_size]; exact iI_in (n := N) hz (by omega)) (show (arrV _ _ _).slots[_]? = some (.int (iI (V c z))) from ?_) rfl rfl hd (kk ((g.2.2 c z).2 (by rw [ht]; exact nc21 (by decide))) H locs ls g hs hl)
  rw [arrV_read _ _ hlt, iI_cl hr]
  have e9 : ((z.toNat : Nat) : Int) = z := Int.toNat_of_nonneg hz.1
  simp only [e9]
  first | done | rfl
theorem x_zald (C : Cx K G cc own nL ret rm) (c : Nat) {N : Nat} {z : Int} (hd : decode cc pc = .ok (.baload, 1)) (hc : c < n) (ht : tb c = (22, N)) (hz : 0 ≤ z ∧ z < N)
    (kk : Rg (V c z) → Xw K G cells slots Q n V R (pc + 1) lv (.int (iI (V c z)) :: st)) : Xw K G cells slots Q n V R pc lv (.int (iI z) :: .ref (aG G c) :: st) := by
  obtain ⟨p, e, Rm, s, m, args, below, meth, co⟩ := K
  obtain ⟨l, b0, D, Y⟩ := G
  obtain ⟨⟨hx, hb, hml, ho, hts⟩, hlk, hkx, hret, hRm⟩ := C
  intro H locs ls g hs hl
  have hP := g.2.1 c hc
  rw [ht] at hP
  have hN : N ≤ 2000 := by have := tb_len c; rw [ht] at this; exact this
  have hr : Rg z := ⟨by omega, by omega⟩
  have hlt : (iI z).toNatClampNeg < N := by rw [iI_cl hr]; omega
  refine W.zald hx hb hP ((hkx.k.2 2 _ rfl).1 N (fun j => .int (iI (V c (j : Nat))))) (fun q => by cases q) (by show ¬ (iI z < 0 ∨ (arrV _ _ _).slots.size ≤ _); rw [arrV_size]; exact iI_in (n := N) hz (by omega)) (show (arrV _ _ _).slots[_]? = some (.int (iI (V c z))) from ?_) rfl rfl hd (kk ((g.2.2 c z).2 (by rw [ht]; exact nc21 (by decide))) H locs ls g hs hl)
  rw [arrV_read _ _ hlt, iI_cl hr]
  have e9 : ((z.toNat : Nat) : Int) = z := Int.toNat_of_nonneg hz.1
  simp only [e9]
  first | done | rfl
theorem x_lald (C : Cx K G cc own nL ret rm) (c : Nat) {N : Nat} {z : Int} (hd : decode cc pc = .ok (.laload, 1)) (hc : c < n) (ht : tb c = (21, N)) (hz : 0 ≤ z ∧ z < N)
    (kk : Rl (V c z) → Xw K G cells slots Q n V R (pc + 1) lv (.long (jI (V c z)) :: st)) : Xw K G cells slots Q n V R pc lv (.int (iI z) :: .ref (aG G c) :: st) := by
  obtain ⟨p, e, Rm, s, m, args, below, meth, co⟩ := K
  obtain ⟨l, b0, D, Y⟩ := G
  obtain ⟨⟨hx, hb, hml, ho, hts⟩, hlk, hkx, hret, hRm⟩ := C
  intro H locs ls g hs hl
  have hP := g.2.1 c hc
  rw [ht] at hP
  have hN : N ≤ 2000 := by have := tb_len c; rw [ht] at this; exact this
  have hr : Rg z := ⟨by omega, by omega⟩
  have hlt : (iI z).toNatClampNeg < N := by rw [iI_cl hr]; omega
  refine W.lald hx hb hP ((hkx.k.2 1 _ rfl).1 N (fun j => .long (jI (V c (j : Nat))))) (fun q => by cases q) (by show ¬ (iI z < 0 ∨ (arrV _ _ _).slots.size ≤ _); rw [arrV_size]; exact iI_in (n := N) hz (by omega)) (show (arrV _ _ _).slots[_]? = some (.long (jI (V c z))) from ?_) rfl rfl hd (kk ((g.2.2 c z).1) H locs ls g hs hl)
  rw [arrV_read _ _ hlt, iI_cl hr]
  have e9 : ((z.toNat : Nat) : Int) = z := Int.toNat_of_nonneg hz.1
  simp only [e9]
  first | done | rfl
theorem x_aald (C : Cx K G cc own nL ret rm) (c : Nat) {N : Nat} {z : Int} (hd : decode cc pc = .ok (.aaload, 1)) (hc : c < n) (ht : tb c = (23, N)) (hz : 0 ≤ z ∧ z < N)
    (kk : Xw K G cells slots Q n V R (pc + 1) lv (rv G.2.1 (R c z) :: st)) : Xw K G cells slots Q n V R pc lv (.int (iI z) :: .ref (aG G c) :: st) := by
  obtain ⟨p, e, Rm, s, m, args, below, meth, co⟩ := K
  obtain ⟨l, b0, D, Y⟩ := G
  obtain ⟨⟨hx, hb, hml, ho, hts⟩, hlk, hkx, hret, hRm⟩ := C
  intro H locs ls g hs hl
  have hP := g.2.1 c hc
  rw [ht] at hP
  have hN : N ≤ 2000 := by have := tb_len c; rw [ht] at this; exact this
  have hr : Rg z := ⟨by omega, by omega⟩
  have hlt : (iI z).toNatClampNeg < N := by rw [iI_cl hr]; omega
  refine W.aald hx hb hP ((hkx.k.2 3 _ rfl).1 N (fun j => va_rf ((R c (j : Nat)).map (fun x => b0 + x)))) rfl (fun q => by cases q) (by show ¬ (iI z < 0 ∨ (arrV _ _ _).slots.size ≤ _); rw [arrV_size]; exact iI_in (n := N) hz (by omega)) (show (arrV _ _ _).slots[_]? = some (rv b0 (R c z)) from ?_) rfl rfl hd (kk  H locs ls g hs hl)
  rw [arrV_read _ _ hlt, iI_cl hr]
  have e9 : ((z.toNat : Nat) : Int) = z := Int.toNat_of_nonneg hz.1
  simp only [e9]
  first | done | rfl
theorem x_aald2 (C : Cx K G cc own nL ret rm) (c : Nat) {N : Nat} {z : Int} (hd : decode cc pc = .ok (.aaload, 1)) (hc : c < n) (ht : tb c = (24, N)) (hz : 0 ≤ z ∧ z < N)
    (kk : Xw K G cells slots Q n V R (pc + 1) lv (rv G.2.1 (R c z) :: st)) : Xw K G cells slots Q n V R pc lv (.int (iI z) :: .ref (aG G c) :: st) := by
  obtain ⟨p, e, Rm, s, m, args, below, meth, co⟩ := K
  obtain ⟨l, b0, D, Y⟩ := G
  obtain ⟨⟨hx, hb, hml, ho, hts⟩, hlk, hkx, hret, hRm⟩ := C
  intro H locs ls g hs hl
  have hP := g.2.1 c hc
  rw [ht] at hP
  have hN : N ≤ 2000 := by have := tb_len c; rw [ht] at this; exact this
  have hr : Rg z := ⟨by omega, by omega⟩
  have hlt : (iI z).toNatClampNeg < N := by rw [iI_cl hr]; omega
  refine W.aald hx hb hP ((hkx.k.2 4 _ rfl).1 N (fun j => va_rf ((R c (j : Nat)).map (fun x => b0 + x)))) rfl (fun q => by cases q) (by show ¬ (iI z < 0 ∨ (arrV _ _ _).slots.size ≤ _); rw [arrV_size]; exact iI_in (n := N) hz (by omega)) (show (arrV _ _ _).slots[_]? = some (rv b0 (R c z)) from ?_) rfl rfl hd (kk  H locs ls g hs hl)
  rw [arrV_read _ _ hlt, iI_cl hr]
  have e9 : ((z.toNat : Nat) : Int) = z := Int.toNat_of_nonneg hz.1
  simp only [e9]
  first | done | rfl
theorem x_iast (C : Cx K G cc own nL ret rm) (c : Nat) {N : Nat} {z a : Int} (hd : decode cc pc = .ok (.iastore, 1)) (hc : c < n) (ht : tb c = (20, N)) (hz : 0 ≤ z ∧ z < N) (ha : Rg a)
    (kk : Xw K G cells slots Q n (u2 V c z a) R (pc + 1) lv st) : Xw K G cells slots Q n V R pc lv (.int (iI a) :: .int (iI z) :: .ref (aG G c) :: st) := by
  obtain ⟨p, e, Rm, s, m, args, below, meth, co⟩ := K
  obtain ⟨l, b0, D, Y⟩ := G
  obtain ⟨⟨hx, hb, hml, ho, hts⟩, hlk, hkx, hret, hRm⟩ := C
  intro H locs ls g hs hl
  have hP := g.2.1 c hc
  rw [ht] at hP
  have hN : N ≤ 2000 := by have := tb_len c; rw [ht] at this; exact this
  have hr : Rg z := ⟨by omega, by omega⟩
  have ha2 := ha
  refine W.iast hx hb hP ((hkx.k.2 0 _ rfl).1 N (fun j => .int (iI (V c (j : Nat))))) (fun q => by cases q) (by show ¬ (iI z < 0 ∨ (arrV _ _ _).slots.size ≤ _); rw [arrV_size]; exact iI_in (n := N) hz (by omega)) rfl rfl hd fun H1 e1 hz1 oq => ?_
  refine kk H1 _ ls (g.upd c ?_ (fun d hd => u2_n hd) (fun d hd => rfl) hz1 oq (g.2.2.u2 ha.l (fun _ => ha))) (hs.put hz1 oq aA_in) hl
  rw [ht]
  show H1[b0 + c]? = some (vp_cell _ _)
  rw [e1]
  show some ((vp_cell _ _).setSlot _ _) = some (vp_cell (Y 0) (N, .inl (fun j => iI (u2 V c z a c j))))
  rw [vp_cell_i, vp_cell_i, arrV_store, u2_s, u1_i hz.1 hr]
theorem x_last (C : Cx K G cc own nL ret rm) (c : Nat) {N : Nat} {z a : Int} (hd : decode cc pc = .ok (.lastore, 1)) (hc : c < n) (ht : tb c = (21, N)) (hz : 0 ≤ z ∧ z < N) (ha : Rl a)
    (kk : Xw K G cells slots Q n (u2 V c z a) R (pc + 1) lv st) : Xw K G cells slots Q n V R pc lv (.long (jI a) :: .int (iI z) :: .ref (aG G c) :: st) := by
  obtain ⟨p, e, Rm, s, m, args, below, meth, co⟩ := K
  obtain ⟨l, b0, D, Y⟩ := G
  obtain ⟨⟨hx, hb, hml, ho, hts⟩, hlk, hkx, hret, hRm⟩ := C
  intro H locs ls g hs hl
  have hP := g.2.1 c hc
  rw [ht] at hP
  have hN : N ≤ 2000 := by have := tb_len c; rw [ht] at this; exact this
  have hr : Rg z := ⟨by omega, by omega⟩
  have ha2 := ha
  refine W.last hx hb hP ((hkx.k.2 1 _ rfl).1 N (fun j => .long (jI (V c (j : Nat))))) (fun q => by cases q) (by show ¬ (iI z < 0 ∨ (arrV _ _ _).slots.size ≤ _); rw [arrV_size]; exact iI_in (n := N) hz (by omega)) rfl rfl hd fun H1 e1 hz1 oq => ?_
  refine kk H1 _ ls (g.upd c ?_ (fun d hd => u2_n hd) (fun d hd => rfl) hz1 oq (g.2.2.u2 ha (fun h => absurd (by rw [ht]) h))) (hs.put hz1 oq aA_in) hl
  rw [ht]
  show H1[b0 + c]? = some (vp_cell _ _)
  rw [e1]
  show some ((vp_cell _ _).setSlot _ _) = some (vp_cell (Y 1) (N, .inr (.inl (fun j => jI (u2 V c z a c j)))))
  rw [vp_cell_l, vp_cell_l, arrV_store, u2_s, u1_j hz.1 hr]
theorem x_zast (C : Cx K G cc own nL ret rm) (c : Nat) {N : Nat} {z a : Int} (hd : decode cc pc = .ok (.bastore, 1)) (hc : c < n) (ht : tb c = (22, N)) (hz : 0 ≤ z ∧ z < N) (ha : a = 0 ∨ a = 1)
    (kk : Xw K G cells slots Q n (u2 V c z a) R (pc + 1) lv st) : Xw K G cells slots Q n V R pc lv (.int (iI a) :: .int (iI z) :: .ref (aG G c) :: st) := by
  obtain ⟨p, e, Rm, s, m, args, below, meth, co⟩ := K
  obtain ⟨l, b0, D, Y⟩ := G
  obtain ⟨⟨hx, hb, hml, ho, hts⟩, hlk, hkx, hret, hRm⟩ := C
  intro H locs ls g hs hl
  have hP := g.2.1 c hc
  rw [ht] at hP
  have hN : N ≤ 2000 := by have := tb_len c; rw [ht] at this; exact this
  have hr : Rg z := ⟨by omega, by omega⟩
  have har : Rg a := by rcases ha with h | h <;> subst h <;> constructor <;> decide
  have hna : narrow .boolean (.int (iI a)) = .int (iI a) := by rcases ha with h | h <;> subst h <;> decide
  have hnar : vp_nar .boolean (iI a) = iI a := by unfold vp_nar; rw [hna]
  refine W.zast hx hb hP ((hkx.k.2 2 _ rfl).1 N (fun j => .int (iI (V c (j : Nat))))) (fun q => by cases q) (by show ¬ (iI z < 0 ∨ (arrV _ _ _).slots.size ≤ _); rw [arrV_size]; exact iI_in (n := N) hz (by omega)) rfl rfl hd fun H1 e1 hz1 oq => ?_
  refine kk H1 _ ls (g.upd c ?_ (fun d hd => u2_n hd) (fun d hd => rfl) hz1 oq (g.2.2.u2 har.l (fun _ => har))) (hs.put hz1 oq aA_in) hl
  rw [ht]
  show H1[b0 + c]? = some (vp_cell _ _)
  rw [e1]
  show some ((vp_cell _ _).setSlot _ _) = some (vp_cell (Y 2) (N, .inl (fun j => iI (u2 V c z a c j))))
  first
    | rw [hna, vp_cell_i, vp_cell_i, arrV_store, u2_s, u1_i hz.1 hr]
    | rw [vp_cell_i, vp_cell_i, arrV_store, u2_s, u1_i hz.1 hr, hna]
theorem x_aast (C : Cx K G cc own nL ret rm) (c : Nat) {N d : Nat} {z : Int} (hd : decode cc pc = .ok (.aastore, 1)) (hc : c < n) (ht : tb c = (23, N)) (hz : 0 ≤ z ∧ z < N) (hdn : d < n) (htd : tb d = (99, 0))
    (kk : Xw K G cells slots Q n V (u2 R c z (some d)) (pc + 1) lv st) : Xw K G cells slots Q n V R pc lv (.ref (aG G d) :: .int (iI z) :: .ref (aG G c) :: st) := by
  obtain ⟨p, e, Rm, s, m, args, below, meth, co⟩ := K
  obtain ⟨l, b0, D, Y⟩ := G
  obtain ⟨⟨hx, hb, hml, ho, hts⟩, hlk, hkx, hret, hRm⟩ := C
  intro H locs ls g hs hl
  have hP := g.2.1 c hc
  rw [ht] at hP
  have hN : N ≤ 2000 := by have := tb_len c; rw [ht] at this; exact this
  have hr : Rg z := ⟨by omega, by omega⟩
  have hlt : (iI z).toNatClampNeg < N := by rw [iI_cl hr]; omega
  have h0 : ¬ iI z < 0 := fun q => (iI_in (n := N) hz (by omega)) (Or.inl q)
  have hPd := g.2.1 d hdn
  rw [htd] at hPd
  obtain ⟨r', hr', cellV, g1, g2, g3, -⟩ := hPd
  have hcls := (hkx.k.1 (kcl (V d 3)) r' hr').2
  obtain ⟨kC, hkC, -⟩ := hcls.2
  obtain ⟨kA, comp, k1, k2, k3, -⟩ := (hkx.k.2 3 _ rfl).2
  have hnm : ∃ k : Nat, k ≤ 6 ∧ r'.1 = kNm k := kcl_nm hr'
  obtain ⟨k0, hk0, hk1⟩ := hnm
  obtain ⟨c0, t0, f1, f2, f3⟩ := Cond.castable_spec (va_Nw.use (A := args) rfl (hkx.nw _ (nw_cast hk0)))
  rw [← hk1] at f1
  cases hcls.1.symm.trans f1
  cases k3.symm.trans f2
  obtain ⟨kcomp, hkcomp⟩ := asg_known f3 (by first | exact hkC | exact hkC)
  refine W.aast hx hb hP (fun q h => by cases h) (fun h => by cases h) k1 k2 rfl hkcomp ⟨h0, by show _ < (arrV _ _ _).slots.size; rw [arrV_size]; exact hlt⟩ g1 (fun q h => by rw [g3] at h; cases h) (by rw [g2]; exact hkC) (by rw [g2]; exact f3) rfl rfl hd fun H1 e1 hz1 oq => ?_
  refine kk H1 _ ls (g.upd c ?_ (fun d hd => rfl) (fun d hd => u2_n hd) hz1 oq g.2.2) (hs.put hz1 oq aA_in) hl
  rw [ht]
  show H1[b0 + c]? = some (vp_cell _ _)
  rw [e1]
  show some ((vp_cell _ _).setSlot _ _) = some (vp_cell (Y 3) (N, .inr (.inr (.inr (.inr (fun j => (u2 R c z (some d) c j).map (fun x => b0 + x)))))))
  rw [vp_cell_q, vp_cell_q, arrV_store, u2_s, u1_r hz.1 hr]
  rfl
theorem x_aastN (C : Cx K G cc own nL ret rm) (c : Nat) {N : Nat} {z : Int} (hd : decode cc pc = .ok (.aastore, 1)) (hc : c < n) (ht : tb c = (23, N)) (hz : 0 ≤ z ∧ z < N)
    (kk : Xw K G cells slots Q n V (u2 R c z none) (pc + 1) lv st) : Xw K G cells slots Q n V R pc lv (.null :: .int (iI z) :: .ref (aG G c) :: st) := by
  obtain ⟨p, e, Rm, s, m, args, below, meth, co⟩ := K
  obtain ⟨l, b0, D, Y⟩ := G
  obtain ⟨⟨hx, hb, hml, ho, hts⟩, hlk, hkx, hret, hRm⟩ := C
  intro H locs ls g hs hl
  have hP := g.2.1 c hc
  rw [ht] at hP
  have hN : N ≤ 2000 := by have := tb_len c; rw [ht] at this; exact this
  have hr : Rg z := ⟨by omega, by omega⟩
  refine va_WaastN (C := "LogSawyer$Fault") hx hb hP ((hkx.k.2 3 _ rfl).1 N (fun j => va_rf ((R c (j : Nat)).map (fun x => b0 + x)))) (fun h => by cases h) (by show ¬ (iI z < 0 ∨ (arrV _ _ _).slots.size ≤ _); rw [arrV_size]; exact iI_in (n := N) hz (by omega)) rfl rfl hd fun H1 e1 hz1 oq => ?_
  refine kk H1 _ ls (g.upd c ?_ (fun d hd => rfl) (fun d hd => u2_n hd) hz1 oq g.2.2) (hs.put hz1 oq aA_in) hl
  rw [ht]
  show H1[b0 + c]? = some (vp_cell _ _)
  rw [e1]
  show some ((vp_cell _ _).setSlot _ _) = some (vp_cell (Y 3) (N, .inr (.inr (.inr (.inr (fun j => (u2 R c z none c j).map (fun x => b0 + x)))))))
  rw [vp_cell_q, vp_cell_q, arrV_store, u2_s, u1_r hz.1 hr]
  rfl
theorem x_alen (C : Cx K G cc own nL ret rm) (c : Nat) {cd N : Nat} {w : Int} (hd : decode cc pc = .ok (.arraylength, 1)) (hc : c < n) (ht : tb c = (cd, N)) (hcd : cd = 20 ∨ cd = 21 ∨ cd = 23) (hw : (N : Int) = w)
    (kk : Xw K G cells slots Q n V R (pc + 1) lv (.int (iI w) :: st)) : Xw K G cells slots Q n V R pc lv (.ref (aG G c) :: st) := by
  obtain ⟨p, e, Rm, s, m, args, below, meth, co⟩ := K
  obtain ⟨l, b0, D, Y⟩ := G
  obtain ⟨⟨hx, hb, hml, ho, hts⟩, hlk, hkx, hret, hRm⟩ := C
  intro H locs ls g hs hl
  have hP := g.one hc
  subst hw
  rcases hcd with h | h | h <;> subst h <;> rw [ht] at hP
  · exact va_alen hx hb hkx.k hP 0 0 rfl rfl (iI_ofNat N) hd (kk H locs ls g hs hl)
  · exact va_alen hx hb hkx.k hP 0 1 rfl rfl (iI_ofNat N) hd (kk H locs ls g hs hl)
  · exact va_alen hx hb hkx.k hP 0 3 rfl rfl (iI_ofNat N) hd (kk H locs ls g hs hl)
def sTb (k : Nat) : String × List Int := match k with
  | 5 => ("RULE_MOST", tRM)
  | 6 => ("RULE_FIRST", tRF)
  | 7 => ("ANGLE_U", tAU)
  | _ => ("ANGLE_V", tAV)
theorem Kx.stc {b0 : Nat} {D : va_G} {Y : Nat → Nat} {U : State} {H : Heap} (h : Kx b0 D Y U H) {k : Nat} (hk : 5 ≤ k ∧ k ≤ 8) : stZ b0 (sTb k).1 (Y k) (sTb k).2 U H := by
  obtain ⟨-, h1, h2, h3, h4, h5, -⟩ := h
  rcases (show k = 5 ∨ k = 6 ∨ k = 7 ∨ k = 8 by omega) with e | e | e | e <;> subst e
  · exact h2
  · exact h3
  · exact h4
  · exact h5
theorem x_gets (C : Cx K G cc own nL ret rm) (k : Nat) {ix : Nat} {ref : String} (hd : decode cc pc = .ok (.getstatic ix, 3)) (hk : 5 ≤ k ∧ k ≤ 8) (hw : Cond.fieldLink own ix ref (sTb k).1 "[I" ∈ BW ∨ ∃ host, Cond.fieldLinkNest own ix ref (sTb k).1 "[I" host ∈ nwL) (href : ref = "LogSawyer")
    (kk : Xw K G cells slots Q n V R (pc + 3) lv (.ref (yG G k) :: st)) : Xw K G cells slots Q n V R pc lv st := by
  obtain ⟨p, e, Rm, s, m, args, below, meth, co⟩ := K
  obtain ⟨l, b0, D, Y⟩ := G
  obtain ⟨⟨hx, hb, hml, ho, hts⟩, hlk, hkx, hret, hRm⟩ := C
  intro H locs ls g hs hl
  subst href
  rcases hw with hw | ⟨host, hw⟩
  · exact va_gets hx hb (hkx.stc hk).1 hs ho (hts _ hw) (fun _ h => h) hd (kk H locs ls g hs hl)
  · exact va_getsN hx hb (hkx.stc hk).1 hs ho (va_Nw.use rfl (hkx.nw _ hw)) (fun _ h => h) hd (kk H locs ls g hs hl)
theorem x_ti (C : Cx K G cc own nL ret rm) (k : Nat) {z : Int} (hd : decode cc pc = .ok (.iaload, 1)) (hk : 5 ≤ k ∧ k ≤ 8) (hz : 0 ≤ z ∧ z < (sTb k).2.length)
    (kk : Xw K G cells slots Q n V R (pc + 1) lv (.int (iI (tat (sTb k).2 z)) :: st)) : Xw K G cells slots Q n V R pc lv (.int (iI z) :: .ref (yG G k) :: st) := by
  obtain ⟨p, e, Rm, s, m, args, below, meth, co⟩ := K
  obtain ⟨l, b0, D, Y⟩ := G
  obtain ⟨⟨hx, hb, hml, ho, hts⟩, hlk, hkx, hret, hRm⟩ := C
  intro H locs ls g hs hl
  have hN : (sTb k).2.length ≤ 8 := by rcases (show k = 5 ∨ k = 6 ∨ k = 7 ∨ k = 8 by omega) with e | e | e | e <;> subst e <;> decide
  have hr : Rg z := ⟨by omega, by omega⟩
  exact va_ti hx hb (hkx.stc hk).2 hs (iI_in hz (by omega)) (by rw [iI_cl hr]; rfl) hd (kk H locs ls g hs hl)
end XM
