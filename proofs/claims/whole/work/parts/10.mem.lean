/-! THE FRAME: every int in the machine is written iI z, z a whole number; the heap from b0 on is one memory (V: numbers, R: references), a cell a row of tbl, faults behind them -/
def iI (z : Int) : Int32 := Int32.ofInt z
def jI (z : Int) : Int64 := Int64.ofInt z
abbrev Rg (z : Int) : Prop := -2147483648 ≤ z ∧ z ≤ 2147483647
abbrev Rl (z : Int) : Prop := -9223372036854775808 ≤ z ∧ z ≤ 9223372036854775807
theorem iI_toInt {z : Int} (h : Rg z) : (iI z).toInt = z := Int32.toInt_ofInt_of_le (by have := h.1; omega) (by have := h.2; omega)
theorem jI_toInt {z : Int} (h : Rl z) : (jI z).toInt = z := Int64.toInt_ofInt_of_le (by have := h.1; omega) (by have := h.2; omega)
theorem iI_self (x : Int32) : iI x.toInt = x := Int32.ofInt_toInt x
theorem jI_self (x : Int64) : jI x.toInt = x := Int64.ofInt_toInt x
theorem Rg_i (x : Int32) : Rg x.toInt := by have h1 := Int32.le_toInt x; have h2 := Int32.toInt_lt x; constructor <;> omega
theorem Rl_j (x : Int64) : Rl x.toInt := by have h1 := Int64.le_toInt x; have h2 := Int64.toInt_lt x; constructor <;> omega
theorem iI_ex (x : Int32) : ∃ z : Int, x = iI z ∧ Rg z := ⟨x.toInt, (iI_self x).symm, Rg_i x⟩
theorem jI_ex (x : Int64) : ∃ z : Int, x = jI z ∧ Rl z := ⟨x.toInt, (jI_self x).symm, Rl_j x⟩
theorem iI_add (a b : Int) : iI a + iI b = iI (a + b) := (Int32.ofInt_add a b).symm
theorem iI_sub (a b : Int) : iI a - iI b = iI (a - b) := (Int32.ofInt_sub a b).symm
theorem iI_mul (a b : Int) : iI a * iI b = iI (a * b) := (Int32.ofInt_mul a b).symm
theorem iI_neg (a : Int) : -iI a = iI (-a) := (Int32.ofInt_neg a).symm
theorem iI_eq {a b : Int} (ha : Rg a) (hb : Rg b) : iI a = iI b ↔ a = b := ⟨fun h => by rw [← iI_toInt ha, ← iI_toInt hb, h], fun h => by rw [h]⟩
theorem jI_eq {a b : Int} (ha : Rl a) (hb : Rl b) : jI a = jI b ↔ a = b := ⟨fun h => by rw [← jI_toInt ha, ← jI_toInt hb, h], fun h => by rw [h]⟩
theorem iI_lt {a b : Int} (ha : Rg a) (hb : Rg b) : iI a < iI b ↔ a < b := by rw [Int32.lt_iff_toInt_lt, iI_toInt ha, iI_toInt hb]
theorem iI_le {a b : Int} (ha : Rg a) (hb : Rg b) : iI a ≤ iI b ↔ a ≤ b := by rw [Int32.le_iff_toInt_le, iI_toInt ha, iI_toInt hb]
theorem jI_lt {a b : Int} (ha : Rl a) (hb : Rl b) : jI a < jI b ↔ a < b := by rw [Int64.lt_iff_toInt_lt, jI_toInt ha, jI_toInt hb]
theorem jI_le {a b : Int} (ha : Rl a) (hb : Rl b) : jI a ≤ jI b ↔ a ≤ b := by rw [Int64.le_iff_toInt_le, jI_toInt ha, jI_toInt hb]
/-- an int of the machine, as the whole number that it is -/
def wr (z : Int) : Int := (iI z).toInt
theorem wr_Rg (z : Int) : Rg (wr z) := Rg_i _
theorem wr_id {z : Int} (h : Rg z) : wr z = z := iI_toInt h
theorem iI_wr (z : Int) : iI (wr z) = iI z := iI_self _
theorem iI_0 : (0 : Int32) = iI 0 := by decide
theorem iI_1 : (1 : Int32) = iI 1 := by decide
theorem jI_0 : (0 : Int64) = jI 0 := by decide
theorem iI_m1 {b : Int} (hb : Rg b) (hb0 : 0 < b) : iI b ≠ -1 := fun h => by
  have h2 := congrArg Int32.toInt h
  rw [iI_toInt hb] at h2
  have e : (-1 : Int32).toInt = -1 := by decide
  omega
theorem iI_nz {b : Int} (hb : Rg b) (hb0 : 0 < b) : ¬ iI b = 0 := by
  rw [iI_0, iI_eq hb (by constructor <;> omega)]; omega
theorem iI_tdiv {a b : Int} (ha : Rg a) (hb : Rg b) (hb0 : 0 < b) : iI a / iI b = iI (a.tdiv b) := by
  have h2 := Int32.toInt_div_of_ne_right (iI a) (iI b) (iI_m1 hb hb0)
  rw [iI_toInt ha, iI_toInt hb] at h2
  rw [← h2, iI_self]
theorem iI_div {a b : Int} (ha : Rg a) (hb : Rg b) (h0 : 0 ≤ a) (hb0 : 0 < b) : iI a / iI b = iI (a / b) := by
  rw [iI_tdiv ha hb hb0, Int.tdiv_eq_ediv_of_nonneg h0]
theorem iI_rem {a b : Int} (ha : Rg a) (hb : Rg b) (h0 : 0 ≤ a) (hb0 : 0 < b) : iI a - iI a / iI b * iI b = iI (a % b) := by
  rw [iI_div ha hb h0 hb0, iI_mul, iI_sub, Int.emod_def, Int.mul_comm]
theorem iI_trem {a b : Int} (ha : Rg a) (hb : Rg b) (hb0 : 0 < b) : iI a - iI a / iI b * iI b = iI (a.tmod b) := by
  rw [iI_tdiv ha hb hb0, iI_mul, iI_sub, Int.tmod_def, Int.mul_comm]
theorem iI_i2l {a : Int} (ha : Rg a) : (iI a).toInt64 = jI a := by
  apply Int64.toInt_inj.mp
  rw [Int32.toInt_toInt64, iI_toInt ha, jI_toInt]
  exact ⟨by have := ha.1; omega, by have := ha.2; omega⟩
theorem jI_l2i {a : Int} (ha : Rl a) : (jI a).toInt32 = iI (wr a) := by
  rw [iI_wr]
  apply Int32.toInt_inj.mp
  rw [Int64.toInt_toInt32, jI_toInt ha]
  unfold iI
  rw [Int32.toInt_ofInt]
theorem iI_in {z : Int} {n : Nat} (h : 0 ≤ z ∧ z < n) (hn : n ≤ 100000) : vp_in (iI z) n := by
  rw [vp_in_iff, iI_toInt ⟨by omega, by omega⟩]
  exact h
theorem iI_cl {z : Int} (h : Rg z) : (iI z).toNatClampNeg = z.toNat := by
  show (iI z).toInt.toNat = z.toNat
  rw [iI_toInt h]
theorem iI_ofNat (n : Nat) : Int32.ofNat n = iI n := by unfold iI; rw [Int32.ofInt_eq_ofNat]
/-- the cells that stand from the start on: code, length -/
def tbl : List (Nat × Nat) := [(10,0),(9,0),(23,8),(20,7),(20,64),(20,24),(9,0),(23,8),(20,7),(20,64),(20,24),
  (5,0),(20,7),(20,96),(20,1152),(20,1404),(20,1404),(20,8),(2,0),(20,13),(20,12),(20,12),(20,12),
  (5,0),(20,7),(20,96),(20,1152),(20,1404),(20,1404),(20,8),(2,0),(20,13),(20,12),(20,12),(20,12),
  (23,8),(20,40),(20,4),(20,4),(21,160),(20,6),(20,4),
  (11,0),(20,32),(20,7),(20,64),(20,24),(20,40),(20,180),(20,160),(20,1248),(20,1248),(20,19),(20,12),(20,12),(20,12),(20,16),(22,16),(20,32),(24,4),(21,40),(21,40),(21,40),(21,40),(20,4),(20,4),(21,40)]
def tb (c : Nat) : Nat × Nat := tbl.getD c (99, 0)
def nF : Nat → Nat := fun k => match k with
  | 2 => 9
  | 5 => 16
  | 9 => 11
  | 10 => 13
  | 11 => 42
  | _ => 3
def rF (ci k : Nat) : Bool := match ci with
  | 5 => Nat.ble 5 k
  | 9 => k == 4 || k == 6 || k == 7 || k == 9
  | 10 => !(k == 2 || k == 7)
  | 11 => [5, 6, 8, 10, 11, 13, 19, 20, 21, 29, 30, 32, 33, 34, 35, 36, 38, 39, 40, 41].contains k
  | _ => false
/-- the class of a fault by its kind -/
def kcl (z : Int) : Nat := if z = 0 then 0 else if z = 1 then 1 else if z = 2 then 7 else if z = 3 then 6 else if z = 4 then 3 else if z = 5 then 4 else 8
def rv (b0 : Nat) (r : Option Nat) : Value := va_rf (r.map (fun x => b0 + x))
def fv (b0 ci : Nat) (f : Int → Int) (r : Int → Option Nat) (k : Nat) : Value := if rF ci k = true then rv b0 (r k) else .int (iI (f k))
def entc (b0 : Nat) (Y : Nat → Nat) (t : Nat × Nat) (f : Int → Int) (r : Int → Option Nat) : va_E := match t.1 with
  | 20 => .inl (Y 0, t.2, .inl (fun j => iI (f j)))
  | 21 => .inl (Y 1, t.2, .inr (.inl (fun j => jI (f j))))
  | 22 => .inl (Y 2, t.2, .inl (fun j => iI (f j)))
  | 23 => .inl (Y 3, t.2, .inr (.inr (.inr (.inr (fun j => (r j).map (fun x => b0 + x))))))
  | 24 => .inl (Y 4, t.2, .inr (.inr (.inr (.inr (fun j => (r j).map (fun x => b0 + x))))))
  | 99 => .inr (kcl (f 3), [.int (iI (f 0)), .int (iI (f 1)), .int (iI (f 2))])
  | ci => .inr (ci, (List.range (nF ci)).map (fv b0 ci f r))
def u1 {α : Type} (f : Int → α) (z : Int) (v : α) : Int → α := fun x => if x = z then v else f x
def u2 {α : Type} (V : Nat → Int → α) (c : Nat) (z : Int) (v : α) : Nat → Int → α := fun d => if d = c then u1 (V c) z v else V d
def uC {α : Type} (V : Nat → α) (c : Nat) (f : α) : Nat → α := fun d => if d = c then f else V d
theorem u2_s {α : Type} {V : Nat → Int → α} {c : Nat} {z : Int} {v : α} : u2 V c z v c = u1 (V c) z v := if_pos rfl
theorem u2_n {α : Type} {V : Nat → Int → α} {c d : Nat} {z : Int} {v : α} (h : d ≠ c) : u2 V c z v d = V d := if_neg h
theorem u1_s {α : Type} {f : Int → α} {z : Int} {v : α} : u1 f z v z = v := if_pos rfl
theorem u1_n {α : Type} {f : Int → α} {z x : Int} {v : α} (h : x ≠ z) : u1 f z v x = f x := if_neg h
theorem uC_s {α : Type} {V : Nat → α} {c : Nat} {f : α} : uC V c f c = f := if_pos rfl
theorem uC_n {α : Type} {V : Nat → α} {c d : Nat} {f : α} (h : d ≠ c) : uC V c f d = V d := if_neg h
theorem u2_at {α : Type} (V : Nat → Int → α) (c d : Nat) (z x : Int) (v : α) : u2 V c z v d x = if d = c ∧ x = z then v else V d x := by
  by_cases h : d = c
  · subst h
    rw [u2_s]
    by_cases h2 : x = z <;> simp [u1, h2]
  · rw [u2_n h, if_neg (fun q => h q.1)]
abbrev Mem : Type := Nat × (Nat → Int → Int) × (Nat → Int → Option Nat)
def RgV (V : Nat → Int → Int) : Prop := ∀ c z, Rl (V c z) ∧ ((tb c).1 ≠ 21 → Rg (V c z))
def GW (b0 : Nat) (D : va_G) (Y : Nat → Nat) (n : Nat) (V : Nat → Int → Int) (R : Nat → Int → Option Nat) (H : Heap) : Prop :=
  H.size = b0 + n ∧ (∀ c, c < n → va_at D vwCl (b0 + c, entc b0 Y (tb c) (V c) (R c)) H) ∧ RgV V
def aA (b0 : Nat) : Nat → Prop := fun q => b0 ≤ q
def tysY (Y : Nat → Nat) : List (ClassId × FieldType) := [(Y 0, .int), (Y 1, .long), (Y 2, .boolean), (Y 3, .object "LogSawyer$Fault"), (Y 4, .array .long)]
def tRM : List Int := [2, 1, 99, 99, 99, 99, 30]
def tRF : List Int := [1, 1, 9, 6, 3, 1, 12]
def tAU : List Int := [1, 1, 0, -1, -1, -1, 0, 1]
def tAV : List Int := [0, 1, 1, 1, 0, -1, -1, -1]
def tat (l : List Int) (z : Int) : Int := l.getD z.toNat 0
def stZ (b0 : Nat) (nm : String) (t : Nat) (l : List Int) (U : State) (H : Heap) : Prop := va_Z "LogSawyer" nm "[I" (.ref t) (aA b0) U H ∧ va_T .int t l.length (fun j => .int (iI (l.getD j 0))) (aA b0) U H
/-- words that are no words of a contract: a state says them -/
def nwL : List Cond := [Cond.castable "LogSawyer$Knot" "LogSawyer$Fault", Cond.castable "LogSawyer$Loose" "LogSawyer$Fault", Cond.castable "LogSawyer$Spike" "LogSawyer$Fault", Cond.castable "LogSawyer$Shake" "LogSawyer$Fault", Cond.castable "LogSawyer$Ring" "LogSawyer$Fault", Cond.castable "LogSawyer$Rot" "LogSawyer$Fault", Cond.castable "LogSawyer$Stain" "LogSawyer$Fault", Cond.castable "LogSawyer$Loose" "LogSawyer$Knot", Cond.castable "LogSawyer$Spike" "LogSawyer$Knot", Cond.castable "LogSawyer$Spike" "LogSawyer$Loose", Cond.castable "LogSawyer$Ring" "LogSawyer$Shake", Cond.castable "LogSawyer$Stain" "LogSawyer$Rot", Cond.declares ⟨"LogSawyer$Fault", "kind", "()I"⟩, Cond.declares ⟨"LogSawyer$Fault", "lasts", "(I)I"⟩, Cond.declares ⟨"LogSawyer$Fault", "isIn", "(II)Z"⟩, Cond.declares ⟨"LogSawyer$Fault", "hurts", "()I"⟩, Cond.methodLinkNest "LogSawyer" 25 yX6_init "LogSawyer", Cond.methodLinkNest "LogSawyer$Saw" 49 yX3_init "LogSawyer", Cond.methodLinkNest "LogSawyer$Yard" 58 yX11_fromMiddle "LogSawyer", Cond.methodLinkNest "LogSawyer$Yard" 68 yX11_within "LogSawyer", Cond.methodLinkNest "LogSawyer$Fault" 47 yX11_fromMiddle "LogSawyer", Cond.methodLinkNest "LogSawyer$Saw" 119 yX11_ownX "LogSawyer", Cond.methodLinkNest "LogSawyer$Saw" 123 yX11_fromMiddle "LogSawyer", Cond.methodLinkNest "LogSawyer$Saw" 126 yX11_ownY "LogSawyer", Cond.methodLinkNest "LogSawyer$Saw" 175 yX11_has "LogSawyer", Cond.methodLinkNest "LogSawyer$Saw" 186 yX11_within "LogSawyer", Cond.methodLinkNest "LogSawyer$Yard" 103 yX11_has "LogSawyer", Cond.fieldLinkNest "LogSawyer$Yard" 49 "LogSawyer" "RULE_FIRST" "[I" "LogSawyer", Cond.fieldLinkNest "LogSawyer$Fault" 21 "LogSawyer" "ANGLE_U" "[I" "LogSawyer", Cond.fieldLinkNest "LogSawyer$Fault" 25 "LogSawyer" "ANGLE_V" "[I" "LogSawyer"]
/-- words of super.lasts() of a Spike: its class has none of its own above it but a Knot's -/
def nwS : List Cond := [Cond.methodLink RX8 7 ⟨RX2, "lasts", "(I)I"⟩, Cond.sameMethod RX2 RX1 "lasts" "(I)I", Cond.superclass RX8 RX2]
/-- what is no case of what -/
def ncL : List (String × String) := [("LogSawyer$Knot", "LogSawyer$Loose"), ("LogSawyer$Knot", "LogSawyer$Spike"), ("LogSawyer$Knot", "LogSawyer$Shake"), ("LogSawyer$Knot", "LogSawyer$Ring"), ("LogSawyer$Knot", "LogSawyer$Rot"), ("LogSawyer$Knot", "LogSawyer$Stain"), ("LogSawyer$Loose", "LogSawyer$Spike"), ("LogSawyer$Loose", "LogSawyer$Shake"), ("LogSawyer$Loose", "LogSawyer$Ring"), ("LogSawyer$Loose", "LogSawyer$Rot"), ("LogSawyer$Loose", "LogSawyer$Stain"), ("LogSawyer$Spike", "LogSawyer$Shake"), ("LogSawyer$Spike", "LogSawyer$Ring"), ("LogSawyer$Spike", "LogSawyer$Rot"), ("LogSawyer$Spike", "LogSawyer$Stain"), ("LogSawyer$Shake", "LogSawyer$Knot"), ("LogSawyer$Shake", "LogSawyer$Loose"), ("LogSawyer$Shake", "LogSawyer$Spike"), ("LogSawyer$Shake", "LogSawyer$Ring"), ("LogSawyer$Shake", "LogSawyer$Rot"), ("LogSawyer$Shake", "LogSawyer$Stain"), ("LogSawyer$Ring", "LogSawyer$Knot"), ("LogSawyer$Ring", "LogSawyer$Loose"), ("LogSawyer$Ring", "LogSawyer$Spike"), ("LogSawyer$Ring", "LogSawyer$Rot"), ("LogSawyer$Ring", "LogSawyer$Stain"), ("LogSawyer$Rot", "LogSawyer$Knot"), ("LogSawyer$Rot", "LogSawyer$Loose"), ("LogSawyer$Rot", "LogSawyer$Spike"), ("LogSawyer$Rot", "LogSawyer$Shake"), ("LogSawyer$Rot", "LogSawyer$Ring"), ("LogSawyer$Rot", "LogSawyer$Stain"), ("LogSawyer$Stain", "LogSawyer$Knot"), ("LogSawyer$Stain", "LogSawyer$Loose"), ("LogSawyer$Stain", "LogSawyer$Spike"), ("LogSawyer$Stain", "LogSawyer$Shake"), ("LogSawyer$Stain", "LogSawyer$Ring")]
/-- arrays of arrays: the word that multianewarray asks for -/
def va_AL (t : FieldType) (U : State) : Prop := (Cond.arrayOver (.array t)).before #[] U = true
theorem va_AL.moved {t : FieldType} {u U : State} (hvm : u.vm.Alike U.vm) (h : va_AL t u) : va_AL t U := by
  unfold va_AL Cond.before Cond.holds at h ⊢
  simp only [Cond.value, beq_iff_eq] at h ⊢
  cases hc : u.vm.findClass (FieldType.array t).toString with
  | none => simp [hc] at h
  | some comp =>
    simp only [hc, Option.bind_some, Option.bind_eq_some_iff, Option.map_eq_some_iff] at h
    obtain ⟨c, hi, k, hk, hb⟩ := h
    obtain ⟨k', hk', he⟩ := hvm.2.2 _ _ hk
    have hi2 : (U.vm.classes.findIdx? fun (x : Class) => match x.kind with | .array component _ => component == comp | _ => false) = some c := by
      refine (va_idx_bare U.vm comp).symm.trans (Eq.trans ?_ ((va_idx_bare u.vm comp).trans hi))
      first | rw [hvm.bare_eq] | rw [← hvm.bare_eq]
    have f1 : U.vm.findClass (FieldType.array t).toString = some comp := by rw [hvm.findClass]; exact hc
    have hkk : k'.kind = k.kind := by rw [he]
    rw [f1, Option.bind_some]
    refine (congrArg (fun o : Option Nat => (o.bind (fun c => (U.vm.classes[c]?).map fun (k : Class) => match k.kind with | .array _ ty => decide (ty = FieldType.array t) && decide (U.vm.findClass ("[" ++ (FieldType.array t).toString) = some c) | _ => false)) ) hi2).trans ?_
    rw [Option.bind_some, hk', Option.map_some, hkk, hvm.findClass]
    exact congrArg some hb
def NwAll (U : State) : Prop := (∀ w ∈ nwL, va_Nw w U) ∧ (∀ w ∈ nwS, va_Nw w U) ∧ (∀ q ∈ ncL, va_Nc q.1 q.2 U) ∧ va_AO "LogSawyer$Fault" U ∧ va_AL .long U
theorem nwS_good : ∀ w ∈ nwS, goodWord w = true := List.all_eq_true.mp (by decide +kernel)
theorem nwS_tab : ∀ w ∈ nwS, w.onTables = true := List.all_eq_true.mp (by decide +kernel)
theorem NwAll.warm {s U : State} (hW : s.WarmedH U.vm) (h : NwAll s) : NwAll U := ⟨List.forall_mem_cons.mpr ⟨va_Nw.warmC hW (h.1 _ (List.mem_of_getElem? (i := 0) rfl)), List.forall_mem_cons.mpr ⟨va_Nw.warmC hW (h.1 _ (List.mem_of_getElem? (i := 1) rfl)), List.forall_mem_cons.mpr ⟨va_Nw.warmC hW (h.1 _ (List.mem_of_getElem? (i := 2) rfl)), List.forall_mem_cons.mpr ⟨va_Nw.warmC hW (h.1 _ (List.mem_of_getElem? (i := 3) rfl)), List.forall_mem_cons.mpr ⟨va_Nw.warmC hW (h.1 _ (List.mem_of_getElem? (i := 4) rfl)), List.forall_mem_cons.mpr ⟨va_Nw.warmC hW (h.1 _ (List.mem_of_getElem? (i := 5) rfl)), List.forall_mem_cons.mpr ⟨va_Nw.warmC hW (h.1 _ (List.mem_of_getElem? (i := 6) rfl)), List.forall_mem_cons.mpr ⟨va_Nw.warmC hW (h.1 _ (List.mem_of_getElem? (i := 7) rfl)), List.forall_mem_cons.mpr ⟨va_Nw.warmC hW (h.1 _ (List.mem_of_getElem? (i := 8) rfl)), List.forall_mem_cons.mpr ⟨va_Nw.warmC hW (h.1 _ (List.mem_of_getElem? (i := 9) rfl)), List.forall_mem_cons.mpr ⟨va_Nw.warmC hW (h.1 _ (List.mem_of_getElem? (i := 10) rfl)), List.forall_mem_cons.mpr ⟨va_Nw.warmC hW (h.1 _ (List.mem_of_getElem? (i := 11) rfl)), List.forall_mem_cons.mpr ⟨va_Nw.warmD hW (h.1 _ (List.mem_of_getElem? (i := 12) rfl)), List.forall_mem_cons.mpr ⟨va_Nw.warmD hW (h.1 _ (List.mem_of_getElem? (i := 13) rfl)), List.forall_mem_cons.mpr ⟨va_Nw.warmD hW (h.1 _ (List.mem_of_getElem? (i := 14) rfl)), List.forall_mem_cons.mpr ⟨va_Nw.warmD hW (h.1 _ (List.mem_of_getElem? (i := 15) rfl)), List.forall_mem_cons.mpr ⟨va_Nw.warmM hW (h.1 _ (List.mem_of_getElem? (i := 16) rfl)), List.forall_mem_cons.mpr ⟨va_Nw.warmM hW (h.1 _ (List.mem_of_getElem? (i := 17) rfl)), List.forall_mem_cons.mpr ⟨va_Nw.warmM hW (h.1 _ (List.mem_of_getElem? (i := 18) rfl)), List.forall_mem_cons.mpr ⟨va_Nw.warmM hW (h.1 _ (List.mem_of_getElem? (i := 19) rfl)), List.forall_mem_cons.mpr ⟨va_Nw.warmM hW (h.1 _ (List.mem_of_getElem? (i := 20) rfl)), List.forall_mem_cons.mpr ⟨va_Nw.warmM hW (h.1 _ (List.mem_of_getElem? (i := 21) rfl)), List.forall_mem_cons.mpr ⟨va_Nw.warmM hW (h.1 _ (List.mem_of_getElem? (i := 22) rfl)), List.forall_mem_cons.mpr ⟨va_Nw.warmM hW (h.1 _ (List.mem_of_getElem? (i := 23) rfl)), List.forall_mem_cons.mpr ⟨va_Nw.warmM hW (h.1 _ (List.mem_of_getElem? (i := 24) rfl)), List.forall_mem_cons.mpr ⟨va_Nw.warmM hW (h.1 _ (List.mem_of_getElem? (i := 25) rfl)), List.forall_mem_cons.mpr ⟨va_Nw.warmM hW (h.1 _ (List.mem_of_getElem? (i := 26) rfl)), List.forall_mem_cons.mpr ⟨va_Nw.warmF hW (h.1 _ (List.mem_of_getElem? (i := 27) rfl)), List.forall_mem_cons.mpr ⟨va_Nw.warmF hW (h.1 _ (List.mem_of_getElem? (i := 28) rfl)), List.forall_mem_cons.mpr ⟨va_Nw.warmF hW (h.1 _ (List.mem_of_getElem? (i := 29) rfl)), fun _ h => absurd h List.not_mem_nil⟩⟩⟩⟩⟩⟩⟩⟩⟩⟩⟩⟩⟩⟩⟩⟩⟩⟩⟩⟩⟩⟩⟩⟩⟩⟩⟩⟩⟩⟩, fun w hw => pay_in (args := #[]) (big := nwS) (ws := nwS) h.2.1 (fun w hw => ⟨hw, good_of_word (nwS_good w hw)⟩) w hw #[] U hW, fun q hq => (h.2.2.1 q hq).moved hW.alike, h.2.2.2.1.moved hW.alike, h.2.2.2.2.moved hW.alike⟩
theorem nwL_tab : ∀ w ∈ nwL, w.onTables = true := List.all_eq_true.mp (by decide +kernel)
theorem NwAll.same {s U : State} (hv : s.vm = U.vm) (h : NwAll s) : NwAll U := ⟨fun w hw => va_Nw.same (nwL_tab w hw) hv (h.1 w hw), fun w hw => va_Nw.same (nwS_tab w hw) hv (h.2.1 w hw), fun q hq => by obtain ⟨c, t, h1, h2, h3⟩ := h.2.2.1 q hq; exact ⟨c, t, by rw [← hv]; exact h1, by rw [← hv]; exact h2, by rw [← hv]; exact h3⟩, h.2.2.2.1.moved (by rw [← hv]; exact Vm.Alike.refl _), h.2.2.2.2.moved (by rw [← hv]; exact Vm.Alike.refl _)⟩
/-- what the tables and the statics say, at a state -/
def Kx (b0 : Nat) (D : va_G) (Y : Nat → Nat) (U : State) (H : Heap) : Prop :=
  NwAll U ∧ va_K D vwCl (tysY Y) U ∧ stZ b0 "RULE_MOST" (Y 5) tRM U H ∧ stZ b0 "RULE_FIRST" (Y 6) tRF U H ∧ stZ b0 "ANGLE_U" (Y 7) tAU U H ∧ stZ b0 "ANGLE_V" (Y 8) tAV U H ∧
  vk_R "LogSawyer" 126 "klshrot" (Y 9) U ∧ vk_S 1 [7] [[107, 108, 115, 104, 114, 111, 116]] (fun _ => Y 9) (fun _ => Y 10) (aA b0) U H ∧ va_Z "java/lang/String" "COMPACT_STRINGS" "Z" (.int 1) (aA b0) U H
theorem stZ.to {b0 : Nat} {nm : String} {t : Nat} {l : List Int} {s U : State} {H0 H : Heap} (hv : s.vm.Alike U.vm) (hq : ∀ a : Nat, a < H0.size → ¬ aA b0 a → H[a]? = H0[a]?) (h : stZ b0 nm t l s H0) : stZ b0 nm t l U H :=
  ⟨(h.1.moved hv).kept hq, (h.2.moved hv).kept hq⟩
theorem Kx.to {b0 : Nat} {D : va_G} {Y : Nat → Nat} {s U : State} {H : Heap} {locs : List Loc} (hW : s.WarmedH U.vm) (hS : va_S (aA b0) s.heap H locs) (h : Kx b0 D Y s s.heap) : Kx b0 D Y U H := by
  obtain ⟨h0, h1, h2, h3, h4, h5, h6, h7, h8⟩ := h
  have hv : s.vm.Alike U.vm := hW.alike
  exact ⟨h0.warm hW, h1.moved hv, h2.to hv hS.2.1, h3.to hv hS.2.1, h4.to hv hS.2.1, h5.to hv hS.2.1, h6.warm hW, (h7.moved hv).kept hS.2.1, (h8.moved hv).kept hS.2.1⟩
theorem Kx.call {b0 : Nat} {D : va_G} {Y : Nat → Nat} {U : State} {H : Heap} {g : JFrame} {mk : MethodId} {a : Array Value} (h : Kx b0 D Y U H) : Kx b0 D Y (U.calling g mk a) H := by
  obtain ⟨h0, h1, h2, h3, h4, h5, h6, h7, h8⟩ := h
  have hv : U.vm.Alike (U.calling g mk a).vm := Vm.Alike.refl U.vm
  exact ⟨h0.same (s := U) rfl, h1.moved hv, h2.to hv (fun _ _ _ => rfl), h3.to hv (fun _ _ _ => rfl), h4.to hv (fun _ _ _ => rfl), h5.to hv (fun _ _ _ => rfl), vk_R.same rfl h6, (h7.moved hv), (h8.moved hv)⟩
theorem Kx.nw {b0 : Nat} {D : va_G} {Y : Nat → Nat} {U : State} {H : Heap} (h : Kx b0 D Y U H) : ∀ w ∈ nwL, va_Nw w U := h.1.1
theorem Kx.ns {b0 : Nat} {D : va_G} {Y : Nat → Nat} {U : State} {H : Heap} (h : Kx b0 D Y U H) : ∀ w ∈ nwS, va_Nw w U := h.1.2.1
theorem Kx.nc {b0 : Nat} {D : va_G} {Y : Nat → Nat} {U : State} {H : Heap} (h : Kx b0 D Y U H) : ∀ q ∈ ncL, va_Nc q.1 q.2 U := h.1.2.2.1
theorem Kx.ao {b0 : Nat} {D : va_G} {Y : Nat → Nat} {U : State} {H : Heap} (h : Kx b0 D Y U H) : va_AO "LogSawyer$Fault" U ∧ va_AL .long U := h.1.2.2.2
theorem Kx.k {b0 : Nat} {D : va_G} {Y : Nat → Nat} {U : State} {H : Heap} (h : Kx b0 D Y U H) : va_K D vwCl (tysY Y) U := h.2.1
section GWs
variable {b0 : Nat} {D : va_G} {Y : Nat → Nat} {n : Nat} {V V' : Nat → Int → Int} {R R' : Nat → Int → Option Nat} {H H' : Heap}
theorem GW.lt (h : GW b0 D Y n V R H) {c : Nat} (hc : c < n) : b0 + c < H.size := by rw [h.1]; omega
theorem GW.one (h : GW b0 D Y n V R H) {c : Nat} (hc : c < n) : va_P D vwCl [(b0 + c, entc b0 Y (tb c) (V c) (R c))] H := by
  intro k q hk
  have hz : k < 1 := (List.getElem?_eq_some_iff.mp hk).1
  rw [show k = 0 by omega] at hk
  cases hk
  exact h.2.1 c hc
/-- one cell is another, all others stay -/
theorem GW.upd (h : GW b0 D Y n V R H) (c : Nat) (he : va_at D vwCl (b0 + c, entc b0 Y (tb c) (V' c) (R' c)) H')
    (hV : ∀ d, d ≠ c → V' d = V d) (hR : ∀ d, d ≠ c → R' d = R d) (hz : H'.size = H.size) (oq : ∀ q : Nat, q ≠ b0 + c → H'[q]? = H[q]?) (hr : RgV V') : GW b0 D Y n V' R' H' := by
  refine ⟨by rw [hz]; exact h.1, fun d hd => ?_, hr⟩
  by_cases e : d = c
  · subst e; exact he
  · rw [hV d e, hR d e]
    exact (h.2.1 d hd).kept (oq _ (by show b0 + d ≠ b0 + c; omega))
theorem RgV.u2 (h : RgV V) {c : Nat} {z v : Int} (hl : Rl v) (hv : (tb c).1 ≠ 21 → Rg v) : RgV (u2 V c z v) := by
  intro d x
  rw [u2_at]
  split
  · next e => rw [e.1]; exact ⟨hl, hv⟩
  · exact h d x
theorem Rg.l {z : Int} (h : Rg z) : Rl z := ⟨by have := h.1; omega, by have := h.2; omega⟩
theorem GW.push (h : GW b0 D Y n V R H) (he : va_at D vwCl (b0 + n, entc b0 Y (tb n) (V' n) (R' n)) H')
    (hV : ∀ d, d ≠ n → V' d = V d) (hR : ∀ d, d ≠ n → R' d = R d) (hz : H'.size = H.size + 1) (oq : ∀ q : Nat, q < H.size → H'[q]? = H[q]?) (hr : RgV V') : GW b0 D Y (n + 1) V' R' H' := by
  refine ⟨by rw [hz, h.1]; omega, fun d hd => ?_, hr⟩
  by_cases e : d = n
  · subst e; exact he
  · rw [hV d e, hR d e]
    exact (h.2.1 d (by omega)).kept (oq _ (h.lt (by omega)))
end GWs
/-- a list of locals, one set, in the order of the places -/
def lin (q : Nat × Value) : List (Nat × Value) → List (Nat × Value)
  | [] => [q]
  | x :: t => if Nat.blt q.1 x.1 then q :: x :: t else x :: lin q t
theorem lin_mem {q y : Nat × Value} : ∀ {l : List (Nat × Value)}, y ∈ lin q l → y ∈ q :: l
  | [], h => h
  | x :: t, h => by
    unfold lin at h
    split at h
    · exact h
    · rcases List.mem_cons.mp h with e | e
      · exact e ▸ List.mem_cons_of_mem _ List.mem_cons_self
      · rcases List.mem_cons.mp (lin_mem e) with e | e
        · exact e ▸ List.mem_cons_self
        · exact List.mem_cons_of_mem _ (List.mem_cons_of_mem _ e)
theorem lin_has {ls : Array Slot} {nL : Nat} {q : Nat × Value} {l : List (Nat × Value)} (h : lv_has ls nL (q :: l)) : lv_has ls nL (lin q l) := ⟨h.1, h.2.1, fun y hy => h.2.2 y (lin_mem hy)⟩
def lst (i : Nat) (v : Value) (l : List (Nat × Value)) : List (Nat × Value) := lin (i, v) (l.filter (fun q => !(q.1 == i) && !(q.1 + 1 == i && q.2.category == 2)))
