/-! truth values -/
noncomputable def bI (p : Prop) : Int := @ite Int p (Classical.propDecidable p) 1 0
theorem bI_t {p : Prop} (h : p) : bI p = 1 := by unfold bI; exact if_pos h
theorem bI_f {p : Prop} (h : ¬ p) : bI p = 0 := by unfold bI; exact if_neg h
theorem bI_01 (p : Prop) : bI p = 0 ∨ bI p = 1 := by
  by_cases h : p
  · exact Or.inr (bI_t h)
  · exact Or.inl (bI_f h)
theorem bI_rg (p : Prop) : Rg (bI p) := by rcases bI_01 p with h | h <;> rw [h] <;> constructor <;> decide
theorem bI_c {p q : Prop} (h : p ↔ q) : bI p = bI q := by rw [propext h]
theorem bI_rt {p : Prop} (h : p) : some (Value.int (iI 1)) = some (Value.int (iI (bI p))) := by rw [bI_t h]
theorem bI_rf {p : Prop} (h : ¬ p) : some (Value.int (iI 0)) = some (Value.int (iI (bI p))) := by rw [bI_f h]
theorem bI_rc {p q : Prop} (h : p ↔ q) : some (Value.int (iI (bI p))) = some (Value.int (iI (bI q))) := by rw [bI_c h]
theorem bI_1 {p : Prop} : bI p = 1 ↔ p := by
  by_cases h : p
  · rw [bI_t h]; exact ⟨fun _ => h, fun _ => rfl⟩
  · rw [bI_f h]; exact ⟨fun q => absurd q (by decide), fun q => absurd q h⟩
theorem bI_0 {p : Prop} : bI p = 0 ↔ ¬ p := by
  by_cases h : p
  · rw [bI_t h]; exact ⟨fun q => absurd q (by decide), fun q => absurd h q⟩
  · rw [bI_f h]; exact ⟨fun _ => h, fun _ => rfl⟩
section XB
variable {K : XS} {G : GS} {cells slots : Nat} {Q : State → Prop} {n : Nat} {V : Nat → Int → Int} {R : Nat → Int → Option Nat} {cc : ByteArray} {own : String} {nL : Nat} {ret : Option FieldType} {rm : Room} {pc : Nat} {lv lv' : List (Nat × Value)} {st : List Value}
theorem x_ifeq_b (C : Cx K G cc own nL ret rm) {p : Prop} {off : Int} {tgt : Nat} (hd : decode cc pc = .ok (.ifCond .eq off, 3)) (ht : (pc : Int) + off = (tgt : Int)) (k1 : ¬ p → Xw K G cells slots Q n V R tgt lv st) (k2 : p → Xw K G cells slots Q n V R (pc + 3) lv st) : Xw K G cells slots Q n V R pc lv (.int (iI (bI p)) :: st) :=
  x_if_eq C hd ht (bI_rg p) (fun h => k1 (bI_0.mp h)) (fun h => k2 (Classical.byContradiction fun q => h (bI_f q)))
theorem x_ifne_b (C : Cx K G cc own nL ret rm) {p : Prop} {off : Int} {tgt : Nat} (hd : decode cc pc = .ok (.ifCond .ne off, 3)) (ht : (pc : Int) + off = (tgt : Int)) (k1 : p → Xw K G cells slots Q n V R tgt lv st) (k2 : ¬ p → Xw K G cells slots Q n V R (pc + 3) lv st) : Xw K G cells slots Q n V R pc lv (.int (iI (bI p)) :: st) :=
  x_if_ne C hd ht (bI_rg p) (fun h => k1 (Classical.byContradiction fun q => h (bI_f q))) (fun h => k2 (bI_0.mp h))
theorem zCmp_rg (a b : Int) : Rg (zCmp a b) := by unfold zCmp; split <;> (try split) <;> constructor <;> decide
theorem zCmp_lt {a b : Int} : zCmp a b < 0 ↔ a < b := by unfold zCmp; split <;> (try split) <;> omega
theorem zCmp_le {a b : Int} : zCmp a b ≤ 0 ↔ a ≤ b := by unfold zCmp; split <;> (try split) <;> omega
theorem zCmp_eq {a b : Int} : zCmp a b = 0 ↔ a = b := by unfold zCmp; split <;> (try split) <;> omega
theorem x_zcmp_eq (C : Cx K G cc own nL ret rm) {a b : Int} {off : Int} {tgt : Nat} (hd : decode cc pc = .ok (.ifCond .eq off, 3)) (ht : (pc : Int) + off = (tgt : Int)) (k1 : (a = b) → Xw K G cells slots Q n V R tgt lv st) (k2 : (¬ a = b) → Xw K G cells slots Q n V R (pc + 3) lv st) : Xw K G cells slots Q n V R pc lv (.int (iI (zCmp a b)) :: st) :=
  x_if_eq C hd ht (zCmp_rg a b) (fun h => k1 (zCmp_eq.mp h)) (fun h => k2 (fun z => h (zCmp_eq.mpr z)))
theorem x_zcmp_ne (C : Cx K G cc own nL ret rm) {a b : Int} {off : Int} {tgt : Nat} (hd : decode cc pc = .ok (.ifCond .ne off, 3)) (ht : (pc : Int) + off = (tgt : Int)) (k1 : (¬ a = b) → Xw K G cells slots Q n V R tgt lv st) (k2 : (a = b) → Xw K G cells slots Q n V R (pc + 3) lv st) : Xw K G cells slots Q n V R pc lv (.int (iI (zCmp a b)) :: st) :=
  x_if_ne C hd ht (zCmp_rg a b) (fun h => k1 (fun z => h (zCmp_eq.mpr z))) (fun h => k2 (zCmp_eq.mp h))
theorem x_zcmp_lt (C : Cx K G cc own nL ret rm) {a b : Int} {off : Int} {tgt : Nat} (hd : decode cc pc = .ok (.ifCond .lt off, 3)) (ht : (pc : Int) + off = (tgt : Int)) (k1 : (a < b) → Xw K G cells slots Q n V R tgt lv st) (k2 : (b ≤ a) → Xw K G cells slots Q n V R (pc + 3) lv st) : Xw K G cells slots Q n V R pc lv (.int (iI (zCmp a b)) :: st) :=
  x_if_lt C hd ht (zCmp_rg a b) (fun h => k1 (zCmp_lt.mp h)) (fun h => k2 (Int.not_lt.mp fun z => by have := zCmp_lt.mpr z; omega))
theorem x_zcmp_ge (C : Cx K G cc own nL ret rm) {a b : Int} {off : Int} {tgt : Nat} (hd : decode cc pc = .ok (.ifCond .ge off, 3)) (ht : (pc : Int) + off = (tgt : Int)) (k1 : (b ≤ a) → Xw K G cells slots Q n V R tgt lv st) (k2 : (a < b) → Xw K G cells slots Q n V R (pc + 3) lv st) : Xw K G cells slots Q n V R pc lv (.int (iI (zCmp a b)) :: st) :=
  x_if_ge C hd ht (zCmp_rg a b) (fun h => k1 (Int.not_lt.mp fun z => by have := zCmp_lt.mpr z; omega)) (fun h => k2 (zCmp_lt.mp h))
theorem x_zcmp_gt (C : Cx K G cc own nL ret rm) {a b : Int} {off : Int} {tgt : Nat} (hd : decode cc pc = .ok (.ifCond .gt off, 3)) (ht : (pc : Int) + off = (tgt : Int)) (k1 : (b < a) → Xw K G cells slots Q n V R tgt lv st) (k2 : (a ≤ b) → Xw K G cells slots Q n V R (pc + 3) lv st) : Xw K G cells slots Q n V R pc lv (.int (iI (zCmp a b)) :: st) :=
  x_if_gt C hd ht (zCmp_rg a b) (fun h => k1 (Int.not_le.mp fun z => by have := zCmp_le.mpr z; omega)) (fun h => k2 (zCmp_le.mp h))
theorem x_zcmp_le (C : Cx K G cc own nL ret rm) {a b : Int} {off : Int} {tgt : Nat} (hd : decode cc pc = .ok (.ifCond .le off, 3)) (ht : (pc : Int) + off = (tgt : Int)) (k1 : (a ≤ b) → Xw K G cells slots Q n V R tgt lv st) (k2 : (b < a) → Xw K G cells slots Q n V R (pc + 3) lv st) : Xw K G cells slots Q n V R pc lv (.int (iI (zCmp a b)) :: st) :=
  x_if_le C hd ht (zCmp_rg a b) (fun h => k1 (zCmp_le.mp h)) (fun h => k2 (Int.not_le.mp fun z => by have := zCmp_le.mpr z; omega))
theorem x_nm {a : Int} (kk : ∀ x : Int, x = a → Xw K G cells slots Q n V R pc lv (.int (iI x) :: st)) : Xw K G cells slots Q n V R pc lv (.int (iI a) :: st) := kk a rfl
theorem x_topR {c d : Nat} {z : Int} (h : R c z = some d) (kk : Xw K G cells slots Q n V R pc lv (.ref (aG G d) :: st)) : Xw K G cells slots Q n V R pc lv (rv G.2.1 (R c z) :: st) := by
  rw [h]; exact kk
theorem x_topN {c : Nat} {z : Int} (h : R c z = none) (kk : Xw K G cells slots Q n V R pc lv (.null :: st)) : Xw K G cells slots Q n V R pc lv (rv G.2.1 (R c z) :: st) := by
  rw [h]; exact kk
theorem x_oinit (C : Cx K G cc own nL ret rm) {ix a : Nat} (hd : decode cc pc = .ok (.invokespecial ix, 3)) (hw : Cond.methodLink own ix Lib.objectInit ∈ BW) (hin : Cond.instanceMethod Lib.objectInit ∈ BW) (hcd : Cond.code Lib.objectInit ⟨#[0xb1]⟩ 1 none ∈ BW) (hR : 1 ≤ rm.frames ∧ (st.map fun v => v.category).sum + 12 ≤ rm.locals) (kk : Xw K G cells slots Q n V R (pc + 3) lv st) : Xw K G cells slots Q n V R pc lv (.ref a :: st) := by
  obtain ⟨p, e, Rm, s, m, args, below, meth, co⟩ := K
  obtain ⟨l, b0, D, Y⟩ := G
  obtain ⟨⟨hx, hb, hml, ho, hts⟩, hlk, hkx, hret, hRm⟩ := C
  subst hRm
  intro H locs ls g hs hl
  exact W.objInit hx hb ho (hts _ hw) (hts _ hin) (hts _ hcd) rfl hl.1 rfl hd hR.1 (by show 2 * 0 + _ + 12 ≤ _; omega) (kk H locs ls g hs hl)
end XB
/-! the layout -/
theorem lt67 {c n : Nat} (h : 67 ≤ n) (hc : Nat.blt c 67 = true) : c < n := by
  have h2 : c < 67 := by simpa [Nat.blt_eq] using hc
  omega
theorem tb_dyn {c : Nat} (h : 67 ≤ c) : tb c = (99, 0) := by
  unfold tb
  rw [List.getD_eq_getElem?_getD, List.getElem?_eq_none (by show 67 ≤ c; omega)]
  rfl
theorem ltS {s n k : Nat} (hs : s = 11 ∨ s = 23) (h : 67 ≤ n) (hk : k < 12) : s + k < n := by omega
theorem ltY {y n k : Nat} (hy : y = 1 ∨ y = 6) (h : 67 ≤ n) (hk : k < 5) : y + k < n := by omega
def lrT : List (Nat × Nat × Nat) := [(0, 0, 1), (0, 1, 6), (0, 3, 11), (0, 4, 23), (0, 5, 35), (0, 6, 36), (0, 8, 37), (0, 9, 38), (0, 10, 39), (0, 11, 40), (0, 12, 41), (1, 4, 2), (1, 6, 3), (1, 7, 4), (1, 9, 5), (6, 4, 7), (6, 6, 8), (6, 7, 9), (6, 9, 10), (11, 5, 12), (11, 6, 13), (11, 7, 14), (11, 8, 15), (11, 9, 16), (11, 10, 17), (11, 11, 18), (11, 12, 19), (11, 13, 20), (11, 14, 21), (11, 15, 22), (23, 5, 24), (23, 6, 25), (23, 7, 26), (23, 8, 27), (23, 9, 28), (23, 10, 29), (23, 11, 30), (23, 12, 31), (23, 13, 32), (23, 14, 33), (23, 15, 34), (42, 5, 43), (42, 6, 44), (42, 8, 45), (42, 10, 46), (42, 11, 47), (42, 13, 48), (42, 19, 49), (42, 20, 50), (42, 21, 51), (42, 29, 52), (42, 30, 53), (42, 32, 54), (42, 33, 55), (42, 34, 56), (42, 35, 57), (42, 36, 58), (42, 38, 59), (42, 39, 64), (42, 40, 65), (42, 41, 66), (59, 0, 60), (59, 1, 61), (59, 2, 62), (59, 3, 63)]
def LR (R : Nat → Int → Option Nat) : Prop := ∀ q ∈ lrT, R q.1 ((q.2.1 : Nat) : Int) = some q.2.2
theorem lr_0_0 {R : Nat → Int → Option Nat} (h : LR R) : R 0 0 = some 1 := h (0, 0, 1) (List.mem_of_getElem? (i := 0) rfl)
theorem lr_0_1 {R : Nat → Int → Option Nat} (h : LR R) : R 0 1 = some 6 := h (0, 1, 6) (List.mem_of_getElem? (i := 1) rfl)
theorem lr_0_3 {R : Nat → Int → Option Nat} (h : LR R) : R 0 3 = some 11 := h (0, 3, 11) (List.mem_of_getElem? (i := 2) rfl)
theorem lr_0_4 {R : Nat → Int → Option Nat} (h : LR R) : R 0 4 = some 23 := h (0, 4, 23) (List.mem_of_getElem? (i := 3) rfl)
theorem lr_0_5 {R : Nat → Int → Option Nat} (h : LR R) : R 0 5 = some 35 := h (0, 5, 35) (List.mem_of_getElem? (i := 4) rfl)
theorem lr_0_6 {R : Nat → Int → Option Nat} (h : LR R) : R 0 6 = some 36 := h (0, 6, 36) (List.mem_of_getElem? (i := 5) rfl)
theorem lr_0_8 {R : Nat → Int → Option Nat} (h : LR R) : R 0 8 = some 37 := h (0, 8, 37) (List.mem_of_getElem? (i := 6) rfl)
theorem lr_0_9 {R : Nat → Int → Option Nat} (h : LR R) : R 0 9 = some 38 := h (0, 9, 38) (List.mem_of_getElem? (i := 7) rfl)
theorem lr_0_10 {R : Nat → Int → Option Nat} (h : LR R) : R 0 10 = some 39 := h (0, 10, 39) (List.mem_of_getElem? (i := 8) rfl)
theorem lr_0_11 {R : Nat → Int → Option Nat} (h : LR R) : R 0 11 = some 40 := h (0, 11, 40) (List.mem_of_getElem? (i := 9) rfl)
theorem lr_0_12 {R : Nat → Int → Option Nat} (h : LR R) : R 0 12 = some 41 := h (0, 12, 41) (List.mem_of_getElem? (i := 10) rfl)
theorem lr_1_4 {R : Nat → Int → Option Nat} (h : LR R) : R 1 4 = some 2 := h (1, 4, 2) (List.mem_of_getElem? (i := 11) rfl)
theorem lr_1_6 {R : Nat → Int → Option Nat} (h : LR R) : R 1 6 = some 3 := h (1, 6, 3) (List.mem_of_getElem? (i := 12) rfl)
theorem lr_1_7 {R : Nat → Int → Option Nat} (h : LR R) : R 1 7 = some 4 := h (1, 7, 4) (List.mem_of_getElem? (i := 13) rfl)
theorem lr_1_9 {R : Nat → Int → Option Nat} (h : LR R) : R 1 9 = some 5 := h (1, 9, 5) (List.mem_of_getElem? (i := 14) rfl)
theorem lr_6_4 {R : Nat → Int → Option Nat} (h : LR R) : R 6 4 = some 7 := h (6, 4, 7) (List.mem_of_getElem? (i := 15) rfl)
theorem lr_6_6 {R : Nat → Int → Option Nat} (h : LR R) : R 6 6 = some 8 := h (6, 6, 8) (List.mem_of_getElem? (i := 16) rfl)
theorem lr_6_7 {R : Nat → Int → Option Nat} (h : LR R) : R 6 7 = some 9 := h (6, 7, 9) (List.mem_of_getElem? (i := 17) rfl)
theorem lr_6_9 {R : Nat → Int → Option Nat} (h : LR R) : R 6 9 = some 10 := h (6, 9, 10) (List.mem_of_getElem? (i := 18) rfl)
theorem lr_11_5 {R : Nat → Int → Option Nat} (h : LR R) : R 11 5 = some 12 := h (11, 5, 12) (List.mem_of_getElem? (i := 19) rfl)
theorem lr_11_6 {R : Nat → Int → Option Nat} (h : LR R) : R 11 6 = some 13 := h (11, 6, 13) (List.mem_of_getElem? (i := 20) rfl)
theorem lr_11_7 {R : Nat → Int → Option Nat} (h : LR R) : R 11 7 = some 14 := h (11, 7, 14) (List.mem_of_getElem? (i := 21) rfl)
theorem lr_11_8 {R : Nat → Int → Option Nat} (h : LR R) : R 11 8 = some 15 := h (11, 8, 15) (List.mem_of_getElem? (i := 22) rfl)
theorem lr_11_9 {R : Nat → Int → Option Nat} (h : LR R) : R 11 9 = some 16 := h (11, 9, 16) (List.mem_of_getElem? (i := 23) rfl)
theorem lr_11_10 {R : Nat → Int → Option Nat} (h : LR R) : R 11 10 = some 17 := h (11, 10, 17) (List.mem_of_getElem? (i := 24) rfl)
theorem lr_11_11 {R : Nat → Int → Option Nat} (h : LR R) : R 11 11 = some 18 := h (11, 11, 18) (List.mem_of_getElem? (i := 25) rfl)
theorem lr_11_12 {R : Nat → Int → Option Nat} (h : LR R) : R 11 12 = some 19 := h (11, 12, 19) (List.mem_of_getElem? (i := 26) rfl)
theorem lr_11_13 {R : Nat → Int → Option Nat} (h : LR R) : R 11 13 = some 20 := h (11, 13, 20) (List.mem_of_getElem? (i := 27) rfl)
theorem lr_11_14 {R : Nat → Int → Option Nat} (h : LR R) : R 11 14 = some 21 := h (11, 14, 21) (List.mem_of_getElem? (i := 28) rfl)
theorem lr_11_15 {R : Nat → Int → Option Nat} (h : LR R) : R 11 15 = some 22 := h (11, 15, 22) (List.mem_of_getElem? (i := 29) rfl)
theorem lr_23_5 {R : Nat → Int → Option Nat} (h : LR R) : R 23 5 = some 24 := h (23, 5, 24) (List.mem_of_getElem? (i := 30) rfl)
theorem lr_23_6 {R : Nat → Int → Option Nat} (h : LR R) : R 23 6 = some 25 := h (23, 6, 25) (List.mem_of_getElem? (i := 31) rfl)
theorem lr_23_7 {R : Nat → Int → Option Nat} (h : LR R) : R 23 7 = some 26 := h (23, 7, 26) (List.mem_of_getElem? (i := 32) rfl)
theorem lr_23_8 {R : Nat → Int → Option Nat} (h : LR R) : R 23 8 = some 27 := h (23, 8, 27) (List.mem_of_getElem? (i := 33) rfl)
theorem lr_23_9 {R : Nat → Int → Option Nat} (h : LR R) : R 23 9 = some 28 := h (23, 9, 28) (List.mem_of_getElem? (i := 34) rfl)
theorem lr_23_10 {R : Nat → Int → Option Nat} (h : LR R) : R 23 10 = some 29 := h (23, 10, 29) (List.mem_of_getElem? (i := 35) rfl)
theorem lr_23_11 {R : Nat → Int → Option Nat} (h : LR R) : R 23 11 = some 30 := h (23, 11, 30) (List.mem_of_getElem? (i := 36) rfl)
theorem lr_23_12 {R : Nat → Int → Option Nat} (h : LR R) : R 23 12 = some 31 := h (23, 12, 31) (List.mem_of_getElem? (i := 37) rfl)
theorem lr_23_13 {R : Nat → Int → Option Nat} (h : LR R) : R 23 13 = some 32 := h (23, 13, 32) (List.mem_of_getElem? (i := 38) rfl)
theorem lr_23_14 {R : Nat → Int → Option Nat} (h : LR R) : R 23 14 = some 33 := h (23, 14, 33) (List.mem_of_getElem? (i := 39) rfl)
theorem lr_23_15 {R : Nat → Int → Option Nat} (h : LR R) : R 23 15 = some 34 := h (23, 15, 34) (List.mem_of_getElem? (i := 40) rfl)
theorem lr_42_5 {R : Nat → Int → Option Nat} (h : LR R) : R 42 5 = some 43 := h (42, 5, 43) (List.mem_of_getElem? (i := 41) rfl)
theorem lr_42_6 {R : Nat → Int → Option Nat} (h : LR R) : R 42 6 = some 44 := h (42, 6, 44) (List.mem_of_getElem? (i := 42) rfl)
theorem lr_42_8 {R : Nat → Int → Option Nat} (h : LR R) : R 42 8 = some 45 := h (42, 8, 45) (List.mem_of_getElem? (i := 43) rfl)
theorem lr_42_10 {R : Nat → Int → Option Nat} (h : LR R) : R 42 10 = some 46 := h (42, 10, 46) (List.mem_of_getElem? (i := 44) rfl)
theorem lr_42_11 {R : Nat → Int → Option Nat} (h : LR R) : R 42 11 = some 47 := h (42, 11, 47) (List.mem_of_getElem? (i := 45) rfl)
theorem lr_42_13 {R : Nat → Int → Option Nat} (h : LR R) : R 42 13 = some 48 := h (42, 13, 48) (List.mem_of_getElem? (i := 46) rfl)
theorem lr_42_19 {R : Nat → Int → Option Nat} (h : LR R) : R 42 19 = some 49 := h (42, 19, 49) (List.mem_of_getElem? (i := 47) rfl)
theorem lr_42_20 {R : Nat → Int → Option Nat} (h : LR R) : R 42 20 = some 50 := h (42, 20, 50) (List.mem_of_getElem? (i := 48) rfl)
theorem lr_42_21 {R : Nat → Int → Option Nat} (h : LR R) : R 42 21 = some 51 := h (42, 21, 51) (List.mem_of_getElem? (i := 49) rfl)
theorem lr_42_29 {R : Nat → Int → Option Nat} (h : LR R) : R 42 29 = some 52 := h (42, 29, 52) (List.mem_of_getElem? (i := 50) rfl)
theorem lr_42_30 {R : Nat → Int → Option Nat} (h : LR R) : R 42 30 = some 53 := h (42, 30, 53) (List.mem_of_getElem? (i := 51) rfl)
theorem lr_42_32 {R : Nat → Int → Option Nat} (h : LR R) : R 42 32 = some 54 := h (42, 32, 54) (List.mem_of_getElem? (i := 52) rfl)
theorem lr_42_33 {R : Nat → Int → Option Nat} (h : LR R) : R 42 33 = some 55 := h (42, 33, 55) (List.mem_of_getElem? (i := 53) rfl)
theorem lr_42_34 {R : Nat → Int → Option Nat} (h : LR R) : R 42 34 = some 56 := h (42, 34, 56) (List.mem_of_getElem? (i := 54) rfl)
theorem lr_42_35 {R : Nat → Int → Option Nat} (h : LR R) : R 42 35 = some 57 := h (42, 35, 57) (List.mem_of_getElem? (i := 55) rfl)
theorem lr_42_36 {R : Nat → Int → Option Nat} (h : LR R) : R 42 36 = some 58 := h (42, 36, 58) (List.mem_of_getElem? (i := 56) rfl)
theorem lr_42_38 {R : Nat → Int → Option Nat} (h : LR R) : R 42 38 = some 59 := h (42, 38, 59) (List.mem_of_getElem? (i := 57) rfl)
theorem lr_42_39 {R : Nat → Int → Option Nat} (h : LR R) : R 42 39 = some 64 := h (42, 39, 64) (List.mem_of_getElem? (i := 58) rfl)
theorem lr_42_40 {R : Nat → Int → Option Nat} (h : LR R) : R 42 40 = some 65 := h (42, 40, 65) (List.mem_of_getElem? (i := 59) rfl)
theorem lr_42_41 {R : Nat → Int → Option Nat} (h : LR R) : R 42 41 = some 66 := h (42, 41, 66) (List.mem_of_getElem? (i := 60) rfl)
theorem lr_59_0 {R : Nat → Int → Option Nat} (h : LR R) : R 59 0 = some 60 := h (59, 0, 60) (List.mem_of_getElem? (i := 61) rfl)
theorem lr_59_1 {R : Nat → Int → Option Nat} (h : LR R) : R 59 1 = some 61 := h (59, 1, 61) (List.mem_of_getElem? (i := 62) rfl)
theorem lr_59_2 {R : Nat → Int → Option Nat} (h : LR R) : R 59 2 = some 62 := h (59, 2, 62) (List.mem_of_getElem? (i := 63) rfl)
theorem lr_59_3 {R : Nat → Int → Option Nat} (h : LR R) : R 59 3 = some 63 := h (59, 3, 63) (List.mem_of_getElem? (i := 64) rfl)
theorem tbS_0 {s : Nat} (h : s = 11 ∨ s = 23) : tb (s + 0) = (5, 0) := by rcases h with h | h <;> subst h <;> rfl
theorem tbS_1 {s : Nat} (h : s = 11 ∨ s = 23) : tb (s + 1) = (20, 7) := by rcases h with h | h <;> subst h <;> rfl
theorem tbS_2 {s : Nat} (h : s = 11 ∨ s = 23) : tb (s + 2) = (20, 96) := by rcases h with h | h <;> subst h <;> rfl
theorem tbS_3 {s : Nat} (h : s = 11 ∨ s = 23) : tb (s + 3) = (20, 1152) := by rcases h with h | h <;> subst h <;> rfl
theorem tbS_4 {s : Nat} (h : s = 11 ∨ s = 23) : tb (s + 4) = (20, 1404) := by rcases h with h | h <;> subst h <;> rfl
theorem tbS_5 {s : Nat} (h : s = 11 ∨ s = 23) : tb (s + 5) = (20, 1404) := by rcases h with h | h <;> subst h <;> rfl
theorem tbS_6 {s : Nat} (h : s = 11 ∨ s = 23) : tb (s + 6) = (20, 8) := by rcases h with h | h <;> subst h <;> rfl
theorem tbS_7 {s : Nat} (h : s = 11 ∨ s = 23) : tb (s + 7) = (2, 0) := by rcases h with h | h <;> subst h <;> rfl
theorem tbS_8 {s : Nat} (h : s = 11 ∨ s = 23) : tb (s + 8) = (20, 13) := by rcases h with h | h <;> subst h <;> rfl
theorem tbS_9 {s : Nat} (h : s = 11 ∨ s = 23) : tb (s + 9) = (20, 12) := by rcases h with h | h <;> subst h <;> rfl
theorem tbS_10 {s : Nat} (h : s = 11 ∨ s = 23) : tb (s + 10) = (20, 12) := by rcases h with h | h <;> subst h <;> rfl
theorem tbS_11 {s : Nat} (h : s = 11 ∨ s = 23) : tb (s + 11) = (20, 12) := by rcases h with h | h <;> subst h <;> rfl
theorem tbY_0 {s : Nat} (h : s = 1 ∨ s = 6) : tb (s + 0) = (9, 0) := by rcases h with h | h <;> subst h <;> rfl
theorem tbY_1 {s : Nat} (h : s = 1 ∨ s = 6) : tb (s + 1) = (23, 8) := by rcases h with h | h <;> subst h <;> rfl
theorem tbY_2 {s : Nat} (h : s = 1 ∨ s = 6) : tb (s + 2) = (20, 7) := by rcases h with h | h <;> subst h <;> rfl
theorem tbY_3 {s : Nat} (h : s = 1 ∨ s = 6) : tb (s + 3) = (20, 64) := by rcases h with h | h <;> subst h <;> rfl
theorem tbY_4 {s : Nat} (h : s = 1 ∨ s = 6) : tb (s + 4) = (20, 24) := by rcases h with h | h <;> subst h <;> rfl
theorem lrS_5 {R : Nat → Int → Option Nat} {s : Nat} (hs : s = 11 ∨ s = 23) (h : LR R) : R s 5 = some (s + 1) := by rcases hs with e | e <;> subst e <;> first | exact lr_11_5 h | exact lr_23_5 h
theorem lrS_6 {R : Nat → Int → Option Nat} {s : Nat} (hs : s = 11 ∨ s = 23) (h : LR R) : R s 6 = some (s + 2) := by rcases hs with e | e <;> subst e <;> first | exact lr_11_6 h | exact lr_23_6 h
theorem lrS_7 {R : Nat → Int → Option Nat} {s : Nat} (hs : s = 11 ∨ s = 23) (h : LR R) : R s 7 = some (s + 3) := by rcases hs with e | e <;> subst e <;> first | exact lr_11_7 h | exact lr_23_7 h
theorem lrS_8 {R : Nat → Int → Option Nat} {s : Nat} (hs : s = 11 ∨ s = 23) (h : LR R) : R s 8 = some (s + 4) := by rcases hs with e | e <;> subst e <;> first | exact lr_11_8 h | exact lr_23_8 h
theorem lrS_9 {R : Nat → Int → Option Nat} {s : Nat} (hs : s = 11 ∨ s = 23) (h : LR R) : R s 9 = some (s + 5) := by rcases hs with e | e <;> subst e <;> first | exact lr_11_9 h | exact lr_23_9 h
theorem lrS_10 {R : Nat → Int → Option Nat} {s : Nat} (hs : s = 11 ∨ s = 23) (h : LR R) : R s 10 = some (s + 6) := by rcases hs with e | e <;> subst e <;> first | exact lr_11_10 h | exact lr_23_10 h
theorem lrS_11 {R : Nat → Int → Option Nat} {s : Nat} (hs : s = 11 ∨ s = 23) (h : LR R) : R s 11 = some (s + 7) := by rcases hs with e | e <;> subst e <;> first | exact lr_11_11 h | exact lr_23_11 h
theorem lrS_12 {R : Nat → Int → Option Nat} {s : Nat} (hs : s = 11 ∨ s = 23) (h : LR R) : R s 12 = some (s + 8) := by rcases hs with e | e <;> subst e <;> first | exact lr_11_12 h | exact lr_23_12 h
theorem lrS_13 {R : Nat → Int → Option Nat} {s : Nat} (hs : s = 11 ∨ s = 23) (h : LR R) : R s 13 = some (s + 9) := by rcases hs with e | e <;> subst e <;> first | exact lr_11_13 h | exact lr_23_13 h
theorem lrS_14 {R : Nat → Int → Option Nat} {s : Nat} (hs : s = 11 ∨ s = 23) (h : LR R) : R s 14 = some (s + 10) := by rcases hs with e | e <;> subst e <;> first | exact lr_11_14 h | exact lr_23_14 h
theorem lrS_15 {R : Nat → Int → Option Nat} {s : Nat} (hs : s = 11 ∨ s = 23) (h : LR R) : R s 15 = some (s + 11) := by rcases hs with e | e <;> subst e <;> first | exact lr_11_15 h | exact lr_23_15 h
theorem lrY_4 {R : Nat → Int → Option Nat} {s : Nat} (hs : s = 1 ∨ s = 6) (h : LR R) : R s 4 = some (s + 1) := by rcases hs with e | e <;> subst e <;> first | exact lr_1_4 h | exact lr_6_4 h
theorem lrY_6 {R : Nat → Int → Option Nat} {s : Nat} (hs : s = 1 ∨ s = 6) (h : LR R) : R s 6 = some (s + 2) := by rcases hs with e | e <;> subst e <;> first | exact lr_1_6 h | exact lr_6_6 h
theorem lrY_7 {R : Nat → Int → Option Nat} {s : Nat} (hs : s = 1 ∨ s = 6) (h : LR R) : R s 7 = some (s + 3) := by rcases hs with e | e <;> subst e <;> first | exact lr_1_7 h | exact lr_6_7 h
theorem lrY_9 {R : Nat → Int → Option Nat} {s : Nat} (hs : s = 1 ∨ s = 6) (h : LR R) : R s 9 = some (s + 4) := by rcases hs with e | e <;> subst e <;> first | exact lr_1_9 h | exact lr_6_9 h
theorem ce_J0_checkBoundsBeginEnd_23922 : CeOk yJ0_checkBoundsBeginEnd_23922 cJ0_checkBoundsBeginEnd_23922 3 none 3 := ⟨q_11_7, q_9_2, by decide +kernel⟩
theorem ce_J0_coder_7d493 : CeOk yJ0_coder_7d493 cJ0_coder_7d493 1 (some .byte) 0 := ⟨q_9_22, q_9_2, by decide +kernel⟩
theorem ce_J0_indexOf_0f7a4 : CeOk yJ0_indexOf_0f7a4 cJ0_indexOf_0f7a4 2 (some .int) 1 := ⟨q_9_3, q_9_2, by decide +kernel⟩
theorem ce_J0_indexOf_7cf53 : CeOk yJ0_indexOf_7cf53 cJ0_indexOf_7cf53 3 (some .int) 2 := ⟨q_9_7, q_9_2, by decide +kernel⟩
theorem ce_J0_isLatin1_aae02 : CeOk yJ0_isLatin1_aae02 cJ0_isLatin1_aae02 1 (some .boolean) 0 := ⟨q_9_12, q_9_2, by decide +kernel⟩
theorem ce_J0_length_8abf5 : CeOk yJ0_length_8abf5 cJ0_length_8abf5 1 (some .int) 0 := ⟨q_9_18, q_9_2, by decide +kernel⟩
theorem ce_J11_highSurrogate_5068e : CeOk yJ11_highSurrogate_5068e cJ11_highSurrogate_5068e 1 (some .char) 1 := ⟨q_12_7, q_12_3, by decide +kernel⟩
theorem ce_J11_isValidCodePoint_9a6ad : CeOk yJ11_isValidCodePoint_9a6ad cJ11_isValidCodePoint_9a6ad 2 (some .boolean) 1 := ⟨q_12_4, q_12_3, by decide +kernel⟩
theorem ce_J11_lowSurrogate_5068e : CeOk yJ11_lowSurrogate_5068e cJ11_lowSurrogate_5068e 1 (some .char) 1 := ⟨q_12_11, q_12_3, by decide +kernel⟩
theorem ce_J1_canEncode_9a6ad : CeOk yJ1_canEncode_9a6ad cJ1_canEncode_9a6ad 1 (some .boolean) 1 := ⟨q_10_9, q_10_1, by decide +kernel⟩
theorem ce_J1_indexOfChar_4cfef : CeOk yJ1_indexOfChar_4cfef cJ1_indexOfChar_4cfef 6 (some .int) 4 := ⟨q_10_12, q_10_1, by decide +kernel⟩
theorem ce_J1_indexOf_4cfef : CeOk yJ1_indexOf_4cfef cJ1_indexOf_4cfef 4 (some .int) 4 := ⟨q_10_2, q_10_1, by decide +kernel⟩
theorem ce_J2_checkBoundsBeginEnd_d044e : CeOk yJ2_checkBoundsBeginEnd_d044e cJ2_checkBoundsBeginEnd_d044e 3 none 3 := ⟨q_11_1, q_10_15, by decide +kernel⟩
theorem ce_J2_getChar_3b067 : CeOk yJ2_getChar_3b067 cJ2_getChar_3b067 2 (some .char) 2 := ⟨q_11_18, q_10_15, by decide +kernel⟩
theorem ce_J2_indexOfCharUnsafe_4cfef : CeOk yJ2_indexOfCharUnsafe_4cfef cJ2_indexOfCharUnsafe_4cfef 5 (some .int) 4 := ⟨q_11_15, q_10_15, by decide +kernel⟩
theorem ce_J2_indexOfChar_4cfef : CeOk yJ2_indexOfChar_4cfef cJ2_indexOfChar_4cfef 4 (some .int) 4 := ⟨q_10_22, q_10_15, by decide +kernel⟩
theorem ce_J2_indexOfSupplementary_4cfef : CeOk yJ2_indexOfSupplementary_4cfef cJ2_indexOfSupplementary_4cfef 7 (some .int) 4 := ⟨q_12_0, q_10_15, by decide +kernel⟩
theorem ce_J2_indexOf_4cfef : CeOk yJ2_indexOf_4cfef cJ2_indexOf_4cfef 4 (some .int) 4 := ⟨q_10_16, q_10_15, by decide +kernel⟩
theorem ce_J2_length_9d52b : CeOk yJ2_length_9d52b cJ2_length_9d52b 1 (some .int) 1 := ⟨q_11_4, q_10_15, by decide +kernel⟩
theorem ce_J3_checkFromToIndex_8c36e : CeOk yJ3_checkFromToIndex_8c36e cJ3_checkFromToIndex_8c36e 4 (some .int) 4 := ⟨q_11_12, q_11_11, by decide +kernel⟩
theorem ce_J6_bitCount_0f7a4 : CeOk yJ6_bitCount_0f7a4 cJ6_bitCount_0f7a4 1 (some .int) 1 := ⟨q_42_13, q_42_12, by decide +kernel⟩
theorem ce_J7_fill_53178 : CeOk yJ7_fill_53178 cJ7_fill_53178 4 none 2 := ⟨q_3_20, q_3_19, by decide +kernel⟩
theorem ce_X0_across : CeOk yX0_across cX0_across 3 (some .int) 2 := ⟨q_21_14, q_14_2, by decide +kernel⟩
theorem ce_X0_along : CeOk yX0_along cX0_along 3 (some .int) 2 := ⟨q_21_7, q_14_2, by decide +kernel⟩
theorem ce_X0_cellsOfSlice : CeOk yX0_cellsOfSlice cX0_cellsOfSlice 3 (some .int) 0 := ⟨q_26_17, q_14_2, by decide +kernel⟩
theorem ce_X0_init : CeOk yX0_init cX0_init 4 none 3 := ⟨q_14_3, q_14_2, by decide +kernel⟩
theorem ce_X0_isInSlice : CeOk yX0_isInSlice cX0_isInSlice 3 (some .boolean) 2 := ⟨q_30_16, q_14_2, by decide +kernel⟩
theorem ce_X0_slicesOf : CeOk yX0_slicesOf cX0_slicesOf 2 (some .int) 1 := ⟨q_19_13, q_14_2, by decide +kernel⟩
theorem ce_X10_addBoard : CeOk yX10_addBoard cX10_addBoard 5 none 4 := ⟨q_39_20, q_0_15, by decide +kernel⟩
theorem ce_X10_addFault : CeOk yX10_addFault cX10_addFault 2 none 1 := ⟨q_15_11, q_0_15, by decide +kernel⟩
theorem ce_X10_addOrder : CeOk yX10_addOrder cX10_addOrder 5 none 4 := ⟨q_40_22, q_0_15, by decide +kernel⟩
theorem ce_X10_becomeAs : CeOk yX10_becomeAs cX10_becomeAs 3 none 1 := ⟨q_49_6, q_0_15, by decide +kernel⟩
theorem ce_X10_boardsThatMeet : CeOk yX10_boardsThatMeet cX10_boardsThatMeet 4 (some .int) 1 := ⟨q_41_16, q_0_15, by decide +kernel⟩
theorem ce_X10_dropFault : CeOk yX10_dropFault cX10_dropFault 3 none 1 := ⟨q_17_13, q_0_15, by decide +kernel⟩
theorem ce_X10_faultOf : CeOk yX10_faultOf cX10_faultOf 2 (some (.object "LogSawyer$Fault")) 1 := ⟨q_17_9, q_0_15, by decide +kernel⟩
theorem ce_X10_fillRow : CeOk yX10_fillRow cX10_fillRow 6 none 6 := ⟨q_39_23, q_0_15, by decide +kernel⟩
theorem ce_X10_hasLog : CeOk yX10_hasLog cX10_hasLog 1 (some .boolean) 0 := ⟨q_8_9, q_0_15, by decide +kernel⟩
theorem ce_X10_init : CeOk yX10_init cX10_init 1 none 0 := ⟨q_1_13, q_0_15, by decide +kernel⟩
theorem ce_X10_isWood : CeOk yX10_isWood cX10_isWood 7 (some .boolean) 3 := ⟨q_5_19, q_0_15, by decide +kernel⟩
theorem ce_X10_keepBoards : CeOk yX10_keepBoards cX10_keepBoards 2 none 1 := ⟨q_44_4, q_0_15, by decide +kernel⟩
theorem ce_X10_keepOrders : CeOk yX10_keepOrders cX10_keepOrders 2 none 1 := ⟨q_44_11, q_0_15, by decide +kernel⟩
theorem ce_X10_keepRows : CeOk yX10_keepRows cX10_keepRows 5 (some .int) 3 := ⟨q_44_7, q_0_15, by decide +kernel⟩
theorem ce_X10_lay : CeOk yX10_lay cX10_lay 5 none 3 := ⟨q_5_10, q_0_15, by decide +kernel⟩
theorem ce_X10_leastFaultIn : CeOk yX10_leastFaultIn cX10_leastFaultIn 6 (some .int) 3 := ⟨q_30_10, q_0_15, by decide +kernel⟩
theorem ce_X10_meets : CeOk yX10_meets cX10_meets 3 (some .boolean) 2 := ⟨q_41_20, q_0_15, by decide +kernel⟩
theorem ce_X10_woodIn : CeOk yX10_woodIn cX10_woodIn 8 (some .int) 1 := ⟨q_19_7, q_0_15, by decide +kernel⟩
theorem ce_X11_asItLies : CeOk yX11_asItLies cX11_asItLies 1 (some (.object "LogSawyer$Saw")) 0 := ⟨q_28_16, q_0_2, by decide +kernel⟩
theorem ce_X11_back : CeOk yX11_back cX11_back 1 (some .int) 0 := ⟨q_50_5, q_0_2, by decide +kernel⟩
theorem ce_X11_best : CeOk yX11_best cX11_best 2 (some .long) 1 := ⟨q_38_5, q_0_2, by decide +kernel⟩
theorem ce_X11_bestTurn : CeOk yX11_bestTurn cX11_bestTurn 1 (some .int) 0 := ⟨q_39_2, q_0_2, by decide +kernel⟩
theorem ce_X11_board : CeOk yX11_board cX11_board 5 (some .int) 3 := ⟨q_31_18, q_0_2, by decide +kernel⟩
theorem ce_X11_boardFor : CeOk yX11_boardFor cX11_boardFor 6 (some .int) 3 := ⟨q_44_0, q_0_2, by decide +kernel⟩
theorem ce_X11_boardsMeeting : CeOk yX11_boardsMeeting cX11_boardsMeeting 4 (some .int) 1 := ⟨q_42_8, q_0_2, by decide +kernel⟩
theorem ce_X11_canBeMet : CeOk yX11_canBeMet cX11_canBeMet 4 (some .boolean) 2 := ⟨q_42_4, q_0_2, by decide +kernel⟩
theorem ce_X11_canBePart : CeOk yX11_canBePart cX11_canBePart 2 (some .boolean) 2 := ⟨q_8_19, q_0_2, by decide +kernel⟩
theorem ce_X11_cell : CeOk yX11_cell cX11_cell 5 (some .int) 4 := ⟨q_28_12, q_0_2, by decide +kernel⟩
theorem ce_X11_chance : CeOk yX11_chance cX11_chance 7 (some .int) 4 := ⟨q_47_1, q_0_2, by decide +kernel⟩
theorem ce_X11_commonDivisor : CeOk yX11_commonDivisor cX11_commonDivisor 3 (some .int) 2 := ⟨q_47_4, q_0_2, by decide +kernel⟩
theorem ce_X11_copy : CeOk yX11_copy cX11_copy 6 (some .int) 5 := ⟨q_51_21, q_0_2, by decide +kernel⟩
theorem ce_X11_count : CeOk yX11_count cX11_count 2 (some .int) 1 := ⟨q_50_13, q_0_2, by decide +kernel⟩
theorem ce_X11_drawFaults : CeOk yX11_drawFaults cX11_drawFaults 9 (some .int) 2 := ⟨q_46_3, q_0_2, by decide +kernel⟩
theorem ce_X11_drawn : CeOk yX11_drawn cX11_drawn 3 (some .long) 2 := ⟨q_45_23, q_0_2, by decide +kernel⟩
theorem ce_X11_fault : CeOk yX11_fault cX11_fault 5 (some .int) 4 := ⟨q_16_16, q_0_2, by decide +kernel⟩
theorem ce_X11_feed : CeOk yX11_feed cX11_feed 7 (some .int) 6 := ⟨q_7_10, q_0_2, by decide +kernel⟩
theorem ce_X11_feedOne : CeOk yX11_feedOne cX11_feedOne 3 none 2 := ⟨q_7_17, q_0_2, by decide +kernel⟩
theorem ce_X11_findMeeting : CeOk yX11_findMeeting cX11_findMeeting 2 none 0 := ⟨q_41_12, q_0_2, by decide +kernel⟩
theorem ce_X11_firstOtherwise : CeOk yX11_firstOtherwise cX11_firstOtherwise 6 (some .int) 2 := ⟨q_47_22, q_0_2, by decide +kernel⟩
theorem ce_X11_fromMiddle : CeOk yX11_fromMiddle cX11_fromMiddle 1 (some .int) 1 := ⟨q_6_1, q_0_2, by decide +kernel⟩
theorem ce_X11_graded : CeOk yX11_graded cX11_graded 9 (some .int) 5 := ⟨q_35_6, q_0_2, by decide +kernel⟩
theorem ce_X11_has : CeOk yX11_has cX11_has 2 (some .boolean) 2 := ⟨q_36_18, q_0_2, by decide +kernel⟩
theorem ce_X11_hasItems : CeOk yX11_hasItems cX11_hasItems 4 (some .boolean) 3 := ⟨q_52_2, q_0_2, by decide +kernel⟩
theorem ce_X11_heal : CeOk yX11_heal cX11_heal 2 (some .int) 1 := ⟨q_17_5, q_0_2, by decide +kernel⟩
theorem ce_X11_image : CeOk yX11_image cX11_image 1 (some .int) 0 := ⟨q_49_2, q_0_2, by decide +kernel⟩
theorem ce_X11_init : CeOk yX11_init cX11_init 1 none 0 := ⟨q_0_9, q_0_2, by decide +kernel⟩
theorem ce_X11_isBlank : CeOk yX11_isBlank cX11_isBlank 1 (some .boolean) 1 := ⟨q_8_16, q_0_2, by decide +kernel⟩
theorem ce_X11_isBoard : CeOk yX11_isBoard cX11_isBoard 2 (some .boolean) 2 := ⟨q_32_5, q_0_2, by decide +kernel⟩
theorem ce_X11_isByte : CeOk yX11_isByte cX11_isByte 1 (some .boolean) 1 := ⟨q_7_13, q_0_2, by decide +kernel⟩
theorem ce_X11_isSheet : CeOk yX11_isSheet cX11_isSheet 1 (some .boolean) 1 := ⟨q_47_18, q_0_2, by decide +kernel⟩
theorem ce_X11_isUnder : CeOk yX11_isUnder cX11_isUnder 2 (some .boolean) 2 := ⟨q_26_5, q_0_2, by decide +kernel⟩
theorem ce_X11_itemsOf : CeOk yX11_itemsOf cX11_itemsOf 4 (some .int) 1 := ⟨q_12_16, q_0_2, by decide +kernel⟩
theorem ce_X11_kerfsTold : CeOk yX11_kerfsTold cX11_kerfsTold 4 (some .int) 1 := ⟨q_48_7, q_0_2, by decide +kernel⟩
theorem ce_X11_kindOf : CeOk yX11_kindOf cX11_kindOf 1 (some .int) 1 := ⟨q_8_22, q_0_2, by decide +kernel⟩
theorem ce_X11_log : CeOk yX11_log cX11_log 4 (some .int) 3 := ⟨q_5_2, q_0_2, by decide +kernel⟩
theorem ce_X11_met : CeOk yX11_met cX11_met 2 (some .int) 1 := ⟨q_41_8, q_0_2, by decide +kernel⟩
theorem ce_X11_newFault : CeOk yX11_newFault cX11_newFault 4 (some (.object "LogSawyer$Fault")) 4 := ⟨q_12_23, q_0_2, by decide +kernel⟩
theorem ce_X11_next : CeOk yX11_next cX11_next 1 (some .int) 1 := ⟨q_46_6, q_0_2, by decide +kernel⟩
theorem ce_X11_openByTurn : CeOk yX11_openByTurn cX11_openByTurn 2 (some .int) 1 := ⟨q_38_13, q_0_2, by decide +kernel⟩
theorem ce_X11_openedAsItLies : CeOk yX11_openedAsItLies cX11_openedAsItLies 2 (some (.object "LogSawyer$Saw")) 0 := ⟨q_36_11, q_0_2, by decide +kernel⟩
theorem ce_X11_opening : CeOk yX11_opening cX11_opening 4 (some .int) 2 := ⟨q_36_6, q_0_2, by decide +kernel⟩
theorem ce_X11_order : CeOk yX11_order cX11_order 5 (some .int) 4 := ⟨q_40_17, q_0_2, by decide +kernel⟩
theorem ce_X11_ordersMet : CeOk yX11_ordersMet cX11_ordersMet 4 (some .int) 0 := ⟨q_42_0, q_0_2, by decide +kernel⟩
theorem ce_X11_ownX : CeOk yX11_ownX cX11_ownX 3 (some .int) 3 := ⟨q_29_17, q_0_2, by decide +kernel⟩
theorem ce_X11_ownY : CeOk yX11_ownY cX11_ownY 3 (some .int) 3 := ⟨q_29_19, q_0_2, by decide +kernel⟩
theorem ce_X11_put : CeOk yX11_put cX11_put 5 (some .int) 3 := ⟨q_51_13, q_0_2, by decide +kernel⟩
theorem ce_X11_readItems : CeOk yX11_readItems cX11_readItems 4 none 1 := ⟨q_12_20, q_0_2, by decide +kernel⟩
theorem ce_X11_rule : CeOk yX11_rule cX11_rule 4 (some .int) 2 := ⟨q_27_21, q_0_2, by decide +kernel⟩
theorem ce_X11_saw : CeOk yX11_saw cX11_saw 4 (some .int) 0 := ⟨q_39_10, q_0_2, by decide +kernel⟩
theorem ce_X11_serve : CeOk yX11_serve cX11_serve 5 (some .int) 0 := ⟨q_43_20, q_0_2, by decide +kernel⟩
theorem ce_X11_sheet : CeOk yX11_sheet cX11_sheet 5 (some .int) 3 := ⟨q_51_5, q_0_2, by decide +kernel⟩
theorem ce_X11_stack : CeOk yX11_stack cX11_stack 3 (some .int) 2 := ⟨q_40_8, q_0_2, by decide +kernel⟩
theorem ce_X11_taken : CeOk yX11_taken cX11_taken 4 (some .int) 2 := ⟨q_26_2, q_0_2, by decide +kernel⟩
theorem ce_X11_tells : CeOk yX11_tells cX11_tells 3 (some .int) 2 := ⟨q_47_15, q_0_2, by decide +kernel⟩
theorem ce_X11_text : CeOk yX11_text cX11_text 3 (some .int) 0 := ⟨q_8_4, q_0_2, by decide +kernel⟩
theorem ce_X11_told : CeOk yX11_told cX11_told 4 (some .int) 2 := ⟨q_18_1, q_0_2, by decide +kernel⟩
theorem ce_X11_turn : CeOk yX11_turn cX11_turn 3 (some .int) 1 := ⟨q_27_11, q_0_2, by decide +kernel⟩
theorem ce_X11_turnOfMost : CeOk yX11_turnOfMost cX11_turnOfMost 3 (some .int) 0 := ⟨q_38_9, q_0_2, by decide +kernel⟩
theorem ce_X11_turnsTold : CeOk yX11_turnsTold cX11_turnsTold 4 (some .int) 1 := ⟨q_48_3, q_0_2, by decide +kernel⟩
theorem ce_X11_within : CeOk yX11_within cX11_within 3 (some .boolean) 3 := ⟨q_5_6, q_0_2, by decide +kernel⟩
theorem ce_X11_without : CeOk yX11_without cX11_without 4 (some .long) 1 := ⟨q_45_3, q_0_2, by decide +kernel⟩
theorem ce_X11_woodOfLog : CeOk yX11_woodOfLog cX11_woodOfLog 4 (some .int) 0 := ⟨q_5_14, q_0_2, by decide +kernel⟩
theorem ce_X11_woodWithFault : CeOk yX11_woodWithFault cX11_woodWithFault 7 (some .int) 0 := ⟨q_50_17, q_0_2, by decide +kernel⟩
theorem ce_X11_worth : CeOk yX11_worth cX11_worth 3 (some .long) 2 := ⟨q_35_20, q_0_2, by decide +kernel⟩
theorem ce_X11_worthInThought : CeOk yX11_worthInThought cX11_worthInThought 2 (some .int) 1 := ⟨q_45_7, q_0_2, by decide +kernel⟩
theorem ce_X11_wrongPlace : CeOk yX11_wrongPlace cX11_wrongPlace 5 (some .int) 1 := ⟨q_8_13, q_0_2, by decide +kernel⟩
theorem ce_X12_across : CeOk yX12_across cX12_across 1 (some .int) 1 := ⟨q_25_16, q_0_5, by decide +kernel⟩
theorem ce_X12_adds : CeOk yX12_adds cX12_adds 5 none 4 := ⟨q_17_1, q_0_5, by decide +kernel⟩
theorem ce_X12_back : CeOk yX12_back cX12_back 1 (some .int) 0 := ⟨q_50_9, q_0_5, by decide +kernel⟩
theorem ce_X12_begins : CeOk yX12_begins cX12_begins 6 (some .int) 3 := ⟨q_34_10, q_0_5, by decide +kernel⟩
theorem ce_X12_best : CeOk yX12_best cX12_best 2 (some .long) 1 := ⟨q_38_17, q_0_5, by decide +kernel⟩
theorem ce_X12_bestTurn : CeOk yX12_bestTurn cX12_bestTurn 1 (some .int) 0 := ⟨q_39_6, q_0_5, by decide +kernel⟩
theorem ce_X12_board : CeOk yX12_board cX12_board 4 (some .int) 3 := ⟨q_33_13, q_0_5, by decide +kernel⟩
theorem ce_X12_can : CeOk yX12_can cX12_can 4 (some .boolean) 1 := ⟨q_43_8, q_0_5, by decide +kernel⟩
theorem ce_X12_cell : CeOk yX12_cell cX12_cell 6 (some .int) 4 := ⟨q_31_3, q_0_5, by decide +kernel⟩
theorem ce_X12_chance : CeOk yX12_chance cX12_chance 7 (some .int) 4 := ⟨q_47_8, q_0_5, by decide +kernel⟩
theorem ce_X12_clears : CeOk yX12_clears cX12_clears 2 none 0 := ⟨q_43_4, q_0_5, by decide +kernel⟩
theorem ce_X12_copy : CeOk yX12_copy cX12_copy 7 (some .int) 5 := ⟨q_52_6, q_0_5, by decide +kernel⟩
theorem ce_X12_count : CeOk yX12_count cX12_count 2 (some .int) 1 := ⟨q_50_21, q_0_5, by decide +kernel⟩
theorem ce_X12_digit : CeOk yX12_digit cX12_digit 4 (some .int) 2 := ⟨q_16_12, q_0_5, by decide +kernel⟩
theorem ce_X12_draw : CeOk yX12_draw cX12_draw 2 (some .int) 1 := ⟨q_46_20, q_0_5, by decide +kernel⟩
theorem ce_X12_drawn : CeOk yX12_drawn cX12_drawn 3 (some .long) 2 := ⟨q_46_11, q_0_5, by decide +kernel⟩
theorem ce_X12_drawnBy : CeOk yX12_drawnBy cX12_drawnBy 8 (some .int) 2 := ⟨q_46_15, q_0_5, by decide +kernel⟩
theorem ce_X12_fault : CeOk yX12_fault cX12_fault 5 (some .int) 4 := ⟨q_16_20, q_0_5, by decide +kernel⟩
theorem ce_X12_feed : CeOk yX12_feed cX12_feed 8 (some .int) 6 := ⟨q_7_21, q_0_5, by decide +kernel⟩
theorem ce_X12_finds : CeOk yX12_finds cX12_finds 8 none 2 := ⟨q_34_6, q_0_5, by decide +kernel⟩
theorem ce_X12_gets : CeOk yX12_gets cX12_gets 3 (some .boolean) 1 := ⟨q_43_12, q_0_5, by decide +kernel⟩
theorem ce_X12_goes : CeOk yX12_goes cX12_goes 3 none 1 := ⟨q_17_21, q_0_5, by decide +kernel⟩
theorem ce_X12_grade : CeOk yX12_grade cX12_grade 12 (some .int) 6 := ⟨q_34_19, q_0_5, by decide +kernel⟩
theorem ce_X12_graded : CeOk yX12_graded cX12_graded 9 (some .int) 5 := ⟨q_35_15, q_0_5, by decide +kernel⟩
theorem ce_X12_heal : CeOk yX12_heal cX12_heal 2 (some .int) 1 := ⟨q_17_17, q_0_5, by decide +kernel⟩
theorem ce_X12_here : CeOk yX12_here cX12_here 1 (some .int) 0 := ⟨q_16_5, q_0_5, by decide +kernel⟩
theorem ce_X12_hurtOf : CeOk yX12_hurtOf cX12_hurtOf 7 (some .int) 4 := ⟨q_31_8, q_0_5, by decide +kernel⟩
theorem ce_X12_hurtWood : CeOk yX12_hurtWood cX12_hurtWood 6 (some .int) 0 := ⟨q_51_1, q_0_5, by decide +kernel⟩
theorem ce_X12_hurts : CeOk yX12_hurts cX12_hurts 1 (some .int) 1 := ⟨q_25_22, q_0_5, by decide +kernel⟩
theorem ce_X12_image : CeOk yX12_image cX12_image 1 (some .int) 0 := ⟨q_49_10, q_0_5, by decide +kernel⟩
theorem ce_X12_in : CeOk yX12_in cX12_in 6 (some .boolean) 3 := ⟨q_6_17, q_0_5, by decide +kernel⟩
theorem ce_X12_init : CeOk yX12_init cX12_init 1 none 0 := ⟨q_3_23, q_0_5, by decide +kernel⟩
theorem ce_X12_isAhead : CeOk yX12_isAhead cX12_isAhead 5 (some .boolean) 4 := ⟨q_35_2, q_0_5, by decide +kernel⟩
theorem ce_X12_isAt : CeOk yX12_isAt cX12_isAt 4 (some .boolean) 2 := ⟨q_25_4, q_0_5, by decide +kernel⟩
theorem ce_X12_isBoard : CeOk yX12_isBoard cX12_isBoard 2 (some .boolean) 2 := ⟨q_33_22, q_0_5, by decide +kernel⟩
theorem ce_X12_isIn : CeOk yX12_isIn cX12_isIn 12 (some .boolean) 3 := ⟨q_25_12, q_0_5, by decide +kernel⟩
theorem ce_X12_isRule : CeOk yX12_isRule cX12_isRule 2 (some .boolean) 2 := ⟨q_28_6, q_0_5, by decide +kernel⟩
theorem ce_X12_isSheet : CeOk yX12_isSheet cX12_isSheet 1 (some .boolean) 1 := ⟨q_48_14, q_0_5, by decide +kernel⟩
theorem ce_X12_isUnder : CeOk yX12_isUnder cX12_isUnder 2 (some .boolean) 2 := ⟨q_27_7, q_0_5, by decide +kernel⟩
theorem ce_X12_isWood : CeOk yX12_isWood cX12_isWood 7 (some .boolean) 3 := ⟨q_7_1, q_0_5, by decide +kernel⟩
theorem ce_X12_keepsFaults : CeOk yX12_keepsFaults cX12_keepsFaults 2 (some .int) 0 := ⟨q_45_15, q_0_5, by decide +kernel⟩
theorem ce_X12_kerfs : CeOk yX12_kerfs cX12_kerfs 5 (some .int) 1 := ⟨q_48_22, q_0_5, by decide +kernel⟩
theorem ce_X12_kindOf : CeOk yX12_kindOf cX12_kindOf 1 (some .int) 1 := ⟨q_16_8, q_0_5, by decide +kernel⟩
theorem ce_X12_lasts : CeOk yX12_lasts cX12_lasts 3 (some .int) 1 := ⟨q_25_8, q_0_5, by decide +kernel⟩
theorem ce_X12_lists : CeOk yX12_lists cX12_lists 3 none 1 := ⟨q_37_21, q_0_5, by decide +kernel⟩
theorem ce_X12_log : CeOk yX12_log cX12_log 4 (some .int) 3 := ⟨q_6_5, q_0_5, by decide +kernel⟩
theorem ce_X12_lowest : CeOk yX12_lowest cX12_lowest 6 (some .int) 3 := ⟨q_47_11, q_0_5, by decide +kernel⟩
theorem ce_X12_mayGive : CeOk yX12_mayGive cX12_mayGive 4 (some .boolean) 3 := ⟨q_44_19, q_0_5, by decide +kernel⟩
theorem ce_X12_meets : CeOk yX12_meets cX12_meets 3 (some .boolean) 2 := ⟨q_43_16, q_0_5, by decide +kernel⟩
theorem ce_X12_met : CeOk yX12_met cX12_met 6 (some .int) 1 := ⟨q_42_20, q_0_5, by decide +kernel⟩
theorem ce_X12_metOnes : CeOk yX12_metOnes cX12_metOnes 3 (some .int) 0 := ⟨q_43_0, q_0_5, by decide +kernel⟩
theorem ce_X12_opening : CeOk yX12_opening cX12_opening 3 (some .int) 2 := ⟨q_37_16, q_0_5, by decide +kernel⟩
theorem ce_X12_opens : CeOk yX12_opens cX12_opens 5 (some .int) 1 := ⟨q_38_1, q_0_5, by decide +kernel⟩
theorem ce_X12_order : CeOk yX12_order cX12_order 5 (some .int) 4 := ⟨q_41_2, q_0_5, by decide +kernel⟩
theorem ce_X12_otherwise : CeOk yX12_otherwise cX12_otherwise 4 (some .int) 2 := ⟨q_48_18, q_0_5, by decide +kernel⟩
theorem ce_X12_ownX : CeOk yX12_ownX cX12_ownX 3 (some .int) 3 := ⟨q_31_11, q_0_5, by decide +kernel⟩
theorem ce_X12_ownY : CeOk yX12_ownY cX12_ownY 3 (some .int) 3 := ⟨q_31_14, q_0_5, by decide +kernel⟩
theorem ce_X12_passes : CeOk yX12_passes cX12_passes 3 (some .int) 1 := ⟨q_49_21, q_0_5, by decide +kernel⟩
theorem ce_X12_passesAll : CeOk yX12_passesAll cX12_passesAll 2 (some .int) 1 := ⟨q_49_15, q_0_5, by decide +kernel⟩
theorem ce_X12_passesRow : CeOk yX12_passesRow cX12_passesRow 3 none 1 := ⟨q_50_1, q_0_5, by decide +kernel⟩
theorem ce_X12_put : CeOk yX12_put cX12_put 5 (some .int) 3 := ⟨q_51_17, q_0_5, by decide +kernel⟩
theorem ce_X12_reads : CeOk yX12_reads cX12_reads 3 (some .int) 0 := ⟨q_15_21, q_0_5, by decide +kernel⟩
theorem ce_X12_rule : CeOk yX12_rule cX12_rule 4 (some .int) 2 := ⟨q_28_3, q_0_5, by decide +kernel⟩
theorem ce_X12_saw : CeOk yX12_saw cX12_saw 3 (some .int) 0 := ⟨q_40_3, q_0_5, by decide +kernel⟩
theorem ce_X12_serve : CeOk yX12_serve cX12_serve 6 (some .int) 0 := ⟨q_44_15, q_0_5, by decide +kernel⟩
theorem ce_X12_sheet : CeOk yX12_sheet cX12_sheet 5 (some .int) 3 := ⟨q_51_9, q_0_5, by decide +kernel⟩
theorem ce_X12_skips : CeOk yX12_skips cX12_skips 1 none 0 := ⟨q_16_1, q_0_5, by decide +kernel⟩
theorem ce_X12_stack : CeOk yX12_stack cX12_stack 3 (some .int) 2 := ⟨q_40_13, q_0_5, by decide +kernel⟩
theorem ce_X12_sums : CeOk yX12_sums cX12_sums 5 none 1 := ⟨q_34_2, q_0_5, by decide +kernel⟩
theorem ce_X12_taken : CeOk yX12_taken cX12_taken 5 (some .int) 2 := ⟨q_27_4, q_0_5, by decide +kernel⟩
theorem ce_X12_takesBack : CeOk yX12_takesBack cX12_takesBack 3 none 1 := ⟨q_45_19, q_0_5, by decide +kernel⟩
theorem ce_X12_takesOut : CeOk yX12_takesOut cX12_takesOut 6 (some .int) 3 := ⟨q_44_23, q_0_5, by decide +kernel⟩
theorem ce_X12_tells : CeOk yX12_tells cX12_tells 5 (some .int) 2 := ⟨q_48_11, q_0_5, by decide +kernel⟩
theorem ce_X12_text : CeOk yX12_text cX12_text 3 (some .int) 0 := ⟨q_15_15, q_0_5, by decide +kernel⟩
theorem ce_X12_thick : CeOk yX12_thick cX12_thick 2 (some .int) 1 := ⟨q_7_5, q_0_5, by decide +kernel⟩
theorem ce_X12_told : CeOk yX12_told cX12_told 3 (some .int) 2 := ⟨q_24_19, q_0_5, by decide +kernel⟩
theorem ce_X12_tries : CeOk yX12_tries cX12_tries 10 none 6 := ⟨q_34_14, q_0_5, by decide +kernel⟩
theorem ce_X12_turn : CeOk yX12_turn cX12_turn 3 (some .int) 1 := ⟨q_27_16, q_0_5, by decide +kernel⟩
theorem ce_X12_turnBest : CeOk yX12_turnBest cX12_turnBest 5 (some .int) 0 := ⟨q_38_22, q_0_5, by decide +kernel⟩
theorem ce_X12_up : CeOk yX12_up cX12_up 1 (some .int) 1 := ⟨q_25_19, q_0_5, by decide +kernel⟩
theorem ce_X12_within : CeOk yX12_within cX12_within 9 (some .int) 6 := ⟨q_34_22, q_0_5, by decide +kernel⟩
theorem ce_X12_without : CeOk yX12_without cX12_without 4 (some .long) 1 := ⟨q_45_11, q_0_5, by decide +kernel⟩
theorem ce_X12_wood : CeOk yX12_wood cX12_wood 3 (some .int) 0 := ⟨q_6_21, q_0_5, by decide +kernel⟩
theorem ce_X12_woodIn : CeOk yX12_woodIn cX12_woodIn 7 (some .int) 1 := ⟨q_25_0, q_0_5, by decide +kernel⟩
theorem ce_X12_worth : CeOk yX12_worth cX12_worth 3 (some .long) 2 := ⟨q_36_1, q_0_5, by decide +kernel⟩
theorem ce_X1_hurts : CeOk yX1_hurts cX1_hurts 1 (some .int) 0 := ⟨q_23_18, q_13_2, by decide +kernel⟩
theorem ce_X1_init : CeOk yX1_init cX1_init 4 none 3 := ⟨q_13_23, q_13_2, by decide +kernel⟩
theorem ce_X1_isIn : CeOk yX1_isIn cX1_isIn 3 (some .boolean) 2 := ⟨q_21_2, q_13_2, by decide +kernel⟩
theorem ce_X1_kind : CeOk yX1_kind cX1_kind 1 (some .int) 0 := ⟨q_18_9, q_13_2, by decide +kernel⟩
theorem ce_X1_lasts : CeOk yX1_lasts cX1_lasts 2 (some .int) 1 := ⟨q_19_20, q_13_2, by decide +kernel⟩
theorem ce_X1_wide : CeOk yX1_wide cX1_wide 1 (some .int) 0 := ⟨q_21_23, q_13_2, by decide +kernel⟩
theorem ce_X2_hurts : CeOk yX2_hurts cX2_hurts 1 (some .int) 0 := ⟨q_23_21, q_13_5, by decide +kernel⟩
theorem ce_X2_init : CeOk yX2_init cX2_init 4 none 3 := ⟨q_14_10, q_13_5, by decide +kernel⟩
theorem ce_X2_kind : CeOk yX2_kind cX2_kind 1 (some .int) 0 := ⟨q_18_12, q_13_5, by decide +kernel⟩
theorem ce_X2_wide : CeOk yX2_wide cX2_wide 1 (some .int) 0 := ⟨q_22_5, q_13_5, by decide +kernel⟩
theorem ce_X3_init : CeOk yX3_init cX3_init 1 none 0 := ⟨q_3_6, q_2_23, by decide +kernel⟩
theorem ce_X4_hurts : CeOk yX4_hurts cX4_hurts 1 (some .int) 0 := ⟨q_24_2, q_13_14, by decide +kernel⟩
theorem ce_X4_init : CeOk yX4_init cX4_init 4 none 3 := ⟨q_14_22, q_13_14, by decide +kernel⟩
theorem ce_X4_isIn : CeOk yX4_isIn cX4_isIn 6 (some .boolean) 2 := ⟨q_22_12, q_13_14, by decide +kernel⟩
theorem ce_X4_kind : CeOk yX4_kind cX4_kind 1 (some .int) 0 := ⟨q_18_15, q_13_14, by decide +kernel⟩
theorem ce_X5_hurts : CeOk yX5_hurts cX5_hurts 1 (some .int) 0 := ⟨q_24_10, q_13_17, by decide +kernel⟩
theorem ce_X5_init : CeOk yX5_init cX5_init 4 none 3 := ⟨q_15_2, q_13_17, by decide +kernel⟩
theorem ce_X5_isIn : CeOk yX5_isIn cX5_isIn 3 (some .boolean) 2 := ⟨q_22_17, q_13_17, by decide +kernel⟩
theorem ce_X5_kind : CeOk yX5_kind cX5_kind 1 (some .int) 0 := ⟨q_18_18, q_13_17, by decide +kernel⟩
theorem ce_X5_lasts : CeOk yX5_lasts cX5_lasts 2 (some .int) 1 := ⟨q_20_7, q_13_17, by decide +kernel⟩
theorem ce_X6_addUp : CeOk yX6_addUp cX6_addUp 8 none 0 := ⟨q_30_1, q_0_21, by decide +kernel⟩
theorem ce_X6_bestPiece : CeOk yX6_bestPiece cX6_bestPiece 12 (some (.object "LogSawyer$Piece")) 2 := ⟨q_32_9, q_0_21, by decide +kernel⟩
theorem ce_X6_findFirstWood : CeOk yX6_findFirstWood cX6_findFirstWood 5 none 1 := ⟨q_29_6, q_0_21, by decide +kernel⟩
theorem ce_X6_firstColumnAt : CeOk yX6_firstColumnAt cX6_firstColumnAt 4 (some .int) 3 := ⟨q_32_15, q_0_21, by decide +kernel⟩
theorem ce_X6_gradeAt : CeOk yX6_gradeAt cX6_gradeAt 2 (some .int) 1 := ⟨q_37_12, q_0_21, by decide +kernel⟩
theorem ce_X6_gradeOf : CeOk yX6_gradeOf cX6_gradeOf 13 (some .int) 6 := ⟨q_33_6, q_0_21, by decide +kernel⟩
theorem ce_X6_hurtOf : CeOk yX6_hurtOf cX6_hurtOf 4 (some .int) 3 := ⟨q_30_5, q_0_21, by decide +kernel⟩
theorem ce_X6_init : CeOk yX6_init cX6_init 1 none 0 := ⟨q_2_8, q_0_21, by decide +kernel⟩
theorem ce_X6_isAllWood : CeOk yX6_isAllWood cX6_isAllWood 7 (some .boolean) 5 := ⟨q_35_10, q_0_21, by decide +kernel⟩
theorem ce_X6_lay : CeOk yX6_lay cX6_lay 7 none 4 := ⟨q_28_21, q_0_21, by decide +kernel⟩
theorem ce_X6_listRows : CeOk yX6_listRows cX6_listRows 4 none 1 := ⟨q_36_23, q_0_21, by decide +kernel⟩
theorem ce_X6_mark : CeOk yX6_mark cX6_mark 10 none 2 := ⟨q_29_12, q_0_21, by decide +kernel⟩
theorem ce_X6_open : CeOk yX6_open cX6_open 6 (some .int) 1 := ⟨q_36_16, q_0_21, by decide +kernel⟩
theorem ce_X6_pieceAt : CeOk yX6_pieceAt cX6_pieceAt 2 (some (.object "LogSawyer$Piece")) 1 := ⟨q_39_15, q_0_21, by decide +kernel⟩
theorem ce_X6_rowAt : CeOk yX6_rowAt cX6_rowAt 2 (some .int) 1 := ⟨q_37_3, q_0_21, by decide +kernel⟩
theorem ce_X6_sumOf : CeOk yX6_sumOf cX6_sumOf 8 (some .int) 6 := ⟨q_33_9, q_0_21, by decide +kernel⟩
theorem ce_X6_thicknessAt : CeOk yX6_thicknessAt cX6_thicknessAt 2 (some .int) 1 := ⟨q_37_7, q_0_21, by decide +kernel⟩
theorem ce_X6_tryPiece : CeOk yX6_tryPiece cX6_tryPiece 10 none 6 := ⟨q_32_19, q_0_21, by decide +kernel⟩
theorem ce_X7_hurts : CeOk yX7_hurts cX7_hurts 1 (some .int) 0 := ⟨q_24_7, q_13_11, by decide +kernel⟩
theorem ce_X7_init : CeOk yX7_init cX7_init 4 none 3 := ⟨q_14_18, q_13_11, by decide +kernel⟩
theorem ce_X7_isIn : CeOk yX7_isIn cX7_isIn 3 (some .boolean) 2 := ⟨q_22_22, q_13_11, by decide +kernel⟩
theorem ce_X7_kind : CeOk yX7_kind cX7_kind 1 (some .int) 0 := ⟨q_18_21, q_13_11, by decide +kernel⟩
theorem ce_X7_lasts : CeOk yX7_lasts cX7_lasts 2 (some .int) 1 := ⟨q_20_2, q_13_11, by decide +kernel⟩
theorem ce_X8_init : CeOk yX8_init cX8_init 4 none 3 := ⟨q_14_14, q_13_8, by decide +kernel⟩
theorem ce_X8_kind : CeOk yX8_kind cX8_kind 1 (some .int) 0 := ⟨q_19_0, q_13_8, by decide +kernel⟩
theorem ce_X8_lasts : CeOk yX8_lasts cX8_lasts 2 (some .int) 1 := ⟨q_20_13, q_13_8, by decide +kernel⟩
theorem ce_X9_hurts : CeOk yX9_hurts cX9_hurts 1 (some .int) 0 := ⟨q_24_15, q_13_20, by decide +kernel⟩
theorem ce_X9_init : CeOk yX9_init cX9_init 4 none 3 := ⟨q_15_6, q_13_20, by decide +kernel⟩
theorem ce_X9_isIn : CeOk yX9_isIn cX9_isIn 3 (some .boolean) 2 := ⟨q_23_6, q_13_20, by decide +kernel⟩
theorem ce_X9_kind : CeOk yX9_kind cX9_kind 1 (some .int) 0 := ⟨q_19_3, q_13_20, by decide +kernel⟩
