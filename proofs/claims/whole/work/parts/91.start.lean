/-! THE START: what the law's entry gives -/
theorem nt_0 : Cond.castable "LogSawyer$Knot" "LogSawyer$Fault" ∈ lw_tbl := (List.mem_append_right _ (List.mem_of_getElem? (i := 1501) (by decide +kernel)))
theorem nt_1 : Cond.castable "LogSawyer$Loose" "LogSawyer$Fault" ∈ lw_tbl := (List.mem_append_right _ (List.mem_of_getElem? (i := 1502) (by decide +kernel)))
theorem nt_2 : Cond.castable "LogSawyer$Spike" "LogSawyer$Fault" ∈ lw_tbl := (List.mem_append_right _ (List.mem_of_getElem? (i := 1503) (by decide +kernel)))
theorem nt_3 : Cond.castable "LogSawyer$Shake" "LogSawyer$Fault" ∈ lw_tbl := (List.mem_append_right _ (List.mem_of_getElem? (i := 1504) (by decide +kernel)))
theorem nt_4 : Cond.castable "LogSawyer$Ring" "LogSawyer$Fault" ∈ lw_tbl := (List.mem_append_right _ (List.mem_of_getElem? (i := 1505) (by decide +kernel)))
theorem nt_5 : Cond.castable "LogSawyer$Rot" "LogSawyer$Fault" ∈ lw_tbl := (List.mem_append_right _ (List.mem_of_getElem? (i := 1506) (by decide +kernel)))
theorem nt_6 : Cond.castable "LogSawyer$Stain" "LogSawyer$Fault" ∈ lw_tbl := (List.mem_append_right _ (List.mem_of_getElem? (i := 1507) (by decide +kernel)))
theorem nt_7 : Cond.castable "LogSawyer$Loose" "LogSawyer$Knot" ∈ lw_tbl := (List.mem_append_right _ (List.mem_of_getElem? (i := 1496) (by decide +kernel)))
theorem nt_8 : Cond.castable "LogSawyer$Spike" "LogSawyer$Knot" ∈ lw_tbl := (List.mem_append_right _ (List.mem_of_getElem? (i := 1497) (by decide +kernel)))
theorem nt_9 : Cond.castable "LogSawyer$Spike" "LogSawyer$Loose" ∈ lw_tbl := (List.mem_append_right _ (List.mem_of_getElem? (i := 1498) (by decide +kernel)))
theorem nt_10 : Cond.castable "LogSawyer$Ring" "LogSawyer$Shake" ∈ lw_tbl := (List.mem_append_right _ (List.mem_of_getElem? (i := 1499) (by decide +kernel)))
theorem nt_11 : Cond.castable "LogSawyer$Stain" "LogSawyer$Rot" ∈ lw_tbl := (List.mem_append_right _ (List.mem_of_getElem? (i := 1500) (by decide +kernel)))
theorem nt_12 : Cond.declares ⟨"LogSawyer$Fault", "kind", "()I"⟩ ∈ lw_tbl := (List.mem_append_right _ (List.mem_of_getElem? (i := 517) (by decide +kernel)))
theorem nt_13 : Cond.declares ⟨"LogSawyer$Fault", "lasts", "(I)I"⟩ ∈ lw_tbl := (List.mem_append_right _ (List.mem_of_getElem? (i := 556) (by decide +kernel)))
theorem nt_14 : Cond.declares ⟨"LogSawyer$Fault", "isIn", "(II)Z"⟩ ∈ lw_tbl := (List.mem_append_right _ (List.mem_of_getElem? (i := 580) (by decide +kernel)))
theorem nt_15 : Cond.declares ⟨"LogSawyer$Fault", "hurts", "()I"⟩ ∈ lw_tbl := (List.mem_append_right _ (List.mem_of_getElem? (i := 642) (by decide +kernel)))
theorem nt_16 : Cond.methodLinkNest "LogSawyer" 25 yX6_init "LogSawyer" ∈ lw_tbl := (List.mem_append_right _ (List.mem_of_getElem? (i := 91) (by decide +kernel)))
theorem nt_17 : Cond.methodLinkNest "LogSawyer$Saw" 49 yX3_init "LogSawyer" ∈ lw_tbl := (List.mem_append_right _ (List.mem_of_getElem? (i := 97) (by decide +kernel)))
theorem nt_18 : Cond.methodLinkNest "LogSawyer$Yard" 58 yX11_fromMiddle "LogSawyer" ∈ lw_tbl := (List.mem_append_right _ (List.mem_of_getElem? (i := 262) (by decide +kernel)))
theorem nt_19 : Cond.methodLinkNest "LogSawyer$Yard" 68 yX11_within "LogSawyer" ∈ lw_tbl := (List.mem_append_right _ (List.mem_of_getElem? (i := 507) (by decide +kernel)))
theorem nt_20 : Cond.methodLinkNest "LogSawyer$Fault" 47 yX11_fromMiddle "LogSawyer" ∈ lw_tbl := (List.mem_append_right _ (List.mem_of_getElem? (i := 683) (by decide +kernel)))
theorem nt_21 : Cond.methodLinkNest "LogSawyer$Saw" 119 yX11_ownX "LogSawyer" ∈ lw_tbl := (List.mem_append_right _ (List.mem_of_getElem? (i := 722) (by decide +kernel)))
theorem nt_22 : Cond.methodLinkNest "LogSawyer$Saw" 123 yX11_fromMiddle "LogSawyer" ∈ lw_tbl := (List.mem_append_right _ (List.mem_of_getElem? (i := 725) (by decide +kernel)))
theorem nt_23 : Cond.methodLinkNest "LogSawyer$Saw" 126 yX11_ownY "LogSawyer" ∈ lw_tbl := (List.mem_append_right _ (List.mem_of_getElem? (i := 726) (by decide +kernel)))
theorem nt_24 : Cond.methodLinkNest "LogSawyer$Saw" 175 yX11_has "LogSawyer" ∈ lw_tbl := (List.mem_append_right _ (List.mem_of_getElem? (i := 809) (by decide +kernel)))
theorem nt_25 : Cond.methodLinkNest "LogSawyer$Saw" 186 yX11_within "LogSawyer" ∈ lw_tbl := (List.mem_append_right _ (List.mem_of_getElem? (i := 821) (by decide +kernel)))
theorem nt_26 : Cond.methodLinkNest "LogSawyer$Yard" 103 yX11_has "LogSawyer" ∈ lw_tbl := (List.mem_append_right _ (List.mem_of_getElem? (i := 925) (by decide +kernel)))
theorem nt_27 : Cond.fieldLinkNest "LogSawyer$Yard" 49 "LogSawyer" "RULE_FIRST" "[I" "LogSawyer" ∈ lw_tbl := (List.mem_append_right _ (List.mem_of_getElem? (i := 39) (by decide +kernel)))
theorem nt_28 : Cond.fieldLinkNest "LogSawyer$Fault" 21 "LogSawyer" "ANGLE_U" "[I" "LogSawyer" ∈ lw_tbl := (List.mem_append_right _ (List.mem_of_getElem? (i := 593) (by decide +kernel)))
theorem nt_29 : Cond.fieldLinkNest "LogSawyer$Fault" 25 "LogSawyer" "ANGLE_V" "[I" "LogSawyer" ∈ lw_tbl := (List.mem_append_right _ (List.mem_of_getElem? (i := 595) (by decide +kernel)))
theorem ns_0 : Cond.methodLink RX8 7 ⟨RX2, "lasts", "(I)I"⟩ ∈ lw_tbl := (List.mem_append_right _ (List.mem_of_getElem? (i := 572) (by decide +kernel)))
theorem ns_1 : Cond.sameMethod RX2 RX1 "lasts" "(I)I" ∈ lw_tbl := (List.mem_append_right _ (List.mem_of_getElem? (i := 573) (by decide +kernel)))
theorem ns_2 : Cond.superclass RX8 RX2 ∈ lw_tbl := (List.mem_append_right _ (List.mem_of_getElem? (i := 450) (by decide +kernel)))
theorem nwL_tbl : ∀ w ∈ nwL, w ∈ lw_tbl := List.forall_mem_cons.mpr ⟨nt_0, List.forall_mem_cons.mpr ⟨nt_1, List.forall_mem_cons.mpr ⟨nt_2, List.forall_mem_cons.mpr ⟨nt_3, List.forall_mem_cons.mpr ⟨nt_4, List.forall_mem_cons.mpr ⟨nt_5, List.forall_mem_cons.mpr ⟨nt_6, List.forall_mem_cons.mpr ⟨nt_7, List.forall_mem_cons.mpr ⟨nt_8, List.forall_mem_cons.mpr ⟨nt_9, List.forall_mem_cons.mpr ⟨nt_10, List.forall_mem_cons.mpr ⟨nt_11, List.forall_mem_cons.mpr ⟨nt_12, List.forall_mem_cons.mpr ⟨nt_13, List.forall_mem_cons.mpr ⟨nt_14, List.forall_mem_cons.mpr ⟨nt_15, List.forall_mem_cons.mpr ⟨nt_16, List.forall_mem_cons.mpr ⟨nt_17, List.forall_mem_cons.mpr ⟨nt_18, List.forall_mem_cons.mpr ⟨nt_19, List.forall_mem_cons.mpr ⟨nt_20, List.forall_mem_cons.mpr ⟨nt_21, List.forall_mem_cons.mpr ⟨nt_22, List.forall_mem_cons.mpr ⟨nt_23, List.forall_mem_cons.mpr ⟨nt_24, List.forall_mem_cons.mpr ⟨nt_25, List.forall_mem_cons.mpr ⟨nt_26, List.forall_mem_cons.mpr ⟨nt_27, List.forall_mem_cons.mpr ⟨nt_28, List.forall_mem_cons.mpr ⟨nt_29, fun _ h => absurd h List.not_mem_nil⟩⟩⟩⟩⟩⟩⟩⟩⟩⟩⟩⟩⟩⟩⟩⟩⟩⟩⟩⟩⟩⟩⟩⟩⟩⟩⟩⟩⟩⟩
theorem nwS_tbl : ∀ w ∈ nwS, w ∈ lw_tbl := List.forall_mem_cons.mpr ⟨ns_0, List.forall_mem_cons.mpr ⟨ns_1, List.forall_mem_cons.mpr ⟨ns_2, fun _ h => absurd h List.not_mem_nil⟩⟩⟩
abbrev GN : Cond := Jvm.Cond.and given_1 narrow_1
theorem nc_0 : Cond.not (.castable "LogSawyer$Knot" "LogSawyer$Loose") ∈ flatC GN := (List.mem_of_getElem? (i := 65) (by decide +kernel))
theorem nc_1 : Cond.not (.castable "LogSawyer$Knot" "LogSawyer$Spike") ∈ flatC GN := (List.mem_of_getElem? (i := 75) (by decide +kernel))
theorem nc_2 : Cond.not (.castable "LogSawyer$Knot" "LogSawyer$Shake") ∈ flatC GN := (List.mem_of_getElem? (i := 86) (by decide +kernel))
theorem nc_3 : Cond.not (.castable "LogSawyer$Knot" "LogSawyer$Ring") ∈ flatC GN := (List.mem_of_getElem? (i := 96) (by decide +kernel))
theorem nc_4 : Cond.not (.castable "LogSawyer$Knot" "LogSawyer$Rot") ∈ flatC GN := (List.mem_of_getElem? (i := 107) (by decide +kernel))
theorem nc_5 : Cond.not (.castable "LogSawyer$Knot" "LogSawyer$Stain") ∈ flatC GN := (List.mem_of_getElem? (i := 117) (by decide +kernel))
theorem nc_6 : Cond.not (.castable "LogSawyer$Loose" "LogSawyer$Spike") ∈ flatC GN := (List.mem_of_getElem? (i := 76) (by decide +kernel))
theorem nc_7 : Cond.not (.castable "LogSawyer$Loose" "LogSawyer$Shake") ∈ flatC GN := (List.mem_of_getElem? (i := 87) (by decide +kernel))
theorem nc_8 : Cond.not (.castable "LogSawyer$Loose" "LogSawyer$Ring") ∈ flatC GN := (List.mem_of_getElem? (i := 97) (by decide +kernel))
theorem nc_9 : Cond.not (.castable "LogSawyer$Loose" "LogSawyer$Rot") ∈ flatC GN := (List.mem_of_getElem? (i := 108) (by decide +kernel))
theorem nc_10 : Cond.not (.castable "LogSawyer$Loose" "LogSawyer$Stain") ∈ flatC GN := (List.mem_of_getElem? (i := 118) (by decide +kernel))
theorem nc_11 : Cond.not (.castable "LogSawyer$Spike" "LogSawyer$Shake") ∈ flatC GN := (List.mem_of_getElem? (i := 88) (by decide +kernel))
theorem nc_12 : Cond.not (.castable "LogSawyer$Spike" "LogSawyer$Ring") ∈ flatC GN := (List.mem_of_getElem? (i := 98) (by decide +kernel))
theorem nc_13 : Cond.not (.castable "LogSawyer$Spike" "LogSawyer$Rot") ∈ flatC GN := (List.mem_of_getElem? (i := 109) (by decide +kernel))
theorem nc_14 : Cond.not (.castable "LogSawyer$Spike" "LogSawyer$Stain") ∈ flatC GN := (List.mem_of_getElem? (i := 119) (by decide +kernel))
theorem nc_15 : Cond.not (.castable "LogSawyer$Shake" "LogSawyer$Knot") ∈ flatC GN := (List.mem_of_getElem? (i := 56) (by decide +kernel))
theorem nc_16 : Cond.not (.castable "LogSawyer$Shake" "LogSawyer$Loose") ∈ flatC GN := (List.mem_of_getElem? (i := 66) (by decide +kernel))
theorem nc_17 : Cond.not (.castable "LogSawyer$Shake" "LogSawyer$Spike") ∈ flatC GN := (List.mem_of_getElem? (i := 77) (by decide +kernel))
theorem nc_18 : Cond.not (.castable "LogSawyer$Shake" "LogSawyer$Ring") ∈ flatC GN := (List.mem_of_getElem? (i := 99) (by decide +kernel))
theorem nc_19 : Cond.not (.castable "LogSawyer$Shake" "LogSawyer$Rot") ∈ flatC GN := (List.mem_of_getElem? (i := 110) (by decide +kernel))
theorem nc_20 : Cond.not (.castable "LogSawyer$Shake" "LogSawyer$Stain") ∈ flatC GN := (List.mem_of_getElem? (i := 120) (by decide +kernel))
theorem nc_21 : Cond.not (.castable "LogSawyer$Ring" "LogSawyer$Knot") ∈ flatC GN := (List.mem_of_getElem? (i := 57) (by decide +kernel))
theorem nc_22 : Cond.not (.castable "LogSawyer$Ring" "LogSawyer$Loose") ∈ flatC GN := (List.mem_of_getElem? (i := 67) (by decide +kernel))
theorem nc_23 : Cond.not (.castable "LogSawyer$Ring" "LogSawyer$Spike") ∈ flatC GN := (List.mem_of_getElem? (i := 78) (by decide +kernel))
theorem nc_24 : Cond.not (.castable "LogSawyer$Ring" "LogSawyer$Rot") ∈ flatC GN := (List.mem_of_getElem? (i := 111) (by decide +kernel))
theorem nc_25 : Cond.not (.castable "LogSawyer$Ring" "LogSawyer$Stain") ∈ flatC GN := (List.mem_of_getElem? (i := 121) (by decide +kernel))
theorem nc_26 : Cond.not (.castable "LogSawyer$Rot" "LogSawyer$Knot") ∈ flatC GN := (List.mem_of_getElem? (i := 58) (by decide +kernel))
theorem nc_27 : Cond.not (.castable "LogSawyer$Rot" "LogSawyer$Loose") ∈ flatC GN := (List.mem_of_getElem? (i := 68) (by decide +kernel))
theorem nc_28 : Cond.not (.castable "LogSawyer$Rot" "LogSawyer$Spike") ∈ flatC GN := (List.mem_of_getElem? (i := 79) (by decide +kernel))
theorem nc_29 : Cond.not (.castable "LogSawyer$Rot" "LogSawyer$Shake") ∈ flatC GN := (List.mem_of_getElem? (i := 89) (by decide +kernel))
theorem nc_30 : Cond.not (.castable "LogSawyer$Rot" "LogSawyer$Ring") ∈ flatC GN := (List.mem_of_getElem? (i := 100) (by decide +kernel))
theorem nc_31 : Cond.not (.castable "LogSawyer$Rot" "LogSawyer$Stain") ∈ flatC GN := (List.mem_of_getElem? (i := 122) (by decide +kernel))
theorem nc_32 : Cond.not (.castable "LogSawyer$Stain" "LogSawyer$Knot") ∈ flatC GN := (List.mem_of_getElem? (i := 59) (by decide +kernel))
theorem nc_33 : Cond.not (.castable "LogSawyer$Stain" "LogSawyer$Loose") ∈ flatC GN := (List.mem_of_getElem? (i := 69) (by decide +kernel))
theorem nc_34 : Cond.not (.castable "LogSawyer$Stain" "LogSawyer$Spike") ∈ flatC GN := (List.mem_of_getElem? (i := 80) (by decide +kernel))
theorem nc_35 : Cond.not (.castable "LogSawyer$Stain" "LogSawyer$Shake") ∈ flatC GN := (List.mem_of_getElem? (i := 90) (by decide +kernel))
theorem nc_36 : Cond.not (.castable "LogSawyer$Stain" "LogSawyer$Ring") ∈ flatC GN := (List.mem_of_getElem? (i := 101) (by decide +kernel))
theorem ncL_flat : ∀ q ∈ ncL, Cond.not (.castable q.1 q.2) ∈ flatC GN := List.forall_mem_cons.mpr ⟨nc_0, List.forall_mem_cons.mpr ⟨nc_1, List.forall_mem_cons.mpr ⟨nc_2, List.forall_mem_cons.mpr ⟨nc_3, List.forall_mem_cons.mpr ⟨nc_4, List.forall_mem_cons.mpr ⟨nc_5, List.forall_mem_cons.mpr ⟨nc_6, List.forall_mem_cons.mpr ⟨nc_7, List.forall_mem_cons.mpr ⟨nc_8, List.forall_mem_cons.mpr ⟨nc_9, List.forall_mem_cons.mpr ⟨nc_10, List.forall_mem_cons.mpr ⟨nc_11, List.forall_mem_cons.mpr ⟨nc_12, List.forall_mem_cons.mpr ⟨nc_13, List.forall_mem_cons.mpr ⟨nc_14, List.forall_mem_cons.mpr ⟨nc_15, List.forall_mem_cons.mpr ⟨nc_16, List.forall_mem_cons.mpr ⟨nc_17, List.forall_mem_cons.mpr ⟨nc_18, List.forall_mem_cons.mpr ⟨nc_19, List.forall_mem_cons.mpr ⟨nc_20, List.forall_mem_cons.mpr ⟨nc_21, List.forall_mem_cons.mpr ⟨nc_22, List.forall_mem_cons.mpr ⟨nc_23, List.forall_mem_cons.mpr ⟨nc_24, List.forall_mem_cons.mpr ⟨nc_25, List.forall_mem_cons.mpr ⟨nc_26, List.forall_mem_cons.mpr ⟨nc_27, List.forall_mem_cons.mpr ⟨nc_28, List.forall_mem_cons.mpr ⟨nc_29, List.forall_mem_cons.mpr ⟨nc_30, List.forall_mem_cons.mpr ⟨nc_31, List.forall_mem_cons.mpr ⟨nc_32, List.forall_mem_cons.mpr ⟨nc_33, List.forall_mem_cons.mpr ⟨nc_34, List.forall_mem_cons.mpr ⟨nc_35, List.forall_mem_cons.mpr ⟨nc_36, fun _ h => absurd h List.not_mem_nil⟩⟩⟩⟩⟩⟩⟩⟩⟩⟩⟩⟩⟩⟩⟩⟩⟩⟩⟩⟩⟩⟩⟩⟩⟩⟩⟩⟩⟩⟩⟩⟩⟩⟩⟩⟩⟩
section ST
variable {s : State} {b : Nat}
theorem st_flat (hgv : (Jvm.Cond.and given_1 narrow_1).before #[Value.ref b] s = true) : ∀ w ∈ flatC GN, w.before #[Value.ref b] s = true := flat_of_before _ hgv
theorem st_A (s : State) : ∀ a : Nat, a < s.heap.size → ¬ aA s.heap.size a := fun a h q => Nat.not_le.mpr h q
theorem st_of (nm : String) (l : List Int) (hl : l.length < 100) (h1 : Cond.laysStatic "LogSawyer" nm "[I" ∈ lw_tbl) (h0 : Cond.initialized "LogSawyer" ∈ lw_tbl) (h2 : Cond.arrayOf (.static "LogSawyer" nm "[I") .int ∈ flatC GN) (h3 : Cond.eq (.length (.static "LogSawyer" nm "[I")) (.int (Int32.ofNat l.length)) ∈ flatC GN) (h4 : ∀ j, j < l.length → Cond.eq (.elem (.static "LogSawyer" nm "[I") (.int (Int32.ofNat j))) (.int (iI (l.getD j 0))) ∈ flatC GN)
    (hts : ∀ w ∈ lw_tbl, w.before #[Value.ref b] s = true) (hgv : (Jvm.Cond.and given_1 narrow_1).before #[Value.ref b] s = true) : ∃ t, stZ s.heap.size nm t l s s.heap := by
  have hq := st_flat hgv
  obtain ⟨t, g1, g2⟩ := va_Tof (tm := .static "LogSawyer" nm "[I") (ty := .int) (N := l.length) (f := fun j => .int (iI (l.getD j 0))) (A := aA s.heap.size) (by omega) (hq _ h2) (va_eqt (hq _ h3)) (fun j hj => va_eqt (hq _ (h4 j hj))) (st_A s)
  exact ⟨t, va_Zof (hts _ h1) (hts _ h0) g1 (st_A s), g2⟩
theorem arr_of {ty : FieldType} (h : (Cond.arrayClass ty).before #[Value.ref b] s = true) : ∃ cA : ClassId, s.vm.findClass ("[" ++ ty.toString) = some cA ∧ ArrOfT s cA ty := by
  obtain ⟨cA, kA, comp, h1, h2, h3⟩ := Cond.arrayClass_spec h
  exact ⟨cA, h1, fun n z => ⟨fun k q => (by cases q), kA, h2, comp, h3⟩⟩
theorem over_of {C : String} (h : (Cond.arrayOver (.object C)).before #[Value.ref b] s = true) : ∃ (cA : ClassId) (kA : Class) (comp : ClassId), s.vm.classes[cA]? = some kA ∧ kA.kind = .array comp (.object C) ∧ s.vm.findClass C = some comp ∧ s.vm.findClass ("[" ++ (FieldType.object C).toString) = some cA := by
  obtain ⟨comp, c, k, h1, h2, h3, h4, h5⟩ := Cond.arrayOver_spec h
  exact ⟨c, k, comp, h3, h4, h1, h5⟩
theorem over_al (h : (Cond.arrayOver (.array .long)).before #[Value.ref b] s = true) : ∃ (cA : ClassId) (kA : Class) (comp : ClassId), s.vm.classes[cA]? = some kA ∧ kA.kind = .array comp (.array .long) ∧ s.vm.findClass ("[" ++ (FieldType.array .long).toString) = some cA := by
  unfold Cond.before Cond.holds at h
  simp only [Cond.value, beq_iff_eq] at h
  cases hc : s.vm.findClass (FieldType.array FieldType.long).toString with
  | none => simp [hc] at h
  | some comp =>
    simp only [hc, Option.bind_some, Option.bind_eq_some_iff, Option.map_eq_some_iff] at h
    obtain ⟨c, hi, k, hk, hb⟩ := h
    cases hkk : k.kind with
    | array cp ty =>
      rw [hkk] at hb
      simp at hb
      obtain ⟨e1, e2⟩ := hb
      exact ⟨c, k, cp, hk, by rw [hkk, e1], e2⟩
    | _ => rw [hkk] at hb; simp at hb
end ST
theorem sl_RULE_MOST : ∀ j, j < tRM.length → Cond.eq (.elem (.static "LogSawyer" "RULE_MOST" "[I") (.int (Int32.ofNat j))) (.int (iI (tRM.getD j 0))) ∈ flatC GN := fun j hj => by
  rcases (show j = 0 ∨ j = 1 ∨ j = 2 ∨ j = 3 ∨ j = 4 ∨ j = 5 ∨ j = 6 by (have h2 : j < 7 := hj; omega)) with rfl | rfl | rfl | rfl | rfl | rfl | rfl
  · exact (List.mem_of_getElem? (i := 44) (by decide +kernel))
  · exact (List.mem_of_getElem? (i := 45) (by decide +kernel))
  · exact (List.mem_of_getElem? (i := 46) (by decide +kernel))
  · exact (List.mem_of_getElem? (i := 47) (by decide +kernel))
  · exact (List.mem_of_getElem? (i := 48) (by decide +kernel))
  · exact (List.mem_of_getElem? (i := 49) (by decide +kernel))
  · exact (List.mem_of_getElem? (i := 50) (by decide +kernel))
theorem st_RULE_MOST {s : State} {b : Nat} (hts : ∀ w ∈ lw_tbl, w.before #[Value.ref b] s = true) (hgv : (Jvm.Cond.and given_1 narrow_1).before #[Value.ref b] s = true) : ∃ t, stZ s.heap.size "RULE_MOST" t tRM s s.heap :=
  st_of "RULE_MOST" tRM (by decide) (List.mem_append_right _ (List.mem_of_getElem? (i := 694) (by decide +kernel))) (List.mem_append_right _ (List.mem_of_getElem? (i := 1) (by decide +kernel))) (List.mem_of_getElem? (i := 42) (by decide +kernel)) (List.mem_of_getElem? (i := 43) (by decide +kernel)) sl_RULE_MOST hts hgv
theorem sl_RULE_FIRST : ∀ j, j < tRF.length → Cond.eq (.elem (.static "LogSawyer" "RULE_FIRST" "[I") (.int (Int32.ofNat j))) (.int (iI (tRF.getD j 0))) ∈ flatC GN := fun j hj => by
  rcases (show j = 0 ∨ j = 1 ∨ j = 2 ∨ j = 3 ∨ j = 4 ∨ j = 5 ∨ j = 6 by (have h2 : j < 7 := hj; omega)) with rfl | rfl | rfl | rfl | rfl | rfl | rfl
  · exact (List.mem_of_getElem? (i := 7) (by decide +kernel))
  · exact (List.mem_of_getElem? (i := 8) (by decide +kernel))
  · exact (List.mem_of_getElem? (i := 9) (by decide +kernel))
  · exact (List.mem_of_getElem? (i := 10) (by decide +kernel))
  · exact (List.mem_of_getElem? (i := 11) (by decide +kernel))
  · exact (List.mem_of_getElem? (i := 12) (by decide +kernel))
  · exact (List.mem_of_getElem? (i := 13) (by decide +kernel))
theorem st_RULE_FIRST {s : State} {b : Nat} (hts : ∀ w ∈ lw_tbl, w.before #[Value.ref b] s = true) (hgv : (Jvm.Cond.and given_1 narrow_1).before #[Value.ref b] s = true) : ∃ t, stZ s.heap.size "RULE_FIRST" t tRF s s.heap :=
  st_of "RULE_FIRST" tRF (by decide) (List.mem_append_right _ (List.mem_of_getElem? (i := 40) (by decide +kernel))) (List.mem_append_right _ (List.mem_of_getElem? (i := 1) (by decide +kernel))) (List.mem_of_getElem? (i := 5) (by decide +kernel)) (List.mem_of_getElem? (i := 6) (by decide +kernel)) sl_RULE_FIRST hts hgv
theorem sl_ANGLE_U : ∀ j, j < tAU.length → Cond.eq (.elem (.static "LogSawyer" "ANGLE_U" "[I") (.int (Int32.ofNat j))) (.int (iI (tAU.getD j 0))) ∈ flatC GN := fun j hj => by
  rcases (show j = 0 ∨ j = 1 ∨ j = 2 ∨ j = 3 ∨ j = 4 ∨ j = 5 ∨ j = 6 ∨ j = 7 by (have h2 : j < 8 := hj; omega)) with rfl | rfl | rfl | rfl | rfl | rfl | rfl | rfl
  · exact (List.mem_of_getElem? (i := 22) (by decide +kernel))
  · exact (List.mem_of_getElem? (i := 23) (by decide +kernel))
  · exact (List.mem_of_getElem? (i := 24) (by decide +kernel))
  · exact (List.mem_of_getElem? (i := 25) (by decide +kernel))
  · exact (List.mem_of_getElem? (i := 26) (by decide +kernel))
  · exact (List.mem_of_getElem? (i := 27) (by decide +kernel))
  · exact (List.mem_of_getElem? (i := 28) (by decide +kernel))
  · exact (List.mem_of_getElem? (i := 29) (by decide +kernel))
theorem st_ANGLE_U {s : State} {b : Nat} (hts : ∀ w ∈ lw_tbl, w.before #[Value.ref b] s = true) (hgv : (Jvm.Cond.and given_1 narrow_1).before #[Value.ref b] s = true) : ∃ t, stZ s.heap.size "ANGLE_U" t tAU s s.heap :=
  st_of "ANGLE_U" tAU (by decide) (List.mem_append_right _ (List.mem_of_getElem? (i := 594) (by decide +kernel))) (List.mem_append_right _ (List.mem_of_getElem? (i := 1) (by decide +kernel))) (List.mem_of_getElem? (i := 20) (by decide +kernel)) (List.mem_of_getElem? (i := 21) (by decide +kernel)) sl_ANGLE_U hts hgv
theorem sl_ANGLE_V : ∀ j, j < tAV.length → Cond.eq (.elem (.static "LogSawyer" "ANGLE_V" "[I") (.int (Int32.ofNat j))) (.int (iI (tAV.getD j 0))) ∈ flatC GN := fun j hj => by
  rcases (show j = 0 ∨ j = 1 ∨ j = 2 ∨ j = 3 ∨ j = 4 ∨ j = 5 ∨ j = 6 ∨ j = 7 by (have h2 : j < 8 := hj; omega)) with rfl | rfl | rfl | rfl | rfl | rfl | rfl | rfl
  · exact (List.mem_of_getElem? (i := 33) (by decide +kernel))
  · exact (List.mem_of_getElem? (i := 34) (by decide +kernel))
  · exact (List.mem_of_getElem? (i := 35) (by decide +kernel))
  · exact (List.mem_of_getElem? (i := 36) (by decide +kernel))
  · exact (List.mem_of_getElem? (i := 37) (by decide +kernel))
  · exact (List.mem_of_getElem? (i := 38) (by decide +kernel))
  · exact (List.mem_of_getElem? (i := 39) (by decide +kernel))
  · exact (List.mem_of_getElem? (i := 40) (by decide +kernel))
theorem st_ANGLE_V {s : State} {b : Nat} (hts : ∀ w ∈ lw_tbl, w.before #[Value.ref b] s = true) (hgv : (Jvm.Cond.and given_1 narrow_1).before #[Value.ref b] s = true) : ∃ t, stZ s.heap.size "ANGLE_V" t tAV s s.heap :=
  st_of "ANGLE_V" tAV (by decide) (List.mem_append_right _ (List.mem_of_getElem? (i := 596) (by decide +kernel))) (List.mem_append_right _ (List.mem_of_getElem? (i := 1) (by decide +kernel))) (List.mem_of_getElem? (i := 31) (by decide +kernel)) (List.mem_of_getElem? (i := 32) (by decide +kernel)) sl_ANGLE_V hts hgv
theorem sl_let : ∀ j, j < 7 → Cond.eq (.elem (.field (.string "LogSawyer" 126) "java/lang/String" "value" "[B") (.int (Int32.ofNat j))) (.int (([107, 108, 115, 104, 114, 111, 116] : List Int32).getD j 0)) ∈ flatC GN := fun j hj => by
  rcases (show j = 0 ∨ j = 1 ∨ j = 2 ∨ j = 3 ∨ j = 4 ∨ j = 5 ∨ j = 6 by omega) with rfl | rfl | rfl | rfl | rfl | rfl | rfl
  · exact (List.mem_of_getElem? (i := 176) (by decide +kernel))
  · exact (List.mem_of_getElem? (i := 177) (by decide +kernel))
  · exact (List.mem_of_getElem? (i := 178) (by decide +kernel))
  · exact (List.mem_of_getElem? (i := 179) (by decide +kernel))
  · exact (List.mem_of_getElem? (i := 180) (by decide +kernel))
  · exact (List.mem_of_getElem? (i := 181) (by decide +kernel))
  · exact (List.mem_of_getElem? (i := 182) (by decide +kernel))
theorem st_letters {s : State} {b : Nat} (hts : ∀ w ∈ lw_tbl, w.before #[Value.ref b] s = true) (hgv : (Jvm.Cond.and given_1 narrow_1).before #[Value.ref b] s = true) : ∃ a v : Nat, vk_R "LogSawyer" 126 "klshrot" a s ∧ vk_S 1 [7] [[107, 108, 115, 104, 114, 111, 116]] (fun _ => a) (fun _ => v) (aA s.heap.size) s s.heap := by
  have hq := st_flat hgv
  obtain ⟨adK, adV, h1, h2⟩ := vk_Sof (args := #[Value.ref b]) (s := s) (N := 1) (tm := fun _ => .string "LogSawyer" 126) (len := [7]) (byt := [[107, 108, 115, 104, 114, 111, 116]]) (A := aA s.heap.size)
    (fun i hi => by rw [show i = 0 by omega]; decide)
    (fun i hi => hq _ (List.mem_of_getElem? (i := 172) (by decide +kernel)))
    (fun i hi => hq _ (List.mem_of_getElem? (i := 173) (by decide +kernel)))
    (fun i hi => hq _ (List.mem_of_getElem? (i := 174) (by decide +kernel)))
    (fun i hi => by rw [show i = 0 by omega]; exact hq _ (List.mem_of_getElem? (i := 175) (by decide +kernel)))
    (fun i hi j hj => by
      have e0 : i = 0 := by omega
      subst e0
      exact hq _ (sl_let j hj))
    (fun i j hi hj q => absurd (show i = j by omega) q) (st_A s)
  refine ⟨adK 0, adV 0, vk_R.of (hts _ (List.mem_append_right _ (List.mem_of_getElem? (i := 300) (by decide +kernel)))) (h2 0 (by decide)), fun i hi => ?_, fun i j hi hj _ => by omega⟩
  have e0 : i = 0 := by omega
  subst e0
  exact h1.1 0 (by decide)
theorem st_compact {s : State} {b : Nat} (hts : ∀ w ∈ lw_tbl, w.before #[Value.ref b] s = true) (hgv : (Jvm.Cond.and given_1 narrow_1).before #[Value.ref b] s = true) : va_Z "java/lang/String" "COMPACT_STRINGS" "Z" (.int 1) (aA s.heap.size) s s.heap :=
  va_Zof (hts _ (List.mem_append_right _ (List.mem_of_getElem? (i := 314) (by decide +kernel)))) (hts _ (List.mem_append_right _ (List.mem_of_getElem? (i := 9) (by decide +kernel)))) (va_eqi (st_flat hgv _ (List.mem_of_getElem? (i := 14) (by decide +kernel)))) (st_A s)
theorem st_known {s : State} {b : Nat} (hts : ∀ w ∈ lw_tbl, w.before #[Value.ref b] s = true) : ∃ (dC : Nat → ClassId) (dI : Nat → Nat → Nat), ∀ (k : Nat) (q : vw_C), vwCl[k]? = some q → u_Kn s q.1 q.2.1 q.2.2 (dC k) (dI k) := by
  have hB : ∀ w ∈ BW, w.before #[Value.ref b] s = true := fun w hw => hts w (BW_tbl w hw)
  have h0 : ∀ k : Nat, ∃ p : ClassId × (Nat → Nat), ∀ q : vw_C, vwCl[k]? = some q → u_Kn s q.1 q.2.1 q.2.2 p.1 p.2 := by
    intro k
    match k with
    | 0 => obtain ⟨c, i, h⟩ := u_known (C := RX1) (T := TX1) (N := 3) (n := 3) hB in_wsX10 (hB _ q_13_1); exact ⟨(c, i), fun q hq => by cases hq; exact h⟩
    | 1 => obtain ⟨c, i, h⟩ := u_known (C := RX2) (T := TX2) (N := 3) (n := 3) hB in_wsX20 (hB _ q_13_4); exact ⟨(c, i), fun q hq => by cases hq; exact h⟩
    | 2 => obtain ⟨c, i, h⟩ := u_known (C := RX3) (T := TX3) (N := 9) (n := 9) hB in_wsX30 (hB _ q_2_22); exact ⟨(c, i), fun q hq => by cases hq; exact h⟩
    | 3 => obtain ⟨c, i, h⟩ := u_known (C := RX4) (T := TX4) (N := 3) (n := 3) hB in_wsX40 (hB _ q_13_13); exact ⟨(c, i), fun q hq => by cases hq; exact h⟩
    | 4 => obtain ⟨c, i, h⟩ := u_known (C := RX5) (T := TX5) (N := 3) (n := 3) hB in_wsX50 (hB _ q_13_16); exact ⟨(c, i), fun q hq => by cases hq; exact h⟩
    | 5 => obtain ⟨c, i, h⟩ := u_known (C := RX6) (T := TX6) (N := 16) (n := 16) hB in_wsX60 (hB _ q_0_20); exact ⟨(c, i), fun q hq => by cases hq; exact h⟩
    | 6 => obtain ⟨c, i, h⟩ := u_known (C := RX7) (T := TX7) (N := 3) (n := 3) hB in_wsX70 (hB _ q_13_10); exact ⟨(c, i), fun q hq => by cases hq; exact h⟩
    | 7 => obtain ⟨c, i, h⟩ := u_known (C := RX8) (T := TX8) (N := 3) (n := 3) hB in_wsX80 (hB _ q_13_7); exact ⟨(c, i), fun q hq => by cases hq; exact h⟩
    | 8 => obtain ⟨c, i, h⟩ := u_known (C := RX9) (T := TX9) (N := 3) (n := 3) hB in_wsX90 (hB _ q_13_19); exact ⟨(c, i), fun q hq => by cases hq; exact h⟩
    | 9 => obtain ⟨c, i, h⟩ := u_known (C := RX10) (T := TX10) (N := 11) (n := 11) hB in_wsX100 (hB _ q_0_14); exact ⟨(c, i), fun q hq => by cases hq; exact h⟩
    | 10 => obtain ⟨c, i, h⟩ := u_known (C := RX11) (T := TX11) (N := 13) (n := 13) hB in_wsX110 (hB _ q_0_1); exact ⟨(c, i), fun q hq => by cases hq; exact h⟩
    | 11 => obtain ⟨c, i, h⟩ := u_known (C := RX12) (T := TX12) (N := 42) (n := 42) hB in_wsX120 (hB _ q_0_4); exact ⟨(c, i), fun q hq => by cases hq; exact h⟩
    | k + 12 => exact ⟨(0, fun _ => 0), fun q hq => by simp [vwCl] at hq⟩
  obtain ⟨ad, had⟩ := Classical.axiomOfChoice h0
  exact ⟨fun k => (ad k).1, fun k => (ad k).2, fun k q hq => had k q hq⟩
/-- what the tables and the statics say holds at the law's entry -/
theorem st_K {s : State} {b : Nat} (hts : ∀ w ∈ lw_tbl, w.before #[Value.ref b] s = true) (hgv : (Jvm.Cond.and given_1 narrow_1).before #[Value.ref b] s = true) : ∃ (D : va_G) (Y : Nat → Nat), Kx s.heap.size D Y s s.heap := by
  have hB : ∀ w ∈ BW, w.before #[Value.ref b] s = true := fun w hw => hts w (BW_tbl w hw)
  obtain ⟨dC, dI, hK⟩ := st_known hts
  obtain ⟨y0, i1, i2⟩ := arr_of (hB _ q_1_2)
  obtain ⟨y1, l1, l2⟩ := arr_of (hB _ q_1_7)
  obtain ⟨y2, z1, z2⟩ := arr_of (hB _ q_4_15)
  have hF : (Cond.arrayOver (.object "LogSawyer$Fault")).before #[Value.ref b] s = true := hts _ (List.mem_append_right _ (List.mem_of_getElem? (i := 38) (by decide +kernel)))
  have hL : (Cond.arrayOver (.array .long)).before #[Value.ref b] s = true := hts _ (List.mem_append_right _ (List.mem_of_getElem? (i := 1021) (by decide +kernel)))
  obtain ⟨y3, kA, comp, r1, r2, r3, r4⟩ := over_of hF
  obtain ⟨y4, kB, comp2, g1, g2, g4⟩ := over_al hL
  obtain ⟨y5, s5⟩ := st_RULE_MOST hts hgv
  obtain ⟨y6, s6⟩ := st_RULE_FIRST hts hgv
  obtain ⟨y7, s7⟩ := st_ANGLE_U hts hgv
  obtain ⟨y8, s8⟩ := st_ANGLE_V hts hgv
  obtain ⟨y9, y10, s9, s10⟩ := st_letters hts hgv
  refine ⟨(dC, dI), fun k => match k with | 0 => y0 | 1 => y1 | 2 => y2 | 3 => y3 | 4 => y4 | 5 => y5 | 6 => y6 | 7 => y7 | 8 => y8 | 9 => y9 | _ => y10, ⟨fun w hw => va_tabs (nwL_tab w hw) rfl (hts w (nwL_tbl w hw)), fun w hw => va_tabs (nwS_tab w hw) rfl (hts w (nwS_tbl w hw)), fun q hq => va_Nc.of (st_flat hgv _ (ncL_flat q hq)), va_AO.of hF, hL⟩, ⟨hK, ?_⟩, s5, s6, s7, s8, s9, s10, st_compact hts hgv⟩
  intro k q hq
  match k, hq with
  | 0, hq => cases hq; exact ⟨i2, i1⟩
  | 1, hq => cases hq; exact ⟨l2, l1⟩
  | 2, hq => cases hq; exact ⟨z2, z1⟩
  | 3, hq => cases hq; exact ⟨fun n z => ⟨fun k q => (by cases q), kA, r1, comp, r2⟩, kA, comp, r1, r2, r3, r4⟩
  | 4, hq => cases hq; exact ⟨fun n z => ⟨fun k q => (by cases q), kB, g1, comp2, g2⟩, g4⟩
  | k + 5, hq => simp [tysY] at hq
