theorem goodIn_r {big : List Cond} (ws : List Cond) (ps : List Nat) (hp : ws = ps.filterMap (fun i => big[i]?)) (h : ws.all goodWord = true) : GoodIn big ws := by
  intro w hw
  have h1 := List.all_eq_true.mp h w hw
  rw [hp] at hw
  obtain ⟨i, -, hi⟩ := List.mem_filterMap.mp hw
  have hm : w ∈ big := by first | exact List.mem_of_getElem? hi | exact List.getElem?_mem hi
  exact ⟨hm, good_of_word h1⟩
theorem goodIn_app {big a b : List Cond} (ha : GoodIn big a) (hb : GoodIn big b) : GoodIn big (a ++ b) := fun w h => (List.mem_append.mp h).elim (ha w) (hb w)
theorem goodIn_ca {big a b : List Cond} {c : Cond} (ha : GoodIn big (c :: a)) (hb : GoodIn big b) : GoodIn big (c :: (a ++ b)) := fun w h => (List.mem_cons.mp h).elim (fun e => ha w (List.mem_cons.mpr (Or.inl e))) (fun h => (List.mem_append.mp h).elim (fun h => ha w (List.mem_cons.mpr (Or.inr h))) (hb w))
theorem goodIn_sub {big ws : List Cond} (hm : ∀ w ∈ ws, w ∈ big) (h : ws.all goodWord = true) : GoodIn big ws := fun w hw => ⟨hm w hw, good_of_word (List.all_eq_true.mp h w hw)⟩
def RX0 : String := "LogSawyer$Fault"
def TX0 : u_T := fun k => match k with
  | _ => ("", "", "", false)
def tyX0 : Nat → FieldType := fun k => match k with
  | _ => .int
abbrev wsX00 : List Cond := u_ws RX0 TX0 0
theorem nmX0 : ∀ a, a < 0 → ∀ b, b < 0 → a ≠ b → (TX0 a).2.1 ≠ (TX0 b).2.1 := by decide +kernel
theorem tyX0_ok : ∀ k, k < 0 → parseFieldDescriptor (TX0 k).2.2.1 = some (tyX0 k) := by decide +kernel
abbrev cX0_init : ByteArray := prog_2_method_1_code
def yX0_init : MethodName := ⟨RX0, "<init>", "(III)V"⟩
abbrev cX0_along : ByteArray := prog_2_method_6_code
def yX0_along : MethodName := ⟨RX0, "along", "(II)I"⟩
abbrev cX0_across : ByteArray := prog_2_method_7_code
def yX0_across : MethodName := ⟨RX0, "across", "(II)I"⟩
abbrev cX0_slicesOf : ByteArray := prog_2_method_8_code
def yX0_slicesOf : MethodName := ⟨RX0, "slicesOf", "(I)I"⟩
abbrev cX0_isInSlice : ByteArray := prog_2_method_9_code
def yX0_isInSlice : MethodName := ⟨RX0, "isInSlice", "(II)Z"⟩
abbrev cX0_cellsOfSlice : ByteArray := prog_2_method_10_code
def yX0_cellsOfSlice : MethodName := ⟨RX0, "cellsOfSlice", "()I"⟩
def RX1 : String := "LogSawyer$Knot"
def TX1 : u_T := fun k => match k with
  | 0 => ("LogSawyer$Fault", "angle", "I", true)
  | 1 => ("LogSawyer$Fault", "slice", "I", true)
  | _ => ("LogSawyer$Fault", "size", "I", true)
def tyX1 : Nat → FieldType := fun k => match k with
  | 0 => .int
  | 1 => .int
  | _ => .int
abbrev wsX10 : List Cond := u_ws RX1 TX1 3
theorem nmX1 : ∀ a, a < 3 → ∀ b, b < 3 → a ≠ b → (TX1 a).2.1 ≠ (TX1 b).2.1 := by decide +kernel
theorem tyX1_ok : ∀ k, k < 3 → parseFieldDescriptor (TX1 k).2.2.1 = some (tyX1 k) := by decide +kernel
abbrev cX1_init : ByteArray := prog_3_method_1_code
def yX1_init : MethodName := ⟨RX1, "<init>", "(III)V"⟩
abbrev cX1_kind : ByteArray := prog_3_method_2_code
def yX1_kind : MethodName := ⟨RX1, "kind", "()I"⟩
abbrev cX1_wide : ByteArray := prog_3_method_3_code
def yX1_wide : MethodName := ⟨RX1, "wide", "()I"⟩
abbrev cX1_isIn : ByteArray := prog_3_method_4_code
def yX1_isIn : MethodName := ⟨RX1, "isIn", "(II)Z"⟩
abbrev cX1_lasts : ByteArray := prog_3_method_5_code
def yX1_lasts : MethodName := ⟨RX1, "lasts", "(I)I"⟩
abbrev cX1_hurts : ByteArray := prog_3_method_6_code
def yX1_hurts : MethodName := ⟨RX1, "hurts", "()I"⟩
def RX2 : String := "LogSawyer$Loose"
def TX2 : u_T := fun k => match k with
  | 0 => ("LogSawyer$Fault", "angle", "I", true)
  | 1 => ("LogSawyer$Fault", "slice", "I", true)
  | _ => ("LogSawyer$Fault", "size", "I", true)
def tyX2 : Nat → FieldType := fun k => match k with
  | 0 => .int
  | 1 => .int
  | _ => .int
abbrev wsX20 : List Cond := u_ws RX2 TX2 3
theorem nmX2 : ∀ a, a < 3 → ∀ b, b < 3 → a ≠ b → (TX2 a).2.1 ≠ (TX2 b).2.1 := by decide +kernel
theorem tyX2_ok : ∀ k, k < 3 → parseFieldDescriptor (TX2 k).2.2.1 = some (tyX2 k) := by decide +kernel
abbrev cX2_init : ByteArray := prog_4_method_1_code
def yX2_init : MethodName := ⟨RX2, "<init>", "(III)V"⟩
abbrev cX2_kind : ByteArray := prog_4_method_2_code
def yX2_kind : MethodName := ⟨RX2, "kind", "()I"⟩
abbrev cX2_wide : ByteArray := prog_4_method_3_code
def yX2_wide : MethodName := ⟨RX2, "wide", "()I"⟩
abbrev cX2_hurts : ByteArray := prog_4_method_4_code
def yX2_hurts : MethodName := ⟨RX2, "hurts", "()I"⟩
def RX3 : String := "LogSawyer$Piece"
def TX3 : u_T := fun k => match k with
  | 0 => ("LogSawyer$Piece", "a", "I", false)
  | 1 => ("LogSawyer$Piece", "b", "I", false)
  | 2 => ("LogSawyer$Piece", "s", "I", false)
  | 3 => ("LogSawyer$Piece", "t", "I", false)
  | 4 => ("LogSawyer$Piece", "grade", "I", false)
  | 5 => ("LogSawyer$Piece", "upper", "I", false)
  | 6 => ("LogSawyer$Piece", "lower", "I", false)
  | 7 => ("LogSawyer$Piece", "area", "I", false)
  | _ => ("LogSawyer$Piece", "worth", "I", false)
def tyX3 : Nat → FieldType := fun k => match k with
  | 0 => .int
  | 1 => .int
  | 2 => .int
  | 3 => .int
  | 4 => .int
  | 5 => .int
  | 6 => .int
  | 7 => .int
  | _ => .int
abbrev wsX30 : List Cond := u_ws RX3 TX3 9
theorem nmX3 : ∀ a, a < 9 → ∀ b, b < 9 → a ≠ b → (TX3 a).2.1 ≠ (TX3 b).2.1 := by decide +kernel
theorem tyX3_ok : ∀ k, k < 9 → parseFieldDescriptor (TX3 k).2.2.1 = some (tyX3 k) := by decide +kernel
abbrev cX3_init : ByteArray := prog_5_method_1_code
def yX3_init : MethodName := ⟨RX3, "<init>", "()V"⟩
def RX4 : String := "LogSawyer$Ring"
def TX4 : u_T := fun k => match k with
  | 0 => ("LogSawyer$Fault", "angle", "I", true)
  | 1 => ("LogSawyer$Fault", "slice", "I", true)
  | _ => ("LogSawyer$Fault", "size", "I", true)
def tyX4 : Nat → FieldType := fun k => match k with
  | 0 => .int
  | 1 => .int
  | _ => .int
abbrev wsX40 : List Cond := u_ws RX4 TX4 3
theorem nmX4 : ∀ a, a < 3 → ∀ b, b < 3 → a ≠ b → (TX4 a).2.1 ≠ (TX4 b).2.1 := by decide +kernel
theorem tyX4_ok : ∀ k, k < 3 → parseFieldDescriptor (TX4 k).2.2.1 = some (tyX4 k) := by decide +kernel
abbrev cX4_init : ByteArray := prog_6_method_1_code
def yX4_init : MethodName := ⟨RX4, "<init>", "(III)V"⟩
abbrev cX4_kind : ByteArray := prog_6_method_2_code
def yX4_kind : MethodName := ⟨RX4, "kind", "()I"⟩
abbrev cX4_isIn : ByteArray := prog_6_method_3_code
def yX4_isIn : MethodName := ⟨RX4, "isIn", "(II)Z"⟩
abbrev cX4_hurts : ByteArray := prog_6_method_4_code
def yX4_hurts : MethodName := ⟨RX4, "hurts", "()I"⟩
def RX5 : String := "LogSawyer$Rot"
def TX5 : u_T := fun k => match k with
  | 0 => ("LogSawyer$Fault", "angle", "I", true)
  | 1 => ("LogSawyer$Fault", "slice", "I", true)
  | _ => ("LogSawyer$Fault", "size", "I", true)
def tyX5 : Nat → FieldType := fun k => match k with
  | 0 => .int
  | 1 => .int
  | _ => .int
abbrev wsX50 : List Cond := u_ws RX5 TX5 3
theorem nmX5 : ∀ a, a < 3 → ∀ b, b < 3 → a ≠ b → (TX5 a).2.1 ≠ (TX5 b).2.1 := by decide +kernel
theorem tyX5_ok : ∀ k, k < 3 → parseFieldDescriptor (TX5 k).2.2.1 = some (tyX5 k) := by decide +kernel
abbrev cX5_init : ByteArray := prog_7_method_1_code
def yX5_init : MethodName := ⟨RX5, "<init>", "(III)V"⟩
abbrev cX5_kind : ByteArray := prog_7_method_2_code
def yX5_kind : MethodName := ⟨RX5, "kind", "()I"⟩
abbrev cX5_isIn : ByteArray := prog_7_method_3_code
def yX5_isIn : MethodName := ⟨RX5, "isIn", "(II)Z"⟩
abbrev cX5_lasts : ByteArray := prog_7_method_4_code
def yX5_lasts : MethodName := ⟨RX5, "lasts", "(I)I"⟩
abbrev cX5_hurts : ByteArray := prog_7_method_5_code
def yX5_hurts : MethodName := ⟨RX5, "hurts", "()I"⟩
def RX6 : String := "LogSawyer$Saw"
def TX6 : u_T := fun k => match k with
  | 0 => ("LogSawyer$Saw", "laid", "Z", false)
  | 1 => ("LogSawyer$Saw", "opened", "Z", false)
  | 2 => ("LogSawyer$Saw", "boardCount", "I", false)
  | 3 => ("LogSawyer$Saw", "length", "I", false)
  | 4 => ("LogSawyer$Saw", "topPrice", "I", false)
  | 5 => ("LogSawyer$Saw", "rules", "[I", true)
  | 6 => ("LogSawyer$Saw", "firstWood", "[I", true)
  | 7 => ("LogSawyer$Saw", "hurt", "[I", true)
  | 8 => ("LogSawyer$Saw", "hurtSums", "[I", true)
  | 9 => ("LogSawyer$Saw", "worstSums", "[I", true)
  | 10 => ("LogSawyer$Saw", "firstColumn", "[I", true)
  | 11 => ("LogSawyer$Saw", "found", "LLogSawyer$Piece;", true)
  | 12 => ("LogSawyer$Saw", "worthFrom", "[I", true)
  | 13 => ("LogSawyer$Saw", "thicknessFrom", "[I", true)
  | 14 => ("LogSawyer$Saw", "gradeFrom", "[I", true)
  | _ => ("LogSawyer$Saw", "rows", "[I", true)
def tyX6 : Nat → FieldType := fun k => match k with
  | 0 => .boolean
  | 1 => .boolean
  | 2 => .int
  | 3 => .int
  | 4 => .int
  | 5 => .array .int
  | 6 => .array .int
  | 7 => .array .int
  | 8 => .array .int
  | 9 => .array .int
  | 10 => .array .int
  | 11 => .object "LogSawyer$Piece"
  | 12 => .array .int
  | 13 => .array .int
  | 14 => .array .int
  | _ => .array .int
abbrev wsX60 : List Cond := u_ws RX6 TX6 16
theorem nmX6 : ∀ a, a < 16 → ∀ b, b < 16 → a ≠ b → (TX6 a).2.1 ≠ (TX6 b).2.1 := by decide +kernel
theorem tyX6_ok : ∀ k, k < 16 → parseFieldDescriptor (TX6 k).2.2.1 = some (tyX6 k) := by decide +kernel
abbrev cX6_init : ByteArray := prog_8_method_1_code
def yX6_init : MethodName := ⟨RX6, "<init>", "()V"⟩
abbrev cX6_lay : ByteArray := prog_8_method_2_code
def yX6_lay : MethodName := ⟨RX6, "lay", "(LLogSawyer$Yard;I[LLogSawyer$Fault;I)V"⟩
abbrev cX6_findFirstWood : ByteArray := prog_8_method_3_code
def yX6_findFirstWood : MethodName := ⟨RX6, "findFirstWood", "(LLogSawyer$Yard;)V"⟩
abbrev cX6_mark : ByteArray := prog_8_method_4_code
def yX6_mark : MethodName := ⟨RX6, "mark", "(LLogSawyer$Fault;I)V"⟩
abbrev cX6_addUp : ByteArray := prog_8_method_5_code
def yX6_addUp : MethodName := ⟨RX6, "addUp", "()V"⟩
abbrev cX6_sumOf : ByteArray := prog_8_method_6_code
def yX6_sumOf : MethodName := ⟨RX6, "sumOf", "([IIIIII)I"⟩
abbrev cX6_hurtOf : ByteArray := prog_8_method_7_code
def yX6_hurtOf : MethodName := ⟨RX6, "hurtOf", "(III)I"⟩
abbrev cX6_firstColumnAt : ByteArray := prog_8_method_8_code
def yX6_firstColumnAt : MethodName := ⟨RX6, "firstColumnAt", "(III)I"⟩
abbrev cX6_isAllWood : ByteArray := prog_8_method_9_code
def yX6_isAllWood : MethodName := ⟨RX6, "isAllWood", "(IIIII)Z"⟩
abbrev cX6_gradeOf : ByteArray := prog_8_method_10_code
def yX6_gradeOf : MethodName := ⟨RX6, "gradeOf", "(IIIIII)I"⟩
abbrev cX6_bestPiece : ByteArray := prog_8_method_11_code
def yX6_bestPiece : MethodName := ⟨RX6, "bestPiece", "(II)LLogSawyer$Piece;"⟩
abbrev cX6_tryPiece : ByteArray := prog_8_method_12_code
def yX6_tryPiece : MethodName := ⟨RX6, "tryPiece", "(IIIIII)V"⟩
abbrev cX6_open : ByteArray := prog_8_method_13_code
def yX6_open : MethodName := ⟨RX6, "open", "(I)I"⟩
abbrev cX6_listRows : ByteArray := prog_8_method_14_code
def yX6_listRows : MethodName := ⟨RX6, "listRows", "(I)V"⟩
abbrev cX6_rowAt : ByteArray := prog_8_method_15_code
def yX6_rowAt : MethodName := ⟨RX6, "rowAt", "(I)I"⟩
abbrev cX6_thicknessAt : ByteArray := prog_8_method_16_code
def yX6_thicknessAt : MethodName := ⟨RX6, "thicknessAt", "(I)I"⟩
abbrev cX6_gradeAt : ByteArray := prog_8_method_17_code
def yX6_gradeAt : MethodName := ⟨RX6, "gradeAt", "(I)I"⟩
abbrev cX6_pieceAt : ByteArray := prog_8_method_18_code
def yX6_pieceAt : MethodName := ⟨RX6, "pieceAt", "(I)LLogSawyer$Piece;"⟩
def RX7 : String := "LogSawyer$Shake"
def TX7 : u_T := fun k => match k with
  | 0 => ("LogSawyer$Fault", "angle", "I", true)
  | 1 => ("LogSawyer$Fault", "slice", "I", true)
  | _ => ("LogSawyer$Fault", "size", "I", true)
def tyX7 : Nat → FieldType := fun k => match k with
  | 0 => .int
  | 1 => .int
  | _ => .int
abbrev wsX70 : List Cond := u_ws RX7 TX7 3
theorem nmX7 : ∀ a, a < 3 → ∀ b, b < 3 → a ≠ b → (TX7 a).2.1 ≠ (TX7 b).2.1 := by decide +kernel
theorem tyX7_ok : ∀ k, k < 3 → parseFieldDescriptor (TX7 k).2.2.1 = some (tyX7 k) := by decide +kernel
abbrev cX7_init : ByteArray := prog_9_method_1_code
def yX7_init : MethodName := ⟨RX7, "<init>", "(III)V"⟩
abbrev cX7_kind : ByteArray := prog_9_method_2_code
def yX7_kind : MethodName := ⟨RX7, "kind", "()I"⟩
abbrev cX7_isIn : ByteArray := prog_9_method_3_code
def yX7_isIn : MethodName := ⟨RX7, "isIn", "(II)Z"⟩
abbrev cX7_lasts : ByteArray := prog_9_method_4_code
def yX7_lasts : MethodName := ⟨RX7, "lasts", "(I)I"⟩
abbrev cX7_hurts : ByteArray := prog_9_method_5_code
def yX7_hurts : MethodName := ⟨RX7, "hurts", "()I"⟩
def RX8 : String := "LogSawyer$Spike"
def TX8 : u_T := fun k => match k with
  | 0 => ("LogSawyer$Fault", "angle", "I", true)
  | 1 => ("LogSawyer$Fault", "slice", "I", true)
  | _ => ("LogSawyer$Fault", "size", "I", true)
def tyX8 : Nat → FieldType := fun k => match k with
  | 0 => .int
  | 1 => .int
  | _ => .int
abbrev wsX80 : List Cond := u_ws RX8 TX8 3
theorem nmX8 : ∀ a, a < 3 → ∀ b, b < 3 → a ≠ b → (TX8 a).2.1 ≠ (TX8 b).2.1 := by decide +kernel
theorem tyX8_ok : ∀ k, k < 3 → parseFieldDescriptor (TX8 k).2.2.1 = some (tyX8 k) := by decide +kernel
abbrev cX8_init : ByteArray := prog_10_method_1_code
def yX8_init : MethodName := ⟨RX8, "<init>", "(III)V"⟩
abbrev cX8_kind : ByteArray := prog_10_method_2_code
def yX8_kind : MethodName := ⟨RX8, "kind", "()I"⟩
abbrev cX8_lasts : ByteArray := prog_10_method_3_code
def yX8_lasts : MethodName := ⟨RX8, "lasts", "(I)I"⟩
def RX9 : String := "LogSawyer$Stain"
def TX9 : u_T := fun k => match k with
  | 0 => ("LogSawyer$Fault", "angle", "I", true)
  | 1 => ("LogSawyer$Fault", "slice", "I", true)
  | _ => ("LogSawyer$Fault", "size", "I", true)
def tyX9 : Nat → FieldType := fun k => match k with
  | 0 => .int
  | 1 => .int
  | _ => .int
abbrev wsX90 : List Cond := u_ws RX9 TX9 3
theorem nmX9 : ∀ a, a < 3 → ∀ b, b < 3 → a ≠ b → (TX9 a).2.1 ≠ (TX9 b).2.1 := by decide +kernel
theorem tyX9_ok : ∀ k, k < 3 → parseFieldDescriptor (TX9 k).2.2.1 = some (tyX9 k) := by decide +kernel
abbrev cX9_init : ByteArray := prog_11_method_1_code
def yX9_init : MethodName := ⟨RX9, "<init>", "(III)V"⟩
abbrev cX9_kind : ByteArray := prog_11_method_2_code
def yX9_kind : MethodName := ⟨RX9, "kind", "()I"⟩
abbrev cX9_isIn : ByteArray := prog_11_method_3_code
def yX9_isIn : MethodName := ⟨RX9, "isIn", "(II)Z"⟩
abbrev cX9_hurts : ByteArray := prog_11_method_4_code
def yX9_hurts : MethodName := ⟨RX9, "hurts", "()I"⟩
def RX10 : String := "LogSawyer$Yard"
def TX10 : u_T := fun k => match k with
  | 0 => ("LogSawyer$Yard", "radius", "I", false)
  | 1 => ("LogSawyer$Yard", "taper", "I", false)
  | 2 => ("LogSawyer$Yard", "length", "I", false)
  | 3 => ("LogSawyer$Yard", "turn", "I", false)
  | 4 => ("LogSawyer$Yard", "faults", "[LLogSawyer$Fault;", true)
  | 5 => ("LogSawyer$Yard", "faultCount", "I", false)
  | 6 => ("LogSawyer$Yard", "rules", "[I", true)
  | 7 => ("LogSawyer$Yard", "boards", "[I", true)
  | 8 => ("LogSawyer$Yard", "boardCount", "I", false)
  | 9 => ("LogSawyer$Yard", "orders", "[I", true)
  | _ => ("LogSawyer$Yard", "orderCount", "I", false)
def tyX10 : Nat → FieldType := fun k => match k with
  | 0 => .int
  | 1 => .int
  | 2 => .int
  | 3 => .int
  | 4 => .array (.object "LogSawyer$Fault")
  | 5 => .int
  | 6 => .array .int
  | 7 => .array .int
  | 8 => .int
  | 9 => .array .int
  | _ => .int
abbrev wsX100 : List Cond := u_ws RX10 TX10 11
theorem nmX10 : ∀ a, a < 11 → ∀ b, b < 11 → a ≠ b → (TX10 a).2.1 ≠ (TX10 b).2.1 := by decide +kernel
theorem tyX10_ok : ∀ k, k < 11 → parseFieldDescriptor (TX10 k).2.2.1 = some (tyX10 k) := by decide +kernel
abbrev cX10_init : ByteArray := prog_12_method_1_code
def yX10_init : MethodName := ⟨RX10, "<init>", "()V"⟩
abbrev cX10_hasLog : ByteArray := prog_12_method_2_code
def yX10_hasLog : MethodName := ⟨RX10, "hasLog", "()Z"⟩
abbrev cX10_lay : ByteArray := prog_12_method_3_code
def yX10_lay : MethodName := ⟨RX10, "lay", "(III)V"⟩
abbrev cX10_isWood : ByteArray := prog_12_method_4_code
def yX10_isWood : MethodName := ⟨RX10, "isWood", "(III)Z"⟩
abbrev cX10_faultOf : ByteArray := prog_12_method_5_code
def yX10_faultOf : MethodName := ⟨RX10, "faultOf", "(I)LLogSawyer$Fault;"⟩
abbrev cX10_addFault : ByteArray := prog_12_method_6_code
def yX10_addFault : MethodName := ⟨RX10, "addFault", "(LLogSawyer$Fault;)V"⟩
abbrev cX10_dropFault : ByteArray := prog_12_method_7_code
def yX10_dropFault : MethodName := ⟨RX10, "dropFault", "(I)V"⟩
abbrev cX10_woodIn : ByteArray := prog_12_method_8_code
def yX10_woodIn : MethodName := ⟨RX10, "woodIn", "(LLogSawyer$Fault;)I"⟩
abbrev cX10_leastFaultIn : ByteArray := prog_12_method_9_code
def yX10_leastFaultIn : MethodName := ⟨RX10, "leastFaultIn", "(III)I"⟩
abbrev cX10_addBoard : ByteArray := prog_12_method_10_code
def yX10_addBoard : MethodName := ⟨RX10, "addBoard", "(IIII)V"⟩
abbrev cX10_addOrder : ByteArray := prog_12_method_11_code
def yX10_addOrder : MethodName := ⟨RX10, "addOrder", "(IIII)V"⟩
abbrev cX10_fillRow : ByteArray := prog_12_method_12_code
def yX10_fillRow : MethodName := ⟨RX10, "fillRow", "([IIIIII)V"⟩
abbrev cX10_boardsThatMeet : ByteArray := prog_12_method_13_code
def yX10_boardsThatMeet : MethodName := ⟨RX10, "boardsThatMeet", "(I)I"⟩
abbrev cX10_meets : ByteArray := prog_12_method_14_code
def yX10_meets : MethodName := ⟨RX10, "meets", "(II)Z"⟩
abbrev cX10_keepBoards : ByteArray := prog_12_method_15_code
def yX10_keepBoards : MethodName := ⟨RX10, "keepBoards", "(I)V"⟩
abbrev cX10_keepOrders : ByteArray := prog_12_method_16_code
def yX10_keepOrders : MethodName := ⟨RX10, "keepOrders", "(I)V"⟩
abbrev cX10_keepRows : ByteArray := prog_12_method_17_code
def yX10_keepRows : MethodName := ⟨RX10, "keepRows", "([III)I"⟩
abbrev cX10_becomeAs : ByteArray := prog_12_method_18_code
def yX10_becomeAs : MethodName := ⟨RX10, "becomeAs", "(LLogSawyer$Yard;)V"⟩
def RX11 : String := "LogSawyer"
def TX11 : u_T := fun k => match k with
  | 0 => ("LogSawyer", "yard", "LLogSawyer$Yard;", true)
  | 1 => ("LogSawyer", "kept", "LLogSawyer$Yard;", true)
  | 2 => ("LogSawyer", "hasImage", "Z", false)
  | 3 => ("LogSawyer", "lies", "LLogSawyer$Saw;", true)
  | 4 => ("LogSawyer", "thought", "LLogSawyer$Saw;", true)
  | 5 => ("LogSawyer", "thoughtFaults", "[LLogSawyer$Fault;", true)
  | 6 => ("LogSawyer", "tape", "[I", true)
  | 7 => ("LogSawyer", "tapeSize", "I", false)
  | 8 => ("LogSawyer", "sheetSort", "[I", true)
  | 9 => ("LogSawyer", "sheetSize", "[I", true)
  | 10 => ("LogSawyer", "sheetItems", "[J", true)
  | 11 => ("LogSawyer", "meeting", "[I", true)
  | _ => ("LogSawyer", "turnWorths", "[I", true)
def tyX11 : Nat → FieldType := fun k => match k with
  | 0 => .object "LogSawyer$Yard"
  | 1 => .object "LogSawyer$Yard"
  | 2 => .boolean
  | 3 => .object "LogSawyer$Saw"
  | 4 => .object "LogSawyer$Saw"
  | 5 => .array (.object "LogSawyer$Fault")
  | 6 => .array .int
  | 7 => .int
  | 8 => .array .int
  | 9 => .array .int
  | 10 => .array .long
  | 11 => .array .int
  | _ => .array .int
abbrev wsX110 : List Cond := u_ws RX11 TX11 13
theorem nmX11 : ∀ a, a < 13 → ∀ b, b < 13 → a ≠ b → (TX11 a).2.1 ≠ (TX11 b).2.1 := by decide +kernel
theorem tyX11_ok : ∀ k, k < 13 → parseFieldDescriptor (TX11 k).2.2.1 = some (tyX11 k) := by decide +kernel
abbrev cX11_init : ByteArray := prog_1_method_1_code
def yX11_init : MethodName := ⟨RX11, "<init>", "()V"⟩
abbrev cX11_log : ByteArray := prog_1_method_2_code
def yX11_log : MethodName := ⟨RX11, "log", "(III)I"⟩
abbrev cX11_woodOfLog : ByteArray := prog_1_method_3_code
def yX11_woodOfLog : MethodName := ⟨RX11, "woodOfLog", "()I"⟩
abbrev cX11_feed : ByteArray := prog_1_method_4_code
def yX11_feed : MethodName := ⟨RX11, "feed", "(IIIIII)I"⟩
abbrev cX11_feedOne : ByteArray := prog_1_method_5_code
def yX11_feedOne : MethodName := ⟨RX11, "feedOne", "(IZ)V"⟩
abbrev cX11_text : ByteArray := prog_1_method_6_code
def yX11_text : MethodName := ⟨RX11, "text", "()I"⟩
abbrev cX11_wrongPlace : ByteArray := prog_1_method_7_code
def yX11_wrongPlace : MethodName := ⟨RX11, "wrongPlace", "(I)I"⟩
abbrev cX11_isBlank : ByteArray := prog_1_method_8_code
def yX11_isBlank : MethodName := ⟨RX11, "isBlank", "(I)Z"⟩
abbrev cX11_canBePart : ByteArray := prog_1_method_9_code
def yX11_canBePart : MethodName := ⟨RX11, "canBePart", "(II)Z"⟩
abbrev cX11_kindOf : ByteArray := prog_1_method_10_code
def yX11_kindOf : MethodName := ⟨RX11, "kindOf", "(I)I"⟩
abbrev cX11_itemsOf : ByteArray := prog_1_method_11_code
def yX11_itemsOf : MethodName := ⟨RX11, "itemsOf", "(I)I"⟩
abbrev cX11_readItems : ByteArray := prog_1_method_12_code
def yX11_readItems : MethodName := ⟨RX11, "readItems", "(I)V"⟩
abbrev cX11_newFault : ByteArray := prog_1_method_13_code
def yX11_newFault : MethodName := ⟨RX11, "newFault", "(IIII)LLogSawyer$Fault;"⟩
abbrev cX11_fault : ByteArray := prog_1_method_14_code
def yX11_fault : MethodName := ⟨RX11, "fault", "(IIII)I"⟩
abbrev cX11_heal : ByteArray := prog_1_method_15_code
def yX11_heal : MethodName := ⟨RX11, "heal", "(I)I"⟩
abbrev cX11_told : ByteArray := prog_1_method_16_code
def yX11_told : MethodName := ⟨RX11, "told", "(II)I"⟩
abbrev cX11_taken : ByteArray := prog_1_method_17_code
def yX11_taken : MethodName := ⟨RX11, "taken", "(II)I"⟩
abbrev cX11_isUnder : ByteArray := prog_1_method_18_code
def yX11_isUnder : MethodName := ⟨RX11, "isUnder", "(LLogSawyer$Fault;I)Z"⟩
abbrev cX11_turn : ByteArray := prog_1_method_19_code
def yX11_turn : MethodName := ⟨RX11, "turn", "(I)I"⟩
abbrev cX11_rule : ByteArray := prog_1_method_20_code
def yX11_rule : MethodName := ⟨RX11, "rule", "(II)I"⟩
abbrev cX11_cell : ByteArray := prog_1_method_21_code
def yX11_cell : MethodName := ⟨RX11, "cell", "(IIII)I"⟩
abbrev cX11_ownX : ByteArray := prog_1_method_22_code
def yX11_ownX : MethodName := ⟨RX11, "ownX", "(III)I"⟩
abbrev cX11_ownY : ByteArray := prog_1_method_23_code
def yX11_ownY : MethodName := ⟨RX11, "ownY", "(III)I"⟩
abbrev cX11_fromMiddle : ByteArray := prog_1_method_24_code
def yX11_fromMiddle : MethodName := ⟨RX11, "fromMiddle", "(I)I"⟩
abbrev cX11_within : ByteArray := prog_1_method_25_code
def yX11_within : MethodName := ⟨RX11, "within", "(III)Z"⟩
abbrev cX11_isByte : ByteArray := prog_1_method_26_code
def yX11_isByte : MethodName := ⟨RX11, "isByte", "(I)Z"⟩
abbrev cX11_board : ByteArray := prog_1_method_27_code
def yX11_board : MethodName := ⟨RX11, "board", "(III)I"⟩
abbrev cX11_isBoard : ByteArray := prog_1_method_28_code
def yX11_isBoard : MethodName := ⟨RX11, "isBoard", "(II)Z"⟩
abbrev cX11_graded : ByteArray := prog_1_method_29_code
def yX11_graded : MethodName := ⟨RX11, "graded", "(IIIII)I"⟩
abbrev cX11_worth : ByteArray := prog_1_method_30_code
def yX11_worth : MethodName := ⟨RX11, "worth", "(II)J"⟩
abbrev cX11_opening : ByteArray := prog_1_method_31_code
def yX11_opening : MethodName := ⟨RX11, "opening", "(II)I"⟩
abbrev cX11_best : ByteArray := prog_1_method_32_code
def yX11_best : MethodName := ⟨RX11, "best", "(I)J"⟩
abbrev cX11_bestTurn : ByteArray := prog_1_method_33_code
def yX11_bestTurn : MethodName := ⟨RX11, "bestTurn", "()I"⟩
abbrev cX11_turnOfMost : ByteArray := prog_1_method_34_code
def yX11_turnOfMost : MethodName := ⟨RX11, "turnOfMost", "()I"⟩
abbrev cX11_openByTurn : ByteArray := prog_1_method_35_code
def yX11_openByTurn : MethodName := ⟨RX11, "openByTurn", "(I)I"⟩
abbrev cX11_asItLies : ByteArray := prog_1_method_36_code
def yX11_asItLies : MethodName := ⟨RX11, "asItLies", "()LLogSawyer$Saw;"⟩
abbrev cX11_openedAsItLies : ByteArray := prog_1_method_37_code
def yX11_openedAsItLies : MethodName := ⟨RX11, "openedAsItLies", "()LLogSawyer$Saw;"⟩
abbrev cX11_saw : ByteArray := prog_1_method_38_code
def yX11_saw : MethodName := ⟨RX11, "saw", "()I"⟩
abbrev cX11_stack : ByteArray := prog_1_method_39_code
def yX11_stack : MethodName := ⟨RX11, "stack", "(II)I"⟩
abbrev cX11_order : ByteArray := prog_1_method_40_code
def yX11_order : MethodName := ⟨RX11, "order", "(IIII)I"⟩
abbrev cX11_met : ByteArray := prog_1_method_41_code
def yX11_met : MethodName := ⟨RX11, "met", "(I)I"⟩
abbrev cX11_findMeeting : ByteArray := prog_1_method_42_code
def yX11_findMeeting : MethodName := ⟨RX11, "findMeeting", "()V"⟩
abbrev cX11_boardsMeeting : ByteArray := prog_1_method_43_code
def yX11_boardsMeeting : MethodName := ⟨RX11, "boardsMeeting", "(I)I"⟩
abbrev cX11_canBeMet : ByteArray := prog_1_method_44_code
def yX11_canBeMet : MethodName := ⟨RX11, "canBeMet", "(II)Z"⟩
abbrev cX11_ordersMet : ByteArray := prog_1_method_45_code
def yX11_ordersMet : MethodName := ⟨RX11, "ordersMet", "()I"⟩
abbrev cX11_has : ByteArray := prog_1_method_46_code
def yX11_has : MethodName := ⟨RX11, "has", "(II)Z"⟩
abbrev cX11_serve : ByteArray := prog_1_method_47_code
def yX11_serve : MethodName := ⟨RX11, "serve", "()I"⟩
abbrev cX11_boardFor : ByteArray := prog_1_method_48_code
def yX11_boardFor : MethodName := ⟨RX11, "boardFor", "(III)I"⟩
abbrev cX11_without : ByteArray := prog_1_method_49_code
def yX11_without : MethodName := ⟨RX11, "without", "(I)J"⟩
abbrev cX11_worthInThought : ByteArray := prog_1_method_50_code
def yX11_worthInThought : MethodName := ⟨RX11, "worthInThought", "(I)I"⟩
abbrev cX11_drawn : ByteArray := prog_1_method_51_code
def yX11_drawn : MethodName := ⟨RX11, "drawn", "(II)J"⟩
abbrev cX11_drawFaults : ByteArray := prog_1_method_52_code
def yX11_drawFaults : MethodName := ⟨RX11, "drawFaults", "(II)I"⟩
abbrev cX11_next : ByteArray := prog_1_method_53_code
def yX11_next : MethodName := ⟨RX11, "next", "(I)I"⟩
abbrev cX11_chance : ByteArray := prog_1_method_54_code
def yX11_chance : MethodName := ⟨RX11, "chance", "(IIII)I"⟩
abbrev cX11_commonDivisor : ByteArray := prog_1_method_55_code
def yX11_commonDivisor : MethodName := ⟨RX11, "commonDivisor", "(II)I"⟩
abbrev cX11_tells : ByteArray := prog_1_method_56_code
def yX11_tells : MethodName := ⟨RX11, "tells", "(II)I"⟩
abbrev cX11_firstOtherwise : ByteArray := prog_1_method_57_code
def yX11_firstOtherwise : MethodName := ⟨RX11, "firstOtherwise", "(ILLogSawyer$Saw;)I"⟩
abbrev cX11_turnsTold : ByteArray := prog_1_method_58_code
def yX11_turnsTold : MethodName := ⟨RX11, "turnsTold", "(I)I"⟩
abbrev cX11_kerfsTold : ByteArray := prog_1_method_59_code
def yX11_kerfsTold : MethodName := ⟨RX11, "kerfsTold", "(I)I"⟩
abbrev cX11_image : ByteArray := prog_1_method_60_code
def yX11_image : MethodName := ⟨RX11, "image", "()I"⟩
abbrev cX11_back : ByteArray := prog_1_method_61_code
def yX11_back : MethodName := ⟨RX11, "back", "()I"⟩
abbrev cX11_count : ByteArray := prog_1_method_62_code
def yX11_count : MethodName := ⟨RX11, "count", "(I)I"⟩
abbrev cX11_woodWithFault : ByteArray := prog_1_method_63_code
def yX11_woodWithFault : MethodName := ⟨RX11, "woodWithFault", "()I"⟩
abbrev cX11_sheet : ByteArray := prog_1_method_64_code
def yX11_sheet : MethodName := ⟨RX11, "sheet", "(III)I"⟩
abbrev cX11_isSheet : ByteArray := prog_1_method_65_code
def yX11_isSheet : MethodName := ⟨RX11, "isSheet", "(I)Z"⟩
abbrev cX11_put : ByteArray := prog_1_method_66_code
def yX11_put : MethodName := ⟨RX11, "put", "(IIJ)I"⟩
abbrev cX11_copy : ByteArray := prog_1_method_67_code
def yX11_copy : MethodName := ⟨RX11, "copy", "(IIIII)I"⟩
abbrev cX11_hasItems : ByteArray := prog_1_method_68_code
def yX11_hasItems : MethodName := ⟨RX11, "hasItems", "(III)Z"⟩
def RX12 : String := "LogSawyerModel"
def TX12 : u_T := fun k => match k with
  | 0 => ("LogSawyerModel", "radius", "I", false)
  | 1 => ("LogSawyerModel", "taper", "I", false)
  | 2 => ("LogSawyerModel", "length", "I", false)
  | 3 => ("LogSawyerModel", "turn", "I", false)
  | 4 => ("LogSawyerModel", "faults", "I", false)
  | 5 => ("LogSawyerModel", "fault", "[I", true)
  | 6 => ("LogSawyerModel", "rules", "[I", true)
  | 7 => ("LogSawyerModel", "stacked", "I", false)
  | 8 => ("LogSawyerModel", "stack", "[I", true)
  | 9 => ("LogSawyerModel", "orders", "I", false)
  | 10 => ("LogSawyerModel", "order", "[I", true)
  | 11 => ("LogSawyerModel", "tape", "[I", true)
  | 12 => ("LogSawyerModel", "taped", "I", false)
  | 13 => ("LogSawyerModel", "imaged", "[I", true)
  | 14 => ("LogSawyerModel", "isKept", "Z", false)
  | 15 => ("LogSawyerModel", "spot", "I", false)
  | 16 => ("LogSawyerModel", "keeps", "Z", false)
  | 17 => ("LogSawyerModel", "at", "I", false)
  | 18 => ("LogSawyerModel", "isFaulty", "Z", false)
  | 19 => ("LogSawyerModel", "read", "[I", true)
  | 20 => ("LogSawyerModel", "upTo", "[I", true)
  | 21 => ("LogSawyerModel", "nines", "[I", true)
  | 22 => ("LogSawyerModel", "bestWorth", "I", false)
  | 23 => ("LogSawyerModel", "bestArea", "I", false)
  | 24 => ("LogSawyerModel", "bestA", "I", false)
  | 25 => ("LogSawyerModel", "bestB", "I", false)
  | 26 => ("LogSawyerModel", "bestS", "I", false)
  | 27 => ("LogSawyerModel", "bestT", "I", false)
  | 28 => ("LogSawyerModel", "bestGrade", "I", false)
  | 29 => ("LogSawyerModel", "best", "[I", true)
  | 30 => ("LogSawyerModel", "sawn", "[I", true)
  | 31 => ("LogSawyerModel", "boards", "I", false)
  | 32 => ("LogSawyerModel", "boardAt", "[I", true)
  | 33 => ("LogSawyerModel", "boardGrade", "[I", true)
  | 34 => ("LogSawyerModel", "had", "[I", true)
  | 35 => ("LogSawyerModel", "isTried", "[Z", true)
  | 36 => ("LogSawyerModel", "faultWas", "[I", true)
  | 37 => ("LogSawyerModel", "seedNow", "I", false)
  | 38 => ("LogSawyerModel", "sheets", "[[J", true)
  | 39 => ("LogSawyerModel", "sheetSort", "[I", true)
  | 40 => ("LogSawyerModel", "sheetSize", "[I", true)
  | _ => ("LogSawyerModel", "copied", "[J", true)
def tyX12 : Nat → FieldType := fun k => match k with
  | 0 => .int
  | 1 => .int
  | 2 => .int
  | 3 => .int
  | 4 => .int
  | 5 => .array .int
  | 6 => .array .int
  | 7 => .int
  | 8 => .array .int
  | 9 => .int
  | 10 => .array .int
  | 11 => .array .int
  | 12 => .int
  | 13 => .array .int
  | 14 => .boolean
  | 15 => .int
  | 16 => .boolean
  | 17 => .int
  | 18 => .boolean
  | 19 => .array .int
  | 20 => .array .int
  | 21 => .array .int
  | 22 => .int
  | 23 => .int
  | 24 => .int
  | 25 => .int
  | 26 => .int
  | 27 => .int
  | 28 => .int
  | 29 => .array .int
  | 30 => .array .int
  | 31 => .int
  | 32 => .array .int
  | 33 => .array .int
  | 34 => .array .int
  | 35 => .array .boolean
  | 36 => .array .int
  | 37 => .int
  | 38 => .array (.array .long)
  | 39 => .array .int
  | 40 => .array .int
  | _ => .array .long
abbrev wsX120 : List Cond := u_ws RX12 TX12 42
theorem nmX12 : ∀ a, a < 42 → ∀ b, b < 42 → a ≠ b → (TX12 a).2.1 ≠ (TX12 b).2.1 := by decide +kernel
theorem tyX12_ok : ∀ k, k < 42 → parseFieldDescriptor (TX12 k).2.2.1 = some (tyX12 k) := by decide +kernel
abbrev cX12_init : ByteArray := prog_14_method_1_code
def yX12_init : MethodName := ⟨RX12, "<init>", "()V"⟩
abbrev cX12_in : ByteArray := prog_14_method_2_code
def yX12_in : MethodName := ⟨RX12, "in", "(JJJ)Z"⟩
abbrev cX12_passes : ByteArray := prog_14_method_3_code
def yX12_passes : MethodName := ⟨RX12, "passes", "(I)I"⟩
abbrev cX12_passesRow : ByteArray := prog_14_method_4_code
def yX12_passesRow : MethodName := ⟨RX12, "passesRow", "([I)V"⟩
abbrev cX12_passesAll : ByteArray := prog_14_method_5_code
def yX12_passesAll : MethodName := ⟨RX12, "passesAll", "(Z)I"⟩
abbrev cX12_image : ByteArray := prog_14_method_6_code
def yX12_image : MethodName := ⟨RX12, "image", "()I"⟩
abbrev cX12_back : ByteArray := prog_14_method_7_code
def yX12_back : MethodName := ⟨RX12, "back", "()I"⟩
abbrev cX12_thick : ByteArray := prog_14_method_8_code
def yX12_thick : MethodName := ⟨RX12, "thick", "(I)I"⟩
abbrev cX12_isWood : ByteArray := prog_14_method_9_code
def yX12_isWood : MethodName := ⟨RX12, "isWood", "(III)Z"⟩
abbrev cX12_wood : ByteArray := prog_14_method_10_code
def yX12_wood : MethodName := ⟨RX12, "wood", "()I"⟩
abbrev cX12_log : ByteArray := prog_14_method_11_code
def yX12_log : MethodName := ⟨RX12, "log", "(III)I"⟩
abbrev cX12_feed : ByteArray := prog_14_method_12_code
def yX12_feed : MethodName := ⟨RX12, "feed", "(IIIIII)I"⟩
abbrev cX12_here : ByteArray := prog_14_method_13_code
def yX12_here : MethodName := ⟨RX12, "here", "()I"⟩
abbrev cX12_skips : ByteArray := prog_14_method_14_code
def yX12_skips : MethodName := ⟨RX12, "skips", "()V"⟩
abbrev cX12_kindOf : ByteArray := prog_14_method_15_code
def yX12_kindOf : MethodName := ⟨RX12, "kindOf", "(I)I"⟩
abbrev cX12_digit : ByteArray := prog_14_method_16_code
def yX12_digit : MethodName := ⟨RX12, "digit", "(II)I"⟩
abbrev cX12_reads : ByteArray := prog_14_method_17_code
def yX12_reads : MethodName := ⟨RX12, "reads", "()I"⟩
abbrev cX12_text : ByteArray := prog_14_method_18_code
def yX12_text : MethodName := ⟨RX12, "text", "()I"⟩
abbrev cX12_adds : ByteArray := prog_14_method_19_code
def yX12_adds : MethodName := ⟨RX12, "adds", "(IIII)V"⟩
abbrev cX12_fault : ByteArray := prog_14_method_20_code
def yX12_fault : MethodName := ⟨RX12, "fault", "(IIII)I"⟩
abbrev cX12_goes : ByteArray := prog_14_method_21_code
def yX12_goes : MethodName := ⟨RX12, "goes", "(I)V"⟩
abbrev cX12_heal : ByteArray := prog_14_method_22_code
def yX12_heal : MethodName := ⟨RX12, "heal", "(I)I"⟩
abbrev cX12_across : ByteArray := prog_14_method_23_code
def yX12_across : MethodName := ⟨RX12, "across", "(I)I"⟩
abbrev cX12_up : ByteArray := prog_14_method_24_code
def yX12_up : MethodName := ⟨RX12, "up", "(I)I"⟩
abbrev cX12_isIn : ByteArray := prog_14_method_25_code
def yX12_isIn : MethodName := ⟨RX12, "isIn", "(III)Z"⟩
abbrev cX12_lasts : ByteArray := prog_14_method_26_code
def yX12_lasts : MethodName := ⟨RX12, "lasts", "(I)I"⟩
abbrev cX12_hurts : ByteArray := prog_14_method_27_code
def yX12_hurts : MethodName := ⟨RX12, "hurts", "(I)I"⟩
abbrev cX12_isAt : ByteArray := prog_14_method_28_code
def yX12_isAt : MethodName := ⟨RX12, "isAt", "(II)Z"⟩
abbrev cX12_woodIn : ByteArray := prog_14_method_29_code
def yX12_woodIn : MethodName := ⟨RX12, "woodIn", "(I)I"⟩
abbrev cX12_told : ByteArray := prog_14_method_30_code
def yX12_told : MethodName := ⟨RX12, "told", "(II)I"⟩
abbrev cX12_isUnder : ByteArray := prog_14_method_31_code
def yX12_isUnder : MethodName := ⟨RX12, "isUnder", "(II)Z"⟩
abbrev cX12_taken : ByteArray := prog_14_method_32_code
def yX12_taken : MethodName := ⟨RX12, "taken", "(II)I"⟩
abbrev cX12_turn : ByteArray := prog_14_method_33_code
def yX12_turn : MethodName := ⟨RX12, "turn", "(I)I"⟩
abbrev cX12_isRule : ByteArray := prog_14_method_34_code
def yX12_isRule : MethodName := ⟨RX12, "isRule", "(II)Z"⟩
abbrev cX12_rule : ByteArray := prog_14_method_35_code
def yX12_rule : MethodName := ⟨RX12, "rule", "(II)I"⟩
abbrev cX12_ownX : ByteArray := prog_14_method_36_code
def yX12_ownX : MethodName := ⟨RX12, "ownX", "(III)I"⟩
abbrev cX12_ownY : ByteArray := prog_14_method_37_code
def yX12_ownY : MethodName := ⟨RX12, "ownY", "(III)I"⟩
abbrev cX12_hurtOf : ByteArray := prog_14_method_38_code
def yX12_hurtOf : MethodName := ⟨RX12, "hurtOf", "(IIII)I"⟩
abbrev cX12_cell : ByteArray := prog_14_method_39_code
def yX12_cell : MethodName := ⟨RX12, "cell", "(IIII)I"⟩
abbrev cX12_sums : ByteArray := prog_14_method_40_code
def yX12_sums : MethodName := ⟨RX12, "sums", "(I)V"⟩
abbrev cX12_within : ByteArray := prog_14_method_41_code
def yX12_within : MethodName := ⟨RX12, "within", "([IIIIII)I"⟩
abbrev cX12_begins : ByteArray := prog_14_method_42_code
def yX12_begins : MethodName := ⟨RX12, "begins", "(III)I"⟩
abbrev cX12_grade : ByteArray := prog_14_method_43_code
def yX12_grade : MethodName := ⟨RX12, "grade", "(IIIIII)I"⟩
abbrev cX12_isAhead : ByteArray := prog_14_method_44_code
def yX12_isAhead : MethodName := ⟨RX12, "isAhead", "(IIII)Z"⟩
abbrev cX12_tries : ByteArray := prog_14_method_45_code
def yX12_tries : MethodName := ⟨RX12, "tries", "(IIIIII)V"⟩
abbrev cX12_finds : ByteArray := prog_14_method_46_code
def yX12_finds : MethodName := ⟨RX12, "finds", "(II)V"⟩
abbrev cX12_isBoard : ByteArray := prog_14_method_47_code
def yX12_isBoard : MethodName := ⟨RX12, "isBoard", "(II)Z"⟩
abbrev cX12_board : ByteArray := prog_14_method_48_code
def yX12_board : MethodName := ⟨RX12, "board", "(III)I"⟩
abbrev cX12_graded : ByteArray := prog_14_method_49_code
def yX12_graded : MethodName := ⟨RX12, "graded", "(IIIII)I"⟩
abbrev cX12_worth : ByteArray := prog_14_method_50_code
def yX12_worth : MethodName := ⟨RX12, "worth", "(II)J"⟩
abbrev cX12_opens : ByteArray := prog_14_method_51_code
def yX12_opens : MethodName := ⟨RX12, "opens", "(I)I"⟩
abbrev cX12_lists : ByteArray := prog_14_method_52_code
def yX12_lists : MethodName := ⟨RX12, "lists", "(I)V"⟩
abbrev cX12_opening : ByteArray := prog_14_method_53_code
def yX12_opening : MethodName := ⟨RX12, "opening", "(II)I"⟩
abbrev cX12_turnBest : ByteArray := prog_14_method_54_code
def yX12_turnBest : MethodName := ⟨RX12, "turnBest", "()I"⟩
abbrev cX12_best : ByteArray := prog_14_method_55_code
def yX12_best : MethodName := ⟨RX12, "best", "(I)J"⟩
abbrev cX12_bestTurn : ByteArray := prog_14_method_56_code
def yX12_bestTurn : MethodName := ⟨RX12, "bestTurn", "()I"⟩
abbrev cX12_saw : ByteArray := prog_14_method_57_code
def yX12_saw : MethodName := ⟨RX12, "saw", "()I"⟩
abbrev cX12_stack : ByteArray := prog_14_method_58_code
def yX12_stack : MethodName := ⟨RX12, "stack", "(II)I"⟩
abbrev cX12_order : ByteArray := prog_14_method_59_code
def yX12_order : MethodName := ⟨RX12, "order", "(IIII)I"⟩
abbrev cX12_meets : ByteArray := prog_14_method_60_code
def yX12_meets : MethodName := ⟨RX12, "meets", "(II)Z"⟩
abbrev cX12_gets : ByteArray := prog_14_method_61_code
def yX12_gets : MethodName := ⟨RX12, "gets", "(I)Z"⟩
abbrev cX12_can : ByteArray := prog_14_method_62_code
def yX12_can : MethodName := ⟨RX12, "can", "(I)Z"⟩
abbrev cX12_clears : ByteArray := prog_14_method_63_code
def yX12_clears : MethodName := ⟨RX12, "clears", "()V"⟩
abbrev cX12_metOnes : ByteArray := prog_14_method_64_code
def yX12_metOnes : MethodName := ⟨RX12, "metOnes", "()I"⟩
abbrev cX12_met : ByteArray := prog_14_method_65_code
def yX12_met : MethodName := ⟨RX12, "met", "(I)I"⟩
abbrev cX12_takesOut : ByteArray := prog_14_method_66_code
def yX12_takesOut : MethodName := ⟨RX12, "takesOut", "([III)I"⟩
abbrev cX12_serve : ByteArray := prog_14_method_67_code
def yX12_serve : MethodName := ⟨RX12, "serve", "()I"⟩
abbrev cX12_mayGive : ByteArray := prog_14_method_68_code
def yX12_mayGive : MethodName := ⟨RX12, "mayGive", "(III)Z"⟩
abbrev cX12_keepsFaults : ByteArray := prog_14_method_69_code
def yX12_keepsFaults : MethodName := ⟨RX12, "keepsFaults", "()I"⟩
abbrev cX12_takesBack : ByteArray := prog_14_method_70_code
def yX12_takesBack : MethodName := ⟨RX12, "takesBack", "(I)V"⟩
abbrev cX12_without : ByteArray := prog_14_method_71_code
def yX12_without : MethodName := ⟨RX12, "without", "(I)J"⟩
abbrev cX12_draw : ByteArray := prog_14_method_72_code
def yX12_draw : MethodName := ⟨RX12, "draw", "(I)I"⟩
abbrev cX12_drawnBy : ByteArray := prog_14_method_73_code
def yX12_drawnBy : MethodName := ⟨RX12, "drawnBy", "(II)I"⟩
abbrev cX12_drawn : ByteArray := prog_14_method_74_code
def yX12_drawn : MethodName := ⟨RX12, "drawn", "(II)J"⟩
abbrev cX12_lowest : ByteArray := prog_14_method_75_code
def yX12_lowest : MethodName := ⟨RX12, "lowest", "(III)I"⟩
abbrev cX12_chance : ByteArray := prog_14_method_76_code
def yX12_chance : MethodName := ⟨RX12, "chance", "(IIII)I"⟩
abbrev cX12_isSheet : ByteArray := prog_14_method_77_code
def yX12_isSheet : MethodName := ⟨RX12, "isSheet", "(I)Z"⟩
abbrev cX12_otherwise : ByteArray := prog_14_method_78_code
def yX12_otherwise : MethodName := ⟨RX12, "otherwise", "(II)I"⟩
abbrev cX12_kerfs : ByteArray := prog_14_method_79_code
def yX12_kerfs : MethodName := ⟨RX12, "kerfs", "(I)I"⟩
abbrev cX12_tells : ByteArray := prog_14_method_80_code
def yX12_tells : MethodName := ⟨RX12, "tells", "(II)I"⟩
abbrev cX12_hurtWood : ByteArray := prog_14_method_81_code
def yX12_hurtWood : MethodName := ⟨RX12, "hurtWood", "()I"⟩
abbrev cX12_count : ByteArray := prog_14_method_82_code
def yX12_count : MethodName := ⟨RX12, "count", "(I)I"⟩
abbrev cX12_sheet : ByteArray := prog_14_method_83_code
def yX12_sheet : MethodName := ⟨RX12, "sheet", "(III)I"⟩
abbrev cX12_put : ByteArray := prog_14_method_84_code
def yX12_put : MethodName := ⟨RX12, "put", "(IIJ)I"⟩
abbrev cX12_copy : ByteArray := prog_14_method_85_code
def yX12_copy : MethodName := ⟨RX12, "copy", "(IIIII)I"⟩
def RJx145de : String := "java/io/Serializable"
def TJx145de : u_T := fun k => match k with
  | _ => ("", "", "", false)
def tyJx145de : Nat → FieldType := fun k => match k with
  | _ => .int
abbrev wsJx145de0 : List Cond := u_ws RJx145de TJx145de 0
theorem nmJx145de : ∀ a, a < 0 → ∀ b, b < 0 → a ≠ b → (TJx145de a).2.1 ≠ (TJx145de b).2.1 := by decide +kernel
theorem tyJx145de_ok : ∀ k, k < 0 → parseFieldDescriptor (TJx145de k).2.2.1 = some (tyJx145de k) := by decide +kernel
def RJx9f9b0 : String := "java/lang/CharSequence"
def TJx9f9b0 : u_T := fun k => match k with
  | _ => ("", "", "", false)
def tyJx9f9b0 : Nat → FieldType := fun k => match k with
  | _ => .int
abbrev wsJx9f9b00 : List Cond := u_ws RJx9f9b0 TJx9f9b0 0
theorem nmJx9f9b0 : ∀ a, a < 0 → ∀ b, b < 0 → a ≠ b → (TJx9f9b0 a).2.1 ≠ (TJx9f9b0 b).2.1 := by decide +kernel
theorem tyJx9f9b0_ok : ∀ k, k < 0 → parseFieldDescriptor (TJx9f9b0 k).2.2.1 = some (tyJx9f9b0 k) := by decide +kernel
def RJ11 : String := "java/lang/Character"
def TJ11 : u_T := fun k => match k with
  | _ => ("", "", "", false)
def tyJ11 : Nat → FieldType := fun k => match k with
  | _ => .int
abbrev wsJ110 : List Cond := u_ws RJ11 TJ11 0
theorem nmJ11 : ∀ a, a < 0 → ∀ b, b < 0 → a ≠ b → (TJ11 a).2.1 ≠ (TJ11 b).2.1 := by decide +kernel
theorem tyJ11_ok : ∀ k, k < 0 → parseFieldDescriptor (TJ11 k).2.2.1 = some (tyJ11 k) := by decide +kernel
abbrev cJ11_isValidCodePoint_9a6ad : ByteArray := prog_15_method_11_code
def yJ11_isValidCodePoint_9a6ad : MethodName := ⟨RJ11, "isValidCodePoint", "(I)Z"⟩
abbrev cJ11_highSurrogate_5068e : ByteArray := prog_15_method_28_code
def yJ11_highSurrogate_5068e : MethodName := ⟨RJ11, "highSurrogate", "(I)C"⟩
abbrev cJ11_lowSurrogate_5068e : ByteArray := prog_15_method_29_code
def yJ11_lowSurrogate_5068e : MethodName := ⟨RJ11, "lowSurrogate", "(I)C"⟩
def RJxb160c : String := "java/lang/Comparable"
def TJxb160c : u_T := fun k => match k with
  | _ => ("", "", "", false)
def tyJxb160c : Nat → FieldType := fun k => match k with
  | _ => .int
abbrev wsJxb160c0 : List Cond := u_ws RJxb160c TJxb160c 0
theorem nmJxb160c : ∀ a, a < 0 → ∀ b, b < 0 → a ≠ b → (TJxb160c a).2.1 ≠ (TJxb160c b).2.1 := by decide +kernel
theorem tyJxb160c_ok : ∀ k, k < 0 → parseFieldDescriptor (TJxb160c k).2.2.1 = some (tyJxb160c k) := by decide +kernel
def RJ6 : String := "java/lang/Integer"
def TJ6 : u_T := fun k => match k with
  | _ => ("", "", "", false)
def tyJ6 : Nat → FieldType := fun k => match k with
  | _ => .int
abbrev wsJ60 : List Cond := u_ws RJ6 TJ6 0
theorem nmJ6 : ∀ a, a < 0 → ∀ b, b < 0 → a ≠ b → (TJ6 a).2.1 ≠ (TJ6 b).2.1 := by decide +kernel
theorem tyJ6_ok : ∀ k, k < 0 → parseFieldDescriptor (TJ6 k).2.2.1 = some (tyJ6 k) := by decide +kernel
abbrev cJ6_bitCount_0f7a4 : ByteArray := prog_16_method_49_code
def yJ6_bitCount_0f7a4 : MethodName := ⟨RJ6, "bitCount", "(I)I"⟩
def RJ9 : String := "java/lang/Math"
def TJ9 : u_T := fun k => match k with
  | _ => ("", "", "", false)
def tyJ9 : Nat → FieldType := fun k => match k with
  | _ => .int
abbrev wsJ90 : List Cond := u_ws RJ9 TJ9 0
theorem nmJ9 : ∀ a, a < 0 → ∀ b, b < 0 → a ≠ b → (TJ9 a).2.1 ≠ (TJ9 b).2.1 := by decide +kernel
theorem tyJ9_ok : ∀ k, k < 0 → parseFieldDescriptor (TJ9 k).2.2.1 = some (tyJ9 k) := by decide +kernel
abbrev cJ9_abs_0f7a4 : ByteArray := prog_17_method_59_code
def yJ9_abs_0f7a4 : MethodName := ⟨RJ9, "abs", "(I)I"⟩
abbrev cJ9_max_7cf53 : ByteArray := prog_17_method_65_code
def yJ9_max_7cf53 : MethodName := ⟨RJ9, "max", "(II)I"⟩
abbrev cJ9_min_7cf53 : ByteArray := prog_17_method_69_code
def yJ9_min_7cf53 : MethodName := ⟨RJ9, "min", "(II)I"⟩
def RJ0 : String := "java/lang/String"
def TJ0 : u_T := fun k => match k with
  | _ => ("", "", "", false)
def tyJ0 : Nat → FieldType := fun k => match k with
  | _ => .int
abbrev wsJ00 : List Cond := u_ws RJ0 TJ0 0
theorem nmJ0 : ∀ a, a < 0 → ∀ b, b < 0 → a ≠ b → (TJ0 a).2.1 ≠ (TJ0 b).2.1 := by decide +kernel
theorem tyJ0_ok : ∀ k, k < 0 → parseFieldDescriptor (TJ0 k).2.2.1 = some (tyJ0 k) := by decide +kernel
abbrev cJ0_length_8abf5 : ByteArray := prog_18_method_54_code
def yJ0_length_8abf5 : MethodName := ⟨RJ0, "length", "()I"⟩
abbrev cJ0_indexOf_0f7a4 : ByteArray := prog_18_method_79_code
def yJ0_indexOf_0f7a4 : MethodName := ⟨RJ0, "indexOf", "(I)I"⟩
abbrev cJ0_indexOf_7cf53 : ByteArray := prog_18_method_80_code
def yJ0_indexOf_7cf53 : MethodName := ⟨RJ0, "indexOf", "(II)I"⟩
abbrev cJ0_coder_7d493 : ByteArray := prog_18_method_152_code
def yJ0_coder_7d493 : MethodName := ⟨RJ0, "coder", "()B"⟩
abbrev cJ0_isLatin1_aae02 : ByteArray := prog_18_method_154_code
def yJ0_isLatin1_aae02 : MethodName := ⟨RJ0, "isLatin1", "()Z"⟩
abbrev cJ0_checkBoundsBeginEnd_23922 : ByteArray := prog_18_method_158_code
def yJ0_checkBoundsBeginEnd_23922 : MethodName := ⟨RJ0, "checkBoundsBeginEnd", "(III)V"⟩
def RJ1 : String := "java/lang/StringLatin1"
def TJ1 : u_T := fun k => match k with
  | _ => ("", "", "", false)
def tyJ1 : Nat → FieldType := fun k => match k with
  | _ => .int
abbrev wsJ10 : List Cond := u_ws RJ1 TJ1 0
theorem nmJ1 : ∀ a, a < 0 → ∀ b, b < 0 → a ≠ b → (TJ1 a).2.1 ≠ (TJ1 b).2.1 := by decide +kernel
theorem tyJ1_ok : ∀ k, k < 0 → parseFieldDescriptor (TJ1 k).2.2.1 = some (tyJ1 k) := by decide +kernel
abbrev cJ1_canEncode_9a6ad : ByteArray := prog_19_method_4_code
def yJ1_canEncode_9a6ad : MethodName := ⟨RJ1, "canEncode", "(I)Z"⟩
abbrev cJ1_indexOf_4cfef : ByteArray := prog_19_method_22_code
def yJ1_indexOf_4cfef : MethodName := ⟨RJ1, "indexOf", "([BIII)I"⟩
abbrev cJ1_indexOfChar_4cfef : ByteArray := prog_19_method_23_code
def yJ1_indexOfChar_4cfef : MethodName := ⟨RJ1, "indexOfChar", "([BIII)I"⟩
def RJ2 : String := "java/lang/StringUTF16"
def TJ2 : u_T := fun k => match k with
  | _ => ("", "", "", false)
def tyJ2 : Nat → FieldType := fun k => match k with
  | _ => .int
abbrev wsJ20 : List Cond := u_ws RJ2 TJ2 0
theorem nmJ2 : ∀ a, a < 0 → ∀ b, b < 0 → a ≠ b → (TJ2 a).2.1 ≠ (TJ2 b).2.1 := by decide +kernel
theorem tyJ2_ok : ∀ k, k < 0 → parseFieldDescriptor (TJ2 k).2.2.1 = some (tyJ2 k) := by decide +kernel
abbrev cJ2_getChar_3b067 : ByteArray := prog_20_method_5_code
def yJ2_getChar_3b067 : MethodName := ⟨RJ2, "getChar", "([BI)C"⟩
abbrev cJ2_length_9d52b : ByteArray := prog_20_method_6_code
def yJ2_length_9d52b : MethodName := ⟨RJ2, "length", "([B)I"⟩
abbrev cJ2_indexOf_4cfef : ByteArray := prog_20_method_40_code
def yJ2_indexOf_4cfef : MethodName := ⟨RJ2, "indexOf", "([BIII)I"⟩
abbrev cJ2_indexOfChar_4cfef : ByteArray := prog_20_method_47_code
def yJ2_indexOfChar_4cfef : MethodName := ⟨RJ2, "indexOfChar", "([BIII)I"⟩
abbrev cJ2_indexOfCharUnsafe_4cfef : ByteArray := prog_20_method_48_code
def yJ2_indexOfCharUnsafe_4cfef : MethodName := ⟨RJ2, "indexOfCharUnsafe", "([BIII)I"⟩
abbrev cJ2_indexOfSupplementary_4cfef : ByteArray := prog_20_method_49_code
def yJ2_indexOfSupplementary_4cfef : MethodName := ⟨RJ2, "indexOfSupplementary", "([BIII)I"⟩
abbrev cJ2_checkBoundsBeginEnd_d044e : ByteArray := prog_20_method_93_code
def yJ2_checkBoundsBeginEnd_d044e : MethodName := ⟨RJ2, "checkBoundsBeginEnd", "(II[B)V"⟩
def RJ10 : String := "java/lang/System"
def TJ10 : u_T := fun k => match k with
  | _ => ("", "", "", false)
def tyJ10 : Nat → FieldType := fun k => match k with
  | _ => .int
abbrev wsJ100 : List Cond := u_ws RJ10 TJ10 0
theorem nmJ10 : ∀ a, a < 0 → ∀ b, b < 0 → a ≠ b → (TJ10 a).2.1 ≠ (TJ10 b).2.1 := by decide +kernel
theorem tyJ10_ok : ∀ k, k < 0 → parseFieldDescriptor (TJ10 k).2.2.1 = some (tyJ10 k) := by decide +kernel
def RJxfd54e : String := "java/lang/constant/Constable"
def TJxfd54e : u_T := fun k => match k with
  | _ => ("", "", "", false)
def tyJxfd54e : Nat → FieldType := fun k => match k with
  | _ => .int
abbrev wsJxfd54e0 : List Cond := u_ws RJxfd54e TJxfd54e 0
theorem nmJxfd54e : ∀ a, a < 0 → ∀ b, b < 0 → a ≠ b → (TJxfd54e a).2.1 ≠ (TJxfd54e b).2.1 := by decide +kernel
theorem tyJxfd54e_ok : ∀ k, k < 0 → parseFieldDescriptor (TJxfd54e k).2.2.1 = some (tyJxfd54e k) := by decide +kernel
def RJx3cf43 : String := "java/lang/constant/ConstantDesc"
def TJx3cf43 : u_T := fun k => match k with
  | _ => ("", "", "", false)
def tyJx3cf43 : Nat → FieldType := fun k => match k with
  | _ => .int
abbrev wsJx3cf430 : List Cond := u_ws RJx3cf43 TJx3cf43 0
theorem nmJx3cf43 : ∀ a, a < 0 → ∀ b, b < 0 → a ≠ b → (TJx3cf43 a).2.1 ≠ (TJx3cf43 b).2.1 := by decide +kernel
theorem tyJx3cf43_ok : ∀ k, k < 0 → parseFieldDescriptor (TJx3cf43 k).2.2.1 = some (tyJx3cf43 k) := by decide +kernel
def RJ7 : String := "java/util/Arrays"
def TJ7 : u_T := fun k => match k with
  | _ => ("", "", "", false)
def tyJ7 : Nat → FieldType := fun k => match k with
  | _ => .int
abbrev wsJ70 : List Cond := u_ws RJ7 TJ7 0
theorem nmJ7 : ∀ a, a < 0 → ∀ b, b < 0 → a ≠ b → (TJ7 a).2.1 ≠ (TJ7 b).2.1 := by decide +kernel
theorem tyJ7_ok : ∀ k, k < 0 → parseFieldDescriptor (TJ7 k).2.2.1 = some (tyJ7 k) := by decide +kernel
abbrev cJ7_fill_53178 : ByteArray := prog_22_method_103_code
def yJ7_fill_53178 : MethodName := ⟨RJ7, "fill", "([II)V"⟩
def RJ3 : String := "jdk/internal/util/Preconditions"
def TJ3 : u_T := fun k => match k with
  | _ => ("", "", "", false)
def tyJ3 : Nat → FieldType := fun k => match k with
  | _ => .int
abbrev wsJ30 : List Cond := u_ws RJ3 TJ3 0
theorem nmJ3 : ∀ a, a < 0 → ∀ b, b < 0 → a ≠ b → (TJ3 a).2.1 ≠ (TJ3 b).2.1 := by decide +kernel
theorem tyJ3_ok : ∀ k, k < 0 → parseFieldDescriptor (TJ3 k).2.2.1 = some (tyJ3 k) := by decide +kernel
abbrev cJ3_checkFromToIndex_8c36e : ByteArray := prog_23_method_12_code
def yJ3_checkFromToIndex_8c36e : MethodName := ⟨RJ3, "checkFromToIndex", "(IIILjava/util/function/BiFunction;)I"⟩
def RL : String := "LogSawyerLaw"
abbrev cL_law : ByteArray := code
def yL_law : MethodName := ⟨RL, "law", "([I)Z"⟩
abbrev vwCl : List vw_C := [(RX1, TX1, 3), (RX2, TX2, 3), (RX3, TX3, 9), (RX4, TX4, 3), (RX5, TX5, 3), (RX6, TX6, 16), (RX7, TX7, 3), (RX8, TX8, 3), (RX9, TX9, 3), (RX10, TX10, 11), (RX11, TX11, 13), (RX12, TX12, 42)]
def bw_0 : List Cond := [Cond.classLink RL 7 RX11, Cond.instantiable RX11 13, Cond.initialized RX11, Cond.classLink RL 10 RX12, Cond.instantiable RX12 42, Cond.initialized RX12, Cond.constantLong RL 138 (4294967295), Cond.methodLink RL 9 yX11_init, Cond.instanceMethod yX11_init, Cond.code yX11_init cX11_init 1 none, Cond.methodLink RX11 3 objectInit, Cond.instanceMethod objectInit, Cond.code objectInit ⟨#[0xb1]⟩ 1 none, Cond.classLink RX11 9 RX10, Cond.instantiable RX10 11, Cond.initialized RX10, Cond.fieldLink RX11 12 "LogSawyer" "yard" "LLogSawyer$Yard;", Cond.fieldLink RX11 16 "LogSawyer" "kept" "LLogSawyer$Yard;", Cond.fieldLink RX11 19 "LogSawyer" "hasImage" "Z", Cond.classLink RX11 23 RX6, Cond.instantiable RX6 16, Cond.initialized RX6, Cond.fieldLink RX11 26 "LogSawyer" "lies" "LLogSawyer$Saw;", Cond.fieldLink RX11 30 "LogSawyer" "thought" "LLogSawyer$Saw;"]
def bw_1 : List Cond := [Cond.classLink RX11 33 RX0, Cond.fieldLink RX11 35 "LogSawyer" "thoughtFaults" "[LLogSawyer$Fault;", Cond.arrayClass .int, Cond.fieldLink RX11 39 "LogSawyer" "tape" "[I", Cond.fieldLink RX11 43 "LogSawyer" "tapeSize" "I", Cond.fieldLink RX11 47 "LogSawyer" "sheetSort" "[I", Cond.fieldLink RX11 50 "LogSawyer" "sheetSize" "[I", Cond.arrayClass .long, Cond.fieldLink RX11 53 "LogSawyer" "sheetItems" "[J", Cond.fieldLink RX11 57 "LogSawyer" "meeting" "[I", Cond.fieldLink RX11 60 "LogSawyer" "turnWorths" "[I", Cond.methodLink RX11 11 yX10_init, Cond.instanceMethod yX10_init, Cond.code yX10_init cX10_init 1 none, Cond.methodLink RX10 3 objectInit, Cond.fieldLink RX10 9 "LogSawyer$Yard" "radius" "I", Cond.fieldLink RX10 15 "LogSawyer$Yard" "taper" "I", Cond.fieldLink RX10 18 "LogSawyer$Yard" "length" "I", Cond.fieldLink RX10 21 "LogSawyer$Yard" "turn" "I", Cond.classLink RX10 24 RX0, Cond.fieldLink RX10 26 "LogSawyer$Yard" "faults" "[LLogSawyer$Fault;", Cond.fieldLink RX10 30 "LogSawyer$Yard" "faultCount" "I", Cond.fieldLink RX10 33 "LogSawyer$Yard" "rules" "[I", Cond.fieldLink RX10 37 "LogSawyer$Yard" "boards" "[I"]
def bw_2 : List Cond := [Cond.fieldLink RX10 40 "LogSawyer$Yard" "boardCount" "I", Cond.fieldLink RX10 43 "LogSawyer$Yard" "orders" "[I", Cond.fieldLink RX10 46 "LogSawyer$Yard" "orderCount" "I", Cond.methodLink RX10 52 arraycopyName, Cond.native arraycopyName, Cond.static arraycopyName, Cond.initialized "java/lang/System", Cond.instanceMethod yX6_init, Cond.code yX6_init cX6_init 1 none, Cond.methodLink RX6 5 objectInit, Cond.fieldLink RX6 11 "LogSawyer$Saw" "laid" "Z", Cond.fieldLink RX6 15 "LogSawyer$Saw" "opened" "Z", Cond.fieldLink RX6 18 "LogSawyer$Saw" "boardCount" "I", Cond.fieldLink RX6 22 "LogSawyer$Saw" "length" "I", Cond.fieldLink RX6 25 "LogSawyer$Saw" "topPrice" "I", Cond.fieldLink RX6 28 "LogSawyer$Saw" "rules" "[I", Cond.fieldLink RX6 32 "LogSawyer$Saw" "firstWood" "[I", Cond.fieldLink RX6 35 "LogSawyer$Saw" "hurt" "[I", Cond.fieldLink RX6 38 "LogSawyer$Saw" "hurtSums" "[I", Cond.fieldLink RX6 41 "LogSawyer$Saw" "worstSums" "[I", Cond.fieldLink RX6 44 "LogSawyer$Saw" "firstColumn" "[I", Cond.classLink RX6 47 RX3, Cond.instantiable RX3 9, Cond.initialized RX3]
def bw_3 : List Cond := [Cond.fieldLink RX6 50 "LogSawyer$Saw" "found" "LLogSawyer$Piece;", Cond.fieldLink RX6 54 "LogSawyer$Saw" "worthFrom" "[I", Cond.fieldLink RX6 57 "LogSawyer$Saw" "thicknessFrom" "[I", Cond.fieldLink RX6 60 "LogSawyer$Saw" "gradeFrom" "[I", Cond.fieldLink RX6 63 "LogSawyer$Saw" "rows" "[I", Cond.instanceMethod yX3_init, Cond.code yX3_init cX3_init 1 none, Cond.methodLink RX3 1 objectInit, Cond.fieldLink RX3 7 "LogSawyer$Piece" "a" "I", Cond.fieldLink RX3 13 "LogSawyer$Piece" "b" "I", Cond.fieldLink RX3 16 "LogSawyer$Piece" "s" "I", Cond.fieldLink RX3 19 "LogSawyer$Piece" "t" "I", Cond.fieldLink RX3 22 "LogSawyer$Piece" "grade" "I", Cond.fieldLink RX3 25 "LogSawyer$Piece" "upper" "I", Cond.fieldLink RX3 28 "LogSawyer$Piece" "lower" "I", Cond.fieldLink RX3 31 "LogSawyer$Piece" "area" "I", Cond.fieldLink RX3 34 "LogSawyer$Piece" "worth" "I", Cond.methodLink RX11 63 yJ7_fill_53178, Cond.static yJ7_fill_53178, Cond.initialized RJ7, Cond.code yJ7_fill_53178 cJ7_fill_53178 4 none, Cond.methodLink RL 12 yX12_init, Cond.instanceMethod yX12_init, Cond.code yX12_init cX12_init 1 none]
def bw_4 : List Cond := [Cond.methodLink RX12 1 objectInit, Cond.fieldLink RX12 9 "LogSawyerModel" "fault" "[I", Cond.fieldLink RX12 13 "LogSawyerModel" "rules" "[I", Cond.fieldLink RX12 16 "LogSawyerModel" "stack" "[I", Cond.fieldLink RX12 19 "LogSawyerModel" "order" "[I", Cond.fieldLink RX12 22 "LogSawyerModel" "tape" "[I", Cond.fieldLink RX12 25 "LogSawyerModel" "imaged" "[I", Cond.fieldLink RX12 28 "LogSawyerModel" "read" "[I", Cond.fieldLink RX12 31 "LogSawyerModel" "upTo" "[I", Cond.fieldLink RX12 34 "LogSawyerModel" "nines" "[I", Cond.fieldLink RX12 37 "LogSawyerModel" "best" "[I", Cond.fieldLink RX12 40 "LogSawyerModel" "sawn" "[I", Cond.fieldLink RX12 43 "LogSawyerModel" "boardAt" "[I", Cond.fieldLink RX12 46 "LogSawyerModel" "boardGrade" "[I", Cond.fieldLink RX12 49 "LogSawyerModel" "had" "[I", Cond.arrayClass .boolean, Cond.fieldLink RX12 52 "LogSawyerModel" "isTried" "[Z", Cond.fieldLink RX12 56 "LogSawyerModel" "faultWas" "[I", Cond.classLink RX12 59 "[[J", Cond.fieldLink RX12 61 "LogSawyerModel" "sheets" "[[J", Cond.fieldLink RX12 64 "LogSawyerModel" "sheetSort" "[I", Cond.fieldLink RX12 67 "LogSawyerModel" "sheetSize" "[I", Cond.fieldLink RX12 70 "LogSawyerModel" "copied" "[J", Cond.methodLink RL 13 yX11_log]
def bw_5 : List Cond := [Cond.instanceMethod yX11_log, Cond.selects RX11 yX11_log yX11_log, Cond.code yX11_log cX11_log 4 (some .int), Cond.fieldLink RX11 77 "LogSawyer$Saw" "laid" "Z", Cond.methodLink RX11 69 yX11_within, Cond.static yX11_within, Cond.code yX11_within cX11_within 3 (some .boolean), Cond.methodLink RX11 73 yX10_lay, Cond.instanceMethod yX10_lay, Cond.selects RX10 yX10_lay yX10_lay, Cond.code yX10_lay cX10_lay 5 none, Cond.methodLink RX11 80 yX11_woodOfLog, Cond.instanceMethod yX11_woodOfLog, Cond.selects RX11 yX11_woodOfLog yX11_woodOfLog, Cond.code yX11_woodOfLog cX11_woodOfLog 4 (some .int), Cond.fieldLink RX11 84 "LogSawyer$Yard" "length" "I", Cond.methodLink RX11 87 yX10_isWood, Cond.instanceMethod yX10_isWood, Cond.selects RX10 yX10_isWood yX10_isWood, Cond.code yX10_isWood cX10_isWood 7 (some .boolean), Cond.methodLink RX10 62 Lib.Math.max.name, Cond.static Lib.Math.max.name, Cond.initialized "java/lang/Math", Cond.code Lib.Math.max.name Lib.Math.max.code 2 (some .int)]
def bw_6 : List Cond := [Cond.static yX11_fromMiddle, Cond.code yX11_fromMiddle cX11_fromMiddle 1 (some .int), Cond.methodLink RL 17 yX12_log, Cond.instanceMethod yX12_log, Cond.selects RX12 yX12_log yX12_log, Cond.code yX12_log cX12_log 4 (some .int), Cond.constantLong RX12 131 (2), Cond.constantLong RX12 133 (6), Cond.constantLong RX12 139 (4), Cond.constantLong RX12 141 (8), Cond.fieldLink RX12 86 "LogSawyerModel" "radius" "I", Cond.fieldLink RX12 89 "LogSawyerModel" "taper" "I", Cond.fieldLink RX12 92 "LogSawyerModel" "length" "I", Cond.fieldLink RX12 95 "LogSawyerModel" "turn" "I", Cond.fieldLink RX12 98 "LogSawyerModel" "faults" "I", Cond.methodLink RX12 135 yX12_in, Cond.static yX12_in, Cond.code yX12_in cX12_in 6 (some .boolean), Cond.methodLink RX12 143 yX12_wood, Cond.instanceMethod yX12_wood, Cond.selects RX12 yX12_wood yX12_wood, Cond.code yX12_wood cX12_wood 3 (some .int), Cond.methodLink RX12 127 yX12_isWood, Cond.instanceMethod yX12_isWood]
def bw_7 : List Cond := [Cond.selects RX12 yX12_isWood yX12_isWood, Cond.code yX12_isWood cX12_isWood 7 (some .boolean), Cond.methodLink RX12 124 yX12_thick, Cond.instanceMethod yX12_thick, Cond.selects RX12 yX12_thick yX12_thick, Cond.code yX12_thick cX12_thick 2 (some .int), Cond.methodLink RX12 118 Lib.Math.max.name, Cond.methodLink RL 18 yX11_feed, Cond.instanceMethod yX11_feed, Cond.selects RX11 yX11_feed yX11_feed, Cond.code yX11_feed cX11_feed 7 (some .int), Cond.methodLink RX11 90 yX11_isByte, Cond.static yX11_isByte, Cond.code yX11_isByte cX11_isByte 1 (some .boolean), Cond.methodLink RX11 94 yX11_feedOne, Cond.instanceMethod yX11_feedOne, Cond.selects RX11 yX11_feedOne yX11_feedOne, Cond.code yX11_feedOne cX11_feedOne 3 none, Cond.methodLink RL 22 yX12_feed, Cond.instanceMethod yX12_feed, Cond.selects RX12 yX12_feed yX12_feed, Cond.code yX12_feed cX12_feed 8 (some .int), Cond.constantLong RX12 147 (5), Cond.constantLong RX12 149 (255)]
def bw_8 : List Cond := [Cond.fieldLink RX12 151 "LogSawyerModel" "taped" "I", Cond.methodLink RL 23 yX11_text, Cond.instanceMethod yX11_text, Cond.selects RX11 yX11_text yX11_text, Cond.code yX11_text cX11_text 3 (some .int), Cond.fieldLink RX11 106 "LogSawyer$Yard" "faultCount" "I", Cond.methodLink RX11 98 yX10_hasLog, Cond.instanceMethod yX10_hasLog, Cond.selects RX10 yX10_hasLog yX10_hasLog, Cond.code yX10_hasLog cX10_hasLog 1 (some .boolean), Cond.methodLink RX11 102 yX11_wrongPlace, Cond.instanceMethod yX11_wrongPlace, Cond.selects RX11 yX11_wrongPlace yX11_wrongPlace, Cond.code yX11_wrongPlace cX11_wrongPlace 5 (some .int), Cond.methodLink RX11 116 yX11_isBlank, Cond.static yX11_isBlank, Cond.code yX11_isBlank cX11_isBlank 1 (some .boolean), Cond.methodLink RX11 119 yX11_canBePart, Cond.static yX11_canBePart, Cond.code yX11_canBePart cX11_canBePart 2 (some .boolean), Cond.methodLink RX11 123 yX11_kindOf, Cond.static yX11_kindOf, Cond.code yX11_kindOf cX11_kindOf 1 (some .int), Cond.methodLink RX11 128 yJ0_indexOf_0f7a4]
def bw_9 : List Cond := [Cond.instanceMethod yJ0_indexOf_0f7a4, Cond.selects RJ0 yJ0_indexOf_0f7a4 yJ0_indexOf_0f7a4, Cond.initialized RJ0, Cond.code yJ0_indexOf_0f7a4 cJ0_indexOf_0f7a4 2 (some .int), Cond.methodLink RJ0 633 yJ0_indexOf_7cf53, Cond.instanceMethod yJ0_indexOf_7cf53, Cond.selects RJ0 yJ0_indexOf_7cf53 yJ0_indexOf_7cf53, Cond.code yJ0_indexOf_7cf53 cJ0_indexOf_7cf53 3 (some .int), Cond.fieldLink RJ0 9 "java/lang/String" "value" "[B", Cond.methodLink RJ0 492 yJ0_isLatin1_aae02, Cond.instanceMethod yJ0_isLatin1_aae02, Cond.selects RJ0 yJ0_isLatin1_aae02 yJ0_isLatin1_aae02, Cond.code yJ0_isLatin1_aae02 cJ0_isLatin1_aae02 1 (some .boolean), Cond.fieldLink RJ0 38 "java/lang/String" "COMPACT_STRINGS" "Z", Cond.fieldLink RJ0 15 "java/lang/String" "coder" "B", Cond.methodLink RJ0 505 yJ0_length_8abf5, Cond.instanceMethod yJ0_length_8abf5, Cond.selects RJ0 yJ0_length_8abf5 yJ0_length_8abf5, Cond.code yJ0_length_8abf5 cJ0_length_8abf5 1 (some .int), Cond.methodLink RJ0 335 yJ0_coder_7d493, Cond.instanceMethod yJ0_coder_7d493, Cond.selects RJ0 yJ0_coder_7d493 yJ0_coder_7d493, Cond.code yJ0_coder_7d493 cJ0_coder_7d493 1 (some .byte), Cond.methodLink RJ0 637 yJ1_indexOf_4cfef]
def bw_10 : List Cond := [Cond.static yJ1_indexOf_4cfef, Cond.initialized RJ1, Cond.code yJ1_indexOf_4cfef cJ1_indexOf_4cfef 4 (some .int), Cond.methodLink RJ1 92 Lib.Math.max.name, Cond.methodLink RJ1 38 Lib.Math.min.name, Cond.static Lib.Math.min.name, Cond.code Lib.Math.min.name Lib.Math.min.code 2 (some .int), Cond.methodLink RJ1 88 yJ1_canEncode_9a6ad, Cond.static yJ1_canEncode_9a6ad, Cond.code yJ1_canEncode_9a6ad cJ1_canEncode_9a6ad 1 (some .boolean), Cond.methodLink RJ1 95 yJ1_indexOfChar_4cfef, Cond.static yJ1_indexOfChar_4cfef, Cond.code yJ1_indexOfChar_4cfef cJ1_indexOfChar_4cfef 6 (some .int), Cond.methodLink RJ0 640 yJ2_indexOf_4cfef, Cond.static yJ2_indexOf_4cfef, Cond.initialized RJ2, Cond.code yJ2_indexOf_4cfef cJ2_indexOf_4cfef 4 (some .int), Cond.methodLink RJ2 224 Lib.Math.max.name, Cond.methodLink RJ2 183 Lib.Math.min.name, Cond.constant RJ2 227 (65536), Cond.methodLink RJ2 228 yJ2_indexOfChar_4cfef, Cond.static yJ2_indexOfChar_4cfef, Cond.code yJ2_indexOfChar_4cfef cJ2_indexOfChar_4cfef 4 (some .int), Cond.methodLink RJ2 96 yJ2_checkBoundsBeginEnd_d044e]
def bw_11 : List Cond := [Cond.static yJ2_checkBoundsBeginEnd_d044e, Cond.code yJ2_checkBoundsBeginEnd_d044e cJ2_checkBoundsBeginEnd_d044e 3 none, Cond.methodLink RJ2 48 yJ2_length_9d52b, Cond.static yJ2_length_9d52b, Cond.code yJ2_length_9d52b cJ2_length_9d52b 1 (some .int), Cond.methodLink RJ2 241 yJ0_checkBoundsBeginEnd_23922, Cond.static yJ0_checkBoundsBeginEnd_23922, Cond.code yJ0_checkBoundsBeginEnd_23922 cJ0_checkBoundsBeginEnd_23922 3 none, Cond.fieldLink RJ0 1053 "jdk/internal/util/Preconditions" "SIOOBE_FORMATTER" "Ljava/util/function/BiFunction;", Cond.methodLink RJ0 1062 yJ3_checkFromToIndex_8c36e, Cond.static yJ3_checkFromToIndex_8c36e, Cond.initialized RJ3, Cond.code yJ3_checkFromToIndex_8c36e cJ3_checkFromToIndex_8c36e 4 (some .int), Cond.methodLink RJ2 244 yJ2_indexOfCharUnsafe_4cfef, Cond.static yJ2_indexOfCharUnsafe_4cfef, Cond.code yJ2_indexOfCharUnsafe_4cfef cJ2_indexOfCharUnsafe_4cfef 5 (some .int), Cond.methodLink RJ2 71 yJ2_getChar_3b067, Cond.static yJ2_getChar_3b067, Cond.code yJ2_getChar_3b067 cJ2_getChar_3b067 2 (some .char), Cond.fieldLink RJ2 44 "java/lang/StringUTF16" "$assertionsDisabled" "Z", Cond.fieldLink RJ2 59 "java/lang/StringUTF16" "HI_BYTE_SHIFT" "I", Cond.fieldLink RJ2 63 "java/lang/StringUTF16" "LO_BYTE_SHIFT" "I", Cond.methodLink RJ2 232 yJ2_indexOfSupplementary_4cfef, Cond.static yJ2_indexOfSupplementary_4cfef]
def bw_12 : List Cond := [Cond.code yJ2_indexOfSupplementary_4cfef cJ2_indexOfSupplementary_4cfef 7 (some .int), Cond.methodLink RJ2 164 yJ11_isValidCodePoint_9a6ad, Cond.static yJ11_isValidCodePoint_9a6ad, Cond.initialized RJ11, Cond.code yJ11_isValidCodePoint_9a6ad cJ11_isValidCodePoint_9a6ad 2 (some .boolean), Cond.methodLink RJ2 157 yJ11_highSurrogate_5068e, Cond.static yJ11_highSurrogate_5068e, Cond.code yJ11_highSurrogate_5068e cJ11_highSurrogate_5068e 1 (some .char), Cond.constant RJ11 110 (55232), Cond.methodLink RJ2 161 yJ11_lowSurrogate_5068e, Cond.static yJ11_lowSurrogate_5068e, Cond.code yJ11_lowSurrogate_5068e cJ11_lowSurrogate_5068e 1 (some .char), Cond.constant RJ11 76 (56320), Cond.methodLink RX11 109 yX11_itemsOf, Cond.instanceMethod yX11_itemsOf, Cond.selects RX11 yX11_itemsOf yX11_itemsOf, Cond.code yX11_itemsOf cX11_itemsOf 4 (some .int), Cond.methodLink RX11 112 yX11_readItems, Cond.instanceMethod yX11_readItems, Cond.selects RX11 yX11_readItems yX11_readItems, Cond.code yX11_readItems cX11_readItems 4 none, Cond.methodLink RX11 133 yX11_newFault, Cond.static yX11_newFault, Cond.code yX11_newFault cX11_newFault 4 (some (.object "LogSawyer$Fault"))]
def bw_13 : List Cond := [Cond.classLink RX11 141 RX1, Cond.instantiable RX1 3, Cond.initialized RX1, Cond.classLink RX11 145 RX2, Cond.instantiable RX2 3, Cond.initialized RX2, Cond.classLink RX11 148 RX8, Cond.instantiable RX8 3, Cond.initialized RX8, Cond.classLink RX11 151 RX7, Cond.instantiable RX7 3, Cond.initialized RX7, Cond.classLink RX11 154 RX4, Cond.instantiable RX4 3, Cond.initialized RX4, Cond.classLink RX11 157 RX5, Cond.instantiable RX5 3, Cond.initialized RX5, Cond.classLink RX11 160 RX9, Cond.instantiable RX9 3, Cond.initialized RX9, Cond.methodLink RX11 143 yX1_init, Cond.instanceMethod yX1_init, Cond.code yX1_init cX1_init 4 none]
def bw_14 : List Cond := [Cond.methodLink RX1 1 yX0_init, Cond.instanceMethod yX0_init, Cond.initialized RX0, Cond.code yX0_init cX0_init 4 none, Cond.methodLink RX0 3 objectInit, Cond.fieldLink RX0 9 "LogSawyer$Fault" "angle" "I", Cond.fieldLink RX0 15 "LogSawyer$Fault" "slice" "I", Cond.fieldLink RX0 18 "LogSawyer$Fault" "size" "I", Cond.methodLink RX11 147 yX2_init, Cond.instanceMethod yX2_init, Cond.code yX2_init cX2_init 4 none, Cond.methodLink RX2 1 yX1_init, Cond.methodLink RX11 150 yX8_init, Cond.instanceMethod yX8_init, Cond.code yX8_init cX8_init 4 none, Cond.methodLink RX8 1 yX2_init, Cond.methodLink RX11 153 yX7_init, Cond.instanceMethod yX7_init, Cond.code yX7_init cX7_init 4 none, Cond.methodLink RX7 1 yX0_init, Cond.methodLink RX11 156 yX4_init, Cond.instanceMethod yX4_init, Cond.code yX4_init cX4_init 4 none, Cond.methodLink RX4 1 yX7_init]
def bw_15 : List Cond := [Cond.methodLink RX11 159 yX5_init, Cond.instanceMethod yX5_init, Cond.code yX5_init cX5_init 4 none, Cond.methodLink RX5 3 yX0_init, Cond.methodLink RX11 162 yX9_init, Cond.instanceMethod yX9_init, Cond.code yX9_init cX9_init 4 none, Cond.methodLink RX9 1 yX5_init, Cond.methodLink RX11 137 yX10_addFault, Cond.instanceMethod yX10_addFault, Cond.selects RX10 yX10_addFault yX10_addFault, Cond.code yX10_addFault cX10_addFault 2 none, Cond.methodLink RL 27 yX12_text, Cond.instanceMethod yX12_text, Cond.selects RX12 yX12_text yX12_text, Cond.code yX12_text cX12_text 3 (some .int), Cond.fieldLink RX12 160 "LogSawyerModel" "isFaulty" "Z", Cond.fieldLink RX12 154 "LogSawyerModel" "at" "I", Cond.methodLink RX12 172 yX12_reads, Cond.instanceMethod yX12_reads, Cond.selects RX12 yX12_reads yX12_reads, Cond.code yX12_reads cX12_reads 3 (some .int), Cond.methodLink RX12 163 yX12_skips, Cond.instanceMethod yX12_skips]
def bw_16 : List Cond := [Cond.selects RX12 yX12_skips yX12_skips, Cond.code yX12_skips cX12_skips 1 none, Cond.methodLink RX12 157 yX12_here, Cond.instanceMethod yX12_here, Cond.selects RX12 yX12_here yX12_here, Cond.code yX12_here cX12_here 1 (some .int), Cond.methodLink RX12 166 yX12_kindOf, Cond.static yX12_kindOf, Cond.code yX12_kindOf cX12_kindOf 1 (some .int), Cond.methodLink RX12 169 yX12_digit, Cond.instanceMethod yX12_digit, Cond.selects RX12 yX12_digit yX12_digit, Cond.code yX12_digit cX12_digit 4 (some .int), Cond.methodLink RL 28 yX11_fault, Cond.instanceMethod yX11_fault, Cond.selects RX11 yX11_fault yX11_fault, Cond.code yX11_fault cX11_fault 5 (some .int), Cond.methodLink RL 32 yX12_fault, Cond.instanceMethod yX12_fault, Cond.selects RX12 yX12_fault yX12_fault, Cond.code yX12_fault cX12_fault 5 (some .int), Cond.constantLong RX12 175 (7), Cond.methodLink RX12 177 yX12_adds, Cond.instanceMethod yX12_adds]
def bw_17 : List Cond := [Cond.selects RX12 yX12_adds yX12_adds, Cond.code yX12_adds cX12_adds 5 none, Cond.methodLink RL 33 yX11_heal, Cond.instanceMethod yX11_heal, Cond.selects RX11 yX11_heal yX11_heal, Cond.code yX11_heal cX11_heal 2 (some .int), Cond.methodLink RX11 163 yX10_faultOf, Cond.instanceMethod yX10_faultOf, Cond.selects RX10 yX10_faultOf yX10_faultOf, Cond.code yX10_faultOf cX10_faultOf 2 (some (.object "LogSawyer$Fault")), Cond.methodLink RX11 167 yX10_dropFault, Cond.instanceMethod yX10_dropFault, Cond.selects RX10 yX10_dropFault yX10_dropFault, Cond.code yX10_dropFault cX10_dropFault 3 none, Cond.methodLink RL 37 yX12_heal, Cond.instanceMethod yX12_heal, Cond.selects RX12 yX12_heal yX12_heal, Cond.code yX12_heal cX12_heal 2 (some .int), Cond.methodLink RX12 181 yX12_goes, Cond.instanceMethod yX12_goes, Cond.selects RX12 yX12_goes yX12_goes, Cond.code yX12_goes cX12_goes 3 none, Cond.methodLink RL 38 yX11_told, Cond.instanceMethod yX11_told]
def bw_18 : List Cond := [Cond.selects RX11 yX11_told yX11_told, Cond.code yX11_told cX11_told 4 (some .int), Cond.fieldLink RX11 173 "LogSawyer$Fault" "angle" "I", Cond.fieldLink RX11 176 "LogSawyer$Fault" "slice" "I", Cond.fieldLink RX11 179 "LogSawyer$Fault" "size" "I", Cond.methodLink RX11 170 ⟨"LogSawyer$Fault", "kind", "()I"⟩, Cond.sameMethod "LogSawyer$Fault" "LogSawyer$Fault" "kind" "()I", Cond.selects RX1 ⟨"LogSawyer$Fault", "kind", "()I"⟩ yX1_kind, Cond.instanceMethod yX1_kind, Cond.code yX1_kind cX1_kind 1 (some .int), Cond.selects RX2 ⟨"LogSawyer$Fault", "kind", "()I"⟩ yX2_kind, Cond.instanceMethod yX2_kind, Cond.code yX2_kind cX2_kind 1 (some .int), Cond.selects RX4 ⟨"LogSawyer$Fault", "kind", "()I"⟩ yX4_kind, Cond.instanceMethod yX4_kind, Cond.code yX4_kind cX4_kind 1 (some .int), Cond.selects RX5 ⟨"LogSawyer$Fault", "kind", "()I"⟩ yX5_kind, Cond.instanceMethod yX5_kind, Cond.code yX5_kind cX5_kind 1 (some .int), Cond.selects RX7 ⟨"LogSawyer$Fault", "kind", "()I"⟩ yX7_kind, Cond.instanceMethod yX7_kind, Cond.code yX7_kind cX7_kind 1 (some .int), Cond.selects RX8 ⟨"LogSawyer$Fault", "kind", "()I"⟩ yX8_kind, Cond.instanceMethod yX8_kind]
def bw_19 : List Cond := [Cond.code yX8_kind cX8_kind 1 (some .int), Cond.selects RX9 ⟨"LogSawyer$Fault", "kind", "()I"⟩ yX9_kind, Cond.instanceMethod yX9_kind, Cond.code yX9_kind cX9_kind 1 (some .int), Cond.methodLink RX11 182 yX10_woodIn, Cond.instanceMethod yX10_woodIn, Cond.selects RX10 yX10_woodIn yX10_woodIn, Cond.code yX10_woodIn cX10_woodIn 8 (some .int), Cond.fieldLink RX10 72 "LogSawyer$Fault" "slice" "I", Cond.methodLink RX10 75 ⟨"LogSawyer$Fault", "slicesOf", "(I)I"⟩, Cond.sameMethod "LogSawyer$Fault" "LogSawyer$Fault" "slicesOf" "(I)I", Cond.selects RX1 ⟨"LogSawyer$Fault", "slicesOf", "(I)I"⟩ yX0_slicesOf, Cond.instanceMethod yX0_slicesOf, Cond.code yX0_slicesOf cX0_slicesOf 2 (some .int), Cond.methodLink RX0 37 Lib.Math.min.name, Cond.methodLink RX0 41 Lib.Math.max.name, Cond.methodLink RX0 34 ⟨"LogSawyer$Fault", "lasts", "(I)I"⟩, Cond.sameMethod "LogSawyer$Fault" "LogSawyer$Fault" "lasts" "(I)I", Cond.selects RX1 ⟨"LogSawyer$Fault", "lasts", "(I)I"⟩ yX1_lasts, Cond.instanceMethod yX1_lasts, Cond.code yX1_lasts cX1_lasts 2 (some .int), Cond.fieldLink RX1 7 "LogSawyer$Knot" "size" "I", Cond.sameField "LogSawyer$Knot" "LogSawyer$Fault" "size" "I", Cond.selects RX2 ⟨"LogSawyer$Fault", "lasts", "(I)I"⟩ yX1_lasts]
def bw_20 : List Cond := [Cond.selects RX4 ⟨"LogSawyer$Fault", "lasts", "(I)I"⟩ yX7_lasts, Cond.instanceMethod yX7_lasts, Cond.code yX7_lasts cX7_lasts 2 (some .int), Cond.fieldLink RX7 13 "LogSawyer$Shake" "size" "I", Cond.sameField "LogSawyer$Shake" "LogSawyer$Fault" "size" "I", Cond.selects RX5 ⟨"LogSawyer$Fault", "lasts", "(I)I"⟩ yX5_lasts, Cond.instanceMethod yX5_lasts, Cond.code yX5_lasts cX5_lasts 2 (some .int), Cond.fieldLink RX5 15 "LogSawyer$Rot" "slice" "I", Cond.sameField "LogSawyer$Rot" "LogSawyer$Fault" "slice" "I", Cond.selects RX7 ⟨"LogSawyer$Fault", "lasts", "(I)I"⟩ yX7_lasts, Cond.selects RX8 ⟨"LogSawyer$Fault", "lasts", "(I)I"⟩ yX8_lasts, Cond.instanceMethod yX8_lasts, Cond.code yX8_lasts cX8_lasts 2 (some .int), Cond.selects RX9 ⟨"LogSawyer$Fault", "lasts", "(I)I"⟩ yX5_lasts, Cond.selects RX2 ⟨"LogSawyer$Fault", "slicesOf", "(I)I"⟩ yX0_slicesOf, Cond.selects RX4 ⟨"LogSawyer$Fault", "slicesOf", "(I)I"⟩ yX0_slicesOf, Cond.selects RX5 ⟨"LogSawyer$Fault", "slicesOf", "(I)I"⟩ yX0_slicesOf, Cond.selects RX7 ⟨"LogSawyer$Fault", "slicesOf", "(I)I"⟩ yX0_slicesOf, Cond.selects RX8 ⟨"LogSawyer$Fault", "slicesOf", "(I)I"⟩ yX0_slicesOf, Cond.selects RX9 ⟨"LogSawyer$Fault", "slicesOf", "(I)I"⟩ yX0_slicesOf, Cond.methodLink RX10 78 yX10_isWood, Cond.methodLink RX10 81 ⟨"LogSawyer$Fault", "isIn", "(II)Z"⟩, Cond.sameMethod "LogSawyer$Fault" "LogSawyer$Fault" "isIn" "(II)Z"]
def bw_21 : List Cond := [Cond.selects RX1 ⟨"LogSawyer$Fault", "isIn", "(II)Z"⟩ yX1_isIn, Cond.instanceMethod yX1_isIn, Cond.code yX1_isIn cX1_isIn 3 (some .boolean), Cond.methodLink RX1 13 ⟨"LogSawyer$Knot", "along", "(II)I"⟩, Cond.sameMethod "LogSawyer$Knot" "LogSawyer$Fault" "along" "(II)I", Cond.selects RX1 ⟨"LogSawyer$Knot", "along", "(II)I"⟩ yX0_along, Cond.instanceMethod yX0_along, Cond.code yX0_along cX0_along 3 (some .int), Cond.selects RX2 ⟨"LogSawyer$Knot", "along", "(II)I"⟩ yX0_along, Cond.selects RX8 ⟨"LogSawyer$Knot", "along", "(II)I"⟩ yX0_along, Cond.methodLink RX1 17 ⟨"LogSawyer$Knot", "across", "(II)I"⟩, Cond.sameMethod "LogSawyer$Knot" "LogSawyer$Fault" "across" "(II)I", Cond.selects RX1 ⟨"LogSawyer$Knot", "across", "(II)I"⟩ yX0_across, Cond.instanceMethod yX0_across, Cond.code yX0_across cX0_across 3 (some .int), Cond.methodLink RX0 28 Lib.Math.abs.name, Cond.static Lib.Math.abs.name, Cond.code Lib.Math.abs.name Lib.Math.abs.code 1 (some .int), Cond.selects RX2 ⟨"LogSawyer$Knot", "across", "(II)I"⟩ yX0_across, Cond.selects RX8 ⟨"LogSawyer$Knot", "across", "(II)I"⟩ yX0_across, Cond.methodLink RX1 20 yX1_wide, Cond.instanceMethod yX1_wide, Cond.selects RX1 yX1_wide yX1_wide, Cond.code yX1_wide cX1_wide 1 (some .int)]
def bw_22 : List Cond := [Cond.methodLink RX1 20 ⟨"LogSawyer$Knot", "wide", "()I"⟩, Cond.sameMethod "LogSawyer$Knot" "LogSawyer$Knot" "wide" "()I", Cond.instanceMethod ⟨"LogSawyer$Knot", "wide", "()I"⟩, Cond.selects RX2 ⟨"LogSawyer$Knot", "wide", "()I"⟩ yX2_wide, Cond.instanceMethod yX2_wide, Cond.code yX2_wide cX2_wide 1 (some .int), Cond.methodLink RX2 7 yX1_wide, Cond.superclass RX2 RX1, Cond.selects RX8 ⟨"LogSawyer$Knot", "wide", "()I"⟩ yX2_wide, Cond.selects RX2 ⟨"LogSawyer$Fault", "isIn", "(II)Z"⟩ yX1_isIn, Cond.selects RX4 ⟨"LogSawyer$Fault", "isIn", "(II)Z"⟩ yX4_isIn, Cond.instanceMethod yX4_isIn, Cond.code yX4_isIn cX4_isIn 6 (some .boolean), Cond.fieldLink RX4 7 "LogSawyer$Ring" "size" "I", Cond.sameField "LogSawyer$Ring" "LogSawyer$Fault" "size" "I", Cond.selects RX5 ⟨"LogSawyer$Fault", "isIn", "(II)Z"⟩ yX5_isIn, Cond.instanceMethod yX5_isIn, Cond.code yX5_isIn cX5_isIn 3 (some .boolean), Cond.fieldLink RX5 9 "LogSawyer$Rot" "size" "I", Cond.sameField "LogSawyer$Rot" "LogSawyer$Fault" "size" "I", Cond.selects RX7 ⟨"LogSawyer$Fault", "isIn", "(II)Z"⟩ yX7_isIn, Cond.instanceMethod yX7_isIn, Cond.code yX7_isIn cX7_isIn 3 (some .boolean), Cond.methodLink RX7 7 ⟨"LogSawyer$Shake", "across", "(II)I"⟩]
def bw_23 : List Cond := [Cond.sameMethod "LogSawyer$Shake" "LogSawyer$Fault" "across" "(II)I", Cond.selects RX4 ⟨"LogSawyer$Shake", "across", "(II)I"⟩ yX0_across, Cond.selects RX7 ⟨"LogSawyer$Shake", "across", "(II)I"⟩ yX0_across, Cond.selects RX8 ⟨"LogSawyer$Fault", "isIn", "(II)Z"⟩ yX1_isIn, Cond.selects RX9 ⟨"LogSawyer$Fault", "isIn", "(II)Z"⟩ yX9_isIn, Cond.instanceMethod yX9_isIn, Cond.code yX9_isIn cX9_isIn 3 (some .boolean), Cond.methodLink RX9 7 yX5_isIn, Cond.sameMethod "LogSawyer$Rot" "LogSawyer$Rot" "isIn" "(II)Z", Cond.superclass RX9 RX5, Cond.methodLink RX9 11 ⟨"LogSawyer$Stain", "along", "(II)I"⟩, Cond.sameMethod "LogSawyer$Stain" "LogSawyer$Fault" "along" "(II)I", Cond.selects RX9 ⟨"LogSawyer$Stain", "along", "(II)I"⟩ yX0_along, Cond.methodLink RX11 186 ⟨"LogSawyer$Fault", "slicesOf", "(I)I"⟩, Cond.methodLink RX11 189 ⟨"LogSawyer$Fault", "hurts", "()I"⟩, Cond.sameMethod "LogSawyer$Fault" "LogSawyer$Fault" "hurts" "()I", Cond.selects RX1 ⟨"LogSawyer$Fault", "hurts", "()I"⟩ yX1_hurts, Cond.instanceMethod yX1_hurts, Cond.code yX1_hurts cX1_hurts 1 (some .int), Cond.selects RX2 ⟨"LogSawyer$Fault", "hurts", "()I"⟩ yX2_hurts, Cond.instanceMethod yX2_hurts, Cond.code yX2_hurts cX2_hurts 1 (some .int), Cond.methodLink RX2 11 yX1_hurts, Cond.sameMethod "LogSawyer$Knot" "LogSawyer$Knot" "hurts" "()I"]
def bw_24 : List Cond := [Cond.selects RX4 ⟨"LogSawyer$Fault", "hurts", "()I"⟩ yX4_hurts, Cond.instanceMethod yX4_hurts, Cond.code yX4_hurts cX4_hurts 1 (some .int), Cond.methodLink RX4 13 yX7_hurts, Cond.sameMethod "LogSawyer$Shake" "LogSawyer$Shake" "hurts" "()I", Cond.superclass RX4 RX7, Cond.instanceMethod yX7_hurts, Cond.code yX7_hurts cX7_hurts 1 (some .int), Cond.selects RX5 ⟨"LogSawyer$Fault", "hurts", "()I"⟩ yX5_hurts, Cond.instanceMethod yX5_hurts, Cond.code yX5_hurts cX5_hurts 1 (some .int), Cond.selects RX7 ⟨"LogSawyer$Fault", "hurts", "()I"⟩ yX7_hurts, Cond.selects RX8 ⟨"LogSawyer$Fault", "hurts", "()I"⟩ yX2_hurts, Cond.selects RX9 ⟨"LogSawyer$Fault", "hurts", "()I"⟩ yX9_hurts, Cond.instanceMethod yX9_hurts, Cond.code yX9_hurts cX9_hurts 1 (some .int), Cond.methodLink RL 42 yX12_told, Cond.instanceMethod yX12_told, Cond.selects RX12 yX12_told yX12_told, Cond.code yX12_told cX12_told 3 (some .int), Cond.methodLink RX12 207 Lib.Math.min.name, Cond.methodLink RX12 204 yX12_woodIn, Cond.instanceMethod yX12_woodIn, Cond.selects RX12 yX12_woodIn yX12_woodIn]
def bw_25 : List Cond := [Cond.code yX12_woodIn cX12_woodIn 7 (some .int), Cond.methodLink RX12 197 yX12_isAt, Cond.instanceMethod yX12_isAt, Cond.selects RX12 yX12_isAt yX12_isAt, Cond.code yX12_isAt cX12_isAt 4 (some .boolean), Cond.methodLink RX12 194 yX12_lasts, Cond.instanceMethod yX12_lasts, Cond.selects RX12 yX12_lasts yX12_lasts, Cond.code yX12_lasts cX12_lasts 3 (some .int), Cond.methodLink RX12 201 yX12_isIn, Cond.instanceMethod yX12_isIn, Cond.selects RX12 yX12_isIn yX12_isIn, Cond.code yX12_isIn cX12_isIn 12 (some .boolean), Cond.methodLink RX12 191 Lib.Math.abs.name, Cond.methodLink RX12 185 yX12_across, Cond.static yX12_across, Cond.code yX12_across cX12_across 1 (some .int), Cond.methodLink RX12 188 yX12_up, Cond.static yX12_up, Cond.code yX12_up cX12_up 1 (some .int), Cond.methodLink RX12 210 yX12_hurts, Cond.static yX12_hurts, Cond.code yX12_hurts cX12_hurts 1 (some .int), Cond.methodLink RL 43 yX11_taken]
def bw_26 : List Cond := [Cond.instanceMethod yX11_taken, Cond.selects RX11 yX11_taken yX11_taken, Cond.code yX11_taken cX11_taken 4 (some .int), Cond.methodLink RX11 192 yX11_isUnder, Cond.static yX11_isUnder, Cond.code yX11_isUnder cX11_isUnder 2 (some .boolean), Cond.classLink RX11 141 "LogSawyer$Knot", Cond.classLink RX11 145 "LogSawyer$Loose", Cond.classLink RX11 148 "LogSawyer$Spike", Cond.classLink RX11 151 "LogSawyer$Shake", Cond.classLink RX11 154 "LogSawyer$Ring", Cond.classLink RX11 157 "LogSawyer$Rot", Cond.classLink RX11 160 "LogSawyer$Stain", Cond.methodLink RX11 196 ⟨"LogSawyer$Fault", "cellsOfSlice", "()I"⟩, Cond.sameMethod "LogSawyer$Fault" "LogSawyer$Fault" "cellsOfSlice" "()I", Cond.selects RX1 ⟨"LogSawyer$Fault", "cellsOfSlice", "()I"⟩ yX0_cellsOfSlice, Cond.instanceMethod yX0_cellsOfSlice, Cond.code yX0_cellsOfSlice cX0_cellsOfSlice 3 (some .int), Cond.methodLink RX0 50 ⟨"LogSawyer$Fault", "isIn", "(II)Z"⟩, Cond.selects RX2 ⟨"LogSawyer$Fault", "cellsOfSlice", "()I"⟩ yX0_cellsOfSlice, Cond.selects RX4 ⟨"LogSawyer$Fault", "cellsOfSlice", "()I"⟩ yX0_cellsOfSlice, Cond.selects RX5 ⟨"LogSawyer$Fault", "cellsOfSlice", "()I"⟩ yX0_cellsOfSlice, Cond.selects RX7 ⟨"LogSawyer$Fault", "cellsOfSlice", "()I"⟩ yX0_cellsOfSlice, Cond.selects RX8 ⟨"LogSawyer$Fault", "cellsOfSlice", "()I"⟩ yX0_cellsOfSlice]
def bw_27 : List Cond := [Cond.selects RX9 ⟨"LogSawyer$Fault", "cellsOfSlice", "()I"⟩ yX0_cellsOfSlice, Cond.methodLink RL 46 yX12_taken, Cond.instanceMethod yX12_taken, Cond.selects RX12 yX12_taken yX12_taken, Cond.code yX12_taken cX12_taken 5 (some .int), Cond.methodLink RX12 213 yX12_isUnder, Cond.static yX12_isUnder, Cond.code yX12_isUnder cX12_isUnder 2 (some .boolean), Cond.methodLink RL 47 yX11_turn, Cond.instanceMethod yX11_turn, Cond.selects RX11 yX11_turn yX11_turn, Cond.code yX11_turn cX11_turn 3 (some .int), Cond.fieldLink RX11 199 "LogSawyer$Yard" "turn" "I", Cond.methodLink RL 50 yX12_turn, Cond.instanceMethod yX12_turn, Cond.selects RX12 yX12_turn yX12_turn, Cond.code yX12_turn cX12_turn 3 (some .int), Cond.constantLong RX12 216 (3), Cond.methodLink RL 51 yX11_rule, Cond.instanceMethod yX11_rule, Cond.selects RX11 yX11_rule yX11_rule, Cond.code yX11_rule cX11_rule 4 (some .int), Cond.fieldLink RX11 202 "LogSawyer" "RULE_MOST" "[I", Cond.fieldLink RX11 205 "LogSawyer$Yard" "rules" "[I"]
def bw_28 : List Cond := [Cond.methodLink RL 54 yX12_rule, Cond.instanceMethod yX12_rule, Cond.selects RX12 yX12_rule yX12_rule, Cond.code yX12_rule cX12_rule 4 (some .int), Cond.methodLink RX12 222 yX12_isRule, Cond.static yX12_isRule, Cond.code yX12_isRule cX12_isRule 2 (some .boolean), Cond.constantLong RX12 218 (30), Cond.constantLong RX12 220 (99), Cond.methodLink RL 55 yX11_cell, Cond.instanceMethod yX11_cell, Cond.selects RX11 yX11_cell yX11_cell, Cond.code yX11_cell cX11_cell 5 (some .int), Cond.methodLink RX11 208 yX11_asItLies, Cond.instanceMethod yX11_asItLies, Cond.selects RX11 yX11_asItLies yX11_asItLies, Cond.code yX11_asItLies cX11_asItLies 1 (some (.object "LogSawyer$Saw")), Cond.fieldLink RX11 289 "LogSawyer$Yard" "faults" "[LLogSawyer$Fault;", Cond.methodLink RX11 292 yX6_lay, Cond.instanceMethod yX6_lay, Cond.selects RX6 yX6_lay yX6_lay, Cond.code yX6_lay cX6_lay 7 none, Cond.fieldLink RX6 66 "LogSawyer$Yard" "length" "I", Cond.methodLink RX6 69 Lib.Math.min.name]
def bw_29 : List Cond := [Cond.fieldLink RX6 75 "LogSawyer$Yard" "rules" "[I", Cond.methodLink RX6 76 arraycopyName, Cond.methodLink RX6 82 Lib.Math.max.name, Cond.methodLink RX6 85 yX6_findFirstWood, Cond.instanceMethod yX6_findFirstWood, Cond.selects RX6 yX6_findFirstWood yX6_findFirstWood, Cond.code yX6_findFirstWood cX6_findFirstWood 5 none, Cond.methodLink RX6 102 yX10_isWood, Cond.methodLink RX6 89 yJ7_fill_53178, Cond.methodLink RX6 95 yX6_mark, Cond.instanceMethod yX6_mark, Cond.selects RX6 yX6_mark yX6_mark, Cond.code yX6_mark cX6_mark 10 none, Cond.fieldLink RX6 106 "LogSawyer$Fault" "slice" "I", Cond.methodLink RX6 111 ⟨"LogSawyer$Fault", "slicesOf", "(I)I"⟩, Cond.methodLink RX6 115 ⟨"LogSawyer$Fault", "hurts", "()I"⟩, Cond.static yX11_ownX, Cond.code yX11_ownX cX11_ownX 3 (some .int), Cond.static yX11_ownY, Cond.code yX11_ownY cX11_ownY 3 (some .int), Cond.methodLink RX11 216 yX11_ownX, Cond.methodLink RX6 129 ⟨"LogSawyer$Fault", "isIn", "(II)Z"⟩, Cond.methodLink RX6 99 yX6_addUp, Cond.instanceMethod yX6_addUp]
def bw_30 : List Cond := [Cond.selects RX6 yX6_addUp yX6_addUp, Cond.code yX6_addUp cX6_addUp 8 none, Cond.methodLink RX11 212 yX6_hurtOf, Cond.instanceMethod yX6_hurtOf, Cond.selects RX6 yX6_hurtOf yX6_hurtOf, Cond.code yX6_hurtOf cX6_hurtOf 4 (some .int), Cond.methodLink RX11 219 yX11_ownY, Cond.methodLink RX11 222 yX10_leastFaultIn, Cond.instanceMethod yX10_leastFaultIn, Cond.selects RX10 yX10_leastFaultIn yX10_leastFaultIn, Cond.code yX10_leastFaultIn cX10_leastFaultIn 6 (some .int), Cond.methodLink RX10 85 yX10_faultOf, Cond.methodLink RX10 89 ⟨"LogSawyer$Fault", "isInSlice", "(II)Z"⟩, Cond.sameMethod "LogSawyer$Fault" "LogSawyer$Fault" "isInSlice" "(II)Z", Cond.selects RX1 ⟨"LogSawyer$Fault", "isInSlice", "(II)Z"⟩ yX0_isInSlice, Cond.instanceMethod yX0_isInSlice, Cond.code yX0_isInSlice cX0_isInSlice 3 (some .boolean), Cond.methodLink RX0 44 ⟨"LogSawyer$Fault", "slicesOf", "(I)I"⟩, Cond.selects RX2 ⟨"LogSawyer$Fault", "isInSlice", "(II)Z"⟩ yX0_isInSlice, Cond.selects RX4 ⟨"LogSawyer$Fault", "isInSlice", "(II)Z"⟩ yX0_isInSlice, Cond.selects RX5 ⟨"LogSawyer$Fault", "isInSlice", "(II)Z"⟩ yX0_isInSlice, Cond.selects RX7 ⟨"LogSawyer$Fault", "isInSlice", "(II)Z"⟩ yX0_isInSlice, Cond.selects RX8 ⟨"LogSawyer$Fault", "isInSlice", "(II)Z"⟩ yX0_isInSlice, Cond.selects RX9 ⟨"LogSawyer$Fault", "isInSlice", "(II)Z"⟩ yX0_isInSlice]
def bw_31 : List Cond := [Cond.methodLink RL 58 yX12_cell, Cond.instanceMethod yX12_cell, Cond.selects RX12 yX12_cell yX12_cell, Cond.code yX12_cell cX12_cell 6 (some .int), Cond.constantLong RX12 232 (11), Cond.methodLink RX12 234 yX12_hurtOf, Cond.instanceMethod yX12_hurtOf, Cond.selects RX12 yX12_hurtOf yX12_hurtOf, Cond.code yX12_hurtOf cX12_hurtOf 7 (some .int), Cond.methodLink RX12 225 yX12_ownX, Cond.static yX12_ownX, Cond.code yX12_ownX cX12_ownX 3 (some .int), Cond.methodLink RX12 229 yX12_ownY, Cond.static yX12_ownY, Cond.code yX12_ownY cX12_ownY 3 (some .int), Cond.methodLink RL 59 yX11_board, Cond.instanceMethod yX11_board, Cond.selects RX11 yX11_board yX11_board, Cond.code yX11_board cX11_board 5 (some .int), Cond.fieldLink RX11 232 "LogSawyer$Piece" "worth" "I", Cond.fieldLink RX11 237 "LogSawyer$Piece" "a" "I", Cond.fieldLink RX11 240 "LogSawyer$Piece" "b" "I", Cond.fieldLink RX11 243 "LogSawyer$Piece" "s" "I", Cond.fieldLink RX11 246 "LogSawyer$Piece" "t" "I"]
def bw_32 : List Cond := [Cond.fieldLink RX11 249 "LogSawyer$Piece" "grade" "I", Cond.fieldLink RX11 252 "LogSawyer$Piece" "upper" "I", Cond.fieldLink RX11 255 "LogSawyer$Piece" "lower" "I", Cond.methodLink RX11 225 yX11_isBoard, Cond.static yX11_isBoard, Cond.code yX11_isBoard cX11_isBoard 2 (some .boolean), Cond.methodLink RX11 228 yX6_bestPiece, Cond.instanceMethod yX6_bestPiece, Cond.selects RX6 yX6_bestPiece yX6_bestPiece, Cond.code yX6_bestPiece cX6_bestPiece 12 (some (.object "LogSawyer$Piece")), Cond.fieldLink RX6 140 "LogSawyer$Piece" "worth" "I", Cond.fieldLink RX6 143 "LogSawyer$Piece" "area" "I", Cond.methodLink RX6 133 yX6_firstColumnAt, Cond.instanceMethod yX6_firstColumnAt, Cond.selects RX6 yX6_firstColumnAt yX6_firstColumnAt, Cond.code yX6_firstColumnAt cX6_firstColumnAt 4 (some .int), Cond.methodLink RX6 146 yX6_tryPiece, Cond.instanceMethod yX6_tryPiece, Cond.selects RX6 yX6_tryPiece yX6_tryPiece, Cond.code yX6_tryPiece cX6_tryPiece 10 none, Cond.fieldLink RX6 154 "LogSawyer$Piece" "a" "I", Cond.fieldLink RX6 157 "LogSawyer$Piece" "b" "I", Cond.fieldLink RX6 160 "LogSawyer$Piece" "s" "I", Cond.fieldLink RX6 163 "LogSawyer$Piece" "t" "I"]
def bw_33 : List Cond := [Cond.fieldLink RX6 166 "LogSawyer$Piece" "grade" "I", Cond.fieldLink RX6 169 "LogSawyer$Piece" "upper" "I", Cond.fieldLink RX6 172 "LogSawyer$Piece" "lower" "I", Cond.methodLink RX6 150 yX6_gradeOf, Cond.instanceMethod yX6_gradeOf, Cond.selects RX6 yX6_gradeOf yX6_gradeOf, Cond.code yX6_gradeOf cX6_gradeOf 13 (some .int), Cond.methodLink RX6 136 yX6_sumOf, Cond.static yX6_sumOf, Cond.code yX6_sumOf cX6_sumOf 8 (some .int), Cond.methodLink RL 62 yX12_board, Cond.instanceMethod yX12_board, Cond.selects RX12 yX12_board yX12_board, Cond.code yX12_board cX12_board 4 (some .int), Cond.fieldLink RX12 258 "LogSawyerModel" "bestWorth" "I", Cond.fieldLink RX12 248 "LogSawyerModel" "bestA" "I", Cond.fieldLink RX12 251 "LogSawyerModel" "bestB" "I", Cond.fieldLink RX12 242 "LogSawyerModel" "bestS" "I", Cond.fieldLink RX12 245 "LogSawyerModel" "bestT" "I", Cond.fieldLink RX12 268 "LogSawyerModel" "bestGrade" "I", Cond.methodLink RX12 278 yX12_isBoard, Cond.static yX12_isBoard, Cond.code yX12_isBoard cX12_isBoard 2 (some .boolean), Cond.methodLink RX12 281 yX12_sums]
def bw_34 : List Cond := [Cond.instanceMethod yX12_sums, Cond.selects RX12 yX12_sums yX12_sums, Cond.code yX12_sums cX12_sums 5 none, Cond.methodLink RX12 284 yX12_finds, Cond.instanceMethod yX12_finds, Cond.selects RX12 yX12_finds yX12_finds, Cond.code yX12_finds cX12_finds 8 none, Cond.methodLink RX12 271 yX12_begins, Cond.instanceMethod yX12_begins, Cond.selects RX12 yX12_begins yX12_begins, Cond.code yX12_begins cX12_begins 6 (some .int), Cond.methodLink RX12 274 yX12_tries, Cond.instanceMethod yX12_tries, Cond.selects RX12 yX12_tries yX12_tries, Cond.code yX12_tries cX12_tries 10 none, Cond.fieldLink RX12 261 "LogSawyerModel" "bestArea" "I", Cond.methodLink RX12 254 yX12_grade, Cond.instanceMethod yX12_grade, Cond.selects RX12 yX12_grade yX12_grade, Cond.code yX12_grade cX12_grade 12 (some .int), Cond.methodLink RX12 238 yX12_within, Cond.static yX12_within, Cond.code yX12_within cX12_within 9 (some .int), Cond.methodLink RX12 264 yX12_isAhead]
def bw_35 : List Cond := [Cond.instanceMethod yX12_isAhead, Cond.selects RX12 yX12_isAhead yX12_isAhead, Cond.code yX12_isAhead cX12_isAhead 5 (some .boolean), Cond.methodLink RL 63 yX11_graded, Cond.instanceMethod yX11_graded, Cond.selects RX11 yX11_graded yX11_graded, Cond.code yX11_graded cX11_graded 9 (some .int), Cond.methodLink RX11 258 yX6_isAllWood, Cond.instanceMethod yX6_isAllWood, Cond.selects RX6 yX6_isAllWood yX6_isAllWood, Cond.code yX6_isAllWood cX6_isAllWood 7 (some .boolean), Cond.methodLink RX11 262 yX6_gradeOf, Cond.methodLink RL 67 yX12_graded, Cond.instanceMethod yX12_graded, Cond.selects RX12 yX12_graded yX12_graded, Cond.code yX12_graded cX12_graded 9 (some .int), Cond.constantLong RX12 288 (63), Cond.methodLink RL 68 yX11_worth, Cond.instanceMethod yX11_worth, Cond.selects RX11 yX11_worth yX11_worth, Cond.code yX11_worth cX11_worth 3 (some .long), Cond.constantLong RX11 266 (-4611686018427387904), Cond.methodLink RL 72 yX12_worth, Cond.instanceMethod yX12_worth]
def bw_36 : List Cond := [Cond.selects RX12 yX12_worth yX12_worth, Cond.code yX12_worth cX12_worth 3 (some .long), Cond.constantLong RX12 290 (-4611686018427387904), Cond.methodLink RL 73 yX11_opening, Cond.instanceMethod yX11_opening, Cond.selects RX11 yX11_opening yX11_opening, Cond.code yX11_opening cX11_opening 4 (some .int), Cond.fieldLink RX11 271 "LogSawyer$Saw" "boardCount" "I", Cond.methodLink RX11 268 yX11_openedAsItLies, Cond.instanceMethod yX11_openedAsItLies, Cond.selects RX11 yX11_openedAsItLies yX11_openedAsItLies, Cond.code yX11_openedAsItLies cX11_openedAsItLies 2 (some (.object "LogSawyer$Saw")), Cond.fieldLink RX11 298 "LogSawyer$Saw" "opened" "Z", Cond.methodLink RX11 295 yX6_open, Cond.instanceMethod yX6_open, Cond.selects RX6 yX6_open yX6_open, Cond.code yX6_open cX6_open 6 (some .int), Cond.static yX11_has, Cond.code yX11_has cX11_has 2 (some .boolean), Cond.methodLink RX6 178 yX6_bestPiece, Cond.methodLink RX6 182 yX6_listRows, Cond.instanceMethod yX6_listRows, Cond.selects RX6 yX6_listRows yX6_listRows, Cond.code yX6_listRows cX6_listRows 4 none]
def bw_37 : List Cond := [Cond.methodLink RX11 274 yX6_rowAt, Cond.instanceMethod yX6_rowAt, Cond.selects RX6 yX6_rowAt yX6_rowAt, Cond.code yX6_rowAt cX6_rowAt 2 (some .int), Cond.methodLink RX11 277 yX6_thicknessAt, Cond.instanceMethod yX6_thicknessAt, Cond.selects RX6 yX6_thicknessAt yX6_thicknessAt, Cond.code yX6_thicknessAt cX6_thicknessAt 2 (some .int), Cond.methodLink RX6 189 yX6_rowAt, Cond.methodLink RX11 280 yX6_gradeAt, Cond.instanceMethod yX6_gradeAt, Cond.selects RX6 yX6_gradeAt yX6_gradeAt, Cond.code yX6_gradeAt cX6_gradeAt 2 (some .int), Cond.methodLink RL 76 yX12_opening, Cond.instanceMethod yX12_opening, Cond.selects RX12 yX12_opening yX12_opening, Cond.code yX12_opening cX12_opening 3 (some .int), Cond.fieldLink RX12 295 "LogSawyerModel" "boards" "I", Cond.methodLink RX12 298 yX12_lists, Cond.instanceMethod yX12_lists, Cond.selects RX12 yX12_lists yX12_lists, Cond.code yX12_lists cX12_lists 3 none, Cond.methodLink RX12 292 yX12_opens, Cond.instanceMethod yX12_opens]
def bw_38 : List Cond := [Cond.selects RX12 yX12_opens yX12_opens, Cond.code yX12_opens cX12_opens 5 (some .int), Cond.methodLink RL 77 yX11_best, Cond.instanceMethod yX11_best, Cond.selects RX11 yX11_best yX11_best, Cond.code yX11_best cX11_best 2 (some .long), Cond.methodLink RX11 283 yX11_turnOfMost, Cond.instanceMethod yX11_turnOfMost, Cond.selects RX11 yX11_turnOfMost yX11_turnOfMost, Cond.code yX11_turnOfMost cX11_turnOfMost 3 (some .int), Cond.methodLink RX11 286 yX11_openByTurn, Cond.instanceMethod yX11_openByTurn, Cond.selects RX11 yX11_openByTurn yX11_openByTurn, Cond.code yX11_openByTurn cX11_openByTurn 2 (some .int), Cond.methodLink RL 81 yX12_best, Cond.instanceMethod yX12_best, Cond.selects RX12 yX12_best yX12_best, Cond.code yX12_best cX12_best 2 (some .long), Cond.constantLong RX12 301 (-1), Cond.methodLink RX12 303 yX12_turnBest, Cond.instanceMethod yX12_turnBest, Cond.selects RX12 yX12_turnBest yX12_turnBest, Cond.code yX12_turnBest cX12_turnBest 5 (some .int), Cond.methodLink RL 82 yX11_bestTurn]
def bw_39 : List Cond := [Cond.instanceMethod yX11_bestTurn, Cond.selects RX11 yX11_bestTurn yX11_bestTurn, Cond.code yX11_bestTurn cX11_bestTurn 1 (some .int), Cond.methodLink RL 85 yX12_bestTurn, Cond.instanceMethod yX12_bestTurn, Cond.selects RX12 yX12_bestTurn yX12_bestTurn, Cond.code yX12_bestTurn cX12_bestTurn 1 (some .int), Cond.methodLink RL 86 yX11_saw, Cond.instanceMethod yX11_saw, Cond.selects RX11 yX11_saw yX11_saw, Cond.code yX11_saw cX11_saw 4 (some .int), Cond.fieldLink RX11 301 "LogSawyer$Yard" "boardCount" "I", Cond.methodLink RX11 302 yX6_pieceAt, Cond.instanceMethod yX6_pieceAt, Cond.selects RX6 yX6_pieceAt yX6_pieceAt, Cond.code yX6_pieceAt cX6_pieceAt 2 (some (.object "LogSawyer$Piece")), Cond.methodLink RX6 192 yX6_thicknessAt, Cond.methodLink RX11 306 yX10_addBoard, Cond.instanceMethod yX10_addBoard, Cond.selects RX10 yX10_addBoard yX10_addBoard, Cond.code yX10_addBoard cX10_addBoard 5 none, Cond.methodLink RX10 92 yX10_fillRow, Cond.static yX10_fillRow, Cond.code yX10_fillRow cX10_fillRow 6 none]
def bw_40 : List Cond := [Cond.methodLink RL 89 yX12_saw, Cond.instanceMethod yX12_saw, Cond.selects RX12 yX12_saw yX12_saw, Cond.code yX12_saw cX12_saw 3 (some .int), Cond.fieldLink RX12 101 "LogSawyerModel" "stacked" "I", Cond.methodLink RL 90 yX11_stack, Cond.instanceMethod yX11_stack, Cond.selects RX11 yX11_stack yX11_stack, Cond.code yX11_stack cX11_stack 3 (some .int), Cond.fieldLink RX11 310 "LogSawyer$Yard" "boards" "[I", Cond.methodLink RL 93 yX12_stack, Cond.instanceMethod yX12_stack, Cond.selects RX12 yX12_stack yX12_stack, Cond.code yX12_stack cX12_stack 3 (some .int), Cond.methodLink RL 94 yX11_order, Cond.instanceMethod yX11_order, Cond.selects RX11 yX11_order yX11_order, Cond.code yX11_order cX11_order 5 (some .int), Cond.fieldLink RX11 313 "LogSawyer$Yard" "orderCount" "I", Cond.methodLink RX11 316 yX10_addOrder, Cond.instanceMethod yX10_addOrder, Cond.selects RX10 yX10_addOrder yX10_addOrder, Cond.code yX10_addOrder cX10_addOrder 5 none, Cond.methodLink RL 97 yX12_order]
def bw_41 : List Cond := [Cond.instanceMethod yX12_order, Cond.selects RX12 yX12_order yX12_order, Cond.code yX12_order cX12_order 5 (some .int), Cond.constantLong RX12 306 (12), Cond.fieldLink RX12 104 "LogSawyerModel" "orders" "I", Cond.methodLink RL 98 yX11_met, Cond.instanceMethod yX11_met, Cond.selects RX11 yX11_met yX11_met, Cond.code yX11_met cX11_met 2 (some .int), Cond.methodLink RX11 319 yX11_findMeeting, Cond.instanceMethod yX11_findMeeting, Cond.selects RX11 yX11_findMeeting yX11_findMeeting, Cond.code yX11_findMeeting cX11_findMeeting 2 none, Cond.methodLink RX11 333 yX10_boardsThatMeet, Cond.instanceMethod yX10_boardsThatMeet, Cond.selects RX10 yX10_boardsThatMeet yX10_boardsThatMeet, Cond.code yX10_boardsThatMeet cX10_boardsThatMeet 4 (some .int), Cond.methodLink RX10 96 yX10_meets, Cond.instanceMethod yX10_meets, Cond.selects RX10 yX10_meets yX10_meets, Cond.code yX10_meets cX10_meets 3 (some .boolean), Cond.methodLink RX11 322 yX11_ordersMet, Cond.instanceMethod yX11_ordersMet, Cond.selects RX11 yX11_ordersMet yX11_ordersMet]
def bw_42 : List Cond := [Cond.code yX11_ordersMet cX11_ordersMet 4 (some .int), Cond.methodLink RX11 339 yX11_canBeMet, Cond.instanceMethod yX11_canBeMet, Cond.selects RX11 yX11_canBeMet yX11_canBeMet, Cond.code yX11_canBeMet cX11_canBeMet 4 (some .boolean), Cond.methodLink RX11 325 yX11_boardsMeeting, Cond.instanceMethod yX11_boardsMeeting, Cond.selects RX11 yX11_boardsMeeting yX11_boardsMeeting, Cond.code yX11_boardsMeeting cX11_boardsMeeting 4 (some .int), Cond.methodLink RX11 336 yX11_has, Cond.methodLink RX11 328 yJ6_bitCount_0f7a4, Cond.static yJ6_bitCount_0f7a4, Cond.initialized RJ6, Cond.code yJ6_bitCount_0f7a4 cJ6_bitCount_0f7a4 1 (some .int), Cond.constant RJ6 265 (1431655765), Cond.constant RJ6 266 (858993459), Cond.constant RJ6 267 (252645135), Cond.methodLink RL 101 yX12_met, Cond.instanceMethod yX12_met, Cond.selects RX12 yX12_met yX12_met, Cond.code yX12_met cX12_met 6 (some .int), Cond.methodLink RX12 321 yX12_metOnes, Cond.instanceMethod yX12_metOnes, Cond.selects RX12 yX12_metOnes yX12_metOnes]
def bw_43 : List Cond := [Cond.code yX12_metOnes cX12_metOnes 3 (some .int), Cond.methodLink RX12 315 yX12_clears, Cond.instanceMethod yX12_clears, Cond.selects RX12 yX12_clears yX12_clears, Cond.code yX12_clears cX12_clears 2 none, Cond.methodLink RX12 318 yX12_can, Cond.instanceMethod yX12_can, Cond.selects RX12 yX12_can yX12_can, Cond.code yX12_can cX12_can 4 (some .boolean), Cond.methodLink RX12 311 yX12_gets, Cond.instanceMethod yX12_gets, Cond.selects RX12 yX12_gets yX12_gets, Cond.code yX12_gets cX12_gets 3 (some .boolean), Cond.methodLink RX12 308 yX12_meets, Cond.instanceMethod yX12_meets, Cond.selects RX12 yX12_meets yX12_meets, Cond.code yX12_meets cX12_meets 3 (some .boolean), Cond.methodLink RL 102 yX11_serve, Cond.instanceMethod yX11_serve, Cond.selects RX11 yX11_serve yX11_serve, Cond.code yX11_serve cX11_serve 5 (some .int), Cond.methodLink RX11 342 yX11_boardFor, Cond.instanceMethod yX11_boardFor, Cond.selects RX11 yX11_boardFor yX11_boardFor]
def bw_44 : List Cond := [Cond.code yX11_boardFor cX11_boardFor 6 (some .int), Cond.methodLink RX11 345 yX10_keepBoards, Cond.instanceMethod yX10_keepBoards, Cond.selects RX10 yX10_keepBoards yX10_keepBoards, Cond.code yX10_keepBoards cX10_keepBoards 2 none, Cond.methodLink RX10 99 yX10_keepRows, Cond.static yX10_keepRows, Cond.code yX10_keepRows cX10_keepRows 5 (some .int), Cond.methodLink RX11 348 yX10_keepOrders, Cond.instanceMethod yX10_keepOrders, Cond.selects RX10 yX10_keepOrders yX10_keepOrders, Cond.code yX10_keepOrders cX10_keepOrders 2 none, Cond.methodLink RL 105 yX12_serve, Cond.instanceMethod yX12_serve, Cond.selects RX12 yX12_serve yX12_serve, Cond.code yX12_serve cX12_serve 6 (some .int), Cond.methodLink RX12 324 yX12_mayGive, Cond.instanceMethod yX12_mayGive, Cond.selects RX12 yX12_mayGive yX12_mayGive, Cond.code yX12_mayGive cX12_mayGive 4 (some .boolean), Cond.methodLink RX12 327 yJ6_bitCount_0f7a4, Cond.methodLink RX12 332 yX12_takesOut, Cond.static yX12_takesOut, Cond.code yX12_takesOut cX12_takesOut 6 (some .int)]
def bw_45 : List Cond := [Cond.methodLink RL 106 yX11_without, Cond.instanceMethod yX11_without, Cond.selects RX11 yX11_without yX11_without, Cond.code yX11_without cX11_without 4 (some .long), Cond.methodLink RX11 351 yX11_worthInThought, Cond.instanceMethod yX11_worthInThought, Cond.selects RX11 yX11_worthInThought yX11_worthInThought, Cond.code yX11_worthInThought cX11_worthInThought 2 (some .int), Cond.methodLink RL 109 yX12_without, Cond.instanceMethod yX12_without, Cond.selects RX12 yX12_without yX12_without, Cond.code yX12_without cX12_without 4 (some .long), Cond.methodLink RX12 336 yX12_keepsFaults, Cond.instanceMethod yX12_keepsFaults, Cond.selects RX12 yX12_keepsFaults yX12_keepsFaults, Cond.code yX12_keepsFaults cX12_keepsFaults 2 (some .int), Cond.methodLink RX12 339 yX12_takesBack, Cond.instanceMethod yX12_takesBack, Cond.selects RX12 yX12_takesBack yX12_takesBack, Cond.code yX12_takesBack cX12_takesBack 3 none, Cond.methodLink RL 110 yX11_drawn, Cond.instanceMethod yX11_drawn, Cond.selects RX11 yX11_drawn yX11_drawn, Cond.code yX11_drawn cX11_drawn 3 (some .long)]
def bw_46 : List Cond := [Cond.methodLink RX11 354 yX11_drawFaults, Cond.instanceMethod yX11_drawFaults, Cond.selects RX11 yX11_drawFaults yX11_drawFaults, Cond.code yX11_drawFaults cX11_drawFaults 9 (some .int), Cond.methodLink RX11 358 yX11_next, Cond.static yX11_next, Cond.code yX11_next cX11_next 1 (some .int), Cond.constant RX11 361 (1103515245), Cond.methodLink RL 113 yX12_drawn, Cond.instanceMethod yX12_drawn, Cond.selects RX12 yX12_drawn yX12_drawn, Cond.code yX12_drawn cX12_drawn 3 (some .long), Cond.methodLink RX12 349 yX12_drawnBy, Cond.instanceMethod yX12_drawnBy, Cond.selects RX12 yX12_drawnBy yX12_drawnBy, Cond.code yX12_drawnBy cX12_drawnBy 8 (some .int), Cond.fieldLink RX12 342 "LogSawyerModel" "seedNow" "I", Cond.methodLink RX12 346 yX12_draw, Cond.instanceMethod yX12_draw, Cond.selects RX12 yX12_draw yX12_draw, Cond.code yX12_draw cX12_draw 2 (some .int), Cond.constant RX12 345 (1103515245), Cond.methodLink RL 114 yX11_chance, Cond.instanceMethod yX11_chance]
def bw_47 : List Cond := [Cond.selects RX11 yX11_chance yX11_chance, Cond.code yX11_chance cX11_chance 7 (some .int), Cond.methodLink RX11 362 yX11_commonDivisor, Cond.static yX11_commonDivisor, Cond.code yX11_commonDivisor cX11_commonDivisor 3 (some .int), Cond.methodLink RL 117 yX12_chance, Cond.instanceMethod yX12_chance, Cond.selects RX12 yX12_chance yX12_chance, Cond.code yX12_chance cX12_chance 7 (some .int), Cond.methodLink RX12 352 yX12_lowest, Cond.static yX12_lowest, Cond.code yX12_lowest cX12_lowest 6 (some .int), Cond.methodLink RL 118 yX11_tells, Cond.instanceMethod yX11_tells, Cond.selects RX11 yX11_tells yX11_tells, Cond.code yX11_tells cX11_tells 3 (some .int), Cond.methodLink RX11 365 yX11_isSheet, Cond.static yX11_isSheet, Cond.code yX11_isSheet cX11_isSheet 1 (some .boolean), Cond.methodLink RX11 368 yX11_firstOtherwise, Cond.instanceMethod yX11_firstOtherwise, Cond.selects RX11 yX11_firstOtherwise yX11_firstOtherwise, Cond.code yX11_firstOtherwise cX11_firstOtherwise 6 (some .int), Cond.methodLink RX11 378 Lib.Math.min.name]
def bw_48 : List Cond := [Cond.methodLink RX11 372 yX11_turnsTold, Cond.instanceMethod yX11_turnsTold, Cond.selects RX11 yX11_turnsTold yX11_turnsTold, Cond.code yX11_turnsTold cX11_turnsTold 4 (some .int), Cond.methodLink RX11 375 yX11_kerfsTold, Cond.instanceMethod yX11_kerfsTold, Cond.selects RX11 yX11_kerfsTold yX11_kerfsTold, Cond.code yX11_kerfsTold cX11_kerfsTold 4 (some .int), Cond.methodLink RL 121 yX12_tells, Cond.instanceMethod yX12_tells, Cond.selects RX12 yX12_tells yX12_tells, Cond.code yX12_tells cX12_tells 5 (some .int), Cond.methodLink RX12 358 yX12_isSheet, Cond.static yX12_isSheet, Cond.code yX12_isSheet cX12_isSheet 1 (some .boolean), Cond.methodLink RX12 355 yX12_otherwise, Cond.instanceMethod yX12_otherwise, Cond.selects RX12 yX12_otherwise yX12_otherwise, Cond.code yX12_otherwise cX12_otherwise 4 (some .int), Cond.methodLink RX12 361 yX12_kerfs, Cond.instanceMethod yX12_kerfs, Cond.selects RX12 yX12_kerfs yX12_kerfs, Cond.code yX12_kerfs cX12_kerfs 5 (some .int), Cond.methodLink RL 122 yX11_image]
def bw_49 : List Cond := [Cond.instanceMethod yX11_image, Cond.selects RX11 yX11_image yX11_image, Cond.code yX11_image cX11_image 1 (some .int), Cond.methodLink RX11 383 yX10_becomeAs, Cond.instanceMethod yX10_becomeAs, Cond.selects RX10 yX10_becomeAs yX10_becomeAs, Cond.code yX10_becomeAs cX10_becomeAs 3 none, Cond.methodLink RL 125 yX12_image, Cond.instanceMethod yX12_image, Cond.selects RX12 yX12_image yX12_image, Cond.code yX12_image cX12_image 1 (some .int), Cond.fieldLink RX12 111 "LogSawyerModel" "isKept" "Z", Cond.methodLink RX12 114 yX12_passesAll, Cond.instanceMethod yX12_passesAll, Cond.selects RX12 yX12_passesAll yX12_passesAll, Cond.code yX12_passesAll cX12_passesAll 2 (some .int), Cond.fieldLink RX12 74 "LogSawyerModel" "keeps" "Z", Cond.fieldLink RX12 78 "LogSawyerModel" "spot" "I", Cond.methodLink RX12 82 yX12_passes, Cond.instanceMethod yX12_passes, Cond.selects RX12 yX12_passes yX12_passes, Cond.code yX12_passes cX12_passes 3 (some .int), Cond.methodLink RX12 107 yX12_passesRow, Cond.instanceMethod yX12_passesRow]
def bw_50 : List Cond := [Cond.selects RX12 yX12_passesRow yX12_passesRow, Cond.code yX12_passesRow cX12_passesRow 3 none, Cond.methodLink RL 126 yX11_back, Cond.instanceMethod yX11_back, Cond.selects RX11 yX11_back yX11_back, Cond.code yX11_back cX11_back 1 (some .int), Cond.methodLink RL 129 yX12_back, Cond.instanceMethod yX12_back, Cond.selects RX12 yX12_back yX12_back, Cond.code yX12_back cX12_back 1 (some .int), Cond.methodLink RL 130 yX11_count, Cond.instanceMethod yX11_count, Cond.selects RX11 yX11_count yX11_count, Cond.code yX11_count cX11_count 2 (some .int), Cond.methodLink RX11 387 yX11_woodWithFault, Cond.instanceMethod yX11_woodWithFault, Cond.selects RX11 yX11_woodWithFault yX11_woodWithFault, Cond.code yX11_woodWithFault cX11_woodWithFault 7 (some .int), Cond.methodLink RL 133 yX12_count, Cond.instanceMethod yX12_count, Cond.selects RX12 yX12_count yX12_count, Cond.code yX12_count cX12_count 2 (some .int), Cond.methodLink RX12 364 yX12_hurtWood, Cond.instanceMethod yX12_hurtWood]
def bw_51 : List Cond := [Cond.selects RX12 yX12_hurtWood yX12_hurtWood, Cond.code yX12_hurtWood cX12_hurtWood 6 (some .int), Cond.methodLink RL 134 yX11_sheet, Cond.instanceMethod yX11_sheet, Cond.selects RX11 yX11_sheet yX11_sheet, Cond.code yX11_sheet cX11_sheet 5 (some .int), Cond.methodLink RL 137 yX12_sheet, Cond.instanceMethod yX12_sheet, Cond.selects RX12 yX12_sheet yX12_sheet, Cond.code yX12_sheet cX12_sheet 5 (some .int), Cond.methodLink RL 140 yX11_put, Cond.instanceMethod yX11_put, Cond.selects RX11 yX11_put yX11_put, Cond.code yX11_put cX11_put 5 (some .int), Cond.methodLink RL 144 yX12_put, Cond.instanceMethod yX12_put, Cond.selects RX12 yX12_put yX12_put, Cond.code yX12_put cX12_put 5 (some .int), Cond.methodLink RL 145 yX11_copy, Cond.instanceMethod yX11_copy, Cond.selects RX11 yX11_copy yX11_copy, Cond.code yX11_copy cX11_copy 6 (some .int), Cond.methodLink RX11 393 arraycopyName, Cond.methodLink RX11 390 yX11_hasItems]
def bw_52 : List Cond := [Cond.instanceMethod yX11_hasItems, Cond.selects RX11 yX11_hasItems yX11_hasItems, Cond.code yX11_hasItems cX11_hasItems 4 (some .boolean), Cond.methodLink RL 148 yX12_copy, Cond.instanceMethod yX12_copy, Cond.selects RX12 yX12_copy yX12_copy, Cond.code yX12_copy cX12_copy 7 (some .int)]
def bwL : List (List Cond) := [bw_0, bw_1, bw_2, bw_3, bw_4, bw_5, bw_6, bw_7, bw_8, bw_9, bw_10, bw_11, bw_12, bw_13, bw_14, bw_15, bw_16, bw_17, bw_18, bw_19, bw_20, bw_21, bw_22, bw_23, bw_24, bw_25, bw_26, bw_27, bw_28, bw_29, bw_30, bw_31, bw_32, bw_33, bw_34, bw_35, bw_36, bw_37, bw_38, bw_39, bw_40, bw_41, bw_42, bw_43, bw_44, bw_45, bw_46, bw_47, bw_48, bw_49, bw_50, bw_51, bw_52, wsX110, wsX120, wsX100, wsX60, wsX30, wsX10, wsX20, wsX80, wsX70, wsX40, wsX50, wsX90]
def BW : List Cond := bwL.flatten
theorem bw_in {w : Cond} {L : List Cond} (k : Nat) (hk : bwL[k]? = some L) (h : w ∈ L) : w ∈ BW := List.mem_flatten.mpr ⟨L, List.mem_of_getElem? hk, h⟩
theorem in_wsX110 : ∀ w ∈ wsX110, w ∈ BW := fun _ h => bw_in 53 rfl h
theorem in_wsX120 : ∀ w ∈ wsX120, w ∈ BW := fun _ h => bw_in 54 rfl h
theorem in_wsX100 : ∀ w ∈ wsX100, w ∈ BW := fun _ h => bw_in 55 rfl h
theorem in_wsX60 : ∀ w ∈ wsX60, w ∈ BW := fun _ h => bw_in 56 rfl h
theorem in_wsX30 : ∀ w ∈ wsX30, w ∈ BW := fun _ h => bw_in 57 rfl h
theorem in_wsX10 : ∀ w ∈ wsX10, w ∈ BW := fun _ h => bw_in 58 rfl h
theorem in_wsX20 : ∀ w ∈ wsX20, w ∈ BW := fun _ h => bw_in 59 rfl h
theorem in_wsX80 : ∀ w ∈ wsX80, w ∈ BW := fun _ h => bw_in 60 rfl h
theorem in_wsX70 : ∀ w ∈ wsX70, w ∈ BW := fun _ h => bw_in 61 rfl h
theorem in_wsX40 : ∀ w ∈ wsX40, w ∈ BW := fun _ h => bw_in 62 rfl h
theorem in_wsX50 : ∀ w ∈ wsX50, w ∈ BW := fun _ h => bw_in 63 rfl h
theorem in_wsX90 : ∀ w ∈ wsX90, w ∈ BW := fun _ h => bw_in 64 rfl h
theorem gw_0 : ∀ w ∈ bw_0, goodWord w = true := List.all_eq_true.mp (by decide +kernel)
theorem gw_1 : ∀ w ∈ bw_1, goodWord w = true := List.all_eq_true.mp (by decide +kernel)
theorem gw_2 : ∀ w ∈ bw_2, goodWord w = true := List.all_eq_true.mp (by decide +kernel)
theorem gw_3 : ∀ w ∈ bw_3, goodWord w = true := List.all_eq_true.mp (by decide +kernel)
theorem gw_4 : ∀ w ∈ bw_4, goodWord w = true := List.all_eq_true.mp (by decide +kernel)
theorem gw_5 : ∀ w ∈ bw_5, goodWord w = true := List.all_eq_true.mp (by decide +kernel)
theorem gw_6 : ∀ w ∈ bw_6, goodWord w = true := List.all_eq_true.mp (by decide +kernel)
theorem gw_7 : ∀ w ∈ bw_7, goodWord w = true := List.all_eq_true.mp (by decide +kernel)
theorem gw_8 : ∀ w ∈ bw_8, goodWord w = true := List.all_eq_true.mp (by decide +kernel)
theorem gw_9 : ∀ w ∈ bw_9, goodWord w = true := List.all_eq_true.mp (by decide +kernel)
theorem gw_10 : ∀ w ∈ bw_10, goodWord w = true := List.all_eq_true.mp (by decide +kernel)
theorem gw_11 : ∀ w ∈ bw_11, goodWord w = true := List.all_eq_true.mp (by decide +kernel)
theorem gw_12 : ∀ w ∈ bw_12, goodWord w = true := List.all_eq_true.mp (by decide +kernel)
theorem gw_13 : ∀ w ∈ bw_13, goodWord w = true := List.all_eq_true.mp (by decide +kernel)
theorem gw_14 : ∀ w ∈ bw_14, goodWord w = true := List.all_eq_true.mp (by decide +kernel)
theorem gw_15 : ∀ w ∈ bw_15, goodWord w = true := List.all_eq_true.mp (by decide +kernel)
theorem gw_16 : ∀ w ∈ bw_16, goodWord w = true := List.all_eq_true.mp (by decide +kernel)
theorem gw_17 : ∀ w ∈ bw_17, goodWord w = true := List.all_eq_true.mp (by decide +kernel)
theorem gw_18 : ∀ w ∈ bw_18, goodWord w = true := List.all_eq_true.mp (by decide +kernel)
theorem gw_19 : ∀ w ∈ bw_19, goodWord w = true := List.all_eq_true.mp (by decide +kernel)
theorem gw_20 : ∀ w ∈ bw_20, goodWord w = true := List.all_eq_true.mp (by decide +kernel)
theorem gw_21 : ∀ w ∈ bw_21, goodWord w = true := List.all_eq_true.mp (by decide +kernel)
theorem gw_22 : ∀ w ∈ bw_22, goodWord w = true := List.all_eq_true.mp (by decide +kernel)
theorem gw_23 : ∀ w ∈ bw_23, goodWord w = true := List.all_eq_true.mp (by decide +kernel)
theorem gw_24 : ∀ w ∈ bw_24, goodWord w = true := List.all_eq_true.mp (by decide +kernel)
theorem gw_25 : ∀ w ∈ bw_25, goodWord w = true := List.all_eq_true.mp (by decide +kernel)
theorem gw_26 : ∀ w ∈ bw_26, goodWord w = true := List.all_eq_true.mp (by decide +kernel)
theorem gw_27 : ∀ w ∈ bw_27, goodWord w = true := List.all_eq_true.mp (by decide +kernel)
theorem gw_28 : ∀ w ∈ bw_28, goodWord w = true := List.all_eq_true.mp (by decide +kernel)
theorem gw_29 : ∀ w ∈ bw_29, goodWord w = true := List.all_eq_true.mp (by decide +kernel)
theorem gw_30 : ∀ w ∈ bw_30, goodWord w = true := List.all_eq_true.mp (by decide +kernel)
theorem gw_31 : ∀ w ∈ bw_31, goodWord w = true := List.all_eq_true.mp (by decide +kernel)
theorem gw_32 : ∀ w ∈ bw_32, goodWord w = true := List.all_eq_true.mp (by decide +kernel)
theorem gw_33 : ∀ w ∈ bw_33, goodWord w = true := List.all_eq_true.mp (by decide +kernel)
theorem gw_34 : ∀ w ∈ bw_34, goodWord w = true := List.all_eq_true.mp (by decide +kernel)
theorem gw_35 : ∀ w ∈ bw_35, goodWord w = true := List.all_eq_true.mp (by decide +kernel)
theorem gw_36 : ∀ w ∈ bw_36, goodWord w = true := List.all_eq_true.mp (by decide +kernel)
theorem gw_37 : ∀ w ∈ bw_37, goodWord w = true := List.all_eq_true.mp (by decide +kernel)
theorem gw_38 : ∀ w ∈ bw_38, goodWord w = true := List.all_eq_true.mp (by decide +kernel)
theorem gw_39 : ∀ w ∈ bw_39, goodWord w = true := List.all_eq_true.mp (by decide +kernel)
theorem gw_40 : ∀ w ∈ bw_40, goodWord w = true := List.all_eq_true.mp (by decide +kernel)
theorem gw_41 : ∀ w ∈ bw_41, goodWord w = true := List.all_eq_true.mp (by decide +kernel)
theorem gw_42 : ∀ w ∈ bw_42, goodWord w = true := List.all_eq_true.mp (by decide +kernel)
theorem gw_43 : ∀ w ∈ bw_43, goodWord w = true := List.all_eq_true.mp (by decide +kernel)
theorem gw_44 : ∀ w ∈ bw_44, goodWord w = true := List.all_eq_true.mp (by decide +kernel)
theorem gw_45 : ∀ w ∈ bw_45, goodWord w = true := List.all_eq_true.mp (by decide +kernel)
theorem gw_46 : ∀ w ∈ bw_46, goodWord w = true := List.all_eq_true.mp (by decide +kernel)
theorem gw_47 : ∀ w ∈ bw_47, goodWord w = true := List.all_eq_true.mp (by decide +kernel)
theorem gw_48 : ∀ w ∈ bw_48, goodWord w = true := List.all_eq_true.mp (by decide +kernel)
theorem gw_49 : ∀ w ∈ bw_49, goodWord w = true := List.all_eq_true.mp (by decide +kernel)
theorem gw_50 : ∀ w ∈ bw_50, goodWord w = true := List.all_eq_true.mp (by decide +kernel)
theorem gw_51 : ∀ w ∈ bw_51, goodWord w = true := List.all_eq_true.mp (by decide +kernel)
theorem gw_52 : ∀ w ∈ bw_52, goodWord w = true := List.all_eq_true.mp (by decide +kernel)
theorem gw_wsX110 : ∀ w ∈ wsX110, goodWord w = true := List.all_eq_true.mp (by decide +kernel)
theorem gw_wsX120 : ∀ w ∈ wsX120, goodWord w = true := List.all_eq_true.mp (by decide +kernel)
theorem gw_wsX100 : ∀ w ∈ wsX100, goodWord w = true := List.all_eq_true.mp (by decide +kernel)
theorem gw_wsX60 : ∀ w ∈ wsX60, goodWord w = true := List.all_eq_true.mp (by decide +kernel)
theorem gw_wsX30 : ∀ w ∈ wsX30, goodWord w = true := List.all_eq_true.mp (by decide +kernel)
theorem gw_wsX10 : ∀ w ∈ wsX10, goodWord w = true := List.all_eq_true.mp (by decide +kernel)
theorem gw_wsX20 : ∀ w ∈ wsX20, goodWord w = true := List.all_eq_true.mp (by decide +kernel)
theorem gw_wsX80 : ∀ w ∈ wsX80, goodWord w = true := List.all_eq_true.mp (by decide +kernel)
theorem gw_wsX70 : ∀ w ∈ wsX70, goodWord w = true := List.all_eq_true.mp (by decide +kernel)
theorem gw_wsX40 : ∀ w ∈ wsX40, goodWord w = true := List.all_eq_true.mp (by decide +kernel)
theorem gw_wsX50 : ∀ w ∈ wsX50, goodWord w = true := List.all_eq_true.mp (by decide +kernel)
theorem gw_wsX90 : ∀ w ∈ wsX90, goodWord w = true := List.all_eq_true.mp (by decide +kernel)
theorem gwL : ∀ L ∈ bwL, ∀ w ∈ L, goodWord w = true := List.forall_mem_cons.mpr ⟨gw_0, List.forall_mem_cons.mpr ⟨gw_1, List.forall_mem_cons.mpr ⟨gw_2, List.forall_mem_cons.mpr ⟨gw_3, List.forall_mem_cons.mpr ⟨gw_4, List.forall_mem_cons.mpr ⟨gw_5, List.forall_mem_cons.mpr ⟨gw_6, List.forall_mem_cons.mpr ⟨gw_7, List.forall_mem_cons.mpr ⟨gw_8, List.forall_mem_cons.mpr ⟨gw_9, List.forall_mem_cons.mpr ⟨gw_10, List.forall_mem_cons.mpr ⟨gw_11, List.forall_mem_cons.mpr ⟨gw_12, List.forall_mem_cons.mpr ⟨gw_13, List.forall_mem_cons.mpr ⟨gw_14, List.forall_mem_cons.mpr ⟨gw_15, List.forall_mem_cons.mpr ⟨gw_16, List.forall_mem_cons.mpr ⟨gw_17, List.forall_mem_cons.mpr ⟨gw_18, List.forall_mem_cons.mpr ⟨gw_19, List.forall_mem_cons.mpr ⟨gw_20, List.forall_mem_cons.mpr ⟨gw_21, List.forall_mem_cons.mpr ⟨gw_22, List.forall_mem_cons.mpr ⟨gw_23, List.forall_mem_cons.mpr ⟨gw_24, List.forall_mem_cons.mpr ⟨gw_25, List.forall_mem_cons.mpr ⟨gw_26, List.forall_mem_cons.mpr ⟨gw_27, List.forall_mem_cons.mpr ⟨gw_28, List.forall_mem_cons.mpr ⟨gw_29, List.forall_mem_cons.mpr ⟨gw_30, List.forall_mem_cons.mpr ⟨gw_31, List.forall_mem_cons.mpr ⟨gw_32, List.forall_mem_cons.mpr ⟨gw_33, List.forall_mem_cons.mpr ⟨gw_34, List.forall_mem_cons.mpr ⟨gw_35, List.forall_mem_cons.mpr ⟨gw_36, List.forall_mem_cons.mpr ⟨gw_37, List.forall_mem_cons.mpr ⟨gw_38, List.forall_mem_cons.mpr ⟨gw_39, List.forall_mem_cons.mpr ⟨gw_40, List.forall_mem_cons.mpr ⟨gw_41, List.forall_mem_cons.mpr ⟨gw_42, List.forall_mem_cons.mpr ⟨gw_43, List.forall_mem_cons.mpr ⟨gw_44, List.forall_mem_cons.mpr ⟨gw_45, List.forall_mem_cons.mpr ⟨gw_46, List.forall_mem_cons.mpr ⟨gw_47, List.forall_mem_cons.mpr ⟨gw_48, List.forall_mem_cons.mpr ⟨gw_49, List.forall_mem_cons.mpr ⟨gw_50, List.forall_mem_cons.mpr ⟨gw_51, List.forall_mem_cons.mpr ⟨gw_52, List.forall_mem_cons.mpr ⟨gw_wsX110, List.forall_mem_cons.mpr ⟨gw_wsX120, List.forall_mem_cons.mpr ⟨gw_wsX100, List.forall_mem_cons.mpr ⟨gw_wsX60, List.forall_mem_cons.mpr ⟨gw_wsX30, List.forall_mem_cons.mpr ⟨gw_wsX10, List.forall_mem_cons.mpr ⟨gw_wsX20, List.forall_mem_cons.mpr ⟨gw_wsX80, List.forall_mem_cons.mpr ⟨gw_wsX70, List.forall_mem_cons.mpr ⟨gw_wsX40, List.forall_mem_cons.mpr ⟨gw_wsX50, List.forall_mem_cons.mpr ⟨gw_wsX90, fun _ h => absurd h List.not_mem_nil⟩⟩⟩⟩⟩⟩⟩⟩⟩⟩⟩⟩⟩⟩⟩⟩⟩⟩⟩⟩⟩⟩⟩⟩⟩⟩⟩⟩⟩⟩⟩⟩⟩⟩⟩⟩⟩⟩⟩⟩⟩⟩⟩⟩⟩⟩⟩⟩⟩⟩⟩⟩⟩⟩⟩⟩⟩⟩⟩⟩⟩⟩⟩⟩⟩
theorem BW_good : ∀ w ∈ BW, goodWord w = true := fun w h => by
  obtain ⟨L, h1, h2⟩ := List.mem_flatten.mp h
  exact gwL L h1 w h2
