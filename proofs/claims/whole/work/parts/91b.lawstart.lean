set_option maxRecDepth 100000 in
set_option maxHeartbeats 4000000 in
/-- THE LAW, from its entry: both objects are made, then the loop -/
theorem law_start {K : XS} {G : GS} {Q : State → Prop} {ret0 : Option FieldType} {b L : Nat} {xs : Nat → Int32} (C : Cx K G cL_law RL 4 ret0 room_1) (hX : LawX K G b L xs) (hL : L ≤ 3584) (hend : ∀ cells slots n V R lv, cells ≤ 600000 → slots ≤ 7302250 → Xw K G cells slots Q n V R 1278 lv [.int (iI 1)]) : Xw K G 0 0 Q 0 (fun _ _ => 0) (fun _ _ => none) 0 [(0, .ref b)] [] := by
  refine x_newO (ci := 10) C ok_Class (by decide) dL_law_0 rfl q_0_0 q_0_1 q_0_2 (Nat.le_of_ble_eq_true rfl) (Nat.le_of_ble_eq_true rfl) ?_
  refine x_dup C dL_law_3 rfl ?_
  refine x_runU (r_callI C (ce_X11_init) (m_class0 G 1 _ _ rfl (fun _ => rfl)) rfl rfl dL_law_4 q_0_7 q_0_8 rfl rfl rfl ⟨Nat.le_of_ble_eq_true rfl, Nat.le_of_ble_eq_true rfl⟩ ⟨rfl, rfl⟩ ⟨Nat.le_of_ble_eq_true rfl, Nat.le_of_ble_eq_true rfl⟩ (Nat.le_of_ble_eq_true rfl)) (fun v1 u1 hp1 => ?_)
  obtain ⟨V1, R1, rfl, rfl, -, -, hV1, hR1, h37, hn2, hn7, hn35⟩ := hp1
  show Xw K G 42 8757 Q 42 V1 R1 7 [(0, .ref b)] [.ref (aG G 0)]
  refine x_astore_n C dL_law_7 rfl (by decide) (lv' := [(0, .ref b), (1, .ref (aG G 0))]) rfl ?_
  refine x_newO (ci := 11) C ok_Model (by decide) dL_law_8 rfl q_0_3 q_0_4 q_0_5 (Nat.le_of_ble_eq_true rfl) (Nat.le_of_ble_eq_true rfl) ?_
  refine x_dup C dL_law_11 rfl ?_
  refine x_runU (r_callI C (ce_X12_init) (m_model42 G 43 _ _ rfl (fun _ => rfl)) rfl rfl dL_law_12 q_3_21 q_3_22 rfl rfl rfl ⟨Nat.le_of_ble_eq_true rfl, Nat.le_of_ble_eq_true rfl⟩ ⟨rfl, rfl⟩ ⟨Nat.le_of_ble_eq_true rfl, Nat.le_of_ble_eq_true rfl⟩ (Nat.le_of_ble_eq_true rfl)) (fun v2 u2 hp2 => ?_)
  obtain ⟨V2, R2, rfl, rfl, hV2, hR2, hV3, hRR⟩ := hp2
  show Xw K G 67 12133 Q 67 V2 R2 15 [(0, .ref b), (1, .ref (aG G 0))] [.ref (aG G 42)]
  refine x_astore_n C dL_law_15 rfl (by decide) (lv' := [(0, .ref b), (1, .ref (aG G 0)), (2, .ref (aG G 42))]) rfl ?_
  refine x_iconst C dL_law_16 ?_
  refine x_istore_n C dL_law_17 rfl (by decide) (lv' := [(0, .ref b), (1, .ref (aG G 0)), (2, .ref (aG G 42)), (3, .int (iI 0))]) rfl ?_
  have eV : ∀ c, c < 42 → V2 c = V1 c := fun c h => (hV2 c h).trans (uC_n (by omega))
  have eR : ∀ c, c < 42 → R2 c = R1 c := fun c h => (hR2 c h).trans (uC_n (by omega))
  exact law_loop C hX hL hend 513 0 67 V2 R2 67 12133 (by omega) (by omega) (by omega) (start_rel (start_S eV eR hV1 h37 hV3 hn2 hn7 hn35 (start_LR eR hR1 hRR))) (by omega) (by omega)
