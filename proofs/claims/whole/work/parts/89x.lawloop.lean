set_option maxRecDepth 100000 in
set_option maxHeartbeats 4000000 in
/-- THE LAW'S LOOP: at its head, with i ints read, both sides stand alike -/
theorem law_loop {K : XS} {G : GS} {Q : State → Prop} {ret0 : Option FieldType} {b L : Nat} {xs : Nat → Int32} (C : Cx K G cL_law RL 4 ret0 room_1) (hX : LawX K G b L xs) (hL : L ≤ 3584) (hend : ∀ cells slots n V R lv, cells ≤ 600000 → slots ≤ 7302250 → Xw K G cells slots Q n V R 1278 lv [.int (iI 1)]) : ∀ (k : Nat) (i : Int) (n : Nat) (V : Nat → Int → Int) (R : Nat → Int → Option Nat) (cells slots : Nat), 0 ≤ i → i ≤ 3600 → (L : Int) - i < 7 * k → Rel n V R → cells + 64 * k ≤ 600000 → slots + 192 * k ≤ 7302250 → Xw K G cells slots Q n V R 18 [(0, .ref b), (1, .ref (aG G 0)), (2, .ref (aG G 42)), (3, .int (iI i))] [] := by
  intro k
  induction k with
  | zero =>
    intro i n V R cells slots h0 hi hk h hc hs
    refine x_iload_n C 3 dL_law_18 rfl rfl ?_
    refine x_aload_n C 0 dL_law_19 rfl rfl ?_
    refine x_slen C hX dL_law_20 ?_
    refine x_bipush C dL_law_21 (w := 7) (by decide) ?_
    refine x_isub C dL_law_23 ?_
    refine x_icmp_gt C dL_law_24 (tgt := 1277) (by decide) (by constructor <;> omega) (by constructor <;> omega) (fun q => ?_) (fun q => ?_)
    · refine x_iconst C dL_law_1277 ?_
      exact hend _ _ _ _ _ _ (by omega) (by omega)
    · exfalso; omega
  | succ k ih =>
    intro i n V R cells slots h0 hi hk h0' hc hs
    refine x_clip ?_
    obtain ⟨h, hE2, hE7⟩ := h0'.clip
    generalize clipR R = R at h hE2 hE7 ⊢
    refine x_iload_n C 3 dL_law_18 rfl rfl ?_
    refine x_aload_n C 0 dL_law_19 rfl rfl ?_
    refine x_slen C hX dL_law_20 ?_
    refine x_bipush C dL_law_21 (w := 7) (by decide) ?_
    refine x_isub C dL_law_23 ?_
    refine x_icmp_gt C dL_law_24 (tgt := 1277) (by decide) (by constructor <;> omega) (by constructor <;> omega) (fun q => ?_) (fun q => ?_)
    · refine x_iconst C dL_law_1277 ?_
      exact hend _ _ _ _ _ _ (by omega) (by omega)
    · have hi7 : 0 ≤ i ∧ i + 7 ≤ L := by omega
      have kk : ∀ n2 V2 R2, Rel n2 V2 R2 → Xw K G (cells + 64) (slots + 192) Q n2 V2 R2 1271 [(0, .ref b), (1, .ref (aG G 0)), (2, .ref (aG G 42)), (3, .int (iI i))] [] := fun n2 V2 R2 hR => by
        refine x_iinc C 3 dL_law_1271 rfl (by decide) (lv' := [(0, .ref b), (1, .ref (aG G 0)), (2, .ref (aG G 42)), (3, .int (iI (i + 7)))]) rfl ?_
        refine x_goto C dL_law_1274 (tgt := 18) (by decide) ?_
        exact ih (i + 7) n2 V2 R2 _ _ (by omega) (by omega) (by omega) hR (by omega) (by omega)
      refine x_aload_n C 0 dL_law_27 rfl rfl ?_
      refine x_iload_n C 3 dL_law_28 rfl rfl ?_
      refine x_sld C hX (by omega) (by omega) dL_law_29 ?_
      refine x_bipush C dL_law_30 (w := 31) (by decide) ?_
      refine x_iand C dL_law_32 ?_
      have hv := zAnd_le (a := 31) (b := scr xs i) ⟨by decide, by decide⟩
      rw [zAnd_c] at hv
      generalize zAnd (scr xs i) 31 = w at hv ⊢
      have hcs : cells + 64 ≤ 600000 ∧ slots + 192 ≤ 7302250 := by omega
      by_cases w31 : w = 31
      · refine x_tout C dL_law_33 (tgt := 1271) (by decide) (by constructor <;> omega) (Or.inr (by omega)) ?_
        exact x_wid (by omega) (by omega) (kk _ _ _ h)
      · rcases (show w = 0 ∨ w = 1 ∨ w = 2 ∨ w = 3 ∨ w = 4 ∨ w = 5 ∨ w = 6 ∨ w = 7 ∨ w = 8 ∨ w = 9 ∨ w = 10 ∨ w = 11 ∨ w = 12 ∨ w = 13 ∨ w = 14 ∨ w = 15 ∨ w = 16 ∨ w = 17 ∨ w = 18 ∨ w = 19 ∨ w = 20 ∨ w = 21 ∨ w = 22 ∨ w = 23 ∨ w = 24 ∨ w = 25 ∨ w = 26 ∨ w = 27 ∨ w = 28 ∨ w = 29 ∨ w = 30 by omega) with h33 | h33 | h33 | h33 | h33 | h33 | h33 | h33 | h33 | h33 | h33 | h33 | h33 | h33 | h33 | h33 | h33 | h33 | h33 | h33 | h33 | h33 | h33 | h33 | h33 | h33 | h33 | h33 | h33 | h33 | h33
        · exact x_tin C 0 h33 dL_law_33 (by constructor <;> decide) (by decide) (by decide) (off := 139) rfl (tgt := 172) (by decide) (cs_0 C hX hL hi7 h hcs kk)
        · exact x_tin C 1 h33 dL_law_33 (by constructor <;> decide) (by decide) (by decide) (off := 182) rfl (tgt := 215) (by decide) (cs_1 C hX hL hi7 h hcs kk)
        · exact x_tin C 2 h33 dL_law_33 (by constructor <;> decide) (by decide) (by decide) (off := 257) rfl (tgt := 290) (by decide) (cs_2 C hX hL hi7 h hcs kk)
        · exact x_tin C 3 h33 dL_law_33 (by constructor <;> decide) (by decide) (by decide) (off := 270) rfl (tgt := 303) (by decide) (cs_3 C hX hL hi7 h hcs kk)
        · exact x_tin C 4 h33 dL_law_33 (by constructor <;> decide) (by decide) (by decide) (off := 323) rfl (tgt := 356) (by decide) (cs_4 C hX hL hi7 h hcs kk)
        · exact x_tin C 5 h33 dL_law_33 (by constructor <;> decide) (by decide) (by decide) (off := 346) rfl (tgt := 379) (by decide) (cs_5 C hX hL hi7 h hcs kk)
        · exact x_tin C 6 h33 dL_law_33 (by constructor <;> decide) (by decide) (by decide) (off := 379) rfl (tgt := 412) (by decide) (cs_6 C hX hL hi7 h hcs kk)
        · exact x_tin C 7 h33 dL_law_33 (by constructor <;> decide) (by decide) (by decide) (off := 412) rfl (tgt := 445) (by decide) (cs_7 C hX hL hi7 h hcs kk)
        · exact x_tin C 8 h33 dL_law_33 (by constructor <;> decide) (by decide) (by decide) (off := 435) rfl (tgt := 468) (by decide) (cs_8 C hX hL hi7 h hcs kk)
        · exact x_tin C 9 h33 dL_law_33 (by constructor <;> decide) (by decide) (by decide) (off := 468) rfl (tgt := 501) (by decide) (cs_9 C hX hL hi7 h hcs kk)
        · exact x_tin C 10 h33 dL_law_33 (by constructor <;> decide) (by decide) (by decide) (off := 521) rfl (tgt := 554) (by decide) (cs_10 C hX hL hi7 h hcs kk)
        · exact x_tin C 11 h33 dL_law_33 (by constructor <;> decide) (by decide) (by decide) (off := 564) rfl (tgt := 597) (by decide) (cs_11 C hX hL hi7 h hcs kk)
        · exact x_tin C 12 h33 dL_law_33 (by constructor <;> decide) (by decide) (by decide) (off := 627) rfl (tgt := 660) (by decide) (cs_12 C hX hL hi7 h hcs kk)
        · exact x_tin C 13 h33 dL_law_33 (by constructor <;> decide) (by decide) (by decide) (off := 661) rfl (tgt := 694) (by decide) (cs_13 C hX hL hi7 h hcs kk)
        · exact x_tin C 14 h33 dL_law_33 (by constructor <;> decide) (by decide) (by decide) (off := 694) rfl (tgt := 727) (by decide) (cs_14 C hX hL hi7 h hcs kk)
        · exact x_tin C 15 h33 dL_law_33 (by constructor <;> decide) (by decide) (by decide) (off := 718) rfl (tgt := 751) (by decide) (cs_15 C hX hL hi7 h hcs kk)
        · exact x_tin C 16 h33 dL_law_33 (by constructor <;> decide) (by decide) (by decide) (off := 731) rfl (tgt := 764) (by decide) (cs_16 C hX hL hi7 h hcs kk)
        · exact x_tin C 17 h33 dL_law_33 (by constructor <;> decide) (by decide) (by decide) (off := 744) rfl (tgt := 777) (by decide) (cs_17 C hX hL hi7 h hcs kk)
        · exact x_tin C 18 h33 dL_law_33 (by constructor <;> decide) (by decide) (by decide) (off := 777) rfl (tgt := 810) (by decide) (cs_18 C hX hL hi7 h hcs kk)
        · exact x_tin C 19 h33 dL_law_33 (by constructor <;> decide) (by decide) (by decide) (off := 830) rfl (tgt := 863) (by decide) (cs_19 C hX hL hi7 h hcs kk)
        · exact x_tin C 20 h33 dL_law_33 (by constructor <;> decide) (by decide) (by decide) (off := 853) rfl (tgt := 886) (by decide) (cs_20 C hX hL hi7 h hcs kk)
        · exact x_tin C 21 h33 dL_law_33 (by constructor <;> decide) (by decide) (by decide) (off := 866) rfl (tgt := 899) (by decide) (cs_21 C hX hL hi7 h hcs kk)
        · exact x_tin C 22 h33 dL_law_33 (by constructor <;> decide) (by decide) (by decide) (off := 890) rfl (tgt := 923) (by decide) (cs_22 C hX hL hi7 h hcs kk)
        · exact x_tin C 23 h33 dL_law_33 (by constructor <;> decide) (by decide) (by decide) (off := 924) rfl (tgt := 957) (by decide) (cs_23 C hX hL hi7 h hcs kk)
        · exact x_tin C 24 h33 dL_law_33 (by constructor <;> decide) (by decide) (by decide) (off := 977) rfl (tgt := 1010) (by decide) (cs_24 C hX hL hi7 h hcs kk)
        · exact x_tin C 25 h33 dL_law_33 (by constructor <;> decide) (by decide) (by decide) (off := 1010) rfl (tgt := 1043) (by decide) (cs_25 C hX hL hi7 h hE2 hcs kk)
        · exact x_tin C 26 h33 dL_law_33 (by constructor <;> decide) (by decide) (by decide) (off := 1023) rfl (tgt := 1056) (by decide) (cs_26 C hX hL hi7 h hE7 hcs kk)
        · exact x_tin C 27 h33 dL_law_33 (by constructor <;> decide) (by decide) (by decide) (off := 1036) rfl (tgt := 1069) (by decide) (cs_27 C hX hL hi7 h hcs kk)
        · exact x_tin C 28 h33 dL_law_33 (by constructor <;> decide) (by decide) (by decide) (off := 1059) rfl (tgt := 1092) (by decide) (cs_28 C hX hL hi7 h hcs kk)
        · exact x_tin C 29 h33 dL_law_33 (by constructor <;> decide) (by decide) (by decide) (off := 1102) rfl (tgt := 1135) (by decide) (cs_29 C hX hL hi7 h hcs kk)
        · exact x_tin C 30 h33 dL_law_33 (by constructor <;> decide) (by decide) (by decide) (off := 1175) rfl (tgt := 1208) (by decide) (cs_30 C hX hL hi7 h hcs kk)
