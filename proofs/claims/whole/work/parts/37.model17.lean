/-- the first place where told grades and an opening's differ -/
def othP (gr it : Int → Int) (len size r : Int) : Prop := (0 ≤ r ∧ r < len ∧ r < size ∧ it r ≠ gr r ∧ ∀ i, 0 ≤ i → i < r → it i = gr i) ∨ ((∀ i, 0 ≤ i → i < len → i < size → it i = gr i) ∧ r = (if len = size then -1 else min len size))
theorem othP_u {gr it : Int → Int} {len size a b : Int} (h : othP gr it len size a) (h' : othP gr it len size b) : a = b := by
  rcases h with ⟨h0, h1, h2, h3, h4⟩ | ⟨h0, h1⟩ <;> rcases h' with ⟨h0', h1', h2', h3', h4'⟩ | ⟨h0', h1'⟩
  · rcases Int.lt_trichotomy a b with q | q | q
    · exact absurd (h4' a h0 q) h3
    · exact q
    · exact absurd (h4 b h0' q) h3'
  · exact absurd (h0' a h0 h1 h2) h3
  · exact absurd (h0 b h0' h1' h2') h3'
  · rw [h1, h1']
noncomputable def tellR (r t L : Int) (f : Int → Int → Int) (m : Int) (pr : Int → Int) (g : Int) (it : Int → Int) (size res : Int) : Prop := othP (fun i => opG r t L f m pr g (lat (opL r t L f m pr g) i)) it ((opL r t L f m pr g).length : Int) size res
noncomputable def tellM (V : Nat → Int → Int) (pr : Int → Int) (g s res : Int) : Prop := tellR (V 42 0) (V 42 1) (V 42 2) (FM V) (V 42 4) pr g (V (60 + s.toNat)) (V 65 s) res

set_option maxRecDepth 100000 in
set_option maxHeartbeats 4000000 in
theorem m_X12_otherwise (G : GS) (n : Nat) (V : Nat → Int → Int) (R : Nat → Int → Option Nat) (s : Int) (t : Int) (hn : 67 ≤ n) (hLR : LR R) (hl : LogOk V) (hru : RulesOk (V 44)) (ht : 0 ≤ t ∧ t ≤ 3) (hL1 : 1 ≤ V 42 2) (hs : 0 ≤ s ∧ s ≤ 3) (hsz : ∀ x, 0 ≤ x → x ≤ 3 → 0 ≤ V 65 x ∧ V 65 x ≤ 40) : Cn G yX12_otherwise cX12_otherwise 4 (some .int) (rmk 7 0 0 177) [.ref (aG G 42), .int (iI s), .int (iI t)] n V R 0 0 (fun vv uu => ∃ (r : Int), ∃ (V1 : Nat → Int → Int), vv = some (.int (iI r)) ∧ uu = (n, V1, R) ∧ (FrL V V1) ∧ (tellM V (V 44) t s r) ∧ (-1 ≤ r ∧ r ≤ 12)) := by
  refine Cn.of (by decide) (Nat.le_of_ble_eq_true rfl) (fun K C hct => ?_)
  show Xw K G 0 0 _ n V R 0 [(0, .ref (aG G 42)), (1, .int (iI s)), (2, .int (iI t))] []
  obtain ⟨h1, h2, h3, h5, h4, hF⟩ := id hl
  obtain ⟨hkf, hsv, hpr, hth⟩ := id hru
  obtain ⟨q, hq⟩ : ∃ q : Nat, q = 60 + s.toNat := ⟨_, rfl⟩
  have hs2 := hsz s hs.1 hs.2
  refine x_aload_n C 0 dX12_otherwise_0 rfl rfl ?_
  refine x_iload_n C 2 dX12_otherwise_1 rfl rfl ?_
  refine x_runU (r_callV C ok_Model 42 (lt67 hn rfl) rfl (ce_X12_lists) (m_X12_lists G n V R (t) hn hLR (by first | assumption | omega | decide) (by first | assumption | omega | decide) (by first | assumption | omega | decide) (by first | assumption | omega | decide)) rfl dX12_otherwise_2 q_37_18 q_37_19 q_37_20 rfl rfl ⟨Nat.le_of_ble_eq_true rfl, Nat.le_of_ble_eq_true rfl⟩ ⟨rfl, rfl⟩ ⟨Nat.le_of_ble_eq_true rfl, Nat.le_of_ble_eq_true rfl⟩ (Nat.le_of_ble_eq_true rfl)) (fun v2 u2 hp2 => ?_)
  obtain ⟨V3, rfl, rfl, hFo, hSo, hTo, hLo⟩ := hp2
  show Xw K G 0 0 _ n V3 R 5 [(0, .ref (aG G 42)), (1, .int (iI s)), (2, .int (iI t))] []
  have hlen := opLM_len (V := V) (g := t) (by omega)
  have hl31 := hLo.1
  have e65 : V3 65 = V 65 := funext fun z => hFo 65 z (by decide) (by decide) (by decide) (by decide) (by decide) (by decide) (by omega)
  have eq0 : V3 q = V q := funext fun z => hFo q z (by omega) (by omega) (by omega) (by omega) (by omega) (by omega) (by omega)
  refine x_iconst C dX12_otherwise_5 ?_
  refine x_istore_n C dX12_otherwise_6 rfl (by decide) (lv' := [(0, .ref (aG G 42)), (1, .int (iI s)), (2, .int (iI t)), (3, .int (iI 0))]) rfl ?_
  have lp_7 : ∀ (fuel : Nat) (k : Int), (0 ≤ k ∧ k ≤ ((opLM V t).length : Int)) → (k = 0 ∨ k ≤ V 65 s) → (∀ i, 0 ≤ i → i < k → V q i = opGM V t (lat (opLM V t) i)) → (((opLM V t).length : Int) - k) < (fuel : Int) → Xw K G 0 0 (EndQ K G 0 0 (fun vv uu => ∃ (r : Int), ∃ (V1 : Nat → Int → Int), vv = some (.int (iI r)) ∧ uu = (n, V1, R) ∧ (FrL V V1) ∧ (tellM V (V 44) t s r) ∧ (-1 ≤ r ∧ r ≤ 12))) n V3 R 7 [(0, .ref (aG G 42)), (1, .int (iI s)), (2, .int (iI t)), (3, .int (iI k))] [] := by
    intro fuel7
    induction fuel7 with
    | zero => intro k hk hk2 he hfu7; exfalso; omega
    | succ fuel7 ih7 =>
      intro k hk hk2 he hfu7
      refine x_iload_n C 3 dX12_otherwise_7 rfl rfl ?_
      refine x_aload_n C 0 dX12_otherwise_8 rfl rfl ?_
      refine x_geti C ok_Model 42 31 dX12_otherwise_9 (lt67 hn rfl) rfl (by decide) rfl q_37_17 rfl (kz := 31) rfl (fun rg9 => ?_)
      refine x_icmp_ge C dX12_otherwise_12 (tgt := 52) (by decide) (by first | assumption | (constructor <;> omega)) (by first | assumption | (constructor <;> omega)) (fun h12 => ?_) (fun h12 => ?_)
      · skip
        refine x_aload_n C 0 dX12_otherwise_52 rfl rfl ?_
        refine x_geti C ok_Model 42 31 dX12_otherwise_53 (lt67 hn rfl) rfl (by decide) rfl q_37_17 rfl (kz := 31) rfl (fun rg53 => ?_)
        refine x_aload_n C 0 dX12_otherwise_56 rfl rfl ?_
        refine x_getr C ok_Model 42 40 (d := 65) dX12_otherwise_57 (lt67 hn rfl) rfl (by decide) rfl q_4_21 rfl (kz := 40) rfl (lr_42_40 hLR) ?_
        refine x_iload_n C 1 dX12_otherwise_60 rfl rfl ?_
        refine x_iald C 65 dX12_otherwise_61 (lt67 hn rfl) rfl (by refine ⟨?_, ?_⟩ <;> omega) (fun rg61 => ?_)
        refine x_top (b := (V 65 s)) (by rw [e65]) ?_
        refine x_icmp_ne C dX12_otherwise_62 (tgt := 69) (by decide) (by first | assumption | (rw [← e65]; assumption) | (constructor <;> omega)) (by first | assumption | (rw [← e65]; assumption) | (constructor <;> omega)) (fun h62 => ?_) (fun h62 => ?_)
        · skip
          refine x_aload_n C 0 dX12_otherwise_69 rfl rfl ?_
          refine x_geti C ok_Model 42 31 dX12_otherwise_70 (lt67 hn rfl) rfl (by decide) rfl q_37_17 rfl (kz := 31) rfl (fun rg70 => ?_)
          refine x_aload_n C 0 dX12_otherwise_73 rfl rfl ?_
          refine x_getr C ok_Model 42 40 (d := 65) dX12_otherwise_74 (lt67 hn rfl) rfl (by decide) rfl q_4_21 rfl (kz := 40) rfl (lr_42_40 hLR) ?_
          refine x_iload_n C 1 dX12_otherwise_77 rfl rfl ?_
          refine x_iald C 65 dX12_otherwise_78 (lt67 hn rfl) rfl (by refine ⟨?_, ?_⟩ <;> omega) (fun rg78 => ?_)
          refine x_top (b := (V 65 s)) (by rw [e65]) ?_
          refine x_min C dX12_otherwise_79 q_24_20 q_10_5 q_5_22 q_10_6 ⟨Nat.le_of_ble_eq_true rfl, Nat.le_of_ble_eq_true rfl⟩ ⟨Nat.zero_le _, Nat.zero_le _⟩ (by first | assumption | (rw [← e65]; assumption) | (constructor <;> omega)) (by first | assumption | (rw [← e65]; assumption) | (constructor <;> omega)) ?_
          refine x_iret C dX12_otherwise_82 ⟨_, _, rfl, rfl, ?_, ?_, ?_⟩
          · exact hFo
          · subst hq; show othP (fun i => opGM V t (lat (opLM V t) i)) (V (60 + s.toNat)) ((opLM V t).length : Int) (V 65 s) _; refine Or.inr ⟨fun i a b c => he i a (by omega), ?_⟩; first | (rw [if_pos (by omega)]) | (rw [if_neg (by omega)]; omega)
          · omega
        · skip
          refine x_iconst C dX12_otherwise_65 ?_
          refine x_goto C dX12_otherwise_66 (tgt := 82) (by decide) ?_
          refine x_iret C dX12_otherwise_82 ⟨_, _, rfl, rfl, ?_, ?_, ?_⟩
          · exact hFo
          · subst hq; show othP (fun i => opGM V t (lat (opLM V t) i)) (V (60 + s.toNat)) ((opLM V t).length : Int) (V 65 s) _; refine Or.inr ⟨fun i a b c => he i a (by omega), ?_⟩; first | (rw [if_pos (by omega)]) | (rw [if_neg (by omega)]; omega)
          · omega
      · skip
        refine x_iload_n C 3 dX12_otherwise_15 rfl rfl ?_
        refine x_aload_n C 0 dX12_otherwise_16 rfl rfl ?_
        refine x_getr C ok_Model 42 40 (d := 65) dX12_otherwise_17 (lt67 hn rfl) rfl (by decide) rfl q_4_21 rfl (kz := 40) rfl (lr_42_40 hLR) ?_
        refine x_iload_n C 1 dX12_otherwise_20 rfl rfl ?_
        refine x_iald C 65 dX12_otherwise_21 (lt67 hn rfl) rfl (by refine ⟨?_, ?_⟩ <;> omega) (fun rg21 => ?_)
        refine x_top (b := (V 65 s)) (by rw [e65]) ?_
        have g65 : Rg (V 65 s) := by rw [← e65]; exact rg21
        refine x_icmp_ge C dX12_otherwise_22 (tgt := 52) (by decide) (by first | assumption | (constructor <;> omega)) (by first | assumption | (constructor <;> omega)) (fun h22 => ?_) (fun h22 => ?_)
        · skip
          refine x_aload_n C 0 dX12_otherwise_52 rfl rfl ?_
          refine x_geti C ok_Model 42 31 dX12_otherwise_53 (lt67 hn rfl) rfl (by decide) rfl q_37_17 rfl (kz := 31) rfl (fun rg53 => ?_)
          refine x_aload_n C 0 dX12_otherwise_56 rfl rfl ?_
          refine x_getr C ok_Model 42 40 (d := 65) dX12_otherwise_57 (lt67 hn rfl) rfl (by decide) rfl q_4_21 rfl (kz := 40) rfl (lr_42_40 hLR) ?_
          refine x_iload_n C 1 dX12_otherwise_60 rfl rfl ?_
          refine x_iald C 65 dX12_otherwise_61 (lt67 hn rfl) rfl (by refine ⟨?_, ?_⟩ <;> omega) (fun rg61 => ?_)
          refine x_top (b := (V 65 s)) (by rw [e65]) ?_
          refine x_icmp_ne C dX12_otherwise_62 (tgt := 69) (by decide) (by first | assumption | (rw [← e65]; assumption) | (constructor <;> omega)) (by first | assumption | (rw [← e65]; assumption) | (constructor <;> omega)) (fun h62 => ?_) (fun h62 => ?_)
          · skip
            refine x_aload_n C 0 dX12_otherwise_69 rfl rfl ?_
            refine x_geti C ok_Model 42 31 dX12_otherwise_70 (lt67 hn rfl) rfl (by decide) rfl q_37_17 rfl (kz := 31) rfl (fun rg70 => ?_)
            refine x_aload_n C 0 dX12_otherwise_73 rfl rfl ?_
            refine x_getr C ok_Model 42 40 (d := 65) dX12_otherwise_74 (lt67 hn rfl) rfl (by decide) rfl q_4_21 rfl (kz := 40) rfl (lr_42_40 hLR) ?_
            refine x_iload_n C 1 dX12_otherwise_77 rfl rfl ?_
            refine x_iald C 65 dX12_otherwise_78 (lt67 hn rfl) rfl (by refine ⟨?_, ?_⟩ <;> omega) (fun rg78 => ?_)
            refine x_top (b := (V 65 s)) (by rw [e65]) ?_
            refine x_min C dX12_otherwise_79 q_24_20 q_10_5 q_5_22 q_10_6 ⟨Nat.le_of_ble_eq_true rfl, Nat.le_of_ble_eq_true rfl⟩ ⟨Nat.zero_le _, Nat.zero_le _⟩ (by first | assumption | (rw [← e65]; assumption) | (constructor <;> omega)) (by first | assumption | (rw [← e65]; assumption) | (constructor <;> omega)) ?_
            refine x_iret C dX12_otherwise_82 ⟨_, _, rfl, rfl, ?_, ?_, ?_⟩
            · exact hFo
            · subst hq; show othP (fun i => opGM V t (lat (opLM V t) i)) (V (60 + s.toNat)) ((opLM V t).length : Int) (V 65 s) _; refine Or.inr ⟨fun i a b c => he i a (by omega), ?_⟩; first | (rw [if_pos (by omega)]) | (rw [if_neg (by omega)]; omega)
            · omega
          · skip
            refine x_iconst C dX12_otherwise_65 ?_
            refine x_goto C dX12_otherwise_66 (tgt := 82) (by decide) ?_
            refine x_iret C dX12_otherwise_82 ⟨_, _, rfl, rfl, ?_, ?_, ?_⟩
            · exact hFo
            · subst hq; show othP (fun i => opGM V t (lat (opLM V t) i)) (V (60 + s.toNat)) ((opLM V t).length : Int) (V 65 s) _; refine Or.inr ⟨fun i a b c => he i a (by omega), ?_⟩; first | (rw [if_pos (by omega)]) | (rw [if_neg (by omega)]; omega)
            · omega
        · skip
          refine x_aload_n C 0 dX12_otherwise_25 rfl rfl ?_
          refine x_getr C ok_Model 42 38 (d := 59) dX12_otherwise_26 (lt67 hn rfl) rfl (by decide) rfl q_4_19 rfl (kz := 38) rfl (lr_42_38 hLR) ?_
          refine x_iload_n C 1 dX12_otherwise_29 rfl rfl ?_
          refine x_aald2 C 59 dX12_otherwise_30 (lt67 hn rfl) rfl (by refine ⟨?_, ?_⟩ <;> omega) ?_
          refine x_topR (d := q) (by exact sh_r hLR hs hq) ?_
          refine x_iload_n C 3 dX12_otherwise_31 rfl rfl ?_
          refine x_lald C q dX12_otherwise_32 (by omega) (tbq (by omega)) (by refine ⟨?_, ?_⟩ <;> omega) (fun rg32 => ?_)
          refine x_aload_n C 0 dX12_otherwise_33 rfl rfl ?_
          refine x_getr C ok_Model 42 33 (d := 55) dX12_otherwise_34 (lt67 hn rfl) rfl (by decide) rfl q_4_13 rfl (kz := 33) rfl (lr_42_33 hLR) ?_
          refine x_iload_n C 3 dX12_otherwise_37 rfl rfl ?_
          refine x_iald C 55 dX12_otherwise_38 (lt67 hn rfl) rfl (by refine ⟨?_, ?_⟩ <;> omega) (fun rg38 => ?_)
          refine x_top (b := (opGM V t (lat (opLM V t) k))) (by exact (hLo.2 k (by omega) (by omega)).2) ?_
          have gG : Rg (opGM V t (lat (opLM V t) k)) := by rw [← (hLo.2 k (by omega) (by omega)).2]; exact rg38
          refine x_i2l C dX12_otherwise_39 (by first | assumption | (constructor <;> omega)) ?_
          refine x_lcmp C dX12_otherwise_40 (by first | assumption | (constructor <;> omega)) (by first | assumption | (constructor <;> omega)) ?_
          refine x_zcmp_eq C dX12_otherwise_41 (tgt := 46) (by decide) (fun h41 => ?_) (fun h41 => ?_)
          · skip
            refine x_iinc C 3 dX12_otherwise_46 rfl (by decide) (lv' := [(0, .ref (aG G 42)), (1, .int (iI s)), (2, .int (iI t)), (3, .int (iI (k + 1)))]) rfl ?_
            refine x_goto C dX12_otherwise_49 (tgt := 7) (by decide) ?_
            exact ih7 ((k + 1)) (by omega) (by omega) (by exact ext_lt he (by rw [← eq0]; assumption)) (by omega)
          · skip
            refine x_iload_n C 3 dX12_otherwise_44 rfl rfl ?_
            refine x_iret C dX12_otherwise_45 ⟨_, _, rfl, rfl, ?_, ?_, ?_⟩
            · exact hFo
            · subst hq; show othP (fun i => opGM V t (lat (opLM V t) i)) (V (60 + s.toNat)) ((opLM V t).length : Int) (V 65 s) _; exact Or.inl ⟨by omega, by omega, by omega, by rw [← eq0]; assumption, he⟩
            · omega
  exact lp_7 ((((opLM V t).length : Int) - 0).toNat + 1) (0) (by omega) (by omega) (by exact fun i a b => by omega) (by omega)
