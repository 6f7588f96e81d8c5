def fk (p : Int) : Int := if p = 5 then 7 else if p = 6 then 9 else p
/-- the place that slot p of the image stands for -/
def src (V : Nat → Int → Int) (p : Int) : Int := if p < 7 then V 42 (fk p) else if p < 39 then V 43 (p - 7) else if p < 46 then V 44 (p - 39) else if p < 110 then V 45 (p - 46) else V 46 (p - 110)
def itX (V : Nat → Int → Int) (kp p : Int) : Int := if kp = 0 then V 48 p else src V p
def PAs (V W : Nat → Int → Int) (kp i : Int) : Prop := W 42 15 = i ∧ W 42 16 = kp ∧ (∀ p, 0 ≤ p → p < i → W 48 p = itX V kp p ∧ src W p = itX V kp p) ∧ (∀ p, i ≤ p → p < 134 → src W p = src V p) ∧ (∀ p, ¬ (0 ≤ p ∧ p < i) → W 48 p = V 48 p) ∧ ∀ q z, q ≠ 43 → q ≠ 44 → q ≠ 45 → q ≠ 46 → q ≠ 48 → ¬ (q = 42 ∧ (z = 0 ∨ z = 1 ∨ z = 2 ∨ z = 3 ∨ z = 4 ∨ z = 7 ∨ z = 9 ∨ z = 15 ∨ z = 16)) → W q z = V q z
theorem fk_i {p i : Int} (h : fk p = fk i) (hp : p < 7) (hi : i < 7) : p = i := by
  unfold fk at h
  repeat' split at h
  all_goals omega
theorem fk_15 {p : Int} (hp : p < 7) : fk p ≠ 15 ∧ fk p ≠ 16 := by
  unfold fk
  repeat' split
  all_goals omega
theorem src_c {V W : Nat → Int → Int} {p : Int} (h0 : p < 7 → W 42 (fk p) = V 42 (fk p)) (h1 : 7 ≤ p → ∀ q, q = 43 ∨ q = 44 ∨ q = 45 ∨ q = 46 → W q = V q) : src W p = src V p := by
  unfold src
  by_cases e : p < 7
  · rw [if_pos e, if_pos e]; exact h0 e
  · rw [if_neg e, if_neg e, h1 (by omega) 43 (by decide), h1 (by omega) 44 (by decide), h1 (by omega) 45 (by decide), h1 (by omega) 46 (by decide)]
theorem pa_0 {V : Nat → Int → Int} {kp : Int} : PAs V (u2 (u2 V 42 16 kp) 42 15 0) kp 0 := by
  refine ⟨by rw [u2_s, u1_s], by rw [u2_s, u1_n (by decide), u2_s, u1_s], fun p a b => by omega, fun p a b => src_c (fun h => ?_) (fun _ q hq => by rw [u2_n (by omega), u2_n (by omega)]), fun p _ => by rw [u2_n (by decide), u2_n (by decide)], fun q z _ _ _ _ _ h => by rw [u2_at, if_neg (by omega), u2_at, if_neg (by omega)]⟩
  have := fk_15 h
  rw [u2_s, u1_n this.1, u2_s, u1_n this.2]
theorem pa_v {V W : Nat → Int → Int} {kp i k : Int} (h : PAs V W kp i) (hi : 0 ≤ i ∧ i < 7) (hk : k = fk i) : W 42 k = src V i := by
  rw [← h.2.2.2.1 i (Int.le_refl _) (by omega), hk]
  unfold src
  rw [if_pos hi.2]
theorem pa_f {V W W1 : Nat → Int → Int} {kp i k v x : Int} (h : PAs V W kp i) (hi : 0 ≤ i ∧ i < 7) (hk : k = fk i) (hv : v = src V i) (h1 : W1 42 15 = W 42 15 + 1) (hx : x = (if W 42 16 = 0 then W 48 (W 42 15) else v)) (h2 : W1 48 = u1 (W 48) (W 42 15) (if W 42 16 = 0 then W 48 (W 42 15) else v)) (h3 : ∀ q z, q ≠ 48 → ¬ (q = 42 ∧ z = 15) → W1 q z = W q z) : PAs V (u2 W1 42 k x) kp (i + 1) := by
  obtain ⟨a1, a2, a3, a4, a5, a6⟩ := h
  rw [← hx] at h2
  have ex : x = itX V kp i := by
    rw [hx, a1, a2, hv, a5 i (by omega)]; rfl
  have k15 := fk_15 hi.2
  rw [← hk] at k15
  have s1 : ∀ p, p ≠ i → src (u2 W1 42 k x) p = src W p := fun p hp => src_c (fun h => by
    have := fk_15 h
    rw [u2_s, u1_n (fun e => hp (fk_i (by rw [e, hk]) h hi.2)), h3 42 _ (by decide) (by omega)]) (fun _ q hq => by
    rw [u2_n (by omega)]; funext z; exact h3 q z (by omega) (by omega))
  refine ⟨by rw [u2_s, u1_n k15.1.symm, h1, a1], by rw [u2_s, u1_n k15.2.symm, h3 42 16 (by decide) (by omega), a2], fun p p0 p1 => ?_, fun p p0 p1 => ?_, fun p hp => ?_, fun q z q1 q2 q3 q4 q5 q6 => ?_⟩
  · by_cases e : p = i
    · subst e
      refine ⟨by rw [u2_n (by decide), h2, a1, u1_s, ex], ?_⟩
      unfold src
      rw [if_pos hi.2, u2_s, hk, u1_s, ex]
    · rw [s1 p e, u2_n (by decide), h2, a1, u1_n e]; exact a3 p p0 (by omega)
  · rw [s1 p (by omega)]; exact a4 p (by omega) p1
  · rw [u2_n (by decide), h2, a1, u1_n (by omega)]; exact a5 p (by omega)
  · have hkk : k = 0 ∨ k = 1 ∨ k = 2 ∨ k = 3 ∨ k = 4 ∨ k = 7 ∨ k = 9 := by
      rw [hk]; unfold fk
      repeat' split
      all_goals omega
    rw [u2_at, if_neg (by omega), h3 q z q5 (by omega)]; exact a6 q z q1 q2 q3 q4 q5 q6
theorem src_r {W : Nat → Int → Int} {c L : Nat} {i z : Int} (hc : (c = 43 ∧ L = 32 ∧ i = 7) ∨ (c = 44 ∧ L = 7 ∧ i = 39) ∨ (c = 45 ∧ L = 64 ∧ i = 46) ∨ (c = 46 ∧ L = 24 ∧ i = 110)) (h0 : 0 ≤ z) (h1 : z < L) : src W (i + z) = W c z := by
  unfold src
  rcases hc with ⟨e1, e2, e3⟩ | ⟨e1, e2, e3⟩ | ⟨e1, e2, e3⟩ | ⟨e1, e2, e3⟩ <;> subst e1 <;> subst e2 <;> subst e3
  · rw [if_neg (by omega), if_pos (by omega)]; congr 1; omega
  · rw [if_neg (by omega), if_neg (by omega), if_pos (by omega)]; congr 1; omega
  · rw [if_neg (by omega), if_neg (by omega), if_neg (by omega), if_pos (by omega)]; congr 1; omega
  · rw [if_neg (by omega), if_neg (by omega), if_neg (by omega), if_neg (by omega)]; congr 1; omega
theorem src_o {V W : Nat → Int → Int} {c L : Nat} {i p : Int} (hc : (c = 43 ∧ L = 32 ∧ i = 7) ∨ (c = 44 ∧ L = 7 ∧ i = 39) ∨ (c = 45 ∧ L = 64 ∧ i = 46) ∨ (c = 46 ∧ L = 24 ∧ i = 110)) (hp : ¬ (i ≤ p ∧ p < i + L)) (hp2 : p < 134) (h : ∀ q z, q ≠ 48 → q ≠ c → ¬ (q = 42 ∧ z = 15) → W q z = V q z) : src W p = src V p := by
  unfold src
  by_cases e0 : p < 7
  · have := fk_15 e0
    rw [if_pos e0, if_pos e0, h 42 _ (by decide) (by omega) (by omega)]
  · rw [if_neg e0, if_neg e0]
    by_cases e1 : p < 39
    · rw [if_pos e1, if_pos e1, h 43 _ (by decide) (by omega) (by omega)]
    · rw [if_neg e1, if_neg e1]
      by_cases e2 : p < 46
      · rw [if_pos e2, if_pos e2, h 44 _ (by decide) (by omega) (by omega)]
      · rw [if_neg e2, if_neg e2]
        by_cases e3 : p < 110
        · rw [if_pos e3, if_pos e3, h 45 _ (by decide) (by omega) (by omega)]
        · rw [if_neg e3, if_neg e3, h 46 _ (by decide) (by omega) (by omega)]
theorem pa_r {V W W1 : Nat → Int → Int} {kp i j : Int} {c L : Nat} (h : PAs V W kp i) (hc : (c = 43 ∧ L = 32 ∧ i = 7) ∨ (c = 44 ∧ L = 7 ∧ i = 39) ∨ (c = 45 ∧ L = 64 ∧ i = 46) ∨ (c = 46 ∧ L = 24 ∧ i = 110)) (h1 : W1 42 15 = W 42 15 + L) (h2 : ∀ z : Int, 0 ≤ z → z < L → W1 48 (W 42 15 + z) = (if W 42 16 = 0 then W 48 (W 42 15 + z) else W c z) ∧ W1 c z = (if W 42 16 = 0 then W 48 (W 42 15 + z) else W c z)) (h3 : ∀ p, ¬ (W 42 15 ≤ p ∧ p < W 42 15 + L) → W1 48 p = W 48 p) (h4 : ∀ q z, q ≠ 48 → q ≠ c → ¬ (q = 42 ∧ z = 15) → W1 q z = W q z) (hj : j = i + L := by decide) : PAs V W1 kp j := by
  obtain ⟨a1, a2, a3, a4, a5, a6⟩ := h
  rw [a1] at h1 h2 h3
  rw [a2] at h2
  subst hj
  have i7 : 7 ≤ i := by omega
  refine ⟨h1, by rw [h4 42 16 (by decide) (by omega) (by omega), a2], fun p p0 p1 => ?_, fun p p0 p1 => ?_, fun p hp => ?_, fun q z q1 q2 q3 q4 q5 q6 => ?_⟩
  · by_cases e : p < i
    · rw [h3 p (by omega), src_o hc (by omega) (by omega) h4]; exact a3 p p0 e
    · obtain ⟨z, rfl⟩ : ∃ z, p = i + z := ⟨p - i, by omega⟩
      have k := h2 z (by omega) (by omega)
      have k1 : (if kp = 0 then W 48 (i + z) else W c z) = itX V kp (i + z) := by
        rw [a5 (i + z) (by omega), ← src_r (W := W) hc (by omega) (by omega), a4 (i + z) (by omega) (by omega)]; rfl
      rw [src_r hc (by omega) (by omega), k.1, k.2, k1]; exact ⟨rfl, rfl⟩
  · rw [src_o hc (by omega) p1 h4]; exact a4 p (by omega) p1
  · rw [h3 p (by omega)]; exact a5 p (by omega)
  · rw [h4 q z q5 (by omega) (by omega)]; exact a6 q z q1 q2 q3 q4 q5 q6

set_option maxRecDepth 100000 in
set_option maxHeartbeats 4000000 in
theorem m_X12_passesAll (G : GS) (n : Nat) (V : Nat → Int → Int) (R : Nat → Int → Option Nat) (kp : Int) (hn : 67 ≤ n) (hLR : LR R) (hk : kp = 0 ∨ kp = 1) : Cn G yX12_passesAll cX12_passesAll 2 (some .int) (rmk 3 0 0 60) [.ref (aG G 42), .int (iI kp)] n V R 0 0 (fun vv uu => ∃ (r : Int), ∃ (V1 : Nat → Int → Int), vv = some (.int (iI r)) ∧ uu = (n, V1, R) ∧ (PAs V V1 kp 134) ∧ (r = V1 42 4)) := by
  refine Cn.of (by decide) (Nat.le_of_ble_eq_true rfl) (fun K C hct => ?_)
  show Xw K G 0 0 _ n V R 0 [(0, .ref (aG G 42)), (1, .int (iI kp))] []
  refine x_aload_n C 0 dX12_passesAll_0 rfl rfl ?_
  refine x_iload_n C 1 dX12_passesAll_1 rfl rfl ?_
  refine x_puti C ok_Model 42 16 dX12_passesAll_2 (lt67 hn rfl) rfl (by decide) rfl q_49_16 rfl rfl (Or.inr ⟨rfl, by first | exact Or.inl rfl | exact Or.inr rfl | omega⟩) (by first | assumption | (constructor <;> omega)) (kz := 16) rfl ?_
  refine x_aload_n C 0 dX12_passesAll_5 rfl rfl ?_
  refine x_iconst C dX12_passesAll_6 ?_
  refine x_puti C ok_Model 42 15 dX12_passesAll_7 (lt67 hn rfl) rfl (by decide) rfl q_49_17 rfl rfl (Or.inl rfl) (by first | assumption | (constructor <;> omega)) (kz := 15) rfl ?_
  have hP0 : PAs V (u2 (u2 V 42 16 kp) 42 15 0) kp 0 := pa_0
  refine x_aload_n C 0 dX12_passesAll_10 rfl rfl ?_
  refine x_aload_n C 0 dX12_passesAll_11 rfl rfl ?_
  refine x_aload_n C 0 dX12_passesAll_12 rfl rfl ?_
  refine x_geti C ok_Model 42 0 dX12_passesAll_13 (lt67 hn rfl) rfl (by decide) rfl q_6_10 rfl (kz := 0) rfl (fun rg13 => ?_)
  refine x_top (b := (V 42 0)) (by first | rfl | (simp only [u2_at]; simp) | (simp only [u2_at]; first | (rw [if_neg (by omega)]) | omega)) ?_
  refine x_runU (r_callV C ok_Model 42 (lt67 hn rfl) rfl (ce_X12_passes) (m_X12_passes G n (u2 (u2 V 42 16 kp) 42 15 0) R (V 42 0) hn hLR (by have := hP0.1; omega) (by exact rg13)) rfl dX12_passesAll_16 q_49_18 q_49_19 q_49_20 rfl rfl ⟨Nat.le_of_ble_eq_true rfl, Nat.le_of_ble_eq_true rfl⟩ ⟨rfl, rfl⟩ ⟨Nat.le_of_ble_eq_true rfl, Nat.le_of_ble_eq_true rfl⟩ (Nat.le_of_ble_eq_true rfl)) (fun v16 u16 hp16 => ?_)
  obtain ⟨W1, rfl, rfl, ha0, hb0, hc0, hd0⟩ := hp16
  show Xw K G 0 0 _ n W1 R 19 [(0, .ref (aG G 42)), (1, .int (iI kp))] [.int (iI (if (u2 (u2 V 42 16 kp) 42 15 0) 42 16 = 0 then (u2 (u2 V 42 16 kp) 42 15 0) 48 ((u2 (u2 V 42 16 kp) 42 15 0) 42 15) else (V 42 0))), .ref (aG G 42)]
  refine x_nm (fun x0 h_x0 => ?_)
  refine x_puti C ok_Model 42 0 dX12_passesAll_19 (lt67 hn rfl) rfl (by decide) rfl q_6_10 rfl rfl (Or.inl rfl) (by rw [h_x0]; exact hd0) (kz := 0) rfl ?_
  have hP1 : PAs V (u2 W1 42 0 x0) kp 1 := pa_f hP0 (by decide) rfl (pa_v hP0 (by decide) rfl) ha0 h_x0 hb0 hc0
  refine x_aload_n C 0 dX12_passesAll_22 rfl rfl ?_
  refine x_aload_n C 0 dX12_passesAll_23 rfl rfl ?_
  refine x_aload_n C 0 dX12_passesAll_24 rfl rfl ?_
  refine x_geti C ok_Model 42 1 dX12_passesAll_25 (lt67 hn rfl) rfl (by decide) rfl q_6_11 rfl (kz := 1) rfl (fun rg25 => ?_)
  refine x_top (b := (W1 42 1)) (by first | rfl | (simp only [u2_at]; simp) | (simp only [u2_at]; first | (rw [if_neg (by omega)]) | omega)) ?_
  refine x_runU (r_callV C ok_Model 42 (lt67 hn rfl) rfl (ce_X12_passes) (m_X12_passes G n (u2 W1 42 0 x0) R (W1 42 1) hn hLR (by have := hP1.1; omega) (by exact rg25)) rfl dX12_passesAll_28 q_49_18 q_49_19 q_49_20 rfl rfl ⟨Nat.le_of_ble_eq_true rfl, Nat.le_of_ble_eq_true rfl⟩ ⟨rfl, rfl⟩ ⟨Nat.le_of_ble_eq_true rfl, Nat.le_of_ble_eq_true rfl⟩ (Nat.le_of_ble_eq_true rfl)) (fun v28 u28 hp28 => ?_)
  obtain ⟨W2, rfl, rfl, ha1, hb1, hc1, hd1⟩ := hp28
  show Xw K G 0 0 _ n W2 R 31 [(0, .ref (aG G 42)), (1, .int (iI kp))] [.int (iI (if (u2 W1 42 0 x0) 42 16 = 0 then (u2 W1 42 0 x0) 48 ((u2 W1 42 0 x0) 42 15) else (W1 42 1))), .ref (aG G 42)]
  refine x_nm (fun x1 h_x1 => ?_)
  refine x_puti C ok_Model 42 1 dX12_passesAll_31 (lt67 hn rfl) rfl (by decide) rfl q_6_11 rfl rfl (Or.inl rfl) (by rw [h_x1]; exact hd1) (kz := 1) rfl ?_
  have hP2 : PAs V (u2 W2 42 1 x1) kp 2 := pa_f hP1 (by decide) rfl (pa_v hP1 (by decide) rfl) ha1 h_x1 hb1 hc1
  refine x_aload_n C 0 dX12_passesAll_34 rfl rfl ?_
  refine x_aload_n C 0 dX12_passesAll_35 rfl rfl ?_
  refine x_aload_n C 0 dX12_passesAll_36 rfl rfl ?_
  refine x_geti C ok_Model 42 2 dX12_passesAll_37 (lt67 hn rfl) rfl (by decide) rfl q_6_12 rfl (kz := 2) rfl (fun rg37 => ?_)
  refine x_top (b := (W2 42 2)) (by first | rfl | (simp only [u2_at]; simp) | (simp only [u2_at]; first | (rw [if_neg (by omega)]) | omega)) ?_
  refine x_runU (r_callV C ok_Model 42 (lt67 hn rfl) rfl (ce_X12_passes) (m_X12_passes G n (u2 W2 42 1 x1) R (W2 42 2) hn hLR (by have := hP2.1; omega) (by exact rg37)) rfl dX12_passesAll_40 q_49_18 q_49_19 q_49_20 rfl rfl ⟨Nat.le_of_ble_eq_true rfl, Nat.le_of_ble_eq_true rfl⟩ ⟨rfl, rfl⟩ ⟨Nat.le_of_ble_eq_true rfl, Nat.le_of_ble_eq_true rfl⟩ (Nat.le_of_ble_eq_true rfl)) (fun v40 u40 hp40 => ?_)
  obtain ⟨W3, rfl, rfl, ha2, hb2, hc2, hd2⟩ := hp40
  show Xw K G 0 0 _ n W3 R 43 [(0, .ref (aG G 42)), (1, .int (iI kp))] [.int (iI (if (u2 W2 42 1 x1) 42 16 = 0 then (u2 W2 42 1 x1) 48 ((u2 W2 42 1 x1) 42 15) else (W2 42 2))), .ref (aG G 42)]
  refine x_nm (fun x2 h_x2 => ?_)
  refine x_puti C ok_Model 42 2 dX12_passesAll_43 (lt67 hn rfl) rfl (by decide) rfl q_6_12 rfl rfl (Or.inl rfl) (by rw [h_x2]; exact hd2) (kz := 2) rfl ?_
  have hP3 : PAs V (u2 W3 42 2 x2) kp 3 := pa_f hP2 (by decide) rfl (pa_v hP2 (by decide) rfl) ha2 h_x2 hb2 hc2
  refine x_aload_n C 0 dX12_passesAll_46 rfl rfl ?_
  refine x_aload_n C 0 dX12_passesAll_47 rfl rfl ?_
  refine x_aload_n C 0 dX12_passesAll_48 rfl rfl ?_
  refine x_geti C ok_Model 42 3 dX12_passesAll_49 (lt67 hn rfl) rfl (by decide) rfl q_6_13 rfl (kz := 3) rfl (fun rg49 => ?_)
  refine x_top (b := (W3 42 3)) (by first | rfl | (simp only [u2_at]; simp) | (simp only [u2_at]; first | (rw [if_neg (by omega)]) | omega)) ?_
  refine x_runU (r_callV C ok_Model 42 (lt67 hn rfl) rfl (ce_X12_passes) (m_X12_passes G n (u2 W3 42 2 x2) R (W3 42 3) hn hLR (by have := hP3.1; omega) (by exact rg49)) rfl dX12_passesAll_52 q_49_18 q_49_19 q_49_20 rfl rfl ⟨Nat.le_of_ble_eq_true rfl, Nat.le_of_ble_eq_true rfl⟩ ⟨rfl, rfl⟩ ⟨Nat.le_of_ble_eq_true rfl, Nat.le_of_ble_eq_true rfl⟩ (Nat.le_of_ble_eq_true rfl)) (fun v52 u52 hp52 => ?_)
  obtain ⟨W4, rfl, rfl, ha3, hb3, hc3, hd3⟩ := hp52
  show Xw K G 0 0 _ n W4 R 55 [(0, .ref (aG G 42)), (1, .int (iI kp))] [.int (iI (if (u2 W3 42 2 x2) 42 16 = 0 then (u2 W3 42 2 x2) 48 ((u2 W3 42 2 x2) 42 15) else (W3 42 3))), .ref (aG G 42)]
  refine x_nm (fun x3 h_x3 => ?_)
  refine x_puti C ok_Model 42 3 dX12_passesAll_55 (lt67 hn rfl) rfl (by decide) rfl q_6_13 rfl rfl (Or.inl rfl) (by rw [h_x3]; exact hd3) (kz := 3) rfl ?_
  have hP4 : PAs V (u2 W4 42 3 x3) kp 4 := pa_f hP3 (by decide) rfl (pa_v hP3 (by decide) rfl) ha3 h_x3 hb3 hc3
  refine x_aload_n C 0 dX12_passesAll_58 rfl rfl ?_
  refine x_aload_n C 0 dX12_passesAll_59 rfl rfl ?_
  refine x_aload_n C 0 dX12_passesAll_60 rfl rfl ?_
  refine x_geti C ok_Model 42 4 dX12_passesAll_61 (lt67 hn rfl) rfl (by decide) rfl q_6_14 rfl (kz := 4) rfl (fun rg61 => ?_)
  refine x_top (b := (W4 42 4)) (by first | rfl | (simp only [u2_at]; simp) | (simp only [u2_at]; first | (rw [if_neg (by omega)]) | omega)) ?_
  refine x_runU (r_callV C ok_Model 42 (lt67 hn rfl) rfl (ce_X12_passes) (m_X12_passes G n (u2 W4 42 3 x3) R (W4 42 4) hn hLR (by have := hP4.1; omega) (by exact rg61)) rfl dX12_passesAll_64 q_49_18 q_49_19 q_49_20 rfl rfl ⟨Nat.le_of_ble_eq_true rfl, Nat.le_of_ble_eq_true rfl⟩ ⟨rfl, rfl⟩ ⟨Nat.le_of_ble_eq_true rfl, Nat.le_of_ble_eq_true rfl⟩ (Nat.le_of_ble_eq_true rfl)) (fun v64 u64 hp64 => ?_)
  obtain ⟨W5, rfl, rfl, ha4, hb4, hc4, hd4⟩ := hp64
  show Xw K G 0 0 _ n W5 R 67 [(0, .ref (aG G 42)), (1, .int (iI kp))] [.int (iI (if (u2 W4 42 3 x3) 42 16 = 0 then (u2 W4 42 3 x3) 48 ((u2 W4 42 3 x3) 42 15) else (W4 42 4))), .ref (aG G 42)]
  refine x_nm (fun x4 h_x4 => ?_)
  refine x_puti C ok_Model 42 4 dX12_passesAll_67 (lt67 hn rfl) rfl (by decide) rfl q_6_14 rfl rfl (Or.inl rfl) (by rw [h_x4]; exact hd4) (kz := 4) rfl ?_
  have hP5 : PAs V (u2 W5 42 4 x4) kp 5 := pa_f hP4 (by decide) rfl (pa_v hP4 (by decide) rfl) ha4 h_x4 hb4 hc4
  refine x_aload_n C 0 dX12_passesAll_70 rfl rfl ?_
  refine x_aload_n C 0 dX12_passesAll_71 rfl rfl ?_
  refine x_aload_n C 0 dX12_passesAll_72 rfl rfl ?_
  refine x_geti C ok_Model 42 7 dX12_passesAll_73 (lt67 hn rfl) rfl (by decide) rfl q_40_4 rfl (kz := 7) rfl (fun rg73 => ?_)
  refine x_top (b := (W5 42 7)) (by first | rfl | (simp only [u2_at]; simp) | (simp only [u2_at]; first | (rw [if_neg (by omega)]) | omega)) ?_
  refine x_runU (r_callV C ok_Model 42 (lt67 hn rfl) rfl (ce_X12_passes) (m_X12_passes G n (u2 W5 42 4 x4) R (W5 42 7) hn hLR (by have := hP5.1; omega) (by exact rg73)) rfl dX12_passesAll_76 q_49_18 q_49_19 q_49_20 rfl rfl ⟨Nat.le_of_ble_eq_true rfl, Nat.le_of_ble_eq_true rfl⟩ ⟨rfl, rfl⟩ ⟨Nat.le_of_ble_eq_true rfl, Nat.le_of_ble_eq_true rfl⟩ (Nat.le_of_ble_eq_true rfl)) (fun v76 u76 hp76 => ?_)
  obtain ⟨W6, rfl, rfl, ha5, hb5, hc5, hd5⟩ := hp76
  show Xw K G 0 0 _ n W6 R 79 [(0, .ref (aG G 42)), (1, .int (iI kp))] [.int (iI (if (u2 W5 42 4 x4) 42 16 = 0 then (u2 W5 42 4 x4) 48 ((u2 W5 42 4 x4) 42 15) else (W5 42 7))), .ref (aG G 42)]
  refine x_nm (fun x5 h_x5 => ?_)
  refine x_puti C ok_Model 42 7 dX12_passesAll_79 (lt67 hn rfl) rfl (by decide) rfl q_40_4 rfl rfl (Or.inl rfl) (by rw [h_x5]; exact hd5) (kz := 7) rfl ?_
  have hP6 : PAs V (u2 W6 42 7 x5) kp 6 := pa_f hP5 (by decide) rfl (pa_v hP5 (by decide) rfl) ha5 h_x5 hb5 hc5
  refine x_aload_n C 0 dX12_passesAll_82 rfl rfl ?_
  refine x_aload_n C 0 dX12_passesAll_83 rfl rfl ?_
  refine x_aload_n C 0 dX12_passesAll_84 rfl rfl ?_
  refine x_geti C ok_Model 42 9 dX12_passesAll_85 (lt67 hn rfl) rfl (by decide) rfl q_41_4 rfl (kz := 9) rfl (fun rg85 => ?_)
  refine x_top (b := (W6 42 9)) (by first | rfl | (simp only [u2_at]; simp) | (simp only [u2_at]; first | (rw [if_neg (by omega)]) | omega)) ?_
  refine x_runU (r_callV C ok_Model 42 (lt67 hn rfl) rfl (ce_X12_passes) (m_X12_passes G n (u2 W6 42 7 x5) R (W6 42 9) hn hLR (by have := hP6.1; omega) (by exact rg85)) rfl dX12_passesAll_88 q_49_18 q_49_19 q_49_20 rfl rfl ⟨Nat.le_of_ble_eq_true rfl, Nat.le_of_ble_eq_true rfl⟩ ⟨rfl, rfl⟩ ⟨Nat.le_of_ble_eq_true rfl, Nat.le_of_ble_eq_true rfl⟩ (Nat.le_of_ble_eq_true rfl)) (fun v88 u88 hp88 => ?_)
  obtain ⟨W7, rfl, rfl, ha6, hb6, hc6, hd6⟩ := hp88
  show Xw K G 0 0 _ n W7 R 91 [(0, .ref (aG G 42)), (1, .int (iI kp))] [.int (iI (if (u2 W6 42 7 x5) 42 16 = 0 then (u2 W6 42 7 x5) 48 ((u2 W6 42 7 x5) 42 15) else (W6 42 9))), .ref (aG G 42)]
  refine x_nm (fun x6 h_x6 => ?_)
  refine x_puti C ok_Model 42 9 dX12_passesAll_91 (lt67 hn rfl) rfl (by decide) rfl q_41_4 rfl rfl (Or.inl rfl) (by rw [h_x6]; exact hd6) (kz := 9) rfl ?_
  have hP7 : PAs V (u2 W7 42 9 x6) kp 7 := pa_f hP6 (by decide) rfl (pa_v hP6 (by decide) rfl) ha6 h_x6 hb6 hc6
  refine x_aload_n C 0 dX12_passesAll_94 rfl rfl ?_
  refine x_aload_n C 0 dX12_passesAll_95 rfl rfl ?_
  refine x_getr C ok_Model 42 5 (d := 43) dX12_passesAll_96 (lt67 hn rfl) rfl (by decide) rfl q_4_1 rfl (kz := 5) rfl (lr_42_5 hLR) ?_
  refine x_runU (r_callV C ok_Model 42 (lt67 hn rfl) rfl (ce_X12_passesRow) (m_X12_passesRow G n (u2 W7 42 9 x6) R (43) (32) hn hLR (by first | assumption | omega | decide) (by have := hP7.1; omega)) rfl dX12_passesAll_99 q_49_22 q_49_23 q_50_0 rfl rfl ⟨Nat.le_of_ble_eq_true rfl, Nat.le_of_ble_eq_true rfl⟩ ⟨rfl, rfl⟩ ⟨Nat.le_of_ble_eq_true rfl, Nat.le_of_ble_eq_true rfl⟩ (Nat.le_of_ble_eq_true rfl)) (fun v99 u99 hp99 => ?_)
  obtain ⟨Y1, rfl, rfl, ra0, rb0, rc0, rd0⟩ := hp99
  show Xw K G 0 0 _ n Y1 R 102 [(0, .ref (aG G 42)), (1, .int (iI kp))] []
  have hP8 : PAs V Y1 kp 39 := pa_r hP7 (by decide) ra0 rb0 rc0 rd0
  refine x_aload_n C 0 dX12_passesAll_102 rfl rfl ?_
  refine x_aload_n C 0 dX12_passesAll_103 rfl rfl ?_
  refine x_getr C ok_Model 42 6 (d := 44) dX12_passesAll_104 (lt67 hn rfl) rfl (by decide) rfl q_4_2 rfl (kz := 6) rfl (lr_42_6 hLR) ?_
  refine x_runU (r_callV C ok_Model 42 (lt67 hn rfl) rfl (ce_X12_passesRow) (m_X12_passesRow G n Y1 R (44) (7) hn hLR (by first | assumption | omega | decide) (by have := hP8.1; omega)) rfl dX12_passesAll_107 q_49_22 q_49_23 q_50_0 rfl rfl ⟨Nat.le_of_ble_eq_true rfl, Nat.le_of_ble_eq_true rfl⟩ ⟨rfl, rfl⟩ ⟨Nat.le_of_ble_eq_true rfl, Nat.le_of_ble_eq_true rfl⟩ (Nat.le_of_ble_eq_true rfl)) (fun v107 u107 hp107 => ?_)
  obtain ⟨Y2, rfl, rfl, ra1, rb1, rc1, rd1⟩ := hp107
  show Xw K G 0 0 _ n Y2 R 110 [(0, .ref (aG G 42)), (1, .int (iI kp))] []
  have hP9 : PAs V Y2 kp 46 := pa_r hP8 (by decide) ra1 rb1 rc1 rd1
  refine x_aload_n C 0 dX12_passesAll_110 rfl rfl ?_
  refine x_aload_n C 0 dX12_passesAll_111 rfl rfl ?_
  refine x_getr C ok_Model 42 8 (d := 45) dX12_passesAll_112 (lt67 hn rfl) rfl (by decide) rfl q_4_3 rfl (kz := 8) rfl (lr_42_8 hLR) ?_
  refine x_runU (r_callV C ok_Model 42 (lt67 hn rfl) rfl (ce_X12_passesRow) (m_X12_passesRow G n Y2 R (45) (64) hn hLR (by first | assumption | omega | decide) (by have := hP9.1; omega)) rfl dX12_passesAll_115 q_49_22 q_49_23 q_50_0 rfl rfl ⟨Nat.le_of_ble_eq_true rfl, Nat.le_of_ble_eq_true rfl⟩ ⟨rfl, rfl⟩ ⟨Nat.le_of_ble_eq_true rfl, Nat.le_of_ble_eq_true rfl⟩ (Nat.le_of_ble_eq_true rfl)) (fun v115 u115 hp115 => ?_)
  obtain ⟨Y3, rfl, rfl, ra2, rb2, rc2, rd2⟩ := hp115
  show Xw K G 0 0 _ n Y3 R 118 [(0, .ref (aG G 42)), (1, .int (iI kp))] []
  have hP10 : PAs V Y3 kp 110 := pa_r hP9 (by decide) ra2 rb2 rc2 rd2
  refine x_aload_n C 0 dX12_passesAll_118 rfl rfl ?_
  refine x_aload_n C 0 dX12_passesAll_119 rfl rfl ?_
  refine x_getr C ok_Model 42 10 (d := 46) dX12_passesAll_120 (lt67 hn rfl) rfl (by decide) rfl q_4_4 rfl (kz := 10) rfl (lr_42_10 hLR) ?_
  refine x_runU (r_callV C ok_Model 42 (lt67 hn rfl) rfl (ce_X12_passesRow) (m_X12_passesRow G n Y3 R (46) (24) hn hLR (by first | assumption | omega | decide) (by have := hP10.1; omega)) rfl dX12_passesAll_123 q_49_22 q_49_23 q_50_0 rfl rfl ⟨Nat.le_of_ble_eq_true rfl, Nat.le_of_ble_eq_true rfl⟩ ⟨rfl, rfl⟩ ⟨Nat.le_of_ble_eq_true rfl, Nat.le_of_ble_eq_true rfl⟩ (Nat.le_of_ble_eq_true rfl)) (fun v123 u123 hp123 => ?_)
  obtain ⟨Y4, rfl, rfl, ra3, rb3, rc3, rd3⟩ := hp123
  show Xw K G 0 0 _ n Y4 R 126 [(0, .ref (aG G 42)), (1, .int (iI kp))] []
  have hP11 : PAs V Y4 kp 134 := pa_r hP10 (by decide) ra3 rb3 rc3 rd3
  refine x_aload_n C 0 dX12_passesAll_126 rfl rfl ?_
  refine x_geti C ok_Model 42 4 dX12_passesAll_127 (lt67 hn rfl) rfl (by decide) rfl q_6_14 rfl (kz := 4) rfl (fun rg127 => ?_)
  refine x_iret C dX12_passesAll_130 ⟨_, _, rfl, rfl, ?_, ?_⟩
  · exact hP11
  · rfl
set_option maxRecDepth 100000 in
set_option maxHeartbeats 4000000 in
theorem m_X12_image (G : GS) (n : Nat) (V : Nat → Int → Int) (R : Nat → Int → Option Nat) (hn : 67 ≤ n) (hLR : LR R) : Cn G yX12_image cX12_image 1 (some .int) (rmk 4 0 0 81) [.ref (aG G 42)] n V R 0 0 (fun vv uu => ∃ (r : Int), ∃ (V1 : Nat → Int → Int), vv = some (.int (iI r)) ∧ uu = (n, V1, R) ∧ (PAs (u2 V 42 14 1) V1 1 134) ∧ (r = V1 42 4)) := by
  refine Cn.of (by decide) (Nat.le_of_ble_eq_true rfl) (fun K C hct => ?_)
  show Xw K G 0 0 _ n V R 0 [(0, .ref (aG G 42))] []
  refine x_aload_n C 0 dX12_image_0 rfl rfl ?_
  refine x_iconst C dX12_image_1 ?_
  refine x_puti C ok_Model 42 14 dX12_image_2 (lt67 hn rfl) rfl (by decide) rfl q_49_11 rfl rfl (Or.inr ⟨rfl, by first | exact Or.inl rfl | exact Or.inr rfl | omega⟩) (by first | assumption | (constructor <;> omega)) (kz := 14) rfl ?_
  refine x_aload_n C 0 dX12_image_5 rfl rfl ?_
  refine x_iconst C dX12_image_6 ?_
  refine x_runU (r_callV C ok_Model 42 (lt67 hn rfl) rfl (ce_X12_passesAll) (m_X12_passesAll G n (u2 V 42 14 1) R (1) hn hLR (by first | assumption | omega | decide)) rfl dX12_image_7 q_49_12 q_49_13 q_49_14 rfl rfl ⟨Nat.le_of_ble_eq_true rfl, Nat.le_of_ble_eq_true rfl⟩ ⟨rfl, rfl⟩ ⟨Nat.le_of_ble_eq_true rfl, Nat.le_of_ble_eq_true rfl⟩ (Nat.le_of_ble_eq_true rfl)) (fun v7 u7 hp7 => ?_)
  obtain ⟨r1, V3, rfl, rfl, h1, h2⟩ := hp7
  show Xw K G 0 0 _ n V3 R 10 [(0, .ref (aG G 42))] [.int (iI r1)]
  refine x_iret C dX12_image_10 ⟨_, _, rfl, rfl, ?_, ?_⟩
  · exact h1
  · exact h2
set_option maxRecDepth 100000 in
set_option maxHeartbeats 4000000 in
theorem m_X12_back (G : GS) (n : Nat) (V : Nat → Int → Int) (R : Nat → Int → Option Nat) (hn : 67 ≤ n) (hLR : LR R) : Cn G yX12_back cX12_back 1 (some .int) (rmk 4 0 0 81) [.ref (aG G 42)] n V R 0 0 (fun vv uu => ∃ (r : Int), ∃ (V1 : Nat → Int → Int), vv = some (.int (iI r)) ∧ uu = (n, V1, R) ∧ ((V 42 14 = 0 ∧ r = -3 ∧ V1 = V) ∨ (V 42 14 ≠ 0 ∧ r = V1 42 4 ∧ PAs V V1 0 134))) := by
  refine Cn.of (by decide) (Nat.le_of_ble_eq_true rfl) (fun K C hct => ?_)
  show Xw K G 0 0 _ n V R 0 [(0, .ref (aG G 42))] []
  refine x_aload_n C 0 dX12_back_0 rfl rfl ?_
  refine x_geti C ok_Model 42 14 dX12_back_1 (lt67 hn rfl) rfl (by decide) rfl q_49_11 rfl (kz := 14) rfl (fun rg1 => ?_)
  refine x_if_eq C dX12_back_4 (tgt := 15) (by decide) (by first | assumption | (constructor <;> omega)) (fun h4 => ?_) (fun h4 => ?_)
  · skip
    refine x_bipush C dX12_back_15 (w := -3) (by decide) ?_
    refine x_iret C dX12_back_17 ⟨_, _, rfl, rfl, ?_⟩
    · first | exact Or.inr ⟨h4, h2, h1⟩ | exact Or.inl ⟨by omega, rfl, rfl⟩
  · skip
    refine x_aload_n C 0 dX12_back_7 rfl rfl ?_
    refine x_iconst C dX12_back_8 ?_
    refine x_runU (r_callV C ok_Model 42 (lt67 hn rfl) rfl (ce_X12_passesAll) (m_X12_passesAll G n V R (0) hn hLR (by first | assumption | omega | decide)) rfl dX12_back_9 q_49_12 q_49_13 q_49_14 rfl rfl ⟨Nat.le_of_ble_eq_true rfl, Nat.le_of_ble_eq_true rfl⟩ ⟨rfl, rfl⟩ ⟨Nat.le_of_ble_eq_true rfl, Nat.le_of_ble_eq_true rfl⟩ (Nat.le_of_ble_eq_true rfl)) (fun v9 u9 hp9 => ?_)
    obtain ⟨r1, V3, rfl, rfl, h1, h2⟩ := hp9
    show Xw K G 0 0 _ n V3 R 12 [(0, .ref (aG G 42))] [.int (iI r1)]
    refine x_goto C dX12_back_12 (tgt := 17) (by decide) ?_
    refine x_iret C dX12_back_17 ⟨_, _, rfl, rfl, ?_⟩
    · first | exact Or.inr ⟨h4, h2, h1⟩ | exact Or.inl ⟨by omega, rfl, rfl⟩
