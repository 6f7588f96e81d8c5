/-! THE LAW: its rows -/
def scr (xs : Nat → Int32) (z : Int) : Int := (xs z.toNat).toInt
theorem scr_rg (xs : Nat → Int32) (z : Int) : Rg (scr xs z) := Rg_i _
/-- the script stands at b, outside the memory -/
def LawX (K : XS) (G : GS) (b L : Nat) (xs : Nat → Int32) : Prop := match K, G with
  | (p, e, Rm, s, m, args, below, meth, c), (l, b0, D, Y) => va_X b L xs s s.heap ∧ b < s.heap.size ∧ ¬ aA b0 b
def lshlV (a b : Int) : Int := ((jI a) <<< ((iI b).toInt64 &&& 63)).toInt
def landV (a b : Int) : Int := (jI a &&& jI b).toInt
def lorV (a b : Int) : Int := (jI a ||| jI b).toInt
theorem lorV_rl (a b : Int) : Rl (lorV a b) := Rl_j _
def clipR (R : Nat → Int → Option Nat) : Nat → Int → Option Nat := fun c z => if c = 2 ∨ c = 7 then (if 0 ≤ z ∧ z < 8 then R c z else none) else R c z
theorem clip_n {R : Nat → Int → Option Nat} {c : Nat} (h : ¬ (c = 2 ∨ c = 7)) : clipR R c = R c := by
  funext z
  unfold clipR
  rw [if_neg h]
theorem clip_s {R : Nat → Int → Option Nat} {c : Nat} {z : Int} (h : 0 ≤ z ∧ z < 8) : clipR R c z = R c z := by
  unfold clipR
  by_cases e : c = 2 ∨ c = 7
  · rw [if_pos e, if_pos h]
  · rw [if_neg e]
section LW
variable {K : XS} {G : GS} {cells slots : Nat} {Q : State → Prop} {n : Nat} {V : Nat → Int → Int} {R : Nat → Int → Option Nat} {cc : ByteArray} {own : String} {nL : Nat} {ret0 : Option FieldType} {rm : Room} {pc : Nat} {lv : List (Nat × Value)} {st : List Value} {b L : Nat} {xs : Nat → Int32}
theorem x_slen (C : Cx K G cc own nL ret0 rm) (hX : LawX K G b L xs) (hd : decode cc pc = .ok (.arraylength, 1)) (kk : Xw K G cells slots Q n V R (pc + 1) lv (.int (iI L) :: st)) : Xw K G cells slots Q n V R pc lv (.ref b :: st) := by
  obtain ⟨p, e, Rm, s, m, args, below, meth, c⟩ := K
  obtain ⟨l, b0, D, Y⟩ := G
  obtain ⟨⟨hx, hb, hml, ho, hts⟩, hlk, hkx, hret, hRm⟩ := C
  obtain ⟨h1, h2, h3⟩ := hX
  intro H locs ls g hs hl
  refine va_slen hx hb h1 h2 h3 hs hd ?_
  rw [iI_ofNat]
  exact kk H locs ls g hs hl
theorem x_sld (C : Cx K G cc own nL ret0 rm) (hX : LawX K G b L xs) (hL : L ≤ 100000) {z : Int} (hz : 0 ≤ z ∧ z < L) (hd : decode cc pc = .ok (.iaload, 1)) (kk : Xw K G cells slots Q n V R (pc + 1) lv (.int (iI (scr xs z)) :: st)) : Xw K G cells slots Q n V R pc lv (.int (iI z) :: .ref b :: st) := by
  obtain ⟨p, e, Rm, s, m, args, below, meth, c⟩ := K
  obtain ⟨l, b0, D, Y⟩ := G
  obtain ⟨⟨hx, hb, hml, ho, hts⟩, hlk, hkx, hret, hRm⟩ := C
  obtain ⟨h1, h2, h3⟩ := hX
  intro H locs ls g hs hl
  refine va_sld hx hb h1 h2 h3 hs (iI_in hz hL) hd ?_
  rw [iI_cl ⟨by omega, by omega⟩]
  have h := kk H locs ls g hs hl
  unfold scr at h
  rw [iI_self] at h
  exact h
theorem x_lshl (C : Cx K G cc own nL ret0 rm) {x y : Int} (hd : decode cc pc = .ok (.lshl, 1)) (kk : Xw K G cells slots Q n V R (pc + 1) lv (.long (jI (lshlV x y)) :: st)) : Xw K G cells slots Q n V R pc lv (.int (iI y) :: .long (jI x) :: st) := by
  obtain ⟨p, e, Rm, s, m, args, below, meth, c⟩ := K
  obtain ⟨l, b0, D, Y⟩ := G
  obtain ⟨⟨hx, hb, hml, ho, hts⟩, hlk, hkx, hret, hRm⟩ := C
  intro H locs ls g hs hl
  exact lv_lshl hx hb hd (v := jI (lshlV x y)) (by unfold lshlV; rw [jI_self]) (kk H locs ls g hs hl)
theorem x_land (C : Cx K G cc own nL ret0 rm) {x y : Int} (hd : decode cc pc = .ok (.land, 1)) (kk : Xw K G cells slots Q n V R (pc + 1) lv (.long (jI (landV x y)) :: st)) : Xw K G cells slots Q n V R pc lv (.long (jI y) :: .long (jI x) :: st) := by
  obtain ⟨p, e, Rm, s, m, args, below, meth, c⟩ := K
  obtain ⟨l, b0, D, Y⟩ := G
  obtain ⟨⟨hx, hb, hml, ho, hts⟩, hlk, hkx, hret, hRm⟩ := C
  intro H locs ls g hs hl
  refine lv_land hx hb hd ?_
  have h := kk H locs ls g hs hl
  unfold landV at h
  rw [jI_self] at h
  exact h
theorem x_lor (C : Cx K G cc own nL ret0 rm) {x y : Int} (hd : decode cc pc = .ok (.lor, 1)) (kk : Xw K G cells slots Q n V R (pc + 1) lv (.long (jI (lorV x y)) :: st)) : Xw K G cells slots Q n V R pc lv (.long (jI y) :: .long (jI x) :: st) := by
  obtain ⟨p, e, Rm, s, m, args, below, meth, c⟩ := K
  obtain ⟨l, b0, D, Y⟩ := G
  obtain ⟨⟨hx, hb, hml, ho, hts⟩, hlk, hkx, hret, hRm⟩ := C
  intro H locs ls g hs hl
  refine lv_lor hx hb hd ?_
  have h := kk H locs ls g hs hl
  unfold lorV at h
  rw [jI_self] at h
  exact h
theorem x_sameI (C : Cx K G cc own nL ret0 rm) {x : Int32} {off : Int} {tgt : Nat} (hd : decode cc pc = .ok (.if_icmp .eq off, 3)) (ht : (pc : Int) + off = (tgt : Int)) (kk : Xw K G cells slots Q n V R tgt lv st) : Xw K G cells slots Q n V R pc lv (.int x :: .int x :: st) := by
  obtain ⟨p, e, Rm, s, m, args, below, meth, c⟩ := K
  obtain ⟨l, b0, D, Y⟩ := G
  obtain ⟨⟨hx, hb, hml, ho, hts⟩, hlk, hkx, hret, hRm⟩ := C
  intro H locs ls g hs hl
  exact lv_icmp_eq hx hb hd ht (fun _ => kk H locs ls g hs hl) (fun q => absurd rfl q)
theorem x_sameL (C : Cx K G cc own nL ret0 rm) {x : Int64} {off : Int} {tgt : Nat} (hd : decode cc pc = .ok (.lcmp, 1)) (hd2 : decode cc (pc + 1) = .ok (.ifCond .eq off, 3)) (ht : ((pc + 1 : Nat) : Int) + off = (tgt : Int)) (kk : Xw K G cells slots Q n V R tgt lv st) : Xw K G cells slots Q n V R pc lv (.long x :: .long x :: st) := by
  obtain ⟨p, e, Rm, s, m, args, below, meth, c⟩ := K
  obtain ⟨l, b0, D, Y⟩ := G
  obtain ⟨⟨hx, hb, hml, ho, hts⟩, hlk, hkx, hret, hRm⟩ := C
  intro H locs ls g hs hl
  refine W.lcmp hx hb hd ?_
  exact lv_if_eq hx hb hd2 ht (fun _ => kk H locs ls g hs hl) (fun q => absurd ((lg_cmp_eq x x).mpr rfl) q)
/-- the memory's rows of faults end where they end -/
theorem x_clip (kk : Xw K G cells slots Q n V (clipR R) pc lv st) : Xw K G cells slots Q n V R pc lv st := by
  obtain ⟨p, e, Rm, s, m, args, below, meth, c⟩ := K
  obtain ⟨l, b0, D, Y⟩ := G
  intro H locs ls g hs hl
  refine kk H locs ls ⟨g.1, fun c hc => ?_, g.2.2⟩ hs hl
  have h := g.2.1 c hc
  by_cases e : c = 2 ∨ c = 7
  · have ht : tb c = (23, 8) := by rcases e with e | e <;> subst e <;> rfl
    rw [ht] at h ⊢
    have h' : H[b0 + c]? = some (arrV (Y 3) 8 (fun j => va_rf ((R c (j : Int)).map (fun x => b0 + x)))) := h
    show H[b0 + c]? = some (arrV (Y 3) 8 (fun j => va_rf ((clipR R c (j : Int)).map (fun x => b0 + x))))
    rw [h']
    refine congrArg some (arrV_congr fun j hj => ?_)
    rw [clip_s (by omega)]
  · rw [clip_n e]
    exact h
end LW
theorem Rel.clip {n : Nat} {V : Nat → Int → Int} {R : Nat → Int → Option Nat} (h : Rel n V R) : Rel n V (clipR R) ∧ (∀ z d, clipR R 2 z = some d → d < n ∧ tb d = (99, 0)) ∧ (∀ z d, clipR R 7 z = some d → d < n ∧ tb d = (99, 0)) := by
  have hb := h.b
  have e : ∀ c z d, c = 2 ∨ c = 7 → clipR R c z = some d → 0 ≤ z ∧ z < 8 ∧ R c z = some d := fun c z d a w => by
    unfold clipR at w
    rw [if_pos a] at w
    by_cases q : 0 ≤ z ∧ z < 8
    · rw [if_pos q] at w; exact ⟨q.1, q.2, w⟩
    · rw [if_neg q] at w; cases w
  refine ⟨⟨h.h67, h.lr.fr (fun q a b' _ => clip_n (by omega)), fun z d a b' c => ?_, ⟨h.c.mv (Nat.le_refl _) (fun _ _ _ => rfl) (fun i a b' => clip_s (by omega)), h.same, h.rg, h.z⟩, h.rst.fr (Nat.le_refl _) (fun _ _ _ => rfl) (fun i a b' => clip_s ⟨a, b'⟩)⟩, fun z d w => ?_, fun z d w => ?_⟩
  · rw [clip_s ⟨a, b'⟩, clip_s ⟨a, b'⟩] at c
    exact h.2.2.1 z d a b' c
  · obtain ⟨a, b', c⟩ := e 2 z d (Or.inl rfl) w
    exact h.2.2.1 z d a b' (Or.inl c)
  · obtain ⟨a, b', c⟩ := e 7 z d (Or.inr rfl) w
    exact h.2.2.1 z d a b' (Or.inr c)
/-- the relation stands at the start -/
theorem start_rel {V : Nat → Int → Int} {R : Nat → Int → Option Nat} (h : StartS V R) : Rel 67 V R := by
  have m : ∀ z, V 42 z = 0 := fun z => h.z 42 z (by decide) (by decide) (by decide) (by decide) (by decide)
  have y : ∀ z, V 1 z = 0 := fun z => h.z 1 z (by decide) (by decide) (by decide) (by decide) (by decide)
  have c0 : ∀ z, V 0 z = 0 := fun z => h.z 0 z (by decide) (by decide) (by decide) (by decide) (by decide)
  have hC := start_C h
  have e0 : V 42 0 = V 1 0 := (m 0).trans (y 0).symm
  have e1 : V 42 1 = V 1 1 := (m 1).trans (y 1).symm
  rw [e0, e1] at hC
  have hn : ∀ (c : Nat) (z : Int) (d : Nat), c = 2 ∨ c = 7 → R c z = some d → False := fun c z d a w => by
    rw [h.2.2.2 c z (by omega)] at w; cases w
  refine ⟨Nat.le_refl _, h.2.2.1, fun z d _ _ w => absurd w (fun w => w.elim (hn 2 z d (Or.inl rfl)) (hn 7 z d (Or.inr rfl))), ⟨hC, fun e => absurd (m 2) e, by rw [m, m]; omega, fun _ => m 4⟩, ⟨?_, ?_, fun z a b' => ?_⟩, ⟨?_, ?_, fun j a b' => ?_⟩, ⟨?_, ?_, fun z => ?_, fun z a b' => ?_⟩, ⟨?_, Or.inl (m 14), fun e => ?_⟩, fun s a b' => ?_⟩
  · rw [y, m]
  · rw [m]; omega
  · rw [m] at b'; omega
  · rw [y, m]
  · rw [m]; omega
  · rw [m] at b'; omega
  · rw [c0, m]
  · rw [m]; omega
  · rw [h.z 36 z (by decide) (by decide) (by decide) (by decide) (by decide), h.z 47 z (by decide) (by decide) (by decide) (by decide) (by decide)]
  · rw [m] at b'; omega
  · rw [c0, m]
  · rw [m] at e; exact absurd e (by decide)
  · have e37 := h.2.1 s a (by omega)
    have e64 : V 64 s = -1 := by
      rw [h.1 64 s (by decide) (by decide) (by decide) (by decide)]
      unfold iniV
      rw [if_neg (by decide), if_pos (by decide), if_pos (by omega)]
    have e38 : V 38 s = 0 := h.z 38 s (by decide) (by decide) (by decide) (by decide) (by decide)
    have e65 : V 65 s = 0 := h.z 65 s (by decide) (by decide) (by decide) (by decide) (by decide)
    rw [e37, e64, e38, e65]
    exact ⟨by decide, rfl, by decide, by decide, fun q => absurd q (by decide)⟩
