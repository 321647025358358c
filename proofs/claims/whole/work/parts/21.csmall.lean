section
variable (G : GE) (n : Nat) (I : Iv) (bk dr : Nat) (pt : Option Nat)
theorem c_X11_isWithin (ρ : Rv) {a l h : Int} (ha : rg a) (hl : rg l) (hh : rg h) : Ct G yX11_isWithin cX11_isWithin 3 (some .boolean) 0 0 0 [.int (jI a), .int (jI l), .int (jI h)] n I ρ (PI (b2 (l ≤ a ∧ a ≤ h)) n I ρ) := by
  refine Ct.of [some (.int (jI a)), some (.int (jI l)), some (.int (jI h))] (by decide) rfl rfl rfl ?_
  intro k SR
  have S : Sem G RX11 "isWithin" cX11_isWithin 3 (rmD 0 0 0) k := SR.sem
  refine r_iload_n S rfl dX11_isWithin_0 ?_
  refine r_iload_n S rfl dX11_isWithin_1 ?_
  refine r_icmp_lt S (tgt := 14) dX11_isWithin_2 (by decide) (by assumption) (by assumption) (fun c2 => ?_) (fun c2 => ?_)
  · refine r_iconst S dX11_isWithin_14 ?_
    refine r_zret SR dX11_isWithin_15 (by decide) ⟨by decide, by decide⟩ ?_
    refine ⟨?_, rfl, rfl, rfl⟩
    first | rw [b2_t (by omega)] | rw [b2_f (by omega)]
  · refine r_iload_n S rfl dX11_isWithin_5 ?_
    refine r_iload_n S rfl dX11_isWithin_6 ?_
    refine r_icmp_gt S (tgt := 14) dX11_isWithin_7 (by decide) (by assumption) (by assumption) (fun c7 => ?_) (fun c7 => ?_)
    · refine r_iconst S dX11_isWithin_14 ?_
      refine r_zret SR dX11_isWithin_15 (by decide) ⟨by decide, by decide⟩ ?_
      refine ⟨?_, rfl, rfl, rfl⟩
      first | rw [b2_t (by omega)] | rw [b2_f (by omega)]
    · refine r_iconst S dX11_isWithin_10 ?_
      refine r_goto S (tgt := 15) dX11_isWithin_11 (by decide) ?_
      refine r_zret SR dX11_isWithin_15 (by decide) ⟨by decide, by decide⟩ ?_
      refine ⟨?_, rfl, rfl, rfl⟩
      first | rw [b2_t (by omega)] | rw [b2_f (by omega)]
theorem c_X3_setLevel (hn : 103 ≤ n) {a l : Int} (ha : rg a) (hl : rg l) : Ct G yX3_setLevel cX3_setLevel 3 (some .boolean) 1 0 0 [.ref (gb G + 1), .int (jI a), .int (jI l)] n I (rst bk dr pt) (PI (b2 ((0 ≤ a ∧ a ≤ 35) ∧ 0 ≤ l ∧ l ≤ 99)) n (if (0 ≤ a ∧ a ≤ 35) ∧ 0 ≤ l ∧ l ≤ 99 then up I 2 a l else I) (rst bk dr pt)) := by
  refine Ct.of [some (.ref (gb G + 1)), some (.int (jI a)), some (.int (jI l))] (by decide) rfl rfl rfl ?_
  intro k SR
  have S : Sem G RX3 "setLevel" cX3_setLevel 3 (rmD 1 0 0) k := SR.sem
  refine r_iload_n S rfl dX3_setLevel_0 ?_
  refine r_iconst S dX3_setLevel_1 ?_
  refine r_bipush S (by decide +kernel) dX3_setLevel_2 ?_
  refine r_callS S lk_X3_18 mk_X11_isWithin (c_X11_isWithin G n I _ ha (by decide) (by decide)) rfl rfl (Nat.le_of_ble_eq_true rfl) ⟨by decide, by decide⟩ rfl ⟨by decide, by decide⟩ dX3_setLevel_4 ?_
  rintro _ _ _ _ ⟨rfl, rfl, rfl, rfl⟩
  refine r_ifb_eq S (tgt := 20) dX3_setLevel_7 (by decide)  (fun c7 => ?_) (fun c7 => ?_)
  · refine r_iconst S dX3_setLevel_20 ?_
    refine r_zret SR dX3_setLevel_21 (by decide) ⟨by decide, by decide⟩ ?_
    exact ⟨by rw [b2_f (by omega)], rfl, by rw [if_neg (by omega)], rfl⟩
  · refine r_iload_n S rfl dX3_setLevel_10 ?_
    refine r_iconst S dX3_setLevel_11 ?_
    refine r_bipush S (by decide +kernel) dX3_setLevel_12 ?_
    refine r_callS S lk_X3_18 mk_X11_isWithin (c_X11_isWithin G n I _ hl (by decide) (by decide)) rfl rfl (Nat.le_of_ble_eq_true rfl) ⟨by decide, by decide⟩ rfl ⟨by decide, by decide⟩ dX3_setLevel_14 ?_
    rintro _ _ _ _ ⟨rfl, rfl, rfl, rfl⟩
    refine r_ifb_ne S (tgt := 22) dX3_setLevel_17 (by decide)  (fun c17 => ?_) (fun c17 => ?_)
    · refine r_aload_n S rfl dX3_setLevel_22 ?_
      refine r_getR S (o' := 2) fk_X3_9 dX3_setLevel_23 rfl rfl (Nat.lt_of_lt_of_le (by decide) hn) rfl ?_
      refine r_iload_n S rfl dX3_setLevel_26 ?_
      refine r_iload_n S rfl dX3_setLevel_27 ?_
      refine r_iast S dX3_setLevel_28 rfl rfl (Nat.lt_of_lt_of_le (by decide) hn) (by omega) (by omega) ?_
      refine r_iconst S dX3_setLevel_29 ?_
      refine r_zret SR dX3_setLevel_30 (by decide) ⟨by decide, by decide⟩ ?_
      exact ⟨by rw [b2_t (by omega)], rfl, by rw [if_pos (by omega)], rfl⟩
    · refine r_iconst S dX3_setLevel_20 ?_
      refine r_zret SR dX3_setLevel_21 (by decide) ⟨by decide, by decide⟩ ?_
      exact ⟨by rw [b2_f (by omega)], rfl, by rw [if_neg (by omega)], rfl⟩
theorem c_X3_setHeight (hn : 103 ≤ n) {a l : Int} (ha : rg a) (hl : rg l) : Ct G yX3_setHeight cX3_setHeight 3 (some .boolean) 1 0 0 [.ref (gb G + 1), .int (jI a), .int (jI l)] n I (rst bk dr pt) (PI (b2 ((0 ≤ a ∧ a ≤ 3) ∧ 0 ≤ l ∧ l ≤ 99)) n (if (0 ≤ a ∧ a ≤ 3) ∧ 0 ≤ l ∧ l ≤ 99 then up I 3 a l else I) (rst bk dr pt)) := by
  refine Ct.of [some (.ref (gb G + 1)), some (.int (jI a)), some (.int (jI l))] (by decide) rfl rfl rfl ?_
  intro k SR
  have S : Sem G RX3 "setHeight" cX3_setHeight 3 (rmD 1 0 0) k := SR.sem
  refine r_iload_n S rfl dX3_setHeight_0 ?_
  refine r_iconst S dX3_setHeight_1 ?_
  refine r_iconst S dX3_setHeight_2 ?_
  refine r_callS S lk_X3_18 mk_X11_isWithin (c_X11_isWithin G n I _ ha (by decide) (by decide)) rfl rfl (Nat.le_of_ble_eq_true rfl) ⟨by decide, by decide⟩ rfl ⟨by decide, by decide⟩ dX3_setHeight_3 ?_
  rintro _ _ _ _ ⟨rfl, rfl, rfl, rfl⟩
  refine r_ifb_eq S (tgt := 19) dX3_setHeight_6 (by decide)  (fun c6 => ?_) (fun c6 => ?_)
  · refine r_iconst S dX3_setHeight_19 ?_
    refine r_zret SR dX3_setHeight_20 (by decide) ⟨by decide, by decide⟩ ?_
    exact ⟨by rw [b2_f (by omega)], rfl, by rw [if_neg (by omega)], rfl⟩
  · refine r_iload_n S rfl dX3_setHeight_9 ?_
    refine r_iconst S dX3_setHeight_10 ?_
    refine r_bipush S (by decide +kernel) dX3_setHeight_11 ?_
    refine r_callS S lk_X3_18 mk_X11_isWithin (c_X11_isWithin G n I _ hl (by decide) (by decide)) rfl rfl (Nat.le_of_ble_eq_true rfl) ⟨by decide, by decide⟩ rfl ⟨by decide, by decide⟩ dX3_setHeight_13 ?_
    rintro _ _ _ _ ⟨rfl, rfl, rfl, rfl⟩
    refine r_ifb_ne S (tgt := 21) dX3_setHeight_16 (by decide)  (fun c16 => ?_) (fun c16 => ?_)
    · refine r_aload_n S rfl dX3_setHeight_21 ?_
      refine r_getR S (o' := 3) fk_X3_15 dX3_setHeight_22 rfl rfl (Nat.lt_of_lt_of_le (by decide) hn) rfl ?_
      refine r_iload_n S rfl dX3_setHeight_25 ?_
      refine r_iload_n S rfl dX3_setHeight_26 ?_
      refine r_iast S dX3_setHeight_27 rfl rfl (Nat.lt_of_lt_of_le (by decide) hn) (by omega) (by omega) ?_
      refine r_iconst S dX3_setHeight_28 ?_
      refine r_zret SR dX3_setHeight_29 (by decide) ⟨by decide, by decide⟩ ?_
      exact ⟨by rw [b2_t (by omega)], rfl, by rw [if_pos (by omega)], rfl⟩
    · refine r_iconst S dX3_setHeight_19 ?_
      refine r_zret SR dX3_setHeight_20 (by decide) ⟨by decide, by decide⟩ ?_
      exact ⟨by rw [b2_f (by omega)], rfl, by rw [if_neg (by omega)], rfl⟩
theorem c_X0_setHouses (hn : 103 ≤ n) {a l : Int} (ha : rg a) (hl : rg l) : Ct G yX0_setHouses cX0_setHouses 3 (some .boolean) 1 0 0 [.ref (gb G + 14), .int (jI a), .int (jI l)] n I (rst bk dr pt) (PI (b2 ((0 ≤ a ∧ a ≤ 35) ∧ 0 ≤ l ∧ l ≤ 8)) n (if (0 ≤ a ∧ a ≤ 35) ∧ 0 ≤ l ∧ l ≤ 8 then up I 15 a l else I) (rst bk dr pt)) := by
  refine Ct.of [some (.ref (gb G + 14)), some (.int (jI a)), some (.int (jI l))] (by decide) rfl rfl rfl ?_
  intro k SR
  have S : Sem G RX0 "setHouses" cX0_setHouses 3 (rmD 1 0 0) k := SR.sem
  refine r_iload_n S rfl dX0_setHouses_0 ?_
  refine r_iconst S dX0_setHouses_1 ?_
  refine r_bipush S (by decide +kernel) dX0_setHouses_2 ?_
  refine r_callS S lk_X0_15 mk_X11_isWithin (c_X11_isWithin G n I _ ha (by decide) (by decide)) rfl rfl (Nat.le_of_ble_eq_true rfl) ⟨by decide, by decide⟩ rfl ⟨by decide, by decide⟩ dX0_setHouses_4 ?_
  rintro _ _ _ _ ⟨rfl, rfl, rfl, rfl⟩
  refine r_ifb_eq S (tgt := 20) dX0_setHouses_7 (by decide)  (fun c7 => ?_) (fun c7 => ?_)
  · refine r_iconst S dX0_setHouses_20 ?_
    refine r_zret SR dX0_setHouses_21 (by decide) ⟨by decide, by decide⟩ ?_
    exact ⟨by rw [b2_f (by omega)], rfl, by rw [if_neg (by omega)], rfl⟩
  · refine r_iload_n S rfl dX0_setHouses_10 ?_
    refine r_iconst S dX0_setHouses_11 ?_
    refine r_bipush S (by decide +kernel) dX0_setHouses_12 ?_
    refine r_callS S lk_X0_15 mk_X11_isWithin (c_X11_isWithin G n I _ hl (by decide) (by decide)) rfl rfl (Nat.le_of_ble_eq_true rfl) ⟨by decide, by decide⟩ rfl ⟨by decide, by decide⟩ dX0_setHouses_14 ?_
    rintro _ _ _ _ ⟨rfl, rfl, rfl, rfl⟩
    refine r_ifb_ne S (tgt := 22) dX0_setHouses_17 (by decide)  (fun c17 => ?_) (fun c17 => ?_)
    · refine r_aload_n S rfl dX0_setHouses_22 ?_
      refine r_getR S (o' := 15) fk_X0_9 dX0_setHouses_23 rfl rfl (Nat.lt_of_lt_of_le (by decide) hn) rfl ?_
      refine r_iload_n S rfl dX0_setHouses_26 ?_
      refine r_iload_n S rfl dX0_setHouses_27 ?_
      refine r_iast S dX0_setHouses_28 rfl rfl (Nat.lt_of_lt_of_le (by decide) hn) (by omega) (by omega) ?_
      refine r_iconst S dX0_setHouses_29 ?_
      refine r_zret SR dX0_setHouses_30 (by decide) ⟨by decide, by decide⟩ ?_
      exact ⟨by rw [b2_t (by omega)], rfl, by rw [if_pos (by omega)], rfl⟩
    · refine r_iconst S dX0_setHouses_20 ?_
      refine r_zret SR dX0_setHouses_21 (by decide) ⟨by decide, by decide⟩ ?_
      exact ⟨by rw [b2_f (by omega)], rfl, by rw [if_neg (by omega)], rfl⟩
/-- the first month from m on, k months at most, in which lev is h or above -/
def fmF (lev : Int → Int) (h : Int) : Nat → Int → Int
  | 0, m => m
  | k + 1, m => if lev m < h then fmF lev h k (m + 1) else m
/-- the month in which water that stands at lev comes to height h (36: never) -/
def fm (lev : Int → Int) (h : Int) : Int := fmF lev h 36 0
theorem fmF_congr {lev lev' : Int → Int} {h : Int} : ∀ (k : Nat) (m : Int), (∀ j, m ≤ j → j < m + k → lev j = lev' j) → fmF lev h k m = fmF lev' h k m
  | 0, m, _ => rfl
  | k + 1, m, hj => by
    unfold fmF
    rw [hj m (by omega) (by omega), fmF_congr k (m + 1) (fun j h1 h2 => hj j (by omega) (by omega))]
theorem fm_congr {lev lev' : Int → Int} {h : Int} (hj : ∀ j, 0 ≤ j → j < 36 → lev j = lev' j) : fm lev h = fm lev' h := fmF_congr 36 0 (fun j h1 h2 => hj j h1 (by omega))
theorem fmF_range {lev : Int → Int} {h : Int} : ∀ (k : Nat) (m : Int), m ≤ fmF lev h k m ∧ fmF lev h k m ≤ m + k
  | 0, m => ⟨by unfold fmF; omega, by unfold fmF; omega⟩
  | k + 1, m => by
    have := fmF_range (lev := lev) (h := h) k (m + 1)
    unfold fmF
    split <;> omega
theorem fm_range (lev : Int → Int) (h : Int) : 0 ≤ fm lev h ∧ fm lev h ≤ 36 := by
  have := fmF_range (lev := lev) (h := h) 36 0
  unfold fm
  omega
theorem fmF_step (lev : Int → Int) (h : Int) {m : Int} (h1 : m < 36) : fmF lev h (36 - m).toNat m = if lev m < h then fmF lev h (36 - (m + 1)).toNat (m + 1) else m := by
  rw [show (36 - m).toNat = (36 - (m + 1)).toNat + 1 by omega]
  rfl
theorem fmF_end (lev : Int → Int) (h : Int) {m : Int} (h1 : 36 ≤ m) : fmF lev h (36 - m).toNat m = m := by
  rw [show (36 - m).toNat = 0 by omega]
  rfl
theorem c_X3_monthOf (hn : 103 ≤ n) {a : Int} (ha : rg a) (h2 : ∀ j, 0 ≤ j → j < 36 → rg (I 2 j)) (h3 : ∀ j, 0 ≤ j → j < 4 → rg (I 3 j)) : Ct G yX3_monthOf cX3_monthOf 3 (some .int) 1 0 0 [.ref (gb G + 1), .int (jI a)] n I (rst bk dr pt) (PI (if 0 ≤ a ∧ a ≤ 3 then fm (I 2) (I 3 a) else -1) n I (rst bk dr pt)) := by
  refine Ct.of [some (.ref (gb G + 1)), some (.int (jI a)), none] (by decide) rfl rfl rfl ?_
  intro k SR
  have S : Sem G RX3 "monthOf" cX3_monthOf 3 (rmD 1 0 0) k := SR.sem
  have loop : 0 ≤ a ∧ a ≤ 3 → ∀ (q : Nat) (m : Int), 0 ≤ m → m ≤ 36 → 36 < m + q → fmF (I 2) (I 3 a) (36 - m).toNat m = fm (I 2) (I 3 a) → k 13 [some (.ref (gb G + 1)), some (.int (jI a)), some (.int (jI m))] [] n I (rst bk dr pt) 0 0 := by
    intro hA q
    induction q with
    | zero => intro m h0 h1 hq; omega
    | succ q ih =>
      intro m h0 h1 hq hf
      refine r_iload_n S rfl dX3_monthOf_13 ?_
      refine r_bipush S (by decide +kernel) dX3_monthOf_14 ?_
      refine r_icmp_ge S (tgt := 42) dX3_monthOf_16 (by decide) (by omega) (by omega) (fun c16 => ?_) (fun c16 => ?_)
      · refine r_bipush S (by decide +kernel) dX3_monthOf_42 ?_
        refine r_iret SR dX3_monthOf_44 ⟨by decide, by decide⟩ ?_
        exact ⟨by rw [if_pos hA, ← hf, fmF_end _ _ c16, show m = 36 by omega], rfl, rfl, rfl⟩
      · refine r_aload_n S rfl dX3_monthOf_19 ?_
        refine r_getR S (o' := 2) fk_X3_9 dX3_monthOf_20 rfl rfl (Nat.lt_of_lt_of_le (by decide) hn) rfl ?_
        refine r_iload_n S rfl dX3_monthOf_23 ?_
        refine r_iald S (v := I 2 m) dX3_monthOf_24 rfl rfl (Nat.lt_of_lt_of_le (by decide) hn) (by omega) (by omega) rfl ?_
        refine r_aload_n S rfl dX3_monthOf_25 ?_
        refine r_getR S (o' := 3) fk_X3_15 dX3_monthOf_26 rfl rfl (Nat.lt_of_lt_of_le (by decide) hn) rfl ?_
        refine r_iload_n S rfl dX3_monthOf_29 ?_
        refine r_iald S (v := I 3 a) dX3_monthOf_30 rfl rfl (Nat.lt_of_lt_of_le (by decide) hn) (by omega) (by omega) rfl ?_
        refine r_icmp_lt S (tgt := 36) dX3_monthOf_31 (by decide) (h2 m (by omega) (by omega)) (h3 a (by omega) (by omega)) (fun c31 => ?_) (fun c31 => ?_)
        · refine r_iinc S dX3_monthOf_36 rfl rfl rfl ?_
          refine r_goto S (tgt := 13) dX3_monthOf_39 (by decide) ?_
          exact ih (m + 1) (by omega) (by omega) (by omega) (by rw [← hf, fmF_step _ _ c16, if_pos c31])
        · refine r_iload_n S rfl dX3_monthOf_34 ?_
          refine r_iret SR dX3_monthOf_35 ⟨by decide, by decide⟩ ?_
          exact ⟨by rw [if_pos hA, ← hf, fmF_step _ _ c16, if_neg (by omega)], rfl, rfl, rfl⟩
  refine r_iload_n S rfl dX3_monthOf_0 ?_
  refine r_iconst S dX3_monthOf_1 ?_
  refine r_iconst S dX3_monthOf_2 ?_
  refine r_callS S lk_X3_18 mk_X11_isWithin (c_X11_isWithin G n I _ ha (by decide) (by decide)) rfl rfl (Nat.le_of_ble_eq_true rfl) ⟨by decide, by decide⟩ rfl ⟨by decide, by decide⟩ dX3_monthOf_3 ?_
  rintro _ _ _ _ ⟨rfl, rfl, rfl, rfl⟩
  refine r_ifb_ne S (tgt := 11) dX3_monthOf_6 (by decide)  (fun c6 => ?_) (fun c6 => ?_)
  · refine r_iconst S dX3_monthOf_11 ?_
    refine r_istore_n S dX3_monthOf_12 rfl rfl ?_
    exact loop c6 37 0 (by omega) (by omega) (by omega) rfl
  · refine r_iconst S dX3_monthOf_9 ?_
    refine r_iret SR dX3_monthOf_10 ⟨by decide, by decide⟩ ?_
    exact ⟨by rw [if_neg c6], rfl, rfl, rfl⟩
theorem c_X4_has (hn : 103 ≤ n) {a : Int} (ha : rg a) (hc : rg (I 4 0)) : Ct G yX4_has cX4_has 2 (some .boolean) 0 0 0 [.ref (gb G + 4), .int (jI a)] n I (rst bk dr pt) (PI (b2 (0 ≤ a ∧ a < I 4 0)) n I (rst bk dr pt)) := by
  refine Ct.of [some (.ref (gb G + 4)), some (.int (jI a))] (by decide) rfl rfl rfl ?_
  intro k SR
  have S : Sem G RX4 "has" cX4_has 2 (rmD 0 0 0) k := SR.sem
  refine r_iload_n S rfl dX4_has_0 ?_
  refine r_if_lt S (tgt := 16) dX4_has_1 (by decide) (by omega) (fun c1 => ?_) (fun c1 => ?_)
  · refine r_iconst S dX4_has_16 ?_
    refine r_zret SR dX4_has_17 (by decide) ⟨by decide, by decide⟩ ?_
    refine ⟨?_, rfl, rfl, rfl⟩
    first | rw [b2_t (by omega)] | rw [b2_f (by omega)]
  · refine r_iload_n S rfl dX4_has_4 ?_
    refine r_aload_n S rfl dX4_has_5 ?_
    refine r_getI S (v := I 4 0) fk_X4_9 dX4_has_6 rfl rfl (Nat.lt_of_lt_of_le (by decide) hn) rfl ?_
    refine r_icmp_ge S (tgt := 16) dX4_has_9 (by decide) (by omega) (by omega) (fun c9 => ?_) (fun c9 => ?_)
    · refine r_iconst S dX4_has_16 ?_
      refine r_zret SR dX4_has_17 (by decide) ⟨by decide, by decide⟩ ?_
      refine ⟨?_, rfl, rfl, rfl⟩
      first | rw [b2_t (by omega)] | rw [b2_f (by omega)]
    · refine r_iconst S dX4_has_12 ?_
      refine r_goto S (tgt := 17) dX4_has_13 (by decide) ?_
      refine r_zret SR dX4_has_17 (by decide) ⟨by decide, by decide⟩ ?_
      refine ⟨?_, rfl, rfl, rfl⟩
      first | rw [b2_t (by omega)] | rw [b2_f (by omega)]
theorem c_X4_isFull (hn : 103 ≤ n) (hc : rg (I 4 0)) : Ct G yX4_isFull cX4_isFull 1 (some .boolean) 0 0 0 [.ref (gb G + 4)] n I (rst bk dr pt) (PI (b2 (8 ≤ I 4 0)) n I (rst bk dr pt)) := by
  refine Ct.of [some (.ref (gb G + 4))] (by decide) rfl rfl rfl ?_
  intro k SR
  have S : Sem G RX4 "isFull" cX4_isFull 1 (rmD 0 0 0) k := SR.sem
  refine r_aload_n S rfl dX4_isFull_0 ?_
  refine r_getI S (v := I 4 0) fk_X4_9 dX4_isFull_1 rfl rfl (Nat.lt_of_lt_of_le (by decide) hn) rfl ?_
  refine r_bipush S (by decide +kernel) dX4_isFull_4 ?_
  refine r_icmp_lt S (tgt := 13) dX4_isFull_6 (by decide) (by omega) (by omega) (fun c6 => ?_) (fun c6 => ?_)
  · refine r_iconst S dX4_isFull_13 ?_
    refine r_zret SR dX4_isFull_14 (by decide) ⟨by decide, by decide⟩ ?_
    refine ⟨?_, rfl, rfl, rfl⟩
    first | rw [b2_t (by omega)] | rw [b2_f (by omega)]
  · refine r_iconst S dX4_isFull_9 ?_
    refine r_goto S (tgt := 14) dX4_isFull_10 (by decide) ?_
    refine r_zret SR dX4_isFull_14 (by decide) ⟨by decide, by decide⟩ ?_
    refine ⟨?_, rfl, rfl, rfl⟩
    first | rw [b2_t (by omega)] | rw [b2_f (by omega)]
theorem c_X2_isFull (hn : 103 ≤ n) (hc : rg (I 51 0)) : Ct G yX2_isFull cX2_isFull 1 (some .boolean) 0 0 0 [.ref (gb G + 51)] n I (rst bk dr pt) (PI (b2 (10 ≤ I 51 0)) n I (rst bk dr pt)) := by
  refine Ct.of [some (.ref (gb G + 51))] (by decide) rfl rfl rfl ?_
  intro k SR
  have S : Sem G RX2 "isFull" cX2_isFull 1 (rmD 0 0 0) k := SR.sem
  refine r_aload_n S rfl dX2_isFull_0 ?_
  refine r_getI S (v := I 51 0) fk_X2_9 dX2_isFull_1 rfl rfl (Nat.lt_of_lt_of_le (by decide) hn) rfl ?_
  refine r_bipush S (by decide +kernel) dX2_isFull_4 ?_
  refine r_icmp_lt S (tgt := 13) dX2_isFull_6 (by decide) (by omega) (by omega) (fun c6 => ?_) (fun c6 => ?_)
  · refine r_iconst S dX2_isFull_13 ?_
    refine r_zret SR dX2_isFull_14 (by decide) ⟨by decide, by decide⟩ ?_
    refine ⟨?_, rfl, rfl, rfl⟩
    first | rw [b2_t (by omega)] | rw [b2_f (by omega)]
  · refine r_iconst S dX2_isFull_9 ?_
    refine r_goto S (tgt := 14) dX2_isFull_10 (by decide) ?_
    refine r_zret SR dX2_isFull_14 (by decide) ⟨by decide, by decide⟩ ?_
    refine ⟨?_, rfl, rfl, rfl⟩
    first | rw [b2_t (by omega)] | rw [b2_f (by omega)]
theorem c_X2_add (hn : 103 ≤ n) {a : Int} (h0 : 0 ≤ I 51 0) (h1 : I 51 0 < 10) : Ct G yX2_add cX2_add 2 (some .int) 1 0 0 [.ref (gb G + 51), .int (jI a)] n I (rst bk dr pt) (PI (I 51 0) n (up (up I 52 (I 51 0) a) 51 0 (I 51 0 + 1)) (rst bk dr pt)) := by
  refine Ct.of [some (.ref (gb G + 51)), some (.int (jI a))] (by decide) rfl rfl rfl ?_
  intro k SR
  have S : Sem G RX2 "add" cX2_add 2 (rmD 1 0 0) k := SR.sem
  refine r_aload_n S rfl dX2_add_0 ?_
  refine r_callV S lk_X2_19 mk_X2_isFull (c_X2_isFull G n I bk dr pt hn ⟨by omega, by omega⟩) rfl (Nat.lt_of_lt_of_le (by decide) hn) rfl rfl rfl (Nat.le_of_ble_eq_true rfl) ⟨by decide, by decide⟩ rfl ⟨by decide, by decide⟩ dX2_add_1 ?_
  rintro _ _ _ _ ⟨rfl, rfl, rfl, rfl⟩
  refine r_ifb_eq S (tgt := 9) dX2_add_4 (by decide)  (fun c4 => ?_) (fun c4 => ?_)
  · refine r_aload_n S rfl dX2_add_9 ?_
    refine r_getR S (o' := 52) fk_X2_15 dX2_add_10 rfl rfl (Nat.lt_of_lt_of_le (by decide) hn) rfl ?_
    refine r_aload_n S rfl dX2_add_13 ?_
    refine r_getI S (v := I 51 0) fk_X2_9 dX2_add_14 rfl rfl (Nat.lt_of_lt_of_le (by decide) hn) rfl ?_
    refine r_iload_n S rfl dX2_add_17 ?_
    refine r_iast S dX2_add_18 rfl rfl (Nat.lt_of_lt_of_le (by decide) hn) (by omega) (by omega) ?_
    refine r_aload_n S rfl dX2_add_19 ?_
    refine r_dup S rfl dX2_add_20 ?_
    refine r_getI S (v := I 51 0) fk_X2_9 dX2_add_21 rfl rfl (Nat.lt_of_lt_of_le (by decide) hn) rfl ?_
    refine r_iconst S dX2_add_24 ?_
    refine r_iadd S dX2_add_25 ?_
    refine r_putI S fk_X2_9 dX2_add_26 rfl rfl (Nat.lt_of_lt_of_le (by decide) hn) (Or.inl rfl) (Or.inl rfl) ?_
    refine r_aload_n S rfl dX2_add_29 ?_
    refine r_getI S (v := (I 51 0) + 1) fk_X2_9 dX2_add_30 rfl rfl (Nat.lt_of_lt_of_le (by decide) hn) rfl ?_
    refine r_iconst S dX2_add_33 ?_
    refine r_isub S dX2_add_34 ?_
    refine r_iret SR dX2_add_35 ⟨by decide, by decide⟩ ?_
    exact ⟨by rw [show I 51 0 + 1 - 1 = I 51 0 by omega], rfl, rfl, rfl⟩
  · refine r_iconst S dX2_add_7 ?_
    refine r_iret SR dX2_add_8 ⟨by decide, by decide⟩ ?_
    omega
theorem c_X4_add (hn : 103 ≤ n) {a b c d p : Int} (hp : p = 0 ∨ p = 1) (h0 : 0 ≤ I 4 0) (h1 : I 4 0 < 8) : Ct G yX4_add cX4_add 6 (some .int) 1 0 0 [.ref (gb G + 4), .int (jI a), .int (jI b), .int (jI c), .int (jI d), .int (jI p)] n I (rst bk dr pt) (PI (I 4 0) n (up (up (up (up (up (up (up I 5 (I 4 0) a) 6 (I 4 0) b) 7 (I 4 0) c) 8 (I 4 0) d) 9 (I 4 0) p) 10 (I 4 0) (-1)) 4 0 (I 4 0 + 1)) (rst bk dr pt)) := by
  refine Ct.of [some (.ref (gb G + 4)), some (.int (jI a)), some (.int (jI b)), some (.int (jI c)), some (.int (jI d)), some (.int (jI p))] (by decide) rfl rfl rfl ?_
  intro k SR
  have S : Sem G RX4 "add" cX4_add 6 (rmD 1 0 0) k := SR.sem
  refine r_aload_n S rfl dX4_add_0 ?_
  refine r_callV S lk_X4_46 mk_X4_isFull (c_X4_isFull G n I bk dr pt hn ⟨by omega, by omega⟩) rfl (Nat.lt_of_lt_of_le (by decide) hn) rfl rfl rfl (Nat.le_of_ble_eq_true rfl) ⟨by decide, by decide⟩ rfl ⟨by decide, by decide⟩ dX4_add_1 ?_
  rintro _ _ _ _ ⟨rfl, rfl, rfl, rfl⟩
  refine r_ifb_eq S (tgt := 9) dX4_add_4 (by decide)  (fun c4 => ?_) (fun c4 => ?_)
  · refine r_aload_n S rfl dX4_add_9 ?_
    refine r_getR S (o' := 5) fk_X4_15 dX4_add_10 rfl rfl (Nat.lt_of_lt_of_le (by decide) hn) rfl ?_
    refine r_aload_n S rfl dX4_add_13 ?_
    refine r_getI S (v := I 4 0) fk_X4_9 dX4_add_14 rfl rfl (Nat.lt_of_lt_of_le (by decide) hn) rfl ?_
    refine r_iload_n S rfl dX4_add_17 ?_
    refine r_iast S dX4_add_18 rfl rfl (Nat.lt_of_lt_of_le (by decide) hn) (by omega) (by omega) ?_
    refine r_aload_n S rfl dX4_add_19 ?_
    refine r_getR S (o' := 6) fk_X4_19 dX4_add_20 rfl rfl (Nat.lt_of_lt_of_le (by decide) hn) rfl ?_
    refine r_aload_n S rfl dX4_add_23 ?_
    refine r_getI S (v := I 4 0) fk_X4_9 dX4_add_24 rfl rfl (Nat.lt_of_lt_of_le (by decide) hn) rfl ?_
    refine r_iload_n S rfl dX4_add_27 ?_
    refine r_iast S dX4_add_28 rfl rfl (Nat.lt_of_lt_of_le (by decide) hn) (by omega) (by omega) ?_
    refine r_aload_n S rfl dX4_add_29 ?_
    refine r_getR S (o' := 7) fk_X4_22 dX4_add_30 rfl rfl (Nat.lt_of_lt_of_le (by decide) hn) rfl ?_
    refine r_aload_n S rfl dX4_add_33 ?_
    refine r_getI S (v := I 4 0) fk_X4_9 dX4_add_34 rfl rfl (Nat.lt_of_lt_of_le (by decide) hn) rfl ?_
    refine r_iload_n S rfl dX4_add_37 ?_
    refine r_iast S dX4_add_38 rfl rfl (Nat.lt_of_lt_of_le (by decide) hn) (by omega) (by omega) ?_
    refine r_aload_n S rfl dX4_add_39 ?_
    refine r_getR S (o' := 8) fk_X4_25 dX4_add_40 rfl rfl (Nat.lt_of_lt_of_le (by decide) hn) rfl ?_
    refine r_aload_n S rfl dX4_add_43 ?_
    refine r_getI S (v := I 4 0) fk_X4_9 dX4_add_44 rfl rfl (Nat.lt_of_lt_of_le (by decide) hn) rfl ?_
    refine r_iload S rfl dX4_add_47 ?_
    refine r_iast S dX4_add_49 rfl rfl (Nat.lt_of_lt_of_le (by decide) hn) (by omega) (by omega) ?_
    refine r_aload_n S rfl dX4_add_50 ?_
    refine r_getR S (o' := 9) fk_X4_28 dX4_add_51 rfl rfl (Nat.lt_of_lt_of_le (by decide) hn) rfl ?_
    refine r_aload_n S rfl dX4_add_54 ?_
    refine r_getI S (v := I 4 0) fk_X4_9 dX4_add_55 rfl rfl (Nat.lt_of_lt_of_le (by decide) hn) rfl ?_
    refine r_iload S rfl dX4_add_58 ?_
    refine r_if_eq S (tgt := 67) dX4_add_60 (by decide) (by omega) (fun c60 => ?_) (fun c60 => ?_)
    · refine r_iconst S dX4_add_67 ?_
      refine r_iast S dX4_add_68 rfl rfl (Nat.lt_of_lt_of_le (by decide) hn) (by omega) (by omega) ?_
      refine r_aload_n S rfl dX4_add_69 ?_
      refine r_getR S (o' := 10) fk_X4_31 dX4_add_70 rfl rfl (Nat.lt_of_lt_of_le (by decide) hn) rfl ?_
      refine r_aload_n S rfl dX4_add_73 ?_
      refine r_getI S (v := I 4 0) fk_X4_9 dX4_add_74 rfl rfl (Nat.lt_of_lt_of_le (by decide) hn) rfl ?_
      refine r_iconst S dX4_add_77 ?_
      refine r_iast S dX4_add_78 rfl rfl (Nat.lt_of_lt_of_le (by decide) hn) (by omega) (by omega) ?_
      refine r_aload_n S rfl dX4_add_79 ?_
      refine r_dup S rfl dX4_add_80 ?_
      refine r_getI S (v := I 4 0) fk_X4_9 dX4_add_81 rfl rfl (Nat.lt_of_lt_of_le (by decide) hn) rfl ?_
      refine r_iconst S dX4_add_84 ?_
      refine r_iadd S dX4_add_85 ?_
      refine r_putI S fk_X4_9 dX4_add_86 rfl rfl (Nat.lt_of_lt_of_le (by decide) hn) (Or.inl rfl) (Or.inl rfl) ?_
      refine r_aload_n S rfl dX4_add_89 ?_
      refine r_getI S (v := (I 4 0) + 1) fk_X4_9 dX4_add_90 rfl rfl (Nat.lt_of_lt_of_le (by decide) hn) rfl ?_
      refine r_iconst S dX4_add_93 ?_
      refine r_isub S dX4_add_94 ?_
      refine r_iret SR dX4_add_95 ⟨by decide, by decide⟩ ?_
      exact ⟨by rw [show I 4 0 + 1 - 1 = I 4 0 by omega], rfl, by first | rw [show p = 0 by omega] | rw [show p = 1 by omega], rfl⟩
    · refine r_iconst S dX4_add_63 ?_
      refine r_goto S (tgt := 68) dX4_add_64 (by decide) ?_
      refine r_iast S dX4_add_68 rfl rfl (Nat.lt_of_lt_of_le (by decide) hn) (by omega) (by omega) ?_
      refine r_aload_n S rfl dX4_add_69 ?_
      refine r_getR S (o' := 10) fk_X4_31 dX4_add_70 rfl rfl (Nat.lt_of_lt_of_le (by decide) hn) rfl ?_
      refine r_aload_n S rfl dX4_add_73 ?_
      refine r_getI S (v := I 4 0) fk_X4_9 dX4_add_74 rfl rfl (Nat.lt_of_lt_of_le (by decide) hn) rfl ?_
      refine r_iconst S dX4_add_77 ?_
      refine r_iast S dX4_add_78 rfl rfl (Nat.lt_of_lt_of_le (by decide) hn) (by omega) (by omega) ?_
      refine r_aload_n S rfl dX4_add_79 ?_
      refine r_dup S rfl dX4_add_80 ?_
      refine r_getI S (v := I 4 0) fk_X4_9 dX4_add_81 rfl rfl (Nat.lt_of_lt_of_le (by decide) hn) rfl ?_
      refine r_iconst S dX4_add_84 ?_
      refine r_iadd S dX4_add_85 ?_
      refine r_putI S fk_X4_9 dX4_add_86 rfl rfl (Nat.lt_of_lt_of_le (by decide) hn) (Or.inl rfl) (Or.inl rfl) ?_
      refine r_aload_n S rfl dX4_add_89 ?_
      refine r_getI S (v := (I 4 0) + 1) fk_X4_9 dX4_add_90 rfl rfl (Nat.lt_of_lt_of_le (by decide) hn) rfl ?_
      refine r_iconst S dX4_add_93 ?_
      refine r_isub S dX4_add_94 ?_
      refine r_iret SR dX4_add_95 ⟨by decide, by decide⟩ ?_
      exact ⟨by rw [show I 4 0 + 1 - 1 = I 4 0 by omega], rfl, by first | rw [show p = 0 by omega] | rw [show p = 1 by omega], rfl⟩
  · refine r_iconst S dX4_add_7 ?_
    refine r_iret SR dX4_add_8 ⟨by decide, by decide⟩ ?_
    omega
theorem c_X4_givePapers (hn : 103 ≤ n) {a : Int} (ha : rg a) (h0 : 0 ≤ I 4 0) (h1 : I 4 0 ≤ 8) (h9 : ∀ j, 0 ≤ j → j < I 4 0 → rg (I 9 j)) : Ct G yX4_givePapers cX4_givePapers 2 (some .boolean) 1 0 0 [.ref (gb G + 4), .int (jI a)] n I (rst bk dr pt) (PI (b2 ((0 ≤ a ∧ a < I 4 0) ∧ ¬ I 9 a = 1)) n (if (0 ≤ a ∧ a < I 4 0) ∧ ¬ I 9 a = 1 then up I 9 a 1 else I) (rst bk dr pt)) := by
  refine Ct.of [some (.ref (gb G + 4)), some (.int (jI a))] (by decide) rfl rfl rfl ?_
  intro k SR
  have S : Sem G RX4 "givePapers" cX4_givePapers 2 (rmD 1 0 0) k := SR.sem
  refine r_aload_n S rfl dX4_givePapers_0 ?_
  refine r_iload_n S rfl dX4_givePapers_1 ?_
  refine r_callV S lk_X4_50 mk_X4_has (c_X4_has G n I bk dr pt hn ha ⟨by omega, by omega⟩) rfl (Nat.lt_of_lt_of_le (by decide) hn) rfl rfl rfl (Nat.le_of_ble_eq_true rfl) ⟨by decide, by decide⟩ rfl ⟨by decide, by decide⟩ dX4_givePapers_2 ?_
  rintro _ _ _ _ ⟨rfl, rfl, rfl, rfl⟩
  refine r_ifb_eq S (tgt := 18) dX4_givePapers_5 (by decide)  (fun c5 => ?_) (fun c5 => ?_)
  · refine r_iconst S dX4_givePapers_18 ?_
    refine r_zret SR dX4_givePapers_19 (by decide) ⟨by decide, by decide⟩ ?_
    exact ⟨by rw [b2_f (by omega)], rfl, by rw [if_neg (by omega)], rfl⟩
  · refine r_aload_n S rfl dX4_givePapers_8 ?_
    refine r_getR S (o' := 9) fk_X4_28 dX4_givePapers_9 rfl rfl (Nat.lt_of_lt_of_le (by decide) hn) rfl ?_
    refine r_iload_n S rfl dX4_givePapers_12 ?_
    refine r_iald S (v := I 9 a) dX4_givePapers_13 rfl rfl (Nat.lt_of_lt_of_le (by decide) hn) (by omega) (by omega) rfl ?_
    refine r_iconst S dX4_givePapers_14 ?_
    refine r_icmp_ne S (tgt := 20) dX4_givePapers_15 (by decide) (h9 a (by omega) (by omega)) (by decide) (fun c15 => ?_) (fun c15 => ?_)
    · refine r_aload_n S rfl dX4_givePapers_20 ?_
      refine r_getR S (o' := 9) fk_X4_28 dX4_givePapers_21 rfl rfl (Nat.lt_of_lt_of_le (by decide) hn) rfl ?_
      refine r_iload_n S rfl dX4_givePapers_24 ?_
      refine r_iconst S dX4_givePapers_25 ?_
      refine r_iast S dX4_givePapers_26 rfl rfl (Nat.lt_of_lt_of_le (by decide) hn) (by omega) (by omega) ?_
      refine r_iconst S dX4_givePapers_27 ?_
      refine r_zret SR dX4_givePapers_28 (by decide) ⟨by decide, by decide⟩ ?_
      exact ⟨by rw [b2_t (by omega)], rfl, by rw [if_pos (by omega)], rfl⟩
    · refine r_iconst S dX4_givePapers_18 ?_
      refine r_zret SR dX4_givePapers_19 (by decide) ⟨by decide, by decide⟩ ?_
      exact ⟨by rw [b2_f (by omega)], rfl, by rw [if_neg (by omega)], rfl⟩
theorem c_X4_planHouse (hn : 103 ≤ n) {a m : Int} (h0 : 0 ≤ a) (h1 : a < I 4 0) (h2 : I 4 0 ≤ 8) : Ct G yX4_planHouse cX4_planHouse 3 none 1 0 0 [.ref (gb G + 4), .int (jI a), .int (jI m)] n I (rst bk dr pt) (PV n (up I 10 a m) (rst bk dr pt)) := by
  refine Ct.of [some (.ref (gb G + 4)), some (.int (jI a)), some (.int (jI m))] (by decide) rfl rfl rfl ?_
  intro k SR
  have S : Sem G RX4 "planHouse" cX4_planHouse 3 (rmD 1 0 0) k := SR.sem
  refine r_aload_n S rfl dX4_planHouse_0 ?_
  refine r_iload_n S rfl dX4_planHouse_1 ?_
  refine r_callV S lk_X4_50 mk_X4_has (c_X4_has G n I bk dr pt hn ⟨by omega, by omega⟩ ⟨by omega, by omega⟩) rfl (Nat.lt_of_lt_of_le (by decide) hn) rfl rfl rfl (Nat.le_of_ble_eq_true rfl) ⟨by decide, by decide⟩ rfl ⟨by decide, by decide⟩ dX4_planHouse_2 ?_
  rintro _ _ _ _ ⟨rfl, rfl, rfl, rfl⟩
  refine r_ifb_eq S (tgt := 15) dX4_planHouse_5 (by decide)  (fun c5 => ?_) (fun c5 => ?_)
  · exact absurd c5 (by omega)
  · refine r_aload_n S rfl dX4_planHouse_8 ?_
    refine r_getR S (o' := 10) fk_X4_31 dX4_planHouse_9 rfl rfl (Nat.lt_of_lt_of_le (by decide) hn) rfl ?_
    refine r_iload_n S rfl dX4_planHouse_12 ?_
    refine r_iload_n S rfl dX4_planHouse_13 ?_
    refine r_iast S dX4_planHouse_14 rfl rfl (Nat.lt_of_lt_of_le (by decide) hn) (by omega) (by omega) ?_
    refine r_vret SR dX4_planHouse_15 ⟨by decide, by decide⟩ ?_
    exact ⟨rfl, rfl, rfl, rfl⟩
theorem c_X4_isLate (hn : 103 ≤ n) {a : Int} (ha : rg a) (h0 : 0 ≤ I 4 0) (h1 : I 4 0 ≤ 8) (h10 : ∀ j, 0 ≤ j → j < I 4 0 → rg (I 10 j)) (h12 : ∀ j, 0 ≤ j → j < I 4 0 → rg (I 12 j)) : Ct G yX4_isLate cX4_isLate 2 (some .boolean) 1 0 0 [.ref (gb G + 4), .int (jI a)] n I (rst bk dr pt) (PI (b2 ((0 ≤ a ∧ a < I 4 0) ∧ I 12 a < 36 ∧ (I 10 a = -1 ∨ I 12 a ≤ I 10 a))) n I (rst bk dr pt)) := by
  refine Ct.of [some (.ref (gb G + 4)), some (.int (jI a))] (by decide) rfl rfl rfl ?_
  intro k SR
  have S : Sem G RX4 "isLate" cX4_isLate 2 (rmD 1 0 0) k := SR.sem
  refine r_aload_n S rfl dX4_isLate_0 ?_
  refine r_iload_n S rfl dX4_isLate_1 ?_
  refine r_callV S lk_X4_50 mk_X4_has (c_X4_has G n I bk dr pt hn ha ⟨by omega, by omega⟩) rfl (Nat.lt_of_lt_of_le (by decide) hn) rfl rfl rfl (Nat.le_of_ble_eq_true rfl) ⟨by decide, by decide⟩ rfl ⟨by decide, by decide⟩ dX4_isLate_2 ?_
  rintro _ _ _ _ ⟨rfl, rfl, rfl, rfl⟩
  refine r_ifb_eq S (tgt := 19) dX4_isLate_5 (by decide)  (fun c5 => ?_) (fun c5 => ?_)
  · refine r_iconst S dX4_isLate_19 ?_
    refine r_zret SR dX4_isLate_20 (by decide) ⟨by decide, by decide⟩ ?_
    refine ⟨?_, rfl, rfl, rfl⟩
    first | rw [b2_t (by omega)] | rw [b2_f (by omega)]
  · refine r_aload_n S rfl dX4_isLate_8 ?_
    refine r_getR S (o' := 12) fk_X4_38 dX4_isLate_9 rfl rfl (Nat.lt_of_lt_of_le (by decide) hn) rfl ?_
    refine r_iload_n S rfl dX4_isLate_12 ?_
    refine r_iald S (v := I 12 a) dX4_isLate_13 rfl rfl (Nat.lt_of_lt_of_le (by decide) hn) (by omega) (by omega) rfl ?_
    refine r_bipush S (by decide +kernel) dX4_isLate_14 ?_
    refine r_icmp_lt S (tgt := 21) dX4_isLate_16 (by decide) (h12 a (by omega) (by omega)) (by decide) (fun c16 => ?_) (fun c16 => ?_)
    · refine r_aload_n S rfl dX4_isLate_21 ?_
      refine r_getR S (o' := 10) fk_X4_31 dX4_isLate_22 rfl rfl (Nat.lt_of_lt_of_le (by decide) hn) rfl ?_
      refine r_iload_n S rfl dX4_isLate_25 ?_
      refine r_iald S (v := I 10 a) dX4_isLate_26 rfl rfl (Nat.lt_of_lt_of_le (by decide) hn) (by omega) (by omega) rfl ?_
      refine r_iconst S dX4_isLate_27 ?_
      refine r_icmp_eq S (tgt := 46) dX4_isLate_28 (by decide) (h10 a (by omega) (by omega)) (by decide) (fun c28 => ?_) (fun c28 => ?_)
      · refine r_iconst S dX4_isLate_46 ?_
        refine r_goto S (tgt := 51) dX4_isLate_47 (by decide) ?_
        refine r_zret SR dX4_isLate_51 (by decide) ⟨by decide, by decide⟩ ?_
        refine ⟨?_, rfl, rfl, rfl⟩
        first | rw [b2_t (by omega)] | rw [b2_f (by omega)]
      · refine r_aload_n S rfl dX4_isLate_31 ?_
        refine r_getR S (o' := 10) fk_X4_31 dX4_isLate_32 rfl rfl (Nat.lt_of_lt_of_le (by decide) hn) rfl ?_
        refine r_iload_n S rfl dX4_isLate_35 ?_
        refine r_iald S (v := I 10 a) dX4_isLate_36 rfl rfl (Nat.lt_of_lt_of_le (by decide) hn) (by omega) (by omega) rfl ?_
        refine r_aload_n S rfl dX4_isLate_37 ?_
        refine r_getR S (o' := 12) fk_X4_38 dX4_isLate_38 rfl rfl (Nat.lt_of_lt_of_le (by decide) hn) rfl ?_
        refine r_iload_n S rfl dX4_isLate_41 ?_
        refine r_iald S (v := I 12 a) dX4_isLate_42 rfl rfl (Nat.lt_of_lt_of_le (by decide) hn) (by omega) (by omega) rfl ?_
        refine r_icmp_lt S (tgt := 50) dX4_isLate_43 (by decide) (h10 a (by omega) (by omega)) (h12 a (by omega) (by omega)) (fun c43 => ?_) (fun c43 => ?_)
        · refine r_iconst S dX4_isLate_50 ?_
          refine r_zret SR dX4_isLate_51 (by decide) ⟨by decide, by decide⟩ ?_
          refine ⟨?_, rfl, rfl, rfl⟩
          first | rw [b2_t (by omega)] | rw [b2_f (by omega)]
        · refine r_iconst S dX4_isLate_46 ?_
          refine r_goto S (tgt := 51) dX4_isLate_47 (by decide) ?_
          refine r_zret SR dX4_isLate_51 (by decide) ⟨by decide, by decide⟩ ?_
          refine ⟨?_, rfl, rfl, rfl⟩
          first | rw [b2_t (by omega)] | rw [b2_f (by omega)]
    · refine r_iconst S dX4_isLate_19 ?_
      refine r_zret SR dX4_isLate_20 (by decide) ⟨by decide, by decide⟩ ?_
      refine ⟨?_, rfl, rfl, rfl⟩
      first | rw [b2_t (by omega)] | rw [b2_f (by omega)]
theorem c_X8_cutTo (hn : 103 ≤ n) {a : Int} (ha : rg a) (h0 : rg (I 53 0)) : Ct G yX8_cutTo cX8_cutTo 2 (some .boolean) 0 0 0 [.ref (gb G + 53), .int (jI a)] n I (rst bk dr pt) (PI (b2 (0 ≤ a ∧ a ≤ I 53 0)) n (if 0 ≤ a ∧ a ≤ I 53 0 then up I 53 0 a else I) (rst bk dr pt)) := by
  refine Ct.of [some (.ref (gb G + 53)), some (.int (jI a))] (by decide) rfl rfl rfl ?_
  intro k SR
  have S : Sem G RX8 "cutTo" cX8_cutTo 2 (rmD 0 0 0) k := SR.sem
  refine r_iload_n S rfl dX8_cutTo_0 ?_
  refine r_if_lt S (tgt := 12) dX8_cutTo_1 (by decide) (by omega) (fun c1 => ?_) (fun c1 => ?_)
  · refine r_iconst S dX8_cutTo_12 ?_
    refine r_zret SR dX8_cutTo_13 (by decide) ⟨by decide, by decide⟩ ?_
    exact ⟨by rw [b2_f (by omega)], rfl, by rw [if_neg (by omega)], rfl⟩
  · refine r_iload_n S rfl dX8_cutTo_4 ?_
    refine r_aload_n S rfl dX8_cutTo_5 ?_
    refine r_getI S (v := I 53 0) fk_X8_9 dX8_cutTo_6 rfl rfl (Nat.lt_of_lt_of_le (by decide) hn) rfl ?_
    refine r_icmp_le S (tgt := 14) dX8_cutTo_9 (by decide) (by omega) (by omega) (fun c9 => ?_) (fun c9 => ?_)
    · refine r_aload_n S rfl dX8_cutTo_14 ?_
      refine r_iload_n S rfl dX8_cutTo_15 ?_
      refine r_putI S fk_X8_9 dX8_cutTo_16 rfl rfl (Nat.lt_of_lt_of_le (by decide) hn) (Or.inl rfl) (Or.inl rfl) ?_
      refine r_iconst S dX8_cutTo_19 ?_
      refine r_zret SR dX8_cutTo_20 (by decide) ⟨by decide, by decide⟩ ?_
      exact ⟨by rw [b2_t (by omega)], rfl, by rw [if_pos (by omega)], rfl⟩
    · refine r_iconst S dX8_cutTo_12 ?_
      refine r_zret SR dX8_cutTo_13 (by decide) ⟨by decide, by decide⟩ ?_
      exact ⟨by rw [b2_f (by omega)], rfl, by rw [if_neg (by omega)], rfl⟩
theorem c_X8_byteAt (hn : 103 ≤ n) {a : Int} (ha : rg a) (h0 : 0 ≤ I 53 0) (h1 : I 53 0 ≤ 400) : Ct G yX8_byteAt cX8_byteAt 2 (some .int) 0 0 0 [.ref (gb G + 53), .int (jI a)] n I (rst bk dr pt) (PI (if 0 ≤ a ∧ a < I 53 0 then I 54 a else -1) n I (rst bk dr pt)) := by
  refine Ct.of [some (.ref (gb G + 53)), some (.int (jI a))] (by decide) rfl rfl rfl ?_
  intro k SR
  have S : Sem G RX8 "byteAt" cX8_byteAt 2 (rmD 0 0 0) k := SR.sem
  refine r_iload_n S rfl dX8_byteAt_0 ?_
  refine r_if_lt S (tgt := 21) dX8_byteAt_1 (by decide) (by omega) (fun c1 => ?_) (fun c1 => ?_)
  · refine r_iconst S dX8_byteAt_21 ?_
    refine r_iret SR dX8_byteAt_22 ⟨by decide, by decide⟩ ?_
    refine ⟨?_, rfl, rfl, rfl⟩
    first | rw [if_pos (by omega)] | rw [if_neg (by omega)]
  · refine r_iload_n S rfl dX8_byteAt_4 ?_
    refine r_aload_n S rfl dX8_byteAt_5 ?_
    refine r_getI S (v := I 53 0) fk_X8_9 dX8_byteAt_6 rfl rfl (Nat.lt_of_lt_of_le (by decide) hn) rfl ?_
    refine r_icmp_ge S (tgt := 21) dX8_byteAt_9 (by decide) (by omega) (by omega) (fun c9 => ?_) (fun c9 => ?_)
    · refine r_iconst S dX8_byteAt_21 ?_
      refine r_iret SR dX8_byteAt_22 ⟨by decide, by decide⟩ ?_
      refine ⟨?_, rfl, rfl, rfl⟩
      first | rw [if_pos (by omega)] | rw [if_neg (by omega)]
    · refine r_aload_n S rfl dX8_byteAt_12 ?_
      refine r_getR S (o' := 54) fk_X8_15 dX8_byteAt_13 rfl rfl (Nat.lt_of_lt_of_le (by decide) hn) rfl ?_
      refine r_iload_n S rfl dX8_byteAt_16 ?_
      refine r_iald S (v := I 54 a) dX8_byteAt_17 rfl rfl (Nat.lt_of_lt_of_le (by decide) hn) (by omega) (by omega) rfl ?_
      refine r_goto S (tgt := 22) dX8_byteAt_18 (by decide) ?_
      refine r_iret SR dX8_byteAt_22 ⟨by decide, by decide⟩ ?_
      refine ⟨?_, rfl, rfl, rfl⟩
      first | rw [if_pos (by omega)] | rw [if_neg (by omega)]
end
