/-! ===== what the class's calls come to (the larger ones) ===== -/
abbrev wlC (I : Iv) : Int → Int := plF (drF (I 2) (I 3) (I 5)) (I 4 0).toNat (I 15) (36 - I 0 0).toNat (I 0 0) (plan0 (I 11) (I 10))
def plP (I : Iv) : Prop := (0 ≤ I 0 0 ∧ I 0 0 ≤ 35) ∧ (0 ≤ I 4 0 ∧ I 4 0 ≤ 8) ∧ (∀ j, 0 ≤ j → j < 36 → rg (I 2 j)) ∧ (∀ j, 0 ≤ j → j < 4 → rg (I 3 j)) ∧ (∀ j, 0 ≤ j → j < I 4 0 → 0 ≤ I 5 j ∧ I 5 j ≤ 3) ∧ (∀ j, 0 ≤ j → j < I 4 0 → -1 ≤ I 10 j ∧ I 10 j ≤ 35) ∧ (∀ j, 0 ≤ j → j < I 4 0 → I 11 j = 0 ∨ I 11 j = 1) ∧ ∀ j, 0 ≤ j → j < 36 → 0 ≤ I 15 j ∧ I 15 j ≤ 8
theorem fm_rg (lev : Int → Int) (h : Int) : 0 ≤ fm lev h ∧ fm lev h ≤ 36 := by
  have : ∀ (q : Nat) (m : Int), 0 ≤ m → m + q = 36 → 0 ≤ fmF lev h q m ∧ fmF lev h q m ≤ 36 := by
    intro q
    induction q with
    | zero => intro m h0 h1; exact ⟨by show 0 ≤ m; omega, by show m ≤ 36; omega⟩
    | succ q ih =>
      intro m h0 h1
      rw [fmF]
      split
      · first | exact ⟨by omega, by omega⟩ | exact ih (m + 1) (by omega) (by omega)
      · first | exact ⟨by omega, by omega⟩ | exact ih (m + 1) (by omega) (by omega)
  exact this 36 0 (by omega) (by omega)
theorem wlC_rg {I : Iv} (h : plP I) {j : Int} (j0 : 0 ≤ j) (j1 : j < I 4 0) : -1 ≤ wlC I j ∧ wlC I j ≤ 35 := by
  have ht := h.1
  rcases plF_range (d := drF (I 2) (I 3) (I 5)) (bld := I 15) (c := (I 4 0).toNat) j (36 - I 0 0).toNat (I 0 0) (plan0 (I 11) (I 10)) with e | e
  · have e' : wlC I j = plan0 (I 11) (I 10) j := e
    rw [e']
    have h10 := h.2.2.2.2.2.1 j j0 j1
    show -1 ≤ (if I 11 j = 0 then -1 else I 10 j) ∧ (if I 11 j = 0 then -1 else I 10 j) ≤ 35
    split <;> omega
  · have e' : I 0 0 ≤ wlC I j ∧ wlC I j < I 0 0 + ((36 - I 0 0).toNat : Nat) := e
    omega
def slk (bk : Nat) (I I' : Iv) : Prop := (∀ o, o ≠ 10 → o ≠ 12 → o ≠ 13 → o ≠ bk → o ≠ bk + 5 → I' o = I o) ∧ (∀ j, j ≠ 6 → I' bk j = I bk j) ∧ (I' 10 = I 10 ∨ ∀ h, 0 ≤ h → h < I 4 0 → I' 10 h = wlC I h)
theorem slk.rf (bk : Nat) (I : Iv) : slk bk I I := ⟨fun _ _ _ _ _ _ => rfl, fun _ _ => rfl, Or.inl rfl⟩
theorem slk.pl {bk : Nat} (hb : 60 ≤ bk) {I J : Iv} (h : ∀ o, o ≠ 10 → o ≠ 12 → J o = I o) (h2 : ∀ h, 0 ≤ h → h < I 4 0 → J 10 h = wlC I h) : slk bk I J := ⟨fun o a b _ _ _ => h o a b, fun j _ => by rw [h bk (by omega) (by omega)], Or.inr h2⟩
theorem slk.ev {bk : Nat} (hb : 60 ≤ bk) {I J : Iv} (h : evOnly bk I J) : slk bk I J := ⟨fun o _ _ a b c => h.1 o a b c, h.2, Or.inl (h.1 10 (by decide) (by omega) (by omega))⟩
def lkC (bk : Nat) (I : Iv) (w : Int) : Int := if w = 0 then I 0 0 else if w = 1 then I 4 0 else if w = 2 then I 16 0 else if w = 3 then I 51 0 else if w = 4 then I bk 0 else if w = 5 then sumF (fun h => b2 (¬ I 11 h = 0)) (I 4 0).toNat else if w = 6 then sumF (fun h => b2 (lateP (drF (I 2) (I 3) (I 5) h) (wlC I h))) (I 4 0).toNat else -1
def ofC (I : Iv) (rs : RLs) (h w : Int) : Int := if w = 0 then I 5 h else if w = 1 then I 6 h else if w = 2 then I 7 h else if w = 3 then I 8 h else if w = 4 then I 9 h else if w = 5 then dueS (fxH I h) rs else if w = 6 then ruleS (fxH I h) rs 0 else if w = 7 then wlC I h else if w = 8 then b2 (lateP (drF (I 2) (I 3) (I 5) h) (wlC I h)) else -1
def moW (I I' : Iv) (a : Int) : Prop := (∀ o, o ≠ 0 → o ≠ 10 → o ≠ 11 → o ≠ 12 → I' o = I o) ∧ (∀ j, j ≠ 0 → I' 0 j = I 0 j) ∧ I' 0 0 = I 0 0 + a ∧ (∀ h, 0 ≤ h → h < I 4 0 → I' 10 h = wlC I h) ∧ (∀ h, 0 ≤ h → h < I 4 0 → I' 11 h = if ¬ wlC I h = -1 ∧ wlC I h < I 0 0 + a then 1 else I 11 h) ∧ ∀ h, I 4 0 ≤ h → I' 11 h = I 11 h
section
variable (G : GE) (n : Nat) (I : Iv) (bk dr : Nat) (pt : Option Nat)
theorem c_plan (hn : 103 ≤ n) (h : plP I) : Ct G yX0_plan cX0_plan 7 none 3 0 0 [.ref (gb G + 14), .ref (gb G + 4), .ref (gb G + 1), .int (jI (I 0 0))] n I (rst bk dr pt) (fun v n' I' ρ' => v = none ∧ n = n' ∧ rst bk dr pt = ρ' ∧ (∀ o, o ≠ 10 → o ≠ 12 → I' o = I o) ∧ (∀ h, 0 ≤ h → h < I 4 0 → I' 12 h = drF (I 2) (I 3) (I 5) h) ∧ ∀ h, 0 ≤ h → h < I 4 0 → I' 10 h = wlC I h) :=
  c_X0_plan G n I bk dr pt hn (t := I 0 0) h.1.1 h.1.2 h.2.1.1 h.2.1.2 h.2.2.1 h.2.2.2.1 h.2.2.2.2.1 (fun j a b => by have := h.2.2.2.2.2.1 j a b; omega) (fun j a b => by have := h.2.2.2.2.2.2.1 j a b; omega) h.2.2.2.2.2.2.2
theorem c_X4_finish2 (hn : 103 ≤ n) {t : Int} (ht : rg t) (h0 : 0 ≤ I 4 0) (h1 : I 4 0 ≤ 8) (h10 : ∀ j, 0 ≤ j → j < I 4 0 → rg (I 10 j)) : Ct G yX4_finishHousesBefore cX4_finishHousesBefore 3 none 0 0 0 [.ref (gb G + 4), .int (jI t)] n I (rst bk dr pt) (fun v n' I' ρ' => v = none ∧ n = n' ∧ rst bk dr pt = ρ' ∧ (∀ o, o ≠ 11 → I' o = I o) ∧ (∀ h, 0 ≤ h → h < I 4 0 → I' 11 h = if ¬ I 10 h = -1 ∧ I 10 h < t then 1 else I 11 h) ∧ ∀ h, I 4 0 ≤ h → I' 11 h = I 11 h) := by
  refine Ct.of [some (.ref (gb G + 4)), some (.int (jI t)), none] (by decide) rfl rfl rfl ?_
  intro k SR
  have S : Sem G RX4 "finishHousesBefore" cX4_finishHousesBefore 3 (rmD 0 0 0) k := SR.sem
  have loop : ∀ (q : Nat) (h : Int) (J : Iv), 0 ≤ h → h ≤ I 4 0 → I 4 0 < h + q → (∀ o, o ≠ 11 → J o = I o) → (∀ j, 0 ≤ j → j < h → J 11 j = if ¬ I 10 j = -1 ∧ I 10 j < t then 1 else I 11 j) → (∀ j, h ≤ j → J 11 j = I 11 j) → k 2 [some (.ref (gb G + 4)), some (.int (jI t)), some (.int (jI h))] [] n J (rst bk dr pt) 0 0 := by
    intro q
    induction q with
    | zero => intro h _ _ _ _; omega
    | succ q ih =>
      intro h J a0 a1 a2 jo j11 j11b
      have e4 := congrFun (jo 4 (by decide)) 0
      have e10 := congrFun (jo 10 (by decide)) h
      refine r_iload_n S rfl dX4_finishHousesBefore_2 ?_
      refine r_aload_n S rfl dX4_finishHousesBefore_3 ?_
      refine r_getI S (v := J 4 0) fk_X4_9 dX4_finishHousesBefore_4 rfl rfl (Nat.lt_of_lt_of_le (by decide) hn) rfl ?_
      refine r_icmp_ge S (tgt := 43) dX4_finishHousesBefore_7 (by decide) (by omega) (by omega) (fun c7 => ?_) (fun c7 => ?_)
      · refine r_vret SR dX4_finishHousesBefore_43 ⟨by decide, by decide⟩ ?_
        exact ⟨rfl, rfl, rfl, jo, fun j b0 b1 => j11 j b0 (by omega), fun j b0 => j11b j (by omega)⟩
      · refine r_aload_n S rfl dX4_finishHousesBefore_10 ?_
        refine r_getR S (o' := 10) fk_X4_31 dX4_finishHousesBefore_11 rfl rfl (Nat.lt_of_lt_of_le (by decide) hn) rfl ?_
        refine r_iload_n S rfl dX4_finishHousesBefore_14 ?_
        refine r_iald S (v := J 10 h) dX4_finishHousesBefore_15 rfl rfl (Nat.lt_of_lt_of_le (by decide) hn) (by omega) (by omega) rfl ?_
        refine r_iconst S dX4_finishHousesBefore_16 ?_
        refine r_icmp_eq S (tgt := 37) dX4_finishHousesBefore_17 (by decide) (by rw [e10]; exact h10 h (by omega) (by omega)) (by decide) (fun c17 => ?_) (fun c17 => ?_)
        · refine r_iinc S dX4_finishHousesBefore_37 rfl rfl rfl ?_
          refine r_goto S (tgt := 2) dX4_finishHousesBefore_40 (by decide) ?_
          refine ih (h + 1) _ (by omega) (by omega) (by omega) ?_ ?_ ?_
          · intro o o1
            first | rw [up_o o1, jo o o1] | rw [jo o o1]
          · intro j b0 b1
            by_cases e : j = h
            · subst e
              first | rw [up_s, if_pos (by omega)] | (rw [if_neg (by omega)]; exact j11b j (by omega))
            · first | rw [up_i e, j11 j b0 (by omega)] | rw [j11 j b0 (by omega)]
          · intro j b0
            first | rw [up_i (by omega), j11b j (by omega)] | rw [j11b j (by omega)]
        · refine r_aload_n S rfl dX4_finishHousesBefore_20 ?_
          refine r_getR S (o' := 10) fk_X4_31 dX4_finishHousesBefore_21 rfl rfl (Nat.lt_of_lt_of_le (by decide) hn) rfl ?_
          refine r_iload_n S rfl dX4_finishHousesBefore_24 ?_
          refine r_iald S (v := J 10 h) dX4_finishHousesBefore_25 rfl rfl (Nat.lt_of_lt_of_le (by decide) hn) (by omega) (by omega) rfl ?_
          refine r_iload_n S rfl dX4_finishHousesBefore_26 ?_
          refine r_icmp_ge S (tgt := 37) dX4_finishHousesBefore_27 (by decide) (by rw [e10]; exact h10 h (by omega) (by omega)) (by assumption) (fun c27 => ?_) (fun c27 => ?_)
          · refine r_iinc S dX4_finishHousesBefore_37 rfl rfl rfl ?_
            refine r_goto S (tgt := 2) dX4_finishHousesBefore_40 (by decide) ?_
            refine ih (h + 1) _ (by omega) (by omega) (by omega) ?_ ?_ ?_
            · intro o o1
              first | rw [up_o o1, jo o o1] | rw [jo o o1]
            · intro j b0 b1
              by_cases e : j = h
              · subst e
                first | rw [up_s, if_pos (by omega)] | (rw [if_neg (by omega)]; exact j11b j (by omega))
              · first | rw [up_i e, j11 j b0 (by omega)] | rw [j11 j b0 (by omega)]
            · intro j b0
              first | rw [up_i (by omega), j11b j (by omega)] | rw [j11b j (by omega)]
          · refine r_aload_n S rfl dX4_finishHousesBefore_30 ?_
            refine r_getR S (o' := 11) fk_X4_34 dX4_finishHousesBefore_31 rfl rfl (Nat.lt_of_lt_of_le (by decide) hn) rfl ?_
            refine r_iload_n S rfl dX4_finishHousesBefore_34 ?_
            refine r_iconst S dX4_finishHousesBefore_35 ?_
            refine r_bast S dX4_finishHousesBefore_36 rfl rfl (Nat.lt_of_lt_of_le (by decide) hn) (by omega) (by omega) (by omega) ?_
            refine r_iinc S dX4_finishHousesBefore_37 rfl rfl rfl ?_
            refine r_goto S (tgt := 2) dX4_finishHousesBefore_40 (by decide) ?_
            refine ih (h + 1) _ (by omega) (by omega) (by omega) ?_ ?_ ?_
            · intro o o1
              first | rw [up_o o1, jo o o1] | rw [jo o o1]
            · intro j b0 b1
              by_cases e : j = h
              · subst e
                first | rw [up_s, if_pos (by omega)] | (rw [if_neg (by omega)]; exact j11b j (by omega))
              · first | rw [up_i e, j11 j b0 (by omega)] | rw [j11 j b0 (by omega)]
            · intro j b0
              first | rw [up_i (by omega), j11b j (by omega)] | rw [j11b j (by omega)]
  refine r_iconst S dX4_finishHousesBefore_0 ?_
  refine r_istore_n S dX4_finishHousesBefore_1 rfl rfl ?_
  exact loop ((I 4 0).toNat + 1) 0 I (by omega) (by omega) (by omega) (fun _ _ => rfl) (fun j b0 b1 => by omega) (fun _ _ => rfl)
theorem c_X11_months (hn : 103 ≤ n) {a : Int} (ha : rg a) (hP : plP I) : Ct G yX11_months cX11_months 2 (some .int) 4 0 0 [.ref (gb G + 0), .int (jI a)] n I (rst bk dr pt) (fun v n' I' ρ' => n = n' ∧ rst bk dr pt = ρ' ∧ ((((1 ≤ a ∧ a ≤ 12) ∧ I 0 0 + a < 36) ∧ v = some (.int (jI (I 0 0 + a))) ∧ moW I I' a) ∨ (¬ ((1 ≤ a ∧ a ≤ 12) ∧ I 0 0 + a < 36) ∧ v = some (.int (jI (-1))) ∧ I = I'))) := by
  refine Ct.of [some (.ref (gb G + 0)), some (.int (jI a))] (by decide) rfl rfl rfl ?_
  intro k SR
  have S : Sem G RX11 "months" cX11_months 2 (rmD 4 0 0) k := SR.sem
  have ht := hP.1
  have hc := hP.2.1
  refine r_iload_n S rfl dX11_months_0 ?_
  refine r_iconst S dX11_months_1 ?_
  refine r_bipush S (by decide +kernel) dX11_months_2 ?_
  refine r_callS S lk_X11_91 mk_X11_isWithin (c_X11_isWithin G n I (rst bk dr pt) ha (by decide) (by decide)) rfl rfl (Nat.le_of_ble_eq_true rfl) ⟨by decide, by decide⟩ rfl ⟨by decide, by decide⟩ dX11_months_4 ?_
  rintro _ _ _ _ ⟨rfl, rfl, rfl, rfl⟩
  refine r_ifb_eq S (tgt := 21) dX11_months_7 (by decide)  (fun c7 => ?_) (fun c7 => ?_)
  · refine r_iconst S dX11_months_21 ?_
    refine r_iret SR dX11_months_22 ⟨by decide, by decide⟩ ?_
    exact ⟨rfl, rfl, Or.inr ⟨by omega, rfl, rfl⟩⟩
  · refine r_aload_n S rfl dX11_months_10 ?_
    refine r_getI S (v := I 0 0) fk_X11_7 dX11_months_11 rfl rfl (Nat.lt_of_lt_of_le (by decide) hn) rfl ?_
    refine r_iload_n S rfl dX11_months_14 ?_
    refine r_iadd S dX11_months_15 ?_
    refine r_bipush S (by decide +kernel) dX11_months_16 ?_
    refine r_icmp_lt S (tgt := 23) dX11_months_18 (by decide) (by omega) (by decide) (fun c18 => ?_) (fun c18 => ?_)
    · refine r_aload_n S rfl dX11_months_23 ?_
      refine r_getR S (o' := 14) fk_X11_30 dX11_months_24 rfl rfl (Nat.lt_of_lt_of_le (by decide) hn) rfl ?_
      refine r_aload_n S rfl dX11_months_27 ?_
      refine r_getR S (o' := 4) fk_X11_23 dX11_months_28 rfl rfl (Nat.lt_of_lt_of_le (by decide) hn) rfl ?_
      refine r_aload_n S rfl dX11_months_31 ?_
      refine r_getR S (o' := 1) fk_X11_16 dX11_months_32 rfl rfl (Nat.lt_of_lt_of_le (by decide) hn) rfl ?_
      refine r_aload_n S rfl dX11_months_35 ?_
      refine r_getI S (v := I 0 0) fk_X11_7 dX11_months_36 rfl rfl (Nat.lt_of_lt_of_le (by decide) hn) rfl ?_
      refine r_callV S lk_X11_155 mk_X0_plan (c_plan G n I bk dr pt hn hP) rfl (Nat.lt_of_lt_of_le (by decide) hn) rfl rfl rfl (Nat.le_of_ble_eq_true rfl) ⟨by decide, by decide⟩ rfl ⟨by decide, by decide⟩ dX11_months_39 ?_
      rintro _ _ J _ ⟨rfl, rfl, rfl, g1, g2, g3⟩
      have e0 : J 0 0 = I 0 0 := by rw [g1 0 (by decide) (by decide)]
      have e4 : J 4 0 = I 4 0 := by rw [g1 4 (by decide) (by decide)]
      obtain ⟨J1, eJ1⟩ : ∃ J1, J1 = up J 0 0 (I 0 0 + a) := ⟨_, rfl⟩
      have f1 : ∀ o, o ≠ 0 → J1 o = J o := fun o ho => by rw [eJ1, up_o ho]
      have f4 : J1 4 0 = I 4 0 := by rw [f1 4 (by decide)]; exact e4
      have f0 : J1 0 0 = I 0 0 + a := by rw [eJ1, up_s]
      have wr := fun (h : Int) (p : 0 ≤ h) (q : h < I 4 0) => wlC_rg hP p q
      refine r_aload_n S rfl dX11_months_42 ?_
      refine r_dup S rfl dX11_months_43 ?_
      refine r_getI S (v := J 0 0) fk_X11_7 dX11_months_44 rfl rfl (Nat.lt_of_lt_of_le (by decide) hn) rfl ?_
      rw [e0]
      refine r_iload_n S rfl dX11_months_47 ?_
      refine r_iadd S dX11_months_48 ?_
      refine r_putI S fk_X11_7 dX11_months_49 rfl rfl (Nat.lt_of_lt_of_le (by decide) hn) (Or.inl rfl) (Or.inl rfl) ?_
      rw [← eJ1]
      refine r_aload_n S rfl dX11_months_52 ?_
      refine r_getR S (o' := 4) fk_X11_23 dX11_months_53 rfl rfl (Nat.lt_of_lt_of_le (by decide) hn) rfl ?_
      refine r_aload_n S rfl dX11_months_56 ?_
      refine r_getI S (v := J1 0 0) fk_X11_7 dX11_months_57 rfl rfl (Nat.lt_of_lt_of_le (by decide) hn) rfl ?_
      rw [f0]
      refine r_callV S lk_X11_224 mk_X4_finishHousesBefore (c_X4_finish2 G n J1 bk dr pt hn (t := I 0 0 + a) (by omega) (by omega) (by omega) (fun j p q => by rw [f1 10 (by decide), g3 j p (by omega)]; have := wr j p (by omega); omega)) rfl (Nat.lt_of_lt_of_le (by decide) hn) rfl rfl rfl (Nat.le_of_ble_eq_true rfl) ⟨by decide, by decide⟩ rfl ⟨by decide, by decide⟩ dX11_months_60 ?_
      rintro _ _ K _ ⟨rfl, rfl, rfl, k1, k2, k3⟩
      have k0 : K 0 0 = I 0 0 + a := by rw [k1 0 (by decide)]; exact f0
      refine r_aload_n S rfl dX11_months_63 ?_
      refine r_getI S (v := K 0 0) fk_X11_7 dX11_months_64 rfl rfl (Nat.lt_of_lt_of_le (by decide) hn) rfl ?_
      rw [k0]
      refine r_iret SR dX11_months_67 ⟨by decide, by decide⟩ ?_
      refine ⟨rfl, rfl, Or.inl ⟨by omega, rfl, fun o o1 o2 o3 o4 => ?_, fun j hj => ?_, k0, fun h p q => ?_, fun h p q => ?_, fun h p => ?_⟩⟩
      · rw [k1 o o3, f1 o o1]; exact g1 o o2 o4
      · rw [k1 0 (by decide), eJ1, up_i hj, g1 0 (by decide) (by decide)]
      · rw [k1 10 (by decide), f1 10 (by decide)]; exact g3 h p q
      · rw [k2 h p (by omega), f1 10 (by decide), g3 h p q, f1 11 (by decide), g1 11 (by decide) (by decide)]
      · rw [k3 h (by omega), f1 11 (by decide), g1 11 (by decide) (by decide)]
    · refine r_iconst S dX11_months_21 ?_
      refine r_iret SR dX11_months_22 ⟨by decide, by decide⟩ ?_
      exact ⟨rfl, rfl, Or.inr ⟨by omega, rfl, rfl⟩⟩
theorem c_X11_look (hB : BkOk n (rst bk dr pt) bk) {a : Int} (ha : rg a) (hP : plP I) : Ct G yX11_look cX11_look 2 (some .int) 4 0 0 [.ref (gb G + 0), .int (jI a)] n I (rst bk dr pt) (fun v n' I' ρ' => v = some (.int (jI (lkC bk I a))) ∧ n = n' ∧ rst bk dr pt = ρ' ∧ slk bk I I') := by
  obtain ⟨hn, hb, hb', k0⟩ := BkOk_nth hB
  refine Ct.of [some (.ref (gb G + 0)), some (.int (jI a))] (by decide) rfl rfl rfl ?_
  intro k SR
  have S : Sem G RX11 "look" cX11_look 2 (rmD 4 0 0) k := SR.sem
  have ht := hP.1
  have hc := hP.2.1
  have z0 : a = 0 → lkC bk I a = I 0 0 := fun h => by unfold lkC; rw [if_pos h]
  have z1 : a = 1 → lkC bk I a = I 4 0 := fun h => by unfold lkC; rw [if_neg (by omega), if_pos h]
  have z2 : a = 2 → lkC bk I a = I 16 0 := fun h => by unfold lkC; rw [if_neg (by omega), if_neg (by omega), if_pos h]
  have z3 : a = 3 → lkC bk I a = I 51 0 := fun h => by unfold lkC; rw [if_neg (by omega), if_neg (by omega), if_neg (by omega), if_pos h]
  have z4 : a = 4 → lkC bk I a = I bk 0 := fun h => by unfold lkC; rw [if_neg (by omega), if_neg (by omega), if_neg (by omega), if_neg (by omega), if_pos h]
  have z5 : a = 5 → lkC bk I a = sumF (fun h => b2 (¬ I 11 h = 0)) (I 4 0).toNat := fun h => by unfold lkC; rw [if_neg (by omega), if_neg (by omega), if_neg (by omega), if_neg (by omega), if_neg (by omega), if_pos h]
  have z6 : a = 6 → lkC bk I a = sumF (fun h => b2 (lateP (drF (I 2) (I 3) (I 5) h) (wlC I h))) (I 4 0).toNat := fun h => by unfold lkC; rw [if_neg (by omega), if_neg (by omega), if_neg (by omega), if_neg (by omega), if_neg (by omega), if_neg (by omega), if_pos h]
  have z7 : a < 0 ∨ 6 < a → lkC bk I a = -1 := fun h => by unfold lkC; rw [if_neg (by omega), if_neg (by omega), if_neg (by omega), if_neg (by omega), if_neg (by omega), if_neg (by omega), if_neg (by omega)]
  refine r_iload_n S rfl dX11_look_0 ?_
  rcases (by omega : a = 0 ∨ a = 1 ∨ a = 2 ∨ a = 3 ∨ a = 4 ∨ a = 5 ∨ a = 6 ∨ (a < 0 ∨ 6 < a)) with c1 | c1 | c1 | c1 | c1 | c1 | c1 | c1
  · refine r_tableIn S 0 (tgt := 44) dX11_look_1 c1 (by decide) (by decide) (by decide) rfl (by decide) ?_
    refine r_aload_n S rfl dX11_look_44 ?_
    refine r_getI S (v := I 0 0) fk_X11_7 dX11_look_45 rfl rfl (Nat.lt_of_lt_of_le (by decide) hn) rfl ?_
    refine r_iret SR dX11_look_48 ⟨by decide, by decide⟩ ?_
    exact ⟨by rw [z0 c1], rfl, rfl, slk.rf _ _⟩
  · refine r_tableIn S 1 (tgt := 49) dX11_look_1 c1 (by decide) (by decide) (by decide) rfl (by decide) ?_
    refine r_aload_n S rfl dX11_look_49 ?_
    refine r_getR S (o' := 4) fk_X11_23 dX11_look_50 rfl rfl (Nat.lt_of_lt_of_le (by decide) hn) rfl ?_
    refine r_getI S (v := I 4 0) fk_X11_146 dX11_look_53 rfl rfl (Nat.lt_of_lt_of_le (by decide) hn) rfl ?_
    refine r_iret SR dX11_look_56 ⟨by decide, by decide⟩ ?_
    exact ⟨by rw [z1 c1], rfl, rfl, slk.rf _ _⟩
  · refine r_tableIn S 2 (tgt := 57) dX11_look_1 c1 (by decide) (by decide) (by decide) rfl (by decide) ?_
    refine r_aload_n S rfl dX11_look_57 ?_
    refine r_getR S (o' := 16) fk_X11_37 dX11_look_58 rfl rfl (Nat.lt_of_lt_of_le (by decide) hn) rfl ?_
    refine r_getI S (v := I 16 0) fk_X11_147 dX11_look_61 rfl rfl (Nat.lt_of_lt_of_le (by decide) hn) rfl ?_
    refine r_iret SR dX11_look_64 ⟨by decide, by decide⟩ ?_
    exact ⟨by rw [z2 c1], rfl, rfl, slk.rf _ _⟩
  · refine r_tableIn S 3 (tgt := 65) dX11_look_1 c1 (by decide) (by decide) (by decide) rfl (by decide) ?_
    refine r_aload_n S rfl dX11_look_65 ?_
    refine r_getR S (o' := 51) fk_X11_44 dX11_look_66 rfl rfl (Nat.lt_of_lt_of_le (by decide) hn) rfl ?_
    refine r_getI S (v := I 51 0) fk_X11_150 dX11_look_69 rfl rfl (Nat.lt_of_lt_of_le (by decide) hn) rfl ?_
    refine r_iret SR dX11_look_72 ⟨by decide, by decide⟩ ?_
    exact ⟨by rw [z3 c1], rfl, rfl, slk.rf _ _⟩
  · refine r_tableIn S 4 (tgt := 73) dX11_look_1 c1 (by decide) (by decide) (by decide) rfl (by decide) ?_
    refine r_aload_n S rfl dX11_look_73 ?_
    refine r_getR S (o' := bk) fk_X11_65 dX11_look_74 rfl rfl (Nat.lt_of_lt_of_le (by decide) hn) rfl ?_
    refine r_getI S (v := I bk 0) fk_X11_137 dX11_look_77 k0 rfl (by omega) rfl ?_
    refine r_iret SR dX11_look_80 ⟨by decide, by decide⟩ ?_
    exact ⟨by rw [z4 c1], rfl, rfl, slk.rf _ _⟩
  · refine r_tableIn S 5 (tgt := 81) dX11_look_1 c1 (by decide) (by decide) (by decide) rfl (by decide) ?_
    refine r_aload_n S rfl dX11_look_81 ?_
    refine r_getR S (o' := 4) fk_X11_23 dX11_look_82 rfl rfl (Nat.lt_of_lt_of_le (by decide) hn) rfl ?_
    refine r_callV S lk_X11_151 mk_X4_countReady (c_X4_countReady G n I bk dr pt hn hc.1 hc.2 (fun j p q => by have := hP.2.2.2.2.2.2.1 j p q; omega)) rfl (Nat.lt_of_lt_of_le (by decide) hn) rfl rfl rfl (Nat.le_of_ble_eq_true rfl) ⟨by decide, by decide⟩ rfl ⟨by decide, by decide⟩ dX11_look_85 ?_
    rintro _ _ _ _ ⟨rfl, rfl, rfl, rfl⟩
    refine r_iret SR dX11_look_88 ⟨by decide, by decide⟩ ?_
    exact ⟨by rw [z5 c1], rfl, rfl, slk.rf _ _⟩
  · refine r_tableIn S 6 (tgt := 89) dX11_look_1 c1 (by decide) (by decide) (by decide) rfl (by decide) ?_
    refine r_aload_n S rfl dX11_look_89 ?_
    refine r_getR S (o' := 14) fk_X11_30 dX11_look_90 rfl rfl (Nat.lt_of_lt_of_le (by decide) hn) rfl ?_
    refine r_aload_n S rfl dX11_look_93 ?_
    refine r_getR S (o' := 4) fk_X11_23 dX11_look_94 rfl rfl (Nat.lt_of_lt_of_le (by decide) hn) rfl ?_
    refine r_aload_n S rfl dX11_look_97 ?_
    refine r_getR S (o' := 1) fk_X11_16 dX11_look_98 rfl rfl (Nat.lt_of_lt_of_le (by decide) hn) rfl ?_
    refine r_aload_n S rfl dX11_look_101 ?_
    refine r_getI S (v := I 0 0) fk_X11_7 dX11_look_102 rfl rfl (Nat.lt_of_lt_of_le (by decide) hn) rfl ?_
    refine r_callV S lk_X11_155 mk_X0_plan (c_plan G n I bk dr pt hn hP) rfl (Nat.lt_of_lt_of_le (by decide) hn) rfl rfl rfl (Nat.le_of_ble_eq_true rfl) ⟨by decide, by decide⟩ rfl ⟨by decide, by decide⟩ dX11_look_105 ?_
    rintro _ _ J _ ⟨rfl, rfl, rfl, g1, g2, g3⟩
    have e4 : J 4 0 = I 4 0 := by rw [g1 4 (by decide) (by decide)]
    have es : sumF (fun h => b2 (lateP (J 12 h) (J 10 h))) (J 4 0).toNat = sumF (fun h => b2 (lateP (drF (I 2) (I 3) (I 5) h) (wlC I h))) (I 4 0).toNat := by
      rw [e4]
      exact sumF_congr _ (fun h p q => by show b2 (lateP (J 12 h) (J 10 h)) = _; rw [g2 h p (by omega), g3 h p (by omega)])
    refine r_aload_n S rfl dX11_look_108 ?_
    refine r_getR S (o' := 4) fk_X11_23 dX11_look_109 rfl rfl (Nat.lt_of_lt_of_le (by decide) hn) rfl ?_
    refine r_callV S lk_X11_159 mk_X4_countLate (c_X4_countLate G n J bk dr pt hn (by omega) (by omega) (fun j p q => by rw [g3 j p (by omega)]; have := wlC_rg hP p (show j < I 4 0 by omega); omega) (fun j p q => by rw [g2 j p (by omega)]; have := fm_rg (I 2) (I 3 (I 5 j)); show rg (fm (I 2) (I 3 (I 5 j))); omega)) rfl (Nat.lt_of_lt_of_le (by decide) hn) rfl rfl rfl (Nat.le_of_ble_eq_true rfl) ⟨by decide, by decide⟩ rfl ⟨by decide, by decide⟩ dX11_look_112 ?_
    rintro _ _ _ _ ⟨rfl, rfl, rfl, rfl⟩
    refine r_iret SR dX11_look_115 ⟨by decide, by decide⟩ ?_
    exact ⟨by rw [z6 c1, es], rfl, rfl, slk.pl hb g1 g3⟩
  · refine r_tableOut S (tgt := 116) dX11_look_1 ha c1 (by decide) ?_
    refine r_iconst S dX11_look_116 ?_
    refine r_iret SR dX11_look_117 ⟨by decide, by decide⟩ ?_
    exact ⟨by rw [z7 c1], rfl, rfl, slk.rf _ _⟩
end
