section
variable (G : GE) (n : Nat) (I : Iv) (bk dr : Nat) (pt : Option Nat)
/-- is late: month d of the water, house in month h -/
abbrev lateP (d h : Int) : Prop := d < 36 ∧ (h = -1 ∨ d ≤ h)
theorem c_X4_finish (hn : 103 ≤ n) {t : Int} (ht : rg t) (h0 : 0 ≤ I 4 0) (h1 : I 4 0 ≤ 8) (h10 : ∀ j, 0 ≤ j → j < I 4 0 → rg (I 10 j)) : Ct G yX4_finishHousesBefore cX4_finishHousesBefore 3 none 0 0 0 [.ref (gb G + 4), .int (jI t)] n I (rst bk dr pt) (fun v n' I' ρ' => v = none ∧ n = n' ∧ rst bk dr pt = ρ' ∧ (∀ o, o ≠ 11 → I' o = I o) ∧ ∀ h, 0 ≤ h → h < I 4 0 → I' 11 h = if ¬ I 10 h = -1 ∧ I 10 h < t then 1 else I 11 h) := by
  refine Ct.of [some (.ref (gb G + 4)), some (.int (jI t)), none] (by decide) rfl rfl rfl ?_
  intro k SR
  have S : Sem G RX4 "finishHousesBefore" cX4_finishHousesBefore 3 (rmD 0 0 0) k := SR.sem
  have loop : ∀ (q : Nat) (h : Int) (J : Iv), 0 ≤ h → h ≤ I 4 0 → I 4 0 < h + q → (∀ o, o ≠ 11 → J o = I o) → (∀ j, 0 ≤ j → j < h → J 11 j = if ¬ I 10 j = -1 ∧ I 10 j < t then 1 else I 11 j) → (∀ j, h ≤ j → J 11 j = I 11 j) → k 2 [some (.ref (gb G + 4)), some (.int (jI t)), some (.int (jI h))] [] n J (rst bk dr pt) 0 0 := by
    intro q
    induction q with
    | zero => intro h _ _ _ _; omega
    | succ q ih =>
      intro h J a0 a1 a2 jo j11 j11b
      have e4 := congrFun (jo 4 (by decide)) 0
      have e10 := congrFun (jo 10 (by decide)) h
      refine r_iload_n S rfl dX4_finishHousesBefore_2 ?_
      refine r_aload_n S rfl dX4_finishHousesBefore_3 ?_
      refine r_getI S (v := J 4 0) fk_X4_9 dX4_finishHousesBefore_4 rfl rfl (Nat.lt_of_lt_of_le (by decide) hn) rfl ?_
      refine r_icmp_ge S (tgt := 43) dX4_finishHousesBefore_7 (by decide) (by omega) (by omega) (fun c7 => ?_) (fun c7 => ?_)
      · refine r_vret SR dX4_finishHousesBefore_43 ⟨by decide, by decide⟩ ?_
        exact ⟨rfl, rfl, rfl, jo, fun j b0 b1 => j11 j b0 (by omega)⟩
      · refine r_aload_n S rfl dX4_finishHousesBefore_10 ?_
        refine r_getR S (o' := 10) fk_X4_31 dX4_finishHousesBefore_11 rfl rfl (Nat.lt_of_lt_of_le (by decide) hn) rfl ?_
        refine r_iload_n S rfl dX4_finishHousesBefore_14 ?_
        refine r_iald S (v := J 10 h) dX4_finishHousesBefore_15 rfl rfl (Nat.lt_of_lt_of_le (by decide) hn) (by omega) (by omega) rfl ?_
        refine r_iconst S dX4_finishHousesBefore_16 ?_
        refine r_icmp_eq S (tgt := 37) dX4_finishHousesBefore_17 (by decide) (by rw [e10]; exact h10 h (by omega) (by omega)) (by decide) (fun c17 => ?_) (fun c17 => ?_)
        · refine r_iinc S dX4_finishHousesBefore_37 rfl rfl rfl ?_
          refine r_goto S (tgt := 2) dX4_finishHousesBefore_40 (by decide) ?_
          refine ih (h + 1) _ (by omega) (by omega) (by omega) ?_ ?_ ?_
          · intro o o1
            first | rw [up_o o1, jo o o1] | rw [jo o o1]
          · intro j b0 b1
            by_cases e : j = h
            · subst e
              first | rw [up_s, if_pos (by omega)] | (rw [if_neg (by omega)]; exact j11b j (by omega))
            · first | rw [up_i e, j11 j b0 (by omega)] | rw [j11 j b0 (by omega)]
          · intro j b0
            first | rw [up_i (by omega), j11b j (by omega)] | rw [j11b j (by omega)]
        · refine r_aload_n S rfl dX4_finishHousesBefore_20 ?_
          refine r_getR S (o' := 10) fk_X4_31 dX4_finishHousesBefore_21 rfl rfl (Nat.lt_of_lt_of_le (by decide) hn) rfl ?_
          refine r_iload_n S rfl dX4_finishHousesBefore_24 ?_
          refine r_iald S (v := J 10 h) dX4_finishHousesBefore_25 rfl rfl (Nat.lt_of_lt_of_le (by decide) hn) (by omega) (by omega) rfl ?_
          refine r_iload_n S rfl dX4_finishHousesBefore_26 ?_
          refine r_icmp_ge S (tgt := 37) dX4_finishHousesBefore_27 (by decide) (by rw [e10]; exact h10 h (by omega) (by omega)) (by assumption) (fun c27 => ?_) (fun c27 => ?_)
          · refine r_iinc S dX4_finishHousesBefore_37 rfl rfl rfl ?_
            refine r_goto S (tgt := 2) dX4_finishHousesBefore_40 (by decide) ?_
            refine ih (h + 1) _ (by omega) (by omega) (by omega) ?_ ?_ ?_
            · intro o o1
              first | rw [up_o o1, jo o o1] | rw [jo o o1]
            · intro j b0 b1
              by_cases e : j = h
              · subst e
                first | rw [up_s, if_pos (by omega)] | (rw [if_neg (by omega)]; exact j11b j (by omega))
              · first | rw [up_i e, j11 j b0 (by omega)] | rw [j11 j b0 (by omega)]
            · intro j b0
              first | rw [up_i (by omega), j11b j (by omega)] | rw [j11b j (by omega)]
          · refine r_aload_n S rfl dX4_finishHousesBefore_30 ?_
            refine r_getR S (o' := 11) fk_X4_34 dX4_finishHousesBefore_31 rfl rfl (Nat.lt_of_lt_of_le (by decide) hn) rfl ?_
            refine r_iload_n S rfl dX4_finishHousesBefore_34 ?_
            refine r_iconst S dX4_finishHousesBefore_35 ?_
            refine r_bast S dX4_finishHousesBefore_36 rfl rfl (Nat.lt_of_lt_of_le (by decide) hn) (by omega) (by omega) (by omega) ?_
            refine r_iinc S dX4_finishHousesBefore_37 rfl rfl rfl ?_
            refine r_goto S (tgt := 2) dX4_finishHousesBefore_40 (by decide) ?_
            refine ih (h + 1) _ (by omega) (by omega) (by omega) ?_ ?_ ?_
            · intro o o1
              first | rw [up_o o1, jo o o1] | rw [jo o o1]
            · intro j b0 b1
              by_cases e : j = h
              · subst e
                first | rw [up_s, if_pos (by omega)] | (rw [if_neg (by omega)]; exact j11b j (by omega))
              · first | rw [up_i e, j11 j b0 (by omega)] | rw [j11 j b0 (by omega)]
            · intro j b0
              first | rw [up_i (by omega), j11b j (by omega)] | rw [j11b j (by omega)]
  refine r_iconst S dX4_finishHousesBefore_0 ?_
  refine r_istore_n S dX4_finishHousesBefore_1 rfl rfl ?_
  exact loop ((I 4 0).toNat + 1) 0 I (by omega) (by omega) (by omega) (fun _ _ => rfl) (fun j b0 b1 => by omega) (fun _ _ => rfl)
theorem c_X4_countLate (hn : 103 ≤ n) (h0 : 0 ≤ I 4 0) (h1 : I 4 0 ≤ 8) (h10 : ∀ j, 0 ≤ j → j < I 4 0 → rg (I 10 j)) (h12 : ∀ j, 0 ≤ j → j < I 4 0 → rg (I 12 j)) : Ct G yX4_countLate cX4_countLate 3 (some .int) 2 0 0 [.ref (gb G + 4)] n I (rst bk dr pt) (PI (sumF (fun h => b2 (lateP (I 12 h) (I 10 h))) (I 4 0).toNat) n I (rst bk dr pt)) := by
  refine Ct.of [some (.ref (gb G + 4)), none, none] (by decide) rfl rfl rfl ?_
  intro k SR
  have S : Sem G RX4 "countLate" cX4_countLate 3 (rmD 2 0 0) k := SR.sem
  have loop : ∀ (q : Nat) (h : Int), 0 ≤ h → h ≤ I 4 0 → I 4 0 < h + q → k 4 [some (.ref (gb G + 4)), some (.int (jI (sumF (fun h => b2 (lateP (I 12 h) (I 10 h))) h.toNat))), some (.int (jI h))] [] n I (rst bk dr pt) 0 0 := by
    intro q
    induction q with
    | zero => intro h _ _ _; omega
    | succ q ih =>
      intro h a0 a1 a2
      have hs := sumF_step (fun h => b2 (lateP (I 12 h) (I 10 h))) a0
      obtain ⟨b, hb⟩ : ∃ b, b = sumF (fun h => b2 (lateP (I 12 h) (I 10 h))) h.toNat := ⟨_, rfl⟩
      rw [← hb] at hs ⊢
      refine r_iload_n S rfl dX4_countLate_4 ?_
      refine r_aload_n S rfl dX4_countLate_5 ?_
      refine r_getI S (v := I 4 0) fk_X4_9 dX4_countLate_6 rfl rfl (Nat.lt_of_lt_of_le (by decide) hn) rfl ?_
      refine r_icmp_ge S (tgt := 29) dX4_countLate_9 (by decide) (by omega) (by omega) (fun c9 => ?_) (fun c9 => ?_)
      · refine r_iload_n S rfl dX4_countLate_29 ?_
        refine r_iret SR dX4_countLate_30 ⟨by decide, by decide⟩ ?_
        exact ⟨by rw [hb, show h = I 4 0 by omega], rfl, rfl, rfl⟩
      · refine r_aload_n S rfl dX4_countLate_12 ?_
        refine r_iload_n S rfl dX4_countLate_13 ?_
        refine r_callV S lk_X4_65 mk_X4_isLate (c_X4_isLate G n I bk dr pt hn (a := h) ⟨by omega, by omega⟩ h0 h1 h10 h12) rfl (Nat.lt_of_lt_of_le (by decide) hn) rfl rfl rfl (Nat.le_of_ble_eq_true rfl) ⟨by decide, by decide⟩ rfl ⟨by decide, by decide⟩ dX4_countLate_14 ?_
        rintro _ _ _ _ ⟨rfl, rfl, rfl, rfl⟩
        refine r_ifb_eq S (tgt := 23) dX4_countLate_17 (by decide)  (fun c17 => ?_) (fun c17 => ?_)
        · refine r_iinc S dX4_countLate_23 rfl rfl rfl ?_
          refine r_goto S (tgt := 4) dX4_countLate_26 (by decide) ?_
          have ih := ih (h + 1) (by omega) (by omega) (by omega)
          rw [hs] at ih
          first | (rw [b2_t (show lateP _ _ from c17.2)] at ih; exact ih) | (rw [b2_f (show ¬ lateP _ _ from fun w => c17 ⟨⟨a0, c9⟩, w⟩), Int.add_zero] at ih; exact ih)
        · refine r_iinc S dX4_countLate_20 rfl rfl rfl ?_
          refine r_iinc S dX4_countLate_23 rfl rfl rfl ?_
          refine r_goto S (tgt := 4) dX4_countLate_26 (by decide) ?_
          have ih := ih (h + 1) (by omega) (by omega) (by omega)
          rw [hs] at ih
          first | (rw [b2_t (show lateP _ _ from c17.2)] at ih; exact ih) | (rw [b2_f (show ¬ lateP _ _ from fun w => c17 ⟨⟨a0, c9⟩, w⟩), Int.add_zero] at ih; exact ih)
  refine r_iconst S dX4_countLate_0 ?_
  refine r_istore_n S dX4_countLate_1 rfl rfl ?_
  refine r_iconst S dX4_countLate_2 ?_
  refine r_istore_n S dX4_countLate_3 rfl rfl ?_
  exact loop ((I 4 0).toNat + 1) 0 (by omega) (by omega) (by omega)
theorem c_X4_countReady (hn : 103 ≤ n) (h0 : 0 ≤ I 4 0) (h1 : I 4 0 ≤ 8) (h11 : ∀ j, 0 ≤ j → j < I 4 0 → rg (I 11 j)) : Ct G yX4_countReady cX4_countReady 3 (some .int) 0 0 0 [.ref (gb G + 4)] n I (rst bk dr pt) (PI (sumF (fun h => b2 (¬ I 11 h = 0)) (I 4 0).toNat) n I (rst bk dr pt)) := by
  refine Ct.of [some (.ref (gb G + 4)), none, none] (by decide) rfl rfl rfl ?_
  intro k SR
  have S : Sem G RX4 "countReady" cX4_countReady 3 (rmD 0 0 0) k := SR.sem
  have loop : ∀ (q : Nat) (h : Int), 0 ≤ h → h ≤ I 4 0 → I 4 0 < h + q → k 4 [some (.ref (gb G + 4)), some (.int (jI (sumF (fun h => b2 (¬ I 11 h = 0)) h.toNat))), some (.int (jI h))] [] n I (rst bk dr pt) 0 0 := by
    intro q
    induction q with
    | zero => intro h _ _ _; omega
    | succ q ih =>
      intro h a0 a1 a2
      have hs := sumF_step (fun h => b2 (¬ I 11 h = 0)) a0
      obtain ⟨b, hb⟩ : ∃ b, b = sumF (fun h => b2 (¬ I 11 h = 0)) h.toNat := ⟨_, rfl⟩
      rw [← hb] at hs ⊢
      refine r_iload_n S rfl dX4_countReady_4 ?_
      refine r_aload_n S rfl dX4_countReady_5 ?_
      refine r_getI S (v := I 4 0) fk_X4_9 dX4_countReady_6 rfl rfl (Nat.lt_of_lt_of_le (by decide) hn) rfl ?_
      refine r_icmp_ge S (tgt := 30) dX4_countReady_9 (by decide) (by omega) (by omega) (fun c9 => ?_) (fun c9 => ?_)
      · refine r_iload_n S rfl dX4_countReady_30 ?_
        refine r_iret SR dX4_countReady_31 ⟨by decide, by decide⟩ ?_
        exact ⟨by rw [hb, show h = I 4 0 by omega], rfl, rfl, rfl⟩
      · refine r_aload_n S rfl dX4_countReady_12 ?_
        refine r_getR S (o' := 11) fk_X4_34 dX4_countReady_13 rfl rfl (Nat.lt_of_lt_of_le (by decide) hn) rfl ?_
        refine r_iload_n S rfl dX4_countReady_16 ?_
        refine r_bald S (v := I 11 h) dX4_countReady_17 rfl rfl (Nat.lt_of_lt_of_le (by decide) hn) (by omega) (by omega) rfl ?_
        refine r_if_eq S (tgt := 24) dX4_countReady_18 (by decide) (h11 h (by omega) (by omega)) (fun c18 => ?_) (fun c18 => ?_)
        · refine r_iinc S dX4_countReady_24 rfl rfl rfl ?_
          refine r_goto S (tgt := 4) dX4_countReady_27 (by decide) ?_
          have ih := ih (h + 1) (by omega) (by omega) (by omega)
          rw [hs] at ih
          first | (rw [b2_t c18] at ih; exact ih) | (rw [b2_f (fun w => w c18), Int.add_zero] at ih; exact ih)
        · refine r_iinc S dX4_countReady_21 rfl rfl rfl ?_
          refine r_iinc S dX4_countReady_24 rfl rfl rfl ?_
          refine r_goto S (tgt := 4) dX4_countReady_27 (by decide) ?_
          have ih := ih (h + 1) (by omega) (by omega) (by omega)
          rw [hs] at ih
          first | (rw [b2_t c18] at ih; exact ih) | (rw [b2_f (fun w => w c18), Int.add_zero] at ih; exact ih)
  refine r_iconst S dX4_countReady_0 ?_
  refine r_istore_n S dX4_countReady_1 rfl rfl ?_
  refine r_iconst S dX4_countReady_2 ?_
  refine r_istore_n S dX4_countReady_3 rfl rfl ?_
  exact loop ((I 4 0).toNat + 1) 0 (by omega) (by omega) (by omega)
/-! the reference's -/
theorem c_X12_isHousehold (hn : 103 ≤ n) {a : Int} (ha : rg a) (h0 : 0 ≤ I 72 1) (h1 : I 72 1 ≤ 8) : Ct G yX12_isHousehold cX12_isHousehold 2 (some .boolean) 1 0 0 [.ref (gb G + 72), .int (jI a)] n I (rst bk dr pt) (PI (b2 (0 ≤ a ∧ a ≤ I 72 1 - 1)) n I (rst bk dr pt)) := by
  refine Ct.of [some (.ref (gb G + 72)), some (.int (jI a))] (by decide) rfl rfl rfl ?_
  intro k SR
  have S : Sem G RX12 "isHousehold" cX12_isHousehold 2 (rmD 1 0 0) k := SR.sem
  refine r_iload_n S rfl dX12_isHousehold_0 ?_
  refine r_iconst S dX12_isHousehold_1 ?_
  refine r_aload_n S rfl dX12_isHousehold_2 ?_
  refine r_getI S (v := I 72 1) fk_X12_109 dX12_isHousehold_3 rfl rfl (Nat.lt_of_lt_of_le (by decide) hn) rfl ?_
  refine r_iconst S dX12_isHousehold_6 ?_
  refine r_isub S dX12_isHousehold_7 ?_
  refine r_callS S lk_X12_105 mk_X12_isIn (c_X12_isIn G n I _ ha (by decide) ⟨by omega, by omega⟩) rfl rfl (Nat.le_of_ble_eq_true rfl) ⟨by decide, by decide⟩ rfl ⟨by decide, by decide⟩ dX12_isHousehold_8 ?_
  rintro _ _ _ _ ⟨rfl, rfl, rfl, rfl⟩
  refine r_zret SR dX12_isHousehold_11 (by first | exact b2_01 _ | omega) ⟨by decide, by decide⟩ ?_
  exact ⟨rfl, rfl, rfl, rfl⟩
theorem c_X12_drownedIn (hn : 103 ≤ n) {a : Int} (a0 : 0 ≤ a) (a1 : a ≤ 3) (h2 : ∀ j, 0 ≤ j → j < 36 → rg (I 73 j)) (h3 : ∀ j, 0 ≤ j → j < 4 → rg (I 75 j)) : Ct G yX12_drownedIn cX12_drownedIn 3 (some .int) 0 0 0 [.ref (gb G + 72), .int (jI a)] n I (rst bk dr pt) (PI (fm (I 73) (I 75 a)) n I (rst bk dr pt)) := by
  refine Ct.of [some (.ref (gb G + 72)), some (.int (jI a)), none] (by decide) rfl rfl rfl ?_
  intro k SR
  have S : Sem G RX12 "drownedIn" cX12_drownedIn 3 (rmD 0 0 0) k := SR.sem
  have loop : ∀ (q : Nat) (m : Int), 0 ≤ m → m ≤ 36 → 36 < m + q → fmF (I 73) (I 75 a) (36 - m).toNat m = fm (I 73) (I 75 a) → k 2 [some (.ref (gb G + 72)), some (.int (jI a)), some (.int (jI m))] [] n I (rst bk dr pt) 0 0 := by
    intro q
    induction q with
    | zero => intro m h0 h1 hq; omega
    | succ q ih =>
      intro m h0 h1 hq hf
      refine r_iload_n S rfl dX12_drownedIn_2 ?_
      refine r_bipush S (by decide +kernel) dX12_drownedIn_3 ?_
      refine r_icmp_ge S (tgt := 29) dX12_drownedIn_5 (by decide) (by omega) (by omega) (fun c5 => ?_) (fun c5 => ?_)
      · refine r_iload_n S rfl dX12_drownedIn_29 ?_
        refine r_iret SR dX12_drownedIn_30 ⟨by decide, by decide⟩ ?_
        first | exact ⟨by rw [← hf, fmF_end _ _ c5], rfl, rfl, rfl⟩ | exact ⟨by rw [← hf, fmF_step _ _ c5, if_neg (by omega)], rfl, rfl, rfl⟩
      · refine r_aload_n S rfl dX12_drownedIn_8 ?_
        refine r_getR S (o' := 73) fk_X12_7 dX12_drownedIn_9 rfl rfl (Nat.lt_of_lt_of_le (by decide) hn) rfl ?_
        refine r_iload_n S rfl dX12_drownedIn_12 ?_
        refine r_iald S (v := I 73 m) dX12_drownedIn_13 rfl rfl (Nat.lt_of_lt_of_le (by decide) hn) (by omega) (by omega) rfl ?_
        refine r_aload_n S rfl dX12_drownedIn_14 ?_
        refine r_getR S (o' := 75) fk_X12_16 dX12_drownedIn_15 rfl rfl (Nat.lt_of_lt_of_le (by decide) hn) rfl ?_
        refine r_iload_n S rfl dX12_drownedIn_18 ?_
        refine r_iald S (v := I 75 a) dX12_drownedIn_19 rfl rfl (Nat.lt_of_lt_of_le (by decide) hn) (by omega) (by omega) rfl ?_
        refine r_icmp_ge S (tgt := 29) dX12_drownedIn_20 (by decide) (h2 m (by omega) (by omega)) (h3 a (by omega) (by omega)) (fun c20 => ?_) (fun c20 => ?_)
        · refine r_iload_n S rfl dX12_drownedIn_29 ?_
          refine r_iret SR dX12_drownedIn_30 ⟨by decide, by decide⟩ ?_
          first | exact ⟨by rw [← hf, fmF_end _ _ c5], rfl, rfl, rfl⟩ | exact ⟨by rw [← hf, fmF_step _ _ c5, if_neg (by omega)], rfl, rfl, rfl⟩
        · refine r_iinc S dX12_drownedIn_23 rfl rfl rfl ?_
          refine r_goto S (tgt := 2) dX12_drownedIn_26 (by decide) ?_
          exact ih (m + 1) (by omega) (by omega) (by omega) (by rw [← hf, fmF_step _ _ c5, if_pos c20])
  refine r_iconst S dX12_drownedIn_0 ?_
  refine r_istore_n S dX12_drownedIn_1 rfl rfl ?_
  exact loop 37 0 (by omega) (by omega) (by omega) rfl
theorem c_X12_nextOne (hn : 103 ≤ n) (h0 : 0 ≤ I 72 1) (h1 : I 72 1 ≤ 8) (h2 : ∀ j, 0 ≤ j → j < 36 → rg (I 73 j)) (h3 : ∀ j, 0 ≤ j → j < 4 → rg (I 75 j)) (h5 : ∀ j, 0 ≤ j → j < I 72 1 → 0 ≤ I 76 j ∧ I 76 j ≤ 3) (h94 : ∀ j, 0 ≤ j → j < I 72 1 → rg (I 94 j)) : Ct G yX12_nextOne cX12_nextOne 3 (some .int) 1 0 0 [.ref (gb G + 72)] n I (rst bk dr pt) (PI (nxt (I 94) (drF (I 73) (I 75) (I 76)) (I 72 1).toNat) n I (rst bk dr pt)) := by
  refine Ct.of [some (.ref (gb G + 72)), none, none] (by decide) rfl rfl rfl ?_
  intro k SR
  have S : Sem G RX12 "nextOne" cX12_nextOne 3 (rmD 1 0 0) k := SR.sem
  have hfm : ∀ x, rg (fm (I 73) x) := fun x => by
    have := fm_range (I 73) x
    exact ⟨by omega, by omega⟩
  have loop : ∀ (q : Nat) (h : Int), 0 ≤ h → h ≤ I 72 1 → I 72 1 < h + q → k 4 [some (.ref (gb G + 72)), some (.int (jI (nxt (I 94) (drF (I 73) (I 75) (I 76)) h.toNat))), some (.int (jI h))] [] n I (rst bk dr pt) 0 0 := by
    intro q
    induction q with
    | zero => intro h _ _ _; omega
    | succ q ih =>
      intro h a0 a1 a2
      have hr := nxt_range (I 94) (drF (I 73) (I 75) (I 76)) h.toNat
      have hs := nxt_step (I 94) (drF (I 73) (I 75) (I 76)) a0
      obtain ⟨b, hb⟩ : ∃ b, b = nxt (I 94) (drF (I 73) (I 75) (I 76)) h.toNat := ⟨_, rfl⟩
      rw [← hb] at hr hs ⊢
      dsimp only [drF] at hs
      refine r_iload_n S rfl dX12_nextOne_4 ?_
      refine r_aload_n S rfl dX12_nextOne_5 ?_
      refine r_getI S (v := I 72 1) fk_X12_109 dX12_nextOne_6 rfl rfl (Nat.lt_of_lt_of_le (by decide) hn) rfl ?_
      refine r_icmp_ge S (tgt := 58) dX12_nextOne_9 (by decide) (by omega) (by omega) (fun c9 => ?_) (fun c9 => ?_)
      · refine r_iload_n S rfl dX12_nextOne_58 ?_
        refine r_iret SR dX12_nextOne_59 ⟨by decide, by decide⟩ ?_
        exact ⟨by rw [hb, show h = I 72 1 by omega], rfl, rfl, rfl⟩
      · refine r_aload_n S rfl dX12_nextOne_12 ?_
        refine r_getR S (o' := 94) fk_X12_78 dX12_nextOne_13 rfl rfl (Nat.lt_of_lt_of_le (by decide) hn) rfl ?_
        refine r_iload_n S rfl dX12_nextOne_16 ?_
        refine r_iald S (v := I 94 h) dX12_nextOne_17 rfl rfl (Nat.lt_of_lt_of_le (by decide) hn) (by omega) (by omega) rfl ?_
        refine r_iconst S dX12_nextOne_18 ?_
        refine r_icmp_ne S (tgt := 52) dX12_nextOne_19 (by decide) (h94 h (by omega) (by omega)) (by decide) (fun c19 => ?_) (fun c19 => ?_)
        · refine r_iinc S dX12_nextOne_52 rfl rfl rfl ?_
          refine r_goto S (tgt := 4) dX12_nextOne_55 (by decide) ?_
          have ih := ih (h + 1) (by omega) (by omega) (by omega)
          rw [hs] at ih
          first | (rw [if_pos (by omega)] at ih; exact ih) | (rw [if_neg (by omega)] at ih; exact ih)
        · refine r_iload_n S rfl dX12_nextOne_22 ?_
          refine r_iconst S dX12_nextOne_23 ?_
          refine r_icmp_eq S (tgt := 50) dX12_nextOne_24 (by decide) (by omega) (by omega) (fun c24 => ?_) (fun c24 => ?_)
          · refine r_iload_n S rfl dX12_nextOne_50 ?_
            refine r_istore_n S dX12_nextOne_51 rfl rfl ?_
            refine r_iinc S dX12_nextOne_52 rfl rfl rfl ?_
            refine r_goto S (tgt := 4) dX12_nextOne_55 (by decide) ?_
            have ih := ih (h + 1) (by omega) (by omega) (by omega)
            rw [hs] at ih
            first | (rw [if_pos (by omega)] at ih; exact ih) | (rw [if_neg (by omega)] at ih; exact ih)
          · refine r_aload_n S rfl dX12_nextOne_27 ?_
            refine r_aload_n S rfl dX12_nextOne_28 ?_
            refine r_getR S (o' := 76) fk_X12_19 dX12_nextOne_29 rfl rfl (Nat.lt_of_lt_of_le (by decide) hn) rfl ?_
            refine r_iload_n S rfl dX12_nextOne_32 ?_
            refine r_iald S (v := I 76 h) dX12_nextOne_33 rfl rfl (Nat.lt_of_lt_of_le (by decide) hn) (by omega) (by omega) rfl ?_
            refine r_callV S lk_X12_119 mk_X12_drownedIn (c_X12_drownedIn G n I bk dr pt hn (h5 h (by omega) (by omega)).1 (h5 h (by omega) (by omega)).2 h2 h3) rfl (Nat.lt_of_lt_of_le (by decide) hn) rfl rfl rfl (Nat.le_of_ble_eq_true rfl) ⟨by decide, by decide⟩ rfl ⟨by decide, by decide⟩ dX12_nextOne_34 ?_
            rintro _ _ _ _ ⟨rfl, rfl, rfl, rfl⟩
            refine r_aload_n S rfl dX12_nextOne_37 ?_
            refine r_aload_n S rfl dX12_nextOne_38 ?_
            refine r_getR S (o' := 76) fk_X12_19 dX12_nextOne_39 rfl rfl (Nat.lt_of_lt_of_le (by decide) hn) rfl ?_
            refine r_iload_n S rfl dX12_nextOne_42 ?_
            refine r_iald S (v := I 76 b) dX12_nextOne_43 rfl rfl (Nat.lt_of_lt_of_le (by decide) hn) (by omega) (by omega) rfl ?_
            refine r_callV S lk_X12_119 mk_X12_drownedIn (c_X12_drownedIn G n I bk dr pt hn (h5 b (by omega) (by omega)).1 (h5 b (by omega) (by omega)).2 h2 h3) rfl (Nat.lt_of_lt_of_le (by decide) hn) rfl rfl rfl (Nat.le_of_ble_eq_true rfl) ⟨by decide, by decide⟩ rfl ⟨by decide, by decide⟩ dX12_nextOne_44 ?_
            rintro _ _ _ _ ⟨rfl, rfl, rfl, rfl⟩
            refine r_icmp_ge S (tgt := 52) dX12_nextOne_47 (by decide) (hfm _) (hfm _) (fun c47 => ?_) (fun c47 => ?_)
            · refine r_iinc S dX12_nextOne_52 rfl rfl rfl ?_
              refine r_goto S (tgt := 4) dX12_nextOne_55 (by decide) ?_
              have ih := ih (h + 1) (by omega) (by omega) (by omega)
              rw [hs] at ih
              first | (rw [if_pos (by omega)] at ih; exact ih) | (rw [if_neg (by omega)] at ih; exact ih)
            · refine r_iload_n S rfl dX12_nextOne_50 ?_
              refine r_istore_n S dX12_nextOne_51 rfl rfl ?_
              refine r_iinc S dX12_nextOne_52 rfl rfl rfl ?_
              refine r_goto S (tgt := 4) dX12_nextOne_55 (by decide) ?_
              have ih := ih (h + 1) (by omega) (by omega) (by omega)
              rw [hs] at ih
              first | (rw [if_pos (by omega)] at ih; exact ih) | (rw [if_neg (by omega)] at ih; exact ih)
  refine r_iconst S dX12_nextOne_0 ?_
  refine r_istore_n S dX12_nextOne_1 rfl rfl ?_
  refine r_iconst S dX12_nextOne_2 ?_
  refine r_istore_n S dX12_nextOne_3 rfl rfl ?_
  exact loop ((I 72 1).toNat + 1) 0 (by omega) (by omega) (by omega)
theorem c_X12_builds (hn : 103 ≤ n) (t0 : 0 ≤ I 72 0) (t1 : I 72 0 ≤ 35) (h0 : 0 ≤ I 72 1) (h1 : I 72 1 ≤ 8) (h2 : ∀ j, 0 ≤ j → j < 36 → rg (I 73 j)) (h3 : ∀ j, 0 ≤ j → j < 4 → rg (I 75 j)) (h5 : ∀ j, 0 ≤ j → j < I 72 1 → 0 ≤ I 76 j ∧ I 76 j ≤ 3) (h80 : ∀ j, 0 ≤ j → j < I 72 1 → rg (I 80 j)) (h74 : ∀ j, 0 ≤ j → j < 36 → 0 ≤ I 74 j ∧ I 74 j ≤ 8) : Ct G yX12_builds cX12_builds 4 none 2 0 0 [.ref (gb G + 72)] n I (rst bk dr pt) (fun v n' I' ρ' => v = none ∧ n = n' ∧ rst bk dr pt = ρ' ∧ (∀ o, o ≠ 94 → I' o = I o) ∧ ∀ h, 0 ≤ h → h < I 72 1 → I' 94 h = plF (drF (I 73) (I 75) (I 76)) (I 72 1).toNat (I 74) (36 - I 72 0).toNat (I 72 0) (I 80) h) := by
  refine Ct.of [some (.ref (gb G + 72)), none, none, none] (by decide) rfl rfl rfl ?_
  intro k SR
  have S : Sem G RX12 "builds" cX12_builds 4 (rmD 2 0 0) k := SR.sem
  have ec : (((I 72 1).toNat : Nat) : Int) = I 72 1 := by omega
  obtain ⟨t, et⟩ : ∃ t, t = I 72 0 := ⟨_, rfl⟩
  obtain ⟨D, eD⟩ : ∃ D, D = drF (I 73) (I 75) (I 76) := ⟨_, rfl⟩
  rw [← et] at t0 t1
  have first : ∀ (q : Nat) (h : Int) (J : Iv), 0 ≤ h → h ≤ I 72 1 → I 72 1 < h + q → (∀ o, o ≠ 94 → J o = I o) → (∀ j, 0 ≤ j → j < h → J 94 j = I 80 j) → (∀ J : Iv, (∀ o, o ≠ 94 → J o = I o) → (∀ j, 0 ≤ j → j < I 72 1 → J 94 j = I 80 j) → k 33 [some (.ref (gb G + 72)), some (.int (jI t)), none, none] [] n J (rst bk dr pt) 0 0) → k 2 [some (.ref (gb G + 72)), some (.int (jI h)), none, none] [] n J (rst bk dr pt) 0 0 := by
    intro q
    induction q with
    | zero => intro h _ _ _ _; omega
    | succ q ih =>
      intro h J a0 a1 a2 jo j94 K
      have e1 := congrFun (jo 72 (by decide)) 1
      have e0 := congrFun (jo 72 (by decide)) 0
      have e80 := congrFun (jo 80 (by decide)) h
      refine r_iload_n S rfl dX12_builds_2 ?_
      refine r_aload_n S rfl dX12_builds_3 ?_
      refine r_getI S (v := J 72 1) fk_X12_109 dX12_builds_4 rfl rfl (Nat.lt_of_lt_of_le (by decide) hn) rfl ?_
      refine r_icmp_ge S (tgt := 28) dX12_builds_7 (by decide) (by omega) (by omega) (fun c7 => ?_) (fun c7 => ?_)
      · refine r_aload_n S rfl dX12_builds_28 ?_
        refine r_getI S (v := J 72 0) fk_X12_112 dX12_builds_29 rfl rfl (Nat.lt_of_lt_of_le (by decide) hn) rfl ?_
        refine r_istore_n S dX12_builds_32 rfl rfl ?_
        rw [e0, ← et]
        exact K J jo (fun j b0 b1 => j94 j b0 (by omega))
      · refine r_aload_n S rfl dX12_builds_10 ?_
        refine r_getR S (o' := 94) fk_X12_78 dX12_builds_11 rfl rfl (Nat.lt_of_lt_of_le (by decide) hn) rfl ?_
        refine r_iload_n S rfl dX12_builds_14 ?_
        refine r_aload_n S rfl dX12_builds_15 ?_
        refine r_getR S (o' := 80) fk_X12_31 dX12_builds_16 rfl rfl (Nat.lt_of_lt_of_le (by decide) hn) rfl ?_
        refine r_iload_n S rfl dX12_builds_19 ?_
        refine r_iald S (v := J 80 h) dX12_builds_20 rfl rfl (Nat.lt_of_lt_of_le (by decide) hn) (by omega) (by omega) rfl ?_
        refine r_iast S dX12_builds_21 rfl rfl (Nat.lt_of_lt_of_le (by decide) hn) (by omega) (by omega) ?_
        refine r_iinc S dX12_builds_22 rfl rfl rfl ?_
        refine r_goto S (tgt := 2) dX12_builds_25 (by decide) ?_
        refine ih (h + 1) _ (by omega) (by omega) (by omega) (fun o o1 => by rw [up_o o1, jo o o1]) (fun j b0 b1 => ?_) K
        by_cases e : j = h
        · subst e
          rw [up_s, e80]
        · rw [up_i e]
          exact j94 j b0 (by omega)
  have outer : ∀ (q : Nat) (m : Int) (J : Iv), t ≤ m → m ≤ 36 → 36 < m + q → (∀ o, o ≠ 94 → J o = I o) → (∀ j, 0 ≤ j → j < I 72 1 → rg (J 94 j)) → ((∀ h, 0 ≤ h → h < I 72 1 → plF D (I 72 1).toNat (I 74) (36 - m).toNat m (J 94) h = plF D (I 72 1).toNat (I 74) (36 - t).toNat t (I 80) h)) → k 33 [some (.ref (gb G + 72)), some (.int (jI m)), none, none] [] n J (rst bk dr pt) 0 0 := by
    intro q
    induction q with
    | zero => intro m _ _ _ _; omega
    | succ q ih =>
      intro m J a0 a1 a2 jo jr jp
      have inner : m < 36 → ∀ (q2 : Nat) (i : Int) (J2 : Iv), 0 ≤ i → i ≤ I 74 m → I 74 m < i + q2 → (∀ o, o ≠ 94 → J2 o = I o) → (∀ j, 0 ≤ j → j < I 72 1 → rg (J2 94 j)) → stpN D (I 72 1).toNat m (I 74 m - i).toNat (J2 94) = stpN D (I 72 1).toNat m (I 74 m).toNat (J 94) → k 41 [some (.ref (gb G + 72)), some (.int (jI m)), some (.int (jI i)), none] [] n J2 (rst bk dr pt) 0 0 := by
        intro hm q2
        have hbm := h74 m (by omega) (by omega)
        induction q2 with
        | zero => intro i _ _ _ _; omega
        | succ q2 ih2 =>
          intro i J2 b0 b1 b2 jo2 jr2 js
          have e4 : J2 72 1 = I 72 1 := congrFun (jo2 72 (by decide)) 1
          have e74 : J2 74 m = I 74 m := congrFun (jo2 74 (by decide)) m
          have eDJ : drF (J2 73) (J2 75) (J2 76) = D := by rw [jo2 73 (by decide), jo2 75 (by decide), jo2 76 (by decide), eD]
          have hr := nxt_range (J2 94) D (I 72 1).toNat
          have hpl : plF D (I 72 1).toNat (I 74) (36 - m).toNat m (J 94) = plF D (I 72 1).toNat (I 74) (36 - (m + 1)).toNat (m + 1) (stpN D (I 72 1).toNat m (I 74 m - i).toNat (J2 94)) := by
            rw [show (36 - m).toNat = (36 - (m + 1)).toNat + 1 by omega, js]
            rfl
          obtain ⟨b, hb⟩ : ∃ b, b = nxt (J2 94) D (I 72 1).toNat := ⟨_, rfl⟩
          rw [← hb] at hr
          refine r_iload_n S rfl dX12_builds_41 ?_
          refine r_aload_n S rfl dX12_builds_42 ?_
          refine r_getR S (o' := 74) fk_X12_13 dX12_builds_43 rfl rfl (Nat.lt_of_lt_of_le (by decide) hn) rfl ?_
          refine r_iload_n S rfl dX12_builds_46 ?_
          refine r_iald S (v := J2 74 m) dX12_builds_47 rfl rfl (Nat.lt_of_lt_of_le (by decide) hn) (by omega) (by omega) rfl ?_
          refine r_icmp_ge S (tgt := 75) dX12_builds_48 (by decide) (by omega) (by omega) (fun c48 => ?_) (fun c48 => ?_)
          · refine r_iinc S dX12_builds_75 rfl rfl rfl ?_
            refine r_goto S (tgt := 33) dX12_builds_78 (by decide) ?_
            refine r_drop S 2 ?_
            refine ih (m + 1) J2 (by omega) (by omega) (by omega) jo2 jr2 (fun j g0 g1 => ?_)
            rw [← jp j g0 g1, hpl, show (I 74 m - i).toNat = 0 by omega]
            rfl
          · refine r_aload_n S rfl dX12_builds_51 ?_
            refine r_callV S lk_X12_237 mk_X12_nextOne (c_X12_nextOne G n J2 bk dr pt hn (by omega) (by omega) (by rw [jo2 73 (by decide)]; exact h2) (by rw [jo2 75 (by decide)]; exact h3) (by rw [e4, jo2 76 (by decide)]; exact h5) (by rw [e4]; exact jr2)) rfl (Nat.lt_of_lt_of_le (by decide) hn) rfl rfl rfl (Nat.le_of_ble_eq_true rfl) ⟨by decide, by decide⟩ rfl ⟨by decide, by decide⟩ dX12_builds_52 ?_
            rintro _ _ _ _ ⟨rfl, rfl, rfl, rfl⟩
            rw [eDJ, e4, ← hb]
            refine r_istore_n S dX12_builds_55 rfl rfl ?_
            refine r_iload_n S rfl dX12_builds_56 ?_
            refine r_iconst S dX12_builds_57 ?_
            refine r_icmp_ne S (tgt := 62) dX12_builds_58 (by decide) (by omega) (by omega) (fun c58 => ?_) (fun c58 => ?_)
            · refine r_aload_n S rfl dX12_builds_62 ?_
              refine r_getR S (o' := 94) fk_X12_78 dX12_builds_63 rfl rfl (Nat.lt_of_lt_of_le (by decide) hn) rfl ?_
              refine r_iload_n S rfl dX12_builds_66 ?_
              refine r_iload_n S rfl dX12_builds_67 ?_
              refine r_iast S dX12_builds_68 rfl rfl (Nat.lt_of_lt_of_le (by decide) hn) (by omega) (by omega) ?_
              refine r_iinc S dX12_builds_69 rfl rfl rfl ?_
              refine r_goto S (tgt := 41) dX12_builds_72 (by decide) ?_
              refine r_drop S 3 ?_
              have hstp : stp D (I 72 1).toNat m (J2 94) = up J2 94 b m 94 := by
                rw [stp_some (by rw [← hb]; exact c58), up_fn, ← hb]
              refine ih2 (i + 1) _ (by omega) (by omega) (by omega) (fun o o1 => by rw [up_o o1]; exact jo2 o o1) (fun j g0 g1 => ?_) ?_
              · by_cases e : j = b
                · subst e
                  rw [up_s]
                  exact ⟨by omega, by omega⟩
                · rw [up_i e]
                  exact jr2 j g0 g1
              · rw [← js, show (I 74 m - i).toNat = (I 74 m - (i + 1)).toNat + 1 by omega, ← hstp]
                rfl
            · refine r_vret SR dX12_builds_61 ⟨by decide, by decide⟩ ?_
              refine ⟨rfl, rfl, rfl, jo2, fun j g0 g1 => ?_⟩
              rw [← eD, ← et, ← jp j g0 g1, hpl, stpN_none (by rw [← hb]; exact c58), plF_none (by rw [← hb]; exact c58)]
      refine r_iload_n S rfl dX12_builds_33 ?_
      refine r_bipush S (by decide +kernel) dX12_builds_34 ?_
      refine r_icmp_ge S (tgt := 81) dX12_builds_36 (by decide) (by omega) (by omega) (fun c36 => ?_) (fun c36 => ?_)
      · refine r_vret SR dX12_builds_81 ⟨by decide, by decide⟩ ?_
        refine ⟨rfl, rfl, rfl, jo, fun j g0 g1 => ?_⟩
        rw [← eD, ← et, ← jp j g0 g1, show (36 - m).toNat = 0 by omega]
        rfl
      · refine r_iconst S dX12_builds_39 ?_
        refine r_istore_n S dX12_builds_40 rfl rfl ?_
        exact inner c36 ((I 74 m).toNat + 1) 0 J (by omega) (h74 m (by omega) (by omega)).1 (by have := h74 m (by omega) (by omega); omega) jo jr (by rw [Int.sub_zero])
  refine r_iconst S dX12_builds_0 ?_
  refine r_istore_n S dX12_builds_1 rfl rfl ?_
  refine first ((I 72 1).toNat + 1) 0 I (by omega) (by omega) (by omega) (fun _ _ => rfl) (fun j b0 b1 => by omega) (fun J jo j94 => ?_)
  refine outer (37 - t).toNat t J (by omega) (by omega) (by omega) jo (fun j g0 g1 => ?_) (fun j g0 g1 => ?_)
  · rw [j94 j g0 g1]
    exact h80 j g0 g1
  · exact plF_congr (fun _ _ _ => rfl) _ _ (fun _ _ _ => rfl) (fun h g2 g3 => j94 h g2 (by omega)) j g0 (by omega)
theorem c_X12_isLate (hn : 103 ≤ n) {a : Int} (a0 : 0 ≤ a) (a1 : a < I 72 1) (h1 : I 72 1 ≤ 8) (h2 : ∀ j, 0 ≤ j → j < 36 → rg (I 73 j)) (h3 : ∀ j, 0 ≤ j → j < 4 → rg (I 75 j)) (h5 : ∀ j, 0 ≤ j → j < I 72 1 → 0 ≤ I 76 j ∧ I 76 j ≤ 3) (h94 : ∀ j, 0 ≤ j → j < I 72 1 → rg (I 94 j)) : Ct G yX12_isLate cX12_isLate 3 (some .boolean) 1 0 0 [.ref (gb G + 72), .int (jI a)] n I (rst bk dr pt) (PI (b2 (lateP (drF (I 73) (I 75) (I 76) a) (I 94 a))) n I (rst bk dr pt)) := by
  refine Ct.of [some (.ref (gb G + 72)), some (.int (jI a)), none] (by decide) rfl rfl rfl ?_
  intro k SR
  have S : Sem G RX12 "isLate" cX12_isLate 3 (rmD 1 0 0) k := SR.sem
  have hfm := fm_range (I 73) (I 75 (I 76 a))
  refine r_aload_n S rfl dX12_isLate_0 ?_
  refine r_aload_n S rfl dX12_isLate_1 ?_
  refine r_getR S (o' := 76) fk_X12_19 dX12_isLate_2 rfl rfl (Nat.lt_of_lt_of_le (by decide) hn) rfl ?_
  refine r_iload_n S rfl dX12_isLate_5 ?_
  refine r_iald S (v := I 76 a) dX12_isLate_6 rfl rfl (Nat.lt_of_lt_of_le (by decide) hn) (by omega) (by omega) rfl ?_
  refine r_callV S lk_X12_119 mk_X12_drownedIn (c_X12_drownedIn G n I bk dr pt hn (h5 a (by omega) (by omega)).1 (h5 a (by omega) (by omega)).2 h2 h3) rfl (Nat.lt_of_lt_of_le (by decide) hn) rfl rfl rfl (Nat.le_of_ble_eq_true rfl) ⟨by decide, by decide⟩ rfl ⟨by decide, by decide⟩ dX12_isLate_7 ?_
  rintro _ _ _ _ ⟨rfl, rfl, rfl, rfl⟩
  refine r_istore_n S dX12_isLate_10 rfl rfl ?_
  refine r_iload_n S rfl dX12_isLate_11 ?_
  refine r_bipush S (by decide +kernel) dX12_isLate_12 ?_
  refine r_icmp_ge S (tgt := 41) dX12_isLate_14 (by decide) ⟨by omega, by omega⟩ (by decide) (fun c14 => ?_) (fun c14 => ?_)
  · refine r_iconst S dX12_isLate_41 ?_
    refine r_zret SR dX12_isLate_42 (by decide) ⟨by decide, by decide⟩ ?_
    refine ⟨?_, rfl, rfl, rfl⟩
    dsimp only [lateP, drF]
    first | rw [b2_t (by omega)] | rw [b2_f (by omega)]
  · refine r_aload_n S rfl dX12_isLate_17 ?_
    refine r_getR S (o' := 94) fk_X12_78 dX12_isLate_18 rfl rfl (Nat.lt_of_lt_of_le (by decide) hn) rfl ?_
    refine r_iload_n S rfl dX12_isLate_21 ?_
    refine r_iald S (v := I 94 a) dX12_isLate_22 rfl rfl (Nat.lt_of_lt_of_le (by decide) hn) (by omega) (by omega) rfl ?_
    refine r_iconst S dX12_isLate_23 ?_
    refine r_icmp_eq S (tgt := 37) dX12_isLate_24 (by decide) (h94 a (by omega) (by omega)) (by decide) (fun c24 => ?_) (fun c24 => ?_)
    · refine r_iconst S dX12_isLate_37 ?_
      refine r_goto S (tgt := 42) dX12_isLate_38 (by decide) ?_
      refine r_zret SR dX12_isLate_42 (by decide) ⟨by decide, by decide⟩ ?_
      refine ⟨?_, rfl, rfl, rfl⟩
      dsimp only [lateP, drF]
      first | rw [b2_t (by omega)] | rw [b2_f (by omega)]
    · refine r_aload_n S rfl dX12_isLate_27 ?_
      refine r_getR S (o' := 94) fk_X12_78 dX12_isLate_28 rfl rfl (Nat.lt_of_lt_of_le (by decide) hn) rfl ?_
      refine r_iload_n S rfl dX12_isLate_31 ?_
      refine r_iald S (v := I 94 a) dX12_isLate_32 rfl rfl (Nat.lt_of_lt_of_le (by decide) hn) (by omega) (by omega) rfl ?_
      refine r_iload_n S rfl dX12_isLate_33 ?_
      refine r_icmp_lt S (tgt := 41) dX12_isLate_34 (by decide) (h94 a (by omega) (by omega)) ⟨by omega, by omega⟩ (fun c34 => ?_) (fun c34 => ?_)
      · refine r_iconst S dX12_isLate_41 ?_
        refine r_zret SR dX12_isLate_42 (by decide) ⟨by decide, by decide⟩ ?_
        refine ⟨?_, rfl, rfl, rfl⟩
        dsimp only [lateP, drF]
        first | rw [b2_t (by omega)] | rw [b2_f (by omega)]
      · refine r_iconst S dX12_isLate_37 ?_
        refine r_goto S (tgt := 42) dX12_isLate_38 (by decide) ?_
        refine r_zret SR dX12_isLate_42 (by decide) ⟨by decide, by decide⟩ ?_
        refine ⟨?_, rfl, rfl, rfl⟩
        dsimp only [lateP, drF]
        first | rw [b2_t (by omega)] | rw [b2_f (by omega)]
end
