/-! ===== a book of rules: object o, its arrays o + 1 .. o + 5 ===== -/
def BkOk (n : Nat) (ρ : Rv) (o : Nat) : Prop := kd o = (8, 8) ∧ kd (o + 1) = (0, 400) ∧ kd (o + 2) = (0, 10) ∧ kd (o + 3) = (0, 10) ∧ kd (o + 4) = (0, 10) ∧ kd (o + 5) = (0, 24) ∧ ρ o 2 = some (o + 1) ∧ ρ o 3 = some (o + 2) ∧ ρ o 4 = some (o + 3) ∧ ρ o 5 = some (o + 4) ∧ ρ o 7 = some (o + 5) ∧ 60 ≤ o ∧ o ≤ 66 ∧ 103 ≤ n
theorem BkOk_60 {n : Nat} (hn : 103 ≤ n) (bk dr : Nat) (pt : Option Nat) : BkOk n (rst bk dr pt) 60 := ⟨rfl, rfl, rfl, rfl, rfl, rfl, rfl, rfl, rfl, rfl, rfl, by decide, by decide, hn⟩
theorem BkOk_66 {n : Nat} (hn : 103 ≤ n) (bk dr : Nat) (pt : Option Nat) : BkOk n (rst bk dr pt) 66 := ⟨rfl, rfl, rfl, rfl, rfl, rfl, rfl, rfl, rfl, rfl, rfl, by decide, by decide, hn⟩
section
variable (G : GE) (n : Nat) (I : Iv) (ρ : Rv) (o : Nat)
theorem c_X6_clear (hB : BkOk n ρ o) : Ct G yX6_clear cX6_clear 1 none 0 0 0 [.ref (gb G + o)] n I ρ (PV n (up (up I o 0 0) o 1 0) ρ) := by
  refine Ct.of [some (.ref (gb G + o))] (by decide) rfl rfl rfl ?_
  intro k SR
  have S : Sem G RX6 "clear" cX6_clear 1 (rmD 0 0 0) k := SR.sem
  obtain ⟨k0, k1, k2, k3, k4, k5, r2, r3, r4, r5, r7, l0, l1, hn⟩ := hB
  refine r_aload_n S rfl dX6_clear_0 ?_
  refine r_iconst S dX6_clear_1 ?_
  refine r_putI S fk_X6_9 dX6_clear_2 k0 rfl (by omega) (Or.inl rfl) (Or.inl rfl) ?_
  refine r_aload_n S rfl dX6_clear_5 ?_
  refine r_iconst S dX6_clear_6 ?_
  refine r_putI S fk_X6_15 dX6_clear_7 k0 rfl (by omega) (Or.inl rfl) (Or.inl rfl) ?_
  refine r_vret SR dX6_clear_10 ⟨by decide, by decide⟩ ?_
  exact ⟨rfl, rfl, rfl, rfl⟩
theorem c_X6_isFull (hB : BkOk n ρ o) (hc : rg (I o 0)) : Ct G yX6_isFull cX6_isFull 1 (some .boolean) 0 0 0 [.ref (gb G + o)] n I ρ (PI (b2 (10 ≤ I o 0)) n I ρ) := by
  refine Ct.of [some (.ref (gb G + o))] (by decide) rfl rfl rfl ?_
  intro k SR
  have S : Sem G RX6 "isFull" cX6_isFull 1 (rmD 0 0 0) k := SR.sem
  obtain ⟨k0, k1, k2, k3, k4, k5, r2, r3, r4, r5, r7, l0, l1, hn⟩ := hB
  refine r_aload_n S rfl dX6_isFull_0 ?_
  refine r_getI S (v := I o 0) fk_X6_9 dX6_isFull_1 k0 rfl (by omega) rfl ?_
  refine r_bipush S (by decide +kernel) dX6_isFull_4 ?_
  refine r_icmp_lt S (tgt := 13) dX6_isFull_6 (by decide) (by omega) (by omega) (fun c6 => ?_) (fun c6 => ?_)
  · refine r_iconst S dX6_isFull_13 ?_
    refine r_zret SR dX6_isFull_14 (by decide) ⟨by decide, by decide⟩ ?_
    refine ⟨?_, rfl, rfl, rfl⟩
    first | rw [b2_t (by omega)] | rw [b2_f (by omega)]
  · refine r_iconst S dX6_isFull_9 ?_
    refine r_goto S (tgt := 14) dX6_isFull_10 (by decide) ?_
    refine r_zret SR dX6_isFull_14 (by decide) ⟨by decide, by decide⟩ ?_
    refine ⟨?_, rfl, rfl, rfl⟩
    first | rw [b2_t (by omega)] | rw [b2_f (by omega)]
theorem c_X6_beginGive (hB : BkOk n ρ o) (h0 : 0 ≤ I o 0) (h1 : rg (I o 0)) : Ct G yX6_beginGive cX6_beginGive 1 none 1 0 0 [.ref (gb G + o)] n I ρ (PV n (if I o 0 < 10 then up I (o + 2) (I o 0) (I o 1) else I) ρ) := by
  refine Ct.of [some (.ref (gb G + o))] (by decide) rfl rfl rfl ?_
  intro k SR
  have S : Sem G RX6 "beginGive" cX6_beginGive 1 (rmD 1 0 0) k := SR.sem
  have C := c_X6_isFull G n I ρ o hB h1
  obtain ⟨k0, k1, k2, k3, k4, k5, r2, r3, r4, r5, r7, l0, l1, hn⟩ := hB
  refine r_aload_n S rfl dX6_beginGive_0 ?_
  refine r_callV S lk_X6_37 mk_X6_isFull C k0 (by omega) rfl rfl rfl (Nat.le_of_ble_eq_true rfl) ⟨by decide, by decide⟩ rfl ⟨by decide, by decide⟩ dX6_beginGive_1 ?_
  rintro _ _ _ _ ⟨rfl, rfl, rfl, rfl⟩
  refine r_ifb_ne S (tgt := 20) dX6_beginGive_4 (by decide)  (fun c4 => ?_) (fun c4 => ?_)
  · refine r_vret SR dX6_beginGive_20 ⟨by decide, by decide⟩ ?_
    first | exact ⟨rfl, rfl, by rw [if_pos (by omega)], rfl⟩ | exact ⟨rfl, rfl, by rw [if_neg (by omega)], rfl⟩
  · refine r_aload_n S rfl dX6_beginGive_7 ?_
    refine r_getR S (o' := (o + 2)) fk_X6_22 dX6_beginGive_8 k0 rfl (by omega) r3 ?_
    refine r_aload_n S rfl dX6_beginGive_11 ?_
    refine r_getI S (v := I o 0) fk_X6_9 dX6_beginGive_12 k0 rfl (by omega) rfl ?_
    refine r_aload_n S rfl dX6_beginGive_15 ?_
    refine r_getI S (v := I o 1) fk_X6_15 dX6_beginGive_16 k0 rfl (by omega) rfl ?_
    refine r_iast S dX6_beginGive_19 k2 rfl (by omega) (by omega) (by omega) ?_
    refine r_vret SR dX6_beginGive_20 ⟨by decide, by decide⟩ ?_
    first | exact ⟨rfl, rfl, by rw [if_pos (by omega)], rfl⟩ | exact ⟨rfl, rfl, by rw [if_neg (by omega)], rfl⟩
theorem c_X6_beginWhen (hB : BkOk n ρ o) (h0 : 0 ≤ I o 0) (h1 : I o 0 < 10) : Ct G yX6_beginWhen cX6_beginWhen 1 none 1 0 0 [.ref (gb G + o)] n I ρ (PV n (up I (o + 3) (I o 0) (I o 1)) ρ) := by
  refine Ct.of [some (.ref (gb G + o))] (by decide) rfl rfl rfl ?_
  intro k SR
  have S : Sem G RX6 "beginWhen" cX6_beginWhen 1 (rmD 1 0 0) k := SR.sem
  have C := c_X6_isFull G n I ρ o hB ⟨by omega, by omega⟩
  obtain ⟨k0, k1, k2, k3, k4, k5, r2, r3, r4, r5, r7, l0, l1, hn⟩ := hB
  refine r_aload_n S rfl dX6_beginWhen_0 ?_
  refine r_callV S lk_X6_37 mk_X6_isFull C k0 (by omega) rfl rfl rfl (Nat.le_of_ble_eq_true rfl) ⟨by decide, by decide⟩ rfl ⟨by decide, by decide⟩ dX6_beginWhen_1 ?_
  rintro _ _ _ _ ⟨rfl, rfl, rfl, rfl⟩
  refine r_ifb_ne S (tgt := 20) dX6_beginWhen_4 (by decide)  (fun c4 => ?_) (fun c4 => ?_)
  · exact absurd c4 (by omega)
  · refine r_aload_n S rfl dX6_beginWhen_7 ?_
    refine r_getR S (o' := (o + 3)) fk_X6_25 dX6_beginWhen_8 k0 rfl (by omega) r4 ?_
    refine r_aload_n S rfl dX6_beginWhen_11 ?_
    refine r_getI S (v := I o 0) fk_X6_9 dX6_beginWhen_12 k0 rfl (by omega) rfl ?_
    refine r_aload_n S rfl dX6_beginWhen_15 ?_
    refine r_getI S (v := I o 1) fk_X6_15 dX6_beginWhen_16 k0 rfl (by omega) rfl ?_
    refine r_iast S dX6_beginWhen_19 k3 rfl (by omega) (by omega) (by omega) ?_
    refine r_vret SR dX6_beginWhen_20 ⟨by decide, by decide⟩ ?_
    exact ⟨rfl, rfl, rfl, rfl⟩
theorem c_X6_endRule (hB : BkOk n ρ o) (h0 : 0 ≤ I o 0) (h1 : I o 0 < 10) : Ct G yX6_endRule cX6_endRule 1 none 1 0 0 [.ref (gb G + o)] n I ρ (PV n (up (up I (o + 4) (I o 0) (I o 1)) o 0 (I o 0 + 1)) ρ) := by
  refine Ct.of [some (.ref (gb G + o))] (by decide) rfl rfl rfl ?_
  intro k SR
  have S : Sem G RX6 "endRule" cX6_endRule 1 (rmD 1 0 0) k := SR.sem
  have C := c_X6_isFull G n I ρ o hB ⟨by omega, by omega⟩
  obtain ⟨k0, k1, k2, k3, k4, k5, r2, r3, r4, r5, r7, l0, l1, hn⟩ := hB
  refine r_aload_n S rfl dX6_endRule_0 ?_
  refine r_callV S lk_X6_37 mk_X6_isFull C k0 (by omega) rfl rfl rfl (Nat.le_of_ble_eq_true rfl) ⟨by decide, by decide⟩ rfl ⟨by decide, by decide⟩ dX6_endRule_1 ?_
  rintro _ _ _ _ ⟨rfl, rfl, rfl, rfl⟩
  refine r_ifb_ne S (tgt := 30) dX6_endRule_4 (by decide)  (fun c4 => ?_) (fun c4 => ?_)
  · exact absurd c4 (by omega)
  · refine r_aload_n S rfl dX6_endRule_7 ?_
    refine r_getR S (o' := (o + 4)) fk_X6_28 dX6_endRule_8 k0 rfl (by omega) r5 ?_
    refine r_aload_n S rfl dX6_endRule_11 ?_
    refine r_getI S (v := I o 0) fk_X6_9 dX6_endRule_12 k0 rfl (by omega) rfl ?_
    refine r_aload_n S rfl dX6_endRule_15 ?_
    refine r_getI S (v := I o 1) fk_X6_15 dX6_endRule_16 k0 rfl (by omega) rfl ?_
    refine r_iast S dX6_endRule_19 k4 rfl (by omega) (by omega) (by omega) ?_
    refine r_aload_n S rfl dX6_endRule_20 ?_
    refine r_dup S rfl dX6_endRule_21 ?_
    refine r_getI S (v := I o 0) fk_X6_9 dX6_endRule_22 k0 rfl (by omega) (by rw [up_o (by omega)]) ?_
    refine r_iconst S dX6_endRule_25 ?_
    refine r_iadd S dX6_endRule_26 ?_
    refine r_putI S fk_X6_9 dX6_endRule_27 k0 rfl (by omega) (Or.inl rfl) (Or.inl rfl) ?_
    refine r_vret SR dX6_endRule_30 ⟨by decide, by decide⟩ ?_
    exact ⟨rfl, rfl, rfl, rfl⟩
theorem c_X6_write (hB : BkOk n ρ o) {a : Int} (h0 : 0 ≤ I o 1) (h1 : I o 1 < 400) : Ct G yX6_write cX6_write 2 none 0 0 0 [.ref (gb G + o), .int (jI a)] n I ρ (PV n (up (up I (o + 1) (I o 1) a) o 1 (I o 1 + 1)) ρ) := by
  refine Ct.of [some (.ref (gb G + o)), some (.int (jI a))] (by decide) rfl rfl rfl ?_
  intro k SR
  have S : Sem G RX6 "write" cX6_write 2 (rmD 0 0 0) k := SR.sem
  obtain ⟨k0, k1, k2, k3, k4, k5, r2, r3, r4, r5, r7, l0, l1, hn⟩ := hB
  refine r_aload_n S rfl dX6_write_0 ?_
  refine r_getI S (v := I o 1) fk_X6_15 dX6_write_1 k0 rfl (by omega) rfl ?_
  refine r_sipush S (by decide +kernel) dX6_write_4 ?_
  refine r_icmp_ge S (tgt := 30) dX6_write_7 (by decide) (by omega) (by omega) (fun c7 => ?_) (fun c7 => ?_)
  · exact absurd c7 (by omega)
  · refine r_aload_n S rfl dX6_write_10 ?_
    refine r_getR S (o' := (o + 1)) fk_X6_18 dX6_write_11 k0 rfl (by omega) r2 ?_
    refine r_aload_n S rfl dX6_write_14 ?_
    refine r_getI S (v := I o 1) fk_X6_15 dX6_write_15 k0 rfl (by omega) rfl ?_
    refine r_iload_n S rfl dX6_write_18 ?_
    refine r_iast S dX6_write_19 k1 rfl (by omega) (by omega) (by omega) ?_
    refine r_aload_n S rfl dX6_write_20 ?_
    refine r_dup S rfl dX6_write_21 ?_
    refine r_getI S (v := I o 1) fk_X6_15 dX6_write_22 k0 rfl (by omega) (by rw [up_o (by omega)]) ?_
    refine r_iconst S dX6_write_25 ?_
    refine r_iadd S dX6_write_26 ?_
    refine r_putI S fk_X6_15 dX6_write_27 k0 rfl (by omega) (Or.inl rfl) (Or.inl rfl) ?_
    refine r_vret SR dX6_write_30 ⟨by decide, by decide⟩ ?_
    exact ⟨rfl, rfl, rfl, rfl⟩
theorem c_X6_factAt {a : Int} (ha : rg a) : Ct G yX6_factAt cX6_factAt 1 (some .int) 2 0 0 [.int (jI a)] n I ρ (PI (if -4 ≤ a ∧ a ≤ -1 then -1 - a else 0) n I ρ) := by
  refine Ct.of [some (.int (jI a))] (by decide) rfl rfl rfl ?_
  intro k SR
  have S : Sem G RX6 "factAt" cX6_factAt 1 (rmD 2 0 0) k := SR.sem
  refine r_iload_n S rfl dX6_factAt_0 ?_
  refine r_callS S lk_X6_41 mk_X1_isFact (c_X1_isFact G n I ρ ha) rfl rfl (Nat.le_of_ble_eq_true rfl) ⟨by decide, by decide⟩ rfl ⟨by decide, by decide⟩ dX6_factAt_1 ?_
  rintro _ _ _ _ ⟨rfl, rfl, rfl, rfl⟩
  refine r_ifb_eq S (tgt := 13) dX6_factAt_4 (by decide)  (fun c4 => ?_) (fun c4 => ?_)
  · refine r_iconst S dX6_factAt_13 ?_
    refine r_iret SR dX6_factAt_14 ⟨by decide, by decide⟩ ?_
    first | exact ⟨by rw [if_pos (by omega)], rfl, rfl, rfl⟩ | exact ⟨by rw [if_neg (by omega)], rfl, rfl, rfl⟩
  · refine r_iconst S dX6_factAt_7 ?_
    refine r_iload_n S rfl dX6_factAt_8 ?_
    refine r_isub S dX6_factAt_9 ?_
    refine r_goto S (tgt := 14) dX6_factAt_10 (by decide) ?_
    refine r_iret SR dX6_factAt_14 ⟨by decide, by decide⟩ ?_
    first | exact ⟨by rw [if_pos (by omega)], rfl, rfl, rfl⟩ | exact ⟨by rw [if_neg (by omega)], rfl, rfl, rfl⟩
theorem c_X6_push (hB : BkOk n ρ o) {a : Int} (h0 : 0 ≤ I o 6) (h1 : I o 6 < 24) : Ct G yX6_push cX6_push 2 none 0 0 0 [.ref (gb G + o), .int (jI a)] n I ρ (PV n (up (up I (o + 5) (I o 6) a) o 6 (I o 6 + 1)) ρ) := by
  refine Ct.of [some (.ref (gb G + o)), some (.int (jI a))] (by decide) rfl rfl rfl ?_
  intro k SR
  have S : Sem G RX6 "push" cX6_push 2 (rmD 0 0 0) k := SR.sem
  obtain ⟨k0, k1, k2, k3, k4, k5, r2, r3, r4, r5, r7, l0, l1, hn⟩ := hB
  refine r_aload_n S rfl dX6_push_0 ?_
  refine r_getI S (v := I o 6) fk_X6_31 dX6_push_1 k0 rfl (by omega) rfl ?_
  refine r_bipush S (by decide +kernel) dX6_push_4 ?_
  refine r_icmp_ge S (tgt := 29) dX6_push_6 (by decide) (by omega) (by omega) (fun c6 => ?_) (fun c6 => ?_)
  · exact absurd c6 (by omega)
  · refine r_aload_n S rfl dX6_push_9 ?_
    refine r_getR S (o' := (o + 5)) fk_X6_34 dX6_push_10 k0 rfl (by omega) r7 ?_
    refine r_aload_n S rfl dX6_push_13 ?_
    refine r_getI S (v := I o 6) fk_X6_31 dX6_push_14 k0 rfl (by omega) rfl ?_
    refine r_iload_n S rfl dX6_push_17 ?_
    refine r_iast S dX6_push_18 k5 rfl (by omega) (by omega) (by omega) ?_
    refine r_aload_n S rfl dX6_push_19 ?_
    refine r_dup S rfl dX6_push_20 ?_
    refine r_getI S (v := I o 6) fk_X6_31 dX6_push_21 k0 rfl (by omega) (by rw [up_o (by omega)]) ?_
    refine r_iconst S dX6_push_24 ?_
    refine r_iadd S dX6_push_25 ?_
    refine r_putI S fk_X6_31 dX6_push_26 k0 rfl (by omega) (Or.inl rfl) (Or.inl rfl) ?_
    refine r_vret SR dX6_push_29 ⟨by decide, by decide⟩ ?_
    exact ⟨rfl, rfl, rfl, rfl⟩
theorem c_X6_pop (hB : BkOk n ρ o) (h0 : 0 < I o 6) (h1 : I o 6 ≤ 24) : Ct G yX6_pop cX6_pop 1 (some .int) 0 0 0 [.ref (gb G + o)] n I ρ (PI (I (o + 5) (I o 6 - 1)) n (up I o 6 (I o 6 - 1)) ρ) := by
  refine Ct.of [some (.ref (gb G + o))] (by decide) rfl rfl rfl ?_
  intro k SR
  have S : Sem G RX6 "pop" cX6_pop 1 (rmD 0 0 0) k := SR.sem
  obtain ⟨k0, k1, k2, k3, k4, k5, r2, r3, r4, r5, r7, l0, l1, hn⟩ := hB
  refine r_aload_n S rfl dX6_pop_0 ?_
  refine r_getI S (v := I o 6) fk_X6_31 dX6_pop_1 k0 rfl (by omega) rfl ?_
  refine r_if_gt S (tgt := 9) dX6_pop_4 (by decide) (by omega) (fun c4 => ?_) (fun c4 => ?_)
  · refine r_aload_n S rfl dX6_pop_9 ?_
    refine r_dup S rfl dX6_pop_10 ?_
    refine r_getI S (v := I o 6) fk_X6_31 dX6_pop_11 k0 rfl (by omega) rfl ?_
    refine r_iconst S dX6_pop_14 ?_
    refine r_isub S dX6_pop_15 ?_
    refine r_putI S fk_X6_31 dX6_pop_16 k0 rfl (by omega) (Or.inl rfl) (Or.inl rfl) ?_
    refine r_aload_n S rfl dX6_pop_19 ?_
    refine r_getR S (o' := (o + 5)) fk_X6_34 dX6_pop_20 k0 rfl (by omega) r7 ?_
    refine r_aload_n S rfl dX6_pop_23 ?_
    refine r_getI S (v := (I o 6) - 1) fk_X6_31 dX6_pop_24 k0 rfl (by omega) (by rw [up_s]) ?_
    refine r_iald S (v := I (o + 5) ((I o 6) - 1)) dX6_pop_27 k5 rfl (by omega) (by omega) (by omega) (by rw [up_o (by omega)]) ?_
    refine r_iret SR dX6_pop_28 ⟨by decide, by decide⟩ ?_
    exact ⟨rfl, rfl, rfl, rfl⟩
  · exact absurd c4 (by omega)
end
