/-! ===== the class's PARTINGS: worths and keys ===== -/
theorem tb_hi {f t : Nat} (h : t < 2 ^ f) : Nat.testBit (2 ^ f + t) f = true := by
  rw [Nat.testBit_two_pow_add_eq, Nat.testBit_lt_two_pow h]
  rfl
theorem tb_lo {f t i : Nat} (h : i < f) : Nat.testBit (2 ^ f + t) i = Nat.testBit t i := Nat.testBit_two_pow_add_gt h t
theorem tb_no {f t : Nat} (h : t < 2 ^ f) : ¬ Nat.testBit t f = true := by
  rw [Nat.testBit_lt_two_pow h]
  decide
theorem wgt_old {ws : Int → Int} {f t : Nat} (h : t < 2 ^ f) : wgt ws (f + 1) t = wgt ws f t ∧ wlo ws (f + 1) t = wlo ws f t := ⟨wgt_0 (tb_no h), if_neg (tb_no h)⟩
theorem wgt_new {ws : Int → Int} {f t : Nat} (h : t < 2 ^ f) : wgt ws (f + 1) (2 ^ f + t) = wgt ws f t + ws f ∧ wlo ws (f + 1) (2 ^ f + t) = if wgt ws f t = 0 then 0 else wgt ws f t + ws f - min (ws f) (wgt ws f t - wlo ws f t) := by
  have e1 : wgt ws f (2 ^ f + t) = wgt ws f t := wgt_congr f (fun i hi => tb_lo hi) (fun _ _ => rfl)
  have e2 : wlo ws f (2 ^ f + t) = wlo ws f t := wlo_congr f (fun i hi => tb_lo hi) (fun _ _ => rfl)
  refine ⟨by rw [wgt_1 (tb_hi h), e1], ?_⟩
  show (if Nat.testBit (2 ^ f + t) f then (if wgt ws f (2 ^ f + t) = 0 then 0 else wgt ws f (2 ^ f + t) + ws f - min (ws f) (wgt ws f (2 ^ f + t) - wlo ws f (2 ^ f + t))) else wlo ws f (2 ^ f + t)) = _
  rw [if_pos (tb_hi h), e1, e2]
theorem shr_key : ∀ h : Fin 8, jI 256 >>> (jI ((h.val : Int) + 1) &&& 31) = jI ((2 ^ (7 - h.val) : Nat) : Int) := by decide +kernel
section
variable (G : GE) (n : Nat) (I : Iv) (bk dr : Nat) (pt : Option Nat)
theorem c_X5_isJustEnough (hn : 109 ≤ n) {a : Nat} {d : Int} (ha : a < 1024) (h5 : rg (I 105 a)) (h6 : rg (I 106 a)) (hd : rg d) : Ct G yX5_isJustEnough cX5_isJustEnough 3 (some .boolean) 0 0 0 [.ref (gb G + 103), .int (jI (a : Int)), .int (jI d)] n I (rst bk dr pt) (PI (b2 (d ≤ I 105 a ∧ I 106 a < d)) n I (rst bk dr pt)) := by
  refine Ct.of [some (.ref (gb G + 103)), some (.int (jI (a : Int))), some (.int (jI d))] (by decide) rfl rfl rfl ?_
  intro k SR
  have S : Sem G RX5 "isJustEnough" cX5_isJustEnough 3 (rmD 0 0 0) k := SR.sem
  refine r_aload_n S rfl dX5_isJustEnough_0 ?_
  refine r_getR S (o' := 105) fk_X5_15 dX5_isJustEnough_1 rfl rfl (Nat.lt_of_lt_of_le (by decide) hn) rfl ?_
  refine r_iload_n S rfl dX5_isJustEnough_4 ?_
  refine r_iald S (v := I 105 (a:Int)) dX5_isJustEnough_5 rfl rfl (Nat.lt_of_lt_of_le (by decide) hn) (by omega) (by omega) rfl ?_
  refine r_iload_n S rfl dX5_isJustEnough_6 ?_
  refine r_icmp_lt S (tgt := 24) dX5_isJustEnough_7 (by decide) (by omega) (by omega) (fun c7 => ?_) (fun c7 => ?_)
  · refine r_iconst S dX5_isJustEnough_24 ?_
    refine r_zret SR dX5_isJustEnough_25 (by decide) ⟨by decide, by decide⟩ ?_
    first | exact ⟨by rw [b2_t (by omega)], rfl, rfl, rfl⟩ | exact ⟨by rw [b2_f (by omega)], rfl, rfl, rfl⟩
  · refine r_aload_n S rfl dX5_isJustEnough_10 ?_
    refine r_getR S (o' := 106) fk_X5_18 dX5_isJustEnough_11 rfl rfl (Nat.lt_of_lt_of_le (by decide) hn) rfl ?_
    refine r_iload_n S rfl dX5_isJustEnough_14 ?_
    refine r_iald S (v := I 106 (a:Int)) dX5_isJustEnough_15 rfl rfl (Nat.lt_of_lt_of_le (by decide) hn) (by omega) (by omega) rfl ?_
    refine r_iload_n S rfl dX5_isJustEnough_16 ?_
    refine r_icmp_ge S (tgt := 24) dX5_isJustEnough_17 (by decide) (by omega) (by omega) (fun c17 => ?_) (fun c17 => ?_)
    · refine r_iconst S dX5_isJustEnough_24 ?_
      refine r_zret SR dX5_isJustEnough_25 (by decide) ⟨by decide, by decide⟩ ?_
      first | exact ⟨by rw [b2_t (by omega)], rfl, rfl, rfl⟩ | exact ⟨by rw [b2_f (by omega)], rfl, rfl, rfl⟩
    · refine r_iconst S dX5_isJustEnough_20 ?_
      refine r_goto S (tgt := 25) dX5_isJustEnough_21 (by decide) ?_
      refine r_zret SR dX5_isJustEnough_25 (by decide) ⟨by decide, by decide⟩ ?_
      first | exact ⟨by rw [b2_t (by omega)], rfl, rfl, rfl⟩ | exact ⟨by rw [b2_f (by omega)], rfl, rfl, rfl⟩
theorem c_X5_keyOf (hn : 109 ≤ n) {h a : Nat} (h8 : h < 8) (ha : a < 1024) : Ct G yX5_keyOf cX5_keyOf 3 (some .int) 0 0 0 [.ref (gb G + 103), .int (jI (h : Int)), .int (jI (a : Int))] n I (rst bk dr pt) (PI (key1 (fun s => I 105 (s : Int)) h a) n I (rst bk dr pt)) := by
  refine Ct.of [some (.ref (gb G + 103)), some (.int (jI (h : Int))), some (.int (jI (a : Int)))] (by decide) rfl rfl rfl ?_
  intro k SR
  have S : Sem G RX5 "keyOf" cX5_keyOf 3 (rmD 0 0 0) k := SR.sem
  refine r_ldc S kc_X5_87 dX5_keyOf_0 ?_
  refine r_aload_n S rfl dX5_keyOf_2 ?_
  refine r_getR S (o' := 105) fk_X5_15 dX5_keyOf_3 rfl rfl (Nat.lt_of_lt_of_le (by decide) hn) rfl ?_
  refine r_iload_n S rfl dX5_keyOf_6 ?_
  refine r_iald S (v := I 105 (a:Int)) dX5_keyOf_7 rfl rfl (Nat.lt_of_lt_of_le (by decide) hn) (by omega) (by omega) rfl ?_
  refine r_sipush S (by decide +kernel) dX5_keyOf_8 ?_
  refine r_imul S dX5_keyOf_11 ?_
  refine r_isub S dX5_keyOf_12 ?_
  refine r_sipush S (by decide +kernel) dX5_keyOf_13 ?_
  refine r_iload_n S rfl dX5_keyOf_16 ?_
  refine r_iconst S dX5_keyOf_17 ?_
  refine r_iadd S dX5_keyOf_18 ?_
  refine r_ishr S (v := ((2 ^ (7 - h) : Nat) : Int)) (shr_key ⟨h, h8⟩) dX5_keyOf_19 ?_
  refine r_iadd S dX5_keyOf_20 ?_
  refine r_iret SR dX5_keyOf_21 ⟨by decide, by decide⟩ ?_
  exact ⟨rfl, rfl, rfl, rfl⟩
theorem c_X5_setDue (hn : 109 ≤ n) {h : Nat} {d : Int} (h8 : h < 8) : Ct G yX5_setDue cX5_setDue 3 none 1 0 0 [.ref (gb G + 103), .int (jI (h : Int)), .int (jI d)] n I (rst bk dr pt) (PV n (up I 104 h d) (rst bk dr pt)) := by
  refine Ct.of [some (.ref (gb G + 103)), some (.int (jI (h : Int))), some (.int (jI d))] (by decide) rfl rfl rfl ?_
  intro k SR
  have S : Sem G RX5 "setDue" cX5_setDue 3 (rmD 1 0 0) k := SR.sem
  refine r_iload_n S rfl dX5_setDue_0 ?_
  refine r_iconst S dX5_setDue_1 ?_
  refine r_bipush S (by decide +kernel) dX5_setDue_2 ?_
  refine r_callS S lk_X5_34 mk_X11_isWithin (c_X11_isWithin G n I (rst bk dr pt) (by omega) (by decide) (by decide)) rfl rfl (Nat.le_of_ble_eq_true rfl) ⟨by decide, by decide⟩ rfl ⟨by decide, by decide⟩ dX5_setDue_4 ?_
  rintro _ _ _ _ ⟨rfl, rfl, rfl, rfl⟩
  refine r_ifb_eq S (tgt := 17) dX5_setDue_7 (by decide)  (fun c7 => ?_) (fun c7 => ?_)
  · exact absurd c7 (fun q => q (by omega))
  · refine r_aload_n S rfl dX5_setDue_10 ?_
    refine r_getR S (o' := 104) fk_X5_11 dX5_setDue_11 rfl rfl (Nat.lt_of_lt_of_le (by decide) hn) rfl ?_
    refine r_iload_n S rfl dX5_setDue_14 ?_
    refine r_iload_n S rfl dX5_setDue_15 ?_
    refine r_iast S dX5_setDue_16 rfl rfl (Nat.lt_of_lt_of_le (by decide) hn) (by omega) (by omega) ?_
    refine r_vret SR dX5_setDue_17 ⟨by decide, by decide⟩ ?_
    exact ⟨rfl, rfl, rfl, rfl⟩
theorem c_X5_rankNobodyBehind (hn : 109 ≤ n) {h : Nat} (h8 : h < 8) : Ct G yX5_rankNobodyBehind cX5_rankNobodyBehind 3 none 1 0 0 [.ref (gb G + 103), .int (jI (h : Int))] n I (rst bk dr pt) (fun v n' I' ρ' => v = none ∧ n = n' ∧ rst bk dr pt = ρ' ∧ (∀ o, o ≠ 107 → I' o = I o) ∧ ∀ s : Nat, s < 1024 → I' 107 (1024 * (h : Int) + s) = 0) := by
  refine Ct.of [some (.ref (gb G + 103)), some (.int (jI (h : Int))), none] (by decide) rfl rfl rfl ?_
  intro k SR
  have S : Sem G RX5 "rankNobodyBehind" cX5_rankNobodyBehind 3 (rmD 1 0 0) k := SR.sem
  have loop : ∀ (q s : Nat) (K : Iv), s + q = 1024 → (∀ o, o ≠ 107 → K o = I o) → (∀ t : Nat, t < s → K 107 (1024 * (h : Int) + t) = 0) → k 13 [some (.ref (gb G + 103)), some (.int (jI (h : Int))), some (.int (jI (s : Int)))] [] n K (rst bk dr pt) 0 0 := by
    intro q
    induction q with
    | zero =>
      intro s K hs hK hz
      refine r_iload_n S rfl dX5_rankNobodyBehind_13 ?_
      refine r_sipush S (by decide +kernel) dX5_rankNobodyBehind_14 ?_
      refine r_icmp_ge S (tgt := 39) dX5_rankNobodyBehind_17 (by decide) (by omega) (by omega) (fun c17 => ?_) (fun c17 => ?_)
      · refine r_vret SR dX5_rankNobodyBehind_39 ⟨by decide, by decide⟩ ?_
        exact ⟨rfl, rfl, rfl, hK, fun t ht => hz t (by omega)⟩
      · exact absurd c17 (by omega)
    | succ q ih =>
      intro s K hs hK hz
      refine r_iload_n S rfl dX5_rankNobodyBehind_13 ?_
      refine r_sipush S (by decide +kernel) dX5_rankNobodyBehind_14 ?_
      refine r_icmp_ge S (tgt := 39) dX5_rankNobodyBehind_17 (by decide) (by omega) (by omega) (fun c17 => ?_) (fun c17 => ?_)
      · exact absurd c17 (by omega)
      · refine r_aload_n S rfl dX5_rankNobodyBehind_20 ?_
        refine r_getR S (o' := 107) fk_X5_21 dX5_rankNobodyBehind_21 rfl rfl (Nat.lt_of_lt_of_le (by decide) hn) rfl ?_
        refine r_iload_n S rfl dX5_rankNobodyBehind_24 ?_
        refine r_sipush S (by decide +kernel) dX5_rankNobodyBehind_25 ?_
        refine r_imul S dX5_rankNobodyBehind_28 ?_
        refine r_iload_n S rfl dX5_rankNobodyBehind_29 ?_
        refine r_iadd S dX5_rankNobodyBehind_30 ?_
        refine r_iconst S dX5_rankNobodyBehind_31 ?_
        refine r_iast S dX5_rankNobodyBehind_32 rfl rfl (Nat.lt_of_lt_of_le (by decide) hn) (by omega) (by omega) ?_
        refine r_iinc S dX5_rankNobodyBehind_33 rfl rfl rfl ?_
        refine r_goto S (tgt := 13) dX5_rankNobodyBehind_36 (by decide) ?_
        have Q := ih (s + 1) (up K 107 ((h : Int) * 1024 + s) 0) (by omega) (fun o a => by rw [up_o a]; exact hK o a) (fun t ht => by rw [show 1024 * (h : Int) + t = (h : Int) * 1024 + t by omega]; by_cases e : t = s; rw [e, up_s]; rw [up_i (by omega), show (h : Int) * 1024 + t = 1024 * (h : Int) + t by omega]; exact hz t (by omega))
        rw [show ((s + 1 : Nat) : Int) = (s : Int) + 1 by omega] at Q
        exact Q
  refine r_iload_n S rfl dX5_rankNobodyBehind_0 ?_
  refine r_iconst S dX5_rankNobodyBehind_1 ?_
  refine r_bipush S (by decide +kernel) dX5_rankNobodyBehind_2 ?_
  refine r_callS S lk_X5_34 mk_X11_isWithin (c_X11_isWithin G n I (rst bk dr pt) (by omega) (by decide) (by decide)) rfl rfl (Nat.le_of_ble_eq_true rfl) ⟨by decide, by decide⟩ rfl ⟨by decide, by decide⟩ dX5_rankNobodyBehind_4 ?_
  rintro _ _ _ _ ⟨rfl, rfl, rfl, rfl⟩
  refine r_ifb_ne S (tgt := 11) dX5_rankNobodyBehind_7 (by decide)  (fun c7 => ?_) (fun c7 => ?_)
  · refine r_iconst S dX5_rankNobodyBehind_11 ?_
    refine r_istore_n S dX5_rankNobodyBehind_12 rfl rfl ?_
    exact loop 1024 0 I (by omega) (fun _ _ => rfl) (fun t ht => absurd ht (by omega))
  · exact absurd c7 (fun q => q (by omega))
end
