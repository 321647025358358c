theorem fkJ0_9 : Cond.fieldLink RJ0 9 "java/lang/String" "value" "[B" ∈ lw_tbl := (List.mem_of_getElem? (i := 1225) (by decide +kernel))
theorem fkJ0_15 : Cond.fieldLink RJ0 15 "java/lang/String" "coder" "B" ∈ lw_tbl := (List.mem_of_getElem? (i := 1226) (by decide +kernel))
theorem fkJ0_38 : Cond.fieldLink RJ0 38 "java/lang/String" "COMPACT_STRINGS" "Z" ∈ lw_tbl := (List.mem_of_getElem? (i := 504) (by decide +kernel))
theorem fkJ0_1053 : Cond.fieldLink RJ0 1053 "jdk/internal/util/Preconditions" "SIOOBE_FORMATTER" "Ljava/util/function/BiFunction;" ∈ lw_tbl := (List.mem_of_getElem? (i := 521) (by decide +kernel))
section
variable (G : GE) (n : Nat) (I : Iv) (ρ : Rv)
theorem c_coder {i : Nat} (hi : i < 7) : Ct G yJ0_coder_7d493 cJ0_coder_7d493 1 (some .byte) 0 0 0 [.ref (gK G i)] n I ρ (PI 0 n I ρ) := by
  refine Ct.of [some (.ref (gK G i))] (by decide) rfl rfl rfl ?_
  intro k SR
  have S : Sem G RJ0 "coder" cJ0_coder_7d493 1 (rmD 0 0 0) k := SR.sem
  refine r_getCS S fkJ0_38 dJ0_coder_7d493_0 ?_
  refine r_if_eq S (tgt := 13) dJ0_coder_7d493_3 (by decide) (by decide) (fun h => absurd h (by decide)) (fun _ => ?_)
  refine r_aload_n S rfl dJ0_coder_7d493_6 ?_
  refine r_getSc S hi fkJ0_15 dJ0_coder_7d493_7 ?_
  refine r_goto S (tgt := 14) dJ0_coder_7d493_10 (by decide) ?_
  exact r_nret SR dJ0_coder_7d493_14 rfl ⟨by decide, by decide⟩ ⟨rfl, rfl, rfl, rfl⟩
theorem c_isLatin1 {i : Nat} (hi : i < 7) : Ct G yJ0_isLatin1_aae02 cJ0_isLatin1_aae02 1 (some .boolean) 0 0 0 [.ref (gK G i)] n I ρ (PI 1 n I ρ) := by
  refine Ct.of [some (.ref (gK G i))] (by decide) rfl rfl rfl ?_
  intro k SR
  have S : Sem G RJ0 "isLatin1" cJ0_isLatin1_aae02 1 (rmD 0 0 0) k := SR.sem
  refine r_getCS S fkJ0_38 dJ0_isLatin1_aae02_0 ?_
  refine r_if_eq S (tgt := 17) dJ0_isLatin1_aae02_3 (by decide) (by decide) (fun h => absurd h (by decide)) (fun _ => ?_)
  refine r_aload_n S rfl dJ0_isLatin1_aae02_6 ?_
  refine r_getSc S hi fkJ0_15 dJ0_isLatin1_aae02_7 ?_
  refine r_if_ne S (tgt := 17) dJ0_isLatin1_aae02_10 (by decide) (by decide) (fun h => absurd rfl h) (fun _ => ?_)
  refine r_iconst S dJ0_isLatin1_aae02_13 ?_
  refine r_goto S (tgt := 18) dJ0_isLatin1_aae02_14 (by decide) ?_
  exact r_zret SR dJ0_isLatin1_aae02_18 (by decide) ⟨by decide, by decide⟩ ⟨rfl, rfl, rfl, rfl⟩
theorem c_length {i : Nat} (hi : i < 7) : Ct G yJ0_length_8abf5 cJ0_length_8abf5 1 (some .int) 1 0 0 [.ref (gK G i)] n I ρ (PI (sL.getD i 0 : Nat) n I ρ) := by
  refine Ct.of [some (.ref (gK G i))] (by decide) rfl rfl rfl ?_
  intro k SR
  have S : Sem G RJ0 "length" cJ0_length_8abf5 1 (rmD 1 0 0) k := SR.sem
  refine r_aload_n S rfl dJ0_length_8abf5_0 ?_
  refine r_getSv S hi fkJ0_9 dJ0_length_8abf5_1 ?_
  refine r_slen S hi dJ0_length_8abf5_4 ?_
  refine r_aload_n S rfl dJ0_length_8abf5_5 ?_
  refine r_callT S hi lk_J0_335 mk_J0_coder_7d493 rfl (c_coder G n I ρ hi) rfl rfl (Nat.le_of_ble_eq_true rfl) ⟨by decide, by decide⟩ rfl ⟨by decide, by decide⟩ dJ0_length_8abf5_6 ?_
  rintro _ _ _ _ ⟨rfl, rfl, rfl, rfl⟩
  refine r_ishr S (v := (sL.getD i 0 : Nat)) (sb_shr0 _) dJ0_length_8abf5_9 ?_
  exact r_iret SR dJ0_length_8abf5_10 ⟨by decide, by decide⟩ ⟨rfl, rfl, rfl, rfl⟩
theorem c_check3 {a b : Int} {v : Value} (hv : v.category = 1) (h0 : 0 ≤ a) (h1 : a < b) (h2 : b ≤ 2147483647) (hq : lv_args 0 [.int (jI a), .int (jI b), v] = [(0, .int (jI a)), (1, .int (jI b)), (2, v)]) (hq2 : Nat.ble (lg_sl [.int (jI a), .int (jI b), v]).length 3 = true) : Ct G yJ3_checkIndex_8e157 cJ3_checkIndex_8e157 3 (some .int) 0 0 0 [.int (jI a), .int (jI b), v] n I ρ (PI a n I ρ) := by
  refine Ct.of [some (.int (jI a)), some (.int (jI b)), some v] (by decide) hq.symm rfl hq2 ?_
  intro k SR
  have S : Sem G RJ3 "checkIndex" cJ3_checkIndex_8e157 3 (rmD 0 0 0) k := SR.sem
  refine r_iload_n S rfl dJ3_checkIndex_8e157_0 ?_
  refine r_if_lt S (tgt := 9) dJ3_checkIndex_8e157_1 (by decide) (by omega) (fun h => absurd h (by omega)) (fun _ => ?_)
  refine r_iload_n S rfl dJ3_checkIndex_8e157_4 ?_
  refine r_iload_n S rfl dJ3_checkIndex_8e157_5 ?_
  refine r_icmp_lt S (tgt := 16) dJ3_checkIndex_8e157_6 (by decide) (by omega) (by omega) (fun _ => ?_) (fun h => absurd h (by omega))
  refine r_iload_n S rfl dJ3_checkIndex_8e157_16 ?_
  exact r_iret SR dJ3_checkIndex_8e157_17 ⟨by decide, by decide⟩ ⟨rfl, rfl, rfl, rfl⟩
theorem c_check0 {a b : Int} (h0 : 0 ≤ a) (h1 : a < b) (h2 : b ≤ 2147483647) : Ct G yJ0_checkIndex_df160 cJ0_checkIndex_df160 2 none 1 0 0 [.int (jI a), .int (jI b)] n I ρ (PV n I ρ) := by
  refine Ct.of [some (.int (jI a)), some (.int (jI b))] (by decide) rfl rfl rfl ?_
  intro k SR
  have S : Sem G RJ0 "checkIndex" cJ0_checkIndex_df160 2 (rmD 1 0 0) k := SR.sem
  refine r_iload_n S rfl dJ0_checkIndex_df160_0 ?_
  refine r_iload_n S rfl dJ0_checkIndex_df160_1 ?_
  refine r_getSF S fkJ0_1053 dJ0_checkIndex_df160_2 (fun v hv => ?_)
  have C : Ct G yJ3_checkIndex_8e157 cJ3_checkIndex_8e157 3 (some .int) 0 0 0 [.int (jI a), .int (jI b), v] n I ρ (PI a n I ρ) := by
    rcases hv with rfl | ⟨t, rfl⟩
    · exact c_check3 G n I ρ rfl h0 h1 h2 rfl rfl
    · exact c_check3 G n I ρ rfl h0 h1 h2 rfl rfl
  refine r_callS S lk_J0_1059 mk_J3_checkIndex_8e157 C rfl rfl (Nat.le_of_ble_eq_true rfl) ⟨by decide, by decide⟩ rfl ⟨by decide, by decide⟩ dJ0_checkIndex_df160_5 ?_
  rintro _ _ _ _ ⟨rfl, rfl, rfl, rfl⟩
  refine r_pop S rfl dJ0_checkIndex_df160_8 ?_
  exact r_vret SR dJ0_checkIndex_df160_9 ⟨by decide, by decide⟩ ⟨rfl, rfl, rfl, rfl⟩
/-- the char at place j of string i -/
def sCh (i : Nat) (j : Int) : Int := ((sB.getD i []).getD j.toNat 0).toInt
theorem sCh_all : ∀ i, i < 7 → ∀ j, j < sL.getD i 0 → ((sB.getD i []).getD j 0 &&& jI 255 = (sB.getD i []).getD j 0 ∧ (((sB.getD i []).getD j 0).toUInt32 % 65536).toInt32 = (sB.getD i []).getD j 0 ∧ narrow .char (.int ((sB.getD i []).getD j 0)) = .int ((sB.getD i []).getD j 0) ∧ 0 ≤ ((sB.getD i []).getD j 0).toInt ∧ ((sB.getD i []).getD j 0).toInt ≤ 127) := by decide +kernel
theorem c_latinAt {i : Nat} (hi : i < 7) {j : Int} (h0 : 0 ≤ j) (h1 : j < (sL.getD i 0 : Nat)) : Ct G yJ1_charAt_3b067 cJ1_charAt_3b067 2 (some .char) 2 0 0 [.ref (gV G i), .int (jI j)] n I ρ (PI (sCh i j) n I ρ) := by
  refine Ct.of [some (.ref (gV G i)), some (.int (jI j))] (by decide) rfl rfl rfl ?_
  intro k SR
  have S : Sem G RJ1 "charAt" cJ1_charAt_3b067 2 (rmD 2 0 0) k := SR.sem
  have hlen : sL.getD i 0 ≤ 6 := by
    have : ∀ i, i < 7 → sL.getD i 0 ≤ 6 := by decide
    exact this i hi
  obtain ⟨q1, q2, q3, -⟩ := sCh_all i hi j.toNat (by omega)
  refine r_iload_n S rfl dJ1_charAt_3b067_0 ?_
  refine r_aload_n S rfl dJ1_charAt_3b067_1 ?_
  refine r_slen S hi dJ1_charAt_3b067_2 ?_
  refine r_callS S lk_J1_9 mk_J0_checkIndex_df160 (c_check0 G n I ρ h0 h1 (by omega)) rfl rfl (Nat.le_of_ble_eq_true rfl) ⟨by decide, by decide⟩ rfl ⟨by decide, by decide⟩ dJ1_charAt_3b067_3 ?_
  rintro _ _ _ _ ⟨rfl, rfl, rfl, rfl⟩
  refine r_aload_n S rfl dJ1_charAt_3b067_6 ?_
  refine r_iload_n S rfl dJ1_charAt_3b067_7 ?_
  refine r_sbald S hi h0 h1 dJ1_charAt_3b067_8 ?_
  refine r_sipush S (by decide +kernel) dJ1_charAt_3b067_9 ?_
  refine r_iandR S q1 dJ1_charAt_3b067_12 ?_
  refine r_i2c S q2 dJ1_charAt_3b067_13 ?_
  refine r_nret SR dJ1_charAt_3b067_14 q3 ⟨by decide, by decide⟩ ⟨?_, rfl, rfl, rfl⟩
  rw [sCh, jI_of]
theorem c_charAt {i : Nat} (hi : i < 7) {j : Int} (h0 : 0 ≤ j) (h1 : j < (sL.getD i 0 : Nat)) : Ct G yJ0_charAt_5068e cJ0_charAt_5068e 2 (some .char) 3 0 0 [.ref (gK G i), .int (jI j)] n I ρ (PI (sCh i j) n I ρ) := by
  refine Ct.of [some (.ref (gK G i)), some (.int (jI j))] (by decide) rfl rfl rfl ?_
  intro k SR
  have S : Sem G RJ0 "charAt" cJ0_charAt_5068e 2 (rmD 3 0 0) k := SR.sem
  obtain ⟨q1, q2, q3, -⟩ := sCh_all i hi j.toNat (by omega)
  refine r_aload_n S rfl dJ0_charAt_5068e_0 ?_
  refine r_callT S hi lk_J0_492 mk_J0_isLatin1_aae02 rfl (c_isLatin1 G n I ρ hi) rfl rfl (Nat.le_of_ble_eq_true rfl) ⟨by decide, by decide⟩ rfl ⟨by decide, by decide⟩ dJ0_charAt_5068e_1 ?_
  rintro _ _ _ _ ⟨rfl, rfl, rfl, rfl⟩
  refine r_if_eq S (tgt := 16) dJ0_charAt_5068e_4 (by decide) (by decide) (fun h => absurd h (by decide)) (fun _ => ?_)
  refine r_aload_n S rfl dJ0_charAt_5068e_7 ?_
  refine r_getSv S hi fkJ0_9 dJ0_charAt_5068e_8 ?_
  refine r_iload_n S rfl dJ0_charAt_5068e_11 ?_
  refine r_callS S lk_J0_495 mk_J1_charAt_3b067 (c_latinAt G n I ρ hi h0 h1) rfl rfl (Nat.le_of_ble_eq_true rfl) ⟨by decide, by decide⟩ rfl ⟨by decide, by decide⟩ dJ0_charAt_5068e_12 ?_
  rintro _ _ _ _ ⟨rfl, rfl, rfl, rfl⟩
  have e : (sB.getD i []).getD j.toNat 0 = jI (sCh i j) := by rw [sCh, jI_of]
  rw [e] at q3
  exact r_nret SR dJ0_charAt_5068e_15 q3 ⟨by decide, by decide⟩ ⟨rfl, rfl, rfl, rfl⟩
end
