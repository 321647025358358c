abbrev PI (r : Int) (n : Nat) (I : Iv) (ρ : Rv) : Pt5 := fun v n' I' ρ' => v = some (.int (jI r)) ∧ n = n' ∧ I = I' ∧ ρ = ρ'
abbrev PV (n : Nat) (I : Iv) (ρ : Rv) : Pt5 := fun v n' I' ρ' => v = none ∧ n = n' ∧ I = I' ∧ ρ = ρ'
section
variable (G : GE) (n : Nat) (I : Iv) (ρ : Rv)
theorem c_X12_isIn {a l h : Int} (ha : rg a) (hl : rg l) (hh : rg h) : Ct G yX12_isIn cX12_isIn 3 (some .boolean) 0 0 0 [.int (jI a), .int (jI l), .int (jI h)] n I ρ (PI (b2 (l ≤ a ∧ a ≤ h)) n I ρ) := by
  refine Ct.of [some (.int (jI a)), some (.int (jI l)), some (.int (jI h))] (by decide) rfl rfl rfl ?_
  intro k SR
  have S : Sem G RX12 "isIn" cX12_isIn 3 (rmD 0 0 0) k := SR.sem
  refine r_iload_n S rfl dX12_isIn_0 ?_
  refine r_iload_n S rfl dX12_isIn_1 ?_
  refine r_icmp_lt S (tgt := 14) dX12_isIn_2 (by decide) (by assumption) (by assumption) (fun c2 => ?_) (fun c2 => ?_)
  · refine r_iconst S dX12_isIn_14 ?_
    refine r_zret SR dX12_isIn_15 (by decide) ⟨by decide, by decide⟩ ?_
    refine ⟨?_, rfl, rfl, rfl⟩
    first | rw [b2_t (by omega)] | rw [b2_f (by omega)]
  · refine r_iload_n S rfl dX12_isIn_5 ?_
    refine r_iload_n S rfl dX12_isIn_6 ?_
    refine r_icmp_gt S (tgt := 14) dX12_isIn_7 (by decide) (by assumption) (by assumption) (fun c7 => ?_) (fun c7 => ?_)
    · refine r_iconst S dX12_isIn_14 ?_
      refine r_zret SR dX12_isIn_15 (by decide) ⟨by decide, by decide⟩ ?_
      refine ⟨?_, rfl, rfl, rfl⟩
      first | rw [b2_t (by omega)] | rw [b2_f (by omega)]
    · refine r_iconst S dX12_isIn_10 ?_
      refine r_goto S (tgt := 15) dX12_isIn_11 (by decide) ?_
      refine r_zret SR dX12_isIn_15 (by decide) ⟨by decide, by decide⟩ ?_
      refine ⟨?_, rfl, rfl, rfl⟩
      first | rw [b2_t (by omega)] | rw [b2_f (by omega)]
theorem c_X12_isVillage {a : Int} (ha : rg a) : Ct G yX12_isVillage cX12_isVillage 1 (some .boolean) 1 0 0 [.int (jI a)] n I ρ (PI (b2 (0 ≤ a ∧ a ≤ 3)) n I ρ) := by
  refine Ct.of [some (.int (jI a))] (by decide) rfl rfl rfl ?_
  intro k SR
  have S : Sem G RX12 "isVillage" cX12_isVillage 1 (rmD 1 0 0) k := SR.sem
  refine r_iload_n S rfl dX12_isVillage_0 ?_
  refine r_iconst S dX12_isVillage_1 ?_
  refine r_iconst S dX12_isVillage_2 ?_
  refine r_callS S lk_X12_105 mk_X12_isIn (c_X12_isIn G n I ρ ha (by decide) (by decide)) rfl rfl (Nat.le_of_ble_eq_true rfl) ⟨by decide, by decide⟩ rfl ⟨by decide, by decide⟩ dX12_isVillage_3 ?_
  rintro _ _ _ _ ⟨rfl, rfl, rfl, rfl⟩
  refine r_zret SR dX12_isVillage_6 (by first | exact b2_01 _ | omega) ⟨by decide, by decide⟩ ?_
  exact ⟨rfl, rfl, rfl, rfl⟩
end
