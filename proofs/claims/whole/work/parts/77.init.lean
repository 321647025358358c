/-! ===== the constructors ===== -/
/-- what all holds at first -/
def iv0 : Iv := fun o i => if o = 3 ∨ o = 75 then (if 0 ≤ i ∧ i < 4 then 50 else 0) else if o = 15 ∨ o = 74 then (if 0 ≤ i ∧ i < 36 then 1 else 0) else if (o = 16 ∧ i = 7) ∨ (o = 55 ∧ i = 1) ∨ (o = 72 ∧ i = 37) then -1 else 0
def filI (a b : Nat) (I : Iv) : Iv := fun o i => if a ≤ o ∧ o < b then iv0 o i else I o i
def fil (a b : Nat) (ρ : Rv) : Rv := fun o i => if a ≤ o ∧ o < b then rst 60 66 none o i else ρ o i
section
variable (G : GE) (I : Iv) (ρ : Rv)
theorem i_X2_51 : Ct G yX2_init cX2_init 1 none 1 1 10 [.ref (gb G + 51)] 52 (zr I 51) (zrR ρ 51) (PV 53 (filI 51 53 I) (fil 51 53 ρ)) := by
  refine Ct.of [some (.ref (gb G + 51))] (by decide) rfl rfl rfl ?_
  intro k SR
  have S : Sem G RX2 "<init>" cX2_init 1 (rmD 1 1 10) k := SR.sem
  refine r_aload_n S rfl dX2_init_0 ?_
  refine r_objI S lk_X2_3 ⟨rfl, rfl⟩ rfl dX2_init_1 oi_1 oi_2 ?_
  refine r_aload_n S rfl dX2_init_4 ?_
  refine r_iconst S dX2_init_5 ?_
  refine r_putI S fk_X2_9 dX2_init_6 rfl rfl (by decide) (Or.inr ⟨rfl, rfl⟩) (Or.inl rfl) ?_
  refine r_aload_n S rfl dX2_init_9 ?_
  refine r_bipush S (by decide +kernel) dX2_init_10 ?_
  refine r_newI S (N := 10) rfl dX2_init_12 rfl rfl ⟨Nat.le_of_ble_eq_true rfl, Nat.le_of_ble_eq_true rfl⟩ ?_
  refine r_putR S fk_X2_15 dX2_init_14 rfl rfl (by decide) (Or.inr ⟨rfl, rfl⟩) ?_
  refine k_conv S (I' := filI 51 53 I) (ρ' := fil 51 53 ρ) ?_ ?_
  · intro o ho
    rcases (by omega : o < 51 ∨ o = 51 ∨ o = 52) with h | rfl | rfl
    · exact cel_congr (by funext j; simp only [up, zr, filI]; repeat rw [if_neg (by omega)]) (by funext j; simp only [upR, zrR, fil]; repeat rw [if_neg (by omega)])
    · exact rfl
    · exact rfl
  refine r_vret SR dX2_init_17 ⟨Nat.le_of_ble_eq_true rfl, Nat.le_of_ble_eq_true rfl⟩ ?_
  exact ⟨rfl, rfl, rfl, rfl⟩
theorem i_X8_53 : Ct G yX8_init cX8_init 1 none 1 1 400 [.ref (gb G + 53)] 54 (zr I 53) (zrR ρ 53) (PV 55 (filI 53 55 I) (fil 53 55 ρ)) := by
  refine Ct.of [some (.ref (gb G + 53))] (by decide) rfl rfl rfl ?_
  intro k SR
  have S : Sem G RX8 "<init>" cX8_init 1 (rmD 1 1 400) k := SR.sem
  refine r_aload_n S rfl dX8_init_0 ?_
  refine r_objI S lk_X8_3 ⟨rfl, rfl⟩ rfl dX8_init_1 oi_1 oi_2 ?_
  refine r_aload_n S rfl dX8_init_4 ?_
  refine r_iconst S dX8_init_5 ?_
  refine r_putI S fk_X8_9 dX8_init_6 rfl rfl (by decide) (Or.inr ⟨rfl, rfl⟩) (Or.inl rfl) ?_
  refine r_aload_n S rfl dX8_init_9 ?_
  refine r_sipush S (by decide +kernel) dX8_init_10 ?_
  refine r_newI S (N := 400) rfl dX8_init_13 rfl rfl ⟨Nat.le_of_ble_eq_true rfl, Nat.le_of_ble_eq_true rfl⟩ ?_
  refine r_putR S fk_X8_15 dX8_init_15 rfl rfl (by decide) (Or.inr ⟨rfl, rfl⟩) ?_
  refine k_conv S (I' := filI 53 55 I) (ρ' := fil 53 55 ρ) ?_ ?_
  · intro o ho
    rcases (by omega : o < 53 ∨ o = 53 ∨ o = 54) with h | rfl | rfl
    · exact cel_congr (by funext j; simp only [up, zr, filI]; repeat rw [if_neg (by omega)]) (by funext j; simp only [upR, zrR, fil]; repeat rw [if_neg (by omega)])
    · exact rfl
    · exact rfl
  refine r_vret SR dX8_init_18 ⟨Nat.le_of_ble_eq_true rfl, Nat.le_of_ble_eq_true rfl⟩ ?_
  exact ⟨rfl, rfl, rfl, rfl⟩
theorem i_X9_56 : Ct G yX9_init cX9_init 1 none 1 2 802 [.ref (gb G + 56)] 57 (zr I 56) (zrR ρ 56) (PV 59 (filI 56 59 I) (fil 56 59 ρ)) := by
  refine Ct.of [some (.ref (gb G + 56))] (by decide) rfl rfl rfl ?_
  intro k SR
  have S : Sem G RX9 "<init>" cX9_init 1 (rmD 1 2 802) k := SR.sem
  refine r_aload_n S rfl dX9_init_0 ?_
  refine r_objI S lk_X9_3 ⟨rfl, rfl⟩ rfl dX9_init_1 oi_1 oi_2 ?_
  refine r_aload_n S rfl dX9_init_4 ?_
  refine r_iconst S dX9_init_5 ?_
  refine r_putI S fk_X9_9 dX9_init_6 rfl rfl (by decide) (Or.inr ⟨rfl, rfl⟩) (Or.inl rfl) ?_
  refine r_aload_n S rfl dX9_init_9 ?_
  refine r_iconst S dX9_init_10 ?_
  refine r_putI S fk_X9_15 dX9_init_11 rfl rfl (by decide) (Or.inr ⟨rfl, rfl⟩) (Or.inl rfl) ?_
  refine r_aload_n S rfl dX9_init_14 ?_
  refine r_sipush S (by decide +kernel) dX9_init_15 ?_
  refine r_newI S (N := 401) rfl dX9_init_18 rfl rfl ⟨Nat.le_of_ble_eq_true rfl, Nat.le_of_ble_eq_true rfl⟩ ?_
  refine r_putR S fk_X9_18 dX9_init_20 rfl rfl (by decide) (Or.inr ⟨rfl, rfl⟩) ?_
  refine r_aload_n S rfl dX9_init_23 ?_
  refine r_sipush S (by decide +kernel) dX9_init_24 ?_
  refine r_newI S (N := 401) rfl dX9_init_27 rfl rfl ⟨Nat.le_of_ble_eq_true rfl, Nat.le_of_ble_eq_true rfl⟩ ?_
  refine r_putR S fk_X9_22 dX9_init_29 rfl rfl (by decide) (Or.inr ⟨rfl, rfl⟩) ?_
  refine k_conv S (I' := filI 56 59 I) (ρ' := fil 56 59 ρ) ?_ ?_
  · intro o ho
    rcases (by omega : o < 56 ∨ o = 56 ∨ o = 57 ∨ o = 58) with h | rfl | rfl | rfl
    · exact cel_congr (by funext j; simp only [up, zr, filI]; repeat rw [if_neg (by omega)]) (by funext j; simp only [upR, zrR, fil]; repeat rw [if_neg (by omega)])
    · exact rfl
    · exact rfl
    · exact rfl
  refine r_vret SR dX9_init_32 ⟨Nat.le_of_ble_eq_true rfl, Nat.le_of_ble_eq_true rfl⟩ ?_
  exact ⟨rfl, rfl, rfl, rfl⟩
theorem i_X6_60 : Ct G yX6_init cX6_init 1 none 1 5 454 [.ref (gb G + 60)] 61 (zr I 60) (zrR ρ 60) (PV 66 (filI 60 66 I) (fil 60 66 ρ)) := by
  refine Ct.of [some (.ref (gb G + 60))] (by decide) rfl rfl rfl ?_
  intro k SR
  have S : Sem G RX6 "<init>" cX6_init 1 (rmD 1 5 454) k := SR.sem
  refine r_aload_n S rfl dX6_init_0 ?_
  refine r_objI S lk_X6_3 ⟨rfl, rfl⟩ rfl dX6_init_1 oi_1 oi_2 ?_
  refine r_aload_n S rfl dX6_init_4 ?_
  refine r_iconst S dX6_init_5 ?_
  refine r_putI S fk_X6_9 dX6_init_6 rfl rfl (by decide) (Or.inr ⟨rfl, rfl⟩) (Or.inl rfl) ?_
  refine r_aload_n S rfl dX6_init_9 ?_
  refine r_iconst S dX6_init_10 ?_
  refine r_putI S fk_X6_15 dX6_init_11 rfl rfl (by decide) (Or.inr ⟨rfl, rfl⟩) (Or.inl rfl) ?_
  refine r_aload_n S rfl dX6_init_14 ?_
  refine r_sipush S (by decide +kernel) dX6_init_15 ?_
  refine r_newI S (N := 400) rfl dX6_init_18 rfl rfl ⟨Nat.le_of_ble_eq_true rfl, Nat.le_of_ble_eq_true rfl⟩ ?_
  refine r_putR S fk_X6_18 dX6_init_20 rfl rfl (by decide) (Or.inr ⟨rfl, rfl⟩) ?_
  refine r_aload_n S rfl dX6_init_23 ?_
  refine r_bipush S (by decide +kernel) dX6_init_24 ?_
  refine r_newI S (N := 10) rfl dX6_init_26 rfl rfl ⟨Nat.le_of_ble_eq_true rfl, Nat.le_of_ble_eq_true rfl⟩ ?_
  refine r_putR S fk_X6_22 dX6_init_28 rfl rfl (by decide) (Or.inr ⟨rfl, rfl⟩) ?_
  refine r_aload_n S rfl dX6_init_31 ?_
  refine r_bipush S (by decide +kernel) dX6_init_32 ?_
  refine r_newI S (N := 10) rfl dX6_init_34 rfl rfl ⟨Nat.le_of_ble_eq_true rfl, Nat.le_of_ble_eq_true rfl⟩ ?_
  refine r_putR S fk_X6_25 dX6_init_36 rfl rfl (by decide) (Or.inr ⟨rfl, rfl⟩) ?_
  refine r_aload_n S rfl dX6_init_39 ?_
  refine r_bipush S (by decide +kernel) dX6_init_40 ?_
  refine r_newI S (N := 10) rfl dX6_init_42 rfl rfl ⟨Nat.le_of_ble_eq_true rfl, Nat.le_of_ble_eq_true rfl⟩ ?_
  refine r_putR S fk_X6_28 dX6_init_44 rfl rfl (by decide) (Or.inr ⟨rfl, rfl⟩) ?_
  refine r_aload_n S rfl dX6_init_47 ?_
  refine r_iconst S dX6_init_48 ?_
  refine r_putI S fk_X6_31 dX6_init_49 rfl rfl (by decide) (Or.inr ⟨rfl, rfl⟩) (Or.inl rfl) ?_
  refine r_aload_n S rfl dX6_init_52 ?_
  refine r_bipush S (by decide +kernel) dX6_init_53 ?_
  refine r_newI S (N := 24) rfl dX6_init_55 rfl rfl ⟨Nat.le_of_ble_eq_true rfl, Nat.le_of_ble_eq_true rfl⟩ ?_
  refine r_putR S fk_X6_34 dX6_init_57 rfl rfl (by decide) (Or.inr ⟨rfl, rfl⟩) ?_
  refine k_conv S (I' := filI 60 66 I) (ρ' := fil 60 66 ρ) ?_ ?_
  · intro o ho
    rcases (by omega : o < 60 ∨ o = 60 ∨ o = 61 ∨ o = 62 ∨ o = 63 ∨ o = 64 ∨ o = 65) with h | rfl | rfl | rfl | rfl | rfl | rfl
    · exact cel_congr (by funext j; simp only [up, zr, filI]; repeat rw [if_neg (by omega)]) (by funext j; simp only [upR, zrR, fil]; repeat rw [if_neg (by omega)])
    · exact rfl
    · exact rfl
    · exact rfl
    · exact rfl
    · exact rfl
    · exact rfl
  refine r_vret SR dX6_init_60 ⟨Nat.le_of_ble_eq_true rfl, Nat.le_of_ble_eq_true rfl⟩ ?_
  exact ⟨rfl, rfl, rfl, rfl⟩
theorem i_X6_66 : Ct G yX6_init cX6_init 1 none 1 5 454 [.ref (gb G + 66)] 67 (zr I 66) (zrR ρ 66) (PV 72 (filI 66 72 I) (fil 66 72 ρ)) := by
  refine Ct.of [some (.ref (gb G + 66))] (by decide) rfl rfl rfl ?_
  intro k SR
  have S : Sem G RX6 "<init>" cX6_init 1 (rmD 1 5 454) k := SR.sem
  refine r_aload_n S rfl dX6_init_0 ?_
  refine r_objI S lk_X6_3 ⟨rfl, rfl⟩ rfl dX6_init_1 oi_1 oi_2 ?_
  refine r_aload_n S rfl dX6_init_4 ?_
  refine r_iconst S dX6_init_5 ?_
  refine r_putI S fk_X6_9 dX6_init_6 rfl rfl (by decide) (Or.inr ⟨rfl, rfl⟩) (Or.inl rfl) ?_
  refine r_aload_n S rfl dX6_init_9 ?_
  refine r_iconst S dX6_init_10 ?_
  refine r_putI S fk_X6_15 dX6_init_11 rfl rfl (by decide) (Or.inr ⟨rfl, rfl⟩) (Or.inl rfl) ?_
  refine r_aload_n S rfl dX6_init_14 ?_
  refine r_sipush S (by decide +kernel) dX6_init_15 ?_
  refine r_newI S (N := 400) rfl dX6_init_18 rfl rfl ⟨Nat.le_of_ble_eq_true rfl, Nat.le_of_ble_eq_true rfl⟩ ?_
  refine r_putR S fk_X6_18 dX6_init_20 rfl rfl (by decide) (Or.inr ⟨rfl, rfl⟩) ?_
  refine r_aload_n S rfl dX6_init_23 ?_
  refine r_bipush S (by decide +kernel) dX6_init_24 ?_
  refine r_newI S (N := 10) rfl dX6_init_26 rfl rfl ⟨Nat.le_of_ble_eq_true rfl, Nat.le_of_ble_eq_true rfl⟩ ?_
  refine r_putR S fk_X6_22 dX6_init_28 rfl rfl (by decide) (Or.inr ⟨rfl, rfl⟩) ?_
  refine r_aload_n S rfl dX6_init_31 ?_
  refine r_bipush S (by decide +kernel) dX6_init_32 ?_
  refine r_newI S (N := 10) rfl dX6_init_34 rfl rfl ⟨Nat.le_of_ble_eq_true rfl, Nat.le_of_ble_eq_true rfl⟩ ?_
  refine r_putR S fk_X6_25 dX6_init_36 rfl rfl (by decide) (Or.inr ⟨rfl, rfl⟩) ?_
  refine r_aload_n S rfl dX6_init_39 ?_
  refine r_bipush S (by decide +kernel) dX6_init_40 ?_
  refine r_newI S (N := 10) rfl dX6_init_42 rfl rfl ⟨Nat.le_of_ble_eq_true rfl, Nat.le_of_ble_eq_true rfl⟩ ?_
  refine r_putR S fk_X6_28 dX6_init_44 rfl rfl (by decide) (Or.inr ⟨rfl, rfl⟩) ?_
  refine r_aload_n S rfl dX6_init_47 ?_
  refine r_iconst S dX6_init_48 ?_
  refine r_putI S fk_X6_31 dX6_init_49 rfl rfl (by decide) (Or.inr ⟨rfl, rfl⟩) (Or.inl rfl) ?_
  refine r_aload_n S rfl dX6_init_52 ?_
  refine r_bipush S (by decide +kernel) dX6_init_53 ?_
  refine r_newI S (N := 24) rfl dX6_init_55 rfl rfl ⟨Nat.le_of_ble_eq_true rfl, Nat.le_of_ble_eq_true rfl⟩ ?_
  refine r_putR S fk_X6_34 dX6_init_57 rfl rfl (by decide) (Or.inr ⟨rfl, rfl⟩) ?_
  refine k_conv S (I' := filI 66 72 I) (ρ' := fil 66 72 ρ) ?_ ?_
  · intro o ho
    rcases (by omega : o < 66 ∨ o = 66 ∨ o = 67 ∨ o = 68 ∨ o = 69 ∨ o = 70 ∨ o = 71) with h | rfl | rfl | rfl | rfl | rfl | rfl
    · exact cel_congr (by funext j; simp only [up, zr, filI]; repeat rw [if_neg (by omega)]) (by funext j; simp only [upR, zrR, fil]; repeat rw [if_neg (by omega)])
    · exact rfl
    · exact rfl
    · exact rfl
    · exact rfl
    · exact rfl
    · exact rfl
  refine r_vret SR dX6_init_60 ⟨Nat.le_of_ble_eq_true rfl, Nat.le_of_ble_eq_true rfl⟩ ?_
  exact ⟨rfl, rfl, rfl, rfl⟩
theorem i_X4_4 : Ct G yX4_init cX4_init 1 none 1 9 68 [.ref (gb G + 4)] 5 (zr I 4) (zrR ρ 4) (PV 14 (filI 4 14 I) (fil 4 14 ρ)) := by
  refine Ct.of [some (.ref (gb G + 4))] (by decide) rfl rfl rfl ?_
  intro k SR
  have S : Sem G RX4 "<init>" cX4_init 1 (rmD 1 9 68) k := SR.sem
  refine r_aload_n S rfl dX4_init_0 ?_
  refine r_objI S lk_X4_3 ⟨rfl, rfl⟩ rfl dX4_init_1 oi_1 oi_2 ?_
  refine r_aload_n S rfl dX4_init_4 ?_
  refine r_iconst S dX4_init_5 ?_
  refine r_putI S fk_X4_9 dX4_init_6 rfl rfl (by decide) (Or.inr ⟨rfl, rfl⟩) (Or.inl rfl) ?_
  refine r_aload_n S rfl dX4_init_9 ?_
  refine r_bipush S (by decide +kernel) dX4_init_10 ?_
  refine r_newI S (N := 8) rfl dX4_init_12 rfl rfl ⟨Nat.le_of_ble_eq_true rfl, Nat.le_of_ble_eq_true rfl⟩ ?_
  refine r_putR S fk_X4_15 dX4_init_14 rfl rfl (by decide) (Or.inr ⟨rfl, rfl⟩) ?_
  refine r_aload_n S rfl dX4_init_17 ?_
  refine r_bipush S (by decide +kernel) dX4_init_18 ?_
  refine r_newI S (N := 8) rfl dX4_init_20 rfl rfl ⟨Nat.le_of_ble_eq_true rfl, Nat.le_of_ble_eq_true rfl⟩ ?_
  refine r_putR S fk_X4_19 dX4_init_22 rfl rfl (by decide) (Or.inr ⟨rfl, rfl⟩) ?_
  refine r_aload_n S rfl dX4_init_25 ?_
  refine r_bipush S (by decide +kernel) dX4_init_26 ?_
  refine r_newI S (N := 8) rfl dX4_init_28 rfl rfl ⟨Nat.le_of_ble_eq_true rfl, Nat.le_of_ble_eq_true rfl⟩ ?_
  refine r_putR S fk_X4_22 dX4_init_30 rfl rfl (by decide) (Or.inr ⟨rfl, rfl⟩) ?_
  refine r_aload_n S rfl dX4_init_33 ?_
  refine r_bipush S (by decide +kernel) dX4_init_34 ?_
  refine r_newI S (N := 8) rfl dX4_init_36 rfl rfl ⟨Nat.le_of_ble_eq_true rfl, Nat.le_of_ble_eq_true rfl⟩ ?_
  refine r_putR S fk_X4_25 dX4_init_38 rfl rfl (by decide) (Or.inr ⟨rfl, rfl⟩) ?_
  refine r_aload_n S rfl dX4_init_41 ?_
  refine r_bipush S (by decide +kernel) dX4_init_42 ?_
  refine r_newI S (N := 8) rfl dX4_init_44 rfl rfl ⟨Nat.le_of_ble_eq_true rfl, Nat.le_of_ble_eq_true rfl⟩ ?_
  refine r_putR S fk_X4_28 dX4_init_46 rfl rfl (by decide) (Or.inr ⟨rfl, rfl⟩) ?_
  refine r_aload_n S rfl dX4_init_49 ?_
  refine r_bipush S (by decide +kernel) dX4_init_50 ?_
  refine r_newI S (N := 8) rfl dX4_init_52 rfl rfl ⟨Nat.le_of_ble_eq_true rfl, Nat.le_of_ble_eq_true rfl⟩ ?_
  refine r_putR S fk_X4_31 dX4_init_54 rfl rfl (by decide) (Or.inr ⟨rfl, rfl⟩) ?_
  refine r_aload_n S rfl dX4_init_57 ?_
  refine r_bipush S (by decide +kernel) dX4_init_58 ?_
  refine r_newZ S (N := 8) rfl dX4_init_60 rfl rfl ⟨Nat.le_of_ble_eq_true rfl, Nat.le_of_ble_eq_true rfl⟩ ?_
  refine r_putR S fk_X4_34 dX4_init_62 rfl rfl (by decide) (Or.inr ⟨rfl, rfl⟩) ?_
  refine r_aload_n S rfl dX4_init_65 ?_
  refine r_bipush S (by decide +kernel) dX4_init_66 ?_
  refine r_newI S (N := 8) rfl dX4_init_68 rfl rfl ⟨Nat.le_of_ble_eq_true rfl, Nat.le_of_ble_eq_true rfl⟩ ?_
  refine r_putR S fk_X4_38 dX4_init_70 rfl rfl (by decide) (Or.inr ⟨rfl, rfl⟩) ?_
  refine r_aload_n S rfl dX4_init_73 ?_
  refine r_iconst S dX4_init_74 ?_
  refine r_newI S (N := 4) rfl dX4_init_75 rfl rfl ⟨Nat.le_of_ble_eq_true rfl, Nat.le_of_ble_eq_true rfl⟩ ?_
  refine r_putR S fk_X4_43 dX4_init_77 rfl rfl (by decide) (Or.inr ⟨rfl, rfl⟩) ?_
  refine k_conv S (I' := filI 4 14 I) (ρ' := fil 4 14 ρ) ?_ ?_
  · intro o ho
    rcases (by omega : o < 4 ∨ o = 4 ∨ o = 5 ∨ o = 6 ∨ o = 7 ∨ o = 8 ∨ o = 9 ∨ o = 10 ∨ o = 11 ∨ o = 12 ∨ o = 13) with h | rfl | rfl | rfl | rfl | rfl | rfl | rfl | rfl | rfl | rfl
    · exact cel_congr (by funext j; simp only [up, zr, filI]; repeat rw [if_neg (by omega)]) (by funext j; simp only [upR, zrR, fil]; repeat rw [if_neg (by omega)])
    · exact rfl
    · exact rfl
    · exact rfl
    · exact rfl
    · exact rfl
    · exact rfl
    · exact rfl
    · exact rfl
    · exact rfl
    · exact rfl
  refine r_vret SR dX4_init_80 ⟨Nat.le_of_ble_eq_true rfl, Nat.le_of_ble_eq_true rfl⟩ ?_
  exact ⟨rfl, rfl, rfl, rfl⟩
theorem i_X5_103 : Ct G yX5_init cX5_init 1 none 1 5 10256 [.ref (gb G + 103)] 104 (zr I 103) (zrR ρ 103) (PV 109 (filI 103 109 I) (fil 103 109 ρ)) := by
  refine Ct.of [some (.ref (gb G + 103))] (by decide) rfl rfl rfl ?_
  intro k SR
  have S : Sem G RX5 "<init>" cX5_init 1 (rmD 1 5 10256) k := SR.sem
  refine r_aload_n S rfl dX5_init_0 ?_
  refine r_objI S lk_X5_5 ⟨rfl, rfl⟩ rfl dX5_init_1 oi_1 oi_2 ?_
  refine r_aload_n S rfl dX5_init_4 ?_
  refine r_bipush S (by decide +kernel) dX5_init_5 ?_
  refine r_newI S (N := 8) rfl dX5_init_7 rfl rfl ⟨Nat.le_of_ble_eq_true rfl, Nat.le_of_ble_eq_true rfl⟩ ?_
  refine r_putR S fk_X5_11 dX5_init_9 rfl rfl (by decide) (Or.inr ⟨rfl, rfl⟩) ?_
  refine r_aload_n S rfl dX5_init_12 ?_
  refine r_sipush S (by decide +kernel) dX5_init_13 ?_
  refine r_newI S (N := 1024) rfl dX5_init_16 rfl rfl ⟨Nat.le_of_ble_eq_true rfl, Nat.le_of_ble_eq_true rfl⟩ ?_
  refine r_putR S fk_X5_15 dX5_init_18 rfl rfl (by decide) (Or.inr ⟨rfl, rfl⟩) ?_
  refine r_aload_n S rfl dX5_init_21 ?_
  refine r_sipush S (by decide +kernel) dX5_init_22 ?_
  refine r_newI S (N := 1024) rfl dX5_init_25 rfl rfl ⟨Nat.le_of_ble_eq_true rfl, Nat.le_of_ble_eq_true rfl⟩ ?_
  refine r_putR S fk_X5_18 dX5_init_27 rfl rfl (by decide) (Or.inr ⟨rfl, rfl⟩) ?_
  refine r_aload_n S rfl dX5_init_30 ?_
  refine r_sipush S (by decide +kernel) dX5_init_31 ?_
  refine r_newI S (N := 8192) rfl dX5_init_34 rfl rfl ⟨Nat.le_of_ble_eq_true rfl, Nat.le_of_ble_eq_true rfl⟩ ?_
  refine r_putR S fk_X5_21 dX5_init_36 rfl rfl (by decide) (Or.inr ⟨rfl, rfl⟩) ?_
  refine r_aload_n S rfl dX5_init_39 ?_
  refine r_iconst S dX5_init_40 ?_
  refine r_putI S fk_X5_24 dX5_init_41 rfl rfl (by decide) (Or.inr ⟨rfl, rfl⟩) (Or.inl rfl) ?_
  refine r_aload_n S rfl dX5_init_44 ?_
  refine r_iconst S dX5_init_45 ?_
  refine r_putI S fk_X5_28 dX5_init_46 rfl rfl (by decide) (Or.inr ⟨rfl, rfl⟩) (Or.inl rfl) ?_
  refine r_aload_n S rfl dX5_init_49 ?_
  refine r_bipush S (by decide +kernel) dX5_init_50 ?_
  refine r_newI S (N := 8) rfl dX5_init_52 rfl rfl ⟨Nat.le_of_ble_eq_true rfl, Nat.le_of_ble_eq_true rfl⟩ ?_
  refine r_putR S fk_X5_31 dX5_init_54 rfl rfl (by decide) (Or.inr ⟨rfl, rfl⟩) ?_
  refine k_conv S (I' := filI 103 109 I) (ρ' := fil 103 109 ρ) ?_ ?_
  · intro o ho
    rcases (by omega : o < 103 ∨ o = 103 ∨ o = 104 ∨ o = 105 ∨ o = 106 ∨ o = 107 ∨ o = 108) with h | rfl | rfl | rfl | rfl | rfl | rfl
    · exact cel_congr (by funext j; simp only [up, zr, filI]; repeat rw [if_neg (by omega)]) (by funext j; simp only [upR, zrR, fil]; repeat rw [if_neg (by omega)])
    · exact rfl
    · exact rfl
    · exact rfl
    · exact rfl
    · exact rfl
    · exact rfl
  refine r_vret SR dX5_init_57 ⟨Nat.le_of_ble_eq_true rfl, Nat.le_of_ble_eq_true rfl⟩ ?_
  exact ⟨rfl, rfl, rfl, rfl⟩
theorem i_X0_14 : Ct G yX0_init cX0_init 2 none 1 1 36 [.ref (gb G + 14)] 15 (zr I 14) (zrR ρ 14) (PV 16 (filI 14 16 I) (fil 14 16 ρ)) := by
  refine Ct.of [some (.ref (gb G + 14)), none] (by decide) rfl rfl rfl ?_
  intro k SR
  have S : Sem G RX0 "<init>" cX0_init 2 (rmD 1 1 36) k := SR.sem
  have fin : ∀ (K : Iv) (x1 : Option Value), (∀ o, o ≠ 15 → K o = filI 14 16 I o) → (∀ j : Int, K 15 j = if 0 ≤ j ∧ j < 36 then 1 else 0) → k 33 [some (.ref (gb G + 14)), x1] [] 16 K (fil 14 16 ρ) 1 36 := by
    intro K x1 hK h15
    refine r_vret SR dX0_init_33 ⟨Nat.le_of_ble_eq_true rfl, Nat.le_of_ble_eq_true rfl⟩ ?_
    refine ⟨rfl, rfl, ?_, rfl⟩
    funext o
    by_cases e15 : o = 15
    · rw [e15]
      funext j
      rw [h15 j]
      rfl
    exact (hK o e15).symm
  have loop15 : ∀ (q m : Nat) (K : Iv), m + q = 36 → (∀ o, o ≠ 15 → K o = filI 14 16 I o) → (∀ j : Int, K 15 j = if 0 ≤ j ∧ j < m then 1 else 0) → k 14 [some (.ref (gb G + 14)), some (.int (jI (m : Int)))] [] 16 K (fil 14 16 ρ) 1 36 := by
    intro q
    induction q with
    | zero =>
      intro m K hm hK h15
      have em : m = 36 := by omega
      rw [em] at h15 ⊢
      refine r_iload_n S rfl dX0_init_14 ?_
      refine r_bipush S (by decide +kernel) dX0_init_15 ?_
      refine r_icmp_ge S (tgt := 33) dX0_init_17 (by decide) (by decide) (by decide) (fun c17 => ?_) (fun c17 => ?_)
      · exact fin K _ hK h15
      · exact absurd c17 (by decide)
    | succ q ih =>
      intro m K hm hK h15
      refine r_iload_n S rfl dX0_init_14 ?_
      refine r_bipush S (by decide +kernel) dX0_init_15 ?_
      refine r_icmp_ge S (tgt := 33) dX0_init_17 (by decide) (by omega) (by omega) (fun c17 => ?_) (fun c17 => ?_)
      · exact absurd c17 (by omega)
      · refine r_aload_n S rfl dX0_init_20 ?_
        refine r_getR S (o' := 15) fk_X0_9 dX0_init_21 rfl rfl (by decide) rfl ?_
        refine r_iload_n S rfl dX0_init_24 ?_
        refine r_iconst S dX0_init_25 ?_
        refine r_iast S dX0_init_26 rfl rfl (by decide) (by omega) (by omega) ?_
        refine r_iinc S dX0_init_27 rfl rfl rfl ?_
        refine r_goto S (tgt := 14) dX0_init_30 (by decide) ?_
        have Q := ih (m + 1) (up K 15 m 1) (by omega) (fun o e15 => by rw [up_o e15]; exact hK o e15) (fun j => ?_)
        · rw [show ((m + 1 : Nat) : Int) = (m : Int) + 1 by omega] at Q
          exact Q
        · by_cases e : j = m
          · rw [e, up_s, if_pos (by omega)]
          · rw [up_i e, h15 j]
            by_cases c : 0 ≤ j ∧ j < m
            · rw [if_pos c, if_pos (by omega)]
            · rw [if_neg c, if_neg (by omega)]
  refine r_aload_n S rfl dX0_init_0 ?_
  refine r_objI S lk_X0_3 ⟨rfl, rfl⟩ rfl dX0_init_1 oi_1 oi_2 ?_
  refine r_aload_n S rfl dX0_init_4 ?_
  refine r_bipush S (by decide +kernel) dX0_init_5 ?_
  refine r_newI S (N := 36) rfl dX0_init_7 rfl rfl ⟨Nat.le_of_ble_eq_true rfl, Nat.le_of_ble_eq_true rfl⟩ ?_
  refine r_putR S fk_X0_9 dX0_init_9 rfl rfl (by decide) (Or.inr ⟨rfl, rfl⟩) ?_
  refine k_conv S (I' := zr (filI 14 16 I) 15) (ρ' := fil 14 16 ρ) ?_ ?_
  · intro o ho
    rcases (by omega : o < 14 ∨ o = 14 ∨ o = 15) with h | rfl | rfl
    · exact cel_congr (by funext j; simp only [up, zr, filI]; repeat rw [if_neg (by omega)]) (by funext j; simp only [upR, zrR, fil]; repeat rw [if_neg (by omega)])
    · exact rfl
    · exact rfl
  refine r_iconst S dX0_init_12 ?_
  refine r_istore_n S dX0_init_13 rfl rfl ?_
  exact loop15 36 0 _ (by omega) (fun o e15 => by rw [zr_o e15])  (fun j => by rw [zr_s, if_neg (by omega)])
theorem i_X3_1 : Ct G yX3_init cX3_init 2 none 1 2 40 [.ref (gb G + 1)] 2 (zr I 1) (zrR ρ 1) (PV 4 (filI 1 4 I) (fil 1 4 ρ)) := by
  refine Ct.of [some (.ref (gb G + 1)), none] (by decide) rfl rfl rfl ?_
  intro k SR
  have S : Sem G RX3 "<init>" cX3_init 2 (rmD 1 2 40) k := SR.sem
  have fin : ∀ (K : Iv) (x1 : Option Value), (∀ o, o ≠ 3 → K o = filI 1 4 I o) → (∀ j : Int, K 3 j = if 0 ≤ j ∧ j < 4 then 50 else 0) → k 40 [some (.ref (gb G + 1)), x1] [] 4 K (fil 1 4 ρ) 2 40 := by
    intro K x1 hK h3
    refine r_vret SR dX3_init_40 ⟨Nat.le_of_ble_eq_true rfl, Nat.le_of_ble_eq_true rfl⟩ ?_
    refine ⟨rfl, rfl, ?_, rfl⟩
    funext o
    by_cases e3 : o = 3
    · rw [e3]
      funext j
      rw [h3 j]
      rfl
    exact (hK o e3).symm
  have loop3 : ∀ (q m : Nat) (K : Iv), m + q = 4 → (∀ o, o ≠ 3 → K o = filI 1 4 I o) → (∀ j : Int, K 3 j = if 0 ≤ j ∧ j < m then 50 else 0) → k 21 [some (.ref (gb G + 1)), some (.int (jI (m : Int)))] [] 4 K (fil 1 4 ρ) 2 40 := by
    intro q
    induction q with
    | zero =>
      intro m K hm hK h3
      have em : m = 4 := by omega
      rw [em] at h3 ⊢
      refine r_iload_n S rfl dX3_init_21 ?_
      refine r_iconst S dX3_init_22 ?_
      refine r_icmp_ge S (tgt := 40) dX3_init_23 (by decide) (by decide) (by decide) (fun c23 => ?_) (fun c23 => ?_)
      · exact fin K _ hK h3
      · exact absurd c23 (by decide)
    | succ q ih =>
      intro m K hm hK h3
      refine r_iload_n S rfl dX3_init_21 ?_
      refine r_iconst S dX3_init_22 ?_
      refine r_icmp_ge S (tgt := 40) dX3_init_23 (by decide) (by omega) (by omega) (fun c23 => ?_) (fun c23 => ?_)
      · exact absurd c23 (by omega)
      · refine r_aload_n S rfl dX3_init_26 ?_
        refine r_getR S (o' := 3) fk_X3_15 dX3_init_27 rfl rfl (by decide) rfl ?_
        refine r_iload_n S rfl dX3_init_30 ?_
        refine r_bipush S (by decide +kernel) dX3_init_31 ?_
        refine r_iast S dX3_init_33 rfl rfl (by decide) (by omega) (by omega) ?_
        refine r_iinc S dX3_init_34 rfl rfl rfl ?_
        refine r_goto S (tgt := 21) dX3_init_37 (by decide) ?_
        have Q := ih (m + 1) (up K 3 m 50) (by omega) (fun o e3 => by rw [up_o e3]; exact hK o e3) (fun j => ?_)
        · rw [show ((m + 1 : Nat) : Int) = (m : Int) + 1 by omega] at Q
          exact Q
        · by_cases e : j = m
          · rw [e, up_s, if_pos (by omega)]
          · rw [up_i e, h3 j]
            by_cases c : 0 ≤ j ∧ j < m
            · rw [if_pos c, if_pos (by omega)]
            · rw [if_neg c, if_neg (by omega)]
  refine r_aload_n S rfl dX3_init_0 ?_
  refine r_objI S lk_X3_3 ⟨rfl, rfl⟩ rfl dX3_init_1 oi_1 oi_2 ?_
  refine r_aload_n S rfl dX3_init_4 ?_
  refine r_bipush S (by decide +kernel) dX3_init_5 ?_
  refine r_newI S (N := 36) rfl dX3_init_7 rfl rfl ⟨Nat.le_of_ble_eq_true rfl, Nat.le_of_ble_eq_true rfl⟩ ?_
  refine r_putR S fk_X3_9 dX3_init_9 rfl rfl (by decide) (Or.inr ⟨rfl, rfl⟩) ?_
  refine r_aload_n S rfl dX3_init_12 ?_
  refine r_iconst S dX3_init_13 ?_
  refine r_newI S (N := 4) rfl dX3_init_14 rfl rfl ⟨Nat.le_of_ble_eq_true rfl, Nat.le_of_ble_eq_true rfl⟩ ?_
  refine r_putR S fk_X3_15 dX3_init_16 rfl rfl (by decide) (Or.inr ⟨rfl, rfl⟩) ?_
  refine k_conv S (I' := zr (filI 1 4 I) 3) (ρ' := fil 1 4 ρ) ?_ ?_
  · intro o ho
    rcases (by omega : o < 1 ∨ o = 1 ∨ o = 2 ∨ o = 3) with h | rfl | rfl | rfl
    · exact cel_congr (by funext j; simp only [up, zr, filI]; repeat rw [if_neg (by omega)]) (by funext j; simp only [upR, zrR, fil]; repeat rw [if_neg (by omega)])
    · exact rfl
    · exact rfl
    · exact rfl
  refine r_iconst S dX3_init_19 ?_
  refine r_istore_n S dX3_init_20 rfl rfl ?_
  exact loop3 4 0 _ (by omega) (fun o e3 => by rw [zr_o e3])  (fun j => by rw [zr_s, if_neg (by omega)])
theorem i_X12_72 : Ct G yX12_init cX12_init 2 none 1 30 13013 [.ref (gb G + 72)] 73 (zr I 72) (zrR ρ 72) (PV 103 (filI 72 103 I) (fil 72 103 ρ)) := by
  refine Ct.of [some (.ref (gb G + 72)), none] (by decide) rfl rfl rfl ?_
  intro k SR
  have S : Sem G RX12 "<init>" cX12_init 2 (rmD 1 30 13013) k := SR.sem
  have fin : ∀ (K : Iv) (x1 : Option Value), (∀ o, o ≠ 74 → o ≠ 75 → K o = filI 72 103 I o) → (∀ j : Int, K 74 j = if 0 ≤ j ∧ j < 36 then 1 else 0) → (∀ j : Int, K 75 j = if 0 ≤ j ∧ j < 4 then 50 else 0) → k 296 [some (.ref (gb G + 72)), x1] [] 103 K (fil 72 103 ρ) 30 13013 := by
    intro K x1 hK h74 h75
    refine r_vret SR dX12_init_296 ⟨Nat.le_of_ble_eq_true rfl, Nat.le_of_ble_eq_true rfl⟩ ?_
    refine ⟨rfl, rfl, ?_, rfl⟩
    funext o
    by_cases e74 : o = 74
    · rw [e74]
      funext j
      rw [h74 j]
      rfl
    by_cases e75 : o = 75
    · rw [e75]
      funext j
      rw [h75 j]
      rfl
    exact (hK o e74 e75).symm
  have loop75 : ∀ (q m : Nat) (K : Iv), m + q = 4 → (∀ o, o ≠ 74 → o ≠ 75 → K o = filI 72 103 I o) → (∀ j : Int, K 74 j = if 0 ≤ j ∧ j < 36 then 1 else 0) → (∀ j : Int, K 75 j = if 0 ≤ j ∧ j < m then 50 else 0) → k 277 [some (.ref (gb G + 72)), some (.int (jI (m : Int)))] [] 103 K (fil 72 103 ρ) 30 13013 := by
    intro q
    induction q with
    | zero =>
      intro m K hm hK h74 h75
      have em : m = 4 := by omega
      rw [em] at h75 ⊢
      refine r_iload_n S rfl dX12_init_277 ?_
      refine r_iconst S dX12_init_278 ?_
      refine r_icmp_ge S (tgt := 296) dX12_init_279 (by decide) (by decide) (by decide) (fun c279 => ?_) (fun c279 => ?_)
      · exact fin K _ hK h74 h75
      · exact absurd c279 (by decide)
    | succ q ih =>
      intro m K hm hK h74 h75
      refine r_iload_n S rfl dX12_init_277 ?_
      refine r_iconst S dX12_init_278 ?_
      refine r_icmp_ge S (tgt := 296) dX12_init_279 (by decide) (by omega) (by omega) (fun c279 => ?_) (fun c279 => ?_)
      · exact absurd c279 (by omega)
      · refine r_aload_n S rfl dX12_init_282 ?_
        refine r_getR S (o' := 75) fk_X12_16 dX12_init_283 rfl rfl (by decide) rfl ?_
        refine r_iload_n S rfl dX12_init_286 ?_
        refine r_bipush S (by decide +kernel) dX12_init_287 ?_
        refine r_iast S dX12_init_289 rfl rfl (by decide) (by omega) (by omega) ?_
        refine r_iinc S dX12_init_290 rfl rfl rfl ?_
        refine r_goto S (tgt := 277) dX12_init_293 (by decide) ?_
        have Q := ih (m + 1) (up K 75 m 50) (by omega) (fun o e74 e75 => by rw [up_o e75]; exact hK o e74 e75) (fun j => by rw [up_o (by decide)]; exact h74 j) (fun j => ?_)
        · rw [show ((m + 1 : Nat) : Int) = (m : Int) + 1 by omega] at Q
          exact Q
        · by_cases e : j = m
          · rw [e, up_s, if_pos (by omega)]
          · rw [up_i e, h75 j]
            by_cases c : 0 ≤ j ∧ j < m
            · rw [if_pos c, if_pos (by omega)]
            · rw [if_neg c, if_neg (by omega)]
  have loop74 : ∀ (q m : Nat) (K : Iv), m + q = 36 → (∀ o, o ≠ 74 → o ≠ 75 → K o = filI 72 103 I o) → (∀ j : Int, K 75 j = 0) → (∀ j : Int, K 74 j = if 0 ≤ j ∧ j < m then 1 else 0) → k 256 [some (.ref (gb G + 72)), some (.int (jI (m : Int)))] [] 103 K (fil 72 103 ρ) 30 13013 := by
    intro q
    induction q with
    | zero =>
      intro m K hm hK h75 h74
      have em : m = 36 := by omega
      rw [em] at h74 ⊢
      refine r_iload_n S rfl dX12_init_256 ?_
      refine r_bipush S (by decide +kernel) dX12_init_257 ?_
      refine r_icmp_ge S (tgt := 275) dX12_init_259 (by decide) (by decide) (by decide) (fun c259 => ?_) (fun c259 => ?_)
      · refine r_iconst S dX12_init_275 ?_
        refine r_istore_n S dX12_init_276 rfl rfl ?_
        exact loop75 4 0 K (by omega) hK h74 (fun j => by rw [h75 j, if_neg (by omega)])
      · exact absurd c259 (by decide)
    | succ q ih =>
      intro m K hm hK h75 h74
      refine r_iload_n S rfl dX12_init_256 ?_
      refine r_bipush S (by decide +kernel) dX12_init_257 ?_
      refine r_icmp_ge S (tgt := 275) dX12_init_259 (by decide) (by omega) (by omega) (fun c259 => ?_) (fun c259 => ?_)
      · exact absurd c259 (by omega)
      · refine r_aload_n S rfl dX12_init_262 ?_
        refine r_getR S (o' := 74) fk_X12_13 dX12_init_263 rfl rfl (by decide) rfl ?_
        refine r_iload_n S rfl dX12_init_266 ?_
        refine r_iconst S dX12_init_267 ?_
        refine r_iast S dX12_init_268 rfl rfl (by decide) (by omega) (by omega) ?_
        refine r_iinc S dX12_init_269 rfl rfl rfl ?_
        refine r_goto S (tgt := 256) dX12_init_272 (by decide) ?_
        have Q := ih (m + 1) (up K 74 m 1) (by omega) (fun o e74 e75 => by rw [up_o e74]; exact hK o e74 e75) (fun j => by rw [up_o (by decide)]; exact h75 j) (fun j => ?_)
        · rw [show ((m + 1 : Nat) : Int) = (m : Int) + 1 by omega] at Q
          exact Q
        · by_cases e : j = m
          · rw [e, up_s, if_pos (by omega)]
          · rw [up_i e, h74 j]
            by_cases c : 0 ≤ j ∧ j < m
            · rw [if_pos c, if_pos (by omega)]
            · rw [if_neg c, if_neg (by omega)]
  refine r_aload_n S rfl dX12_init_0 ?_
  refine r_objI S lk_X12_1 ⟨rfl, rfl⟩ rfl dX12_init_1 oi_1 oi_2 ?_
  refine r_aload_n S rfl dX12_init_4 ?_
  refine r_bipush S (by decide +kernel) dX12_init_5 ?_
  refine r_newI S (N := 36) rfl dX12_init_7 rfl rfl ⟨Nat.le_of_ble_eq_true rfl, Nat.le_of_ble_eq_true rfl⟩ ?_
  refine r_putR S fk_X12_7 dX12_init_9 rfl rfl (by decide) (Or.inr ⟨rfl, rfl⟩) ?_
  refine r_aload_n S rfl dX12_init_12 ?_
  refine r_bipush S (by decide +kernel) dX12_init_13 ?_
  refine r_newI S (N := 36) rfl dX12_init_15 rfl rfl ⟨Nat.le_of_ble_eq_true rfl, Nat.le_of_ble_eq_true rfl⟩ ?_
  refine r_putR S fk_X12_13 dX12_init_17 rfl rfl (by decide) (Or.inr ⟨rfl, rfl⟩) ?_
  refine r_aload_n S rfl dX12_init_20 ?_
  refine r_iconst S dX12_init_21 ?_
  refine r_newI S (N := 4) rfl dX12_init_22 rfl rfl ⟨Nat.le_of_ble_eq_true rfl, Nat.le_of_ble_eq_true rfl⟩ ?_
  refine r_putR S fk_X12_16 dX12_init_24 rfl rfl (by decide) (Or.inr ⟨rfl, rfl⟩) ?_
  refine r_aload_n S rfl dX12_init_27 ?_
  refine r_bipush S (by decide +kernel) dX12_init_28 ?_
  refine r_newI S (N := 8) rfl dX12_init_30 rfl rfl ⟨Nat.le_of_ble_eq_true rfl, Nat.le_of_ble_eq_true rfl⟩ ?_
  refine r_putR S fk_X12_19 dX12_init_32 rfl rfl (by decide) (Or.inr ⟨rfl, rfl⟩) ?_
  refine r_aload_n S rfl dX12_init_35 ?_
  refine r_bipush S (by decide +kernel) dX12_init_36 ?_
  refine r_newI S (N := 8) rfl dX12_init_38 rfl rfl ⟨Nat.le_of_ble_eq_true rfl, Nat.le_of_ble_eq_true rfl⟩ ?_
  refine r_putR S fk_X12_22 dX12_init_40 rfl rfl (by decide) (Or.inr ⟨rfl, rfl⟩) ?_
  refine r_aload_n S rfl dX12_init_43 ?_
  refine r_bipush S (by decide +kernel) dX12_init_44 ?_
  refine r_newI S (N := 8) rfl dX12_init_46 rfl rfl ⟨Nat.le_of_ble_eq_true rfl, Nat.le_of_ble_eq_true rfl⟩ ?_
  refine r_putR S fk_X12_25 dX12_init_48 rfl rfl (by decide) (Or.inr ⟨rfl, rfl⟩) ?_
  refine r_aload_n S rfl dX12_init_51 ?_
  refine r_bipush S (by decide +kernel) dX12_init_52 ?_
  refine r_newI S (N := 8) rfl dX12_init_54 rfl rfl ⟨Nat.le_of_ble_eq_true rfl, Nat.le_of_ble_eq_true rfl⟩ ?_
  refine r_putR S fk_X12_28 dX12_init_56 rfl rfl (by decide) (Or.inr ⟨rfl, rfl⟩) ?_
  refine r_aload_n S rfl dX12_init_59 ?_
  refine r_bipush S (by decide +kernel) dX12_init_60 ?_
  refine r_newI S (N := 8) rfl dX12_init_62 rfl rfl ⟨Nat.le_of_ble_eq_true rfl, Nat.le_of_ble_eq_true rfl⟩ ?_
  refine r_putR S fk_X12_31 dX12_init_64 rfl rfl (by decide) (Or.inr ⟨rfl, rfl⟩) ?_
  refine r_aload_n S rfl dX12_init_67 ?_
  refine r_bipush S (by decide +kernel) dX12_init_68 ?_
  refine r_newI S (N := 64) rfl dX12_init_70 rfl rfl ⟨Nat.le_of_ble_eq_true rfl, Nat.le_of_ble_eq_true rfl⟩ ?_
  refine r_putR S fk_X12_34 dX12_init_72 rfl rfl (by decide) (Or.inr ⟨rfl, rfl⟩) ?_
  refine r_aload_n S rfl dX12_init_75 ?_
  refine r_bipush S (by decide +kernel) dX12_init_76 ?_
  refine r_newI S (N := 8) rfl dX12_init_78 rfl rfl ⟨Nat.le_of_ble_eq_true rfl, Nat.le_of_ble_eq_true rfl⟩ ?_
  refine r_putR S fk_X12_37 dX12_init_80 rfl rfl (by decide) (Or.inr ⟨rfl, rfl⟩) ?_
  refine r_aload_n S rfl dX12_init_83 ?_
  refine r_bipush S (by decide +kernel) dX12_init_84 ?_
  refine r_newI S (N := 8) rfl dX12_init_86 rfl rfl ⟨Nat.le_of_ble_eq_true rfl, Nat.le_of_ble_eq_true rfl⟩ ?_
  refine r_putR S fk_X12_40 dX12_init_88 rfl rfl (by decide) (Or.inr ⟨rfl, rfl⟩) ?_
  refine r_aload_n S rfl dX12_init_91 ?_
  refine r_bipush S (by decide +kernel) dX12_init_92 ?_
  refine r_newI S (N := 10) rfl dX12_init_94 rfl rfl ⟨Nat.le_of_ble_eq_true rfl, Nat.le_of_ble_eq_true rfl⟩ ?_
  refine r_putR S fk_X12_43 dX12_init_96 rfl rfl (by decide) (Or.inr ⟨rfl, rfl⟩) ?_
  refine r_aload_n S rfl dX12_init_99 ?_
  refine r_bipush S (by decide +kernel) dX12_init_100 ?_
  refine r_newZ S (N := 8) rfl dX12_init_102 rfl rfl ⟨Nat.le_of_ble_eq_true rfl, Nat.le_of_ble_eq_true rfl⟩ ?_
  refine r_putR S fk_X12_46 dX12_init_104 rfl rfl (by decide) (Or.inr ⟨rfl, rfl⟩) ?_
  refine r_aload_n S rfl dX12_init_107 ?_
  refine r_bipush S (by decide +kernel) dX12_init_108 ?_
  refine r_newI S (N := 11) rfl dX12_init_110 rfl rfl ⟨Nat.le_of_ble_eq_true rfl, Nat.le_of_ble_eq_true rfl⟩ ?_
  refine r_putR S fk_X12_50 dX12_init_112 rfl rfl (by decide) (Or.inr ⟨rfl, rfl⟩) ?_
  refine r_aload_n S rfl dX12_init_115 ?_
  refine r_bipush S (by decide +kernel) dX12_init_116 ?_
  refine r_newI S (N := 10) rfl dX12_init_118 rfl rfl ⟨Nat.le_of_ble_eq_true rfl, Nat.le_of_ble_eq_true rfl⟩ ?_
  refine r_putR S fk_X12_53 dX12_init_120 rfl rfl (by decide) (Or.inr ⟨rfl, rfl⟩) ?_
  refine r_aload_n S rfl dX12_init_123 ?_
  refine r_sipush S (by decide +kernel) dX12_init_124 ?_
  refine r_newI S (N := 820) rfl dX12_init_127 rfl rfl ⟨Nat.le_of_ble_eq_true rfl, Nat.le_of_ble_eq_true rfl⟩ ?_
  refine r_putR S fk_X12_56 dX12_init_129 rfl rfl (by decide) (Or.inr ⟨rfl, rfl⟩) ?_
  refine r_aload_n S rfl dX12_init_132 ?_
  refine r_bipush S (by decide +kernel) dX12_init_133 ?_
  refine r_newI S (N := 11) rfl dX12_init_135 rfl rfl ⟨Nat.le_of_ble_eq_true rfl, Nat.le_of_ble_eq_true rfl⟩ ?_
  refine r_putR S fk_X12_59 dX12_init_137 rfl rfl (by decide) (Or.inr ⟨rfl, rfl⟩) ?_
  refine r_aload_n S rfl dX12_init_140 ?_
  refine r_bipush S (by decide +kernel) dX12_init_141 ?_
  refine r_newI S (N := 10) rfl dX12_init_143 rfl rfl ⟨Nat.le_of_ble_eq_true rfl, Nat.le_of_ble_eq_true rfl⟩ ?_
  refine r_putR S fk_X12_62 dX12_init_145 rfl rfl (by decide) (Or.inr ⟨rfl, rfl⟩) ?_
  refine r_aload_n S rfl dX12_init_148 ?_
  refine r_sipush S (by decide +kernel) dX12_init_149 ?_
  refine r_newI S (N := 820) rfl dX12_init_152 rfl rfl ⟨Nat.le_of_ble_eq_true rfl, Nat.le_of_ble_eq_true rfl⟩ ?_
  refine r_putR S fk_X12_65 dX12_init_154 rfl rfl (by decide) (Or.inr ⟨rfl, rfl⟩) ?_
  refine r_aload_n S rfl dX12_init_157 ?_
  refine r_sipush S (by decide +kernel) dX12_init_158 ?_
  refine r_newI S (N := 420) rfl dX12_init_161 rfl rfl ⟨Nat.le_of_ble_eq_true rfl, Nat.le_of_ble_eq_true rfl⟩ ?_
  refine r_putR S fk_X12_68 dX12_init_163 rfl rfl (by decide) (Or.inr ⟨rfl, rfl⟩) ?_
  refine r_aload_n S rfl dX12_init_166 ?_
  refine r_sipush S (by decide +kernel) dX12_init_167 ?_
  refine r_newI S (N := 400) rfl dX12_init_170 rfl rfl ⟨Nat.le_of_ble_eq_true rfl, Nat.le_of_ble_eq_true rfl⟩ ?_
  refine r_putR S fk_X12_71 dX12_init_172 rfl rfl (by decide) (Or.inr ⟨rfl, rfl⟩) ?_
  refine r_aload_n S rfl dX12_init_175 ?_
  refine r_iconst S dX12_init_176 ?_
  refine r_putI S fk_X12_74 dX12_init_177 rfl rfl (by decide) (Or.inr ⟨rfl, rfl⟩) (Or.inl rfl) ?_
  refine r_aload_n S rfl dX12_init_180 ?_
  refine r_bipush S (by decide +kernel) dX12_init_181 ?_
  refine r_newI S (N := 8) rfl dX12_init_183 rfl rfl ⟨Nat.le_of_ble_eq_true rfl, Nat.le_of_ble_eq_true rfl⟩ ?_
  refine r_putR S fk_X12_78 dX12_init_185 rfl rfl (by decide) (Or.inr ⟨rfl, rfl⟩) ?_
  refine r_aload_n S rfl dX12_init_188 ?_
  refine r_bipush S (by decide +kernel) dX12_init_189 ?_
  refine r_newI S (N := 8) rfl dX12_init_191 rfl rfl ⟨Nat.le_of_ble_eq_true rfl, Nat.le_of_ble_eq_true rfl⟩ ?_
  refine r_putR S fk_X12_81 dX12_init_193 rfl rfl (by decide) (Or.inr ⟨rfl, rfl⟩) ?_
  refine r_aload_n S rfl dX12_init_196 ?_
  refine r_bipush S (by decide +kernel) dX12_init_197 ?_
  refine r_newI S (N := 8) rfl dX12_init_199 rfl rfl ⟨Nat.le_of_ble_eq_true rfl, Nat.le_of_ble_eq_true rfl⟩ ?_
  refine r_putR S fk_X12_84 dX12_init_201 rfl rfl (by decide) (Or.inr ⟨rfl, rfl⟩) ?_
  refine r_aload_n S rfl dX12_init_204 ?_
  refine r_bipush S (by decide +kernel) dX12_init_205 ?_
  refine r_newI S (N := 9) rfl dX12_init_207 rfl rfl ⟨Nat.le_of_ble_eq_true rfl, Nat.le_of_ble_eq_true rfl⟩ ?_
  refine r_putR S fk_X12_87 dX12_init_209 rfl rfl (by decide) (Or.inr ⟨rfl, rfl⟩) ?_
  refine r_aload_n S rfl dX12_init_212 ?_
  refine r_bipush S (by decide +kernel) dX12_init_213 ?_
  refine r_newI S (N := 8) rfl dX12_init_215 rfl rfl ⟨Nat.le_of_ble_eq_true rfl, Nat.le_of_ble_eq_true rfl⟩ ?_
  refine r_putR S fk_X12_90 dX12_init_217 rfl rfl (by decide) (Or.inr ⟨rfl, rfl⟩) ?_
  refine r_aload_n S rfl dX12_init_220 ?_
  refine r_bipush S (by decide +kernel) dX12_init_221 ?_
  refine r_newI S (N := 8) rfl dX12_init_223 rfl rfl ⟨Nat.le_of_ble_eq_true rfl, Nat.le_of_ble_eq_true rfl⟩ ?_
  refine r_putR S fk_X12_93 dX12_init_225 rfl rfl (by decide) (Or.inr ⟨rfl, rfl⟩) ?_
  refine r_aload_n S rfl dX12_init_228 ?_
  refine r_sipush S (by decide +kernel) dX12_init_229 ?_
  refine r_newI S (N := 1024) rfl dX12_init_232 rfl rfl ⟨Nat.le_of_ble_eq_true rfl, Nat.le_of_ble_eq_true rfl⟩ ?_
  refine r_putR S fk_X12_96 dX12_init_234 rfl rfl (by decide) (Or.inr ⟨rfl, rfl⟩) ?_
  refine r_aload_n S rfl dX12_init_237 ?_
  refine r_sipush S (by decide +kernel) dX12_init_238 ?_
  refine r_newI S (N := 9216) rfl dX12_init_241 rfl rfl ⟨Nat.le_of_ble_eq_true rfl, Nat.le_of_ble_eq_true rfl⟩ ?_
  refine r_putR S fk_X12_99 dX12_init_243 rfl rfl (by decide) (Or.inr ⟨rfl, rfl⟩) ?_
  refine r_aload_n S rfl dX12_init_246 ?_
  refine r_bipush S (by decide +kernel) dX12_init_247 ?_
  refine r_newI S (N := 8) rfl dX12_init_249 rfl rfl ⟨Nat.le_of_ble_eq_true rfl, Nat.le_of_ble_eq_true rfl⟩ ?_
  refine r_putR S fk_X12_102 dX12_init_251 rfl rfl (by decide) (Or.inr ⟨rfl, rfl⟩) ?_
  refine k_conv S (I' := zr (zr (filI 72 103 I) 74) 75) (ρ' := fil 72 103 ρ) ?_ ?_
  · intro o ho
    rcases (by omega : o < 72 ∨ o = 72 ∨ o = 73 ∨ o = 74 ∨ o = 75 ∨ o = 76 ∨ o = 77 ∨ o = 78 ∨ o = 79 ∨ o = 80 ∨ o = 81 ∨ o = 82 ∨ o = 83 ∨ o = 84 ∨ o = 85 ∨ o = 86 ∨ o = 87 ∨ o = 88 ∨ o = 89 ∨ o = 90 ∨ o = 91 ∨ o = 92 ∨ o = 93 ∨ o = 94 ∨ o = 95 ∨ o = 96 ∨ o = 97 ∨ o = 98 ∨ o = 99 ∨ o = 100 ∨ o = 101 ∨ o = 102) with h | rfl | rfl | rfl | rfl | rfl | rfl | rfl | rfl | rfl | rfl | rfl | rfl | rfl | rfl | rfl | rfl | rfl | rfl | rfl | rfl | rfl | rfl | rfl | rfl | rfl | rfl | rfl | rfl | rfl | rfl | rfl
    · exact cel_congr (by funext j; simp only [up, zr, filI]; repeat rw [if_neg (by omega)]) (by funext j; simp only [upR, zrR, fil]; repeat rw [if_neg (by omega)])
    · exact rfl
    · exact rfl
    · exact rfl
    · exact rfl
    · exact rfl
    · exact rfl
    · exact rfl
    · exact rfl
    · exact rfl
    · exact rfl
    · exact rfl
    · exact rfl
    · exact rfl
    · exact rfl
    · exact rfl
    · exact rfl
    · exact rfl
    · exact rfl
    · exact rfl
    · exact rfl
    · exact rfl
    · exact rfl
    · exact rfl
    · exact rfl
    · exact rfl
    · exact rfl
    · exact rfl
    · exact rfl
    · exact rfl
    · exact rfl
    · exact rfl
  refine r_iconst S dX12_init_254 ?_
  refine r_istore_n S dX12_init_255 rfl rfl ?_
  exact loop74 36 0 _ (by omega) (fun o e74 e75 => by rw [zr_o e75, zr_o e74]) (fun j => by rw [zr_s]) (fun j => by rw [zr_o (by decide), zr_s, if_neg (by omega)])
end
