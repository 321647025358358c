/-! ===== what the reference's calls come to (the smaller ones) ===== -/
def hhV (I : Iv) (c v p l t q : Int) : Iv := up (up (up (up (up (up (up I 72 1 (c + 1)) 76 c v) 77 c p) 78 c l) 79 c t) 85 c q) 80 c (-1)
def tiV (I : Iv) (a b v : Int) : Iv := up (up I 81 (8 * a + b) v) 81 (8 * b + a) v
def siV (I : Iv) (c x y : Int) : Iv := up (up (up I 82 c x) 83 c y) 72 2 (c + 1)
section
variable (G : GE) (n : Nat) (I : Iv) (bk dr : Nat) (pt : Option Nat)
theorem c_X12_water (hn : 103 ≤ n) {a l : Int} (ha : rg a) (hl : rg l) (h0 : 0 ≤ I 72 0) (h1 : I 72 0 ≤ 35) : Ct G yX12_water cX12_water 3 (some .boolean) 1 0 0 [.ref (gb G + 72), .int (jI a), .int (jI l)] n I (rst bk dr pt) (Two ((I 72 0 ≤ a ∧ a ≤ 35) ∧ 0 ≤ l ∧ l ≤ 99) 1 0 (up I 73 a l) I n (rst bk dr pt)) := by
  refine Ct.of [some (.ref (gb G + 72)), some (.int (jI a)), some (.int (jI l))] (by decide) rfl rfl rfl ?_
  intro k SR
  have S : Sem G RX12 "water" cX12_water 3 (rmD 1 0 0) k := SR.sem
  refine r_iload_n S rfl dX12_water_0 ?_
  refine r_aload_n S rfl dX12_water_1 ?_
  refine r_getI S (v := I 72 0) fk_X12_112 dX12_water_2 rfl rfl (Nat.lt_of_lt_of_le (by decide) hn) rfl ?_
  refine r_bipush S (by decide +kernel) dX12_water_5 ?_
  refine r_callS S lk_X12_105 mk_X12_isIn (c_X12_isIn G n I (rst bk dr pt) ha (by omega) (by decide)) rfl rfl (Nat.le_of_ble_eq_true rfl) ⟨by decide, by decide⟩ rfl ⟨by decide, by decide⟩ dX12_water_7 ?_
  rintro _ _ _ _ ⟨rfl, rfl, rfl, rfl⟩
  refine r_ifb_eq S (tgt := 23) dX12_water_10 (by decide)  (fun c10 => ?_) (fun c10 => ?_)
  · refine r_iconst S dX12_water_23 ?_
    refine r_zret SR dX12_water_24 (by first | exact b2_01 _ | omega) ⟨by decide, by decide⟩ ?_
    first | exact ⟨rfl, rfl, Or.inl ⟨by omega, rfl, rfl⟩⟩ | exact ⟨rfl, rfl, Or.inr ⟨by omega, rfl, rfl⟩⟩
  · refine r_iload_n S rfl dX12_water_13 ?_
    refine r_iconst S dX12_water_14 ?_
    refine r_bipush S (by decide +kernel) dX12_water_15 ?_
    refine r_callS S lk_X12_105 mk_X12_isIn (c_X12_isIn G n I (rst bk dr pt) hl (by decide) (by decide)) rfl rfl (Nat.le_of_ble_eq_true rfl) ⟨by decide, by decide⟩ rfl ⟨by decide, by decide⟩ dX12_water_17 ?_
    rintro _ _ _ _ ⟨rfl, rfl, rfl, rfl⟩
    refine r_ifb_ne S (tgt := 25) dX12_water_20 (by decide)  (fun c20 => ?_) (fun c20 => ?_)
    · refine r_aload_n S rfl dX12_water_25 ?_
      refine r_getR S (o' := 73) fk_X12_7 dX12_water_26 rfl rfl (Nat.lt_of_lt_of_le (by decide) hn) rfl ?_
      refine r_iload_n S rfl dX12_water_29 ?_
      refine r_iload_n S rfl dX12_water_30 ?_
      refine r_iast S dX12_water_31 rfl rfl (Nat.lt_of_lt_of_le (by decide) hn) (by omega) (by omega) ?_
      refine r_iconst S dX12_water_32 ?_
      refine r_zret SR dX12_water_33 (by first | exact b2_01 _ | omega) ⟨by decide, by decide⟩ ?_
      first | exact ⟨rfl, rfl, Or.inl ⟨by omega, rfl, rfl⟩⟩ | exact ⟨rfl, rfl, Or.inr ⟨by omega, rfl, rfl⟩⟩
    · refine r_iconst S dX12_water_23 ?_
      refine r_zret SR dX12_water_24 (by first | exact b2_01 _ | omega) ⟨by decide, by decide⟩ ?_
      first | exact ⟨rfl, rfl, Or.inl ⟨by omega, rfl, rfl⟩⟩ | exact ⟨rfl, rfl, Or.inr ⟨by omega, rfl, rfl⟩⟩
theorem c_X12_builders (hn : 103 ≤ n) {a l : Int} (ha : rg a) (hl : rg l) (h0 : 0 ≤ I 72 0) (h1 : I 72 0 ≤ 35) : Ct G yX12_builders cX12_builders 3 (some .boolean) 1 0 0 [.ref (gb G + 72), .int (jI a), .int (jI l)] n I (rst bk dr pt) (Two ((I 72 0 ≤ a ∧ a ≤ 35) ∧ 0 ≤ l ∧ l ≤ 8) 1 0 (up I 74 a l) I n (rst bk dr pt)) := by
  refine Ct.of [some (.ref (gb G + 72)), some (.int (jI a)), some (.int (jI l))] (by decide) rfl rfl rfl ?_
  intro k SR
  have S : Sem G RX12 "builders" cX12_builders 3 (rmD 1 0 0) k := SR.sem
  refine r_iload_n S rfl dX12_builders_0 ?_
  refine r_aload_n S rfl dX12_builders_1 ?_
  refine r_getI S (v := I 72 0) fk_X12_112 dX12_builders_2 rfl rfl (Nat.lt_of_lt_of_le (by decide) hn) rfl ?_
  refine r_bipush S (by decide +kernel) dX12_builders_5 ?_
  refine r_callS S lk_X12_105 mk_X12_isIn (c_X12_isIn G n I (rst bk dr pt) ha (by omega) (by decide)) rfl rfl (Nat.le_of_ble_eq_true rfl) ⟨by decide, by decide⟩ rfl ⟨by decide, by decide⟩ dX12_builders_7 ?_
  rintro _ _ _ _ ⟨rfl, rfl, rfl, rfl⟩
  refine r_ifb_eq S (tgt := 23) dX12_builders_10 (by decide)  (fun c10 => ?_) (fun c10 => ?_)
  · refine r_iconst S dX12_builders_23 ?_
    refine r_zret SR dX12_builders_24 (by first | exact b2_01 _ | omega) ⟨by decide, by decide⟩ ?_
    first | exact ⟨rfl, rfl, Or.inl ⟨by omega, rfl, rfl⟩⟩ | exact ⟨rfl, rfl, Or.inr ⟨by omega, rfl, rfl⟩⟩
  · refine r_iload_n S rfl dX12_builders_13 ?_
    refine r_iconst S dX12_builders_14 ?_
    refine r_bipush S (by decide +kernel) dX12_builders_15 ?_
    refine r_callS S lk_X12_105 mk_X12_isIn (c_X12_isIn G n I (rst bk dr pt) hl (by decide) (by decide)) rfl rfl (Nat.le_of_ble_eq_true rfl) ⟨by decide, by decide⟩ rfl ⟨by decide, by decide⟩ dX12_builders_17 ?_
    rintro _ _ _ _ ⟨rfl, rfl, rfl, rfl⟩
    refine r_ifb_ne S (tgt := 25) dX12_builders_20 (by decide)  (fun c20 => ?_) (fun c20 => ?_)
    · refine r_aload_n S rfl dX12_builders_25 ?_
      refine r_getR S (o' := 74) fk_X12_13 dX12_builders_26 rfl rfl (Nat.lt_of_lt_of_le (by decide) hn) rfl ?_
      refine r_iload_n S rfl dX12_builders_29 ?_
      refine r_iload_n S rfl dX12_builders_30 ?_
      refine r_iast S dX12_builders_31 rfl rfl (Nat.lt_of_lt_of_le (by decide) hn) (by omega) (by omega) ?_
      refine r_iconst S dX12_builders_32 ?_
      refine r_zret SR dX12_builders_33 (by first | exact b2_01 _ | omega) ⟨by decide, by decide⟩ ?_
      first | exact ⟨rfl, rfl, Or.inl ⟨by omega, rfl, rfl⟩⟩ | exact ⟨rfl, rfl, Or.inr ⟨by omega, rfl, rfl⟩⟩
    · refine r_iconst S dX12_builders_23 ?_
      refine r_zret SR dX12_builders_24 (by first | exact b2_01 _ | omega) ⟨by decide, by decide⟩ ?_
      first | exact ⟨rfl, rfl, Or.inl ⟨by omega, rfl, rfl⟩⟩ | exact ⟨rfl, rfl, Or.inr ⟨by omega, rfl, rfl⟩⟩
theorem c_X12_village (hn : 103 ≤ n) {a l : Int} (ha : rg a) (hl : rg l) : Ct G yX12_village cX12_village 3 (some .boolean) 2 0 0 [.ref (gb G + 72), .int (jI a), .int (jI l)] n I (rst bk dr pt) (Two ((0 ≤ a ∧ a ≤ 3) ∧ 0 ≤ l ∧ l ≤ 99) 1 0 (up I 75 a l) I n (rst bk dr pt)) := by
  refine Ct.of [some (.ref (gb G + 72)), some (.int (jI a)), some (.int (jI l))] (by decide) rfl rfl rfl ?_
  intro k SR
  have S : Sem G RX12 "village" cX12_village 3 (rmD 2 0 0) k := SR.sem
  refine r_iload_n S rfl dX12_village_0 ?_
  refine r_callS S lk_X12_115 mk_X12_isVillage (c_X12_isVillage G n I (rst bk dr pt) ha) rfl rfl (Nat.le_of_ble_eq_true rfl) ⟨by decide, by decide⟩ rfl ⟨by decide, by decide⟩ dX12_village_1 ?_
  rintro _ _ _ _ ⟨rfl, rfl, rfl, rfl⟩
  refine r_ifb_eq S (tgt := 17) dX12_village_4 (by decide)  (fun c4 => ?_) (fun c4 => ?_)
  · refine r_iconst S dX12_village_17 ?_
    refine r_zret SR dX12_village_18 (by first | exact b2_01 _ | omega) ⟨by decide, by decide⟩ ?_
    first | exact ⟨rfl, rfl, Or.inl ⟨by omega, rfl, rfl⟩⟩ | exact ⟨rfl, rfl, Or.inr ⟨by omega, rfl, rfl⟩⟩
  · refine r_iload_n S rfl dX12_village_7 ?_
    refine r_iconst S dX12_village_8 ?_
    refine r_bipush S (by decide +kernel) dX12_village_9 ?_
    refine r_callS S lk_X12_105 mk_X12_isIn (c_X12_isIn G n I (rst bk dr pt) hl (by decide) (by decide)) rfl rfl (Nat.le_of_ble_eq_true rfl) ⟨by decide, by decide⟩ rfl ⟨by decide, by decide⟩ dX12_village_11 ?_
    rintro _ _ _ _ ⟨rfl, rfl, rfl, rfl⟩
    refine r_ifb_ne S (tgt := 19) dX12_village_14 (by decide)  (fun c14 => ?_) (fun c14 => ?_)
    · refine r_aload_n S rfl dX12_village_19 ?_
      refine r_getR S (o' := 75) fk_X12_16 dX12_village_20 rfl rfl (Nat.lt_of_lt_of_le (by decide) hn) rfl ?_
      refine r_iload_n S rfl dX12_village_23 ?_
      refine r_iload_n S rfl dX12_village_24 ?_
      refine r_iast S dX12_village_25 rfl rfl (Nat.lt_of_lt_of_le (by decide) hn) (by omega) (by omega) ?_
      refine r_iconst S dX12_village_26 ?_
      refine r_zret SR dX12_village_27 (by first | exact b2_01 _ | omega) ⟨by decide, by decide⟩ ?_
      first | exact ⟨rfl, rfl, Or.inl ⟨by omega, rfl, rfl⟩⟩ | exact ⟨rfl, rfl, Or.inr ⟨by omega, rfl, rfl⟩⟩
    · refine r_iconst S dX12_village_17 ?_
      refine r_zret SR dX12_village_18 (by first | exact b2_01 _ | omega) ⟨by decide, by decide⟩ ?_
      first | exact ⟨rfl, rfl, Or.inl ⟨by omega, rfl, rfl⟩⟩ | exact ⟨rfl, rfl, Or.inr ⟨by omega, rfl, rfl⟩⟩
theorem c_X12_drowned (hn : 103 ≤ n) {a : Int} (ha : rg a) (h2 : ∀ j, 0 ≤ j → j < 36 → rg (I 73 j)) (h3 : ∀ j, 0 ≤ j → j < 4 → rg (I 75 j)) : Ct G yX12_drowned cX12_drowned 2 (some .int) 2 0 0 [.ref (gb G + 72), .int (jI a)] n I (rst bk dr pt) (PI (if 0 ≤ a ∧ a ≤ 3 then fm (I 73) (I 75 a) else -1) n I (rst bk dr pt)) := by
  refine Ct.of [some (.ref (gb G + 72)), some (.int (jI a))] (by decide) rfl rfl rfl ?_
  intro k SR
  have S : Sem G RX12 "drowned" cX12_drowned 2 (rmD 2 0 0) k := SR.sem
  refine r_iload_n S rfl dX12_drowned_0 ?_
  refine r_callS S lk_X12_115 mk_X12_isVillage (c_X12_isVillage G n I (rst bk dr pt) ha) rfl rfl (Nat.le_of_ble_eq_true rfl) ⟨by decide, by decide⟩ rfl ⟨by decide, by decide⟩ dX12_drowned_1 ?_
  rintro _ _ _ _ ⟨rfl, rfl, rfl, rfl⟩
  refine r_ifb_eq S (tgt := 15) dX12_drowned_4 (by decide)  (fun c4 => ?_) (fun c4 => ?_)
  · refine r_iconst S dX12_drowned_15 ?_
    refine r_iret SR dX12_drowned_16 ⟨by decide, by decide⟩ ?_
    first | exact ⟨by rw [if_pos c4], rfl, rfl, rfl⟩ | exact ⟨by rw [if_neg c4], rfl, rfl, rfl⟩
  · refine r_aload_n S rfl dX12_drowned_7 ?_
    refine r_iload_n S rfl dX12_drowned_8 ?_
    refine r_callV S lk_X12_119 mk_X12_drownedIn (c_X12_drownedIn G n I bk dr pt hn (a := a) (by omega) (by omega) h2 h3) rfl (Nat.lt_of_lt_of_le (by decide) hn) rfl rfl rfl (Nat.le_of_ble_eq_true rfl) ⟨by decide, by decide⟩ rfl ⟨by decide, by decide⟩ dX12_drowned_9 ?_
    rintro _ _ _ _ ⟨rfl, rfl, rfl, rfl⟩
    refine r_goto S (tgt := 16) dX12_drowned_12 (by decide) ?_
    refine r_iret SR dX12_drowned_16 ⟨by decide, by decide⟩ ?_
    first | exact ⟨by rw [if_pos c4], rfl, rfl, rfl⟩ | exact ⟨by rw [if_neg c4], rfl, rfl, rfl⟩
theorem c_X12_end (hn : 103 ≤ n) {a : Int} (ha : rg a) (h0 : rg (I 72 28)) : Ct G yX12_end cX12_end 2 (some .boolean) 1 0 0 [.ref (gb G + 72), .int (jI a)] n I (rst bk dr pt) (Two (0 ≤ a ∧ a ≤ I 72 28) 1 0 (up I 72 28 a) I n (rst bk dr pt)) := by
  refine Ct.of [some (.ref (gb G + 72)), some (.int (jI a))] (by decide) rfl rfl rfl ?_
  intro k SR
  have S : Sem G RX12 "end" cX12_end 2 (rmD 1 0 0) k := SR.sem
  refine r_iload_n S rfl dX12_end_0 ?_
  refine r_iconst S dX12_end_1 ?_
  refine r_aload_n S rfl dX12_end_2 ?_
  refine r_getI S (v := I 72 28) fk_X12_132 dX12_end_3 rfl rfl (Nat.lt_of_lt_of_le (by decide) hn) rfl ?_
  refine r_callS S lk_X12_105 mk_X12_isIn (c_X12_isIn G n I (rst bk dr pt) ha (by decide) h0) rfl rfl (Nat.le_of_ble_eq_true rfl) ⟨by decide, by decide⟩ rfl ⟨by decide, by decide⟩ dX12_end_6 ?_
  rintro _ _ _ _ ⟨rfl, rfl, rfl, rfl⟩
  refine r_ifb_ne S (tgt := 14) dX12_end_9 (by decide)  (fun c9 => ?_) (fun c9 => ?_)
  · refine r_aload_n S rfl dX12_end_14 ?_
    refine r_iload_n S rfl dX12_end_15 ?_
    refine r_putI S fk_X12_132 dX12_end_16 rfl rfl (Nat.lt_of_lt_of_le (by decide) hn) (Or.inl rfl) (Or.inl rfl) ?_
    refine r_iconst S dX12_end_19 ?_
    refine r_zret SR dX12_end_20 (by first | exact b2_01 _ | omega) ⟨by decide, by decide⟩ ?_
    first | exact ⟨rfl, rfl, Or.inl ⟨by omega, rfl, rfl⟩⟩ | exact ⟨rfl, rfl, Or.inr ⟨by omega, rfl, rfl⟩⟩
  · refine r_iconst S dX12_end_12 ?_
    refine r_zret SR dX12_end_13 (by first | exact b2_01 _ | omega) ⟨by decide, by decide⟩ ?_
    first | exact ⟨rfl, rfl, Or.inl ⟨by omega, rfl, rfl⟩⟩ | exact ⟨rfl, rfl, Or.inr ⟨by omega, rfl, rfl⟩⟩
theorem c_X12_fault (hn : 103 ≤ n) {a : Int} (ha : rg a) : Ct G yX12_fault cX12_fault 2 (some .int) 0 0 0 [.ref (gb G + 72), .int (jI a)] n I (rst bk dr pt) (PI (if a = 0 then I 72 35 else if a = 1 then I 72 37 else -1) n I (rst bk dr pt)) := by
  refine Ct.of [some (.ref (gb G + 72)), some (.int (jI a))] (by decide) rfl rfl rfl ?_
  intro k SR
  have S : Sem G RX12 "fault" cX12_fault 2 (rmD 0 0 0) k := SR.sem
  refine r_iload_n S rfl dX12_fault_0 ?_
  refine r_if_ne S (tgt := 11) dX12_fault_1 (by decide) ha (fun c1 => ?_) (fun c1 => ?_)
  · refine r_iload_n S rfl dX12_fault_11 ?_
    refine r_iconst S dX12_fault_12 ?_
    refine r_icmp_ne S (tgt := 23) dX12_fault_13 (by decide) ha (by decide) (fun c13 => ?_) (fun c13 => ?_)
    · refine r_iconst S dX12_fault_23 ?_
      refine r_iret SR dX12_fault_24 ⟨by decide, by decide⟩ ?_
      first | exact ⟨by rw [if_pos c1], rfl, rfl, rfl⟩ | exact ⟨by rw [if_neg c1, if_pos c13], rfl, rfl, rfl⟩ | exact ⟨by rw [if_neg c1, if_neg c13], rfl, rfl, rfl⟩
    · refine r_aload_n S rfl dX12_fault_16 ?_
      refine r_getI S (v := I 72 37) fk_X12_74 dX12_fault_17 rfl rfl (Nat.lt_of_lt_of_le (by decide) hn) rfl ?_
      refine r_goto S (tgt := 24) dX12_fault_20 (by decide) ?_
      refine r_iret SR dX12_fault_24 ⟨by decide, by decide⟩ ?_
      first | exact ⟨by rw [if_pos c1], rfl, rfl, rfl⟩ | exact ⟨by rw [if_neg c1, if_pos c13], rfl, rfl, rfl⟩ | exact ⟨by rw [if_neg c1, if_neg c13], rfl, rfl, rfl⟩
  · refine r_aload_n S rfl dX12_fault_4 ?_
    refine r_getI S (v := I 72 35) fk_X12_218 dX12_fault_5 rfl rfl (Nat.lt_of_lt_of_le (by decide) hn) rfl ?_
    refine r_goto S (tgt := 24) dX12_fault_8 (by decide) ?_
    refine r_iret SR dX12_fault_24 ⟨by decide, by decide⟩ ?_
    first | exact ⟨by rw [if_pos c1], rfl, rfl, rfl⟩ | exact ⟨by rw [if_neg c1, if_pos c13], rfl, rfl, rfl⟩ | exact ⟨by rw [if_neg c1, if_neg c13], rfl, rfl, rfl⟩
theorem c_X12_papers (hn : 103 ≤ n) {a : Int} (ha : rg a) (h0 : 0 ≤ I 72 1) (h1 : I 72 1 ≤ 8) (h85 : ∀ j, 0 ≤ j → j < 8 → I 85 j = 0 ∨ I 85 j = 1) : Ct G yX12_papers cX12_papers 2 (some .boolean) 2 0 0 [.ref (gb G + 72), .int (jI a)] n I (rst bk dr pt) (Two ((0 ≤ a ∧ a < I 72 1) ∧ ¬ I 85 a = 1) 1 0 (up I 85 a 1) I n (rst bk dr pt)) := by
  refine Ct.of [some (.ref (gb G + 72)), some (.int (jI a))] (by decide) rfl rfl rfl ?_
  intro k SR
  have S : Sem G RX12 "papers" cX12_papers 2 (rmD 2 0 0) k := SR.sem
  refine r_aload_n S rfl dX12_papers_0 ?_
  refine r_iload_n S rfl dX12_papers_1 ?_
  refine r_callV S lk_X12_123 mk_X12_isHousehold (c_X12_isHousehold G n I bk dr pt hn ha h0 h1) rfl (Nat.lt_of_lt_of_le (by decide) hn) rfl rfl rfl (Nat.le_of_ble_eq_true rfl) ⟨by decide, by decide⟩ rfl ⟨by decide, by decide⟩ dX12_papers_2 ?_
  rintro _ _ _ _ ⟨rfl, rfl, rfl, rfl⟩
  refine r_ifb_eq S (tgt := 17) dX12_papers_5 (by decide)  (fun c5 => ?_) (fun c5 => ?_)
  · refine r_iconst S dX12_papers_17 ?_
    refine r_zret SR dX12_papers_18 (by first | exact b2_01 _ | omega) ⟨by decide, by decide⟩ ?_
    first | exact ⟨rfl, rfl, Or.inl ⟨by omega, rfl, rfl⟩⟩ | exact ⟨rfl, rfl, Or.inr ⟨by omega, rfl, rfl⟩⟩
  · refine r_aload_n S rfl dX12_papers_8 ?_
    refine r_getR S (o' := 85) fk_X12_46 dX12_papers_9 rfl rfl (Nat.lt_of_lt_of_le (by decide) hn) rfl ?_
    refine r_iload_n S rfl dX12_papers_12 ?_
    refine r_bald S (v := I 85 a) dX12_papers_13 rfl rfl (Nat.lt_of_lt_of_le (by decide) hn) (by omega) (by omega) rfl ?_
    refine r_if_eq S (tgt := 19) dX12_papers_14 (by decide) (by have := h85 a (by omega) (by omega); omega) (fun c14 => ?_) (fun c14 => ?_)
    · have h8 := h85 a (by omega) (by omega)
      refine r_aload_n S rfl dX12_papers_19 ?_
      refine r_getR S (o' := 85) fk_X12_46 dX12_papers_20 rfl rfl (Nat.lt_of_lt_of_le (by decide) hn) rfl ?_
      refine r_iload_n S rfl dX12_papers_23 ?_
      refine r_iconst S dX12_papers_24 ?_
      refine r_bast S dX12_papers_25 rfl rfl (Nat.lt_of_lt_of_le (by decide) hn) (by omega) (by omega) (by decide) ?_
      refine r_iconst S dX12_papers_26 ?_
      refine r_zret SR dX12_papers_27 (by first | exact b2_01 _ | omega) ⟨by decide, by decide⟩ ?_
      first | exact ⟨rfl, rfl, Or.inl ⟨by omega, rfl, rfl⟩⟩ | exact ⟨rfl, rfl, Or.inr ⟨by omega, rfl, rfl⟩⟩
    · have h8 := h85 a (by omega) (by omega)
      refine r_iconst S dX12_papers_17 ?_
      refine r_zret SR dX12_papers_18 (by first | exact b2_01 _ | omega) ⟨by decide, by decide⟩ ?_
      first | exact ⟨rfl, rfl, Or.inl ⟨by omega, rfl, rfl⟩⟩ | exact ⟨rfl, rfl, Or.inr ⟨by omega, rfl, rfl⟩⟩
theorem c_X12_field (hn : 103 ≤ n) {a : Int} (ha : rg a) (h0 : 0 ≤ I 72 3) (h1 : I 72 3 ≤ 10) : Ct G yX12_field cX12_field 2 (some .int) 1 0 0 [.ref (gb G + 72), .int (jI a)] n I (rst bk dr pt) (Two ((1 ≤ a ∧ a ≤ 999) ∧ I 72 3 < 10) (I 72 3) (-1) (up (up I 84 (I 72 3) a) 72 3 (I 72 3 + 1)) I n (rst bk dr pt)) := by
  refine Ct.of [some (.ref (gb G + 72)), some (.int (jI a))] (by decide) rfl rfl rfl ?_
  intro k SR
  have S : Sem G RX12 "field" cX12_field 2 (rmD 1 0 0) k := SR.sem
  refine r_iload_n S rfl dX12_field_0 ?_
  refine r_iconst S dX12_field_1 ?_
  refine r_sipush S (by decide +kernel) dX12_field_2 ?_
  refine r_callS S lk_X12_105 mk_X12_isIn (c_X12_isIn G n I (rst bk dr pt) ha (by decide) (by decide)) rfl rfl (Nat.le_of_ble_eq_true rfl) ⟨by decide, by decide⟩ rfl ⟨by decide, by decide⟩ dX12_field_5 ?_
  rintro _ _ _ _ ⟨rfl, rfl, rfl, rfl⟩
  refine r_ifb_eq S (tgt := 20) dX12_field_8 (by decide)  (fun c8 => ?_) (fun c8 => ?_)
  · refine r_iconst S dX12_field_20 ?_
    refine r_iret SR dX12_field_21 ⟨by decide, by decide⟩ ?_
    exact ⟨rfl, rfl, Or.inr ⟨by omega, rfl, rfl⟩⟩
  · refine r_aload_n S rfl dX12_field_11 ?_
    refine r_getI S (v := I 72 3) fk_X12_129 dX12_field_12 rfl rfl (Nat.lt_of_lt_of_le (by decide) hn) rfl ?_
    refine r_bipush S (by decide +kernel) dX12_field_15 ?_
    refine r_icmp_ne S (tgt := 22) dX12_field_17 (by decide) (by omega) (by decide) (fun c17 => ?_) (fun c17 => ?_)
    · refine r_aload_n S rfl dX12_field_22 ?_
      refine r_getR S (o' := 84) fk_X12_43 dX12_field_23 rfl rfl (Nat.lt_of_lt_of_le (by decide) hn) rfl ?_
      refine r_aload_n S rfl dX12_field_26 ?_
      refine r_getI S (v := I 72 3) fk_X12_129 dX12_field_27 rfl rfl (Nat.lt_of_lt_of_le (by decide) hn) rfl ?_
      refine r_iload_n S rfl dX12_field_30 ?_
      refine r_iast S dX12_field_31 rfl rfl (Nat.lt_of_lt_of_le (by decide) hn) (by omega) (by omega) ?_
      refine r_aload_n S rfl dX12_field_32 ?_
      refine r_dup S rfl dX12_field_33 ?_
      refine r_getI S (v := I 72 3) fk_X12_129 dX12_field_34 rfl rfl (Nat.lt_of_lt_of_le (by decide) hn) rfl ?_
      refine r_iconst S dX12_field_37 ?_
      refine r_iadd S dX12_field_38 ?_
      refine r_putI S fk_X12_129 dX12_field_39 rfl rfl (Nat.lt_of_lt_of_le (by decide) hn) (Or.inl rfl) (Or.inl rfl) ?_
      refine r_aload_n S rfl dX12_field_42 ?_
      refine r_getI S (v := (I 72 3) + 1) fk_X12_129 dX12_field_43 rfl rfl (Nat.lt_of_lt_of_le (by decide) hn) rfl ?_
      refine r_iconst S dX12_field_46 ?_
      refine r_isub S dX12_field_47 ?_
      refine r_iret SR dX12_field_48 ⟨by decide, by decide⟩ ?_
      exact ⟨rfl, rfl, Or.inl ⟨by omega, by rw [show I 72 3 + 1 - 1 = I 72 3 by omega], rfl⟩⟩
    · refine r_iconst S dX12_field_20 ?_
      refine r_iret SR dX12_field_21 ⟨by decide, by decide⟩ ?_
      exact ⟨rfl, rfl, Or.inr ⟨by omega, rfl, rfl⟩⟩
theorem c_X12_site (hn : 103 ≤ n) {x y : Int} (hx : rg x) (hy : rg y) (h0 : 0 ≤ I 72 2) (h1 : I 72 2 ≤ 8) : Ct G yX12_site cX12_site 3 (some .int) 1 0 0 [.ref (gb G + 72), .int (jI x), .int (jI y)] n I (rst bk dr pt) (Two ((0 ≤ x ∧ x ≤ 20) ∧ (0 ≤ y ∧ y ≤ 20) ∧ I 72 2 < 8) (I 72 2) (-1) (siV I (I 72 2) x y) I n (rst bk dr pt)) := by
  refine Ct.of [some (.ref (gb G + 72)), some (.int (jI x)), some (.int (jI y))] (by decide) rfl rfl rfl ?_
  intro k SR
  have S : Sem G RX12 "site" cX12_site 3 (rmD 1 0 0) k := SR.sem
  refine r_iload_n S rfl dX12_site_0 ?_
  refine r_iconst S dX12_site_1 ?_
  refine r_bipush S (by decide +kernel) dX12_site_2 ?_
  refine r_callS S lk_X12_105 mk_X12_isIn (c_X12_isIn G n I (rst bk dr pt) hx (by decide) (by decide)) rfl rfl (Nat.le_of_ble_eq_true rfl) ⟨by decide, by decide⟩ rfl ⟨by decide, by decide⟩ dX12_site_4 ?_
  rintro _ _ _ _ ⟨rfl, rfl, rfl, rfl⟩
  refine r_ifb_eq S (tgt := 29) dX12_site_7 (by decide)  (fun c7 => ?_) (fun c7 => ?_)
  · refine r_iconst S dX12_site_29 ?_
    refine r_iret SR dX12_site_30 ⟨by decide, by decide⟩ ?_
    exact ⟨rfl, rfl, Or.inr ⟨by omega, rfl, rfl⟩⟩
  · refine r_iload_n S rfl dX12_site_10 ?_
    refine r_iconst S dX12_site_11 ?_
    refine r_bipush S (by decide +kernel) dX12_site_12 ?_
    refine r_callS S lk_X12_105 mk_X12_isIn (c_X12_isIn G n I (rst bk dr pt) hy (by decide) (by decide)) rfl rfl (Nat.le_of_ble_eq_true rfl) ⟨by decide, by decide⟩ rfl ⟨by decide, by decide⟩ dX12_site_14 ?_
    rintro _ _ _ _ ⟨rfl, rfl, rfl, rfl⟩
    refine r_ifb_eq S (tgt := 29) dX12_site_17 (by decide)  (fun c17 => ?_) (fun c17 => ?_)
    · refine r_iconst S dX12_site_29 ?_
      refine r_iret SR dX12_site_30 ⟨by decide, by decide⟩ ?_
      exact ⟨rfl, rfl, Or.inr ⟨by omega, rfl, rfl⟩⟩
    · refine r_aload_n S rfl dX12_site_20 ?_
      refine r_getI S (v := I 72 2) fk_X12_126 dX12_site_21 rfl rfl (Nat.lt_of_lt_of_le (by decide) hn) rfl ?_
      refine r_bipush S (by decide +kernel) dX12_site_24 ?_
      refine r_icmp_ne S (tgt := 31) dX12_site_26 (by decide) (by omega) (by decide) (fun c26 => ?_) (fun c26 => ?_)
      · refine r_aload_n S rfl dX12_site_31 ?_
        refine r_getR S (o' := 82) fk_X12_37 dX12_site_32 rfl rfl (Nat.lt_of_lt_of_le (by decide) hn) rfl ?_
        refine r_aload_n S rfl dX12_site_35 ?_
        refine r_getI S (v := I 72 2) fk_X12_126 dX12_site_36 rfl rfl (Nat.lt_of_lt_of_le (by decide) hn) rfl ?_
        refine r_iload_n S rfl dX12_site_39 ?_
        refine r_iast S dX12_site_40 rfl rfl (Nat.lt_of_lt_of_le (by decide) hn) (by omega) (by omega) ?_
        refine r_aload_n S rfl dX12_site_41 ?_
        refine r_getR S (o' := 83) fk_X12_40 dX12_site_42 rfl rfl (Nat.lt_of_lt_of_le (by decide) hn) rfl ?_
        refine r_aload_n S rfl dX12_site_45 ?_
        refine r_getI S (v := I 72 2) fk_X12_126 dX12_site_46 rfl rfl (Nat.lt_of_lt_of_le (by decide) hn) rfl ?_
        refine r_iload_n S rfl dX12_site_49 ?_
        refine r_iast S dX12_site_50 rfl rfl (Nat.lt_of_lt_of_le (by decide) hn) (by omega) (by omega) ?_
        refine r_aload_n S rfl dX12_site_51 ?_
        refine r_dup S rfl dX12_site_52 ?_
        refine r_getI S (v := I 72 2) fk_X12_126 dX12_site_53 rfl rfl (Nat.lt_of_lt_of_le (by decide) hn) rfl ?_
        refine r_iconst S dX12_site_56 ?_
        refine r_iadd S dX12_site_57 ?_
        refine r_putI S fk_X12_126 dX12_site_58 rfl rfl (Nat.lt_of_lt_of_le (by decide) hn) (Or.inl rfl) (Or.inl rfl) ?_
        refine r_aload_n S rfl dX12_site_61 ?_
        refine r_getI S (v := (I 72 2) + 1) fk_X12_126 dX12_site_62 rfl rfl (Nat.lt_of_lt_of_le (by decide) hn) rfl ?_
        refine r_iconst S dX12_site_65 ?_
        refine r_isub S dX12_site_66 ?_
        refine r_iret SR dX12_site_67 ⟨by decide, by decide⟩ ?_
        exact ⟨rfl, rfl, Or.inl ⟨by omega, by rw [show I 72 2 + 1 - 1 = I 72 2 by omega], rfl⟩⟩
      · refine r_iconst S dX12_site_29 ?_
        refine r_iret SR dX12_site_30 ⟨by decide, by decide⟩ ?_
        exact ⟨rfl, rfl, Or.inr ⟨by omega, rfl, rfl⟩⟩
theorem c_X12_tie (hn : 103 ≤ n) {a b v : Int} (ha : rg a) (hb : rg b) (hv : rg v) (h0 : 0 ≤ I 72 1) (h1 : I 72 1 ≤ 8) : Ct G yX12_tie cX12_tie 4 (some .boolean) 2 0 0 [.ref (gb G + 72), .int (jI a), .int (jI b), .int (jI v)] n I (rst bk dr pt) (Two (tiP a b v (I 72 1)) 1 0 (tiV I a b v) I n (rst bk dr pt)) := by
  refine Ct.of [some (.ref (gb G + 72)), some (.int (jI a)), some (.int (jI b)), some (.int (jI v))] (by decide) rfl rfl rfl ?_
  intro k SR
  have S : Sem G RX12 "tie" cX12_tie 4 (rmD 2 0 0) k := SR.sem
  refine r_aload_n S rfl dX12_tie_0 ?_
  refine r_iload_n S rfl dX12_tie_1 ?_
  refine r_callV S lk_X12_123 mk_X12_isHousehold (c_X12_isHousehold G n I bk dr pt hn ha h0 h1) rfl (Nat.lt_of_lt_of_le (by decide) hn) rfl rfl rfl (Nat.le_of_ble_eq_true rfl) ⟨by decide, by decide⟩ rfl ⟨by decide, by decide⟩ dX12_tie_2 ?_
  rintro _ _ _ _ ⟨rfl, rfl, rfl, rfl⟩
  refine r_ifb_eq S (tgt := 31) dX12_tie_5 (by decide)  (fun c5 => ?_) (fun c5 => ?_)
  · refine r_iconst S dX12_tie_31 ?_
    refine r_zret SR dX12_tie_32 (by first | exact b2_01 _ | omega) ⟨by decide, by decide⟩ ?_
    first | exact ⟨rfl, rfl, Or.inl ⟨by omega, rfl, rfl⟩⟩ | exact ⟨rfl, rfl, Or.inr ⟨by omega, rfl, rfl⟩⟩
  · refine r_aload_n S rfl dX12_tie_8 ?_
    refine r_iload_n S rfl dX12_tie_9 ?_
    refine r_callV S lk_X12_123 mk_X12_isHousehold (c_X12_isHousehold G n I bk dr pt hn hb h0 h1) rfl (Nat.lt_of_lt_of_le (by decide) hn) rfl rfl rfl (Nat.le_of_ble_eq_true rfl) ⟨by decide, by decide⟩ rfl ⟨by decide, by decide⟩ dX12_tie_10 ?_
    rintro _ _ _ _ ⟨rfl, rfl, rfl, rfl⟩
    refine r_ifb_eq S (tgt := 31) dX12_tie_13 (by decide)  (fun c13 => ?_) (fun c13 => ?_)
    · refine r_iconst S dX12_tie_31 ?_
      refine r_zret SR dX12_tie_32 (by first | exact b2_01 _ | omega) ⟨by decide, by decide⟩ ?_
      first | exact ⟨rfl, rfl, Or.inl ⟨by omega, rfl, rfl⟩⟩ | exact ⟨rfl, rfl, Or.inr ⟨by omega, rfl, rfl⟩⟩
    · refine r_iload_n S rfl dX12_tie_16 ?_
      refine r_iload_n S rfl dX12_tie_17 ?_
      refine r_icmp_eq S (tgt := 31) dX12_tie_18 (by decide) ha hb (fun c18 => ?_) (fun c18 => ?_)
      · refine r_iconst S dX12_tie_31 ?_
        refine r_zret SR dX12_tie_32 (by first | exact b2_01 _ | omega) ⟨by decide, by decide⟩ ?_
        first | exact ⟨rfl, rfl, Or.inl ⟨by omega, rfl, rfl⟩⟩ | exact ⟨rfl, rfl, Or.inr ⟨by omega, rfl, rfl⟩⟩
      · refine r_iload_n S rfl dX12_tie_21 ?_
        refine r_iconst S dX12_tie_22 ?_
        refine r_bipush S (by decide +kernel) dX12_tie_23 ?_
        refine r_callS S lk_X12_105 mk_X12_isIn (c_X12_isIn G n I (rst bk dr pt) hv (by decide) (by decide)) rfl rfl (Nat.le_of_ble_eq_true rfl) ⟨by decide, by decide⟩ rfl ⟨by decide, by decide⟩ dX12_tie_25 ?_
        rintro _ _ _ _ ⟨rfl, rfl, rfl, rfl⟩
        refine r_ifb_ne S (tgt := 33) dX12_tie_28 (by decide)  (fun c28 => ?_) (fun c28 => ?_)
        · refine r_aload_n S rfl dX12_tie_33 ?_
          refine r_getR S (o' := 81) fk_X12_34 dX12_tie_34 rfl rfl (Nat.lt_of_lt_of_le (by decide) hn) rfl ?_
          refine r_bipush S (by decide +kernel) dX12_tie_37 ?_
          refine r_iload_n S rfl dX12_tie_39 ?_
          refine r_imul S dX12_tie_40 ?_
          refine r_iload_n S rfl dX12_tie_41 ?_
          refine r_iadd S dX12_tie_42 ?_
          refine r_iload_n S rfl dX12_tie_43 ?_
          refine r_iast S dX12_tie_44 rfl rfl (Nat.lt_of_lt_of_le (by decide) hn) (by omega) (by omega) ?_
          refine r_aload_n S rfl dX12_tie_45 ?_
          refine r_getR S (o' := 81) fk_X12_34 dX12_tie_46 rfl rfl (Nat.lt_of_lt_of_le (by decide) hn) rfl ?_
          refine r_bipush S (by decide +kernel) dX12_tie_49 ?_
          refine r_iload_n S rfl dX12_tie_51 ?_
          refine r_imul S dX12_tie_52 ?_
          refine r_iload_n S rfl dX12_tie_53 ?_
          refine r_iadd S dX12_tie_54 ?_
          refine r_iload_n S rfl dX12_tie_55 ?_
          refine r_iast S dX12_tie_56 rfl rfl (Nat.lt_of_lt_of_le (by decide) hn) (by omega) (by omega) ?_
          refine r_iconst S dX12_tie_57 ?_
          refine r_zret SR dX12_tie_58 (by first | exact b2_01 _ | omega) ⟨by decide, by decide⟩ ?_
          first | exact ⟨rfl, rfl, Or.inl ⟨by omega, rfl, rfl⟩⟩ | exact ⟨rfl, rfl, Or.inr ⟨by omega, rfl, rfl⟩⟩
        · refine r_iconst S dX12_tie_31 ?_
          refine r_zret SR dX12_tie_32 (by first | exact b2_01 _ | omega) ⟨by decide, by decide⟩ ?_
          first | exact ⟨rfl, rfl, Or.inl ⟨by omega, rfl, rfl⟩⟩ | exact ⟨rfl, rfl, Or.inr ⟨by omega, rfl, rfl⟩⟩
theorem c_X12_household (hn : 103 ≤ n) {a b c d p : Int} (ha : rg a) (hb : rg b) (hc : rg c) (hd : rg d) (hp : p = 0 ∨ p = 1) (h0 : 0 ≤ I 72 1) (h1 : I 72 1 ≤ 8) : Ct G yX12_household cX12_household 7 (some .int) 2 0 0 [.ref (gb G + 72), .int (jI a), .int (jI b), .int (jI c), .int (jI d), .int (jI p)] n I (rst bk dr pt) (Two (hhP a b c d (I 72 1)) (I 72 1) (-1) (hhV I (I 72 1) a b c d p) I n (rst bk dr pt)) := by
  refine Ct.of [some (.ref (gb G + 72)), some (.int (jI a)), some (.int (jI b)), some (.int (jI c)), some (.int (jI d)), some (.int (jI p)), none] (by decide) rfl rfl rfl ?_
  intro k SR
  have S : Sem G RX12 "household" cX12_household 7 (rmD 2 0 0) k := SR.sem
  refine r_iload_n S rfl dX12_household_0 ?_
  refine r_callS S lk_X12_115 mk_X12_isVillage (c_X12_isVillage G n I (rst bk dr pt) ha) rfl rfl (Nat.le_of_ble_eq_true rfl) ⟨by decide, by decide⟩ rfl ⟨by decide, by decide⟩ dX12_household_1 ?_
  rintro _ _ _ _ ⟨rfl, rfl, rfl, rfl⟩
  refine r_ifb_eq S (tgt := 47) dX12_household_4 (by decide)  (fun c4 => ?_) (fun c4 => ?_)
  · refine r_iconst S dX12_household_47 ?_
    refine r_iret SR dX12_household_48 ⟨by decide, by decide⟩ ?_
    exact ⟨rfl, rfl, Or.inr ⟨by omega, rfl, rfl⟩⟩
  · refine r_iload_n S rfl dX12_household_7 ?_
    refine r_iconst S dX12_household_8 ?_
    refine r_bipush S (by decide +kernel) dX12_household_9 ?_
    refine r_callS S lk_X12_105 mk_X12_isIn (c_X12_isIn G n I (rst bk dr pt) hb (by decide) (by decide)) rfl rfl (Nat.le_of_ble_eq_true rfl) ⟨by decide, by decide⟩ rfl ⟨by decide, by decide⟩ dX12_household_11 ?_
    rintro _ _ _ _ ⟨rfl, rfl, rfl, rfl⟩
    refine r_ifb_eq S (tgt := 47) dX12_household_14 (by decide)  (fun c14 => ?_) (fun c14 => ?_)
    · refine r_iconst S dX12_household_47 ?_
      refine r_iret SR dX12_household_48 ⟨by decide, by decide⟩ ?_
      exact ⟨rfl, rfl, Or.inr ⟨by omega, rfl, rfl⟩⟩
    · refine r_iload_n S rfl dX12_household_17 ?_
      refine r_iconst S dX12_household_18 ?_
      refine r_bipush S (by decide +kernel) dX12_household_19 ?_
      refine r_callS S lk_X12_105 mk_X12_isIn (c_X12_isIn G n I (rst bk dr pt) hc (by decide) (by decide)) rfl rfl (Nat.le_of_ble_eq_true rfl) ⟨by decide, by decide⟩ rfl ⟨by decide, by decide⟩ dX12_household_21 ?_
      rintro _ _ _ _ ⟨rfl, rfl, rfl, rfl⟩
      refine r_ifb_eq S (tgt := 47) dX12_household_24 (by decide)  (fun c24 => ?_) (fun c24 => ?_)
      · refine r_iconst S dX12_household_47 ?_
        refine r_iret SR dX12_household_48 ⟨by decide, by decide⟩ ?_
        exact ⟨rfl, rfl, Or.inr ⟨by omega, rfl, rfl⟩⟩
      · refine r_iload S rfl dX12_household_27 ?_
        refine r_iconst S dX12_household_29 ?_
        refine r_bipush S (by decide +kernel) dX12_household_30 ?_
        refine r_callS S lk_X12_105 mk_X12_isIn (c_X12_isIn G n I (rst bk dr pt) hd (by decide) (by decide)) rfl rfl (Nat.le_of_ble_eq_true rfl) ⟨by decide, by decide⟩ rfl ⟨by decide, by decide⟩ dX12_household_32 ?_
        rintro _ _ _ _ ⟨rfl, rfl, rfl, rfl⟩
        refine r_ifb_eq S (tgt := 47) dX12_household_35 (by decide)  (fun c35 => ?_) (fun c35 => ?_)
        · refine r_iconst S dX12_household_47 ?_
          refine r_iret SR dX12_household_48 ⟨by decide, by decide⟩ ?_
          exact ⟨rfl, rfl, Or.inr ⟨by omega, rfl, rfl⟩⟩
        · refine r_aload_n S rfl dX12_household_38 ?_
          refine r_getI S (v := I 72 1) fk_X12_109 dX12_household_39 rfl rfl (Nat.lt_of_lt_of_le (by decide) hn) rfl ?_
          refine r_bipush S (by decide +kernel) dX12_household_42 ?_
          refine r_icmp_ne S (tgt := 49) dX12_household_44 (by decide) (by omega) (by decide) (fun c44 => ?_) (fun c44 => ?_)
          · refine r_aload_n S rfl dX12_household_49 ?_
            refine r_getI S (v := I 72 1) fk_X12_109 dX12_household_50 rfl rfl (Nat.lt_of_lt_of_le (by decide) hn) rfl ?_
            refine r_istore S dX12_household_53 rfl rfl ?_
            refine r_aload_n S rfl dX12_household_55 ?_
            refine r_dup S rfl dX12_household_56 ?_
            refine r_getI S (v := I 72 1) fk_X12_109 dX12_household_57 rfl rfl (Nat.lt_of_lt_of_le (by decide) hn) rfl ?_
            refine r_iconst S dX12_household_60 ?_
            refine r_iadd S dX12_household_61 ?_
            refine r_putI S fk_X12_109 dX12_household_62 rfl rfl (Nat.lt_of_lt_of_le (by decide) hn) (Or.inl rfl) (Or.inl rfl) ?_
            refine r_aload_n S rfl dX12_household_65 ?_
            refine r_getR S (o' := 76) fk_X12_19 dX12_household_66 rfl rfl (Nat.lt_of_lt_of_le (by decide) hn) rfl ?_
            refine r_iload S rfl dX12_household_69 ?_
            refine r_iload_n S rfl dX12_household_71 ?_
            refine r_iast S dX12_household_72 rfl rfl (Nat.lt_of_lt_of_le (by decide) hn) (by omega) (by omega) ?_
            refine r_aload_n S rfl dX12_household_73 ?_
            refine r_getR S (o' := 77) fk_X12_22 dX12_household_74 rfl rfl (Nat.lt_of_lt_of_le (by decide) hn) rfl ?_
            refine r_iload S rfl dX12_household_77 ?_
            refine r_iload_n S rfl dX12_household_79 ?_
            refine r_iast S dX12_household_80 rfl rfl (Nat.lt_of_lt_of_le (by decide) hn) (by omega) (by omega) ?_
            refine r_aload_n S rfl dX12_household_81 ?_
            refine r_getR S (o' := 78) fk_X12_25 dX12_household_82 rfl rfl (Nat.lt_of_lt_of_le (by decide) hn) rfl ?_
            refine r_iload S rfl dX12_household_85 ?_
            refine r_iload_n S rfl dX12_household_87 ?_
            refine r_iast S dX12_household_88 rfl rfl (Nat.lt_of_lt_of_le (by decide) hn) (by omega) (by omega) ?_
            refine r_aload_n S rfl dX12_household_89 ?_
            refine r_getR S (o' := 79) fk_X12_28 dX12_household_90 rfl rfl (Nat.lt_of_lt_of_le (by decide) hn) rfl ?_
            refine r_iload S rfl dX12_household_93 ?_
            refine r_iload S rfl dX12_household_95 ?_
            refine r_iast S dX12_household_97 rfl rfl (Nat.lt_of_lt_of_le (by decide) hn) (by omega) (by omega) ?_
            refine r_aload_n S rfl dX12_household_98 ?_
            refine r_getR S (o' := 85) fk_X12_46 dX12_household_99 rfl rfl (Nat.lt_of_lt_of_le (by decide) hn) rfl ?_
            refine r_iload S rfl dX12_household_102 ?_
            refine r_iload S rfl dX12_household_104 ?_
            refine r_bast S dX12_household_106 rfl rfl (Nat.lt_of_lt_of_le (by decide) hn) (by omega) (by omega) hp ?_
            refine r_aload_n S rfl dX12_household_107 ?_
            refine r_getR S (o' := 80) fk_X12_31 dX12_household_108 rfl rfl (Nat.lt_of_lt_of_le (by decide) hn) rfl ?_
            refine r_iload S rfl dX12_household_111 ?_
            refine r_iconst S dX12_household_113 ?_
            refine r_iast S dX12_household_114 rfl rfl (Nat.lt_of_lt_of_le (by decide) hn) (by omega) (by omega) ?_
            refine r_iload S rfl dX12_household_115 ?_
            refine r_iret SR dX12_household_117 ⟨by decide, by decide⟩ ?_
            exact ⟨rfl, rfl, Or.inl ⟨by omega, rfl, rfl⟩⟩
          · refine r_iconst S dX12_household_47 ?_
            refine r_iret SR dX12_household_48 ⟨by decide, by decide⟩ ?_
            exact ⟨rfl, rfl, Or.inr ⟨by omega, rfl, rfl⟩⟩
end
