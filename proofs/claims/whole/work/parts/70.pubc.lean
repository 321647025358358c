/-! ===== what the class's calls come to (the smaller ones) ===== -/
/-- one of two: P, and it answers r and leaves W; or not, and it answers r0 and leaves I -/
def Two (P : Prop) (r r0 : Int) (W I : Iv) (n : Nat) (ρ : Rv) : Pt5 := fun v n' I' ρ' => n = n' ∧ ρ = ρ' ∧ ((P ∧ v = some (.int (jI r)) ∧ W = I') ∨ (¬ P ∧ v = some (.int (jI r0)) ∧ I = I'))
abbrev hhP (v p l t c : Int) : Prop := (0 ≤ v ∧ v ≤ 3) ∧ (1 ≤ p ∧ p ≤ 20) ∧ (0 ≤ l ∧ l ≤ 99) ∧ (0 ≤ t ∧ t ≤ 99) ∧ c < 8
def hhW (I : Iv) (c v p l t q : Int) : Iv := up (up (up (up (up (up (up (up I 0 11 0) 5 c v) 6 c p) 7 c l) 8 c t) 9 c q) 10 c (-1)) 4 0 (c + 1)
abbrev tiP (a b v c : Int) : Prop := (0 ≤ a ∧ a < c) ∧ (0 ≤ b ∧ b < c) ∧ ¬ a = b ∧ 0 ≤ v ∧ v ≤ 9
def tiW (I : Iv) (a b v : Int) : Iv := if I (29 + a.toNat) b = v then I else up (up (up I (29 + a.toNat) b v) (29 + b.toNat) a v) 16 7 (-1)
section
variable (G : GE) (n : Nat) (I : Iv) (bk dr : Nat) (pt : Option Nat)
theorem c_X11_water (hn : 103 ≤ n) {a l : Int} (ha : rg a) (hl : rg l) (hm : rg (I 0 0)) : Ct G yX11_water cX11_water 3 (some .boolean) 2 0 0 [.ref (gb G + 0), .int (jI a), .int (jI l)] n I (rst bk dr pt) (Two (I 0 0 ≤ a ∧ (0 ≤ a ∧ a ≤ 35) ∧ 0 ≤ l ∧ l ≤ 99) 1 0 (up I 2 a l) I n (rst bk dr pt)) := by
  refine Ct.of [some (.ref (gb G + 0)), some (.int (jI a)), some (.int (jI l))] (by decide) rfl rfl rfl ?_
  intro k SR
  have S : Sem G RX11 "water" cX11_water 3 (rmD 2 0 0) k := SR.sem
  refine r_iload_n S rfl dX11_water_0 ?_
  refine r_aload_n S rfl dX11_water_1 ?_
  refine r_getI S (v := I 0 0) fk_X11_7 dX11_water_2 rfl rfl (Nat.lt_of_lt_of_le (by decide) hn) rfl ?_
  refine r_icmp_lt S (tgt := 24) dX11_water_5 (by decide) ha hm (fun c5 => ?_) (fun c5 => ?_)
  · refine r_iconst S dX11_water_24 ?_
    refine r_zret SR dX11_water_25 (by decide) ⟨by decide, by decide⟩ ?_
    first | exact ⟨rfl, rfl, Or.inl ⟨by omega, rfl, (if_pos c17).symm⟩⟩ | exact ⟨rfl, rfl, Or.inr ⟨fun q => c17 q.2, rfl, (if_neg c17).symm⟩⟩ | exact ⟨rfl, rfl, Or.inr ⟨fun q => absurd c5 (by omega), rfl, rfl⟩⟩
  · refine r_aload_n S rfl dX11_water_8 ?_
    refine r_getR S (o' := 1) fk_X11_16 dX11_water_9 rfl rfl (Nat.lt_of_lt_of_le (by decide) hn) rfl ?_
    refine r_iload_n S rfl dX11_water_12 ?_
    refine r_iload_n S rfl dX11_water_13 ?_
    refine r_callV S lk_X11_80 mk_X3_setLevel (c_X3_setLevel G n I bk dr pt hn ha hl) rfl (Nat.lt_of_lt_of_le (by decide) hn) rfl rfl rfl (Nat.le_of_ble_eq_true rfl) ⟨by decide, by decide⟩ rfl ⟨by decide, by decide⟩ dX11_water_14 ?_
    rintro _ _ _ _ ⟨rfl, rfl, rfl, rfl⟩
    refine r_ifb_eq S (tgt := 24) dX11_water_17 (by decide)  (fun c17 => ?_) (fun c17 => ?_)
    · refine r_iconst S dX11_water_24 ?_
      refine r_zret SR dX11_water_25 (by decide) ⟨by decide, by decide⟩ ?_
      first | exact ⟨rfl, rfl, Or.inl ⟨by omega, rfl, (if_pos c17).symm⟩⟩ | exact ⟨rfl, rfl, Or.inr ⟨fun q => c17 q.2, rfl, (if_neg c17).symm⟩⟩ | exact ⟨rfl, rfl, Or.inr ⟨fun q => absurd c5 (by omega), rfl, rfl⟩⟩
    · refine r_iconst S dX11_water_20 ?_
      refine r_goto S (tgt := 25) dX11_water_21 (by decide) ?_
      refine r_zret SR dX11_water_25 (by decide) ⟨by decide, by decide⟩ ?_
      first | exact ⟨rfl, rfl, Or.inl ⟨by omega, rfl, (if_pos c17).symm⟩⟩ | exact ⟨rfl, rfl, Or.inr ⟨fun q => c17 q.2, rfl, (if_neg c17).symm⟩⟩ | exact ⟨rfl, rfl, Or.inr ⟨fun q => absurd c5 (by omega), rfl, rfl⟩⟩
theorem c_X11_village (hn : 103 ≤ n) {a l : Int} (ha : rg a) (hl : rg l) : Ct G yX11_village cX11_village 3 (some .boolean) 2 0 0 [.ref (gb G + 0), .int (jI a), .int (jI l)] n I (rst bk dr pt) (Two ((0 ≤ a ∧ a ≤ 3) ∧ 0 ≤ l ∧ l ≤ 99) 1 0 (up I 3 a l) I n (rst bk dr pt)) := by
  refine Ct.of [some (.ref (gb G + 0)), some (.int (jI a)), some (.int (jI l))] (by decide) rfl rfl rfl ?_
  intro k SR
  have S : Sem G RX11 "village" cX11_village 3 (rmD 2 0 0) k := SR.sem
  refine r_aload_n S rfl dX11_village_0 ?_
  refine r_getR S (o' := 1) fk_X11_16 dX11_village_1 rfl rfl (Nat.lt_of_lt_of_le (by decide) hn) rfl ?_
  refine r_iload_n S rfl dX11_village_4 ?_
  refine r_iload_n S rfl dX11_village_5 ?_
  refine r_callV S lk_X11_84 mk_X3_setHeight (c_X3_setHeight G n I bk dr pt hn ha hl) rfl (Nat.lt_of_lt_of_le (by decide) hn) rfl rfl rfl (Nat.le_of_ble_eq_true rfl) ⟨by decide, by decide⟩ rfl ⟨by decide, by decide⟩ dX11_village_6 ?_
  rintro _ _ _ _ ⟨rfl, rfl, rfl, rfl⟩
  refine r_zret SR dX11_village_9 (by first | exact b2_01 _ | omega) ⟨by decide, by decide⟩ ?_
  by_cases q : (0 ≤ a ∧ a ≤ 3) ∧ 0 ≤ l ∧ l ≤ 99
  · exact ⟨rfl, rfl, Or.inl ⟨q, by rw [b2_t q], (if_pos q).symm⟩⟩
  · exact ⟨rfl, rfl, Or.inr ⟨q, by rw [b2_f q], (if_neg q).symm⟩⟩
theorem c_X11_builders (hn : 103 ≤ n) {a l : Int} (ha : rg a) (hl : rg l) (hm : rg (I 0 0)) : Ct G yX11_builders cX11_builders 3 (some .boolean) 2 0 0 [.ref (gb G + 0), .int (jI a), .int (jI l)] n I (rst bk dr pt) (Two (I 0 0 ≤ a ∧ (0 ≤ a ∧ a ≤ 35) ∧ 0 ≤ l ∧ l ≤ 8) 1 0 (up I 15 a l) I n (rst bk dr pt)) := by
  refine Ct.of [some (.ref (gb G + 0)), some (.int (jI a)), some (.int (jI l))] (by decide) rfl rfl rfl ?_
  intro k SR
  have S : Sem G RX11 "builders" cX11_builders 3 (rmD 2 0 0) k := SR.sem
  refine r_iload_n S rfl dX11_builders_0 ?_
  refine r_aload_n S rfl dX11_builders_1 ?_
  refine r_getI S (v := I 0 0) fk_X11_7 dX11_builders_2 rfl rfl (Nat.lt_of_lt_of_le (by decide) hn) rfl ?_
  refine r_icmp_lt S (tgt := 24) dX11_builders_5 (by decide) ha hm (fun c5 => ?_) (fun c5 => ?_)
  · refine r_iconst S dX11_builders_24 ?_
    refine r_zret SR dX11_builders_25 (by decide) ⟨by decide, by decide⟩ ?_
    first | exact ⟨rfl, rfl, Or.inl ⟨by omega, rfl, (if_pos c17).symm⟩⟩ | exact ⟨rfl, rfl, Or.inr ⟨fun q => c17 q.2, rfl, (if_neg c17).symm⟩⟩ | exact ⟨rfl, rfl, Or.inr ⟨fun q => absurd c5 (by omega), rfl, rfl⟩⟩
  · refine r_aload_n S rfl dX11_builders_8 ?_
    refine r_getR S (o' := 14) fk_X11_30 dX11_builders_9 rfl rfl (Nat.lt_of_lt_of_le (by decide) hn) rfl ?_
    refine r_iload_n S rfl dX11_builders_12 ?_
    refine r_iload_n S rfl dX11_builders_13 ?_
    refine r_callV S lk_X11_120 mk_X0_setHouses (c_X0_setHouses G n I bk dr pt hn ha hl) rfl (Nat.lt_of_lt_of_le (by decide) hn) rfl rfl rfl (Nat.le_of_ble_eq_true rfl) ⟨by decide, by decide⟩ rfl ⟨by decide, by decide⟩ dX11_builders_14 ?_
    rintro _ _ _ _ ⟨rfl, rfl, rfl, rfl⟩
    refine r_ifb_eq S (tgt := 24) dX11_builders_17 (by decide)  (fun c17 => ?_) (fun c17 => ?_)
    · refine r_iconst S dX11_builders_24 ?_
      refine r_zret SR dX11_builders_25 (by decide) ⟨by decide, by decide⟩ ?_
      first | exact ⟨rfl, rfl, Or.inl ⟨by omega, rfl, (if_pos c17).symm⟩⟩ | exact ⟨rfl, rfl, Or.inr ⟨fun q => c17 q.2, rfl, (if_neg c17).symm⟩⟩ | exact ⟨rfl, rfl, Or.inr ⟨fun q => absurd c5 (by omega), rfl, rfl⟩⟩
    · refine r_iconst S dX11_builders_20 ?_
      refine r_goto S (tgt := 25) dX11_builders_21 (by decide) ?_
      refine r_zret SR dX11_builders_25 (by decide) ⟨by decide, by decide⟩ ?_
      first | exact ⟨rfl, rfl, Or.inl ⟨by omega, rfl, (if_pos c17).symm⟩⟩ | exact ⟨rfl, rfl, Or.inr ⟨fun q => c17 q.2, rfl, (if_neg c17).symm⟩⟩ | exact ⟨rfl, rfl, Or.inr ⟨fun q => absurd c5 (by omega), rfl, rfl⟩⟩
theorem c_X11_drowned (hn : 103 ≤ n) {a : Int} (ha : rg a) (h2 : ∀ j, 0 ≤ j → j < 36 → rg (I 2 j)) (h3 : ∀ j, 0 ≤ j → j < 4 → rg (I 3 j)) : Ct G yX11_drowned cX11_drowned 2 (some .int) 2 0 0 [.ref (gb G + 0), .int (jI a)] n I (rst bk dr pt) (PI (if 0 ≤ a ∧ a ≤ 3 then fm (I 2) (I 3 a) else -1) n I (rst bk dr pt)) := by
  refine Ct.of [some (.ref (gb G + 0)), some (.int (jI a))] (by decide) rfl rfl rfl ?_
  intro k SR
  have S : Sem G RX11 "drowned" cX11_drowned 2 (rmD 2 0 0) k := SR.sem
  refine r_aload_n S rfl dX11_drowned_0 ?_
  refine r_getR S (o' := 1) fk_X11_16 dX11_drowned_1 rfl rfl (Nat.lt_of_lt_of_le (by decide) hn) rfl ?_
  refine r_iload_n S rfl dX11_drowned_4 ?_
  refine r_callV S lk_X11_87 mk_X3_monthOf (c_X3_monthOf G n I bk dr pt hn ha h2 h3) rfl (Nat.lt_of_lt_of_le (by decide) hn) rfl rfl rfl (Nat.le_of_ble_eq_true rfl) ⟨by decide, by decide⟩ rfl ⟨by decide, by decide⟩ dX11_drowned_5 ?_
  rintro _ _ _ _ ⟨rfl, rfl, rfl, rfl⟩
  refine r_iret SR dX11_drowned_8 ⟨by decide, by decide⟩ ?_
  exact ⟨rfl, rfl, rfl, rfl⟩
theorem c_X11_end (hn : 103 ≤ n) {a : Int} (ha : rg a) (h0 : rg (I 53 0)) : Ct G yX11_end cX11_end 2 (some .boolean) 1 0 0 [.ref (gb G + 0), .int (jI a)] n I (rst bk dr pt) (Two (0 ≤ a ∧ a ≤ I 53 0) 1 0 (up I 53 0 a) I n (rst bk dr pt)) := by
  refine Ct.of [some (.ref (gb G + 0)), some (.int (jI a))] (by decide) rfl rfl rfl ?_
  intro k SR
  have S : Sem G RX11 "end" cX11_end 2 (rmD 1 0 0) k := SR.sem
  refine r_aload_n S rfl dX11_end_0 ?_
  refine r_getR S (o' := 53) fk_X11_51 dX11_end_1 rfl rfl (Nat.lt_of_lt_of_le (by decide) hn) rfl ?_
  refine r_iload_n S rfl dX11_end_4 ?_
  refine r_callV S lk_X11_130 mk_X8_cutTo (c_X8_cutTo G n I bk dr pt hn ha h0) rfl (Nat.lt_of_lt_of_le (by decide) hn) rfl rfl rfl (Nat.le_of_ble_eq_true rfl) ⟨by decide, by decide⟩ rfl ⟨by decide, by decide⟩ dX11_end_5 ?_
  rintro _ _ _ _ ⟨rfl, rfl, rfl, rfl⟩
  refine r_zret SR dX11_end_8 (by first | exact b2_01 _ | omega) ⟨by decide, by decide⟩ ?_
  by_cases q : 0 ≤ a ∧ a ≤ I 53 0
  · exact ⟨rfl, rfl, Or.inl ⟨q, by rw [b2_t q], (if_pos q).symm⟩⟩
  · exact ⟨rfl, rfl, Or.inr ⟨q, by rw [b2_f q], (if_neg q).symm⟩⟩
theorem c_X11_fault (hn : 103 ≤ n) {a : Int} (ha : rg a) : Ct G yX11_fault cX11_fault 2 (some .int) 0 0 0 [.ref (gb G + 0), .int (jI a)] n I (rst bk dr pt) (PI (if a = 0 then I 55 0 else if a = 1 then I 55 1 else -1) n I (rst bk dr pt)) := by
  refine Ct.of [some (.ref (gb G + 0)), some (.int (jI a))] (by decide) rfl rfl rfl ?_
  intro k SR
  have S : Sem G RX11 "fault" cX11_fault 2 (rmD 0 0 0) k := SR.sem
  refine r_iload_n S rfl dX11_fault_0 ?_
  rcases (by omega : a = 0 ∨ a = 1 ∨ (¬ a = 0 ∧ ¬ a = 1)) with c1 | c1 | c1
  · refine r_lookup S (off := 27) (tgt := 28) dX11_fault_1 ha (by decide) (by rw [c1]; decide) (by decide) ?_
    refine r_aload_n S rfl dX11_fault_28 ?_
    refine r_getR S (o' := 55) fk_X11_58 dX11_fault_29 rfl rfl (Nat.lt_of_lt_of_le (by decide) hn) rfl ?_
    refine r_getI S (v := I 55 0) fk_X11_140 dX11_fault_32 rfl rfl (Nat.lt_of_lt_of_le (by decide) hn) rfl ?_
    refine r_iret SR dX11_fault_35 ⟨by decide, by decide⟩ ?_
    exact ⟨by rw [if_pos c1], rfl, rfl, rfl⟩
  · refine r_lookup S (off := 35) (tgt := 36) dX11_fault_1 ha (by decide) (by rw [c1]; decide) (by decide) ?_
    refine r_aload_n S rfl dX11_fault_36 ?_
    refine r_getR S (o' := 55) fk_X11_58 dX11_fault_37 rfl rfl (Nat.lt_of_lt_of_le (by decide) hn) rfl ?_
    refine r_getI S (v := I 55 1) fk_X11_143 dX11_fault_40 rfl rfl (Nat.lt_of_lt_of_le (by decide) hn) rfl ?_
    refine r_iret SR dX11_fault_43 ⟨by decide, by decide⟩ ?_
    exact ⟨by rw [if_neg (by omega), if_pos c1], rfl, rfl, rfl⟩
  · refine r_lookup S (off := 43) (tgt := 44) dX11_fault_1 ha (by decide) (by simp [Op.lookupswitch.offset_cons, Op.lookupswitch.offset, c1, eq_comm]) (by decide) ?_
    refine r_iconst S dX11_fault_44 ?_
    refine r_iret SR dX11_fault_45 ⟨by decide, by decide⟩ ?_
    exact ⟨by rw [if_neg c1.1, if_neg c1.2], rfl, rfl, rfl⟩
theorem c_X11_papers (hn : 103 ≤ n) {a : Int} (ha : rg a) (h0 : 0 ≤ I 4 0) (h1 : I 4 0 ≤ 8) (h9 : ∀ j, 0 ≤ j → j < I 4 0 → rg (I 9 j)) : Ct G yX11_papers cX11_papers 3 (some .boolean) 2 0 0 [.ref (gb G + 0), .int (jI a)] n I (rst bk dr pt) (Two ((0 ≤ a ∧ a < I 4 0) ∧ ¬ I 9 a = 1) 1 0 (up (up I 9 a 1) 0 11 0) I n (rst bk dr pt)) := by
  refine Ct.of [some (.ref (gb G + 0)), some (.int (jI a)), none] (by decide) rfl rfl rfl ?_
  intro k SR
  have S : Sem G RX11 "papers" cX11_papers 3 (rmD 2 0 0) k := SR.sem
  refine r_aload_n S rfl dX11_papers_0 ?_
  refine r_getR S (o' := 4) fk_X11_23 dX11_papers_1 rfl rfl (Nat.lt_of_lt_of_le (by decide) hn) rfl ?_
  refine r_iload_n S rfl dX11_papers_4 ?_
  refine r_callV S lk_X11_103 mk_X4_givePapers (c_X4_givePapers G n I bk dr pt hn ha h0 h1 h9) rfl (Nat.lt_of_lt_of_le (by decide) hn) rfl rfl rfl (Nat.le_of_ble_eq_true rfl) ⟨by decide, by decide⟩ rfl ⟨by decide, by decide⟩ dX11_papers_5 ?_
  rintro _ _ _ _ ⟨rfl, rfl, rfl, rfl⟩
  refine r_istore_n S dX11_papers_8 rfl rfl ?_
  refine r_iload_n S rfl dX11_papers_9 ?_
  refine r_ifb_eq S (tgt := 18) dX11_papers_10 (by decide)  (fun c10 => ?_) (fun c10 => ?_)
  · refine r_iload_n S rfl dX11_papers_18 ?_
    refine r_zret SR dX11_papers_19 (by first | exact b2_01 _ | omega) ⟨by decide, by decide⟩ ?_
    first | exact ⟨rfl, rfl, Or.inl ⟨c10, by rw [b2_t c10], by rw [if_pos c10]⟩⟩ | exact ⟨rfl, rfl, Or.inr ⟨c10, by rw [b2_f c10], by rw [if_neg c10]⟩⟩
  · refine r_aload_n S rfl dX11_papers_13 ?_
    refine r_iconst S dX11_papers_14 ?_
    refine r_putI S fk_X11_76 dX11_papers_15 rfl rfl (Nat.lt_of_lt_of_le (by decide) hn) (Or.inl rfl) (Or.inr ⟨rfl, (by decide)⟩) ?_
    refine r_iload_n S rfl dX11_papers_18 ?_
    refine r_zret SR dX11_papers_19 (by first | exact b2_01 _ | omega) ⟨by decide, by decide⟩ ?_
    first | exact ⟨rfl, rfl, Or.inl ⟨c10, by rw [b2_t c10], by rw [if_pos c10]⟩⟩ | exact ⟨rfl, rfl, Or.inr ⟨c10, by rw [b2_f c10], by rw [if_neg c10]⟩⟩
theorem c_X11_field (hn : 103 ≤ n) {a : Int} (ha : rg a) (h0 : 0 ≤ I 51 0) (h1 : I 51 0 ≤ 10) : Ct G yX11_field cX11_field 2 (some .int) 2 0 0 [.ref (gb G + 0), .int (jI a)] n I (rst bk dr pt) (Two ((1 ≤ a ∧ a ≤ 999) ∧ I 51 0 < 10) (I 51 0) (-1) (up (up (up I 0 11 0) 52 (I 51 0) a) 51 0 (I 51 0 + 1)) I n (rst bk dr pt)) := by
  refine Ct.of [some (.ref (gb G + 0)), some (.int (jI a))] (by decide) rfl rfl rfl ?_
  intro k SR
  have S : Sem G RX11 "field" cX11_field 2 (rmD 2 0 0) k := SR.sem
  refine r_iload_n S rfl dX11_field_0 ?_
  refine r_iconst S dX11_field_1 ?_
  refine r_sipush S (by decide +kernel) dX11_field_2 ?_
  refine r_callS S lk_X11_91 mk_X11_isWithin (c_X11_isWithin G n I (rst bk dr pt) ha (by decide) (by decide)) rfl rfl (Nat.le_of_ble_eq_true rfl) ⟨by decide, by decide⟩ rfl ⟨by decide, by decide⟩ dX11_field_5 ?_
  rintro _ _ _ _ ⟨rfl, rfl, rfl, rfl⟩
  refine r_ifb_eq S (tgt := 21) dX11_field_8 (by decide)  (fun c8 => ?_) (fun c8 => ?_)
  · refine r_iconst S dX11_field_21 ?_
    refine r_iret SR dX11_field_22 ⟨by decide, by decide⟩ ?_
    exact ⟨rfl, rfl, Or.inr ⟨by omega, rfl, rfl⟩⟩
  · refine r_aload_n S rfl dX11_field_11 ?_
    refine r_getR S (o' := 51) fk_X11_44 dX11_field_12 rfl rfl (Nat.lt_of_lt_of_le (by decide) hn) rfl ?_
    refine r_callV S lk_X11_117 mk_X2_isFull (c_X2_isFull G n I bk dr pt hn (by omega)) rfl (Nat.lt_of_lt_of_le (by decide) hn) rfl rfl rfl (Nat.le_of_ble_eq_true rfl) ⟨by decide, by decide⟩ rfl ⟨by decide, by decide⟩ dX11_field_15 ?_
    rintro _ _ _ _ ⟨rfl, rfl, rfl, rfl⟩
    refine r_ifb_eq S (tgt := 23) dX11_field_18 (by decide)  (fun c18 => ?_) (fun c18 => ?_)
    · refine r_aload_n S rfl dX11_field_23 ?_
      refine r_iconst S dX11_field_24 ?_
      refine r_putI S fk_X11_76 dX11_field_25 rfl rfl (Nat.lt_of_lt_of_le (by decide) hn) (Or.inl rfl) (Or.inr ⟨rfl, (by decide)⟩) ?_
      refine r_aload_n S rfl dX11_field_28 ?_
      refine r_getR S (o' := 51) fk_X11_44 dX11_field_29 rfl rfl (Nat.lt_of_lt_of_le (by decide) hn) rfl ?_
      refine r_iload_n S rfl dX11_field_32 ?_
      refine r_callV S lk_X11_118 mk_X2_add (c_X2_add G n (up I 0 11 0) bk dr pt hn (a := a) h0 (show I 51 0 < 10 by omega)) rfl (Nat.lt_of_lt_of_le (by decide) hn) rfl rfl rfl (Nat.le_of_ble_eq_true rfl) ⟨by decide, by decide⟩ rfl ⟨by decide, by decide⟩ dX11_field_33 ?_
      rintro _ _ _ _ ⟨rfl, rfl, rfl, rfl⟩
      refine r_iret SR dX11_field_36 ⟨by decide, by decide⟩ ?_
      exact ⟨rfl, rfl, Or.inl ⟨by omega, rfl, rfl⟩⟩
    · refine r_iconst S dX11_field_21 ?_
      refine r_iret SR dX11_field_22 ⟨by decide, by decide⟩ ?_
      exact ⟨rfl, rfl, Or.inr ⟨by omega, rfl, rfl⟩⟩
theorem c_X11_household (hn : 103 ≤ n) {a b c d p : Int} (ha : rg a) (hb : rg b) (hc : rg c) (hd : rg d) (hp : p = 0 ∨ p = 1) (h0 : 0 ≤ I 4 0) (h1 : I 4 0 ≤ 8) : Ct G yX11_household cX11_household 7 (some .int) 2 0 0 [.ref (gb G + 0), .int (jI a), .int (jI b), .int (jI c), .int (jI d), .int (jI p)] n I (rst bk dr pt) (Two (hhP a b c d (I 4 0)) (I 4 0) (-1) (hhW I (I 4 0) a b c d p) I n (rst bk dr pt)) := by
  refine Ct.of [some (.ref (gb G + 0)), some (.int (jI a)), some (.int (jI b)), some (.int (jI c)), some (.int (jI d)), some (.int (jI p)), none] (by decide) rfl rfl rfl ?_
  intro k SR
  have S : Sem G RX11 "household" cX11_household 7 (rmD 2 0 0) k := SR.sem
  have at47 : ∀ z : Int, (z = 0 ∧ ¬ hhP a b c d (I 4 0)) ∨ (z = 1 ∧ ((0 ≤ a ∧ a ≤ 3) ∧ (1 ≤ b ∧ b ≤ 20) ∧ (0 ≤ c ∧ c ≤ 99) ∧ (0 ≤ d ∧ d ≤ 99))) → k 47 [some (.ref (gb G + 0)), some (.int (jI a)), some (.int (jI b)), some (.int (jI c)), some (.int (jI d)), some (.int (jI p)), some (.int (jI z))] [] n I (rst bk dr pt) 0 0 := by
    intro z hz
    refine r_iload S rfl dX11_household_47 ?_
    refine r_if_eq S (tgt := 62) dX11_household_49 (by decide) (by omega) (fun c49 => ?_) (fun c49 => ?_)
    · refine r_iconst S dX11_household_62 ?_
      refine r_iret SR dX11_household_63 ⟨by decide, by decide⟩ ?_
      exact ⟨rfl, rfl, Or.inr ⟨by omega, rfl, rfl⟩⟩
    · refine r_aload_n S rfl dX11_household_52 ?_
      refine r_getR S (o' := 4) fk_X11_23 dX11_household_53 rfl rfl (Nat.lt_of_lt_of_le (by decide) hn) rfl ?_
      refine r_callV S lk_X11_95 mk_X4_isFull (c_X4_isFull G n I bk dr pt hn (by omega)) rfl (Nat.lt_of_lt_of_le (by decide) hn) rfl rfl rfl (Nat.le_of_ble_eq_true rfl) ⟨by decide, by decide⟩ rfl ⟨by decide, by decide⟩ dX11_household_56 ?_
      rintro _ _ _ _ ⟨rfl, rfl, rfl, rfl⟩
      refine r_ifb_eq S (tgt := 64) dX11_household_59 (by decide)  (fun c59 => ?_) (fun c59 => ?_)
      · refine r_aload_n S rfl dX11_household_64 ?_
        refine r_iconst S dX11_household_65 ?_
        refine r_putI S fk_X11_76 dX11_household_66 rfl rfl (Nat.lt_of_lt_of_le (by decide) hn) (Or.inl rfl) (Or.inr ⟨rfl, (by decide)⟩) ?_
        refine r_aload_n S rfl dX11_household_69 ?_
        refine r_getR S (o' := 4) fk_X11_23 dX11_household_70 rfl rfl (Nat.lt_of_lt_of_le (by decide) hn) rfl ?_
        refine r_iload_n S rfl dX11_household_73 ?_
        refine r_iload_n S rfl dX11_household_74 ?_
        refine r_iload_n S rfl dX11_household_75 ?_
        refine r_iload S rfl dX11_household_76 ?_
        refine r_iload S rfl dX11_household_78 ?_
        refine r_callV S lk_X11_99 mk_X4_add (c_X4_add G n (up I 0 11 0) bk dr pt hn (a := a) (b := b) (c := c) (d := d) hp h0 (show I 4 0 < 8 by omega)) rfl (Nat.lt_of_lt_of_le (by decide) hn) rfl rfl rfl (Nat.le_of_ble_eq_true rfl) ⟨by decide, by decide⟩ rfl ⟨by decide, by decide⟩ dX11_household_80 ?_
        rintro _ _ _ _ ⟨rfl, rfl, rfl, rfl⟩
        refine r_iret SR dX11_household_83 ⟨by decide, by decide⟩ ?_
        exact ⟨rfl, rfl, Or.inl ⟨by omega, rfl, rfl⟩⟩
      · refine r_iconst S dX11_household_62 ?_
        refine r_iret SR dX11_household_63 ⟨by decide, by decide⟩ ?_
        exact ⟨rfl, rfl, Or.inr ⟨by omega, rfl, rfl⟩⟩
  refine r_iload_n S rfl dX11_household_0 ?_
  refine r_iconst S dX11_household_1 ?_
  refine r_iconst S dX11_household_2 ?_
  refine r_callS S lk_X11_91 mk_X11_isWithin (c_X11_isWithin G n I (rst bk dr pt) ha (by decide) (by decide)) rfl rfl (Nat.le_of_ble_eq_true rfl) ⟨by decide, by decide⟩ rfl ⟨by decide, by decide⟩ dX11_household_3 ?_
  rintro _ _ _ _ ⟨rfl, rfl, rfl, rfl⟩
  refine r_ifb_eq S (tgt := 44) dX11_household_6 (by decide)  (fun c6 => ?_) (fun c6 => ?_)
  · refine r_iconst S dX11_household_44 ?_
    refine r_istore S dX11_household_45 rfl rfl ?_
    exact at47 _ (by omega)
  · refine r_iload_n S rfl dX11_household_9 ?_
    refine r_iconst S dX11_household_10 ?_
    refine r_bipush S (by decide +kernel) dX11_household_11 ?_
    refine r_callS S lk_X11_91 mk_X11_isWithin (c_X11_isWithin G n I (rst bk dr pt) hb (by decide) (by decide)) rfl rfl (Nat.le_of_ble_eq_true rfl) ⟨by decide, by decide⟩ rfl ⟨by decide, by decide⟩ dX11_household_13 ?_
    rintro _ _ _ _ ⟨rfl, rfl, rfl, rfl⟩
    refine r_ifb_eq S (tgt := 44) dX11_household_16 (by decide)  (fun c16 => ?_) (fun c16 => ?_)
    · refine r_iconst S dX11_household_44 ?_
      refine r_istore S dX11_household_45 rfl rfl ?_
      exact at47 _ (by omega)
    · refine r_iload_n S rfl dX11_household_19 ?_
      refine r_iconst S dX11_household_20 ?_
      refine r_bipush S (by decide +kernel) dX11_household_21 ?_
      refine r_callS S lk_X11_91 mk_X11_isWithin (c_X11_isWithin G n I (rst bk dr pt) hc (by decide) (by decide)) rfl rfl (Nat.le_of_ble_eq_true rfl) ⟨by decide, by decide⟩ rfl ⟨by decide, by decide⟩ dX11_household_23 ?_
      rintro _ _ _ _ ⟨rfl, rfl, rfl, rfl⟩
      refine r_ifb_eq S (tgt := 44) dX11_household_26 (by decide)  (fun c26 => ?_) (fun c26 => ?_)
      · refine r_iconst S dX11_household_44 ?_
        refine r_istore S dX11_household_45 rfl rfl ?_
        exact at47 _ (by omega)
      · refine r_iload S rfl dX11_household_29 ?_
        refine r_iconst S dX11_household_31 ?_
        refine r_bipush S (by decide +kernel) dX11_household_32 ?_
        refine r_callS S lk_X11_91 mk_X11_isWithin (c_X11_isWithin G n I (rst bk dr pt) hd (by decide) (by decide)) rfl rfl (Nat.le_of_ble_eq_true rfl) ⟨by decide, by decide⟩ rfl ⟨by decide, by decide⟩ dX11_household_34 ?_
        rintro _ _ _ _ ⟨rfl, rfl, rfl, rfl⟩
        refine r_ifb_eq S (tgt := 44) dX11_household_37 (by decide)  (fun c37 => ?_) (fun c37 => ?_)
        · refine r_iconst S dX11_household_44 ?_
          refine r_istore S dX11_household_45 rfl rfl ?_
          exact at47 _ (by omega)
        · refine r_iconst S dX11_household_40 ?_
          refine r_goto S (tgt := 45) dX11_household_41 (by decide) ?_
          refine r_istore S dX11_household_45 rfl rfl ?_
          exact at47 _ (by omega)
theorem c_X11_tie (hn : 103 ≤ n) {a b v : Int} (ha : rg a) (hb : rg b) (hv : rg v) (h0 : 0 ≤ I 4 0) (h1 : I 4 0 ≤ 8) (hr : ∀ i j : Nat, i < 8 → j < 8 → i ≠ j → rg (I (29 + i) (j : Int))) : Ct G yX11_tie cX11_tie 5 (some .boolean) 2 0 0 [.ref (gb G + 0), .int (jI a), .int (jI b), .int (jI v)] n I (rst bk dr pt) (Two (tiP a b v (I 4 0)) 1 0 (tiW I a b v) I n (rst bk dr pt)) := by
  refine Ct.of [some (.ref (gb G + 0)), some (.int (jI a)), some (.int (jI b)), some (.int (jI v)), none] (by decide) rfl rfl rfl ?_
  intro k SR
  have S : Sem G RX11 "tie" cX11_tie 5 (rmD 2 0 0) k := SR.sem
  have at44 : ∀ z : Int, (z = 0 ∧ ¬ tiP a b v (I 4 0)) ∨ (z = 1 ∧ tiP a b v (I 4 0)) → k 44 [some (.ref (gb G + 0)), some (.int (jI a)), some (.int (jI b)), some (.int (jI v)), some (.int (jI z))] [] n I (rst bk dr pt) 0 0 := by
    intro z hz
    refine r_iload S rfl dX11_tie_44 ?_
    refine r_if_eq S (tgt := 66) dX11_tie_46 (by decide) (by omega) (fun c46 => ?_) (fun c46 => ?_)
    · refine r_iconst S dX11_tie_66 ?_
      refine r_zret SR dX11_tie_67 (by decide) ⟨by decide, by decide⟩ ?_
      first | exact ⟨rfl, rfl, Or.inl ⟨hP, rfl, rfl⟩⟩ | exact ⟨rfl, rfl, Or.inr ⟨by omega, rfl, rfl⟩⟩
    · have hP : tiP a b v (I 4 0) := by omega
      have ea : ((a.toNat : Nat) : Int) = a := by omega
      have eb : ((b.toNat : Nat) : Int) = b := by omega
      have C := c_setTies G n I bk dr pt hn (a := a.toNat) (b := b.toNat) (v := v) (by omega) (by omega) (by omega) hv (hr _ _ (by omega) (by omega) (by omega))
      rw [ea, eb] at C
      refine r_aload_n S rfl dX11_tie_49 ?_
      refine r_getR S (o' := 16) fk_X11_37 dX11_tie_50 rfl rfl (Nat.lt_of_lt_of_le (by decide) hn) rfl ?_
      refine r_iload_n S rfl dX11_tie_53 ?_
      refine r_iload_n S rfl dX11_tie_54 ?_
      refine r_iload_n S rfl dX11_tie_55 ?_
      refine r_callV S lk_X11_110 mk_X10_setTies C rfl (Nat.lt_of_lt_of_le (by decide) hn) rfl rfl rfl (Nat.le_of_ble_eq_true rfl) ⟨by decide, by decide⟩ rfl ⟨by decide, by decide⟩ dX11_tie_56 ?_
      rintro _ _ _ _ ⟨rfl, rfl, rfl, rfl⟩
      refine r_if_eq S (tgt := 66) dX11_tie_59 (by decide) (by decide) (fun c59 => ?_) (fun c59 => ?_)
      · exact absurd c59 (by decide)
      · refine r_iconst S dX11_tie_62 ?_
        refine r_goto S (tgt := 67) dX11_tie_63 (by decide) ?_
        refine r_zret SR dX11_tie_67 (by decide) ⟨by decide, by decide⟩ ?_
        first | exact ⟨rfl, rfl, Or.inl ⟨hP, rfl, rfl⟩⟩ | exact ⟨rfl, rfl, Or.inr ⟨by omega, rfl, rfl⟩⟩
  refine r_aload_n S rfl dX11_tie_0 ?_
  refine r_getR S (o' := 4) fk_X11_23 dX11_tie_1 rfl rfl (Nat.lt_of_lt_of_le (by decide) hn) rfl ?_
  refine r_iload_n S rfl dX11_tie_4 ?_
  refine r_callV S lk_X11_107 mk_X4_has (c_X4_has G n I bk dr pt hn ha (by omega)) rfl (Nat.lt_of_lt_of_le (by decide) hn) rfl rfl rfl (Nat.le_of_ble_eq_true rfl) ⟨by decide, by decide⟩ rfl ⟨by decide, by decide⟩ dX11_tie_5 ?_
  rintro _ _ _ _ ⟨rfl, rfl, rfl, rfl⟩
  refine r_ifb_eq S (tgt := 41) dX11_tie_8 (by decide)  (fun c8 => ?_) (fun c8 => ?_)
  · refine r_iconst S dX11_tie_41 ?_
    refine r_istore S dX11_tie_42 rfl rfl ?_
    exact at44 _ (by omega)
  · refine r_aload_n S rfl dX11_tie_11 ?_
    refine r_getR S (o' := 4) fk_X11_23 dX11_tie_12 rfl rfl (Nat.lt_of_lt_of_le (by decide) hn) rfl ?_
    refine r_iload_n S rfl dX11_tie_15 ?_
    refine r_callV S lk_X11_107 mk_X4_has (c_X4_has G n I bk dr pt hn hb (by omega)) rfl (Nat.lt_of_lt_of_le (by decide) hn) rfl rfl rfl (Nat.le_of_ble_eq_true rfl) ⟨by decide, by decide⟩ rfl ⟨by decide, by decide⟩ dX11_tie_16 ?_
    rintro _ _ _ _ ⟨rfl, rfl, rfl, rfl⟩
    refine r_ifb_eq S (tgt := 41) dX11_tie_19 (by decide)  (fun c19 => ?_) (fun c19 => ?_)
    · refine r_iconst S dX11_tie_41 ?_
      refine r_istore S dX11_tie_42 rfl rfl ?_
      exact at44 _ (by omega)
    · refine r_iload_n S rfl dX11_tie_22 ?_
      refine r_iload_n S rfl dX11_tie_23 ?_
      refine r_icmp_eq S (tgt := 41) dX11_tie_24 (by decide) ha hb (fun c24 => ?_) (fun c24 => ?_)
      · refine r_iconst S dX11_tie_41 ?_
        refine r_istore S dX11_tie_42 rfl rfl ?_
        exact at44 _ (by omega)
      · refine r_iload_n S rfl dX11_tie_27 ?_
        refine r_iconst S dX11_tie_28 ?_
        refine r_bipush S (by decide +kernel) dX11_tie_29 ?_
        refine r_callS S lk_X11_91 mk_X11_isWithin (c_X11_isWithin G n I (rst bk dr pt) hv (by decide) (by decide)) rfl rfl (Nat.le_of_ble_eq_true rfl) ⟨by decide, by decide⟩ rfl ⟨by decide, by decide⟩ dX11_tie_31 ?_
        rintro _ _ _ _ ⟨rfl, rfl, rfl, rfl⟩
        refine r_ifb_eq S (tgt := 41) dX11_tie_34 (by decide)  (fun c34 => ?_) (fun c34 => ?_)
        · refine r_iconst S dX11_tie_41 ?_
          refine r_istore S dX11_tie_42 rfl rfl ?_
          exact at44 _ (by omega)
        · refine r_iconst S dX11_tie_37 ?_
          refine r_goto S (tgt := 42) dX11_tie_38 (by decide) ?_
          refine r_istore S dX11_tie_42 rfl rfl ?_
          exact at44 _ (by omega)
theorem c_addSite8 (hn : 103 ≤ n) {x y : Int} (eZ : I 16 0 = 8) : Ct G yX10_addSite cX10_addSite 5 (some .int) 1 0 0 [.ref (gb G + 16), .int (jI x), .int (jI y)] n I (rst bk dr pt) (PI (-1) n I (rst bk dr pt)) := by
  refine Ct.of [some (.ref (gb G + 16)), some (.int (jI x)), some (.int (jI y)), none, none] (by decide) rfl rfl rfl ?_
  intro k SR
  have S : Sem G RX10 "addSite" cX10_addSite 5 (rmD 1 0 0) k := SR.sem
  refine r_aload_n S rfl dX10_addSite_0 ?_
  refine r_getI S (v := I 16 0) fk_X10_9 dX10_addSite_1 rfl rfl (Nat.lt_of_lt_of_le (by decide) hn) rfl ?_
  refine r_bipush S (by decide +kernel) dX10_addSite_4 ?_
  refine r_icmp_lt S (tgt := 11) dX10_addSite_6 (by decide) (by omega) (by omega) (fun c6 => ?_) (fun c6 => ?_)
  · exact absurd c6 (by omega)
  · refine r_iconst S dX10_addSite_9 ?_
    refine r_iret SR dX10_addSite_10 ⟨by decide, by decide⟩ ?_
    exact ⟨rfl, rfl, rfl, rfl⟩
theorem c_X11_site (hn : 103 ≤ n) {Z : Nat} {x y : Int} (hx : rg x) (hy : rg y) (hZ : Z ≤ 8) (eZ : I 16 0 = Z) (hX : ∀ j, 0 ≤ j → j < 8 → 0 ≤ I 17 j ∧ I 17 j ≤ 20) (hY : ∀ j, 0 ≤ j → j < 8 → 0 ≤ I 18 j ∧ I 18 j ≤ 20) (hN : ∀ s t : Nat, s < Z → t < Z → s ≠ t → I (20 + s) (t : Int) = nrM (I 17) (I 18) s t) : Ct G yX11_site cX11_site 4 (some .int) 2 0 0 [.ref (gb G + 0), .int (jI x), .int (jI y)] n I (rst bk dr pt) (fun v n' I' ρ' => n = n' ∧ rst bk dr pt = ρ' ∧ ((((0 ≤ x ∧ x ≤ 20) ∧ (0 ≤ y ∧ y ≤ 20) ∧ Z < 8) ∧ v = some (.int (jI (Z : Int))) ∧ sitP I I' Z x y) ∨ (¬ ((0 ≤ x ∧ x ≤ 20) ∧ (0 ≤ y ∧ y ≤ 20) ∧ Z < 8) ∧ v = some (.int (jI (-1))) ∧ I = I'))) := by
  refine Ct.of [some (.ref (gb G + 0)), some (.int (jI x)), some (.int (jI y)), none] (by decide) rfl rfl rfl ?_
  intro k SR
  have S : Sem G RX11 "site" cX11_site 4 (rmD 2 0 0) k := SR.sem
  have at26 : ∀ z : Int, (z = 0 ∧ ¬ ((0 ≤ x ∧ x ≤ 20) ∧ (0 ≤ y ∧ y ≤ 20))) ∨ (z = 1 ∧ ((0 ≤ x ∧ x ≤ 20) ∧ (0 ≤ y ∧ y ≤ 20))) → k 26 [some (.ref (gb G + 0)), some (.int (jI x)), some (.int (jI y)), some (.int (jI z))] [] n I (rst bk dr pt) 0 0 := by
    intro z hz
    by_cases h8 : Z < 8
    · have h8' := h8
      refine r_iload_n S rfl dX11_site_26 ?_
      refine r_if_eq S (tgt := 42) dX11_site_27 (by decide) (by omega) (fun c27 => ?_) (fun c27 => ?_)
      · refine r_iconst S dX11_site_42 ?_
        refine r_iret SR dX11_site_43 ⟨by decide, by decide⟩ ?_
        first | exact ⟨rfl, rfl, Or.inl ⟨by omega, rfl, hJ⟩⟩ | exact ⟨rfl, rfl, Or.inr ⟨by omega, rfl, rfl⟩⟩
      · refine r_aload_n S rfl dX11_site_30 ?_
        refine r_getR S (o' := 16) fk_X11_37 dX11_site_31 rfl rfl (Nat.lt_of_lt_of_le (by decide) hn) rfl ?_
        refine r_iload_n S rfl dX11_site_34 ?_
        refine r_iload_n S rfl dX11_site_35 ?_
        refine r_callV S lk_X11_113 mk_X10_addSite (c_addSite G n I bk dr pt hn (Z := Z) (x := x) (y := y) h8 eZ (by omega) (by omega) hX hY hN) rfl (Nat.lt_of_lt_of_le (by decide) hn) rfl rfl rfl (Nat.le_of_ble_eq_true rfl) ⟨by decide, by decide⟩ rfl ⟨by decide, by decide⟩ dX11_site_36 ?_
        rintro _ _ J _ ⟨rfl, rfl, rfl, hJ⟩
        refine r_goto S (tgt := 43) dX11_site_39 (by decide) ?_
        refine r_iret SR dX11_site_43 ⟨by decide, by decide⟩ ?_
        first | exact ⟨rfl, rfl, Or.inl ⟨by omega, rfl, hJ⟩⟩ | exact ⟨rfl, rfl, Or.inr ⟨by omega, rfl, rfl⟩⟩
    · have e8 : Z = 8 := by omega
      refine r_iload_n S rfl dX11_site_26 ?_
      refine r_if_eq S (tgt := 42) dX11_site_27 (by decide) (by omega) (fun c27 => ?_) (fun c27 => ?_)
      · refine r_iconst S dX11_site_42 ?_
        refine r_iret SR dX11_site_43 ⟨by decide, by decide⟩ ?_
        exact ⟨rfl, rfl, Or.inr ⟨by omega, rfl, rfl⟩⟩
      · refine r_aload_n S rfl dX11_site_30 ?_
        refine r_getR S (o' := 16) fk_X11_37 dX11_site_31 rfl rfl (Nat.lt_of_lt_of_le (by decide) hn) rfl ?_
        refine r_iload_n S rfl dX11_site_34 ?_
        refine r_iload_n S rfl dX11_site_35 ?_
        refine r_callV S lk_X11_113 mk_X10_addSite (c_addSite8 G n I bk dr pt hn (x := x) (y := y) (by rw [eZ, e8]; rfl)) rfl (Nat.lt_of_lt_of_le (by decide) hn) rfl rfl rfl (Nat.le_of_ble_eq_true rfl) ⟨by decide, by decide⟩ rfl ⟨by decide, by decide⟩ dX11_site_36 ?_
        rintro _ _ _ _ ⟨rfl, rfl, rfl, rfl⟩
        refine r_goto S (tgt := 43) dX11_site_39 (by decide) ?_
        refine r_iret SR dX11_site_43 ⟨by decide, by decide⟩ ?_
        exact ⟨rfl, rfl, Or.inr ⟨by omega, rfl, rfl⟩⟩
  refine r_iload_n S rfl dX11_site_0 ?_
  refine r_iconst S dX11_site_1 ?_
  refine r_bipush S (by decide +kernel) dX11_site_2 ?_
  refine r_callS S lk_X11_91 mk_X11_isWithin (c_X11_isWithin G n I (rst bk dr pt) hx (by decide) (by decide)) rfl rfl (Nat.le_of_ble_eq_true rfl) ⟨by decide, by decide⟩ rfl ⟨by decide, by decide⟩ dX11_site_4 ?_
  rintro _ _ _ _ ⟨rfl, rfl, rfl, rfl⟩
  refine r_ifb_eq S (tgt := 24) dX11_site_7 (by decide)  (fun c7 => ?_) (fun c7 => ?_)
  · refine r_iconst S dX11_site_24 ?_
    refine r_istore_n S dX11_site_25 rfl rfl ?_
    exact at26 _ (by omega)
  · refine r_iload_n S rfl dX11_site_10 ?_
    refine r_iconst S dX11_site_11 ?_
    refine r_bipush S (by decide +kernel) dX11_site_12 ?_
    refine r_callS S lk_X11_91 mk_X11_isWithin (c_X11_isWithin G n I (rst bk dr pt) hy (by decide) (by decide)) rfl rfl (Nat.le_of_ble_eq_true rfl) ⟨by decide, by decide⟩ rfl ⟨by decide, by decide⟩ dX11_site_14 ?_
    rintro _ _ _ _ ⟨rfl, rfl, rfl, rfl⟩
    refine r_ifb_eq S (tgt := 24) dX11_site_17 (by decide)  (fun c17 => ?_) (fun c17 => ?_)
    · refine r_iconst S dX11_site_24 ?_
      refine r_istore_n S dX11_site_25 rfl rfl ?_
      exact at26 _ (by omega)
    · refine r_iconst S dX11_site_20 ?_
      refine r_goto S (tgt := 25) dX11_site_21 (by decide) ?_
      refine r_istore_n S dX11_site_25 rfl rfl ?_
      exact at26 _ (by omega)
end
