/-! ===== the class's reader: a rule, all rules ===== -/
theorem BkOk_nth {n : Nat} {ρ : Rv} {o : Nat} (h : BkOk n ρ o) : 103 ≤ n ∧ 60 ≤ o ∧ o ≤ 66 ∧ kd o = (8, 8) := ⟨h.2.2.2.2.2.2.2.2.2.2.2.2.2, h.2.2.2.2.2.2.2.2.2.2.2.1, h.2.2.2.2.2.2.2.2.2.2.2.2.1, h.1⟩
/-- where the reader's rule begins -/
def bPre (b : Nat) (I : Iv) (acc : RLs) (T : TL) : Prop := rPre b I (flat (cat acc)) T ∧ (flat (cat acc)).length + T.length ≤ 401 ∧ I b 0 = acc.length ∧ acc.length ≤ 10 ∧ posB (I (b + 2)) (I (b + 3)) (I (b + 4)) acc 0 0
section
variable (G : GE) (n : Nat) (I : Iv) (bk dr : Nat) (pt : Option Nat)
theorem c_readRule (hB : BkOk n (rst bk dr pt) dr) {acc : RLs} {T : TL} (hA : bPre dr I acc T) : Ct G yX7_readRule cX7_readRule 2 (some .boolean) 5 0 0 [.ref (gb G + 55), .ref (gb G + dr)] n I (rst bk dr pt) (fun v n' I' ρ' => n = n' ∧ rst bk dr pt = ρ' ∧ rrOnly dr I I' ∧ ∃ z : Int, v = some (.int (jI z)) ∧ ((z = 0 ∧ bBad I' (ruleP acc.length T)) ∨ (z = 1 ∧ bOk dr I' acc (ruleP acc.length T)))) := by
  obtain ⟨hn, hb, hb', k0⟩ := BkOk_nth hB
  refine Ct.of [some (.ref (gb G + 55)), some (.ref (gb G + dr))] (by decide) rfl rfl rfl ?_
  intro k SR
  have S : Sem G RX7 "readRule" cX7_readRule 2 (rmD 5 0 0) k := SR.sem
  obtain ⟨R, eR⟩ : ∃ R, R = ruleP acc.length T := ⟨_, rfl⟩
  rw [← eR] at SR
  obtain ⟨hP, hN, h0, h10, hpos⟩ := hA
  have hh := TLok_hd hP.1
  have hp := TL_pos hP.1
  have e1 : I dr 1 = (flat (cat acc)).length := hP.2.2.1.2
  have rest : ∀ (J : Iv), J = (if I dr 0 < 10 then up I (dr + 2) (I dr 0) (I dr 1) else I) → ¬ (hd T = -13 ∧ acc.length = 10) → k 29 [some (.ref (gb G + 55)), some (.ref (gb G + dr))] [] n J (rst bk dr pt) 0 0 := by
    intro J eJ hno
    have oJ : rrOnly dr I J := by
      rw [eJ]
      split
      · exact (rrOnly.rf _ _).ob hb (by omega) _ _
      · exact rrOnly.rf _ _
    have pJ : rPre dr J (flat (cat acc)) T := by
      rw [eJ]
      split
      · exact hP.ob hb (by omega) _ _
      · exact hP
    refine r_aload_n S rfl dX7_readRule_29 ?_
    refine r_bipush S (by decide +kernel) dX7_readRule_30 ?_
    refine r_callV S lk_X7_71 mk_X7_expect (c_X7_expect G n J bk dr pt hn pJ.1 pJ.2.1 (c := -13) (by decide)) rfl (Nat.lt_of_lt_of_le (by decide) hn) rfl rfl rfl (Nat.le_of_ble_eq_true rfl) ⟨by decide, by decide⟩ rfl ⟨by decide, by decide⟩ dX7_readRule_32 ?_
    rintro v _ J1 _ ⟨rfl, rfl, y, rfl, ey⟩
    have oJ1 : rrOnly dr I J1 := by
      rcases ey with ⟨-, -, e⟩ | ⟨-, -, e⟩
      · rw [e]; exact oJ.tr (rrOnly.rd (((rdOnly.rf _ _).put hb (Or.inl rfl) _ _).put hb (Or.inl rfl) _ _))
      · rw [e]; exact oJ.tr (rrOnly.rd ((rdOnly.rf _ _).adv hb))
    have hbad : y = 0 → rrOnly dr I J1 ∧ bBad J1 R := by
      intro hy
      rcases ey with ⟨-, n1, e⟩ | ⟨h, -⟩
      · refine ⟨oJ1, ?_⟩
        rw [e]
        exact bBad_of (eR.trans (ruleP_1 n1))
      · omega
    refine r_if_eq S (tgt := 55) dX7_readRule_35 (by decide) (by omega) (fun c35 => ?_) (fun c35 => ?_)
    · refine r_iconst S dX7_readRule_55 ?_
      refine r_zret SR dX7_readRule_56 (by decide) ⟨by decide, by decide⟩ ?_
      exact ⟨rfl, rfl, (hbad (by omega)).1, 0, rfl, Or.inl ⟨rfl, (hbad (by omega)).2⟩⟩
    · rcases ey with ⟨h, -⟩ | ⟨-, h13, eJ1⟩
      · omega
      have hl := TLok_len hP.1 (by omega)
      have h10' : ¬ acc.length = 10 := fun h => hno ⟨h13, h⟩
      rw [if_pos (by omega)] at eJ
      have pJ1 : rPre dr J1 (flat (cat acc)) (adv T) := by rw [eJ1]; exact pJ.adv hb
      have a0 : J1 dr 0 = acc.length := by rw [eJ1, advI_o _ (by omega), eJ, up_o (by omega)]; exact h0
      have a2 : ∀ j, J1 (dr + 2) j = up I (dr + 2) acc.length (flat (cat acc)).length (dr + 2) j := by intro j; rw [eJ1, advI_o _ (by omega), eJ, h0, e1]
      have a3 : J1 (dr + 3) = I (dr + 3) := by rw [eJ1, advI_o _ (by omega), eJ, up_o (by omega)]
      have a4 : J1 (dr + 4) = I (dr + 4) := by rw [eJ1, advI_o _ (by omega), eJ, up_o (by omega)]
      refine r_aload_n S rfl dX7_readRule_38 ?_
      refine r_aload_n S rfl dX7_readRule_39 ?_
      refine r_callV S lk_X7_74 mk_X7_readSum (c_readSum G n J1 bk dr pt hB pJ1.1 pJ1.2.1 pJ1.2.2.1 pJ1.2.2.2.1 pJ1.2.2.2.2 (by omega)) rfl (Nat.lt_of_lt_of_le (by decide) hn) rfl rfl rfl (Nat.le_of_ble_eq_true rfl) ⟨by decide, by decide⟩ rfl ⟨by decide, by decide⟩ dX7_readRule_40 ?_
      rintro v _ J2 _ ⟨rfl, rfl, o2, z, rfl, ez⟩
      have oJ2 := oJ1.tr (rrOnly.rd o2)
      have hbad : z = 0 → rrOnly dr I J2 ∧ bBad J2 R := by
        intro hz
        rcases ez with ⟨-, e, h1, h2, h3⟩ | ⟨h, -⟩
        · exact ⟨oJ2, e, eR.trans (ruleP_3 h13 h10' h1), h2, h3⟩
        · omega
      refine r_if_eq S (tgt := 55) dX7_readRule_43 (by decide) (by omega) (fun c43 => ?_) (fun c43 => ?_)
      · refine r_iconst S dX7_readRule_55 ?_
        refine r_zret SR dX7_readRule_56 (by decide) ⟨by decide, by decide⟩ ?_
        exact ⟨rfl, rfl, (hbad (by omega)).1, 0, rfl, Or.inl ⟨rfl, (hbad (by omega)).2⟩⟩
      · rcases ez with ⟨h, -⟩ | ⟨-, g, hg, pJ2⟩
        · omega
        obtain ⟨p1, p2, p3, p4, p5⟩ := PG_expr pJ1.1 g hg
        have pJ2' : rPre dr J2 (flat (cat acc) ++ flat g.1) g.2 := pJ2
        refine r_aload_n S rfl dX7_readRule_46 ?_
        refine r_bipush S (by decide +kernel) dX7_readRule_47 ?_
        refine r_callV S lk_X7_71 mk_X7_expect (c_X7_expect G n J2 bk dr pt hn pJ2'.1 pJ2'.2.1 (c := -14) (by decide)) rfl (Nat.lt_of_lt_of_le (by decide) hn) rfl rfl rfl (Nat.le_of_ble_eq_true rfl) ⟨by decide, by decide⟩ rfl ⟨by decide, by decide⟩ dX7_readRule_49 ?_
        rintro v _ J3 _ ⟨rfl, rfl, w, rfl, ew⟩
        have oJ3 : rrOnly dr I J3 := by
          rcases ew with ⟨-, -, e⟩ | ⟨-, -, e⟩
          · rw [e]; exact oJ2.tr (rrOnly.rd (((rdOnly.rf _ _).put hb (Or.inl rfl) _ _).put hb (Or.inl rfl) _ _))
          · rw [e]; exact oJ2.tr (rrOnly.rd ((rdOnly.rf _ _).adv hb))
        have hbad : w = 0 → rrOnly dr I J3 ∧ bBad J3 R := by
          intro hw
          rcases ew with ⟨-, n1, e⟩ | ⟨h, -⟩
          · refine ⟨oJ3, ?_⟩
            rw [e]
            exact bBad_of (eR.trans (ruleP_4 h13 h10' hg n1))
          · omega
        refine r_if_ne S (tgt := 57) dX7_readRule_52 (by decide) (by omega) (fun c52 => ?_) (fun c52 => ?_)
        · rcases ew with ⟨h, -⟩ | ⟨-, h14, eJ3⟩
          · omega
          have hl2 := TLok_len p1 (by omega)
          have pJ3 : rPre dr J3 (flat (cat acc) ++ flat g.1) (adv g.2) := by rw [eJ3]; exact pJ2'.adv hb
          have b0 : J3 dr 0 = acc.length := by rw [eJ3, advI_o _ (by omega), o2.2.2 0 (by decide)]; exact a0
          have b1 : J3 dr 1 = (flat (cat acc) ++ flat g.1).length := pJ3.2.2.1.2
          have bo : ∀ o, dr + 2 ≤ o → J3 o = J1 o := fun o ho => by rw [eJ3, advI_o _ (by omega)]; exact o2.1 o (by omega) (by omega) (by omega) (by omega) (by omega)
          refine r_aload_n S rfl dX7_readRule_57 ?_
          refine r_callV S lk_X7_77 mk_X6_beginWhen (c_X6_beginWhen G n J3 (rst bk dr pt) dr hB (by omega) (by omega)) k0 (by omega) rfl rfl rfl (Nat.le_of_ble_eq_true rfl) ⟨by decide, by decide⟩ rfl ⟨by decide, by decide⟩ dX7_readRule_58 ?_
          rintro _ _ _ _ ⟨rfl, rfl, rfl, rfl⟩
          obtain ⟨J4, eJ4⟩ : ∃ J4, J4 = up J3 (dr + 3) (J3 dr 0) (J3 dr 1) := ⟨_, rfl⟩
          rw [← eJ4]
          have pJ4 : rPre dr J4 (flat (cat acc) ++ flat g.1) (adv g.2) := by rw [eJ4]; exact pJ3.ob hb (by omega) _ _
          have oJ4 : rrOnly dr I J4 := by rw [eJ4]; exact oJ3.ob hb (by omega) _ _
          rw [List.length_append] at b1
          refine r_aload_n S rfl dX7_readRule_61 ?_
          refine r_aload_n S rfl dX7_readRule_62 ?_
          refine r_callV S lk_X7_80 mk_X7_readConditions (c_readConds G n J4 bk dr pt hB pJ4 (by rw [List.length_append]; omega)) rfl (Nat.lt_of_lt_of_le (by decide) hn) rfl rfl rfl (Nat.le_of_ble_eq_true rfl) ⟨by decide, by decide⟩ rfl ⟨by decide, by decide⟩ dX7_readRule_63 ?_
          rintro v _ J5 _ ⟨rfl, rfl, o5, x, rfl, ex⟩
          have oJ5 := oJ4.tr (rrOnly.rd o5)
          have hbad : x = 0 → rrOnly dr I J5 ∧ bBad J5 R := by
            intro hx
            rcases ex with ⟨-, e, h1, h2, h3⟩ | ⟨h, -⟩
            · exact ⟨oJ5, e, eR.trans (ruleP_5 h13 h10' hg h14 h1), h2, h3⟩
            · omega
          refine r_if_eq S (tgt := 78) dX7_readRule_66 (by decide) (by omega) (fun c66 => ?_) (fun c66 => ?_)
          · refine r_iconst S dX7_readRule_78 ?_
            refine r_zret SR dX7_readRule_79 (by decide) ⟨by decide, by decide⟩ ?_
            exact ⟨rfl, rfl, (hbad (by omega)).1, 0, rfl, Or.inl ⟨rfl, (hbad (by omega)).2⟩⟩
          · rcases ex with ⟨h, -⟩ | ⟨-, wq, hwq, pJ5⟩
            · omega
            obtain ⟨s1, s2, s3, s4, s5⟩ := PG_conds (TLok_adv p1) wq hwq
            have pJ5' : rPre dr J5 (flat (cat acc) ++ flat g.1 ++ flat wq.1) wq.2 := pJ5
            refine r_aload_n S rfl dX7_readRule_69 ?_
            refine r_bipush S (by decide +kernel) dX7_readRule_70 ?_
            refine r_callV S lk_X7_71 mk_X7_expect (c_X7_expect G n J5 bk dr pt hn pJ5'.1 pJ5'.2.1 (c := -15) (by decide)) rfl (Nat.lt_of_lt_of_le (by decide) hn) rfl rfl rfl (Nat.le_of_ble_eq_true rfl) ⟨by decide, by decide⟩ rfl ⟨by decide, by decide⟩ dX7_readRule_72 ?_
            rintro v _ J6 _ ⟨rfl, rfl, u, rfl, eu⟩
            have oJ6 : rrOnly dr I J6 := by
              rcases eu with ⟨-, -, e⟩ | ⟨-, -, e⟩
              · rw [e]; exact oJ5.tr (rrOnly.rd (((rdOnly.rf _ _).put hb (Or.inl rfl) _ _).put hb (Or.inl rfl) _ _))
              · rw [e]; exact oJ5.tr (rrOnly.rd ((rdOnly.rf _ _).adv hb))
            have hbad : u = 0 → rrOnly dr I J6 ∧ bBad J6 R := by
              intro hu
              rcases eu with ⟨-, n1, e⟩ | ⟨h, -⟩
              · refine ⟨oJ6, ?_⟩
                rw [e]
                exact bBad_of (eR.trans (ruleP_6 h13 h10' hg h14 hwq n1))
              · omega
            refine r_if_ne S (tgt := 80) dX7_readRule_75 (by decide) (by omega) (fun c75 => ?_) (fun c75 => ?_)
            · rcases eu with ⟨h, -⟩ | ⟨-, h15, eJ6⟩
              · omega
              have pJ6 : rPre dr J6 (flat (cat acc) ++ flat g.1 ++ flat wq.1) (adv wq.2) := by rw [eJ6]; exact pJ5'.adv hb
              have d0 : J6 dr 0 = acc.length := by rw [eJ6, advI_o _ (by omega), o5.2.2 0 (by decide), eJ4, up_o (by omega)]; exact b0
              have d1 : J6 dr 1 = (flat (cat acc) ++ flat g.1 ++ flat wq.1).length := pJ6.2.2.1.2
              rw [List.length_append, List.length_append] at d1
              have d_o : ∀ o, dr + 2 ≤ o → J6 o = J4 o := fun o ho => by rw [eJ6, advI_o _ (by omega)]; exact o5.1 o (by omega) (by omega) (by omega) (by omega) (by omega)
              refine r_aload_n S rfl dX7_readRule_80 ?_
              refine r_callV S lk_X7_83 mk_X6_endRule (c_X6_endRule G n J6 (rst bk dr pt) dr hB (by omega) (by omega)) k0 (by omega) rfl rfl rfl (Nat.le_of_ble_eq_true rfl) ⟨by decide, by decide⟩ rfl ⟨by decide, by decide⟩ dX7_readRule_81 ?_
              rintro _ _ _ _ ⟨rfl, rfl, rfl, rfl⟩
              refine r_iconst S dX7_readRule_84 ?_
              refine r_zret SR dX7_readRule_85 (by decide) ⟨by decide, by decide⟩ ?_
              refine ⟨rfl, rfl, (oJ6.ob hb (by omega) _ _).put0 hb _, 1, rfl, Or.inr ⟨rfl, ((g.1, wq.1), adv wq.2), eR.trans (ruleP_7 h13 h10' hg h14 hwq h15), ?_, by rw [up_s, d0], ?_⟩⟩
              · have e : flat (cat (acc ++ [(g.1, wq.1)])) = flat (cat acc) ++ flat g.1 ++ flat wq.1 := by rw [cat_snoc, flat_app, flat_app]
                show rPre dr _ (flat (cat (acc ++ [(g.1, wq.1)]))) (adv wq.2)
                rw [e]
                obtain ⟨t1, t2, t3, t4, t5⟩ := rPre.ob hb pJ6 (o := dr + 4) (by omega) (J6 dr 0) (J6 dr 1)
                refine ⟨t1, ctk_same t2 (up_o (by omega)) (up_o (by omega)) (up_o (by omega)), bok_same t3 (up_o (by omega)) (up_i (by decide)), ?_, ?_⟩
                · rw [up_o (by omega)]; exact t4
                · rw [up_o (by omega)]; exact t5
              · have f2 : ∀ j, up (up J6 (dr + 4) (J6 dr 0) (J6 dr 1)) dr 0 (J6 dr 0 + 1) (dr + 2) j = up I (dr + 2) acc.length (flat (cat acc)).length (dr + 2) j := by
                  intro j
                  rw [up_o (by omega), up_o (by omega), d_o _ (by omega), eJ4, up_o (by omega), bo _ (by omega), a2]
                have f3 : ∀ j, up (up J6 (dr + 4) (J6 dr 0) (J6 dr 1)) dr 0 (J6 dr 0 + 1) (dr + 3) j = up I (dr + 3) acc.length ((flat (cat acc)).length + (flat g.1).length) (dr + 3) j := by
                  intro j
                  rw [up_o (by omega), up_o (by omega), d_o _ (by omega), eJ4, b0, b1]
                  by_cases e : j = acc.length
                  · rw [e, up_s, up_s]; omega
                  · rw [up_i e, up_i e, bo _ (by omega), a3]
                have f4 : ∀ j, up (up J6 (dr + 4) (J6 dr 0) (J6 dr 1)) dr 0 (J6 dr 0 + 1) (dr + 4) j = up I (dr + 4) acc.length ((flat (cat acc)).length + (flat g.1).length + (flat wq.1).length) (dr + 4) j := by
                  intro j
                  rw [up_o (by omega), d0, d1]
                  by_cases e : j = acc.length
                  · rw [e, up_s, up_s]; omega
                  · rw [up_i e, up_i e, d_o _ (by omega), eJ4, up_o (by omega), bo _ (by omega), a4]
                have ez : ((0 : Nat) : Int) + (acc.length : Int) = acc.length := by omega
                refine posB_snoc acc 0 0 (posB_congr acc 0 0 (fun j g0 g1 => ?_) hpos) ?_ ?_ ?_
                · rw [f2, f3, f4, up_i (by omega), up_i (by omega), up_i (by omega)]
                  exact ⟨rfl, rfl, rfl⟩
                · rw [ez, f2, up_s]; omega
                · rw [ez, f3, up_s]; show _ = (0 : Int) + (flat (cat acc)).length + (flat g.1).length; omega
                · rw [ez, f4, up_s]; show _ = (0 : Int) + (flat (cat acc)).length + (flat g.1).length + (flat wq.1).length; omega
            · refine r_iconst S dX7_readRule_78 ?_
              refine r_zret SR dX7_readRule_79 (by decide) ⟨by decide, by decide⟩ ?_
              exact ⟨rfl, rfl, (hbad (by omega)).1, 0, rfl, Or.inl ⟨rfl, (hbad (by omega)).2⟩⟩
        · refine r_iconst S dX7_readRule_55 ?_
          refine r_zret SR dX7_readRule_56 (by decide) ⟨by decide, by decide⟩ ?_
          exact ⟨rfl, rfl, (hbad (by omega)).1, 0, rfl, Or.inl ⟨rfl, (hbad (by omega)).2⟩⟩
  refine r_aload_n S rfl dX7_readRule_0 ?_
  refine r_getR S (o' := 56) fk_X7_21 dX7_readRule_1 rfl rfl (Nat.lt_of_lt_of_le (by decide) hn) rfl ?_
  refine r_callV S lk_X7_44 mk_X9_code (c_tcode G n I bk dr pt hn hP.2.1) rfl (Nat.lt_of_lt_of_le (by decide) hn) rfl rfl rfl (Nat.le_of_ble_eq_true rfl) ⟨by decide, by decide⟩ rfl ⟨by decide, by decide⟩ dX7_readRule_4 ?_
  rintro _ _ _ _ ⟨rfl, rfl, rfl, rfl⟩
  refine r_bipush S (by decide +kernel) dX7_readRule_7 ?_
  refine r_icmp_ne S (tgt := 25) dX7_readRule_9 (by decide) (by omega) (by decide) (fun c9 => ?_) (fun c9 => ?_)
  · refine r_aload_n S rfl dX7_readRule_25 ?_
    refine r_callV S lk_X7_68 mk_X6_beginGive (c_X6_beginGive G n I (rst bk dr pt) dr hB (by omega) (by omega)) k0 (by omega) rfl rfl rfl (Nat.le_of_ble_eq_true rfl) ⟨by decide, by decide⟩ rfl ⟨by decide, by decide⟩ dX7_readRule_26 ?_
    rintro _ _ _ _ ⟨rfl, rfl, rfl, rfl⟩
    exact rest _ rfl (by omega)
  · refine r_aload_n S rfl dX7_readRule_12 ?_
    refine r_callV S lk_X7_64 mk_X6_isFull (c_X6_isFull G n I (rst bk dr pt) dr hB (by omega)) k0 (by omega) rfl rfl rfl (Nat.le_of_ble_eq_true rfl) ⟨by decide, by decide⟩ rfl ⟨by decide, by decide⟩ dX7_readRule_13 ?_
    rintro _ _ _ _ ⟨rfl, rfl, rfl, rfl⟩
    refine r_ifb_eq S (tgt := 25) dX7_readRule_16 (by decide)  (fun c16 => ?_) (fun c16 => ?_)
    · refine r_aload_n S rfl dX7_readRule_25 ?_
      refine r_callV S lk_X7_68 mk_X6_beginGive (c_X6_beginGive G n I (rst bk dr pt) dr hB (by omega) (by omega)) k0 (by omega) rfl rfl rfl (Nat.le_of_ble_eq_true rfl) ⟨by decide, by decide⟩ rfl ⟨by decide, by decide⟩ dX7_readRule_26 ?_
      rintro _ _ _ _ ⟨rfl, rfl, rfl, rfl⟩
      exact rest _ rfl (by omega)
    · refine r_aload_n S rfl dX7_readRule_19 ?_
      refine r_iconst S dX7_readRule_20 ?_
      refine r_callV S lk_X7_54 mk_X7_fail (c_X7_fail G n I bk dr pt hn hP.2.1 (a := 3)) rfl (Nat.lt_of_lt_of_le (by decide) hn) rfl rfl rfl (Nat.le_of_ble_eq_true rfl) ⟨by decide, by decide⟩ rfl ⟨by decide, by decide⟩ dX7_readRule_21 ?_
      rintro _ _ _ _ ⟨rfl, rfl, rfl, rfl⟩
      refine r_zret SR dX7_readRule_24 (by decide) ⟨by decide, by decide⟩ ?_
      exact ⟨rfl, rfl, rrOnly.rd (((rdOnly.rf _ _).put hb (Or.inl rfl) _ _).put hb (Or.inl rfl) _ _), 0, rfl, Or.inl ⟨rfl, bBad_of (eR.trans (ruleP_2 (by omega) (by omega)))⟩⟩
/-- what reading the tape comes to -/
def bRul (b : Nat) (res : (Int × Int) ⊕ RLs) (z : Int) (I' : Iv) : Prop := match res with
  | .inl e => z = 0 ∧ I' 55 0 = e.1 ∧ I' 55 1 = e.2
  | .inr rs => z = 1 ∧ I' 55 0 = 0 ∧ I' 55 1 = -1 ∧ bookI I' b rs
def rdAll (b : Nat) (I I' : Iv) : Prop := (∀ o, o < 55 ∨ (59 < o ∧ o < b) ∨ b + 4 < o → I' o = I o) ∧ ∀ j, j ≠ 0 → j ≠ 1 → I' b j = I b j
theorem c_read (hB : BkOk n (rst bk dr pt) dr) (h0 : 0 ≤ I 53 0) (h1 : I 53 0 ≤ 400) (hby : ∀ j, 0 ≤ j → j < I 53 0 → 0 ≤ I 54 j ∧ I 54 j ≤ 255) : Ct G yX7_read cX7_read 4 (some .boolean) 8 0 0 [.ref (gb G + 55), .ref (gb G + 53), .ref (gb G + dr)] n I (rst bk dr pt) (fun v n' I' ρ' => n = n' ∧ rst bk dr pt = ρ' ∧ rdAll dr I I' ∧ ∃ z : Int, v = some (.int (jI z)) ∧ bRul dr (rulesP 500 [] (toks (I 54) (I 53 0) 0)) z I') := by
  obtain ⟨hn, hb, hb', k0⟩ := BkOk_nth hB
  refine Ct.of [some (.ref (gb G + 55)), some (.ref (gb G + 53)), some (.ref (gb G + dr)), none] (by decide) rfl rfl rfl ?_
  intro k SR
  have S : Sem G RX7 "read" cX7_read 4 (rmD 8 0 0) k := SR.sem
  obtain ⟨T0, eT0⟩ : ∃ T0, T0 = toks (I 54) (I 53 0) 0 := ⟨_, rfl⟩
  obtain ⟨R, eR⟩ : ∃ R, R = rulesP 500 [] T0 := ⟨_, rfl⟩
  rw [← eT0, ← eR] at SR
  have tl := toks_len (I 54) (I 53 0) 0
  have tp := toks_ne (I 54) (I 53 0) 0
  have tk := TLok_toks (I 54) (I 53 0) 0
  rw [← eT0] at tl tp tk
  have loop : ∀ (f : Nat) (acc : RLs) (T : TL) (J : Iv), T.length < f → rdAll dr I J → bPre dr J acc T → (∀ r ∈ acc, okS r.1 0 1 ∧ okS r.2 0 1) → R = rulesP f acc T → k 24 [some (.ref (gb G + 55)), some (.ref (gb G + 53)), some (.ref (gb G + dr)), some (.int (jI (acc.length : Int)))] [] n J (rst bk dr pt) 0 0 := by
    intro f
    induction f with
    | zero => intro acc T J h; omega
    | succ f ih =>
      intro acc T J hlen hJ hA hk hR
      have hh := TLok_hd hA.1.1
      have h10 := hA.2.2.2.1
      have hNA := hA.2.1
      have hpA := TL_pos hA.1.1
      refine r_iload_n S rfl dX7_read_24 ?_
      refine r_bipush S (by decide +kernel) dX7_read_25 ?_
      refine r_icmp_gt S (tgt := 60) dX7_read_27 (by decide) (by omega) (by omega) (fun c27 => ?_) (fun c27 => ?_)
      · exact absurd c27 (by omega)
      · refine r_aload_n S rfl dX7_read_30 ?_
        refine r_getR S (o' := 56) fk_X7_21 dX7_read_31 rfl rfl (Nat.lt_of_lt_of_le (by decide) hn) rfl ?_
        refine r_callV S lk_X7_44 mk_X9_code (c_tcode G n J bk dr pt hn hA.1.2.1) rfl (Nat.lt_of_lt_of_le (by decide) hn) rfl rfl rfl (Nat.le_of_ble_eq_true rfl) ⟨by decide, by decide⟩ rfl ⟨by decide, by decide⟩ dX7_read_34 ?_
        rintro _ _ _ _ ⟨rfl, rfl, rfl, rfl⟩
        refine r_bipush S (by decide +kernel) dX7_read_37 ?_
        refine r_icmp_ne S (tgt := 44) dX7_read_39 (by decide) (by omega) (by decide) (fun c39 => ?_) (fun c39 => ?_)
        · refine r_aload_n S rfl dX7_read_44 ?_
          refine r_aload_n S rfl dX7_read_45 ?_
          refine r_callV S lk_X7_50 mk_X7_readRule (c_readRule G n J bk dr pt hB hA) rfl (Nat.lt_of_lt_of_le (by decide) hn) rfl rfl rfl (Nat.le_of_ble_eq_true rfl) ⟨by decide, by decide⟩ rfl ⟨by decide, by decide⟩ dX7_read_46 ?_
          rintro v _ J2 _ ⟨rfl, rfl, o2, z, rfl, ez⟩
          have hJ2 : rdAll dr I J2 := ⟨fun o ho => (o2.1 o (by omega) (by omega) (by omega) (by omega)).trans (hJ.1 o ho), fun j a b => (o2.2.2 j a b).trans (hJ.2 j a b)⟩
          refine r_if_ne S (tgt := 54) dX7_read_49 (by decide) (by omega) (fun c49 => ?_) (fun c49 => ?_)
          · refine r_iinc S dX7_read_54 rfl rfl rfl ?_
            refine r_goto S (tgt := 24) dX7_read_57 (by decide) ?_
            rcases ez with ⟨h, -⟩ | ⟨-, q, q1, q2, q3, q4⟩
            · omega
            obtain ⟨p1, p2, p3, p4, p5⟩ := ruleP_ok hA.1.1 q1
            have el : (acc ++ [q.1]).length = acc.length + 1 := by rw [List.length_append]; rfl
            have := ih (acc ++ [q.1]) q.2 J2 (by omega) hJ2 ⟨q2, ?_, by rw [el]; exact q3, by rw [el]; omega, q4⟩ ?_ (hR.trans (rulesP_go c39 q1))
            · rw [el] at this
              exact this
            · rw [cat_snoc, flat_app, flat_app, List.length_append, List.length_append]
              omega
            · intro r hr'
              rcases List.mem_append.mp hr' with h | h
              · exact hk r h
              · rw [List.mem_singleton.mp h]
                exact ⟨p3, p4⟩
          · refine r_iconst S dX7_read_52 ?_
            refine r_zret SR dX7_read_53 (by decide) ⟨by decide, by decide⟩ ?_
            rcases ez with ⟨-, e, q1, q2, q3⟩ | ⟨h, -⟩
            · refine ⟨rfl, rfl, hJ2, 0, rfl, ?_⟩
              rw [hR, rulesP_bad c39 q1]
              exact ⟨rfl, q2, q3⟩
            · omega
        · refine r_iconst S dX7_read_42 ?_
          refine r_zret SR dX7_read_43 (by decide) ⟨by decide, by decide⟩ ?_
          refine ⟨rfl, rfl, hJ, 1, rfl, ?_⟩
          rw [hR, rulesP_end c39]
          exact ⟨rfl, hA.1.2.2.2.1, hA.1.2.2.2.2, hA.2.2.1, h10, bookP_of acc 0 0 hA.2.2.2.2 hA.1.2.2.1.1 (by decide) (by omega) hk⟩
  obtain ⟨I0, eI0⟩ : ∃ I0, I0 = up (up I 55 0 0) 55 1 (-1) := ⟨_, rfl⟩
  have i53 : I0 53 = I 53 := by rw [eI0, up_o (by decide), up_o (by decide)]
  have i54 : I0 54 = I 54 := by rw [eI0, up_o (by decide), up_o (by decide)]
  have C := c_X9_cut G n I0 bk dr pt hn (by rw [i53]; exact h0) (by rw [i53]; exact h1) (by rw [i53, i54]; exact hby)
  rw [i53, i54, ← eT0] at C
  refine r_aload_n S rfl dX7_read_0 ?_
  refine r_iconst S dX7_read_1 ?_
  refine r_putI S fk_X7_9 dX7_read_2 rfl rfl (Nat.lt_of_lt_of_le (by decide) hn) (Or.inl rfl) (Or.inl rfl) ?_
  refine r_aload_n S rfl dX7_read_5 ?_
  refine r_iconst S dX7_read_6 ?_
  refine r_putI S fk_X7_15 dX7_read_7 rfl rfl (Nat.lt_of_lt_of_le (by decide) hn) (Or.inl rfl) (Or.inl rfl) ?_
  rw [← eI0]
  refine r_aload_n S rfl dX7_read_10 ?_
  refine r_getR S (o' := 56) fk_X7_21 dX7_read_11 rfl rfl (Nat.lt_of_lt_of_le (by decide) hn) rfl ?_
  refine r_aload_n S rfl dX7_read_14 ?_
  refine r_callV S lk_X7_35 mk_X9_cut C rfl (Nat.lt_of_lt_of_le (by decide) hn) rfl rfl rfl (Nat.le_of_ble_eq_true rfl) ⟨by decide, by decide⟩ rfl ⟨by decide, by decide⟩ dX7_read_15 ?_
  rintro _ _ J _ ⟨rfl, rfl, rfl, hJ, hc, ha, hT⟩
  refine r_aload_n S rfl dX7_read_18 ?_
  refine r_callV S lk_X7_39 mk_X6_clear (c_X6_clear G n J (rst bk dr pt) dr hB) k0 (by omega) rfl rfl rfl (Nat.le_of_ble_eq_true rfl) ⟨by decide, by decide⟩ rfl ⟨by decide, by decide⟩ dX7_read_19 ?_
  rintro _ _ _ _ ⟨rfl, rfl, rfl, rfl⟩
  refine r_iconst S dX7_read_22 ?_
  refine r_istore_n S dX7_read_23 rfl rfl ?_
  refine loop 500 [] T0 _ (by omega) ⟨fun o ho => ?_, fun j p q => ?_⟩ ⟨⟨tk, ?_, ⟨trivial, by rw [up_s]; rfl⟩, ?_, ?_⟩, ?_, ?_, by decide, trivial⟩ (fun r hr => by cases hr) eR
  · rw [up_o (by omega), up_o (by omega), hJ o (by omega) (by omega) (by omega), eI0, up_o (by omega), up_o (by omega)]
  · rw [up_i q, up_i p, hJ dr (by omega) (by omega) (by omega), eI0, up_o (by omega), up_o (by omega)]
  · refine ctk_same (I := J) ?_ (by rw [up_o (by omega), up_o (by omega)]) (by rw [up_o (by omega), up_o (by omega)]) (by rw [up_o (by omega), up_o (by omega)])
    refine ⟨by omega, by omega, by omega, by omega, fun j hj => ?_⟩
    rw [ha, show (0 : Int) + (j : Int) = j by omega]
    exact hT j hj
  · rw [up_o (by omega), up_o (by omega), hJ 55 (by decide) (by decide) (by decide), eI0, up_i (by decide), up_s]
  · rw [up_o (by omega), up_o (by omega), hJ 55 (by decide) (by decide) (by decide), eI0, up_s]
  · show 0 + T0.length ≤ 401
    omega
  · rw [up_i (by decide), up_s]
    rfl
end
