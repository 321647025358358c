/-! ===== the class's reader: behind a unit, and an E ===== -/
theorem eS_len (f : Fr) : (eS f).length ≤ 1 := by
  unfold eS
  split <;> decide
theorem enc_0 (f : Fr) : enc (f.1, 0) = eP f := rfl
theorem enc_7 (f : Fr) : enc (f.1, 7) = -7 :: eP f := rfl
theorem enc_p {k : Int} (h : ¬ k = 0) : enc (k, 0) = [-k] := by
  show [] ++ (if k = 0 then [] else [-k]) = [-k]
  rw [if_neg h]
  rfl
theorem opc_len (f : Fr) (gs : List Fr) : opc f gs = (eS f).length + (eP f).length + opr gs := by
  rw [opc_eq, enc_eq, List.length_append]
/-- an E's first unit may stand: before the operators of this level are written -/
theorem strn_S {f : Fr} {x : Int} (h : x ∈ eS f) : 2 ≤ strn x := by
  rw [eS_mem h]
  decide
theorem strn_E {f : Fr} (hf : FrOk f) {x : Int} (h : x ∈ enc f) : 1 ≤ strn x := by
  have := enc_mem hf h
  have s1 := (strn_eq (a := x)).1
  have s2 := (strn_eq (a := x)).2
  omega
theorem strn_R {gs : List Fr} {x : Int} {t : List Int} (h : rest_ gs = x :: t) : strn x < 1 := by
  cases gs with
  | nil => cases h
  | cons g gs =>
    have h' : -16 :: encs g gs = x :: t := h
    cases h'
    decide
theorem strn_PR {f : Fr} (hf : FrOk f) {gs : List Fr} {x : Int} {t : List Int} (h : eP f ++ rest_ gs = x :: t) : strn x < 2 := by
  cases hp : eP f with
  | nil =>
    rw [hp] at h
    have := strn_R (gs := gs) h
    omega
  | cons y l =>
    rw [hp] at h
    have h' : y :: (l ++ rest_ gs) = x :: t := h
    have hy : y ∈ eP f := by rw [hp]; exact List.mem_cons_self ..
    cases h'
    have := eP_mem hf hy
    have s1 := (strn_eq (a := x)).1
    omega
section
variable (G : GE) (n : Nat) (I : Iv) (bk dr : Nat) (pt : Option Nat)
/-- write the operators of the inner level -/
theorem c_wEnc (hB : BkOk n (rst bk dr pt) dr) {C0 : List Int} {f : Fr} {gs : List Fr} {acc T T' : TL} (hF : FrOk f ∧ ∀ g ∈ gs, FrOk g) (h8 : gs.length ≤ 8) (hN : C0.length + (flat acc).length + opc f gs + T.length ≤ 401) (hp : 1 ≤ T.length) (hC : cSt dr I (C0 ++ flat acc) (encs f gs) gs.length T') : Ct G yX7_writeWaiting cX7_writeWaiting 3 none 1 0 0 [.ref (gb G + 55), .int (jI 1), .ref (gb G + dr)] n I (rst bk dr pt) (fun v n' I' ρ' => v = none ∧ n = n' ∧ rst bk dr pt = ρ' ∧ wwQ dr I (enc f) (rest_ gs) (C0 ++ flat acc) I') := by
  have hl := encs_len gs f
  have hm := encs_mem gs f hF.1 hF.2
  have h4 := hC.2.2.2.1
  rw [encs_eq] at h4 hl hm
  have ho := opc_eq f gs
  refine c_wW G n I bk dr pt hB (by decide) (enc f) (rest_ gs) (C0 ++ flat acc) h4.2 h4.1 (by omega) hm (fun x hx => strn_E hF.1 hx) (fun x t h => strn_R h) hC.2.2.2.2.1 ?_
  rw [List.length_append]
  omega
/-- write a * that waits -/
theorem c_wStar (hB : BkOk n (rst bk dr pt) dr) {C0 : List Int} {f : Fr} {gs : List Fr} {acc T T' : TL} (hF : FrOk f ∧ ∀ g ∈ gs, FrOk g) (h8 : gs.length ≤ 8) (hN : C0.length + (flat acc).length + opc f gs + T.length ≤ 401) (hp : 1 ≤ T.length) (hC : cSt dr I (C0 ++ flat acc) (encs f gs) gs.length T') : Ct G yX7_writeWaiting cX7_writeWaiting 3 none 1 0 0 [.ref (gb G + 55), .int (jI 2), .ref (gb G + dr)] n I (rst bk dr pt) (fun v n' I' ρ' => v = none ∧ n = n' ∧ rst bk dr pt = ρ' ∧ wwQ dr I (eS f) (eP f ++ rest_ gs) (C0 ++ flat acc) I') := by
  have hl := encs_len gs f
  have hm := encs_mem gs f hF.1 hF.2
  have h4 := hC.2.2.2.1
  rw [encs_eq, enc_eq, List.append_assoc] at h4 hl hm
  have ho := opc_len f gs
  refine c_wW G n I bk dr pt hB (by decide) (eS f) (eP f ++ rest_ gs) (C0 ++ flat acc) h4.2 h4.1 (by omega) hm (fun x hx => strn_S hx) (fun x t h => strn_PR hF.1 h) hC.2.2.2.2.1 ?_
  rw [List.length_append]
  omega
theorem c_readBehind (hB : BkOk n (rst bk dr pt) dr) {C0 : List Int} {f : Fr} {gs : List Fr} {acc T : TL} (hS : rSt dr I C0 f gs acc T) (h400 : T.length ≤ 400) : Ct G yX7_readBehindUnit cX7_readBehindUnit 6 (some .boolean) 2 0 0 [.ref (gb G + 55), .ref (gb G + dr)] n I (rst bk dr pt) (fun v n' I' ρ' => n = n' ∧ rst bk dr pt = ρ' ∧ rdOnly dr I I' ∧ ∃ z : Int, v = some (.int (jI z)) ∧ ((z = 0 ∧ rBad I' (Kf f gs acc T)) ∨ (z = 1 ∧ rBe dr I' C0 (Kf f gs acc T) T.length))) := by
  have hn := hB.2.2.2.2.2.2.2.2.2.2.2.2.2
  have hb := hB.2.2.2.2.2.2.2.2.2.2.2.1
  have hb' := hB.2.2.2.2.2.2.2.2.2.2.2.2.1
  have k0 := hB.1
  refine Ct.of [some (.ref (gb G + 55)), some (.ref (gb G + dr)), none, none, none, none] (by decide) rfl rfl rfl ?_
  intro k SR
  have S : Sem G RX7 "readBehindUnit" cX7_readBehindUnit 6 (rmD 2 0 0) k := SR.sem
  obtain ⟨R, eR⟩ : ∃ R, R = Kf f gs acc T := ⟨_, rfl⟩
  rw [← eR] at SR
  have loop : ∀ (m : Nat) (f' : Fr) (gs' : List Fr) (acc' T' : TL) (i : Int) (J : Iv) (x3 x4 x5 : Option Value), T'.length < m → 0 ≤ i → i + T'.length ≤ 400 → rdOnly dr I J → rSt dr J C0 f' gs' acc' T' → R = Kf f' gs' acc' T' → T'.length ≤ T.length → k 2 [some (.ref (gb G + 55)), some (.ref (gb G + dr)), some (.int (jI i)), x3, x4, x5] [] n J (rst bk dr pt) 0 0 := by
    intro m
    induction m with
    | zero => intro f' gs' acc' T' i J x3 x4 x5 h; omega
    | succ m ih =>
      intro f' gs' acc' T' i J x3 x4 x5 hm i0 i1 hJ hSJ hR hlen
      have hSJ0 := hSJ
      obtain ⟨hF, h8, hN, hC⟩ := hSJ
      have hC0 := hC
      obtain ⟨jL, jT, j3, j4, j5, j6, j7⟩ := hC
      have hh := TLok_hd jL
      have hp := TL_pos jL
      have hA := hC0.adv hb
      have closes : hd T' = -17 → ¬ gs'.length = 0 → k 35 [some (.ref (gb G + 55)), some (.ref (gb G + dr)), some (.int (jI i)), some (.int (jI (hd T'))), x4, x5] [.int (jI 1)] n J (rst bk dr pt) 0 0 := by
        intro h17 hg0
        have hl := TLok_len jL (by omega)
        have hpa := TL_pos (TLok_adv jL)
        obtain ⟨g, gs2, eg⟩ : ∃ g gs2, gs' = g :: gs2 := by
          cases gs' with
          | nil => exact absurd rfl hg0
          | cons g gs2 => exact ⟨g, gs2, rfl⟩
        refine r_istore S dX7_readBehindUnit_35 rfl rfl ?_
        refine r_iload S rfl dX7_readBehindUnit_37 ?_
        refine r_if_ne S (tgt := 50) dX7_readBehindUnit_39 (by decide) (by decide) (fun c39 => ?_) (fun c39 => ?_)
        · refine r_aload_n S rfl dX7_readBehindUnit_50 ?_
          refine r_getR S (o' := 56) fk_X7_21 dX7_readBehindUnit_51 rfl rfl (Nat.lt_of_lt_of_le (by decide) hn) rfl ?_
          refine r_callV S lk_X7_61 mk_X9_advance (c_tadv G n J bk dr pt hn jT) rfl (Nat.lt_of_lt_of_le (by decide) hn) rfl rfl rfl (Nat.le_of_ble_eq_true rfl) ⟨by decide, by decide⟩ rfl ⟨by decide, by decide⟩ dX7_readBehindUnit_54 ?_
          rintro _ _ _ _ ⟨rfl, rfl, rfl, rfl⟩
          refine r_iload S rfl dX7_readBehindUnit_57 ?_
          refine r_if_eq S (tgt := 95) dX7_readBehindUnit_59 (by decide) (by decide) (fun c59 => ?_) (fun c59 => ?_)
          · exact absurd c59 (by decide)
          · refine r_aload_n S rfl dX7_readBehindUnit_62 ?_
            refine r_iconst S dX7_readBehindUnit_63 ?_
            refine r_aload_n S rfl dX7_readBehindUnit_64 ?_
            refine r_callV S lk_X7_103 mk_X7_writeWaiting (c_wEnc G n (advI J) bk dr pt hB hF h8 hN hp hA) rfl (Nat.lt_of_lt_of_le (by decide) hn) rfl rfl rfl (Nat.le_of_ble_eq_true rfl) ⟨by decide, by decide⟩ rfl ⟨by decide, by decide⟩ dX7_readBehindUnit_65 ?_
            rintro _ _ J2 _ ⟨rfl, rfl, rfl, hw⟩
            have hA0 := hA
            rw [encs_eq] at hA0
            have hC2 := hA0.ww hb hw
            have hO2 : rdOnly dr I J2 := (hJ.adv hb).tr (hw.rd hb)
            have w4 : J2 55 4 = (rest_ gs').length := hC2.2.2.2.1.1
            rw [eg] at w4 hC2
            have w4' : J2 55 4 = ((encs g gs2).length + 1 : Nat) := w4
            have w26 := encs_len gs2 g
            have w8 : gs2.length + 1 ≤ 8 := by rw [eg] at h8; exact h8
            refine r_aload_n S rfl dX7_readBehindUnit_68 ?_
            refine r_iconst S dX7_readBehindUnit_69 ?_
            refine r_aload_n S rfl dX7_readBehindUnit_70 ?_
            refine r_getI S (v := J2 55 4) fk_X7_28 dX7_readBehindUnit_71 rfl rfl (Nat.lt_of_lt_of_le (by decide) hn) rfl ?_
            refine r_iconst S dX7_readBehindUnit_74 ?_
            refine r_isub S dX7_readBehindUnit_75 ?_
            refine r_mmax S lk_X7_116 (by omega) (by omega) (by decide) (Nat.le_of_ble_eq_true rfl) rfl ⟨by decide, by decide⟩ dX7_readBehindUnit_76 ?_
            refine r_putI S fk_X7_28 dX7_readBehindUnit_79 rfl rfl (Nat.lt_of_lt_of_le (by decide) hn) (Or.inl rfl) (Or.inl rfl) ?_
            refine r_aload_n S rfl dX7_readBehindUnit_82 ?_
            refine r_dup S rfl dX7_readBehindUnit_83 ?_
            refine r_getI S (v := J2 55 3) fk_X7_25 dX7_readBehindUnit_84 rfl rfl (Nat.lt_of_lt_of_le (by decide) hn) rfl ?_
            refine r_iconst S dX7_readBehindUnit_87 ?_
            refine r_isub S dX7_readBehindUnit_88 ?_
            refine r_putI S fk_X7_25 dX7_readBehindUnit_89 rfl rfl (Nat.lt_of_lt_of_le (by decide) hn) (Or.inl rfl) (Or.inl rfl) ?_
            refine r_goto S (tgt := 161) dX7_readBehindUnit_92 (by decide) ?_
            refine r_iinc S dX7_readBehindUnit_161 rfl rfl rfl ?_
            refine r_goto S (tgt := 2) dX7_readBehindUnit_164 (by decide) ?_
            refine ih g gs2 (acc' ++ emS f' ++ emP f') (adv T') (i + 1) _ _ _ _ (by omega) (by omega) (by omega) ((hO2.put hb (Or.inl rfl) _ _).put hb (Or.inl rfl) _ _) ⟨⟨hF.2 g (by rw [eg]; exact List.mem_cons_self ..), fun y hy => hF.2 y (by rw [eg]; exact List.mem_cons_of_mem _ hy)⟩, by omega, ?_, ?_⟩ (hR.trans (by rw [eg]; exact Kf_close h17)) (by omega)
            · rw [flat_app, flat_app, flat_emS, flat_emP hF.1, List.length_append, List.length_append]
              have ho := opc_len f' gs'
              rw [eg] at ho hN
              have ho2 : opr (g :: gs2) = opc g gs2 := rfl
              omega
            · rw [flat_app, flat_app, flat_emS, flat_emP hF.1, List.append_assoc, ← enc_eq, ← List.append_assoc]
              have hC3 : cSt dr J2 (C0 ++ flat acc' ++ enc f') (-16 :: encs g gs2) ((g :: gs2).length : Nat) (adv T') := hC2
              have e3 : J2 55 3 = ((gs2.length + 1 : Nat) : Int) := hC3.2.2.1
              have e1 : (gs2.length : Int) = J2 55 3 - 1 := by omega
              rw [e1]
              exact (hC3.pop hb (by omega)).opn hb _
        · exact absurd c39 (by decide)
      have other : ¬ (hd T' = -17 ∧ ¬ gs'.length = 0) → k 35 [some (.ref (gb G + 55)), some (.ref (gb G + dr)), some (.int (jI i)), some (.int (jI (hd T'))), x4, x5] [.int (jI 0)] n J (rst bk dr pt) 0 0 := by
        intro hno
        have hdone : ¬ hd T' = -8 → rBe dr J C0 R T.length := fun h8' => ⟨f', gs', acc', T', hR, hSJ0, hlen, h8', fun h17 => List.eq_nil_of_length_eq_zero (by omega)⟩
        have hK := fun h => Kf_slash (f := f') (gs := gs') (acc := acc') jL (by omega) h
        have hLA := TLok_adv jL
        have hha := TLok_hd hLA
        have hpa := TL_pos hLA
        have hpb := TL_pos (TLok_adv hLA)
        refine r_istore S dX7_readBehindUnit_35 rfl rfl ?_
        refine r_iload S rfl dX7_readBehindUnit_37 ?_
        refine r_if_ne S (tgt := 50) dX7_readBehindUnit_39 (by decide) (by decide) (fun c39 => ?_) (fun c39 => ?_)
        · exact absurd c39 (by decide)
        · refine r_iload_n S rfl dX7_readBehindUnit_42 ?_
          refine r_bipush S (by decide +kernel) dX7_readBehindUnit_43 ?_
          refine r_icmp_eq S (tgt := 50) dX7_readBehindUnit_45 (by decide) (by omega) (by decide) (fun c45 => ?_) (fun c45 => ?_)
          · refine r_aload_n S rfl dX7_readBehindUnit_50 ?_
            refine r_getR S (o' := 56) fk_X7_21 dX7_readBehindUnit_51 rfl rfl (Nat.lt_of_lt_of_le (by decide) hn) rfl ?_
            refine r_callV S lk_X7_61 mk_X9_advance (c_tadv G n J bk dr pt hn jT) rfl (Nat.lt_of_lt_of_le (by decide) hn) rfl rfl rfl (Nat.le_of_ble_eq_true rfl) ⟨by decide, by decide⟩ rfl ⟨by decide, by decide⟩ dX7_readBehindUnit_54 ?_
            rintro _ _ _ _ ⟨rfl, rfl, rfl, rfl⟩
            have hl := TLok_len jL (by omega)
            have hK' := hK (by omega)
            refine r_iload S rfl dX7_readBehindUnit_57 ?_
            refine r_if_eq S (tgt := 95) dX7_readBehindUnit_59 (by decide) (by decide) (fun c59 => ?_) (fun c59 => ?_)
            · refine r_aload_n S rfl dX7_readBehindUnit_95 ?_
              refine r_getR S (o' := 56) fk_X7_21 dX7_readBehindUnit_96 rfl rfl (Nat.lt_of_lt_of_le (by decide) hn) rfl ?_
              refine r_callV S lk_X7_44 mk_X9_code (c_tcode G n (advI J) bk dr pt hn hA.2.1) rfl (Nat.lt_of_lt_of_le (by decide) hn) rfl rfl rfl (Nat.le_of_ble_eq_true rfl) ⟨by decide, by decide⟩ rfl ⟨by decide, by decide⟩ dX7_readBehindUnit_99 ?_
              rintro _ _ _ _ ⟨rfl, rfl, rfl, rfl⟩
              refine r_istore S dX7_readBehindUnit_102 rfl rfl ?_
              refine r_iload S rfl dX7_readBehindUnit_104 ?_
              refine r_callS S lk_X7_110 mk_X1_isNumber (c_X1_isNumber G n (advI J) (rst bk dr pt) (by omega)) rfl rfl (Nat.le_of_ble_eq_true rfl) ⟨by decide, by decide⟩ rfl ⟨by decide, by decide⟩ dX7_readBehindUnit_106 ?_
              rintro _ _ _ _ ⟨rfl, rfl, rfl, rfl⟩
              refine r_ifb_eq S (tgt := 117) dX7_readBehindUnit_109 (by decide)  (fun c109 => ?_) (fun c109 => ?_)
              · refine r_aload_n S rfl dX7_readBehindUnit_117 ?_
                refine r_iload S rfl dX7_readBehindUnit_118 ?_
                refine r_if_ne S (tgt := 127) dX7_readBehindUnit_120 (by decide) (by omega) (fun c120 => ?_) (fun c120 => ?_)
                · refine r_iconst S dX7_readBehindUnit_127 ?_
                  refine r_callV S lk_X7_54 mk_X7_fail (c_X7_fail G n (advI J) bk dr pt hn hA.2.1) rfl (Nat.lt_of_lt_of_le (by decide) hn) rfl rfl rfl (Nat.le_of_ble_eq_true rfl) ⟨by decide, by decide⟩ rfl ⟨by decide, by decide⟩ dX7_readBehindUnit_128 ?_
                  rintro _ _ _ _ ⟨rfl, rfl, rfl, rfl⟩
                  refine r_zret SR dX7_readBehindUnit_131 (by decide) ⟨by decide, by decide⟩ ?_
                  first | (exfalso; omega) | exact ⟨rfl, rfl, ((hJ.adv hb).put hb (Or.inl rfl) _ _).put hb (Or.inl rfl) _ _, 0, rfl, Or.inl ⟨rfl, rBad_of (hR.trans (hK'.trans (by rw [if_pos (by omega)])))⟩⟩ | exact ⟨rfl, rfl, ((hJ.adv hb).put hb (Or.inl rfl) _ _).put hb (Or.inl rfl) _ _, 0, rfl, Or.inl ⟨rfl, rBad_of (hR.trans (hK'.trans (by rw [if_neg (by omega), if_pos (by omega)])))⟩⟩
                · refine r_iconst S dX7_readBehindUnit_123 ?_
                  refine r_goto S (tgt := 128) dX7_readBehindUnit_124 (by decide) ?_
                  refine r_callV S lk_X7_54 mk_X7_fail (c_X7_fail G n (advI J) bk dr pt hn hA.2.1) rfl (Nat.lt_of_lt_of_le (by decide) hn) rfl rfl rfl (Nat.le_of_ble_eq_true rfl) ⟨by decide, by decide⟩ rfl ⟨by decide, by decide⟩ dX7_readBehindUnit_128 ?_
                  rintro _ _ _ _ ⟨rfl, rfl, rfl, rfl⟩
                  refine r_zret SR dX7_readBehindUnit_131 (by decide) ⟨by decide, by decide⟩ ?_
                  first | (exfalso; omega) | exact ⟨rfl, rfl, ((hJ.adv hb).put hb (Or.inl rfl) _ _).put hb (Or.inl rfl) _ _, 0, rfl, Or.inl ⟨rfl, rBad_of (hR.trans (hK'.trans (by rw [if_pos (by omega)])))⟩⟩ | exact ⟨rfl, rfl, ((hJ.adv hb).put hb (Or.inl rfl) _ _).put hb (Or.inl rfl) _ _, 0, rfl, Or.inl ⟨rfl, rBad_of (hR.trans (hK'.trans (by rw [if_neg (by omega), if_pos (by omega)])))⟩⟩
              · refine r_iload S rfl dX7_readBehindUnit_112 ?_
                refine r_if_ne S (tgt := 132) dX7_readBehindUnit_114 (by decide) (by omega) (fun c114 => ?_) (fun c114 => ?_)
                · refine r_aload_n S rfl dX7_readBehindUnit_132 ?_
                  refine r_bipush S (by decide +kernel) dX7_readBehindUnit_133 ?_
                  refine r_callS S lk_X7_99 mk_X1_strength (c_X1_strength G n (advI J) (rst bk dr pt) (by decide)) rfl rfl (Nat.le_of_ble_eq_true rfl) ⟨by decide, by decide⟩ rfl ⟨by decide, by decide⟩ dX7_readBehindUnit_135 ?_
                  rintro _ _ _ _ ⟨rfl, rfl, rfl, rfl⟩
                  rw [show strn (-8) = 2 from by decide]
                  have hl2 := TLok_len hLA (by omega)
                  refine r_aload_n S rfl dX7_readBehindUnit_138 ?_
                  refine r_callV S lk_X7_103 mk_X7_writeWaiting (c_wStar G n (advI J) bk dr pt hB hF h8 hN hp hA) rfl (Nat.lt_of_lt_of_le (by decide) hn) rfl rfl rfl (Nat.le_of_ble_eq_true rfl) ⟨by decide, by decide⟩ rfl ⟨by decide, by decide⟩ dX7_readBehindUnit_139 ?_
                  rintro _ _ J2 _ ⟨rfl, rfl, rfl, hw⟩
                  have hA0 := hA
                  rw [encs_eq, enc_eq, List.append_assoc] at hA0
                  have hC2 := hA0.ww hb hw
                  have hO2 : rdOnly dr I J2 := (hJ.adv hb).tr (hw.rd hb)
                  have b2' : J2 dr 1 = (C0 ++ flat acc' ++ eS f').length := hC2.2.2.2.2.1.2
                  have hol := opc_len f' gs'
                  rw [List.length_append, List.length_append] at b2'
                  have hC3 := hC2.wr hb (hd (adv T'))
                  have b3' : wrI dr J2 (hd (adv T')) dr 1 = J2 dr 1 + 1 := up_s _ _ _ _
                  refine r_aload_n S rfl dX7_readBehindUnit_142 ?_
                  refine r_iload S rfl dX7_readBehindUnit_143 ?_
                  refine r_callV S lk_X7_89 mk_X6_write (c_X6_write G n J2 (rst bk dr pt) dr hB (a := hd (adv T')) (by omega) (by omega)) k0 (by omega) rfl rfl rfl (Nat.le_of_ble_eq_true rfl) ⟨by decide, by decide⟩ rfl ⟨by decide, by decide⟩ dX7_readBehindUnit_145 ?_
                  rintro _ _ _ _ ⟨rfl, rfl, rfl, rfl⟩
                  show k 148 _ _ n (wrI dr J2 (hd (adv T'))) _ _ _
                  refine r_aload_n S rfl dX7_readBehindUnit_148 ?_
                  refine r_bipush S (by decide +kernel) dX7_readBehindUnit_149 ?_
                  refine r_callV S lk_X7_89 mk_X6_write (c_X6_write G n (wrI dr J2 (hd (adv T'))) (rst bk dr pt) dr hB (a := -8) (by omega) (by omega)) k0 (by omega) rfl rfl rfl (Nat.le_of_ble_eq_true rfl) ⟨by decide, by decide⟩ rfl ⟨by decide, by decide⟩ dX7_readBehindUnit_151 ?_
                  rintro _ _ _ _ ⟨rfl, rfl, rfl, rfl⟩
                  show k 154 _ _ n (wrI dr (wrI dr J2 (hd (adv T'))) (-8)) _ _ _
                  have hC4 := hC3.wr hb (-8)
                  refine r_aload_n S rfl dX7_readBehindUnit_154 ?_
                  refine r_getR S (o' := 56) fk_X7_21 dX7_readBehindUnit_155 rfl rfl (Nat.lt_of_lt_of_le (by decide) hn) rfl ?_
                  refine r_callV S lk_X7_61 mk_X9_advance (c_tadv G n (wrI dr (wrI dr J2 (hd (adv T'))) (-8)) bk dr pt hn hC4.2.1) rfl (Nat.lt_of_lt_of_le (by decide) hn) rfl rfl rfl (Nat.le_of_ble_eq_true rfl) ⟨by decide, by decide⟩ rfl ⟨by decide, by decide⟩ dX7_readBehindUnit_158 ?_
                  rintro _ _ _ _ ⟨rfl, rfl, rfl, rfl⟩
                  refine r_iinc S dX7_readBehindUnit_161 rfl rfl rfl ?_
                  refine r_goto S (tgt := 2) dX7_readBehindUnit_164 (by decide) ?_
                  refine ih (f'.1, 0) gs' (acc' ++ emS f' ++ [(8, hd (adv T'))]) (adv (adv T')) (i + 1) _ _ _ _ (by omega) (by omega) (by omega) (((hO2.wr hb _).wr hb _).adv hb) ⟨⟨⟨hF.1.1, Or.inl rfl⟩, hF.2⟩, h8, ?_, ?_⟩ (hR.trans (hK'.trans (by rw [if_neg (by omega), if_neg (by omega)]))) (by omega)
                  · rw [flat_app, flat_app, flat_emS, flat_part, List.length_append, List.length_append, opc_eq, enc_0]
                    show C0.length + ((flat acc').length + (eS f').length + 2) + ((eP f').length + opr gs') + (adv (adv T')).length ≤ 401
                    omega
                  · have hC5 := hC4.adv hb
                    rw [flat_app, flat_app, flat_emS, flat_part, encs_eq, enc_0]
                    have e : C0 ++ (flat acc' ++ eS f' ++ [hd (adv T'), -8]) = C0 ++ flat acc' ++ eS f' ++ [hd (adv T')] ++ [-8] := by simp only [List.append_assoc, List.cons_append, List.nil_append]
                    rw [e]
                    exact hC5
                · refine r_aload_n S rfl dX7_readBehindUnit_117 ?_
                  refine r_iload S rfl dX7_readBehindUnit_118 ?_
                  refine r_if_ne S (tgt := 127) dX7_readBehindUnit_120 (by decide) (by omega) (fun c120 => ?_) (fun c120 => ?_)
                  · refine r_iconst S dX7_readBehindUnit_127 ?_
                    refine r_callV S lk_X7_54 mk_X7_fail (c_X7_fail G n (advI J) bk dr pt hn hA.2.1) rfl (Nat.lt_of_lt_of_le (by decide) hn) rfl rfl rfl (Nat.le_of_ble_eq_true rfl) ⟨by decide, by decide⟩ rfl ⟨by decide, by decide⟩ dX7_readBehindUnit_128 ?_
                    rintro _ _ _ _ ⟨rfl, rfl, rfl, rfl⟩
                    refine r_zret SR dX7_readBehindUnit_131 (by decide) ⟨by decide, by decide⟩ ?_
                    first | (exfalso; omega) | exact ⟨rfl, rfl, ((hJ.adv hb).put hb (Or.inl rfl) _ _).put hb (Or.inl rfl) _ _, 0, rfl, Or.inl ⟨rfl, rBad_of (hR.trans (hK'.trans (by rw [if_pos (by omega)])))⟩⟩ | exact ⟨rfl, rfl, ((hJ.adv hb).put hb (Or.inl rfl) _ _).put hb (Or.inl rfl) _ _, 0, rfl, Or.inl ⟨rfl, rBad_of (hR.trans (hK'.trans (by rw [if_neg (by omega), if_pos (by omega)])))⟩⟩
                  · refine r_iconst S dX7_readBehindUnit_123 ?_
                    refine r_goto S (tgt := 128) dX7_readBehindUnit_124 (by decide) ?_
                    refine r_callV S lk_X7_54 mk_X7_fail (c_X7_fail G n (advI J) bk dr pt hn hA.2.1) rfl (Nat.lt_of_lt_of_le (by decide) hn) rfl rfl rfl (Nat.le_of_ble_eq_true rfl) ⟨by decide, by decide⟩ rfl ⟨by decide, by decide⟩ dX7_readBehindUnit_128 ?_
                    rintro _ _ _ _ ⟨rfl, rfl, rfl, rfl⟩
                    refine r_zret SR dX7_readBehindUnit_131 (by decide) ⟨by decide, by decide⟩ ?_
                    first | (exfalso; omega) | exact ⟨rfl, rfl, ((hJ.adv hb).put hb (Or.inl rfl) _ _).put hb (Or.inl rfl) _ _, 0, rfl, Or.inl ⟨rfl, rBad_of (hR.trans (hK'.trans (by rw [if_pos (by omega)])))⟩⟩ | exact ⟨rfl, rfl, ((hJ.adv hb).put hb (Or.inl rfl) _ _).put hb (Or.inl rfl) _ _, 0, rfl, Or.inl ⟨rfl, rBad_of (hR.trans (hK'.trans (by rw [if_neg (by omega), if_pos (by omega)])))⟩⟩
            · exact absurd c59 (by decide)
          · refine r_iconst S dX7_readBehindUnit_48 ?_
            refine r_zret SR dX7_readBehindUnit_49 (by decide) ⟨by decide, by decide⟩ ?_
            exact ⟨rfl, rfl, hJ, 1, rfl, Or.inr ⟨rfl, hdone c45⟩⟩
      refine r_iload_n S rfl dX7_readBehindUnit_2 ?_
      refine r_sipush S (by decide +kernel) dX7_readBehindUnit_3 ?_
      refine r_icmp_ge S (tgt := 167) dX7_readBehindUnit_6 (by decide) (by omega) (by omega) (fun c6 => ?_) (fun c6 => ?_)
      · exact absurd c6 (by omega)
      · refine r_aload_n S rfl dX7_readBehindUnit_9 ?_
        refine r_getR S (o' := 56) fk_X7_21 dX7_readBehindUnit_10 rfl rfl (Nat.lt_of_lt_of_le (by decide) hn) rfl ?_
        refine r_callV S lk_X7_44 mk_X9_code (c_tcode G n J bk dr pt hn jT) rfl (Nat.lt_of_lt_of_le (by decide) hn) rfl rfl rfl (Nat.le_of_ble_eq_true rfl) ⟨by decide, by decide⟩ rfl ⟨by decide, by decide⟩ dX7_readBehindUnit_13 ?_
        rintro _ _ _ _ ⟨rfl, rfl, rfl, rfl⟩
        refine r_istore_n S dX7_readBehindUnit_16 rfl rfl ?_
        refine r_iload_n S rfl dX7_readBehindUnit_17 ?_
        refine r_bipush S (by decide +kernel) dX7_readBehindUnit_18 ?_
        refine r_icmp_ne S (tgt := 34) dX7_readBehindUnit_20 (by decide) (by omega) (by decide) (fun c20 => ?_) (fun c20 => ?_)
        · refine r_iconst S dX7_readBehindUnit_34 ?_
          first | exact closes (by omega) (by omega) | exact other (by omega)
        · refine r_aload_n S rfl dX7_readBehindUnit_23 ?_
          refine r_getI S (v := J 55 3) fk_X7_25 dX7_readBehindUnit_24 rfl rfl (Nat.lt_of_lt_of_le (by decide) hn) rfl ?_
          refine r_if_le S (tgt := 34) dX7_readBehindUnit_27 (by decide) (by omega) (fun c27 => ?_) (fun c27 => ?_)
          · refine r_iconst S dX7_readBehindUnit_34 ?_
            first | exact closes (by omega) (by omega) | exact other (by omega)
          · refine r_iconst S dX7_readBehindUnit_30 ?_
            refine r_goto S (tgt := 35) dX7_readBehindUnit_31 (by decide) ?_
            first | exact closes (by omega) (by omega) | exact other (by omega)
  refine r_iconst S dX7_readBehindUnit_0 ?_
  refine r_istore_n S dX7_readBehindUnit_1 rfl rfl ?_
  exact loop (T.length + 1) f gs acc T 0 I none none none (by omega) (by decide) (by omega) (rdOnly.rf _ _) hS eR (Nat.le_refl _)
/-- an E is read: E comes in the codes of the steps of exprP -/
theorem c_readSum (hB : BkOk n (rst bk dr pt) dr) {C0 : List Int} {T : TL} (hL : TLok T) (hT : ctk I T) (hC : bok dr I C0) (h0 : I 55 0 = 0) (h1 : I 55 1 = -1) (hN : C0.length + T.length ≤ 401) : Ct G yX7_readSum cX7_readSum 5 (some .boolean) 3 0 0 [.ref (gb G + 55), .ref (gb G + dr)] n I (rst bk dr pt) (fun v n' I' ρ' => n = n' ∧ rst bk dr pt = ρ' ∧ rdOnly dr I I' ∧ ∃ z : Int, v = some (.int (jI z)) ∧ ((z = 0 ∧ rBad I' (exprP T)) ∨ (z = 1 ∧ rSu dr I' C0 (exprP T)))) := by
  have hn := hB.2.2.2.2.2.2.2.2.2.2.2.2.2
  have hb := hB.2.2.2.2.2.2.2.2.2.2.2.1
  have hb' := hB.2.2.2.2.2.2.2.2.2.2.2.2.1
  have k0 := hB.1
  refine Ct.of [some (.ref (gb G + 55)), some (.ref (gb G + dr)), none, none, none] (by decide) rfl rfl rfl ?_
  intro k SR
  have S : Sem G RX7 "readSum" cX7_readSum 5 (rmD 3 0 0) k := SR.sem
  obtain ⟨R, eR⟩ : ∃ R, R = exprP T := ⟨_, rfl⟩
  rw [← eR] at SR
  have loop : ∀ (m : Nat) (f : Fr) (gs : List Fr) (acc T' : TL) (i : Int) (J : Iv) (x3 x4 : Option Value), T'.length < m → 0 ≤ i → i + T'.length ≤ 401 → rdOnly dr I J → rSt dr J C0 f gs acc T' → R = KU f gs acc T' → k 12 [some (.ref (gb G + 55)), some (.ref (gb G + dr)), some (.int (jI i)), x3, x4] [] n J (rst bk dr pt) 0 0 := by
    intro m
    induction m with
    | zero => intro f gs acc T' i J x3 x4 h; omega
    | succ m ih =>
      intro f gs acc T' i J x3 x4 hm i0 i1 hJ hSJ hR
      have hp := TL_pos hSJ.2.2.2.1
      -- behind the unit and what comes behind it
      have behind : ∀ (f : Fr) (gs : List Fr) (acc T2 : TL) (J : Iv), rdOnly dr I J → rSt dr J C0 f gs acc T2 → R = Kf f gs acc T2 → T2.length < T'.length → ¬ hd T2 = -8 → (hd T2 = -17 → gs = []) → k 37 [some (.ref (gb G + 55)), some (.ref (gb G + dr)), some (.int (jI i)), x3, x4] [] n J (rst bk dr pt) 0 0 := by
        intro f gs acc T2 J hJ hSJ hR hlt hn8 h17
        obtain ⟨hF, h8, hN2, hC⟩ := hSJ
        have jL := hC.1
        have jT := hC.2.1
        have j3 := hC.2.2.1
        have hh := TLok_hd jL
        have hp2 := TL_pos jL
        have s1 := (strn_eq (a := hd T2)).1
        have s2 := (strn_eq (a := hd T2)).2
        have sr := strn_range (hd T2)
        have hw26 := encs_len gs f
        have hCe := hC
        rw [encs_eq] at hCe
        have hol := opc_len f gs
        have plus : hd T2 = -5 ∨ hd T2 = -6 → k 83 [some (.ref (gb G + 55)), some (.ref (gb G + dr)), some (.int (jI i)), some (.int (jI (hd T2))), some (.int (jI 1))] [] n J (rst bk dr pt) 0 0 := by
          intro h56
          have hl := TLok_len jL (by omega)
          refine r_aload_n S rfl dX7_readSum_83 ?_
          refine r_iload S rfl dX7_readSum_84 ?_
          refine r_aload_n S rfl dX7_readSum_86 ?_
          refine r_callV S lk_X7_103 mk_X7_writeWaiting (c_wEnc G n J bk dr pt hB hF h8 hN2 hp2 hC) rfl (Nat.lt_of_lt_of_le (by decide) hn) rfl rfl rfl (Nat.le_of_ble_eq_true rfl) ⟨by decide, by decide⟩ rfl ⟨by decide, by decide⟩ dX7_readSum_87 ?_
          rintro _ _ J2 _ ⟨rfl, rfl, rfl, hw⟩
          have hC2 := hCe.ww hb hw
          have hO2 : rdOnly dr I J2 := hJ.tr (hw.rd hb)
          have w4 : J2 55 4 = (rest_ gs).length := hC2.2.2.2.1.1
          have w4' : (rest_ gs).length ≤ 24 := by cases gs with | nil => decide | cons g gs2 => exact (by have := encs_len gs2 g; rw [List.length_cons] at h8; show (encs g gs2).length + 1 ≤ 24; omega)
          refine r_aload_n S rfl dX7_readSum_90 ?_
          refine r_iload_n S rfl dX7_readSum_91 ?_
          refine r_callV S lk_X7_107 mk_X7_putToWait (c_X7_putToWait G n J2 bk dr pt hn (a := hd T2) (by omega) (by omega)) rfl (Nat.lt_of_lt_of_le (by decide) hn) rfl rfl rfl (Nat.le_of_ble_eq_true rfl) ⟨by decide, by decide⟩ rfl ⟨by decide, by decide⟩ dX7_readSum_92 ?_
          rintro _ _ _ _ ⟨rfl, rfl, rfl, rfl⟩
          show k 95 _ _ n (putW J2 (hd T2)) _ _ _
          refine r_aload_n S rfl dX7_readSum_95 ?_
          refine r_getR S (o' := 56) fk_X7_21 dX7_readSum_96 rfl rfl (Nat.lt_of_lt_of_le (by decide) hn) rfl ?_
          refine r_callV S lk_X7_61 mk_X9_advance (c_tadv G n (putW J2 (hd T2)) bk dr pt hn (hC2.put hb (hd T2)).2.1) rfl (Nat.lt_of_lt_of_le (by decide) hn) rfl rfl rfl (Nat.le_of_ble_eq_true rfl) ⟨by decide, by decide⟩ rfl ⟨by decide, by decide⟩ dX7_readSum_99 ?_
          rintro _ _ _ _ ⟨rfl, rfl, rfl, rfl⟩
          refine r_iinc S dX7_readSum_102 rfl rfl rfl ?_
          refine r_goto S (tgt := 12) dX7_readSum_105 (by decide) ?_
          refine ih (-hd T2, 0) gs (acc ++ emS f ++ emP f) (adv T2) (i + 1) _ _ _ (by omega) (by omega) (by omega) (((hO2.put hb (Or.inr rfl) _ _).put hb (Or.inl rfl) _ _).adv hb) ⟨⟨⟨by show -hd T2 = 0 ∨ -hd T2 = 5 ∨ -hd T2 = 6; omega, Or.inl rfl⟩, hF.2⟩, h8, ?_, ?_⟩ (hR.trans (Kf_plus jL (by omega) h56))
          · rw [flat_app, flat_app, flat_emS, flat_emP hF.1, List.length_append, List.length_append, opc_eq, enc_p (by omega)]
            show C0.length + ((flat acc).length + (eS f).length + (eP f).length) + (1 + opr gs) + (adv T2).length ≤ 401
            omega
          · rw [flat_app, flat_app, flat_emS, flat_emP hF.1, List.append_assoc, ← enc_eq, ← List.append_assoc, encs_eq, enc_p (by omega), show - -hd T2 = hd T2 by omega]
            exact (hC2.put hb (hd T2)).adv hb
        have star : hd T2 = -7 → k 83 [some (.ref (gb G + 55)), some (.ref (gb G + dr)), some (.int (jI i)), some (.int (jI (hd T2))), some (.int (jI 2))] [] n J (rst bk dr pt) 0 0 := by
          intro h7
          have hl := TLok_len jL (by omega)
          have hCs := hC
          rw [encs_eq, enc_eq, List.append_assoc] at hCs
          refine r_aload_n S rfl dX7_readSum_83 ?_
          refine r_iload S rfl dX7_readSum_84 ?_
          refine r_aload_n S rfl dX7_readSum_86 ?_
          refine r_callV S lk_X7_103 mk_X7_writeWaiting (c_wStar G n J bk dr pt hB hF h8 hN2 hp2 hC) rfl (Nat.lt_of_lt_of_le (by decide) hn) rfl rfl rfl (Nat.le_of_ble_eq_true rfl) ⟨by decide, by decide⟩ rfl ⟨by decide, by decide⟩ dX7_readSum_87 ?_
          rintro _ _ J2 _ ⟨rfl, rfl, rfl, hw⟩
          have hC2 := hCs.ww hb hw
          have hO2 : rdOnly dr I J2 := hJ.tr (hw.rd hb)
          have w4 : J2 55 4 = (eP f ++ rest_ gs).length := hC2.2.2.2.1.1
          have w4' : (rest_ gs).length ≤ 24 := by cases gs with | nil => decide | cons g gs2 => exact (by have := encs_len gs2 g; rw [List.length_cons] at h8; show (encs g gs2).length + 1 ≤ 24; omega)
          have w5 : (eP f).length ≤ 1 := by unfold eP; split; exact Nat.zero_le _; exact Nat.le_refl 1
          rw [List.length_append] at w4
          refine r_aload_n S rfl dX7_readSum_90 ?_
          refine r_iload_n S rfl dX7_readSum_91 ?_
          refine r_callV S lk_X7_107 mk_X7_putToWait (c_X7_putToWait G n J2 bk dr pt hn (a := hd T2) (by omega) (by omega)) rfl (Nat.lt_of_lt_of_le (by decide) hn) rfl rfl rfl (Nat.le_of_ble_eq_true rfl) ⟨by decide, by decide⟩ rfl ⟨by decide, by decide⟩ dX7_readSum_92 ?_
          rintro _ _ _ _ ⟨rfl, rfl, rfl, rfl⟩
          show k 95 _ _ n (putW J2 (hd T2)) _ _ _
          refine r_aload_n S rfl dX7_readSum_95 ?_
          refine r_getR S (o' := 56) fk_X7_21 dX7_readSum_96 rfl rfl (Nat.lt_of_lt_of_le (by decide) hn) rfl ?_
          refine r_callV S lk_X7_61 mk_X9_advance (c_tadv G n (putW J2 (hd T2)) bk dr pt hn (hC2.put hb (hd T2)).2.1) rfl (Nat.lt_of_lt_of_le (by decide) hn) rfl rfl rfl (Nat.le_of_ble_eq_true rfl) ⟨by decide, by decide⟩ rfl ⟨by decide, by decide⟩ dX7_readSum_99 ?_
          rintro _ _ _ _ ⟨rfl, rfl, rfl, rfl⟩
          refine r_iinc S dX7_readSum_102 rfl rfl rfl ?_
          refine r_goto S (tgt := 12) dX7_readSum_105 (by decide) ?_
          refine ih (f.1, 7) gs (acc ++ emS f) (adv T2) (i + 1) _ _ _ (by omega) (by omega) (by omega) (((hO2.put hb (Or.inr rfl) _ _).put hb (Or.inl rfl) _ _).adv hb) ⟨⟨⟨hF.1.1, Or.inr rfl⟩, hF.2⟩, h8, ?_, ?_⟩ (hR.trans (Kf_star jL (by omega) h7))
          · rw [flat_app, flat_emS, List.length_append, opc_eq, enc_7]
            show C0.length + ((flat acc).length + (eS f).length) + ((eP f).length + 1 + opr gs) + (adv T2).length ≤ 401
            omega
          · rw [flat_app, flat_emS, ← List.append_assoc, encs_eq, enc_7, ← h7]
            exact (hC2.put hb (hd T2)).adv hb
        have stops : ¬ hd T2 = -5 → ¬ hd T2 = -6 → ¬ hd T2 = -7 → k 56 [some (.ref (gb G + 55)), some (.ref (gb G + dr)), some (.int (jI i)), some (.int (jI (hd T2))), some (.int (jI (strn (hd T2))))] [] n J (rst bk dr pt) 0 0 := by
          intro n5 n6 n7
          refine r_aload_n S rfl dX7_readSum_56 ?_
          refine r_iconst S dX7_readSum_57 ?_
          refine r_aload_n S rfl dX7_readSum_58 ?_
          refine r_callV S lk_X7_103 mk_X7_writeWaiting (c_wEnc G n J bk dr pt hB hF h8 hN2 hp2 hC) rfl (Nat.lt_of_lt_of_le (by decide) hn) rfl rfl rfl (Nat.le_of_ble_eq_true rfl) ⟨by decide, by decide⟩ rfl ⟨by decide, by decide⟩ dX7_readSum_59 ?_
          rintro _ _ J2 _ ⟨rfl, rfl, rfl, hw⟩
          have hC2 := hCe.ww hb hw
          have hO2 : rdOnly dr I J2 := hJ.tr (hw.rd hb)
          have o3 : J2 55 3 = gs.length := hC2.2.2.1
          have hbadq : ¬ gs.length = 0 → R = .inl (1, pl T2) := by
            intro g0
            obtain ⟨g, gs2, eg⟩ : ∃ g gs2, gs = g :: gs2 := by
              cases gs with
              | nil => exact absurd rfl g0
              | cons g gs2 => exact ⟨g, gs2, rfl⟩
            refine hR.trans ?_
            rw [eg]
            exact Kf_bad n5 n6 n7 hn8 (fun h => g0 (by rw [h17 h]; rfl))
          have hgood : gs.length = 0 → rSu dr J2 C0 R := by
            intro g0
            have g1 : gs = [] := List.eq_nil_of_length_eq_zero g0
            refine ⟨(acc ++ emS f ++ emP f, T2), hR.trans (by rw [g1]; exact Kf_out n5 n6 n7 hn8), hC2.1, hC2.2.1, ?_, hC2.2.2.2.2.2.1, hC2.2.2.2.2.2.2⟩
            show bok dr J2 (C0 ++ flat (acc ++ emS f ++ emP f))
            rw [flat_app, flat_app, flat_emS, flat_emP hF.1, List.append_assoc, ← enc_eq, ← List.append_assoc]
            exact hC2.2.2.2.2.1
          refine r_aload_n S rfl dX7_readSum_62 ?_
          refine r_getI S (v := J2 55 3) fk_X7_25 dX7_readSum_63 rfl rfl (Nat.lt_of_lt_of_le (by decide) hn) rfl ?_
          refine r_if_eq S (tgt := 77) dX7_readSum_66 (by decide) (by omega) (fun c66 => ?_) (fun c66 => ?_)
          · refine r_iconst S dX7_readSum_77 ?_
            refine r_goto S (tgt := 82) dX7_readSum_78 (by decide) ?_
            refine r_zret SR dX7_readSum_82 (by decide) ⟨by decide, by decide⟩ ?_
            first | exact ⟨rfl, rfl, hO2, 1, rfl, Or.inr ⟨rfl, hgood (by omega)⟩⟩ | exact ⟨rfl, rfl, (hO2.put hb (Or.inl rfl) _ _).put hb (Or.inl rfl) _ _, 0, rfl, Or.inl ⟨rfl, rBad_of (hbadq (by omega))⟩⟩
          · refine r_aload_n S rfl dX7_readSum_69 ?_
            refine r_iconst S dX7_readSum_70 ?_
            refine r_callV S lk_X7_54 mk_X7_fail (c_X7_fail G n J2 bk dr pt hn hC2.2.1 (a := 1)) rfl (Nat.lt_of_lt_of_le (by decide) hn) rfl rfl rfl (Nat.le_of_ble_eq_true rfl) ⟨by decide, by decide⟩ rfl ⟨by decide, by decide⟩ dX7_readSum_71 ?_
            rintro _ _ _ _ ⟨rfl, rfl, rfl, rfl⟩
            refine r_if_eq S (tgt := 81) dX7_readSum_74 (by decide) (by decide) (fun c74 => ?_) (fun c74 => ?_)
            · refine r_iconst S dX7_readSum_81 ?_
              refine r_zret SR dX7_readSum_82 (by decide) ⟨by decide, by decide⟩ ?_
              first | exact ⟨rfl, rfl, hO2, 1, rfl, Or.inr ⟨rfl, hgood (by omega)⟩⟩ | exact ⟨rfl, rfl, (hO2.put hb (Or.inl rfl) _ _).put hb (Or.inl rfl) _ _, 0, rfl, Or.inl ⟨rfl, rBad_of (hbadq (by omega))⟩⟩
            · exact absurd c74 (by decide)
        refine r_aload_n S rfl dX7_readSum_37 ?_
        refine r_getR S (o' := 56) fk_X7_21 dX7_readSum_38 rfl rfl (Nat.lt_of_lt_of_le (by decide) hn) rfl ?_
        refine r_callV S lk_X7_44 mk_X9_code (c_tcode G n J bk dr pt hn jT) rfl (Nat.lt_of_lt_of_le (by decide) hn) rfl rfl rfl (Nat.le_of_ble_eq_true rfl) ⟨by decide, by decide⟩ rfl ⟨by decide, by decide⟩ dX7_readSum_41 ?_
        rintro _ _ _ _ ⟨rfl, rfl, rfl, rfl⟩
        refine r_istore_n S dX7_readSum_44 rfl rfl ?_
        refine r_iload_n S rfl dX7_readSum_45 ?_
        refine r_callS S lk_X7_99 mk_X1_strength (c_X1_strength G n J (rst bk dr pt) (by omega)) rfl rfl (Nat.le_of_ble_eq_true rfl) ⟨by decide, by decide⟩ rfl ⟨by decide, by decide⟩ dX7_readSum_46 ?_
        rintro _ _ _ _ ⟨rfl, rfl, rfl, rfl⟩
        refine r_istore S dX7_readSum_49 rfl rfl ?_
        refine r_iload S rfl dX7_readSum_51 ?_
        refine r_if_ne S (tgt := 83) dX7_readSum_53 (by decide) (by omega) (fun c53 => ?_) (fun c53 => ?_)
        · by_cases h7 : hd T2 = -7
          · rw [show strn (hd T2) = 2 by omega]
            exact star h7
          · rw [show strn (hd T2) = 1 by omega]
            exact plus (by omega)
        · exact stops (by omega) (by omega) (by omega)
      refine r_iload_n S rfl dX7_readSum_12 ?_
      refine r_sipush S (by decide +kernel) dX7_readSum_13 ?_
      refine r_icmp_gt S (tgt := 108) dX7_readSum_16 (by decide) (by omega) (by omega) (fun c16 => ?_) (fun c16 => ?_)
      · exact absurd c16 (by omega)
      · refine r_aload_n S rfl dX7_readSum_19 ?_
        refine r_aload_n S rfl dX7_readSum_20 ?_
        refine r_callV S lk_X7_93 mk_X7_readUnit (c_readUnit G n J bk dr pt hB hSJ) rfl (Nat.lt_of_lt_of_le (by decide) hn) rfl rfl rfl (Nat.le_of_ble_eq_true rfl) ⟨by decide, by decide⟩ rfl ⟨by decide, by decide⟩ dX7_readSum_21 ?_
        rintro v _ J1 _ ⟨rfl, rfl, hO1, z, rfl, ez⟩
        have hbad : z = 0 → rBad J1 R := fun hz => by rcases ez with ⟨-, h⟩ | ⟨h, -⟩; rw [hR]; exact h; omega
        have hO := hJ.tr hO1
        refine r_if_eq S (tgt := 35) dX7_readSum_24 (by decide) (by omega) (fun c24 => ?_) (fun c24 => ?_)
        · refine r_iconst S dX7_readSum_35 ?_
          refine r_zret SR dX7_readSum_36 (by decide) ⟨by decide, by decide⟩ ?_
          exact ⟨rfl, rfl, hO, 0, rfl, Or.inl ⟨rfl, hbad (by omega)⟩⟩
        · rcases ez with ⟨h, -⟩ | ⟨-, f1, gs1, acc1, T1, hR1, hS1, hl1, ha1⟩
          · omega
          have hN1 := hS1.2.2.1
          refine r_aload_n S rfl dX7_readSum_27 ?_
          refine r_aload_n S rfl dX7_readSum_28 ?_
          refine r_callV S lk_X7_96 mk_X7_readBehindUnit (c_readBehind G n J1 bk dr pt hB hS1 (by omega)) rfl (Nat.lt_of_lt_of_le (by decide) hn) rfl rfl rfl (Nat.le_of_ble_eq_true rfl) ⟨by decide, by decide⟩ rfl ⟨by decide, by decide⟩ dX7_readSum_29 ?_
          rintro v _ J2 _ ⟨rfl, rfl, hO2, y, rfl, ey⟩
          have hbad : y = 0 → rBad J2 R := fun hy => by rcases ey with ⟨-, h⟩ | ⟨h, -⟩; rw [hR, hR1]; exact h; omega
          have hO := hO.tr hO2
          refine r_if_ne S (tgt := 37) dX7_readSum_32 (by decide) (by omega) (fun c32 => ?_) (fun c32 => ?_)
          · rcases ey with ⟨h, -⟩ | ⟨-, f2, gs2, acc2, T2, hR2, hS2, hl2, h28, h217⟩
            · omega
            exact behind f2 gs2 acc2 T2 J2 hO hS2 (hR.trans (hR1.trans hR2)) (by omega) h28 h217
          · refine r_iconst S dX7_readSum_35 ?_
            refine r_zret SR dX7_readSum_36 (by decide) ⟨by decide, by decide⟩ ?_
            exact ⟨rfl, rfl, hO, 0, rfl, Or.inl ⟨rfl, hbad (by omega)⟩⟩
  obtain ⟨I1, eI1⟩ : ∃ I1, I1 = up (up I 55 3 0) 55 4 0 := ⟨_, rfl⟩
  have hS1 : rSt dr I1 C0 (0, 0) [] [] T := by
    refine ⟨⟨⟨Or.inl rfl, Or.inl rfl⟩, fun g hg => by cases hg⟩, by decide, ?_, hL, ?_, ?_, ⟨?_, trivial⟩, ?_, ?_, ?_⟩
    · show C0.length + 0 + 0 + T.length ≤ 401
      omega
    · rw [eI1]
      exact ctk_same hT (by rw [up_o (by decide), up_o (by decide)]) (by rw [up_o (by decide), up_o (by decide)]) (by rw [up_o (by decide), up_o (by decide)])
    · rw [eI1, up_i (by decide), up_s]; rfl
    · rw [eI1, up_s]; rfl
    · show bok dr I1 (C0 ++ [])
      rw [List.append_nil, eI1]
      exact bok_same hC (by rw [up_o (by omega), up_o (by omega)]) (by rw [up_o (by omega), up_o (by omega)])
    · rw [eI1, up_i (by decide), up_i (by decide)]; exact h0
    · rw [eI1, up_i (by decide), up_i (by decide)]; exact h1
  refine r_aload_n S rfl dX7_readSum_0 ?_
  refine r_iconst S dX7_readSum_1 ?_
  refine r_putI S fk_X7_25 dX7_readSum_2 rfl rfl (Nat.lt_of_lt_of_le (by decide) hn) (Or.inl rfl) (Or.inl rfl) ?_
  refine r_aload_n S rfl dX7_readSum_5 ?_
  refine r_iconst S dX7_readSum_6 ?_
  refine r_putI S fk_X7_28 dX7_readSum_7 rfl rfl (Nat.lt_of_lt_of_le (by decide) hn) (Or.inl rfl) (Or.inl rfl) ?_
  rw [← eI1]
  refine r_iconst S dX7_readSum_10 ?_
  refine r_istore_n S dX7_readSum_11 rfl rfl ?_
  exact loop (T.length + 1) (0, 0) [] [] T 0 I1 none none (by omega) (by decide) (by omega) (by rw [eI1]; exact ((rdOnly.rf _ _).put hb (Or.inl rfl) _ _).put hb (Or.inl rfl) _ _) hS1 (eR.trans (exprP_KU T))
end
