/-! ===== the reference's parser: sums, units, conditions ===== -/
theorem mPre_nx {J J1 : Iv} {T F : TL} {d : Int} (h : mPre J T F d) (hJ1 : nxOnly J J1) (hT1 : tokI J1 (adv T)) (hne : ¬ hd T = -19) : mPre J1 (adv T) F d := by
  have hl := TLok_len h.2.2.1 hne
  refine ⟨h.1.ps (psOnly.nx hJ1), hT1, TLok_adv h.2.2.1, h.2.2.2.1.nx hJ1, ?_, ?_⟩
  · have := h.2.2.2.2.1
    omega
  · rw [hJ1.2 36 (by decide) (by decide) (by decide) (by decide)]
    exact h.2.2.2.2.2
/-- laid behind what was read -/
theorem mPre_lay {I J2 : Iv} {F acc : TL} {dep : Int} {q : TL × TL} {k : Int} (hE : mE I) (hJ2 : psOnly I J2) (qL : TLok q.2) (qT : tokI J2 q.2) (qd : J2 72 36 = dep) (qS : stps (F ++ acc ++ q.1) J2) (qF : (F ++ acc ++ q.1).length + 1 + q.2.length ≤ 402) (hk : rg k) : mPre (layI J2 k 0) q.2 (F ++ (acc ++ q.1 ++ [(k, 0)])) dep := by
  refine ⟨hE.ps (layI_ps hJ2 _ _), layI_tok qT _ _, qL, ?_, ?_, by rw [layI_36]; exact qd⟩
  · rw [← List.append_assoc, ← List.append_assoc]
    exact layI_stps qS hk (by decide) (fun _ => rfl)
  · rw [← List.append_assoc, ← List.append_assoc, List.length_append]
    show (F ++ acc ++ q.1).length + 1 + q.2.length ≤ 402
    exact qF
section
variable (G : GE) (n : Nat) (I : Iv) (bk dr : Nat) (pt : Option Nat)
theorem c_sum (hn : 103 ≤ n) {d : Nat} {dep : Int} {u : TL → PR} {w : Nat} (hw : 1 ≤ w) (hu : ∀ T, TLok T → PG w T (u T)) (hd2 : 2 ≤ d) (U : mC G n bk dr pt yX12_product cX12_product 2 d dep (prodP u)) : mC G n bk dr pt yX12_sum cX12_sum 2 (d + 1) dep (sumP u) := by
  intro I T F hP
  refine Ct.of [some (.ref (gb G + 72)), none] (by decide) rfl rfl rfl ?_
  intro k SR
  have S : Sem G RX12 "sum" cX12_sum 2 (rmD (d+1) 0 0) k := SR.sem
  obtain ⟨R, eR⟩ : ∃ R, R = sumP u T := ⟨_, rfl⟩
  rw [← eR] at SR
  have hTlen : T.length ≤ 402 := by have := hP.2.2.2.2.1; omega
  have loop : ∀ (f : Nat) (acc T' : TL) (J : Iv), T'.length < f → psOnly I J → mPre J T' (F ++ acc) dep → sumT u f acc T' = R → k 9 [some (.ref (gb G + 72)), none] [] n J (rst bk dr pt) 0 0 := by
    intro f
    induction f with
    | zero => intro acc T' J h; omega
    | succ f ih =>
      intro acc T' J hlen hJ hPJ hR
      have hPJ0 := hPJ
      obtain ⟨jE, jT, jL, jS, jF, jd⟩ := hPJ
      have hh := TLok_hd jL
      have hr := mtok_rg hh.1
      have m43 := mt_43 hh.1
      have m45 := mt_45 hh.1
      have e30 := jT.1
      obtain ⟨c, ec⟩ : ∃ c, c = mtok (hd T') := ⟨_, rfl⟩
      rw [← ec] at hr m43 m45 e30
      have rest : ∀ how : Int, how = -hd T' → (hd T' = -5 ∨ hd T' = -6) → k 43 [some (.ref (gb G + 72)), some (.int (jI how))] [] n J (rst bk dr pt) 0 0 := by
        intro how eh h56
        unfold sumT at hR
        rw [if_pos h56, ← eh] at hR
        refine r_aload_n S rfl dX12_sum_43 ?_
        refine r_callV S lk_X12_183 mk_X12_next0 (c_next G n J bk dr pt hn jE jT (by omega)) rfl (Nat.lt_of_lt_of_le (by decide) hn) rfl rfl rfl (Nat.le_of_ble_eq_true rfl) (by unfold roomy rmD; simp only; omega) rfl ⟨Nat.le_refl _, Nat.le_refl _⟩ dX12_sum_44 ?_
        rintro _ _ J1 _ ⟨rfl, rfl, rfl, hJ1, hT1⟩
        have hP1 := mPre_nx hPJ0 hJ1 hT1 (by omega)
        have hl := TLok_len jL (by omega)
        refine r_aload_n S rfl dX12_sum_47 ?_
        refine r_callV S lk_X12_189 mk_X12_product (U J1 (adv T') (F ++ acc) hP1) rfl (Nat.lt_of_lt_of_le (by decide) hn) rfl rfl rfl (Nat.le_of_ble_eq_true rfl) (by unfold roomy rmD; simp only; omega) rfl ⟨Nat.le_refl _, Nat.le_refl _⟩ dX12_sum_48 ?_
        rintro v _ J2 _ ⟨rfl, rfl, hJ2, hV2, z, rfl, ez⟩
        refine r_if_ne S (tgt := 56) dX12_sum_51 (by decide) (by omega) (fun c51 => ?_) (fun c51 => ?_)
        · rcases ez with ⟨h0, -⟩ | ⟨-, q, h1, h3, h4, h5⟩
          · omega
          rw [h1] at hR
          obtain ⟨p1, p2, p3, p4, p5⟩ := PG_prodP hw hu hP1.2.2.1 q h1
          have qF : (F ++ acc ++ q.1).length + 1 + q.2.length ≤ 402 := by rw [List.length_append, List.length_append]; rw [List.length_append] at jF; omega
          have e19 : J2 72 19 = (F ++ acc ++ q.1).length := h5.2.1
          refine r_aload_n S rfl dX12_sum_56 ?_
          refine r_iload_n S rfl dX12_sum_57 ?_
          refine r_iconst S dX12_sum_58 ?_
          refine r_callV S lk_X12_193 mk_X12_lay (c_X12_lay G n J2 bk dr pt hn (a := how) (v := 0) (by omega) (by omega)) rfl (Nat.lt_of_lt_of_le (by decide) hn) rfl rfl rfl (Nat.le_of_ble_eq_true rfl) (by unfold roomy rmD; simp only; omega) rfl ⟨Nat.le_refl _, Nat.le_refl _⟩ dX12_sum_59 ?_
          rintro _ _ _ _ ⟨rfl, rfl, rfl, rfl⟩
          refine r_goto S (tgt := 9) dX12_sum_62 (by decide) ?_
          refine r_drop S 1 ?_
          have hJ02 := (hJ.tr (psOnly.nx hJ1)).tr hJ2
          exact ih (acc ++ q.1 ++ [(how, 0)]) q.2 _ (by omega) (layI_ps hJ02 _ _) (mPre_lay hP.1 hJ02 p1 h3 h4 h5 qF (by omega)) hR
        · refine r_iconst S dX12_sum_54 ?_
          refine r_zret SR dX12_sum_55 (by decide) ⟨by decide, by decide⟩ ?_
          rcases ez with ⟨-, e, h1, h3, h4⟩ | ⟨h0, -⟩
          · rw [h1] at hR
            exact ⟨rfl, rfl, mRes_bad ((hJ.tr (psOnly.nx hJ1)).tr hJ2) hV2 hR.symm h3 h4⟩
          · omega
      refine r_aload_n S rfl dX12_sum_9 ?_
      refine r_getI S (v := J 72 30) fk_X12_158 dX12_sum_10 rfl rfl (Nat.lt_of_lt_of_le (by decide) hn) rfl ?_
      refine r_bipush S (by decide +kernel) dX12_sum_13 ?_
      refine r_icmp_eq S (tgt := 27) dX12_sum_15 (by decide) (by omega) (by decide) (fun c15 => ?_) (fun c15 => ?_)
      · refine r_aload_n S rfl dX12_sum_27 ?_
        refine r_getI S (v := J 72 30) fk_X12_158 dX12_sum_28 rfl rfl (Nat.lt_of_lt_of_le (by decide) hn) rfl ?_
        refine r_bipush S (by decide +kernel) dX12_sum_31 ?_
        refine r_icmp_ne S (tgt := 40) dX12_sum_33 (by decide) (by omega) (by decide) (fun c33 => ?_) (fun c33 => ?_)
        · refine r_bipush S (by decide +kernel) dX12_sum_40 ?_
          refine r_istore_n S dX12_sum_42 rfl rfl ?_
          exact rest _ (by omega) (by omega)
        · refine r_iconst S dX12_sum_36 ?_
          refine r_goto S (tgt := 42) dX12_sum_37 (by decide) ?_
          refine r_istore_n S dX12_sum_42 rfl rfl ?_
          exact rest _ (by omega) (by omega)
      · refine r_aload_n S rfl dX12_sum_18 ?_
        refine r_getI S (v := J 72 30) fk_X12_158 dX12_sum_19 rfl rfl (Nat.lt_of_lt_of_le (by decide) hn) rfl ?_
        refine r_bipush S (by decide +kernel) dX12_sum_22 ?_
        refine r_icmp_ne S (tgt := 65) dX12_sum_24 (by decide) (by omega) (by decide) (fun c24 => ?_) (fun c24 => ?_)
        · refine r_iconst S dX12_sum_65 ?_
          refine r_zret SR dX12_sum_66 (by decide) ⟨by decide, by decide⟩ ?_
          unfold sumT at hR
          rw [if_neg (by omega)] at hR
          exact ⟨rfl, rfl, mRes_ok hJ hR.symm jT jd jS⟩
        · refine r_aload_n S rfl dX12_sum_27 ?_
          refine r_getI S (v := J 72 30) fk_X12_158 dX12_sum_28 rfl rfl (Nat.lt_of_lt_of_le (by decide) hn) rfl ?_
          refine r_bipush S (by decide +kernel) dX12_sum_31 ?_
          refine r_icmp_ne S (tgt := 40) dX12_sum_33 (by decide) (by omega) (by decide) (fun c33 => ?_) (fun c33 => ?_)
          · refine r_bipush S (by decide +kernel) dX12_sum_40 ?_
            refine r_istore_n S dX12_sum_42 rfl rfl ?_
            exact rest _ (by omega) (by omega)
          · refine r_iconst S dX12_sum_36 ?_
            refine r_goto S (tgt := 42) dX12_sum_37 (by decide) ?_
            refine r_istore_n S dX12_sum_42 rfl rfl ?_
            exact rest _ (by omega) (by omega)
  refine r_aload_n S rfl dX12_sum_0 ?_
  refine r_callV S lk_X12_189 mk_X12_product (U I T F hP) rfl (Nat.lt_of_lt_of_le (by decide) hn) rfl rfl rfl (Nat.le_of_ble_eq_true rfl) (by unfold roomy rmD; simp only; omega) rfl ⟨Nat.le_refl _, Nat.le_refl _⟩ dX12_sum_1 ?_
  rintro v _ J2 _ ⟨rfl, rfl, hJ2, hV2, z, rfl, ez⟩
  refine r_if_ne S (tgt := 9) dX12_sum_4 (by decide) (by omega) (fun c4 => ?_) (fun c4 => ?_)
  · rcases ez with ⟨h0, -⟩ | ⟨-, q, h1, h3, h4, h5⟩
    · omega
    · unfold sumP at eR
      rw [h1] at eR
      obtain ⟨p1, p2, p3, p4, p5⟩ := PG_prodP hw hu hP.2.2.1 q h1
      exact loop 500 q.1 q.2 J2 (by omega) hJ2 ⟨hP.1.ps hJ2, h3, p1, h5, by have := hP.2.2.2.2.1; rw [List.length_append]; omega, h4⟩ eR.symm
  · refine r_iconst S dX12_sum_7 ?_
    refine r_zret SR dX12_sum_8 (by decide) ⟨by decide, by decide⟩ ?_
    rcases ez with ⟨-, e, h1, h3, h4⟩ | ⟨h0, -⟩
    · unfold sumP at eR
      rw [h1] at eR
      exact ⟨rfl, rfl, mRes_bad hJ2 hV2 eR h3 h4⟩
    · omega
theorem c_need (hn : 103 ≤ n) {T : TL} (hE : mE I) (hT : tokI I T) (hTL : TLok T) {t : Int} (ht : rg t) (hne : ¬ t = 0) : Ct G yX12_need cX12_need 2 (some .boolean) 3 0 0 [.ref (gb G + 72), .int (jI t)] n I (rst bk dr pt) (fun v n' I' ρ' => n = n' ∧ rst bk dr pt = ρ' ∧ ∃ y : Int, v = some (.int (jI y)) ∧ ((y = 0 ∧ ¬ mtok (hd T) = t ∧ I' = up (up I 72 33 1) 72 34 (pl T)) ∨ (y = 1 ∧ mtok (hd T) = t ∧ nxOnly I I' ∧ tokI I' (adv T)))) := by
  refine Ct.of [some (.ref (gb G + 72)), some (.int (jI t))] (by decide) rfl rfl rfl ?_
  intro k SR
  have S : Sem G RX12 "need" cX12_need 2 (rmD 3 0 0) k := SR.sem
  have hh := TLok_hd hTL
  have hr := mtok_rg hh.1
  have h0 := mt_0 hh.1
  have e30 := hT.1
  have e31 := hT.2.1
  obtain ⟨c, ec⟩ : ∃ c, c = mtok (hd T) := ⟨_, rfl⟩
  rw [← ec] at hr e30 h0 SR
  refine r_aload_n S rfl dX12_need_0 ?_
  refine r_getI S (v := I 72 30) fk_X12_158 dX12_need_1 rfl rfl (Nat.lt_of_lt_of_le (by decide) hn) rfl ?_
  refine r_iload_n S rfl dX12_need_4 ?_
  refine r_icmp_eq S (tgt := 14) dX12_need_5 (by decide) (by omega) ht (fun c5 => ?_) (fun c5 => ?_)
  · refine r_aload_n S rfl dX12_need_14 ?_
    refine r_callV S lk_X12_183 mk_X12_next0 (c_next G n I bk dr pt hn hE hT (by omega)) rfl (Nat.lt_of_lt_of_le (by decide) hn) rfl rfl rfl (Nat.le_of_ble_eq_true rfl) ⟨by decide, by decide⟩ rfl ⟨by decide, by decide⟩ dX12_need_15 ?_
    rintro _ _ J _ ⟨rfl, rfl, rfl, hJ, hTJ⟩
    refine r_iconst S dX12_need_18 ?_
    refine r_zret SR dX12_need_19 (by decide) ⟨by decide, by decide⟩ ?_
    exact ⟨rfl, rfl, 1, rfl, Or.inr ⟨rfl, by omega, hJ, hTJ⟩⟩
  · refine r_aload_n S rfl dX12_need_8 ?_
    refine r_iconst S dX12_need_9 ?_
    refine r_callV S lk_X12_180 mk_X12_bad (c_X12_bad G n I bk dr pt hn) rfl (Nat.lt_of_lt_of_le (by decide) hn) rfl rfl rfl (Nat.le_of_ble_eq_true rfl) ⟨by decide, by decide⟩ rfl ⟨by decide, by decide⟩ dX12_need_10 ?_
    rintro _ _ _ _ ⟨rfl, rfl, rfl, rfl⟩
    refine r_zret SR dX12_need_13 (by decide) ⟨by decide, by decide⟩ ?_
    exact ⟨rfl, rfl, 0, rfl, Or.inl ⟨rfl, by omega, by rw [e31]⟩⟩
theorem c_unit1 (hn : 103 ≤ n) {d r : Nat} {dep : Int} (h8 : r ≤ 8) (hdep : dep = 8 - (r : Int)) (hd3 : 3 ≤ d) (X : ∀ r', r = r' + 1 → mC G n bk dr pt yX12_sum cX12_sum 2 d (dep + 1) (sumP (unitP r'))) : mC G n bk dr pt yX12_unit cX12_unit 1 (d + 1) dep (unitP r) := by
  intro I T F hP
  refine Ct.of [some (.ref (gb G + 72))] (by decide) rfl rfl rfl ?_
  intro k SR
  have S : Sem G RX12 "unit" cX12_unit 1 (rmD (d+1) 0 0) k := SR.sem
  obtain ⟨R, eR⟩ : ∃ R, R = unitP r T := ⟨_, rfl⟩
  rw [← eR] at SR
  have hP0 := hP
  obtain ⟨jE, jT, jL, jS, jF, jd⟩ := hP
  have hh := TLok_hd jL
  have hr := mtok_rg hh.1
  have m40 := mt_40 hh.1
  have m2 := mt_2 hh.1
  have m201 := mt_201 hh.1
  have e30 := jT.1
  have e31 := jT.2.1
  have e32 := jT.2.2.1
  have mf : -4 ≤ hd T → hd T ≤ -1 → 1 + mtok (hd T) - 201 = -hd T := mt_fact
  have hrv := jT.2.2.2.1
  obtain ⟨c, ec⟩ : ∃ c, c = mtok (hd T) := ⟨_, rfl⟩
  rw [← ec] at hr m40 m2 m201 e30 mf
  have laid : ∀ a : Int, (0 ≤ hd T ∧ a = 0) ∨ (-4 ≤ hd T ∧ hd T ≤ -1 ∧ a = -hd T) → k 115 [some (.ref (gb G + 72))] [.int (jI a), .ref (gb G + 72)] n I (rst bk dr pt) 0 0 := by
    intro a ha
    have e19 : I 72 19 = F.length := jS.2.1
    have hlp := TLok_pos jL
    refine r_aload_n S rfl dX12_unit_115 ?_
    refine r_getI S (v := I 72 32) fk_X12_171 dX12_unit_116 rfl rfl (Nat.lt_of_lt_of_le (by decide) hn) rfl ?_
    refine r_callV S lk_X12_193 mk_X12_lay (c_X12_lay G n I bk dr pt hn (a := a) (v := I 72 32) (by omega) (by omega)) rfl (Nat.lt_of_lt_of_le (by decide) hn) rfl rfl rfl (Nat.le_of_ble_eq_true rfl) (by unfold roomy rmD; simp only; omega) rfl ⟨Nat.le_refl _, Nat.le_refl _⟩ dX12_unit_119 ?_
    rintro _ _ _ _ ⟨rfl, rfl, rfl, rfl⟩
    obtain ⟨J2, eJ2⟩ : ∃ J2, J2 = layI I a (I 72 32) := ⟨_, rfl⟩
    have hJ02 : psOnly I J2 := by rw [eJ2]; exact layI_ps (psOnly.rf _) _ _
    have hT2 : tokI J2 T := by rw [eJ2]; exact layI_tok jT _ _
    have hd2' : J2 72 36 = dep := by rw [eJ2, layI_36]; exact jd
    rw [← eJ2]
    refine r_aload_n S rfl dX12_unit_122 ?_
    refine r_callV S lk_X12_183 mk_X12_next0 (c_next G n J2 bk dr pt hn (jE.ps hJ02) hT2 (by omega)) rfl (Nat.lt_of_lt_of_le (by decide) hn) rfl rfl rfl (Nat.le_of_ble_eq_true rfl) (by unfold roomy rmD; simp only; omega) rfl ⟨Nat.le_refl _, Nat.le_refl _⟩ dX12_unit_123 ?_
    rintro _ _ J3 _ ⟨rfl, rfl, rfl, hJ3, hT3⟩
    refine r_iconst S dX12_unit_126 ?_
    refine r_zret SR dX12_unit_127 (by decide) ⟨by decide, by decide⟩ ?_
    have hu : unitP r T = atomP T := by cases r with | zero => exact if_neg (by omega) | succ r => exact if_neg (by omega)
    have hd3' : J3 72 36 = dep := by rw [hJ3.2 36 (by decide) (by decide) (by decide) (by decide)]; exact hd2'
    rw [hu] at eR
    unfold atomP at eR
    rcases ha with ⟨h0, rfl⟩ | ⟨h0, h1, rfl⟩
    · rw [if_pos h0] at eR
      refine ⟨rfl, rfl, mRes_ok (hJ02.tr (psOnly.nx hJ3)) eR hT3 hd3' ?_⟩
      refine stps.nx ?_ hJ3
      rw [eJ2]
      exact layI_stps jS (by decide) (by omega) (fun _ => e32 h0)
    · rw [if_neg (by omega), if_pos h0] at eR
      refine ⟨rfl, rfl, mRes_ok (hJ02.tr (psOnly.nx hJ3)) eR hT3 hd3' ?_⟩
      refine stps.nx ?_ hJ3
      rw [eJ2]
      exact layI_stps jS (by omega) (by omega) (fun q => by omega)
  have opened : hd T = -16 → ¬ r = 0 → k 24 [some (.ref (gb G + 72))] [] n I (rst bk dr pt) 0 0 := by
    intro h16 hr0
    obtain ⟨r', er'⟩ : ∃ r', r = r' + 1 := ⟨r - 1, by omega⟩
    have X' := X r' er'
    have eR' : R = (if hd T = -16 then (match sumP (unitP r') (adv T) with
      | .inl e => .inl e
      | .inr q => if hd q.2 = -17 then .inr (q.1, adv q.2) else .inl (1, pl q.2))
      else atomP T) := by rw [eR, er']; rfl
    rw [if_pos h16] at eR'
    obtain ⟨J0, eJ0⟩ : ∃ J0, J0 = up I 72 36 (I 72 36 + 1) := ⟨_, rfl⟩
    have p0 : psOnly I J0 := by rw [eJ0]; exact (psOnly.rf _).put _ (by omega)
    have hP0' : mPre J0 T F (dep + 1) := by
      refine ⟨jE.ps p0, ?_, jL, ?_, jF, ?_⟩
      · rw [eJ0]; exact jT.put _ (by omega)
      · rw [eJ0]; exact jS.put _ (by decide)
      · rw [eJ0, up_s, jd]
    refine r_aload_n S rfl dX12_unit_24 ?_
    refine r_dup S rfl dX12_unit_25 ?_
    refine r_getI S (v := I 72 36) fk_X12_200 dX12_unit_26 rfl rfl (Nat.lt_of_lt_of_le (by decide) hn) rfl ?_
    refine r_iconst S dX12_unit_29 ?_
    refine r_iadd S dX12_unit_30 ?_
    refine r_putI S fk_X12_200 dX12_unit_31 rfl rfl (Nat.lt_of_lt_of_le (by decide) hn) (Or.inl rfl) (Or.inl rfl) ?_
    rw [← eJ0]
    refine r_aload_n S rfl dX12_unit_34 ?_
    refine r_callV S lk_X12_183 mk_X12_next0 (c_next G n J0 bk dr pt hn hP0'.1 hP0'.2.1 (by omega)) rfl (Nat.lt_of_lt_of_le (by decide) hn) rfl rfl rfl (Nat.le_of_ble_eq_true rfl) (by unfold roomy rmD; simp only; omega) rfl ⟨Nat.le_refl _, Nat.le_refl _⟩ dX12_unit_35 ?_
    rintro _ _ J1 _ ⟨rfl, rfl, rfl, hJ1, hT1⟩
    have hP1 := mPre_nx hP0' hJ1 hT1 (by omega)
    refine r_aload_n S rfl dX12_unit_38 ?_
    refine r_callV S lk_X12_203 mk_X12_sum (X' J1 (adv T) F hP1) rfl (Nat.lt_of_lt_of_le (by decide) hn) rfl rfl rfl (Nat.le_of_ble_eq_true rfl) (by unfold roomy rmD; simp only; omega) rfl ⟨Nat.le_refl _, Nat.le_refl _⟩ dX12_unit_39 ?_
    rintro v _ J2 _ ⟨rfl, rfl, hJ2, hV2, z, rfl, ez⟩
    have p2 : psOnly I J2 := (p0.tr (psOnly.nx hJ1)).tr hJ2
    have hbad : z = 0 → mRes I F dep R (some (.int (jI 0))) J2 := by
      intro hz
      rcases ez with ⟨-, e, h1, h3, h4⟩ | ⟨h0, -⟩
      · rw [h1] at eR'
        exact mRes_bad p2 hV2 eR' h3 h4
      · omega
    refine r_if_eq S (tgt := 54) dX12_unit_42 (by decide) (by omega) (fun c42 => ?_) (fun c42 => ?_)
    · refine r_iconst S dX12_unit_54 ?_
      refine r_zret SR dX12_unit_55 (by decide) ⟨by decide, by decide⟩ ?_
      exact ⟨rfl, rfl, hbad (by omega)⟩
    · rcases ez with ⟨h0, -⟩ | ⟨-, q, h1, h3, h4, h5⟩
      · omega
      rw [h1] at eR'
      obtain ⟨p1, p2', p3, p4, p5⟩ := PG_sumP (by omega) (PG_unitP r') hP1.2.2.1 q h1
      have eR2 : R = (if hd q.2 = -17 then .inr (q.1, adv q.2) else .inl (1, pl q.2)) := eR'
      have m41 := mt_41 (TLok_hd p1).1
      refine r_aload_n S rfl dX12_unit_45 ?_
      refine r_bipush S (by decide +kernel) dX12_unit_46 ?_
      refine r_callV S lk_X12_206 mk_X12_need (c_need G n J2 bk dr pt hn (jE.ps p2) h3 p1 (t := 41) (by decide) (by decide)) rfl (Nat.lt_of_lt_of_le (by decide) hn) rfl rfl rfl (Nat.le_of_ble_eq_true rfl) (by unfold roomy rmD; simp only; omega) rfl ⟨Nat.le_refl _, Nat.le_refl _⟩ dX12_unit_48 ?_
      rintro v _ J3 _ ⟨rfl, rfl, y, rfl, ey⟩
      have hbad : y = 0 → mRes I F dep R (some (.int (jI 0))) J3 := by
        intro hy
        rcases ey with ⟨-, n1, n2⟩ | ⟨n0, -⟩
        · rw [if_neg (by omega)] at eR2
          refine mRes_bad ?_ (by rw [n2]; exact vOk.bad hV2 _ _) eR2 ?_ ?_
          · rw [n2]
            exact (p2.put _ (by omega)).put _ (by omega)
          · rw [n2, up_i (by decide), up_s]
          · rw [n2, up_s]
        · omega
      refine r_if_ne S (tgt := 56) dX12_unit_51 (by decide) (by omega) (fun c51 => ?_) (fun c51 => ?_)
      · rcases ey with ⟨n0, -⟩ | ⟨-, n1, n2, n3⟩
        · omega
        rw [if_pos (by omega)] at eR2
        have d3 : J3 72 36 = dep + 1 := by rw [n2.2 36 (by decide) (by decide) (by decide) (by decide)]; exact h4
        refine r_aload_n S rfl dX12_unit_56 ?_
        refine r_dup S rfl dX12_unit_57 ?_
        refine r_getI S (v := J3 72 36) fk_X12_200 dX12_unit_58 rfl rfl (Nat.lt_of_lt_of_le (by decide) hn) rfl ?_
        refine r_iconst S dX12_unit_61 ?_
        refine r_isub S dX12_unit_62 ?_
        refine r_putI S fk_X12_200 dX12_unit_63 rfl rfl (Nat.lt_of_lt_of_le (by decide) hn) (Or.inl rfl) (Or.inl rfl) ?_
        refine r_iconst S dX12_unit_66 ?_
        refine r_zret SR dX12_unit_67 (by decide) ⟨by decide, by decide⟩ ?_
        refine ⟨rfl, rfl, mRes_ok ((p2.tr (psOnly.nx n2)).put _ (by omega)) eR2 (n3.put _ (by omega)) (by rw [up_s]; omega) ((h5.nx n2).put _ (by decide))⟩
      · refine r_iconst S dX12_unit_54 ?_
        refine r_zret SR dX12_unit_55 (by decide) ⟨by decide, by decide⟩ ?_
        exact ⟨rfl, rfl, hbad (by omega)⟩
  refine r_aload_n S rfl dX12_unit_0 ?_
  refine r_getI S (v := I 72 30) fk_X12_158 dX12_unit_1 rfl rfl (Nat.lt_of_lt_of_le (by decide) hn) rfl ?_
  refine r_bipush S (by decide +kernel) dX12_unit_4 ?_
  refine r_icmp_ne S (tgt := 68) dX12_unit_6 (by decide) (by omega) (by decide) (fun c6 => ?_) (fun c6 => ?_)
  · refine r_aload_n S rfl dX12_unit_68 ?_
    refine r_getI S (v := I 72 30) fk_X12_158 dX12_unit_69 rfl rfl (Nat.lt_of_lt_of_le (by decide) hn) rfl ?_
    refine r_iconst S dX12_unit_72 ?_
    refine r_icmp_eq S (tgt := 92) dX12_unit_73 (by decide) (by omega) (by decide) (fun c73 => ?_) (fun c73 => ?_)
    · refine r_aload_n S rfl dX12_unit_92 ?_
      refine r_aload_n S rfl dX12_unit_93 ?_
      refine r_getI S (v := I 72 30) fk_X12_158 dX12_unit_94 rfl rfl (Nat.lt_of_lt_of_le (by decide) hn) rfl ?_
      refine r_iconst S dX12_unit_97 ?_
      refine r_icmp_ne S (tgt := 105) dX12_unit_98 (by decide) (by omega) (by decide) (fun c98 => ?_) (fun c98 => ?_)
      · refine r_iconst S dX12_unit_105 ?_
        refine r_aload_n S rfl dX12_unit_106 ?_
        refine r_getI S (v := I 72 30) fk_X12_158 dX12_unit_107 rfl rfl (Nat.lt_of_lt_of_le (by decide) hn) rfl ?_
        refine r_iadd S dX12_unit_110 ?_
        refine r_sipush S (by decide +kernel) dX12_unit_111 ?_
        refine r_isub S dX12_unit_114 ?_
        exact laid _ (by omega)
      · refine r_iconst S dX12_unit_101 ?_
        refine r_goto S (tgt := 115) dX12_unit_102 (by decide) ?_
        exact laid _ (by omega)
    · refine r_aload_n S rfl dX12_unit_76 ?_
      refine r_getI S (v := I 72 30) fk_X12_158 dX12_unit_77 rfl rfl (Nat.lt_of_lt_of_le (by decide) hn) rfl ?_
      refine r_sipush S (by decide +kernel) dX12_unit_80 ?_
      refine r_icmp_ge S (tgt := 92) dX12_unit_83 (by decide) (by omega) (by decide) (fun c83 => ?_) (fun c83 => ?_)
      · refine r_aload_n S rfl dX12_unit_92 ?_
        refine r_aload_n S rfl dX12_unit_93 ?_
        refine r_getI S (v := I 72 30) fk_X12_158 dX12_unit_94 rfl rfl (Nat.lt_of_lt_of_le (by decide) hn) rfl ?_
        refine r_iconst S dX12_unit_97 ?_
        refine r_icmp_ne S (tgt := 105) dX12_unit_98 (by decide) (by omega) (by decide) (fun c98 => ?_) (fun c98 => ?_)
        · refine r_iconst S dX12_unit_105 ?_
          refine r_aload_n S rfl dX12_unit_106 ?_
          refine r_getI S (v := I 72 30) fk_X12_158 dX12_unit_107 rfl rfl (Nat.lt_of_lt_of_le (by decide) hn) rfl ?_
          refine r_iadd S dX12_unit_110 ?_
          refine r_sipush S (by decide +kernel) dX12_unit_111 ?_
          refine r_isub S dX12_unit_114 ?_
          exact laid _ (by omega)
        · refine r_iconst S dX12_unit_101 ?_
          refine r_goto S (tgt := 115) dX12_unit_102 (by decide) ?_
          exact laid _ (by omega)
      · refine r_aload_n S rfl dX12_unit_86 ?_
        refine r_iconst S dX12_unit_87 ?_
        refine r_callV S lk_X12_180 mk_X12_bad (c_X12_bad G n I bk dr pt hn) rfl (Nat.lt_of_lt_of_le (by decide) hn) rfl rfl rfl (Nat.le_of_ble_eq_true rfl) (by unfold roomy rmD; simp only; omega) rfl ⟨Nat.le_refl _, Nat.le_refl _⟩ dX12_unit_88 ?_
        rintro _ _ _ _ ⟨rfl, rfl, rfl, rfl⟩
        refine r_zret SR dX12_unit_91 (by decide) ⟨by decide, by decide⟩ ?_
        have hu : unitP r T = atomP T := by cases r with | zero => exact if_neg (by omega) | succ r => exact if_neg (by omega)
        rw [hu] at eR
        unfold atomP at eR
        rw [if_neg (by omega), if_neg (by omega)] at eR
        refine ⟨rfl, rfl, mRes_bad (((psOnly.rf _).put _ (by omega)).put _ (by omega)) (vOk.bad hrv _ _) eR ?_ ?_⟩
        · rw [up_i (by decide), up_s]
        · rw [up_s, e31]
  · refine r_aload_n S rfl dX12_unit_9 ?_
    refine r_getI S (v := I 72 36) fk_X12_200 dX12_unit_10 rfl rfl (Nat.lt_of_lt_of_le (by decide) hn) rfl ?_
    refine r_bipush S (by decide +kernel) dX12_unit_13 ?_
    refine r_icmp_ne S (tgt := 24) dX12_unit_15 (by decide) (by omega) (by decide) (fun c15 => ?_) (fun c15 => ?_)
    · exact opened (by omega) (by omega)
    · refine r_aload_n S rfl dX12_unit_18 ?_
      refine r_iconst S dX12_unit_19 ?_
      refine r_callV S lk_X12_180 mk_X12_bad (c_X12_bad G n I bk dr pt hn) rfl (Nat.lt_of_lt_of_le (by decide) hn) rfl rfl rfl (Nat.le_of_ble_eq_true rfl) (by unfold roomy rmD; simp only; omega) rfl ⟨Nat.le_refl _, Nat.le_refl _⟩ dX12_unit_20 ?_
      rintro _ _ _ _ ⟨rfl, rfl, rfl, rfl⟩
      refine r_zret SR dX12_unit_23 (by decide) ⟨by decide, by decide⟩ ?_
      have hu : unitP r T = .inl (3, pl T) := by
        have hr0 : r = 0 := by omega
        rw [hr0]
        exact if_pos (by omega)
      rw [hu] at eR
      refine ⟨rfl, rfl, mRes_bad (((psOnly.rf _).put _ (by omega)).put _ (by omega)) (vOk.bad hrv _ _) eR ?_ ?_⟩
      · rw [up_i (by decide), up_s]
      · rw [up_s, e31]
theorem c_units (hn : 103 ≤ n) : ∀ r : Nat, r ≤ 8 → mC G n bk dr pt yX12_unit cX12_unit 1 (4 + 3 * r) (8 - (r : Int)) (unitP r)
  | 0 => fun h8 => c_unit1 G n bk dr pt hn (d := 3) h8 rfl (by decide) (fun r' h => by omega)
  | r + 1 => fun h8 => by
    rw [show 4 + 3 * (r + 1) = 6 + 3 * r + 1 by omega]
    refine c_unit1 G n bk dr pt hn (r := r + 1) (d := 6 + 3 * r) (dep := 8 - ((r + 1 : Nat) : Int)) h8 rfl (by omega) (fun r' h => ?_)
    have e : r' = r := by omega
    rw [e, show 8 - ((r + 1 : Nat) : Int) + 1 = 8 - (r : Int) by omega]
    have P := c_product G n bk dr pt hn (w := 2 * r + 1) (by omega) (PG_unitP r) (by omega) (c_units hn r (by omega))
    have Q := c_sum G n bk dr pt hn (w := 2 * r + 1) (by omega) (PG_unitP r) (by omega) P
    rw [show 6 + 3 * r = 4 + 3 * r + 1 + 1 by omega]
    exact Q
theorem c_expr (hn : 103 ≤ n) : mC G n bk dr pt yX12_sum cX12_sum 2 30 0 exprP := by
  have P := c_product G n bk dr pt hn (w := 17) (by omega) (PG_unitP 8) (by omega) (c_units G n bk dr pt hn 8 (by decide))
  exact c_sum G n bk dr pt hn (w := 17) (by omega) (PG_unitP 8) (by omega) P
end
