/-! ===== the class's WAYS: find, addSite, setTies ===== -/
theorem absI_neg (a : Int) : absI (-a) = absI a := by
  unfold absI
  by_cases h : 0 ≤ a
  · by_cases h2 : 0 ≤ -a
    · rw [if_pos h, if_pos h2]; omega
    · rw [if_pos h, if_neg h2]; omega
  · rw [if_neg h, if_pos (by omega)]
theorem absI_sub (a b : Int) : absI (a - b) = absI (b - a) := by rw [← absI_neg, show -(a - b) = b - a by omega]
theorem nrM_sym (X Y : Int → Int) (s t : Int) : nrM X Y s t = nrM X Y t s := by
  unfold nrM
  rw [absI_sub (X s), absI_sub (Y s)]
def wfOnly (I J : Iv) : Prop := (∀ o, o ≠ 16 → o ≠ 37 → o ≠ 38 → o < 42 ∨ 50 < o → J o = I o) ∧ ∀ j, j ≠ 5 → j ≠ 7 → j ≠ 8 → J 16 j = I 16 j
section
variable (G : GE) (n : Nat) (I : Iv) (bk dr : Nat) (pt : Option Nat)
theorem c_wfind (hn : 103 ≤ n) {NR TI : Int → Int → Int} {H Z : Nat} (E : waS NR TI Z I) (hHZ : H ≤ Z) (hT : ∀ t : Int, 0 ≤ t → t < 8 → I 39 t = 0) (hP : ∀ i : Int, 0 ≤ i → i < 64 → I 41 i = 0) (hk : -1 ≤ I 16 7 ∧ I 16 7 ≤ 8) (hkn : I 16 7 = H → cb I H (bestW NR TI H Z)) : Ct G yX10_find cX10_find 2 none (5+2*H) 0 0 [.ref (gb G + 16), .int (jI (H : Int))] n I (rst bk dr pt) (fun v n' I' ρ' => v = none ∧ n = n' ∧ rst bk dr pt = ρ' ∧ wfOnly I I' ∧ I' 16 7 = H ∧ cb I' H (bestW NR TI H Z)) := by
  refine Ct.of [some (.ref (gb G + 16)), some (.int (jI (H : Int)))] (by decide) rfl rfl rfl ?_
  intro k SR
  have S : Sem G RX10 "find" cX10_find 2 (rmD (5+2*H) 0 0) k := SR.sem
  have hZ := E.1.1
  have eZ := E.1.2
  obtain ⟨I1, eI1⟩ : ∃ I1, I1 = up I 16 8 H := ⟨_, rfl⟩
  have E1 : waS NR TI Z I1 := E.same (by rw [eI1, up_i (by decide)]) (fun o a b => by rw [eI1, up_o (by omega)])
  have C1 := c_boundAmong G n I1 bk dr pt hn E1 hHZ (by rw [eI1, up_s])
  refine r_iload_n S rfl dX10_find_0 ?_
  refine r_aload_n S rfl dX10_find_1 ?_
  refine r_getI S (v := I 16 7) fk_X10_36 dX10_find_2 rfl rfl (Nat.lt_of_lt_of_le (by decide) hn) rfl ?_
  refine r_icmp_eq S (tgt := 20) dX10_find_5 (by decide) (by omega) (by omega) (fun c5 => ?_) (fun c5 => ?_)
  · refine r_vret SR dX10_find_20 ⟨Nat.le_refl _, Nat.le_refl _⟩ ?_
    first | exact ⟨rfl, rfl, rfl, ⟨fun _ _ _ _ _ => rfl, fun _ _ _ _ => rfl⟩, by omega, hkn (by omega)⟩ | exact absurd c17 (by omega)
  · refine r_iload_n S rfl dX10_find_8 ?_
    refine r_iconst S dX10_find_9 ?_
    refine r_aload_n S rfl dX10_find_10 ?_
    refine r_getI S (v := I 16 0) fk_X10_9 dX10_find_11 rfl rfl (Nat.lt_of_lt_of_le (by decide) hn) rfl ?_
    refine r_callS S lk_X10_65 mk_X11_isWithin (c_X11_isWithin G n I (rst bk dr pt) (by omega) (by decide) (by omega)) rfl rfl (Nat.le_of_ble_eq_true rfl) (by unfold roomy rmD; simp only; omega) rfl ⟨Nat.le_refl _, Nat.le_refl _⟩ dX10_find_14 ?_
    rintro _ _ _ _ ⟨rfl, rfl, rfl, rfl⟩
    refine r_ifb_ne S (tgt := 21) dX10_find_17 (by decide)  (fun c17 => ?_) (fun c17 => ?_)
    · refine r_aload_n S rfl dX10_find_21 ?_
      refine r_iload_n S rfl dX10_find_22 ?_
      refine r_putI S fk_X10_39 dX10_find_23 rfl rfl (Nat.lt_of_lt_of_le (by decide) hn) (Or.inl rfl) (Or.inl rfl) ?_
      rw [← eI1]
      refine r_aload_n S rfl dX10_find_26 ?_
      refine r_callV S lk_X10_69 mk_X10_boundAmong C1 rfl (Nat.lt_of_lt_of_le (by decide) hn) rfl rfl rfl (Nat.le_of_ble_eq_true rfl) (by unfold roomy rmD; simp only; omega) rfl ⟨Nat.le_refl _, Nat.le_refl _⟩ dX10_find_27 ?_
      rintro _ _ J _ ⟨rfl, rfl, rfl, hJ, nst, EJ⟩
      obtain ⟨J1, eJ1⟩ : ∃ J1, J1 = up J 16 5 (-1) := ⟨_, rfl⟩
      have EJ1 : wEnv NR TI H Z nst J1 := EJ.wy (by rw [eJ1]; exact (wyOnly.rf J).put _)
      have PF : pfPre NR TI H Z nst J1 [] 0 (-1, []) := ⟨EJ1, (fun x h => absurd h (by simp)), trivial, fun t a c => by rw [eJ1, up_o (by decide), hJ 39 (by decide), eI1, up_o (by decide), hT t a c, b2_f (fun h => by cases h)], fun j t a c d e => by rw [eJ1, up_o (by omega), hJ _ (by omega), eI1, up_o (by omega)]; exact hP _ (by omega) (by omega), ⟨by rw [eJ1, up_s], Or.inl rfl⟩, by decide, by decide⟩
      have UC := c_placeFrom G n bk dr pt hn H J1 [] 0 (-1, []) (by show 0 + H = H; omega) PF
      refine r_aload_n S rfl dX10_find_30 ?_
      refine r_iconst S dX10_find_31 ?_
      refine r_putI S fk_X10_30 dX10_find_32 rfl rfl (Nat.lt_of_lt_of_le (by decide) hn) (Or.inl rfl) (Or.inl rfl) ?_
      rw [← eJ1]
      refine r_aload_n S rfl dX10_find_35 ?_
      refine r_iconst S dX10_find_36 ?_
      refine r_iconst S dX10_find_37 ?_
      refine r_callV S lk_X10_72 mk_X10_placeFrom UC rfl (Nat.lt_of_lt_of_le (by decide) hn) rfl rfl rfl (Nat.le_of_ble_eq_true rfl) (by unfold roomy rmD; simp only; omega) rfl ⟨Nat.le_refl _, Nat.le_refl _⟩ dX10_find_38 ?_
      rintro _ _ J2 _ ⟨rfl, rfl, rfl, p1, p2, p3, p4, p5⟩
      refine r_aload_n S rfl dX10_find_41 ?_
      refine r_iload_n S rfl dX10_find_42 ?_
      refine r_putI S fk_X10_36 dX10_find_43 rfl rfl (Nat.lt_of_lt_of_le (by decide) hn) (Or.inl rfl) (Or.inl rfl) ?_
      refine r_vret SR dX10_find_46 ⟨Nat.le_refl _, Nat.le_refl _⟩ ?_
      refine ⟨rfl, rfl, rfl, ⟨fun o a b c d => ?_, fun j a b c => ?_⟩, up_s _ _ _ _, p5.same (up_i (by decide)) (up_o (by decide))⟩
      · rw [up_o a]
        by_cases e39 : o = 39
        · rw [e39, p4, eJ1, up_o (by decide), hJ 39 (by decide), eI1, up_o (by decide)]
        · rw [p1.1 o a b c e39 (by omega), eJ1, up_o a, hJ o (by omega), eI1, up_o a]
      · rw [up_i b, p1.2 j a, eJ1, up_i a, hJ 16 (by decide), eI1, up_i c]
    · exact absurd c17 (fun q => q (by omega))
theorem c_setTies (hn : 103 ≤ n) {a b : Nat} {v : Int} (ha : a < 8) (hb : b < 8) (hab : a ≠ b) (hv : rg v) (hr : rg (I (29 + a) b)) : Ct G yX10_setTies cX10_setTies 4 (some .boolean) 1 0 0 [.ref (gb G + 16), .int (jI (a : Int)), .int (jI (b : Int)), .int (jI v)] n I (rst bk dr pt) (PI 1 n (if I (29 + a) b = v then I else up (up (up I (29 + a) b v) (29 + b) a v) 16 7 (-1)) (rst bk dr pt)) := by
  refine Ct.of [some (.ref (gb G + 16)), some (.int (jI (a : Int))), some (.int (jI (b : Int))), some (.int (jI v))] (by decide) rfl rfl rfl ?_
  intro k SR
  have S : Sem G RX10 "setTies" cX10_setTies 4 (rmD 1 0 0) k := SR.sem
  refine r_iload_n S rfl dX10_setTies_0 ?_
  refine r_iconst S dX10_setTies_1 ?_
  refine r_bipush S (by decide +kernel) dX10_setTies_2 ?_
  refine r_callS S lk_X10_65 mk_X11_isWithin (c_X11_isWithin G n I (rst bk dr pt) (by omega) (by decide) (by decide)) rfl rfl (Nat.le_of_ble_eq_true rfl) ⟨by decide, by decide⟩ rfl ⟨by decide, by decide⟩ dX10_setTies_4 ?_
  rintro _ _ _ _ ⟨rfl, rfl, rfl, rfl⟩
  refine r_ifb_eq S (tgt := 20) dX10_setTies_7 (by decide)  (fun c7 => ?_) (fun c7 => ?_)
  · exact absurd c7 (fun q => q (by omega))
  · refine r_iload_n S rfl dX10_setTies_10 ?_
    refine r_iconst S dX10_setTies_11 ?_
    refine r_bipush S (by decide +kernel) dX10_setTies_12 ?_
    refine r_callS S lk_X10_65 mk_X11_isWithin (c_X11_isWithin G n I (rst bk dr pt) (by omega) (by decide) (by decide)) rfl rfl (Nat.le_of_ble_eq_true rfl) ⟨by decide, by decide⟩ rfl ⟨by decide, by decide⟩ dX10_setTies_14 ?_
    rintro _ _ _ _ ⟨rfl, rfl, rfl, rfl⟩
    refine r_ifb_ne S (tgt := 22) dX10_setTies_17 (by decide)  (fun c17 => ?_) (fun c17 => ?_)
    · refine r_aload_n S rfl dX10_setTies_22 ?_
      refine r_getR S (o' := 28) fk_X10_27 dX10_setTies_23 rfl rfl (Nat.lt_of_lt_of_le (by decide) hn) rfl ?_
      refine r_iload_n S rfl dX10_setTies_26 ?_
      refine r_aald S (o' := (29 + a)) dX10_setTies_27 rfl rfl (Nat.lt_of_lt_of_le (by decide) hn) (by omega) (by omega) (rst_row_28 bk dr pt ha) ?_
      refine r_iload_n S rfl dX10_setTies_28 ?_
      refine r_iald S (v := I (29 + a) (b:Int)) dX10_setTies_29 (kd_ties ha) rfl (by omega) (by omega) (by omega) rfl ?_
      refine r_iload_n S rfl dX10_setTies_30 ?_
      refine r_icmp_eq S (tgt := 57) dX10_setTies_31 (by decide) hr hv (fun c31 => ?_) (fun c31 => ?_)
      · refine r_iconst S dX10_setTies_57 ?_
        refine r_zret SR dX10_setTies_58 (by decide) ⟨by decide, by decide⟩ ?_
        first | exact ⟨rfl, rfl, by rw [if_pos c31], rfl⟩ | exact ⟨rfl, rfl, by rw [if_neg c31], rfl⟩
      · refine r_aload_n S rfl dX10_setTies_34 ?_
        refine r_getR S (o' := 28) fk_X10_27 dX10_setTies_35 rfl rfl (Nat.lt_of_lt_of_le (by decide) hn) rfl ?_
        refine r_iload_n S rfl dX10_setTies_38 ?_
        refine r_aald S (o' := (29 + a)) dX10_setTies_39 rfl rfl (Nat.lt_of_lt_of_le (by decide) hn) (by omega) (by omega) (rst_row_28 bk dr pt ha) ?_
        refine r_iload_n S rfl dX10_setTies_40 ?_
        refine r_iload_n S rfl dX10_setTies_41 ?_
        refine r_iast S dX10_setTies_42 (kd_ties ha) rfl (by omega) (by omega) (by omega) ?_
        refine r_aload_n S rfl dX10_setTies_43 ?_
        refine r_getR S (o' := 28) fk_X10_27 dX10_setTies_44 rfl rfl (Nat.lt_of_lt_of_le (by decide) hn) rfl ?_
        refine r_iload_n S rfl dX10_setTies_47 ?_
        refine r_aald S (o' := (29 + b)) dX10_setTies_48 rfl rfl (Nat.lt_of_lt_of_le (by decide) hn) (by omega) (by omega) (rst_row_28 bk dr pt hb) ?_
        refine r_iload_n S rfl dX10_setTies_49 ?_
        refine r_iload_n S rfl dX10_setTies_50 ?_
        refine r_iast S dX10_setTies_51 (kd_ties hb) rfl (by omega) (by omega) (by omega) ?_
        refine r_aload_n S rfl dX10_setTies_52 ?_
        refine r_iconst S dX10_setTies_53 ?_
        refine r_putI S fk_X10_36 dX10_setTies_54 rfl rfl (Nat.lt_of_lt_of_le (by decide) hn) (Or.inl rfl) (Or.inl rfl) ?_
        refine r_iconst S dX10_setTies_57 ?_
        refine r_zret SR dX10_setTies_58 (by decide) ⟨by decide, by decide⟩ ?_
        first | exact ⟨rfl, rfl, by rw [if_pos c31], rfl⟩ | exact ⟨rfl, rfl, by rw [if_neg c31], rfl⟩
    · exact absurd c17 (fun q => q (by omega))
/-- a SITE more -/
def sitP (I I' : Iv) (Z : Nat) (x y : Int) : Prop := (∀ o, o ≠ 16 → o ≠ 17 → o ≠ 18 → o < 20 ∨ 27 < o → I' o = I o) ∧ (∀ j, j ≠ 0 → j ≠ 7 → I' 16 j = I 16 j) ∧ I' 16 0 = Z + 1 ∧ I' 16 7 = -1 ∧ I' 17 = up I 17 Z x 17 ∧ I' 18 = up I 18 Z y 18 ∧ ∀ s t : Nat, s < Z + 1 → t < Z + 1 → s ≠ t → I' (20 + s) (t : Int) = nrM (I' 17) (I' 18) s t
theorem c_addSite (hn : 103 ≤ n) {Z : Nat} {x y : Int} (hZ : Z < 8) (eZ : I 16 0 = Z) (hx0 : 0 ≤ x ∧ x ≤ 20) (hy0 : 0 ≤ y ∧ y ≤ 20) (hX : ∀ j, 0 ≤ j → j < 8 → 0 ≤ I 17 j ∧ I 17 j ≤ 20) (hY : ∀ j, 0 ≤ j → j < 8 → 0 ≤ I 18 j ∧ I 18 j ≤ 20) (hN : ∀ s t : Nat, s < Z → t < Z → s ≠ t → I (20 + s) (t : Int) = nrM (I 17) (I 18) s t) : Ct G yX10_addSite cX10_addSite 5 (some .int) 1 0 0 [.ref (gb G + 16), .int (jI x), .int (jI y)] n I (rst bk dr pt) (fun v n' I' ρ' => v = some (.int (jI (Z : Int))) ∧ n = n' ∧ rst bk dr pt = ρ' ∧ sitP I I' Z x y) := by
  refine Ct.of [some (.ref (gb G + 16)), some (.int (jI x)), some (.int (jI y)), none, none] (by decide) rfl rfl rfl ?_
  intro k SR
  have S : Sem G RX10 "addSite" cX10_addSite 5 (rmD 1 0 0) k := SR.sem
  obtain ⟨I1, eI1⟩ : ∃ I1, I1 = up (up I 17 Z x) 18 Z y := ⟨_, rfl⟩
  have i17 : I1 17 = up I 17 Z x 17 := by rw [eI1, up_o (by decide)]
  have i18 : I1 18 = up I 18 Z y 18 := by
    rw [eI1]
    funext j
    by_cases e : j = Z
    · rw [e, up_s, up_s]
    · rw [up_i e, up_o (show 18 ≠ 17 by decide)]
      exact (up_i e).symm
  have io : ∀ o, o ≠ 17 → o ≠ 18 → I1 o = I o := fun o a b => by rw [eI1, up_o b, up_o a]
  have nr : ∀ s : Nat, s < Z → max 0 (10 - (absI (x - I1 17 s) + absI (y - I1 18 s))) = nrM (I1 17) (I1 18) s Z := by
    intro s hs
    unfold nrM
    have e17 : I1 17 Z = x := by rw [i17, up_s]
    have e18 : I1 18 Z = y := by rw [i18, up_s]
    rw [e17, e18, absI_sub x, absI_sub y]
  have loop : ∀ (q s : Nat) (K : Iv) (x4 : Option Value), s + q = Z → (∀ o, o < 20 ∨ 27 < o → K o = I1 o) → (∀ a b : Nat, a < Z → b < Z → K (20 + a) (b : Int) = I (20 + a) (b : Int)) → (∀ a : Nat, a < s → K (20 + a) (Z : Int) = nrM (I1 17) (I1 18) a Z ∧ K (20 + Z) (a : Int) = nrM (I1 17) (I1 18) a Z) → k 33 [some (.ref (gb G + 16)), some (.int (jI x)), some (.int (jI y)), some (.int (jI (s : Int))), x4] [] n K (rst bk dr pt) 0 0 := by
    intro q
    induction q with
    | zero =>
      intro s K x4 hs hK hold hnew
      have kz : K 16 0 = Z := by rw [hK 16 (by decide), io 16 (by decide) (by decide)]; exact eZ
      refine r_iload_n S rfl dX10_addSite_33 ?_
      refine r_aload_n S rfl dX10_addSite_34 ?_
      refine r_getI S (v := K 16 0) fk_X10_9 dX10_addSite_35 rfl rfl (Nat.lt_of_lt_of_le (by decide) hn) rfl ?_
      refine r_icmp_ge S (tgt := 114) dX10_addSite_38 (by decide) (by omega) (by omega) (fun c38 => ?_) (fun c38 => ?_)
      · refine r_aload_n S rfl dX10_addSite_114 ?_
        refine r_dup S rfl dX10_addSite_115 ?_
        refine r_getI S (v := K 16 0) fk_X10_9 dX10_addSite_116 rfl rfl (Nat.lt_of_lt_of_le (by decide) hn) rfl ?_
        refine r_iconst S dX10_addSite_119 ?_
        refine r_iadd S dX10_addSite_120 ?_
        refine r_putI S fk_X10_9 dX10_addSite_121 rfl rfl (Nat.lt_of_lt_of_le (by decide) hn) (Or.inl rfl) (Or.inl rfl) ?_
        refine r_aload_n S rfl dX10_addSite_124 ?_
        refine r_iconst S dX10_addSite_125 ?_
        refine r_putI S fk_X10_36 dX10_addSite_126 rfl rfl (Nat.lt_of_lt_of_le (by decide) hn) (Or.inl rfl) (Or.inl rfl) ?_
        refine r_aload_n S rfl dX10_addSite_129 ?_
        refine r_getI S (v := (K 16 0) + 1) fk_X10_9 dX10_addSite_130 rfl rfl (Nat.lt_of_lt_of_le (by decide) hn) rfl ?_
        refine r_iconst S dX10_addSite_133 ?_
        refine r_isub S dX10_addSite_134 ?_
        refine r_iret SR dX10_addSite_135 ⟨by decide, by decide⟩ ?_
        refine ⟨by rw [kz, show (Z : Int) + 1 - 1 = Z by omega], rfl, rfl, fun o a b c d => ?_, fun j a b => ?_, ?_, up_s _ _ _ _, ?_, ?_, ?_⟩
        · rw [up_o a, up_o a, hK o (by omega)]
          exact io o b c
        · rw [up_i b, up_i a, hK 16 (by decide), io 16 (by decide) (by decide)]
        · rw [up_i (by decide), up_s, kz]
        · rw [up_o (by decide), up_o (by decide), hK 17 (by decide)]
          exact i17
        · rw [up_o (by decide), up_o (by decide), hK 18 (by decide)]
          exact i18
        · intro a b ha hb hab
          rw [up_o (by omega), up_o (by omega), up_o (show 17 ≠ 16 by decide), up_o (show 17 ≠ 16 by decide), up_o (show 18 ≠ 16 by decide), up_o (show 18 ≠ 16 by decide), hK 17 (by decide), hK 18 (by decide)]
          by_cases ea : a = Z
          · rw [ea, nrM_sym]
            exact (hnew b (by omega)).2
          · by_cases eb : b = Z
            · rw [eb]
              exact (hnew a (by omega)).1
            · rw [hold a b (by omega) (by omega), hN a b (by omega) (by omega) hab]
              unfold nrM
              rw [i17, i18, up_i (by omega), up_i (by omega), up_i (by omega), up_i (by omega)]
      · exact absurd c38 (by omega)
    | succ q ih =>
      intro s K x4 hs hK hold hnew
      have kz : K 16 0 = Z := by rw [hK 16 (by decide), io 16 (by decide) (by decide)]; exact eZ
      have k17 : K 17 s = I 17 s := by rw [hK 17 (by decide), i17, up_i (by omega)]
      have k18 : K 18 s = I 18 s := by rw [hK 18 (by decide), i18, up_i (by omega)]
      have r17 := hX s (by omega) (by omega)
      have r18 := hY s (by omega) (by omega)
      have a17 := absI_rg (a := x - K 17 s) (by omega) (by omega)
      have a18 := absI_rg (a := y - K 18 s) (by omega) (by omega)
      have enr := nr s (by omega)
      rw [← hK 17 (by decide), ← hK 18 (by decide)] at enr
      refine r_iload_n S rfl dX10_addSite_33 ?_
      refine r_aload_n S rfl dX10_addSite_34 ?_
      refine r_getI S (v := K 16 0) fk_X10_9 dX10_addSite_35 rfl rfl (Nat.lt_of_lt_of_le (by decide) hn) rfl ?_
      refine r_icmp_ge S (tgt := 114) dX10_addSite_38 (by decide) (by omega) (by omega) (fun c38 => ?_) (fun c38 => ?_)
      · exact absurd c38 (by omega)
      · refine r_iload_n S rfl dX10_addSite_41 ?_
        refine r_aload_n S rfl dX10_addSite_42 ?_
        refine r_getR S (o' := 17) fk_X10_15 dX10_addSite_43 rfl rfl (Nat.lt_of_lt_of_le (by decide) hn) rfl ?_
        refine r_iload_n S rfl dX10_addSite_46 ?_
        refine r_iald S (v := K 17 (s:Int)) dX10_addSite_47 rfl rfl (Nat.lt_of_lt_of_le (by decide) hn) (by omega) (by omega) rfl ?_
        refine r_isub S dX10_addSite_48 ?_
        refine r_mabs S lk_X10_55 (by omega) (by decide) (Nat.le_of_ble_eq_true rfl) rfl ⟨by decide, by decide⟩ dX10_addSite_49 ?_
        refine r_iload_n S rfl dX10_addSite_52 ?_
        refine r_aload_n S rfl dX10_addSite_53 ?_
        refine r_getR S (o' := 18) fk_X10_19 dX10_addSite_54 rfl rfl (Nat.lt_of_lt_of_le (by decide) hn) rfl ?_
        refine r_iload_n S rfl dX10_addSite_57 ?_
        refine r_iald S (v := K 18 (s:Int)) dX10_addSite_58 rfl rfl (Nat.lt_of_lt_of_le (by decide) hn) (by omega) (by omega) rfl ?_
        refine r_isub S dX10_addSite_59 ?_
        refine r_mabs S lk_X10_55 (by omega) (by decide) (Nat.le_of_ble_eq_true rfl) rfl ⟨by decide, by decide⟩ dX10_addSite_60 ?_
        refine r_iadd S dX10_addSite_63 ?_
        refine r_istore S dX10_addSite_64 rfl rfl ?_
        refine r_aload_n S rfl dX10_addSite_66 ?_
        refine r_getR S (o' := 19) fk_X10_24 dX10_addSite_67 rfl rfl (Nat.lt_of_lt_of_le (by decide) hn) rfl ?_
        refine r_iload_n S rfl dX10_addSite_70 ?_
        refine r_aald S (o' := (20 + s)) dX10_addSite_71 rfl rfl (Nat.lt_of_lt_of_le (by decide) hn) (by omega) (by omega) (rst_row_19 bk dr pt (by omega)) ?_
        refine r_aload_n S rfl dX10_addSite_72 ?_
        refine r_getI S (v := K 16 0) fk_X10_9 dX10_addSite_73 rfl rfl (Nat.lt_of_lt_of_le (by decide) hn) rfl ?_
        refine r_iconst S dX10_addSite_76 ?_
        refine r_bipush S (by decide +kernel) dX10_addSite_77 ?_
        refine r_iload S rfl dX10_addSite_79 ?_
        refine r_isub S dX10_addSite_81 ?_
        refine r_mmax S lk_X10_61 (by omega) (by omega) (by decide) (Nat.le_of_ble_eq_true rfl) rfl ⟨by decide, by decide⟩ dX10_addSite_82 ?_
        refine r_iast S dX10_addSite_85 (kd_near (by omega)) rfl (by omega) (by omega) (by omega) ?_
        refine r_aload_n S rfl dX10_addSite_86 ?_
        refine r_getR S (o' := 19) fk_X10_24 dX10_addSite_87 rfl rfl (Nat.lt_of_lt_of_le (by decide) hn) rfl ?_
        refine r_aload_n S rfl dX10_addSite_90 ?_
        refine r_getI S (v := K 16 0) fk_X10_9 dX10_addSite_91 rfl rfl (Nat.lt_of_lt_of_le (by decide) hn) (by rw [up_o (by omega)]) ?_
        refine r_aald S (o' := (20 + Z)) dX10_addSite_94 rfl rfl (Nat.lt_of_lt_of_le (by decide) hn) (by omega) (by omega) (show rst bk dr pt 19 (K 16 0) = some (20 + Z) by rw [kz]; exact rst_row_19 bk dr pt hZ) ?_
        refine r_iload_n S rfl dX10_addSite_95 ?_
        refine r_aload_n S rfl dX10_addSite_96 ?_
        refine r_getR S (o' := 19) fk_X10_24 dX10_addSite_97 rfl rfl (Nat.lt_of_lt_of_le (by decide) hn) rfl ?_
        refine r_iload_n S rfl dX10_addSite_100 ?_
        refine r_aald S (o' := (20 + s)) dX10_addSite_101 rfl rfl (Nat.lt_of_lt_of_le (by decide) hn) (by omega) (by omega) (rst_row_19 bk dr pt (by omega)) ?_
        refine r_aload_n S rfl dX10_addSite_102 ?_
        refine r_getI S (v := K 16 0) fk_X10_9 dX10_addSite_103 rfl rfl (Nat.lt_of_lt_of_le (by decide) hn) (by rw [up_o (by omega)]) ?_
        refine r_iald S (v := max 0 (10 - ((absI (x - (K 17 (s:Int)))) + (absI (y - (K 18 (s:Int))))))) dX10_addSite_106 (kd_near (by omega)) rfl (by omega) (by omega) (by omega) (by rw [up_s]) ?_
        refine r_iast S dX10_addSite_107 (kd_near hZ) rfl (by omega) (by omega) (by omega) ?_
        refine r_iinc S dX10_addSite_108 rfl rfl rfl ?_
        refine r_goto S (tgt := 33) dX10_addSite_111 (by decide) ?_
        rw [enr, kz]
        have Q := ih (s + 1) (up (up K (20 + s) (Z : Int) (nrM (K 17) (K 18) s Z)) (20 + Z) (s : Int) (nrM (K 17) (K 18) s Z)) (some (.int (jI (absI (x - K 17 s) + absI (y - K 18 s))))) (by omega) (fun o a => by rw [up_o (by omega), up_o (by omega)]; exact hK o a) (fun a b ha hb => by rw [up_o (by omega), up_n (Or.inr (by omega))]; exact hold a b ha hb) (fun a ha => ?_)
        · rw [show ((s + 1 : Nat) : Int) = (s : Int) + 1 by omega] at Q
          exact Q
        · by_cases e : a = s
          · rw [e, up_o (by omega), up_s, up_s, hK 17 (by decide), hK 18 (by decide)]
            exact ⟨rfl, rfl⟩
          · have := hnew a (by omega)
            rw [up_o (by omega), up_o (by omega), up_i (by omega), up_o (by omega)]
            exact this
  refine r_aload_n S rfl dX10_addSite_0 ?_
  refine r_getI S (v := I 16 0) fk_X10_9 dX10_addSite_1 rfl rfl (Nat.lt_of_lt_of_le (by decide) hn) rfl ?_
  refine r_bipush S (by decide +kernel) dX10_addSite_4 ?_
  refine r_icmp_lt S (tgt := 11) dX10_addSite_6 (by decide) (by omega) (by omega) (fun c6 => ?_) (fun c6 => ?_)
  · refine r_aload_n S rfl dX10_addSite_11 ?_
    refine r_getR S (o' := 17) fk_X10_15 dX10_addSite_12 rfl rfl (Nat.lt_of_lt_of_le (by decide) hn) rfl ?_
    refine r_aload_n S rfl dX10_addSite_15 ?_
    refine r_getI S (v := I 16 0) fk_X10_9 dX10_addSite_16 rfl rfl (Nat.lt_of_lt_of_le (by decide) hn) rfl ?_
    refine r_iload_n S rfl dX10_addSite_19 ?_
    refine r_iast S dX10_addSite_20 rfl rfl (Nat.lt_of_lt_of_le (by decide) hn) (by omega) (by omega) ?_
    refine r_aload_n S rfl dX10_addSite_21 ?_
    refine r_getR S (o' := 18) fk_X10_19 dX10_addSite_22 rfl rfl (Nat.lt_of_lt_of_le (by decide) hn) rfl ?_
    refine r_aload_n S rfl dX10_addSite_25 ?_
    refine r_getI S (v := I 16 0) fk_X10_9 dX10_addSite_26 rfl rfl (Nat.lt_of_lt_of_le (by decide) hn) rfl ?_
    refine r_iload_n S rfl dX10_addSite_29 ?_
    refine r_iast S dX10_addSite_30 rfl rfl (Nat.lt_of_lt_of_le (by decide) hn) (by omega) (by omega) ?_
    rw [eZ, ← eI1]
    refine r_iconst S dX10_addSite_31 ?_
    refine r_istore_n S dX10_addSite_32 rfl rfl ?_
    exact loop Z 0 I1 none (by omega) (fun _ _ => rfl) (fun a b ha hb => by rw [io _ (by omega) (by omega)]) (fun a ha => absurd ha (by omega))
  · exact absurd c6 (by omega)
end
