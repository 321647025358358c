/-- arrays A, B hold the list of pairs l -/
def holdT (A B : Int → Int) (l : List (Int × Int)) : Prop := ∀ j : Nat, j < l.length → A (j : Int) = (l.getD j (0, 0)).1 ∧ B (j : Int) = (l.getD j (0, 0)).2
theorem holdT_nil (A B : Int → Int) : holdT A B [] := fun j h => absurd h (Nat.not_lt_zero j)
/-- the world with one more token -/
def addT (J : Iv) (c p : Int) : Iv := up (up (up J 57 (J 56 0) c) 58 (J 56 0) p) 56 0 (J 56 0 + 1)
theorem addT_o {J : Iv} {c p : Int} {o : Nat} (h1 : o ≠ 56) (h2 : o ≠ 57) (h3 : o ≠ 58) : addT J c p o = J o := by unfold addT; rw [up_o h1, up_o h3, up_o h2]
theorem addT_0 (J : Iv) (c p : Int) : addT J c p 56 0 = J 56 0 + 1 := up_s _ _ _ _
theorem addT_1 (J : Iv) (c p : Int) : addT J c p 56 1 = J 56 1 := by unfold addT; rw [up_i (by decide), up_o (by decide), up_o (by decide)]
theorem addT_hold {J : Iv} {c p : Int} {l : List (Int × Int)} (h : holdT (J 57) (J 58) l) (hc : J 56 0 = l.length) : holdT (addT J c p 57) (addT J c p 58) (l ++ [(c, p)]) := by
  intro j hj
  rw [List.length_append] at hj
  have hj' : j < l.length + 1 := hj
  unfold addT
  by_cases e : j = l.length
  · subst e
    refine ⟨?_, ?_⟩
    · rw [up_o (by decide), up_o (by decide), hc, up_s]
      simp
    · rw [up_o (by decide), hc, up_s]
      simp
  · have hlt : j < l.length := by omega
    have e2 : (l ++ [(c, p)]).getD j (0, 0) = l.getD j (0, 0) := by
      simp [List.getD_eq_getElem?_getD, List.getElem?_append_left hlt]
    rw [e2]
    obtain ⟨q1, q2⟩ := h j hlt
    refine ⟨?_, ?_⟩
    · rw [up_o (by decide), up_o (by decide), up_i (by omega)]
      exact q1
    · rw [up_o (by decide), up_i (by omega), up_o (by decide)]
      exact q2
section
variable (G : GE) (n : Nat) (I : Iv) (bk dr : Nat) (pt : Option Nat)
theorem c_X9_code (hn : 103 ≤ n) (h0 : 0 ≤ I 56 1) (h1 : I 56 1 < I 56 0) (h2 : I 56 0 ≤ 401) : Ct G yX9_code cX9_code 1 (some .int) 0 0 0 [.ref (gb G + 56)] n I (rst bk dr pt) (PI (I 57 (I 56 1)) n I (rst bk dr pt)) := by
  refine Ct.of [some (.ref (gb G + 56))] (by decide) rfl rfl rfl ?_
  intro k SR
  have S : Sem G RX9 "code" cX9_code 1 (rmD 0 0 0) k := SR.sem
  refine r_aload_n S rfl dX9_code_0 ?_
  refine r_getI S (v := I 56 1) fk_X9_15 dX9_code_1 rfl rfl (Nat.lt_of_lt_of_le (by decide) hn) rfl ?_
  refine r_aload_n S rfl dX9_code_4 ?_
  refine r_getI S (v := I 56 0) fk_X9_9 dX9_code_5 rfl rfl (Nat.lt_of_lt_of_le (by decide) hn) rfl ?_
  refine r_icmp_ge S (tgt := 23) dX9_code_8 (by decide) (by omega) (by omega) (fun c8 => ?_) (fun c8 => ?_)
  · exact absurd c8 (by omega)
  · refine r_aload_n S rfl dX9_code_11 ?_
    refine r_getR S (o' := 57) fk_X9_18 dX9_code_12 rfl rfl (Nat.lt_of_lt_of_le (by decide) hn) rfl ?_
    refine r_aload_n S rfl dX9_code_15 ?_
    refine r_getI S (v := I 56 1) fk_X9_15 dX9_code_16 rfl rfl (Nat.lt_of_lt_of_le (by decide) hn) rfl ?_
    refine r_iald S (v := I 57 (I 56 1)) dX9_code_19 rfl rfl (Nat.lt_of_lt_of_le (by decide) hn) (by omega) (by omega) rfl ?_
    refine r_goto S (tgt := 25) dX9_code_20 (by decide) ?_
    refine r_iret SR dX9_code_25 ⟨by decide, by decide⟩ ?_
    exact ⟨rfl, rfl, rfl, rfl⟩
theorem c_X9_place (hn : 103 ≤ n) (h0 : 0 ≤ I 56 1) (h1 : I 56 1 < I 56 0) (h2 : I 56 0 ≤ 401) : Ct G yX9_place cX9_place 1 (some .int) 0 0 0 [.ref (gb G + 56)] n I (rst bk dr pt) (PI (I 58 (I 56 1)) n I (rst bk dr pt)) := by
  refine Ct.of [some (.ref (gb G + 56))] (by decide) rfl rfl rfl ?_
  intro k SR
  have S : Sem G RX9 "place" cX9_place 1 (rmD 0 0 0) k := SR.sem
  refine r_aload_n S rfl dX9_place_0 ?_
  refine r_getI S (v := I 56 1) fk_X9_15 dX9_place_1 rfl rfl (Nat.lt_of_lt_of_le (by decide) hn) rfl ?_
  refine r_aload_n S rfl dX9_place_4 ?_
  refine r_getI S (v := I 56 0) fk_X9_9 dX9_place_5 rfl rfl (Nat.lt_of_lt_of_le (by decide) hn) rfl ?_
  refine r_icmp_ge S (tgt := 23) dX9_place_8 (by decide) (by omega) (by omega) (fun c8 => ?_) (fun c8 => ?_)
  · exact absurd c8 (by omega)
  · refine r_aload_n S rfl dX9_place_11 ?_
    refine r_getR S (o' := 58) fk_X9_22 dX9_place_12 rfl rfl (Nat.lt_of_lt_of_le (by decide) hn) rfl ?_
    refine r_aload_n S rfl dX9_place_15 ?_
    refine r_getI S (v := I 56 1) fk_X9_15 dX9_place_16 rfl rfl (Nat.lt_of_lt_of_le (by decide) hn) rfl ?_
    refine r_iald S (v := I 58 (I 56 1)) dX9_place_19 rfl rfl (Nat.lt_of_lt_of_le (by decide) hn) (by omega) (by omega) rfl ?_
    refine r_goto S (tgt := 24) dX9_place_20 (by decide) ?_
    refine r_iret SR dX9_place_24 ⟨by decide, by decide⟩ ?_
    exact ⟨rfl, rfl, rfl, rfl⟩
theorem c_X9_advance (hn : 103 ≤ n) (h0 : 0 ≤ I 56 1) (h1 : I 56 1 < I 56 0) (h2 : I 56 0 ≤ 401) : Ct G yX9_advance cX9_advance 1 none 0 0 0 [.ref (gb G + 56)] n I (rst bk dr pt) (PV n (if I 56 1 + 1 < I 56 0 then up I 56 1 (I 56 1 + 1) else I) (rst bk dr pt)) := by
  refine Ct.of [some (.ref (gb G + 56))] (by decide) rfl rfl rfl ?_
  intro k SR
  have S : Sem G RX9 "advance" cX9_advance 1 (rmD 0 0 0) k := SR.sem
  refine r_aload_n S rfl dX9_advance_0 ?_
  refine r_getI S (v := I 56 1) fk_X9_15 dX9_advance_1 rfl rfl (Nat.lt_of_lt_of_le (by decide) hn) rfl ?_
  refine r_iconst S dX9_advance_4 ?_
  refine r_iadd S dX9_advance_5 ?_
  refine r_aload_n S rfl dX9_advance_6 ?_
  refine r_getI S (v := I 56 0) fk_X9_9 dX9_advance_7 rfl rfl (Nat.lt_of_lt_of_le (by decide) hn) rfl ?_
  refine r_icmp_ge S (tgt := 23) dX9_advance_10 (by decide) (by omega) (by omega) (fun c10 => ?_) (fun c10 => ?_)
  · refine r_vret SR dX9_advance_23 ⟨by decide, by decide⟩ ?_
    first | exact ⟨rfl, rfl, by rw [if_pos (by omega)], rfl⟩ | exact ⟨rfl, rfl, by rw [if_neg (by omega)], rfl⟩
  · refine r_aload_n S rfl dX9_advance_13 ?_
    refine r_dup S rfl dX9_advance_14 ?_
    refine r_getI S (v := I 56 1) fk_X9_15 dX9_advance_15 rfl rfl (Nat.lt_of_lt_of_le (by decide) hn) rfl ?_
    refine r_iconst S dX9_advance_18 ?_
    refine r_iadd S dX9_advance_19 ?_
    refine r_putI S fk_X9_15 dX9_advance_20 rfl rfl (Nat.lt_of_lt_of_le (by decide) hn) (Or.inl rfl) (Or.inl rfl) ?_
    refine r_vret SR dX9_advance_23 ⟨by decide, by decide⟩ ?_
    first | exact ⟨rfl, rfl, by rw [if_pos (by omega)], rfl⟩ | exact ⟨rfl, rfl, by rw [if_neg (by omega)], rfl⟩
theorem c_X9_add (hn : 103 ≤ n) {c p : Int} (h0 : 0 ≤ I 56 0) (h1 : I 56 0 ≤ 400) : Ct G yX9_add cX9_add 3 none 0 0 0 [.ref (gb G + 56), .int (jI c), .int (jI p)] n I (rst bk dr pt) (PV n (addT I c p) (rst bk dr pt)) := by
  refine Ct.of [some (.ref (gb G + 56)), some (.int (jI c)), some (.int (jI p))] (by decide) rfl rfl rfl ?_
  intro k SR
  have S : Sem G RX9 "add" cX9_add 3 (rmD 0 0 0) k := SR.sem
  refine r_aload_n S rfl dX9_add_0 ?_
  refine r_getI S (v := I 56 0) fk_X9_9 dX9_add_1 rfl rfl (Nat.lt_of_lt_of_le (by decide) hn) rfl ?_
  refine r_sipush S (by decide +kernel) dX9_add_4 ?_
  refine r_icmp_gt S (tgt := 40) dX9_add_7 (by decide) (by omega) (by omega) (fun c7 => ?_) (fun c7 => ?_)
  · exact absurd c7 (by omega)
  · refine r_aload_n S rfl dX9_add_10 ?_
    refine r_getR S (o' := 57) fk_X9_18 dX9_add_11 rfl rfl (Nat.lt_of_lt_of_le (by decide) hn) rfl ?_
    refine r_aload_n S rfl dX9_add_14 ?_
    refine r_getI S (v := I 56 0) fk_X9_9 dX9_add_15 rfl rfl (Nat.lt_of_lt_of_le (by decide) hn) rfl ?_
    refine r_iload_n S rfl dX9_add_18 ?_
    refine r_iast S dX9_add_19 rfl rfl (Nat.lt_of_lt_of_le (by decide) hn) (by omega) (by omega) ?_
    refine r_aload_n S rfl dX9_add_20 ?_
    refine r_getR S (o' := 58) fk_X9_22 dX9_add_21 rfl rfl (Nat.lt_of_lt_of_le (by decide) hn) rfl ?_
    refine r_aload_n S rfl dX9_add_24 ?_
    refine r_getI S (v := I 56 0) fk_X9_9 dX9_add_25 rfl rfl (Nat.lt_of_lt_of_le (by decide) hn) rfl ?_
    refine r_iload_n S rfl dX9_add_28 ?_
    refine r_iast S dX9_add_29 rfl rfl (Nat.lt_of_lt_of_le (by decide) hn) (by omega) (by omega) ?_
    refine r_aload_n S rfl dX9_add_30 ?_
    refine r_dup S rfl dX9_add_31 ?_
    refine r_getI S (v := I 56 0) fk_X9_9 dX9_add_32 rfl rfl (Nat.lt_of_lt_of_le (by decide) hn) rfl ?_
    refine r_iconst S dX9_add_35 ?_
    refine r_iadd S dX9_add_36 ?_
    refine r_putI S fk_X9_9 dX9_add_37 rfl rfl (Nat.lt_of_lt_of_le (by decide) hn) (Or.inl rfl) (Or.inl rfl) ?_
    refine r_vret SR dX9_add_40 ⟨by decide, by decide⟩ ?_
    exact ⟨rfl, rfl, rfl, rfl⟩
theorem c_X9_cutWord (hn : 103 ≤ n) {a : Int} (a0 : 0 ≤ a) (a1 : a ≤ I 53 0) (h1 : I 53 0 ≤ 400) (hby : ∀ j, 0 ≤ j → j < I 53 0 → 0 ≤ I 54 j ∧ I 54 j ≤ 255) (c0 : 0 ≤ I 56 0) (c1 : I 56 0 ≤ 400) : Ct G yX9_cutWord cX9_cutWord 4 (some .int) 6 0 0 [.ref (gb G + 56), .ref (gb G + 53), .int (jI a)] n I (rst bk dr pt) (PI (run0 isLet (I 54) (I 53 0) a) n (addT I (wcode (I 54) a (run0 isLet (I 54) (I 53 0) a)) a) (rst bk dr pt)) := by
  refine Ct.of [some (.ref (gb G + 56)), some (.ref (gb G + 53)), some (.int (jI a)), none] (by decide) rfl rfl rfl ?_
  intro k SR
  have S : Sem G RX9 "cutWord" cX9_cutWord 4 (rmD 6 0 0) k := SR.sem
  have hrg := run0_range isLet (I 54) a1
  obtain ⟨z, ez⟩ : ∃ z, z = run0 isLet (I 54) (I 53 0) a := ⟨_, rfl⟩
  rw [← ez] at hrg SR
  have loop : ∀ (q : Nat) (p : Int), a ≤ p → p ≤ I 53 0 → I 53 0 < p + q → run0 isLet (I 54) (I 53 0) p = z → k 2 [some (.ref (gb G + 56)), some (.ref (gb G + 53)), some (.int (jI a)), some (.int (jI p))] [] n I (rst bk dr pt) 0 0 := by
    intro q
    induction q with
    | zero => intro p _ _ _; omega
    | succ q ih =>
      intro p b0 b1 b2_ hp
      have fin : p = z → k 27 [some (.ref (gb G + 56)), some (.ref (gb G + 53)), some (.int (jI a)), some (.int (jI p))] [] n I (rst bk dr pt) 0 0 := by
        intro e
        subst e
        refine r_aload_n S rfl dX9_cutWord_27 ?_
        refine r_aload_n S rfl dX9_cutWord_28 ?_
        refine r_iload_n S rfl dX9_cutWord_29 ?_
        refine r_iload_n S rfl dX9_cutWord_30 ?_
        refine r_callS S lk_X9_61 mk_X1_ofWord (c_X1_ofWord G n I bk dr pt hn a0 b0 b1 h1 hby) rfl rfl (Nat.le_of_ble_eq_true rfl) ⟨by decide, by decide⟩ rfl ⟨by decide, by decide⟩ dX9_cutWord_31 ?_
        rintro _ _ _ _ ⟨rfl, rfl, rfl, rfl⟩
        refine r_iload_n S rfl dX9_cutWord_34 ?_
        refine r_callV S lk_X9_53 mk_X9_add (c_X9_add G n I bk dr pt hn c0 c1) rfl (Nat.lt_of_lt_of_le (by decide) hn) rfl rfl rfl (Nat.le_of_ble_eq_true rfl) ⟨by decide, by decide⟩ rfl ⟨by decide, by decide⟩ dX9_cutWord_35 ?_
        rintro _ _ _ _ ⟨rfl, rfl, rfl, rfl⟩
        refine r_iload_n S rfl dX9_cutWord_38 ?_
        refine r_iret SR dX9_cutWord_39 ⟨by decide, by decide⟩ ?_
        exact ⟨rfl, rfl, rfl, rfl⟩
      refine r_iload_n S rfl dX9_cutWord_2 ?_
      refine r_aload_n S rfl dX9_cutWord_3 ?_
      refine r_getI S (v := I 53 0) fk_X9_25 dX9_cutWord_4 rfl rfl (Nat.lt_of_lt_of_le (by decide) hn) rfl ?_
      refine r_icmp_ge S (tgt := 27) dX9_cutWord_7 (by decide) (by omega) (by omega) (fun c7 => ?_) (fun c7 => ?_)
      · first | exact fin (by rw [← hp, run0_end isLet _ c7]) | exact fin (by rw [← hp, run0_step isLet _ c7, if_neg c18])
      · refine r_aload_n S rfl dX9_cutWord_10 ?_
        refine r_iload_n S rfl dX9_cutWord_11 ?_
        refine r_callV S lk_X9_30 mk_X8_byteAt (c_X8_byteAt G n I bk dr pt hn (a := p) ⟨by omega, by omega⟩ (by omega) h1) rfl (Nat.lt_of_lt_of_le (by decide) hn) rfl rfl rfl (Nat.le_of_ble_eq_true rfl) ⟨by decide, by decide⟩ rfl ⟨by decide, by decide⟩ dX9_cutWord_12 ?_
        rintro _ _ _ _ ⟨rfl, rfl, rfl, rfl⟩
        rw [if_pos (by omega)]
        refine r_callS S lk_X9_34 mk_X9_isLetter (c_X9_isLetter G n I _ (a := I 54 p) (by have := hby p (by omega) (by omega); omega)) rfl rfl (Nat.le_of_ble_eq_true rfl) ⟨by decide, by decide⟩ rfl ⟨by decide, by decide⟩ dX9_cutWord_15 ?_
        rintro _ _ _ _ ⟨rfl, rfl, rfl, rfl⟩
        refine r_ifb_eq S (tgt := 27) dX9_cutWord_18 (by decide)  (fun c18 => ?_) (fun c18 => ?_)
        · first | exact fin (by rw [← hp, run0_end isLet _ c7]) | exact fin (by rw [← hp, run0_step isLet _ c7, if_neg c18])
        · refine r_iinc S dX9_cutWord_21 rfl rfl rfl ?_
          refine r_goto S (tgt := 2) dX9_cutWord_24 (by decide) ?_
          exact ih (p + 1) (by omega) (by omega) (by omega) (by rw [← hp, run0_step isLet _ c7, if_pos c18])
  refine r_iload_n S rfl dX9_cutWord_0 ?_
  refine r_istore_n S dX9_cutWord_1 rfl rfl ?_
  exact loop ((I 53 0 - a).toNat + 1) a (by omega) (by omega) (by omega) ez.symm
theorem c_X9_cutNumber (hn : 103 ≤ n) {a : Int} (a0 : 0 ≤ a) (a1 : a ≤ I 53 0) (h1 : I 53 0 ≤ 400) (hby : ∀ j, 0 ≤ j → j < I 53 0 → 0 ≤ I 54 j ∧ I 54 j ≤ 255) (c0 : 0 ≤ I 56 0) (c1 : I 56 0 ≤ 400) : Ct G yX9_cutNumber cX9_cutNumber 5 (some .int) 2 0 0 [.ref (gb G + 56), .ref (gb G + 53), .int (jI a)] n I (rst bk dr pt) (PI (run0 isDig (I 54) (I 53 0) a) n (addT I (dcode (I 54) a (run0 isDig (I 54) (I 53 0) a)) a) (rst bk dr pt)) := by
  refine Ct.of [some (.ref (gb G + 56)), some (.ref (gb G + 53)), some (.int (jI a)), none, none] (by decide) rfl rfl rfl ?_
  intro k SR
  have S : Sem G RX9 "cutNumber" cX9_cutNumber 5 (rmD 2 0 0) k := SR.sem
  have hrg := run0_range isDig (I 54) a1
  obtain ⟨z, ez⟩ : ∃ z, z = run0 isDig (I 54) (I 53 0) a := ⟨_, rfl⟩
  rw [← ez] at hrg SR
  have loop : ∀ (q : Nat) (p : Int), a ≤ p → p ≤ I 53 0 → I 53 0 < p + q → run0 isDig (I 54) (I 53 0) p = z → k 5 [some (.ref (gb G + 56)), some (.ref (gb G + 53)), some (.int (jI a)), some (.int (jI (numv (I 54) a (p - a).toNat))), some (.int (jI p))] [] n I (rst bk dr pt) 0 0 := by
    intro q
    induction q with
    | zero => intro p _ _ _; omega
    | succ q ih =>
      intro p b0 b1 b2_ hp
      have fin : p = z → k 47 [some (.ref (gb G + 56)), some (.ref (gb G + 53)), some (.int (jI a)), some (.int (jI (numv (I 54) a (p - a).toNat))), some (.int (jI p))] [] n I (rst bk dr pt) 0 0 := by
        intro e
        subst e
        obtain ⟨w, ew⟩ : ∃ w, w = numv (I 54) a (p - a).toNat := ⟨_, rfl⟩
        rw [← ew]
        refine r_aload_n S rfl dX9_cutNumber_47 ?_
        refine r_iload S rfl dX9_cutNumber_48 ?_
        refine r_iload_n S rfl dX9_cutNumber_50 ?_
        refine r_isub S dX9_cutNumber_51 ?_
        refine r_iconst S dX9_cutNumber_52 ?_
        refine r_icmp_gt S (tgt := 60) dX9_cutNumber_53 (by decide) (by omega) (by omega) (fun c53 => ?_) (fun c53 => ?_)
        · refine r_bipush S (by decide +kernel) dX9_cutNumber_60 ?_
          refine r_iload_n S rfl dX9_cutNumber_62 ?_
          refine r_callV S lk_X9_53 mk_X9_add (c_X9_add G n I bk dr pt hn c0 c1) rfl (Nat.lt_of_lt_of_le (by decide) hn) rfl rfl rfl (Nat.le_of_ble_eq_true rfl) ⟨by decide, by decide⟩ rfl ⟨by decide, by decide⟩ dX9_cutNumber_63 ?_
          rintro _ _ _ _ ⟨rfl, rfl, rfl, rfl⟩
          refine r_iload S rfl dX9_cutNumber_66 ?_
          refine r_iret SR dX9_cutNumber_68 ⟨by decide, by decide⟩ ?_
          first | exact ⟨rfl, rfl, by unfold dcode; rw [if_pos (by omega), ew], rfl⟩ | exact ⟨rfl, rfl, by unfold dcode; rw [if_neg (by omega)], rfl⟩
        · refine r_iload_n S rfl dX9_cutNumber_56 ?_
          refine r_goto S (tgt := 62) dX9_cutNumber_57 (by decide) ?_
          refine r_iload_n S rfl dX9_cutNumber_62 ?_
          refine r_callV S lk_X9_53 mk_X9_add (c_X9_add G n I bk dr pt hn c0 c1) rfl (Nat.lt_of_lt_of_le (by decide) hn) rfl rfl rfl (Nat.le_of_ble_eq_true rfl) ⟨by decide, by decide⟩ rfl ⟨by decide, by decide⟩ dX9_cutNumber_63 ?_
          rintro _ _ _ _ ⟨rfl, rfl, rfl, rfl⟩
          refine r_iload S rfl dX9_cutNumber_66 ?_
          refine r_iret SR dX9_cutNumber_68 ⟨by decide, by decide⟩ ?_
          first | exact ⟨rfl, rfl, by unfold dcode; rw [if_pos (by omega), ew], rfl⟩ | exact ⟨rfl, rfl, by unfold dcode; rw [if_neg (by omega)], rfl⟩
      have hnum : numv (I 54) a (p + 1 - a).toNat = numv (I 54) a (p - a).toNat * 10 + (I 54 p - 48) := by
        rw [show (p + 1 - a).toNat = (p - a).toNat + 1 by omega]
        show numv (I 54) a (p - a).toNat * 10 + (I 54 (a + ((p - a).toNat : Nat)) - 48) = _
        rw [show a + ((p - a).toNat : Nat) = p by omega]
      obtain ⟨w, ew⟩ : ∃ w, w = numv (I 54) a (p - a).toNat := ⟨_, rfl⟩
      rw [← ew] at fin hnum ⊢
      refine r_iload S rfl dX9_cutNumber_5 ?_
      refine r_aload_n S rfl dX9_cutNumber_7 ?_
      refine r_getI S (v := I 53 0) fk_X9_25 dX9_cutNumber_8 rfl rfl (Nat.lt_of_lt_of_le (by decide) hn) rfl ?_
      refine r_icmp_ge S (tgt := 47) dX9_cutNumber_11 (by decide) (by omega) (by omega) (fun c11 => ?_) (fun c11 => ?_)
      · first | exact fin (by rw [← hp, run0_end isDig _ c11]) | exact fin (by rw [← hp, run0_step isDig _ c11, if_neg c23])
      · refine r_aload_n S rfl dX9_cutNumber_14 ?_
        refine r_iload S rfl dX9_cutNumber_15 ?_
        refine r_callV S lk_X9_30 mk_X8_byteAt (c_X8_byteAt G n I bk dr pt hn (a := p) ⟨by omega, by omega⟩ (by omega) h1) rfl (Nat.lt_of_lt_of_le (by decide) hn) rfl rfl rfl (Nat.le_of_ble_eq_true rfl) ⟨by decide, by decide⟩ rfl ⟨by decide, by decide⟩ dX9_cutNumber_17 ?_
        rintro _ _ _ _ ⟨rfl, rfl, rfl, rfl⟩
        rw [if_pos (by omega)]
        refine r_callS S lk_X9_42 mk_X9_isDigit (c_X9_isDigit G n I _ (a := I 54 p) (by have := hby p (by omega) (by omega); omega)) rfl rfl (Nat.le_of_ble_eq_true rfl) ⟨by decide, by decide⟩ rfl ⟨by decide, by decide⟩ dX9_cutNumber_20 ?_
        rintro _ _ _ _ ⟨rfl, rfl, rfl, rfl⟩
        refine r_ifb_eq S (tgt := 47) dX9_cutNumber_23 (by decide)  (fun c23 => ?_) (fun c23 => ?_)
        · first | exact fin (by rw [← hp, run0_end isDig _ c11]) | exact fin (by rw [← hp, run0_step isDig _ c11, if_neg c23])
        · refine r_iload_n S rfl dX9_cutNumber_26 ?_
          refine r_bipush S (by decide +kernel) dX9_cutNumber_27 ?_
          refine r_imul S dX9_cutNumber_29 ?_
          refine r_aload_n S rfl dX9_cutNumber_30 ?_
          refine r_iload S rfl dX9_cutNumber_31 ?_
          refine r_callV S lk_X9_30 mk_X8_byteAt (c_X8_byteAt G n I bk dr pt hn (a := p) ⟨by omega, by omega⟩ (by omega) h1) rfl (Nat.lt_of_lt_of_le (by decide) hn) rfl rfl rfl (Nat.le_of_ble_eq_true rfl) ⟨by decide, by decide⟩ rfl ⟨by decide, by decide⟩ dX9_cutNumber_33 ?_
          rintro _ _ _ _ ⟨rfl, rfl, rfl, rfl⟩
          rw [if_pos (by omega)]
          refine r_bipush S (by decide +kernel) dX9_cutNumber_36 ?_
          refine r_isub S dX9_cutNumber_38 ?_
          refine r_iadd S dX9_cutNumber_39 ?_
          refine r_istore_n S dX9_cutNumber_40 rfl rfl ?_
          refine r_iinc S dX9_cutNumber_41 rfl rfl rfl ?_
          refine r_goto S (tgt := 5) dX9_cutNumber_44 (by decide) ?_
          have ih := ih (p + 1) (by omega) (by omega) (by omega) (by rw [← hp, run0_step isDig _ c11, if_pos c23])
          rw [hnum] at ih
          exact ih
  refine r_iconst S dX9_cutNumber_0 ?_
  refine r_istore_n S dX9_cutNumber_1 rfl rfl ?_
  refine r_iload_n S rfl dX9_cutNumber_2 ?_
  refine r_istore S dX9_cutNumber_3 rfl rfl ?_
  have l0 := loop ((I 53 0 - a).toNat + 1) a (by omega) (by omega) (by omega) ez.symm
  rw [Int.sub_self] at l0
  exact l0
theorem c_X9_cut (hn : 103 ≤ n) (h0 : 0 ≤ I 53 0) (h1 : I 53 0 ≤ 400) (hby : ∀ j, 0 ≤ j → j < I 53 0 → 0 ≤ I 54 j ∧ I 54 j ≤ 255) : Ct G yX9_cut cX9_cut 5 none 7 0 0 [.ref (gb G + 56), .ref (gb G + 53)] n I (rst bk dr pt) (fun v n' I' ρ' => v = none ∧ n = n' ∧ rst bk dr pt = ρ' ∧ (∀ o, o ≠ 56 → o ≠ 57 → o ≠ 58 → I' o = I o) ∧ I' 56 0 = (toks (I 54) (I 53 0) 0).length ∧ I' 56 1 = 0 ∧ holdT (I' 57) (I' 58) (toks (I 54) (I 53 0) 0)) := by
  refine Ct.of [some (.ref (gb G + 56)), some (.ref (gb G + 53)), none, none, none] (by decide) rfl rfl rfl ?_
  intro k SR
  have S : Sem G RX9 "cut" cX9_cut 5 (rmD 7 0 0) k := SR.sem
  obtain ⟨T0, eT⟩ : ∃ T0, T0 = toks (I 54) (I 53 0) 0 := ⟨_, rfl⟩
  rw [← eT] at SR
  have loop : ∀ (q : Nat) (p i : Int) (J : Iv) (done : List (Int × Int)), 0 ≤ i → i ≤ p → p ≤ I 53 0 → I 53 0 < p + q → (∀ o, o ≠ 56 → o ≠ 57 → o ≠ 58 → J o = I o) → J 56 0 = done.length → J 56 1 = 0 → holdT (J 57) (J 58) done → done ++ toks (I 54) (I 53 0) p = T0 → done.length ≤ p → k 14 [some (.ref (gb G + 56)), some (.ref (gb G + 53)), some (.int (jI p)), some (.int (jI i)), none] [] n J (rst bk dr pt) 0 0 := by
    intro q
    induction q with
    | zero => intro p _ _ _ _ _ _; omega
    | succ q ih =>
      intro p i J done i0 i1 p1 pq jo jc j1 jh jT jl
      have e53 : J 53 = I 53 := jo 53 (by decide) (by decide) (by decide)
      have e54 : J 54 = I 54 := jo 54 (by decide) (by decide) (by decide)
      have e530 : J 53 0 = I 53 0 := congrFun e53 0
      have step : ∀ (p' c : Int), p < p' → p' ≤ I 53 0 → toks (I 54) (I 53 0) p = (c, p) :: toks (I 54) (I 53 0) p' → k 14 [some (.ref (gb G + 56)), some (.ref (gb G + 53)), some (.int (jI p')), some (.int (jI (i + 1))), none] [] n (addT J c p) (rst bk dr pt) 0 0 := by
        intro p' c hp hp2 ht
        refine ih p' (i + 1) (addT J c p) (done ++ [(c, p)]) (by omega) (by omega) hp2 (by omega) (fun o o1 o2 o3 => by rw [addT_o o1 o2 o3]; exact jo o o1 o2 o3) ?_ (by rw [addT_1]; exact j1) (addT_hold jh jc) ?_ ?_
        · rw [addT_0, jc, List.length_append]
          rfl
        · rw [← jT, ht, List.append_assoc]
          rfl
        · rw [List.length_append]
          show (((done.length + 1 : Nat) : Int)) ≤ p'
          omega
      refine r_iload_n S rfl dX9_cut_14 ?_
      refine r_sipush S (by decide +kernel) dX9_cut_15 ?_
      refine r_icmp_ge S (tgt := 111) dX9_cut_18 (by decide) (by omega) (by omega) (fun c18 => ?_) (fun c18 => ?_)
      · refine r_aload_n S rfl dX9_cut_111 ?_
        refine r_bipush S (by decide +kernel) dX9_cut_112 ?_
        refine r_aload_n S rfl dX9_cut_114 ?_
        refine r_getI S (v := J 53 0) fk_X9_25 dX9_cut_115 rfl rfl (Nat.lt_of_lt_of_le (by decide) hn) rfl ?_
        refine r_callV S lk_X9_53 mk_X9_add (c_X9_add G n J bk dr pt hn (by omega) (by omega)) rfl (Nat.lt_of_lt_of_le (by decide) hn) rfl rfl rfl (Nat.le_of_ble_eq_true rfl) ⟨by decide, by decide⟩ rfl ⟨by decide, by decide⟩ dX9_cut_118 ?_
        rintro _ _ _ _ ⟨rfl, rfl, rfl, rfl⟩
        refine r_vret SR dX9_cut_121 ⟨by decide, by decide⟩ ?_
        have hp : I 53 0 ≤ p := by omega
        rw [toks_end _ hp] at jT
        refine ⟨rfl, rfl, rfl, fun o o1 o2 o3 => by rw [addT_o o1 o2 o3]; exact jo o o1 o2 o3, ?_, by rw [addT_1]; exact j1, ?_⟩
        · rw [addT_0, jc, ← jT, List.length_append]
          rfl
        · rw [← jT, ← e530]
          exact addT_hold jh jc
      · refine r_iload_n S rfl dX9_cut_21 ?_
        refine r_aload_n S rfl dX9_cut_22 ?_
        refine r_getI S (v := J 53 0) fk_X9_25 dX9_cut_23 rfl rfl (Nat.lt_of_lt_of_le (by decide) hn) rfl ?_
        refine r_icmp_ge S (tgt := 111) dX9_cut_26 (by decide) (by omega) (by omega) (fun c26 => ?_) (fun c26 => ?_)
        · refine r_aload_n S rfl dX9_cut_111 ?_
          refine r_bipush S (by decide +kernel) dX9_cut_112 ?_
          refine r_aload_n S rfl dX9_cut_114 ?_
          refine r_getI S (v := J 53 0) fk_X9_25 dX9_cut_115 rfl rfl (Nat.lt_of_lt_of_le (by decide) hn) rfl ?_
          refine r_callV S lk_X9_53 mk_X9_add (c_X9_add G n J bk dr pt hn (by omega) (by omega)) rfl (Nat.lt_of_lt_of_le (by decide) hn) rfl rfl rfl (Nat.le_of_ble_eq_true rfl) ⟨by decide, by decide⟩ rfl ⟨by decide, by decide⟩ dX9_cut_118 ?_
          rintro _ _ _ _ ⟨rfl, rfl, rfl, rfl⟩
          refine r_vret SR dX9_cut_121 ⟨by decide, by decide⟩ ?_
          have hp : I 53 0 ≤ p := by omega
          rw [toks_end _ hp] at jT
          refine ⟨rfl, rfl, rfl, fun o o1 o2 o3 => by rw [addT_o o1 o2 o3]; exact jo o o1 o2 o3, ?_, by rw [addT_1]; exact j1, ?_⟩
          · rw [addT_0, jc, ← jT, List.length_append]
            rfl
          · rw [← jT, ← e530]
            exact addT_hold jh jc
        · have hb := hby p (by omega) (by omega)
          refine r_aload_n S rfl dX9_cut_29 ?_
          refine r_iload_n S rfl dX9_cut_30 ?_
          refine r_callV S lk_X9_30 mk_X8_byteAt (c_X8_byteAt G n J bk dr pt hn (a := p) ⟨by omega, by omega⟩ (by omega) (by omega)) rfl (Nat.lt_of_lt_of_le (by decide) hn) rfl rfl rfl (Nat.le_of_ble_eq_true rfl) ⟨by decide, by decide⟩ rfl ⟨by decide, by decide⟩ dX9_cut_31 ?_
          rintro _ _ _ _ ⟨rfl, rfl, rfl, rfl⟩
          rw [if_pos (by omega), e54]
          refine r_istore S dX9_cut_34 rfl rfl ?_
          refine r_iload S rfl dX9_cut_36 ?_
          refine r_bipush S (by decide +kernel) dX9_cut_38 ?_
          refine r_icmp_eq S (tgt := 50) dX9_cut_40 (by decide) (by omega) (by omega) (fun c40 => ?_) (fun c40 => ?_)
          · refine r_iinc S dX9_cut_50 rfl rfl rfl ?_
            refine r_goto S (tgt := 105) dX9_cut_53 (by decide) ?_
            refine r_iinc S dX9_cut_105 rfl rfl rfl ?_
            refine r_goto S (tgt := 14) dX9_cut_108 (by decide) ?_
            refine r_drop S 4 ?_
            first | exact ih (p + 1) (i + 1) J done (by omega) (by omega) (by omega) (by omega) jo jc j1 jh (by rw [← jT, toks_blank (I 54) (len := I 53 0) (p := p) (by omega) (by omega)]) (by omega) | exact step _ _ (run0_gt isLet (I 54) (by omega) c61) (run0_range isLet (I 54) (by omega)).2 (by rw [toks_tok _ (by omega) hnb, tok1, if_pos c61]) | exact step _ _ (run0_gt isDig (I 54) (by omega) c79) (run0_range isDig (I 54) (by omega)).2 (by rw [toks_tok _ (by omega) hnb, tok1, if_neg c61, if_pos c79]) | exact step _ _ (by omega) (by omega) (by rw [toks_tok _ (by omega) hnb, tok1, if_neg c61, if_neg c79])
          · refine r_iload S rfl dX9_cut_43 ?_
            refine r_bipush S (by decide +kernel) dX9_cut_45 ?_
            refine r_icmp_ne S (tgt := 56) dX9_cut_47 (by decide) (by omega) (by omega) (fun c47 => ?_) (fun c47 => ?_)
            · have hnb : ¬ (I 54 p = 32 ∨ I 54 p = 10) := by rintro (h | h) <;> omega
              refine r_iload S rfl dX9_cut_56 ?_
              refine r_callS S lk_X9_34 mk_X9_isLetter (c_X9_isLetter G n J _ (a := I 54 p) (by omega)) rfl rfl (Nat.le_of_ble_eq_true rfl) ⟨by decide, by decide⟩ rfl ⟨by decide, by decide⟩ dX9_cut_58 ?_
              rintro _ _ _ _ ⟨rfl, rfl, rfl, rfl⟩
              refine r_ifb_eq S (tgt := 74) dX9_cut_61 (by decide)  (fun c61 => ?_) (fun c61 => ?_)
              · refine r_iload S rfl dX9_cut_74 ?_
                refine r_callS S lk_X9_42 mk_X9_isDigit (c_X9_isDigit G n J _ (a := I 54 p) (by omega)) rfl rfl (Nat.le_of_ble_eq_true rfl) ⟨by decide, by decide⟩ rfl ⟨by decide, by decide⟩ dX9_cut_76 ?_
                rintro _ _ _ _ ⟨rfl, rfl, rfl, rfl⟩
                refine r_ifb_eq S (tgt := 92) dX9_cut_79 (by decide)  (fun c79 => ?_) (fun c79 => ?_)
                · refine r_aload_n S rfl dX9_cut_92 ?_
                  refine r_iload S rfl dX9_cut_93 ?_
                  refine r_callS S lk_X9_48 mk_X1_ofSign (c_X1_ofSign G n J _ (a := I 54 p) (by omega)) rfl rfl (Nat.le_of_ble_eq_true rfl) ⟨by decide, by decide⟩ rfl ⟨by decide, by decide⟩ dX9_cut_95 ?_
                  rintro _ _ _ _ ⟨rfl, rfl, rfl, rfl⟩
                  refine r_iload_n S rfl dX9_cut_98 ?_
                  refine r_callV S lk_X9_53 mk_X9_add (c_X9_add G n J bk dr pt hn (by omega) (by omega)) rfl (Nat.lt_of_lt_of_le (by decide) hn) rfl rfl rfl (Nat.le_of_ble_eq_true rfl) ⟨by decide, by decide⟩ rfl ⟨by decide, by decide⟩ dX9_cut_99 ?_
                  rintro _ _ _ _ ⟨rfl, rfl, rfl, rfl⟩
                  refine r_iinc S dX9_cut_102 rfl rfl rfl ?_
                  refine r_iinc S dX9_cut_105 rfl rfl rfl ?_
                  refine r_goto S (tgt := 14) dX9_cut_108 (by decide) ?_
                  refine r_drop S 4 ?_
                  first | exact ih (p + 1) (i + 1) J done (by omega) (by omega) (by omega) (by omega) jo jc j1 jh (by rw [← jT, toks_blank (I 54) (len := I 53 0) (p := p) (by omega) (by omega)]) (by omega) | exact step _ _ (run0_gt isLet (I 54) (by omega) c61) (run0_range isLet (I 54) (by omega)).2 (by rw [toks_tok _ (by omega) hnb, tok1, if_pos c61]) | exact step _ _ (run0_gt isDig (I 54) (by omega) c79) (run0_range isDig (I 54) (by omega)).2 (by rw [toks_tok _ (by omega) hnb, tok1, if_neg c61, if_pos c79]) | exact step _ _ (by omega) (by omega) (by rw [toks_tok _ (by omega) hnb, tok1, if_neg c61, if_neg c79])
                · refine r_aload_n S rfl dX9_cut_82 ?_
                  refine r_aload_n S rfl dX9_cut_83 ?_
                  refine r_iload_n S rfl dX9_cut_84 ?_
                  refine r_callV S lk_X9_45 mk_X9_cutNumber (c_X9_cutNumber G n J bk dr pt hn (a := p) (by omega) (by omega) (by omega) (by rw [e530, e54]; exact hby) (by omega) (by omega)) rfl (Nat.lt_of_lt_of_le (by decide) hn) rfl rfl rfl (Nat.le_of_ble_eq_true rfl) ⟨by decide, by decide⟩ rfl ⟨by decide, by decide⟩ dX9_cut_85 ?_
                  rintro _ _ _ _ ⟨rfl, rfl, rfl, rfl⟩
                  rw [e54, e530]
                  refine r_istore_n S dX9_cut_88 rfl rfl ?_
                  refine r_goto S (tgt := 105) dX9_cut_89 (by decide) ?_
                  refine r_iinc S dX9_cut_105 rfl rfl rfl ?_
                  refine r_goto S (tgt := 14) dX9_cut_108 (by decide) ?_
                  refine r_drop S 4 ?_
                  first | exact ih (p + 1) (i + 1) J done (by omega) (by omega) (by omega) (by omega) jo jc j1 jh (by rw [← jT, toks_blank (I 54) (len := I 53 0) (p := p) (by omega) (by omega)]) (by omega) | exact step _ _ (run0_gt isLet (I 54) (by omega) c61) (run0_range isLet (I 54) (by omega)).2 (by rw [toks_tok _ (by omega) hnb, tok1, if_pos c61]) | exact step _ _ (run0_gt isDig (I 54) (by omega) c79) (run0_range isDig (I 54) (by omega)).2 (by rw [toks_tok _ (by omega) hnb, tok1, if_neg c61, if_pos c79]) | exact step _ _ (by omega) (by omega) (by rw [toks_tok _ (by omega) hnb, tok1, if_neg c61, if_neg c79])
              · refine r_aload_n S rfl dX9_cut_64 ?_
                refine r_aload_n S rfl dX9_cut_65 ?_
                refine r_iload_n S rfl dX9_cut_66 ?_
                refine r_callV S lk_X9_38 mk_X9_cutWord (c_X9_cutWord G n J bk dr pt hn (a := p) (by omega) (by omega) (by omega) (by rw [e530, e54]; exact hby) (by omega) (by omega)) rfl (Nat.lt_of_lt_of_le (by decide) hn) rfl rfl rfl (Nat.le_of_ble_eq_true rfl) ⟨by decide, by decide⟩ rfl ⟨by decide, by decide⟩ dX9_cut_67 ?_
                rintro _ _ _ _ ⟨rfl, rfl, rfl, rfl⟩
                rw [e54, e530]
                refine r_istore_n S dX9_cut_70 rfl rfl ?_
                refine r_goto S (tgt := 105) dX9_cut_71 (by decide) ?_
                refine r_iinc S dX9_cut_105 rfl rfl rfl ?_
                refine r_goto S (tgt := 14) dX9_cut_108 (by decide) ?_
                refine r_drop S 4 ?_
                first | exact ih (p + 1) (i + 1) J done (by omega) (by omega) (by omega) (by omega) jo jc j1 jh (by rw [← jT, toks_blank (I 54) (len := I 53 0) (p := p) (by omega) (by omega)]) (by omega) | exact step _ _ (run0_gt isLet (I 54) (by omega) c61) (run0_range isLet (I 54) (by omega)).2 (by rw [toks_tok _ (by omega) hnb, tok1, if_pos c61]) | exact step _ _ (run0_gt isDig (I 54) (by omega) c79) (run0_range isDig (I 54) (by omega)).2 (by rw [toks_tok _ (by omega) hnb, tok1, if_neg c61, if_pos c79]) | exact step _ _ (by omega) (by omega) (by rw [toks_tok _ (by omega) hnb, tok1, if_neg c61, if_neg c79])
            · refine r_iinc S dX9_cut_50 rfl rfl rfl ?_
              refine r_goto S (tgt := 105) dX9_cut_53 (by decide) ?_
              refine r_iinc S dX9_cut_105 rfl rfl rfl ?_
              refine r_goto S (tgt := 14) dX9_cut_108 (by decide) ?_
              refine r_drop S 4 ?_
              first | exact ih (p + 1) (i + 1) J done (by omega) (by omega) (by omega) (by omega) jo jc j1 jh (by rw [← jT, toks_blank (I 54) (len := I 53 0) (p := p) (by omega) (by omega)]) (by omega) | exact step _ _ (run0_gt isLet (I 54) (by omega) c61) (run0_range isLet (I 54) (by omega)).2 (by rw [toks_tok _ (by omega) hnb, tok1, if_pos c61]) | exact step _ _ (run0_gt isDig (I 54) (by omega) c79) (run0_range isDig (I 54) (by omega)).2 (by rw [toks_tok _ (by omega) hnb, tok1, if_neg c61, if_pos c79]) | exact step _ _ (by omega) (by omega) (by rw [toks_tok _ (by omega) hnb, tok1, if_neg c61, if_neg c79])
  refine r_aload_n S rfl dX9_cut_0 ?_
  refine r_iconst S dX9_cut_1 ?_
  refine r_putI S fk_X9_9 dX9_cut_2 rfl rfl (Nat.lt_of_lt_of_le (by decide) hn) (Or.inl rfl) (Or.inl rfl) ?_
  refine r_aload_n S rfl dX9_cut_5 ?_
  refine r_iconst S dX9_cut_6 ?_
  refine r_putI S fk_X9_15 dX9_cut_7 rfl rfl (Nat.lt_of_lt_of_le (by decide) hn) (Or.inl rfl) (Or.inl rfl) ?_
  refine r_iconst S dX9_cut_10 ?_
  refine r_istore_n S dX9_cut_11 rfl rfl ?_
  refine r_iconst S dX9_cut_12 ?_
  refine r_istore_n S dX9_cut_13 rfl rfl ?_
  refine loop ((I 53 0).toNat + 1) 0 0 _ [] (by omega) (by omega) (by omega) (by omega) (fun o o1 o2 o3 => by rw [up_o o1, up_o o1]) ?_ (up_s _ _ _ _) (holdT_nil _ _) (by rw [eT]; rfl) (by decide)
  rw [up_i (by decide), up_s]
  rfl
end
