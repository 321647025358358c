/-! ===== the class's PARTINGS: weighSets ===== -/
def wsOk (ws : Int → Int) (f : Nat) (K : Iv) (b : Nat) : Prop := ∀ t : Nat, 1 ≤ t → t < b → K 105 (t : Int) = wgt ws f t ∧ K 106 (t : Int) = wlo ws f t
theorem wlo_rg {ws : Int → Int} {f a : Nat} (hws : ∀ i : Nat, i < f → 1 ≤ ws i ∧ ws i ≤ 999) : 0 ≤ wlo ws f a ∧ wlo ws f a ≤ 999 * f := by
  by_cases h : wgt ws f a = 0
  · have : ∀ g : Nat, g ≤ f → wgt ws g a = 0 ∧ wlo ws g a = 0 := by
      intro g
      induction g with
      | zero => exact fun _ => ⟨rfl, rfl⟩
      | succ g ih =>
        intro hg
        have hi := ih (by omega)
        have hb : ¬ Nat.testBit a g = true := fun q => by
          have := wgt_pos f hws (show g < f by omega) q
          omega
        exact ⟨by rw [wgt_0 hb]; exact hi.1, by show (if Nat.testBit a g then _ else _) = _; rw [if_neg hb]; exact hi.2⟩
    rw [(this f (Nat.le_refl _)).2]
    omega
  · obtain ⟨b, b1, b2, b3⟩ := wlo_ok f a hws h
    have h1 := wgt_rg (s := b) f hws
    rw [b2] at h1
    exact h1
section
variable (G : GE) (n : Nat) (I : Iv) (bk dr : Nat) (pt : Option Nat)
theorem c_X5_weighSets (hn : 109 ≤ n) {F : Nat} (hF : F ≤ 10) (eF : I 51 0 = F) (hws : ∀ i : Nat, i < F → 1 ≤ I 52 i ∧ I 52 i ≤ 999) : Ct G yX5_weighSets cX5_weighSets 7 none 1 0 0 [.ref (gb G + 103), .ref (gb G + 51)] n I (rst bk dr pt) (fun v n' I' ρ' => v = none ∧ n = n' ∧ rst bk dr pt = ρ' ∧ (∀ o, o ≠ 105 → o ≠ 106 → I' o = I o) ∧ I' 105 0 = I 105 0 ∧ wsOk (I 52) F I' (2 ^ F)) := by
  refine Ct.of [some (.ref (gb G + 103)), some (.ref (gb G + 51)), none, none, none, none, none] (by decide) rfl rfl rfl ?_
  intro k SR
  have S : Sem G RX5 "weighSets" cX5_weighSets 7 (rmD 1 0 0) k := SR.sem
  have loop : ∀ (q f : Nat) (K : Iv) (x3 x4 x5 x6 : Option Value), f + q = F → (∀ o, o ≠ 105 → o ≠ 106 → K o = I o) → K 105 0 = I 105 0 → wsOk (I 52) f K (2 ^ f) → k 2 [some (.ref (gb G + 103)), some (.ref (gb G + 51)), some (.int (jI (f : Int))), x3, x4, x5, x6] [] n K (rst bk dr pt) 0 0 := by
    intro q
    induction q with
    | zero =>
      intro f K x3 x4 x5 x6 hf hK k0 hw
      have kF : K 51 0 = F := by rw [hK 51 (by decide) (by decide)]; exact eF
      refine r_iload_n S rfl dX5_weighSets_2 ?_
      refine r_aload_n S rfl dX5_weighSets_3 ?_
      refine r_getI S (v := K 51 0) fk_X5_44 dX5_weighSets_4 rfl rfl (Nat.lt_of_lt_of_le (by decide) hn) rfl ?_
      refine r_icmp_ge S (tgt := 122) dX5_weighSets_7 (by decide) (by omega) (by omega) (fun c7 => ?_) (fun c7 => ?_)
      · refine r_vret SR dX5_weighSets_122 ⟨by decide, by decide⟩ ?_
        exact ⟨rfl, rfl, rfl, hK, k0, by rw [← show f = F by omega]; exact hw⟩
      · exact absurd c7 (by omega)
    | succ q ih =>
      intro f K x3 x4 x5 x6 hf hK k0 hw
      have kF : K 51 0 = F := by rw [hK 51 (by decide) (by decide)]; exact eF
      have k52 : K 52 f = I 52 f := by rw [hK 52 (by decide) (by decide)]
      have hof := hws f (by omega)
      have hws' : ∀ i : Nat, i < f → 1 ≤ I 52 i ∧ I 52 i ≤ 999 := fun i hi => hws i (by omega)
      obtain ⟨P, eP⟩ : ∃ P, P = 2 ^ f := ⟨_, rfl⟩
      have hP1 : 1 ≤ P := by rw [eP]; exact Nat.two_pow_pos f
      have hP : P ≤ 512 := by
        have h1 : 2 ^ f ≤ 2 ^ 9 := Nat.pow_le_pow_right (by decide) (by omega)
        have h2 : (2 : Nat) ^ 9 = 512 := by decide
        omega
      have hPP : 2 ^ (f + 1) = P + P := by rw [Nat.pow_succ, ← eP]; omega
      have wo : ∀ t : Nat, t < P → wgt (I 52) (f + 1) t = wgt (I 52) f t ∧ wlo (I 52) (f + 1) t = wlo (I 52) f t := fun t ht => wgt_old (by rw [← eP]; exact ht)
      have wn : ∀ t : Nat, t < P → wgt (I 52) (f + 1) (P + t) = wgt (I 52) f t + I 52 f ∧ wlo (I 52) (f + 1) (P + t) = if wgt (I 52) f t = 0 then 0 else wgt (I 52) f t + I 52 f - min (I 52 f) (wgt (I 52) f t - wlo (I 52) f t) := fun t ht => by rw [eP]; exact wgt_new (by rw [← eP]; exact ht)
      have w0 : wgt (I 52) (f + 1) P = 0 + I 52 f ∧ wlo (I 52) (f + 1) P = 0 := by
        have w0 := wn 0 (by omega)
        rw [wgt_zero, if_pos rfl] at w0
        exact w0
      rw [← eP] at hw
      have inner : ∀ (m t : Nat) (K2 : Iv) (x6 : Option Value), t + m = P → 1 ≤ t → (∀ o, o ≠ 105 → o ≠ 106 → K2 o = I o) → K2 105 0 = I 105 0 → wsOk (I 52) (f + 1) K2 (P + t) → k 41 [some (.ref (gb G + 103)), some (.ref (gb G + 51)), some (.int (jI (f : Int))), some (.int (jI (I 52 f))), some (.int (jI (P : Int))), some (.int (jI (t : Int))), x6] [] n K2 (rst bk dr pt) 0 0 := by
        intro m
        induction m with
        | zero =>
          intro t K2 x6 ht t1 hK2 k20 hw2
          refine r_iload S rfl dX5_weighSets_41 ?_
          refine r_iload S rfl dX5_weighSets_43 ?_
          refine r_icmp_ge S (tgt := 116) dX5_weighSets_45 (by decide) (by omega) (by omega) (fun c45 => ?_) (fun c45 => ?_)
          · refine r_iinc S dX5_weighSets_116 rfl rfl rfl ?_
            refine r_goto S (tgt := 2) dX5_weighSets_119 (by decide) ?_
            have Q := ih (f + 1) K2 (some (.int (jI (I 52 f)))) (some (.int (jI (P : Int)))) (some (.int (jI (t : Int)))) x6 (by omega) hK2 k20 (by rw [hPP, show P + P = P + t by omega]; exact hw2)
            rw [show ((f + 1 : Nat) : Int) = (f : Int) + 1 by omega] at Q
            exact Q
          · exact absurd c45 (by omega)
        | succ m ihm =>
          intro t K2 x6 ht t1 hK2 k20 hw2
          have h2 := hw2 t t1 (by omega)
          rw [(wo t (by omega)).1, (wo t (by omega)).2] at h2
          have r1 := wgt_rg (ws := I 52) (s := t) f hws'
          have r2 := wlo_rg (ws := I 52) (a := t) hws'
          have hpos : ¬ wgt (I 52) f t = 0 := by
            intro h0
            have hz : t = 0 := by
              apply Nat.eq_of_testBit_eq
              intro i
              rw [Nat.zero_testBit]
              by_cases hi : i < f
              · cases hb : Nat.testBit t i with
                | false => rfl
                | true =>
                  have := wgt_pos f hws' hi hb
                  omega
              · refine Nat.testBit_lt_two_pow (Nat.lt_of_lt_of_le ?_ (Nat.pow_le_pow_right (by decide) (show f ≤ i by omega)))
                rw [← eP]
                omega
            omega
          have wnt := wn t (by omega)
          rw [if_neg hpos] at wnt
          refine r_iload S rfl dX5_weighSets_41 ?_
          refine r_iload S rfl dX5_weighSets_43 ?_
          refine r_icmp_ge S (tgt := 116) dX5_weighSets_45 (by decide) (by omega) (by omega) (fun c45 => ?_) (fun c45 => ?_)
          · exact absurd c45 (by omega)
          · refine r_iload_n S rfl dX5_weighSets_48 ?_
            refine r_aload_n S rfl dX5_weighSets_49 ?_
            refine r_getR S (o' := 105) fk_X5_15 dX5_weighSets_50 rfl rfl (Nat.lt_of_lt_of_le (by decide) hn) rfl ?_
            refine r_iload S rfl dX5_weighSets_53 ?_
            refine r_iald S (v := K2 105 (t:Int)) dX5_weighSets_55 rfl rfl (Nat.lt_of_lt_of_le (by decide) hn) (by omega) (by omega) rfl ?_
            rw [h2.1]
            refine r_aload_n S rfl dX5_weighSets_56 ?_
            refine r_getR S (o' := 106) fk_X5_18 dX5_weighSets_57 rfl rfl (Nat.lt_of_lt_of_le (by decide) hn) rfl ?_
            refine r_iload S rfl dX5_weighSets_60 ?_
            refine r_iald S (v := K2 106 (t:Int)) dX5_weighSets_62 rfl rfl (Nat.lt_of_lt_of_le (by decide) hn) (by omega) (by omega) rfl ?_
            rw [h2.2]
            refine r_isub S dX5_weighSets_63 ?_
            refine r_mmin S lk_X5_38 (by omega) (by omega) (by decide) (Nat.le_of_ble_eq_true rfl) rfl ⟨by decide, by decide⟩ dX5_weighSets_64 ?_
            refine r_istore S dX5_weighSets_67 rfl rfl ?_
            refine r_aload_n S rfl dX5_weighSets_69 ?_
            refine r_getR S (o' := 105) fk_X5_15 dX5_weighSets_70 rfl rfl (Nat.lt_of_lt_of_le (by decide) hn) rfl ?_
            refine r_iload S rfl dX5_weighSets_73 ?_
            refine r_iload S rfl dX5_weighSets_75 ?_
            refine r_iadd S dX5_weighSets_77 ?_
            refine r_aload_n S rfl dX5_weighSets_78 ?_
            refine r_getR S (o' := 105) fk_X5_15 dX5_weighSets_79 rfl rfl (Nat.lt_of_lt_of_le (by decide) hn) rfl ?_
            refine r_iload S rfl dX5_weighSets_82 ?_
            refine r_iald S (v := K2 105 (t:Int)) dX5_weighSets_84 rfl rfl (Nat.lt_of_lt_of_le (by decide) hn) (by omega) (by omega) rfl ?_
            rw [h2.1]
            refine r_iload_n S rfl dX5_weighSets_85 ?_
            refine r_iadd S dX5_weighSets_86 ?_
            refine r_iast S dX5_weighSets_87 rfl rfl (Nat.lt_of_lt_of_le (by decide) hn) (by omega) (by omega) ?_
            refine r_aload_n S rfl dX5_weighSets_88 ?_
            refine r_getR S (o' := 106) fk_X5_18 dX5_weighSets_89 rfl rfl (Nat.lt_of_lt_of_le (by decide) hn) rfl ?_
            refine r_iload S rfl dX5_weighSets_92 ?_
            refine r_iload S rfl dX5_weighSets_94 ?_
            refine r_iadd S dX5_weighSets_96 ?_
            refine r_aload_n S rfl dX5_weighSets_97 ?_
            refine r_getR S (o' := 105) fk_X5_15 dX5_weighSets_98 rfl rfl (Nat.lt_of_lt_of_le (by decide) hn) rfl ?_
            refine r_iload S rfl dX5_weighSets_101 ?_
            refine r_iald S (v := wgt (I 52) f t) dX5_weighSets_103 rfl rfl (Nat.lt_of_lt_of_le (by decide) hn) (by omega) (by omega) (by rw [up_i (by omega)]; exact h2.1) ?_
            refine r_iload_n S rfl dX5_weighSets_104 ?_
            refine r_iadd S dX5_weighSets_105 ?_
            refine r_iload S rfl dX5_weighSets_106 ?_
            refine r_isub S dX5_weighSets_108 ?_
            refine r_iast S dX5_weighSets_109 rfl rfl (Nat.lt_of_lt_of_le (by decide) hn) (by omega) (by omega) ?_
            refine r_iinc S dX5_weighSets_110 rfl rfl rfl ?_
            refine r_goto S (tgt := 41) dX5_weighSets_113 (by decide) ?_
            have Q := ihm (t + 1) (up (up K2 105 ((P : Int) + t) (wgt (I 52) f t + I 52 f)) 106 ((P : Int) + t) (wgt (I 52) f t + I 52 f - min (I 52 f) (wgt (I 52) f t - wlo (I 52) f t))) (some (.int (jI (min (I 52 f) (wgt (I 52) f t - wlo (I 52) f t))))) (by omega) (by omega) (fun o a b => by rw [up_o b, up_o a]; exact hK2 o a b) (by rw [up_o (by decide), up_i (by omega)]; exact k20) (fun s s1 s2 => ?_)
            · rw [show ((t + 1 : Nat) : Int) = (t : Int) + 1 by omega] at Q
              exact Q
            · by_cases e : s = P + t
              · have e' : ((P + t : Nat) : Int) = (P : Int) + t := by omega
                rw [e, e', up_o (by decide), up_s, up_s, wnt.1, wnt.2]
                exact ⟨rfl, rfl⟩
              · rw [up_o (by decide), up_i (by omega), up_i (by omega), up_o (by decide)]
                exact hw2 s s1 (by omega)
      refine r_iload_n S rfl dX5_weighSets_2 ?_
      refine r_aload_n S rfl dX5_weighSets_3 ?_
      refine r_getI S (v := K 51 0) fk_X5_44 dX5_weighSets_4 rfl rfl (Nat.lt_of_lt_of_le (by decide) hn) rfl ?_
      refine r_icmp_ge S (tgt := 122) dX5_weighSets_7 (by decide) (by omega) (by omega) (fun c7 => ?_) (fun c7 => ?_)
      · exact absurd c7 (by omega)
      · refine r_aload_n S rfl dX5_weighSets_10 ?_
        refine r_getR S (o' := 52) fk_X5_64 dX5_weighSets_11 rfl rfl (Nat.lt_of_lt_of_le (by decide) hn) rfl ?_
        refine r_iload_n S rfl dX5_weighSets_14 ?_
        refine r_iald S (v := K 52 (f:Int)) dX5_weighSets_15 rfl rfl (Nat.lt_of_lt_of_le (by decide) hn) (by omega) (by omega) rfl ?_
        rw [k52]
        refine r_istore_n S dX5_weighSets_16 rfl rfl ?_
        refine r_iconst S dX5_weighSets_17 ?_
        refine r_iload_n S rfl dX5_weighSets_18 ?_
        refine r_ishl S (v := (P : Int)) (by rw [eP]; exact shl_F (F := (f : Int)) (by omega) (by omega)) dX5_weighSets_19 ?_
        refine r_istore S dX5_weighSets_20 rfl rfl ?_
        refine r_aload_n S rfl dX5_weighSets_22 ?_
        refine r_getR S (o' := 105) fk_X5_15 dX5_weighSets_23 rfl rfl (Nat.lt_of_lt_of_le (by decide) hn) rfl ?_
        refine r_iload S rfl dX5_weighSets_26 ?_
        refine r_iload_n S rfl dX5_weighSets_28 ?_
        refine r_iast S dX5_weighSets_29 rfl rfl (Nat.lt_of_lt_of_le (by decide) hn) (by omega) (by omega) ?_
        refine r_aload_n S rfl dX5_weighSets_30 ?_
        refine r_getR S (o' := 106) fk_X5_18 dX5_weighSets_31 rfl rfl (Nat.lt_of_lt_of_le (by decide) hn) rfl ?_
        refine r_iload S rfl dX5_weighSets_34 ?_
        refine r_iconst S dX5_weighSets_36 ?_
        refine r_iast S dX5_weighSets_37 rfl rfl (Nat.lt_of_lt_of_le (by decide) hn) (by omega) (by omega) ?_
        refine r_iconst S dX5_weighSets_38 ?_
        refine r_istore S dX5_weighSets_39 rfl rfl ?_
        exact inner (P - 1) 1 _ _ (by omega) (Nat.le_refl _) (fun o a b => by rw [up_o b, up_o a]; exact hK o a b) (by rw [up_o (by decide), up_i (by omega)]; exact k0) (fun s s1 s2 => by by_cases e : s = P; (rw [e, up_o (by decide), up_s, up_s, w0.1, w0.2]; exact ⟨by omega, rfl⟩); (rw [up_o (by decide), up_i (by omega), up_i (by omega), up_o (by decide), (wo s (by omega)).1, (wo s (by omega)).2]; exact hw s s1 (by omega)))
  refine r_iconst S dX5_weighSets_0 ?_
  refine r_istore_n S dX5_weighSets_1 rfl rfl ?_
  exact loop F 0 I none none none none (by omega) (fun _ _ _ => rfl) rfl (fun t t1 t2 => by have t2' : t < 1 := t2; omega)
end
