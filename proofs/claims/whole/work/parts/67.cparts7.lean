/-! ===== the class's PARTINGS: find ===== -/
theorem dif_dif {g al : Nat} (h : sub g al) : dif al (dif al g) = g := by
  apply Nat.eq_of_testBit_eq
  intro i
  rw [dif_tb, dif_tb]
  cases hg : Nat.testBit g i with
  | false => cases Nat.testBit al i <;> rfl
  | true => rw [sub_tb.mp h i hg]; rfl
def cpOnly (I J : Iv) : Prop := ∀ o, o ≠ 103 → o ≠ 105 → o ≠ 106 → o ≠ 107 → o ≠ 108 → J o = I o
def cpRes (w : Nat → Int) (D : Int → Int) (st : List Nat) (H : Nat) (J : Iv) : Prop := J 103 4 = (srvN D st H : Int) ∧ J 103 5 = w (gnN st H) ∧ ∀ h : Nat, h < H → J 108 (h : Int) = (st.getD h 0 : Int)
section
variable (G : GE) (n : Nat) (I : Iv) (bk dr : Nat) (pt : Option Nat)
theorem c_X5_rankNobody (hn : 109 ≤ n) {H : Nat} (hH8 : H ≤ 8) (hr : rgK I) : Ct G yX5_rankNobodyBehind cX5_rankNobodyBehind 3 none 1 0 0 [.ref (gb G + 103), .int (jI ((H : Int) - 1))] n I (rst bk dr pt) (fun v n' I' ρ' => v = none ∧ n = n' ∧ rst bk dr pt = ρ' ∧ (∀ o, o ≠ 107 → I' o = I o) ∧ rgK I' ∧ ∀ s : Nat, 1 ≤ H → s < 1024 → I' 107 (1024 * ((H : Int) - 1) + s) = 0) := by
  refine Ct.of [some (.ref (gb G + 103)), some (.int (jI ((H : Int) - 1))), none] (by decide) rfl rfl rfl ?_
  intro k SR
  have S : Sem G RX5 "rankNobodyBehind" cX5_rankNobodyBehind 3 (rmD 1 0 0) k := SR.sem
  obtain ⟨h, eh⟩ : ∃ h : Int, h = (H : Int) - 1 := ⟨_, rfl⟩
  rw [← eh] at SR ⊢
  have loop : 1 ≤ H → ∀ (q s : Nat) (K : Iv), s + q = 1024 → (∀ o, o ≠ 107 → K o = I o) → rgK K → (∀ t : Nat, t < s → K 107 (1024 * h + t) = 0) → k 13 [some (.ref (gb G + 103)), some (.int (jI h)), some (.int (jI (s : Int)))] [] n K (rst bk dr pt) 0 0 := by
    intro h1 q
    induction q with
    | zero =>
      intro s K hs hK hk hz
      refine r_iload_n S rfl dX5_rankNobodyBehind_13 ?_
      refine r_sipush S (by decide +kernel) dX5_rankNobodyBehind_14 ?_
      refine r_icmp_ge S (tgt := 39) dX5_rankNobodyBehind_17 (by decide) (by omega) (by omega) (fun c17 => ?_) (fun c17 => ?_)
      · refine r_vret SR dX5_rankNobodyBehind_39 ⟨by decide, by decide⟩ ?_
        exact ⟨rfl, rfl, rfl, hK, hk, fun t _ ht => hz t (by omega)⟩
      · exact absurd c17 (by omega)
    | succ q ih =>
      intro s K hs hK hk hz
      refine r_iload_n S rfl dX5_rankNobodyBehind_13 ?_
      refine r_sipush S (by decide +kernel) dX5_rankNobodyBehind_14 ?_
      refine r_icmp_ge S (tgt := 39) dX5_rankNobodyBehind_17 (by decide) (by omega) (by omega) (fun c17 => ?_) (fun c17 => ?_)
      · exact absurd c17 (by omega)
      · refine r_aload_n S rfl dX5_rankNobodyBehind_20 ?_
        refine r_getR S (o' := 107) fk_X5_21 dX5_rankNobodyBehind_21 rfl rfl (Nat.lt_of_lt_of_le (by decide) hn) rfl ?_
        refine r_iload_n S rfl dX5_rankNobodyBehind_24 ?_
        refine r_sipush S (by decide +kernel) dX5_rankNobodyBehind_25 ?_
        refine r_imul S dX5_rankNobodyBehind_28 ?_
        refine r_iload_n S rfl dX5_rankNobodyBehind_29 ?_
        refine r_iadd S dX5_rankNobodyBehind_30 ?_
        refine r_iconst S dX5_rankNobodyBehind_31 ?_
        refine r_iast S dX5_rankNobodyBehind_32 rfl rfl (Nat.lt_of_lt_of_le (by decide) hn) (by omega) (by omega) ?_
        refine r_iinc S dX5_rankNobodyBehind_33 rfl rfl rfl ?_
        refine r_goto S (tgt := 13) dX5_rankNobodyBehind_36 (by decide) ?_
        have Q := ih (s + 1) (up K 107 (h * 1024 + s) 0) (by omega) (fun o a => by rw [up_o a]; exact hK o a) (fun i i0 i1 => by by_cases e : i = h * 1024 + s; (rw [e, up_s]; omega); (rw [up_i e]; exact hk i i0 i1)) (fun t ht => by rw [show 1024 * h + t = h * 1024 + t by omega]; by_cases e : t = s; rw [e, up_s]; rw [up_i (by omega), show h * 1024 + t = 1024 * h + t by omega]; exact hz t (by omega))
        rw [show ((s + 1 : Nat) : Int) = (s : Int) + 1 by omega] at Q
        exact Q
  refine r_iload_n S rfl dX5_rankNobodyBehind_0 ?_
  refine r_iconst S dX5_rankNobodyBehind_1 ?_
  refine r_bipush S (by decide +kernel) dX5_rankNobodyBehind_2 ?_
  refine r_callS S lk_X5_34 mk_X11_isWithin (c_X11_isWithin G n I (rst bk dr pt) (by omega) (by decide) (by decide)) rfl rfl (Nat.le_of_ble_eq_true rfl) ⟨by decide, by decide⟩ rfl ⟨by decide, by decide⟩ dX5_rankNobodyBehind_4 ?_
  rintro _ _ _ _ ⟨rfl, rfl, rfl, rfl⟩
  refine r_ifb_ne S (tgt := 11) dX5_rankNobodyBehind_7 (by decide)  (fun c7 => ?_) (fun c7 => ?_)
  · refine r_iconst S dX5_rankNobodyBehind_11 ?_
    refine r_istore_n S dX5_rankNobodyBehind_12 rfl rfl ?_
    exact loop (by omega) 1024 0 I (by omega) (fun _ _ => rfl) hr (fun t ht => absurd ht (by omega))
  · refine r_vret SR dX5_rankNobodyBehind_10 ⟨by decide, by decide⟩ ?_
    exact ⟨rfl, rfl, rfl, fun _ _ => rfl, hr, fun s h1 _ => absurd (by omega) c7⟩
theorem c_X5_find (hn : 109 ≤ n) {H F al : Nat} {D : Int → Int} (hF : F ≤ 10) (hal : 2 ^ F = al + 1) (hH8 : H ≤ 8) (eF : I 51 0 = F) (hws : ∀ i : Nat, i < F → 1 ≤ I 52 i ∧ I 52 i ≤ 999) (hdu : ∀ h : Nat, h < H → I 104 h = D h) (hD : ∀ h : Int, 0 ≤ D h ∧ D h ≤ 9999) (h50 : I 105 0 = 0) (hr : rgK I) : Ct G yX5_find cX5_find 7 none 3 0 0 [.ref (gb G + 103), .int (jI (H : Int)), .ref (gb G + 51)] n I (rst bk dr pt) (fun v n' I' ρ' => v = none ∧ n = n' ∧ rst bk dr pt = ρ' ∧ cpOnly I I' ∧ I' 105 0 = 0 ∧ rgK I' ∧ cpRes (wgt (I 52) F) D (cG (wgt (I 52) F) (wlo (I 52) F) al 0 (dul D H 0) al) H I') := by
  refine Ct.of [some (.ref (gb G + 103)), some (.int (jI (H : Int))), some (.ref (gb G + 51)), none, none, none, none] (by decide) rfl rfl rfl ?_
  intro k SR
  have S : Sem G RX5 "find" cX5_find 7 (rmD 3 0 0) k := SR.sem
  have hW := wgt_PW hF hal hws
  have hwlr : ∀ s : Nat, rg (wlo (I 52) F s) := fun s => by
    have := wlo_rg (a := s) hws
    have : (999 : Int) * F ≤ 9990 := by omega
    omega
  obtain ⟨w, ew⟩ : ∃ w, w = wgt (I 52) F := ⟨_, rfl⟩
  obtain ⟨wl, ewl⟩ : ∃ wl, wl = wlo (I 52) F := ⟨_, rfl⟩
  rw [← ew, ← ewl] at hW SR
  rw [← ewl] at hwlr
  obtain ⟨st, est⟩ : ∃ st, st = cG w wl al 0 (dul D H 0) al := ⟨_, rfl⟩
  rw [← est] at SR
  have hal1 : al < 1024 := by
    have h1 : 2 ^ F ≤ 2 ^ 10 := Nat.pow_le_pow_right (by decide) hF
    have h2 : (2 : Nat) ^ 10 = 1024 := by decide
    omega
  have hsub : ∀ s, s ≤ al → sub s al := fun s hs => sub_al hal hs
  have dlen : ∀ (m h : Nat), (dul D m h).length = m := by
    intro m
    induction m with
    | zero => intro h; rfl
    | succ m ih => intro h; show (dul D m (h + 1)).length + 1 = m + 1; rw [ih]
  -- behind the ranking
  have sec : ∀ (J : Iv) (x5 : Int), cpOnly I J → J 105 0 = 0 → rgK J → (∀ s : Nat, s ≤ al → J 105 (s : Int) = w s) → (∀ s : Nat, 1 ≤ s → s ≤ al → J 105 (s : Int) = w s ∧ J 106 (s : Int) = wl s ∧ rg (wl s)) → (∀ j m : Nat, j + 1 + m = H → ∀ L : Nat, L ≤ al → J 107 (1024 * (j : Int) + L) = cB w wl al (j + 1) (dul D m (j + 1)) L) → k 53 [some (.ref (gb G + 103)), some (.int (jI (H : Int))), some (.ref (gb G + 51)), some (.int (jI (H : Int))), some (.int (jI (al : Int))), some (.int (jI x5)), none] [] n J (rst bk dr pt) 0 0 := by
    intro J x5 hJ j50 hrJ hJw hJws hrow
    have j4 : ∀ h : Nat, h < H → J 104 h = D h := fun h hh => by rw [hJ 104 (by decide) (by decide) (by decide) (by decide) (by decide)]; exact hdu h hh
    have choose : ∀ (q h : Nat) (K : Iv), h + q = H → (∀ o, o ≠ 103 → o ≠ 108 → K o = J o) → K 103 4 = (srvN D st h : Int) → (∀ j : Nat, j < h → K 108 (j : Int) = (st.getD j 0 : Int)) → sub (gnN st h) al → cG w wl al h (dul D q h) (dif al (gnN st h)) = st.drop h → k 65 [some (.ref (gb G + 103)), some (.int (jI (H : Int))), some (.ref (gb G + 51)), some (.int (jI (H : Int))), some (.int (jI (al : Int))), some (.int (jI (dif al (gnN st h) : Int))), some (.int (jI (h : Int)))] [] n K (rst bk dr pt) 0 0 := by
      intro q
      induction q with
      | zero =>
        intro h K hh hK k4 k8 hg hst
        have eh : h = H := by omega
        have hgl := sub_le hg
        have k5 : K 105 = J 105 := hK 105 (by decide) (by decide)
        refine r_iload S rfl dX5_find_65 ?_
        refine r_iload_n S rfl dX5_find_67 ?_
        refine r_icmp_ge S (tgt := 153) dX5_find_68 (by decide) (by omega) (by omega) (fun c68 => ?_) (fun c68 => ?_)
        · refine r_aload_n S rfl dX5_find_153 ?_
          refine r_aload_n S rfl dX5_find_154 ?_
          refine r_getR S (o' := 105) fk_X5_15 dX5_find_155 rfl rfl (Nat.lt_of_lt_of_le (by decide) hn) rfl ?_
          refine r_iload S rfl dX5_find_158 ?_
          refine r_iload S rfl dX5_find_160 ?_
          refine r_iconst S dX5_find_162 ?_
          refine r_ixor S (v := (jI (dif al (gnN st h) : Int) ^^^ jI (-1)).toInt) (not_n _) dX5_find_163 ?_
          refine r_iand S (v := (dif al (dif al (gnN st h)) : Int)) (dif_n al _ (not_n _)) dX5_find_164 ?_
          rw [dif_dif hg]
          refine r_iald S (v := K 105 (gnN st h : Int)) dX5_find_165 rfl rfl (Nat.lt_of_lt_of_le (by decide) hn) (by omega) (by omega) rfl ?_
          rw [k5, hJw _ hgl]
          refine r_putI S fk_X5_28 dX5_find_166 rfl rfl (Nat.lt_of_lt_of_le (by decide) hn) (Or.inl rfl) (Or.inl rfl) ?_
          refine r_vret SR dX5_find_169 ⟨by decide, by decide⟩ ?_
          refine ⟨rfl, rfl, rfl, fun o a b c d e => ?_, ?_, ?_, ?_, ?_, ?_⟩
          · rw [up_o a, hK o a e]; exact hJ o a b c d e
          · rw [up_o (by decide), k5]; exact j50
          · intro i i0 i1
            rw [up_o (by decide), hK 107 (by decide) (by decide)]
            exact hrJ i i0 i1
          · rw [up_i (by decide), k4, eh]
          · rw [up_s, eh]
          · intro j hj
            rw [up_o (by decide)]
            exact k8 j (by omega)
        · exact absurd c68 (by omega)
      | succ q ih =>
        intro h K hh hK k4 k8 hg hst
        obtain ⟨L, eL⟩ : ∃ L, L = dif al (gnN st h) := ⟨_, rfl⟩
        have hLs : sub L al := by rw [eL]; exact sub_dif _ _
        have hLl := sub_le hLs
        have kd4 : K 104 h = D h := by rw [hK 104 (by decide) (by decide)]; exact j4 h (by omega)
        have hDh := hD h
        rw [← eL] at hst ⊢
        have hP : dul D (q + 1) h = D h :: dul D q (h + 1) := rfl
        rw [hP] at hst
        obtain ⟨S1, eS1⟩ : ∃ S1 : Nat, S1 = srvN D st h ||| (if phD D st h = 1 then 2 ^ h else 0) := ⟨_, rfl⟩
        have eS1' : srvN D st (h + 1) = S1 := eS1.symm
        -- given[h] is known
        have tail : ∀ a : Nat, sub a L → st.getD h 0 = a → (D h = 0 → a = 0) → cG w wl al (h + 1) (dul D q (h + 1)) (dif L a) = st.drop (h + 1) → k 99 [some (.ref (gb G + 103)), some (.int (jI (H : Int))), some (.ref (gb G + 51)), some (.int (jI (H : Int))), some (.int (jI (al : Int))), some (.int (jI (L : Int))), some (.int (jI (h : Int)))] [.int (jI (a : Int)), .int (jI (h : Int)), .ref (gb G + 108)] n K (rst bk dr pt) 0 0 := by
          intro a haL ea hd0 hst2
          have hal2 : a ≤ al := sub_le (haL.tr hLs)
          have eg1 : gnN st (h + 1) = gnN st h ||| a := by rw [← ea]; rfl
          have eL2 : dif L a = dif al (gnN st (h + 1)) := by rw [eL, eg1, dif_or]
          have hg1 : sub (gnN st (h + 1)) al := by rw [eg1]; exact sub_or hg (haL.tr hLs)
          have hph : phD D st h = if D h = 0 ∨ a ≠ 0 then 1 else 0 := by
            unfold phD
            rw [show (h : Int).toNat = h by omega, ea]
          obtain ⟨K1, eK1⟩ : ∃ K1, K1 = up K 108 h a := ⟨_, rfl⟩
          have oK1 : ∀ o, o ≠ 108 → K1 o = K o := fun o ho => by rw [eK1, up_o ho]
          have k18 : ∀ j : Nat, j < h + 1 → K1 108 (j : Int) = (st.getD j 0 : Int) := fun j hj => by
            rw [eK1]
            by_cases e : j = h
            · rw [e, up_s, ea]
            · rw [up_i (by omega)]; exact k8 j (by omega)
          have k18h : K1 108 h = a := by rw [eK1, up_s]
          have k14 : K1 104 h = D h := by rw [oK1 104 (by decide)]; exact kd4
          have k134 : K1 103 4 = (srvN D st h : Int) := by rw [oK1 103 (by decide)]; exact k4
          have nxt : ∀ (K2 : Iv), (∀ o, o ≠ 103 → K2 o = K1 o) → K2 103 4 = (S1 : Int) → k 147 [some (.ref (gb G + 103)), some (.int (jI (H : Int))), some (.ref (gb G + 51)), some (.int (jI (H : Int))), some (.int (jI (al : Int))), some (.int (jI (dif L a : Int))), some (.int (jI (h : Int)))] [] n K2 (rst bk dr pt) 0 0 := by
            intro K2 o2 k24
            refine r_iinc S dX5_find_147 rfl rfl rfl ?_
            refine r_goto S (tgt := 65) dX5_find_150 (by decide) ?_
            have Q := ih (h + 1) K2 (by omega) (fun o x y => by rw [o2 o x, oK1 o y]; exact hK o x y) (by rw [eS1']; exact k24) (fun j hj => by rw [o2 108 (by decide)]; exact k18 j hj) hg1 (by rw [← eL2]; exact hst2)
            rw [← eL2, show ((h + 1 : Nat) : Int) = (h : Int) + 1 by omega] at Q
            exact Q
          have h134 : (D h = 0 ∨ a ≠ 0) → k 134 [some (.ref (gb G + 103)), some (.int (jI (H : Int))), some (.ref (gb G + 51)), some (.int (jI (H : Int))), some (.int (jI (al : Int))), some (.int (jI (dif L a : Int))), some (.int (jI (h : Int)))] [] n K1 (rst bk dr pt) 0 0 := by
            intro hs
            have e1 : S1 = srvN D st h ||| 2 ^ h := by rw [eS1, hph, if_pos hs, if_pos rfl]
            refine r_aload_n S rfl dX5_find_134 ?_
            refine r_dup S rfl dX5_find_135 ?_
            refine r_getI S (v := K1 103 4) fk_X5_24 dX5_find_136 rfl rfl (Nat.lt_of_lt_of_le (by decide) hn) rfl ?_
            rw [k134]
            refine r_iconst S dX5_find_139 ?_
            refine r_iload S rfl dX5_find_140 ?_
            refine r_ishl S (v := ((2 ^ h : Nat) : Int)) (shl_h (by omega)) dX5_find_142 ?_
            refine r_ior S (v := (S1 : Int)) (by rw [e1]; exact or_n _ _) dX5_find_143 ?_
            refine r_putI S fk_X5_24 dX5_find_144 rfl rfl (Nat.lt_of_lt_of_le (by decide) hn) (Or.inl rfl) (Or.inl rfl) ?_
            exact nxt _ (fun o ho => up_o ho) (up_s _ _ _ _)
          have h147 : ¬ (D h = 0 ∨ a ≠ 0) → k 147 [some (.ref (gb G + 103)), some (.int (jI (H : Int))), some (.ref (gb G + 51)), some (.int (jI (H : Int))), some (.int (jI (al : Int))), some (.int (jI (dif L a : Int))), some (.int (jI (h : Int)))] [] n K1 (rst bk dr pt) 0 0 := by
            intro hs
            have e1 : S1 = srvN D st h := by rw [eS1, hph, if_neg hs, if_neg (by decide), Nat.or_zero]
            exact nxt K1 (fun _ _ => rfl) (by rw [e1]; exact k134)
          refine r_iast S dX5_find_99 rfl rfl (Nat.lt_of_lt_of_le (by decide) hn) (by omega) (by omega) ?_
          rw [← eK1]
          refine r_iload S rfl dX5_find_100 ?_
          refine r_aload_n S rfl dX5_find_102 ?_
          refine r_getR S (o' := 108) fk_X5_31 dX5_find_103 rfl rfl (Nat.lt_of_lt_of_le (by decide) hn) rfl ?_
          refine r_iload S rfl dX5_find_106 ?_
          refine r_iald S (v := K1 108 (h:Int)) dX5_find_108 rfl rfl (Nat.lt_of_lt_of_le (by decide) hn) (by omega) (by omega) rfl ?_
          rw [k18h]
          refine r_iconst S dX5_find_109 ?_
          refine r_ixor S (v := (jI (a : Int) ^^^ jI (-1)).toInt) (not_n _) dX5_find_110 ?_
          refine r_iand S (v := (dif L a : Int)) (dif_n L a (not_n _)) dX5_find_111 ?_
          refine r_istore S dX5_find_112 rfl rfl ?_
          refine r_aload_n S rfl dX5_find_114 ?_
          refine r_getR S (o' := 104) fk_X5_11 dX5_find_115 rfl rfl (Nat.lt_of_lt_of_le (by decide) hn) rfl ?_
          refine r_iload S rfl dX5_find_118 ?_
          refine r_iald S (v := K1 104 (h:Int)) dX5_find_120 rfl rfl (Nat.lt_of_lt_of_le (by decide) hn) (by omega) (by omega) rfl ?_
          rw [k14]
          refine r_if_eq S (tgt := 134) dX5_find_121 (by decide) (by omega) (fun c121 => ?_) (fun c121 => ?_)
          · exact h134 (by omega)
          · refine r_aload_n S rfl dX5_find_124 ?_
            refine r_getR S (o' := 108) fk_X5_31 dX5_find_125 rfl rfl (Nat.lt_of_lt_of_le (by decide) hn) rfl ?_
            refine r_iload S rfl dX5_find_128 ?_
            refine r_iald S (v := K1 108 (h:Int)) dX5_find_130 rfl rfl (Nat.lt_of_lt_of_le (by decide) hn) (by omega) (by omega) rfl ?_
            rw [k18h]
            refine r_if_eq S (tgt := 147) dX5_find_131 (by decide) (by omega) (fun c131 => ?_) (fun c131 => ?_)
            · exact h147 (by omega)
            · exact h134 (by omega)
        by_cases hd0 : D h = 0
        · have e := (if_pos hd0).symm.trans hst
          have hdc := drop_cons' st h 0 _ e.symm
          have T := tail 0 (by show 0 &&& L = 0; rw [Nat.zero_and]) hdc.1 (fun _ => rfl) (by rw [dif_0]; exact hdc.2.symm)
          refine r_iload S rfl dX5_find_65 ?_
          refine r_iload_n S rfl dX5_find_67 ?_
          refine r_icmp_ge S (tgt := 153) dX5_find_68 (by decide) (by omega) (by omega) (fun c68 => ?_) (fun c68 => ?_)
          · exact absurd c68 (by omega)
          · refine r_aload_n S rfl dX5_find_71 ?_
            refine r_getR S (o' := 108) fk_X5_31 dX5_find_72 rfl rfl (Nat.lt_of_lt_of_le (by decide) hn) rfl ?_
            refine r_iload S rfl dX5_find_75 ?_
            refine r_aload_n S rfl dX5_find_77 ?_
            refine r_getR S (o' := 104) fk_X5_11 dX5_find_78 rfl rfl (Nat.lt_of_lt_of_le (by decide) hn) rfl ?_
            refine r_iload S rfl dX5_find_81 ?_
            refine r_iald S (v := K 104 (h:Int)) dX5_find_83 rfl rfl (Nat.lt_of_lt_of_le (by decide) hn) (by omega) (by omega) rfl ?_
            rw [kd4]
            refine r_if_ne S (tgt := 91) dX5_find_84 (by decide) (by omega) (fun c84 => ?_) (fun c84 => ?_)
            · exact absurd hd0 c84
            · refine r_iconst S dX5_find_87 ?_
              refine r_goto S (tgt := 99) dX5_find_88 (by decide) ?_
              exact T
        · have e := (if_neg hd0).symm.trans hst
          obtain ⟨a, ea⟩ : ∃ a, a = (lob (fun a => key1 w h a + cB w wl al (h + 1) (dul D q (h + 1)) (dif L a)) (je w wl (D h) L) L (cB w wl al (h + 1) (dul D q (h + 1)) L)).2 := ⟨_, rfl⟩
          rw [← ea] at e
          have hdc := drop_cons' st h a _ e.symm
          have haL : sub a L := by
            rcases lob_2 (fun a => key1 w h a + cB w wl al (h + 1) (dul D q (h + 1)) (dif L a)) (je w wl (D h) L) L (cB w wl al (h + 1) (dul D q (h + 1)) L) with x | x
            · rw [ea, x.1]; show 0 &&& L = 0; rw [Nat.zero_and]
            · have := (je_iff.mp x.2.2.1).2.2
              rw [ea]
              exact this
          have T := tail a haL hdc.1 (fun q => absurd q hd0) hdc.2.symm
          have C := c_X5_leastOfBest G n K bk dr pt hn (h := h) (left := L) hW hal (by omega) hal1 (ds := dul D q (h + 1)) (by rw [dlen]; omega) kd4 hDh (fun s s1 s2 => by rw [hK 105 (by decide) (by decide), hK 106 (by decide) (by decide)]; exact hJws s s1 s2) (fun M hM => by rw [hK 107 (by decide) (by decide)]; exact hrow h q (by omega) M hM) hLl
          rw [← ea] at C
          refine r_iload S rfl dX5_find_65 ?_
          refine r_iload_n S rfl dX5_find_67 ?_
          refine r_icmp_ge S (tgt := 153) dX5_find_68 (by decide) (by omega) (by omega) (fun c68 => ?_) (fun c68 => ?_)
          · exact absurd c68 (by omega)
          · refine r_aload_n S rfl dX5_find_71 ?_
            refine r_getR S (o' := 108) fk_X5_31 dX5_find_72 rfl rfl (Nat.lt_of_lt_of_le (by decide) hn) rfl ?_
            refine r_iload S rfl dX5_find_75 ?_
            refine r_aload_n S rfl dX5_find_77 ?_
            refine r_getR S (o' := 104) fk_X5_11 dX5_find_78 rfl rfl (Nat.lt_of_lt_of_le (by decide) hn) rfl ?_
            refine r_iload S rfl dX5_find_81 ?_
            refine r_iald S (v := K 104 (h:Int)) dX5_find_83 rfl rfl (Nat.lt_of_lt_of_le (by decide) hn) (by omega) (by omega) rfl ?_
            rw [kd4]
            refine r_if_ne S (tgt := 91) dX5_find_84 (by decide) (by omega) (fun c84 => ?_) (fun c84 => ?_)
            · refine r_aload_n S rfl dX5_find_91 ?_
              refine r_iload S rfl dX5_find_92 ?_
              refine r_iload S rfl dX5_find_94 ?_
              refine r_callV S lk_X5_61 mk_X5_leastOfBest C rfl (Nat.lt_of_lt_of_le (by decide) hn) rfl rfl rfl (Nat.le_of_ble_eq_true rfl) ⟨by decide, by decide⟩ rfl ⟨by decide, by decide⟩ dX5_find_96 ?_
              rintro _ _ _ _ ⟨rfl, rfl, rfl, rfl⟩
              exact T
            · exact absurd c84 (fun q => hd0 (by omega))
    refine r_aload_n S rfl dX5_find_53 ?_
    refine r_iconst S dX5_find_54 ?_
    refine r_putI S fk_X5_24 dX5_find_55 rfl rfl (Nat.lt_of_lt_of_le (by decide) hn) (Or.inl rfl) (Or.inl rfl) ?_
    refine r_iload S rfl dX5_find_58 ?_
    refine r_istore S dX5_find_60 rfl rfl ?_
    refine r_iconst S dX5_find_62 ?_
    refine r_istore S dX5_find_63 rfl rfl ?_
    have Q := choose H 0 (up J 103 4 0) (by omega) (fun o a b => up_o a) (up_s _ _ _ _) (fun j hj => absurd hj (by omega)) (by show sub 0 al; exact hsub 0 (by omega)) (by show cG w wl al 0 (dul D H 0) (dif al 0) = st; rw [dif_0, ← est])
    rw [show dif al (gnN st 0) = al from dif_0 al] at Q
    exact Q
  have rank : ∀ (h : Nat) (K : Iv), h + 1 ≤ H → cpOnly I K → K 105 0 = 0 → rgK K → (∀ s : Nat, s ≤ al → K 105 (s : Int) = w s) → (∀ s : Nat, 1 ≤ s → s ≤ al → K 105 (s : Int) = w s ∧ K 106 (s : Int) = wl s ∧ rg (wl s)) → (∀ j m : Nat, h ≤ j → j + 1 + m = H → ∀ L : Nat, L ≤ al → K 107 (1024 * (j : Int) + L) = cB w wl al (j + 1) (dul D m (j + 1)) L) → k 34 [some (.ref (gb G + 103)), some (.int (jI (H : Int))), some (.ref (gb G + 51)), some (.int (jI (H : Int))), some (.int (jI (al : Int))), some (.int (jI (h : Int))), none] [] n K (rst bk dr pt) 0 0 := by
    intro h
    induction h with
    | zero =>
      intro K hh hK k50 hrK hKw hKws hrow
      refine r_iload S rfl dX5_find_34 ?_
      refine r_if_le S (tgt := 53) dX5_find_36 (by decide) (by decide) (fun c36 => ?_) (fun c36 => ?_)
      · exact sec K _ hK k50 hrK hKw hKws (fun j m e => hrow j m (Nat.zero_le _) e)
      · exact absurd c36 (by decide)
    | succ h ih =>
      intro K hh hK k50 hrK hKw hKws hrow
      obtain ⟨m, em⟩ : ∃ m, h + 1 + 1 + m = H := ⟨H - (h + 2), by omega⟩
      have C := c_X5_rankWith G n K bk dr pt hn (h := h + 1) (al := al) (d := D ((h + 1 : Nat) : Int)) (ds := dul D m (h + 1 + 1)) hW hal (by omega) (by omega) hal1 (by rw [dlen]; omega) (by rw [hK 104 (by decide) (by decide) (by decide) (by decide) (by decide)]; exact hdu (h + 1) (by omega)) (hD _) hKws hrK (hrow (h + 1) m (Nat.le_refl _) em)
      refine r_iload S rfl dX5_find_34 ?_
      refine r_if_le S (tgt := 53) dX5_find_36 (by decide) (by omega) (fun c36 => ?_) (fun c36 => ?_)
      · exact absurd c36 (by omega)
      · refine r_aload_n S rfl dX5_find_39 ?_
        refine r_iload S rfl dX5_find_40 ?_
        refine r_iload S rfl dX5_find_42 ?_
        refine r_callV S lk_X5_57 mk_X5_rankWith C rfl (Nat.lt_of_lt_of_le (by decide) hn) rfl rfl rfl (Nat.le_of_ble_eq_true rfl) ⟨by decide, by decide⟩ rfl ⟨by decide, by decide⟩ dX5_find_44 ?_
        rintro _ _ J _ ⟨rfl, rfl, rfl, p1, p2, p3, p4⟩
        refine r_iinc S dX5_find_47 rfl rfl rfl ?_
        refine r_goto S (tgt := 34) dX5_find_50 (by decide) ?_
        have Q := ih J (by omega) (fun o a b c d e => by rw [p1 o d]; exact hK o a b c d e) (by rw [p1 105 (by decide)]; exact k50) p3 (by rw [p1 105 (by decide)]; exact hKw) (by rw [p1 105 (by decide), p1 106 (by decide)]; exact hKws) (fun j m' hj e L hL => ?_)
        · rw [show (h : Int) = ((h + 1 : Nat) : Int) + (-1) by omega] at Q
          exact Q
        · by_cases ej : j = h
          · have := p4 L hL
            rw [show 1024 * ((h + 1 : Nat) : Int) - 1024 + L = 1024 * (j : Int) + L by omega] at this
            rw [this, ej, show m' = m + 1 by omega]
            rfl
          · rw [p2 _ (by omega)]
            exact hrow j m' (by omega) e L hL
  have CW := c_X5_weighSets G n I bk dr pt hn hF eF hws
  refine r_iload_n S rfl dX5_find_0 ?_
  refine r_bipush S (by decide +kernel) dX5_find_1 ?_
  refine r_mmin S lk_X5_38 (by omega) (by omega) (by decide) (Nat.le_of_ble_eq_true rfl) rfl ⟨by decide, by decide⟩ dX5_find_3 ?_
  rw [show min (H : Int) 8 = (H : Int) by omega]
  refine r_istore_n S dX5_find_6 rfl rfl ?_
  refine r_iconst S dX5_find_7 ?_
  refine r_aload_n S rfl dX5_find_8 ?_
  refine r_getI S (v := I 51 0) fk_X5_44 dX5_find_9 rfl rfl (Nat.lt_of_lt_of_le (by decide) hn) rfl ?_
  rw [eF]
  refine r_ishl S (v := ((2 ^ F : Nat) : Int)) (shl_F (F := (F : Int)) (by omega) (by omega)) dX5_find_12 ?_
  refine r_iconst S dX5_find_13 ?_
  refine r_isub S dX5_find_14 ?_
  rw [show ((2 ^ F : Nat) : Int) - 1 = (al : Int) by rw [hal]; omega]
  refine r_istore S dX5_find_15 rfl rfl ?_
  refine r_aload_n S rfl dX5_find_17 ?_
  refine r_aload_n S rfl dX5_find_18 ?_
  refine r_callV S lk_X5_49 mk_X5_weighSets CW rfl (Nat.lt_of_lt_of_le (by decide) hn) rfl rfl rfl (Nat.le_of_ble_eq_true rfl) ⟨by decide, by decide⟩ rfl ⟨by decide, by decide⟩ dX5_find_19 ?_
  rintro _ _ J _ ⟨rfl, rfl, rfl, a1, a2, a3⟩
  have j50 : J 105 0 = 0 := a2.trans h50
  have hJr : rgK J := by intro i i0 i1; rw [a1 107 (by decide) (by decide)]; exact hr i i0 i1
  have hJws : ∀ s : Nat, 1 ≤ s → s ≤ al → J 105 (s : Int) = w s ∧ J 106 (s : Int) = wl s ∧ rg (wl s) := fun s s1 s2 => by
    have := a3 s s1 (by rw [hal]; omega)
    rw [ew, ewl]
    rw [ewl] at hwlr
    exact ⟨this.1, this.2, hwlr s⟩
  have hJw : ∀ s : Nat, s ≤ al → J 105 (s : Int) = w s := fun s hs => by
    rcases Nat.eq_zero_or_pos s with e | e
    · rw [e, hW.1]; exact j50
    · exact (hJws s e hs).1
  refine r_aload_n S rfl dX5_find_22 ?_
  refine r_iload_n S rfl dX5_find_23 ?_
  refine r_iconst S dX5_find_24 ?_
  refine r_isub S dX5_find_25 ?_
  refine r_callV S lk_X5_53 mk_X5_rankNobodyBehind (c_X5_rankNobody G n J bk dr pt hn hH8 hJr) rfl (Nat.lt_of_lt_of_le (by decide) hn) rfl rfl rfl (Nat.le_of_ble_eq_true rfl) ⟨by decide, by decide⟩ rfl ⟨by decide, by decide⟩ dX5_find_26 ?_
  rintro _ _ K _ ⟨rfl, rfl, rfl, b1, b2', b3⟩
  have oK : cpOnly I K := fun o a b c d e => by rw [b1 o d]; exact a1 o b c
  have k5 := b1 105 (by decide)
  have k6 := b1 106 (by decide)
  refine r_iload_n S rfl dX5_find_29 ?_
  refine r_iconst S dX5_find_30 ?_
  refine r_isub S dX5_find_31 ?_
  refine r_istore S dX5_find_32 rfl rfl ?_
  rcases Nat.eq_zero_or_pos H with e | e
  · refine r_iload S rfl dX5_find_34 ?_
    refine r_if_le S (tgt := 53) dX5_find_36 (by decide) (by omega) (fun c36 => ?_) (fun c36 => absurd (show (H : Int) - 1 ≤ 0 by omega) (Int.not_le.mpr c36))
    exact sec K _ oK (by rw [k5]; exact j50) b2' (by rw [k5]; exact hJw) (by rw [k5, k6]; exact hJws) (fun j m e' => absurd e' (by omega))
  · have Q := rank (H - 1) K (by omega) oK (by rw [k5]; exact j50) b2' (by rw [k5]; exact hJw) (by rw [k5, k6]; exact hJws) (fun j m e1 e2 L hL => ?_)
    · rw [show ((H - 1 : Nat) : Int) = (H : Int) - 1 by omega] at Q
      exact Q
    · rw [show m = 0 by omega, show (j : Int) = (H : Int) - 1 by omega]
      exact b3 L e (by omega)
end
