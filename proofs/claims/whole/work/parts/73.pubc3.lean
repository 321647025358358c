/-! ===== what the class's calls come to: of, best, rules ===== -/
theorem nvLk_ge (l : List (Option Nat)) (k : Nat) (h : l.length ≤ k) : nvLk l (Int.ofNat k) = none := by
  show l.getD k none = none
  rw [List.getD_eq_getElem?_getD, List.getElem?_eq_none h]
  rfl
theorem rst_0 (bk dr : Nat) (pt : Option Nat) : rst bk dr pt 0 = nvLk [none, some 1, some 4, some 14, some 16, some 51, some 53, some 55, some bk, some dr, pt] := rfl
theorem rst_swap (bk dr : Nat) (pt : Option Nat) : upR (upR (rst bk dr pt) 0 8 (some dr)) 0 9 (some bk) = rst dr bk pt := by
  funext o i
  by_cases ho : o = 0
  · rw [ho]
    by_cases h9 : i = 9
    · rw [h9, upR_s]; rfl
    · rw [upR_n (Or.inr h9)]
      by_cases h8 : i = 8
      · rw [h8, upR_s]; rfl
      · rw [upR_n (Or.inr h8), rst_0, rst_0]
        cases i with
        | negSucc k => rfl
        | ofNat k =>
          match k with
          | 0 => rfl
          | 1 => rfl
          | 2 => rfl
          | 3 => rfl
          | 4 => rfl
          | 5 => rfl
          | 6 => rfl
          | 7 => rfl
          | 8 => exact absurd rfl h8
          | 9 => exact absurd rfl h9
          | 10 => rfl
          | k + 11 => rw [nvLk_ge _ _ (by simp), nvLk_ge _ _ (by simp)]
  · rw [upR_o ho, upR_o ho]
    match o with
    | 0 => exact absurd rfl ho
    | o + 1 => rfl
theorem rst_pt (bk dr : Nat) (p : Nat) : upR (rst bk dr none) 0 10 (some p) = rst bk dr (some p) := by
  funext o i
  by_cases ho : o = 0
  · rw [ho]
    by_cases h9 : i = 10
    · rw [h9, upR_s]; rfl
    · rw [upR_n (Or.inr h9), rst_0, rst_0]
      cases i with
      | negSucc k => rfl
      | ofNat k =>
        match k with
        | 0 => rfl
        | 1 => rfl
        | 2 => rfl
        | 3 => rfl
        | 4 => rfl
        | 5 => rfl
        | 6 => rfl
        | 7 => rfl
        | 8 => rfl
        | 9 => rfl
        | 10 => exact absurd rfl h9
        | k + 11 => rw [nvLk_ge _ _ (by simp), nvLk_ge _ _ (by simp)]
  · rw [upR_o ho]
    match o with
    | 0 => exact absurd rfl ho
    | o + 1 => rfl
section
variable (G : GE) (n : Nat) (I : Iv) (bk dr : Nat) (pt : Option Nat)
theorem c_X11_of (hB : BkOk n (rst bk dr pt) bk) {rs : RLs} (hbk : bookI I bk rs) {a w : Int} (ha : rg a) (hw : rg w) (hP : plP I) (hf : ∀ j, 0 ≤ j → j < 8 → rg (I 6 j) ∧ rg (I 7 j) ∧ rg (I 8 j) ∧ rg (I 9 j)) : Ct G yX11_of cX11_of 3 (some .int) 6 0 0 [.ref (gb G + 0), .int (jI a), .int (jI w)] n I (rst bk dr pt) (fun v n' I' ρ' => v = some (.int (jI (if 0 ≤ a ∧ a < I 4 0 then ofC I rs a w else -1))) ∧ n = n' ∧ rst bk dr pt = ρ' ∧ slk bk I I') := by
  obtain ⟨hn, hb, hb', k0⟩ := BkOk_nth hB
  refine Ct.of [some (.ref (gb G + 0)), some (.int (jI a)), some (.int (jI w))] (by decide) rfl rfl rfl ?_
  intro k SR
  have S : Sem G RX11 "of" cX11_of 3 (rmD 6 0 0) k := SR.sem
  have hc := hP.2.1
  by_cases hin : 0 ≤ a ∧ a < I 4 0
  · rw [if_pos hin] at SR
    have hf' := hf a hin.1 (by omega)
    have z0 : w = 0 → ofC I rs a w = I 5 a := fun h => by unfold ofC; rw [if_pos h]
    have z1 : w = 1 → ofC I rs a w = I 6 a := fun h => by unfold ofC; rw [if_neg (by omega), if_pos h]
    have z2 : w = 2 → ofC I rs a w = I 7 a := fun h => by unfold ofC; rw [if_neg (by omega), if_neg (by omega), if_pos h]
    have z3 : w = 3 → ofC I rs a w = I 8 a := fun h => by unfold ofC; rw [if_neg (by omega), if_neg (by omega), if_neg (by omega), if_pos h]
    have z4 : w = 4 → ofC I rs a w = I 9 a := fun h => by unfold ofC; rw [if_neg (by omega), if_neg (by omega), if_neg (by omega), if_neg (by omega), if_pos h]
    have z5 : w = 5 → ofC I rs a w = dueS (fxH I a) rs := fun h => by unfold ofC; rw [if_neg (by omega), if_neg (by omega), if_neg (by omega), if_neg (by omega), if_neg (by omega), if_pos h]
    have z6 : w = 6 → ofC I rs a w = ruleS (fxH I a) rs 0 := fun h => by unfold ofC; rw [if_neg (by omega), if_neg (by omega), if_neg (by omega), if_neg (by omega), if_neg (by omega), if_neg (by omega), if_pos h]
    have z7 : w = 7 → ofC I rs a w = wlC I a := fun h => by unfold ofC; rw [if_neg (by omega), if_neg (by omega), if_neg (by omega), if_neg (by omega), if_neg (by omega), if_neg (by omega), if_neg (by omega), if_pos h]
    have z8 : w = 8 → ofC I rs a w = b2 (lateP (drF (I 2) (I 3) (I 5) a) (wlC I a)) := fun h => by unfold ofC; rw [if_neg (by omega), if_neg (by omega), if_neg (by omega), if_neg (by omega), if_neg (by omega), if_neg (by omega), if_neg (by omega), if_neg (by omega), if_pos h]
    have z9 : w < 0 ∨ 8 < w → ofC I rs a w = -1 := fun h => by unfold ofC; rw [if_neg (by omega), if_neg (by omega), if_neg (by omega), if_neg (by omega), if_neg (by omega), if_neg (by omega), if_neg (by omega), if_neg (by omega), if_neg (by omega)]
    refine r_aload_n S rfl dX11_of_0 ?_
    refine r_getR S (o' := 4) fk_X11_23 dX11_of_1 rfl rfl (Nat.lt_of_lt_of_le (by decide) hn) rfl ?_
    refine r_iload_n S rfl dX11_of_4 ?_
    refine r_callV S lk_X11_107 mk_X4_has (c_X4_has G n I bk dr pt hn ha (by omega)) rfl (Nat.lt_of_lt_of_le (by decide) hn) rfl rfl rfl (Nat.le_of_ble_eq_true rfl) ⟨by decide, by decide⟩ rfl ⟨by decide, by decide⟩ dX11_of_5 ?_
    rintro _ _ _ _ ⟨rfl, rfl, rfl, rfl⟩
    refine r_ifb_ne S (tgt := 13) dX11_of_8 (by decide)  (fun c8 => ?_) (fun c8 => ?_)
    · refine r_iload_n S rfl dX11_of_13 ?_
      rcases (by omega : w = 0 ∨ w = 1 ∨ w = 2 ∨ w = 3 ∨ w = 4 ∨ w = 5 ∨ w = 6 ∨ w = 7 ∨ w = 8 ∨ (w < 0 ∨ 8 < w)) with c14 | c14 | c14 | c14 | c14 | c14 | c14 | c14 | c14 | c14
      · refine r_tableIn S 0 (tgt := 64) dX11_of_14 c14 (by decide) (by decide) (by decide) rfl (by decide) ?_
        refine r_aload_n S rfl dX11_of_64 ?_
        refine r_getR S (o' := 4) fk_X11_23 dX11_of_65 rfl rfl (Nat.lt_of_lt_of_le (by decide) hn) rfl ?_
        refine r_getR S (o' := 5) fk_X11_162 dX11_of_68 rfl rfl (Nat.lt_of_lt_of_le (by decide) hn) rfl ?_
        refine r_iload_n S rfl dX11_of_71 ?_
        refine r_iald S (v := I 5 a) dX11_of_72 rfl rfl (Nat.lt_of_lt_of_le (by decide) hn) (by omega) (by omega) rfl ?_
        refine r_iret SR dX11_of_73 ⟨by decide, by decide⟩ ?_
        exact ⟨by rw [z0 c14], rfl, rfl, slk.rf _ _⟩
      · refine r_tableIn S 1 (tgt := 74) dX11_of_14 c14 (by decide) (by decide) (by decide) rfl (by decide) ?_
        refine r_aload_n S rfl dX11_of_74 ?_
        refine r_getR S (o' := 4) fk_X11_23 dX11_of_75 rfl rfl (Nat.lt_of_lt_of_le (by decide) hn) rfl ?_
        refine r_getR S (o' := 6) fk_X11_166 dX11_of_78 rfl rfl (Nat.lt_of_lt_of_le (by decide) hn) rfl ?_
        refine r_iload_n S rfl dX11_of_81 ?_
        refine r_iald S (v := I 6 a) dX11_of_82 rfl rfl (Nat.lt_of_lt_of_le (by decide) hn) (by omega) (by omega) rfl ?_
        refine r_iret SR dX11_of_83 ⟨by decide, by decide⟩ ?_
        exact ⟨by rw [z1 c14], rfl, rfl, slk.rf _ _⟩
      · refine r_tableIn S 2 (tgt := 84) dX11_of_14 c14 (by decide) (by decide) (by decide) rfl (by decide) ?_
        refine r_aload_n S rfl dX11_of_84 ?_
        refine r_getR S (o' := 4) fk_X11_23 dX11_of_85 rfl rfl (Nat.lt_of_lt_of_le (by decide) hn) rfl ?_
        refine r_getR S (o' := 7) fk_X11_169 dX11_of_88 rfl rfl (Nat.lt_of_lt_of_le (by decide) hn) rfl ?_
        refine r_iload_n S rfl dX11_of_91 ?_
        refine r_iald S (v := I 7 a) dX11_of_92 rfl rfl (Nat.lt_of_lt_of_le (by decide) hn) (by omega) (by omega) rfl ?_
        refine r_iret SR dX11_of_93 ⟨by decide, by decide⟩ ?_
        exact ⟨by rw [z2 c14], rfl, rfl, slk.rf _ _⟩
      · refine r_tableIn S 3 (tgt := 94) dX11_of_14 c14 (by decide) (by decide) (by decide) rfl (by decide) ?_
        refine r_aload_n S rfl dX11_of_94 ?_
        refine r_getR S (o' := 4) fk_X11_23 dX11_of_95 rfl rfl (Nat.lt_of_lt_of_le (by decide) hn) rfl ?_
        refine r_getR S (o' := 8) fk_X11_172 dX11_of_98 rfl rfl (Nat.lt_of_lt_of_le (by decide) hn) rfl ?_
        refine r_iload_n S rfl dX11_of_101 ?_
        refine r_iald S (v := I 8 a) dX11_of_102 rfl rfl (Nat.lt_of_lt_of_le (by decide) hn) (by omega) (by omega) rfl ?_
        refine r_iret SR dX11_of_103 ⟨by decide, by decide⟩ ?_
        exact ⟨by rw [z3 c14], rfl, rfl, slk.rf _ _⟩
      · refine r_tableIn S 4 (tgt := 104) dX11_of_14 c14 (by decide) (by decide) (by decide) rfl (by decide) ?_
        refine r_aload_n S rfl dX11_of_104 ?_
        refine r_getR S (o' := 4) fk_X11_23 dX11_of_105 rfl rfl (Nat.lt_of_lt_of_le (by decide) hn) rfl ?_
        refine r_getR S (o' := 9) fk_X11_175 dX11_of_108 rfl rfl (Nat.lt_of_lt_of_le (by decide) hn) rfl ?_
        refine r_iload_n S rfl dX11_of_111 ?_
        refine r_iald S (v := I 9 a) dX11_of_112 rfl rfl (Nat.lt_of_lt_of_le (by decide) hn) (by omega) (by omega) rfl ?_
        refine r_iret SR dX11_of_113 ⟨by decide, by decide⟩ ?_
        exact ⟨by rw [z4 c14], rfl, rfl, slk.rf _ _⟩
      · refine r_tableIn S 5 (tgt := 114) dX11_of_14 c14 (by decide) (by decide) (by decide) rfl (by decide) ?_
        refine r_aload_n S rfl dX11_of_114 ?_
        refine r_iload_n S rfl dX11_of_115 ?_
        refine r_callV S lk_X11_178 mk_X11_dueOf (c_X11_dueOf G n I bk dr pt hn hB hbk (a := a) hin.1 hin.2 hc.2 hf'.1 hf'.2.1 hf'.2.2.1 hf'.2.2.2) rfl (Nat.lt_of_lt_of_le (by decide) hn) rfl rfl rfl (Nat.le_of_ble_eq_true rfl) ⟨by decide, by decide⟩ rfl ⟨by decide, by decide⟩ dX11_of_116 ?_
        rintro _ _ J _ ⟨rfl, rfl, rfl, hJ⟩
        refine r_iret SR dX11_of_119 ⟨by decide, by decide⟩ ?_
        exact ⟨by rw [z5 c14], rfl, rfl, slk.ev hb hJ⟩
      · refine r_tableIn S 6 (tgt := 120) dX11_of_14 c14 (by decide) (by decide) (by decide) rfl (by decide) ?_
        refine r_aload_n S rfl dX11_of_120 ?_
        refine r_getR S (o' := bk) fk_X11_65 dX11_of_121 rfl rfl (Nat.lt_of_lt_of_le (by decide) hn) rfl ?_
        refine r_aload_n S rfl dX11_of_124 ?_
        refine r_getR S (o' := 4) fk_X11_23 dX11_of_125 rfl rfl (Nat.lt_of_lt_of_le (by decide) hn) rfl ?_
        refine r_iload_n S rfl dX11_of_128 ?_
        refine r_callV S lk_X11_181 mk_X4_factsOf (c_X4_factsOf G n I bk dr pt hn (a := a) hin.1 hin.2 hc.2) rfl (Nat.lt_of_lt_of_le (by decide) hn) rfl rfl rfl (Nat.le_of_ble_eq_true rfl) ⟨by decide, by decide⟩ rfl ⟨by decide, by decide⟩ dX11_of_129 ?_
        rintro _ _ _ _ ⟨rfl, rfl, rfl, rfl⟩
        refine r_callV S lk_X11_185 mk_X6_ruleFor (c_X11_ruleOf G n I bk dr pt hn hB hbk (a := a) hf'.1 hf'.2.1 hf'.2.2.1 hf'.2.2.2) k0 (by omega) rfl rfl rfl (Nat.le_of_ble_eq_true rfl) ⟨by decide, by decide⟩ rfl ⟨by decide, by decide⟩ dX11_of_132 ?_
        rintro _ _ J _ ⟨rfl, rfl, rfl, hJ⟩
        refine r_iret SR dX11_of_135 ⟨by decide, by decide⟩ ?_
        exact ⟨by rw [z6 c14], rfl, rfl, slk.ev hb ((evOnly.fac hb I a).tr (evOnly.of hJ))⟩
      · refine r_tableIn S 7 (tgt := 136) dX11_of_14 c14 (by decide) (by decide) (by decide) rfl (by decide) ?_
        refine r_aload_n S rfl dX11_of_136 ?_
        refine r_getR S (o' := 14) fk_X11_30 dX11_of_137 rfl rfl (Nat.lt_of_lt_of_le (by decide) hn) rfl ?_
        refine r_aload_n S rfl dX11_of_140 ?_
        refine r_getR S (o' := 4) fk_X11_23 dX11_of_141 rfl rfl (Nat.lt_of_lt_of_le (by decide) hn) rfl ?_
        refine r_aload_n S rfl dX11_of_144 ?_
        refine r_getR S (o' := 1) fk_X11_16 dX11_of_145 rfl rfl (Nat.lt_of_lt_of_le (by decide) hn) rfl ?_
        refine r_aload_n S rfl dX11_of_148 ?_
        refine r_getI S (v := I 0 0) fk_X11_7 dX11_of_149 rfl rfl (Nat.lt_of_lt_of_le (by decide) hn) rfl ?_
        refine r_callV S lk_X11_155 mk_X0_plan (c_plan G n I bk dr pt hn hP) rfl (Nat.lt_of_lt_of_le (by decide) hn) rfl rfl rfl (Nat.le_of_ble_eq_true rfl) ⟨by decide, by decide⟩ rfl ⟨by decide, by decide⟩ dX11_of_152 ?_
        rintro _ _ J _ ⟨rfl, rfl, rfl, g1, g2, g3⟩
        have g3a := g3 a hin.1 hin.2
        refine r_aload_n S rfl dX11_of_155 ?_
        refine r_getR S (o' := 4) fk_X11_23 dX11_of_156 rfl rfl (Nat.lt_of_lt_of_le (by decide) hn) rfl ?_
        refine r_getR S (o' := 10) fk_X11_189 dX11_of_159 rfl rfl (Nat.lt_of_lt_of_le (by decide) hn) rfl ?_
        refine r_iload_n S rfl dX11_of_162 ?_
        refine r_iald S (v := J 10 a) dX11_of_163 rfl rfl (Nat.lt_of_lt_of_le (by decide) hn) (by omega) (by omega) rfl ?_
        rw [g3a]
        refine r_iret SR dX11_of_164 ⟨by decide, by decide⟩ ?_
        exact ⟨by rw [z7 c14], rfl, rfl, slk.pl hb g1 g3⟩
      · refine r_tableIn S 8 (tgt := 165) dX11_of_14 c14 (by decide) (by decide) (by decide) rfl (by decide) ?_
        refine r_aload_n S rfl dX11_of_165 ?_
        refine r_getR S (o' := 14) fk_X11_30 dX11_of_166 rfl rfl (Nat.lt_of_lt_of_le (by decide) hn) rfl ?_
        refine r_aload_n S rfl dX11_of_169 ?_
        refine r_getR S (o' := 4) fk_X11_23 dX11_of_170 rfl rfl (Nat.lt_of_lt_of_le (by decide) hn) rfl ?_
        refine r_aload_n S rfl dX11_of_173 ?_
        refine r_getR S (o' := 1) fk_X11_16 dX11_of_174 rfl rfl (Nat.lt_of_lt_of_le (by decide) hn) rfl ?_
        refine r_aload_n S rfl dX11_of_177 ?_
        refine r_getI S (v := I 0 0) fk_X11_7 dX11_of_178 rfl rfl (Nat.lt_of_lt_of_le (by decide) hn) rfl ?_
        refine r_callV S lk_X11_155 mk_X0_plan (c_plan G n I bk dr pt hn hP) rfl (Nat.lt_of_lt_of_le (by decide) hn) rfl rfl rfl (Nat.le_of_ble_eq_true rfl) ⟨by decide, by decide⟩ rfl ⟨by decide, by decide⟩ dX11_of_181 ?_
        rintro _ _ J _ ⟨rfl, rfl, rfl, g1, g2, g3⟩
        have g3a := g3 a hin.1 hin.2
        have g2a := g2 a hin.1 hin.2
        have e4 : J 4 0 = I 4 0 := by rw [g1 4 (by decide) (by decide)]
        have CL := c_X4_isLate G n J bk dr pt hn (a := a) ha (by omega) (by omega) (fun j p q => by rw [g3 j p (by omega)]; have := wlC_rg hP p (show j < I 4 0 by omega); omega) (fun j p q => by rw [g2 j p (by omega)]; have := fm_rg (I 2) (I 3 (I 5 j)); show rg (fm (I 2) (I 3 (I 5 j))); omega)
        have eL : b2 ((0 ≤ a ∧ a < J 4 0) ∧ J 12 a < 36 ∧ (J 10 a = -1 ∨ J 12 a ≤ J 10 a)) = b2 (lateP (drF (I 2) (I 3) (I 5) a) (wlC I a)) := by
          rw [e4, g2a, g3a]
          by_cases q : lateP (drF (I 2) (I 3) (I 5) a) (wlC I a)
          · rw [b2_t q, b2_t ⟨hin, q⟩]
          · rw [b2_f q, b2_f (fun x => q x.2)]
        rw [eL] at CL
        refine r_aload_n S rfl dX11_of_184 ?_
        refine r_getR S (o' := 4) fk_X11_23 dX11_of_185 rfl rfl (Nat.lt_of_lt_of_le (by decide) hn) rfl ?_
        refine r_iload_n S rfl dX11_of_188 ?_
        refine r_callV S lk_X11_192 mk_X4_isLate CL rfl (Nat.lt_of_lt_of_le (by decide) hn) rfl rfl rfl (Nat.le_of_ble_eq_true rfl) ⟨by decide, by decide⟩ rfl ⟨by decide, by decide⟩ dX11_of_189 ?_
        rintro _ _ _ _ ⟨rfl, rfl, rfl, rfl⟩
        refine r_ifb_eq S (tgt := 199) dX11_of_192 (by decide)  (fun c192 => ?_) (fun c192 => ?_)
        · refine r_iconst S dX11_of_199 ?_
          refine r_iret SR dX11_of_200 ⟨by decide, by decide⟩ ?_
          first | exact ⟨by rw [z8 c14, b2_t c192], rfl, rfl, slk.pl hb g1 g3⟩ | exact ⟨by rw [z8 c14, b2_f c192], rfl, rfl, slk.pl hb g1 g3⟩
        · refine r_iconst S dX11_of_195 ?_
          refine r_goto S (tgt := 200) dX11_of_196 (by decide) ?_
          refine r_iret SR dX11_of_200 ⟨by decide, by decide⟩ ?_
          first | exact ⟨by rw [z8 c14, b2_t c192], rfl, rfl, slk.pl hb g1 g3⟩ | exact ⟨by rw [z8 c14, b2_f c192], rfl, rfl, slk.pl hb g1 g3⟩
      · refine r_tableOut S (tgt := 201) dX11_of_14 hw c14 (by decide) ?_
        refine r_iconst S dX11_of_201 ?_
        refine r_iret SR dX11_of_202 ⟨by decide, by decide⟩ ?_
        exact ⟨by rw [z9 c14], rfl, rfl, slk.rf _ _⟩
    · exact absurd hin c8
  · rw [if_neg hin] at SR
    refine r_aload_n S rfl dX11_of_0 ?_
    refine r_getR S (o' := 4) fk_X11_23 dX11_of_1 rfl rfl (Nat.lt_of_lt_of_le (by decide) hn) rfl ?_
    refine r_iload_n S rfl dX11_of_4 ?_
    refine r_callV S lk_X11_107 mk_X4_has (c_X4_has G n I bk dr pt hn ha (by omega)) rfl (Nat.lt_of_lt_of_le (by decide) hn) rfl rfl rfl (Nat.le_of_ble_eq_true rfl) ⟨by decide, by decide⟩ rfl ⟨by decide, by decide⟩ dX11_of_5 ?_
    rintro _ _ _ _ ⟨rfl, rfl, rfl, rfl⟩
    refine r_ifb_ne S (tgt := 13) dX11_of_8 (by decide)  (fun c8 => ?_) (fun c8 => ?_)
    · exact absurd c8 hin
    · refine r_iconst S dX11_of_11 ?_
      refine r_iret SR dX11_of_12 ⟨by decide, by decide⟩ ?_
      exact ⟨rfl, rfl, rfl, slk.rf _ _⟩
def beP (I : Iv) (w : Int) : Prop := I 4 0 ≤ I 16 0 ∧ (w = 0 ∨ (10 ≤ w ∧ w - 10 < I 4 0))
theorem c_X11_best (hn : 103 ≤ n) {NR TI : Int → Int → Int} {H Z : Nat} {w : Int} (hw : rg w) (eH : I 4 0 = H) (hH : H ≤ 8) (E : waS NR TI Z I) (hT : ∀ t : Int, 0 ≤ t → t < 8 → I 39 t = 0) (hPu : ∀ i : Int, 0 ≤ i → i < 64 → I 41 i = 0) (hk : -1 ≤ I 16 7 ∧ I 16 7 ≤ 8) (hkn : I 16 7 = H → cb I H (bestW NR TI H Z)) : Ct G yX11_best cX11_best 3 (some .int) 22 0 0 [.ref (gb G + 0), .int (jI w)] n I (rst bk dr pt) (fun v n' I' ρ' => n = n' ∧ rst bk dr pt = ρ' ∧ ((beP I w ∧ v = some (.int (jI (if w = 0 then I' 16 5 else I' 37 (w - 10)))) ∧ wfOnly I I' ∧ I' 16 7 = H ∧ cb I' H (bestW NR TI H Z)) ∨ (¬ beP I w ∧ v = some (.int (jI (-1))) ∧ I = I'))) := by
  refine Ct.of [some (.ref (gb G + 0)), some (.int (jI w)), none] (by decide) rfl rfl rfl ?_
  intro k SR
  have S : Sem G RX11 "best" cX11_best 3 (rmD 22 0 0) k := SR.sem
  have hZ := E.1.1
  have eZ := E.1.2
  have at26 : ∀ z : Int, (z = 0 ∧ ¬ (10 ≤ w ∧ 0 ≤ w - 10 ∧ w - 10 < I 4 0)) ∨ (z = 1 ∧ (10 ≤ w ∧ 0 ≤ w - 10 ∧ w - 10 < I 4 0)) → k 26 [some (.ref (gb G + 0)), some (.int (jI w)), some (.int (jI z))] [] n I (rst bk dr pt) 0 0 := by
    intro z hz
    have at53 : beP I w → k 53 [some (.ref (gb G + 0)), some (.int (jI w)), some (.int (jI z))] [] n I (rst bk dr pt) 0 0 := by
      intro hb
      have hb' := hb
      unfold beP at hb'
      have C := c_wfind G n I bk dr pt hn (H := H) E (by omega) hT hPu hk hkn
      rw [← eH] at C
      refine r_aload_n S rfl dX11_best_53 ?_
      refine r_getR S (o' := 16) fk_X11_37 dX11_best_54 rfl rfl (Nat.lt_of_lt_of_le (by decide) hn) rfl ?_
      refine r_aload_n S rfl dX11_best_57 ?_
      refine r_getR S (o' := 4) fk_X11_23 dX11_best_58 rfl rfl (Nat.lt_of_lt_of_le (by decide) hn) rfl ?_
      refine r_getI S (v := I 4 0) fk_X11_146 dX11_best_61 rfl rfl (Nat.lt_of_lt_of_le (by decide) hn) rfl ?_
      refine r_callV S lk_X11_195 mk_X10_find C rfl (Nat.lt_of_lt_of_le (by decide) hn) rfl rfl rfl (Nat.le_of_ble_eq_true rfl) (by unfold roomy rmD; simp only; omega) rfl ⟨by decide, by decide⟩ dX11_best_64 ?_
      rintro _ _ J _ ⟨rfl, rfl, rfl, g1, g2, g3⟩
      refine r_iload_n S rfl dX11_best_67 ?_
      refine r_if_eq S (tgt := 86) dX11_best_68 (by decide) (by omega) (fun c68 => ?_) (fun c68 => ?_)
      · refine r_aload_n S rfl dX11_best_86 ?_
        refine r_getR S (o' := 16) fk_X11_37 dX11_best_87 rfl rfl (Nat.lt_of_lt_of_le (by decide) hn) rfl ?_
        refine r_getI S (v := J 16 5) fk_X11_201 dX11_best_90 rfl rfl (Nat.lt_of_lt_of_le (by decide) hn) rfl ?_
        refine r_iret SR dX11_best_93 ⟨by decide, by decide⟩ ?_
        first | exact ⟨rfl, rfl, Or.inl ⟨hb, by rw [if_neg (by omega)], g1, g2.trans eH, g3⟩⟩ | exact ⟨rfl, rfl, Or.inl ⟨hb, by rw [if_pos (by omega)], g1, g2.trans eH, g3⟩⟩
      · refine r_aload_n S rfl dX11_best_71 ?_
        refine r_getR S (o' := 16) fk_X11_37 dX11_best_72 rfl rfl (Nat.lt_of_lt_of_le (by decide) hn) rfl ?_
        refine r_getR S (o' := 37) fk_X11_198 dX11_best_75 rfl rfl (Nat.lt_of_lt_of_le (by decide) hn) rfl ?_
        refine r_iload_n S rfl dX11_best_78 ?_
        refine r_bipush S (by decide +kernel) dX11_best_79 ?_
        refine r_isub S dX11_best_81 ?_
        refine r_iald S (v := J 37 (w - 10)) dX11_best_82 rfl rfl (Nat.lt_of_lt_of_le (by decide) hn) (by omega) (by omega) rfl ?_
        refine r_goto S (tgt := 93) dX11_best_83 (by decide) ?_
        refine r_iret SR dX11_best_93 ⟨by decide, by decide⟩ ?_
        first | exact ⟨rfl, rfl, Or.inl ⟨hb, by rw [if_neg (by omega)], g1, g2.trans eH, g3⟩⟩ | exact ⟨rfl, rfl, Or.inl ⟨hb, by rw [if_pos (by omega)], g1, g2.trans eH, g3⟩⟩
    refine r_aload_n S rfl dX11_best_26 ?_
    refine r_getR S (o' := 4) fk_X11_23 dX11_best_27 rfl rfl (Nat.lt_of_lt_of_le (by decide) hn) rfl ?_
    refine r_getI S (v := I 4 0) fk_X11_146 dX11_best_30 rfl rfl (Nat.lt_of_lt_of_le (by decide) hn) rfl ?_
    refine r_aload_n S rfl dX11_best_33 ?_
    refine r_getR S (o' := 16) fk_X11_37 dX11_best_34 rfl rfl (Nat.lt_of_lt_of_le (by decide) hn) rfl ?_
    refine r_getI S (v := I 16 0) fk_X11_147 dX11_best_37 rfl rfl (Nat.lt_of_lt_of_le (by decide) hn) rfl ?_
    refine r_icmp_gt S (tgt := 51) dX11_best_40 (by decide) (by omega) (by omega) (fun c40 => ?_) (fun c40 => ?_)
    · refine r_iconst S dX11_best_51 ?_
      refine r_iret SR dX11_best_52 ⟨by decide, by decide⟩ ?_
      exact ⟨rfl, rfl, Or.inr ⟨by unfold beP; omega, rfl, rfl⟩⟩
    · refine r_iload_n S rfl dX11_best_43 ?_
      refine r_if_eq S (tgt := 53) dX11_best_44 (by decide) (by omega) (fun c44 => ?_) (fun c44 => ?_)
      · exact at53 (by unfold beP; omega)
      · refine r_iload_n S rfl dX11_best_47 ?_
        refine r_if_ne S (tgt := 53) dX11_best_48 (by decide) (by omega) (fun c48 => ?_) (fun c48 => ?_)
        · exact at53 (by unfold beP; omega)
        · refine r_iconst S dX11_best_51 ?_
          refine r_iret SR dX11_best_52 ⟨by decide, by decide⟩ ?_
          exact ⟨rfl, rfl, Or.inr ⟨by unfold beP; omega, rfl, rfl⟩⟩
  refine r_iload_n S rfl dX11_best_0 ?_
  refine r_bipush S (by decide +kernel) dX11_best_1 ?_
  refine r_icmp_lt S (tgt := 24) dX11_best_3 (by decide) (by omega) (by omega) (fun c3 => ?_) (fun c3 => ?_)
  · refine r_iconst S dX11_best_24 ?_
    refine r_istore_n S dX11_best_25 rfl rfl ?_
    exact at26 _ (by omega)
  · refine r_aload_n S rfl dX11_best_6 ?_
    refine r_getR S (o' := 4) fk_X11_23 dX11_best_7 rfl rfl (Nat.lt_of_lt_of_le (by decide) hn) rfl ?_
    refine r_iload_n S rfl dX11_best_10 ?_
    refine r_bipush S (by decide +kernel) dX11_best_11 ?_
    refine r_isub S dX11_best_13 ?_
    refine r_callV S lk_X11_107 mk_X4_has (c_X4_has G n I bk dr pt hn (a := w - 10) (by omega) (by omega)) rfl (Nat.lt_of_lt_of_le (by decide) hn) rfl rfl rfl (Nat.le_of_ble_eq_true rfl) ⟨by decide, by decide⟩ rfl ⟨by decide, by decide⟩ dX11_best_14 ?_
    rintro _ _ _ _ ⟨rfl, rfl, rfl, rfl⟩
    refine r_ifb_eq S (tgt := 24) dX11_best_17 (by decide)  (fun c17 => ?_) (fun c17 => ?_)
    · refine r_iconst S dX11_best_24 ?_
      refine r_istore_n S dX11_best_25 rfl rfl ?_
      exact at26 _ (by omega)
    · refine r_iconst S dX11_best_20 ?_
      refine r_goto S (tgt := 25) dX11_best_21 (by decide) ?_
      refine r_istore_n S dX11_best_25 rfl rfl ?_
      exact at26 _ (by omega)
def ruO (dr : Nat) (I I' : Iv) : Prop := (∀ o, o ≠ 0 → o ≠ 53 → o < 55 ∨ (59 < o ∧ o < dr) ∨ dr + 4 < o → I' o = I o) ∧ (∀ j, j ≠ 11 → I' 0 j = I 0 j) ∧ I' 53 0 = 0
def ruC (res : (Int × Int) ⊕ RLs) (bk dr : Nat) (pt : Option Nat) (I : Iv) (v : Option Value) (I' : Iv) (ρ' : Rv) : Prop := match res with
  | .inl e => v = some (.int (jI (-1))) ∧ rst bk dr pt = ρ' ∧ I' 55 0 = e.1 ∧ I' 55 1 = e.2 ∧ I' 0 11 = I 0 11
  | .inr rs => v = some (.int (jI (rs.length : Int))) ∧ rst dr bk pt = ρ' ∧ I' 55 0 = 0 ∧ I' 55 1 = -1 ∧ bookI I' dr rs ∧ I' 0 11 = 0
theorem c_X11_rules (hB : BkOk n (rst bk dr pt) dr) (h0 : 0 ≤ I 53 0) (h1 : I 53 0 ≤ 400) (hby : ∀ j, 0 ≤ j → j < I 53 0 → 0 ≤ I 54 j ∧ I 54 j ≤ 255) : Ct G yX11_rules cX11_rules 3 (some .int) 9 0 0 [.ref (gb G + 0)] n I (rst bk dr pt) (fun v n' I' ρ' => n = n' ∧ ruO dr I I' ∧ ruC (rulesP 500 [] (toks (I 54) (I 53 0) 0)) bk dr pt I v I' ρ') := by
  obtain ⟨hn, hb, hb', k0⟩ := BkOk_nth hB
  refine Ct.of [some (.ref (gb G + 0)), none, none] (by decide) rfl rfl rfl ?_
  intro k SR
  have S : Sem G RX11 "rules" cX11_rules 3 (rmD 9 0 0) k := SR.sem
  obtain ⟨R, eR⟩ : ∃ R, R = rulesP 500 [] (toks (I 54) (I 53 0) 0) := ⟨_, rfl⟩
  have C := c_read G n I bk dr pt hB h0 h1 hby
  rw [← eR] at SR C
  have at25 : ∀ (J : Iv) (z : Int), ruO dr I J → J 0 11 = I 0 11 → bRul dr R z J → k 25 [some (.ref (gb G + 0)), some (.int (jI z)), none] [] n J (rst bk dr pt) 0 0 := by
    intro J z hJ hJ1 hz
    cases R with
    | inl e =>
      have hz' : z = 0 ∧ J 55 0 = e.1 ∧ J 55 1 = e.2 := hz
      refine r_iload_n S rfl dX11_rules_25 ?_
      refine r_if_ne S (tgt := 31) dX11_rules_26 (by decide) (by omega) (fun c26 => ?_) (fun c26 => ?_)
      · exact absurd hz'.1 c26
      · refine r_iconst S dX11_rules_29 ?_
        refine r_iret SR dX11_rules_30 ⟨by decide, by decide⟩ ?_
        exact ⟨rfl, hJ, rfl, rfl, hz'.2.1, hz'.2.2, hJ1⟩
    | inr rs =>
      have hz' : z = 1 ∧ J 55 0 = 0 ∧ J 55 1 = -1 ∧ bookI J dr rs := hz
      obtain ⟨K, eK⟩ : ∃ K, K = up J 0 11 0 := ⟨_, rfl⟩
      have oK : ∀ o, o ≠ 0 → K o = J o := fun o ho => by rw [eK, up_o ho]
      have kd0 : K dr 0 = rs.length := by rw [oK dr (by omega)]; exact hz'.2.2.2.1
      have at54 : k 54 [some (.ref (gb G + 0)), some (.int (jI z)), some (.ref (gb G + bk))] [] n K (rst dr bk pt) 0 0 := by
        refine r_aload_n S rfl dX11_rules_54 ?_
        refine r_getR S (o' := dr) fk_X11_65 dX11_rules_55 rfl rfl (Nat.lt_of_lt_of_le (by decide) hn) rfl ?_
        refine r_getI S (v := K dr 0) fk_X11_137 dX11_rules_58 k0 rfl (by omega) rfl ?_
        rw [kd0]
        refine r_iret SR dX11_rules_61 ⟨by decide, by decide⟩ ?_
        refine ⟨rfl, ⟨fun o a b c => by rw [oK o a]; exact hJ.1 o a b c, fun j hj => by rw [eK, up_i hj]; exact hJ.2.1 j hj, by rw [oK 53 (by decide)]; exact hJ.2.2⟩, rfl, rfl, by rw [oK 55 (by decide)]; exact hz'.2.1, by rw [oK 55 (by decide)]; exact hz'.2.2.1, ?_, by rw [eK, up_s]⟩
        have hbk := hz'.2.2.2
        unfold bookI at hbk ⊢
        rw [oK dr (by omega), oK (dr + 1) (by omega), oK (dr + 2) (by omega), oK (dr + 3) (by omega), oK (dr + 4) (by omega)]
        exact hbk
      refine r_iload_n S rfl dX11_rules_25 ?_
      refine r_if_ne S (tgt := 31) dX11_rules_26 (by decide) (by omega) (fun c26 => ?_) (fun c26 => ?_)
      · refine r_aload_n S rfl dX11_rules_31 ?_
        refine r_getR S (o' := bk) fk_X11_65 dX11_rules_32 rfl rfl (Nat.lt_of_lt_of_le (by decide) hn) rfl ?_
        refine r_astore_n S dX11_rules_35 rfl rfl ?_
        refine r_aload_n S rfl dX11_rules_36 ?_
        refine r_aload_n S rfl dX11_rules_37 ?_
        refine r_getR S (o' := dr) fk_X11_69 dX11_rules_38 rfl rfl (Nat.lt_of_lt_of_le (by decide) hn) rfl ?_
        refine r_putR S fk_X11_65 dX11_rules_41 rfl rfl (Nat.lt_of_lt_of_le (by decide) hn) (Or.inl rfl) ?_
        refine r_aload_n S rfl dX11_rules_44 ?_
        refine r_aload_n S rfl dX11_rules_45 ?_
        refine r_putR S fk_X11_69 dX11_rules_46 rfl rfl (Nat.lt_of_lt_of_le (by decide) hn) (Or.inl rfl) ?_
        rw [rst_swap]
        refine r_aload_n S rfl dX11_rules_49 ?_
        refine r_iconst S dX11_rules_50 ?_
        refine r_putI S fk_X11_76 dX11_rules_51 rfl rfl (Nat.lt_of_lt_of_le (by decide) hn) (Or.inl rfl) (Or.inr ⟨rfl, (by decide)⟩) ?_
        rw [← eK]
        exact at54
      · exact absurd c26 (fun q => absurd q (by omega))
  refine r_aload_n S rfl dX11_rules_0 ?_
  refine r_getR S (o' := 55) fk_X11_58 dX11_rules_1 rfl rfl (Nat.lt_of_lt_of_le (by decide) hn) rfl ?_
  refine r_aload_n S rfl dX11_rules_4 ?_
  refine r_getR S (o' := 53) fk_X11_51 dX11_rules_5 rfl rfl (Nat.lt_of_lt_of_le (by decide) hn) rfl ?_
  refine r_aload_n S rfl dX11_rules_8 ?_
  refine r_getR S (o' := dr) fk_X11_69 dX11_rules_9 rfl rfl (Nat.lt_of_lt_of_le (by decide) hn) rfl ?_
  refine r_callV S lk_X11_133 mk_X7_read C rfl (Nat.lt_of_lt_of_le (by decide) hn) rfl rfl rfl (Nat.le_of_ble_eq_true rfl) ⟨by decide, by decide⟩ rfl ⟨by decide, by decide⟩ dX11_rules_12 ?_
  rintro _ _ J _ ⟨rfl, rfl, hJ, z, rfl, hz⟩
  have j53 : J 53 = I 53 := hJ.1 53 (by omega)
  have e530 : J 53 0 = I 53 0 := by rw [j53]
  have CC := c_X8_cutTo G n J bk dr pt hn (a := 0) (by decide) (by omega)
  rw [if_pos (show (0 : Int) ≤ 0 ∧ 0 ≤ J 53 0 by omega)] at CC
  refine r_istore_n S dX11_rules_15 rfl rfl ?_
  refine r_aload_n S rfl dX11_rules_16 ?_
  refine r_getR S (o' := 53) fk_X11_51 dX11_rules_17 rfl rfl (Nat.lt_of_lt_of_le (by decide) hn) rfl ?_
  refine r_iconst S dX11_rules_20 ?_
  refine r_callV S lk_X11_130 mk_X8_cutTo CC rfl (Nat.lt_of_lt_of_le (by decide) hn) rfl rfl rfl (Nat.le_of_ble_eq_true rfl) ⟨by decide, by decide⟩ rfl ⟨by decide, by decide⟩ dX11_rules_21 ?_
  rintro _ _ _ _ ⟨rfl, rfl, rfl, rfl⟩
  refine r_pop S rfl dX11_rules_24 ?_
  refine at25 (up J 53 0 0) z ⟨fun o a b c => by rw [up_o b]; exact hJ.1 o (by omega), fun j hj => by rw [up_o (by decide), hJ.1 0 (by omega)], up_s _ _ _ _⟩ (by rw [up_o (by decide), hJ.1 0 (by omega)]) ?_
  cases R with
  | inl e => exact hz
  | inr rs =>
    have hz' : z = 1 ∧ J 55 0 = 0 ∧ J 55 1 = -1 ∧ bookI J dr rs := hz
    refine ⟨hz'.1, hz'.2.1, hz'.2.2.1, ?_⟩
    have hbk := hz'.2.2.2
    unfold bookI at hbk ⊢
    rw [up_o (by omega), up_o (by omega), up_o (by omega), up_o (by omega), up_o (by omega)]
    exact hbk
end
