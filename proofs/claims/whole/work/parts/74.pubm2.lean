/-! ===== what the reference's calls come to (the larger ones) ===== -/
abbrev wlM (I : Iv) : Int → Int := plF (drF (I 73) (I 75) (I 76)) (I 72 1).toNat (I 74) (36 - I 72 0).toNat (I 72 0) (I 80)
def plM (I : Iv) : Prop := (0 ≤ I 72 0 ∧ I 72 0 ≤ 35) ∧ (0 ≤ I 72 1 ∧ I 72 1 ≤ 8) ∧ (∀ j, 0 ≤ j → j < 36 → rg (I 73 j)) ∧ (∀ j, 0 ≤ j → j < 4 → rg (I 75 j)) ∧ (∀ j, 0 ≤ j → j < I 72 1 → 0 ≤ I 76 j ∧ I 76 j ≤ 3) ∧ (∀ j, 0 ≤ j → j < I 72 1 → -1 ≤ I 80 j ∧ I 80 j ≤ 35) ∧ ∀ j, 0 ≤ j → j < 36 → 0 ≤ I 74 j ∧ I 74 j ≤ 8
theorem wlM_rg {I : Iv} (h : plM I) {j : Int} (j0 : 0 ≤ j) (j1 : j < I 72 1) : -1 ≤ wlM I j ∧ wlM I j ≤ 35 := by
  have ht := h.1
  rcases plF_range (d := drF (I 73) (I 75) (I 76)) (bld := I 74) (c := (I 72 1).toNat) j (36 - I 72 0).toNat (I 72 0) (I 80) with e | e
  · have e' : wlM I j = I 80 j := e
    rw [e']
    exact h.2.2.2.2.2.1 j j0 j1
  · have e' : I 72 0 ≤ wlM I j ∧ wlM I j < I 72 0 + ((36 - I 72 0).toNat : Nat) := e
    omega
def lkM (I : Iv) (w : Int) : Int := if w = 0 then I 72 0 else if w = 1 then I 72 1 else if w = 2 then I 72 2 else if w = 3 then I 72 3 else if w = 4 then I 72 17 else if w = 5 then sumF (fun h => b2 (¬ I 80 h = -1)) (I 72 1).toNat else if w = 6 then sumF (fun h => b2 (lateP (drF (I 73) (I 75) (I 76) h) (wlM I h))) (I 72 1).toNat else -1
def ofM (I : Iv) (rs : RLs) (h w : Int) : Int := if w = 0 then I 76 h else if w = 1 then I 77 h else if w = 2 then I 78 h else if w = 3 then I 79 h else if w = 4 then I 85 h else if w = 5 then dueS (fxM I h) rs else if w = 6 then ruleS (fxM I h) rs 0 else if w = 7 then wlM I h else if w = 8 then b2 (lateP (drF (I 73) (I 75) (I 76) h) (wlM I h)) else -1
def moM (I I' : Iv) (a : Int) : Prop := (∀ o, o ≠ 72 → o ≠ 80 → o ≠ 94 → I' o = I o) ∧ (∀ j, j ≠ 0 → I' 72 j = I 72 j) ∧ I' 72 0 = I 72 0 + a ∧ (∀ h, 0 ≤ h → h < I 72 1 → I' 80 h = if ¬ wlM I h = -1 ∧ wlM I h < I 72 0 + a then wlM I h else I 80 h) ∧ ∀ h, I 72 1 ≤ h → I' 80 h = I 80 h
def ptS (w : Nat → Int) (D : Int → Int) (st : List Nat) (H : Nat) (a : Int) : Int := if a = 0 then pcK (srvN D st H) 8 else if a = 1 then w (gnN st H) else if a = 2 then (srvN D st H : Int) else (st.getD (a - 10).toNat 0 : Int)
def beM (I : Iv) (w : Int) : Prop := I 72 1 ≤ I 72 2 ∧ (w = 0 ∨ (10 ≤ w ∧ w ≤ 9 + I 72 1))
section
variable (G : GE) (n : Nat) (I : Iv) (bk dr : Nat) (pt : Option Nat)
theorem c_builds (hn : 103 ≤ n) (h : plM I) : Ct G yX12_builds cX12_builds 4 none 2 0 0 [.ref (gb G + 72)] n I (rst bk dr pt) (fun v n' I' ρ' => v = none ∧ n = n' ∧ rst bk dr pt = ρ' ∧ (∀ o, o ≠ 94 → I' o = I o) ∧ ∀ h, 0 ≤ h → h < I 72 1 → I' 94 h = wlM I h) :=
  c_X12_builds G n I bk dr pt hn h.1.1 h.1.2 h.2.1.1 h.2.1.2 h.2.2.1 h.2.2.2.1 h.2.2.2.2.1 (fun j a b => by have := h.2.2.2.2.2.1 j a b; omega) h.2.2.2.2.2.2
theorem c_isLateM (hn : 103 ≤ n) (h : plM I) {K : Iv} (g1 : ∀ o, o ≠ 94 → K o = I o) (g2 : ∀ h, 0 ≤ h → h < I 72 1 → K 94 h = wlM I h) {a : Int} (a0 : 0 ≤ a) (a1 : a < I 72 1) : Ct G yX12_isLate cX12_isLate 3 (some .boolean) 1 0 0 [.ref (gb G + 72), .int (jI a)] n K (rst bk dr pt) (PI (b2 (lateP (drF (I 73) (I 75) (I 76) a) (wlM I a))) n K (rst bk dr pt)) := by
  have e72 := g1 72 (by decide)
  have e73 := g1 73 (by decide)
  have e75 := g1 75 (by decide)
  have e76 := g1 76 (by decide)
  have C := c_X12_isLate G n K bk dr pt hn (a := a) a0 (by rw [e72]; exact a1) (by rw [e72]; exact h.2.1.2) (by rw [e73]; exact h.2.2.1) (by rw [e75]; exact h.2.2.2.1) (by rw [e72, e76]; exact h.2.2.2.2.1) (fun j p q => by rw [e72] at q; rw [g2 j p q]; have := wlM_rg h p q; omega)
  rw [e73, e75, e76, g2 a a0 a1] at C
  exact C
theorem c_X12_look (hn : 103 ≤ n) {a : Int} (ha : rg a) (hP : plM I) : Ct G yX12_look cX12_look 4 (some .int) 3 0 0 [.ref (gb G + 72), .int (jI a)] n I (rst bk dr pt) (fun v n' I' ρ' => v = some (.int (jI (lkM I a))) ∧ n = n' ∧ rst bk dr pt = ρ' ∧ ∀ o, o ≠ 94 → I' o = I o) := by
  refine Ct.of [some (.ref (gb G + 72)), some (.int (jI a)), none, none] (by decide) rfl rfl rfl ?_
  intro k SR
  have S : Sem G RX12 "look" cX12_look 4 (rmD 3 0 0) k := SR.sem
  have ht := hP.1
  have hc := hP.2.1
  have z0 : a = 0 → lkM I a = I 72 0 := fun h => by unfold lkM; rw [if_pos h]
  have z1 : a = 1 → lkM I a = I 72 1 := fun h => by unfold lkM; rw [if_neg (by omega), if_pos h]
  have z2 : a = 2 → lkM I a = I 72 2 := fun h => by unfold lkM; rw [if_neg (by omega), if_neg (by omega), if_pos h]
  have z3 : a = 3 → lkM I a = I 72 3 := fun h => by unfold lkM; rw [if_neg (by omega), if_neg (by omega), if_neg (by omega), if_pos h]
  have z4 : a = 4 → lkM I a = I 72 17 := fun h => by unfold lkM; rw [if_neg (by omega), if_neg (by omega), if_neg (by omega), if_neg (by omega), if_pos h]
  have z5 : a = 5 → lkM I a = sumF (fun h => b2 (¬ I 80 h = -1)) (I 72 1).toNat := fun h => by unfold lkM; rw [if_neg (by omega), if_neg (by omega), if_neg (by omega), if_neg (by omega), if_neg (by omega), if_pos h]
  have z6 : a = 6 → lkM I a = sumF (fun h => b2 (lateP (drF (I 73) (I 75) (I 76) h) (wlM I h))) (I 72 1).toNat := fun h => by unfold lkM; rw [if_neg (by omega), if_neg (by omega), if_neg (by omega), if_neg (by omega), if_neg (by omega), if_neg (by omega), if_pos h]
  have z7 : a < 0 ∨ 6 < a → lkM I a = -1 := fun h => by unfold lkM; rw [if_neg (by omega), if_neg (by omega), if_neg (by omega), if_neg (by omega), if_neg (by omega), if_neg (by omega), if_neg (by omega)]
  have loop5 : a = 5 → ∀ (g : Int → Int), (g = fun h => b2 (¬ I 80 h = -1)) → ∀ (q : Nat) (h : Int), 0 ≤ h → h + q = I 72 1 → k 71 [some (.ref (gb G + 72)), some (.int (jI a)), some (.int (jI (sumF g h.toNat))), some (.int (jI h))] [] n I (rst bk dr pt) 0 0 := by
    intro ea g eg q
    induction q with
    | zero =>
      intro h h0 hq
      have eh : h = I 72 1 := by omega
      refine r_iload_n S rfl dX12_look_71 ?_
      refine r_aload_n S rfl dX12_look_72 ?_
      refine r_getI S (v := I 72 1) fk_X12_109 dX12_look_73 rfl rfl (Nat.lt_of_lt_of_le (by decide) hn) rfl ?_
      refine r_icmp_ge S (tgt := 103) dX12_look_76 (by decide) (by omega) (by omega) (fun c76 => ?_) (fun c76 => ?_)
      · refine r_iload_n S rfl dX12_look_103 ?_
        refine r_iret SR dX12_look_104 ⟨by decide, by decide⟩ ?_
        exact ⟨by rw [z5 ea, eh, eg], rfl, rfl, fun _ _ => rfl⟩
      · exact absurd c76 (by omega)
    | succ q ih =>
      intro h h0 hq
      have h8 := hP.2.2.2.2.2.1 h h0 (by omega)
      have Q := ih (h + 1) (by omega) (by omega)
      rw [sumF_step g h0] at Q
      have gt : ¬ I 80 h = -1 → g h = 1 := fun c => by rw [eg]; exact b2_t c
      have gf : I 80 h = -1 → g h = 0 := fun c => by rw [eg]; exact b2_f (fun q => q c)
      refine r_iload_n S rfl dX12_look_71 ?_
      refine r_aload_n S rfl dX12_look_72 ?_
      refine r_getI S (v := I 72 1) fk_X12_109 dX12_look_73 rfl rfl (Nat.lt_of_lt_of_le (by decide) hn) rfl ?_
      refine r_icmp_ge S (tgt := 103) dX12_look_76 (by decide) (by omega) (by omega) (fun c76 => ?_) (fun c76 => ?_)
      · exact absurd c76 (by omega)
      · refine r_iload_n S rfl dX12_look_79 ?_
        refine r_aload_n S rfl dX12_look_80 ?_
        refine r_getR S (o' := 80) fk_X12_31 dX12_look_81 rfl rfl (Nat.lt_of_lt_of_le (by decide) hn) rfl ?_
        refine r_iload_n S rfl dX12_look_84 ?_
        refine r_iald S (v := I 80 h) dX12_look_85 rfl rfl (Nat.lt_of_lt_of_le (by decide) hn) (by omega) (by omega) rfl ?_
        refine r_iconst S dX12_look_86 ?_
        refine r_icmp_ne S (tgt := 94) dX12_look_87 (by decide) (by omega) (by decide) (fun c87 => ?_) (fun c87 => ?_)
        · refine r_iconst S dX12_look_94 ?_
          refine r_iadd S dX12_look_95 ?_
          refine r_istore_n S dX12_look_96 rfl rfl ?_
          refine r_iinc S dX12_look_97 rfl rfl rfl ?_
          refine r_goto S (tgt := 71) dX12_look_100 (by decide) ?_
          first | (rw [gt c87] at Q; exact Q) | (rw [gf c87] at Q; exact Q) | (rw [gf (by omega)] at Q; exact Q)
        · refine r_iconst S dX12_look_90 ?_
          refine r_goto S (tgt := 95) dX12_look_91 (by decide) ?_
          refine r_iadd S dX12_look_95 ?_
          refine r_istore_n S dX12_look_96 rfl rfl ?_
          refine r_iinc S dX12_look_97 rfl rfl rfl ?_
          refine r_goto S (tgt := 71) dX12_look_100 (by decide) ?_
          first | (rw [gt c87] at Q; exact Q) | (rw [gf c87] at Q; exact Q) | (rw [gf (by omega)] at Q; exact Q)
  have loop6 : a = 6 → ∀ (K : Iv), (∀ o, o ≠ 94 → K o = I o) → (∀ h, 0 ≤ h → h < I 72 1 → K 94 h = wlM I h) → ∀ (g : Int → Int), (g = fun h => b2 (lateP (drF (I 73) (I 75) (I 76) h) (wlM I h))) → ∀ (q : Nat) (h : Int), 0 ≤ h → h + q = I 72 1 → k 111 [some (.ref (gb G + 72)), some (.int (jI a)), some (.int (jI (sumF g h.toNat))), some (.int (jI h))] [] n K (rst bk dr pt) 0 0 := by
    intro ea K g1 g2 g eg q
    have e1 : K 72 1 = I 72 1 := by rw [g1 72 (by decide)]
    induction q with
    | zero =>
      intro h h0 hq
      have eh : h = I 72 1 := by omega
      refine r_iload_n S rfl dX12_look_111 ?_
      refine r_aload_n S rfl dX12_look_112 ?_
      refine r_getI S (v := K 72 1) fk_X12_109 dX12_look_113 rfl rfl (Nat.lt_of_lt_of_le (by decide) hn) rfl ?_
      refine r_icmp_ge S (tgt := 141) dX12_look_116 (by decide) (by omega) (by omega) (fun c116 => ?_) (fun c116 => ?_)
      · refine r_iload_n S rfl dX12_look_141 ?_
        refine r_iret SR dX12_look_142 ⟨by decide, by decide⟩ ?_
        exact ⟨by rw [z6 ea, eh, eg], rfl, rfl, g1⟩
      · exact absurd c116 (by omega)
    | succ q ih =>
      intro h h0 hq
      have Q := ih (h + 1) (by omega) (by omega)
      rw [sumF_step g h0] at Q
      have gt : lateP (drF (I 73) (I 75) (I 76) h) (wlM I h) → g h = 1 := fun c => by rw [eg]; exact b2_t c
      have gf : ¬ lateP (drF (I 73) (I 75) (I 76) h) (wlM I h) → g h = 0 := fun c => by rw [eg]; exact b2_f c
      refine r_iload_n S rfl dX12_look_111 ?_
      refine r_aload_n S rfl dX12_look_112 ?_
      refine r_getI S (v := K 72 1) fk_X12_109 dX12_look_113 rfl rfl (Nat.lt_of_lt_of_le (by decide) hn) rfl ?_
      refine r_icmp_ge S (tgt := 141) dX12_look_116 (by decide) (by omega) (by omega) (fun c116 => ?_) (fun c116 => ?_)
      · exact absurd c116 (by omega)
      · refine r_iload_n S rfl dX12_look_119 ?_
        refine r_aload_n S rfl dX12_look_120 ?_
        refine r_iload_n S rfl dX12_look_121 ?_
        refine r_callV S lk_X12_244 mk_X12_isLate (c_isLateM G n I bk dr pt hn hP g1 g2 (a := h) h0 (by omega)) rfl (Nat.lt_of_lt_of_le (by decide) hn) rfl rfl rfl (Nat.le_of_ble_eq_true rfl) ⟨by decide, by decide⟩ rfl ⟨by decide, by decide⟩ dX12_look_122 ?_
        rintro _ _ _ _ ⟨rfl, rfl, rfl, rfl⟩
        refine r_ifb_eq S (tgt := 132) dX12_look_125 (by decide)  (fun c125 => ?_) (fun c125 => ?_)
        · refine r_iconst S dX12_look_132 ?_
          refine r_iadd S dX12_look_133 ?_
          refine r_istore_n S dX12_look_134 rfl rfl ?_
          refine r_iinc S dX12_look_135 rfl rfl rfl ?_
          refine r_goto S (tgt := 111) dX12_look_138 (by decide) ?_
          first | (rw [gt c125] at Q; exact Q) | (rw [gf c125] at Q; exact Q)
        · refine r_iconst S dX12_look_128 ?_
          refine r_goto S (tgt := 133) dX12_look_129 (by decide) ?_
          refine r_iadd S dX12_look_133 ?_
          refine r_istore_n S dX12_look_134 rfl rfl ?_
          refine r_iinc S dX12_look_135 rfl rfl rfl ?_
          refine r_goto S (tgt := 111) dX12_look_138 (by decide) ?_
          first | (rw [gt c125] at Q; exact Q) | (rw [gf c125] at Q; exact Q)
  refine r_iconst S dX12_look_0 ?_
  refine r_istore_n S dX12_look_1 rfl rfl ?_
  refine r_iload_n S rfl dX12_look_2 ?_
  rcases (by omega : a = 0 ∨ a = 1 ∨ a = 2 ∨ a = 3 ∨ a = 4 ∨ a = 5 ∨ a = 6 ∨ (a < 0 ∨ 6 < a)) with c3 | c3 | c3 | c3 | c3 | c3 | c3 | c3
  · refine r_tableIn S 0 (tgt := 44) dX12_look_3 c3 (by decide) (by decide) (by decide) rfl (by decide) ?_
    refine r_aload_n S rfl dX12_look_44 ?_
    refine r_getI S (v := I 72 0) fk_X12_112 dX12_look_45 rfl rfl (Nat.lt_of_lt_of_le (by decide) hn) rfl ?_
    refine r_iret SR dX12_look_48 ⟨by decide, by decide⟩ ?_
    exact ⟨by rw [z0 c3], rfl, rfl, fun _ _ => rfl⟩
  · refine r_tableIn S 1 (tgt := 49) dX12_look_3 c3 (by decide) (by decide) (by decide) rfl (by decide) ?_
    refine r_aload_n S rfl dX12_look_49 ?_
    refine r_getI S (v := I 72 1) fk_X12_109 dX12_look_50 rfl rfl (Nat.lt_of_lt_of_le (by decide) hn) rfl ?_
    refine r_iret SR dX12_look_53 ⟨by decide, by decide⟩ ?_
    exact ⟨by rw [z1 c3], rfl, rfl, fun _ _ => rfl⟩
  · refine r_tableIn S 2 (tgt := 54) dX12_look_3 c3 (by decide) (by decide) (by decide) rfl (by decide) ?_
    refine r_aload_n S rfl dX12_look_54 ?_
    refine r_getI S (v := I 72 2) fk_X12_126 dX12_look_55 rfl rfl (Nat.lt_of_lt_of_le (by decide) hn) rfl ?_
    refine r_iret SR dX12_look_58 ⟨by decide, by decide⟩ ?_
    exact ⟨by rw [z2 c3], rfl, rfl, fun _ _ => rfl⟩
  · refine r_tableIn S 3 (tgt := 59) dX12_look_3 c3 (by decide) (by decide) (by decide) rfl (by decide) ?_
    refine r_aload_n S rfl dX12_look_59 ?_
    refine r_getI S (v := I 72 3) fk_X12_129 dX12_look_60 rfl rfl (Nat.lt_of_lt_of_le (by decide) hn) rfl ?_
    refine r_iret SR dX12_look_63 ⟨by decide, by decide⟩ ?_
    exact ⟨by rw [z3 c3], rfl, rfl, fun _ _ => rfl⟩
  · refine r_tableIn S 4 (tgt := 64) dX12_look_3 c3 (by decide) (by decide) (by decide) rfl (by decide) ?_
    refine r_aload_n S rfl dX12_look_64 ?_
    refine r_getI S (v := I 72 17) fk_X12_221 dX12_look_65 rfl rfl (Nat.lt_of_lt_of_le (by decide) hn) rfl ?_
    refine r_iret SR dX12_look_68 ⟨by decide, by decide⟩ ?_
    exact ⟨by rw [z4 c3], rfl, rfl, fun _ _ => rfl⟩
  · refine r_tableIn S 5 (tgt := 69) dX12_look_3 c3 (by decide) (by decide) (by decide) rfl (by decide) ?_
    refine r_iconst S dX12_look_69 ?_
    refine r_istore_n S dX12_look_70 rfl rfl ?_
    exact loop5 c3 _ rfl (I 72 1).toNat 0 (by omega) (by omega)
  · refine r_tableIn S 6 (tgt := 105) dX12_look_3 c3 (by decide) (by decide) (by decide) rfl (by decide) ?_
    refine r_aload_n S rfl dX12_look_105 ?_
    refine r_callV S lk_X12_241 mk_X12_builds (c_builds G n I bk dr pt hn hP) rfl (Nat.lt_of_lt_of_le (by decide) hn) rfl rfl rfl (Nat.le_of_ble_eq_true rfl) ⟨by decide, by decide⟩ rfl ⟨by decide, by decide⟩ dX12_look_106 ?_
    rintro _ _ K _ ⟨rfl, rfl, rfl, g1, g2⟩
    refine r_iconst S dX12_look_109 ?_
    refine r_istore_n S dX12_look_110 rfl rfl ?_
    exact loop6 c3 K g1 g2 _ rfl (I 72 1).toNat 0 (by omega) (by omega)
  · refine r_tableOut S (tgt := 143) dX12_look_3 ha c3 (by decide) ?_
    refine r_iconst S dX12_look_143 ?_
    refine r_iret SR dX12_look_144 ⟨by decide, by decide⟩ ?_
    exact ⟨by rw [z7 c3], rfl, rfl, fun _ _ => rfl⟩
theorem c_X12_of (hn : 103 ≤ n) {rs : RLs} (hm : modI I rs) {a w : Int} (ha : rg a) (hw : rg w) (hP : plM I) (hf : ∀ j, 0 ≤ j → j < 8 → rg (I 77 j) ∧ rg (I 78 j) ∧ rg (I 79 j) ∧ (I 85 j = 0 ∨ I 85 j = 1)) : Ct G yX12_of cX12_of 3 (some .int) 4 0 0 [.ref (gb G + 72), .int (jI a), .int (jI w)] n I (rst bk dr pt) (fun v n' I' ρ' => v = some (.int (jI (if 0 ≤ a ∧ a < I 72 1 then ofM I rs a w else -1))) ∧ n = n' ∧ rst bk dr pt = ρ' ∧ ∀ o, o ≠ 92 → o ≠ 94 → I' o = I o) := by
  refine Ct.of [some (.ref (gb G + 72)), some (.int (jI a)), some (.int (jI w))] (by decide) rfl rfl rfl ?_
  intro k SR
  have S : Sem G RX12 "of" cX12_of 3 (rmD 4 0 0) k := SR.sem
  have hc := hP.2.1
  by_cases hin : 0 ≤ a ∧ a < I 72 1
  · rw [if_pos hin] at SR
    have hf' := hf a hin.1 (by omega)
    have z0 : w = 0 → ofM I rs a w = I 76 a := fun h => by unfold ofM; rw [if_pos h]
    have z1 : w = 1 → ofM I rs a w = I 77 a := fun h => by unfold ofM; rw [if_neg (by omega), if_pos h]
    have z2 : w = 2 → ofM I rs a w = I 78 a := fun h => by unfold ofM; rw [if_neg (by omega), if_neg (by omega), if_pos h]
    have z3 : w = 3 → ofM I rs a w = I 79 a := fun h => by unfold ofM; rw [if_neg (by omega), if_neg (by omega), if_neg (by omega), if_pos h]
    have z4 : w = 4 → ofM I rs a w = I 85 a := fun h => by unfold ofM; rw [if_neg (by omega), if_neg (by omega), if_neg (by omega), if_neg (by omega), if_pos h]
    have z5 : w = 5 → ofM I rs a w = dueS (fxM I a) rs := fun h => by unfold ofM; rw [if_neg (by omega), if_neg (by omega), if_neg (by omega), if_neg (by omega), if_neg (by omega), if_pos h]
    have z6 : w = 6 → ofM I rs a w = ruleS (fxM I a) rs 0 := fun h => by unfold ofM; rw [if_neg (by omega), if_neg (by omega), if_neg (by omega), if_neg (by omega), if_neg (by omega), if_neg (by omega), if_pos h]
    have z7 : w = 7 → ofM I rs a w = wlM I a := fun h => by unfold ofM; rw [if_neg (by omega), if_neg (by omega), if_neg (by omega), if_neg (by omega), if_neg (by omega), if_neg (by omega), if_neg (by omega), if_pos h]
    have z8 : w = 8 → ofM I rs a w = b2 (lateP (drF (I 73) (I 75) (I 76) a) (wlM I a)) := fun h => by unfold ofM; rw [if_neg (by omega), if_neg (by omega), if_neg (by omega), if_neg (by omega), if_neg (by omega), if_neg (by omega), if_neg (by omega), if_neg (by omega), if_pos h]
    have z9 : w < 0 ∨ 8 < w → ofM I rs a w = -1 := fun h => by unfold ofM; rw [if_neg (by omega), if_neg (by omega), if_neg (by omega), if_neg (by omega), if_neg (by omega), if_neg (by omega), if_neg (by omega), if_neg (by omega), if_neg (by omega)]
    have go : ∀ K : Iv, (∀ o, o ≠ 94 → K o = I o) → (∀ h, 0 ≤ h → h < I 72 1 → K 94 h = wlM I h) → k 14 [some (.ref (gb G + 72)), some (.int (jI a)), some (.int (jI w))] [] n K (rst bk dr pt) 0 0 := by
      intro K g1 g2
      have hmK : modI K rs := modI_same hm (by rw [g1 72 (by decide)]) (g1 86 (by decide)) (g1 87 (by decide)) (g1 88 (by decide))
      have e76 : K 76 a = I 76 a := by rw [g1 76 (by decide)]
      have e77 : K 77 a = I 77 a := by rw [g1 77 (by decide)]
      have e78 : K 78 a = I 78 a := by rw [g1 78 (by decide)]
      have e79 : K 79 a = I 79 a := by rw [g1 79 (by decide)]
      have e85 : K 85 a = I 85 a := by rw [g1 85 (by decide)]
      have e94 : K 94 a = wlM I a := g2 a hin.1 hin.2
      have ef : fxM K a = fxM I a := by unfold fxM; rw [e77, e78, e79, e85]
      have CD := c_X12_dueOf G n K bk dr pt hn hmK (h := a) hin.1 (by omega) (by rw [e77]; exact hf'.1) (by rw [e78]; exact hf'.2.1) (by rw [e79]; exact hf'.2.2.1) (by rw [e85]; exact hf'.2.2.2)
      have CR := c_X12_ruleOf G n K bk dr pt hn hmK (h := a) hin.1 (by omega) (by rw [e77]; exact hf'.1) (by rw [e78]; exact hf'.2.1) (by rw [e79]; exact hf'.2.2.1) (by rw [e85]; exact hf'.2.2.2)
      rw [ef] at CD CR
      have fr : ∀ o, o ≠ 92 → o ≠ 94 → K o = I o := fun o _ h => g1 o h
      refine r_iload_n S rfl dX12_of_14 ?_
      rcases (by omega : w = 0 ∨ w = 1 ∨ w = 2 ∨ w = 3 ∨ w = 4 ∨ w = 5 ∨ w = 6 ∨ w = 7 ∨ w = 8 ∨ (w < 0 ∨ 8 < w)) with c15 | c15 | c15 | c15 | c15 | c15 | c15 | c15 | c15 | c15
      · refine r_tableIn S 0 (tgt := 64) dX12_of_15 c15 (by decide) (by decide) (by decide) rfl (by decide) ?_
        refine r_aload_n S rfl dX12_of_64 ?_
        refine r_getR S (o' := 76) fk_X12_19 dX12_of_65 rfl rfl (Nat.lt_of_lt_of_le (by decide) hn) rfl ?_
        refine r_iload_n S rfl dX12_of_68 ?_
        refine r_iald S (v := K 76 a) dX12_of_69 rfl rfl (Nat.lt_of_lt_of_le (by decide) hn) (by omega) (by omega) rfl ?_
        rw [e76]
        refine r_iret SR dX12_of_70 ⟨by decide, by decide⟩ ?_
        exact ⟨by rw [z0 c15], rfl, rfl, fr⟩
      · refine r_tableIn S 1 (tgt := 71) dX12_of_15 c15 (by decide) (by decide) (by decide) rfl (by decide) ?_
        refine r_aload_n S rfl dX12_of_71 ?_
        refine r_getR S (o' := 77) fk_X12_22 dX12_of_72 rfl rfl (Nat.lt_of_lt_of_le (by decide) hn) rfl ?_
        refine r_iload_n S rfl dX12_of_75 ?_
        refine r_iald S (v := K 77 a) dX12_of_76 rfl rfl (Nat.lt_of_lt_of_le (by decide) hn) (by omega) (by omega) rfl ?_
        rw [e77]
        refine r_iret SR dX12_of_77 ⟨by decide, by decide⟩ ?_
        exact ⟨by rw [z1 c15], rfl, rfl, fr⟩
      · refine r_tableIn S 2 (tgt := 78) dX12_of_15 c15 (by decide) (by decide) (by decide) rfl (by decide) ?_
        refine r_aload_n S rfl dX12_of_78 ?_
        refine r_getR S (o' := 78) fk_X12_25 dX12_of_79 rfl rfl (Nat.lt_of_lt_of_le (by decide) hn) rfl ?_
        refine r_iload_n S rfl dX12_of_82 ?_
        refine r_iald S (v := K 78 a) dX12_of_83 rfl rfl (Nat.lt_of_lt_of_le (by decide) hn) (by omega) (by omega) rfl ?_
        rw [e78]
        refine r_iret SR dX12_of_84 ⟨by decide, by decide⟩ ?_
        exact ⟨by rw [z2 c15], rfl, rfl, fr⟩
      · refine r_tableIn S 3 (tgt := 85) dX12_of_15 c15 (by decide) (by decide) (by decide) rfl (by decide) ?_
        refine r_aload_n S rfl dX12_of_85 ?_
        refine r_getR S (o' := 79) fk_X12_28 dX12_of_86 rfl rfl (Nat.lt_of_lt_of_le (by decide) hn) rfl ?_
        refine r_iload_n S rfl dX12_of_89 ?_
        refine r_iald S (v := K 79 a) dX12_of_90 rfl rfl (Nat.lt_of_lt_of_le (by decide) hn) (by omega) (by omega) rfl ?_
        rw [e79]
        refine r_iret SR dX12_of_91 ⟨by decide, by decide⟩ ?_
        exact ⟨by rw [z3 c15], rfl, rfl, fr⟩
      · refine r_tableIn S 4 (tgt := 92) dX12_of_15 c15 (by decide) (by decide) (by decide) rfl (by decide) ?_
        refine r_aload_n S rfl dX12_of_92 ?_
        refine r_getR S (o' := 85) fk_X12_46 dX12_of_93 rfl rfl (Nat.lt_of_lt_of_le (by decide) hn) rfl ?_
        refine r_iload_n S rfl dX12_of_96 ?_
        refine r_bald S (v := K 85 a) dX12_of_97 rfl rfl (Nat.lt_of_lt_of_le (by decide) hn) (by omega) (by omega) rfl ?_
        rw [e85]
        refine r_if_eq S (tgt := 105) dX12_of_98 (by decide) (by omega) (fun c98 => ?_) (fun c98 => ?_)
        · refine r_iconst S dX12_of_105 ?_
          refine r_iret SR dX12_of_106 ⟨by decide, by decide⟩ ?_
          first | exact ⟨by rw [z4 c15, show I 85 a = 0 by omega], rfl, rfl, fr⟩ | exact ⟨by rw [z4 c15, show I 85 a = 1 by omega], rfl, rfl, fr⟩
        · refine r_iconst S dX12_of_101 ?_
          refine r_goto S (tgt := 106) dX12_of_102 (by decide) ?_
          refine r_iret SR dX12_of_106 ⟨by decide, by decide⟩ ?_
          first | exact ⟨by rw [z4 c15, show I 85 a = 0 by omega], rfl, rfl, fr⟩ | exact ⟨by rw [z4 c15, show I 85 a = 1 by omega], rfl, rfl, fr⟩
      · refine r_tableIn S 5 (tgt := 107) dX12_of_15 c15 (by decide) (by decide) (by decide) rfl (by decide) ?_
        refine r_aload_n S rfl dX12_of_107 ?_
        refine r_iload_n S rfl dX12_of_108 ?_
        refine r_callV S lk_X12_247 mk_X12_dueOf CD rfl (Nat.lt_of_lt_of_le (by decide) hn) rfl rfl rfl (Nat.le_of_ble_eq_true rfl) ⟨by decide, by decide⟩ rfl ⟨by decide, by decide⟩ dX12_of_109 ?_
        rintro _ _ J _ ⟨rfl, rfl, rfl, hJ⟩
        refine r_iret SR dX12_of_112 ⟨by decide, by decide⟩ ?_
        exact ⟨by rw [z5 c15], rfl, rfl, fun o x y => by rw [hJ o x]; exact fr o x y⟩
      · refine r_tableIn S 6 (tgt := 113) dX12_of_15 c15 (by decide) (by decide) (by decide) rfl (by decide) ?_
        refine r_aload_n S rfl dX12_of_113 ?_
        refine r_iload_n S rfl dX12_of_114 ?_
        refine r_callV S lk_X12_234 mk_X12_ruleOf CR rfl (Nat.lt_of_lt_of_le (by decide) hn) rfl rfl rfl (Nat.le_of_ble_eq_true rfl) ⟨by decide, by decide⟩ rfl ⟨by decide, by decide⟩ dX12_of_115 ?_
        rintro _ _ J _ ⟨rfl, rfl, rfl, hJ⟩
        refine r_iret SR dX12_of_118 ⟨by decide, by decide⟩ ?_
        exact ⟨by rw [z6 c15], rfl, rfl, fun o x y => by rw [hJ o x]; exact fr o x y⟩
      · refine r_tableIn S 7 (tgt := 119) dX12_of_15 c15 (by decide) (by decide) (by decide) rfl (by decide) ?_
        refine r_aload_n S rfl dX12_of_119 ?_
        refine r_getR S (o' := 94) fk_X12_78 dX12_of_120 rfl rfl (Nat.lt_of_lt_of_le (by decide) hn) rfl ?_
        refine r_iload_n S rfl dX12_of_123 ?_
        refine r_iald S (v := K 94 a) dX12_of_124 rfl rfl (Nat.lt_of_lt_of_le (by decide) hn) (by omega) (by omega) rfl ?_
        rw [e94]
        refine r_iret SR dX12_of_125 ⟨by decide, by decide⟩ ?_
        exact ⟨by rw [z7 c15], rfl, rfl, fr⟩
      · refine r_tableIn S 8 (tgt := 126) dX12_of_15 c15 (by decide) (by decide) (by decide) rfl (by decide) ?_
        refine r_aload_n S rfl dX12_of_126 ?_
        refine r_iload_n S rfl dX12_of_127 ?_
        refine r_callV S lk_X12_244 mk_X12_isLate (c_isLateM G n I bk dr pt hn hP g1 g2 (a := a) hin.1 hin.2) rfl (Nat.lt_of_lt_of_le (by decide) hn) rfl rfl rfl (Nat.le_of_ble_eq_true rfl) ⟨by decide, by decide⟩ rfl ⟨by decide, by decide⟩ dX12_of_128 ?_
        rintro _ _ _ _ ⟨rfl, rfl, rfl, rfl⟩
        refine r_ifb_eq S (tgt := 138) dX12_of_131 (by decide)  (fun c131 => ?_) (fun c131 => ?_)
        · refine r_iconst S dX12_of_138 ?_
          refine r_iret SR dX12_of_139 ⟨by decide, by decide⟩ ?_
          first | exact ⟨by rw [z8 c15, b2_t c131], rfl, rfl, fr⟩ | exact ⟨by rw [z8 c15, b2_f c131], rfl, rfl, fr⟩
        · refine r_iconst S dX12_of_134 ?_
          refine r_goto S (tgt := 139) dX12_of_135 (by decide) ?_
          refine r_iret SR dX12_of_139 ⟨by decide, by decide⟩ ?_
          first | exact ⟨by rw [z8 c15, b2_t c131], rfl, rfl, fr⟩ | exact ⟨by rw [z8 c15, b2_f c131], rfl, rfl, fr⟩
      · refine r_tableOut S (tgt := 140) dX12_of_15 hw c15 (by decide) ?_
        refine r_iconst S dX12_of_140 ?_
        refine r_iret SR dX12_of_141 ⟨by decide, by decide⟩ ?_
        exact ⟨by rw [z9 c15], rfl, rfl, fr⟩
    refine r_aload_n S rfl dX12_of_0 ?_
    refine r_iload_n S rfl dX12_of_1 ?_
    refine r_callV S lk_X12_123 mk_X12_isHousehold (c_X12_isHousehold G n I bk dr pt hn ha hc.1 hc.2) rfl (Nat.lt_of_lt_of_le (by decide) hn) rfl rfl rfl (Nat.le_of_ble_eq_true rfl) ⟨by decide, by decide⟩ rfl ⟨by decide, by decide⟩ dX12_of_2 ?_
    rintro _ _ _ _ ⟨rfl, rfl, rfl, rfl⟩
    refine r_ifb_ne S (tgt := 10) dX12_of_5 (by decide)  (fun c5 => ?_) (fun c5 => ?_)
    · refine r_aload_n S rfl dX12_of_10 ?_
      refine r_callV S lk_X12_241 mk_X12_builds (c_builds G n I bk dr pt hn hP) rfl (Nat.lt_of_lt_of_le (by decide) hn) rfl rfl rfl (Nat.le_of_ble_eq_true rfl) ⟨by decide, by decide⟩ rfl ⟨by decide, by decide⟩ dX12_of_11 ?_
      rintro _ _ K _ ⟨rfl, rfl, rfl, g1, g2⟩
      exact go K g1 g2
    · exact absurd (show 0 ≤ a ∧ a ≤ I 72 1 - 1 by omega) c5
  · rw [if_neg hin] at SR
    refine r_aload_n S rfl dX12_of_0 ?_
    refine r_iload_n S rfl dX12_of_1 ?_
    refine r_callV S lk_X12_123 mk_X12_isHousehold (c_X12_isHousehold G n I bk dr pt hn ha hc.1 hc.2) rfl (Nat.lt_of_lt_of_le (by decide) hn) rfl rfl rfl (Nat.le_of_ble_eq_true rfl) ⟨by decide, by decide⟩ rfl ⟨by decide, by decide⟩ dX12_of_2 ?_
    rintro _ _ _ _ ⟨rfl, rfl, rfl, rfl⟩
    refine r_ifb_ne S (tgt := 10) dX12_of_5 (by decide)  (fun c5 => ?_) (fun c5 => ?_)
    · exact absurd (show 0 ≤ a ∧ a < I 72 1 by omega) hin
    · refine r_iconst S dX12_of_8 ?_
      refine r_iret SR dX12_of_9 ⟨by decide, by decide⟩ ?_
      exact ⟨rfl, rfl, rfl, fun _ _ _ => rfl⟩
theorem c_X12_months (hn : 103 ≤ n) {a : Int} (ha : rg a) (hP : plM I) : Ct G yX12_months cX12_months 3 (some .int) 3 0 0 [.ref (gb G + 72), .int (jI a)] n I (rst bk dr pt) (fun v n' I' ρ' => n = n' ∧ rst bk dr pt = ρ' ∧ ((((1 ≤ a ∧ a ≤ 12) ∧ I 72 0 + a < 36) ∧ v = some (.int (jI (I 72 0 + a))) ∧ moM I I' a) ∨ (¬ ((1 ≤ a ∧ a ≤ 12) ∧ I 72 0 + a < 36) ∧ v = some (.int (jI (-1))) ∧ I = I'))) := by
  refine Ct.of [some (.ref (gb G + 72)), some (.int (jI a)), none] (by decide) rfl rfl rfl ?_
  intro k SR
  have S : Sem G RX12 "months" cX12_months 3 (rmD 3 0 0) k := SR.sem
  have ht := hP.1
  have hc := hP.2.1
  have loop : (1 ≤ a ∧ a ≤ 12) ∧ I 72 0 + a < 36 → ∀ (q : Nat) (h : Int) (K : Iv), 0 ≤ h → h + q = I 72 1 → (∀ o, o ≠ 80 → o ≠ 94 → K o = I o) → (∀ h, 0 ≤ h → h < I 72 1 → K 94 h = wlM I h) → (∀ j, 0 ≤ j → j < h → K 80 j = if ¬ wlM I j = -1 ∧ wlM I j < I 72 0 + a then wlM I j else I 80 j) → (∀ j, h ≤ j → K 80 j = I 80 j) → k 29 [some (.ref (gb G + 72)), some (.int (jI a)), some (.int (jI h))] [] n K (rst bk dr pt) 0 0 := by
    intro hA q
    induction q with
    | zero =>
      intro h K h0 hq g1 g2 g3 g4
      have e0 : K 72 0 = I 72 0 := by rw [g1 72 (by decide) (by decide)]
      have e1 : K 72 1 = I 72 1 := by rw [g1 72 (by decide) (by decide)]
      refine r_iload_n S rfl dX12_months_29 ?_
      refine r_aload_n S rfl dX12_months_30 ?_
      refine r_getI S (v := K 72 1) fk_X12_109 dX12_months_31 rfl rfl (Nat.lt_of_lt_of_le (by decide) hn) rfl ?_
      refine r_icmp_ge S (tgt := 80) dX12_months_34 (by decide) (by omega) (by omega) (fun c34 => ?_) (fun c34 => ?_)
      · refine r_aload_n S rfl dX12_months_80 ?_
        refine r_dup S rfl dX12_months_81 ?_
        refine r_getI S (v := K 72 0) fk_X12_112 dX12_months_82 rfl rfl (Nat.lt_of_lt_of_le (by decide) hn) rfl ?_
        rw [e0]
        refine r_iload_n S rfl dX12_months_85 ?_
        refine r_iadd S dX12_months_86 ?_
        refine r_putI S fk_X12_112 dX12_months_87 rfl rfl (Nat.lt_of_lt_of_le (by decide) hn) (Or.inl rfl) (Or.inl rfl) ?_
        refine r_aload_n S rfl dX12_months_90 ?_
        refine r_getI S (v := (I 72 0) + a) fk_X12_112 dX12_months_91 rfl rfl (Nat.lt_of_lt_of_le (by decide) hn) rfl ?_
        refine r_iret SR dX12_months_94 ⟨by decide, by decide⟩ ?_
        refine ⟨rfl, rfl, Or.inl ⟨hA, rfl, fun o x y z => ?_, fun j hj => ?_, up_s _ _ _ _, fun j p r => ?_, fun j p => ?_⟩⟩
        · rw [up_o x]; exact g1 o y z
        · rw [up_i hj, g1 72 (by decide) (by decide)]
        · rw [up_o (by decide)]; exact g3 j p (by omega)
        · rw [up_o (by decide)]; exact g4 j (by omega)
      · exact absurd c34 (by omega)
    | succ q ih =>
      intro h K h0 hq g1 g2 g3 g4
      have e0 : K 72 0 = I 72 0 := by rw [g1 72 (by decide) (by decide)]
      have e1 : K 72 1 = I 72 1 := by rw [g1 72 (by decide) (by decide)]
      have e94 : K 94 h = wlM I h := g2 h h0 (by omega)
      have wr := wlM_rg hP h0 (show h < I 72 1 by omega)
      have nxt : ∀ K2 : Iv, (∀ o, o ≠ 80 → K2 o = K o) → (∀ j, j ≠ h → K2 80 j = K 80 j) → (K2 80 h = if ¬ wlM I h = -1 ∧ wlM I h < I 72 0 + a then wlM I h else I 80 h) → k 74 [some (.ref (gb G + 72)), some (.int (jI a)), some (.int (jI h))] [] n K2 (rst bk dr pt) 0 0 := by
        intro K2 f1 f2 f3
        refine r_iinc S dX12_months_74 rfl rfl rfl ?_
        refine r_goto S (tgt := 29) dX12_months_77 (by decide) ?_
        exact ih (h + 1) K2 (by omega) (by omega) (fun o x y => by rw [f1 o x]; exact g1 o x y) (fun j p r => by rw [f1 94 (by decide)]; exact g2 j p r) (fun j p r => by by_cases e : j = h; rw [e]; exact f3; rw [f2 j e]; exact g3 j p (by omega)) (fun j p => by rw [f2 j (by omega)]; exact g4 j (by omega))
      refine r_iload_n S rfl dX12_months_29 ?_
      refine r_aload_n S rfl dX12_months_30 ?_
      refine r_getI S (v := K 72 1) fk_X12_109 dX12_months_31 rfl rfl (Nat.lt_of_lt_of_le (by decide) hn) rfl ?_
      refine r_icmp_ge S (tgt := 80) dX12_months_34 (by decide) (by omega) (by omega) (fun c34 => ?_) (fun c34 => ?_)
      · exact absurd c34 (by omega)
      · refine r_aload_n S rfl dX12_months_37 ?_
        refine r_getR S (o' := 94) fk_X12_78 dX12_months_38 rfl rfl (Nat.lt_of_lt_of_le (by decide) hn) rfl ?_
        refine r_iload_n S rfl dX12_months_41 ?_
        refine r_iald S (v := K 94 h) dX12_months_42 rfl rfl (Nat.lt_of_lt_of_le (by decide) hn) (by omega) (by omega) rfl ?_
        rw [e94]
        refine r_iconst S dX12_months_43 ?_
        refine r_icmp_eq S (tgt := 74) dX12_months_44 (by decide) (by omega) (by decide) (fun c44 => ?_) (fun c44 => ?_)
        · first | exact nxt K (fun _ _ => rfl) (fun _ _ => rfl) (by rw [if_neg (by omega)]; exact g4 h (by omega)) | exact nxt (up K 80 h (wlM I h)) (fun o ho => up_o ho) (fun j hj => up_i hj) (by rw [up_s, if_pos (by omega)])
        · refine r_aload_n S rfl dX12_months_47 ?_
          refine r_getR S (o' := 94) fk_X12_78 dX12_months_48 rfl rfl (Nat.lt_of_lt_of_le (by decide) hn) rfl ?_
          refine r_iload_n S rfl dX12_months_51 ?_
          refine r_iald S (v := K 94 h) dX12_months_52 rfl rfl (Nat.lt_of_lt_of_le (by decide) hn) (by omega) (by omega) rfl ?_
          rw [e94]
          refine r_aload_n S rfl dX12_months_53 ?_
          refine r_getI S (v := K 72 0) fk_X12_112 dX12_months_54 rfl rfl (Nat.lt_of_lt_of_le (by decide) hn) rfl ?_
          rw [e0]
          refine r_iload_n S rfl dX12_months_57 ?_
          refine r_iadd S dX12_months_58 ?_
          refine r_icmp_ge S (tgt := 74) dX12_months_59 (by decide) (by omega) (by omega) (fun c59 => ?_) (fun c59 => ?_)
          · first | exact nxt K (fun _ _ => rfl) (fun _ _ => rfl) (by rw [if_neg (by omega)]; exact g4 h (by omega)) | exact nxt (up K 80 h (wlM I h)) (fun o ho => up_o ho) (fun j hj => up_i hj) (by rw [up_s, if_pos (by omega)])
          · refine r_aload_n S rfl dX12_months_62 ?_
            refine r_getR S (o' := 80) fk_X12_31 dX12_months_63 rfl rfl (Nat.lt_of_lt_of_le (by decide) hn) rfl ?_
            refine r_iload_n S rfl dX12_months_66 ?_
            refine r_aload_n S rfl dX12_months_67 ?_
            refine r_getR S (o' := 94) fk_X12_78 dX12_months_68 rfl rfl (Nat.lt_of_lt_of_le (by decide) hn) rfl ?_
            refine r_iload_n S rfl dX12_months_71 ?_
            refine r_iald S (v := K 94 h) dX12_months_72 rfl rfl (Nat.lt_of_lt_of_le (by decide) hn) (by omega) (by omega) rfl ?_
            rw [e94]
            refine r_iast S dX12_months_73 rfl rfl (Nat.lt_of_lt_of_le (by decide) hn) (by omega) (by omega) ?_
            first | exact nxt K (fun _ _ => rfl) (fun _ _ => rfl) (by rw [if_neg (by omega)]; exact g4 h (by omega)) | exact nxt (up K 80 h (wlM I h)) (fun o ho => up_o ho) (fun j hj => up_i hj) (by rw [up_s, if_pos (by omega)])
  refine r_iload_n S rfl dX12_months_0 ?_
  refine r_iconst S dX12_months_1 ?_
  refine r_bipush S (by decide +kernel) dX12_months_2 ?_
  refine r_callS S lk_X12_105 mk_X12_isIn (c_X12_isIn G n I (rst bk dr pt) ha (by decide) (by decide)) rfl rfl (Nat.le_of_ble_eq_true rfl) ⟨by decide, by decide⟩ rfl ⟨by decide, by decide⟩ dX12_months_4 ?_
  rintro _ _ _ _ ⟨rfl, rfl, rfl, rfl⟩
  refine r_ifb_eq S (tgt := 21) dX12_months_7 (by decide)  (fun c7 => ?_) (fun c7 => ?_)
  · refine r_iconst S dX12_months_21 ?_
    refine r_iret SR dX12_months_22 ⟨by decide, by decide⟩ ?_
    exact ⟨rfl, rfl, Or.inr ⟨by omega, rfl, rfl⟩⟩
  · refine r_aload_n S rfl dX12_months_10 ?_
    refine r_getI S (v := I 72 0) fk_X12_112 dX12_months_11 rfl rfl (Nat.lt_of_lt_of_le (by decide) hn) rfl ?_
    refine r_bipush S (by decide +kernel) dX12_months_14 ?_
    refine r_iload_n S rfl dX12_months_16 ?_
    refine r_isub S dX12_months_17 ?_
    refine r_icmp_le S (tgt := 23) dX12_months_18 (by decide) (by omega) (by omega) (fun c18 => ?_) (fun c18 => ?_)
    · refine r_aload_n S rfl dX12_months_23 ?_
      refine r_callV S lk_X12_241 mk_X12_builds (c_builds G n I bk dr pt hn hP) rfl (Nat.lt_of_lt_of_le (by decide) hn) rfl rfl rfl (Nat.le_of_ble_eq_true rfl) ⟨by decide, by decide⟩ rfl ⟨by decide, by decide⟩ dX12_months_24 ?_
      rintro _ _ K _ ⟨rfl, rfl, rfl, g1, g2⟩
      refine r_iconst S dX12_months_27 ?_
      refine r_istore_n S dX12_months_28 rfl rfl ?_
      exact loop (by omega) (I 72 1).toNat 0 K (by omega) (by omega) (fun o _ y => g1 o y) g2 (fun j p r => absurd r (by omega)) (fun j _ => by rw [g1 80 (by decide)])
    · refine r_iconst S dX12_months_21 ?_
      refine r_iret SR dX12_months_22 ⟨by decide, by decide⟩ ?_
      exact ⟨rfl, rfl, Or.inr ⟨by omega, rfl, rfl⟩⟩
theorem c_X12_best (hn : 103 ≤ n) {H Z : Nat} {w : Int} (hw : rg w) (eH : I 72 1 = H) (hH8 : H ≤ 8) (eZ : I 72 2 = Z) (hZ : Z ≤ 8) (hx : ∀ j, 0 ≤ j → j < 8 → 0 ≤ I 82 j ∧ I 82 j ≤ 20) (hy : ∀ j, 0 ≤ j → j < 8 → 0 ≤ I 83 j ∧ I 83 j ≤ 20) (W : H ≤ Z → WOk (nrM (I 82) (I 83)) (tiM (I 81)) H Z) (h0 : I 97 0 = 0) : Ct G yX12_best cX12_best 2 (some .int) 3 0 0 [.ref (gb G + 72), .int (jI w)] n I (rst bk dr pt) (fun v n' I' ρ' => n = n' ∧ rst bk dr pt = ρ' ∧ ((beM I w ∧ H = 0 ∧ v = some (.int (jI 0)) ∧ I = I') ∨ (beM I w ∧ 1 ≤ H ∧ v = some (.int (jI (if w = 0 then I' 72 42 else I' 96 (w - 10)))) ∧ mwOnly I I' ∧ I' 97 0 = 0 ∧ bstOk I' H (bestW (nrM (I 82) (I 83)) (tiM (I 81)) H Z)) ∨ (¬ beM I w ∧ v = some (.int (jI (-1))) ∧ I = I'))) := by
  refine Ct.of [some (.ref (gb G + 72)), some (.int (jI w))] (by decide) rfl rfl rfl ?_
  intro k SR
  have S : Sem G RX12 "best" cX12_best 2 (rmD 3 0 0) k := SR.sem
  have at33 : beM I w → k 33 [some (.ref (gb G + 72)), some (.int (jI w))] [] n I (rst bk dr pt) 0 0 := by
    intro hb
    have hb' := hb
    unfold beM at hb'
    refine r_aload_n S rfl dX12_best_33 ?_
    refine r_getI S (v := I 72 1) fk_X12_109 dX12_best_34 rfl rfl (Nat.lt_of_lt_of_le (by decide) hn) rfl ?_
    refine r_if_ne S (tgt := 42) dX12_best_37 (by decide) (by omega) (fun c37 => ?_) (fun c37 => ?_)
    · refine r_aload_n S rfl dX12_best_42 ?_
      refine r_callV S lk_X12_260 mk_X12_ways (c_X12_ways G n I bk dr pt hn eH eZ (by omega) hx hy (W (by omega)) h0) rfl (Nat.lt_of_lt_of_le (by decide) hn) rfl rfl rfl (Nat.le_of_ble_eq_true rfl) ⟨by decide, by decide⟩ rfl ⟨by decide, by decide⟩ dX12_best_43 ?_
      rintro _ _ J _ ⟨rfl, rfl, rfl, g1, g2, g3⟩
      refine r_iload_n S rfl dX12_best_46 ?_
      refine r_if_ne S (tgt := 57) dX12_best_47 (by decide) hw (fun c47 => ?_) (fun c47 => ?_)
      · refine r_aload_n S rfl dX12_best_57 ?_
        refine r_getR S (o' := 96) fk_X12_84 dX12_best_58 rfl rfl (Nat.lt_of_lt_of_le (by decide) hn) rfl ?_
        refine r_iload_n S rfl dX12_best_61 ?_
        refine r_bipush S (by decide +kernel) dX12_best_62 ?_
        refine r_isub S dX12_best_64 ?_
        refine r_iald S (v := J 96 (w - 10)) dX12_best_65 rfl rfl (Nat.lt_of_lt_of_le (by decide) hn) (by omega) (by omega) rfl ?_
        refine r_iret SR dX12_best_66 ⟨by decide, by decide⟩ ?_
        first | exact ⟨rfl, rfl, Or.inr (Or.inl ⟨hb, by omega, by rw [if_pos c47], g1, g2, g3⟩)⟩ | exact ⟨rfl, rfl, Or.inr (Or.inl ⟨hb, by omega, by rw [if_neg c47], g1, g2, g3⟩)⟩
      · refine r_aload_n S rfl dX12_best_50 ?_
        refine r_getI S (v := J 72 42) fk_X12_253 dX12_best_51 rfl rfl (Nat.lt_of_lt_of_le (by decide) hn) rfl ?_
        refine r_goto S (tgt := 66) dX12_best_54 (by decide) ?_
        refine r_iret SR dX12_best_66 ⟨by decide, by decide⟩ ?_
        first | exact ⟨rfl, rfl, Or.inr (Or.inl ⟨hb, by omega, by rw [if_pos c47], g1, g2, g3⟩)⟩ | exact ⟨rfl, rfl, Or.inr (Or.inl ⟨hb, by omega, by rw [if_neg c47], g1, g2, g3⟩)⟩
    · refine r_iconst S dX12_best_40 ?_
      refine r_iret SR dX12_best_41 ⟨by decide, by decide⟩ ?_
      exact ⟨rfl, rfl, Or.inl ⟨hb, by omega, rfl, rfl⟩⟩
  refine r_aload_n S rfl dX12_best_0 ?_
  refine r_getI S (v := I 72 2) fk_X12_126 dX12_best_1 rfl rfl (Nat.lt_of_lt_of_le (by decide) hn) rfl ?_
  refine r_aload_n S rfl dX12_best_4 ?_
  refine r_getI S (v := I 72 1) fk_X12_109 dX12_best_5 rfl rfl (Nat.lt_of_lt_of_le (by decide) hn) rfl ?_
  refine r_icmp_lt S (tgt := 31) dX12_best_8 (by decide) (by omega) (by omega) (fun c8 => ?_) (fun c8 => ?_)
  · refine r_iconst S dX12_best_31 ?_
    refine r_iret SR dX12_best_32 ⟨by decide, by decide⟩ ?_
    exact ⟨rfl, rfl, Or.inr (Or.inr ⟨by unfold beM; omega, rfl, rfl⟩)⟩
  · refine r_iload_n S rfl dX12_best_11 ?_
    refine r_if_eq S (tgt := 33) dX12_best_12 (by decide) hw (fun c12 => ?_) (fun c12 => ?_)
    · exact at33 (by unfold beM; omega)
    · refine r_iload_n S rfl dX12_best_15 ?_
      refine r_bipush S (by decide +kernel) dX12_best_16 ?_
      refine r_bipush S (by decide +kernel) dX12_best_18 ?_
      refine r_aload_n S rfl dX12_best_20 ?_
      refine r_getI S (v := I 72 1) fk_X12_109 dX12_best_21 rfl rfl (Nat.lt_of_lt_of_le (by decide) hn) rfl ?_
      refine r_iadd S dX12_best_24 ?_
      refine r_callS S lk_X12_105 mk_X12_isIn (c_X12_isIn G n I (rst bk dr pt) hw (by decide) (by omega)) rfl rfl (Nat.le_of_ble_eq_true rfl) ⟨by decide, by decide⟩ rfl ⟨by decide, by decide⟩ dX12_best_25 ?_
      rintro _ _ _ _ ⟨rfl, rfl, rfl, rfl⟩
      refine r_ifb_ne S (tgt := 33) dX12_best_28 (by decide)  (fun c28 => ?_) (fun c28 => ?_)
      · exact at33 (by unfold beM; omega)
      · refine r_iconst S dX12_best_31 ?_
        refine r_iret SR dX12_best_32 ⟨by decide, by decide⟩ ?_
        exact ⟨rfl, rfl, Or.inr (Or.inr ⟨by unfold beM; omega, rfl, rfl⟩)⟩
theorem c_X12_part (hn : 103 ≤ n) {H F al : Nat} {rs : RLs} {a : Int} (ha : rg a) (hm : modI I rs) (hF : F ≤ 10) (hal : 2 ^ F = al + 1) (hH8 : H ≤ 8) (eF : I 72 3 = F) (eH : I 72 1 = H) (hws : ∀ i : Nat, i < F → 1 ≤ I 84 i ∧ I 84 i ≤ 999) (hfx : ∀ h : Int, 0 ≤ h → h < 8 → rg (I 77 h) ∧ rg (I 78 h) ∧ rg (I 79 h) ∧ (I 85 h = 0 ∨ I 85 h = 1)) : Ct G yX12_part cX12_part 2 (some .int) 5 0 0 [.ref (gb G + 72), .int (jI a)] n I (rst bk dr pt) (fun v n' I' ρ' => n = n' ∧ rst bk dr pt = ρ' ∧ ((((0 ≤ a ∧ a ≤ 2) ∨ (10 ≤ a ∧ a ≤ 9 + I 72 1)) ∧ v = some (.int (jI (ptS (wgt (I 84) F) (fun h => dueS (fxM I h) rs) (cG (wgt (I 84) F) (wlo (I 84) F) al 0 (dul (fun h => dueS (fxM I h) rs) H 0) al) H a))) ∧ mpOnly I I') ∨ (¬ ((0 ≤ a ∧ a ≤ 2) ∨ (10 ≤ a ∧ a ≤ 9 + I 72 1)) ∧ v = some (.int (jI (-1))) ∧ I = I'))) := by
  refine Ct.of [some (.ref (gb G + 72)), some (.int (jI a))] (by decide) rfl rfl rfl ?_
  intro k SR
  have S : Sem G RX12 "part" cX12_part 2 (rmD 5 0 0) k := SR.sem
  have C := c_X12_parts G n I bk dr pt hn hm hF hal hH8 eF eH hws hfx
  obtain ⟨w, ew⟩ : ∃ w, w = wgt (I 84) F := ⟨_, rfl⟩
  obtain ⟨D, eD⟩ : ∃ D : Int → Int, D = fun h => dueS (fxM I h) rs := ⟨_, rfl⟩
  obtain ⟨st, est⟩ : ∃ st, st = cG w (wlo (I 84) F) al 0 (dul D H 0) al := ⟨_, rfl⟩
  rw [← ew, ← eD, ← est] at C SR
  have slt : srvN D st H < 256 := Nat.lt_of_lt_of_le (srvN_lt D st H) (Nat.pow_le_pow_right (by decide) hH8 : 2 ^ H ≤ 2 ^ 8)
  have z0 : a = 0 → ptS w D st H a = pcK (srvN D st H) 8 := fun h => by unfold ptS; rw [if_pos h]
  have z1 : a = 1 → ptS w D st H a = w (gnN st H) := fun h => by unfold ptS; rw [if_neg (by omega), if_pos h]
  have z2 : a = 2 → ptS w D st H a = (srvN D st H : Int) := fun h => by unfold ptS; rw [if_neg (by omega), if_neg (by omega), if_pos h]
  have z3 : 10 ≤ a → ptS w D st H a = (st.getD (a - 10).toNat 0 : Int) := fun h => by unfold ptS; rw [if_neg (by omega), if_neg (by omega), if_neg (by omega)]
  have at27 : ((0 ≤ a ∧ a ≤ 2) ∨ (10 ≤ a ∧ a ≤ 9 + I 72 1)) → k 27 [some (.ref (gb G + 72)), some (.int (jI a))] [] n I (rst bk dr pt) 0 0 := by
    intro hb
    refine r_aload_n S rfl dX12_part_27 ?_
    refine r_callV S lk_X12_282 mk_X12_parts C rfl (Nat.lt_of_lt_of_le (by decide) hn) rfl rfl rfl (Nat.le_of_ble_eq_true rfl) ⟨by decide, by decide⟩ rfl ⟨by decide, by decide⟩ dX12_part_28 ?_
    rintro _ _ J _ ⟨rfl, rfl, rfl, g1, g2, g3, g4⟩
    refine r_iload_n S rfl dX12_part_31 ?_
    refine r_if_ne S (tgt := 45) dX12_part_32 (by decide) ha (fun c32 => ?_) (fun c32 => ?_)
    · refine r_iload_n S rfl dX12_part_45 ?_
      refine r_iconst S dX12_part_46 ?_
      refine r_icmp_ne S (tgt := 57) dX12_part_47 (by decide) ha (by decide) (fun c47 => ?_) (fun c47 => ?_)
      · refine r_iload_n S rfl dX12_part_57 ?_
        refine r_iconst S dX12_part_58 ?_
        refine r_icmp_ne S (tgt := 69) dX12_part_59 (by decide) ha (by decide) (fun c59 => ?_) (fun c59 => ?_)
        · refine r_aload_n S rfl dX12_part_69 ?_
          refine r_getR S (o' := 102) fk_X12_102 dX12_part_70 rfl rfl (Nat.lt_of_lt_of_le (by decide) hn) rfl ?_
          refine r_iload_n S rfl dX12_part_73 ?_
          refine r_bipush S (by decide +kernel) dX12_part_74 ?_
          refine r_isub S dX12_part_76 ?_
          refine r_iald S (v := J 102 (a - 10)) dX12_part_77 rfl rfl (Nat.lt_of_lt_of_le (by decide) hn) (by omega) (by omega) rfl ?_
          rw [show a - 10 = ((a - 10).toNat : Int) by omega, g4 (a - 10).toNat (by omega)]
          refine r_iret SR dX12_part_78 ⟨by decide, by decide⟩ ?_
          first | exact ⟨rfl, rfl, Or.inl ⟨hb, by rw [z0 c32], g1⟩⟩ | exact ⟨rfl, rfl, Or.inl ⟨hb, by rw [z1 c47], g1⟩⟩ | exact ⟨rfl, rfl, Or.inl ⟨hb, by rw [z2 c59], g1⟩⟩ | exact ⟨rfl, rfl, Or.inl ⟨hb, by rw [z3 (by omega)], g1⟩⟩
        · refine r_aload_n S rfl dX12_part_62 ?_
          refine r_getI S (v := J 72 48) fk_X12_276 dX12_part_63 rfl rfl (Nat.lt_of_lt_of_le (by decide) hn) rfl ?_
          rw [g2]
          refine r_goto S (tgt := 78) dX12_part_66 (by decide) ?_
          refine r_iret SR dX12_part_78 ⟨by decide, by decide⟩ ?_
          first | exact ⟨rfl, rfl, Or.inl ⟨hb, by rw [z0 c32], g1⟩⟩ | exact ⟨rfl, rfl, Or.inl ⟨hb, by rw [z1 c47], g1⟩⟩ | exact ⟨rfl, rfl, Or.inl ⟨hb, by rw [z2 c59], g1⟩⟩ | exact ⟨rfl, rfl, Or.inl ⟨hb, by rw [z3 (by omega)], g1⟩⟩
      · refine r_aload_n S rfl dX12_part_50 ?_
        refine r_getI S (v := J 72 49) fk_X12_279 dX12_part_51 rfl rfl (Nat.lt_of_lt_of_le (by decide) hn) rfl ?_
        rw [g3]
        refine r_goto S (tgt := 78) dX12_part_54 (by decide) ?_
        refine r_iret SR dX12_part_78 ⟨by decide, by decide⟩ ?_
        first | exact ⟨rfl, rfl, Or.inl ⟨hb, by rw [z0 c32], g1⟩⟩ | exact ⟨rfl, rfl, Or.inl ⟨hb, by rw [z1 c47], g1⟩⟩ | exact ⟨rfl, rfl, Or.inl ⟨hb, by rw [z2 c59], g1⟩⟩ | exact ⟨rfl, rfl, Or.inl ⟨hb, by rw [z3 (by omega)], g1⟩⟩
    · refine r_aload_n S rfl dX12_part_35 ?_
      refine r_getI S (v := J 72 48) fk_X12_276 dX12_part_36 rfl rfl (Nat.lt_of_lt_of_le (by decide) hn) rfl ?_
      rw [g2]
      refine r_callS S lk_X12_285 mk_X12_bits (c_X12_bits G n J (rst bk dr pt) slt) rfl rfl (Nat.le_of_ble_eq_true rfl) ⟨by decide, by decide⟩ rfl ⟨by decide, by decide⟩ dX12_part_39 ?_
      rintro _ _ _ _ ⟨rfl, rfl, rfl, rfl⟩
      refine r_goto S (tgt := 78) dX12_part_42 (by decide) ?_
      refine r_iret SR dX12_part_78 ⟨by decide, by decide⟩ ?_
      first | exact ⟨rfl, rfl, Or.inl ⟨hb, by rw [z0 c32], g1⟩⟩ | exact ⟨rfl, rfl, Or.inl ⟨hb, by rw [z1 c47], g1⟩⟩ | exact ⟨rfl, rfl, Or.inl ⟨hb, by rw [z2 c59], g1⟩⟩ | exact ⟨rfl, rfl, Or.inl ⟨hb, by rw [z3 (by omega)], g1⟩⟩
  refine r_iload_n S rfl dX12_part_0 ?_
  refine r_iconst S dX12_part_1 ?_
  refine r_iconst S dX12_part_2 ?_
  refine r_callS S lk_X12_105 mk_X12_isIn (c_X12_isIn G n I (rst bk dr pt) ha (by decide) (by decide)) rfl rfl (Nat.le_of_ble_eq_true rfl) ⟨by decide, by decide⟩ rfl ⟨by decide, by decide⟩ dX12_part_3 ?_
  rintro _ _ _ _ ⟨rfl, rfl, rfl, rfl⟩
  refine r_ifb_ne S (tgt := 27) dX12_part_6 (by decide)  (fun c6 => ?_) (fun c6 => ?_)
  · exact at27 (by omega)
  · refine r_iload_n S rfl dX12_part_9 ?_
    refine r_bipush S (by decide +kernel) dX12_part_10 ?_
    refine r_bipush S (by decide +kernel) dX12_part_12 ?_
    refine r_aload_n S rfl dX12_part_14 ?_
    refine r_getI S (v := I 72 1) fk_X12_109 dX12_part_15 rfl rfl (Nat.lt_of_lt_of_le (by decide) hn) rfl ?_
    refine r_iadd S dX12_part_18 ?_
    refine r_callS S lk_X12_105 mk_X12_isIn (c_X12_isIn G n I (rst bk dr pt) ha (by decide) (by omega)) rfl rfl (Nat.le_of_ble_eq_true rfl) ⟨by decide, by decide⟩ rfl ⟨by decide, by decide⟩ dX12_part_19 ?_
    rintro _ _ _ _ ⟨rfl, rfl, rfl, rfl⟩
    refine r_ifb_ne S (tgt := 27) dX12_part_22 (by decide)  (fun c22 => ?_) (fun c22 => ?_)
    · exact at27 (by omega)
    · refine r_iconst S dX12_part_25 ?_
      refine r_iret SR dX12_part_26 ⟨by decide, by decide⟩ ?_
      exact ⟨rfl, rfl, Or.inr ⟨by omega, rfl, rfl⟩⟩
end
