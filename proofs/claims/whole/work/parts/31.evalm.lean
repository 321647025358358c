/-! ===== the reference's evaluation ===== -/
/-- array A holds the steps from step i on, two places each -/
def segM (A : Int → Int) : Int → List (Int × Int) → Prop
  | _, [] => True
  | i, s :: l => A (2 * i) = s.1 ∧ (s.1 = 0 ∨ s.1 = 8 → A (2 * i + 1) = s.2) ∧ segM A (i + 1) l
theorem segM_congr {A B : Int → Int} : ∀ (l : List (Int × Int)) (i : Int), (∀ j : Int, 2 * i ≤ j → j < 2 * (i + l.length) → B j = A j) → segM A i l → segM B i l
  | [], _, _, _ => trivial
  | s :: l, i, h, hs => by
    refine ⟨?_, fun q => ?_, segM_congr l (i + 1) (fun j h0 h1 => h j (by omega) (by simp only [List.length_cons]; omega)) hs.2.2⟩
    · rw [h (2 * i) (by omega) (by simp only [List.length_cons]; omega)]
      exact hs.1
    · rw [h (2 * i + 1) (by omega) (by simp only [List.length_cons]; omega)]
      exact hs.2.1 q
theorem segM_app {A : Int → Int} : ∀ (l m : List (Int × Int)) (i : Int), segM A i (l ++ m) ↔ segM A i l ∧ segM A (i + l.length) m
  | [], m, i => by
    show segM A i m ↔ True ∧ segM A (i + ((0 : Nat) : Int)) m
    rw [show i + ((0 : Nat) : Int) = i by omega]
    exact ⟨fun h => ⟨trivial, h⟩, fun h => h.2⟩
  | x :: l, m, i => by
    show (A (2 * i) = x.1 ∧ (x.1 = 0 ∨ x.1 = 8 → A (2 * i + 1) = x.2) ∧ segM A (i + 1) (l ++ m)) ↔ (A (2 * i) = x.1 ∧ (x.1 = 0 ∨ x.1 = 8 → A (2 * i + 1) = x.2) ∧ segM A (i + 1) l) ∧ segM A (i + ((l.length + 1 : Nat) : Int)) m
    rw [segM_app l m (i + 1), show i + ((l.length + 1 : Nat) : Int) = i + 1 + (l.length : Int) by omega]
    exact ⟨fun h => ⟨⟨h.1, h.2.1, h.2.2.1⟩, h.2.2.2⟩, fun h => ⟨h.1.1, h.1.2.1, h.1.2.2, h.2⟩⟩
def fxM (I : Iv) (h : Int) : Int → Int := fun k => if k = 1 then I 77 h else if k = 2 then I 78 h else if k = 3 then I 79 h else I 85 h
section
variable (G : GE) (n : Nat) (I : Iv) (bk dr : Nat) (pt : Option Nat)
theorem c_X12_known (hn : 103 ≤ n) {h w v : Int} (g0 : 0 ≤ h) (g1 : h < 8) (w0 : 0 ≤ w) (w1 : w ≤ 4) (h85 : I 85 h = 0 ∨ I 85 h = 1) : Ct G yX12_known cX12_known 4 (some .int) 0 0 0 [.ref (gb G + 72), .int (jI h), .int (jI w), .int (jI v)] n I (rst bk dr pt) (PI (if w = 0 then v else fxM I h w) n I (rst bk dr pt)) := by
  refine Ct.of [some (.ref (gb G + 72)), some (.int (jI h)), some (.int (jI w)), some (.int (jI v))] (by decide) rfl rfl rfl ?_
  intro k SR
  have S : Sem G RX12 "known" cX12_known 4 (rmD 0 0 0) k := SR.sem
  refine r_iload_n S rfl dX12_known_0 ?_
  rcases (by omega : w = 0 ∨ w = 1 ∨ w = 2 ∨ w = 3 ∨ (w < 0 ∨ 3 < w)) with c1 | c1 | c1 | c1 | c1
  · refine r_tableIn S 0 (tgt := 32) dX12_known_1 c1 (by decide) (by decide) (by decide) rfl (by decide) ?_
    refine r_iload_n S rfl dX12_known_32 ?_
    refine r_iret SR dX12_known_33 ⟨by decide, by decide⟩ ?_
    exact ⟨by rw [if_pos c1], rfl, rfl, rfl⟩
  · refine r_tableIn S 1 (tgt := 34) dX12_known_1 c1 (by decide) (by decide) (by decide) rfl (by decide) ?_
    refine r_aload_n S rfl dX12_known_34 ?_
    refine r_getR S (o' := 77) fk_X12_22 dX12_known_35 rfl rfl (Nat.lt_of_lt_of_le (by decide) hn) rfl ?_
    refine r_iload_n S rfl dX12_known_38 ?_
    refine r_iald S (v := I 77 h) dX12_known_39 rfl rfl (Nat.lt_of_lt_of_le (by decide) hn) (by omega) (by omega) rfl ?_
    refine r_iret SR dX12_known_40 ⟨by decide, by decide⟩ ?_
    exact ⟨by rw [if_neg (by omega), c1]; rfl, rfl, rfl, rfl⟩
  · refine r_tableIn S 2 (tgt := 41) dX12_known_1 c1 (by decide) (by decide) (by decide) rfl (by decide) ?_
    refine r_aload_n S rfl dX12_known_41 ?_
    refine r_getR S (o' := 78) fk_X12_25 dX12_known_42 rfl rfl (Nat.lt_of_lt_of_le (by decide) hn) rfl ?_
    refine r_iload_n S rfl dX12_known_45 ?_
    refine r_iald S (v := I 78 h) dX12_known_46 rfl rfl (Nat.lt_of_lt_of_le (by decide) hn) (by omega) (by omega) rfl ?_
    refine r_iret SR dX12_known_47 ⟨by decide, by decide⟩ ?_
    exact ⟨by rw [if_neg (by omega), c1]; rfl, rfl, rfl, rfl⟩
  · refine r_tableIn S 3 (tgt := 48) dX12_known_1 c1 (by decide) (by decide) (by decide) rfl (by decide) ?_
    refine r_aload_n S rfl dX12_known_48 ?_
    refine r_getR S (o' := 79) fk_X12_28 dX12_known_49 rfl rfl (Nat.lt_of_lt_of_le (by decide) hn) rfl ?_
    refine r_iload_n S rfl dX12_known_52 ?_
    refine r_iald S (v := I 79 h) dX12_known_53 rfl rfl (Nat.lt_of_lt_of_le (by decide) hn) (by omega) (by omega) rfl ?_
    refine r_iret SR dX12_known_54 ⟨by decide, by decide⟩ ?_
    exact ⟨by rw [if_neg (by omega), c1]; rfl, rfl, rfl, rfl⟩
  · refine r_tableOut S (tgt := 55) dX12_known_1 (by omega) c1 (by decide) ?_
    refine r_aload_n S rfl dX12_known_55 ?_
    refine r_getR S (o' := 85) fk_X12_46 dX12_known_56 rfl rfl (Nat.lt_of_lt_of_le (by decide) hn) rfl ?_
    refine r_iload_n S rfl dX12_known_59 ?_
    refine r_bald S (v := I 85 h) dX12_known_60 rfl rfl (Nat.lt_of_lt_of_le (by decide) hn) (by omega) (by omega) rfl ?_
    refine r_if_eq S (tgt := 68) dX12_known_61 (by decide) (by omega) (fun c61 => ?_) (fun c61 => ?_)
    · refine r_iconst S dX12_known_68 ?_
      refine r_iret SR dX12_known_69 ⟨by decide, by decide⟩ ?_
      refine ⟨?_, rfl, rfl, rfl⟩
      rw [if_neg (by omega), show w = 4 by omega]
      show _ = some (Value.int (jI (I 85 h)))
      first | rw [show I 85 h = 0 by omega] | rw [show I 85 h = 1 by omega]
    · refine r_iconst S dX12_known_64 ?_
      refine r_goto S (tgt := 69) dX12_known_65 (by decide) ?_
      refine r_iret SR dX12_known_69 ⟨by decide, by decide⟩ ?_
      refine ⟨?_, rfl, rfl, rfl⟩
      rw [if_neg (by omega), show w = 4 by omega]
      show _ = some (Value.int (jI (I 85 h)))
      first | rw [show I 85 h = 0 by omega] | rw [show I 85 h = 1 by omega]
theorem c_X12_both (ρ : Rv) {x a b : Int} (x0 : 5 ≤ x) (x1 : x ≤ 12) (x8 : ¬ x = 8) (ha : rg a) (hb : rg b) : Ct G yX12_both cX12_both 3 (some .int) 0 0 0 [.int (jI x), .int (jI a), .int (jI b)] n I ρ (PI (opS x a b) n I ρ) := by
  refine Ct.of [some (.int (jI x)), some (.int (jI a)), some (.int (jI b))] (by decide) rfl rfl rfl ?_
  intro k SR
  have S : Sem G RX12 "both" cX12_both 3 (rmD 0 0 0) k := SR.sem
  refine r_iload_n S rfl dX12_both_0 ?_
  rcases (by omega : x = 5 ∨ x = 6 ∨ x = 7 ∨ x = 8 ∨ x = 9 ∨ x = 10 ∨ x = 11 ∨ (x < 5 ∨ 11 < x)) with c1 | c1 | c1 | c1 | c1 | c1 | c1 | c1
  · refine r_tableIn S 5 (tgt := 44) dX12_both_1 c1 (by decide) (by decide) (by decide) rfl (by decide) ?_
    refine r_iload_n S rfl dX12_both_44 ?_
    refine r_iload_n S rfl dX12_both_45 ?_
    refine r_iadd S dX12_both_46 ?_
    refine r_iret SR dX12_both_47 ⟨by decide, by decide⟩ ?_
    exact ⟨by rw [c1, ← wr_j]; rfl, rfl, rfl, rfl⟩
  · refine r_tableIn S 6 (tgt := 48) dX12_both_1 c1 (by decide) (by decide) (by decide) rfl (by decide) ?_
    refine r_iload_n S rfl dX12_both_48 ?_
    refine r_iload_n S rfl dX12_both_49 ?_
    refine r_isub S dX12_both_50 ?_
    refine r_iret SR dX12_both_51 ⟨by decide, by decide⟩ ?_
    exact ⟨by rw [c1, ← wr_j]; rfl, rfl, rfl, rfl⟩
  · refine r_tableIn S 7 (tgt := 52) dX12_both_1 c1 (by decide) (by decide) (by decide) rfl (by decide) ?_
    refine r_iload_n S rfl dX12_both_52 ?_
    refine r_iload_n S rfl dX12_both_53 ?_
    refine r_imul S dX12_both_54 ?_
    refine r_iret SR dX12_both_55 ⟨by decide, by decide⟩ ?_
    exact ⟨by rw [c1, ← wr_j]; rfl, rfl, rfl, rfl⟩
  · refine r_tableIn S 8 (tgt := 89) dX12_both_1 c1 (by decide) (by decide) (by decide) rfl (by decide) ?_
    refine r_iload_n S rfl dX12_both_89 ?_
    refine r_iload_n S rfl dX12_both_90 ?_
    refine r_iand S (v := andW a b) (andW_j a b) dX12_both_91 ?_
    refine r_iret SR dX12_both_92 ⟨by decide, by decide⟩ ?_
    first | exact absurd c1 x8 | exact ⟨by rw [show x = 12 by omega]; rfl, rfl, rfl, rfl⟩
  · refine r_tableIn S 9 (tgt := 56) dX12_both_1 c1 (by decide) (by decide) (by decide) rfl (by decide) ?_
    refine r_iload_n S rfl dX12_both_56 ?_
    refine r_iload_n S rfl dX12_both_57 ?_
    refine r_icmp_ge S (tgt := 65) dX12_both_58 (by decide) (by omega) (by omega) (fun c58 => ?_) (fun c58 => ?_)
    · refine r_iconst S dX12_both_65 ?_
      refine r_iret SR dX12_both_66 ⟨by decide, by decide⟩ ?_
      first | exact ⟨by rw [c1]; show _ = some (Value.int (jI (b2 (a < b)))); rw [b2_t (by omega)], rfl, rfl, rfl⟩ | exact ⟨by rw [c1]; show _ = some (Value.int (jI (b2 (a < b)))); rw [b2_f (by omega)], rfl, rfl, rfl⟩
    · refine r_iconst S dX12_both_61 ?_
      refine r_goto S (tgt := 66) dX12_both_62 (by decide) ?_
      refine r_iret SR dX12_both_66 ⟨by decide, by decide⟩ ?_
      first | exact ⟨by rw [c1]; show _ = some (Value.int (jI (b2 (a < b)))); rw [b2_t (by omega)], rfl, rfl, rfl⟩ | exact ⟨by rw [c1]; show _ = some (Value.int (jI (b2 (a < b)))); rw [b2_f (by omega)], rfl, rfl, rfl⟩
  · refine r_tableIn S 10 (tgt := 67) dX12_both_1 c1 (by decide) (by decide) (by decide) rfl (by decide) ?_
    refine r_iload_n S rfl dX12_both_67 ?_
    refine r_iload_n S rfl dX12_both_68 ?_
    refine r_icmp_ne S (tgt := 76) dX12_both_69 (by decide) (by omega) (by omega) (fun c69 => ?_) (fun c69 => ?_)
    · refine r_iconst S dX12_both_76 ?_
      refine r_iret SR dX12_both_77 ⟨by decide, by decide⟩ ?_
      first | exact ⟨by rw [c1]; show _ = some (Value.int (jI (b2 (a = b)))); rw [b2_t (by omega)], rfl, rfl, rfl⟩ | exact ⟨by rw [c1]; show _ = some (Value.int (jI (b2 (a = b)))); rw [b2_f (by omega)], rfl, rfl, rfl⟩
    · refine r_iconst S dX12_both_72 ?_
      refine r_goto S (tgt := 77) dX12_both_73 (by decide) ?_
      refine r_iret SR dX12_both_77 ⟨by decide, by decide⟩ ?_
      first | exact ⟨by rw [c1]; show _ = some (Value.int (jI (b2 (a = b)))); rw [b2_t (by omega)], rfl, rfl, rfl⟩ | exact ⟨by rw [c1]; show _ = some (Value.int (jI (b2 (a = b)))); rw [b2_f (by omega)], rfl, rfl, rfl⟩
  · refine r_tableIn S 11 (tgt := 78) dX12_both_1 c1 (by decide) (by decide) (by decide) rfl (by decide) ?_
    refine r_iload_n S rfl dX12_both_78 ?_
    refine r_iload_n S rfl dX12_both_79 ?_
    refine r_icmp_le S (tgt := 87) dX12_both_80 (by decide) (by omega) (by omega) (fun c80 => ?_) (fun c80 => ?_)
    · refine r_iconst S dX12_both_87 ?_
      refine r_iret SR dX12_both_88 ⟨by decide, by decide⟩ ?_
      first | exact ⟨by rw [c1]; show _ = some (Value.int (jI (b2 (b < a)))); rw [b2_t (by omega)], rfl, rfl, rfl⟩ | exact ⟨by rw [c1]; show _ = some (Value.int (jI (b2 (b < a)))); rw [b2_f (by omega)], rfl, rfl, rfl⟩
    · refine r_iconst S dX12_both_83 ?_
      refine r_goto S (tgt := 88) dX12_both_84 (by decide) ?_
      refine r_iret SR dX12_both_88 ⟨by decide, by decide⟩ ?_
      first | exact ⟨by rw [c1]; show _ = some (Value.int (jI (b2 (b < a)))); rw [b2_t (by omega)], rfl, rfl, rfl⟩ | exact ⟨by rw [c1]; show _ = some (Value.int (jI (b2 (b < a)))); rw [b2_f (by omega)], rfl, rfl, rfl⟩
  · refine r_tableOut S (tgt := 89) dX12_both_1 (by omega) c1 (by decide) ?_
    refine r_iload_n S rfl dX12_both_89 ?_
    refine r_iload_n S rfl dX12_both_90 ?_
    refine r_iand S (v := andW a b) (andW_j a b) dX12_both_91 ?_
    refine r_iret SR dX12_both_92 ⟨by decide, by decide⟩ ?_
    first | exact absurd c1 x8 | exact ⟨by rw [show x = 12 by omega]; rfl, rfl, rfl, rfl⟩
theorem c_X12_comesTo (hn : 103 ≤ n) {h a b : Int} (c : List (Int × Int)) (g0 : 0 ≤ h) (g1 : h < 8) (a0 : 0 ≤ a) (hab : b = a + c.length) (hb : b ≤ 410) (hs : segM (I 88) a c) (hk : okS c 0 1) (h77 : rg (I 77 h)) (h78 : rg (I 78 h)) (h79 : rg (I 79 h)) (h85 : I 85 h = 0 ∨ I 85 h = 1) (hv : ∀ j, 0 ≤ j → j < 820 → rg (I 88 j)) : Ct G yX12_comesTo cX12_comesTo 8 (some .int) 1 0 0 [.ref (gb G + 72), .int (jI h), .int (jI a), .int (jI b)] n I (rst bk dr pt) (fun v n' I' ρ' => (∃ r, v = some (.int (jI r)) ∧ rg r ∧ ev (fxM I h) c [] = [r]) ∧ n = n' ∧ rst bk dr pt = ρ' ∧ ∀ o', o' ≠ 92 → I' o' = I o') := by
  refine Ct.of [some (.ref (gb G + 72)), some (.int (jI h)), some (.int (jI a)), some (.int (jI b)), none, none, none, none] (by decide) rfl rfl rfl ?_
  intro k SR
  have S : Sem G RX12 "comesTo" cX12_comesTo 8 (rmD 1 0 0) k := SR.sem
  obtain ⟨R, eR⟩ : ∃ R, R = ev (fxM I h) c [] := ⟨_, rfl⟩
  rw [← eR] at SR
  have hfx : ∀ w, rg (fxM I h w) := fun w => by
    unfold fxM
    exact rg_ite h77 (rg_ite h78 (rg_ite h79 (by omega)))
  have loop : ∀ (l : List (Int × Int)) (i : Int) (st : List Int) (J : Iv), 0 ≤ i → b = i + l.length → segM (I 88) i l → okS l st.length 1 → st.length ≤ 24 → (∀ x ∈ st, rg x) → (∀ o', o' ≠ 92 → J o' = I o') → holdS (J 92) st → ev (fxM I h) l st = R → k 6 [some (.ref (gb G + 72)), some (.int (jI h)), some (.int (jI a)), some (.int (jI b)), some (.int (jI (st.length : Int))), some (.int (jI i)), none, none] [] n J (rst bk dr pt) 0 0 := by
    intro l
    induction l with
    | nil =>
      intro i st J i0 ib hs hk h24 hr hJ hS hR
      have hst : st.length = 1 := hk
      obtain ⟨r, rfl⟩ : ∃ r, st = [r] := List.length_eq_one_iff.mp hst
      have hib : b = i := by rw [ib]; simp
      have e0 : J 92 0 = r := hS.1
      refine r_iload S rfl dX12_comesTo_6 ?_
      refine r_iload_n S rfl dX12_comesTo_8 ?_
      refine r_icmp_ge S (tgt := 127) dX12_comesTo_9 (by decide) (by omega) (by omega) (fun c9 => ?_) (fun c9 => ?_)
      · refine r_aload_n S rfl dX12_comesTo_127 ?_
        refine r_getR S (o' := 92) fk_X12_68 dX12_comesTo_128 rfl rfl (Nat.lt_of_lt_of_le (by decide) hn) rfl ?_
        refine r_iconst S dX12_comesTo_131 ?_
        refine r_iald S (v := r) dX12_comesTo_132 rfl rfl (Nat.lt_of_lt_of_le (by decide) hn) (by omega) (by omega) e0 ?_
        refine r_iret SR dX12_comesTo_133 ⟨by decide, by decide⟩ ?_
        exact ⟨⟨r, rfl, hr r (by simp), hR.symm⟩, rfl, rfl, hJ⟩
      · exact absurd c9 (by omega)
    | cons s l ih =>
      intro i st J i0 ib hs hk h24 hr hJ hS hR
      have hib : i < b := by rw [ib]; simp only [List.length_cons]; omega
      have hib' : b = i + 1 + l.length := by rw [ib]; simp only [List.length_cons]; omega
      have e88 : J 88 = I 88 := hJ 88 (by decide)
      obtain ⟨x, ex⟩ : ∃ x, x = s.1 := ⟨_, rfl⟩
      obtain ⟨v, ev_⟩ : ∃ v, v = I 88 (2 * i + 1) := ⟨_, rfl⟩
      have e1 : J 88 (2 * i) = x := by rw [e88, ex]; exact hs.1
      have e2 : J 88 (2 * i + 1) = v := by rw [e88, ev_]
      have hv1 : rg v := by rw [ev_]; exact hv _ (by omega) (by omega)
      have hvs : s.1 = 0 ∨ s.1 = 8 → v = s.2 := fun q => by rw [ev_]; exact hs.2.1 q
      obtain ⟨T, eT⟩ : ∃ T : Int, T = (st.length : Int) := ⟨_, rfl⟩
      have hx : 0 ≤ x ∧ x ≤ 12 := by
        unfold okS at hk
        by_cases q : s.1 = 0
        · omega
        · rw [if_neg q] at hk
          by_cases q2 : 1 ≤ s.1 ∧ s.1 ≤ 4
          · omega
          · rw [if_neg q2] at hk
            by_cases q3 : s.1 = 8
            · omega
            · rw [if_neg q3] at hk
              omega
      have hlen := ev1_len (fxM I h) hk
      have next : ∀ (st' : List Int) (J' : Iv), ev1 (fxM I h) s st = st' → st'.length ≤ 24 → (∀ y ∈ st', rg y) → (∀ o', o' ≠ 92 → J' o' = I o') → holdS (J' 92) st' → k 6 [some (.ref (gb G + 72)), some (.int (jI h)), some (.int (jI a)), some (.int (jI b)), some (.int (jI (st'.length : Int))), some (.int (jI (i + 1))), none, none] [] n J' (rst bk dr pt) 0 0 := by
        intro st' J' e1 e2 e3 e4 e5
        rw [e1] at hlen
        exact ih (i + 1) st' J' (by omega) hib' hs.2.2 hlen e2 e3 e4 e5 (by rw [← e1]; exact hR)
      rw [← eT]
      refine r_iload S rfl dX12_comesTo_6 ?_
      refine r_iload_n S rfl dX12_comesTo_8 ?_
      refine r_icmp_ge S (tgt := 127) dX12_comesTo_9 (by decide) (by omega) (by omega) (fun c9 => ?_) (fun c9 => ?_)
      · exact absurd c9 (by omega)
      · refine r_aload_n S rfl dX12_comesTo_12 ?_
        refine r_getR S (o' := 88) fk_X12_56 dX12_comesTo_13 rfl rfl (Nat.lt_of_lt_of_le (by decide) hn) rfl ?_
        refine r_iconst S dX12_comesTo_16 ?_
        refine r_iload S rfl dX12_comesTo_17 ?_
        refine r_imul S dX12_comesTo_19 ?_
        refine r_iald S (v := x) dX12_comesTo_20 rfl rfl (Nat.lt_of_lt_of_le (by decide) hn) (by omega) (by omega) e1 ?_
        refine r_istore S dX12_comesTo_21 rfl rfl ?_
        refine r_aload_n S rfl dX12_comesTo_23 ?_
        refine r_getR S (o' := 88) fk_X12_56 dX12_comesTo_24 rfl rfl (Nat.lt_of_lt_of_le (by decide) hn) rfl ?_
        refine r_iconst S dX12_comesTo_27 ?_
        refine r_iload S rfl dX12_comesTo_28 ?_
        refine r_imul S dX12_comesTo_30 ?_
        refine r_iconst S dX12_comesTo_31 ?_
        refine r_iadd S dX12_comesTo_32 ?_
        refine r_iald S (v := v) dX12_comesTo_33 rfl rfl (Nat.lt_of_lt_of_le (by decide) hn) (by omega) (by omega) e2 ?_
        refine r_istore S dX12_comesTo_34 rfl rfl ?_
        refine r_iload S rfl dX12_comesTo_36 ?_
        refine r_iconst S dX12_comesTo_38 ?_
        refine r_icmp_ge S (tgt := 64) dX12_comesTo_39 (by decide) (by omega) (by omega) (fun c39 => ?_) (fun c39 => ?_)
        · refine r_iload S rfl dX12_comesTo_64 ?_
          refine r_bipush S (by decide +kernel) dX12_comesTo_66 ?_
          refine r_icmp_ne S (tgt := 88) dX12_comesTo_68 (by decide) (by omega) (by omega) (fun c68 => ?_) (fun c68 => ?_)
          · have hk' := hk
            unfold okS at hk'
            rw [if_neg (by omega), if_neg (by omega), if_neg (by omega)] at hk'
            obtain ⟨w, u, t, rfl⟩ : ∃ w u t, st = w :: u :: t := by
              cases st with
              | nil => exact absurd hk'.2.2.1 (by decide)
              | cons w t =>
                cases t with
                | nil => exact absurd hk'.2.2.1 (by simp)
                | cons u t => exact ⟨w, u, t, rfl⟩
            have hw := hr w (by simp)
            have hu := hr u (by simp)
            simp only [List.length_cons] at eT h24
            have ew : J 92 (T + -1) = w := by rw [eT, show (((t.length + 1 + 1 : Nat)) : Int) + -1 = ((u :: t).length : Int) by simp only [List.length_cons]; omega]; exact hS.1
            have eu : J 92 (T + -1 - 1) = u := by rw [eT, show (((t.length + 1 + 1 : Nat)) : Int) + -1 - 1 = (t.length : Int) by omega]; exact hS.2.1
            refine r_iinc S dX12_comesTo_88 rfl rfl rfl ?_
            refine r_aload_n S rfl dX12_comesTo_91 ?_
            refine r_getR S (o' := 92) fk_X12_68 dX12_comesTo_92 rfl rfl (Nat.lt_of_lt_of_le (by decide) hn) rfl ?_
            refine r_iload S rfl dX12_comesTo_95 ?_
            refine r_iconst S dX12_comesTo_97 ?_
            refine r_isub S dX12_comesTo_98 ?_
            refine r_iload S rfl dX12_comesTo_99 ?_
            refine r_aload_n S rfl dX12_comesTo_101 ?_
            refine r_getR S (o' := 92) fk_X12_68 dX12_comesTo_102 rfl rfl (Nat.lt_of_lt_of_le (by decide) hn) rfl ?_
            refine r_iload S rfl dX12_comesTo_105 ?_
            refine r_iconst S dX12_comesTo_107 ?_
            refine r_isub S dX12_comesTo_108 ?_
            refine r_iald S (v := u) dX12_comesTo_109 rfl rfl (Nat.lt_of_lt_of_le (by decide) hn) (by omega) (by omega) eu ?_
            refine r_aload_n S rfl dX12_comesTo_110 ?_
            refine r_getR S (o' := 92) fk_X12_68 dX12_comesTo_111 rfl rfl (Nat.lt_of_lt_of_le (by decide) hn) rfl ?_
            refine r_iload S rfl dX12_comesTo_114 ?_
            refine r_iald S (v := w) dX12_comesTo_116 rfl rfl (Nat.lt_of_lt_of_le (by decide) hn) (by omega) (by omega) ew ?_
            refine r_callS S lk_X12_228 mk_X12_both (c_X12_both G n J _ (by omega) (by omega) (by omega) hu hw) rfl rfl (Nat.le_of_ble_eq_true rfl) ⟨by decide, by decide⟩ rfl ⟨by decide, by decide⟩ dX12_comesTo_117 ?_
            rintro _ _ _ _ ⟨rfl, rfl, rfl, rfl⟩
            refine r_iast S dX12_comesTo_120 rfl rfl (Nat.lt_of_lt_of_le (by decide) hn) (by omega) (by omega) ?_
            refine r_iinc S dX12_comesTo_121 rfl rfl rfl ?_
            refine r_goto S (tgt := 6) dX12_comesTo_124 (by decide) ?_
            refine r_drop S 6 ?_
            refine r_drop S 7 ?_
            first
              | (have c39' : x < 5 := c39
                 have hval : rg (if x = 0 then v else fxM J h x) ∧ ev1 (fxM I h) s st = (if x = 0 then v else fxM J h x) :: st := by
                   have efx : fxM J h x = fxM I h x := by
                     unfold fxM
                     rw [hJ 77 (by decide), hJ 78 (by decide), hJ 79 (by decide), hJ 85 (by decide)]
                   rw [efx]
                   refine ⟨rg_ite hv1 (hfx x), ?_⟩
                   unfold ev1
                   rw [← ex]
                   by_cases q : x = 0
                   · rw [if_pos q, if_pos q, hvs (by omega)]
                   · rw [if_neg q, if_neg q, if_pos (by omega)]
                 have nx := next _ (up J 92 T (if x = 0 then v else fxM J h x)) hval.2 (by simp only [List.length_cons]; omega) (fun y hy => by
                   rcases List.mem_cons.mp hy with rfl | hy
                   · exact hval.1
                   · exact hr y hy) (fun o' q => by rw [up_o q]; exact hJ o' q) ⟨by rw [← eT, up_s], holdS_congr st (fun j q0 q1 => up_i (by omega)) hS⟩
                 rw [List.length_cons, show (((st.length + 1 : Nat)) : Int) = T + 1 by omega] at nx
                 exact nx)
              | (have nx := next (divW w v :: t) (up J 92 (T - 1) (divW w v)) (by unfold ev1; rw [if_neg (by omega), if_neg (by omega), if_pos hs8, ← hvs (Or.inr hs8)]) (by simp only [List.length_cons]; omega) (fun y hy => by
                   rcases List.mem_cons.mp hy with rfl | hy
                   · exact divW_rg _ _
                   · exact hr y (by simp [hy])) (fun o' q => by rw [up_o q]; exact hJ o' q) ⟨by rw [show (t.length : Int) = T - 1 by omega, up_s], holdS_congr t (fun j q0 q1 => up_i (by omega)) hS.2⟩
                 rw [List.length_cons, ← eT] at nx
                 exact nx)
              | (have nx := next (opS x u w :: t) (up J 92 (T + -1 - 1) (opS x u w)) (by unfold ev1; rw [if_neg (by omega), if_neg (by omega), if_neg (by omega), ← ex]) (by simp only [List.length_cons]; omega) (fun y hy => by
                   rcases List.mem_cons.mp hy with rfl | hy
                   · exact opS_rg _ _ _
                   · exact hr y (by simp [hy])) (fun o' q => by rw [up_o q]; exact hJ o' q) ⟨by rw [show (t.length : Int) = T + -1 - 1 by omega, up_s], holdS_congr t (fun j q0 q1 => up_i (by omega)) hS.2.2⟩
                 rw [List.length_cons, show (((t.length + 1 : Nat)) : Int) = T + -1 by omega] at nx
                 exact nx)
          · have hs8 : s.1 = 8 := by omega
            have hk' := hk
            unfold okS at hk'
            rw [if_neg (by omega), if_neg (by omega), if_pos hs8] at hk'
            obtain ⟨w, t, rfl⟩ : ∃ w t, st = w :: t := by
              cases st with
              | nil => exact absurd hk'.2.2.1 (by decide)
              | cons w t => exact ⟨w, t, rfl⟩
            have hw := hr w (by simp)
            simp only [List.length_cons] at eT h24
            have ew : J 92 (T - 1) = w := by rw [eT, show (((t.length + 1 : Nat)) : Int) - 1 = (t.length : Int) by omega]; exact hS.1
            refine r_aload_n S rfl dX12_comesTo_71 ?_
            refine r_getR S (o' := 92) fk_X12_68 dX12_comesTo_72 rfl rfl (Nat.lt_of_lt_of_le (by decide) hn) rfl ?_
            refine r_iload S rfl dX12_comesTo_75 ?_
            refine r_iconst S dX12_comesTo_77 ?_
            refine r_isub S dX12_comesTo_78 ?_
            refine r_dup2 S rfl rfl dX12_comesTo_79 ?_
            refine r_iald S (v := w) dX12_comesTo_80 rfl rfl (Nat.lt_of_lt_of_le (by decide) hn) (by omega) (by omega) ew ?_
            refine r_iload S rfl dX12_comesTo_81 ?_
            refine r_idiv S (v := divW w v) (fun q => by have q2 := (jI_eq hv1 rg_0).mp q; rw [hvs (Or.inr hs8)] at q2; omega) (divW_j w v) dX12_comesTo_83 ?_
            refine r_iast S dX12_comesTo_84 rfl rfl (Nat.lt_of_lt_of_le (by decide) hn) (by omega) (by omega) ?_
            refine r_goto S (tgt := 121) dX12_comesTo_85 (by decide) ?_
            refine r_iinc S dX12_comesTo_121 rfl rfl rfl ?_
            refine r_goto S (tgt := 6) dX12_comesTo_124 (by decide) ?_
            refine r_drop S 6 ?_
            refine r_drop S 7 ?_
            first
              | (have c39' : x < 5 := c39
                 have hval : rg (if x = 0 then v else fxM J h x) ∧ ev1 (fxM I h) s st = (if x = 0 then v else fxM J h x) :: st := by
                   have efx : fxM J h x = fxM I h x := by
                     unfold fxM
                     rw [hJ 77 (by decide), hJ 78 (by decide), hJ 79 (by decide), hJ 85 (by decide)]
                   rw [efx]
                   refine ⟨rg_ite hv1 (hfx x), ?_⟩
                   unfold ev1
                   rw [← ex]
                   by_cases q : x = 0
                   · rw [if_pos q, if_pos q, hvs (by omega)]
                   · rw [if_neg q, if_neg q, if_pos (by omega)]
                 have nx := next _ (up J 92 T (if x = 0 then v else fxM J h x)) hval.2 (by simp only [List.length_cons]; omega) (fun y hy => by
                   rcases List.mem_cons.mp hy with rfl | hy
                   · exact hval.1
                   · exact hr y hy) (fun o' q => by rw [up_o q]; exact hJ o' q) ⟨by rw [← eT, up_s], holdS_congr st (fun j q0 q1 => up_i (by omega)) hS⟩
                 rw [List.length_cons, show (((st.length + 1 : Nat)) : Int) = T + 1 by omega] at nx
                 exact nx)
              | (have nx := next (divW w v :: t) (up J 92 (T - 1) (divW w v)) (by unfold ev1; rw [if_neg (by omega), if_neg (by omega), if_pos hs8, ← hvs (Or.inr hs8)]) (by simp only [List.length_cons]; omega) (fun y hy => by
                   rcases List.mem_cons.mp hy with rfl | hy
                   · exact divW_rg _ _
                   · exact hr y (by simp [hy])) (fun o' q => by rw [up_o q]; exact hJ o' q) ⟨by rw [show (t.length : Int) = T - 1 by omega, up_s], holdS_congr t (fun j q0 q1 => up_i (by omega)) hS.2⟩
                 rw [List.length_cons, ← eT] at nx
                 exact nx)
              | (have nx := next (opS x u w :: t) (up J 92 (T + -1 - 1) (opS x u w)) (by unfold ev1; rw [if_neg (by omega), if_neg (by omega), if_neg (by omega), ← ex]) (by simp only [List.length_cons]; omega) (fun y hy => by
                   rcases List.mem_cons.mp hy with rfl | hy
                   · exact opS_rg _ _ _
                   · exact hr y (by simp [hy])) (fun o' q => by rw [up_o q]; exact hJ o' q) ⟨by rw [show (t.length : Int) = T + -1 - 1 by omega, up_s], holdS_congr t (fun j q0 q1 => up_i (by omega)) hS.2.2⟩
                 rw [List.length_cons, show (((t.length + 1 : Nat)) : Int) = T + -1 by omega] at nx
                 exact nx)
        · have hk' : st.length + 1 ≤ 24 := by
            unfold okS at hk
            by_cases q : s.1 = 0
            · rw [if_pos q] at hk
              exact hk.2.2.1
            · rw [if_neg q, if_pos (by omega)] at hk
              exact hk.1
          refine r_aload_n S rfl dX12_comesTo_42 ?_
          refine r_getR S (o' := 92) fk_X12_68 dX12_comesTo_43 rfl rfl (Nat.lt_of_lt_of_le (by decide) hn) rfl ?_
          refine r_iload S rfl dX12_comesTo_46 ?_
          refine r_aload_n S rfl dX12_comesTo_48 ?_
          refine r_iload_n S rfl dX12_comesTo_49 ?_
          refine r_iload S rfl dX12_comesTo_50 ?_
          refine r_iload S rfl dX12_comesTo_52 ?_
          refine r_callV S lk_X12_224 mk_X12_known (c_X12_known G n J bk dr pt hn g0 g1 hx.1 (by omega) (by rw [hJ 85 (by decide)]; exact h85)) rfl (Nat.lt_of_lt_of_le (by decide) hn) rfl rfl rfl (Nat.le_of_ble_eq_true rfl) ⟨by decide, by decide⟩ rfl ⟨by decide, by decide⟩ dX12_comesTo_54 ?_
          rintro _ _ _ _ ⟨rfl, rfl, rfl, rfl⟩
          refine r_iast S dX12_comesTo_57 rfl rfl (Nat.lt_of_lt_of_le (by decide) hn) (by omega) (by omega) ?_
          refine r_iinc S dX12_comesTo_58 rfl rfl rfl ?_
          refine r_goto S (tgt := 121) dX12_comesTo_61 (by decide) ?_
          refine r_iinc S dX12_comesTo_121 rfl rfl rfl ?_
          refine r_goto S (tgt := 6) dX12_comesTo_124 (by decide) ?_
          refine r_drop S 6 ?_
          refine r_drop S 7 ?_
          first
            | (have c39' : x < 5 := c39
               have hval : rg (if x = 0 then v else fxM J h x) ∧ ev1 (fxM I h) s st = (if x = 0 then v else fxM J h x) :: st := by
                 have efx : fxM J h x = fxM I h x := by
                   unfold fxM
                   rw [hJ 77 (by decide), hJ 78 (by decide), hJ 79 (by decide), hJ 85 (by decide)]
                 rw [efx]
                 refine ⟨rg_ite hv1 (hfx x), ?_⟩
                 unfold ev1
                 rw [← ex]
                 by_cases q : x = 0
                 · rw [if_pos q, if_pos q, hvs (by omega)]
                 · rw [if_neg q, if_neg q, if_pos (by omega)]
               have nx := next _ (up J 92 T (if x = 0 then v else fxM J h x)) hval.2 (by simp only [List.length_cons]; omega) (fun y hy => by
                 rcases List.mem_cons.mp hy with rfl | hy
                 · exact hval.1
                 · exact hr y hy) (fun o' q => by rw [up_o q]; exact hJ o' q) ⟨by rw [← eT, up_s], holdS_congr st (fun j q0 q1 => up_i (by omega)) hS⟩
               rw [List.length_cons, show (((st.length + 1 : Nat)) : Int) = T + 1 by omega] at nx
               exact nx)
            | (have nx := next (divW w v :: t) (up J 92 (T - 1) (divW w v)) (by unfold ev1; rw [if_neg (by omega), if_neg (by omega), if_pos hs8, ← hvs (Or.inr hs8)]) (by simp only [List.length_cons]; omega) (fun y hy => by
                 rcases List.mem_cons.mp hy with rfl | hy
                 · exact divW_rg _ _
                 · exact hr y (by simp [hy])) (fun o' q => by rw [up_o q]; exact hJ o' q) ⟨by rw [show (t.length : Int) = T - 1 by omega, up_s], holdS_congr t (fun j q0 q1 => up_i (by omega)) hS.2⟩
               rw [List.length_cons, ← eT] at nx
               exact nx)
            | (have nx := next (opS x u w :: t) (up J 92 (T + -1 - 1) (opS x u w)) (by unfold ev1; rw [if_neg (by omega), if_neg (by omega), if_neg (by omega), ← ex]) (by simp only [List.length_cons]; omega) (fun y hy => by
                 rcases List.mem_cons.mp hy with rfl | hy
                 · exact opS_rg _ _ _
                 · exact hr y (by simp [hy])) (fun o' q => by rw [up_o q]; exact hJ o' q) ⟨by rw [show (t.length : Int) = T + -1 - 1 by omega, up_s], holdS_congr t (fun j q0 q1 => up_i (by omega)) hS.2.2⟩
               rw [List.length_cons, show (((t.length + 1 : Nat)) : Int) = T + -1 by omega] at nx
               exact nx)
  refine r_iconst S dX12_comesTo_0 ?_
  refine r_istore S dX12_comesTo_1 rfl rfl ?_
  refine r_iload_n S rfl dX12_comesTo_3 ?_
  refine r_istore S dX12_comesTo_4 rfl rfl ?_
  exact loop c a [] I a0 hab hs hk (by decide) (fun x hx => absurd hx List.not_mem_nil) (fun _ _ => rfl) trivial eR.symm
/-- the reference's tables hold the rules rs -/
def modP (A F W : Int → Int) : List (List (Int × Int) × List (Int × Int)) → Nat → Prop
  | [], _ => True
  | r :: rs, i => 0 ≤ F i ∧ W i = F i + r.1.length ∧ F (i + 1) = W i + r.2.length ∧ F (i + 1) ≤ 410 ∧ segM A (F i) r.1 ∧ segM A (W i) r.2 ∧ okS r.1 0 1 ∧ okS r.2 0 1 ∧ modP A F W rs (i + 1)
theorem modP_nth {A F W : Int → Int} : ∀ (rs : List (List (Int × Int) × List (Int × Int))) (i j : Nat), modP A F W rs i → j < rs.length → modP A F W (rs.drop j) (i + j) ∧ rs.drop j ≠ []
  | [], _, _, _, h => absurd h (Nat.not_lt_zero _)
  | r :: rs, i, 0, h, _ => ⟨h, by simp⟩
  | r :: rs, i, j + 1, h, hj => by
    have := modP_nth rs (i + 1) j h.2.2.2.2.2.2.2.2 (Nat.lt_of_succ_lt_succ hj)
    rw [show i + (j + 1) = i + 1 + j by omega]
    exact this
def modI (I : Iv) (rs : List (List (Int × Int) × List (Int × Int))) : Prop := I 72 17 = rs.length ∧ rs.length ≤ 10 ∧ (∀ j, 0 ≤ j → j < 820 → rg (I 88 j)) ∧ modP (I 88) (I 86) (I 87) rs 0
theorem c_X12_ruleOf (hn : 103 ≤ n) {rs : List (List (Int × Int) × List (Int × Int))} (hm : modI I rs) {h : Int} (g0 : 0 ≤ h) (g1 : h < 8) (h77 : rg (I 77 h)) (h78 : rg (I 78 h)) (h79 : rg (I 79 h)) (h85 : I 85 h = 0 ∨ I 85 h = 1) : Ct G yX12_ruleOf cX12_ruleOf 3 (some .int) 2 0 0 [.ref (gb G + 72), .int (jI h)] n I (rst bk dr pt) (fun v n' I' ρ' => v = some (.int (jI (ruleS (fxM I h) rs 0))) ∧ n = n' ∧ rst bk dr pt = ρ' ∧ ∀ o', o' ≠ 92 → I' o' = I o') := by
  refine Ct.of [some (.ref (gb G + 72)), some (.int (jI h)), none] (by decide) rfl rfl rfl ?_
  intro k SR
  have S : Sem G RX12 "ruleOf" cX12_ruleOf 3 (rmD 2 0 0) k := SR.sem
  obtain ⟨h0, h1, hv, hb⟩ := hm
  obtain ⟨R, eR⟩ : ∃ R, R = ruleS (fxM I h) rs 0 := ⟨_, rfl⟩
  rw [← eR] at SR
  have loop : ∀ (l : List (List (Int × Int) × List (Int × Int))) (i : Nat) (J : Iv), (i : Int) + l.length = rs.length → (∀ o', o' ≠ 92 → J o' = I o') → modP (I 88) (I 86) (I 87) l i → ruleS (fxM I h) l i = R → k 2 [some (.ref (gb G + 72)), some (.int (jI h)), some (.int (jI (i : Int)))] [] n J (rst bk dr pt) 0 0 := by
    intro l
    induction l with
    | nil =>
      intro i J hi hJ hb hR
      have e0 : J 72 17 = rs.length := by rw [hJ 72 (by decide)]; exact h0
      have hi' : (i : Int) = rs.length := by simpa using hi
      refine r_iload_n S rfl dX12_ruleOf_2 ?_
      refine r_aload_n S rfl dX12_ruleOf_3 ?_
      refine r_getI S (v := J 72 17) fk_X12_221 dX12_ruleOf_4 rfl rfl (Nat.lt_of_lt_of_le (by decide) hn) rfl ?_
      refine r_icmp_ge S (tgt := 41) dX12_ruleOf_7 (by decide) (by omega) (by omega) (fun c7 => ?_) (fun c7 => ?_)
      · refine r_iconst S dX12_ruleOf_41 ?_
        refine r_iret SR dX12_ruleOf_42 ⟨by decide, by decide⟩ ?_
        exact ⟨by rw [← hR]; rfl, rfl, rfl, hJ⟩
      · exact absurd c7 (by omega)
    | cons r l ih =>
      intro i J hi hJ hb hR
      have e0 : J 72 17 = rs.length := by rw [hJ 72 (by decide)]; exact h0
      have hi' : (i : Int) < rs.length := by simp only [List.length_cons] at hi; omega
      have hi1 : (((i + 1 : Nat)) : Int) + l.length = rs.length := by simp only [List.length_cons] at hi; omega
      obtain ⟨b1, b2', b3, b4, b5, b6, b7, b8, b9⟩ := hb
      have efx : fxM J h = fxM I h := by
        unfold fxM
        rw [hJ 77 (by decide), hJ 78 (by decide), hJ 79 (by decide), hJ 85 (by decide)]
      refine r_iload_n S rfl dX12_ruleOf_2 ?_
      refine r_aload_n S rfl dX12_ruleOf_3 ?_
      refine r_getI S (v := J 72 17) fk_X12_221 dX12_ruleOf_4 rfl rfl (Nat.lt_of_lt_of_le (by decide) hn) rfl ?_
      refine r_icmp_ge S (tgt := 41) dX12_ruleOf_7 (by decide) (by omega) (by omega) (fun c7 => ?_) (fun c7 => ?_)
      · exact absurd c7 (by omega)
      · refine r_aload_n S rfl dX12_ruleOf_10 ?_
        refine r_iload_n S rfl dX12_ruleOf_11 ?_
        refine r_aload_n S rfl dX12_ruleOf_12 ?_
        refine r_getR S (o' := 87) fk_X12_53 dX12_ruleOf_13 rfl rfl (Nat.lt_of_lt_of_le (by decide) hn) rfl ?_
        refine r_iload_n S rfl dX12_ruleOf_16 ?_
        refine r_iald S (v := I 87 (i : Int)) dX12_ruleOf_17 rfl rfl (Nat.lt_of_lt_of_le (by decide) hn) (by omega) (by omega) (by rw [hJ 87 (by decide)]) ?_
        refine r_aload_n S rfl dX12_ruleOf_18 ?_
        refine r_getR S (o' := 86) fk_X12_50 dX12_ruleOf_19 rfl rfl (Nat.lt_of_lt_of_le (by decide) hn) rfl ?_
        refine r_iload_n S rfl dX12_ruleOf_22 ?_
        refine r_iconst S dX12_ruleOf_23 ?_
        refine r_iadd S dX12_ruleOf_24 ?_
        refine r_iald S (v := I 86 ((i : Int) + 1)) dX12_ruleOf_25 rfl rfl (Nat.lt_of_lt_of_le (by decide) hn) (by omega) (by omega) (by rw [hJ 86 (by decide)]) ?_
        refine r_callV S lk_X12_231 mk_X12_comesTo (c_X12_comesTo G n J bk dr pt hn r.2 g0 g1 (by omega) b3 b4 (by rw [hJ 88 (by decide)]; exact b6) b8 (by rw [hJ 77 (by decide)]; exact h77) (by rw [hJ 78 (by decide)]; exact h78) (by rw [hJ 79 (by decide)]; exact h79) (by rw [hJ 85 (by decide)]; exact h85) (by rw [hJ 88 (by decide)]; exact hv)) rfl (Nat.lt_of_lt_of_le (by decide) hn) rfl rfl rfl (Nat.le_of_ble_eq_true rfl) ⟨by decide, by decide⟩ rfl ⟨by decide, by decide⟩ dX12_ruleOf_26 ?_
        rintro _ _ J2 _ ⟨⟨w, rfl, hw, hev⟩, rfl, rfl, hJ2⟩
        rw [efx] at hev
        have hJ3 : ∀ o', o' ≠ 92 → J2 o' = I o' := fun o' q => (hJ2 o' q).trans (hJ o' q)
        refine r_iconst S dX12_ruleOf_29 ?_
        refine r_icmp_ne S (tgt := 35) dX12_ruleOf_30 (by decide) hw (by decide) (fun c30 => ?_) (fun c30 => ?_)
        · refine r_iinc S dX12_ruleOf_35 rfl rfl rfl ?_
          refine r_goto S (tgt := 2) dX12_ruleOf_38 (by decide) ?_
          refine ih (i + 1) J2 hi1 hJ3 b9 ?_
          rw [← hR, ruleS, if_neg (by rw [hev]; intro q; exact c30 (List.cons.inj q).1)]
        · refine r_iload_n S rfl dX12_ruleOf_33 ?_
          refine r_iret SR dX12_ruleOf_34 ⟨by decide, by decide⟩ ?_
          exact ⟨by rw [← hR, ruleS, if_pos (by rw [hev, c30])], rfl, rfl, hJ3⟩
  refine r_iconst S dX12_ruleOf_0 ?_
  refine r_istore_n S dX12_ruleOf_1 rfl rfl ?_
  exact loop rs 0 I (by simp) (fun _ _ => rfl) hb eR.symm
theorem c_X12_dueOf (hn : 103 ≤ n) {rs : List (List (Int × Int) × List (Int × Int))} (hm : modI I rs) {h : Int} (g0 : 0 ≤ h) (g1 : h < 8) (h77 : rg (I 77 h)) (h78 : rg (I 78 h)) (h79 : rg (I 79 h)) (h85 : I 85 h = 0 ∨ I 85 h = 1) : Ct G yX12_dueOf cX12_dueOf 4 (some .int) 3 0 0 [.ref (gb G + 72), .int (jI h)] n I (rst bk dr pt) (fun v n' I' ρ' => v = some (.int (jI (dueS (fxM I h) rs))) ∧ n = n' ∧ rst bk dr pt = ρ' ∧ ∀ o', o' ≠ 92 → I' o' = I o') := by
  refine Ct.of [some (.ref (gb G + 72)), some (.int (jI h)), none, none] (by decide) rfl rfl rfl ?_
  intro k SR
  have S : Sem G RX12 "dueOf" cX12_dueOf 4 (rmD 3 0 0) k := SR.sem
  have hm' := hm
  obtain ⟨h0, h1, hv, hb⟩ := hm
  have hr := ruleS_range (fxM I h) rs 0
  have hd := dueS_at (fxM I h) rs 0
  obtain ⟨a, ha⟩ : ∃ a, a = ruleS (fxM I h) rs 0 := ⟨_, rfl⟩
  rw [← ha] at hr hd
  obtain ⟨D, eD⟩ : ∃ D, D = dueS (fxM I h) rs := ⟨_, rfl⟩
  rw [← eD] at hd SR
  have last : ∀ (w : Int) (J : Iv), rg w → clampD w = D → (∀ o', o' ≠ 92 → J o' = I o') → k 33 [some (.ref (gb G + 72)), some (.int (jI h)), some (.int (jI a)), some (.int (jI w))] [] n J (rst bk dr pt) 0 0 := by
    intro w J hw hc hJ
    unfold clampD at hc
    refine r_iload_n S rfl dX12_dueOf_33 ?_
    refine r_if_ge S (tgt := 41) dX12_dueOf_34 (by decide) (by omega) (fun c34 => ?_) (fun c34 => ?_)
    · refine r_iload_n S rfl dX12_dueOf_41 ?_
      refine r_sipush S (by decide +kernel) dX12_dueOf_42 ?_
      refine r_icmp_le S (tgt := 54) dX12_dueOf_45 (by decide) (by omega) (by omega) (fun c45 => ?_) (fun c45 => ?_)
      · refine r_iload_n S rfl dX12_dueOf_54 ?_
        refine r_iret SR dX12_dueOf_55 ⟨by decide, by decide⟩ ?_
        first | exact ⟨by rw [show D = 0 by omega], rfl, rfl, hJ⟩ | exact ⟨by rw [show D = 9999 by omega], rfl, rfl, hJ⟩ | exact ⟨by rw [show D = w by omega], rfl, rfl, hJ⟩
      · refine r_sipush S (by decide +kernel) dX12_dueOf_48 ?_
        refine r_goto S (tgt := 55) dX12_dueOf_51 (by decide) ?_
        refine r_iret SR dX12_dueOf_55 ⟨by decide, by decide⟩ ?_
        first | exact ⟨by rw [show D = 0 by omega], rfl, rfl, hJ⟩ | exact ⟨by rw [show D = 9999 by omega], rfl, rfl, hJ⟩ | exact ⟨by rw [show D = w by omega], rfl, rfl, hJ⟩
    · refine r_iconst S dX12_dueOf_37 ?_
      refine r_goto S (tgt := 55) dX12_dueOf_38 (by decide) ?_
      refine r_iret SR dX12_dueOf_55 ⟨by decide, by decide⟩ ?_
      first | exact ⟨by rw [show D = 0 by omega], rfl, rfl, hJ⟩ | exact ⟨by rw [show D = 9999 by omega], rfl, rfl, hJ⟩ | exact ⟨by rw [show D = w by omega], rfl, rfl, hJ⟩
  have fin : ∀ (r : List (Int × Int) × List (Int × Int)) (J : Iv), (∀ o', o' ≠ 92 → J o' = I o') → 0 ≤ I 86 a → I 87 a = I 86 a + r.1.length → I 87 a ≤ 410 → segM (I 88) (I 86 a) r.1 → okS r.1 0 1 → 0 ≤ a → a < 10 → D = clampD ((ev (fxM I h) r.1 []).headD 0) → k 15 [some (.ref (gb G + 72)), some (.int (jI h)), some (.int (jI a)), none] [] n J (rst bk dr pt) 0 0 := by
    intro r J hJ b1 b2' b4 b5 b7 a0 a1 hd
    have efx : fxM J h = fxM I h := by
      unfold fxM
      rw [hJ 77 (by decide), hJ 78 (by decide), hJ 79 (by decide), hJ 85 (by decide)]
    refine r_aload_n S rfl dX12_dueOf_15 ?_
    refine r_iload_n S rfl dX12_dueOf_16 ?_
    refine r_aload_n S rfl dX12_dueOf_17 ?_
    refine r_getR S (o' := 86) fk_X12_50 dX12_dueOf_18 rfl rfl (Nat.lt_of_lt_of_le (by decide) hn) rfl ?_
    refine r_iload_n S rfl dX12_dueOf_21 ?_
    refine r_iald S (v := I 86 a) dX12_dueOf_22 rfl rfl (Nat.lt_of_lt_of_le (by decide) hn) (by omega) (by omega) (by rw [hJ 86 (by decide)]) ?_
    refine r_aload_n S rfl dX12_dueOf_23 ?_
    refine r_getR S (o' := 87) fk_X12_53 dX12_dueOf_24 rfl rfl (Nat.lt_of_lt_of_le (by decide) hn) rfl ?_
    refine r_iload_n S rfl dX12_dueOf_27 ?_
    refine r_iald S (v := I 87 a) dX12_dueOf_28 rfl rfl (Nat.lt_of_lt_of_le (by decide) hn) (by omega) (by omega) (by rw [hJ 87 (by decide)]) ?_
    refine r_callV S lk_X12_231 mk_X12_comesTo (c_X12_comesTo G n J bk dr pt hn r.1 g0 g1 b1 b2' b4 (by rw [hJ 88 (by decide)]; exact b5) b7 (by rw [hJ 77 (by decide)]; exact h77) (by rw [hJ 78 (by decide)]; exact h78) (by rw [hJ 79 (by decide)]; exact h79) (by rw [hJ 85 (by decide)]; exact h85) (by rw [hJ 88 (by decide)]; exact hv)) rfl (Nat.lt_of_lt_of_le (by decide) hn) rfl rfl rfl (Nat.le_of_ble_eq_true rfl) ⟨by decide, by decide⟩ rfl ⟨by decide, by decide⟩ dX12_dueOf_29 ?_
    rintro _ _ J2 _ ⟨⟨w, rfl, hw, hev⟩, rfl, rfl, hJ2⟩
    rw [efx] at hev
    rw [hev] at hd
    refine r_istore_n S dX12_dueOf_32 rfl rfl ?_
    exact last w J2 hw hd.symm (fun o' q => (hJ2 o' q).trans (hJ o' q))
  refine r_aload_n S rfl dX12_dueOf_0 ?_
  refine r_iload_n S rfl dX12_dueOf_1 ?_
  refine r_callV S lk_X12_234 mk_X12_ruleOf (c_X12_ruleOf G n I bk dr pt hn hm' g0 g1 h77 h78 h79 h85) rfl (Nat.lt_of_lt_of_le (by decide) hn) rfl rfl rfl (Nat.le_of_ble_eq_true rfl) ⟨by decide, by decide⟩ rfl ⟨by decide, by decide⟩ dX12_dueOf_2 ?_
  rintro _ _ J _ ⟨rfl, rfl, rfl, hJ⟩
  rw [← ha]
  refine r_istore_n S dX12_dueOf_5 rfl rfl ?_
  refine r_iload_n S rfl dX12_dueOf_6 ?_
  refine r_iconst S dX12_dueOf_7 ?_
  refine r_icmp_ne S (tgt := 15) dX12_dueOf_8 (by decide) (by omega) (by omega) (fun c8 => ?_) (fun c8 => ?_)
  · have ha0 : 0 ≤ a := by omega
    have hna : ¬ a = -1 := by omega
    rw [if_neg hna] at hd
    have hlt : a.toNat < rs.length := by omega
    obtain ⟨bb, -⟩ := modP_nth rs 0 a.toNat hb hlt
    obtain ⟨r, l, er⟩ : ∃ r l, rs.drop a.toNat = r :: l := by
      cases hh : rs.drop a.toNat with
      | nil => exact absurd hh (modP_nth rs 0 a.toNat hb hlt).2
      | cons r l => exact ⟨r, l, rfl⟩
    have eg : rs.getD (a - ((0 : Nat) : Int)).toNat ([], []) = r := by
      rw [show (a - ((0 : Nat) : Int)).toNat = a.toNat by omega, List.getD_eq_getElem?_getD, show rs[a.toNat]? = (rs.drop a.toNat)[0]? by rw [List.getElem?_drop, Nat.add_zero], er]
      rfl
    rw [er] at bb
    obtain ⟨b1, b2', b3, b4, b5, b6, b7, b8, b9⟩ := bb
    rw [show (((0 + a.toNat : Nat)) : Int) = a by omega] at b1 b2' b3 b4 b5 b6
    rw [eg] at hd
    exact fin r J hJ b1 b2' (by omega) b5 b7 (by omega) (by omega) hd
  · refine r_iconst S dX12_dueOf_11 ?_
    refine r_goto S (tgt := 32) dX12_dueOf_12 (by decide) ?_
    refine r_istore_n S dX12_dueOf_32 rfl rfl ?_
    exact last 0 J (by decide) (by rw [hd, if_pos (by omega)]; decide) hJ
end
