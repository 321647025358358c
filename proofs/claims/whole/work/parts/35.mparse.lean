/-! ===== the reference's parser ===== -/
theorem mtok_cases (c : Int) (h0 : -19 ≤ c) : (0 ≤ c ∧ mtok c = 2) ∨ (c = -1 ∧ mtok c = 201) ∨ (c = -2 ∧ mtok c = 202) ∨ (c = -3 ∧ mtok c = 203) ∨ (c = -4 ∧ mtok c = 204) ∨ (c = -5 ∧ mtok c = 43) ∨ (c = -6 ∧ mtok c = 45) ∨ (c = -7 ∧ mtok c = 42) ∨ (c = -8 ∧ mtok c = 47) ∨ (c = -9 ∧ mtok c = 60) ∨ (c = -10 ∧ mtok c = 61) ∨ (c = -11 ∧ mtok c = 62) ∨ (c = -12 ∧ mtok c = 5) ∨ (c = -13 ∧ mtok c = 3) ∨ (c = -14 ∧ mtok c = 4) ∨ (c = -15 ∧ mtok c = 59) ∨ (c = -16 ∧ mtok c = 40) ∨ (c = -17 ∧ mtok c = 41) ∨ (c = -18 ∧ mtok c = 1) ∨ (c = -19 ∧ mtok c = 0) := by
  by_cases h : 0 ≤ c
  · exact Or.inl ⟨h, by unfold mtok; rw [if_pos h]⟩
  · have hc : c = -1 ∨ c = -2 ∨ c = -3 ∨ c = -4 ∨ c = -5 ∨ c = -6 ∨ c = -7 ∨ c = -8 ∨ c = -9 ∨ c = -10 ∨ c = -11 ∨ c = -12 ∨ c = -13 ∨ c = -14 ∨ c = -15 ∨ c = -16 ∨ c = -17 ∨ c = -18 ∨ c = -19 := by omega
    rcases hc with rfl | rfl | rfl | rfl | rfl | rfl | rfl | rfl | rfl | rfl | rfl | rfl | rfl | rfl | rfl | rfl | rfl | rfl | rfl <;> decide
theorem mtok_rg {c : Int} (h0 : -19 ≤ c) : 0 ≤ mtok c ∧ mtok c ≤ 204 := by
  have := mtok_cases c h0
  omega
theorem mt_42 {c : Int} (h0 : -19 ≤ c) : mtok c = 42 ↔ c = -7 := by have := mtok_cases c h0; omega
theorem mt_47 {c : Int} (h0 : -19 ≤ c) : mtok c = 47 ↔ c = -8 := by have := mtok_cases c h0; omega
theorem mt_43 {c : Int} (h0 : -19 ≤ c) : mtok c = 43 ↔ c = -5 := by have := mtok_cases c h0; omega
theorem mt_45 {c : Int} (h0 : -19 ≤ c) : mtok c = 45 ↔ c = -6 := by have := mtok_cases c h0; omega
theorem mt_40 {c : Int} (h0 : -19 ≤ c) : mtok c = 40 ↔ c = -16 := by have := mtok_cases c h0; omega
theorem mt_41 {c : Int} (h0 : -19 ≤ c) : mtok c = 41 ↔ c = -17 := by have := mtok_cases c h0; omega
theorem mt_2 {c : Int} (h0 : -19 ≤ c) : mtok c = 2 ↔ 0 ≤ c := by have := mtok_cases c h0; omega
theorem mt_201 {c : Int} (h0 : -19 ≤ c) : 201 ≤ mtok c ↔ (-4 ≤ c ∧ c ≤ -1) := by have := mtok_cases c h0; omega
theorem mt_fact {c : Int} (h0 : -4 ≤ c) (h1 : c ≤ -1) : 1 + mtok c - 201 = -c := by have := mtok_cases c (by omega); omega
theorem mt_60 {c : Int} (h0 : -19 ≤ c) : mtok c = 60 ↔ c = -9 := by have := mtok_cases c h0; omega
theorem mt_61 {c : Int} (h0 : -19 ≤ c) : mtok c = 61 ↔ c = -10 := by have := mtok_cases c h0; omega
theorem mt_62 {c : Int} (h0 : -19 ≤ c) : mtok c = 62 ↔ c = -11 := by have := mtok_cases c h0; omega
theorem mt_5 {c : Int} (h0 : -19 ≤ c) : mtok c = 5 ↔ c = -12 := by have := mtok_cases c h0; omega
theorem mt_3 {c : Int} (h0 : -19 ≤ c) : mtok c = 3 ↔ c = -13 := by have := mtok_cases c h0; omega
theorem mt_4 {c : Int} (h0 : -19 ≤ c) : mtok c = 4 ↔ c = -14 := by have := mtok_cases c h0; omega
theorem mt_59 {c : Int} (h0 : -19 ≤ c) : mtok c = 59 ↔ c = -15 := by have := mtok_cases c h0; omega
theorem mt_0 {c : Int} (h0 : -19 ≤ c) : mtok c = 0 ↔ c = -19 := by have := mtok_cases c h0; omega
/-- only what parsing an E writes has changed -/
def psOnly (I I' : Iv) : Prop := (∀ o, o ≠ 72 → o ≠ 91 → I' o = I o) ∧ ∀ j, j ≠ 19 → j ≠ 29 → j ≠ 30 → j ≠ 31 → j ≠ 32 → j ≠ 33 → j ≠ 34 → j ≠ 36 → I' 72 j = I 72 j
theorem psOnly.rf (I : Iv) : psOnly I I := ⟨fun _ _ _ => rfl, fun _ _ _ _ _ _ _ _ _ => rfl⟩
theorem psOnly.tr {I J K : Iv} (h1 : psOnly I J) (h2 : psOnly J K) : psOnly I K := ⟨fun o a b => (h2.1 o a b).trans (h1.1 o a b), fun j a b c d e f g h => (h2.2 j a b c d e f g h).trans (h1.2 j a b c d e f g h)⟩
theorem psOnly.nx {I J : Iv} (h : nxOnly I J) : psOnly I J := ⟨fun o a _ => h.1 o a, fun j _ b c d e _ _ _ => h.2 j b c d e⟩
theorem psOnly.put {I J : Iv} (h : psOnly I J) {j : Int} (v : Int) (hj : j = 19 ∨ j = 33 ∨ j = 34 ∨ j = 36) : psOnly I (up J 72 j v) := ⟨fun o a b => by rw [up_o a]; exact h.1 o a b, fun i a b c d e f g h' => by rw [up_i (by omega)]; exact h.2 i a b c d e f g h'⟩
theorem psOnly.put91 {I J : Iv} (h : psOnly I J) (i v : Int) : psOnly I (up J 91 i v) := ⟨fun o a b => by rw [up_o b]; exact h.1 o a b, fun j a b c d e f g h' => by rw [up_o (by decide)]; exact h.2 j a b c d e f g h'⟩
/-- the tape that is read -/
def mE (I : Iv) : Prop := (0 ≤ I 72 28 ∧ I 72 28 ≤ 400) ∧ ∀ j, 0 ≤ j → j < I 72 28 → 0 ≤ I 93 j ∧ I 93 j ≤ 255
theorem mE.ps {I J : Iv} (h : mE I) (hJ : psOnly I J) : mE J := by
  have e1 := hJ.2 28 (by decide) (by decide) (by decide) (by decide) (by decide) (by decide) (by decide) (by decide)
  have e2 := hJ.1 93 (by decide) (by decide)
  unfold mE
  rw [e1, e2]
  exact h
/-- the steps laid so far -/
def stps (F : TL) (I : Iv) : Prop := segM (I 91) 0 F ∧ I 72 19 = F.length ∧ (∀ j, 0 ≤ j → j < 2 * (F.length : Int) → rg (I 91 j)) ∧ I 72 33 = 0
theorem stps.nx {F : TL} {I J : Iv} (h : stps F I) (hJ : nxOnly I J) : stps F J := by
  unfold stps
  rw [hJ.1 91 (by decide), hJ.2 19 (by decide) (by decide) (by decide) (by decide), hJ.2 33 (by decide) (by decide) (by decide) (by decide)]
  exact h
theorem stps.put {F : TL} {I : Iv} (h : stps F I) {j : Int} (v : Int) (hj : ¬ (j = 19 ∨ j = 33)) : stps F (up I 72 j v) := by
  unfold stps
  rw [up_o (by decide), up_i (by omega), up_i (by omega)]
  exact h
theorem tokI.put {T : TL} {I : Iv} (h : tokI I T) {j : Int} (v : Int) (hj : j = 19 ∨ j = 36) : tokI (up I 72 j v) T := by
  unfold tokI
  rw [up_i (by omega), up_i (by omega), up_i (by omega), up_i (by omega), up_i (by omega), up_o (by decide)]
  exact h
theorem tokI.put91 {T : TL} {I : Iv} (h : tokI I T) (i v : Int) : tokI (up I 91 i v) T := by
  unfold tokI
  rw [up_o (by decide), up_o (by decide)]
  exact h
/-- one more step laid -/
def layI (I : Iv) (a v : Int) : Iv := up (up (up I 91 (2 * I 72 19) a) 91 (2 * I 72 19 + 1) v) 72 19 (I 72 19 + 1)
theorem layI_ps {I J : Iv} (h : psOnly I J) (a v : Int) : psOnly I (layI J a v) := ((h.put91 _ _).put91 _ _).put _ (by omega)
theorem layI_tok {T : TL} {I : Iv} (h : tokI I T) (a v : Int) : tokI (layI I a v) T := ((h.put91 _ _).put91 _ _).put _ (by omega)
theorem layI_36 (I : Iv) (a v : Int) : layI I a v 72 36 = I 72 36 := by unfold layI; rw [up_i (by decide), up_o (by decide), up_o (by decide)]
theorem layI_stps {F : TL} {I : Iv} {a v w : Int} (h : stps F I) (ha : rg a) (hv : rg w) (hw : a = 0 ∨ a = 8 → w = v) : stps (F ++ [(a, v)]) (layI I a w) := by
  obtain ⟨h1, h2, h3, h33⟩ := h
  unfold stps layI
  have e91 : up (up (up I 91 (2 * I 72 19) a) 91 (2 * I 72 19 + 1) w) 72 19 (I 72 19 + 1) 91 = up (up I 91 (2 * I 72 19) a) 91 (2 * I 72 19 + 1) w 91 := up_o (by decide)
  rw [e91]
  refine ⟨(segM_app _ _ _).mpr ⟨?_, ?_⟩, ?_, ?_, by rw [up_i (by decide), up_o (by decide), up_o (by decide)]; exact h33⟩
  · refine segM_congr F 0 (fun j g0 g1 => ?_) h1
    rw [up_i (by omega), up_i (by omega)]
  · rw [show (0 : Int) + (F.length : Int) = I 72 19 by omega]
    refine ⟨?_, fun q => ?_, trivial⟩
    · rw [up_i (by omega), up_s]
    · rw [up_s]
      exact hw q
  · rw [up_s, h2, List.length_append]
    rfl
  · intro j g0 g1
    by_cases e : j = 2 * I 72 19 + 1
    · rw [e, up_s]
      exact hv
    · rw [up_i e]
      by_cases e2 : j = 2 * I 72 19
      · rw [e2, up_s]
        exact ha
      · rw [up_i e2]
        rw [List.length_append] at g1
        have g1' : j < 2 * ((F.length + 1 : Nat) : Int) := g1
        exact h3 j g0 (by omega)
/-- a fault was told -/
def mBad (I' : Iv) (res : PR) : Prop := ∃ e, res = .inl e ∧ I' 72 33 = e.1 ∧ I' 72 34 = e.2
/-- it was read -/
def mOk (I' : Iv) (F : TL) (d : Int) (res : PR) : Prop := ∃ q, res = .inr q ∧ tokI I' q.2 ∧ I' 72 36 = d ∧ stps (F ++ q.1) I'
/-- the result of a parsing method -/
def vOk (I : Iv) : Prop := 0 ≤ I 72 32 ∧ I 72 32 ≤ 9999
theorem vOk.bad {I : Iv} (h : vOk I) (a b : Int) : vOk (up (up I 72 33 a) 72 34 b) := by
  unfold vOk
  rw [up_i (by decide), up_i (by decide)]
  exact h
def mRes (I0 : Iv) (F : TL) (d : Int) (res : PR) (v : Option Value) (I' : Iv) : Prop := psOnly I0 I' ∧ vOk I' ∧ ∃ z : Int, v = some (.int (jI z)) ∧ ((z = 0 ∧ mBad I' res) ∨ (z = 1 ∧ mOk I' F d res))
theorem mRes_bad {I0 I' : Iv} {F : TL} {d : Int} {res : PR} {e : Int × Int} (h : psOnly I0 I') (hv : vOk I') (hr : res = .inl e) (h1 : I' 72 33 = e.1) (h2 : I' 72 34 = e.2) : mRes I0 F d res (some (.int (jI 0))) I' := ⟨h, hv, 0, rfl, Or.inl ⟨rfl, e, hr, h1, h2⟩⟩
theorem mRes_ok {I0 I' : Iv} {F : TL} {d : Int} {res : PR} {q : TL × TL} (h : psOnly I0 I') (hr : res = .inr q) (h1 : tokI I' q.2) (h2 : I' 72 36 = d) (h3 : stps (F ++ q.1) I') : mRes I0 F d res (some (.int (jI 1))) I' := ⟨h, h1.2.2.2.1, 1, rfl, Or.inr ⟨rfl, q, hr, h1, h2, h3⟩⟩
/-- where a parsing method begins -/
def mPre (I : Iv) (T F : TL) (d : Int) : Prop := mE I ∧ tokI I T ∧ TLok T ∧ stps F I ∧ F.length + T.length ≤ 402 ∧ I 72 36 = d
theorem mPre.hd {I : Iv} {T F : TL} {d : Int} (h : mPre I T F d) : -19 ≤ hd T ∧ hd T ≤ 9999 := TLok_hd h.2.2.1
section
variable (G : GE) (n : Nat) (I : Iv) (bk dr : Nat) (pt : Option Nat)
theorem c_X12_bad (hn : 103 ≤ n) {a : Int} : Ct G yX12_bad cX12_bad 2 (some .boolean) 0 0 0 [.ref (gb G + 72), .int (jI a)] n I (rst bk dr pt) (PI 0 n (up (up I 72 33 a) 72 34 (I 72 31)) (rst bk dr pt)) := by
  refine Ct.of [some (.ref (gb G + 72)), some (.int (jI a))] (by decide) rfl rfl rfl ?_
  intro k SR
  have S : Sem G RX12 "bad" cX12_bad 2 (rmD 0 0 0) k := SR.sem
  refine r_aload_n S rfl dX12_bad_0 ?_
  refine r_iload_n S rfl dX12_bad_1 ?_
  refine r_putI S fk_X12_174 dX12_bad_2 rfl rfl (Nat.lt_of_lt_of_le (by decide) hn) (Or.inl rfl) (Or.inl rfl) ?_
  refine r_aload_n S rfl dX12_bad_5 ?_
  refine r_aload_n S rfl dX12_bad_6 ?_
  refine r_getI S (v := I 72 31) fk_X12_155 dX12_bad_7 rfl rfl (Nat.lt_of_lt_of_le (by decide) hn) rfl ?_
  refine r_putI S fk_X12_177 dX12_bad_10 rfl rfl (Nat.lt_of_lt_of_le (by decide) hn) (Or.inl rfl) (Or.inl rfl) ?_
  refine r_iconst S dX12_bad_13 ?_
  refine r_zret SR dX12_bad_14 (by decide) ⟨by decide, by decide⟩ ?_
  exact ⟨rfl, rfl, rfl, rfl⟩
theorem c_X12_lay (hn : 103 ≤ n) {a v : Int} (h0 : 0 ≤ I 72 19) (h1 : I 72 19 < 410) : Ct G yX12_lay cX12_lay 3 none 0 0 0 [.ref (gb G + 72), .int (jI a), .int (jI v)] n I (rst bk dr pt) (PV n (layI I a v) (rst bk dr pt)) := by
  refine Ct.of [some (.ref (gb G + 72)), some (.int (jI a)), some (.int (jI v))] (by decide) rfl rfl rfl ?_
  intro k SR
  have S : Sem G RX12 "lay" cX12_lay 3 (rmD 0 0 0) k := SR.sem
  refine r_aload_n S rfl dX12_lay_0 ?_
  refine r_getR S (o' := 91) fk_X12_65 dX12_lay_1 rfl rfl (Nat.lt_of_lt_of_le (by decide) hn) rfl ?_
  refine r_iconst S dX12_lay_4 ?_
  refine r_aload_n S rfl dX12_lay_5 ?_
  refine r_getI S (v := I 72 19) fk_X12_186 dX12_lay_6 rfl rfl (Nat.lt_of_lt_of_le (by decide) hn) rfl ?_
  refine r_imul S dX12_lay_9 ?_
  refine r_iload_n S rfl dX12_lay_10 ?_
  refine r_iast S dX12_lay_11 rfl rfl (Nat.lt_of_lt_of_le (by decide) hn) (by omega) (by omega) ?_
  refine r_aload_n S rfl dX12_lay_12 ?_
  refine r_getR S (o' := 91) fk_X12_65 dX12_lay_13 rfl rfl (Nat.lt_of_lt_of_le (by decide) hn) rfl ?_
  refine r_iconst S dX12_lay_16 ?_
  refine r_aload_n S rfl dX12_lay_17 ?_
  refine r_getI S (v := I 72 19) fk_X12_186 dX12_lay_18 rfl rfl (Nat.lt_of_lt_of_le (by decide) hn) rfl ?_
  refine r_imul S dX12_lay_21 ?_
  refine r_iconst S dX12_lay_22 ?_
  refine r_iadd S dX12_lay_23 ?_
  refine r_iload_n S rfl dX12_lay_24 ?_
  refine r_iast S dX12_lay_25 rfl rfl (Nat.lt_of_lt_of_le (by decide) hn) (by omega) (by omega) ?_
  refine r_aload_n S rfl dX12_lay_26 ?_
  refine r_dup S rfl dX12_lay_27 ?_
  refine r_getI S (v := I 72 19) fk_X12_186 dX12_lay_28 rfl rfl (Nat.lt_of_lt_of_le (by decide) hn) rfl ?_
  refine r_iconst S dX12_lay_31 ?_
  refine r_iadd S dX12_lay_32 ?_
  refine r_putI S fk_X12_186 dX12_lay_33 rfl rfl (Nat.lt_of_lt_of_le (by decide) hn) (Or.inl rfl) (Or.inl rfl) ?_
  refine r_vret SR dX12_lay_36 ⟨by decide, by decide⟩ ?_
  exact ⟨rfl, rfl, rfl, rfl⟩
/-- next0 from the tokens T -/
theorem c_next (hn : 103 ≤ n) {T : TL} (hE : mE I) (hT : tokI I T) (hne : ¬ hd T = -19) : Ct G yX12_next0 cX12_next0 5 none 2 0 0 [.ref (gb G + 72)] n I (rst bk dr pt) (fun v n' I' ρ' => v = none ∧ n = n' ∧ rst bk dr pt = ρ' ∧ nxOnly I I' ∧ tokI I' (adv T)) := by
  have C := c_X12_next0 G n I bk dr pt hn hT.2.2.2.2.1.1 hT.2.2.2.2.1.2 hE.1.2 hE.2 hT.2.2.2.1
  rw [hT.2.2.2.2.2 hne] at C
  exact C
theorem c_X12_need (hn : 103 ≤ n) {T : TL} (hE : mE I) (hT : tokI I T) (hTL : TLok T) {t : Int} (ht : rg t) (hne : ¬ t = 0) : Ct G yX12_need cX12_need 2 (some .boolean) 3 0 0 [.ref (gb G + 72), .int (jI t)] n I (rst bk dr pt) (fun v n' I' ρ' => n = n' ∧ rst bk dr pt = ρ' ∧ ((¬ mtok (hd T) = t ∧ v = some (.int (jI 0)) ∧ I' = up (up I 72 33 1) 72 34 (pl T)) ∨ (mtok (hd T) = t ∧ v = some (.int (jI 1)) ∧ nxOnly I I' ∧ tokI I' (adv T)))) := by
  refine Ct.of [some (.ref (gb G + 72)), some (.int (jI t))] (by decide) rfl rfl rfl ?_
  intro k SR
  have S : Sem G RX12 "need" cX12_need 2 (rmD 3 0 0) k := SR.sem
  have hh := TLok_hd hTL
  have hr := mtok_rg hh.1
  have h0 := mt_0 hh.1
  have e30 := hT.1
  have e31 := hT.2.1
  obtain ⟨c, ec⟩ : ∃ c, c = mtok (hd T) := ⟨_, rfl⟩
  rw [← ec] at hr e30 h0 SR
  refine r_aload_n S rfl dX12_need_0 ?_
  refine r_getI S (v := I 72 30) fk_X12_158 dX12_need_1 rfl rfl (Nat.lt_of_lt_of_le (by decide) hn) rfl ?_
  refine r_iload_n S rfl dX12_need_4 ?_
  refine r_icmp_eq S (tgt := 14) dX12_need_5 (by decide) (by omega) ht (fun c5 => ?_) (fun c5 => ?_)
  · refine r_aload_n S rfl dX12_need_14 ?_
    refine r_callV S lk_X12_183 mk_X12_next0 (c_next G n I bk dr pt hn hE hT (by omega)) rfl (Nat.lt_of_lt_of_le (by decide) hn) rfl rfl rfl (Nat.le_of_ble_eq_true rfl) ⟨by decide, by decide⟩ rfl ⟨by decide, by decide⟩ dX12_need_15 ?_
    rintro _ _ J _ ⟨rfl, rfl, rfl, hJ, hTJ⟩
    refine r_iconst S dX12_need_18 ?_
    refine r_zret SR dX12_need_19 (by decide) ⟨by decide, by decide⟩ ?_
    exact ⟨rfl, rfl, Or.inr ⟨by omega, rfl, hJ, hTJ⟩⟩
  · refine r_aload_n S rfl dX12_need_8 ?_
    refine r_iconst S dX12_need_9 ?_
    refine r_callV S lk_X12_180 mk_X12_bad (c_X12_bad G n I bk dr pt hn) rfl (Nat.lt_of_lt_of_le (by decide) hn) rfl rfl rfl (Nat.le_of_ble_eq_true rfl) ⟨by decide, by decide⟩ rfl ⟨by decide, by decide⟩ dX12_need_10 ?_
    rintro _ _ _ _ ⟨rfl, rfl, rfl, rfl⟩
    refine r_zret SR dX12_need_13 (by decide) ⟨by decide, by decide⟩ ?_
    exact ⟨rfl, rfl, Or.inl ⟨by omega, rfl, by rw [e31]⟩⟩
/-- a parsing method's contract -/
abbrev mC (G : GE) (n bk dr : Nat) (pt : Option Nat) (y : MethodName) (cc : ByteArray) (nL d : Nat) (dep : Int) (P : TL → PR) : Prop := ∀ (I : Iv) (T F : TL), mPre I T F dep → Ct G y cc nL (some .boolean) d 0 0 [.ref (gb G + 72)] n I (rst bk dr pt) (fun v n' I' ρ' => n = n' ∧ rst bk dr pt = ρ' ∧ mRes I F dep (P T) v I')
theorem c_product (hn : 103 ≤ n) {d : Nat} {dep : Int} {u : TL → PR} {w : Nat} (hw : 1 ≤ w) (hu : ∀ T, TLok T → PG w T (u T)) (hd2 : 2 ≤ d) (U : mC G n bk dr pt yX12_unit cX12_unit 1 d dep u) : mC G n bk dr pt yX12_product cX12_product 2 (d + 1) dep (prodP u) := by
  intro I T F hP
  refine Ct.of [some (.ref (gb G + 72)), none] (by decide) rfl rfl rfl ?_
  intro k SR
  have S : Sem G RX12 "product" cX12_product 2 (rmD (d+1) 0 0) k := SR.sem
  obtain ⟨R, eR⟩ : ∃ R, R = prodP u T := ⟨_, rfl⟩
  rw [← eR] at SR
  have hTlen : T.length ≤ 402 := by have := hP.2.2.2.2.1; omega
  have loop : ∀ (f : Nat) (acc T' : TL) (J : Iv), T'.length < f → psOnly I J → mPre J T' (F ++ acc) dep → prodT u f acc T' = R → k 9 [some (.ref (gb G + 72)), none] [] n J (rst bk dr pt) 0 0 := by
    intro f
    induction f with
    | zero => intro acc T' J h; omega
    | succ f ih =>
      intro acc T' J hlen hJ hPJ hR
      obtain ⟨jE, jT, jL, jS, jF, jd⟩ := hPJ
      have hh := TLok_hd jL
      have hr := mtok_rg hh.1
      have m42 := mt_42 hh.1
      have m47 := mt_47 hh.1
      have e30 := jT.1
      obtain ⟨c, ec⟩ : ∃ c, c = mtok (hd T') := ⟨_, rfl⟩
      rw [← ec] at hr m42 m47 e30
      have layT : ∀ (J2 : Iv) (q : TL × TL), psOnly I J2 → TLok q.2 → q.2.length < T'.length → tokI J2 q.2 → J2 72 36 = dep → stps (F ++ acc ++ q.1) J2 → (F ++ acc ++ q.1).length + 1 + q.2.length ≤ 402 → prodT u f (acc ++ q.1 ++ [(7, 0)]) q.2 = R → k 103 [some (.ref (gb G + 72)), some (.int (jI 0))] [] n J2 (rst bk dr pt) 0 0 := by
        intro J2 q hJ2 qL ql qT qd qS qF hR2
        have e19 : J2 72 19 = (F ++ acc ++ q.1).length := qS.2.1
        refine r_aload_n S rfl dX12_product_103 ?_
        refine r_bipush S (by decide +kernel) dX12_product_104 ?_
        refine r_iconst S dX12_product_106 ?_
        refine r_callV S lk_X12_193 mk_X12_lay (c_X12_lay G n J2 bk dr pt hn (a := 7) (v := 0) (by omega) (by omega)) rfl (Nat.lt_of_lt_of_le (by decide) hn) rfl rfl rfl (Nat.le_of_ble_eq_true rfl) (by unfold roomy rmD; simp only; omega) rfl ⟨Nat.le_refl _, Nat.le_refl _⟩ dX12_product_107 ?_
        rintro _ _ _ _ ⟨rfl, rfl, rfl, rfl⟩
        refine r_goto S (tgt := 9) dX12_product_110 (by decide) ?_
        refine r_drop S 1 ?_
        refine ih (acc ++ q.1 ++ [(7, 0)]) q.2 _ (by omega) (layI_ps hJ2 _ _) ⟨hP.1.ps (layI_ps hJ2 _ _), layI_tok qT _ _, qL, ?_, ?_, by rw [layI_36]; exact qd⟩ hR2
        · rw [← List.append_assoc, ← List.append_assoc]
          exact layI_stps qS (by decide) (by decide) (fun _ => rfl)
        · rw [← List.append_assoc, ← List.append_assoc, List.length_append]
          show (F ++ acc ++ q.1).length + 1 + q.2.length ≤ 402
          exact qF
      have part_ : hd T' = -8 → ∀ J1 : Iv, nxOnly J J1 → tokI J1 (adv T') → k 50 [some (.ref (gb G + 72)), some (.int (jI 1))] [] n J1 (rst bk dr pt) 0 0 := by
        intro h8 J1 hJ1 hT1
        have hl := TLok_len jL (by omega)
        have hL1 := TLok_adv jL
        have hh1 := TLok_hd hL1
        have hr1 := mtok_rg hh1.1
        have m2 := mt_2 hh1.1
        have q30 := hT1.1
        have q31 := hT1.2.1
        have q32 := hT1.2.2.1
        have hJ01 : psOnly I J1 := hJ.tr (psOnly.nx hJ1)
        have jS1 := jS.nx hJ1
        have e19 : J1 72 19 = (F ++ acc).length := jS1.2.1
        unfold prodT at hR
        rw [if_neg (by omega), if_pos h8] at hR
        obtain ⟨c1, ec1⟩ : ∃ c1, c1 = mtok (hd (adv T')) := ⟨_, rfl⟩
        rw [← ec1] at hr1 m2 q30
        refine r_aload_n S rfl dX12_product_50 ?_
        refine r_getI S (v := J1 72 30) fk_X12_158 dX12_product_51 rfl rfl (Nat.lt_of_lt_of_le (by decide) hn) rfl ?_
        refine r_iconst S dX12_product_54 ?_
        refine r_icmp_eq S (tgt := 64) dX12_product_55 (by decide) (by omega) (by decide) (fun c55 => ?_) (fun c55 => ?_)
        · have q32' := q32 (by omega)
          rw [if_neg (by omega)] at hR
          refine r_aload_n S rfl dX12_product_64 ?_
          refine r_getI S (v := J1 72 32) fk_X12_171 dX12_product_65 rfl rfl (Nat.lt_of_lt_of_le (by decide) hn) rfl ?_
          refine r_if_ne S (tgt := 77) dX12_product_68 (by decide) (by omega) (fun c68 => ?_) (fun c68 => ?_)
          · rw [if_neg (by omega)] at hR
            refine r_aload_n S rfl dX12_product_77 ?_
            refine r_bipush S (by decide +kernel) dX12_product_78 ?_
            refine r_aload_n S rfl dX12_product_80 ?_
            refine r_getI S (v := J1 72 32) fk_X12_171 dX12_product_81 rfl rfl (Nat.lt_of_lt_of_le (by decide) hn) rfl ?_
            refine r_callV S lk_X12_193 mk_X12_lay (c_X12_lay G n J1 bk dr pt hn (a := 8) (v := J1 72 32) (by omega) (by rw [e19]; omega)) rfl (Nat.lt_of_lt_of_le (by decide) hn) rfl rfl rfl (Nat.le_of_ble_eq_true rfl) (by unfold roomy rmD; simp only; omega) rfl ⟨Nat.le_refl _, Nat.le_refl _⟩ dX12_product_84 ?_
            rintro _ _ _ _ ⟨rfl, rfl, rfl, rfl⟩
            obtain ⟨J2, eJ2⟩ : ∃ J2, J2 = layI J1 8 (J1 72 32) := ⟨_, rfl⟩
            have hJ02 : psOnly I J2 := by rw [eJ2]; exact layI_ps hJ01 _ _
            have hT2 : tokI J2 (adv T') := by rw [eJ2]; exact layI_tok hT1 _ _
            have hS2 : stps (F ++ acc ++ [(8, hd (adv T'))]) J2 := by rw [eJ2]; exact layI_stps jS1 (by decide) (by omega) (fun _ => q32')
            have hd2' : J2 72 36 = dep := by rw [eJ2, layI_36, hJ1.2 36 (by decide) (by decide) (by decide) (by decide)]; exact jd
            rw [← eJ2]
            refine r_aload_n S rfl dX12_product_87 ?_
            refine r_callV S lk_X12_183 mk_X12_next0 (c_next G n J2 bk dr pt hn (hP.1.ps hJ02) hT2 (by omega)) rfl (Nat.lt_of_lt_of_le (by decide) hn) rfl rfl rfl (Nat.le_of_ble_eq_true rfl) (by unfold roomy rmD; simp only; omega) rfl ⟨Nat.le_refl _, Nat.le_refl _⟩ dX12_product_88 ?_
            rintro _ _ J3 _ ⟨rfl, rfl, rfl, hJ3, hT3⟩
            refine r_goto S (tgt := 110) dX12_product_91 (by decide) ?_
            refine r_goto S (tgt := 9) dX12_product_110 (by decide) ?_
            have hl2 := TLok_len hL1 (by omega)
            refine r_drop S 1 ?_
            refine ih (acc ++ [(8, hd (adv T'))]) (adv (adv T')) J3 (by omega) (hJ02.tr (psOnly.nx hJ3)) ⟨(hP.1.ps hJ02).ps (psOnly.nx hJ3), hT3, TLok_adv hL1, ?_, ?_, by rw [hJ3.2 36 (by decide) (by decide) (by decide) (by decide)]; exact hd2'⟩ hR
            · rw [← List.append_assoc]
              exact hS2.nx hJ3
            · rw [← List.append_assoc, List.length_append]
              show (F ++ acc).length + 1 + (adv (adv T')).length ≤ 402
              omega
          · refine r_aload_n S rfl dX12_product_71 ?_
            refine r_iconst S dX12_product_72 ?_
            refine r_callV S lk_X12_180 mk_X12_bad (c_X12_bad G n J1 bk dr pt hn) rfl (Nat.lt_of_lt_of_le (by decide) hn) rfl rfl rfl (Nat.le_of_ble_eq_true rfl) (by unfold roomy rmD; simp only; omega) rfl ⟨Nat.le_refl _, Nat.le_refl _⟩ dX12_product_73 ?_
            rintro _ _ _ _ ⟨rfl, rfl, rfl, rfl⟩
            refine r_zret SR dX12_product_76 (by decide) ⟨by decide, by decide⟩ ?_
            rw [if_pos (by omega)] at hR
            refine ⟨rfl, rfl, mRes_bad ((hJ01.put _ (by omega)).put _ (by omega)) (vOk.bad hT1.2.2.2.1 _ _) hR.symm ?_ ?_⟩
            · rw [up_i (by decide), up_s]
            · rw [up_s, q31]
        · refine r_aload_n S rfl dX12_product_58 ?_
          refine r_iconst S dX12_product_59 ?_
          refine r_callV S lk_X12_180 mk_X12_bad (c_X12_bad G n J1 bk dr pt hn) rfl (Nat.lt_of_lt_of_le (by decide) hn) rfl rfl rfl (Nat.le_of_ble_eq_true rfl) (by unfold roomy rmD; simp only; omega) rfl ⟨Nat.le_refl _, Nat.le_refl _⟩ dX12_product_60 ?_
          rintro _ _ _ _ ⟨rfl, rfl, rfl, rfl⟩
          refine r_zret SR dX12_product_63 (by decide) ⟨by decide, by decide⟩ ?_
          rw [if_pos (by omega)] at hR
          refine ⟨rfl, rfl, mRes_bad ((hJ01.put _ (by omega)).put _ (by omega)) (vOk.bad hT1.2.2.2.1 _ _) hR.symm ?_ ?_⟩
          · rw [up_i (by decide), up_s]
          · rw [up_s, q31]
      -- behind the operator
      have times : hd T' = -7 → ∀ J1 : Iv, nxOnly J J1 → tokI J1 (adv T') → k 94 [some (.ref (gb G + 72)), some (.int (jI 0))] [] n J1 (rst bk dr pt) 0 0 := by
        intro h7 J1 hJ1 hT1
        have hl := TLok_len jL (by omega)
        have hL1 := TLok_adv jL
        have hP1 : mPre J1 (adv T') (F ++ acc) dep := ⟨jE.ps (psOnly.nx hJ1), hT1, hL1, jS.nx hJ1, by omega, by rw [hJ1.2 36 (by decide) (by decide) (by decide) (by decide)]; exact jd⟩
        unfold prodT at hR
        rw [if_pos h7] at hR
        refine r_aload_n S rfl dX12_product_94 ?_
        refine r_callV S lk_X12_197 mk_X12_unit (U J1 (adv T') (F ++ acc) hP1) rfl (Nat.lt_of_lt_of_le (by decide) hn) rfl rfl rfl (Nat.le_of_ble_eq_true rfl) (by unfold roomy rmD; simp only; omega) rfl ⟨Nat.le_refl _, Nat.le_refl _⟩ dX12_product_95 ?_
        rintro v _ J2 _ ⟨rfl, rfl, hJ2, hV2, z, rfl, ez⟩
        refine r_if_ne S (tgt := 103) dX12_product_98 (by decide) (by omega) (fun c98 => ?_) (fun c98 => ?_)
        · rcases ez with ⟨h0, -⟩ | ⟨-, q, h1, h3, h4, h5⟩
          · omega
          · rw [h1] at hR
            obtain ⟨p1, p2, p3, p4, p5⟩ := hu _ hL1 q h1
            exact layT J2 q ((hJ.tr (psOnly.nx hJ1)).tr hJ2) p1 (by omega) h3 h4 h5 (by rw [List.length_append, List.length_append]; rw [List.length_append] at jF; omega) hR
        · refine r_iconst S dX12_product_101 ?_
          refine r_zret SR dX12_product_102 (by decide) ⟨by decide, by decide⟩ ?_
          rcases ez with ⟨-, e, h1, h3, h4⟩ | ⟨h0, -⟩
          · rw [h1] at hR
            exact ⟨rfl, rfl, mRes_bad ((hJ.tr (psOnly.nx hJ1)).tr hJ2) hV2 hR.symm h3 h4⟩
          · omega
      refine r_aload_n S rfl dX12_product_9 ?_
      refine r_getI S (v := J 72 30) fk_X12_158 dX12_product_10 rfl rfl (Nat.lt_of_lt_of_le (by decide) hn) rfl ?_
      refine r_bipush S (by decide +kernel) dX12_product_13 ?_
      refine r_icmp_eq S (tgt := 27) dX12_product_15 (by decide) (by omega) (by decide) (fun c15 => ?_) (fun c15 => ?_)
      · refine r_aload_n S rfl dX12_product_27 ?_
        refine r_getI S (v := J 72 30) fk_X12_158 dX12_product_28 rfl rfl (Nat.lt_of_lt_of_le (by decide) hn) rfl ?_
        refine r_bipush S (by decide +kernel) dX12_product_31 ?_
        refine r_icmp_ne S (tgt := 40) dX12_product_33 (by decide) (by omega) (by decide) (fun c33 => ?_) (fun c33 => ?_)
        · refine r_iconst S dX12_product_40 ?_
          refine r_istore_n S dX12_product_41 rfl rfl ?_
          refine r_aload_n S rfl dX12_product_42 ?_
          refine r_callV S lk_X12_183 mk_X12_next0 (c_next G n J bk dr pt hn jE jT (by omega)) rfl (Nat.lt_of_lt_of_le (by decide) hn) rfl rfl rfl (Nat.le_of_ble_eq_true rfl) (by unfold roomy rmD; simp only; omega) rfl ⟨Nat.le_refl _, Nat.le_refl _⟩ dX12_product_43 ?_
          rintro _ _ J1 _ ⟨rfl, rfl, rfl, hJ1, hT1⟩
          refine r_iload_n S rfl dX12_product_46 ?_
          refine r_if_eq S (tgt := 94) dX12_product_47 (by decide) (by decide) (fun c47 => ?_) (fun c47 => ?_)
          · exact times (by omega) J1 hJ1 hT1
          · exact absurd c47 (by decide)
        · refine r_iconst S dX12_product_36 ?_
          refine r_goto S (tgt := 41) dX12_product_37 (by decide) ?_
          refine r_istore_n S dX12_product_41 rfl rfl ?_
          refine r_aload_n S rfl dX12_product_42 ?_
          refine r_callV S lk_X12_183 mk_X12_next0 (c_next G n J bk dr pt hn jE jT (by omega)) rfl (Nat.lt_of_lt_of_le (by decide) hn) rfl rfl rfl (Nat.le_of_ble_eq_true rfl) (by unfold roomy rmD; simp only; omega) rfl ⟨Nat.le_refl _, Nat.le_refl _⟩ dX12_product_43 ?_
          rintro _ _ J1 _ ⟨rfl, rfl, rfl, hJ1, hT1⟩
          refine r_iload_n S rfl dX12_product_46 ?_
          refine r_if_eq S (tgt := 94) dX12_product_47 (by decide) (by decide) (fun c47 => ?_) (fun c47 => ?_)
          · exact absurd c47 (by decide)
          · exact part_ (by omega) J1 hJ1 hT1
      · refine r_aload_n S rfl dX12_product_18 ?_
        refine r_getI S (v := J 72 30) fk_X12_158 dX12_product_19 rfl rfl (Nat.lt_of_lt_of_le (by decide) hn) rfl ?_
        refine r_bipush S (by decide +kernel) dX12_product_22 ?_
        refine r_icmp_ne S (tgt := 113) dX12_product_24 (by decide) (by omega) (by decide) (fun c24 => ?_) (fun c24 => ?_)
        · refine r_iconst S dX12_product_113 ?_
          refine r_zret SR dX12_product_114 (by decide) ⟨by decide, by decide⟩ ?_
          unfold prodT at hR
          rw [if_neg (by omega), if_neg (by omega)] at hR
          exact ⟨rfl, rfl, mRes_ok hJ hR.symm jT jd jS⟩
        · refine r_aload_n S rfl dX12_product_27 ?_
          refine r_getI S (v := J 72 30) fk_X12_158 dX12_product_28 rfl rfl (Nat.lt_of_lt_of_le (by decide) hn) rfl ?_
          refine r_bipush S (by decide +kernel) dX12_product_31 ?_
          refine r_icmp_ne S (tgt := 40) dX12_product_33 (by decide) (by omega) (by decide) (fun c33 => ?_) (fun c33 => ?_)
          · refine r_iconst S dX12_product_40 ?_
            refine r_istore_n S dX12_product_41 rfl rfl ?_
            refine r_aload_n S rfl dX12_product_42 ?_
            refine r_callV S lk_X12_183 mk_X12_next0 (c_next G n J bk dr pt hn jE jT (by omega)) rfl (Nat.lt_of_lt_of_le (by decide) hn) rfl rfl rfl (Nat.le_of_ble_eq_true rfl) (by unfold roomy rmD; simp only; omega) rfl ⟨Nat.le_refl _, Nat.le_refl _⟩ dX12_product_43 ?_
            rintro _ _ J1 _ ⟨rfl, rfl, rfl, hJ1, hT1⟩
            refine r_iload_n S rfl dX12_product_46 ?_
            refine r_if_eq S (tgt := 94) dX12_product_47 (by decide) (by decide) (fun c47 => ?_) (fun c47 => ?_)
            · exact times (by omega) J1 hJ1 hT1
            · exact absurd c47 (by decide)
          · refine r_iconst S dX12_product_36 ?_
            refine r_goto S (tgt := 41) dX12_product_37 (by decide) ?_
            refine r_istore_n S dX12_product_41 rfl rfl ?_
            refine r_aload_n S rfl dX12_product_42 ?_
            refine r_callV S lk_X12_183 mk_X12_next0 (c_next G n J bk dr pt hn jE jT (by omega)) rfl (Nat.lt_of_lt_of_le (by decide) hn) rfl rfl rfl (Nat.le_of_ble_eq_true rfl) (by unfold roomy rmD; simp only; omega) rfl ⟨Nat.le_refl _, Nat.le_refl _⟩ dX12_product_43 ?_
            rintro _ _ J1 _ ⟨rfl, rfl, rfl, hJ1, hT1⟩
            refine r_iload_n S rfl dX12_product_46 ?_
            refine r_if_eq S (tgt := 94) dX12_product_47 (by decide) (by decide) (fun c47 => ?_) (fun c47 => ?_)
            · exact absurd c47 (by decide)
            · exact part_ (by omega) J1 hJ1 hT1
  refine r_aload_n S rfl dX12_product_0 ?_
  refine r_callV S lk_X12_197 mk_X12_unit (U I T F hP) rfl (Nat.lt_of_lt_of_le (by decide) hn) rfl rfl rfl (Nat.le_of_ble_eq_true rfl) (by unfold roomy rmD; simp only; omega) rfl ⟨Nat.le_refl _, Nat.le_refl _⟩ dX12_product_1 ?_
  rintro v _ J2 _ ⟨rfl, rfl, hJ2, hV2, z, rfl, ez⟩
  refine r_if_ne S (tgt := 9) dX12_product_4 (by decide) (by omega) (fun c4 => ?_) (fun c4 => ?_)
  · rcases ez with ⟨h0, -⟩ | ⟨-, q, h1, h3, h4, h5⟩
    · omega
    · unfold prodP at eR
      rw [h1] at eR
      obtain ⟨p1, p2, p3, p4, p5⟩ := hu _ hP.2.2.1 q h1
      exact loop 500 q.1 q.2 J2 (by omega) hJ2 ⟨hP.1.ps hJ2, h3, p1, h5, by have := hP.2.2.2.2.1; rw [List.length_append]; omega, h4⟩ eR.symm
  · refine r_iconst S dX12_product_7 ?_
    refine r_zret SR dX12_product_8 (by decide) ⟨by decide, by decide⟩ ?_
    rcases ez with ⟨-, e, h1, h3, h4⟩ | ⟨h0, -⟩
    · unfold prodP at eR
      rw [h1] at eR
      exact ⟨rfl, rfl, mRes_bad hJ2 hV2 eR h3 h4⟩
    · omega
end
