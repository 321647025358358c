/-! ===== the reference weighs ===== -/
def prs (D φ : Int → Int) : Nat → Nat → PL
  | 0, _ => []
  | k + 1, h => (D h, φ h) :: prs D φ k (h + 1)
theorem prs_len (D φ : Int → Int) : ∀ k h : Nat, (prs D φ k h).length = k
  | 0, _ => rfl
  | k + 1, h => by show (prs D φ k (h + 1)).length + 1 = k + 1; rw [prs_len D φ k (h + 1)]
theorem shl_F {F : Int} (h0 : 0 ≤ F) (h1 : F ≤ 10) : jI 1 <<< (jI F &&& 31) = jI ((2 ^ F.toNat : Nat) : Int) := by
  have : F = 0 ∨ F = 1 ∨ F = 2 ∨ F = 3 ∨ F = 4 ∨ F = 5 ∨ F = 6 ∨ F = 7 ∨ F = 8 ∨ F = 9 ∨ F = 10 := by omega
  rcases this with rfl | rfl | rfl | rfl | rfl | rfl | rfl | rfl | rfl | rfl | rfl <;> decide +kernel
theorem sub_or {a b c : Nat} (h1 : sub a c) (h2 : sub b c) : sub (a ||| b) c := sub_tb.mpr fun i h => by
  rw [Nat.testBit_or, Bool.or_eq_true] at h
  rcases h with h | h
  · exact sub_tb.mp h1 i h
  · exact sub_tb.mp h2 i h
theorem dif_or (al a b : Nat) : dif al (a ||| b) = dif (dif al a) b := by
  apply Nat.eq_of_testBit_eq
  intro i
  rw [dif_tb, dif_tb, dif_tb, Nat.testBit_or]
  cases Nat.testBit al i <;> cases Nat.testBit a i <;> cases Nat.testBit b i <;> rfl
theorem sub_al {F al s : Nat} (h : 2 ^ F = al + 1) (hs : s ≤ al) : sub s al := by
  unfold sub
  have e : al = 2 ^ F - 1 := by omega
  rw [e, Nat.and_two_pow_sub_one_eq_mod, Nat.mod_eq_of_lt (by omega)]
section
variable (G : GE) (n : Nat) (I : Iv) (bk dr : Nat) (pt : Option Nat)
theorem c_X12_serves (hn : 103 ≤ n) {h a : Nat} (h8 : h < 8) (ha : a < 1024) (hw : rg (I 100 a)) (hd : rg (I 98 h)) : Ct G yX12_serves cX12_serves 3 (some .int) 0 0 0 [.ref (gb G + 72), .int (jI (h : Int)), .int (jI (a : Int))] n I (rst bk dr pt) (PI (if I 98 h ≤ I 100 a then 100000 - I 100 a else -1000000) n I (rst bk dr pt)) := by
  refine Ct.of [some (.ref (gb G + 72)), some (.int (jI (h : Int))), some (.int (jI (a : Int)))] (by decide) rfl rfl rfl ?_
  intro k SR
  have S : Sem G RX12 "serves" cX12_serves 3 (rmD 0 0 0) k := SR.sem
  refine r_aload_n S rfl dX12_serves_0 ?_
  refine r_getR S (o' := 100) fk_X12_96 dX12_serves_1 rfl rfl (Nat.lt_of_lt_of_le (by decide) hn) rfl ?_
  refine r_iload_n S rfl dX12_serves_4 ?_
  refine r_iald S (v := I 100 (a:Int)) dX12_serves_5 rfl rfl (Nat.lt_of_lt_of_le (by decide) hn) (by omega) (by omega) rfl ?_
  refine r_aload_n S rfl dX12_serves_6 ?_
  refine r_getR S (o' := 98) fk_X12_90 dX12_serves_7 rfl rfl (Nat.lt_of_lt_of_le (by decide) hn) rfl ?_
  refine r_iload_n S rfl dX12_serves_10 ?_
  refine r_iald S (v := I 98 (h:Int)) dX12_serves_11 rfl rfl (Nat.lt_of_lt_of_le (by decide) hn) (by omega) (by omega) rfl ?_
  refine r_icmp_lt S (tgt := 28) dX12_serves_12 (by decide) (by omega) (by omega) (fun c12 => ?_) (fun c12 => ?_)
  · refine r_ldcw S kc_X12_264 dX12_serves_28 ?_
    refine r_iret SR dX12_serves_31 ⟨by decide, by decide⟩ ?_
    refine ⟨?_, rfl, rfl, rfl⟩
    first | rw [if_pos (by omega)] | rw [if_neg (by omega)]
  · refine r_ldcw S kc_X12_263 dX12_serves_15 ?_
    refine r_aload_n S rfl dX12_serves_18 ?_
    refine r_getR S (o' := 100) fk_X12_96 dX12_serves_19 rfl rfl (Nat.lt_of_lt_of_le (by decide) hn) rfl ?_
    refine r_iload_n S rfl dX12_serves_22 ?_
    refine r_iald S (v := I 100 (a:Int)) dX12_serves_23 rfl rfl (Nat.lt_of_lt_of_le (by decide) hn) (by omega) (by omega) rfl ?_
    refine r_isub S dX12_serves_24 ?_
    refine r_goto S (tgt := 31) dX12_serves_25 (by decide) ?_
    refine r_iret SR dX12_serves_31 ⟨by decide, by decide⟩ ?_
    refine ⟨?_, rfl, rfl, rfl⟩
    first | rw [if_pos (by omega)] | rw [if_neg (by omega)]
theorem c_X12_weighs (hn : 103 ≤ n) {H F al : Nat} {w wl : Nat → Int} {D φ : Int → Int} (hW : PW w wl al) (hF : F ≤ 10) (hal : 2 ^ F = al + 1) (hH8 : H ≤ 8) (eF : I 72 3 = F) (eH : I 72 1 = H) (ew : ∀ s : Nat, s ≤ al → I 100 (s : Int) = w s) (eD : ∀ h : Int, 0 ≤ h → h < H → I 98 h = D h ∧ 0 ≤ D h ∧ D h ≤ 9999) (eφ : ∀ h : Int, 0 ≤ h → h < H → I 99 h = φ h ∧ (φ h = -1 ∨ φ h = 0 ∨ φ h = 1)) : Ct G yX12_weighs cX12_weighs 7 (some .int) 1 0 0 [.ref (gb G + 72)] n I (rst bk dr pt) (fun v n' I' ρ' => v = some (.int (jI (mV w al (prs D φ H 0) al))) ∧ n = n' ∧ rst bk dr pt = ρ' ∧ (∀ o, o ≠ 101 → I' o = I o) ∧ ∀ h k s : Nat, h + k = H → s ≤ al → I' 101 (1024 * (h : Int) + s) = mV w al (prs D φ k h) (dif al s)) := by
  refine Ct.of [some (.ref (gb G + 72)), none, none, none, none, none, none] (by decide) rfl rfl rfl ?_
  intro k SR
  have S : Sem G RX12 "weighs" cX12_weighs 7 (rmD 1 0 0) k := SR.sem
  have hal1 : al < 1024 := by
    have h1 : 2 ^ F ≤ 2 ^ 10 := Nat.pow_le_pow_right (by decide) hF
    have h2 : (2 : Nat) ^ 10 = 1024 := by decide
    omega
  have hsub : ∀ s, s ≤ al → sub s al := fun s hs => sub_al hal hs
  have wr' : ∀ s, s ≤ al → 0 ≤ w s ∧ w s ≤ 16383 := fun s hs => hW.2.2.2 s (hsub s hs)
  have e2 : ((2 ^ F : Nat) : Int) = (al : Int) + 1 := by omega
  -- one HOUSEHOLD more
  have outer : ∀ (h k' : Nat) (K : Iv) (x3 x4 x5 x6 : Option Value), h + k' = H → (∀ o, o ≠ 101 → K o = I o) → (∀ a k s : Nat, h ≤ a → a + k = H → s ≤ al → K 101 (1024 * (a : Int) + s) = mV w al (prs D φ k a) (dif al s)) → k 43 [some (.ref (gb G + 72)), some (.int (jI ((al : Int) + 1))), some (.int (jI ((h : Int) - 1))), x3, x4, x5, x6] [] n K (rst bk dr pt) 0 0 := by
    intro h
    induction h with
    | zero =>
      intro k' K x3 x4 x5 x6 hk hK hV
      have e0 := hV 0 H 0 (Nat.le_refl _) (by omega) (by omega)
      rw [dif_0, show 1024 * ((0 : Nat) : Int) + ((0 : Nat) : Int) = 0 by omega] at e0
      refine r_iload_n S rfl dX12_weighs_43 ?_
      refine r_if_lt S (tgt := 212) dX12_weighs_44 (by decide) (by decide) (fun c44 => ?_) (fun c44 => ?_)
      · refine r_aload_n S rfl dX12_weighs_212 ?_
        refine r_getR S (o' := 101) fk_X12_99 dX12_weighs_213 rfl rfl (Nat.lt_of_lt_of_le (by decide) hn) rfl ?_
        refine r_iconst S dX12_weighs_216 ?_
        refine r_iald S (v := K 101 0) dX12_weighs_217 rfl rfl (Nat.lt_of_lt_of_le (by decide) hn) (by omega) (by omega) rfl ?_
        refine r_iret SR dX12_weighs_218 ⟨by decide, by decide⟩ ?_
        exact ⟨by rw [e0], rfl, rfl, hK, fun a k s c d => hV a k s (by omega) c d⟩
      · exact absurd c44 (by decide)
    | succ h ih =>
      intro k' K x3 x4 x5 x6 hk hK hV
      have ek : ((h + 1 : Nat) : Int) - 1 = (h : Int) := by omega
      rw [ek]
      have eDh := eD h (by omega) (by omega)
      have eφh := eφ h (by omega) (by omega)
      have inner : ∀ (q s : Nat) (K2 : Iv) (x4 x5 x6 : Option Value), s + q = al + 1 → (∀ o, o ≠ 101 → K2 o = I o) → (∀ a k s : Nat, h + 1 ≤ a → a + k = H → s ≤ al → K2 101 (1024 * (a : Int) + s) = mV w al (prs D φ k a) (dif al s)) → (∀ t : Nat, t < s → K2 101 (1024 * (h : Int) + t) = mV w al (prs D φ (k' + 1) h) (dif al t)) → k 49 [some (.ref (gb G + 72)), some (.int (jI ((al : Int) + 1))), some (.int (jI (h : Int))), some (.int (jI (s : Int))), x4, x5, x6] [] n K2 (rst bk dr pt) 0 0 := by
        intro q
        induction q with
        | zero =>
          intro s K2 x4 x5 x6 hs hK2 hV2 hnew
          refine r_iload_n S rfl dX12_weighs_49 ?_
          refine r_iload_n S rfl dX12_weighs_50 ?_
          refine r_icmp_ge S (tgt := 206) dX12_weighs_51 (by decide) (by omega) (by omega) (fun c51 => ?_) (fun c51 => ?_)
          · refine r_iinc S dX12_weighs_206 rfl rfl rfl ?_
            refine r_goto S (tgt := 43) dX12_weighs_209 (by decide) ?_
            have Q := ih (k' + 1) K2 (some (.int (jI (s : Int)))) x4 x5 x6 (by omega) hK2 (fun a k t c d e => by by_cases ea : a = h; rw [ea]; rw [show k = k' + 1 by omega]; exact hnew t (by omega); exact hV2 a k t (by omega) d e)
            exact Q
          · exact absurd c51 (by omega)
        | succ q ihq =>
          intro s K2 x4 x5 x6 hs hK2 hV2 hnew
          obtain ⟨ps, eps⟩ : ∃ ps, ps = prs D φ k' (h + 1) := ⟨_, rfl⟩
          have hss := hsub s (by omega)
          have kF : K2 99 h = φ h := by rw [hK2 99 (by decide)]; exact eφh.1
          have kD : K2 98 h = D h := by rw [hK2 98 (by decide)]; exact eDh.1
          have kW : ∀ t : Nat, t ≤ al → K2 100 (t : Int) = w t := fun t ht => by rw [hK2 100 (by decide)]; exact ew t ht
          have eV : ∀ t : Nat, t ≤ al → K2 101 (1024 * ((h : Int) + 1) + t) = mV w al ps (dif al t) := fun t ht => by
            have := hV2 (h + 1) k' t (Nat.le_refl _) (by omega) ht
            rw [show ((h + 1 : Nat) : Int) = (h : Int) + 1 by omega, ← eps] at this
            exact this
          obtain ⟨fr, efr⟩ : ∃ fr, fr = dif al s := ⟨_, rfl⟩
          have hfr : sub fr al := by rw [efr]; exact sub_dif al s
          have eVs := eV s (by omega)
          rw [← efr] at eVs
          have rgV : ∀ L, sub L al → -1000000 ≤ mV w al ps L ∧ mV w al ps L ≤ 100000 * (ps.length : Int) := fun L hL => mV_rg hW ps L hL
          have hpl : ps.length = k' := by rw [eps]; exact prs_len D φ k' (h + 1)
          have eM : mV w al (prs D φ (k' + 1) h) fr = mV w al ((D h, φ h) :: ps) fr := by rw [eps]; rfl
          -- the value is laid down
          have store : ∀ (v : Int) (x6 : Option Value), v = mV w al ((D h, φ h) :: ps) fr → k 186 [some (.ref (gb G + 72)), some (.int (jI ((al : Int) + 1))), some (.int (jI (h : Int))), some (.int (jI (s : Int))), some (.int (jI (fr : Int))), some (.int (jI v)), x6] [] n K2 (rst bk dr pt) 0 0 := by
            intro v x6 hv
            refine r_aload_n S rfl dX12_weighs_186 ?_
            refine r_getR S (o' := 101) fk_X12_99 dX12_weighs_187 rfl rfl (Nat.lt_of_lt_of_le (by decide) hn) rfl ?_
            refine r_sipush S (by decide +kernel) dX12_weighs_190 ?_
            refine r_iload_n S rfl dX12_weighs_193 ?_
            refine r_imul S dX12_weighs_194 ?_
            refine r_iload_n S rfl dX12_weighs_195 ?_
            refine r_iadd S dX12_weighs_196 ?_
            refine r_iload S rfl dX12_weighs_197 ?_
            refine r_iast S dX12_weighs_199 rfl rfl (Nat.lt_of_lt_of_le (by decide) hn) (by omega) (by omega) ?_
            refine r_iinc S dX12_weighs_200 rfl rfl rfl ?_
            refine r_goto S (tgt := 49) dX12_weighs_203 (by decide) ?_
            have Q := ihq (s + 1) (up K2 101 (1024 * (h : Int) + s) v) (some (.int (jI (fr : Int)))) (some (.int (jI v))) x6 (by omega) (fun o a => by rw [up_o a]; exact hK2 o a) (fun a k t c d e => by rw [up_i (by omega)]; exact hV2 a k t c d e) (fun t ht => ?_)
            · rw [show ((s + 1 : Nat) : Int) = (s : Int) + 1 by omega] at Q
              exact Q
            · by_cases e : t = s
              · rw [e, up_s, hv, ← efr, eM]
              · rw [up_i (by omega)]
                exact hnew t (by omega)
          have at157 : ∀ (v : Int) (x6 : Option Value), (¬ D h = 0 → v = mV w al ((D h, φ h) :: ps) fr) → k 157 [some (.ref (gb G + 72)), some (.int (jI ((al : Int) + 1))), some (.int (jI (h : Int))), some (.int (jI (s : Int))), some (.int (jI (fr : Int))), some (.int (jI v)), x6] [] n K2 (rst bk dr pt) 0 0 := by
            intro v x6 hv
            refine r_aload_n S rfl dX12_weighs_157 ?_
            refine r_getR S (o' := 98) fk_X12_90 dX12_weighs_158 rfl rfl (Nat.lt_of_lt_of_le (by decide) hn) rfl ?_
            refine r_iload_n S rfl dX12_weighs_161 ?_
            refine r_iald S (v := K2 98 (h:Int)) dX12_weighs_162 rfl rfl (Nat.lt_of_lt_of_le (by decide) hn) (by omega) (by omega) rfl ?_
            rw [kD]
            refine r_if_ne S (tgt := 186) dX12_weighs_163 (by decide) (by omega) (fun c163 => ?_) (fun c163 => ?_)
            · first | exact store _ _ (hv c163) | exact store _ _ (mV_0 (show (D h, φ h).1 = 0 by show D h = 0; omega)).symm
            · refine r_ldcw S kc_X12_263 dX12_weighs_166 ?_
              refine r_aload_n S rfl dX12_weighs_169 ?_
              refine r_getR S (o' := 101) fk_X12_99 dX12_weighs_170 rfl rfl (Nat.lt_of_lt_of_le (by decide) hn) rfl ?_
              refine r_sipush S (by decide +kernel) dX12_weighs_173 ?_
              refine r_iload_n S rfl dX12_weighs_176 ?_
              refine r_iconst S dX12_weighs_177 ?_
              refine r_iadd S dX12_weighs_178 ?_
              refine r_imul S dX12_weighs_179 ?_
              refine r_iload_n S rfl dX12_weighs_180 ?_
              refine r_iadd S dX12_weighs_181 ?_
              refine r_iald S (v := K2 101 ((1024 * ((h:Int) + 1)) + (s:Int))) dX12_weighs_182 rfl rfl (Nat.lt_of_lt_of_le (by decide) hn) (by omega) (by omega) rfl ?_
              rw [eVs]
              refine r_iadd S dX12_weighs_183 ?_
              refine r_istore S dX12_weighs_184 rfl rfl ?_
              first | exact store _ _ (hv c163) | exact store _ _ (mV_0 (show (D h, φ h).1 = 0 by show D h = 0; omega)).symm
          have v0e : ∀ v0 : Int, v0 = (if φ h = 1 then -1000000 else mV w al ps fr) → k 93 [some (.ref (gb G + 72)), some (.int (jI ((al : Int) + 1))), some (.int (jI (h : Int))), some (.int (jI (s : Int))), some (.int (jI (fr : Int))), x5, x6] [.int (jI v0)] n K2 (rst bk dr pt) 0 0 := by
            intro v0 hv0
            obtain ⟨g, eg⟩ : ∃ g : Nat → Int, g = fun a => sv w (D h) a + mV w al ps (dif fr a) := ⟨_, rfl⟩
            have parts : ∀ (m p : Nat) (v : Int), p < m → sub p fr → v0 ≤ v → -1000000 ≤ v → v ≤ 900000 → (∀ a, sub a fr → p < a → g a ≤ v) → (v = v0 ∨ ∃ a, 1 ≤ a ∧ sub a fr ∧ v = g a) → ¬ φ h = 0 → k 108 [some (.ref (gb G + 72)), some (.int (jI ((al : Int) + 1))), some (.int (jI (h : Int))), some (.int (jI (s : Int))), some (.int (jI (fr : Int))), some (.int (jI v)), some (.int (jI (p : Int)))] [] n K2 (rst bk dr pt) 0 0 := by
              intro m
              induction m with
              | zero => intro p v hp; omega
              | succ m ihm =>
                intro p v hp hps hv hv1 hv2 hge hatt hφ
                have hpal : p ≤ al := sub_le (hps.tr hfr)
                have hso : s ||| p ≤ al := sub_le (sub_or hss (hps.tr hfr))
                have eVp := eV (s ||| p) hso
                rw [dif_or, ← efr] at eVp
                have hsvr : -1000000 ≤ sv w (D h) p ∧ sv w (D h) p ≤ 100000 := by
                  have := wr' p hpal
                  unfold sv
                  split <;> omega
                have rgp := rgV (dif fr p) ((sub_dif fr p).tr hfr)
                have C : Ct G yX12_serves cX12_serves 3 (some .int) 0 0 0 [.ref (gb G + 72), .int (jI (h : Int)), .int (jI (p : Int))] n K2 (rst bk dr pt) (PI (sv w (D h) p) n K2 (rst bk dr pt)) := by
                  have C := c_X12_serves G n K2 bk dr pt hn (h := h) (a := p) (by omega) (by omega) (by rw [kW p hpal]; have := wr' p hpal; omega) (by rw [kD]; omega)
                  rw [kD, kW p hpal] at C
                  exact C
                have eg' : g p = sv w (D h) p + mV w al ps (dif fr p) := by rw [eg]
                refine r_iload S rfl dX12_weighs_108 ?_
                refine r_if_le S (tgt := 157) dX12_weighs_110 (by decide) (by omega) (fun c110 => ?_) (fun c110 => ?_)
                · refine at157 v _ (fun hD => ?_)
                  rw [mV_s (show ¬ (D h, φ h).1 = 0 from hD) (show ¬ (D h, φ h).2 = 0 from hφ)]
                  have hp0 : p = 0 := by omega
                  rw [hp0] at hge
                  refine Int.le_antisymm ?_ ?_
                  · rcases hatt with e | ⟨a, a1, a2, a3⟩
                    · rw [e, hv0]; exact mxs_v _ _ _ _
                    · rw [a3, eg]; exact mxs_ge (fun a => sv w (D h) a + mV w al ps (dif fr a)) (fun a => decide (a &&& fr = a)) al _ a a1 (sub_le (a2.tr hfr)) (decide_eq_true a2)
                  · rcases mxs_att (fun a => sv w (D h) a + mV w al ps (dif fr a)) (fun a => decide (a &&& fr = a)) al (if φ h = 1 then -1000000 else mV w al ps fr) with e | ⟨a, a1, a2, a3, a4⟩
                    · have e' : mxs (fun a => sv w (D h, φ h).1 a + mV w al ps (dif fr a)) (fun a => decide (a &&& fr = a)) al (if (D h, φ h).2 = 1 then -1000000 else mV w al ps fr) = v0 := by rw [hv0]; exact e
                      rw [e']; exact hv
                    · have a4' : mxs (fun a => sv w (D h, φ h).1 a + mV w al ps (dif fr a)) (fun a => decide (a &&& fr = a)) al (if (D h, φ h).2 = 1 then -1000000 else mV w al ps fr) = g a := by rw [eg]; exact a4
                      rw [a4']; exact hge a (of_decide_eq_true (p := a &&& fr = a) a3) a1
                · refine r_iload S rfl dX12_weighs_113 ?_
                  refine r_aload_n S rfl dX12_weighs_115 ?_
                  refine r_iload_n S rfl dX12_weighs_116 ?_
                  refine r_iload S rfl dX12_weighs_117 ?_
                  refine r_callV S lk_X12_265 mk_X12_serves C rfl (Nat.lt_of_lt_of_le (by decide) hn) rfl rfl rfl (Nat.le_of_ble_eq_true rfl) ⟨by decide, by decide⟩ rfl ⟨by decide, by decide⟩ dX12_weighs_119 ?_
                  rintro _ _ _ _ ⟨rfl, rfl, rfl, rfl⟩
                  refine r_aload_n S rfl dX12_weighs_122 ?_
                  refine r_getR S (o' := 101) fk_X12_99 dX12_weighs_123 rfl rfl (Nat.lt_of_lt_of_le (by decide) hn) rfl ?_
                  refine r_sipush S (by decide +kernel) dX12_weighs_126 ?_
                  refine r_iload_n S rfl dX12_weighs_129 ?_
                  refine r_iconst S dX12_weighs_130 ?_
                  refine r_iadd S dX12_weighs_131 ?_
                  refine r_imul S dX12_weighs_132 ?_
                  refine r_iload_n S rfl dX12_weighs_133 ?_
                  refine r_iload S rfl dX12_weighs_134 ?_
                  refine r_ior S (v := ((s ||| p : Nat) : Int)) (or_n s p) dX12_weighs_136 ?_
                  refine r_iadd S dX12_weighs_137 ?_
                  refine r_iald S (v := K2 101 ((1024 * ((h:Int) + 1)) + ((s ||| p : Nat) : Int))) dX12_weighs_138 rfl rfl (Nat.lt_of_lt_of_le (by decide) hn) (by omega) (by omega) rfl ?_
                  rw [eVp]
                  refine r_iadd S dX12_weighs_139 ?_
                  refine r_mmax S lk_X12_268 (by omega) (by omega) (by decide) (Nat.le_of_ble_eq_true rfl) rfl ⟨by decide, by decide⟩ dX12_weighs_140 ?_
                  refine r_istore S dX12_weighs_143 rfl rfl ?_
                  refine r_iload S rfl dX12_weighs_145 ?_
                  refine r_iconst S dX12_weighs_147 ?_
                  refine r_isub S dX12_weighs_148 ?_
                  rw [show (p : Int) - 1 = ((p - 1 : Nat) : Int) by omega]
                  refine r_iload S rfl dX12_weighs_149 ?_
                  refine r_iand S (v := (((p - 1) &&& fr : Nat) : Int)) (and_n (p - 1) fr) dX12_weighs_151 ?_
                  refine r_istore S dX12_weighs_152 rfl rfl ?_
                  refine r_goto S (tgt := 108) dX12_weighs_154 (by decide) ?_
                  refine ihm ((p - 1) &&& fr) _ (by have := and_pred_lt (r := p) (o := fr) (by omega); omega) (sub_and _ _) (by omega) (by omega) (by omega) (fun a a1 a2 => ?_) ?_ hφ
                  · by_cases e : a = p
                    · rw [e, eg']; omega
                    · by_cases hlt : a < p
                      · have := sub_next p fr a hps a1 hlt
                        omega
                      · have := hge a a1 (by omega)
                        omega
                  · by_cases hm : v ≤ sv w (D h) p + mV w al ps (dif fr p)
                    · exact Or.inr ⟨p, by omega, hps, by rw [eg']; omega⟩
                    · rw [Int.max_eq_left (by omega)]
                      exact hatt
            have rg0 := rgV fr hfr
            have hv0r : -1000000 ≤ v0 ∧ v0 ≤ 900000 := by rw [hv0]; split <;> omega
            refine r_istore S dX12_weighs_93 rfl rfl ?_
            refine r_aload_n S rfl dX12_weighs_95 ?_
            refine r_getR S (o' := 99) fk_X12_93 dX12_weighs_96 rfl rfl (Nat.lt_of_lt_of_le (by decide) hn) rfl ?_
            refine r_iload_n S rfl dX12_weighs_99 ?_
            refine r_iald S (v := K2 99 (h:Int)) dX12_weighs_100 rfl rfl (Nat.lt_of_lt_of_le (by decide) hn) (by omega) (by omega) rfl ?_
            rw [kF]
            refine r_if_eq S (tgt := 157) dX12_weighs_101 (by decide) (by omega) (fun c101 => ?_) (fun c101 => ?_)
            · exact at157 v0 _ (fun hD => by rw [mV_n (show ¬ (D h, φ h).1 = 0 from hD) (show (D h, φ h).2 = 0 by show φ h = 0; omega), hv0, if_neg (by omega)])
            · refine r_iload S rfl dX12_weighs_104 ?_
              refine r_istore S dX12_weighs_106 rfl rfl ?_
              exact parts (fr + 1) fr v0 (by omega) (sub.rf fr) (Int.le_refl _) hv0r.1 hv0r.2 (fun a a1 a2 => absurd (sub_le a1) (by omega)) (Or.inl rfl) c101
          refine r_iload_n S rfl dX12_weighs_49 ?_
          refine r_iload_n S rfl dX12_weighs_50 ?_
          refine r_icmp_ge S (tgt := 206) dX12_weighs_51 (by decide) (by omega) (by omega) (fun c51 => ?_) (fun c51 => ?_)
          · exact absurd c51 (by omega)
          · refine r_iload_n S rfl dX12_weighs_54 ?_
            refine r_iconst S dX12_weighs_55 ?_
            refine r_isub S dX12_weighs_56 ?_
            rw [show (al : Int) + 1 - 1 = al by omega]
            refine r_iload_n S rfl dX12_weighs_57 ?_
            refine r_iconst S dX12_weighs_58 ?_
            refine r_ixor S (v := (jI (s : Int) ^^^ jI (-1)).toInt) (not_n _) dX12_weighs_59 ?_
            refine r_iand S (v := (fr : Int)) (by rw [efr]; exact dif_n al s (not_n _)) dX12_weighs_60 ?_
            refine r_istore S dX12_weighs_61 rfl rfl ?_
            refine r_aload_n S rfl dX12_weighs_63 ?_
            refine r_getR S (o' := 99) fk_X12_93 dX12_weighs_64 rfl rfl (Nat.lt_of_lt_of_le (by decide) hn) rfl ?_
            refine r_iload_n S rfl dX12_weighs_67 ?_
            refine r_iald S (v := K2 99 (h:Int)) dX12_weighs_68 rfl rfl (Nat.lt_of_lt_of_le (by decide) hn) (by omega) (by omega) rfl ?_
            rw [kF]
            refine r_iconst S dX12_weighs_69 ?_
            refine r_icmp_ne S (tgt := 79) dX12_weighs_70 (by decide) (by omega) (by decide) (fun c70 => ?_) (fun c70 => ?_)
            · refine r_aload_n S rfl dX12_weighs_79 ?_
              refine r_getR S (o' := 101) fk_X12_99 dX12_weighs_80 rfl rfl (Nat.lt_of_lt_of_le (by decide) hn) rfl ?_
              refine r_sipush S (by decide +kernel) dX12_weighs_83 ?_
              refine r_iload_n S rfl dX12_weighs_86 ?_
              refine r_iconst S dX12_weighs_87 ?_
              refine r_iadd S dX12_weighs_88 ?_
              refine r_imul S dX12_weighs_89 ?_
              refine r_iload_n S rfl dX12_weighs_90 ?_
              refine r_iadd S dX12_weighs_91 ?_
              refine r_iald S (v := K2 101 ((1024 * ((h:Int) + 1)) + (s:Int))) dX12_weighs_92 rfl rfl (Nat.lt_of_lt_of_le (by decide) hn) (by omega) (by omega) rfl ?_
              rw [eVs]
              first | exact v0e _ (by rw [if_pos (by omega)]) | exact v0e _ (by rw [if_neg (by omega)])
            · refine r_ldcw S kc_X12_264 dX12_weighs_73 ?_
              refine r_goto S (tgt := 93) dX12_weighs_76 (by decide) ?_
              first | exact v0e _ (by rw [if_pos (by omega)]) | exact v0e _ (by rw [if_neg (by omega)])
      refine r_iload_n S rfl dX12_weighs_43 ?_
      refine r_if_lt S (tgt := 212) dX12_weighs_44 (by decide) (by omega) (fun c44 => ?_) (fun c44 => ?_)
      · exact absurd c44 (by omega)
      · refine r_iconst S dX12_weighs_47 ?_
        refine r_istore_n S dX12_weighs_48 rfl rfl ?_
        exact inner (al + 1) 0 K x4 x5 x6 (by omega) hK hV (fun t ht => absurd ht (by omega))
  have first_ : ∀ (q s : Nat) (K : Iv), s + q = al + 1 → (∀ o, o ≠ 101 → K o = I o) → (∀ t : Nat, t < s → K 101 (1024 * (H : Int) + t) = 0) → k 9 [some (.ref (gb G + 72)), some (.int (jI ((al : Int) + 1))), some (.int (jI (s : Int))), none, none, none, none] [] n K (rst bk dr pt) 0 0 := by
    intro q
    induction q with
    | zero =>
      intro s K hs hK hz
      have kH : K 72 1 = H := by rw [hK 72 (by decide)]; exact eH
      refine r_iload_n S rfl dX12_weighs_9 ?_
      refine r_iload_n S rfl dX12_weighs_10 ?_
      refine r_icmp_ge S (tgt := 36) dX12_weighs_11 (by decide) (by omega) (by omega) (fun c11 => ?_) (fun c11 => ?_)
      · refine r_aload_n S rfl dX12_weighs_36 ?_
        refine r_getI S (v := K 72 1) fk_X12_109 dX12_weighs_37 rfl rfl (Nat.lt_of_lt_of_le (by decide) hn) rfl ?_
        refine r_iconst S dX12_weighs_40 ?_
        refine r_isub S dX12_weighs_41 ?_
        refine r_istore_n S dX12_weighs_42 rfl rfl ?_
        have Q := outer H 0 K none none none none (by omega) hK (fun a k t c d e => by rw [show a = H by omega, show k = 0 by omega]; exact hz t (by omega))
        rw [kH]
        exact Q
      · exact absurd c11 (by omega)
    | succ q ih =>
      intro s K hs hK hz
      have kH : K 72 1 = H := by rw [hK 72 (by decide)]; exact eH
      refine r_iload_n S rfl dX12_weighs_9 ?_
      refine r_iload_n S rfl dX12_weighs_10 ?_
      refine r_icmp_ge S (tgt := 36) dX12_weighs_11 (by decide) (by omega) (by omega) (fun c11 => ?_) (fun c11 => ?_)
      · exact absurd c11 (by omega)
      · refine r_aload_n S rfl dX12_weighs_14 ?_
        refine r_getR S (o' := 101) fk_X12_99 dX12_weighs_15 rfl rfl (Nat.lt_of_lt_of_le (by decide) hn) rfl ?_
        refine r_sipush S (by decide +kernel) dX12_weighs_18 ?_
        refine r_aload_n S rfl dX12_weighs_21 ?_
        refine r_getI S (v := K 72 1) fk_X12_109 dX12_weighs_22 rfl rfl (Nat.lt_of_lt_of_le (by decide) hn) rfl ?_
        refine r_imul S dX12_weighs_25 ?_
        refine r_iload_n S rfl dX12_weighs_26 ?_
        refine r_iadd S dX12_weighs_27 ?_
        refine r_iconst S dX12_weighs_28 ?_
        refine r_iast S dX12_weighs_29 rfl rfl (Nat.lt_of_lt_of_le (by decide) hn) (by omega) (by omega) ?_
        refine r_iinc S dX12_weighs_30 rfl rfl rfl ?_
        refine r_goto S (tgt := 9) dX12_weighs_33 (by decide) ?_
        have Q := ih (s + 1) (up K 101 (1024 * (H : Int) + s) 0) (by omega) (fun o a => by rw [up_o a]; exact hK o a) (fun t ht => by by_cases e : t = s; rw [e, up_s]; rw [up_i (by omega)]; exact hz t (by omega))
        rw [show ((s + 1 : Nat) : Int) = (s : Int) + 1 by omega] at Q
        rw [kH]
        exact Q
  refine r_iconst S dX12_weighs_0 ?_
  refine r_aload_n S rfl dX12_weighs_1 ?_
  refine r_getI S (v := I 72 3) fk_X12_129 dX12_weighs_2 rfl rfl (Nat.lt_of_lt_of_le (by decide) hn) rfl ?_
  refine r_ishl S (v := ((2 ^ F : Nat) : Int)) (by rw [eF]; exact shl_F (F := (F : Int)) (by omega) (by omega)) dX12_weighs_5 ?_
  refine r_istore_n S dX12_weighs_6 rfl rfl ?_
  refine r_iconst S dX12_weighs_7 ?_
  refine r_istore_n S dX12_weighs_8 rfl rfl ?_
  rw [e2]
  exact first_ (al + 1) 0 I (by omega) (fun _ _ => rfl) (fun t ht => absurd ht (by omega))
end
