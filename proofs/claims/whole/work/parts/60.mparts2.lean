/-! ===== the reference's parts() ===== -/
theorem drop_cons' : ∀ (st : List Nat) (h a : Nat) (as : List Nat), st.drop h = a :: as → st.getD h 0 = a ∧ st.drop (h + 1) = as
  | [], 0, _, _, e => by cases e
  | [], h + 1, _, _, e => by rw [List.drop_nil] at e; cases e
  | x :: st, 0, a, as, e => by
    have e' : x :: st = a :: as := e
    cases e'
    exact ⟨rfl, rfl⟩
  | x :: st, h + 1, a, as, e => drop_cons' st h a as e
def mpOnly (I J : Iv) : Prop := (∀ o, o ≠ 72 → o ≠ 92 → o ≠ 98 → o ≠ 99 → o ≠ 100 → o ≠ 101 → o ≠ 102 → J o = I o) ∧ ∀ j, j ≠ 48 → j ≠ 49 → J 72 j = I 72 j
theorem mpOnly.rf (I : Iv) : mpOnly I I := ⟨fun _ _ _ _ _ _ _ _ => rfl, fun _ _ _ => rfl⟩
theorem mpOnly.tr {I J K : Iv} (h1 : mpOnly I J) (h2 : mpOnly J K) : mpOnly I K := ⟨fun o a b c d e f g => (h2.1 o a b c d e f g).trans (h1.1 o a b c d e f g), fun j a b => (h2.2 j a b).trans (h1.2 j a b)⟩
theorem mpOnly.ob {I J : Iv} (h : mpOnly I J) {b : Nat} (hb : b = 92 ∨ b = 98 ∨ b = 99 ∨ b = 100 ∨ b = 101 ∨ b = 102) (i v : Int) : mpOnly I (up J b i v) := ⟨fun o x y z w u s t => by rw [up_o (by omega)]; exact h.1 o x y z w u s t, fun j x y => by rw [up_o (by omega)]; exact h.2 j x y⟩
theorem mpOnly.put {I J : Iv} (h : mpOnly I J) {j : Int} (hj : j = 48 ∨ j = 49) (v : Int) : mpOnly I (up J 72 j v) := ⟨fun o x y z w u s t => by rw [up_o x]; exact h.1 o x y z w u s t, fun i x y => by rw [up_i (by omega)]; exact h.2 i x y⟩
theorem mpOnly.one {I J : Iv} {b : Nat} (hb : b = 92 ∨ b = 101) (h : ∀ o, o ≠ b → J o = I o) : mpOnly I J := ⟨fun o x y _ _ _ z _ => h o (by omega), fun j _ _ => by rw [h 72 (by omega)]⟩
def mpRes (w : Nat → Int) (D : Int → Int) (st : List Nat) (H : Nat) (J : Iv) : Prop := J 72 48 = (srvN D st H : Int) ∧ J 72 49 = w (gnN st H) ∧ ∀ h : Nat, h < H → J 102 (h : Int) = (st.getD h 0 : Int)
theorem and_dif {g p al : Nat} (hp : sub p al) (h : p &&& g = 0) : sub p (dif al g) := sub_tb.mpr fun i hi => by
  rw [dif_tb, sub_tb.mp hp i hi]
  cases hg : Nat.testBit g i with
  | false => rfl
  | true =>
    have e : Nat.testBit (p &&& g) i = true := by rw [Nat.testBit_and, hi, hg]; rfl
    rw [h, Nat.zero_testBit] at e
    cases e
theorem dif_and {g p al : Nat} (h : sub p (dif al g)) : p &&& g = 0 := by
  apply Nat.eq_of_testBit_eq
  intro i
  rw [Nat.testBit_and, Nat.zero_testBit]
  cases hp : Nat.testBit p i with
  | false => rfl
  | true =>
    have := sub_tb.mp h i hp
    rw [dif_tb, Bool.and_eq_true] at this
    have h2 := this.2
    cases hg : Nat.testBit g i with
    | false => rfl
    | true => rw [hg] at h2; cases h2
section
variable (G : GE) (n : Nat) (I : Iv) (bk dr : Nat) (pt : Option Nat)
theorem c_X12_parts (hn : 103 ≤ n) {H F al : Nat} {rs : RLs} (hm : modI I rs) (hF : F ≤ 10) (hal : 2 ^ F = al + 1) (hH8 : H ≤ 8) (eF : I 72 3 = F) (eH : I 72 1 = H) (hws : ∀ i : Nat, i < F → 1 ≤ I 84 i ∧ I 84 i ≤ 999) (hfx : ∀ h : Int, 0 ≤ h → h < 8 → rg (I 77 h) ∧ rg (I 78 h) ∧ rg (I 79 h) ∧ (I 85 h = 0 ∨ I 85 h = 1)) : Ct G yX12_parts cX12_parts 5 none 4 0 0 [.ref (gb G + 72)] n I (rst bk dr pt) (fun v n' I' ρ' => v = none ∧ n = n' ∧ rst bk dr pt = ρ' ∧ mpOnly I I' ∧ mpRes (wgt (I 84) F) (fun h => dueS (fxM I h) rs) (cG (wgt (I 84) F) (wlo (I 84) F) al 0 (dul (fun h => dueS (fxM I h) rs) H 0) al) H I') := by
  refine Ct.of [some (.ref (gb G + 72)), none, none, none, none] (by decide) rfl rfl rfl ?_
  intro k SR
  have S : Sem G RX12 "parts" cX12_parts 5 (rmD 4 0 0) k := SR.sem
  have hW := wgt_PW hF hal hws
  obtain ⟨w, ew⟩ : ∃ w, w = wgt (I 84) F := ⟨_, rfl⟩
  obtain ⟨wl, ewl⟩ : ∃ wl, wl = wlo (I 84) F := ⟨_, rfl⟩
  obtain ⟨D, eD⟩ : ∃ D : Int → Int, D = fun h => dueS (fxM I h) rs := ⟨_, rfl⟩
  rw [← ew, ← ewl] at hW SR
  rw [← eD] at SR
  obtain ⟨st, est⟩ : ∃ st, st = cG w wl al 0 (dul D H 0) al := ⟨_, rfl⟩
  rw [← est] at SR
  have hal1 : al < 1024 := by
    have h1 : 2 ^ F ≤ 2 ^ 10 := Nat.pow_le_pow_right (by decide) hF
    have h2 : (2 : Nat) ^ 10 = 1024 := by decide
    omega
  have hsub : ∀ s, s ≤ al → sub s al := fun s hs => sub_al hal hs
  have wr' : ∀ s, s ≤ al → 0 ≤ w s ∧ w s ≤ 16383 := fun s hs => hW.2.2.2 s (hsub s hs)
  have hD : ∀ h : Int, 0 ≤ D h ∧ D h ≤ 9999 := fun h => by
    rw [eD]
    exact dueS_range (fxM I h) rs
  have hdm : ∀ d ∈ dul D H 0, 0 ≤ d := dul_mem H 0 (fun j _ _ => (hD j).1)
  -- the last loop
  have choose : ∀ (q h : Nat) (K : Iv) (z1 : Int) (x4 : Option Value) (as : List Nat), h + q = H → as = st.drop h → mpOnly I K → (∀ j : Int, 0 ≤ j → j < H → K 98 j = D j ∧ K 99 j = phD D st j) → (∀ s : Nat, s ≤ al → K 100 (s : Int) = w s) → (∀ a k s : Nat, a + k = H → s ≤ al → K 101 (1024 * (a : Int) + s) = mV w al (prs D (phD D st) k a) (dif al s)) → K 72 48 = (srvN D st h : Int) → (∀ j : Nat, j < h → K 102 (j : Int) = (st.getD j 0 : Int)) → sub (gnN st h) al → Opt w al (prs D (phD D st) q h) (dif al (gnN st h)) as → k 150 [some (.ref (gb G + 72)), some (.int (jI z1)), some (.int (jI (gnN st h : Int))), some (.int (jI (h : Int))), x4] [] n K (rst bk dr pt) 0 0 := by
    intro q
    induction q with
    | zero =>
      intro h K z1 x4 as hh eas hK k98 k100 k101 k48 k102 hgn hO
      have kH : K 72 1 = H := by rw [hK.2 1 (by decide) (by decide)]; exact eH
      have hg := sub_le hgn
      refine r_iload_n S rfl dX12_parts_150 ?_
      refine r_aload_n S rfl dX12_parts_151 ?_
      refine r_getI S (v := K 72 1) fk_X12_109 dX12_parts_152 rfl rfl (Nat.lt_of_lt_of_le (by decide) hn) rfl ?_
      refine r_icmp_ge S (tgt := 287) dX12_parts_155 (by decide) (by omega) (by omega) (fun c155 => ?_) (fun c155 => ?_)
      · refine r_aload_n S rfl dX12_parts_287 ?_
        refine r_aload_n S rfl dX12_parts_288 ?_
        refine r_getR S (o' := 100) fk_X12_96 dX12_parts_289 rfl rfl (Nat.lt_of_lt_of_le (by decide) hn) rfl ?_
        refine r_iload_n S rfl dX12_parts_292 ?_
        refine r_iald S (v := K 100 (gnN st h:Int)) dX12_parts_293 rfl rfl (Nat.lt_of_lt_of_le (by decide) hn) (by omega) (by omega) rfl ?_
        refine r_putI S fk_X12_279 dX12_parts_294 rfl rfl (Nat.lt_of_lt_of_le (by decide) hn) (Or.inl rfl) (Or.inl rfl) ?_
        refine r_vret SR dX12_parts_297 ⟨by decide, by decide⟩ ?_
        exact ⟨rfl, rfl, rfl, hK.put (Or.inr rfl) _, by rw [up_i (by decide), k48, show h = H by omega], by rw [up_s, k100 _ hg, show h = H by omega], fun j hj => by rw [up_o (by decide)]; exact k102 j (by omega)⟩
      · exact absurd c155 (by omega)
    | succ q ih =>
      intro h K z1 x4 as hh eas hK k98 k100 k101 k48 k102 hgn hO
      have kH : K 72 1 = H := by rw [hK.2 1 (by decide) (by decide)]; exact eH
      have kDh := k98 h (by omega) (by omega)
      have hgl := sub_le hgn
      have hP : prs D (phD D st) (q + 1) h = (D h, phD D st h) :: prs D (phD D st) q (h + 1) := rfl
      rw [hP] at hO
      cases as with
      | nil => exact hO.1.elim
      | cons a as =>
        have hdc := drop_cons' st h a as eas.symm
        obtain ⟨S1, eS1⟩ : ∃ S1 : Nat, S1 = srvN D st h ||| (if phD D st h = 1 then 2 ^ h else 0) := ⟨_, rfl⟩
        have eS1' : srvN D st (h + 1) = S1 := eS1.symm
        have eg1 : gnN st (h + 1) = gnN st h ||| a := by rw [← hdc.1]; rfl
        -- on to the next
        have nxt : ∀ (K2 : Iv) (x4 : Option Value), mpOnly I K2 → K2 98 = K 98 → K2 99 = K 99 → K2 100 = K 100 → K2 101 = K 101 → K2 72 48 = (S1 : Int) → (∀ j : Nat, j < h + 1 → K2 102 (j : Int) = (st.getD j 0 : Int)) → sub (gnN st h ||| a) al → Opt w al (prs D (phD D st) q (h + 1)) (dif al (gnN st h ||| a)) as → k 281 [some (.ref (gb G + 72)), some (.int (jI z1)), some (.int (jI ((gnN st h ||| a : Nat) : Int))), some (.int (jI (h : Int))), x4] [] n K2 (rst bk dr pt) 0 0 := by
          intro K2 x4 g1 g2 g3 g4 g5 g6 g7 g8 g9
          refine r_iinc S dX12_parts_281 rfl rfl rfl ?_
          refine r_goto S (tgt := 150) dX12_parts_284 (by decide) ?_
          have Q := ih (h + 1) K2 z1 x4 as (by omega) hdc.2.symm g1 (by rw [g2, g3]; exact k98) (by rw [g4]; exact k100) (by rw [g5]; exact k101) (by rw [eS1']; exact g6) g7 (by rw [eg1]; exact g8) (by rw [eg1]; exact g9)
          rw [eg1, show ((h + 1 : Nat) : Int) = (h : Int) + 1 by omega] at Q
          exact Q
        obtain ⟨K1, eK1⟩ : ∃ K1, K1 = up (up K 102 h 0) 72 48 S1 := ⟨_, rfl⟩
        have oK1 : mpOnly I K1 := by rw [eK1]; exact (hK.ob (by omega) _ _).put (Or.inl rfl) _
        have c98 : K1 98 = K 98 := by rw [eK1, up_o (by decide), up_o (by decide)]
        have c99 : K1 99 = K 99 := by rw [eK1, up_o (by decide), up_o (by decide)]
        have c100 : K1 100 = K 100 := by rw [eK1, up_o (by decide), up_o (by decide)]
        have c101 : K1 101 = K 101 := by rw [eK1, up_o (by decide), up_o (by decide)]
        have c48 : K1 72 48 = (S1 : Int) := by rw [eK1, up_s]
        have c102 : ∀ j : Nat, j ≠ h → K1 102 (j : Int) = K 102 (j : Int) := fun j hj => by rw [eK1, up_o (by decide), up_i (by omega)]
        have c102h : K1 102 h = 0 := by rw [eK1, up_o (by decide), up_s]
        have hL : sub (dif al (gnN st h)) al := sub_dif _ _
        have p01 := phD_01 D st h
        have dor : ∀ b, dif al (gnN st h ||| b) = dif (dif al (gnN st h)) b := fun b => dif_or al (gnN st h) b
        have skipped : (D h = 0 ∨ phD D st h = 0) → k 281 [some (.ref (gb G + 72)), some (.int (jI z1)), some (.int (jI (gnN st h : Int))), some (.int (jI (h : Int))), x4] [] n K1 (rst bk dr pt) 0 0 := by
          intro hs
          obtain ⟨ea, hO2⟩ := Opt_skip hL hO hs
          have e0 : gnN st h ||| a = gnN st h := by rw [ea, Nat.or_zero]
          have Q := nxt K1 x4 oK1 c98 c99 c100 c101 c48 (fun j hj => by by_cases e : j = h; rw [e, c102h, hdc.1, ea]; rfl; rw [c102 j e]; exact k102 j (by omega)) (by rw [e0]; exact hgn) (by rw [e0]; exact hO2)
          rw [e0] at Q
          exact Q
        have taken : ¬ D h = 0 → phD D st h = 1 → k 212 [some (.ref (gb G + 72)), some (.int (jI z1)), some (.int (jI (gnN st h : Int))), some (.int (jI (h : Int))), x4] [] n K1 (rst bk dr pt) 0 0 := by
          intro hd0 hp1
          obtain ⟨t1, t2, t3, t4, t5⟩ := Opt_take hW hL (by rw [prs_len]; omega) (prs_mem (P := fun _ f => f = -1 ∨ f = 0 ∨ f = 1) q (h + 1) (fun j _ _ => Or.inr (phD_01 D st j))) hO hd0 hp1
          have haal : a ≤ al := sub_le (t2.tr hL)
          have eVh := k101 h (q + 1) (gnN st h) hh hgl
          rw [← c101, hP] at eVh
          have loop : ∀ (m p : Nat), p + m = a → 1 ≤ p → k 215 [some (.ref (gb G + 72)), some (.int (jI z1)), some (.int (jI (gnN st h : Int))), some (.int (jI (h : Int))), some (.int (jI (p : Int)))] [] n K1 (rst bk dr pt) 0 0 := by
            intro m
            induction m with
            | zero =>
              intro p hp p1
              have epa : p = a := by omega
              rw [epa]
              have hso : gnN st h ||| a ≤ al := sub_le (sub_or hgn (t2.tr hL))
              have eVp := k101 (h + 1) q (gnN st h ||| a) (by omega) hso
              rw [← c101, dor, show ((h + 1 : Nat) : Int) = (h : Int) + 1 by omega] at eVp
              have C : Ct G yX12_serves cX12_serves 3 (some .int) 0 0 0 [.ref (gb G + 72), .int (jI (h : Int)), .int (jI (a : Int))] n K1 (rst bk dr pt) (PI (sv w (D h) a) n K1 (rst bk dr pt)) := by
                have C := c_X12_serves G n K1 bk dr pt hn (h := h) (a := a) (by omega) (by omega) (by rw [c100, k100 a haal]; have := wr' a haal; omega) (by rw [c98, kDh.1]; have := hD h; omega)
                rw [c98, c100, kDh.1, k100 a haal] at C
                exact C
              have hwa := wr' a haal
              have hsvr : -1000000 ≤ sv w (D h) a ∧ sv w (D h) a ≤ 100000 := by unfold sv; split <;> omega
              have rgp := mV_rg hW (prs D (phD D st) q (h + 1)) (dif (dif al (gnN st h)) a) ((sub_dif _ _).tr hL)
              rw [prs_len] at rgp
              have rgh := mV_rg hW ((D h, phD D st h) :: prs D (phD D st) q (h + 1)) (dif al (gnN st h)) hL
              rw [List.length_cons, prs_len] at rgh
              refine r_iload S rfl dX12_parts_215 ?_
              refine r_iload_n S rfl dX12_parts_217 ?_
              refine r_iand S (v := ((a &&& gnN st h : Nat) : Int)) (and_n a (gnN st h)) dX12_parts_218 ?_
              refine r_if_ne S (tgt := 262) dX12_parts_219 (by decide) (by rw [dif_and t2]; decide) (fun c219 => ?_) (fun c219 => ?_)
              · exact absurd (show ((a &&& gnN st h : Nat) : Int) = 0 by rw [dif_and t2]; rfl) c219
              · refine r_aload_n S rfl dX12_parts_222 ?_
                refine r_iload_n S rfl dX12_parts_223 ?_
                refine r_iload S rfl dX12_parts_224 ?_
                refine r_callV S lk_X12_265 mk_X12_serves C rfl (Nat.lt_of_lt_of_le (by decide) hn) rfl rfl rfl (Nat.le_of_ble_eq_true rfl) ⟨by decide, by decide⟩ rfl ⟨by decide, by decide⟩ dX12_parts_226 ?_
                rintro _ _ _ _ ⟨rfl, rfl, rfl, rfl⟩
                refine r_aload_n S rfl dX12_parts_229 ?_
                refine r_getR S (o' := 101) fk_X12_99 dX12_parts_230 rfl rfl (Nat.lt_of_lt_of_le (by decide) hn) rfl ?_
                refine r_sipush S (by decide +kernel) dX12_parts_233 ?_
                refine r_iload_n S rfl dX12_parts_236 ?_
                refine r_iconst S dX12_parts_237 ?_
                refine r_iadd S dX12_parts_238 ?_
                refine r_imul S dX12_parts_239 ?_
                refine r_iload_n S rfl dX12_parts_240 ?_
                refine r_iload S rfl dX12_parts_241 ?_
                refine r_ior S (v := ((gnN st h ||| a : Nat) : Int)) (or_n (gnN st h) a) dX12_parts_243 ?_
                refine r_iadd S dX12_parts_244 ?_
                refine r_iald S (v := K1 101 ((1024 * ((h:Int) + 1)) + ((gnN st h ||| a : Nat) : Int))) dX12_parts_245 rfl rfl (Nat.lt_of_lt_of_le (by decide) hn) (by omega) (by omega) rfl ?_
                rw [eVp]
                refine r_iadd S dX12_parts_246 ?_
                refine r_aload_n S rfl dX12_parts_247 ?_
                refine r_getR S (o' := 101) fk_X12_99 dX12_parts_248 rfl rfl (Nat.lt_of_lt_of_le (by decide) hn) rfl ?_
                refine r_sipush S (by decide +kernel) dX12_parts_251 ?_
                refine r_iload_n S rfl dX12_parts_254 ?_
                refine r_imul S dX12_parts_255 ?_
                refine r_iload_n S rfl dX12_parts_256 ?_
                refine r_iadd S dX12_parts_257 ?_
                refine r_iald S (v := K1 101 ((1024 * (h:Int)) + (gnN st h:Int))) dX12_parts_258 rfl rfl (Nat.lt_of_lt_of_le (by decide) hn) (by omega) (by omega) rfl ?_
                rw [eVh]
                refine r_icmp_eq S (tgt := 268) dX12_parts_259 (by decide) (by omega) (by omega) (fun c259 => ?_) (fun c259 => ?_)
                · refine r_aload_n S rfl dX12_parts_268 ?_
                  refine r_getR S (o' := 102) fk_X12_102 dX12_parts_269 rfl rfl (Nat.lt_of_lt_of_le (by decide) hn) rfl ?_
                  refine r_iload_n S rfl dX12_parts_272 ?_
                  refine r_iload S rfl dX12_parts_273 ?_
                  refine r_iast S dX12_parts_275 rfl rfl (Nat.lt_of_lt_of_le (by decide) hn) (by omega) (by omega) ?_
                  refine r_iload_n S rfl dX12_parts_276 ?_
                  refine r_iload S rfl dX12_parts_277 ?_
                  refine r_ior S (v := ((gnN st h ||| a : Nat) : Int)) (or_n (gnN st h) a) dX12_parts_279 ?_
                  refine r_istore_n S dX12_parts_280 rfl rfl ?_
                  exact nxt _ _ (oK1.ob (by omega) _ _) (by rw [up_o (by decide)]; exact c98) (by rw [up_o (by decide)]; exact c99) (by rw [up_o (by decide)]; exact c100) (by rw [up_o (by decide)]; exact c101) (by rw [up_o (by decide)]; exact c48) (fun j hj => by by_cases e : j = h; rw [e, up_s, hdc.1]; rw [up_i (by omega), c102 j e]; exact k102 j (by omega)) (sub_or hgn (t2.tr hL)) (by rw [dor]; exact t5)
                · exact absurd t3 c259
            | succ m ihm =>
              intro p hp p1
              have hpal : p ≤ al := by omega
              have hps := hsub p hpal
              have hso : gnN st h ||| p ≤ al := sub_le (sub_or hgn hps)
              have eVp := k101 (h + 1) q (gnN st h ||| p) (by omega) hso
              rw [← c101, dor, show ((h + 1 : Nat) : Int) = (h : Int) + 1 by omega] at eVp
              have C : Ct G yX12_serves cX12_serves 3 (some .int) 0 0 0 [.ref (gb G + 72), .int (jI (h : Int)), .int (jI (p : Int))] n K1 (rst bk dr pt) (PI (sv w (D h) p) n K1 (rst bk dr pt)) := by
                have C := c_X12_serves G n K1 bk dr pt hn (h := h) (a := p) (by omega) (by omega) (by rw [c100, k100 p hpal]; have := wr' p hpal; omega) (by rw [c98, kDh.1]; have := hD h; omega)
                rw [c98, c100, kDh.1, k100 p hpal] at C
                exact C
              have hwa := wr' p hpal
              have hsvr : -1000000 ≤ sv w (D h) p ∧ sv w (D h) p ≤ 100000 := by unfold sv; split <;> omega
              have rgp := mV_rg hW (prs D (phD D st) q (h + 1)) (dif (dif al (gnN st h)) p) ((sub_dif _ _).tr hL)
              rw [prs_len] at rgp
              have rgh := mV_rg hW ((D h, phD D st h) :: prs D (phD D st) q (h + 1)) (dif al (gnN st h)) hL
              rw [List.length_cons, prs_len] at rgh
              have hpl := @Nat.and_le_left p (gnN st h)
              have nx : k 262 [some (.ref (gb G + 72)), some (.int (jI z1)), some (.int (jI (gnN st h : Int))), some (.int (jI (h : Int))), some (.int (jI (p : Int)))] [] n K1 (rst bk dr pt) 0 0 := by
                refine r_iinc S dX12_parts_262 rfl rfl rfl ?_
                refine r_goto S (tgt := 215) dX12_parts_265 (by decide) ?_
                have Q := ihm (p + 1) (by omega) (by omega)
                rw [show ((p + 1 : Nat) : Int) = (p : Int) + 1 by omega] at Q
                exact Q
              refine r_iload S rfl dX12_parts_215 ?_
              refine r_iload_n S rfl dX12_parts_217 ?_
              refine r_iand S (v := ((p &&& gnN st h : Nat) : Int)) (and_n p (gnN st h)) dX12_parts_218 ?_
              refine r_if_ne S (tgt := 262) dX12_parts_219 (by decide) (by omega) (fun c219 => ?_) (fun c219 => ?_)
              · exact nx
              · refine r_aload_n S rfl dX12_parts_222 ?_
                refine r_iload_n S rfl dX12_parts_223 ?_
                refine r_iload S rfl dX12_parts_224 ?_
                refine r_callV S lk_X12_265 mk_X12_serves C rfl (Nat.lt_of_lt_of_le (by decide) hn) rfl rfl rfl (Nat.le_of_ble_eq_true rfl) ⟨by decide, by decide⟩ rfl ⟨by decide, by decide⟩ dX12_parts_226 ?_
                rintro _ _ _ _ ⟨rfl, rfl, rfl, rfl⟩
                refine r_aload_n S rfl dX12_parts_229 ?_
                refine r_getR S (o' := 101) fk_X12_99 dX12_parts_230 rfl rfl (Nat.lt_of_lt_of_le (by decide) hn) rfl ?_
                refine r_sipush S (by decide +kernel) dX12_parts_233 ?_
                refine r_iload_n S rfl dX12_parts_236 ?_
                refine r_iconst S dX12_parts_237 ?_
                refine r_iadd S dX12_parts_238 ?_
                refine r_imul S dX12_parts_239 ?_
                refine r_iload_n S rfl dX12_parts_240 ?_
                refine r_iload S rfl dX12_parts_241 ?_
                refine r_ior S (v := ((gnN st h ||| p : Nat) : Int)) (or_n (gnN st h) p) dX12_parts_243 ?_
                refine r_iadd S dX12_parts_244 ?_
                refine r_iald S (v := K1 101 ((1024 * ((h:Int) + 1)) + ((gnN st h ||| p : Nat) : Int))) dX12_parts_245 rfl rfl (Nat.lt_of_lt_of_le (by decide) hn) (by omega) (by omega) rfl ?_
                rw [eVp]
                refine r_iadd S dX12_parts_246 ?_
                refine r_aload_n S rfl dX12_parts_247 ?_
                refine r_getR S (o' := 101) fk_X12_99 dX12_parts_248 rfl rfl (Nat.lt_of_lt_of_le (by decide) hn) rfl ?_
                refine r_sipush S (by decide +kernel) dX12_parts_251 ?_
                refine r_iload_n S rfl dX12_parts_254 ?_
                refine r_imul S dX12_parts_255 ?_
                refine r_iload_n S rfl dX12_parts_256 ?_
                refine r_iadd S dX12_parts_257 ?_
                refine r_iald S (v := K1 101 ((1024 * (h:Int)) + (gnN st h:Int))) dX12_parts_258 rfl rfl (Nat.lt_of_lt_of_le (by decide) hn) (by omega) (by omega) rfl ?_
                rw [eVh]
                refine r_icmp_eq S (tgt := 268) dX12_parts_259 (by decide) (by omega) (by omega) (fun c259 => ?_) (fun c259 => ?_)
                · exact absurd c259 (t4 p p1 (by omega) (and_dif hps (by omega)))
                · exact nx
          refine r_iconst S dX12_parts_212 ?_
          refine r_istore S dX12_parts_213 rfl rfl ?_
          exact loop (a - 1) 1 (by omega) (Nat.le_refl _)
        refine r_iload_n S rfl dX12_parts_150 ?_
        refine r_aload_n S rfl dX12_parts_151 ?_
        refine r_getI S (v := K 72 1) fk_X12_109 dX12_parts_152 rfl rfl (Nat.lt_of_lt_of_le (by decide) hn) rfl ?_
        refine r_icmp_ge S (tgt := 287) dX12_parts_155 (by decide) (by omega) (by omega) (fun c155 => ?_) (fun c155 => ?_)
        · exact absurd c155 (by omega)
        · refine r_aload_n S rfl dX12_parts_158 ?_
          refine r_getR S (o' := 102) fk_X12_102 dX12_parts_159 rfl rfl (Nat.lt_of_lt_of_le (by decide) hn) rfl ?_
          refine r_iload_n S rfl dX12_parts_162 ?_
          refine r_iconst S dX12_parts_163 ?_
          refine r_iast S dX12_parts_164 rfl rfl (Nat.lt_of_lt_of_le (by decide) hn) (by omega) (by omega) ?_
          refine r_aload_n S rfl dX12_parts_165 ?_
          refine r_dup S rfl dX12_parts_166 ?_
          refine r_getI S (v := K 72 48) fk_X12_276 dX12_parts_167 rfl rfl (Nat.lt_of_lt_of_le (by decide) hn) rfl ?_
          refine r_aload_n S rfl dX12_parts_170 ?_
          refine r_getR S (o' := 99) fk_X12_93 dX12_parts_171 rfl rfl (Nat.lt_of_lt_of_le (by decide) hn) rfl ?_
          refine r_iload_n S rfl dX12_parts_174 ?_
          refine r_iald S (v := K 99 (h:Int)) dX12_parts_175 rfl rfl (Nat.lt_of_lt_of_le (by decide) hn) (by omega) (by omega) rfl ?_
          rw [kDh.2]
          refine r_iconst S dX12_parts_176 ?_
          refine r_icmp_ne S (tgt := 186) dX12_parts_177 (by decide) (by omega) (by decide) (fun c177 => ?_) (fun c177 => ?_)
          · refine r_iconst S dX12_parts_186 ?_
            refine r_ior S (v := (S1 : Int)) (by first | (rw [k48, or_n, eS1, if_pos c177]) | (rw [k48, eS1, if_neg c177]; exact or_n (srvN D st h) 0)) dX12_parts_187 ?_
            refine r_putI S fk_X12_276 dX12_parts_188 rfl rfl (Nat.lt_of_lt_of_le (by decide) hn) (Or.inl rfl) (Or.inl rfl) ?_
            rw [← eK1]
            refine r_aload_n S rfl dX12_parts_191 ?_
            refine r_getR S (o' := 99) fk_X12_93 dX12_parts_192 rfl rfl (Nat.lt_of_lt_of_le (by decide) hn) rfl ?_
            refine r_iload_n S rfl dX12_parts_195 ?_
            refine r_iald S (v := phD D st h) dX12_parts_196 rfl rfl (Nat.lt_of_lt_of_le (by decide) hn) (by omega) (by omega) (by rw [c99]; exact kDh.2) ?_
            refine r_if_eq S (tgt := 281) dX12_parts_197 (by decide) (by omega) (fun c197 => ?_) (fun c197 => ?_)
            · exact skipped (by omega)
            · refine r_aload_n S rfl dX12_parts_200 ?_
              refine r_getR S (o' := 98) fk_X12_90 dX12_parts_201 rfl rfl (Nat.lt_of_lt_of_le (by decide) hn) rfl ?_
              refine r_iload_n S rfl dX12_parts_204 ?_
              refine r_iald S (v := D h) dX12_parts_205 rfl rfl (Nat.lt_of_lt_of_le (by decide) hn) (by omega) (by omega) (by rw [c98]; exact kDh.1) ?_
              refine r_if_ne S (tgt := 212) dX12_parts_206 (by decide) (by have := hD h; omega) (fun c206 => ?_) (fun c206 => ?_)
              · exact taken (by omega) (by omega)
              · refine r_goto S (tgt := 281) dX12_parts_209 (by decide) ?_
                exact skipped (by omega)
          · refine r_iconst S dX12_parts_180 ?_
            refine r_iload_n S rfl dX12_parts_181 ?_
            refine r_ishl S (v := ((2 ^ h : Nat) : Int)) (shl_h (by omega)) dX12_parts_182 ?_
            refine r_goto S (tgt := 187) dX12_parts_183 (by decide) ?_
            refine r_ior S (v := (S1 : Int)) (by first | (rw [k48, or_n, eS1, if_pos c177]) | (rw [k48, eS1, if_neg c177]; exact or_n (srvN D st h) 0)) dX12_parts_187 ?_
            refine r_putI S fk_X12_276 dX12_parts_188 rfl rfl (Nat.lt_of_lt_of_le (by decide) hn) (Or.inl rfl) (Or.inl rfl) ?_
            rw [← eK1]
            refine r_aload_n S rfl dX12_parts_191 ?_
            refine r_getR S (o' := 99) fk_X12_93 dX12_parts_192 rfl rfl (Nat.lt_of_lt_of_le (by decide) hn) rfl ?_
            refine r_iload_n S rfl dX12_parts_195 ?_
            refine r_iald S (v := phD D st h) dX12_parts_196 rfl rfl (Nat.lt_of_lt_of_le (by decide) hn) (by omega) (by omega) (by rw [c99]; exact kDh.2) ?_
            refine r_if_eq S (tgt := 281) dX12_parts_197 (by decide) (by omega) (fun c197 => ?_) (fun c197 => ?_)
            · exact skipped (by omega)
            · refine r_aload_n S rfl dX12_parts_200 ?_
              refine r_getR S (o' := 98) fk_X12_90 dX12_parts_201 rfl rfl (Nat.lt_of_lt_of_le (by decide) hn) rfl ?_
              refine r_iload_n S rfl dX12_parts_204 ?_
              refine r_iald S (v := D h) dX12_parts_205 rfl rfl (Nat.lt_of_lt_of_le (by decide) hn) (by omega) (by omega) (by rw [c98]; exact kDh.1) ?_
              refine r_if_ne S (tgt := 212) dX12_parts_206 (by decide) (by have := hD h; omega) (fun c206 => ?_) (fun c206 => ?_)
              · exact taken (by omega) (by omega)
              · refine r_goto S (tgt := 281) dX12_parts_209 (by decide) ?_
                exact skipped (by omega)
  obtain ⟨M0, eM0⟩ : ∃ M0, M0 = mA w (dul D H 0) st := ⟨_, rfl⟩
  have asks : ∀ (q h : Nat) (K : Iv), h + q = H → mpOnly I K → (∀ j : Int, 0 ≤ j → j < H → K 98 j = D j ∧ K 99 j = (if j < h then phD D st j else -1)) → (∀ s : Nat, s ≤ al → K 100 (s : Int) = w s) → k 100 [some (.ref (gb G + 72)), some (.int (jI M0)), some (.int (jI (h : Int))), none, none] [] n K (rst bk dr pt) 0 0 := by
    intro q
    induction q with
    | zero =>
      intro h K hh hK k98 k100
      have kH : K 72 1 = H := by rw [hK.2 1 (by decide) (by decide)]; exact eH
      have kF : K 72 3 = F := by rw [hK.2 3 (by decide) (by decide)]; exact eF
      have C := c_X12_weighs G n K bk dr pt hn (D := D) (φ := phD D st) hW hF hal hH8 kF kH k100 (fun j a b => ⟨(k98 j a b).1, hD j⟩) (fun j a b => ⟨by rw [(k98 j a b).2, if_pos (by omega)], Or.inr (phD_01 D st j)⟩)
      have hO := Opt_0 hW (ps := prs D (phD D st) H 0) (by rw [prs_len]; exact hH8) (by rw [dsO_prs]; exact hdm) (fun j hj => by rw [prs_len] at hj; rw [dsO_prs, ← est, phi_prs hj, prs_get _ _ _ _ _ hj, Nat.zero_add]) (prs_mem (P := fun _ f => f = -1 ∨ f = 0 ∨ f = 1) H 0 (fun j _ _ => Or.inr (phD_01 D st j)))
      rw [dsO_prs, ← est] at hO
      refine r_iload_n S rfl dX12_parts_100 ?_
      refine r_aload_n S rfl dX12_parts_101 ?_
      refine r_getI S (v := K 72 1) fk_X12_109 dX12_parts_102 rfl rfl (Nat.lt_of_lt_of_le (by decide) hn) rfl ?_
      refine r_icmp_ge S (tgt := 136) dX12_parts_105 (by decide) (by omega) (by omega) (fun c105 => ?_) (fun c105 => ?_)
      · refine r_aload_n S rfl dX12_parts_136 ?_
        refine r_callV S lk_X12_273 mk_X12_weighs C rfl (Nat.lt_of_lt_of_le (by decide) hn) rfl rfl rfl (Nat.le_of_ble_eq_true rfl) ⟨by decide, by decide⟩ rfl ⟨by decide, by decide⟩ dX12_parts_137 ?_
        rintro v _ J _ ⟨rfl, rfl, rfl, g1, g2⟩
        refine r_pop S rfl dX12_parts_140 ?_
        refine r_iconst S dX12_parts_141 ?_
        refine r_istore_n S dX12_parts_142 rfl rfl ?_
        refine r_aload_n S rfl dX12_parts_143 ?_
        refine r_iconst S dX12_parts_144 ?_
        refine r_putI S fk_X12_276 dX12_parts_145 rfl rfl (Nat.lt_of_lt_of_le (by decide) hn) (Or.inl rfl) (Or.inl rfl) ?_
        refine r_iconst S dX12_parts_148 ?_
        refine r_istore_n S dX12_parts_149 rfl rfl ?_
        refine choose H 0 (up J 72 48 0) M0 none st (by omega) rfl ((hK.tr (mpOnly.one (Or.inr rfl) g1)).put (Or.inl rfl) _) (fun j a b => by rw [up_o (by decide), up_o (by decide), g1 98 (by decide), g1 99 (by decide)]; have := k98 j a b; rw [if_pos (by omega)] at this; exact this) (fun t ht => by rw [up_o (by decide), g1 100 (by decide)]; exact k100 t ht) (fun a k t c d => by rw [up_o (by decide)]; exact g2 a k t c d) (up_s _ _ _ _) (fun j hj => absurd hj (by omega)) (by show sub 0 al; exact hsub 0 (by omega)) (by show Opt w al _ (dif al 0) st; rw [dif_0]; exact hO)
      · exact absurd c105 (by omega)
    | succ q ih =>
      intro h K hh hK k98 k100
      have kH : K 72 1 = H := by rw [hK.2 1 (by decide) (by decide)]; exact eH
      obtain ⟨φ, eφ⟩ : ∃ φ : Int → Int, φ = fun j : Int => if j < (h : Int) then phD D st j else if j = (h : Int) then 1 else -1 := ⟨_, rfl⟩
      have φe : ∀ j : Int, φ j = if j < (h : Int) then phD D st j else if j = (h : Int) then 1 else -1 := fun j => by rw [eφ]
      obtain ⟨K1, eK1⟩ : ∃ K1, K1 = up K 99 h 1 := ⟨_, rfl⟩
      have oK1 : mpOnly I K1 := by rw [eK1]; exact hK.ob (by omega) _ _
      have kF : K1 72 3 = F := by rw [oK1.2 3 (by decide) (by decide)]; exact eF
      have kH1 : K1 72 1 = H := by rw [oK1.2 1 (by decide) (by decide)]; exact eH
      have φ01 : ∀ j : Int, φ j = -1 ∨ φ j = 0 ∨ φ j = 1 := fun j => by
        rw [φe]
        have := phD_01 D st j
        split
        · omega
        · split <;> omega
      have C := c_X12_weighs G n K1 bk dr pt hn (D := D) (φ := φ) hW hF hal hH8 kF kH1 (fun t ht => by rw [eK1, up_o (by decide)]; exact k100 t ht) (fun j a b => ⟨by rw [eK1, up_o (by decide)]; exact (k98 j a b).1, hD j⟩) (fun j a b => ⟨by
        rw [eK1, φe]
        by_cases e : j = h
        · rw [e, up_s, if_neg (by omega), if_pos rfl]
        · rw [up_i e, (k98 j a b).2]
          split
          · rfl
          · rfl, φ01 j⟩)
      have hA := mV_asks hW (ps := prs D φ H 0) (by rw [prs_len]; exact hH8) (by rw [dsO_prs]; exact hdm) (prs_mem (P := fun _ f => f = -1 ∨ f = 0 ∨ f = 1) H 0 (fun j _ _ => φ01 j)) (h := h) (by rw [prs_len]; omega) (fun j hj => by rw [dsO_prs, ← est, phi_prs (by omega), prs_get _ _ _ _ _ (show j < H by omega), Nat.zero_add, eφ]; exact if_pos (by omega)) (by rw [prs_get _ _ _ _ _ (show h < H by omega), Nat.zero_add, eφ]; show (if (h : Int) < h then _ else _) = _; rw [if_neg (by omega), if_pos rfl]) (fun j j1 j2 => by rw [prs_len] at j2; rw [prs_get _ _ _ _ _ j2, Nat.zero_add, eφ]; show (if (j : Int) < h then _ else _) = _; rw [if_neg (by omega), if_neg (by omega)])
      rw [dsO_prs, ← est, phi_prs (show h < H by omega), ← eM0] at hA
      have rgV := mV_rg hW (prs D φ H 0) al (sub.rf al)
      rw [prs_len] at rgV
      have hst := st_ok (w := w) (wl := wl) (al := al) (prs D φ H 0)
      rw [dsO_prs, ← est] at hst
      have hMn := mA_nn hW (dul D H 0) st al (sub.rf al) hst
      have hMu : M0 ≤ 800000 := by
        have P := mV_keeps hW (ps := prs D (fun _ => -1) H 0) (by rw [prs_len]; exact hH8) (by rw [dsO_prs]; exact hdm) (prs_mem (P := fun _ f => f = -1 ∨ f = 0 ∨ f = 1) H 0 (fun j _ _ => Or.inl rfl))
        rw [dsO_prs, ← est, ← eM0] at P
        have l1 := vA_len _ _ _ hst
        have hf1 : fOk (prs D (fun _ => -1) H 0) st := (fOk_get (by rw [l1, prs_len, ← dsO_prs D φ, dsO_len, prs_len])).mpr fun j hj => by
          rw [prs_len] at hj
          rw [prs_get _ _ _ _ _ hj]
          exact Or.inr (Or.inl rfl)
        have r := mV_rg hW (prs D (fun _ => -1) H 0) al (sub.rf al)
        rw [P hf1, prs_len] at r
        omega
      have nxt : ∀ K2 : Iv, mpOnly I K2 → (∀ j : Int, 0 ≤ j → j < H → K2 98 j = D j ∧ K2 99 j = (if j < ((h + 1 : Nat) : Int) then phD D st j else -1)) → (∀ s : Nat, s ≤ al → K2 100 (s : Int) = w s) → k 130 [some (.ref (gb G + 72)), some (.int (jI M0)), some (.int (jI (h : Int))), none, none] [] n K2 (rst bk dr pt) 0 0 := by
        intro K2 g1 g2 g3
        refine r_iinc S dX12_parts_130 rfl rfl rfl ?_
        refine r_goto S (tgt := 100) dX12_parts_133 (by decide) ?_
        have Q := ih (h + 1) K2 (by omega) g1 g2 g3
        rw [show ((h + 1 : Nat) : Int) = (h : Int) + 1 by omega] at Q
        exact Q
      have k99 : ∀ (v : Int), v = phD D st h → ∀ j : Int, 0 ≤ j → j < H → (if j = h then v else K 99 j) = (if j < ((h + 1 : Nat) : Int) then phD D st j else -1) := by
        intro v hv j a b
        by_cases e : j = h
        · rw [if_pos e, if_pos (by omega), hv, e]
        · rw [if_neg e, (k98 j a b).2]
          by_cases e2 : j < h
          · rw [if_pos e2, if_pos (by omega)]
          · rw [if_neg e2, if_neg (by omega)]
      have p01 := phD_01 D st h
      refine r_iload_n S rfl dX12_parts_100 ?_
      refine r_aload_n S rfl dX12_parts_101 ?_
      refine r_getI S (v := K 72 1) fk_X12_109 dX12_parts_102 rfl rfl (Nat.lt_of_lt_of_le (by decide) hn) rfl ?_
      refine r_icmp_ge S (tgt := 136) dX12_parts_105 (by decide) (by omega) (by omega) (fun c105 => ?_) (fun c105 => ?_)
      · exact absurd c105 (by omega)
      · refine r_aload_n S rfl dX12_parts_108 ?_
        refine r_getR S (o' := 99) fk_X12_93 dX12_parts_109 rfl rfl (Nat.lt_of_lt_of_le (by decide) hn) rfl ?_
        refine r_iload_n S rfl dX12_parts_112 ?_
        refine r_iconst S dX12_parts_113 ?_
        refine r_iast S dX12_parts_114 rfl rfl (Nat.lt_of_lt_of_le (by decide) hn) (by omega) (by omega) ?_
        rw [← eK1]
        refine r_aload_n S rfl dX12_parts_115 ?_
        refine r_callV S lk_X12_273 mk_X12_weighs C rfl (Nat.lt_of_lt_of_le (by decide) hn) rfl rfl rfl (Nat.le_of_ble_eq_true rfl) ⟨by decide, by decide⟩ rfl ⟨by decide, by decide⟩ dX12_parts_116 ?_
        rintro v _ J _ ⟨rfl, rfl, rfl, g1, g2⟩
        refine r_iload_n S rfl dX12_parts_119 ?_
        refine r_icmp_eq S (tgt := 130) dX12_parts_120 (by decide) (by omega) (by omega) (fun c120 => ?_) (fun c120 => ?_)
        · first | exact nxt J (oK1.tr (mpOnly.one (Or.inr rfl) g1)) (fun j a b => ⟨by rw [g1 98 (by decide), eK1, up_o (by decide)]; exact (k98 j a b).1, by rw [g1 99 (by decide), ← k99 1 (hA.mp c120).symm j a b, eK1]; by_cases e : j = h; rw [e, up_s, if_pos rfl]; rw [up_i e, if_neg e]⟩) (fun t ht => by rw [g1 100 (by decide), eK1, up_o (by decide)]; exact k100 t ht) | exact nxt _ ((oK1.tr (mpOnly.one (Or.inr rfl) g1)).ob (by omega) _ _) (fun j a b => ⟨by rw [up_o (by decide), g1 98 (by decide), eK1, up_o (by decide)]; exact (k98 j a b).1, by rw [← k99 0 (by have := fun q => c120 (hA.mpr q); omega) j a b]; by_cases e : j = h; rw [e, up_s, if_pos rfl]; rw [up_i e, if_neg e, g1 99 (by decide), eK1, up_i e]⟩) (fun t ht => by rw [up_o (by decide), g1 100 (by decide), eK1, up_o (by decide)]; exact k100 t ht)
        · refine r_aload_n S rfl dX12_parts_123 ?_
          refine r_getR S (o' := 99) fk_X12_93 dX12_parts_124 rfl rfl (Nat.lt_of_lt_of_le (by decide) hn) rfl ?_
          refine r_iload_n S rfl dX12_parts_127 ?_
          refine r_iconst S dX12_parts_128 ?_
          refine r_iast S dX12_parts_129 rfl rfl (Nat.lt_of_lt_of_le (by decide) hn) (by omega) (by omega) ?_
          first | exact nxt J (oK1.tr (mpOnly.one (Or.inr rfl) g1)) (fun j a b => ⟨by rw [g1 98 (by decide), eK1, up_o (by decide)]; exact (k98 j a b).1, by rw [g1 99 (by decide), ← k99 1 (hA.mp c120).symm j a b, eK1]; by_cases e : j = h; rw [e, up_s, if_pos rfl]; rw [up_i e, if_neg e]⟩) (fun t ht => by rw [g1 100 (by decide), eK1, up_o (by decide)]; exact k100 t ht) | exact nxt _ ((oK1.tr (mpOnly.one (Or.inr rfl) g1)).ob (by omega) _ _) (fun j a b => ⟨by rw [up_o (by decide), g1 98 (by decide), eK1, up_o (by decide)]; exact (k98 j a b).1, by rw [← k99 0 (by have := fun q => c120 (hA.mpr q); omega) j a b]; by_cases e : j = h; rw [e, up_s, if_pos rfl]; rw [up_i e, if_neg e, g1 99 (by decide), eK1, up_i e]⟩) (fun t ht => by rw [up_o (by decide), g1 100 (by decide), eK1, up_o (by decide)]; exact k100 t ht)
  have dues : ∀ (q h : Nat) (K : Iv) (z2 : Int), h + q = H → mpOnly I K → (∀ j : Int, 0 ≤ j → j < h → K 98 j = D j ∧ K 99 j = -1) → (∀ s : Nat, s ≤ al → K 100 (s : Int) = w s) → k 61 [some (.ref (gb G + 72)), some (.int (jI (h : Int))), some (.int (jI z2)), none, none] [] n K (rst bk dr pt) 0 0 := by
    intro q
    induction q with
    | zero =>
      intro h K z2 hh hK k98 k100
      have kH : K 72 1 = H := by rw [hK.2 1 (by decide) (by decide)]; exact eH
      have kF : K 72 3 = F := by rw [hK.2 3 (by decide) (by decide)]; exact eF
      have C := c_X12_weighs G n K bk dr pt hn (D := D) (φ := fun _ => -1) hW hF hal hH8 kF kH k100 (fun j a b => ⟨(k98 j a (by omega)).1, hD j⟩) (fun j a b => ⟨(k98 j a (by omega)).2, Or.inl rfl⟩)
      have P := mV_keeps hW (ps := prs D (fun _ => -1) H 0) (by rw [prs_len]; exact hH8) (by rw [dsO_prs]; exact hdm) (prs_mem (P := fun _ f => f = -1 ∨ f = 0 ∨ f = 1) H 0 (fun j _ _ => Or.inl rfl))
      have hst := st_ok (w := w) (wl := wl) (al := al) (prs D (fun _ => -1) H 0)
      have l1 := vA_len _ _ _ hst
      rw [dsO_len, prs_len] at l1
      have hf1 := (fOk_get (ps := prs D (fun _ => -1) H 0) (by rw [l1, prs_len])).mpr fun j hj => by
        rw [prs_len] at hj
        rw [prs_get _ _ _ _ _ hj]
        exact Or.inr (Or.inl rfl)
      have P' := P hf1
      rw [dsO_prs, ← est, ← eM0] at P'
      rw [P'] at C
      refine r_iload_n S rfl dX12_parts_61 ?_
      refine r_aload_n S rfl dX12_parts_62 ?_
      refine r_getI S (v := K 72 1) fk_X12_109 dX12_parts_63 rfl rfl (Nat.lt_of_lt_of_le (by decide) hn) rfl ?_
      refine r_icmp_ge S (tgt := 93) dX12_parts_66 (by decide) (by omega) (by omega) (fun c66 => ?_) (fun c66 => ?_)
      · refine r_aload_n S rfl dX12_parts_93 ?_
        refine r_callV S lk_X12_273 mk_X12_weighs C rfl (Nat.lt_of_lt_of_le (by decide) hn) rfl rfl rfl (Nat.le_of_ble_eq_true rfl) ⟨by decide, by decide⟩ rfl ⟨by decide, by decide⟩ dX12_parts_94 ?_
        rintro v _ J _ ⟨rfl, rfl, rfl, g1, g2⟩
        refine r_istore_n S dX12_parts_97 rfl rfl ?_
        refine r_iconst S dX12_parts_98 ?_
        refine r_istore_n S dX12_parts_99 rfl rfl ?_
        exact asks H 0 J (by omega) (hK.tr (mpOnly.one (Or.inr rfl) g1)) (fun j a b => by rw [g1 98 (by decide), g1 99 (by decide), if_neg (by omega)]; exact k98 j a (by omega)) (fun t ht => by rw [g1 100 (by decide)]; exact k100 t ht)
      · exact absurd c66 (by omega)
    | succ q ih =>
      intro h K z2 hh hK k98 k100
      have kH : K 72 1 = H := by rw [hK.2 1 (by decide) (by decide)]; exact eH
      have ko : ∀ o, o ≠ 72 → o ≠ 92 → o < 98 ∨ 102 < o → K o = I o := fun o a b c => hK.1 o a b (by omega) (by omega) (by omega) (by omega) (by omega)
      have hmK : modI K rs := modI_same hm (hK.2 17 (by decide) (by decide)) (ko 86 (by decide) (by decide) (by decide)) (ko 87 (by decide) (by decide) (by decide)) (ko 88 (by decide) (by decide) (by decide))
      have hf := hfx h (by omega) (by omega)
      have e77 := ko 77 (by decide) (by decide) (by decide)
      have e78 := ko 78 (by decide) (by decide) (by decide)
      have e79 := ko 79 (by decide) (by decide) (by decide)
      have e85 := ko 85 (by decide) (by decide) (by decide)
      have C := c_X12_dueOf G n K bk dr pt hn hmK (h := (h : Int)) (by omega) (by omega) (by rw [e77]; exact hf.1) (by rw [e78]; exact hf.2.1) (by rw [e79]; exact hf.2.2.1) (by rw [e85]; exact hf.2.2.2)
      have ef : fxM K h = fxM I h := by unfold fxM; rw [e77, e78, e79, e85]
      have eDh : dueS (fxM I h) rs = D h := by rw [eD]
      rw [ef, eDh] at C
      refine r_iload_n S rfl dX12_parts_61 ?_
      refine r_aload_n S rfl dX12_parts_62 ?_
      refine r_getI S (v := K 72 1) fk_X12_109 dX12_parts_63 rfl rfl (Nat.lt_of_lt_of_le (by decide) hn) rfl ?_
      refine r_icmp_ge S (tgt := 93) dX12_parts_66 (by decide) (by omega) (by omega) (fun c66 => ?_) (fun c66 => ?_)
      · exact absurd c66 (by omega)
      · refine r_aload_n S rfl dX12_parts_69 ?_
        refine r_getR S (o' := 98) fk_X12_90 dX12_parts_70 rfl rfl (Nat.lt_of_lt_of_le (by decide) hn) rfl ?_
        refine r_iload_n S rfl dX12_parts_73 ?_
        refine r_aload_n S rfl dX12_parts_74 ?_
        refine r_iload_n S rfl dX12_parts_75 ?_
        refine r_callV S lk_X12_247 mk_X12_dueOf C rfl (Nat.lt_of_lt_of_le (by decide) hn) rfl rfl rfl (Nat.le_of_ble_eq_true rfl) ⟨by decide, by decide⟩ rfl ⟨by decide, by decide⟩ dX12_parts_76 ?_
        rintro v _ J _ ⟨rfl, rfl, rfl, g1⟩
        refine r_iast S dX12_parts_79 rfl rfl (Nat.lt_of_lt_of_le (by decide) hn) (by omega) (by omega) ?_
        refine r_aload_n S rfl dX12_parts_80 ?_
        refine r_getR S (o' := 99) fk_X12_93 dX12_parts_81 rfl rfl (Nat.lt_of_lt_of_le (by decide) hn) rfl ?_
        refine r_iload_n S rfl dX12_parts_84 ?_
        refine r_iconst S dX12_parts_85 ?_
        refine r_iast S dX12_parts_86 rfl rfl (Nat.lt_of_lt_of_le (by decide) hn) (by omega) (by omega) ?_
        refine r_iinc S dX12_parts_87 rfl rfl rfl ?_
        refine r_goto S (tgt := 61) dX12_parts_90 (by decide) ?_
        have Q := ih (h + 1) (up (up J 98 h (D h)) 99 h (-1)) z2 (by omega) (((hK.tr (mpOnly.one (Or.inl rfl) g1)).ob (by omega) _ _).ob (by omega) _ _) (fun j a b => ?_) (fun t ht => by rw [up_o (by decide), up_o (by decide), g1 100 (by decide)]; exact k100 t ht)
        · rw [show ((h + 1 : Nat) : Int) = (h : Int) + 1 by omega] at Q
          exact Q
        · by_cases e : j = h
          · rw [e, up_o (by decide), up_s, up_s]
            exact ⟨rfl, rfl⟩
          · rw [up_o (by decide), up_i e, up_i e, up_o (by decide), g1 98 (by decide), g1 99 (by decide)]
            exact k98 j a (by omega)
  have sets : ∀ (q s : Nat) (K : Iv) (x2 : Option Value), s + q = 1024 → (∀ o, o ≠ 100 → K o = I o) → (∀ t : Nat, t < s → K 100 (t : Int) = w t) → (x2 = none ∨ ∃ z : Int, x2 = some (.int (jI z))) → (s = 1024 → ∃ z : Int, x2 = some (.int (jI z))) → k 2 [some (.ref (gb G + 72)), some (.int (jI (s : Int))), x2, none, none] [] n K (rst bk dr pt) 0 0 := by
    intro q
    induction q with
    | zero =>
      intro s K x2 hs hK k100 hx hx2
      obtain ⟨z2, rfl⟩ := hx2 (by omega)
      refine r_iload_n S rfl dX12_parts_2 ?_
      refine r_sipush S (by decide +kernel) dX12_parts_3 ?_
      refine r_icmp_ge S (tgt := 59) dX12_parts_6 (by decide) (by omega) (by omega) (fun c6 => ?_) (fun c6 => ?_)
      · refine r_iconst S dX12_parts_59 ?_
        refine r_istore_n S dX12_parts_60 rfl rfl ?_
        exact dues H 0 K z2 (by omega) ⟨fun o a b c d e f g => hK o (by omega), fun j _ _ => by rw [hK 72 (by decide)]⟩ (fun j a b => absurd b (by omega)) (fun t ht => k100 t (by omega))
      · exact absurd c6 (by omega)
    | succ q ih =>
      intro s K x2 hs hK k100 hx hx2
      have inner : ∀ (m f : Nat) (K2 : Iv), f + m = F → (∀ o, o ≠ 100 → K2 o = I o) → (∀ t : Nat, t < s → K2 100 (t : Int) = w t) → K2 100 s = wgt (I 84) f s → k 18 [some (.ref (gb G + 72)), some (.int (jI (s : Int))), some (.int (jI (f : Int))), none, none] [] n K2 (rst bk dr pt) 0 0 := by
        intro m
        induction m with
        | zero =>
          intro f K2 hf hK2 k2 ks
          have kF : K2 72 3 = F := by rw [hK2 72 (by decide)]; exact eF
          refine r_iload_n S rfl dX12_parts_18 ?_
          refine r_aload_n S rfl dX12_parts_19 ?_
          refine r_getI S (v := K2 72 3) fk_X12_129 dX12_parts_20 rfl rfl (Nat.lt_of_lt_of_le (by decide) hn) rfl ?_
          refine r_icmp_ge S (tgt := 53) dX12_parts_23 (by decide) (by omega) (by omega) (fun c23 => ?_) (fun c23 => ?_)
          · refine r_iinc S dX12_parts_53 rfl rfl rfl ?_
            refine r_goto S (tgt := 2) dX12_parts_56 (by decide) ?_
            have Q := ih (s + 1) K2 (some (.int (jI (f : Int)))) (by omega) hK2 (fun t ht => by by_cases e : t = s; rw [e, ks, ew, show f = F by omega]; exact k2 t (by omega)) (Or.inr ⟨_, rfl⟩) (fun _ => ⟨_, rfl⟩)
            rw [show ((s + 1 : Nat) : Int) = (s : Int) + 1 by omega] at Q
            exact Q
          · exact absurd c23 (by omega)
        | succ m ihm =>
          intro f K2 hf hK2 k2 ks
          have kF : K2 72 3 = F := by rw [hK2 72 (by decide)]; exact eF
          have B := shr_bt (s := s) (f := f) (by omega) (by omega)
          refine r_iload_n S rfl dX12_parts_18 ?_
          refine r_aload_n S rfl dX12_parts_19 ?_
          refine r_getI S (v := K2 72 3) fk_X12_129 dX12_parts_20 rfl rfl (Nat.lt_of_lt_of_le (by decide) hn) rfl ?_
          refine r_icmp_ge S (tgt := 53) dX12_parts_23 (by decide) (by omega) (by omega) (fun c23 => ?_) (fun c23 => ?_)
          · exact absurd c23 (by omega)
          · refine r_aload_n S rfl dX12_parts_26 ?_
            refine r_getR S (o' := 100) fk_X12_96 dX12_parts_27 rfl rfl (Nat.lt_of_lt_of_le (by decide) hn) rfl ?_
            refine r_iload_n S rfl dX12_parts_30 ?_
            refine r_dup2 S rfl rfl dX12_parts_31 ?_
            refine r_iald S (v := K2 100 (s:Int)) dX12_parts_32 rfl rfl (Nat.lt_of_lt_of_le (by decide) hn) (by omega) (by omega) rfl ?_
            refine r_iload_n S rfl dX12_parts_33 ?_
            refine r_iload_n S rfl dX12_parts_34 ?_
            refine r_ishr S (v := ((s / 2 ^ f : Nat) : Int)) B.1 dX12_parts_35 ?_
            refine r_iconst S dX12_parts_36 ?_
            refine r_iand S (v := bt s f) B.2 dX12_parts_37 ?_
            refine r_aload_n S rfl dX12_parts_38 ?_
            refine r_getR S (o' := 84) fk_X12_43 dX12_parts_39 rfl rfl (Nat.lt_of_lt_of_le (by decide) hn) rfl ?_
            refine r_iload_n S rfl dX12_parts_42 ?_
            refine r_iald S (v := K2 84 (f:Int)) dX12_parts_43 rfl rfl (Nat.lt_of_lt_of_le (by decide) hn) (by omega) (by omega) rfl ?_
            refine r_imul S dX12_parts_44 ?_
            refine r_iadd S dX12_parts_45 ?_
            refine r_iast S dX12_parts_46 rfl rfl (Nat.lt_of_lt_of_le (by decide) hn) (by omega) (by omega) ?_
            refine r_iinc S dX12_parts_47 rfl rfl rfl ?_
            refine r_goto S (tgt := 18) dX12_parts_50 (by decide) ?_
            have Q := ihm (f + 1) (up K2 100 s (K2 100 s + bt s f * K2 84 f)) (by omega) (fun o a => by rw [up_o a]; exact hK2 o a) (fun t ht => by rw [up_i (by omega)]; exact k2 t ht) (by rw [up_s, ks, hK2 84 (by decide)]; rfl)
            rw [show ((f + 1 : Nat) : Int) = (f : Int) + 1 by omega] at Q
            exact Q
      refine r_iload_n S rfl dX12_parts_2 ?_
      refine r_sipush S (by decide +kernel) dX12_parts_3 ?_
      refine r_icmp_ge S (tgt := 59) dX12_parts_6 (by decide) (by omega) (by omega) (fun c6 => ?_) (fun c6 => ?_)
      · exact absurd c6 (by omega)
      · refine r_aload_n S rfl dX12_parts_9 ?_
        refine r_getR S (o' := 100) fk_X12_96 dX12_parts_10 rfl rfl (Nat.lt_of_lt_of_le (by decide) hn) rfl ?_
        refine r_iload_n S rfl dX12_parts_13 ?_
        refine r_iconst S dX12_parts_14 ?_
        refine r_iast S dX12_parts_15 rfl rfl (Nat.lt_of_lt_of_le (by decide) hn) (by omega) (by omega) ?_
        refine r_iconst S dX12_parts_16 ?_
        refine r_istore_n S dX12_parts_17 rfl rfl ?_
        exact inner F 0 _ (by omega) (fun o a => by rw [up_o a]; exact hK o a) (fun t ht => by rw [up_i (by omega)]; exact k100 t ht) (up_s _ _ _ _)
  refine r_iconst S dX12_parts_0 ?_
  refine r_istore_n S dX12_parts_1 rfl rfl ?_
  exact sets 1024 0 I none (by omega) (fun _ _ => rfl) (fun t ht => absurd ht (by omega)) (Or.inl rfl) (fun h => absurd h (by omega))
end
