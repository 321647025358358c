/-! ===== the class's part ===== -/
abbrev duC (I : Iv) (rs : RLs) : Int → Int := fun h => dueS (fxH I h) rs
def stC (I : Iv) (rs : RLs) (H F al : Nat) : List Nat := cG (wgt (I 52) F) (wlo (I 52) F) al 0 (dul (duC I rs) H 0) al
def fpO (bk : Nat) (I I' : Iv) : Prop := (∀ o, o ≠ 0 → o ≠ 13 → o ≠ bk → o ≠ bk + 5 → o < 103 → I' o = I o) ∧ (∀ j, j ≠ 11 → I' 0 j = I 0 j) ∧ (∀ j, j ≠ 6 → I' bk j = I bk j) ∧ I' 0 11 = 1 ∧ I' 105 0 = 0 ∧ rgK I'
/-- how the PARTINGS stand: not made, made, known -/
def jS (I : Iv) (rs : RLs) (pt : Option Nat) (n : Nat) : Prop := (pt = none ∧ n = 103 ∧ I 0 11 = 0) ∨ (pt = some 103 ∧ n = 109 ∧ I 105 0 = 0 ∧ rgK I ∧ (I 0 11 = 0 ∨ (I 0 11 = 1 ∧ ∀ H F al : Nat, I 4 0 = H → I 51 0 = F → 2 ^ F = al + 1 → cpRes (wgt (I 52) F) (duC I rs) (stC I rs H F al) H I)))
theorem BkOk_pt {bk dr n n' : Nat} {pt pt' : Option Nat} (h : BkOk n (rst bk dr pt) bk) (hn : 103 ≤ n') : BkOk n' (rst bk dr pt') bk := by
  obtain ⟨h1, h2, h3, h4, h5, h6, h7, h8, h9, h10, h11, h12, h13, h14⟩ := h
  have hb : ∃ m, bk = m + 1 := ⟨bk - 1, by omega⟩
  obtain ⟨m, rfl⟩ := hb
  exact ⟨h1, h2, h3, h4, h5, h6, h7, h8, h9, h10, h11, h12, h13, hn⟩
section
variable (G : GE) (n : Nat) (I : Iv) (bk dr : Nat) (pt : Option Nat)
theorem c_findPartings {H F al : Nat} {rs : RLs} (hB : BkOk n (rst bk dr pt) bk) (hbk : bookI I bk rs) (hF : F ≤ 10) (hal : 2 ^ F = al + 1) (hH8 : H ≤ 8) (eF : I 51 0 = F) (eH : I 4 0 = H) (hws : ∀ i : Nat, i < F → 1 ≤ I 52 i ∧ I 52 i ≤ 999) (hf : ∀ j, 0 ≤ j → j < 8 → rg (I 6 j) ∧ rg (I 7 j) ∧ rg (I 8 j) ∧ rg (I 9 j)) (hS : jS I rs pt n) : Ct G yX11_findPartings cX11_findPartings 3 (some (.object "NewValley$Partings")) 6 6 10263 [.ref (gb G + 0)] n I (rst bk dr pt) (fun v n' I' ρ' => v = some (.ref (gb G + 103)) ∧ 109 = n' ∧ rst bk dr (some 103) = ρ' ∧ fpO bk I I' ∧ cpRes (wgt (I 52) F) (duC I rs) (stC I rs H F al) H I') := by
  obtain ⟨hn, hb, hb', k0⟩ := BkOk_nth hB
  refine Ct.of [some (.ref (gb G + 0)), none, none] (by decide) rfl rfl rfl ?_
  intro k SR
  have S : Sem G RX11 "findPartings" cX11_findPartings 3 (rmD 6 6 10263) k := SR.sem
  have hB9 : BkOk 109 (rst bk dr (some 103)) bk := BkOk_pt hB (by decide)
  have hn9 : 109 ≤ 109 := Nat.le_refl _
  have hn3 : 103 ≤ 109 := by decide
  obtain ⟨w, ew⟩ : ∃ w, w = wgt (I 52) F := ⟨_, rfl⟩
  obtain ⟨D, eD⟩ : ∃ D : Int → Int, D = duC I rs := ⟨_, rfl⟩
  obtain ⟨st, est⟩ : ∃ st, st = stC I rs H F al := ⟨_, rfl⟩
  have hD : ∀ h : Int, 0 ≤ D h ∧ D h ≤ 9999 := fun h => by
    rw [eD]
    exact dueS_range (fxH I h) rs
  have from22 : ∀ (J : Iv) (x z : Nat) (x2 : Option Value), x ≤ 6 → z ≤ 10263 → (∀ o, o < 103 → J o = I o) → J 105 0 = 0 → rgK J → (¬ I 0 11 = 0 → I 0 11 = 1 ∧ cpRes (wgt (I 52) F) (duC I rs) (stC I rs H F al) H J) → rg (I 0 11) → k 22 [some (.ref (gb G + 0)), some (.ref (gb G + 103)), x2] [] 109 J (rst bk dr (some 103)) x z := by
    intro J x z x2 hx hz hJ j5 jr jk jg
    have j11 : J 0 11 = I 0 11 := by rw [hJ 0 (by decide)]
    have j4 : J 4 0 = H := by rw [hJ 4 (by decide)]; exact eH
    have loop : ∀ (q h : Nat) (K : Iv), h + q = H → (∀ o, o ≠ 13 → o ≠ bk → o ≠ bk + 5 → o ≠ 104 → K o = J o) → (∀ j, j ≠ 6 → K bk j = J bk j) → (∀ j : Nat, j < h → K 104 j = D j) → k 31 [some (.ref (gb G + 0)), some (.ref (gb G + 103)), some (.int (jI (h : Int)))] [] 109 K (rst bk dr (some 103)) x z := by
      intro q
      induction q with
      | zero =>
        intro h K hq g1 g2 g3
        have k4 : K 4 0 = H := by rw [g1 4 (by decide) (by omega) (by omega) (by decide)]; exact j4
        have kF : K 51 0 = F := by rw [g1 51 (by decide) (by omega) (by omega) (by decide), hJ 51 (by decide)]; exact eF
        have e52 : K 52 = I 52 := by rw [g1 52 (by decide) (by omega) (by omega) (by decide), hJ 52 (by decide)]
        have C := c_X5_find G 109 K bk dr (some 103) hn9 (D := D) hF hal hH8 kF (by rw [e52]; exact hws) (fun j hj => g3 j (by omega)) hD (by rw [g1 105 (by decide) (by omega) (by omega) (by decide)]; exact j5) (by intro i i0 i1; rw [g1 107 (by decide) (by omega) (by omega) (by decide)]; exact jr i i0 i1)
        rw [e52, eD] at C
        refine r_iload_n S rfl dX11_findPartings_31 ?_
        refine r_aload_n S rfl dX11_findPartings_32 ?_
        refine r_getR S (o' := 4) fk_X11_23 dX11_findPartings_33 rfl rfl (Nat.lt_of_lt_of_le (by decide) hn9) rfl ?_
        refine r_getI S (v := K 4 0) fk_X11_146 dX11_findPartings_36 rfl rfl (Nat.lt_of_lt_of_le (by decide) hn9) rfl ?_
        refine r_icmp_ge S (tgt := 58) dX11_findPartings_39 (by decide) (by omega) (by omega) (fun c39 => ?_) (fun c39 => ?_)
        · refine r_aload_n S rfl dX11_findPartings_58 ?_
          refine r_aload_n S rfl dX11_findPartings_59 ?_
          refine r_getR S (o' := 4) fk_X11_23 dX11_findPartings_60 rfl rfl (Nat.lt_of_lt_of_le (by decide) hn9) rfl ?_
          refine r_getI S (v := K 4 0) fk_X11_146 dX11_findPartings_63 rfl rfl (Nat.lt_of_lt_of_le (by decide) hn9) rfl ?_
          rw [k4]
          refine r_aload_n S rfl dX11_findPartings_66 ?_
          refine r_getR S (o' := 51) fk_X11_44 dX11_findPartings_67 rfl rfl (Nat.lt_of_lt_of_le (by decide) hn9) rfl ?_
          refine r_callV S lk_X11_236 mk_X5_find C rfl (Nat.lt_of_lt_of_le (by decide) hn9) rfl rfl rfl (Nat.le_of_ble_eq_true rfl) ⟨by decide, by decide⟩ rfl ⟨by show x + 0 ≤ 6; omega, by show z + 0 ≤ 10263; omega⟩ dX11_findPartings_70 ?_
          rintro _ _ M _ ⟨rfl, rfl, rfl, m1, m2, m3, m4⟩
          refine r_aload_n S rfl dX11_findPartings_73 ?_
          refine r_iconst S dX11_findPartings_74 ?_
          refine r_putI S fk_X11_76 dX11_findPartings_75 rfl rfl (Nat.lt_of_lt_of_le (by decide) hn9) (Or.inl rfl) (Or.inr ⟨rfl, by decide⟩) ?_
          refine r_aload_n S rfl dX11_findPartings_78 ?_
          refine r_aret SR dX11_findPartings_79 (Or.inl ⟨_, rfl⟩) ⟨by omega, by omega⟩ ?_
          refine ⟨rfl, rfl, rfl, ⟨fun o a b c d e => ?_, fun j hj => ?_, fun j hj => ?_, up_s _ _ _ _, ?_, ?_⟩, ?_, ?_, ?_⟩
          · rw [up_o a, m1 o (by omega) (by omega) (by omega) (by omega) (by omega), g1 o b c d (by omega)]
            exact hJ o e
          · rw [up_i hj, m1 0 (by decide) (by decide) (by decide) (by decide) (by decide), g1 0 (by decide) (by omega) (by omega) (by decide), hJ 0 (by decide)]
          · rw [up_o (by omega), m1 bk (by omega) (by omega) (by omega) (by omega) (by omega), g2 j hj, hJ bk (by omega)]
          · rw [up_o (by decide)]; exact m2
          · intro i i0 i1
            rw [up_o (by decide)]
            exact m3 i i0 i1
          · rw [up_o (by decide)]; exact m4.1
          · rw [up_o (by decide)]; exact m4.2.1
          · intro j hj
            rw [up_o (by decide)]
            exact m4.2.2 j hj
        · exact absurd c39 (by omega)
      | succ q ih =>
        intro h K hq g1 g2 g3
        have k4 : K 4 0 = H := by rw [g1 4 (by decide) (by omega) (by omega) (by decide)]; exact j4
        have ei : ∀ o, 4 ≤ o → o ≤ 9 → K o = I o := fun o a b => by rw [g1 o (by omega) (by omega) (by omega) (by omega)]; exact hJ o (by omega)
        have eb : ∀ o, bk < o → o ≤ bk + 4 → K o = I o := fun o a b => by rw [g1 o (by omega) (by omega) (by omega) (by omega)]; exact hJ o (by omega)
        have hbK : bookI K bk rs := by
          have hbk' := hbk
          unfold bookI at hbk' ⊢
          rw [g2 0 (by decide), hJ bk (by omega), eb (bk + 1) (by omega) (by omega), eb (bk + 2) (by omega) (by omega), eb (bk + 3) (by omega) (by omega), eb (bk + 4) (by omega) (by omega)]
          exact hbk'
        have hf' := hf h (by omega) (by omega)
        have C := c_X11_dueOf G 109 K bk dr (some 103) hn3 hB9 hbK (a := (h : Int)) (by omega) (by omega) (by omega) (by rw [ei 6 (by decide) (by decide)]; exact hf'.1) (by rw [ei 7 (by decide) (by decide)]; exact hf'.2.1) (by rw [ei 8 (by decide) (by decide)]; exact hf'.2.2.1) (by rw [ei 9 (by decide) (by decide)]; exact hf'.2.2.2)
        have ef : dueS (fxH K h) rs = D h := by
          rw [eD]
          show dueS (fxH K h) rs = dueS (fxH I h) rs
          unfold fxH
          rw [ei 6 (by decide) (by decide), ei 7 (by decide) (by decide), ei 8 (by decide) (by decide), ei 9 (by decide) (by decide)]
        rw [ef] at C
        refine r_iload_n S rfl dX11_findPartings_31 ?_
        refine r_aload_n S rfl dX11_findPartings_32 ?_
        refine r_getR S (o' := 4) fk_X11_23 dX11_findPartings_33 rfl rfl (Nat.lt_of_lt_of_le (by decide) hn9) rfl ?_
        refine r_getI S (v := K 4 0) fk_X11_146 dX11_findPartings_36 rfl rfl (Nat.lt_of_lt_of_le (by decide) hn9) rfl ?_
        refine r_icmp_ge S (tgt := 58) dX11_findPartings_39 (by decide) (by omega) (by omega) (fun c39 => ?_) (fun c39 => ?_)
        · exact absurd c39 (by omega)
        · refine r_aload_n S rfl dX11_findPartings_42 ?_
          refine r_iload_n S rfl dX11_findPartings_43 ?_
          refine r_aload_n S rfl dX11_findPartings_44 ?_
          refine r_iload_n S rfl dX11_findPartings_45 ?_
          refine r_callV S lk_X11_178 mk_X11_dueOf C rfl (Nat.lt_of_lt_of_le (by decide) hn9) rfl rfl rfl (Nat.le_of_ble_eq_true rfl) ⟨by decide, by decide⟩ rfl ⟨by show x + 0 ≤ 6; omega, by show z + 0 ≤ 10263; omega⟩ dX11_findPartings_46 ?_
          rintro _ _ M _ ⟨rfl, rfl, rfl, hM⟩
          refine r_callV S lk_X11_232 mk_X5_setDue (c_X5_setDue G 109 M bk dr (some 103) hn9 (h := h) (d := D h) (by omega)) rfl (Nat.lt_of_lt_of_le (by decide) hn9) rfl rfl rfl (Nat.le_of_ble_eq_true rfl) ⟨by decide, by decide⟩ rfl ⟨by show x + 0 ≤ 6; omega, by show z + 0 ≤ 10263; omega⟩ dX11_findPartings_49 ?_
          rintro _ _ _ _ ⟨rfl, rfl, rfl, rfl⟩
          refine r_iinc S dX11_findPartings_52 rfl rfl rfl ?_
          refine r_goto S (tgt := 31) dX11_findPartings_55 (by decide) ?_
          have Q := ih (h + 1) (up M 104 h (D h)) (by omega) (fun o a b c d => by rw [up_o d, hM.1 o a b c]; exact g1 o a b c d) (fun j hj => by rw [up_o (by omega), hM.2 j hj]; exact g2 j hj) (fun j hj => by by_cases e : j = h; (rw [e, up_s]); (rw [up_i (by omega), hM.1 104 (by decide) (by omega) (by omega)]; exact g3 j (by omega)))
          rw [show ((h + 1 : Nat) : Int) = (h : Int) + 1 by omega] at Q
          exact Q
    refine r_aload_n S rfl dX11_findPartings_22 ?_
    refine r_getI S (v := J 0 11) fk_X11_76 dX11_findPartings_23 rfl rfl (Nat.lt_of_lt_of_le (by decide) hn9) rfl ?_
    rw [j11]
    refine r_if_ne S (tgt := 78) dX11_findPartings_26 (by decide) jg (fun c26 => ?_) (fun c26 => ?_)
    · refine r_aload_n S rfl dX11_findPartings_78 ?_
      refine r_aret SR dX11_findPartings_79 (Or.inl ⟨_, rfl⟩) ⟨hx, hz⟩ ?_
      exact ⟨rfl, rfl, rfl, ⟨fun o _ _ _ _ e => hJ o e, fun j _ => by rw [hJ 0 (by decide)], fun j _ => by rw [hJ bk (by omega)], by rw [j11]; exact (jk c26).1, j5, jr⟩, (jk c26).2⟩
    · refine r_iconst S dX11_findPartings_29 ?_
      refine r_istore_n S dX11_findPartings_30 rfl rfl ?_
      exact loop H 0 J (by omega) (fun _ _ _ _ _ => rfl) (fun _ _ => rfl) (fun j hj => absurd hj (by omega))
  rcases hS with ⟨rfl, rfl, h11⟩ | ⟨rfl, rfl, h5, hr, h11⟩
  · have hn1 : 103 ≤ 103 := Nat.le_refl _
    have C := i_X5_103 G I (rst bk dr none)
    refine r_aload_n S rfl dX11_findPartings_0 ?_
    refine r_getN S fk_X11_72 dX11_findPartings_1 rfl rfl (by decide) rfl ?_
    refine r_astoreN S dX11_findPartings_4 rfl rfl ?_
    refine r_aloadN S rfl dX11_findPartings_5 ?_
    refine r_ifnonnullN S dX11_findPartings_6 ?_
    refine r_new S nk_X11_209 in_X5 ii_X5 (T := TX5) rfl ok_X5 (by decide) dX11_findPartings_9 rfl ⟨Nat.le_of_ble_eq_true rfl, Nat.le_of_ble_eq_true rfl⟩ ?_
    refine r_dup S rfl dX11_findPartings_12 ?_
    refine r_callI S lk_X11_231 mk_X5_init C rfl rfl (Nat.le_of_ble_eq_true rfl) ⟨by decide, by decide⟩ rfl ⟨Nat.le_of_ble_eq_true rfl, Nat.le_of_ble_eq_true rfl⟩ dX11_findPartings_13 ?_
    rintro _ _ _ _ ⟨rfl, rfl, rfl, rfl⟩
    have eR : fil 103 109 (rst bk dr none) = rst bk dr none := by
      funext o i
      unfold fil
      by_cases c : 103 ≤ o ∧ o < 109
      · rw [if_pos c]
        obtain ⟨m, rfl⟩ : ∃ m, o = m + 1 := ⟨o - 1, by omega⟩
        rfl
      · rw [if_neg c]
    rw [eR]
    refine r_astore_n S dX11_findPartings_16 rfl rfl ?_
    refine r_aload_n S rfl dX11_findPartings_17 ?_
    refine r_aload_n S rfl dX11_findPartings_18 ?_
    refine r_putR S fk_X11_72 dX11_findPartings_19 rfl rfl (by decide) (Or.inl rfl) ?_
    rw [rst_pt]
    exact from22 (filI 103 109 I) _ _ _ (Nat.le_of_ble_eq_true rfl) (Nat.le_of_ble_eq_true rfl) (fun o ho => by funext j; unfold filI; rw [if_neg (by omega)]) rfl (fun i i0 i1 => by show -50000000 ≤ (0 : Int) ∧ (0 : Int) ≤ 50000000; decide) (fun q => absurd h11 q) (by rw [h11]; decide)
  · have hn1 : 109 ≤ 109 := Nat.le_refl _
    refine r_aload_n S rfl dX11_findPartings_0 ?_
    refine r_getR S (o' := 103) fk_X11_72 dX11_findPartings_1 rfl rfl (Nat.lt_of_lt_of_le (by decide) hn1) rfl ?_
    refine r_astore_n S dX11_findPartings_4 rfl rfl ?_
    refine r_aload_n S rfl dX11_findPartings_5 ?_
    refine r_ifnonnull S (tgt := 22) dX11_findPartings_6 (by decide) ?_
    exact from22 I 0 0 none (by decide) (by decide) (fun _ _ => rfl) h5 hr (fun q => by rcases h11 with h | h; exact absurd h q; exact ⟨h.1, h.2 H F al eH eF hal⟩) (by rcases h11 with h | h; (rw [h]; decide); (rw [h.1]; decide))
theorem c_X11_part {H F al : Nat} {rs : RLs} {a : Int} (ha : rg a) (hB : BkOk n (rst bk dr pt) bk) (hbk : bookI I bk rs) (hF : F ≤ 10) (hal : 2 ^ F = al + 1) (hH8 : H ≤ 8) (eF : I 51 0 = F) (eH : I 4 0 = H) (hws : ∀ i : Nat, i < F → 1 ≤ I 52 i ∧ I 52 i ≤ 999) (hf : ∀ j, 0 ≤ j → j < 8 → rg (I 6 j) ∧ rg (I 7 j) ∧ rg (I 8 j) ∧ rg (I 9 j)) (hS : jS I rs pt n) : Ct G yX11_part cX11_part 4 (some .int) 7 6 10263 [.ref (gb G + 0), .int (jI a)] n I (rst bk dr pt) (fun v n' I' ρ' => (((0 ≤ a ∧ a ≤ 2) ∨ (10 ≤ a ∧ a ≤ 9 + I 4 0)) ∧ v = some (.int (jI (ptS (wgt (I 52) F) (duC I rs) (stC I rs H F al) H a))) ∧ 109 = n' ∧ rst bk dr (some 103) = ρ' ∧ fpO bk I I' ∧ cpRes (wgt (I 52) F) (duC I rs) (stC I rs H F al) H I') ∨ (¬ ((0 ≤ a ∧ a ≤ 2) ∨ (10 ≤ a ∧ a ≤ 9 + I 4 0)) ∧ v = some (.int (jI (-1))) ∧ n = n' ∧ rst bk dr pt = ρ' ∧ I = I')) := by
  obtain ⟨hn, hb, hb', k0⟩ := BkOk_nth hB
  refine Ct.of [some (.ref (gb G + 0)), some (.int (jI a)), none, none] (by decide) rfl rfl rfl ?_
  intro k SR
  have S : Sem G RX11 "part" cX11_part 4 (rmD 7 6 10263) k := SR.sem
  have C := c_findPartings G n I bk dr pt hB hbk hF hal hH8 eF eH hws hf hS
  obtain ⟨w, ew⟩ : ∃ w, w = wgt (I 52) F := ⟨_, rfl⟩
  obtain ⟨D, eD⟩ : ∃ D : Int → Int, D = duC I rs := ⟨_, rfl⟩
  obtain ⟨st, est⟩ : ∃ st, st = stC I rs H F al := ⟨_, rfl⟩
  rw [← ew, ← eD, ← est] at C SR
  have slt : srvN D st H < 256 := Nat.lt_of_lt_of_le (srvN_lt D st H) (Nat.pow_le_pow_right (by decide) hH8 : 2 ^ H ≤ 2 ^ 8)
  have z0 : a = 0 → ptS w D st H a = pcK (srvN D st H) 8 := fun h => by unfold ptS; rw [if_pos h]
  have z1 : a = 1 → ptS w D st H a = w (gnN st H) := fun h => by unfold ptS; rw [if_neg (by omega), if_pos h]
  have z2 : a = 2 → ptS w D st H a = (srvN D st H : Int) := fun h => by unfold ptS; rw [if_neg (by omega), if_neg (by omega), if_pos h]
  have z3 : 10 ≤ a → ptS w D st H a = (st.getD (a - 10).toNat 0 : Int) := fun h => by unfold ptS; rw [if_neg (by omega), if_neg (by omega), if_neg (by omega)]
  have hn9 : 109 ≤ 109 := Nat.le_refl _
  have at41 : ∀ z : Int, ((0 ≤ a ∧ a ≤ 2) ∨ (10 ≤ a ∧ a ≤ 9 + I 4 0)) → k 41 [some (.ref (gb G + 0)), some (.int (jI a)), some (.int (jI z)), none] [] n I (rst bk dr pt) 0 0 := by
    intro z hP
    have from46 : ∀ J : Iv, fpO bk I J → cpRes w D st H J → k 46 [some (.ref (gb G + 0)), some (.int (jI a)), some (.int (jI z)), some (.ref (gb G + 103))] [] 109 J (rst bk dr (some 103)) (0 + 6) (0 + 10263) := by
      intro J g1 g2
      have g3 := g2.2.2
      refine r_iload_n S rfl dX11_part_46 ?_
      rcases (by omega : a = 0 ∨ a = 1 ∨ a = 2 ∨ (a < 0 ∨ 2 < a)) with c47 | c47 | c47 | c47
      · refine r_tableIn S 0 (tgt := 72) dX11_part_47 c47 (by decide) (by decide) (by decide) rfl (by decide) ?_
        refine r_aload_n S rfl dX11_part_72 ?_
        refine r_getI S (v := J 103 4) fk_X11_208 dX11_part_73 rfl rfl (Nat.lt_of_lt_of_le (by decide) hn9) rfl ?_
        rw [g2.1]
        refine r_callS S lk_X11_213 mk_J6_bitCount_0f7a4 (c_bitCount G 109 J (rst bk dr (some 103)) slt) rfl rfl (Nat.le_of_ble_eq_true rfl) ⟨by decide, by decide⟩ rfl ⟨by decide, by decide⟩ dX11_part_76 ?_
        rintro _ _ _ _ ⟨rfl, rfl, rfl, rfl⟩
        refine r_iret SR dX11_part_79 ⟨by decide, by decide⟩ ?_
        exact Or.inl ⟨hP, by rw [z0 c47], rfl, rfl, g1, g2⟩
      · refine r_tableIn S 1 (tgt := 80) dX11_part_47 c47 (by decide) (by decide) (by decide) rfl (by decide) ?_
        refine r_aload_n S rfl dX11_part_80 ?_
        refine r_getI S (v := J 103 5) fk_X11_218 dX11_part_81 rfl rfl (Nat.lt_of_lt_of_le (by decide) hn9) rfl ?_
        rw [g2.2.1]
        refine r_iret SR dX11_part_84 ⟨by decide, by decide⟩ ?_
        exact Or.inl ⟨hP, by rw [z1 c47], rfl, rfl, g1, g2⟩
      · refine r_tableIn S 2 (tgt := 85) dX11_part_47 c47 (by decide) (by decide) (by decide) rfl (by decide) ?_
        refine r_aload_n S rfl dX11_part_85 ?_
        refine r_getI S (v := J 103 4) fk_X11_208 dX11_part_86 rfl rfl (Nat.lt_of_lt_of_le (by decide) hn9) rfl ?_
        rw [g2.1]
        refine r_iret SR dX11_part_89 ⟨by decide, by decide⟩ ?_
        exact Or.inl ⟨hP, by rw [z2 c47], rfl, rfl, g1, g2⟩
      · refine r_tableOut S (tgt := 90) dX11_part_47 ha c47 (by decide) ?_
        refine r_aload_n S rfl dX11_part_90 ?_
        refine r_getR S (o' := 108) fk_X11_221 dX11_part_91 rfl rfl (Nat.lt_of_lt_of_le (by decide) hn9) rfl ?_
        refine r_iload_n S rfl dX11_part_94 ?_
        refine r_bipush S (by decide +kernel) dX11_part_95 ?_
        refine r_isub S dX11_part_97 ?_
        refine r_iald S (v := J 108 (a - 10)) dX11_part_98 rfl rfl (Nat.lt_of_lt_of_le (by decide) hn9) (by omega) (by omega) rfl ?_
        rw [show a - 10 = ((a - 10).toNat : Int) by omega, g3 (a - 10).toNat (by omega)]
        refine r_iret SR dX11_part_99 ⟨by decide, by decide⟩ ?_
        exact Or.inl ⟨hP, by rw [z3 (by omega)], rfl, rfl, g1, g2⟩
    refine r_aload_n S rfl dX11_part_41 ?_
    refine r_callV S lk_X11_204 mk_X11_findPartings C rfl (Nat.lt_of_lt_of_le (by decide) hn) rfl rfl rfl (Nat.le_of_ble_eq_true rfl) ⟨by decide, by decide⟩ rfl ⟨by decide, by decide⟩ dX11_part_42 ?_
    rintro _ _ J _ ⟨rfl, rfl, rfl, g1, g2⟩
    refine r_astore_n S dX11_part_45 rfl rfl ?_
    exact from46 J g1 g2
  have at26 : ∀ z : Int, (z = 0 ∧ ¬ (10 ≤ a ∧ 0 ≤ a - 10 ∧ a - 10 < I 4 0)) ∨ (z = 1 ∧ (10 ≤ a ∧ 0 ≤ a - 10 ∧ a - 10 < I 4 0)) → k 26 [some (.ref (gb G + 0)), some (.int (jI a)), some (.int (jI z)), none] [] n I (rst bk dr pt) 0 0 := by
    intro z hz
    refine r_iload_n S rfl dX11_part_26 ?_
    refine r_iconst S dX11_part_27 ?_
    refine r_iconst S dX11_part_28 ?_
    refine r_callS S lk_X11_91 mk_X11_isWithin (c_X11_isWithin G n I (rst bk dr pt) ha (by decide) (by decide)) rfl rfl (Nat.le_of_ble_eq_true rfl) ⟨by decide, by decide⟩ rfl ⟨by decide, by decide⟩ dX11_part_29 ?_
    rintro _ _ _ _ ⟨rfl, rfl, rfl, rfl⟩
    refine r_ifb_ne S (tgt := 41) dX11_part_32 (by decide)  (fun c32 => ?_) (fun c32 => ?_)
    · exact at41 z (by omega)
    · refine r_iload_n S rfl dX11_part_35 ?_
      refine r_if_ne S (tgt := 41) dX11_part_36 (by decide) (by omega) (fun c36 => ?_) (fun c36 => ?_)
      · exact at41 z (by omega)
      · refine r_iconst S dX11_part_39 ?_
        refine r_iret SR dX11_part_40 ⟨by decide, by decide⟩ ?_
        exact Or.inr ⟨by omega, rfl, rfl, rfl, rfl⟩
  refine r_iload_n S rfl dX11_part_0 ?_
  refine r_bipush S (by decide +kernel) dX11_part_1 ?_
  refine r_icmp_lt S (tgt := 24) dX11_part_3 (by decide) (by omega) (by omega) (fun c3 => ?_) (fun c3 => ?_)
  · refine r_iconst S dX11_part_24 ?_
    refine r_istore_n S dX11_part_25 rfl rfl ?_
    exact at26 _ (by omega)
  · refine r_aload_n S rfl dX11_part_6 ?_
    refine r_getR S (o' := 4) fk_X11_23 dX11_part_7 rfl rfl (Nat.lt_of_lt_of_le (by decide) hn) rfl ?_
    refine r_iload_n S rfl dX11_part_10 ?_
    refine r_bipush S (by decide +kernel) dX11_part_11 ?_
    refine r_isub S dX11_part_13 ?_
    refine r_callV S lk_X11_107 mk_X4_has (c_X4_has G n I bk dr pt hn (a := a - 10) (by omega) (by omega)) rfl (Nat.lt_of_lt_of_le (by decide) hn) rfl rfl rfl (Nat.le_of_ble_eq_true rfl) ⟨by decide, by decide⟩ rfl ⟨by decide, by decide⟩ dX11_part_14 ?_
    rintro _ _ _ _ ⟨rfl, rfl, rfl, rfl⟩
    refine r_ifb_eq S (tgt := 24) dX11_part_17 (by decide)  (fun c17 => ?_) (fun c17 => ?_)
    · refine r_iconst S dX11_part_24 ?_
      refine r_istore_n S dX11_part_25 rfl rfl ?_
      exact at26 _ (by omega)
    · refine r_iconst S dX11_part_20 ?_
      refine r_goto S (tgt := 25) dX11_part_21 (by decide) ?_
      refine r_istore_n S dX11_part_25 rfl rfl ?_
      exact at26 _ (by omega)
end
