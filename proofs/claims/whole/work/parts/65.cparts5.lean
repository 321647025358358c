/-! ===== the class's PARTINGS: rankWith ===== -/
theorem cB_rg {w wl : Nat → Int} {al : Nat} (hW : PW w wl al) : ∀ (ds : List Int) (i L : Nat), sub L al → 0 ≤ cB w wl al i ds L ∧ cB w wl al i ds L ≤ 4194432 * (ds.length : Int)
  | [], _, _, _ => ⟨Int.le_refl _, Int.le_refl _⟩
  | d :: ds, i, L, hL => by
    have ih := cB_rg hW ds (i + 1) L hL
    rw [List.length_cons, show ((ds.length + 1 : Nat) : Int) = (ds.length : Int) + 1 by omega]
    by_cases h0 : d = 0
    · have e : cB w wl al i (d :: ds) L = cB w wl al (i + 1) ds L := if_pos h0
      rw [e]
      omega
    · have e : cB w wl al i (d :: ds) L = mxs (fun a => key1 w i a + cB w wl al (i + 1) ds (dif L a)) (je w wl d L) al (cB w wl al (i + 1) ds L) := if_neg h0
      rw [e]
      have hv := mxs_v (fun a => key1 w i a + cB w wl al (i + 1) ds (dif L a)) (je w wl d L) al (cB w wl al (i + 1) ds L)
      refine ⟨by omega, ?_⟩
      rcases mxs_att (fun a => key1 w i a + cB w wl al (i + 1) ds (dif L a)) (je w wl d L) al (cB w wl al (i + 1) ds L) with q | ⟨a, a1, a2, a3, a4⟩
      · rw [q]; omega
      · rw [a4]
        have hs := (je_iff.mp a3).2.2
        have iha := cB_rg hW ds (i + 1) (dif L a) ((sub_dif L a).tr hL)
        have hwa := hW.2.2.2 a (hs.tr hL)
        have hk : key1 w i a ≤ 4194432 := by
          unfold key1
          have : (2 : Nat) ^ (7 - i) ≤ 2 ^ 7 := Nat.pow_le_pow_right (by decide) (by omega)
          have e7 : (2 : Nat) ^ 7 = 128 := by decide
          generalize (2 : Nat) ^ (7 - i) = p at this ⊢
          omega
        show key1 w i a + cB w wl al (i + 1) ds (dif L a) ≤ _
        omega
theorem key1_le (w : Nat → Int) {i a : Nat} (h : 0 ≤ w a) : key1 w i a ≤ 4194432 := by
  unfold key1
  have : (2 : Nat) ^ (7 - i) ≤ 2 ^ 7 := Nat.pow_le_pow_right (by decide) (by omega)
  have e7 : (2 : Nat) ^ 7 = 128 := by decide
  generalize (2 : Nat) ^ (7 - i) = p at this ⊢
  omega
section
variable (G : GE) (n : Nat) (I : Iv) (bk dr : Nat) (pt : Option Nat)
def rgK (K : Iv) : Prop := ∀ i : Int, 0 ≤ i → i < 8192 → -50000000 ≤ K 107 i ∧ K 107 i ≤ 50000000
theorem c_X5_rankWith (hn : 109 ≤ n) {h F al : Nat} {w wl : Nat → Int} {d : Int} {ds : List Int} (hW : PW w wl al) (hal : 2 ^ F = al + 1) (h1 : 1 ≤ h) (h8 : h < 8) (hal1 : al < 1024) (hl : ds.length ≤ 7) (ed : I 104 h = d) (hd : 0 ≤ d ∧ d ≤ 9999) (hw : ∀ s : Nat, 1 ≤ s → s ≤ al → I 105 (s : Int) = w s ∧ I 106 (s : Int) = wl s ∧ rg (wl s)) (hr : rgK I) (hrow : ∀ L : Nat, L ≤ al → I 107 (1024 * (h : Int) + L) = cB w wl al (h + 1) ds L) : Ct G yX5_rankWith cX5_rankWith 5 none 2 0 0 [.ref (gb G + 103), .int (jI (h : Int)), .int (jI (al : Int))] n I (rst bk dr pt) (fun v n' I' ρ' => v = none ∧ n = n' ∧ rst bk dr pt = ρ' ∧ (∀ o, o ≠ 107 → I' o = I o) ∧ (∀ i : Int, 1024 * (h : Int) ≤ i ∨ i < 1024 * (h : Int) - 1024 → I' 107 i = I 107 i) ∧ rgK I' ∧ ∀ L : Nat, L ≤ al → I' 107 (1024 * (h : Int) - 1024 + L) = cB w wl al h (d :: ds) L) := by
  refine Ct.of [some (.ref (gb G + 103)), some (.int (jI (h : Int))), some (.int (jI (al : Int))), none, none] (by decide) rfl rfl rfl ?_
  intro k SR
  have S : Sem G RX5 "rankWith" cX5_rankWith 5 (rmD 2 0 0) k := SR.sem
  have hsub : ∀ s, s ≤ al → sub s al := fun s hs => sub_al hal hs
  obtain ⟨g, eg⟩ : ∃ g : Nat → Nat → Int, g = fun L a => key1 w h a + cB w wl al (h + 1) ds (dif L a) := ⟨_, rfl⟩
  have cbr : ∀ L, L ≤ al → 0 ≤ cB w wl al (h + 1) ds L ∧ cB w wl al (h + 1) ds L ≤ 4194432 * 7 := fun L hL => by
    have := cB_rg hW ds (h + 1) L (hsub L hL)
    omega
  have mxr : ∀ L m, L ≤ al → m ≤ al → 0 ≤ mxs (g L) (je w wl d L) m (cB w wl al (h + 1) ds L) ∧ mxs (g L) (je w wl d L) m (cB w wl al (h + 1) ds L) ≤ 4194432 * 8 := fun L m hL hm => by
    have hv := mxs_v (g L) (je w wl d L) m (cB w wl al (h + 1) ds L)
    have hc := cbr L hL
    refine ⟨by omega, ?_⟩
    rcases mxs_att (g L) (je w wl d L) m (cB w wl al (h + 1) ds L) with q | ⟨a, a1, a2, a3, a4⟩
    · rw [q]; omega
    · rw [a4, eg]
      have h2 := cbr (dif L a) (Nat.le_trans (sub_le (sub_dif L a)) hL)
      have h3 := key1_le w (i := h) (a := a) (hW.2.2.2 a (hsub a (by omega))).1
      show key1 w h a + cB w wl al (h + 1) ds (dif L a) ≤ _
      omega
  have loop : ¬ d = 0 → ∀ (q s : Nat) (K : Iv), s + q = al + 1 → 1 ≤ s → (∀ o, o ≠ 107 → K o = I o) → (∀ i : Int, 1024 * (h : Int) ≤ i ∨ i < 1024 * (h : Int) - 1024 → K 107 i = I 107 i) → rgK K → (∀ L : Nat, L ≤ al → K 107 (1024 * (h : Int) - 1024 + L) = mxs (g L) (je w wl d L) (s - 1) (cB w wl al (h + 1) ds L)) → k 39 [some (.ref (gb G + 103)), some (.int (jI (h : Int))), some (.int (jI (al : Int))), some (.int (jI ((h : Int) * 1024))), some (.int (jI (s : Int)))] [] n K (rst bk dr pt) 0 0 := by
    intro hd0 q
    induction q with
    | zero =>
      intro s K hs s1 g1 g2 g3 g4
      refine r_iload S rfl dX5_rankWith_39 ?_
      refine r_iload_n S rfl dX5_rankWith_41 ?_
      refine r_icmp_gt S (tgt := 79) dX5_rankWith_42 (by decide) (by omega) (by omega) (fun c42 => ?_) (fun c42 => ?_)
      · refine r_vret SR dX5_rankWith_79 ⟨by decide, by decide⟩ ?_
        refine ⟨rfl, rfl, rfl, g1, g2, g3, fun L hL => ?_⟩
        rw [g4 L hL, show s - 1 = al by omega, eg]
        exact (if_neg hd0).symm
      · exact absurd c42 (by omega)
    | succ q ih =>
      intro s K hs s1 g1 g2 g3 g4
      have hsal : s ≤ al := by omega
      have hws := hw s s1 hsal
      have k5 : K 105 s = w s := by rw [g1 105 (by decide)]; exact hws.1
      have k6 : K 106 s = wl s := by rw [g1 106 (by decide)]; exact hws.2.1
      have wr := hW.2.2.2 s (hsub s hsal)
      have k4 : K 104 h = d := by rw [g1 104 (by decide)]; exact ed
      have CJ := c_X5_isJustEnough G n K bk dr pt hn (a := s) (d := d) (by omega) (by rw [k5]; omega) (by rw [k6]; exact hws.2.2) (by omega)
      rw [k5, k6] at CJ
      have CR := c_X5_rankWithSet G n K bk dr pt hn (h := h) (a := s) (al := al) h1 h8 hal1 (hsub s hsal) g3 (by rw [k5]; exact wr)
      have ek : key1 (fun t => K 105 (t : Int)) h s = key1 w h s := by unfold key1; show 4194304 - K 105 s * 256 + _ = _; rw [k5]
      rw [ek] at CR
      obtain ⟨s', es'⟩ : ∃ s', s = s' + 1 := ⟨s - 1, by omega⟩
      have nxt : ∀ K2 : Iv, (∀ o, o ≠ 107 → K2 o = I o) → (∀ i : Int, 1024 * (h : Int) ≤ i ∨ i < 1024 * (h : Int) - 1024 → K2 107 i = I 107 i) → (∀ i : Int, 1024 * (h : Int) - 1024 + al < i → i < 1024 * (h : Int) → K2 107 i = K 107 i) → (∀ L : Nat, L ≤ al → K2 107 (1024 * (h : Int) - 1024 + L) = mxs (g L) (je w wl d L) s (cB w wl al (h + 1) ds L)) → k 73 [some (.ref (gb G + 103)), some (.int (jI (h : Int))), some (.int (jI (al : Int))), some (.int (jI ((h : Int) * 1024))), some (.int (jI (s : Int)))] [] n K2 (rst bk dr pt) 0 0 := by
        intro K2 a1 a2 a3 a4
        have r2 : rgK K2 := fun i i0 i1 => by
          by_cases c1 : 1024 * (h : Int) ≤ i ∨ i < 1024 * (h : Int) - 1024
          · rw [a2 i c1]; exact hr i i0 i1
          · by_cases c2 : 1024 * (h : Int) - 1024 + al < i
            · rw [a3 i c2 (by omega)]; exact g3 i i0 i1
            · have q := a4 (i - (1024 * (h : Int) - 1024)).toNat (by omega)
              rw [show 1024 * (h : Int) - 1024 + ((i - (1024 * (h : Int) - 1024)).toNat : Int) = i by omega] at q
              rw [q]
              have := mxr (i - (1024 * (h : Int) - 1024)).toNat s (by omega) hsal
              omega
        refine r_iinc S dX5_rankWith_73 rfl rfl rfl ?_
        refine r_goto S (tgt := 39) dX5_rankWith_76 (by decide) ?_
        have Q := ih (s + 1) K2 (by omega) (by omega) a1 a2 r2 (fun L hL => by rw [show s + 1 - 1 = s by omega]; exact a4 L hL)
        rw [show ((s + 1 : Nat) : Int) = (s : Int) + 1 by omega] at Q
        exact Q
      have stepf : ∀ L : Nat, ¬ je w wl d L s = true → mxs (g L) (je w wl d L) s (cB w wl al (h + 1) ds L) = mxs (g L) (je w wl d L) (s - 1) (cB w wl al (h + 1) ds L) := fun L hn' => by
        rw [es'] at hn' ⊢
        exact if_neg hn'
      have stept : ∀ L : Nat, je w wl d L s = true → mxs (g L) (je w wl d L) s (cB w wl al (h + 1) ds L) = max (mxs (g L) (je w wl d L) (s - 1) (cB w wl al (h + 1) ds L)) (g L s) := fun L hy => by
        rw [es'] at hy ⊢
        exact if_pos hy
      refine r_iload S rfl dX5_rankWith_39 ?_
      refine r_iload_n S rfl dX5_rankWith_41 ?_
      refine r_icmp_gt S (tgt := 79) dX5_rankWith_42 (by decide) (by omega) (by omega) (fun c42 => ?_) (fun c42 => ?_)
      · exact absurd c42 (by omega)
      · refine r_aload_n S rfl dX5_rankWith_45 ?_
        refine r_iload S rfl dX5_rankWith_46 ?_
        refine r_aload_n S rfl dX5_rankWith_48 ?_
        refine r_getR S (o' := 104) fk_X5_11 dX5_rankWith_49 rfl rfl (Nat.lt_of_lt_of_le (by decide) hn) rfl ?_
        refine r_iload_n S rfl dX5_rankWith_52 ?_
        refine r_iald S (v := K 104 (h:Int)) dX5_rankWith_53 rfl rfl (Nat.lt_of_lt_of_le (by decide) hn) (by omega) (by omega) rfl ?_
        rw [k4]
        refine r_callV S lk_X5_73 mk_X5_isJustEnough CJ rfl (Nat.lt_of_lt_of_le (by decide) hn) rfl rfl rfl (Nat.le_of_ble_eq_true rfl) ⟨by decide, by decide⟩ rfl ⟨by decide, by decide⟩ dX5_rankWith_54 ?_
        rintro _ _ _ _ ⟨rfl, rfl, rfl, rfl⟩
        refine r_ifb_eq S (tgt := 73) dX5_rankWith_57 (by decide)  (fun c57 => ?_) (fun c57 => ?_)
        · first | exact nxt K g1 g2 (fun _ _ _ => rfl) (fun L hL => by rw [stepf L (fun q => c57 ⟨(je_iff.mp q).1, (je_iff.mp q).2.1⟩)]; exact g4 L hL) | exact nxt J (fun o a => by rw [p1 o a]; exact g1 o a) (fun i a => by rw [p2 i (by omega)]; exact g2 i a) (fun i a b => p2 i (by omega)) (fun L hL => by rw [p3 L hL (hsub L hL)]; by_cases e : s &&& L = s; (rw [if_pos e, g4 L hL, stept L (je_iff.mpr ⟨c57.1, c57.2, e⟩), g2 _ (Or.inl (by omega)), hrow _ (Nat.le_trans (sub_le (sub_dif L s)) hL), Int.add_comm, eg]); (rw [if_neg e, g4 L hL, stepf L (fun q => e (je_iff.mp q).2.2)]))
        · refine r_aload_n S rfl dX5_rankWith_60 ?_
          refine r_iload_n S rfl dX5_rankWith_61 ?_
          refine r_iload S rfl dX5_rankWith_62 ?_
          refine r_iload_n S rfl dX5_rankWith_64 ?_
          refine r_iload S rfl dX5_rankWith_65 ?_
          refine r_iconst S dX5_rankWith_67 ?_
          refine r_ixor S (v := (jI (s : Int) ^^^ jI (-1)).toInt) (not_n _) dX5_rankWith_68 ?_
          refine r_iand S (v := (dif al s : Int)) (dif_n al s (not_n _)) dX5_rankWith_69 ?_
          refine r_callV S lk_X5_77 mk_X5_rankWithSet CR rfl (Nat.lt_of_lt_of_le (by decide) hn) rfl rfl rfl (Nat.le_of_ble_eq_true rfl) ⟨by decide, by decide⟩ rfl ⟨by decide, by decide⟩ dX5_rankWith_70 ?_
          rintro _ _ J _ ⟨rfl, rfl, rfl, p1, p2, p3⟩
          first | exact nxt K g1 g2 (fun _ _ _ => rfl) (fun L hL => by rw [stepf L (fun q => c57 ⟨(je_iff.mp q).1, (je_iff.mp q).2.1⟩)]; exact g4 L hL) | exact nxt J (fun o a => by rw [p1 o a]; exact g1 o a) (fun i a => by rw [p2 i (by omega)]; exact g2 i a) (fun i a b => p2 i (by omega)) (fun L hL => by rw [p3 L hL (hsub L hL)]; by_cases e : s &&& L = s; (rw [if_pos e, g4 L hL, stept L (je_iff.mpr ⟨c57.1, c57.2, e⟩), g2 _ (Or.inl (by omega)), hrow _ (Nat.le_trans (sub_le (sub_dif L s)) hL), Int.add_comm, eg]); (rw [if_neg e, g4 L hL, stepf L (fun q => e (je_iff.mp q).2.2)]))
  obtain ⟨K0, eK0⟩ : ∃ K0, K0 = cpI I 107 107 ((h : Int) * 1024) ((h : Int) * 1024 - 1024) ((al : Int) + 1) := ⟨_, rfl⟩
  have q1 : ∀ o, o ≠ 107 → K0 o = I o := fun o ho => by rw [eK0, cpI_o ho]
  have q2 : ∀ i : Int, i < 1024 * (h : Int) - 1024 ∨ 1024 * (h : Int) - 1024 + al < i → K0 107 i = I 107 i := fun i hi => by rw [eK0, cpI_out (by omega)]
  have q3 : ∀ L : Nat, L ≤ al → K0 107 (1024 * (h : Int) - 1024 + L) = cB w wl al (h + 1) ds L := fun L hL => by
    rw [eK0, cpI_in (by omega) (by omega), show (h : Int) * 1024 + (1024 * (h : Int) - 1024 + L - ((h : Int) * 1024 - 1024)) = 1024 * (h : Int) + L by omega]
    exact hrow L hL
  have q4 : rgK K0 := fun i i0 i1 => by
    by_cases c : i < 1024 * (h : Int) - 1024 ∨ 1024 * (h : Int) - 1024 + al < i
    · rw [q2 i c]; exact hr i i0 i1
    · have q := q3 (i - (1024 * (h : Int) - 1024)).toNat (by omega)
      rw [show 1024 * (h : Int) - 1024 + ((i - (1024 * (h : Int) - 1024)).toNat : Int) = i by omega] at q
      rw [q]
      have := cbr (i - (1024 * (h : Int) - 1024)).toNat (by omega)
      omega
  have k4 : K0 104 h = d := by rw [q1 104 (by decide)]; exact ed
  refine r_iload_n S rfl dX5_rankWith_0 ?_
  refine r_sipush S (by decide +kernel) dX5_rankWith_1 ?_
  refine r_imul S dX5_rankWith_4 ?_
  refine r_istore_n S dX5_rankWith_5 rfl rfl ?_
  refine r_aload_n S rfl dX5_rankWith_6 ?_
  refine r_getR S (o' := 107) fk_X5_21 dX5_rankWith_7 rfl rfl (Nat.lt_of_lt_of_le (by decide) hn) rfl ?_
  refine r_iload_n S rfl dX5_rankWith_10 ?_
  refine r_aload_n S rfl dX5_rankWith_11 ?_
  refine r_getR S (o' := 107) fk_X5_21 dX5_rankWith_12 rfl rfl (Nat.lt_of_lt_of_le (by decide) hn) rfl ?_
  refine r_iload_n S rfl dX5_rankWith_15 ?_
  refine r_sipush S (by decide +kernel) dX5_rankWith_16 ?_
  refine r_isub S dX5_rankWith_19 ?_
  refine r_iload_n S rfl dX5_rankWith_20 ?_
  refine r_iconst S dX5_rankWith_21 ?_
  refine r_iadd S dX5_rankWith_22 ?_
  refine r_copy S lk_X5_67 (o0 := 107) (o1 := 107) (N0 := 8192) (N1 := 8192) rfl rfl rfl rfl (Nat.lt_of_lt_of_le (by decide) hn) (Nat.lt_of_lt_of_le (by decide) hn) (by omega) (by omega) (by omega) (by omega) (by omega) (by decide) (by decide) rfl dX5_rankWith_23 ?_
  rw [← eK0]
  refine r_aload_n S rfl dX5_rankWith_26 ?_
  refine r_getR S (o' := 104) fk_X5_11 dX5_rankWith_27 rfl rfl (Nat.lt_of_lt_of_le (by decide) hn) rfl ?_
  refine r_iload_n S rfl dX5_rankWith_30 ?_
  refine r_iald S (v := K0 104 (h:Int)) dX5_rankWith_31 rfl rfl (Nat.lt_of_lt_of_le (by decide) hn) (by omega) (by omega) rfl ?_
  rw [k4]
  refine r_if_ne S (tgt := 36) dX5_rankWith_32 (by decide) (by omega) (fun c32 => ?_) (fun c32 => ?_)
  · refine r_iconst S dX5_rankWith_36 ?_
    refine r_istore S dX5_rankWith_37 rfl rfl ?_
    exact loop (by omega) al 1 K0 (by omega) (Nat.le_refl _) q1 (fun i hi => q2 i (by omega)) q4 (fun L hL => q3 L hL)
  · refine r_vret SR dX5_rankWith_35 ⟨by decide, by decide⟩ ?_
    exact ⟨rfl, rfl, rfl, q1, fun i hi => q2 i (by omega), q4, fun L hL => by rw [q3 L hL]; exact (if_pos (by omega)).symm⟩
end
