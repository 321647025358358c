/-! ===== the class's WAYS: bounds, and the BEST ===== -/
/-- SITES and TIES as the class holds them -/
def waS (NR TI : Int → Int → Int) (Z : Nat) (I : Iv) : Prop := (Z ≤ 8 ∧ I 16 0 = Z) ∧ (∀ s t : Nat, s < Z → t < Z → s ≠ t → I (20 + s) (t : Int) = NR s t) ∧ (∀ i j : Nat, i < 8 → j < 8 → i ≠ j → I (29 + i) (j : Int) = TI i j) ∧ (∀ i j : Int, 0 ≤ i → i < 8 → 0 ≤ j → j < 8 → 0 ≤ TI i j ∧ TI i j ≤ 9) ∧ (∀ s t : Int, 0 ≤ s → s < 8 → 0 ≤ t → t < 8 → 0 ≤ NR s t ∧ NR s t ≤ 10) ∧ ∀ s t : Int, NR s t = NR t s
theorem waS.W {NR TI : Int → Int → Int} {Z H : Nat} {I : Iv} (h : waS NR TI Z I) (hH : H ≤ Z) : WOk NR TI H Z := by
  obtain ⟨h1, -, -, h4, h5, -⟩ := h
  exact ⟨⟨hH, h1.1⟩, fun i j a b c => h4 i j a (by omega) (by omega) (by omega), fun s t a b c d _ => h5 s t a (by omega) c (by omega)⟩
theorem waS.same {NR TI : Int → Int → Int} {Z : Nat} {I J : Iv} (h : waS NR TI Z I) (h0 : J 16 0 = I 16 0) (hr : ∀ o, 20 ≤ o → o ≤ 36 → J o = I o) : waS NR TI Z J := by
  obtain ⟨h1, h2, h3, h4, h5, h6⟩ := h
  refine ⟨⟨h1.1, h0.trans h1.2⟩, fun s t a b c => ?_, fun i j a b c => ?_, h4, h5, h6⟩
  · rw [hr (20 + s) (by omega) (by omega)]; exact h2 s t a b c
  · rw [hr (29 + i) (by omega) (by omega)]; exact h3 i j a b c
theorem sumM_TI {NR TI : Int → Int → Int} {Z H : Nat} {I : Iv} (h : waS NR TI Z I) (hH : H ≤ 8) {a : Nat} {k : Nat} (ha : a + k + 1 ≤ H) : 0 ≤ sumM (TI a) ((a : Int) + 1) k ∧ sumM (TI a) ((a : Int) + 1) k ≤ 72 := by
  have := sumM_rg (M := TI a) (c := 9) k ((a : Int) + 1) (fun j x y => h.2.2.2.1 a j (by omega) (by omega) (by omega) (by omega))
  omega
theorem mul_rg2 {a b : Int} (a0 : 0 ≤ a) (a1 : a ≤ 72) (b0 : 0 ≤ b) (b1 : b ≤ 10) : 0 ≤ a * b ∧ a * b ≤ 720 := by
  have h1 := Int.mul_nonneg a0 b0
  have h2 := Int.mul_le_mul a1 b1 b0 (by decide : (0 : Int) ≤ 72)
  omega
section
variable (G : GE) (n : Nat) (I : Iv) (bk dr : Nat) (pt : Option Nat)
theorem c_boundAmong (hn : 103 ≤ n) {NR TI : Int → Int → Int} {H Z : Nat} (E : waS NR TI Z I) (hHZ : H ≤ Z) (eH : I 16 8 = H) : Ct G yX10_boundAmong cX10_boundAmong 5 none 1 0 0 [.ref (gb G + 16)] n I (rst bk dr pt) (fun v n' I' ρ' => v = none ∧ n = n' ∧ rst bk dr pt = ρ' ∧ (∀ o, o ≠ 50 → I' o = I o) ∧ ∃ nst, wEnv NR TI H Z nst I') := by
  refine Ct.of [some (.ref (gb G + 16)), none, none, none, none] (by decide) rfl rfl rfl ?_
  intro k SR
  have S : Sem G RX10 "boundAmong" cX10_boundAmong 5 (rmD 1 0 0) k := SR.sem
  have hZ8 := E.1.1
  have eZ := E.1.2
  have hN := E.2.1
  have hT := E.2.2.1
  have hNr := E.2.2.2.2.1
  -- the second half
  have half : ∀ (m : Int), 0 ≤ m → m ≤ 10 → (∀ s t : Nat, t < s → s < Z → NR s t ≤ m) → ∀ (q : Nat) (K : Iv) (x3 x4 : Option Value), q ≤ H → (∀ o, o ≠ 50 → K o = I o) → K 50 H = 0 → (∀ h : Int, ∀ k : Nat, (q : Int) ≤ h → h + k + 1 = H → K 50 h = K 50 (h + 1) + sumM (TI h) (h + 1) k * m) → (∀ h : Int, (q : Int) ≤ h → h ≤ H → 0 ≤ K 50 h ∧ K 50 h ≤ 720 * (H - h)) → k 61 [some (.ref (gb G + 16)), some (.int (jI m)), some (.int (jI ((q : Int) - 1))), x3, x4] [] n K (rst bk dr pt) 0 0 := by
    intro m m0 m1 hm q
    induction q with
    | zero =>
      intro K x3 x4 hq hK k50 hrec hrg
      refine r_iload_n S rfl dX10_boundAmong_61 ?_
      refine r_if_lt S (tgt := 123) dX10_boundAmong_62 (by decide) (by decide) (fun c62 => ?_) (fun c62 => ?_)
      · refine r_vret SR dX10_boundAmong_123 ⟨by decide, by decide⟩ ?_
        refine ⟨rfl, rfl, rfl, hK, m, E.W hHZ, by rw [hK 16 (by decide)]; exact eZ, by rw [hK 16 (by decide)]; exact eH, fun s t a b c => by rw [hK (20 + s) (by omega)]; exact hN s t a b c, fun i j a b => by rw [hK (29 + i) (by omega)]; exact hT i j (by omega) (by omega) (by omega), ?_, k50, hrec, fun h a b => ?_⟩
        · intro s t s0 s1 t0 t1 hst
          obtain ⟨s', rfl⟩ := Int.eq_ofNat_of_zero_le s0
          obtain ⟨t', rfl⟩ := Int.eq_ofNat_of_zero_le t0
          by_cases hlt : t' < s'
          · exact hm s' t' hlt (by omega)
          · rw [E.2.2.2.2.2]
            exact hm t' s' (by omega) (by omega)
        · have := hrg h (by omega) b
          omega
      · exact absurd c62 (by decide)
    | succ q ih =>
      intro K x3 x4 hq hK k50 hrec hrg
      have e1 : ((q + 1 : Nat) : Int) - 1 = (q : Int) := by omega
      rw [e1]
      have kH : K 16 8 = H := by rw [hK 16 (by decide)]; exact eH
      have inner : ∀ (f d : Nat), q + 1 + d + f = H → k 72 [some (.ref (gb G + 16)), some (.int (jI m)), some (.int (jI (q : Int))), some (.int (jI (sumM (TI q) ((q : Int) + 1) d))), some (.int (jI ((q : Int) + 1 + d)))] [] n K (rst bk dr pt) 0 0 := by
        intro f
        induction f with
        | zero =>
          intro d hd
          have hs := sumM_TI E (H := H) (by omega) (a := q) (k := d) (by omega)
          have hmul := mul_rg2 hs.1 hs.2 m0 m1
          have hnx := hrg ((q : Int) + 1) (by omega) (by omega)
          refine r_iload S rfl dX10_boundAmong_72 ?_
          refine r_aload_n S rfl dX10_boundAmong_74 ?_
          refine r_getI S (v := K 16 8) fk_X10_39 dX10_boundAmong_75 rfl rfl (Nat.lt_of_lt_of_le (by decide) hn) rfl ?_
          refine r_icmp_ge S (tgt := 99) dX10_boundAmong_78 (by decide) (by omega) (by omega) (fun c78 => ?_) (fun c78 => ?_)
          · refine r_aload_n S rfl dX10_boundAmong_99 ?_
            refine r_getR S (o' := 50) fk_X10_52 dX10_boundAmong_100 rfl rfl (Nat.lt_of_lt_of_le (by decide) hn) rfl ?_
            refine r_iload_n S rfl dX10_boundAmong_103 ?_
            refine r_aload_n S rfl dX10_boundAmong_104 ?_
            refine r_getR S (o' := 50) fk_X10_52 dX10_boundAmong_105 rfl rfl (Nat.lt_of_lt_of_le (by decide) hn) rfl ?_
            refine r_iload_n S rfl dX10_boundAmong_108 ?_
            refine r_iconst S dX10_boundAmong_109 ?_
            refine r_iadd S dX10_boundAmong_110 ?_
            refine r_iald S (v := K 50 ((q:Int) + 1)) dX10_boundAmong_111 rfl rfl (Nat.lt_of_lt_of_le (by decide) hn) (by omega) (by omega) rfl ?_
            refine r_iload_n S rfl dX10_boundAmong_112 ?_
            refine r_iload_n S rfl dX10_boundAmong_113 ?_
            refine r_imul S dX10_boundAmong_114 ?_
            refine r_iadd S dX10_boundAmong_115 ?_
            refine r_iast S dX10_boundAmong_116 rfl rfl (Nat.lt_of_lt_of_le (by decide) hn) (by omega) (by omega) ?_
            refine r_iinc S dX10_boundAmong_117 rfl rfl rfl ?_
            refine r_goto S (tgt := 61) dX10_boundAmong_120 (by decide) ?_
            refine ih _ _ _ (by omega) (fun o a => by rw [up_o a]; exact hK o a) (by rw [up_i (by omega)]; exact k50) (fun h k' a c => ?_) (fun h a c => ?_)
            · by_cases e : h = q
              · have ek : k' = d := by omega
                rw [e, up_s, up_i (by omega), ek]
              · rw [up_i e, up_i (by omega)]
                exact hrec h k' (by omega) c
            · by_cases e : h = q
              · rw [e, up_s]
                omega
              · rw [up_i e]
                exact hrg h (by omega) c
          · exact absurd c78 (by omega)
        | succ f ihf =>
          intro d hd
          have ek : K (29 + q) ((q : Int) + 1 + d) = TI q ((q : Int) + 1 + d) := by
            have := hT q (q + 1 + d) (by omega) (by omega) (by omega)
            rw [show ((q + 1 + d : Nat) : Int) = (q : Int) + 1 + d by omega] at this
            rw [hK (29 + q) (by omega)]
            exact this
          refine r_iload S rfl dX10_boundAmong_72 ?_
          refine r_aload_n S rfl dX10_boundAmong_74 ?_
          refine r_getI S (v := K 16 8) fk_X10_39 dX10_boundAmong_75 rfl rfl (Nat.lt_of_lt_of_le (by decide) hn) rfl ?_
          refine r_icmp_ge S (tgt := 99) dX10_boundAmong_78 (by decide) (by omega) (by omega) (fun c78 => ?_) (fun c78 => ?_)
          · exact absurd c78 (by omega)
          · refine r_iload_n S rfl dX10_boundAmong_81 ?_
            refine r_aload_n S rfl dX10_boundAmong_82 ?_
            refine r_getR S (o' := 28) fk_X10_27 dX10_boundAmong_83 rfl rfl (Nat.lt_of_lt_of_le (by decide) hn) rfl ?_
            refine r_iload_n S rfl dX10_boundAmong_86 ?_
            refine r_aald S (o' := (29 + q)) dX10_boundAmong_87 rfl rfl (Nat.lt_of_lt_of_le (by decide) hn) (by omega) (by omega) (rst_row_28 bk dr pt (by omega)) ?_
            refine r_iload S rfl dX10_boundAmong_88 ?_
            refine r_iald S (v := K (29 + q) ((q:Int) + 1 + d)) dX10_boundAmong_90 (kd_ties (by omega)) rfl (by omega) (by omega) (by omega) rfl ?_
            refine r_iadd S dX10_boundAmong_91 ?_
            refine r_istore_n S dX10_boundAmong_92 rfl rfl ?_
            refine r_iinc S dX10_boundAmong_93 rfl rfl rfl ?_
            refine r_goto S (tgt := 72) dX10_boundAmong_96 (by decide) ?_
            have Q := ihf (d + 1) (by omega)
            rw [sumM_snoc, ← ek, show (((d + 1 : Nat) : Int)) = (d : Int) + 1 by omega, ← Int.add_assoc] at Q
            exact Q
      refine r_iload_n S rfl dX10_boundAmong_61 ?_
      refine r_if_lt S (tgt := 123) dX10_boundAmong_62 (by decide) (by omega) (fun c62 => ?_) (fun c62 => ?_)
      · exact absurd c62 (by omega)
      · refine r_iconst S dX10_boundAmong_65 ?_
        refine r_istore_n S dX10_boundAmong_66 rfl rfl ?_
        refine r_iload_n S rfl dX10_boundAmong_67 ?_
        refine r_iconst S dX10_boundAmong_68 ?_
        refine r_iadd S dX10_boundAmong_69 ?_
        refine r_istore S dX10_boundAmong_70 rfl rfl ?_
        have Q := inner (H - q - 1) 0 (by omega)
        rw [show (q : Int) + 1 + ((0 : Nat) : Int) = (q : Int) + 1 by omega] at Q
        exact Q
  have outer : ∀ (q s : Nat) (m : Int) (x3 : Option Value), s + q = Z → 0 ≤ m → m ≤ 10 → (∀ a b : Nat, b < a → a < s → NR a b ≤ m) → k 4 [some (.ref (gb G + 16)), some (.int (jI m)), some (.int (jI (s : Int))), x3, none] [] n I (rst bk dr pt) 0 0 := by
    intro q
    induction q with
    | zero =>
      intro s m x3 hs m0 m1 hm
      refine r_iload_n S rfl dX10_boundAmong_4 ?_
      refine r_aload_n S rfl dX10_boundAmong_5 ?_
      refine r_getI S (v := I 16 0) fk_X10_9 dX10_boundAmong_6 rfl rfl (Nat.lt_of_lt_of_le (by decide) hn) rfl ?_
      refine r_icmp_ge S (tgt := 44) dX10_boundAmong_9 (by decide) (by omega) (by omega) (fun c9 => ?_) (fun c9 => ?_)
      · refine r_aload_n S rfl dX10_boundAmong_44 ?_
        refine r_getR S (o' := 50) fk_X10_52 dX10_boundAmong_45 rfl rfl (Nat.lt_of_lt_of_le (by decide) hn) rfl ?_
        refine r_aload_n S rfl dX10_boundAmong_48 ?_
        refine r_getI S (v := I 16 8) fk_X10_39 dX10_boundAmong_49 rfl rfl (Nat.lt_of_lt_of_le (by decide) hn) rfl ?_
        refine r_iconst S dX10_boundAmong_52 ?_
        refine r_iast S dX10_boundAmong_53 rfl rfl (Nat.lt_of_lt_of_le (by decide) hn) (by omega) (by omega) ?_
        refine r_aload_n S rfl dX10_boundAmong_54 ?_
        refine r_getI S (v := I 16 8) fk_X10_39 dX10_boundAmong_55 rfl rfl (Nat.lt_of_lt_of_le (by decide) hn) rfl ?_
        refine r_iconst S dX10_boundAmong_58 ?_
        refine r_isub S dX10_boundAmong_59 ?_
        refine r_istore_n S dX10_boundAmong_60 rfl rfl ?_
        have Q := half m m0 m1 (fun a b c d => hm a b c (by omega)) H (up I 50 (I 16 8) 0) x3 none (Nat.le_refl _) (fun o a => by rw [up_o a]) (by rw [eH, up_s]) (fun h k' a c => by omega) (fun h a c => by rw [show h = H by omega, eH, up_s]; omega)
        rw [← eH] at Q
        exact Q
      · exact absurd c9 (by omega)
    | succ q ih =>
      intro s m x3 hs m0 m1 hm
      have inner : ∀ (f t : Nat) (m : Int), t + f = s → 0 ≤ m → m ≤ 10 → (∀ a b : Nat, b < a → a < s → NR a b ≤ m) → (∀ b : Nat, b < t → NR s b ≤ m) → k 14 [some (.ref (gb G + 16)), some (.int (jI m)), some (.int (jI (s : Int))), some (.int (jI (t : Int))), none] [] n I (rst bk dr pt) 0 0 := by
        intro f
        induction f with
        | zero =>
          intro t m ht m0 m1 hm ht'
          refine r_iload_n S rfl dX10_boundAmong_14 ?_
          refine r_iload_n S rfl dX10_boundAmong_15 ?_
          refine r_icmp_ge S (tgt := 38) dX10_boundAmong_16 (by decide) (by omega) (by omega) (fun c16 => ?_) (fun c16 => ?_)
          · refine r_iinc S dX10_boundAmong_38 rfl rfl rfl ?_
            refine r_goto S (tgt := 4) dX10_boundAmong_41 (by decide) ?_
            have Q := ih (s + 1) m (some (.int (jI (t : Int)))) (by omega) m0 m1 (fun a b c d => by by_cases e : a = s; rw [e]; exact ht' b (by omega); exact hm a b c (by omega))
            rw [show ((s + 1 : Nat) : Int) = (s : Int) + 1 by omega] at Q
            exact Q
          · exact absurd c16 (by omega)
        | succ f ihf =>
          intro t m ht m0 m1 hm ht'
          have en : I (20 + s) t = NR s t := hN s t (by omega) (by omega) (by omega)
          have er := hNr s t (by omega) (by omega) (by omega) (by omega)
          refine r_iload_n S rfl dX10_boundAmong_14 ?_
          refine r_iload_n S rfl dX10_boundAmong_15 ?_
          refine r_icmp_ge S (tgt := 38) dX10_boundAmong_16 (by decide) (by omega) (by omega) (fun c16 => ?_) (fun c16 => ?_)
          · exact absurd c16 (by omega)
          · refine r_iload_n S rfl dX10_boundAmong_19 ?_
            refine r_aload_n S rfl dX10_boundAmong_20 ?_
            refine r_getR S (o' := 19) fk_X10_24 dX10_boundAmong_21 rfl rfl (Nat.lt_of_lt_of_le (by decide) hn) rfl ?_
            refine r_iload_n S rfl dX10_boundAmong_24 ?_
            refine r_aald S (o' := (20 + s)) dX10_boundAmong_25 rfl rfl (Nat.lt_of_lt_of_le (by decide) hn) (by omega) (by omega) (rst_row_19 bk dr pt (by omega)) ?_
            refine r_iload_n S rfl dX10_boundAmong_26 ?_
            refine r_iald S (v := I (20 + s) (t:Int)) dX10_boundAmong_27 (kd_near (by omega)) rfl (by omega) (by omega) (by omega) rfl ?_
            refine r_mmax S lk_X10_61 (by omega) (by omega) (by decide) (Nat.le_of_ble_eq_true rfl) rfl ⟨by decide, by decide⟩ dX10_boundAmong_28 ?_
            refine r_istore_n S dX10_boundAmong_31 rfl rfl ?_
            refine r_iinc S dX10_boundAmong_32 rfl rfl rfl ?_
            refine r_goto S (tgt := 14) dX10_boundAmong_35 (by decide) ?_
            have Q := ihf (t + 1) (max m (I (20 + s) t)) (by omega) (by omega) (by omega) (fun a b c d => Int.le_trans (hm a b c d) (Int.le_max_left ..)) (fun b c => by by_cases e : b = t; rw [e, en]; exact Int.le_max_right ..; exact Int.le_trans (ht' b (by omega)) (Int.le_max_left ..))
            rw [show ((t + 1 : Nat) : Int) = (t : Int) + 1 by omega] at Q
            exact Q
      refine r_iload_n S rfl dX10_boundAmong_4 ?_
      refine r_aload_n S rfl dX10_boundAmong_5 ?_
      refine r_getI S (v := I 16 0) fk_X10_9 dX10_boundAmong_6 rfl rfl (Nat.lt_of_lt_of_le (by decide) hn) rfl ?_
      refine r_icmp_ge S (tgt := 44) dX10_boundAmong_9 (by decide) (by omega) (by omega) (fun c9 => ?_) (fun c9 => ?_)
      · exact absurd c9 (by omega)
      · refine r_iconst S dX10_boundAmong_12 ?_
        refine r_istore_n S dX10_boundAmong_13 rfl rfl ?_
        exact inner s 0 m (by omega) m0 m1 hm (fun b c => absurd c (by omega))
  refine r_iconst S dX10_boundAmong_0 ?_
  refine r_istore_n S dX10_boundAmong_1 rfl rfl ?_
  refine r_iconst S dX10_boundAmong_2 ?_
  refine r_istore_n S dX10_boundAmong_3 rfl rfl ?_
  exact outer Z 0 0 none (by omega) (by decide) (by decide) (fun a b c d => absurd d (by omega))
end
