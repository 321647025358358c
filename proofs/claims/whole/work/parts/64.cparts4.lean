/-! ===== the class's PARTINGS: rankWithSet ===== -/
section
variable (G : GE) (n : Nat) (I : Iv) (bk dr : Nat) (pt : Option Nat)
theorem c_X5_rankWithSet (hn : 109 ≤ n) {h a al : Nat} (h1 : 1 ≤ h) (h8 : h < 8) (hal : al < 1024) (ha : sub a al) (hr : ∀ i : Int, 0 ≤ i → i < 8192 → -50000000 ≤ I 107 i ∧ I 107 i ≤ 50000000) (hw : 0 ≤ I 105 a ∧ I 105 a ≤ 16383) : Ct G yX5_rankWithSet cX5_rankWithSet 9 none 1 0 0 [.ref (gb G + 103), .int (jI (h : Int)), .int (jI (a : Int)), .int (jI (dif al a : Int))] n I (rst bk dr pt) (fun v n' I' ρ' => v = none ∧ n = n' ∧ rst bk dr pt = ρ' ∧ (∀ o, o ≠ 107 → I' o = I o) ∧ (∀ i : Int, 1024 * (h : Int) - 1024 + al < i ∨ i < 1024 * (h : Int) - 1024 → I' 107 i = I 107 i) ∧ ∀ L : Nat, L ≤ al → sub L al → I' 107 (1024 * (h : Int) - 1024 + L) = if a &&& L = a then max (I 107 (1024 * (h : Int) - 1024 + L)) (I 107 (1024 * (h : Int) + (dif L a : Nat)) + key1 (fun s => I 105 (s : Int)) h a) else I 107 (1024 * (h : Int) - 1024 + L)) := by
  refine Ct.of [some (.ref (gb G + 103)), some (.int (jI (h : Int))), some (.int (jI (a : Int))), some (.int (jI (dif al a : Int))), none, none, none, none, none] (by decide) rfl rfl rfl ?_
  intro k SR
  have S : Sem G RX5 "rankWithSet" cX5_rankWithSet 9 (rmD 1 0 0) k := SR.sem
  obtain ⟨ky, eky⟩ : ∃ ky, ky = key1 (fun s => I 105 (s : Int)) h a := ⟨_, rfl⟩
  rw [← eky] at SR
  obtain ⟨ot, eot⟩ : ∃ ot, ot = dif al a := ⟨_, rfl⟩
  have hot : sub ot al := by rw [eot]; exact sub_dif _ _
  have haa := sub_le ha
  have hoo := sub_le hot
  have hkr : -4194304 ≤ ky ∧ ky ≤ 4194304 + 128 := by
    rw [eky]
    unfold key1
    have : (2 : Nat) ^ (7 - h) ≤ 2 ^ 7 := Nat.pow_le_pow_right (by decide) (by omega)
    have e7 : (2 : Nat) ^ 7 = 128 := by decide
    generalize (2 : Nat) ^ (7 - h) = p at this ⊢
    show -4194304 ≤ 4194304 - I 105 a * 256 + (p : Int) ∧ 4194304 - I 105 a * 256 + (p : Int) ≤ 4194304 + 128
    omega
  have fin : ∀ (K : Iv) (i : Int) (x7 : Int), (∀ o, o ≠ 107 → K o = I o) → (∀ s : Nat, sub s ot → K 107 ((h : Int) * 1024 - 1024 + a + s) = max (I 107 ((h : Int) * 1024 - 1024 + a + s)) (I 107 ((h : Int) * 1024 + s) + ky)) → (∀ j : Int, (∀ s : Nat, sub s ot → j ≠ (h : Int) * 1024 - 1024 + a + s) → K 107 j = I 107 j) → k 103 [some (.ref (gb G + 103)), some (.int (jI (h : Int))), some (.int (jI (a : Int))), some (.int (jI (ot : Int))), some (.int (jI ky)), some (.int (jI ((h : Int) * 1024))), some (.int (jI ((h : Int) * 1024 - 1024 + a))), some (.int (jI x7)), some (.int (jI i))] [] n K (rst bk dr pt) 0 0 := by
    intro K i x7 g1 g2 g3
    refine r_vret SR dX5_rankWithSet_103 ⟨by decide, by decide⟩ ?_
    refine ⟨rfl, rfl, rfl, g1, fun j hj => g3 j (fun s hs => by have := sub_le hs; have := sub_le (sub_or ha (hs.tr hot)); rw [eot] at hs; rw [(add_sub hs).1] at this; omega), fun L hL hLs => ?_⟩
    by_cases e : a &&& L = a
    · rw [if_pos e]
      have hs : sub (dif L a) ot := by rw [eot]; exact dif_mono hLs (sub.rf a)
      have q := g2 (dif L a) hs
      have ds := dif_sum e
      rw [show (h : Int) * 1024 - 1024 + a + (dif L a : Nat) = 1024 * (h : Int) - 1024 + L by omega, show (h : Int) * 1024 + (dif L a : Nat) = 1024 * (h : Int) + (dif L a : Nat) by omega] at q
      exact q
    · rw [if_neg e]
      refine g3 _ (fun s hs q => e ?_)
      rw [eot] at hs
      have q2 := (add_sub hs).2.1
      rw [show a + s = L by omega] at q2
      exact q2
  have loop : ∀ (m r : Nat) (i : Int) (K : Iv), r < m → 0 ≤ i → i + r ≤ 1023 → sub r ot → (∀ o, o ≠ 107 → K o = I o) → (∀ s : Nat, sub s ot → K 107 ((h : Int) * 1024 - 1024 + a + s) = if r < s then max (I 107 ((h : Int) * 1024 - 1024 + a + s)) (I 107 ((h : Int) * 1024 + s) + ky) else I 107 ((h : Int) * 1024 - 1024 + a + s)) → (∀ j : Int, (∀ s : Nat, sub s ot → j ≠ (h : Int) * 1024 - 1024 + a + s) → K 107 j = I 107 j) → k 31 [some (.ref (gb G + 103)), some (.int (jI (h : Int))), some (.int (jI (a : Int))), some (.int (jI (ot : Int))), some (.int (jI ky)), some (.int (jI ((h : Int) * 1024))), some (.int (jI ((h : Int) * 1024 - 1024 + a))), some (.int (jI (r : Int))), some (.int (jI i))] [] n K (rst bk dr pt) 0 0 := by
    intro m
    induction m with
    | zero => intro r i K hr0; omega
    | succ m ih =>
      intro r i K hm i0 i1 hro g1 g2 g3
      have hrl := sub_le hro
      have hra : a + r ≤ al := by
        have := sub_le (sub_or ha (hro.tr hot))
        rw [eot] at hro
        rw [(add_sub hro).1] at this
        exact this
      have er := g2 r hro
      rw [if_neg (by omega)] at er
      have ef : K 107 ((h : Int) * 1024 + r) = I 107 ((h : Int) * 1024 + r) := g3 _ (fun s hs q => by
        have := sub_le (sub_or ha (hs.tr hot))
        rw [eot] at hs
        rw [(add_sub hs).1] at this
        omega)
      have b1 := hr ((h : Int) * 1024 - 1024 + a + r) (by omega) (by omega)
      have b2' := hr ((h : Int) * 1024 + r) (by omega) (by omega)
      obtain ⟨K1, eK1⟩ : ∃ K1, K1 = up K 107 ((h : Int) * 1024 - 1024 + a + r) (max (I 107 ((h : Int) * 1024 - 1024 + a + r)) (I 107 ((h : Int) * 1024 + r) + ky)) := ⟨_, rfl⟩
      have n1 : ∀ o, o ≠ 107 → K1 o = I o := fun o ho => by rw [eK1, up_o ho]; exact g1 o ho
      have n3 : ∀ j : Int, (∀ s : Nat, sub s ot → j ≠ (h : Int) * 1024 - 1024 + a + s) → K1 107 j = I 107 j := fun j hj => by rw [eK1, up_i (hj r hro)]; exact g3 j hj
      have n2 : ∀ s : Nat, sub s ot → K1 107 ((h : Int) * 1024 - 1024 + a + s) = if r ≤ s then max (I 107 ((h : Int) * 1024 - 1024 + a + s)) (I 107 ((h : Int) * 1024 + s) + ky) else I 107 ((h : Int) * 1024 - 1024 + a + s) := fun s hs => by
        rw [eK1]
        by_cases e : s = r
        · rw [e, up_s, if_pos (Nat.le_refl _)]
        · rw [up_i (by omega), g2 s hs]
          by_cases e2 : r < s
          · rw [if_pos e2, if_pos (by omega)]
          · rw [if_neg e2, if_neg (by omega)]
      have last0 : r = 0 → k 31 [some (.ref (gb G + 103)), some (.int (jI (h : Int))), some (.int (jI (a : Int))), some (.int (jI (ot : Int))), some (.int (jI ky)), some (.int (jI ((h : Int) * 1024))), some (.int (jI ((h : Int) * 1024 - 1024 + a))), some (.int (jI (-1))), some (.int (jI (i + 1)))] [] n K1 (rst bk dr pt) 0 0 := by
        intro r0
        have F := fin K1 (i + 1) (-1) n1 (fun s hs => by rw [n2 s hs, if_pos (by omega)]) n3
        refine r_iload S rfl dX5_rankWithSet_31 ?_
        refine r_sipush S (by decide +kernel) dX5_rankWithSet_33 ?_
        refine r_icmp_ge S (tgt := 103) dX5_rankWithSet_36 (by decide) (by omega) (by omega) (fun c36 => ?_) (fun c36 => ?_)
        · exact F
        · refine r_iload S rfl dX5_rankWithSet_39 ?_
          refine r_if_lt S (tgt := 103) dX5_rankWithSet_41 (by decide) (by decide) (fun c41 => ?_) (fun c41 => ?_)
          · exact F
          · exact absurd c41 (by decide)
      refine r_iload S rfl dX5_rankWithSet_31 ?_
      refine r_sipush S (by decide +kernel) dX5_rankWithSet_33 ?_
      refine r_icmp_ge S (tgt := 103) dX5_rankWithSet_36 (by decide) (by omega) (by omega) (fun c36 => ?_) (fun c36 => ?_)
      · exact absurd c36 (by omega)
      · refine r_iload S rfl dX5_rankWithSet_39 ?_
        refine r_if_lt S (tgt := 103) dX5_rankWithSet_41 (by decide) (by omega) (fun c41 => ?_) (fun c41 => ?_)
        · exact absurd c41 (by omega)
        · refine r_aload_n S rfl dX5_rankWithSet_44 ?_
          refine r_getR S (o' := 107) fk_X5_21 dX5_rankWithSet_45 rfl rfl (Nat.lt_of_lt_of_le (by decide) hn) rfl ?_
          refine r_iload S rfl dX5_rankWithSet_48 ?_
          refine r_iload S rfl dX5_rankWithSet_50 ?_
          refine r_iadd S dX5_rankWithSet_52 ?_
          refine r_aload_n S rfl dX5_rankWithSet_53 ?_
          refine r_getR S (o' := 107) fk_X5_21 dX5_rankWithSet_54 rfl rfl (Nat.lt_of_lt_of_le (by decide) hn) rfl ?_
          refine r_iload S rfl dX5_rankWithSet_57 ?_
          refine r_iload S rfl dX5_rankWithSet_59 ?_
          refine r_iadd S dX5_rankWithSet_61 ?_
          refine r_iald S (v := K 107 (((h:Int) * 1024 - 1024 + a) + (r:Int))) dX5_rankWithSet_62 rfl rfl (Nat.lt_of_lt_of_le (by decide) hn) (by omega) (by omega) rfl ?_
          rw [er]
          refine r_aload_n S rfl dX5_rankWithSet_63 ?_
          refine r_getR S (o' := 107) fk_X5_21 dX5_rankWithSet_64 rfl rfl (Nat.lt_of_lt_of_le (by decide) hn) rfl ?_
          refine r_iload S rfl dX5_rankWithSet_67 ?_
          refine r_iload S rfl dX5_rankWithSet_69 ?_
          refine r_iadd S dX5_rankWithSet_71 ?_
          refine r_iald S (v := K 107 (((h:Int) * 1024) + (r:Int))) dX5_rankWithSet_72 rfl rfl (Nat.lt_of_lt_of_le (by decide) hn) (by omega) (by omega) rfl ?_
          rw [ef]
          refine r_iload S rfl dX5_rankWithSet_73 ?_
          refine r_iadd S dX5_rankWithSet_75 ?_
          refine r_mmax S lk_X5_84 (by omega) (by omega) (by decide) (Nat.le_of_ble_eq_true rfl) rfl ⟨by decide, by decide⟩ dX5_rankWithSet_76 ?_
          refine r_iast S dX5_rankWithSet_79 rfl rfl (Nat.lt_of_lt_of_le (by decide) hn) (by omega) (by omega) ?_
          rw [← eK1]
          refine r_iload S rfl dX5_rankWithSet_80 ?_
          refine r_if_ne S (tgt := 89) dX5_rankWithSet_82 (by decide) (by omega) (fun c82 => ?_) (fun c82 => ?_)
          · refine r_iload S rfl dX5_rankWithSet_89 ?_
            refine r_iconst S dX5_rankWithSet_91 ?_
            refine r_isub S dX5_rankWithSet_92 ?_
            rw [show (r : Int) - 1 = ((r - 1 : Nat) : Int) by omega]
            refine r_iload_n S rfl dX5_rankWithSet_93 ?_
            refine r_iand S (v := (((r - 1) &&& ot : Nat) : Int)) (and_n (r - 1) ot) dX5_rankWithSet_94 ?_
            refine r_istore S dX5_rankWithSet_95 rfl rfl ?_
            refine r_iinc S dX5_rankWithSet_97 rfl rfl rfl ?_
            refine r_goto S (tgt := 31) dX5_rankWithSet_100 (by decide) ?_
            first | exact last0 (by omega) | exact ih ((r - 1) &&& ot) (i + 1) K1 (by have := and_pred_lt (r := r) (o := ot) (by omega); omega) (by omega) (by have := and_pred_lt (r := r) (o := ot) (by omega); omega) (sub_and _ _) n1 (fun s hs => by rw [n2 s hs]; by_cases e : r ≤ s; rw [if_pos e, if_pos (by have := and_pred_lt (r := r) (o := ot) (by omega); omega)]; rw [if_neg e, if_neg (by have := sub_next r ot s hro hs (by omega); omega)]) n3
          · refine r_iconst S dX5_rankWithSet_85 ?_
            refine r_goto S (tgt := 95) dX5_rankWithSet_86 (by decide) ?_
            refine r_istore S dX5_rankWithSet_95 rfl rfl ?_
            refine r_iinc S dX5_rankWithSet_97 rfl rfl rfl ?_
            refine r_goto S (tgt := 31) dX5_rankWithSet_100 (by decide) ?_
            first | exact last0 (by omega) | exact ih ((r - 1) &&& ot) (i + 1) K1 (by have := and_pred_lt (r := r) (o := ot) (by omega); omega) (by omega) (by have := and_pred_lt (r := r) (o := ot) (by omega); omega) (sub_and _ _) n1 (fun s hs => by rw [n2 s hs]; by_cases e : r ≤ s; rw [if_pos e, if_pos (by have := and_pred_lt (r := r) (o := ot) (by omega); omega)]; rw [if_neg e, if_neg (by have := sub_next r ot s hro hs (by omega); omega)]) n3
  have CK := c_X5_keyOf G n I bk dr pt hn (h := h) (a := a) h8 (by omega)
  rw [← eky] at CK
  rw [← eot]
  refine r_aload_n S rfl dX5_rankWithSet_0 ?_
  refine r_iload_n S rfl dX5_rankWithSet_1 ?_
  refine r_iload_n S rfl dX5_rankWithSet_2 ?_
  refine r_callV S lk_X5_81 mk_X5_keyOf CK rfl (Nat.lt_of_lt_of_le (by decide) hn) rfl rfl rfl (Nat.le_of_ble_eq_true rfl) ⟨by decide, by decide⟩ rfl ⟨by decide, by decide⟩ dX5_rankWithSet_3 ?_
  rintro _ _ _ _ ⟨rfl, rfl, rfl, rfl⟩
  refine r_istore S dX5_rankWithSet_6 rfl rfl ?_
  refine r_iload_n S rfl dX5_rankWithSet_8 ?_
  refine r_sipush S (by decide +kernel) dX5_rankWithSet_9 ?_
  refine r_imul S dX5_rankWithSet_12 ?_
  refine r_istore S dX5_rankWithSet_13 rfl rfl ?_
  refine r_iload S rfl dX5_rankWithSet_15 ?_
  refine r_sipush S (by decide +kernel) dX5_rankWithSet_17 ?_
  refine r_isub S dX5_rankWithSet_20 ?_
  refine r_iload_n S rfl dX5_rankWithSet_21 ?_
  refine r_iadd S dX5_rankWithSet_22 ?_
  refine r_istore S dX5_rankWithSet_23 rfl rfl ?_
  refine r_iload_n S rfl dX5_rankWithSet_25 ?_
  refine r_istore S dX5_rankWithSet_26 rfl rfl ?_
  refine r_iconst S dX5_rankWithSet_28 ?_
  refine r_istore S dX5_rankWithSet_29 rfl rfl ?_
  exact loop (ot + 1) ot 0 I (by omega) (by decide) (by omega) (sub.rf ot) (fun _ _ => rfl) (fun s hs => by rw [if_neg (by have := sub_le hs; omega)]) (fun _ _ => rfl)
end
