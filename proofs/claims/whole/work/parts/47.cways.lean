/-! ===== the class's WAYS ===== -/
def wEnv (NR TI : Int → Int → Int) (H Z : Nat) (nst : Int) (I : Iv) : Prop := WOk NR TI H Z ∧ I 16 0 = Z ∧ I 16 8 = H ∧ (∀ s t : Nat, s < Z → t < Z → s ≠ t → I (20 + s) (t : Int) = NR s t) ∧ (∀ i j : Nat, i < j → j < H → I (29 + i) (j : Int) = TI i j) ∧ (∀ s t : Int, 0 ≤ s → s < Z → 0 ≤ t → t < Z → s ≠ t → NR s t ≤ nst) ∧ I 50 H = 0 ∧ (∀ h : Int, ∀ k : Nat, 0 ≤ h → h + k + 1 = H → I 50 h = I 50 (h + 1) + sumM (TI h) (h + 1) k * nst) ∧ ∀ h : Int, 0 ≤ h → h ≤ H → 0 ≤ I 50 h ∧ I 50 h ≤ 5760
/-- only what the search writes has changed -/
def wyOnly (I J : Iv) : Prop := (∀ o, o ≠ 16 → o ≠ 37 → o ≠ 38 → o ≠ 39 → o < 42 ∨ 49 < o → J o = I o) ∧ ∀ j, j ≠ 5 → J 16 j = I 16 j
theorem wyOnly.rf (I : Iv) : wyOnly I I := ⟨fun _ _ _ _ _ _ => rfl, fun _ _ => rfl⟩
theorem wyOnly.tr {I J K : Iv} (h1 : wyOnly I J) (h2 : wyOnly J K) : wyOnly I K := ⟨fun o a b c d e => (h2.1 o a b c d e).trans (h1.1 o a b c d e), fun j a => (h2.2 j a).trans (h1.2 j a)⟩
theorem wyOnly.ob {I J : Iv} (h : wyOnly I J) {b : Nat} (hb : b = 37 ∨ b = 38 ∨ b = 39 ∨ (42 ≤ b ∧ b ≤ 49)) (i v : Int) : wyOnly I (up J b i v) := ⟨fun o x y z w u => by rw [up_o (by omega)]; exact h.1 o x y z w u, fun j a => by rw [up_o (by omega)]; exact h.2 j a⟩
theorem wyOnly.put {I J : Iv} (h : wyOnly I J) (v : Int) : wyOnly I (up J 16 5 v) := ⟨fun o x y z w u => by rw [up_o x]; exact h.1 o x y z w u, fun j a => by rw [up_i a]; exact h.2 j a⟩
theorem wEnv.wy {NR TI : Int → Int → Int} {H Z : Nat} {nst : Int} {I J : Iv} (h : wEnv NR TI H Z nst I) (hJ : wyOnly I J) : wEnv NR TI H Z nst J := by
  obtain ⟨h1, h2, h3, h4, h5, h6, h7, h8, h9⟩ := h
  have hW := h1.1
  have e50 : J 50 = I 50 := hJ.1 50 (by decide) (by decide) (by decide) (by decide) (by decide)
  refine ⟨h1, by rw [hJ.2 0 (by decide)]; exact h2, by rw [hJ.2 8 (by decide)]; exact h3, fun s t a b c => ?_, fun i j a b => ?_, h6, by rw [e50]; exact h7, by rw [e50]; exact h8, by rw [e50]; exact h9⟩
  · rw [hJ.1 (20 + s) (by omega) (by omega) (by omega) (by omega) (by omega)]; exact h4 s t a b c
  · rw [hJ.1 (29 + i) (by omega) (by omega) (by omega) (by omega) (by omega)]; exact h5 i j a b
/-- which SITES are taken -/
def tkn (I : Iv) (rc : List Int) : Prop := ∀ t : Int, 0 ≤ t → t < 8 → I 39 t = b2 (t ∈ rc)
/-- row h of the pulls -/
def pullOk (NR TI : Int → Int → Int) (H Z : Nat) (I : Iv) (rc : List Int) (h : Nat) : Prop := ∀ j t : Nat, h ≤ j → j < H → t < Z → (t : Int) ∉ rc → I (41 + h) (8 * (j : Int) + t) = gR NR TI rc t j
section
variable (G : GE) (n : Nat) (I : Iv) (bk dr : Nat) (pt : Option Nat)
/-- one more row of the pulls, for one HOUSEHOLD -/
def dOne (NR TI : Int → Int → Int) (H Z : Nat) (I J : Iv) (rc : List Int) (h j : Nat) (m : Int) : Prop := (∀ o, o ≠ 42 + h → J o = I o) ∧ (∀ i : Int, i < 8 * (j : Int) ∨ 8 * (j : Int) + 8 ≤ i → J (42 + h) i = I (42 + h) i) ∧ (∀ t : Nat, t < Z → (t : Int) ∉ rc → J (42 + h) (8 * (j : Int) + t) = gR NR TI rc t j ∧ gR NR TI rc t j ≤ m) ∧ 0 ≤ m ∧ m ≤ 720
theorem c_drawOne (hn : 103 ≤ n) {NR TI : Int → Int → Int} {H Z : Nat} {nst : Int} (E : wEnv NR TI H Z nst I) {rc : List Int} {h s j : Nat} (hrc : ∀ x ∈ (s : Int) :: rc, 0 ≤ x ∧ x < Z) (hl : rc.length = h) (hj : h < j) (hH : j < H) (hT : tkn I ((s : Int) :: rc)) (hP : pullOk NR TI H Z I rc h) : Ct G yX10_drawOne cX10_drawOne 9 (some .int) 1 0 0 [.ref (gb G + 16), .int (jI (h : Int)), .int (jI (s : Int)), .int (jI (j : Int))] n I (rst bk dr pt) (fun v n' I' ρ' => n = n' ∧ rst bk dr pt = ρ' ∧ ∃ m : Int, v = some (.int (jI m)) ∧ dOne NR TI H Z I I' ((s : Int) :: rc) h j m) := by
  refine Ct.of [some (.ref (gb G + 16)), some (.int (jI (h : Int))), some (.int (jI (s : Int))), some (.int (jI (j : Int))), none, none, none, none, none] (by decide) rfl rfl rfl ?_
  intro k SR
  have S : Sem G RX10 "drawOne" cX10_drawOne 9 (rmD 1 0 0) k := SR.sem
  obtain ⟨W, eZ, eH, hN, hTI, -, -, -, -⟩ := E
  have hW := W.1
  have hs := hrc s (List.mem_cons_self ..)
  have eT := hTI h j hj hH
  have loop : ∀ (q t : Nat) (m : Int) (K : Iv) (x7 x8 : Option Value), t + q = Z → (∀ o, o ≠ 42 + h → K o = I o) → (∀ i : Int, i < 8 * (j : Int) ∨ 8 * (j : Int) + 8 ≤ i → K (42 + h) i = I (42 + h) i) → (∀ t' : Nat, t' < t → (t' : Int) ∉ (s : Int) :: rc → K (42 + h) (8 * (j : Int) + t') = gR NR TI ((s : Int) :: rc) t' j ∧ gR NR TI ((s : Int) :: rc) t' j ≤ m) → 0 ≤ m → m ≤ 720 → k 16 [some (.ref (gb G + 16)), some (.int (jI (h : Int))), some (.int (jI (s : Int))), some (.int (jI (j : Int))), some (.int (jI (TI h j))), some (.int (jI m)), some (.int (jI (t : Int))), x7, x8] [] n K (rst bk dr pt) 0 0 := by
    intro q
    induction q with
    | zero =>
      intro t m K x7 x8 ht hK hKi hKt m0 m1
      have kz : K 16 0 = Z := by rw [hK 16 (by omega)]; exact eZ
      refine r_iload S rfl dX10_drawOne_16 ?_
      refine r_aload_n S rfl dX10_drawOne_18 ?_
      refine r_getI S (v := K 16 0) fk_X10_9 dX10_drawOne_19 rfl rfl (Nat.lt_of_lt_of_le (by decide) hn) rfl ?_
      refine r_icmp_ge S (tgt := 96) dX10_drawOne_22 (by decide) (by omega) (by omega) (fun c22 => ?_) (fun c22 => ?_)
      · refine r_iload S rfl dX10_drawOne_96 ?_
        refine r_iret SR dX10_drawOne_98 ⟨by decide, by decide⟩ ?_
        exact ⟨rfl, rfl, m, rfl, hK, hKi, fun t' a b => hKt t' (by omega) b, m0, m1⟩
      · exact absurd c22 (by omega)
    | succ q ih =>
      intro t m K x7 x8 ht hK hKi hKt m0 m1
      have kz : K 16 0 = Z := by rw [hK 16 (by omega)]; exact eZ
      have kt : K 39 t = b2 ((t : Int) ∈ (s : Int) :: rc) := by rw [hK 39 (by omega)]; exact hT t (by omega) (by omega)
      have e1 : ((t + 1 : Nat) : Int) = (t : Int) + 1 := by omega
      have hno : (t : Int) ∉ (s : Int) :: rc → (t : Int) ∉ rc ∧ s ≠ t := fun h => ⟨fun h' => h (List.mem_cons_of_mem _ h'), fun e => h (by rw [e]; exact List.mem_cons_self ..)⟩
      have eg : (t : Int) ∉ (s : Int) :: rc → K (41 + h) (8 * (j : Int) + t) + TI h j * K (20 + s) t = gR NR TI ((s : Int) :: rc) t j := by
        intro h1
        have h2 := hno h1
        rw [hK (41 + h) (by omega), hK (20 + s) (by omega), hP j t (by omega) hH (by omega) h2.1, hN s t (by omega) (by omega) h2.2]
        show _ = gR NR TI rc t j + TI rc.length j * NR s t
        rw [hl]
      have grg : (t : Int) ∉ (s : Int) :: rc → 0 ≤ gR NR TI ((s : Int) :: rc) t j ∧ gR NR TI ((s : Int) :: rc) t j ≤ 90 * (((s : Int) :: rc).length : Int) := fun h1 => gR_rg W _ t j hrc (by omega) (by omega) h1 (by rw [List.length_cons]; omega) (by omega)
      rw [List.length_cons] at grg
      have nxt : ∀ (K' : Iv) (m' : Int) (x7 x8 : Option Value), (∀ o, o ≠ 42 + h → K' o = I o) → (∀ i : Int, i < 8 * (j : Int) ∨ 8 * (j : Int) + 8 ≤ i → K' (42 + h) i = I (42 + h) i) → (∀ t' : Nat, t' < t + 1 → (t' : Int) ∉ (s : Int) :: rc → K' (42 + h) (8 * (j : Int) + t') = gR NR TI ((s : Int) :: rc) t' j ∧ gR NR TI ((s : Int) :: rc) t' j ≤ m') → 0 ≤ m' → m' ≤ 720 → k 16 [some (.ref (gb G + 16)), some (.int (jI (h : Int))), some (.int (jI (s : Int))), some (.int (jI (j : Int))), some (.int (jI (TI h j))), some (.int (jI m')), some (.int (jI ((t : Int) + 1))), x7, x8] [] n K' (rst bk dr pt) 0 0 := by
        intro K' m' x7 x8 a1 a2 a3 a4 a5
        have := ih (t + 1) m' K' x7 x8 (by omega) a1 a2 a3 a4 a5
        rw [e1] at this
        exact this
      refine r_iload S rfl dX10_drawOne_16 ?_
      refine r_aload_n S rfl dX10_drawOne_18 ?_
      refine r_getI S (v := K 16 0) fk_X10_9 dX10_drawOne_19 rfl rfl (Nat.lt_of_lt_of_le (by decide) hn) rfl ?_
      refine r_icmp_ge S (tgt := 96) dX10_drawOne_22 (by decide) (by omega) (by omega) (fun c22 => ?_) (fun c22 => ?_)
      · exact absurd c22 (by omega)
      · refine r_aload_n S rfl dX10_drawOne_25 ?_
        refine r_getR S (o' := 39) fk_X10_45 dX10_drawOne_26 rfl rfl (Nat.lt_of_lt_of_le (by decide) hn) rfl ?_
        refine r_iload S rfl dX10_drawOne_29 ?_
        refine r_bald S (v := K 39 (t:Int)) dX10_drawOne_31 rfl rfl (Nat.lt_of_lt_of_le (by decide) hn) (by omega) (by omega) rfl ?_
        rw [kt]
        refine r_ifb_ne S (tgt := 90) dX10_drawOne_32 (by decide)  (fun c32 => ?_) (fun c32 => ?_)
        · refine r_iinc S dX10_drawOne_90 rfl rfl rfl ?_
          refine r_goto S (tgt := 16) dX10_drawOne_93 (by decide) ?_
          first | exact nxt K m _ _ hK hKi (fun t' a b => hKt t' (by by_cases e : t' = t; exact absurd c32 (by rw [← e]; exact b); omega) b) m0 m1 | exact nxt _ _ _ _ (fun o a => by rw [up_o a]; exact hK o a) (fun i a => by rw [up_i (by omega)]; exact hKi i a) (fun t' a b => by by_cases e : t' = t; rw [e, up_s]; exact ⟨rfl, Int.le_max_right ..⟩; rw [up_i (by omega)]; have h3 := hKt t' (by omega) b; exact ⟨h3.1, Int.le_trans h3.2 (Int.le_max_left ..)⟩) (Int.le_trans m0 (Int.le_max_left ..)) (Int.max_le.mpr ⟨m1, by omega⟩)
        · refine r_iload_n S rfl dX10_drawOne_35 ?_
          refine r_bipush S (by decide +kernel) dX10_drawOne_36 ?_
          refine r_imul S dX10_drawOne_38 ?_
          refine r_iload S rfl dX10_drawOne_39 ?_
          refine r_iadd S dX10_drawOne_41 ?_
          refine r_istore S dX10_drawOne_42 rfl rfl ?_
          refine r_aload_n S rfl dX10_drawOne_44 ?_
          refine r_getR S (o' := 40) fk_X10_49 dX10_drawOne_45 rfl rfl (Nat.lt_of_lt_of_le (by decide) hn) rfl ?_
          refine r_iload_n S rfl dX10_drawOne_48 ?_
          refine r_aald S (o' := (41 + h)) dX10_drawOne_49 rfl rfl (Nat.lt_of_lt_of_le (by decide) hn) (by omega) (by omega) (rst_row_40 bk dr pt (by omega)) ?_
          refine r_iload S rfl dX10_drawOne_50 ?_
          refine r_iald S (v := K (41 + h) (((j:Int) * 8) + (t:Int))) dX10_drawOne_52 (kd_pull (by omega)) rfl (by omega) (by omega) (by omega) rfl ?_
          refine r_iload S rfl dX10_drawOne_53 ?_
          refine r_aload_n S rfl dX10_drawOne_55 ?_
          refine r_getR S (o' := 19) fk_X10_24 dX10_drawOne_56 rfl rfl (Nat.lt_of_lt_of_le (by decide) hn) rfl ?_
          refine r_iload_n S rfl dX10_drawOne_59 ?_
          refine r_aald S (o' := (20 + s)) dX10_drawOne_60 rfl rfl (Nat.lt_of_lt_of_le (by decide) hn) (by omega) (by omega) (rst_row_19 bk dr pt (by omega)) ?_
          refine r_iload S rfl dX10_drawOne_61 ?_
          refine r_iald S (v := K (20 + s) (t:Int)) dX10_drawOne_63 (kd_near (by omega)) rfl (by omega) (by omega) (by omega) rfl ?_
          refine r_imul S dX10_drawOne_64 ?_
          refine r_iadd S dX10_drawOne_65 ?_
          rw [show (j : Int) * 8 + t = 8 * (j : Int) + t by omega, eg c32]
          have gr := grg c32
          refine r_istore S dX10_drawOne_66 rfl rfl ?_
          refine r_aload_n S rfl dX10_drawOne_68 ?_
          refine r_getR S (o' := 40) fk_X10_49 dX10_drawOne_69 rfl rfl (Nat.lt_of_lt_of_le (by decide) hn) rfl ?_
          refine r_iload_n S rfl dX10_drawOne_72 ?_
          refine r_iconst S dX10_drawOne_73 ?_
          refine r_iadd S dX10_drawOne_74 ?_
          refine r_aald S (o' := (42 + h)) dX10_drawOne_75 rfl rfl (Nat.lt_of_lt_of_le (by decide) hn) (by omega) (by omega) (show rst bk dr pt 40 ((h : Int) + 1) = some (42 + h) by rw [show (h : Int) + 1 = ((h + 1 : Nat) : Int) by omega, rst_row_40 bk dr pt (by omega), show 41 + (h + 1) = 42 + h by omega]) ?_
          refine r_iload S rfl dX10_drawOne_76 ?_
          refine r_iload S rfl dX10_drawOne_78 ?_
          refine r_iast S dX10_drawOne_80 (show kd (42 + h) = (0, 64) by rw [show 42 + h = 41 + (h + 1) by omega]; exact kd_pull (by omega)) rfl (by omega) (by omega) (by omega) ?_
          refine r_iload S rfl dX10_drawOne_81 ?_
          refine r_iload S rfl dX10_drawOne_83 ?_
          refine r_mmax S lk_X10_61 (by omega) (by omega) (by decide) (Nat.le_of_ble_eq_true rfl) rfl ⟨by decide, by decide⟩ dX10_drawOne_85 ?_
          refine r_istore S dX10_drawOne_88 rfl rfl ?_
          refine r_iinc S dX10_drawOne_90 rfl rfl rfl ?_
          refine r_goto S (tgt := 16) dX10_drawOne_93 (by decide) ?_
          first | exact nxt K m _ _ hK hKi (fun t' a b => hKt t' (by by_cases e : t' = t; exact absurd c32 (by rw [← e]; exact b); omega) b) m0 m1 | exact nxt _ _ _ _ (fun o a => by rw [up_o a]; exact hK o a) (fun i a => by rw [up_i (by omega)]; exact hKi i a) (fun t' a b => by by_cases e : t' = t; rw [e, up_s]; exact ⟨rfl, Int.le_max_right ..⟩; rw [up_i (by omega)]; have h3 := hKt t' (by omega) b; exact ⟨h3.1, Int.le_trans h3.2 (Int.le_max_left ..)⟩) (Int.le_trans m0 (Int.le_max_left ..)) (Int.max_le.mpr ⟨m1, by omega⟩)
  refine r_aload_n S rfl dX10_drawOne_0 ?_
  refine r_getR S (o' := 28) fk_X10_27 dX10_drawOne_1 rfl rfl (Nat.lt_of_lt_of_le (by decide) hn) rfl ?_
  refine r_iload_n S rfl dX10_drawOne_4 ?_
  refine r_aald S (o' := (29 + h)) dX10_drawOne_5 rfl rfl (Nat.lt_of_lt_of_le (by decide) hn) (by omega) (by omega) (rst_row_28 bk dr pt (by omega)) ?_
  refine r_iload_n S rfl dX10_drawOne_6 ?_
  refine r_iald S (v := I (29 + h) (j:Int)) dX10_drawOne_7 (kd_ties (by omega)) rfl (by omega) (by omega) (by omega) rfl ?_
  rw [eT]
  refine r_istore S dX10_drawOne_8 rfl rfl ?_
  refine r_iconst S dX10_drawOne_10 ?_
  refine r_istore S dX10_drawOne_11 rfl rfl ?_
  refine r_iconst S dX10_drawOne_13 ?_
  refine r_istore S dX10_drawOne_14 rfl rfl ?_
  exact loop Z 0 0 I none none (by omega) (fun _ _ => rfl) (fun _ _ => rfl) (fun t' a => absurd a (by omega)) (by decide) (by decide)
def dBeh (NR TI : Int → Int → Int) (H Z : Nat) (I J : Iv) (rc : List Int) (h : Nat) (M : Int → Int) : Prop := (∀ o, o ≠ 42 + h → J o = I o) ∧ pullOk NR TI H Z J rc (h + 1) ∧ (∀ j t : Int, (h : Int) + 1 ≤ j → j < H → 0 ≤ t → t < Z → t ∉ rc → gR NR TI rc t j ≤ M j) ∧ ∀ j : Int, 0 ≤ M j ∧ M j ≤ 720
theorem c_drawBehind (hn : 103 ≤ n) {NR TI : Int → Int → Int} {H Z : Nat} {nst : Int} (E : wEnv NR TI H Z nst I) {rc : List Int} {h s q0 : Nat} (hrc : ∀ x ∈ (s : Int) :: rc, 0 ≤ x ∧ x < Z) (hl : rc.length = h) (hq : h + 1 + q0 = H) (hT : tkn I ((s : Int) :: rc)) (hP : pullOk NR TI H Z I rc h) : Ct G yX10_drawBehind cX10_drawBehind 5 (some .int) 2 0 0 [.ref (gb G + 16), .int (jI (h : Int)), .int (jI (s : Int))] n I (rst bk dr pt) (fun v n' I' ρ' => n = n' ∧ rst bk dr pt = ρ' ∧ ∃ M : Int → Int, v = some (.int (jI (I 50 ((h : Int) + 1) + sumM M ((h : Int) + 1) q0))) ∧ dBeh NR TI H Z I I' ((s : Int) :: rc) h M) := by
  refine Ct.of [some (.ref (gb G + 16)), some (.int (jI (h : Int))), some (.int (jI (s : Int))), none, none] (by decide) rfl rfl rfl ?_
  intro k SR
  have S : Sem G RX10 "drawBehind" cX10_drawBehind 5 (rmD 2 0 0) k := SR.sem
  have hW := E.1.1
  have eZ := E.2.1
  have eH := E.2.2.1
  have loop : ∀ (q d : Nat) (M : Int → Int) (K : Iv), h + 1 + d + q = H → d + q = q0 → (∀ o, o ≠ 42 + h → K o = I o) → (∀ j t : Nat, h + 1 ≤ j → j < h + 1 + d → t < Z → (t : Int) ∉ (s : Int) :: rc → K (42 + h) (8 * (j : Int) + t) = gR NR TI ((s : Int) :: rc) t j) → (∀ j t : Nat, h + 1 ≤ j → j < h + 1 + d → t < Z → (t : Int) ∉ (s : Int) :: rc → gR NR TI ((s : Int) :: rc) t j ≤ M j) → (∀ j : Int, 0 ≤ M j ∧ M j ≤ 720) → k 14 [some (.ref (gb G + 16)), some (.int (jI (h : Int))), some (.int (jI (s : Int))), some (.int (jI (I 50 ((h : Int) + 1) + sumM M ((h : Int) + 1) d))), some (.int (jI ((h : Int) + 1 + d)))] [] n K (rst bk dr pt) 0 0 := by
    intro q
    induction q with
    | zero =>
      intro d M K hd hdq hK hKp hM hMr
      have kH : K 16 8 = H := by rw [hK 16 (by omega)]; exact eH
      have ed : d = q0 := by omega
      refine r_iload S rfl dX10_drawBehind_14 ?_
      refine r_aload_n S rfl dX10_drawBehind_16 ?_
      refine r_getI S (v := K 16 8) fk_X10_39 dX10_drawBehind_17 rfl rfl (Nat.lt_of_lt_of_le (by decide) hn) rfl ?_
      refine r_icmp_ge S (tgt := 40) dX10_drawBehind_20 (by decide) (by omega) (by omega) (fun c20 => ?_) (fun c20 => ?_)
      · refine r_iload_n S rfl dX10_drawBehind_40 ?_
        refine r_iret SR dX10_drawBehind_41 ⟨by decide, by decide⟩ ?_
        refine ⟨rfl, rfl, M, by rw [ed], hK, fun j t a b c e => ?_, fun j t a b c d' e => ?_, hMr⟩
        · rw [show 41 + (h + 1) = 42 + h by omega]
          exact hKp j t a (by omega) c e
        · obtain ⟨j', rfl⟩ := Int.eq_ofNat_of_zero_le (show 0 ≤ j by omega)
          obtain ⟨t', rfl⟩ := Int.eq_ofNat_of_zero_le c
          exact hM j' t' (by omega) (by omega) (by omega) e
      · exact absurd c20 (by omega)
    | succ q ih =>
      intro d M K hd hdq hK hKp hM hMr
      have kH : K 16 8 = H := by rw [hK 16 (by omega)]; exact eH
      have EK : wEnv NR TI H Z nst K := E.wy ⟨fun o _ _ _ _ a => hK o (by omega), fun j _ => by rw [hK 16 (by omega)]⟩
      have TK : tkn K ((s : Int) :: rc) := fun t a b => by rw [hK 39 (by omega)]; exact hT t a b
      have PK : pullOk NR TI H Z K rc h := fun j t a b c e => by rw [hK (41 + h) (by omega)]; exact hP j t a b c e
      have ej : ((h + 1 + d : Nat) : Int) = (h : Int) + 1 + d := by omega
      have C := c_drawOne G n K bk dr pt hn EK (j := h + 1 + d) hrc hl (by omega) (by omega) TK PK
      rw [ej] at C
      refine r_iload S rfl dX10_drawBehind_14 ?_
      refine r_aload_n S rfl dX10_drawBehind_16 ?_
      refine r_getI S (v := K 16 8) fk_X10_39 dX10_drawBehind_17 rfl rfl (Nat.lt_of_lt_of_le (by decide) hn) rfl ?_
      refine r_icmp_ge S (tgt := 40) dX10_drawBehind_20 (by decide) (by omega) (by omega) (fun c20 => ?_) (fun c20 => ?_)
      · exact absurd c20 (by omega)
      · refine r_iload_n S rfl dX10_drawBehind_23 ?_
        refine r_aload_n S rfl dX10_drawBehind_24 ?_
        refine r_iload_n S rfl dX10_drawBehind_25 ?_
        refine r_iload_n S rfl dX10_drawBehind_26 ?_
        refine r_iload S rfl dX10_drawBehind_27 ?_
        refine r_callV S lk_X10_87 mk_X10_drawOne C rfl (Nat.lt_of_lt_of_le (by decide) hn) rfl rfl rfl (Nat.le_of_ble_eq_true rfl) ⟨by decide, by decide⟩ rfl ⟨by decide, by decide⟩ dX10_drawBehind_29 ?_
        rintro v _ J _ ⟨rfl, rfl, m, rfl, g1, g2, g3, g4, g5⟩
        refine r_iadd S dX10_drawBehind_32 ?_
        refine r_istore_n S dX10_drawBehind_33 rfl rfl ?_
        refine r_iinc S dX10_drawBehind_34 rfl rfl rfl ?_
        refine r_goto S (tgt := 14) dX10_drawBehind_37 (by decide) ?_
        have Q := ih (d + 1) (fun j => if j = (h : Int) + 1 + d then m else M j) J (by omega) (by omega) (fun o a => by rw [g1 o a]; exact hK o a) (fun j t a b c e => ?_) (fun j t a b c e => ?_) (fun j => ?_)
        · have e1 : sumM (fun j => if j = (h : Int) + 1 + d then m else M j) ((h : Int) + 1) (d + 1) = sumM M ((h : Int) + 1) d + m := by
            rw [sumM_snoc]
            have e2 : sumM (fun j => if j = (h : Int) + 1 + d then m else M j) ((h : Int) + 1) d = sumM M ((h : Int) + 1) d := by
              refine Int.le_antisymm (sumM_le d _ (fun j a b => ?_)) (sumM_le d _ (fun j a b => ?_))
              · rw [if_neg (by omega)]; exact Int.le_refl _
              · rw [if_neg (by omega)]; exact Int.le_refl _
            rw [e2, if_pos rfl]
          rw [e1, ← Int.add_assoc, show (((d + 1 : Nat) : Int)) = (d : Int) + 1 by omega, ← Int.add_assoc] at Q
          exact Q
        · by_cases ej' : j = h + 1 + d
          · rw [ej', ej]
            exact (g3 t c e).1
          · rw [g2 _ (by omega)]
            exact hKp j t a (by omega) c e
        · by_cases ej' : j = h + 1 + d
          · rw [ej', ej, if_pos rfl]
            exact (g3 t c e).2
          · rw [if_neg (by omega)]
            exact hM j t a (by omega) c e
        · by_cases ej' : j = (h : Int) + 1 + d
          · rw [if_pos ej']
            exact ⟨g4, g5⟩
          · rw [if_neg ej']
            exact hMr j
  refine r_aload_n S rfl dX10_drawBehind_0 ?_
  refine r_getR S (o' := 50) fk_X10_52 dX10_drawBehind_1 rfl rfl (Nat.lt_of_lt_of_le (by decide) hn) rfl ?_
  refine r_iload_n S rfl dX10_drawBehind_4 ?_
  refine r_iconst S dX10_drawBehind_5 ?_
  refine r_iadd S dX10_drawBehind_6 ?_
  refine r_iald S (v := I 50 ((h:Int) + 1)) dX10_drawBehind_7 rfl rfl (Nat.lt_of_lt_of_le (by decide) hn) (by omega) (by omega) rfl ?_
  refine r_istore_n S dX10_drawBehind_8 rfl rfl ?_
  refine r_iload_n S rfl dX10_drawBehind_9 ?_
  refine r_iconst S dX10_drawBehind_10 ?_
  refine r_iadd S dX10_drawBehind_11 ?_
  refine r_istore S dX10_drawBehind_12 rfl rfl ?_
  have Q := loop q0 0 (fun _ => 0) I (by omega) (by omega) (fun _ _ => rfl) (fun j t a b => absurd b (by omega)) (fun j t a b => absurd b (by omega)) (fun _ => ⟨by decide, by decide⟩)
  rw [show I 50 ((h : Int) + 1) + sumM (fun _ => 0) ((h : Int) + 1) 0 = I 50 ((h : Int) + 1) by show _ + (0 : Int) = _; omega, show (h : Int) + 1 + ((0 : Nat) : Int) = (h : Int) + 1 by omega] at Q
  exact Q
end
