/-! ===== the class's WAYS: the search ===== -/
def cb (J : Iv) (H : Nat) (b : BS) : Prop := J 16 5 = b.1 ∧ (b.1 = -1 ∨ (b.2.length = H ∧ holdS (J 37) b.2))
theorem cb.same {J K : Iv} {H : Nat} {b : BS} (h : cb J H b) (h1 : K 16 5 = J 16 5) (h2 : K 37 = J 37) : cb K H b := by
  unfold cb
  rw [h1, h2]
  exact h
def pfPre (NR TI : Int → Int → Int) (H Z : Nat) (nst : Int) (I : Iv) (rc : List Int) (bond : Int) (b : BS) : Prop := wEnv NR TI H Z nst I ∧ (∀ x ∈ rc, 0 ≤ x ∧ x < Z) ∧ holdS (I 38) rc ∧ tkn I rc ∧ pullOk NR TI H Z I rc rc.length ∧ cb I H b ∧ (0 ≤ bond ∧ bond ≤ 720 * rc.length) ∧ -1 ≤ b.1 ∧ b.1 ≤ 5760
def pfPost (I : Iv) (H h : Nat) (b' : BS) (I' : Iv) : Prop := wyOnly I I' ∧ (∀ o, 41 ≤ o → o ≤ 41 + h → I' o = I o) ∧ (∀ i : Int, 0 ≤ i → i < h → I' 38 i = I 38 i) ∧ I' 39 = I 39 ∧ cb I' H b'
section
variable (G : GE) (n : Nat) (I : Iv) (bk dr : Nat) (pt : Option Nat)
theorem c_keep (hn : 103 ≤ n) {H : Nat} (h8 : H ≤ 8) (eH : I 16 8 = H) {rc : List Int} (hl : rc.length = H) (hr : holdS (I 38) rc) {b : BS} (hb : cb I H b) {bond : Int} (hbo : rg bond) (hbr : -1 ≤ b.1 ∧ b.1 ≤ 5760) : Ct G yX10_keep cX10_keep 2 none 1 0 0 [.ref (gb G + 16), .int (jI bond)] n I (rst bk dr pt) (fun v n' I' ρ' => v = none ∧ n = n' ∧ rst bk dr pt = ρ' ∧ (∀ o, o ≠ 16 → o ≠ 37 → I' o = I o) ∧ (∀ j, j ≠ 5 → I' 16 j = I 16 j) ∧ cb I' H (recd bond rc b)) := by
  refine Ct.of [some (.ref (gb G + 16)), some (.int (jI bond))] (by decide) rfl rfl rfl ?_
  intro k SR
  have S : Sem G RX10 "keep" cX10_keep 2 (rmD 1 0 0) k := SR.sem
  have hb1 := hb.1
  refine r_iload_n S rfl dX10_keep_0 ?_
  refine r_aload_n S rfl dX10_keep_1 ?_
  refine r_getI S (v := I 16 5) fk_X10_30 dX10_keep_2 rfl rfl (Nat.lt_of_lt_of_le (by decide) hn) rfl ?_
  refine r_icmp_le S (tgt := 30) dX10_keep_5 (by decide) hbo (by omega) (fun c5 => ?_) (fun c5 => ?_)
  · refine r_vret SR dX10_keep_30 ⟨by decide, by decide⟩ ?_
    first | exact ⟨rfl, rfl, rfl, fun _ _ _ => rfl, fun _ _ => rfl, by unfold recd; rw [if_neg (by omega)]; exact hb⟩ | (refine ⟨rfl, rfl, rfl, fun o a c => ?_, fun j a => ?_, ?_⟩; (rw [cpI_o c, up_o a]); (rw [cpI_o (by decide), up_i a]); (unfold recd; rw [if_pos (by omega)]; exact ⟨by rw [cpI_o (by decide), up_s], Or.inr ⟨hl, holdS_congr rc (fun j g0 g1 => by rw [cpI_in g0 (by omega), up_o (by decide), show (0 : Int) + (j - 0) = j by omega]) hr⟩⟩))
  · refine r_aload_n S rfl dX10_keep_8 ?_
    refine r_iload_n S rfl dX10_keep_9 ?_
    refine r_putI S fk_X10_30 dX10_keep_10 rfl rfl (Nat.lt_of_lt_of_le (by decide) hn) (Or.inl rfl) (Or.inl rfl) ?_
    refine r_aload_n S rfl dX10_keep_13 ?_
    refine r_getR S (o' := 38) fk_X10_42 dX10_keep_14 rfl rfl (Nat.lt_of_lt_of_le (by decide) hn) rfl ?_
    refine r_iconst S dX10_keep_17 ?_
    refine r_aload_n S rfl dX10_keep_18 ?_
    refine r_getR S (o' := 37) fk_X10_33 dX10_keep_19 rfl rfl (Nat.lt_of_lt_of_le (by decide) hn) rfl ?_
    refine r_iconst S dX10_keep_22 ?_
    refine r_aload_n S rfl dX10_keep_23 ?_
    refine r_getI S (v := I 16 8) fk_X10_39 dX10_keep_24 rfl rfl (Nat.lt_of_lt_of_le (by decide) hn) rfl ?_
    refine r_copy S lk_X10_91 (o0 := 38) (o1 := 37) (N0 := 8) (N1 := 8) rfl rfl rfl rfl (Nat.lt_of_lt_of_le (by decide) hn) (Nat.lt_of_lt_of_le (by decide) hn) (by decide) (by decide) (by omega) (by omega) (by omega) (by decide) (by decide) rfl dX10_keep_27 ?_
    refine r_vret SR dX10_keep_30 ⟨by decide, by decide⟩ ?_
    first | exact ⟨rfl, rfl, rfl, fun _ _ _ => rfl, fun _ _ => rfl, by unfold recd; rw [if_neg (by omega)]; exact hb⟩ | (refine ⟨rfl, rfl, rfl, fun o a c => ?_, fun j a => ?_, ?_⟩; (rw [cpI_o c, up_o a]); (rw [cpI_o (by decide), up_i a]); (unfold recd; rw [if_pos (by omega)]; exact ⟨by rw [cpI_o (by decide), up_s], Or.inr ⟨hl, holdS_congr rc (fun j g0 g1 => by rw [cpI_in g0 (by omega), up_o (by decide), show (0 : Int) + (j - 0) = j by omega]) hr⟩⟩))
/-- placing from HOUSEHOLD h on -/
def cF (NR TI : Int → Int → Int) (H Z : Nat) (nst : Int) (k : Nat) : Prop := ∀ (I : Iv) (rc : List Int) (bond : Int) (b : BS), rc.length + k = H → pfPre NR TI H Z nst I rc bond b → Ct G yX10_placeFrom cX10_placeFrom 4 none (4+2*k) 0 0 [.ref (gb G + 16), .int (jI (rc.length : Int)), .int (jI bond)] n I (rst bk dr pt) (fun v n' I' ρ' => v = none ∧ n = n' ∧ rst bk dr pt = ρ' ∧ pfPost I H rc.length (dfs NR TI Z k rc bond b) I')
theorem c_placeAt (hn : 103 ≤ n) {NR TI : Int → Int → Int} {H Z : Nat} {nst : Int} {k' : Nat} (U : cF G n bk dr pt NR TI H Z nst k') {rc : List Int} {bond : Int} {b : BS} (hl : rc.length + k' + 1 = H) (hP : pfPre NR TI H Z nst I rc bond b) {s : Nat} (hs : s < Z) (hns : (s : Int) ∉ rc) : Ct G yX10_placeAt cX10_placeAt 5 none (5+2*k') 0 0 [.ref (gb G + 16), .int (jI (rc.length : Int)), .int (jI (s : Int)), .int (jI bond)] n I (rst bk dr pt) (fun v n' I' ρ' => v = none ∧ n = n' ∧ rst bk dr pt = ρ' ∧ pfPost I H rc.length (dfs NR TI Z k' ((s : Int) :: rc) (bond + gR NR TI rc s rc.length) b) I') := by
  refine Ct.of [some (.ref (gb G + 16)), some (.int (jI (rc.length : Int))), some (.int (jI (s : Int))), some (.int (jI bond)), none] (by decide) rfl rfl rfl ?_
  intro k SR
  have S : Sem G RX10 "placeAt" cX10_placeAt 5 (rmD (5+2*k') 0 0) k := SR.sem
  obtain ⟨E, hrc, hch, hT, hPu, hb, hbo, hbr⟩ := hP
  have hW := E.1.1
  have hs8 : s < 8 := by omega
  have ep := hPu rc.length s (Nat.le_refl _) (by omega) hs hns
  have hg := gR_rg E.1 rc s rc.length hrc (by omega) (by omega) hns (by omega) (by omega)
  obtain ⟨gw, egw⟩ : ∃ gw, gw = bond + gR NR TI rc s rc.length := ⟨_, rfl⟩
  obtain ⟨J1, eJ1⟩ : ∃ J1, J1 = up (up I 38 rc.length s) 39 s 1 := ⟨_, rfl⟩
  have o1 : wyOnly I J1 := by rw [eJ1]; exact ((wyOnly.rf I).ob (by omega) _ _).ob (by omega) _ _
  have E1 := E.wy o1
  have hrc1 : ∀ x ∈ (s : Int) :: rc, 0 ≤ x ∧ x < Z := fun x h => by
    rcases List.mem_cons.mp h with h | h
    · omega
    · exact hrc x h
  have T1 : tkn J1 ((s : Int) :: rc) := by
    intro t t0 t1
    rw [eJ1]
    by_cases e : t = s
    · rw [e, up_s, b2_t (List.mem_cons_self ..)]
    · rw [up_i e, up_o (by decide), hT t t0 t1]
      by_cases h : t ∈ rc
      · rw [b2_t h, b2_t (List.mem_cons_of_mem _ h)]
      · rw [b2_f h, b2_f (fun q => by rcases List.mem_cons.mp q with q | q; exact e q; exact h q)]
  have P1 : pullOk NR TI H Z J1 rc rc.length := fun j t a c d e => by rw [eJ1, up_o (by omega), up_o (by omega)]; exact hPu j t a c d e
  have C1 := c_drawBehind G n J1 bk dr pt hn E1 (h := rc.length) (q0 := k') hrc1 rfl (by omega) T1 P1
  have e50 : J1 50 = I 50 := o1.1 50 (by decide) (by decide) (by decide) (by decide) (by decide)
  rw [e50] at C1
  have h50 := E.2.2.2.2.2.2.2.2 ((rc.length : Int) + 1) (by omega) (by omega)
  have e39 : I 39 s = 0 := by rw [hT s (by omega) (by omega), b2_f hns]
  -- the end
  have last : ∀ J : Iv, wyOnly I J → (∀ o, 41 ≤ o → o ≤ 41 + rc.length → J o = I o) → (∀ i : Int, 0 ≤ i → i < rc.length → J 38 i = I 38 i) → J 39 = J1 39 → cb J H (dfs NR TI Z k' ((s : Int) :: rc) gw b) → k 56 [some (.ref (gb G + 16)), some (.int (jI (rc.length : Int))), some (.int (jI (s : Int))), some (.int (jI bond)), some (.int (jI gw))] [] n J (rst bk dr pt) 0 0 := by
    intro J g1 g2 g3 g4 g5
    rw [← egw] at SR
    refine r_aload_n S rfl dX10_placeAt_56 ?_
    refine r_getR S (o' := 39) fk_X10_45 dX10_placeAt_57 rfl rfl (Nat.lt_of_lt_of_le (by decide) hn) rfl ?_
    refine r_iload_n S rfl dX10_placeAt_60 ?_
    refine r_iconst S dX10_placeAt_61 ?_
    refine r_bast S dX10_placeAt_62 rfl rfl (Nat.lt_of_lt_of_le (by decide) hn) (by omega) (by omega) (Or.inl rfl) ?_
    refine r_vret SR dX10_placeAt_63 ⟨Nat.le_refl _, Nat.le_refl _⟩ ?_
    refine ⟨rfl, rfl, rfl, g1.ob (by omega) _ _, fun o a c => by rw [up_o (by omega)]; exact g2 o a c, fun i a c => by rw [up_o (by decide)]; exact g3 i a c, ?_, g5.same (by rw [up_o (by decide)]) (up_o (by decide))⟩
    funext t
    by_cases e : t = s
    · rw [e, up_s, e39]
    · rw [up_i e, g4, eJ1, up_i e, up_o (by decide)]
  refine r_iload_n S rfl dX10_placeAt_0 ?_
  refine r_aload_n S rfl dX10_placeAt_1 ?_
  refine r_getR S (o' := 40) fk_X10_49 dX10_placeAt_2 rfl rfl (Nat.lt_of_lt_of_le (by decide) hn) rfl ?_
  refine r_iload_n S rfl dX10_placeAt_5 ?_
  refine r_aald S (o' := (41 + rc.length)) dX10_placeAt_6 rfl rfl (Nat.lt_of_lt_of_le (by decide) hn) (by omega) (by omega) (rst_row_40 bk dr pt (by omega)) ?_
  refine r_iload_n S rfl dX10_placeAt_7 ?_
  refine r_bipush S (by decide +kernel) dX10_placeAt_8 ?_
  refine r_imul S dX10_placeAt_10 ?_
  refine r_iload_n S rfl dX10_placeAt_11 ?_
  refine r_iadd S dX10_placeAt_12 ?_
  refine r_iald S (v := I (41 + rc.length) (((rc.length:Int) * 8) + (s:Int))) dX10_placeAt_13 (kd_pull (by omega)) rfl (by omega) (by omega) (by omega) rfl ?_
  refine r_iadd S dX10_placeAt_14 ?_
  rw [show (rc.length : Int) * 8 + s = 8 * (rc.length : Int) + s by omega, ep, ← egw]
  refine r_istore S dX10_placeAt_15 rfl rfl ?_
  refine r_aload_n S rfl dX10_placeAt_17 ?_
  refine r_getR S (o' := 38) fk_X10_42 dX10_placeAt_18 rfl rfl (Nat.lt_of_lt_of_le (by decide) hn) rfl ?_
  refine r_iload_n S rfl dX10_placeAt_21 ?_
  refine r_iload_n S rfl dX10_placeAt_22 ?_
  refine r_iast S dX10_placeAt_23 rfl rfl (Nat.lt_of_lt_of_le (by decide) hn) (by omega) (by omega) ?_
  refine r_aload_n S rfl dX10_placeAt_24 ?_
  refine r_getR S (o' := 39) fk_X10_45 dX10_placeAt_25 rfl rfl (Nat.lt_of_lt_of_le (by decide) hn) rfl ?_
  refine r_iload_n S rfl dX10_placeAt_28 ?_
  refine r_iconst S dX10_placeAt_29 ?_
  refine r_bast S dX10_placeAt_30 rfl rfl (Nat.lt_of_lt_of_le (by decide) hn) (by omega) (by omega) (Or.inr rfl) ?_
  rw [← eJ1]
  refine r_iload S rfl dX10_placeAt_31 ?_
  refine r_aload_n S rfl dX10_placeAt_33 ?_
  refine r_iload_n S rfl dX10_placeAt_34 ?_
  refine r_iload_n S rfl dX10_placeAt_35 ?_
  refine r_callV S lk_X10_84 mk_X10_drawBehind C1 rfl (Nat.lt_of_lt_of_le (by decide) hn) rfl rfl rfl (Nat.le_of_ble_eq_true rfl) (by unfold roomy rmD; simp only; omega) rfl ⟨Nat.le_refl _, Nat.le_refl _⟩ dX10_placeAt_36 ?_
  rintro v _ J2 _ ⟨rfl, rfl, M, rfl, q1, q2, q3, q4⟩
  have sm := sumM_rg (M := M) (c := 720) k' ((rc.length : Int) + 1) (fun j _ _ => q4 j)
  have o2 : wyOnly I J2 := o1.tr ⟨fun o a c d e f => q1 o (by omega), fun j a => by rw [q1 16 (by omega)]⟩
  have b2' : cb J2 H b := hb.same (by rw [q1 16 (by omega), eJ1, up_o (by decide), up_o (by decide)]) (by rw [q1 37 (by omega), eJ1, up_o (by decide), up_o (by decide)])
  have j5 := b2'.1
  have h39 : J2 39 = J1 39 := q1 39 (by omega)
  have h38 : J2 38 = J1 38 := q1 38 (by omega)
  have h41 : ∀ o, 41 ≤ o → o ≤ 41 + rc.length → J2 o = I o := fun o a c => by rw [q1 o (by omega), eJ1, up_o (by omega), up_o (by omega)]
  have h38' : ∀ i : Int, 0 ≤ i → i < rc.length → J2 38 i = I 38 i := fun i a c => by rw [h38, eJ1, up_o (by decide), up_i (by omega)]
  refine r_iadd S dX10_placeAt_39 ?_
  refine r_aload_n S rfl dX10_placeAt_40 ?_
  refine r_getI S (v := J2 16 5) fk_X10_30 dX10_placeAt_41 rfl rfl (Nat.lt_of_lt_of_le (by decide) hn) rfl ?_
  refine r_icmp_le S (tgt := 56) dX10_placeAt_44 (by decide) (by omega) (by omega) (fun c44 => ?_) (fun c44 => ?_)
  · first | exact last J3 (o2.tr p1) (fun o a c => by rw [p2 o a (by omega)]; exact h41 o a c) (fun i a c => by rw [p3 i a (by omega)]; exact h38' i a c) (p4.trans h39) p5 | exact last J2 o2 h41 h38' h39 (by rw [dfs_no E.1 E.2.2.2.2.2.1 E.2.2.2.2.2.2.1 E.2.2.2.2.2.2.2.1 k' ((s : Int) :: rc) gw b M (by rw [List.length_cons]; omega) hrc1 (fun j t a c d e f => q3 j t (by rw [List.length_cons] at a; omega) c d e f) (by rw [List.length_cons, show ((rc.length + 1 : Nat) : Int) = (rc.length : Int) + 1 by omega]; omega)]; exact b2')
  · have el : (((s : Int) :: rc).length : Int) = (rc.length : Int) + 1 := by rw [List.length_cons]; omega
    have PF : pfPre NR TI H Z nst J2 ((s : Int) :: rc) gw b := ⟨E.wy o2, hrc1, ⟨by rw [h38, eJ1, up_o (by decide), up_s], holdS_congr rc (fun j g0 g1 => by rw [h38, eJ1, up_o (by decide), up_i (by omega)]) hch⟩, fun t a c => by rw [h39]; exact T1 t a c, q2, b2', by rw [el]; omega, hbr⟩
    have UC := U J2 ((s : Int) :: rc) gw b (by rw [List.length_cons]; omega) PF
    rw [el] at UC
    refine r_aload_n S rfl dX10_placeAt_47 ?_
    refine r_iload_n S rfl dX10_placeAt_48 ?_
    refine r_iconst S dX10_placeAt_49 ?_
    refine r_iadd S dX10_placeAt_50 ?_
    refine r_iload S rfl dX10_placeAt_51 ?_
    refine r_callV S lk_X10_72 mk_X10_placeFrom UC rfl (Nat.lt_of_lt_of_le (by decide) hn) rfl rfl rfl (Nat.le_of_ble_eq_true rfl) (by unfold roomy rmD; simp only; omega) rfl ⟨Nat.le_refl _, Nat.le_refl _⟩ dX10_placeAt_53 ?_
    rintro _ _ J3 _ ⟨rfl, rfl, rfl, p1, p2, p3, p4, p5⟩
    rw [List.length_cons] at p2 p3
    first | exact last J3 (o2.tr p1) (fun o a c => by rw [p2 o a (by omega)]; exact h41 o a c) (fun i a c => by rw [p3 i a (by omega)]; exact h38' i a c) (p4.trans h39) p5 | exact last J2 o2 h41 h38' h39 (by rw [dfs_no E.1 E.2.2.2.2.2.1 E.2.2.2.2.2.2.1 E.2.2.2.2.2.2.2.1 k' ((s : Int) :: rc) gw b M (by rw [List.length_cons]; omega) hrc1 (fun j t a c d e f => q3 j t (by rw [List.length_cons] at a; omega) c d e f) (by rw [List.length_cons, show ((rc.length + 1 : Nat) : Int) = (rc.length : Int) + 1 by omega]; omega)]; exact b2')
theorem pfPost.tr {I J K : Iv} {H h : Nat} {b b' : BS} (h1 : pfPost I H h b J) (h2 : pfPost J H h b' K) : pfPost I H h b' K := ⟨h1.1.tr h2.1, fun o a c => (h2.2.1 o a c).trans (h1.2.1 o a c), fun i a c => (h2.2.2.1 i a c).trans (h1.2.2.1 i a c), h2.2.2.2.1.trans h1.2.2.2.1, h2.2.2.2.2⟩
theorem pfPre.next {NR TI : Int → Int → Int} {H Z : Nat} {nst : Int} {I J : Iv} {rc : List Int} {bond : Int} {b0 b : BS} (h : pfPre NR TI H Z nst I rc bond b0) (hp : pfPost I H rc.length b J) (hb : -1 ≤ b.1 ∧ b.1 ≤ 5760) : pfPre NR TI H Z nst J rc bond b := by
  obtain ⟨E, h1, h2, h3, h4, h5, h6, h7⟩ := h
  refine ⟨E.wy hp.1, h1, holdS_congr rc (fun j g0 g1 => hp.2.2.1 j g0 g1) h2, fun t a c => by rw [hp.2.2.2.1]; exact h3 t a c, fun j t a c d e => by rw [hp.2.1 (41 + rc.length) (by omega) (by omega)]; exact h4 j t a c d e, hp.2.2.2.2, h6, hb⟩
theorem c_placeFrom (hn : 103 ≤ n) {NR TI : Int → Int → Int} {H Z : Nat} {nst : Int} : ∀ k : Nat, cF G n bk dr pt NR TI H Z nst k
  | 0 => by
    intro I rc bond b hl hP
    have hW := hP.1.1.1
    have eH := hP.1.2.2.1
    have hbo := hP.2.2.2.2.2.2.1
    have C := c_keep G n I bk dr pt hn (H := H) (by omega) eH (by omega) hP.2.2.1 hP.2.2.2.2.2.1 (bond := bond) (by omega) hP.2.2.2.2.2.2.2
    refine Ct.of [some (.ref (gb G + 16)), some (.int (jI (rc.length : Int))), some (.int (jI bond)), none] (by decide) rfl rfl rfl ?_
    intro k SR
    have S : Sem G RX10 "placeFrom" cX10_placeFrom 4 (rmD (4+2*0) 0 0) k := SR.sem
    refine r_iload_n S rfl dX10_placeFrom_0 ?_
    refine r_aload_n S rfl dX10_placeFrom_1 ?_
    refine r_getI S (v := I 16 8) fk_X10_39 dX10_placeFrom_2 rfl rfl (Nat.lt_of_lt_of_le (by decide) hn) rfl ?_
    refine r_icmp_lt S (tgt := 14) dX10_placeFrom_5 (by decide) (by omega) (by omega) (fun c5 => ?_) (fun c5 => ?_)
    · exact absurd c5 (by omega)
    · refine r_aload_n S rfl dX10_placeFrom_8 ?_
      refine r_iload_n S rfl dX10_placeFrom_9 ?_
      refine r_callV S lk_X10_76 mk_X10_keep C rfl (Nat.lt_of_lt_of_le (by decide) hn) rfl rfl rfl (Nat.le_of_ble_eq_true rfl) ⟨by decide, by decide⟩ rfl ⟨by decide, by decide⟩ dX10_placeFrom_10 ?_
      rintro _ _ J _ ⟨rfl, rfl, rfl, g1, g2, g3⟩
      refine r_vret SR dX10_placeFrom_13 ⟨by decide, by decide⟩ ?_
      exact ⟨rfl, rfl, rfl, ⟨fun o a c _ _ _ => g1 o a c, g2⟩, fun o a c => g1 o (by omega) (by omega), fun i _ _ => by rw [g1 38 (by decide) (by decide)], g1 39 (by decide) (by decide), g3⟩
  | k' + 1 => by
    have U : cF G n bk dr pt NR TI H Z nst k' := c_placeFrom hn k'
    intro I rc bond b hl hP
    refine Ct.of [some (.ref (gb G + 16)), some (.int (jI (rc.length : Int))), some (.int (jI bond)), none] (by decide) rfl rfl rfl ?_
    intro k SR
    have S : Sem G RX10 "placeFrom" cX10_placeFrom 4 (rmD (4+2*k'+2) 0 0) k := SR.sem
    have hW := hP.1.1.1
    have eH := hP.1.2.2.1
    have eZ := hP.1.2.1
    obtain ⟨F, eF⟩ : ∃ F : Int → BS → BS, F = fun s b => dfs NR TI Z k' (s :: rc) (bond + gR NR TI rc s rc.length) b := ⟨_, rfl⟩
    have eD : dfs NR TI Z (k' + 1) rc bond b = goL F rc Z 0 b := by rw [eF]; rfl
    obtain ⟨R, eR⟩ : ∃ R, R = goL F rc Z 0 b := ⟨_, rfl⟩
    rw [eD, ← eR] at SR
    have loop : ∀ (f s : Nat) (b1 : BS) (J : Iv), s + f = Z → pfPost I H rc.length b1 J → (-1 ≤ b1.1 ∧ b1.1 ≤ 5760) → R = goL F rc f s b1 → k 16 [some (.ref (gb G + 16)), some (.int (jI (rc.length : Int))), some (.int (jI bond)), some (.int (jI (s : Int)))] [] n J (rst bk dr pt) 0 0 := by
      intro f
      induction f with
      | zero =>
        intro s b1 J hs hJ hb1 hR
        have kz : J 16 0 = Z := by rw [hJ.1.2 0 (by decide)]; exact eZ
        refine r_iload_n S rfl dX10_placeFrom_16 ?_
        refine r_aload_n S rfl dX10_placeFrom_17 ?_
        refine r_getI S (v := J 16 0) fk_X10_9 dX10_placeFrom_18 rfl rfl (Nat.lt_of_lt_of_le (by decide) hn) rfl ?_
        refine r_icmp_ge S (tgt := 46) dX10_placeFrom_21 (by decide) (by omega) (by omega) (fun c21 => ?_) (fun c21 => ?_)
        · refine r_vret SR dX10_placeFrom_46 ⟨Nat.le_refl _, Nat.le_refl _⟩ ?_
          exact ⟨rfl, rfl, rfl, by rw [hR]; exact hJ⟩
        · exact absurd c21 (by omega)
      | succ f ih =>
        intro s b1 J hs hJ hb1 hR
        have kz : J 16 0 = Z := by rw [hJ.1.2 0 (by decide)]; exact eZ
        have PJ := hP.next hJ hb1
        have kt := PJ.2.2.2.1 s (by omega) (by omega)
        have e1 : ((s + 1 : Nat) : Int) = (s : Int) + 1 := by omega
        have hR' : R = goL F rc f ((s : Int) + 1) (if (s : Int) ∈ rc then b1 else F s b1) := hR
        refine r_iload_n S rfl dX10_placeFrom_16 ?_
        refine r_aload_n S rfl dX10_placeFrom_17 ?_
        refine r_getI S (v := J 16 0) fk_X10_9 dX10_placeFrom_18 rfl rfl (Nat.lt_of_lt_of_le (by decide) hn) rfl ?_
        refine r_icmp_ge S (tgt := 46) dX10_placeFrom_21 (by decide) (by omega) (by omega) (fun c21 => ?_) (fun c21 => ?_)
        · exact absurd c21 (by omega)
        · refine r_aload_n S rfl dX10_placeFrom_24 ?_
          refine r_getR S (o' := 39) fk_X10_45 dX10_placeFrom_25 rfl rfl (Nat.lt_of_lt_of_le (by decide) hn) rfl ?_
          refine r_iload_n S rfl dX10_placeFrom_28 ?_
          refine r_bald S (v := J 39 (s:Int)) dX10_placeFrom_29 rfl rfl (Nat.lt_of_lt_of_le (by decide) hn) (by omega) (by omega) rfl ?_
          rw [kt]
          refine r_ifb_ne S (tgt := 40) dX10_placeFrom_30 (by decide)  (fun c30 => ?_) (fun c30 => ?_)
          · refine r_iinc S dX10_placeFrom_40 rfl rfl rfl ?_
            refine r_goto S (tgt := 16) dX10_placeFrom_43 (by decide) ?_
            first | (rw [if_pos c30, ← e1] at hR'; have Q := ih (s + 1) b1 J (by omega) hJ hb1 hR'; rw [e1] at Q; exact Q) | (rw [if_neg c30, ← e1] at hR'; have Q := ih (s + 1) (F s b1) J2 (by omega) (hJ.tr hJ2') hr2 hR'; rw [e1] at Q; exact Q)
          · refine r_aload_n S rfl dX10_placeFrom_33 ?_
            refine r_iload_n S rfl dX10_placeFrom_34 ?_
            refine r_iload_n S rfl dX10_placeFrom_35 ?_
            refine r_iload_n S rfl dX10_placeFrom_36 ?_
            refine r_callV S lk_X10_80 mk_X10_placeAt (c_placeAt G n J bk dr pt hn U (by omega) PJ (by omega) c30) rfl (Nat.lt_of_lt_of_le (by decide) hn) rfl rfl rfl (Nat.le_of_ble_eq_true rfl) (by unfold roomy rmD; simp only; omega) rfl ⟨Nat.le_refl _, Nat.le_refl _⟩ dX10_placeFrom_37 ?_
            rintro _ _ J2 _ ⟨rfl, rfl, rfl, hJ2⟩
            have hr2 : -1 ≤ (F s b1).1 ∧ (F s b1).1 ≤ 5760 := by
              rw [eF]
              have hg := gR_rg hP.1.1 rc s rc.length hP.2.1 (by omega) (by omega) c30 (by omega) (by omega)
              have hbo := hP.2.2.2.2.2.2.1
              refine dfs_rg hP.1.1 k' ((s : Int) :: rc) _ b1 (by rw [List.length_cons]; omega) (fun x h => ?_) (by rw [List.length_cons, show ((rc.length + 1 : Nat) : Int) = (rc.length : Int) + 1 by omega]; omega) hb1
              rcases List.mem_cons.mp h with h | h
              · omega
              · exact hP.2.1 x h
            have hJ2' : pfPost J H rc.length (F s b1) J2 := by rw [eF]; exact hJ2
            refine r_iinc S dX10_placeFrom_40 rfl rfl rfl ?_
            refine r_goto S (tgt := 16) dX10_placeFrom_43 (by decide) ?_
            first | (rw [if_pos c30, ← e1] at hR'; have Q := ih (s + 1) b1 J (by omega) hJ hb1 hR'; rw [e1] at Q; exact Q) | (rw [if_neg c30, ← e1] at hR'; have Q := ih (s + 1) (F s b1) J2 (by omega) (hJ.tr hJ2') hr2 hR'; rw [e1] at Q; exact Q)
    refine r_iload_n S rfl dX10_placeFrom_0 ?_
    refine r_aload_n S rfl dX10_placeFrom_1 ?_
    refine r_getI S (v := I 16 8) fk_X10_39 dX10_placeFrom_2 rfl rfl (Nat.lt_of_lt_of_le (by decide) hn) rfl ?_
    refine r_icmp_lt S (tgt := 14) dX10_placeFrom_5 (by decide) (by omega) (by omega) (fun c5 => ?_) (fun c5 => ?_)
    · refine r_iconst S dX10_placeFrom_14 ?_
      refine r_istore_n S dX10_placeFrom_15 rfl rfl ?_
      exact loop Z 0 b I (by omega) ⟨wyOnly.rf I, fun _ _ _ => rfl, fun _ _ _ => rfl, rfl, hP.2.2.2.2.2.1⟩ hP.2.2.2.2.2.2.2 eR
    · exact absurd c5 (by omega)
end
