/-! ===== the class's reader ===== -/
/-- the cursor stands at the head of T -/
def ctk (I : Iv) (T : TL) : Prop := 0 ≤ I 56 1 ∧ I 56 1 < I 56 0 ∧ I 56 0 ≤ 401 ∧ I 56 1 + T.length = I 56 0 ∧ ∀ j : Nat, j < T.length → I 57 (I 56 1 + j) = (T.getD j (0, 0)).1 ∧ I 58 (I 56 1 + j) = (T.getD j (0, 0)).2
theorem ctk_hd {I : Iv} {T : TL} (h : ctk I T) : I 57 (I 56 1) = hd T ∧ I 58 (I 56 1) = pl T := by
  obtain ⟨h0, h1, h2, h3, h4⟩ := h
  cases T with
  | nil =>
    have h3' : I 56 1 + ((0 : Nat) : Int) = I 56 0 := h3
    omega
  | cons x t =>
    have h := h4 0 (by rw [List.length_cons]; omega)
    rw [show I 56 1 + ((0 : Nat) : Int) = I 56 1 by omega] at h
    exact h
theorem ctk_same {I J : Iv} {T : TL} (h : ctk I T) (h1 : J 56 = I 56) (h2 : J 57 = I 57) (h3 : J 58 = I 58) : ctk J T := by
  unfold ctk
  rw [h1, h2, h3]
  exact h
def advI (I : Iv) : Iv := if I 56 1 + 1 < I 56 0 then up I 56 1 (I 56 1 + 1) else I
theorem advI_o (I : Iv) {o : Nat} (h : o ≠ 56) : advI I o = I o := by
  unfold advI
  split
  · exact up_o h
  · rfl
theorem advI_0 (I : Iv) : advI I 56 0 = I 56 0 := by
  unfold advI
  split
  · exact up_i (by decide)
  · rfl
theorem ctk_adv {I : Iv} {T : TL} (h : ctk I T) : ctk (advI I) (adv T) := by
  obtain ⟨h0, h1, h2, h3, h4⟩ := h
  unfold advI
  cases T with
  | nil =>
    have h3' : I 56 1 + ((0 : Nat) : Int) = I 56 0 := h3
    omega
  | cons x t =>
    rw [List.length_cons] at h3
    cases t with
    | nil =>
      have h3' : I 56 1 + ((0 + 1 : Nat) : Int) = I 56 0 := h3
      rw [if_neg (by omega)]
      exact ⟨h0, h1, h2, h3', h4⟩
    | cons y t =>
      rw [List.length_cons] at h3
      rw [if_pos (by omega)]
      unfold ctk
      rw [up_s, up_i (show (0 : Int) ≠ 1 by decide), up_o (show 57 ≠ 56 by decide), up_o (show 58 ≠ 56 by decide)]
      refine ⟨by omega, by omega, h2, ?_, fun j hj => ?_⟩
      · show I 56 1 + 1 + ((t.length + 1 : Nat) : Int) = I 56 0
        omega
      · have h := h4 (j + 1) (by rw [List.length_cons]; exact Nat.succ_lt_succ hj)
        rw [show I 56 1 + ((j + 1 : Nat) : Int) = I 56 1 + 1 + (j : Int) by omega] at h
        exact h
/-- the book holds the codes C -/
def bok (b : Nat) (I : Iv) (C : List Int) : Prop := seg (I (b + 1)) 0 C ∧ I b 1 = C.length
def wrI (b : Nat) (I : Iv) (a : Int) : Iv := up (up I (b + 1) (I b 1) a) b 1 (I b 1 + 1)
theorem bok_wr {b : Nat} {I : Iv} {C : List Int} (h : bok b I C) (a : Int) : bok b (wrI b I a) (C ++ [a]) := by
  obtain ⟨h1, h2⟩ := h
  unfold bok wrI
  rw [up_o (show b + 1 ≠ b by omega), up_s, h2]
  refine ⟨(seg_app _ _ _).mpr ⟨seg_congr _ _ (fun j g0 g1 => ?_) h1, ?_⟩, ?_⟩
  · rw [up_i (by omega)]
  · rw [show (0 : Int) + (C.length : Int) = C.length by omega]
    exact ⟨up_s _ _ _ _, trivial⟩
  · rw [List.length_append]
    rfl
theorem bok_same {b : Nat} {I J : Iv} {C : List Int} (h : bok b I C) (h1 : J (b + 1) = I (b + 1)) (h2 : J b 1 = I b 1) : bok b J C := by
  unfold bok
  rw [h1, h2]
  exact h
theorem wrI_o {b : Nat} {I : Iv} {a : Int} {o : Nat} (h1 : o ≠ b) (h2 : o ≠ b + 1) : wrI b I a o = I o := by unfold wrI; rw [up_o h1, up_o h2]
theorem wrI_j {b : Nat} {I : Iv} {a : Int} {j : Int} (h : j ≠ 1) : wrI b I a b j = I b j := by unfold wrI; rw [up_i h, up_o (by omega)]
/-- only what reading an E writes has changed -/
def rdOnly (b : Nat) (I I' : Iv) : Prop := (∀ o, o ≠ 55 → o ≠ 56 → o ≠ 59 → o ≠ b → o ≠ b + 1 → I' o = I o) ∧ I' 56 0 = I 56 0 ∧ ∀ j, j ≠ 1 → I' b j = I b j
theorem rdOnly.rf (b : Nat) (I : Iv) : rdOnly b I I := ⟨fun _ _ _ _ _ _ => rfl, rfl, fun _ _ => rfl⟩
theorem rdOnly.tr {b : Nat} {I J K : Iv} (h1 : rdOnly b I J) (h2 : rdOnly b J K) : rdOnly b I K := ⟨fun o x y z w v => (h2.1 o x y z w v).trans (h1.1 o x y z w v), h2.2.1.trans h1.2.1, fun j h => (h2.2.2 j h).trans (h1.2.2 j h)⟩
theorem rdOnly.put {b : Nat} {I J : Iv} (h : rdOnly b I J) (hb : 60 ≤ b) {o : Nat} (ho : o = 55 ∨ o = 59) (i v : Int) : rdOnly b I (up J o i v) := ⟨fun x a _ c d e => by rw [up_o (by omega)]; exact h.1 x a (by omega) c d e, by rw [up_o (by omega)]; exact h.2.1, fun j a => by rw [up_o (by omega)]; exact h.2.2 j a⟩
theorem rdOnly.adv {b : Nat} {I J : Iv} (h : rdOnly b I J) (hb : 60 ≤ b) : rdOnly b I (advI J) := ⟨fun x a c d e f => by rw [advI_o _ c]; exact h.1 x a c d e f, by rw [advI_0]; exact h.2.1, fun j a => by rw [advI_o _ (by omega)]; exact h.2.2 j a⟩
theorem rdOnly.wr {b : Nat} {I J : Iv} (h : rdOnly b I J) (hb : 60 ≤ b) (a : Int) : rdOnly b I (wrI b J a) := ⟨fun x p q r s t => by rw [wrI_o s t]; exact h.1 x p q r s t, by rw [wrI_o (by omega) (by omega)]; exact h.2.1, fun j p => by rw [wrI_j p]; exact h.2.2 j p⟩
theorem strn_eq {a : Int} : (strn a = 1 ↔ a = -5 ∨ a = -6) ∧ (strn a = 2 ↔ a = -7 ∨ a = -8) := by
  unfold strn
  by_cases h1 : a = -5 ∨ a = -6
  · rw [if_pos h1]; omega
  · rw [if_neg h1]
    by_cases h2 : a = -7 ∨ a = -8
    · rw [if_pos h2]; omega
    · rw [if_neg h2]; omega
/-- what writing the waiting ones does -/
def wwQ (b : Nat) (I : Iv) (P W C : List Int) (I' : Iv) : Prop := I' 55 4 = W.length ∧ bok b I' (C ++ P) ∧ (∀ o, o ≠ 55 → o ≠ b → o ≠ b + 1 → I' o = I o) ∧ (∀ j, j ≠ 4 → I' 55 j = I 55 j) ∧ ∀ j, j ≠ 1 → I' b j = I b j
theorem wwQ.rd {b : Nat} {I I' : Iv} {P W C : List Int} (hb : 60 ≤ b) (h : wwQ b I P W C I') : rdOnly b I I' := ⟨fun o a _ _ d e => h.2.2.1 o a d e, by rw [h.2.2.1 56 (by decide) (by omega) (by omega)], h.2.2.2.2⟩
theorem wwQ.tk {b : Nat} {I I' : Iv} {P W C : List Int} {T : TL} (hb : 60 ≤ b) (h : wwQ b I P W C I') (hT : ctk I T) : ctk I' T := ctk_same hT (h.2.2.1 56 (by decide) (by omega) (by omega)) (h.2.2.1 57 (by decide) (by omega) (by omega)) (h.2.2.1 58 (by decide) (by omega) (by omega))
section
variable (G : GE) (n : Nat) (I : Iv) (bk dr : Nat) (pt : Option Nat)
theorem c_tcode (hn : 103 ≤ n) {T : TL} (hT : ctk I T) : Ct G yX9_code cX9_code 1 (some .int) 0 0 0 [.ref (gb G + 56)] n I (rst bk dr pt) (PI (hd T) n I (rst bk dr pt)) := by
  have C := c_X9_code G n I bk dr pt hn hT.1 hT.2.1 hT.2.2.1
  rw [(ctk_hd hT).1] at C
  exact C
theorem c_tplace (hn : 103 ≤ n) {T : TL} (hT : ctk I T) : Ct G yX9_place cX9_place 1 (some .int) 0 0 0 [.ref (gb G + 56)] n I (rst bk dr pt) (PI (pl T) n I (rst bk dr pt)) := by
  have C := c_X9_place G n I bk dr pt hn hT.1 hT.2.1 hT.2.2.1
  rw [(ctk_hd hT).2] at C
  exact C
theorem c_tadv (hn : 103 ≤ n) {T : TL} (hT : ctk I T) : Ct G yX9_advance cX9_advance 1 none 0 0 0 [.ref (gb G + 56)] n I (rst bk dr pt) (PV n (advI I) (rst bk dr pt)) := c_X9_advance G n I bk dr pt hn hT.1 hT.2.1 hT.2.2.1
theorem c_X7_fail (hn : 103 ≤ n) {T : TL} (hT : ctk I T) {a : Int} : Ct G yX7_fail cX7_fail 2 (some .boolean) 1 0 0 [.ref (gb G + 55), .int (jI a)] n I (rst bk dr pt) (PI 0 n (up (up I 55 0 a) 55 1 (pl T)) (rst bk dr pt)) := by
  refine Ct.of [some (.ref (gb G + 55)), some (.int (jI a))] (by decide) rfl rfl rfl ?_
  intro k SR
  have S : Sem G RX7 "fail" cX7_fail 2 (rmD 1 0 0) k := SR.sem
  refine r_aload_n S rfl dX7_fail_0 ?_
  refine r_iload_n S rfl dX7_fail_1 ?_
  refine r_putI S fk_X7_9 dX7_fail_2 rfl rfl (Nat.lt_of_lt_of_le (by decide) hn) (Or.inl rfl) (Or.inl rfl) ?_
  refine r_aload_n S rfl dX7_fail_5 ?_
  refine r_aload_n S rfl dX7_fail_6 ?_
  refine r_getR S (o' := 56) fk_X7_21 dX7_fail_7 rfl rfl (Nat.lt_of_lt_of_le (by decide) hn) rfl ?_
  refine r_callV S lk_X7_58 mk_X9_place (c_tplace G n (up I 55 0 a) bk dr pt hn (ctk_same hT (up_o (by decide)) (up_o (by decide)) (up_o (by decide)))) rfl (Nat.lt_of_lt_of_le (by decide) hn) rfl rfl rfl (Nat.le_of_ble_eq_true rfl) ⟨by decide, by decide⟩ rfl ⟨by decide, by decide⟩ dX7_fail_10 ?_
  rintro _ _ _ _ ⟨rfl, rfl, rfl, rfl⟩
  refine r_putI S fk_X7_15 dX7_fail_13 rfl rfl (Nat.lt_of_lt_of_le (by decide) hn) (Or.inl rfl) (Or.inl rfl) ?_
  refine r_iconst S dX7_fail_16 ?_
  refine r_zret SR dX7_fail_17 (by decide) ⟨by decide, by decide⟩ ?_
  exact ⟨rfl, rfl, rfl, rfl⟩
theorem c_X7_putToWait (hn : 103 ≤ n) {a : Int} (h0 : 0 ≤ I 55 4) (h1 : I 55 4 < 26) : Ct G yX7_putToWait cX7_putToWait 2 none 0 0 0 [.ref (gb G + 55), .int (jI a)] n I (rst bk dr pt) (PV n (up (up I 59 (I 55 4) a) 55 4 (I 55 4 + 1)) (rst bk dr pt)) := by
  refine Ct.of [some (.ref (gb G + 55)), some (.int (jI a))] (by decide) rfl rfl rfl ?_
  intro k SR
  have S : Sem G RX7 "putToWait" cX7_putToWait 2 (rmD 0 0 0) k := SR.sem
  refine r_aload_n S rfl dX7_putToWait_0 ?_
  refine r_getI S (v := I 55 4) fk_X7_28 dX7_putToWait_1 rfl rfl (Nat.lt_of_lt_of_le (by decide) hn) rfl ?_
  refine r_bipush S (by decide +kernel) dX7_putToWait_4 ?_
  refine r_icmp_ge S (tgt := 29) dX7_putToWait_6 (by decide) (by omega) (by omega) (fun c6 => ?_) (fun c6 => ?_)
  · exact absurd c6 (by omega)
  · refine r_aload_n S rfl dX7_putToWait_9 ?_
    refine r_getR S (o' := 59) fk_X7_31 dX7_putToWait_10 rfl rfl (Nat.lt_of_lt_of_le (by decide) hn) rfl ?_
    refine r_aload_n S rfl dX7_putToWait_13 ?_
    refine r_getI S (v := I 55 4) fk_X7_28 dX7_putToWait_14 rfl rfl (Nat.lt_of_lt_of_le (by decide) hn) rfl ?_
    refine r_iload_n S rfl dX7_putToWait_17 ?_
    refine r_iast S dX7_putToWait_18 rfl rfl (Nat.lt_of_lt_of_le (by decide) hn) (by omega) (by omega) ?_
    refine r_aload_n S rfl dX7_putToWait_19 ?_
    refine r_dup S rfl dX7_putToWait_20 ?_
    refine r_getI S (v := I 55 4) fk_X7_28 dX7_putToWait_21 rfl rfl (Nat.lt_of_lt_of_le (by decide) hn) rfl ?_
    refine r_iconst S dX7_putToWait_24 ?_
    refine r_iadd S dX7_putToWait_25 ?_
    refine r_putI S fk_X7_28 dX7_putToWait_26 rfl rfl (Nat.lt_of_lt_of_le (by decide) hn) (Or.inl rfl) (Or.inl rfl) ?_
    refine r_vret SR dX7_putToWait_29 ⟨by decide, by decide⟩ ?_
    exact ⟨rfl, rfl, rfl, rfl⟩
theorem c_wW (hB : BkOk n (rst bk dr pt) dr) {s : Int} (hs : rg s) (P W C : List Int) (hW : holdS (I 59) (P ++ W)) (h4 : I 55 4 = (P ++ W).length) (h26 : (P ++ W).length ≤ 26) (hr : ∀ x ∈ P ++ W, rg x) (hP : ∀ x ∈ P, s ≤ strn x) (hQ : ∀ x t, W = x :: t → strn x < s) (hC : bok dr I C) (hl : C.length + P.length ≤ 400) : Ct G yX7_writeWaiting cX7_writeWaiting 3 none 1 0 0 [.ref (gb G + 55), .int (jI s), .ref (gb G + dr)] n I (rst bk dr pt) (fun v n' I' ρ' => v = none ∧ n = n' ∧ rst bk dr pt = ρ' ∧ wwQ dr I P W C I') := by
  have hn := hB.2.2.2.2.2.2.2.2.2.2.2.2.2
  have hb := hB.2.2.2.2.2.2.2.2.2.2.2.1
  have hb' := hB.2.2.2.2.2.2.2.2.2.2.2.2.1
  have k0 := hB.1
  refine Ct.of [some (.ref (gb G + 55)), some (.int (jI s)), some (.ref (gb G + dr))] (by decide) rfl rfl rfl ?_
  intro k SR
  have S : Sem G RX7 "writeWaiting" cX7_writeWaiting 3 (rmD 1 0 0) k := SR.sem
  have loop : ∀ (Q D : List Int) (J : Iv), D ++ Q = C ++ P → (∀ x ∈ Q, s ≤ strn x) → (∀ x ∈ Q ++ W, rg x) → holdS (I 59) (Q ++ W) → J 55 4 = (Q ++ W).length → (Q ++ W).length ≤ 26 → bok dr J D → D.length + Q.length ≤ 400 → (∀ o, o ≠ 55 → o ≠ dr → o ≠ dr + 1 → J o = I o) → (∀ j, j ≠ 4 → J 55 j = I 55 j) → (∀ j, j ≠ 1 → J dr j = I dr j) → k 0 [some (.ref (gb G + 55)), some (.int (jI s)), some (.ref (gb G + dr))] [] n J (rst bk dr pt) 0 0 := by
    intro Q
    induction Q with
    | nil =>
      intro D J e1 e2 e3 e4 e5 e6 e7 e8 e9 e10 e11
      have e1' : D = C ++ P := by rw [← e1, List.append_nil]
      rw [List.nil_append] at e3 e4 e5 e6
      cases W with
      | nil =>
        have e5' : J 55 4 = 0 := e5
        refine r_aload_n S rfl dX7_writeWaiting_0 ?_
        refine r_getI S (v := J 55 4) fk_X7_28 dX7_writeWaiting_1 rfl rfl (Nat.lt_of_lt_of_le (by decide) hn) rfl ?_
        refine r_if_le S (tgt := 51) dX7_writeWaiting_4 (by decide) (by omega) (fun c4 => ?_) (fun c4 => ?_)
        · refine r_vret SR dX7_writeWaiting_51 ⟨by decide, by decide⟩ ?_
          exact ⟨rfl, rfl, rfl, e5, by rw [← e1']; exact e7, e9, e10, e11⟩
        · exact absurd c4 (by omega)
      | cons x t =>
        rw [List.length_cons] at e5 e6
        have e5' : J 55 4 - 1 = t.length := by omega
        have e59 : J 59 = I 59 := e9 59 (by decide) (by omega) (by omega)
        have ex : J 59 (J 55 4 - 1) = x := by rw [e59, e5']; exact e4.1
        have hx := hQ x t rfl
        have rx : rg x := e3 x (List.mem_cons_self ..)
        have sx := strn_range x
        refine r_aload_n S rfl dX7_writeWaiting_0 ?_
        refine r_getI S (v := J 55 4) fk_X7_28 dX7_writeWaiting_1 rfl rfl (Nat.lt_of_lt_of_le (by decide) hn) rfl ?_
        refine r_if_le S (tgt := 51) dX7_writeWaiting_4 (by decide) (by omega) (fun c4 => ?_) (fun c4 => ?_)
        · exact absurd c4 (by omega)
        · refine r_aload_n S rfl dX7_writeWaiting_7 ?_
          refine r_getR S (o' := 59) fk_X7_31 dX7_writeWaiting_8 rfl rfl (Nat.lt_of_lt_of_le (by decide) hn) rfl ?_
          refine r_aload_n S rfl dX7_writeWaiting_11 ?_
          refine r_getI S (v := J 55 4) fk_X7_28 dX7_writeWaiting_12 rfl rfl (Nat.lt_of_lt_of_le (by decide) hn) rfl ?_
          refine r_iconst S dX7_writeWaiting_15 ?_
          refine r_isub S dX7_writeWaiting_16 ?_
          refine r_iald S (v := J 59 ((J 55 4) - 1)) dX7_writeWaiting_17 rfl rfl (Nat.lt_of_lt_of_le (by decide) hn) (by omega) (by omega) rfl ?_
          rw [ex]
          refine r_callS S lk_X7_99 mk_X1_strength (c_X1_strength G n J (rst bk dr pt) rx) rfl rfl (Nat.le_of_ble_eq_true rfl) ⟨by decide, by decide⟩ rfl ⟨by decide, by decide⟩ dX7_writeWaiting_18 ?_
          rintro _ _ _ _ ⟨rfl, rfl, rfl, rfl⟩
          refine r_iload_n S rfl dX7_writeWaiting_21 ?_
          refine r_icmp_lt S (tgt := 51) dX7_writeWaiting_22 (by decide) (by omega) hs (fun c22 => ?_) (fun c22 => ?_)
          · refine r_vret SR dX7_writeWaiting_51 ⟨by decide, by decide⟩ ?_
            exact ⟨rfl, rfl, rfl, by rw [e5]; rfl, by rw [← e1']; exact e7, e9, e10, e11⟩
          · exact absurd c22 (by omega)
    | cons x Q ih =>
      intro D J e1 e2 e3 e4 e5 e6 e7 e8 e9 e10 e11
      have e5a : J 55 4 = ((Q ++ W).length + 1 : Nat) := e5
      have e6a : (Q ++ W).length + 1 ≤ 26 := e6
      have e8a : D.length + (Q.length + 1) ≤ 400 := e8
      have e5' : J 55 4 - 1 = (Q ++ W).length := by omega
      have e59 : J 59 = I 59 := e9 59 (by decide) (by omega) (by omega)
      have ex : J 59 (J 55 4 - 1) = x := by rw [e59, e5']; exact e4.1
      have hx := e2 x (List.mem_cons_self ..)
      have rx : rg x := e3 x (List.mem_cons_self ..)
      have sx := strn_range x
      have e71 := e7.2
      obtain ⟨J1, eJ1⟩ : ∃ J1, J1 = up J 55 4 (J 55 4 - 1) := ⟨_, rfl⟩
      have b1 : bok dr J1 D := by rw [eJ1]; exact bok_same e7 (up_o (by omega)) (by rw [up_o (by omega)])
      have d1 : J1 dr 1 = D.length := b1.2
      have f1 : J1 55 4 = (Q ++ W).length := by rw [eJ1, up_s]; exact e5'
      have g1 : J1 59 (J1 55 4) = x := by rw [f1, ← e5', eJ1, up_o (by decide)]; exact ex
      refine r_aload_n S rfl dX7_writeWaiting_0 ?_
      refine r_getI S (v := J 55 4) fk_X7_28 dX7_writeWaiting_1 rfl rfl (Nat.lt_of_lt_of_le (by decide) hn) rfl ?_
      refine r_if_le S (tgt := 51) dX7_writeWaiting_4 (by decide) (by omega) (fun c4 => ?_) (fun c4 => ?_)
      · exact absurd c4 (by omega)
      · refine r_aload_n S rfl dX7_writeWaiting_7 ?_
        refine r_getR S (o' := 59) fk_X7_31 dX7_writeWaiting_8 rfl rfl (Nat.lt_of_lt_of_le (by decide) hn) rfl ?_
        refine r_aload_n S rfl dX7_writeWaiting_11 ?_
        refine r_getI S (v := J 55 4) fk_X7_28 dX7_writeWaiting_12 rfl rfl (Nat.lt_of_lt_of_le (by decide) hn) rfl ?_
        refine r_iconst S dX7_writeWaiting_15 ?_
        refine r_isub S dX7_writeWaiting_16 ?_
        refine r_iald S (v := J 59 ((J 55 4) - 1)) dX7_writeWaiting_17 rfl rfl (Nat.lt_of_lt_of_le (by decide) hn) (by omega) (by omega) rfl ?_
        rw [ex]
        refine r_callS S lk_X7_99 mk_X1_strength (c_X1_strength G n J (rst bk dr pt) rx) rfl rfl (Nat.le_of_ble_eq_true rfl) ⟨by decide, by decide⟩ rfl ⟨by decide, by decide⟩ dX7_writeWaiting_18 ?_
        rintro _ _ _ _ ⟨rfl, rfl, rfl, rfl⟩
        refine r_iload_n S rfl dX7_writeWaiting_21 ?_
        refine r_icmp_lt S (tgt := 51) dX7_writeWaiting_22 (by decide) (by omega) hs (fun c22 => ?_) (fun c22 => ?_)
        · exact absurd c22 (by omega)
        · refine r_aload_n S rfl dX7_writeWaiting_25 ?_
          refine r_dup S rfl dX7_writeWaiting_26 ?_
          refine r_getI S (v := J 55 4) fk_X7_28 dX7_writeWaiting_27 rfl rfl (Nat.lt_of_lt_of_le (by decide) hn) rfl ?_
          refine r_iconst S dX7_writeWaiting_30 ?_
          refine r_isub S dX7_writeWaiting_31 ?_
          refine r_putI S fk_X7_28 dX7_writeWaiting_32 rfl rfl (Nat.lt_of_lt_of_le (by decide) hn) (Or.inl rfl) (Or.inl rfl) ?_
          rw [← eJ1]
          refine r_aload_n S rfl dX7_writeWaiting_35 ?_
          refine r_aload_n S rfl dX7_writeWaiting_36 ?_
          refine r_getR S (o' := 59) fk_X7_31 dX7_writeWaiting_37 rfl rfl (Nat.lt_of_lt_of_le (by decide) hn) rfl ?_
          refine r_aload_n S rfl dX7_writeWaiting_40 ?_
          refine r_getI S (v := J1 55 4) fk_X7_28 dX7_writeWaiting_41 rfl rfl (Nat.lt_of_lt_of_le (by decide) hn) rfl ?_
          refine r_iald S (v := J1 59 (J1 55 4)) dX7_writeWaiting_44 rfl rfl (Nat.lt_of_lt_of_le (by decide) hn) (by omega) (by omega) rfl ?_
          rw [g1]
          refine r_callV S lk_X7_89 mk_X6_write (c_X6_write G n J1 (rst bk dr pt) dr hB (a := x) (by omega) (by omega)) k0 (by omega) rfl rfl rfl (Nat.le_of_ble_eq_true rfl) ⟨by decide, by decide⟩ rfl ⟨by decide, by decide⟩ dX7_writeWaiting_45 ?_
          rintro _ _ _ _ ⟨rfl, rfl, rfl, rfl⟩
          refine r_goto S (tgt := 0) dX7_writeWaiting_48 (by decide) ?_
          refine ih (D ++ [x]) _ (by rw [List.append_assoc]; exact e1) (fun y hy => e2 y (List.mem_cons_of_mem _ hy)) (fun y hy => e3 y (List.mem_cons_of_mem _ hy)) e4.2 ?_ (by omega) (bok_wr b1 x) (by rw [List.length_append]; show D.length + 1 + Q.length ≤ 400; omega) ?_ ?_ ?_
          · show wrI dr J1 x 55 4 = _
            rw [wrI_o (by omega) (by omega)]
            exact f1
          · intro o a b c
            show wrI dr J1 x o = _
            rw [wrI_o b c, eJ1, up_o a]
            exact e9 o a b c
          · intro j a
            show wrI dr J1 x 55 j = _
            rw [wrI_o (by omega) (by omega), eJ1, up_i a]
            exact e10 j a
          · intro j a
            show wrI dr J1 x dr j = _
            rw [wrI_j a, eJ1, up_o (by omega)]
            exact e11 j a
  exact loop P C I rfl hP hr hW h4 h26 hC hl (fun _ _ _ _ => rfl) (fun _ _ => rfl) (fun _ _ => rfl)
end
