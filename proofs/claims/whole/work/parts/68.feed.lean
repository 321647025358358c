/-! ===== bytes of a number, the tape ===== -/
def byt (a s : Int) : Int := (jI a >>> (jI s &&& 31) &&& jI 255).toInt
theorem byt_j (a s : Int) : jI (jI a >>> (jI s &&& 31)).toInt &&& jI 255 = jI (byt a s) := by unfold byt; rw [jI_of, jI_of]
theorem bv255 (i : Nat) : (255#32).getLsbD i = decide (i < 8) := by
  by_cases h : i < 32
  · have : ∀ i : Fin 32, (255#32).getLsbD i.val = decide (i.val < 8) := by decide
    exact this ⟨i, h⟩
  · rw [BitVec.getLsbD_of_ge _ _ (by omega), decide_eq_false (by omega)]
theorem byt_rg (a s : Int) : 0 ≤ byt a s ∧ byt a s ≤ 255 := by
  unfold byt
  generalize jI a >>> (jI s &&& 31) = y
  have e : (y &&& jI 255).toBitVec = y.toBitVec &&& 255#32 := by rw [Int32.toBitVec_and]; rfl
  have h1 : (y.toBitVec &&& 255#32).toNat ≤ 255 := by
    rw [BitVec.toNat_and]
    exact Nat.and_le_right
  have h2 : (y &&& jI 255).toInt = ((y.toBitVec &&& 255#32).toNat : Int) := by
    show (y &&& jI 255).toBitVec.toInt = _
    rw [e]
    exact BitVec.toInt_eq_toNat_of_lt (by omega)
  rw [h2]
  omega
theorem bv_low {X : BitVec 32} {k : Nat} (hk : k ≤ 24) : (X >>> k) &&& 255#32 = X.sshiftRight k &&& 255#32 := by
  apply BitVec.eq_of_getLsbD_eq
  intro i hi
  rw [BitVec.getLsbD_and, BitVec.getLsbD_and, bv255, BitVec.getLsbD_ushiftRight, BitVec.getLsbD_sshiftRight]
  by_cases h : i < 8
  · have h32 : ¬ 32 ≤ i := by omega
    have h33 : k + i < 32 := by omega
    simp [h32, h33]
  · rw [decide_eq_false h, Bool.and_false, Bool.and_false]
theorem byt_u (a : Int) {s : Int} (hs : s = 24 ∨ s = 16 ∨ s = 8 ∨ s = 0) : ((jI a).toUInt32 >>> ((jI s).toUInt32 &&& Int32.toUInt32 31)).toInt32 &&& jI 255 = jI (byt a s) := by
  unfold byt
  rw [jI_of]
  generalize jI a = x
  apply bv_inj
  rcases hs with rfl | rfl | rfl | rfl
  · exact bv_low (X := x.toBitVec) (k := 24) (by decide)
  · exact bv_low (X := x.toBitVec) (k := 16) (by decide)
  · exact bv_low (X := x.toBitVec) (k := 8) (by decide)
  · exact bv_low (X := x.toBitVec) (k := 0) (by decide)
def ud (f : Int → Int) (i v : Int) : Int → Int := fun j => if j = i then v else f j
theorem up_ud (I : Iv) (o : Nat) (i v : Int) : up I o i v o = ud (I o) i v := up_fn I o i v
def ap4 (f : Int → Int) (L a : Int) : Int → Int := ud (ud (ud (ud f L (byt a 24)) (L + 1) (byt a 16)) (L + 2) (byt a 8)) (L + 3) (byt a 0)
def fdF (L : Int) (pk : Nat → Int) (f : Int → Int) : Nat → Int → Int
  | 0 => f
  | k + 1 => ud (fdF L pk f k) (L + k) (byt (pk k) (24 - 8 * ((k % 4 : Nat) : Int)))
theorem fdF_4 {L : Int} {pk : Nat → Int} {f : Int → Int} {k : Nat} {a : Int} (hk : k % 4 = 0) (h0 : pk k = a) (h1 : pk (k + 1) = a) (h2 : pk (k + 2) = a) (h3 : pk (k + 3) = a) : fdF L pk f (k + 4) = ap4 (fdF L pk f k) (L + k) a := by
  show ud (ud (ud (ud (fdF L pk f k) (L + k) (byt (pk k) (24 - 8 * ((k % 4 : Nat) : Int)))) (L + ((k + 1 : Nat) : Int)) (byt (pk (k + 1)) (24 - 8 * (((k + 1) % 4 : Nat) : Int)))) (L + ((k + 2 : Nat) : Int)) (byt (pk (k + 2)) (24 - 8 * (((k + 2) % 4 : Nat) : Int)))) (L + ((k + 3 : Nat) : Int)) (byt (pk (k + 3)) (24 - 8 * (((k + 3) % 4 : Nat) : Int))) = _
  rw [h0, h1, h2, h3, hk, show (k + 1) % 4 = 1 by omega, show (k + 2) % 4 = 2 by omega, show (k + 3) % 4 = 3 by omega, show L + ((k + 1 : Nat) : Int) = L + k + 1 by omega, show L + ((k + 2 : Nat) : Int) = L + k + 2 by omega, show L + ((k + 3 : Nat) : Int) = L + k + 3 by omega]
  rfl
def pk5 (a b c d e : Int) (k : Nat) : Int := if k < 4 then a else if k < 8 then b else if k < 12 then c else if k < 16 then d else e
theorem fdF_20 (L a b c d e : Int) (f : Int → Int) : fdF L (pk5 a b c d e) f 20 = ap4 (ap4 (ap4 (ap4 (ap4 f L a) (L + 4) b) (L + 8) c) (L + 12) d) (L + 16) e := by
  rw [show (20 : Nat) = 16 + 4 from rfl, fdF_4 (k := 16) (a := e) rfl rfl rfl rfl rfl, show (16 : Nat) = 12 + 4 from rfl, fdF_4 (k := 12) (a := d) rfl rfl rfl rfl rfl, show (12 : Nat) = 8 + 4 from rfl, fdF_4 (k := 8) (a := c) rfl rfl rfl rfl rfl, show (8 : Nat) = 4 + 4 from rfl, fdF_4 (k := 4) (a := b) rfl rfl rfl rfl rfl, show (4 : Nat) = 0 + 4 from rfl, fdF_4 (k := 0) (a := a) rfl rfl rfl rfl rfl]
  show ap4 (ap4 (ap4 (ap4 (ap4 f (L + ((0 : Nat) : Int)) a) _ b) _ c) _ d) _ e = _
  rw [show L + ((0 : Nat) : Int) = L by omega]
  rfl
theorem ud_rg {f : Int → Int} (hf : ∀ j, 0 ≤ f j ∧ f j ≤ 255) (i a s : Int) : ∀ j, 0 ≤ ud f i (byt a s) j ∧ ud f i (byt a s) j ≤ 255 := by
  intro j
  unfold ud
  split
  · exact byt_rg a s
  · exact hf j
theorem ap4_rg {f : Int → Int} (hf : ∀ j, 0 ≤ f j ∧ f j ≤ 255) (L a : Int) : ∀ j, 0 ≤ ap4 f L a j ∧ ap4 f L a j ≤ 255 := ud_rg (ud_rg (ud_rg (ud_rg hf _ _ _) _ _ _) _ _ _) _ _ _
theorem rem4_all : ∀ k : Fin 20, jI (k.val : Int) - jI (k.val : Int) / jI 4 * jI 4 = jI ((k.val % 4 : Nat) : Int) := by decide +kernel
section
variable (G : GE) (n : Nat) (I : Iv) (bk dr : Nat) (pt : Option Nat)
theorem c_X8_append (hn : 103 ≤ n) {a : Int} (h0 : 0 ≤ I 53 0) (h1 : I 53 0 ≤ 396) : Ct G yX8_append cX8_append 3 none 0 0 0 [.ref (gb G + 53), .int (jI a)] n I (rst bk dr pt) (fun v n' I' ρ' => v = none ∧ n = n' ∧ rst bk dr pt = ρ' ∧ (∀ o, o ≠ 53 → o ≠ 54 → I' o = I o) ∧ I' 53 0 = I 53 0 + 4 ∧ I' 54 = ap4 (I 54) (I 53 0) a) := by
  refine Ct.of [some (.ref (gb G + 53)), some (.int (jI a)), none] (by decide) rfl rfl rfl ?_
  intro k SR
  have S : Sem G RX8 "append" cX8_append 3 (rmD 0 0 0) k := SR.sem
  have it : ∀ (s : Int) (K : Iv) (L : Int), (s = 24 ∨ s = 16 ∨ s = 8 ∨ s = 0) → K 53 0 = L → 0 ≤ L → L < 400 → k 16 [some (.ref (gb G + 53)), some (.int (jI a)), some (.int (jI (s + (-8))))] [] n (up (up K 54 L (byt a s)) 53 0 (L + 1)) (rst bk dr pt) 0 0 → k 16 [some (.ref (gb G + 53)), some (.int (jI a)), some (.int (jI s))] [] n K (rst bk dr pt) 0 0 := by
    intro s K L hs hL L0 L1 hk
    refine r_iload_n S rfl dX8_append_16 ?_
    refine r_if_lt S (tgt := 52) dX8_append_17 (by decide) (by omega) (fun c17 => ?_) (fun c17 => ?_)
    · exact absurd c17 (by omega)
    · refine r_aload_n S rfl dX8_append_20 ?_
      refine r_getR S (o' := 54) fk_X8_15 dX8_append_21 rfl rfl (Nat.lt_of_lt_of_le (by decide) hn) rfl ?_
      refine r_aload_n S rfl dX8_append_24 ?_
      refine r_getI S (v := K 53 0) fk_X8_9 dX8_append_25 rfl rfl (Nat.lt_of_lt_of_le (by decide) hn) rfl ?_
      rw [hL]
      refine r_iload_n S rfl dX8_append_28 ?_
      refine r_iload_n S rfl dX8_append_29 ?_
      refine r_iushr S (v := (((jI a).toUInt32 >>> ((jI s).toUInt32 &&& Int32.toUInt32 31)).toInt32).toInt) (jI_of _).symm dX8_append_30 ?_
      refine r_sipush S (by decide +kernel) dX8_append_31 ?_
      refine r_iand S (v := byt a s) (by rw [jI_of]; exact byt_u a hs) dX8_append_34 ?_
      refine r_iast S dX8_append_35 rfl rfl (Nat.lt_of_lt_of_le (by decide) hn) (by omega) (by omega) ?_
      refine r_aload_n S rfl dX8_append_36 ?_
      refine r_dup S rfl dX8_append_37 ?_
      refine r_getI S (v := K 53 0) fk_X8_9 dX8_append_38 rfl rfl (Nat.lt_of_lt_of_le (by decide) hn) rfl ?_
      rw [hL]
      refine r_iconst S dX8_append_41 ?_
      refine r_iadd S dX8_append_42 ?_
      refine r_putI S fk_X8_9 dX8_append_43 rfl rfl (Nat.lt_of_lt_of_le (by decide) hn) (Or.inl rfl) (Or.inl rfl) ?_
      refine r_iinc S dX8_append_46 rfl rfl rfl ?_
      refine r_goto S (tgt := 16) dX8_append_49 (by decide) ?_
      exact hk
  obtain ⟨L, eL⟩ : ∃ L, I 53 0 = L := ⟨_, rfl⟩
  rw [eL] at h0 h1 SR
  refine r_aload_n S rfl dX8_append_0 ?_
  refine r_getI S (v := I 53 0) fk_X8_9 dX8_append_1 rfl rfl (Nat.lt_of_lt_of_le (by decide) hn) rfl ?_
  rw [eL]
  refine r_iconst S dX8_append_4 ?_
  refine r_iadd S dX8_append_5 ?_
  refine r_sipush S (by decide +kernel) dX8_append_6 ?_
  refine r_icmp_le S (tgt := 13) dX8_append_9 (by decide) (by omega) (by omega) (fun c9 => ?_) (fun c9 => ?_)
  · refine r_bipush S (by decide +kernel) dX8_append_13 ?_
    refine r_istore_n S dX8_append_15 rfl rfl ?_
    refine it 24 I L (Or.inl rfl) eL h0 (by omega) ?_
    refine it (24 + (-8)) _ (L + 1) (Or.inr (Or.inl rfl)) (up_s _ _ _ _) (by omega) (by omega) ?_
    refine it (24 + (-8) + (-8)) _ (L + 1 + 1) (Or.inr (Or.inr (Or.inl rfl))) (up_s _ _ _ _) (by omega) (by omega) ?_
    refine it (24 + (-8) + (-8) + (-8)) _ (L + 1 + 1 + 1) (Or.inr (Or.inr (Or.inr rfl))) (up_s _ _ _ _) (by omega) (by omega) ?_
    refine r_iload_n S rfl dX8_append_16 ?_
    refine r_if_lt S (tgt := 52) dX8_append_17 (by decide) (by decide) (fun c17 => ?_) (fun c17 => absurd c17 (by decide))
    refine r_vret SR dX8_append_52 ⟨by decide, by decide⟩ ?_
    refine ⟨rfl, rfl, rfl, fun o x y => by rw [up_o x, up_o y, up_o x, up_o y, up_o x, up_o y, up_o x, up_o y], ?_, ?_⟩
    · rw [up_s]; omega
    · rw [up_o (by decide), up_ud, up_o (by decide), up_ud, up_o (by decide), up_ud, up_o (by decide), up_ud, show L + 1 + 1 + 1 = L + 3 by omega, show L + 1 + 1 = L + 2 by omega]
      rfl
  · exact absurd c9 (by omega)
theorem c_X11_feed (hn : 103 ≤ n) {a b c d e : Int} (h0 : 0 ≤ I 53 0) (h1 : I 53 0 ≤ 400) : Ct G yX11_feed cX11_feed 6 (some .int) 1 0 0 [.ref (gb G + 0), .int (jI a), .int (jI b), .int (jI c), .int (jI d), .int (jI e)] n I (rst bk dr pt) (fun v n' I' ρ' => n = n' ∧ rst bk dr pt = ρ' ∧ ((380 < I 53 0 ∧ v = some (.int (jI (-1))) ∧ I = I') ∨ (I 53 0 ≤ 380 ∧ v = some (.int (jI (I 53 0 + 20))) ∧ (∀ o, o ≠ 53 → o ≠ 54 → I' o = I o) ∧ I' 53 0 = I 53 0 + 20 ∧ I' 54 = fdF (I 53 0) (pk5 a b c d e) (I 54) 20))) := by
  refine Ct.of [some (.ref (gb G + 0)), some (.int (jI a)), some (.int (jI b)), some (.int (jI c)), some (.int (jI d)), some (.int (jI e))] (by decide) rfl rfl rfl ?_
  intro k SR
  have S : Sem G RX11 "feed" cX11_feed 6 (rmD 1 0 0) k := SR.sem
  obtain ⟨L, eL⟩ : ∃ L, I 53 0 = L := ⟨_, rfl⟩
  rw [eL] at h0 h1 SR
  refine r_aload_n S rfl dX11_feed_0 ?_
  refine r_getR S (o' := 53) fk_X11_51 dX11_feed_1 rfl rfl (Nat.lt_of_lt_of_le (by decide) hn) rfl ?_
  refine r_getI S (v := I 53 0) fk_X11_123 dX11_feed_4 rfl rfl (Nat.lt_of_lt_of_le (by decide) hn) rfl ?_
  rw [eL]
  refine r_bipush S (by decide +kernel) dX11_feed_7 ?_
  refine r_iadd S dX11_feed_9 ?_
  refine r_sipush S (by decide +kernel) dX11_feed_10 ?_
  refine r_icmp_le S (tgt := 18) dX11_feed_13 (by decide) (by omega) (by omega) (fun c13 => ?_) (fun c13 => ?_)
  · refine r_aload_n S rfl dX11_feed_18 ?_
    refine r_getR S (o' := 53) fk_X11_51 dX11_feed_19 rfl rfl (Nat.lt_of_lt_of_le (by decide) hn) rfl ?_
    refine r_iload_n S rfl dX11_feed_22 ?_
    refine r_callV S lk_X11_126 mk_X8_append (c_X8_append G n I bk dr pt hn (a := a) (by omega) (by omega)) rfl (Nat.lt_of_lt_of_le (by decide) hn) rfl rfl rfl (Nat.le_of_ble_eq_true rfl) ⟨by decide, by decide⟩ rfl ⟨by decide, by decide⟩ dX11_feed_23 ?_
    rintro _ _ J1 _ ⟨rfl, rfl, rfl, a1, a2, a3⟩
    rw [eL] at a2 a3
    refine r_aload_n S rfl dX11_feed_26 ?_
    refine r_getR S (o' := 53) fk_X11_51 dX11_feed_27 rfl rfl (Nat.lt_of_lt_of_le (by decide) hn) rfl ?_
    refine r_iload_n S rfl dX11_feed_30 ?_
    refine r_callV S lk_X11_126 mk_X8_append (c_X8_append G n J1 bk dr pt hn (a := b) (by omega) (by omega)) rfl (Nat.lt_of_lt_of_le (by decide) hn) rfl rfl rfl (Nat.le_of_ble_eq_true rfl) ⟨by decide, by decide⟩ rfl ⟨by decide, by decide⟩ dX11_feed_31 ?_
    rintro _ _ J2 _ ⟨rfl, rfl, rfl, b1, b2', b3⟩
    rw [a2] at b2' b3
    refine r_aload_n S rfl dX11_feed_34 ?_
    refine r_getR S (o' := 53) fk_X11_51 dX11_feed_35 rfl rfl (Nat.lt_of_lt_of_le (by decide) hn) rfl ?_
    refine r_iload_n S rfl dX11_feed_38 ?_
    refine r_callV S lk_X11_126 mk_X8_append (c_X8_append G n J2 bk dr pt hn (a := c) (by omega) (by omega)) rfl (Nat.lt_of_lt_of_le (by decide) hn) rfl rfl rfl (Nat.le_of_ble_eq_true rfl) ⟨by decide, by decide⟩ rfl ⟨by decide, by decide⟩ dX11_feed_39 ?_
    rintro _ _ J3 _ ⟨rfl, rfl, rfl, d1, d2, d3⟩
    rw [b2'] at d2 d3
    refine r_aload_n S rfl dX11_feed_42 ?_
    refine r_getR S (o' := 53) fk_X11_51 dX11_feed_43 rfl rfl (Nat.lt_of_lt_of_le (by decide) hn) rfl ?_
    refine r_iload S rfl dX11_feed_46 ?_
    refine r_callV S lk_X11_126 mk_X8_append (c_X8_append G n J3 bk dr pt hn (a := d) (by omega) (by omega)) rfl (Nat.lt_of_lt_of_le (by decide) hn) rfl rfl rfl (Nat.le_of_ble_eq_true rfl) ⟨by decide, by decide⟩ rfl ⟨by decide, by decide⟩ dX11_feed_48 ?_
    rintro _ _ J4 _ ⟨rfl, rfl, rfl, e1, e2, e3⟩
    rw [d2] at e2 e3
    refine r_aload_n S rfl dX11_feed_51 ?_
    refine r_getR S (o' := 53) fk_X11_51 dX11_feed_52 rfl rfl (Nat.lt_of_lt_of_le (by decide) hn) rfl ?_
    refine r_iload S rfl dX11_feed_55 ?_
    refine r_callV S lk_X11_126 mk_X8_append (c_X8_append G n J4 bk dr pt hn (a := e) (by omega) (by omega)) rfl (Nat.lt_of_lt_of_le (by decide) hn) rfl rfl rfl (Nat.le_of_ble_eq_true rfl) ⟨by decide, by decide⟩ rfl ⟨by decide, by decide⟩ dX11_feed_57 ?_
    rintro _ _ J5 _ ⟨rfl, rfl, rfl, f1, f2, f3⟩
    rw [e2] at f2 f3
    have g2 : J5 53 0 = L + 20 := by omega
    refine r_aload_n S rfl dX11_feed_60 ?_
    refine r_getR S (o' := 53) fk_X11_51 dX11_feed_61 rfl rfl (Nat.lt_of_lt_of_le (by decide) hn) rfl ?_
    refine r_getI S (v := J5 53 0) fk_X11_123 dX11_feed_64 rfl rfl (Nat.lt_of_lt_of_le (by decide) hn) rfl ?_
    rw [g2]
    refine r_iret SR dX11_feed_67 ⟨by decide, by decide⟩ ?_
    refine ⟨rfl, rfl, Or.inr ⟨by omega, rfl, fun o x y => by rw [f1 o x y, e1 o x y, d1 o x y, b1 o x y, a1 o x y], g2, ?_⟩⟩
    rw [f3, e3, d3, b3, a3, fdF_20, show L + 4 + 4 + 4 + 4 = L + 16 by omega, show L + 4 + 4 + 4 = L + 12 by omega, show L + 4 + 4 = L + 8 by omega]
  · refine r_iconst S dX11_feed_16 ?_
    refine r_iret SR dX11_feed_17 ⟨by decide, by decide⟩ ?_
    exact ⟨rfl, rfl, Or.inl ⟨by omega, rfl, rfl⟩⟩
theorem c_X12_feed (hn : 103 ≤ n) {a b c d e : Int} (h0 : 0 ≤ I 72 28) (h1 : I 72 28 ≤ 400) : Ct G yX12_feed cX12_feed 8 (some .int) 0 0 0 [.ref (gb G + 72), .int (jI a), .int (jI b), .int (jI c), .int (jI d), .int (jI e)] n I (rst bk dr pt) (fun v n' I' ρ' => n = n' ∧ rst bk dr pt = ρ' ∧ ((380 < I 72 28 ∧ v = some (.int (jI (-1))) ∧ I = I') ∨ (I 72 28 ≤ 380 ∧ v = some (.int (jI (I 72 28 + 20))) ∧ (∀ o, o ≠ 72 → o ≠ 93 → I' o = I o) ∧ (∀ j, j ≠ 28 → I' 72 j = I 72 j) ∧ I' 72 28 = I 72 28 + 20 ∧ I' 93 = fdF (I 72 28) (pk5 a b c d e) (I 93) 20))) := by
  refine Ct.of [some (.ref (gb G + 72)), some (.int (jI a)), some (.int (jI b)), some (.int (jI c)), some (.int (jI d)), some (.int (jI e)), none, none] (by decide) rfl rfl rfl ?_
  intro k SR
  have S : Sem G RX12 "feed" cX12_feed 8 (rmD 0 0 0) k := SR.sem
  obtain ⟨L, eL⟩ : ∃ L, I 72 28 = L := ⟨_, rfl⟩
  rw [eL] at h0 h1 SR
  have loop : L ≤ 380 → ∀ (q t : Nat) (K : Iv) (x7 : Option Value), t + q = 20 → (∀ o, o ≠ 72 → o ≠ 93 → K o = I o) → (∀ j, j ≠ 28 → K 72 j = I 72 j) → K 72 28 = L + t → K 93 = fdF L (pk5 a b c d e) (I 93) t → k 18 [some (.ref (gb G + 72)), some (.int (jI a)), some (.int (jI b)), some (.int (jI c)), some (.int (jI d)), some (.int (jI e)), some (.int (jI (t : Int))), x7] [] n K (rst bk dr pt) 0 0 := by
    intro hL q
    induction q with
    | zero =>
      intro t K x7 ht g1 g2 g3 g4
      have et : t = 20 := by omega
      rw [et] at g3 g4
      refine r_iload S rfl dX12_feed_18 ?_
      refine r_bipush S (by decide +kernel) dX12_feed_20 ?_
      refine r_icmp_ge S (tgt := 115) dX12_feed_22 (by decide) (by omega) (by omega) (fun c22 => ?_) (fun c22 => ?_)
      · refine r_aload_n S rfl dX12_feed_115 ?_
        refine r_getI S (v := K 72 28) fk_X12_132 dX12_feed_116 rfl rfl (Nat.lt_of_lt_of_le (by decide) hn) rfl ?_
        rw [g3]
        refine r_iret SR dX12_feed_119 ⟨by decide, by decide⟩ ?_
        exact ⟨rfl, rfl, Or.inr ⟨hL, rfl, g1, g2, g3, g4⟩⟩
      · exact absurd c22 (by omega)
    | succ q ih =>
      intro t K x7 ht g1 g2 g3 g4
      have R := rem4_all ⟨t, by omega⟩
      have at71 : ∀ v : Int, v = pk5 a b c d e t → k 71 [some (.ref (gb G + 72)), some (.int (jI a)), some (.int (jI b)), some (.int (jI c)), some (.int (jI d)), some (.int (jI e)), some (.int (jI (t : Int))), x7] [.int (jI v)] n K (rst bk dr pt) 0 0 := by
        intro v hv
        obtain ⟨B, eB⟩ : ∃ B, B = byt v (24 - 8 * ((t % 4 : Nat) : Int)) := ⟨_, rfl⟩
        refine r_istore S dX12_feed_71 rfl rfl ?_
        refine r_aload_n S rfl dX12_feed_73 ?_
        refine r_getR S (o' := 93) fk_X12_71 dX12_feed_74 rfl rfl (Nat.lt_of_lt_of_le (by decide) hn) rfl ?_
        refine r_aload_n S rfl dX12_feed_77 ?_
        refine r_getI S (v := K 72 28) fk_X12_132 dX12_feed_78 rfl rfl (Nat.lt_of_lt_of_le (by decide) hn) rfl ?_
        rw [g3]
        refine r_iload S rfl dX12_feed_81 ?_
        refine r_bipush S (by decide +kernel) dX12_feed_83 ?_
        refine r_bipush S (by decide +kernel) dX12_feed_85 ?_
        refine r_iload S rfl dX12_feed_87 ?_
        refine r_iconst S dX12_feed_89 ?_
        refine r_irem S (v := ((t % 4 : Nat) : Int)) (by decide) R dX12_feed_90 ?_
        refine r_imul S dX12_feed_91 ?_
        refine r_isub S dX12_feed_92 ?_
        refine r_ishr S (v := (jI v >>> (jI (24 - 8 * ((t % 4 : Nat) : Int)) &&& 31)).toInt) (jI_of _).symm dX12_feed_93 ?_
        refine r_sipush S (by decide +kernel) dX12_feed_94 ?_
        refine r_iand S (v := B) (by rw [eB]; exact byt_j v _) dX12_feed_97 ?_
        refine r_iast S dX12_feed_98 rfl rfl (Nat.lt_of_lt_of_le (by decide) hn) (by omega) (by omega) ?_
        refine r_aload_n S rfl dX12_feed_99 ?_
        refine r_dup S rfl dX12_feed_100 ?_
        refine r_getI S (v := K 72 28) fk_X12_132 dX12_feed_101 rfl rfl (Nat.lt_of_lt_of_le (by decide) hn) rfl ?_
        rw [g3]
        refine r_iconst S dX12_feed_104 ?_
        refine r_iadd S dX12_feed_105 ?_
        refine r_putI S fk_X12_132 dX12_feed_106 rfl rfl (Nat.lt_of_lt_of_le (by decide) hn) (Or.inl rfl) (Or.inl rfl) ?_
        refine r_iinc S dX12_feed_109 rfl rfl rfl ?_
        refine r_goto S (tgt := 18) dX12_feed_112 (by decide) ?_
        have Q := ih (t + 1) (up (up K 93 (L + t) B) 72 28 (L + t + 1)) (some (.int (jI v))) (by omega) (fun o x y => by rw [up_o x, up_o y]; exact g1 o x y) (fun j x => by rw [up_i x, up_o (by decide)]; exact g2 j x) (by rw [up_s]; omega) (by rw [up_o (by decide), up_ud, g4, eB, hv]; rfl)
        rw [show ((t + 1 : Nat) : Int) = (t : Int) + 1 by omega] at Q
        exact Q
      refine r_iload S rfl dX12_feed_18 ?_
      refine r_bipush S (by decide +kernel) dX12_feed_20 ?_
      refine r_icmp_ge S (tgt := 115) dX12_feed_22 (by decide) (by omega) (by omega) (fun c22 => ?_) (fun c22 => ?_)
      · exact absurd c22 (by omega)
      · refine r_iload S rfl dX12_feed_25 ?_
        refine r_iconst S dX12_feed_27 ?_
        refine r_icmp_ge S (tgt := 35) dX12_feed_28 (by decide) (by omega) (by omega) (fun c28 => ?_) (fun c28 => ?_)
        · refine r_iload S rfl dX12_feed_35 ?_
          refine r_bipush S (by decide +kernel) dX12_feed_37 ?_
          refine r_icmp_ge S (tgt := 46) dX12_feed_39 (by decide) (by omega) (by omega) (fun c39 => ?_) (fun c39 => ?_)
          · refine r_iload S rfl dX12_feed_46 ?_
            refine r_bipush S (by decide +kernel) dX12_feed_48 ?_
            refine r_icmp_ge S (tgt := 57) dX12_feed_50 (by decide) (by omega) (by omega) (fun c50 => ?_) (fun c50 => ?_)
            · refine r_iload S rfl dX12_feed_57 ?_
              refine r_bipush S (by decide +kernel) dX12_feed_59 ?_
              refine r_icmp_ge S (tgt := 69) dX12_feed_61 (by decide) (by omega) (by omega) (fun c61 => ?_) (fun c61 => ?_)
              · refine r_iload S rfl dX12_feed_69 ?_
                exact at71 e (by unfold pk5; repeat (first | rw [if_pos (by omega)] | rw [if_neg (by omega)]))
              · refine r_iload S rfl dX12_feed_64 ?_
                refine r_goto S (tgt := 71) dX12_feed_66 (by decide) ?_
                exact at71 d (by unfold pk5; repeat (first | rw [if_pos (by omega)] | rw [if_neg (by omega)]))
            · refine r_iload_n S rfl dX12_feed_53 ?_
              refine r_goto S (tgt := 71) dX12_feed_54 (by decide) ?_
              exact at71 c (by unfold pk5; repeat (first | rw [if_pos (by omega)] | rw [if_neg (by omega)]))
          · refine r_iload_n S rfl dX12_feed_42 ?_
            refine r_goto S (tgt := 71) dX12_feed_43 (by decide) ?_
            exact at71 b (by unfold pk5; repeat (first | rw [if_pos (by omega)] | rw [if_neg (by omega)]))
        · refine r_iload_n S rfl dX12_feed_31 ?_
          refine r_goto S (tgt := 71) dX12_feed_32 (by decide) ?_
          exact at71 a (by unfold pk5; repeat (first | rw [if_pos (by omega)] | rw [if_neg (by omega)]))
  refine r_aload_n S rfl dX12_feed_0 ?_
  refine r_getI S (v := I 72 28) fk_X12_132 dX12_feed_1 rfl rfl (Nat.lt_of_lt_of_le (by decide) hn) rfl ?_
  rw [eL]
  refine r_bipush S (by decide +kernel) dX12_feed_4 ?_
  refine r_iadd S dX12_feed_6 ?_
  refine r_sipush S (by decide +kernel) dX12_feed_7 ?_
  refine r_icmp_le S (tgt := 15) dX12_feed_10 (by decide) (by omega) (by omega) (fun c10 => ?_) (fun c10 => ?_)
  · refine r_iconst S dX12_feed_15 ?_
    refine r_istore S dX12_feed_16 rfl rfl ?_
    exact loop (by omega) 20 0 I none (by omega) (fun _ _ _ => rfl) (fun _ _ => rfl) (by rw [eL]; show L = L + ((0 : Nat) : Int); omega) rfl
  · refine r_iconst S dX12_feed_13 ?_
    refine r_iret SR dX12_feed_14 ⟨by decide, by decide⟩ ?_
    exact ⟨rfl, rfl, Or.inl ⟨by omega, rfl, rfl⟩⟩
end
