/-! ===== the reference's WAYS ===== -/
def p2 (s : Int) : Int := ((2 ^ s.toNat : Nat) : Int)
def clr (m : Nat) (s : Int) : Nat := m &&& (255 - 2 ^ s.toNat)
def setb (m : Nat) (s : Int) : Nat := m ||| 2 ^ s.toNat
theorem bit_shl {s : Int} (h0 : 0 ≤ s) (h1 : s < 8) : jI 1 <<< (jI s &&& 31) = jI (p2 s) := by
  have : s = 0 ∨ s = 1 ∨ s = 2 ∨ s = 3 ∨ s = 4 ∨ s = 5 ∨ s = 6 ∨ s = 7 := by omega
  rcases this with rfl | rfl | rfl | rfl | rfl | rfl | rfl | rfl <;> decide +kernel
theorem bit_not {s : Int} (h0 : 0 ≤ s) (h1 : s < 8) : jI (p2 s) ^^^ jI (-1) = jI (-1 - p2 s) := by
  have : s = 0 ∨ s = 1 ∨ s = 2 ∨ s = 3 ∨ s = 4 ∨ s = 5 ∨ s = 6 ∨ s = 7 := by omega
  rcases this with rfl | rfl | rfl | rfl | rfl | rfl | rfl | rfl <;> decide +kernel
theorem bit_all : ∀ m : Fin 256, ∀ s : Fin 8, jI (m.val : Int) &&& jI (-1 - ((2 ^ s.val : Nat) : Int)) = jI ((m.val &&& (255 - 2 ^ s.val) : Nat) : Int) ∧ jI (m.val : Int) ||| jI ((2 ^ s.val : Nat) : Int) = jI ((m.val ||| 2 ^ s.val : Nat) : Int) ∧ jI (m.val : Int) >>> (jI (s.val : Int) &&& 31) = jI ((m.val / 2 ^ s.val : Nat) : Int) ∧ jI ((m.val / 2 ^ s.val : Nat) : Int) &&& jI 1 = jI (if Nat.testBit m.val s.val then 1 else 0) ∧ (m.val &&& (255 - 2 ^ s.val)) < 256 ∧ (m.val ||| 2 ^ s.val) < 256 := by decide +kernel
theorem bit_tst : ∀ m : Fin 256, ∀ s t : Fin 8, Nat.testBit (m.val &&& (255 - 2 ^ s.val)) t.val = (Nat.testBit m.val t.val && !(decide (t = s))) ∧ Nat.testBit (m.val ||| 2 ^ s.val) t.val = (Nat.testBit m.val t.val || decide (t = s)) := by decide +kernel
theorem bits {m : Nat} {s : Int} (hm : m < 256) (h0 : 0 ≤ s) (h1 : s < 8) : jI (m : Int) &&& jI (-1 - p2 s) = jI (clr m s : Int) ∧ jI (m : Int) ||| jI (p2 s) = jI (setb m s : Int) ∧ jI (m : Int) >>> (jI s &&& 31) = jI ((m / 2 ^ s.toNat : Nat) : Int) ∧ jI ((m / 2 ^ s.toNat : Nat) : Int) &&& jI 1 = jI (if Nat.testBit m s.toNat then 1 else 0) ∧ clr m s < 256 ∧ setb m s < 256 := by
  obtain ⟨k, rfl⟩ := Int.eq_ofNat_of_zero_le h0
  exact bit_all ⟨m, hm⟩ ⟨k, by omega⟩
/-- the bits of m are the SITES of rc -/
def usedOk (m : Nat) (rc : List Int) : Prop := m < 256 ∧ ∀ t : Int, 0 ≤ t → t < 8 → (Nat.testBit m t.toNat = true ↔ t ∈ rc)
theorem used_set {m : Nat} {rc : List Int} {s : Int} (h : usedOk m rc) (h0 : 0 ≤ s) (h1 : s < 8) : usedOk (setb m s) (s :: rc) := by
  refine ⟨(bits h.1 h0 h1).2.2.2.2.2, fun t t0 t1 => ?_⟩
  have hm := h.2 t t0 t1
  obtain ⟨a, rfl⟩ := Int.eq_ofNat_of_zero_le h0
  obtain ⟨b, rfl⟩ := Int.eq_ofNat_of_zero_le t0
  have e := (bit_tst ⟨m, h.1⟩ ⟨a, by omega⟩ ⟨b, by omega⟩).2
  have e' : Nat.testBit (setb m (a : Int)) ((b : Int)).toNat = (Nat.testBit m b || decide ((⟨b, by omega⟩ : Fin 8) = ⟨a, by omega⟩)) := e
  have hm' : Nat.testBit m b = true ↔ (b : Int) ∈ rc := hm
  rw [e', Bool.or_eq_true, hm', decide_eq_true_iff, Fin.mk.injEq, List.mem_cons]
  constructor
  · rintro (q | q)
    · exact Or.inr q
    · exact Or.inl (by omega)
  · rintro (q | q)
    · exact Or.inr (by omega)
    · exact Or.inl q
theorem used_clr {m : Nat} {rc : List Int} {s : Int} (h : usedOk m (s :: rc)) (hs : s ∉ rc) (h0 : 0 ≤ s) (h1 : s < 8) : usedOk (clr m s) rc := by
  refine ⟨(bits h.1 h0 h1).2.2.2.2.1, fun t t0 t1 => ?_⟩
  have hm := h.2 t t0 t1
  obtain ⟨a, rfl⟩ := Int.eq_ofNat_of_zero_le h0
  obtain ⟨b, rfl⟩ := Int.eq_ofNat_of_zero_le t0
  have e := (bit_tst ⟨m, h.1⟩ ⟨a, by omega⟩ ⟨b, by omega⟩).1
  have e' : Nat.testBit (clr m (a : Int)) ((b : Int)).toNat = (Nat.testBit m b && !decide ((⟨b, by omega⟩ : Fin 8) = ⟨a, by omega⟩)) := e
  have hm' : Nat.testBit m b = true ↔ (b : Int) ∈ (a : Int) :: rc := hm
  rw [e', Bool.and_eq_true, hm', Bool.not_eq_true', decide_eq_false_iff_not, Fin.mk.injEq, List.mem_cons]
  constructor
  · rintro ⟨q | q, r⟩
    · exact absurd (show b = a by omega) r
    · exact q
  · intro q
    exact ⟨Or.inr q, fun r => hs (by rw [← r]; exact q)⟩
theorem used_nil : usedOk 0 [] := by
  refine ⟨by decide, fun t t0 t1 => ⟨fun h => ?_, fun h => ?_⟩⟩
  · rw [Nat.zero_testBit] at h
    cases h
  · cases h
/-- how near two SITES are -/
def nrM (X Y : Int → Int) (s t : Int) : Int := max 0 (10 - (absI (X s - X t) + absI (Y s - Y t)))
def tiM (T : Int → Int) (i j : Int) : Int := T (8 * i + j)
theorem absI_rg {a : Int} (h0 : -20 ≤ a) (h1 : a ≤ 20) : 0 ≤ absI a ∧ absI a ≤ 20 := by
  unfold absI
  split <;> omega
theorem nrM_rg {X Y : Int → Int} {s t : Int} (hx : ∀ j, 0 ≤ j → j < 8 → 0 ≤ X j ∧ X j ≤ 20) (hy : ∀ j, 0 ≤ j → j < 8 → 0 ≤ Y j ∧ Y j ≤ 20) (s0 : 0 ≤ s) (s1 : s < 8) (t0 : 0 ≤ t) (t1 : t < 8) : 0 ≤ nrM X Y s t ∧ nrM X Y s t ≤ 10 := by
  have a := hx s s0 s1
  have b := hx t t0 t1
  have c := hy s s0 s1
  have d := hy t t0 t1
  have e := absI_rg (a := X s - X t) (by omega) (by omega)
  have f := absI_rg (a := Y s - Y t) (by omega) (by omega)
  unfold nrM
  omega
def mwOnly (I J : Iv) : Prop := (∀ o, o ≠ 72 → o ≠ 95 → o ≠ 96 → o ≠ 97 → J o = I o) ∧ ∀ j, j ≠ 42 → J 72 j = I 72 j
theorem mwOnly.rf (I : Iv) : mwOnly I I := ⟨fun _ _ _ _ _ => rfl, fun _ _ => rfl⟩
theorem mwOnly.ob {I J : Iv} (h : mwOnly I J) {b : Nat} (hb : b = 95 ∨ b = 96 ∨ b = 97) (i v : Int) : mwOnly I (up J b i v) := ⟨fun o x y z w => by rw [up_o (by omega)]; exact h.1 o x y z w, fun j a => by rw [up_o (by omega)]; exact h.2 j a⟩
theorem mwOnly.put {I J : Iv} (h : mwOnly I J) (v : Int) : mwOnly I (up J 72 42 v) := ⟨fun o x y z w => by rw [up_o x]; exact h.1 o x y z w, fun j a => by rw [up_i a]; exact h.2 j a⟩
def bstOk (J : Iv) (H : Nat) (b : BS) : Prop := J 72 42 = b.1 ∧ (b.1 = -1 ∨ (b.2.length = H ∧ holdS (J 96) b.2))
theorem bstOk.same {J K : Iv} {H : Nat} {b : BS} (h : bstOk J H b) (h1 : K 72 42 = J 72 42) (h2 : K 96 = J 96) : bstOk K H b := by
  unfold bstOk
  rw [h1, h2]
  exact h
theorem holdS_nth {A : Int → Int} : ∀ {st : List Int}, holdS A st → ∀ x ∈ st, ∃ j : Int, 0 ≤ j ∧ j < st.length ∧ A j = x
  | [], _, x, hx => by cases hx
  | a :: t, h, x, hx => by
    rcases List.mem_cons.mp hx with e | e
    · exact ⟨t.length, by omega, by rw [List.length_cons]; omega, by rw [h.1, e]⟩
    · obtain ⟨j, j0, j1, hj⟩ := holdS_nth h.2 x e
      exact ⟨j, j0, by rw [List.length_cons]; omega, hj⟩
section
variable (G : GE) (n : Nat) (I : Iv) (bk dr : Nat) (pt : Option Nat)
theorem c_X12_abs (ρ : Rv) {a : Int} (ha : rg a) : Ct G yX12_abs cX12_abs 1 (some .int) 0 0 0 [.int (jI a)] n I ρ (PI (absI a) n I ρ) := by
  refine Ct.of [some (.int (jI a))] (by decide) rfl rfl rfl ?_
  intro k SR
  have S : Sem G RX12 "abs" cX12_abs 1 (rmD 0 0 0) k := SR.sem
  refine r_iload_n S rfl dX12_abs_0 ?_
  refine r_if_ge S (tgt := 9) dX12_abs_1 (by decide) (by omega) (fun c1 => ?_) (fun c1 => ?_)
  · refine r_iload_n S rfl dX12_abs_9 ?_
    refine r_iret SR dX12_abs_10 ⟨by decide, by decide⟩ ?_
    refine ⟨?_, rfl, rfl, rfl⟩
    unfold absI
    first | rw [if_pos (by omega)] | rw [if_neg (by omega)]
  · refine r_iload_n S rfl dX12_abs_4 ?_
    refine r_ineg S dX12_abs_5 ?_
    refine r_goto S (tgt := 10) dX12_abs_6 (by decide) ?_
    refine r_iret SR dX12_abs_10 ⟨by decide, by decide⟩ ?_
    refine ⟨?_, rfl, rfl, rfl⟩
    unfold absI
    first | rw [if_pos (by omega)] | rw [if_neg (by omega)]
theorem c_X12_near (hn : 103 ≤ n) {s t : Int} (hx : ∀ j, 0 ≤ j → j < 8 → 0 ≤ I 82 j ∧ I 82 j ≤ 20) (hy : ∀ j, 0 ≤ j → j < 8 → 0 ≤ I 83 j ∧ I 83 j ≤ 20) (s0 : 0 ≤ s) (s1 : s < 8) (t0 : 0 ≤ t) (t1 : t < 8) : Ct G yX12_near cX12_near 4 (some .int) 1 0 0 [.ref (gb G + 72), .int (jI s), .int (jI t)] n I (rst bk dr pt) (PI (nrM (I 82) (I 83) s t) n I (rst bk dr pt)) := by
  have a := hx s s0 s1
  have b := hx t t0 t1
  have c := hy s s0 s1
  have d := hy t t0 t1
  have e := absI_rg (a := I 82 s - I 82 t) (by omega) (by omega)
  have f := absI_rg (a := I 83 s - I 83 t) (by omega) (by omega)
  refine Ct.of [some (.ref (gb G + 72)), some (.int (jI s)), some (.int (jI t)), none] (by decide) rfl rfl rfl ?_
  intro k SR
  have S : Sem G RX12 "near" cX12_near 4 (rmD 1 0 0) k := SR.sem
  refine r_aload_n S rfl dX12_near_0 ?_
  refine r_getR S (o' := 82) fk_X12_37 dX12_near_1 rfl rfl (Nat.lt_of_lt_of_le (by decide) hn) rfl ?_
  refine r_iload_n S rfl dX12_near_4 ?_
  refine r_iald S (v := I 82 s) dX12_near_5 rfl rfl (Nat.lt_of_lt_of_le (by decide) hn) (by omega) (by omega) rfl ?_
  refine r_aload_n S rfl dX12_near_6 ?_
  refine r_getR S (o' := 82) fk_X12_37 dX12_near_7 rfl rfl (Nat.lt_of_lt_of_le (by decide) hn) rfl ?_
  refine r_iload_n S rfl dX12_near_10 ?_
  refine r_iald S (v := I 82 t) dX12_near_11 rfl rfl (Nat.lt_of_lt_of_le (by decide) hn) (by omega) (by omega) rfl ?_
  refine r_isub S dX12_near_12 ?_
  refine r_callS S lk_X12_250 mk_X12_abs (c_X12_abs G n I (rst bk dr pt) (by omega)) rfl rfl (Nat.le_of_ble_eq_true rfl) ⟨by decide, by decide⟩ rfl ⟨by decide, by decide⟩ dX12_near_13 ?_
  rintro _ _ _ _ ⟨rfl, rfl, rfl, rfl⟩
  refine r_aload_n S rfl dX12_near_16 ?_
  refine r_getR S (o' := 83) fk_X12_40 dX12_near_17 rfl rfl (Nat.lt_of_lt_of_le (by decide) hn) rfl ?_
  refine r_iload_n S rfl dX12_near_20 ?_
  refine r_iald S (v := I 83 s) dX12_near_21 rfl rfl (Nat.lt_of_lt_of_le (by decide) hn) (by omega) (by omega) rfl ?_
  refine r_aload_n S rfl dX12_near_22 ?_
  refine r_getR S (o' := 83) fk_X12_40 dX12_near_23 rfl rfl (Nat.lt_of_lt_of_le (by decide) hn) rfl ?_
  refine r_iload_n S rfl dX12_near_26 ?_
  refine r_iald S (v := I 83 t) dX12_near_27 rfl rfl (Nat.lt_of_lt_of_le (by decide) hn) (by omega) (by omega) rfl ?_
  refine r_isub S dX12_near_28 ?_
  refine r_callS S lk_X12_250 mk_X12_abs (c_X12_abs G n I (rst bk dr pt) (by omega)) rfl rfl (Nat.le_of_ble_eq_true rfl) ⟨by decide, by decide⟩ rfl ⟨by decide, by decide⟩ dX12_near_29 ?_
  rintro _ _ _ _ ⟨rfl, rfl, rfl, rfl⟩
  refine r_iadd S dX12_near_32 ?_
  refine r_istore_n S dX12_near_33 rfl rfl ?_
  refine r_iload_n S rfl dX12_near_34 ?_
  refine r_bipush S (by decide +kernel) dX12_near_35 ?_
  refine r_icmp_ge S (tgt := 47) dX12_near_37 (by decide) (by omega) (by omega) (fun c37 => ?_) (fun c37 => ?_)
  · refine r_iconst S dX12_near_47 ?_
    refine r_iret SR dX12_near_48 ⟨by decide, by decide⟩ ?_
    refine ⟨?_, rfl, rfl, rfl⟩
    unfold nrM
    first | rw [Int.max_eq_right (by omega)] | rw [Int.max_eq_left (by omega)]
  · refine r_bipush S (by decide +kernel) dX12_near_40 ?_
    refine r_iload_n S rfl dX12_near_42 ?_
    refine r_isub S dX12_near_43 ?_
    refine r_goto S (tgt := 48) dX12_near_44 (by decide) ?_
    refine r_iret SR dX12_near_48 ⟨by decide, by decide⟩ ?_
    refine ⟨?_, rfl, rfl, rfl⟩
    unfold nrM
    first | rw [Int.max_eq_right (by omega)] | rw [Int.max_eq_left (by omega)]
theorem c_X12_ways (hn : 103 ≤ n) {H Z : Nat} (hH : I 72 1 = H) (hZ : I 72 2 = Z) (h1 : 1 ≤ H) (hx : ∀ j, 0 ≤ j → j < 8 → 0 ≤ I 82 j ∧ I 82 j ≤ 20) (hy : ∀ j, 0 ≤ j → j < 8 → 0 ≤ I 83 j ∧ I 83 j ≤ 20) (W : WOk (nrM (I 82) (I 83)) (tiM (I 81)) H Z) (h0 : I 97 0 = 0) : Ct G yX12_ways cX12_ways 4 none 2 0 0 [.ref (gb G + 72)] n I (rst bk dr pt) (fun v n' I' ρ' => v = none ∧ n = n' ∧ rst bk dr pt = ρ' ∧ mwOnly I I' ∧ I' 97 0 = 0 ∧ bstOk I' H (bestW (nrM (I 82) (I 83)) (tiM (I 81)) H Z)) := by
  refine Ct.of [some (.ref (gb G + 72)), none, none, none] (by decide) rfl rfl rfl ?_
  intro k SR
  have S : Sem G RX12 "ways" cX12_ways 4 (rmD 2 0 0) k := SR.sem
  obtain ⟨NR, eNR⟩ : ∃ NR, NR = nrM (I 82) (I 83) := ⟨_, rfl⟩
  obtain ⟨TI, eTI⟩ : ∃ TI, TI = tiM (I 81) := ⟨_, rfl⟩
  rw [← eNR, ← eTI] at W SR
  have hHS := W.1
  have step : ∀ (rc : List Int) (bond : Int) (F : Int → BS → BS), rc.length + 1 ≤ H → (∀ x ∈ rc, 0 ≤ x ∧ x < Z) → (0 ≤ bond ∧ bond ≤ 720 * rc.length) → (∀ (s : Int) (b : BS), 0 ≤ s → s < Z → s ∉ rc → (-1 ≤ b.1 ∧ b.1 ≤ 5760) → -1 ≤ (F s b).1 ∧ (F s b).1 ≤ 5760) → (∀ (s : Int) (m : Nat) (b : BS) (J : Iv) (x3 : Option Value), 0 ≤ s → s < Z → s ∉ rc → mwOnly I J → holdS (J 95) rc → J 95 rc.length = s → J 97 ((rc.length : Int) + 1) = bond + gR NR TI rc s rc.length → usedOk m (s :: rc) → bstOk J H b → (-1 ≤ b.1 ∧ b.1 ≤ 5760) → (∀ (J' : Iv) (m' : Nat) (x3' : Option Value), mwOnly I J' → (∀ i : Int, 0 ≤ i → i ≤ rc.length → J' 95 i = J 95 i) → (∀ i : Int, 0 ≤ i → i ≤ rc.length → J' 97 i = J 97 i) → usedOk m' (s :: rc) → bstOk J' H (F s b) → k 16 [some (.ref (gb G + 72)), some (.int (jI (rc.length : Int))), some (.int (jI (m' : Int))), x3'] [] n J' (rst bk dr pt) 0 0) → k 196 [some (.ref (gb G + 72)), some (.int (jI (rc.length : Int))), some (.int (jI (m : Int))), x3] [] n J (rst bk dr pt) 0 0) → ∀ (f : Nat) (s : Int) (m : Nat) (b : BS) (J : Iv) (x3 : Option Value), 0 ≤ s → s + f = Z → mwOnly I J → holdS (J 95) rc → J 95 rc.length = s → J 97 rc.length = bond → usedOk m rc → bstOk J H b → (-1 ≤ b.1 ∧ b.1 ≤ 5760) → (∀ (J' : Iv) (m' : Nat) (x3' : Option Value), mwOnly I J' → (∀ i : Int, 0 ≤ i → i < rc.length → J' 95 i = J 95 i) → (∀ i : Int, 0 ≤ i → i ≤ rc.length → J' 97 i = J 97 i) → usedOk m' rc → bstOk J' H (goL F rc f s b) → k 16 [some (.ref (gb G + 72)), some (.int (jI ((rc.length : Int) + (-1)))), some (.int (jI (m' : Int))), x3'] [] n J' (rst bk dr pt) 0 0) → k 53 [some (.ref (gb G + 72)), some (.int (jI (rc.length : Int))), some (.int (jI (m : Int))), x3] [] n J (rst bk dr pt) 0 0 := by
    intro rc bond F hl hrc hbo hF SUB f
    induction f with
    | zero =>
      intro s m b J x3 s0 s1 hJ hrow hrs hbd hu hb hbr cont
      have j2 : J 72 2 = Z := by rw [hJ.2 2 (by decide)]; exact hZ
      refine r_aload_n S rfl dX12_ways_53 ?_
      refine r_getR S (o' := 95) fk_X12_81 dX12_ways_54 rfl rfl (Nat.lt_of_lt_of_le (by decide) hn) rfl ?_
      refine r_iload_n S rfl dX12_ways_57 ?_
      refine r_iald S (v := J 95 (rc.length:Int)) dX12_ways_58 rfl rfl (Nat.lt_of_lt_of_le (by decide) hn) (by omega) (by omega) rfl ?_
      refine r_aload_n S rfl dX12_ways_59 ?_
      refine r_getI S (v := J 72 2) fk_X12_126 dX12_ways_60 rfl rfl (Nat.lt_of_lt_of_le (by decide) hn) rfl ?_
      refine r_icmp_ge S (tgt := 93) dX12_ways_63 (by decide) (by omega) (by omega) (fun c63 => ?_) (fun c63 => ?_)
      · refine r_aload_n S rfl dX12_ways_93 ?_
        refine r_getR S (o' := 95) fk_X12_81 dX12_ways_94 rfl rfl (Nat.lt_of_lt_of_le (by decide) hn) rfl ?_
        refine r_iload_n S rfl dX12_ways_97 ?_
        refine r_iald S (v := J 95 (rc.length:Int)) dX12_ways_98 rfl rfl (Nat.lt_of_lt_of_le (by decide) hn) (by omega) (by omega) rfl ?_
        refine r_aload_n S rfl dX12_ways_99 ?_
        refine r_getI S (v := J 72 2) fk_X12_126 dX12_ways_100 rfl rfl (Nat.lt_of_lt_of_le (by decide) hn) rfl ?_
        refine r_icmp_ne S (tgt := 119) dX12_ways_103 (by decide) (by omega) (by omega) (fun c103 => ?_) (fun c103 => ?_)
        · exact absurd c103 (by omega)
        · refine r_aload_n S rfl dX12_ways_106 ?_
          refine r_getR S (o' := 95) fk_X12_81 dX12_ways_107 rfl rfl (Nat.lt_of_lt_of_le (by decide) hn) rfl ?_
          refine r_iload_n S rfl dX12_ways_110 ?_
          refine r_iconst S dX12_ways_111 ?_
          refine r_iast S dX12_ways_112 rfl rfl (Nat.lt_of_lt_of_le (by decide) hn) (by omega) (by omega) ?_
          refine r_iinc S dX12_ways_113 rfl rfl rfl ?_
          refine r_goto S (tgt := 16) dX12_ways_116 (by decide) ?_
          exact cont _ m _ (hJ.ob (by omega) _ _) (fun i a b => up_i (by omega)) (fun i a b => by rw [up_o (by decide)]) hu (hb.same (by rw [up_o (by decide)]) (up_o (by decide)))
      · exact absurd c63 (by omega)
    | succ f ihf =>
      intro s m b J x3 s0 s1 hJ hrow hrs hbd hu hb hbr cont
      have j2 : J 72 2 = Z := by rw [hJ.2 2 (by decide)]; exact hZ
      have B := bits hu.1 s0 (by omega)
      have T := hu.2 s s0 (by omega)
      -- back from below
      have res : s ∉ rc → ∀ (J' : Iv) (m' : Nat) (x3' : Option Value), mwOnly I J' → (∀ i : Int, 0 ≤ i → i ≤ rc.length → J' 95 i = J 95 i) → (∀ i : Int, 0 ≤ i → i ≤ rc.length → J' 97 i = J 97 i) → usedOk m' (s :: rc) → bstOk J' H (F s b) → k 16 [some (.ref (gb G + 72)), some (.int (jI (rc.length : Int))), some (.int (jI (m' : Int))), x3'] [] n J' (rst bk dr pt) 0 0 := by
        intro hs J' m' x3' hJ' h95 h97 hu' hb'
        have r1 : J' 95 rc.length = s := by rw [h95 _ (by omega) (by omega)]; exact hrs
        have B' := bits hu'.1 s0 (by omega)
        have hu2 := used_clr hu' hs s0 (by omega)
        refine r_iload_n S rfl dX12_ways_16 ?_
        refine r_if_lt S (tgt := 277) dX12_ways_17 (by decide) (by omega) (fun c17 => ?_) (fun c17 => ?_)
        · exact absurd c17 (by omega)
        · refine r_aload_n S rfl dX12_ways_20 ?_
          refine r_getR S (o' := 95) fk_X12_81 dX12_ways_21 rfl rfl (Nat.lt_of_lt_of_le (by decide) hn) rfl ?_
          refine r_iload_n S rfl dX12_ways_24 ?_
          refine r_iald S (v := J' 95 (rc.length:Int)) dX12_ways_25 rfl rfl (Nat.lt_of_lt_of_le (by decide) hn) (by omega) (by omega) rfl ?_
          refine r_iconst S dX12_ways_26 ?_
          refine r_icmp_eq S (tgt := 43) dX12_ways_27 (by decide) (by omega) (by omega) (fun c27 => ?_) (fun c27 => ?_)
          · exact absurd c27 (by omega)
          · refine r_iload_n S rfl dX12_ways_30 ?_
            refine r_iconst S dX12_ways_31 ?_
            refine r_aload_n S rfl dX12_ways_32 ?_
            refine r_getR S (o' := 95) fk_X12_81 dX12_ways_33 rfl rfl (Nat.lt_of_lt_of_le (by decide) hn) rfl ?_
            refine r_iload_n S rfl dX12_ways_36 ?_
            refine r_iald S (v := J' 95 (rc.length:Int)) dX12_ways_37 rfl rfl (Nat.lt_of_lt_of_le (by decide) hn) (by omega) (by omega) rfl ?_
            rw [r1]
            refine r_ishl S (v := p2 s) (bit_shl s0 (by omega)) dX12_ways_38 ?_
            refine r_iconst S dX12_ways_39 ?_
            refine r_ixor S (v := -1 - p2 s) (bit_not s0 (by omega)) dX12_ways_40 ?_
            refine r_iand S (v := (clr m' s : Int)) B'.1 dX12_ways_41 ?_
            refine r_istore_n S dX12_ways_42 rfl rfl ?_
            refine r_aload_n S rfl dX12_ways_43 ?_
            refine r_getR S (o' := 95) fk_X12_81 dX12_ways_44 rfl rfl (Nat.lt_of_lt_of_le (by decide) hn) rfl ?_
            refine r_iload_n S rfl dX12_ways_47 ?_
            refine r_dup2 S rfl rfl dX12_ways_48 ?_
            refine r_iald S (v := J' 95 (rc.length:Int)) dX12_ways_49 rfl rfl (Nat.lt_of_lt_of_le (by decide) hn) (by omega) (by omega) rfl ?_
            refine r_iconst S dX12_ways_50 ?_
            refine r_iadd S dX12_ways_51 ?_
            refine r_iast S dX12_ways_52 rfl rfl (Nat.lt_of_lt_of_le (by decide) hn) (by omega) (by omega) ?_
            refine ihf (s + 1) (clr m' s) (F s b) _ _ (by omega) (by omega) (hJ'.ob (by omega) _ _) (holdS_congr rc (fun j g0 g1 => by rw [up_i (by omega)]; exact h95 j g0 (by omega)) hrow) (by rw [up_s, r1]) (by rw [up_o (by decide), h97 _ (by omega) (by omega)]; exact hbd) hu2 (hb'.same (by rw [up_o (by decide)]) (up_o (by decide))) (hF s b s0 (by omega) hs hbr) ?_
            intro J2 m2 x2 hJ2 a95 a97 hu3 hb3
            refine cont J2 m2 x2 hJ2 (fun i g0 g1 => ?_) (fun i g0 g1 => ?_) hu3 ?_
            · rw [a95 i g0 g1, up_i (by omega)]
              exact h95 i g0 (by omega)
            · rw [a97 i g0 g1, up_o (by decide)]
              exact h97 i g0 g1
            · have e : goL F rc (f + 1) s b = goL F rc f (s + 1) (F s b) := by
                show goL F rc f (s + 1) (if s ∈ rc then b else F s b) = _
                rw [if_neg hs]
              rw [e]
              exact hb3
      -- the BOND of this SITE
      have bonds : s ∉ rc → ∀ (q : Nat) (suf pre : List Int) (K : Iv), rc = suf ++ pre → suf.length = q → mwOnly I K → K 95 = J 95 → (∀ i : Int, 0 ≤ i → i ≤ rc.length → K 97 i = J 97 i) → K 96 = J 96 → K 72 42 = J 72 42 → K 97 ((rc.length : Int) + 1) = bond + gR NR TI pre s rc.length → k 146 [some (.ref (gb G + 72)), some (.int (jI (rc.length : Int))), some (.int (jI (setb m s : Int))), some (.int (jI (pre.length : Int)))] [] n K (rst bk dr pt) 0 0 := by
        intro hs q
        induction q with
        | zero =>
          intro suf pre K e1 e2 hK k95 k97 k96 k42 kb
          have e3 : suf = [] := List.eq_nil_of_length_eq_zero e2
          rw [e3, List.nil_append] at e1
          rw [← e1] at kb ⊢
          refine r_iload_n S rfl dX12_ways_146 ?_
          refine r_iload_n S rfl dX12_ways_147 ?_
          refine r_icmp_ge S (tgt := 196) dX12_ways_148 (by decide) (by omega) (by omega) (fun c148 => ?_) (fun c148 => ?_)
          · refine SUB s (setb m s) b K _ s0 (by omega) hs hK (by rw [k95]; exact hrow) (by rw [k95]; exact hrs) kb (used_set hu s0 (by omega)) (hb.same k42 k96) hbr ?_
            intro J' m' x3' g1 g2 g3 g4 g5
            exact res hs J' m' x3' g1 (fun i a c => by rw [g2 i a c, k95]) (fun i a c => by rw [g3 i a c]; exact k97 i a c) g4 g5
          · exact absurd c148 (by omega)
        | succ q ihq =>
          intro suf pre K e1 e2 hK k95 k97 k96 k42 kb
          obtain ⟨suf', x, e3⟩ : ∃ suf' x, suf = suf' ++ [x] := by
            rcases List.eq_nil_or_concat suf with h | ⟨l, a, h⟩
            · rw [h] at e2; cases e2
            · exact ⟨l, a, by rw [h, List.concat_eq_append]⟩
          have e4 : rc = suf' ++ (x :: pre) := by rw [e1, e3, List.append_assoc]; rfl
          have hlen : rc.length = suf'.length + (pre.length + 1) := by rw [e4, List.length_append]; rfl
          have hx1 : J 95 pre.length = x := by rw [e4] at hrow; exact (holdS_drop suf' (x :: pre) hrow).1
          have hxm : x ∈ rc := by rw [e4]; exact List.mem_append_right _ (List.mem_cons_self ..)
          have hxr := hrc x hxm
          have hpq : ∀ y ∈ pre, 0 ≤ y ∧ y < Z := fun y hy => hrc y (by rw [e4]; exact List.mem_append_right _ (List.mem_cons_of_mem _ hy))
          have hxs : x ≠ s := fun e => hs (by rw [← e]; exact hxm)
          have r95 : K 95 rc.length = s := by rw [k95]; exact hrs
          have r95' : K 95 pre.length = x := by rw [k95]; exact hx1
          have k82 : K 82 = I 82 := hK.1 82 (by decide) (by decide) (by decide) (by decide)
          have k83 : K 83 = I 83 := hK.1 83 (by decide) (by decide) (by decide) (by decide)
          have k81 : K 81 = I 81 := hK.1 81 (by decide) (by decide) (by decide) (by decide)
          have C := c_X12_near G n K bk dr pt hn (s := x) (t := s) (by rw [k82]; exact hx) (by rw [k83]; exact hy) hxr.1 (by omega) s0 (by omega)
          rw [k82, k83, ← eNR] at C
          have eT : K 81 (8 * (pre.length : Int) + rc.length) = TI pre.length rc.length := by rw [k81, eTI]; rfl
          refine r_iload_n S rfl dX12_ways_146 ?_
          refine r_iload_n S rfl dX12_ways_147 ?_
          refine r_icmp_ge S (tgt := 196) dX12_ways_148 (by decide) (by omega) (by omega) (fun c148 => ?_) (fun c148 => ?_)
          · exact absurd c148 (by omega)
          · refine r_aload_n S rfl dX12_ways_151 ?_
            refine r_getR S (o' := 97) fk_X12_87 dX12_ways_152 rfl rfl (Nat.lt_of_lt_of_le (by decide) hn) rfl ?_
            refine r_iload_n S rfl dX12_ways_155 ?_
            refine r_iconst S dX12_ways_156 ?_
            refine r_iadd S dX12_ways_157 ?_
            refine r_dup2 S rfl rfl dX12_ways_158 ?_
            refine r_iald S (v := K 97 ((rc.length:Int) + 1)) dX12_ways_159 rfl rfl (Nat.lt_of_lt_of_le (by decide) hn) (by omega) (by omega) rfl ?_
            refine r_aload_n S rfl dX12_ways_160 ?_
            refine r_getR S (o' := 81) fk_X12_34 dX12_ways_161 rfl rfl (Nat.lt_of_lt_of_le (by decide) hn) rfl ?_
            refine r_bipush S (by decide +kernel) dX12_ways_164 ?_
            refine r_iload_n S rfl dX12_ways_166 ?_
            refine r_imul S dX12_ways_167 ?_
            refine r_iload_n S rfl dX12_ways_168 ?_
            refine r_iadd S dX12_ways_169 ?_
            refine r_iald S (v := K 81 ((8 * (pre.length:Int)) + (rc.length:Int))) dX12_ways_170 rfl rfl (Nat.lt_of_lt_of_le (by decide) hn) (by omega) (by omega) rfl ?_
            refine r_aload_n S rfl dX12_ways_171 ?_
            refine r_aload_n S rfl dX12_ways_172 ?_
            refine r_getR S (o' := 95) fk_X12_81 dX12_ways_173 rfl rfl (Nat.lt_of_lt_of_le (by decide) hn) rfl ?_
            refine r_iload_n S rfl dX12_ways_176 ?_
            refine r_iald S (v := K 95 (pre.length:Int)) dX12_ways_177 rfl rfl (Nat.lt_of_lt_of_le (by decide) hn) (by omega) (by omega) rfl ?_
            rw [r95']
            refine r_aload_n S rfl dX12_ways_178 ?_
            refine r_getR S (o' := 95) fk_X12_81 dX12_ways_179 rfl rfl (Nat.lt_of_lt_of_le (by decide) hn) rfl ?_
            refine r_iload_n S rfl dX12_ways_182 ?_
            refine r_iald S (v := K 95 (rc.length:Int)) dX12_ways_183 rfl rfl (Nat.lt_of_lt_of_le (by decide) hn) (by omega) (by omega) rfl ?_
            rw [r95]
            refine r_callV S lk_X12_256 mk_X12_near C rfl (Nat.lt_of_lt_of_le (by decide) hn) rfl rfl rfl (Nat.le_of_ble_eq_true rfl) ⟨by decide, by decide⟩ rfl ⟨by decide, by decide⟩ dX12_ways_184 ?_
            rintro _ _ _ _ ⟨rfl, rfl, rfl, rfl⟩
            refine r_imul S dX12_ways_187 ?_
            refine r_iadd S dX12_ways_188 ?_
            refine r_iast S dX12_ways_189 rfl rfl (Nat.lt_of_lt_of_le (by decide) hn) (by omega) (by omega) ?_
            refine r_iinc S dX12_ways_190 rfl rfl rfl ?_
            refine r_goto S (tgt := 146) dX12_ways_193 (by decide) ?_
            have := ihq suf' (x :: pre) (up K 97 ((rc.length : Int) + 1) (K 97 ((rc.length : Int) + 1) + K 81 (8 * (pre.length : Int) + rc.length) * NR x s)) e4 (by rw [e3, List.length_append] at e2; have e2' : suf'.length + 1 = q + 1 := e2; omega) (hK.ob (by omega) _ _) (by rw [up_o (by decide)]; exact k95) (fun i a c => by rw [up_i (by omega)]; exact k97 i a c) (by rw [up_o (by decide)]; exact k96) (by rw [up_o (by decide)]; exact k42) ?_
            · have e9 : ((x :: pre).length : Int) = (pre.length : Int) + 1 := by rw [List.length_cons]; omega
              rw [e9] at this
              exact this
            · rw [up_s, kb, eT]
              show bond + gR NR TI pre s rc.length + TI pre.length rc.length * NR x s = bond + (gR NR TI pre s rc.length + TI pre.length rc.length * NR x s)
              omega
      refine r_aload_n S rfl dX12_ways_53 ?_
      refine r_getR S (o' := 95) fk_X12_81 dX12_ways_54 rfl rfl (Nat.lt_of_lt_of_le (by decide) hn) rfl ?_
      refine r_iload_n S rfl dX12_ways_57 ?_
      refine r_iald S (v := J 95 (rc.length:Int)) dX12_ways_58 rfl rfl (Nat.lt_of_lt_of_le (by decide) hn) (by omega) (by omega) rfl ?_
      refine r_aload_n S rfl dX12_ways_59 ?_
      refine r_getI S (v := J 72 2) fk_X12_126 dX12_ways_60 rfl rfl (Nat.lt_of_lt_of_le (by decide) hn) rfl ?_
      refine r_icmp_ge S (tgt := 93) dX12_ways_63 (by decide) (by omega) (by omega) (fun c63 => ?_) (fun c63 => ?_)
      · exact absurd c63 (by omega)
      · refine r_iload_n S rfl dX12_ways_66 ?_
        refine r_aload_n S rfl dX12_ways_67 ?_
        refine r_getR S (o' := 95) fk_X12_81 dX12_ways_68 rfl rfl (Nat.lt_of_lt_of_le (by decide) hn) rfl ?_
        refine r_iload_n S rfl dX12_ways_71 ?_
        refine r_iald S (v := J 95 (rc.length:Int)) dX12_ways_72 rfl rfl (Nat.lt_of_lt_of_le (by decide) hn) (by omega) (by omega) rfl ?_
        rw [hrs]
        refine r_ishr S (v := ((m / 2 ^ s.toNat : Nat) : Int)) B.2.2.1 dX12_ways_73 ?_
        refine r_iconst S dX12_ways_74 ?_
        refine r_iand S (v := (if Nat.testBit m s.toNat then 1 else 0)) B.2.2.2.1 dX12_ways_75 ?_
        refine r_iconst S dX12_ways_76 ?_
        refine r_icmp_ne S (tgt := 93) dX12_ways_77 (by decide) (by split <;> decide) (by decide) (fun c77 => ?_) (fun c77 => ?_)
        · refine r_aload_n S rfl dX12_ways_93 ?_
          refine r_getR S (o' := 95) fk_X12_81 dX12_ways_94 rfl rfl (Nat.lt_of_lt_of_le (by decide) hn) rfl ?_
          refine r_iload_n S rfl dX12_ways_97 ?_
          refine r_iald S (v := J 95 (rc.length:Int)) dX12_ways_98 rfl rfl (Nat.lt_of_lt_of_le (by decide) hn) (by omega) (by omega) rfl ?_
          refine r_aload_n S rfl dX12_ways_99 ?_
          refine r_getI S (v := J 72 2) fk_X12_126 dX12_ways_100 rfl rfl (Nat.lt_of_lt_of_le (by decide) hn) rfl ?_
          refine r_icmp_ne S (tgt := 119) dX12_ways_103 (by decide) (by omega) (by omega) (fun c103 => ?_) (fun c103 => ?_)
          · refine r_iload_n S rfl dX12_ways_119 ?_
            refine r_iconst S dX12_ways_120 ?_
            refine r_aload_n S rfl dX12_ways_121 ?_
            refine r_getR S (o' := 95) fk_X12_81 dX12_ways_122 rfl rfl (Nat.lt_of_lt_of_le (by decide) hn) rfl ?_
            refine r_iload_n S rfl dX12_ways_125 ?_
            refine r_iald S (v := J 95 (rc.length:Int)) dX12_ways_126 rfl rfl (Nat.lt_of_lt_of_le (by decide) hn) (by omega) (by omega) rfl ?_
            rw [hrs]
            refine r_ishl S (v := p2 s) (bit_shl s0 (by omega)) dX12_ways_127 ?_
            refine r_ior S (v := (setb m s : Int)) B.2.1 dX12_ways_128 ?_
            refine r_istore_n S dX12_ways_129 rfl rfl ?_
            refine r_aload_n S rfl dX12_ways_130 ?_
            refine r_getR S (o' := 97) fk_X12_87 dX12_ways_131 rfl rfl (Nat.lt_of_lt_of_le (by decide) hn) rfl ?_
            refine r_iload_n S rfl dX12_ways_134 ?_
            refine r_iconst S dX12_ways_135 ?_
            refine r_iadd S dX12_ways_136 ?_
            refine r_aload_n S rfl dX12_ways_137 ?_
            refine r_getR S (o' := 97) fk_X12_87 dX12_ways_138 rfl rfl (Nat.lt_of_lt_of_le (by decide) hn) rfl ?_
            refine r_iload_n S rfl dX12_ways_141 ?_
            refine r_iald S (v := J 97 (rc.length:Int)) dX12_ways_142 rfl rfl (Nat.lt_of_lt_of_le (by decide) hn) (by omega) (by omega) rfl ?_
            refine r_iast S dX12_ways_143 rfl rfl (Nat.lt_of_lt_of_le (by decide) hn) (by omega) (by omega) ?_
            refine r_iconst S dX12_ways_144 ?_
            refine r_istore_n S dX12_ways_145 rfl rfl ?_
            have hs : s ∉ rc := fun h => c77 (by rw [if_pos (T.mpr h)])
            exact bonds hs rc.length rc [] _ (by rw [List.append_nil]) rfl (hJ.ob (by omega) _ _) (up_o (by decide)) (fun i g0 g1 => up_i (by omega)) (up_o (by decide)) (by rw [up_o (by decide)]) (by rw [up_s, hbd]; show bond = bond + 0; omega)
          · exact absurd c103 (by omega)
        · refine r_aload_n S rfl dX12_ways_80 ?_
          refine r_getR S (o' := 95) fk_X12_81 dX12_ways_81 rfl rfl (Nat.lt_of_lt_of_le (by decide) hn) rfl ?_
          refine r_iload_n S rfl dX12_ways_84 ?_
          refine r_dup2 S rfl rfl dX12_ways_85 ?_
          refine r_iald S (v := J 95 (rc.length:Int)) dX12_ways_86 rfl rfl (Nat.lt_of_lt_of_le (by decide) hn) (by omega) (by omega) rfl ?_
          rw [hrs]
          refine r_iconst S dX12_ways_87 ?_
          refine r_iadd S dX12_ways_88 ?_
          refine r_iast S dX12_ways_89 rfl rfl (Nat.lt_of_lt_of_le (by decide) hn) (by omega) (by omega) ?_
          refine r_goto S (tgt := 53) dX12_ways_90 (by decide) ?_
          have hs : s ∈ rc := T.mp (by by_cases ht : Nat.testBit m s.toNat = true; exact ht; rw [if_neg ht] at c77; exact absurd c77 (by decide))
          refine ihf (s + 1) m b _ _ (by omega) (by omega) (hJ.ob (by omega) _ _) (holdS_congr rc (fun j g0 g1 => by rw [up_i (by omega)]) hrow) (up_s _ _ _ _) (by rw [up_o (by decide)]; exact hbd) hu (hb.same (by rw [up_o (by decide)]) (up_o (by decide))) hbr ?_
          intro J2 m2 x2 hJ2 a95 a97 hu3 hb3
          refine cont J2 m2 x2 hJ2 (fun i g0 g1 => ?_) (fun i g0 g1 => ?_) hu3 ?_
          · rw [a95 i g0 g1, up_i (by omega)]
          · rw [a97 i g0 g1, up_o (by decide)]
          · have e : goL F rc (f + 1) s b = goL F rc f (s + 1) b := by
              show goL F rc f (s + 1) (if s ∈ rc then b else F s b) = _
              rw [if_pos hs]
            rw [e]
            exact hb3
  have lev : ∀ (k' : Nat) (rc : List Int) (bond : Int), rc.length + k' + 1 = H → (∀ x ∈ rc, 0 ≤ x ∧ x < Z) → (0 ≤ bond ∧ bond ≤ 720 * rc.length) → ∀ (f : Nat) (s : Int) (m : Nat) (b : BS) (J : Iv) (x3 : Option Value), 0 ≤ s → s + f = Z → mwOnly I J → holdS (J 95) rc → J 95 rc.length = s → J 97 rc.length = bond → usedOk m rc → bstOk J H b → (-1 ≤ b.1 ∧ b.1 ≤ 5760) → (∀ (J' : Iv) (m' : Nat) (x3' : Option Value), mwOnly I J' → (∀ i : Int, 0 ≤ i → i < rc.length → J' 95 i = J 95 i) → (∀ i : Int, 0 ≤ i → i ≤ rc.length → J' 97 i = J 97 i) → usedOk m' rc → bstOk J' H (goL (fun s b => dfs NR TI Z k' (s :: rc) (bond + gR NR TI rc s rc.length) b) rc f s b) → k 16 [some (.ref (gb G + 72)), some (.int (jI ((rc.length : Int) + (-1)))), some (.int (jI (m' : Int))), x3'] [] n J' (rst bk dr pt) 0 0) → k 53 [some (.ref (gb G + 72)), some (.int (jI (rc.length : Int))), some (.int (jI (m : Int))), x3] [] n J (rst bk dr pt) 0 0 := by
    intro k'
    induction k' with
    | zero =>
      intro rc bond hl hrc hbo
      refine step rc bond _ (by omega) hrc hbo ?_ ?_
      · intro s b s0 s1 hs hb
        have hg := gR_rg W rc s rc.length hrc s0 s1 hs (by omega) (by omega)
        refine dfs_rg W 0 (s :: rc) _ b (by rw [List.length_cons]; omega) (fun x h => ?_) ?_ hb
        · rcases List.mem_cons.mp h with h | h
          · rw [h]; exact ⟨s0, s1⟩
          · exact hrc x h
        · rw [List.length_cons, show ((rc.length + 1 : Nat) : Int) = (rc.length : Int) + 1 by omega]
          omega
      · intro s m b J x3 s0 s1 hs hJ hrow hrs hbd hu hb hbr cont
        have hg := gR_rg W rc s rc.length hrc s0 s1 hs (by omega) (by omega)
        obtain ⟨bd, ebd⟩ : ∃ bd, bd = bond + gR NR TI rc s rc.length := ⟨_, rfl⟩
        rw [← ebd] at hbd
        have j1 : J 72 1 = H := by rw [hJ.2 1 (by decide)]; exact hH
        have b1 := hb.1
        have hfull : holdS (J 95) (s :: rc) := ⟨hrs, hrow⟩
        have copy : b.1 < bd → ∀ (q : Nat) (i : Int) (K : Iv), 0 ≤ i → i + q = H → mwOnly I K → K 95 = J 95 → K 97 = J 97 → K 72 42 = bd → (∀ j : Int, 0 ≤ j → j < i → K 96 j = J 95 j) → k 248 [some (.ref (gb G + 72)), some (.int (jI (rc.length : Int))), some (.int (jI (m : Int))), some (.int (jI i))] [] n K (rst bk dr pt) 0 0 := by
          intro hlt q
          induction q with
          | zero =>
            intro i K i0 i1 hK k95 k97 k42 k96
            have kk1 : K 72 1 = H := by rw [hK.2 1 (by decide)]; exact hH
            refine r_iload_n S rfl dX12_ways_248 ?_
            refine r_aload_n S rfl dX12_ways_249 ?_
            refine r_getI S (v := K 72 1) fk_X12_109 dX12_ways_250 rfl rfl (Nat.lt_of_lt_of_le (by decide) hn) rfl ?_
            refine r_icmp_ge S (tgt := 274) dX12_ways_253 (by decide) (by omega) (by omega) (fun c253 => ?_) (fun c253 => ?_)
            · refine r_goto S (tgt := 16) dX12_ways_274 (by decide) ?_
              refine cont K m _ hK (fun j a c => by rw [k95]) (fun j a c => by rw [k97]) hu ?_
              show bstOk K H (if b.1 < bond + gR NR TI rc s rc.length then (bond + gR NR TI rc s rc.length, s :: rc) else b)
              rw [← ebd, if_pos hlt]
              refine ⟨k42, Or.inr ⟨by show (s :: rc).length = H; rw [List.length_cons]; omega, holdS_congr (s :: rc) (fun j g0 g1 => ?_) hfull⟩⟩
              rw [List.length_cons] at g1
              exact k96 j g0 (by omega)
            · exact absurd c253 (by omega)
          | succ q ihq =>
            intro i K i0 i1 hK k95 k97 k42 k96
            have kk1 : K 72 1 = H := by rw [hK.2 1 (by decide)]; exact hH
            refine r_iload_n S rfl dX12_ways_248 ?_
            refine r_aload_n S rfl dX12_ways_249 ?_
            refine r_getI S (v := K 72 1) fk_X12_109 dX12_ways_250 rfl rfl (Nat.lt_of_lt_of_le (by decide) hn) rfl ?_
            refine r_icmp_ge S (tgt := 274) dX12_ways_253 (by decide) (by omega) (by omega) (fun c253 => ?_) (fun c253 => ?_)
            · exact absurd c253 (by omega)
            · refine r_aload_n S rfl dX12_ways_256 ?_
              refine r_getR S (o' := 96) fk_X12_84 dX12_ways_257 rfl rfl (Nat.lt_of_lt_of_le (by decide) hn) rfl ?_
              refine r_iload_n S rfl dX12_ways_260 ?_
              refine r_aload_n S rfl dX12_ways_261 ?_
              refine r_getR S (o' := 95) fk_X12_81 dX12_ways_262 rfl rfl (Nat.lt_of_lt_of_le (by decide) hn) rfl ?_
              refine r_iload_n S rfl dX12_ways_265 ?_
              refine r_iald S (v := K 95 i) dX12_ways_266 rfl rfl (Nat.lt_of_lt_of_le (by decide) hn) (by omega) (by omega) rfl ?_
              refine r_iast S dX12_ways_267 rfl rfl (Nat.lt_of_lt_of_le (by decide) hn) (by omega) (by omega) ?_
              refine r_iinc S dX12_ways_268 rfl rfl rfl ?_
              refine r_goto S (tgt := 248) dX12_ways_271 (by decide) ?_
              refine ihq (i + 1) _ (by omega) (by omega) (hK.ob (by omega) _ _) (by rw [up_o (by decide)]; exact k95) (by rw [up_o (by decide)]; exact k97) (by rw [up_o (by decide)]; exact k42) (fun j g0 g1 => ?_)
              by_cases e : j = i
              · rw [e, up_s, k95]
              · rw [up_i e]
                exact k96 j g0 (by omega)
        refine r_iload_n S rfl dX12_ways_196 ?_
        refine r_iconst S dX12_ways_197 ?_
        refine r_iadd S dX12_ways_198 ?_
        refine r_aload_n S rfl dX12_ways_199 ?_
        refine r_getI S (v := J 72 1) fk_X12_109 dX12_ways_200 rfl rfl (Nat.lt_of_lt_of_le (by decide) hn) rfl ?_
        refine r_icmp_ge S (tgt := 219) dX12_ways_203 (by decide) (by omega) (by omega) (fun c203 => ?_) (fun c203 => ?_)
        · refine r_aload_n S rfl dX12_ways_219 ?_
          refine r_getR S (o' := 97) fk_X12_87 dX12_ways_220 rfl rfl (Nat.lt_of_lt_of_le (by decide) hn) rfl ?_
          refine r_iload_n S rfl dX12_ways_223 ?_
          refine r_iconst S dX12_ways_224 ?_
          refine r_iadd S dX12_ways_225 ?_
          refine r_iald S (v := J 97 ((rc.length:Int) + 1)) dX12_ways_226 rfl rfl (Nat.lt_of_lt_of_le (by decide) hn) (by omega) (by omega) rfl ?_
          rw [hbd]
          refine r_aload_n S rfl dX12_ways_227 ?_
          refine r_getI S (v := J 72 42) fk_X12_253 dX12_ways_228 rfl rfl (Nat.lt_of_lt_of_le (by decide) hn) rfl ?_
          refine r_icmp_le S (tgt := 16) dX12_ways_231 (by decide) (by omega) (by omega) (fun c231 => ?_) (fun c231 => ?_)
          · refine cont J m _ hJ (fun j a c => rfl) (fun j a c => rfl) hu ?_
            show bstOk J H (if b.1 < bond + gR NR TI rc s rc.length then (bond + gR NR TI rc s rc.length, s :: rc) else b)
            rw [← ebd, if_neg (by omega)]
            exact hb
          · refine r_aload_n S rfl dX12_ways_234 ?_
            refine r_aload_n S rfl dX12_ways_235 ?_
            refine r_getR S (o' := 97) fk_X12_87 dX12_ways_236 rfl rfl (Nat.lt_of_lt_of_le (by decide) hn) rfl ?_
            refine r_iload_n S rfl dX12_ways_239 ?_
            refine r_iconst S dX12_ways_240 ?_
            refine r_iadd S dX12_ways_241 ?_
            refine r_iald S (v := J 97 ((rc.length:Int) + 1)) dX12_ways_242 rfl rfl (Nat.lt_of_lt_of_le (by decide) hn) (by omega) (by omega) rfl ?_
            rw [hbd]
            refine r_putI S fk_X12_253 dX12_ways_243 rfl rfl (Nat.lt_of_lt_of_le (by decide) hn) (Or.inl rfl) (Or.inl rfl) ?_
            refine r_iconst S dX12_ways_246 ?_
            refine r_istore_n S dX12_ways_247 rfl rfl ?_
            exact copy (by omega) H 0 _ (by decide) (by omega) (hJ.put _) (up_o (by decide)) (up_o (by decide)) (up_s _ _ _ _) (fun j a c => absurd c (by omega))
        · exact absurd c203 (by omega)
    | succ k' ihk =>
      intro rc bond hl hrc hbo
      have hrange : ∀ (s : Int), 0 ≤ s → s < Z → s ∉ rc → (∀ x ∈ s :: rc, 0 ≤ x ∧ x < Z) ∧ (0 ≤ bond + gR NR TI rc s rc.length ∧ bond + gR NR TI rc s rc.length ≤ 720 * ((s :: rc).length : Int)) := by
        intro s s0 s1 hs
        have hg := gR_rg W rc s rc.length hrc s0 s1 hs (by omega) (by omega)
        refine ⟨fun x h => ?_, ?_⟩
        · rcases List.mem_cons.mp h with h | h
          · rw [h]; exact ⟨s0, s1⟩
          · exact hrc x h
        · rw [List.length_cons, show ((rc.length + 1 : Nat) : Int) = (rc.length : Int) + 1 by omega]
          omega
      refine step rc bond _ (by omega) hrc hbo ?_ ?_
      · intro s b s0 s1 hs hb
        have hr := hrange s s0 s1 hs
        exact dfs_rg W (k' + 1) (s :: rc) _ b (by rw [List.length_cons]; omega) hr.1 hr.2 hb
      · intro s m b J x3 s0 s1 hs hJ hrow hrs hbd hu hb hbr cont
        have hr := hrange s s0 s1 hs
        have j1 : J 72 1 = H := by rw [hJ.2 1 (by decide)]; exact hH
        have el : ((s :: rc).length : Int) = (rc.length : Int) + 1 := by rw [List.length_cons]; omega
        refine r_iload_n S rfl dX12_ways_196 ?_
        refine r_iconst S dX12_ways_197 ?_
        refine r_iadd S dX12_ways_198 ?_
        refine r_aload_n S rfl dX12_ways_199 ?_
        refine r_getI S (v := J 72 1) fk_X12_109 dX12_ways_200 rfl rfl (Nat.lt_of_lt_of_le (by decide) hn) rfl ?_
        refine r_icmp_ge S (tgt := 219) dX12_ways_203 (by decide) (by omega) (by omega) (fun c203 => ?_) (fun c203 => ?_)
        · exact absurd c203 (by omega)
        · refine r_iinc S dX12_ways_206 rfl rfl rfl ?_
          refine r_aload_n S rfl dX12_ways_209 ?_
          refine r_getR S (o' := 95) fk_X12_81 dX12_ways_210 rfl rfl (Nat.lt_of_lt_of_le (by decide) hn) rfl ?_
          refine r_iload_n S rfl dX12_ways_213 ?_
          refine r_iconst S dX12_ways_214 ?_
          refine r_iast S dX12_ways_215 rfl rfl (Nat.lt_of_lt_of_le (by decide) hn) (by omega) (by omega) ?_
          refine r_goto S (tgt := 16) dX12_ways_216 (by decide) ?_
          refine r_iload_n S rfl dX12_ways_16 ?_
          refine r_if_lt S (tgt := 277) dX12_ways_17 (by decide) (by omega) (fun c17 => ?_) (fun c17 => ?_)
          · exact absurd c17 (by omega)
          · refine r_aload_n S rfl dX12_ways_20 ?_
            refine r_getR S (o' := 95) fk_X12_81 dX12_ways_21 rfl rfl (Nat.lt_of_lt_of_le (by decide) hn) rfl ?_
            refine r_iload_n S rfl dX12_ways_24 ?_
            refine r_iald S (v := (-1)) dX12_ways_25 rfl rfl (Nat.lt_of_lt_of_le (by decide) hn) (by omega) (by omega) (by rw [up_s]) ?_
            refine r_iconst S dX12_ways_26 ?_
            refine r_icmp_eq S (tgt := 43) dX12_ways_27 (by decide) (by decide) (by decide) (fun c27 => ?_) (fun c27 => ?_)
            · refine r_aload_n S rfl dX12_ways_43 ?_
              refine r_getR S (o' := 95) fk_X12_81 dX12_ways_44 rfl rfl (Nat.lt_of_lt_of_le (by decide) hn) rfl ?_
              refine r_iload_n S rfl dX12_ways_47 ?_
              refine r_dup2 S rfl rfl dX12_ways_48 ?_
              refine r_iald S (v := (-1)) dX12_ways_49 rfl rfl (Nat.lt_of_lt_of_le (by decide) hn) (by omega) (by omega) (by rw [up_s]) ?_
              refine r_iconst S dX12_ways_50 ?_
              refine r_iadd S dX12_ways_51 ?_
              refine r_iast S dX12_ways_52 rfl rfl (Nat.lt_of_lt_of_le (by decide) hn) (by omega) (by omega) ?_
              have P := ihk (s :: rc) (bond + gR NR TI rc s rc.length) (by rw [List.length_cons]; omega) hr.1 hr.2 Z 0 m b (up (up J 95 ((rc.length : Int) + 1) (-1)) 95 ((rc.length : Int) + 1) (-1 + 1)) x3 (by decide) (by omega) ((hJ.ob (by omega) _ _).ob (by omega) _ _)
              rw [el] at P
              refine P ⟨by rw [up_i (by omega), up_i (by omega)]; exact hrs, holdS_congr rc (fun j g0 g1 => by rw [up_i (by omega), up_i (by omega)]) hrow⟩ (up_s _ _ _ _) (by rw [up_o (by decide), up_o (by decide)]; exact hbd) hu (hb.same (by rw [up_o (by decide), up_o (by decide)]) (by rw [up_o (by decide), up_o (by decide)])) hbr ?_
              intro J' m' x3' g1 g2 g3 g4 g5
              rw [show (rc.length : Int) + 1 + (-1) = rc.length by omega]
              refine cont J' m' x3' g1 (fun i a c => ?_) (fun i a c => ?_) g4 g5
              · rw [g2 i a (by omega), up_i (by omega), up_i (by omega)]
              · rw [g3 i a (by omega), up_o (by decide), up_o (by decide)]
            · exact absurd c27 (by decide)
  obtain ⟨k', ek⟩ : ∃ k', H = k' + 1 := ⟨H - 1, by omega⟩
  have fin : ∀ (J' : Iv) (m' : Nat) (x3' : Option Value), mwOnly I J' → J' 97 0 = 0 → bstOk J' H (bestW NR TI H Z) → k 16 [some (.ref (gb G + 72)), some (.int (jI (((0 : Nat) : Int) + (-1)))), some (.int (jI (m' : Int))), x3'] [] n J' (rst bk dr pt) 0 0 := by
    intro J' m' x3' g1 g2 g3
    refine r_iload_n S rfl dX12_ways_16 ?_
    refine r_if_lt S (tgt := 277) dX12_ways_17 (by decide) (by decide) (fun c17 => ?_) (fun c17 => ?_)
    · refine r_vret SR dX12_ways_277 ⟨by decide, by decide⟩ ?_
      exact ⟨rfl, rfl, rfl, g1, g2, g3⟩
    · exact absurd c17 (by decide)
  refine r_aload_n S rfl dX12_ways_0 ?_
  refine r_iconst S dX12_ways_1 ?_
  refine r_putI S fk_X12_253 dX12_ways_2 rfl rfl (Nat.lt_of_lt_of_le (by decide) hn) (Or.inl rfl) (Or.inl rfl) ?_
  refine r_iconst S dX12_ways_5 ?_
  refine r_istore_n S dX12_ways_6 rfl rfl ?_
  refine r_iconst S dX12_ways_7 ?_
  refine r_istore_n S dX12_ways_8 rfl rfl ?_
  refine r_aload_n S rfl dX12_ways_9 ?_
  refine r_getR S (o' := 95) fk_X12_81 dX12_ways_10 rfl rfl (Nat.lt_of_lt_of_le (by decide) hn) rfl ?_
  refine r_iconst S dX12_ways_13 ?_
  refine r_iconst S dX12_ways_14 ?_
  refine r_iast S dX12_ways_15 rfl rfl (Nat.lt_of_lt_of_le (by decide) hn) (by omega) (by omega) ?_
  refine r_iload_n S rfl dX12_ways_16 ?_
  refine r_if_lt S (tgt := 277) dX12_ways_17 (by decide) (by decide) (fun c17 => ?_) (fun c17 => ?_)
  · exact absurd c17 (by decide)
  · refine r_aload_n S rfl dX12_ways_20 ?_
    refine r_getR S (o' := 95) fk_X12_81 dX12_ways_21 rfl rfl (Nat.lt_of_lt_of_le (by decide) hn) rfl ?_
    refine r_iload_n S rfl dX12_ways_24 ?_
    refine r_iald S (v := (-1)) dX12_ways_25 rfl rfl (Nat.lt_of_lt_of_le (by decide) hn) (by omega) (by omega) rfl ?_
    refine r_iconst S dX12_ways_26 ?_
    refine r_icmp_eq S (tgt := 43) dX12_ways_27 (by decide) (by decide) (by decide) (fun c27 => ?_) (fun c27 => ?_)
    · refine r_aload_n S rfl dX12_ways_43 ?_
      refine r_getR S (o' := 95) fk_X12_81 dX12_ways_44 rfl rfl (Nat.lt_of_lt_of_le (by decide) hn) rfl ?_
      refine r_iload_n S rfl dX12_ways_47 ?_
      refine r_dup2 S rfl rfl dX12_ways_48 ?_
      refine r_iald S (v := (-1)) dX12_ways_49 rfl rfl (Nat.lt_of_lt_of_le (by decide) hn) (by omega) (by omega) rfl ?_
      refine r_iconst S dX12_ways_50 ?_
      refine r_iadd S dX12_ways_51 ?_
      refine r_iast S dX12_ways_52 rfl rfl (Nat.lt_of_lt_of_le (by decide) hn) (by omega) (by omega) ?_
      have P := lev k' [] 0 (by show 0 + k' + 1 = H; omega) (fun x h => by cases h) (by decide) Z 0 0 (-1, []) (up (up (up I 72 42 (-1)) 95 0 (-1)) 95 0 (-1 + 1)) none (by decide) (by omega) (((mwOnly.rf I).put _).ob (by omega) _ _ |>.ob (by omega) _ _) trivial (up_s _ _ _ _) (by show _ = (0 : Int); rw [up_o (by decide), up_o (by decide), up_o (by decide)]; exact h0) used_nil ⟨by rw [up_o (by decide), up_o (by decide), up_s], Or.inl rfl⟩ (by decide) ?_
      · exact P
      · intro J' m' x3' g1 g2 g3 g4 g5
        refine fin J' m' x3' g1 ?_ ?_
        · rw [g3 0 (by decide) (by decide), up_o (by decide), up_o (by decide), up_o (by decide)]
          exact h0
        · have e : bestW NR TI H Z = dfs NR TI Z (k' + 1) [] 0 (-1, []) := by unfold bestW; rw [ek]
          rw [e]
          exact g5
    · exact absurd c27 (by decide)
end
