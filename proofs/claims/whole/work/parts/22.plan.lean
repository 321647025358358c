/-! ===== houses: who is next, what a month builds, the plan ===== -/
/-- of those before k who have no house (f is -1), the one whose month d is least, the first of several; -1: none -/
def nxt (f d : Int → Int) : Nat → Int
  | 0 => -1
  | k + 1 => if f (k : Int) = -1 ∧ (nxt f d k = -1 ∨ d (k : Int) < d (nxt f d k)) then (k : Int) else nxt f d k
theorem nxt_0 (f d : Int → Int) : nxt f d (0 : Int).toNat = -1 := rfl
theorem nxt_step (f d : Int → Int) {h : Int} (h0 : 0 ≤ h) : nxt f d (h + 1).toNat = if f h = -1 ∧ (nxt f d h.toNat = -1 ∨ d h < d (nxt f d h.toNat)) then h else nxt f d h.toNat := by
  have e : (h + 1).toNat = h.toNat + 1 := by omega
  have e2 : ((h.toNat : Nat) : Int) = h := by omega
  rw [e]
  show (if f ((h.toNat : Nat) : Int) = -1 ∧ (nxt f d h.toNat = -1 ∨ d ((h.toNat : Nat) : Int) < d (nxt f d h.toNat)) then ((h.toNat : Nat) : Int) else nxt f d h.toNat) = _
  rw [e2]
theorem nxt_range (f d : Int → Int) : ∀ k : Nat, nxt f d k = -1 ∨ (0 ≤ nxt f d k ∧ nxt f d k < k ∧ f (nxt f d k) = -1)
  | 0 => Or.inl rfl
  | k + 1 => by
    have ih := nxt_range f d k
    unfold nxt
    split
    · rename_i h
      exact Or.inr ⟨by omega, by omega, h.1⟩
    · rcases ih with h | ⟨h1, h2, h3⟩
      · exact Or.inl h
      · exact Or.inr ⟨h1, by omega, h3⟩
theorem nxt_congr {f f' d d' : Int → Int} : ∀ k : Nat, (∀ h : Int, 0 ≤ h → h < k → f h = f' h) → (∀ h : Int, 0 ≤ h → h < k → d h = d' h) → nxt f d k = nxt f' d' k
  | 0, _, _ => rfl
  | k + 1, hf, hd => by
    have ih := nxt_congr k (fun h h0 h1 => hf h h0 (by omega)) (fun h h0 h1 => hd h h0 (by omega))
    have hr := nxt_range f' d' k
    unfold nxt
    rw [ih, hf k (by omega) (by omega), hd k (by omega) (by omega)]
    rcases hr with h | ⟨h1, h2, -⟩
    · rw [h]
      simp
    · rw [hd (nxt f' d' k) h1 (by omega)]
/-- a house is built in month m, if someone wants one -/
def stp (d : Int → Int) (c : Nat) (m : Int) (f : Int → Int) : Int → Int := if nxt f d c = -1 then f else fun j => if j = nxt f d c then m else f j
def stpN (d : Int → Int) (c : Nat) (m : Int) : Nat → (Int → Int) → Int → Int
  | 0, f => f
  | q + 1, f => stpN d c m q (stp d c m f)
/-- q months from m on are built -/
def plF (d : Int → Int) (c : Nat) (bld : Int → Int) : Nat → Int → (Int → Int) → Int → Int
  | 0, _, f => f
  | q + 1, m, f => plF d c bld q (m + 1) (stpN d c m (bld m).toNat f)
theorem stp_none {d : Int → Int} {c : Nat} {m : Int} {f : Int → Int} (h : nxt f d c = -1) : stp d c m f = f := if_pos h
theorem stpN_none {d : Int → Int} {c : Nat} {m : Int} {f : Int → Int} (h : nxt f d c = -1) : ∀ q, stpN d c m q f = f
  | 0 => rfl
  | q + 1 => by
    unfold stpN
    rw [stp_none h]
    exact stpN_none h q
theorem plF_none {d : Int → Int} {c : Nat} {bld : Int → Int} {f : Int → Int} (h : nxt f d c = -1) : ∀ (q : Nat) (m : Int), plF d c bld q m f = f
  | 0, _ => rfl
  | q + 1, m => by
    unfold plF
    rw [stpN_none h]
    exact plF_none h q (m + 1)
theorem stp_some {d : Int → Int} {c : Nat} {m : Int} {f : Int → Int} (h : ¬ nxt f d c = -1) : stp d c m f = fun j => if j = nxt f d c then m else f j := if_neg h
theorem stp_congr {d d' f f' : Int → Int} {c : Nat} {m : Int} (hd : ∀ h : Int, 0 ≤ h → h < c → d h = d' h) (hf : ∀ h : Int, 0 ≤ h → h < c → f h = f' h) : ∀ h : Int, 0 ≤ h → h < c → stp d c m f h = stp d' c m f' h := by
  intro h h0 h1
  have e := nxt_congr c hf hd
  unfold stp
  rw [e]
  split
  · exact hf h h0 h1
  · simp only
    rw [hf h h0 h1]
theorem stpN_congr {d d' : Int → Int} {c : Nat} {m : Int} (hd : ∀ h : Int, 0 ≤ h → h < c → d h = d' h) : ∀ (q : Nat) {f f' : Int → Int}, (∀ h : Int, 0 ≤ h → h < c → f h = f' h) → ∀ h : Int, 0 ≤ h → h < c → stpN d c m q f h = stpN d' c m q f' h
  | 0, _, _, hf => hf
  | q + 1, _, _, hf => stpN_congr hd q (stp_congr hd hf)
theorem plF_congr {d d' bld bld' : Int → Int} {c : Nat} (hd : ∀ h : Int, 0 ≤ h → h < c → d h = d' h) : ∀ (q : Nat) (m : Int) {f f' : Int → Int}, (∀ j, m ≤ j → j < m + q → bld j = bld' j) → (∀ h : Int, 0 ≤ h → h < c → f h = f' h) → ∀ h : Int, 0 ≤ h → h < c → plF d c bld q m f h = plF d' c bld' q m f' h
  | 0, _, _, _, _, hf => hf
  | q + 1, m, _, _, hb, hf => by
    unfold plF
    rw [hb m (by omega) (by omega)]
    exact plF_congr hd q (m + 1) (fun j h0 h1 => hb j (by omega) (by omega)) (stpN_congr hd _ hf)
theorem stp_range {d f : Int → Int} {c : Nat} {m : Int} (h : Int) : stp d c m f h = f h ∨ stp d c m f h = m := by
  unfold stp
  split
  · exact Or.inl rfl
  · simp only
    split
    · exact Or.inr rfl
    · exact Or.inl rfl
theorem stpN_range {d : Int → Int} {c : Nat} {m : Int} (h : Int) : ∀ (q : Nat) (f : Int → Int), stpN d c m q f h = f h ∨ stpN d c m q f h = m
  | 0, _ => Or.inl rfl
  | q + 1, f => by
    unfold stpN
    rcases stpN_range (d := d) (c := c) (m := m) h q (stp d c m f) with e | e
    · rw [e]
      exact stp_range h
    · exact Or.inr e
theorem plF_range {d bld : Int → Int} {c : Nat} (h : Int) : ∀ (q : Nat) (m : Int) (f : Int → Int), plF d c bld q m f h = f h ∨ (m ≤ plF d c bld q m f h ∧ plF d c bld q m f h < m + q)
  | 0, _, _ => Or.inl rfl
  | q + 1, m, f => by
    unfold plF
    rcases plF_range (d := d) (bld := bld) (c := c) h q (m + 1) (stpN d c m (bld m).toNat f) with e | e
    · rw [e]
      rcases stpN_range (d := d) (c := c) (m := m) h (bld m).toNat f with e2 | e2
      · exact Or.inl e2
      · exact Or.inr (by omega)
    · exact Or.inr (by omega)
/-- who has a house keeps it -/
theorem stp_kept {d f : Int → Int} {c : Nat} {m : Int} {h : Int} (hh : ¬ f h = -1) : stp d c m f h = f h := by
  unfold stp
  split
  · rfl
  · simp only
    rw [if_neg]
    intro e
    rcases nxt_range f d c with q | ⟨-, -, q⟩
    · contradiction
    · rw [← e] at q
      contradiction
theorem stpN_kept {d : Int → Int} {c : Nat} {m : Int} {h : Int} : ∀ (q : Nat) (f : Int → Int), ¬ f h = -1 → stpN d c m q f h = f h
  | 0, _, _ => rfl
  | q + 1, f, hh => by
    have e := stp_kept (d := d) (c := c) (m := m) hh
    unfold stpN
    rw [stpN_kept q (stp d c m f) (by rw [e]; exact hh), e]
theorem plF_kept {d bld : Int → Int} {c : Nat} {h : Int} : ∀ (q : Nat) (m : Int) (f : Int → Int), ¬ f h = -1 → plF d c bld q m f h = f h
  | 0, _, _, _ => rfl
  | q + 1, m, f, hh => by
    have e := stpN_kept (d := d) (c := c) (m := m) (bld m).toNat f hh
    unfold plF
    rw [plF_kept q (m + 1) _ (by rw [e]; exact hh), e]
/-- a sum over 0 .. k - 1 -/
def sumF (g : Int → Int) : Nat → Int
  | 0 => 0
  | k + 1 => sumF g k + g (k : Int)
theorem sumF_step (g : Int → Int) {h : Int} (h0 : 0 ≤ h) : sumF g (h + 1).toNat = sumF g h.toNat + g h := by
  have e : (h + 1).toNat = h.toNat + 1 := by omega
  have e2 : ((h.toNat : Nat) : Int) = h := by omega
  rw [e]
  show sumF g h.toNat + g ((h.toNat : Nat) : Int) = _
  rw [e2]
theorem sumF_congr {g g' : Int → Int} : ∀ k : Nat, (∀ h : Int, 0 ≤ h → h < k → g h = g' h) → sumF g k = sumF g' k
  | 0, _ => rfl
  | k + 1, hg => by
    unfold sumF
    rw [sumF_congr k (fun h h0 h1 => hg h h0 (by omega)), hg k (by omega) (by omega)]
theorem sumF_01 {g : Int → Int} : ∀ k : Nat, (∀ h : Int, 0 ≤ h → h < k → g h = 0 ∨ g h = 1) → 0 ≤ sumF g k ∧ sumF g k ≤ k
  | 0, _ => ⟨by unfold sumF; omega, by unfold sumF; omega⟩
  | k + 1, hg => by
    have := sumF_01 k (fun h h0 h1 => hg h h0 (by omega))
    have := hg k (by omega) (by omega)
    unfold sumF
    omega
theorem up_fn (I : Iv) (o : Nat) (i v : Int) : up I o i v o = fun j => if j = i then v else I o j := by
  funext j
  simp [up]
section
variable (G : GE) (n : Nat) (I : Iv) (bk dr : Nat) (pt : Option Nat)
theorem c_X4_nextInLine (hn : 103 ≤ n) (h0 : 0 ≤ I 4 0) (h1 : I 4 0 ≤ 8) (h10 : ∀ j, 0 ≤ j → j < I 4 0 → rg (I 10 j)) (h12 : ∀ j, 0 ≤ j → j < I 4 0 → rg (I 12 j)) : Ct G yX4_nextInLine cX4_nextInLine 3 (some .int) 0 0 0 [.ref (gb G + 4)] n I (rst bk dr pt) (PI (nxt (I 10) (I 12) (I 4 0).toNat) n I (rst bk dr pt)) := by
  refine Ct.of [some (.ref (gb G + 4)), none, none] (by decide) rfl rfl rfl ?_
  intro k SR
  have S : Sem G RX4 "nextInLine" cX4_nextInLine 3 (rmD 0 0 0) k := SR.sem
  have loop : ∀ (q : Nat) (h : Int), 0 ≤ h → h ≤ I 4 0 → I 4 0 < h + q → k 4 [some (.ref (gb G + 4)), some (.int (jI (nxt (I 10) (I 12) h.toNat))), some (.int (jI h))] [] n I (rst bk dr pt) 0 0 := by
    intro q
    induction q with
    | zero => intro h _ _ _; omega
    | succ q ih =>
      intro h a0 a1 a2
      have hr := nxt_range (I 10) (I 12) h.toNat
      have hs := nxt_step (I 10) (I 12) a0
      obtain ⟨b, hb⟩ : ∃ b, b = nxt (I 10) (I 12) h.toNat := ⟨_, rfl⟩
      rw [← hb] at hr hs ⊢
      refine r_iload_n S rfl dX4_nextInLine_4 ?_
      refine r_aload_n S rfl dX4_nextInLine_5 ?_
      refine r_getI S (v := I 4 0) fk_X4_9 dX4_nextInLine_6 rfl rfl (Nat.lt_of_lt_of_le (by decide) hn) rfl ?_
      refine r_icmp_ge S (tgt := 50) dX4_nextInLine_9 (by decide) (by omega) (by omega) (fun c9 => ?_) (fun c9 => ?_)
      · refine r_iload_n S rfl dX4_nextInLine_50 ?_
        refine r_iret SR dX4_nextInLine_51 ⟨by decide, by decide⟩ ?_
        exact ⟨by rw [hb, show h = I 4 0 by omega], rfl, rfl, rfl⟩
      · refine r_aload_n S rfl dX4_nextInLine_12 ?_
        refine r_getR S (o' := 10) fk_X4_31 dX4_nextInLine_13 rfl rfl (Nat.lt_of_lt_of_le (by decide) hn) rfl ?_
        refine r_iload_n S rfl dX4_nextInLine_16 ?_
        refine r_iald S (v := I 10 h) dX4_nextInLine_17 rfl rfl (Nat.lt_of_lt_of_le (by decide) hn) (by omega) (by omega) rfl ?_
        refine r_iconst S dX4_nextInLine_18 ?_
        refine r_icmp_ne S (tgt := 44) dX4_nextInLine_19 (by decide) (h10 h (by omega) (by omega)) (by decide) (fun c19 => ?_) (fun c19 => ?_)
        · refine r_iinc S dX4_nextInLine_44 rfl rfl rfl ?_
          refine r_goto S (tgt := 4) dX4_nextInLine_47 (by decide) ?_
          have ih := ih (h + 1) (by omega) (by omega) (by omega)
          rw [hs] at ih
          first | (rw [if_pos (by omega)] at ih; exact ih) | (rw [if_neg (by omega)] at ih; exact ih)
        · refine r_iload_n S rfl dX4_nextInLine_22 ?_
          refine r_iconst S dX4_nextInLine_23 ?_
          refine r_icmp_eq S (tgt := 42) dX4_nextInLine_24 (by decide) (by omega) (by omega) (fun c24 => ?_) (fun c24 => ?_)
          · refine r_iload_n S rfl dX4_nextInLine_42 ?_
            refine r_istore_n S dX4_nextInLine_43 rfl rfl ?_
            refine r_iinc S dX4_nextInLine_44 rfl rfl rfl ?_
            refine r_goto S (tgt := 4) dX4_nextInLine_47 (by decide) ?_
            have ih := ih (h + 1) (by omega) (by omega) (by omega)
            rw [hs] at ih
            first | (rw [if_pos (by omega)] at ih; exact ih) | (rw [if_neg (by omega)] at ih; exact ih)
          · refine r_aload_n S rfl dX4_nextInLine_27 ?_
            refine r_getR S (o' := 12) fk_X4_38 dX4_nextInLine_28 rfl rfl (Nat.lt_of_lt_of_le (by decide) hn) rfl ?_
            refine r_iload_n S rfl dX4_nextInLine_31 ?_
            refine r_iald S (v := I 12 h) dX4_nextInLine_32 rfl rfl (Nat.lt_of_lt_of_le (by decide) hn) (by omega) (by omega) rfl ?_
            refine r_aload_n S rfl dX4_nextInLine_33 ?_
            refine r_getR S (o' := 12) fk_X4_38 dX4_nextInLine_34 rfl rfl (Nat.lt_of_lt_of_le (by decide) hn) rfl ?_
            refine r_iload_n S rfl dX4_nextInLine_37 ?_
            refine r_iald S (v := I 12 b) dX4_nextInLine_38 rfl rfl (Nat.lt_of_lt_of_le (by decide) hn) (by omega) (by omega) rfl ?_
            refine r_icmp_ge S (tgt := 44) dX4_nextInLine_39 (by decide) (h12 h (by omega) (by omega)) (h12 b (by omega) (by omega)) (fun c39 => ?_) (fun c39 => ?_)
            · refine r_iinc S dX4_nextInLine_44 rfl rfl rfl ?_
              refine r_goto S (tgt := 4) dX4_nextInLine_47 (by decide) ?_
              have ih := ih (h + 1) (by omega) (by omega) (by omega)
              rw [hs] at ih
              first | (rw [if_pos (by omega)] at ih; exact ih) | (rw [if_neg (by omega)] at ih; exact ih)
            · refine r_iload_n S rfl dX4_nextInLine_42 ?_
              refine r_istore_n S dX4_nextInLine_43 rfl rfl ?_
              refine r_iinc S dX4_nextInLine_44 rfl rfl rfl ?_
              refine r_goto S (tgt := 4) dX4_nextInLine_47 (by decide) ?_
              have ih := ih (h + 1) (by omega) (by omega) (by omega)
              rw [hs] at ih
              first | (rw [if_pos (by omega)] at ih; exact ih) | (rw [if_neg (by omega)] at ih; exact ih)
  refine r_iconst S dX4_nextInLine_0 ?_
  refine r_istore_n S dX4_nextInLine_1 rfl rfl ?_
  refine r_iconst S dX4_nextInLine_2 ?_
  refine r_istore_n S dX4_nextInLine_3 rfl rfl ?_
  exact loop ((I 4 0).toNat + 1) 0 (by omega) (by omega) (by omega)
/-- the month that is told of household h -/
abbrev drF (lev hgt vil : Int → Int) : Int → Int := fun h => fm lev (hgt (vil h))
theorem c_X4_beginPlan (hn : 103 ≤ n) (h0 : 0 ≤ I 4 0) (h1 : I 4 0 ≤ 8) (h2 : ∀ j, 0 ≤ j → j < 36 → rg (I 2 j)) (h3 : ∀ j, 0 ≤ j → j < 4 → rg (I 3 j)) (h5 : ∀ j, 0 ≤ j → j < I 4 0 → 0 ≤ I 5 j ∧ I 5 j ≤ 3) (h11 : ∀ j, 0 ≤ j → j < I 4 0 → rg (I 11 j)) : Ct G yX4_beginPlan cX4_beginPlan 3 none 2 0 0 [.ref (gb G + 4), .ref (gb G + 1)] n I (rst bk dr pt) (fun v n' I' ρ' => v = none ∧ n = n' ∧ rst bk dr pt = ρ' ∧ (∀ o, o ≠ 10 → o ≠ 12 → I' o = I o) ∧ (∀ h, 0 ≤ h → h < I 4 0 → I' 12 h = drF (I 2) (I 3) (I 5) h) ∧ ∀ h, 0 ≤ h → h < I 4 0 → I' 10 h = if I 11 h = 0 then -1 else I 10 h) := by
  refine Ct.of [some (.ref (gb G + 4)), some (.ref (gb G + 1)), none] (by decide) rfl rfl rfl ?_
  intro k SR
  have S : Sem G RX4 "beginPlan" cX4_beginPlan 3 (rmD 2 0 0) k := SR.sem
  have loop : ∀ (q : Nat) (h : Int) (J : Iv), 0 ≤ h → h ≤ I 4 0 → I 4 0 < h + q → (∀ o, o ≠ 10 → o ≠ 12 → J o = I o) → (∀ j, 0 ≤ j → j < h → J 12 j = drF (I 2) (I 3) (I 5) j) → (∀ j, 0 ≤ j → j < h → J 10 j = if I 11 j = 0 then -1 else I 10 j) → (∀ j, h ≤ j → J 10 j = I 10 j) → k 2 [some (.ref (gb G + 4)), some (.ref (gb G + 1)), some (.int (jI h))] [] n J (rst bk dr pt) 0 0 := by
    intro q
    induction q with
    | zero => intro h _ _ _ _; omega
    | succ q ih =>
      intro h J a0 a1 a2 jo j12 j10 j10b
      have e4 := congrFun (jo 4 (by decide) (by decide)) 0
      have e5 := congrFun (jo 5 (by decide) (by decide)) h
      have e11 := congrFun (jo 11 (by decide) (by decide)) h
      have e2 := jo 2 (by decide) (by decide)
      have e3 := jo 3 (by decide) (by decide)
      refine r_iload_n S rfl dX4_beginPlan_2 ?_
      refine r_aload_n S rfl dX4_beginPlan_3 ?_
      refine r_getI S (v := J 4 0) fk_X4_9 dX4_beginPlan_4 rfl rfl (Nat.lt_of_lt_of_le (by decide) hn) rfl ?_
      refine r_icmp_ge S (tgt := 48) dX4_beginPlan_7 (by decide) (by omega) (by omega) (fun c7 => ?_) (fun c7 => ?_)
      · refine r_vret SR dX4_beginPlan_48 ⟨by decide, by decide⟩ ?_
        exact ⟨rfl, rfl, rfl, jo, fun j b0 b1 => j12 j b0 (by omega), fun j b0 b1 => j10 j b0 (by omega)⟩
      · refine r_aload_n S rfl dX4_beginPlan_10 ?_
        refine r_getR S (o' := 12) fk_X4_38 dX4_beginPlan_11 rfl rfl (Nat.lt_of_lt_of_le (by decide) hn) rfl ?_
        refine r_iload_n S rfl dX4_beginPlan_14 ?_
        refine r_aload_n S rfl dX4_beginPlan_15 ?_
        refine r_aload_n S rfl dX4_beginPlan_16 ?_
        refine r_getR S (o' := 5) fk_X4_15 dX4_beginPlan_17 rfl rfl (Nat.lt_of_lt_of_le (by decide) hn) rfl ?_
        refine r_iload_n S rfl dX4_beginPlan_20 ?_
        refine r_iald S (v := J 5 h) dX4_beginPlan_21 rfl rfl (Nat.lt_of_lt_of_le (by decide) hn) (by omega) (by omega) rfl ?_
        refine r_callV S lk_X4_60 mk_X3_monthOf (c_X3_monthOf G n J bk dr pt hn (by have := h5 h (by omega) (by omega); omega) (by rw [e2]; exact h2) (by rw [e3]; exact h3)) rfl (Nat.lt_of_lt_of_le (by decide) hn) rfl rfl rfl (Nat.le_of_ble_eq_true rfl) ⟨by decide, by decide⟩ rfl ⟨by decide, by decide⟩ dX4_beginPlan_22 ?_
        rintro _ _ _ _ ⟨rfl, rfl, rfl, rfl⟩
        refine r_iast S dX4_beginPlan_25 rfl rfl (Nat.lt_of_lt_of_le (by decide) hn) (by omega) (by omega) ?_
        refine r_aload_n S rfl dX4_beginPlan_26 ?_
        refine r_getR S (o' := 11) fk_X4_34 dX4_beginPlan_27 rfl rfl (Nat.lt_of_lt_of_le (by decide) hn) rfl ?_
        refine r_iload_n S rfl dX4_beginPlan_30 ?_
        refine r_bald S (v := J 11 h) dX4_beginPlan_31 rfl rfl (Nat.lt_of_lt_of_le (by decide) hn) (by omega) (by omega) rfl ?_
        refine r_if_ne S (tgt := 42) dX4_beginPlan_32 (by decide) (by rw [e11]; exact h11 h (by omega) (by omega)) (fun c32 => ?_) (fun c32 => ?_)
        · refine r_iinc S dX4_beginPlan_42 rfl rfl rfl ?_
          refine r_goto S (tgt := 2) dX4_beginPlan_45 (by decide) ?_
          have hv := h5 h (by omega) (by omega)
          refine ih (h + 1) _ (by omega) (by omega) (by omega) ?_ ?_ ?_ ?_
          · intro o o1 o2
            first | rw [up_o o1, up_o o2, jo o o1 o2] | rw [up_o o2, jo o o1 o2]
          · intro j b0 b1
            by_cases e : j = h
            · subst e
              first | rw [up_o (by decide), up_s, if_pos (by omega), e2, e3, e5] | rw [up_s, if_pos (by omega), e2, e3, e5]
            · first | rw [up_o (by decide), up_i e] | rw [up_i e]
              exact j12 j b0 (by omega)
          · intro j b0 b1
            by_cases e : j = h
            · subst e
              first | rw [up_s, if_pos (by omega)] | (rw [up_o (by decide), if_neg (by omega)]; exact j10b j (by omega))
            · first | rw [up_i e, up_o (by decide)] | rw [up_o (by decide)]
              exact j10 j b0 (by omega)
          · intro j b0
            first | rw [up_i (by omega), up_o (by decide)] | rw [up_o (by decide)]
            exact j10b j (by omega)
        · refine r_aload_n S rfl dX4_beginPlan_35 ?_
          refine r_getR S (o' := 10) fk_X4_31 dX4_beginPlan_36 rfl rfl (Nat.lt_of_lt_of_le (by decide) hn) rfl ?_
          refine r_iload_n S rfl dX4_beginPlan_39 ?_
          refine r_iconst S dX4_beginPlan_40 ?_
          refine r_iast S dX4_beginPlan_41 rfl rfl (Nat.lt_of_lt_of_le (by decide) hn) (by omega) (by omega) ?_
          refine r_iinc S dX4_beginPlan_42 rfl rfl rfl ?_
          refine r_goto S (tgt := 2) dX4_beginPlan_45 (by decide) ?_
          have hv := h5 h (by omega) (by omega)
          refine ih (h + 1) _ (by omega) (by omega) (by omega) ?_ ?_ ?_ ?_
          · intro o o1 o2
            first | rw [up_o o1, up_o o2, jo o o1 o2] | rw [up_o o2, jo o o1 o2]
          · intro j b0 b1
            by_cases e : j = h
            · subst e
              first | rw [up_o (by decide), up_s, if_pos (by omega), e2, e3, e5] | rw [up_s, if_pos (by omega), e2, e3, e5]
            · first | rw [up_o (by decide), up_i e] | rw [up_i e]
              exact j12 j b0 (by omega)
          · intro j b0 b1
            by_cases e : j = h
            · subst e
              first | rw [up_s, if_pos (by omega)] | (rw [up_o (by decide), if_neg (by omega)]; exact j10b j (by omega))
            · first | rw [up_i e, up_o (by decide)] | rw [up_o (by decide)]
              exact j10 j b0 (by omega)
          · intro j b0
            first | rw [up_i (by omega), up_o (by decide)] | rw [up_o (by decide)]
            exact j10b j (by omega)
  refine r_iconst S dX4_beginPlan_0 ?_
  refine r_istore_n S dX4_beginPlan_1 rfl rfl ?_
  exact loop ((I 4 0).toNat + 1) 0 I (by omega) (by omega) (by omega) (fun _ _ _ => rfl) (fun j b0 b1 => by omega) (fun j b0 b1 => by omega) (fun _ _ => rfl)
/-- the plan: houses of those who have none yet, month by month -/
abbrev plan0 (rdy hs : Int → Int) : Int → Int := fun h => if rdy h = 0 then -1 else hs h
theorem c_X0_plan (hn : 103 ≤ n) {t : Int} (t0 : 0 ≤ t) (t1 : t ≤ 35) (h0 : 0 ≤ I 4 0) (h1 : I 4 0 ≤ 8) (h2 : ∀ j, 0 ≤ j → j < 36 → rg (I 2 j)) (h3 : ∀ j, 0 ≤ j → j < 4 → rg (I 3 j)) (h5 : ∀ j, 0 ≤ j → j < I 4 0 → 0 ≤ I 5 j ∧ I 5 j ≤ 3) (h10 : ∀ j, 0 ≤ j → j < I 4 0 → rg (I 10 j)) (h11 : ∀ j, 0 ≤ j → j < I 4 0 → rg (I 11 j)) (h15 : ∀ j, 0 ≤ j → j < 36 → 0 ≤ I 15 j ∧ I 15 j ≤ 8) : Ct G yX0_plan cX0_plan 7 none 3 0 0 [.ref (gb G + 14), .ref (gb G + 4), .ref (gb G + 1), .int (jI t)] n I (rst bk dr pt) (fun v n' I' ρ' => v = none ∧ n = n' ∧ rst bk dr pt = ρ' ∧ (∀ o, o ≠ 10 → o ≠ 12 → I' o = I o) ∧ (∀ h, 0 ≤ h → h < I 4 0 → I' 12 h = drF (I 2) (I 3) (I 5) h) ∧ ∀ h, 0 ≤ h → h < I 4 0 → I' 10 h = plF (drF (I 2) (I 3) (I 5)) (I 4 0).toNat (I 15) (36 - t).toNat t (plan0 (I 11) (I 10)) h) := by
  refine Ct.of [some (.ref (gb G + 14)), some (.ref (gb G + 4)), some (.ref (gb G + 1)), some (.int (jI t)), none, none, none] (by decide) rfl rfl rfl ?_
  intro k SR
  have S : Sem G RX0 "plan" cX0_plan 7 (rmD 3 0 0) k := SR.sem
  have ht : max t 0 = t := by omega
  have ec : (((I 4 0).toNat : Nat) : Int) = I 4 0 := by omega
  -- the world after beginPlan: J1; D its months, F its houses
  have outer : ∀ (D : Int → Int), (∀ h, 0 ≤ h → h < I 4 0 → D h = drF (I 2) (I 3) (I 5) h) → ∀ (q : Nat) (m : Int) (J : Iv), t ≤ m → m ≤ 36 → 36 < m + q → (∀ o, o ≠ 10 → o ≠ 12 → J o = I o) → J 12 = D → (∀ j, 0 ≤ j → j < I 4 0 → rg (J 10 j)) → ((∀ h, 0 ≤ h → h < I 4 0 → plF D (I 4 0).toNat (I 15) (36 - m).toNat m (J 10) h = plF (drF (I 2) (I 3) (I 5)) (I 4 0).toNat (I 15) (36 - t).toNat t (plan0 (I 11) (I 10)) h)) → k 12 [some (.ref (gb G + 14)), some (.ref (gb G + 4)), some (.ref (gb G + 1)), some (.int (jI t)), some (.int (jI m)), none, none] [] n J (rst bk dr pt) 0 0 := by
    intro D hD q
    have hDr : ∀ j, 0 ≤ j → j < I 4 0 → rg (D j) := fun j b0 b1 => by
      rw [hD j b0 b1]
      have := fm_range (I 2) (I 3 (I 5 j))
      show rg (fm (I 2) (I 3 (I 5 j)))
      exact ⟨by omega, by omega⟩
    induction q with
    | zero => intro m _ _ _ _; omega
    | succ q ih =>
      intro m J a0 a1 a2 jo j12 jr jp
      have inner : m < 36 → ∀ (q2 : Nat) (i : Int) (J2 : Iv), 0 ≤ i → i ≤ I 15 m → I 15 m < i + q2 → (∀ o, o ≠ 10 → o ≠ 12 → J2 o = I o) → J2 12 = D → (∀ j, 0 ≤ j → j < I 4 0 → rg (J2 10 j)) → stpN D (I 4 0).toNat m (I 15 m - i).toNat (J2 10) = stpN D (I 4 0).toNat m (I 15 m).toNat (J 10) → k 22 [some (.ref (gb G + 14)), some (.ref (gb G + 4)), some (.ref (gb G + 1)), some (.int (jI t)), some (.int (jI m)), some (.int (jI i)), none] [] n J2 (rst bk dr pt) 0 0 := by
        intro hm q2
        have hbm := h15 m (by omega) (by omega)
        induction q2 with
        | zero => intro i _ _ _ _; omega
        | succ q2 ih2 =>
          intro i J2 b0 b1 b2 jo2 j122 jr2 js
          have e4 : J2 4 0 = I 4 0 := congrFun (jo2 4 (by decide) (by decide)) 0
          have e15 : J2 15 m = I 15 m := congrFun (jo2 15 (by decide) (by decide)) m
          have hr := nxt_range (J2 10) D (I 4 0).toNat
          have hpl : plF D (I 4 0).toNat (I 15) (36 - m).toNat m (J 10) = plF D (I 4 0).toNat (I 15) (36 - (m + 1)).toNat (m + 1) (stpN D (I 4 0).toNat m (I 15 m - i).toNat (J2 10)) := by
            rw [show (36 - m).toNat = (36 - (m + 1)).toNat + 1 by omega, js]
            rfl
          obtain ⟨b, hb⟩ : ∃ b, b = nxt (J2 10) D (I 4 0).toNat := ⟨_, rfl⟩
          rw [← hb] at hr
          refine r_iload S rfl dX0_plan_22 ?_
          refine r_aload_n S rfl dX0_plan_24 ?_
          refine r_getR S (o' := 15) fk_X0_9 dX0_plan_25 rfl rfl (Nat.lt_of_lt_of_le (by decide) hn) rfl ?_
          refine r_iload S rfl dX0_plan_28 ?_
          refine r_iald S (v := J2 15 m) dX0_plan_30 rfl rfl (Nat.lt_of_lt_of_le (by decide) hn) (by omega) (by omega) rfl ?_
          refine r_icmp_ge S (tgt := 61) dX0_plan_31 (by decide) (by omega) (by omega) (fun c31 => ?_) (fun c31 => ?_)
          · refine r_iinc S dX0_plan_61 rfl rfl rfl ?_
            refine r_goto S (tgt := 12) dX0_plan_64 (by decide) ?_
            refine r_drop S 5 ?_
            refine ih (m + 1) J2 (by omega) (by omega) (by omega) jo2 j122 jr2 (fun j g0 g1 => ?_)
            rw [← jp j g0 g1, hpl, show (I 15 m - i).toNat = 0 by omega]
            rfl
          · refine r_aload_n S rfl dX0_plan_34 ?_
            refine r_callV S lk_X0_31 mk_X4_nextInLine (c_X4_nextInLine G n J2 bk dr pt hn (by omega) (by omega) (by rw [e4]; exact jr2) (by rw [e4, j122]; exact hDr)) rfl (Nat.lt_of_lt_of_le (by decide) hn) rfl rfl rfl (Nat.le_of_ble_eq_true rfl) ⟨by decide, by decide⟩ rfl ⟨by decide, by decide⟩ dX0_plan_35 ?_
            rintro _ _ _ _ ⟨rfl, rfl, rfl, rfl⟩
            rw [e4, j122, ← hb]
            refine r_istore S dX0_plan_38 rfl rfl ?_
            refine r_iload S rfl dX0_plan_40 ?_
            refine r_iconst S dX0_plan_42 ?_
            refine r_icmp_ne S (tgt := 47) dX0_plan_43 (by decide) (by omega) (by omega) (fun c43 => ?_) (fun c43 => ?_)
            · refine r_aload_n S rfl dX0_plan_47 ?_
              refine r_iload S rfl dX0_plan_48 ?_
              refine r_iload S rfl dX0_plan_50 ?_
              refine r_callV S lk_X0_35 mk_X4_planHouse (c_X4_planHouse G n J2 bk dr pt hn (a := b) (by omega) (by omega) (by omega)) rfl (Nat.lt_of_lt_of_le (by decide) hn) rfl rfl rfl (Nat.le_of_ble_eq_true rfl) ⟨by decide, by decide⟩ rfl ⟨by decide, by decide⟩ dX0_plan_52 ?_
              rintro _ _ _ _ ⟨rfl, rfl, rfl, rfl⟩
              refine r_iinc S dX0_plan_55 rfl rfl rfl ?_
              refine r_goto S (tgt := 22) dX0_plan_58 (by decide) ?_
              refine r_drop S 6 ?_
              have hstp : stp D (I 4 0).toNat m (J2 10) = up J2 10 b m 10 := by
                rw [stp_some (by rw [← hb]; exact c43), up_fn, ← hb]
              refine ih2 (i + 1) _ (by omega) (by omega) (by omega) (fun o o1 o2 => by rw [up_o o1]; exact jo2 o o1 o2) (by rw [up_o (by decide)]; exact j122) (fun j g0 g1 => ?_) ?_
              · by_cases e : j = b
                · subst e
                  rw [up_s]
                  exact ⟨by omega, by omega⟩
                · rw [up_i e]
                  exact jr2 j g0 g1
              · rw [← js, show (I 15 m - i).toNat = (I 15 m - (i + 1)).toNat + 1 by omega, ← hstp]
                rfl
            · refine r_vret SR dX0_plan_46 ⟨by decide, by decide⟩ ?_
              refine ⟨rfl, rfl, rfl, jo2, fun j g0 g1 => by rw [j122]; exact hD j g0 g1, fun j g0 g1 => ?_⟩
              rw [← jp j g0 g1, hpl, stpN_none (by rw [← hb]; exact c43), plF_none (by rw [← hb]; exact c43)]
      refine r_iload S rfl dX0_plan_12 ?_
      refine r_bipush S (by decide +kernel) dX0_plan_14 ?_
      refine r_icmp_ge S (tgt := 67) dX0_plan_16 (by decide) (by omega) (by omega) (fun c16 => ?_) (fun c16 => ?_)
      · refine r_vret SR dX0_plan_67 ⟨by decide, by decide⟩ ?_
        refine ⟨rfl, rfl, rfl, jo, fun j g0 g1 => by rw [j12]; exact hD j g0 g1, fun j g0 g1 => ?_⟩
        rw [← jp j g0 g1, show (36 - m).toNat = 0 by omega]
        rfl
      · refine r_iconst S dX0_plan_19 ?_
        refine r_istore S dX0_plan_20 rfl rfl ?_
        exact inner c16 ((I 15 m).toNat + 1) 0 J (by omega) (h15 m (by omega) (by omega)).1 (by have := h15 m (by omega) (by omega); omega) jo j12 jr (by rw [Int.sub_zero])
  refine r_aload_n S rfl dX0_plan_0 ?_
  refine r_aload_n S rfl dX0_plan_1 ?_
  refine r_callV S lk_X0_19 mk_X4_beginPlan (c_X4_beginPlan G n I bk dr pt hn h0 h1 h2 h3 h5 h11) rfl (Nat.lt_of_lt_of_le (by decide) hn) rfl rfl rfl (Nat.le_of_ble_eq_true rfl) ⟨by decide, by decide⟩ rfl ⟨by decide, by decide⟩ dX0_plan_2 ?_
  rintro _ _ J _ ⟨rfl, rfl, rfl, jo, j12, j10⟩
  refine r_iload_n S rfl dX0_plan_5 ?_
  refine r_iconst S dX0_plan_6 ?_
  refine r_mmax S lk_X0_25 (by omega) (by omega) (by decide) (Nat.le_of_ble_eq_true rfl) rfl ⟨by decide, by decide⟩ dX0_plan_7 ?_
  refine r_istore S dX0_plan_10 rfl rfl ?_
  rw [ht]
  refine outer (J 12) j12 (37 - t).toNat t J (by omega) (by omega) (by omega) jo rfl (fun j g0 g1 => ?_) (fun j g0 g1 => ?_)
  · rw [j10 j g0 g1]
    split
    · decide
    · exact h10 j g0 g1
  · exact plF_congr (fun h g2 g3 => j12 h g2 (by omega)) _ _ (fun _ _ _ => rfl) (fun h g2 g3 => j10 h g2 (by omega)) j g0 (by omega)
end
