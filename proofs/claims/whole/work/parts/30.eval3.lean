theorem ev_congr {fx fx' : Int → Int} (h : ∀ k, 1 ≤ k → k ≤ 4 → fx k = fx' k) : ∀ (c : List (Int × Int)) (st : List Int), ev fx c st = ev fx' c st
  | [], _ => rfl
  | s :: l, st => by
    have e : ev1 fx s st = ev1 fx' s st := by
      unfold ev1
      by_cases q : 1 ≤ s.1 ∧ s.1 ≤ 4
      · rw [if_pos q, if_pos q, h _ q.1 q.2]
      · rw [if_neg q, if_neg q]
    show ev fx l (ev1 fx s st) = ev fx' l (ev1 fx' s st)
    rw [e]
    exact ev_congr h l _
theorem ruleS_congr {fx fx' : Int → Int} (h : ∀ k, 1 ≤ k → k ≤ 4 → fx k = fx' k) : ∀ (rs : List (List (Int × Int) × List (Int × Int))) (i : Nat), ruleS fx rs i = ruleS fx' rs i
  | [], _ => rfl
  | r :: rs, i => by
    unfold ruleS
    rw [ev_congr h, ruleS_congr h rs]
theorem dueS_congr {fx fx' : Int → Int} (h : ∀ k, 1 ≤ k → k ≤ 4 → fx k = fx' k) : ∀ (rs : List (List (Int × Int) × List (Int × Int))), dueS fx rs = dueS fx' rs
  | [] => rfl
  | r :: rs => by
    unfold dueS
    rw [ev_congr h, ev_congr h r.1, dueS_congr h rs]
theorem clampD_range (v : Int) : 0 ≤ clampD v ∧ clampD v ≤ 9999 := by
  unfold clampD
  omega
theorem dueS_range (fx : Int → Int) : ∀ rs : List (List (Int × Int) × List (Int × Int)), 0 ≤ dueS fx rs ∧ dueS fx rs ≤ 9999
  | [] => ⟨by unfold dueS; omega, by unfold dueS; omega⟩
  | r :: rs => by
    unfold dueS
    split
    · exact clampD_range _
    · exact dueS_range fx rs
section
variable (G : GE) (n : Nat) (I : Iv) (ρ : Rv) (o : Nat)
theorem c_X6_dueBy (hB : BkOk n ρ o) (rs : List (List (Int × Int) × List (Int × Int))) (h0 : I o 0 = rs.length) (h1 : rs.length ≤ 10) (hb : bookP (I (o + 1)) (I (o + 2)) (I (o + 3)) (I (o + 4)) rs 0) (hf : ∀ j, 0 ≤ j → j < 4 → rg (I 13 j)) {a : Int} (ha : a = ruleS (fxC I) rs 0) : Ct G yX6_dueBy cX6_dueBy 4 (some .int) 4 0 0 [.ref (gb G + o), .int (jI a), .ref (gb G + 13)] n I ρ (fun v n' I' ρ' => v = some (.int (jI (dueS (fxC I) rs))) ∧ n = n' ∧ ρ = ρ' ∧ stkOnly o I I') := by
  refine Ct.of [some (.ref (gb G + o)), some (.int (jI a)), some (.ref (gb G + 13)), none] (by decide) rfl rfl rfl ?_
  intro k SR
  have S : Sem G RX6 "dueBy" cX6_dueBy 4 (rmD 4 0 0) k := SR.sem
  have hB' := hB
  obtain ⟨k0, k1, k2, k3, k4, k5, r2, r3, r4, r5, r7, l0, l1, hn⟩ := hB
  have hr := ruleS_range (fxC I) rs 0
  have hd := dueS_at (fxC I) rs 0
  rw [← ha] at hr hd
  have fin : ∀ r : List (Int × Int) × List (Int × Int), 0 ≤ I (o + 2) a → I (o + 3) a = I (o + 2) a + (flat r.1).length → I (o + 3) a ≤ 400 → seg (I (o + 1)) (I (o + 2) a) (flat r.1) → okS r.1 0 1 → 0 ≤ a → a < 10 → dueS (fxC I) rs = clampD ((ev (fxC I) r.1 []).headD 0) → k 14 [some (.ref (gb G + o)), some (.int (jI a)), some (.ref (gb G + 13)), none] [] n I ρ 0 0 := by
    intro r b1 b2' b4 b5 b7 a0 a1 hd
    refine r_aload_n S rfl dX6_dueBy_14 ?_
    refine r_aload_n S rfl dX6_dueBy_15 ?_
    refine r_getR S (o' := (o + 2)) fk_X6_22 dX6_dueBy_16 k0 rfl (by omega) r3 ?_
    refine r_iload_n S rfl dX6_dueBy_19 ?_
    refine r_iald S (v := I (o + 2) a) dX6_dueBy_20 k2 rfl (by omega) (by omega) (by omega) rfl ?_
    refine r_aload_n S rfl dX6_dueBy_21 ?_
    refine r_getR S (o' := (o + 3)) fk_X6_25 dX6_dueBy_22 k0 rfl (by omega) r4 ?_
    refine r_iload_n S rfl dX6_dueBy_25 ?_
    refine r_iald S (v := I (o + 3) a) dX6_dueBy_26 k3 rfl (by omega) (by omega) (by omega) rfl ?_
    refine r_aload_n S rfl dX6_dueBy_27 ?_
    refine r_callV S lk_X6_47 mk_X6_run (c_X6_run G n I ρ o hB' (flat r.1) b1 b2' b4 b5 (okC_flat _ _ _ b7) hf) k0 (by omega) rfl rfl rfl (Nat.le_of_ble_eq_true rfl) ⟨by decide, by decide⟩ rfl ⟨by decide, by decide⟩ dX6_dueBy_28 ?_
    rintro _ _ J2 _ ⟨⟨w, rfl, hw, hev⟩, rfl, rfl, hJ2⟩
    have hev := ec_one b7 hev
    rw [hev] at hd
    refine r_istore_n S dX6_dueBy_31 rfl rfl ?_
    refine r_iconst S dX6_dueBy_32 ?_
    refine r_sipush S (by decide +kernel) dX6_dueBy_33 ?_
    refine r_iload_n S rfl dX6_dueBy_36 ?_
    refine r_mmin S lk_X6_51 (by decide) hw (by decide) (Nat.le_of_ble_eq_true rfl) rfl ⟨by decide, by decide⟩ dX6_dueBy_37 ?_
    refine r_mmax S lk_X6_57 (by decide) (by omega) (by decide) (Nat.le_of_ble_eq_true rfl) rfl ⟨by decide, by decide⟩ dX6_dueBy_40 ?_
    refine r_iret SR dX6_dueBy_43 ⟨by decide, by decide⟩ ?_
    exact ⟨by rw [hd]; rfl, rfl, rfl, hJ2⟩
  refine r_iload_n S rfl dX6_dueBy_0 ?_
  refine r_if_lt S (tgt := 12) dX6_dueBy_1 (by decide) (by omega) (fun c1 => ?_) (fun c1 => ?_)
  · refine r_iconst S dX6_dueBy_12 ?_
    refine r_iret SR dX6_dueBy_13 ⟨by decide, by decide⟩ ?_
    exact ⟨by rw [hd, if_pos (by omega)], rfl, rfl, stkOnly.rf o I⟩
  · refine r_iload_n S rfl dX6_dueBy_4 ?_
    refine r_aload_n S rfl dX6_dueBy_5 ?_
    refine r_getI S (v := I o 0) fk_X6_9 dX6_dueBy_6 k0 rfl (by omega) rfl ?_
    refine r_icmp_lt S (tgt := 14) dX6_dueBy_9 (by decide) (by omega) (by omega) (fun c9 => ?_) (fun c9 => ?_)
    · have ha0 : 0 ≤ a := by omega
      have hna : ¬ a = -1 := by omega
      rw [if_neg hna] at hd
      have hlt : a.toNat < rs.length := by omega
      obtain ⟨bb, -⟩ := bookP_nth rs 0 a.toNat hb hlt
      obtain ⟨r, l, er⟩ : ∃ r l, rs.drop a.toNat = r :: l := by
        cases hh : rs.drop a.toNat with
        | nil => exact absurd hh (bookP_nth rs 0 a.toNat hb hlt).2
        | cons r l => exact ⟨r, l, rfl⟩
      have eg : rs.getD (a - ((0 : Nat) : Int)).toNat ([], []) = r := by
        rw [show (a - ((0 : Nat) : Int)).toNat = a.toNat by omega, List.getD_eq_getElem?_getD, show rs[a.toNat]? = (rs.drop a.toNat)[0]? by rw [List.getElem?_drop, Nat.add_zero], er]
        rfl
      rw [er] at bb
      obtain ⟨b1, b2', b3, b4, b5, b6, b7, b8, b9⟩ := bb
      rw [show (((0 + a.toNat : Nat)) : Int) = a by omega] at b1 b2' b3 b4 b5 b6
      rw [eg] at hd
      exact fin r b1 b2' (by omega) b5 b7 (by omega) (by omega) hd
    · refine r_iconst S dX6_dueBy_12 ?_
      refine r_iret SR dX6_dueBy_13 ⟨by decide, by decide⟩ ?_
      exact ⟨by rw [hd, if_pos (by omega)], rfl, rfl, stkOnly.rf o I⟩
end

/-- what rules can ask of household h -/
def fxH (I : Iv) (h : Int) : Int → Int := fun k => if k = 1 then I 6 h else if k = 2 then I 7 h else if k = 3 then I 8 h else I 9 h
/-- the world with h's facts in the row -/
def facI (I : Iv) (h : Int) : Iv := up (up (up (up I 13 0 (I 6 h)) 13 1 (I 7 h)) 13 2 (I 8 h)) 13 3 (I 9 h)
theorem facI_o {I : Iv} {h : Int} {o : Nat} (ho : o ≠ 13) : facI I h o = I o := by unfold facI; rw [up_o ho, up_o ho, up_o ho, up_o ho]
theorem facI_fx (I : Iv) (h : Int) : ∀ k, 1 ≤ k → k ≤ 4 → fxC (facI I h) k = fxH I h k := by
  intro k h0 h1
  have : k = 1 ∨ k = 2 ∨ k = 3 ∨ k = 4 := by omega
  rcases this with rfl | rfl | rfl | rfl <;> rfl
theorem facI_rg {I : Iv} {h : Int} (h6 : rg (I 6 h)) (h7 : rg (I 7 h)) (h8 : rg (I 8 h)) (h9 : rg (I 9 h)) : ∀ j, 0 ≤ j → j < 4 → rg (facI I h 13 j) := by
  intro j g0 g1
  have : j = 0 ∨ j = 1 ∨ j = 2 ∨ j = 3 := by omega
  rcases this with rfl | rfl | rfl | rfl
  · exact h6
  · exact h7
  · exact h8
  · exact h9
section
variable (G : GE) (n : Nat) (I : Iv) (bk dr : Nat) (pt : Option Nat)
theorem c_X4_factsOf (hn : 103 ≤ n) {a : Int} (a0 : 0 ≤ a) (a1 : a < I 4 0) (h1 : I 4 0 ≤ 8) : Ct G yX4_factsOf cX4_factsOf 2 (some (.array .int)) 3 0 0 [.ref (gb G + 4), .int (jI a)] n I (rst bk dr pt) (fun v n' I' ρ' => v = some (.ref (gb G + 13)) ∧ n = n' ∧ facI I a = I' ∧ rst bk dr pt = ρ') := by
  refine Ct.of [some (.ref (gb G + 4)), some (.int (jI a))] (by decide) rfl rfl rfl ?_
  intro k SR
  have S : Sem G RX4 "factsOf" cX4_factsOf 2 (rmD 3 0 0) k := SR.sem
  refine r_aload_n S rfl dX4_factsOf_0 ?_
  refine r_iload_n S rfl dX4_factsOf_1 ?_
  refine r_callV S lk_X4_50 mk_X4_has (c_X4_has G n I bk dr pt hn ⟨by omega, by omega⟩ ⟨by omega, by omega⟩) rfl (Nat.lt_of_lt_of_le (by decide) hn) rfl rfl rfl (Nat.le_of_ble_eq_true rfl) ⟨by decide, by decide⟩ rfl ⟨by decide, by decide⟩ dX4_factsOf_2 ?_
  rintro _ _ _ _ ⟨rfl, rfl, rfl, rfl⟩
  refine r_ifb_eq S (tgt := 71) dX4_factsOf_5 (by decide)  (fun c5 => ?_) (fun c5 => ?_)
  · exact absurd c5 (by omega)
  · refine r_aload_n S rfl dX4_factsOf_8 ?_
    refine r_getR S (o' := 13) fk_X4_43 dX4_factsOf_9 rfl rfl (Nat.lt_of_lt_of_le (by decide) hn) rfl ?_
    refine r_iconst S dX4_factsOf_12 ?_
    refine r_callS S lk_X4_56 mk_X6_factAt (c_X6_factAt G n I _ (a := -1) (by decide)) rfl rfl (Nat.le_of_ble_eq_true rfl) ⟨by decide, by decide⟩ rfl ⟨by decide, by decide⟩ dX4_factsOf_13 ?_
    rintro _ _ _ _ ⟨rfl, rfl, rfl, rfl⟩
    refine r_aload_n S rfl dX4_factsOf_16 ?_
    refine r_getR S (o' := 6) fk_X4_19 dX4_factsOf_17 rfl rfl (Nat.lt_of_lt_of_le (by decide) hn) rfl ?_
    refine r_iload_n S rfl dX4_factsOf_20 ?_
    refine r_iald S (v := I 6 a) dX4_factsOf_21 rfl rfl (Nat.lt_of_lt_of_le (by decide) hn) (by omega) (by omega) rfl ?_
    refine r_iast S dX4_factsOf_22 rfl rfl (Nat.lt_of_lt_of_le (by decide) hn) (by decide) (by decide) ?_
    refine r_aload_n S rfl dX4_factsOf_23 ?_
    refine r_getR S (o' := 13) fk_X4_43 dX4_factsOf_24 rfl rfl (Nat.lt_of_lt_of_le (by decide) hn) rfl ?_
    refine r_bipush S (by decide +kernel) dX4_factsOf_27 ?_
    refine r_callS S lk_X4_56 mk_X6_factAt (c_X6_factAt G n (up (I) 13 0 (I 6 a)) _ (a := -2) (by decide)) rfl rfl (Nat.le_of_ble_eq_true rfl) ⟨by decide, by decide⟩ rfl ⟨by decide, by decide⟩ dX4_factsOf_29 ?_
    rintro _ _ _ _ ⟨rfl, rfl, rfl, rfl⟩
    refine r_aload_n S rfl dX4_factsOf_32 ?_
    refine r_getR S (o' := 7) fk_X4_22 dX4_factsOf_33 rfl rfl (Nat.lt_of_lt_of_le (by decide) hn) rfl ?_
    refine r_iload_n S rfl dX4_factsOf_36 ?_
    refine r_iald S (v := I 7 a) dX4_factsOf_37 rfl rfl (Nat.lt_of_lt_of_le (by decide) hn) (by omega) (by omega) rfl ?_
    refine r_iast S dX4_factsOf_38 rfl rfl (Nat.lt_of_lt_of_le (by decide) hn) (by decide) (by decide) ?_
    refine r_aload_n S rfl dX4_factsOf_39 ?_
    refine r_getR S (o' := 13) fk_X4_43 dX4_factsOf_40 rfl rfl (Nat.lt_of_lt_of_le (by decide) hn) rfl ?_
    refine r_bipush S (by decide +kernel) dX4_factsOf_43 ?_
    refine r_callS S lk_X4_56 mk_X6_factAt (c_X6_factAt G n (up (up (I) 13 0 (I 6 a)) 13 1 (I 7 a)) _ (a := -3) (by decide)) rfl rfl (Nat.le_of_ble_eq_true rfl) ⟨by decide, by decide⟩ rfl ⟨by decide, by decide⟩ dX4_factsOf_45 ?_
    rintro _ _ _ _ ⟨rfl, rfl, rfl, rfl⟩
    refine r_aload_n S rfl dX4_factsOf_48 ?_
    refine r_getR S (o' := 8) fk_X4_25 dX4_factsOf_49 rfl rfl (Nat.lt_of_lt_of_le (by decide) hn) rfl ?_
    refine r_iload_n S rfl dX4_factsOf_52 ?_
    refine r_iald S (v := I 8 a) dX4_factsOf_53 rfl rfl (Nat.lt_of_lt_of_le (by decide) hn) (by omega) (by omega) rfl ?_
    refine r_iast S dX4_factsOf_54 rfl rfl (Nat.lt_of_lt_of_le (by decide) hn) (by decide) (by decide) ?_
    refine r_aload_n S rfl dX4_factsOf_55 ?_
    refine r_getR S (o' := 13) fk_X4_43 dX4_factsOf_56 rfl rfl (Nat.lt_of_lt_of_le (by decide) hn) rfl ?_
    refine r_bipush S (by decide +kernel) dX4_factsOf_59 ?_
    refine r_callS S lk_X4_56 mk_X6_factAt (c_X6_factAt G n (up (up (up (I) 13 0 (I 6 a)) 13 1 (I 7 a)) 13 2 (I 8 a)) _ (a := -4) (by decide)) rfl rfl (Nat.le_of_ble_eq_true rfl) ⟨by decide, by decide⟩ rfl ⟨by decide, by decide⟩ dX4_factsOf_61 ?_
    rintro _ _ _ _ ⟨rfl, rfl, rfl, rfl⟩
    refine r_aload_n S rfl dX4_factsOf_64 ?_
    refine r_getR S (o' := 9) fk_X4_28 dX4_factsOf_65 rfl rfl (Nat.lt_of_lt_of_le (by decide) hn) rfl ?_
    refine r_iload_n S rfl dX4_factsOf_68 ?_
    refine r_iald S (v := I 9 a) dX4_factsOf_69 rfl rfl (Nat.lt_of_lt_of_le (by decide) hn) (by omega) (by omega) rfl ?_
    refine r_iast S dX4_factsOf_70 rfl rfl (Nat.lt_of_lt_of_le (by decide) hn) (by decide) (by decide) ?_
    refine r_aload_n S rfl dX4_factsOf_71 ?_
    refine r_getR S (o' := 13) fk_X4_43 dX4_factsOf_72 rfl rfl (Nat.lt_of_lt_of_le (by decide) hn) rfl ?_
    refine r_aret SR dX4_factsOf_75 (Or.inr ⟨_, rfl⟩) ⟨by decide, by decide⟩ ?_
    exact ⟨rfl, rfl, rfl, rfl⟩
/-- only the facts' row and book b's stack have changed -/
def evOnly (b : Nat) (I I' : Iv) : Prop := (∀ o', o' ≠ 13 → o' ≠ b → o' ≠ b + 5 → I' o' = I o') ∧ ∀ j, j ≠ 6 → I' b j = I b j
theorem evOnly.rf (b : Nat) (I : Iv) : evOnly b I I := ⟨fun _ _ _ _ => rfl, fun _ _ => rfl⟩
theorem evOnly.tr {o : Nat} {I J K : Iv} (h1 : evOnly o I J) (h2 : evOnly o J K) : evOnly o I K := ⟨fun o' a b c => (h2.1 o' a b c).trans (h1.1 o' a b c), fun j a => (h2.2 j a).trans (h1.2 j a)⟩
theorem evOnly.of {b : Nat} {I J : Iv} (h : stkOnly b I J) : evOnly b I J := ⟨fun o' _ h1 h2 => h.1 o' h1 h2, h.2⟩
theorem evOnly.fac {b : Nat} (hb : 60 ≤ b) (I : Iv) (h : Int) : evOnly b I (facI I h) := ⟨fun o' h0 _ _ => facI_o h0, fun j _ => by rw [facI_o (by omega)]⟩
/-- the book in force holds rs -/
def bookI (I : Iv) (b : Nat) (rs : List (List (Int × Int) × List (Int × Int))) : Prop := I b 0 = rs.length ∧ rs.length ≤ 10 ∧ bookP (I (b + 1)) (I (b + 2)) (I (b + 3)) (I (b + 4)) rs 0
theorem bookI.ev {I J : Iv} {b : Nat} {rs : List (List (Int × Int) × List (Int × Int))} (hb : 60 ≤ b) (h : bookI I b rs) (hJ : evOnly b I J) : bookI J b rs := by
  obtain ⟨h1, h2, h3⟩ := h
  refine ⟨by rw [hJ.2 0 (by decide)]; exact h1, h2, ?_⟩
  rw [hJ.1 (b + 1) (by omega) (by omega) (by omega), hJ.1 (b + 2) (by omega) (by omega) (by omega), hJ.1 (b + 3) (by omega) (by omega) (by omega), hJ.1 (b + 4) (by omega) (by omega) (by omega)]
  exact h3
theorem c_X11_ruleOf (hn : 103 ≤ n) (hB : BkOk n (rst bk dr pt) bk) {rs : List (List (Int × Int) × List (Int × Int))} (hb : bookI I bk rs) {a : Int} (h6 : rg (I 6 a)) (h7 : rg (I 7 a)) (h8 : rg (I 8 a)) (h9 : rg (I 9 a)) : Ct G yX6_ruleFor cX6_ruleFor 3 (some .int) 4 0 0 [.ref (gb G + bk), .ref (gb G + 13)] n (facI I a) (rst bk dr pt) (fun v n' I' ρ' => v = some (.int (jI (ruleS (fxH I a) rs 0))) ∧ n = n' ∧ rst bk dr pt = ρ' ∧ stkOnly bk (facI I a) I') := by
  have hl := hB.2.2.2.2.2.2.2.2.2.2.2.1
  have hb2 := hb.ev hl (evOnly.fac hl I a)
  have C := c_X6_ruleFor G n (facI I a) (rst bk dr pt) bk hB rs hb2.1 hb2.2.1 hb2.2.2 (facI_rg h6 h7 h8 h9)
  rw [ruleS_congr (facI_fx I a)] at C
  exact C
theorem c_X11_dueOf (hn : 103 ≤ n) (hB : BkOk n (rst bk dr pt) bk) {rs : List (List (Int × Int) × List (Int × Int))} (hb : bookI I bk rs) {a : Int} (a0 : 0 ≤ a) (a1 : a < I 4 0) (h1 : I 4 0 ≤ 8) (h6 : rg (I 6 a)) (h7 : rg (I 7 a)) (h8 : rg (I 8 a)) (h9 : rg (I 9 a)) : Ct G yX11_dueOf cX11_dueOf 3 (some .int) 5 0 0 [.ref (gb G + 0), .int (jI a)] n I (rst bk dr pt) (fun v n' I' ρ' => v = some (.int (jI (dueS (fxH I a) rs))) ∧ n = n' ∧ rst bk dr pt = ρ' ∧ evOnly bk I I') := by
  refine Ct.of [some (.ref (gb G + 0)), some (.int (jI a)), none] (by decide) rfl rfl rfl ?_
  intro k SR
  have S : Sem G RX11 "dueOf" cX11_dueOf 3 (rmD 5 0 0) k := SR.sem
  have hl := hB.2.2.2.2.2.2.2.2.2.2.2.1
  have hl2 := hB.2.2.2.2.2.2.2.2.2.2.2.2.1
  have hb2 := hb.ev hl (evOnly.fac hl I a)
  refine r_aload_n S rfl dX11_dueOf_0 ?_
  refine r_getR S (o' := 4) fk_X11_23 dX11_dueOf_1 rfl rfl (Nat.lt_of_lt_of_le (by decide) hn) rfl ?_
  refine r_iload_n S rfl dX11_dueOf_4 ?_
  refine r_callV S lk_X11_181 mk_X4_factsOf (c_X4_factsOf G n I bk dr pt hn a0 a1 h1) rfl (Nat.lt_of_lt_of_le (by decide) hn) rfl rfl rfl (Nat.le_of_ble_eq_true rfl) ⟨by decide, by decide⟩ rfl ⟨by decide, by decide⟩ dX11_dueOf_5 ?_
  rintro _ _ _ _ ⟨rfl, rfl, rfl, rfl⟩
  refine r_astore_n S dX11_dueOf_8 rfl rfl ?_
  refine r_aload_n S rfl dX11_dueOf_9 ?_
  refine r_getR S (o' := bk) fk_X11_65 dX11_dueOf_10 rfl rfl (Nat.lt_of_lt_of_le (by decide) hn) rfl ?_
  refine r_aload_n S rfl dX11_dueOf_13 ?_
  refine r_getR S (o' := bk) fk_X11_65 dX11_dueOf_14 rfl rfl (Nat.lt_of_lt_of_le (by decide) hn) rfl ?_
  refine r_aload_n S rfl dX11_dueOf_17 ?_
  refine r_callV S lk_X11_185 mk_X6_ruleFor (c_X11_ruleOf G n I bk dr pt hn hB hb h6 h7 h8 h9) hB.1 (by omega) rfl rfl rfl (Nat.le_of_ble_eq_true rfl) ⟨by decide, by decide⟩ rfl ⟨by decide, by decide⟩ dX11_dueOf_18 ?_
  rintro _ _ J2 _ ⟨rfl, rfl, rfl, hJ2⟩
  have hb3 := hb2.ev hl (evOnly.of hJ2)
  have e13 : J2 13 = facI I a 13 := hJ2.1 13 (by omega) (by omega)
  have efx : ∀ k, 1 ≤ k → k ≤ 4 → fxC J2 k = fxH I a k := fun k g0 g1 => by
    rw [← facI_fx I a k g0 g1]
    show J2 13 (k - 1) = facI I a 13 (k - 1)
    rw [e13]
  have C := c_X6_dueBy G n J2 (rst bk dr pt) bk hB rs hb3.1 hb3.2.1 hb3.2.2 (by rw [e13]; exact facI_rg h6 h7 h8 h9) (a := ruleS (fxH I a) rs 0) (ruleS_congr efx rs 0).symm
  rw [dueS_congr efx] at C
  refine r_aload_n S rfl dX11_dueOf_21 ?_
  refine r_callV S lk_X11_227 mk_X6_dueBy C hB.1 (by omega) rfl rfl rfl (Nat.le_of_ble_eq_true rfl) ⟨by decide, by decide⟩ rfl ⟨by decide, by decide⟩ dX11_dueOf_22 ?_
  rintro _ _ J3 _ ⟨rfl, rfl, rfl, hJ3⟩
  refine r_iret SR dX11_dueOf_25 ⟨by decide, by decide⟩ ?_
  exact ⟨rfl, rfl, rfl, ((evOnly.fac hl I a).tr (evOnly.of hJ2)).tr (evOnly.of hJ3)⟩
end
