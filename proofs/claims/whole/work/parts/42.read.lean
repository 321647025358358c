/-! ===== the class's reader: conditions, a rule, all rules ===== -/
theorem condP_bd (T : TL) : condP T = bd (exprP T) (fun a t => if -11 ≤ hd t ∧ hd t ≤ -9 then bd (exprP (adv t)) (fun a2 t2 => .inr (a ++ a2 ++ [(-hd t, 0)], t2)) else .inl (1, pl t)) := by
  unfold condP
  cases exprP T with
  | inl e => rfl
  | inr q =>
    show (if -11 ≤ hd q.2 ∧ hd q.2 ≤ -9 then _ else _) = (if -11 ≤ hd q.2 ∧ hd q.2 ≤ -9 then _ else _)
    by_cases h : -11 ≤ hd q.2 ∧ hd q.2 ≤ -9
    · rw [if_pos h, if_pos h]
      cases exprP (adv q.2) <;> rfl
    · rw [if_neg h, if_neg h]
theorem condsT_12 {f : Nat} {acc T : TL} (h : hd T = -12) : condsT (f + 1) acc T = bd (condP (adv T)) (fun a t => condsT f (acc ++ a ++ [(12, 0)]) t) := by
  show (if hd T = -12 then _ else _) = _
  rw [if_pos h]
  cases condP (adv T) <;> rfl
theorem condsT_no {f : Nat} {acc T : TL} (h : ¬ hd T = -12) : condsT (f + 1) acc T = .inr (acc, T) := if_neg h
theorem condsP_bd (T : TL) : condsP T = bd (condP T) (fun a t => condsT 500 a t) := by
  unfold condsP
  cases condP T <;> rfl
theorem condsT_fuel : ∀ (f f' : Nat) (acc T : TL), TLok T → T.length < f → T.length < f' → condsT f acc T = condsT f' acc T
  | 0, _, _, _, _, h, _ => absurd h (Nat.not_lt_zero _)
  | _ + 1, 0, _, _, _, _, h => absurd h (Nat.not_lt_zero _)
  | f + 1, f' + 1, acc, T, hT, h1, h2 => by
    by_cases h7 : hd T = -12
    · rw [condsT_12 h7, condsT_12 h7]
      refine bd_congr (fun q hq => ?_)
      have hl := TLok_len hT (by omega)
      obtain ⟨p1, p2, p3, p4, p5⟩ := PG_cond (TLok_adv hT) q hq
      exact condsT_fuel f f' _ _ p1 (by omega) (by omega)
    · rw [condsT_no h7, condsT_no h7]
def jn12 (i : Int) : TL := if i = 0 then [] else [(12, 0)]
def jw (i : Int) : Nat := if i = 0 then 0 else 1
theorem flat_jn (i : Int) : flat (jn12 i) = if i = 0 then [] else [-12] := by
  unfold jn12
  by_cases h : i = 0
  · rw [if_pos h, if_pos h]; rfl
  · rw [if_neg h, if_neg h]; rfl
theorem flat_cmp {c : Int} (h : -11 ≤ c ∧ c ≤ -9) : flat [(-c, 0)] = [c] := by rw [flat_one (by omega) (by omega), show - -c = c by omega]
theorem bok_rd {b : Nat} {I : Iv} {C : List Int} (h : bok b I C) {j v : Int} : bok b (up I 55 j v) C ∨ b = 55 ∨ b + 1 = 55 := by
  by_cases h1 : b = 55
  · exact Or.inr (Or.inl h1)
  · by_cases h2 : b + 1 = 55
    · exact Or.inr (Or.inr h2)
    · exact Or.inl (bok_same h (up_o h2) (by rw [up_o h1]))
/-- where a parsing method of the reader begins -/
def rPre (b : Nat) (I : Iv) (C : List Int) (T : TL) : Prop := TLok T ∧ ctk I T ∧ bok b I C ∧ I 55 0 = 0 ∧ I 55 1 = -1
theorem rPre.adv {b : Nat} {I : Iv} {C : List Int} {T : TL} (hb : 60 ≤ b) (h : rPre b I C T) : rPre b (advI I) C (adv T) := by
  obtain ⟨h1, h2, h3, h4, h5⟩ := h
  refine ⟨TLok_adv h1, ctk_adv h2, bok_same h3 (advI_o _ (by omega)) (by rw [advI_o _ (by omega)]), ?_, ?_⟩
  · rw [advI_o _ (by decide)]; exact h4
  · rw [advI_o _ (by decide)]; exact h5
theorem rPre.wr {b : Nat} {I : Iv} {C : List Int} {T : TL} (hb : 60 ≤ b) (h : rPre b I C T) (a : Int) : rPre b (wrI b I a) (C ++ [a]) T := by
  obtain ⟨h1, h2, h3, h4, h5⟩ := h
  refine ⟨h1, ctk_same h2 (wrI_o (by omega) (by omega)) (wrI_o (by omega) (by omega)) (wrI_o (by omega) (by omega)), bok_wr h3 a, ?_, ?_⟩
  · rw [wrI_o (by omega) (by omega)]; exact h4
  · rw [wrI_o (by omega) (by omega)]; exact h5
theorem rPre.ob {b : Nat} {I : Iv} {C : List Int} {T : TL} (hb : 60 ≤ b) (h : rPre b I C T) {o : Nat} (ho : b + 1 < o) (i v : Int) : rPre b (up I o i v) C T := by
  obtain ⟨h1, h2, h3, h4, h5⟩ := h
  refine ⟨h1, ctk_same h2 (up_o (by omega)) (up_o (by omega)) (up_o (by omega)), bok_same h3 (up_o (by omega)) (by rw [up_o (by omega)]), ?_, ?_⟩
  · rw [up_o (by omega)]; exact h4
  · rw [up_o (by omega)]; exact h5
def posB (A W E : Int → Int) : RLs → Nat → Int → Prop
  | [], _, _ => True
  | r :: rs, i, s => A i = s ∧ W i = s + (flat r.1).length ∧ E i = s + (flat r.1).length + (flat r.2).length ∧ posB A W E rs (i + 1) (s + (flat r.1).length + (flat r.2).length)
theorem posB_congr {A W E A' W' E' : Int → Int} : ∀ (rs : RLs) (i : Nat) (s : Int), (∀ j : Int, i ≤ j → j < i + rs.length → A' j = A j ∧ W' j = W j ∧ E' j = E j) → posB A W E rs i s → posB A' W' E' rs i s
  | [], _, _, _, _ => trivial
  | r :: rs, i, s, h, hp => by
    have h0 := h i (by omega) (by rw [List.length_cons]; omega)
    exact ⟨h0.1.trans hp.1, h0.2.1.trans hp.2.1, h0.2.2.trans hp.2.2.1, posB_congr rs (i + 1) _ (fun j g0 g1 => h j (by omega) (by rw [List.length_cons]; omega)) hp.2.2.2⟩
theorem flat_cat_cons (x : TL × TL) (rs : RLs) : flat (cat (x :: rs)) = flat x.1 ++ flat x.2 ++ flat (cat rs) := by
  show flat (x.1 ++ x.2 ++ cat rs) = _
  rw [flat_app, flat_app]
theorem posB_snoc {A W E : Int → Int} {r : TL × TL} : ∀ (rs : RLs) (i : Nat) (s : Int), posB A W E rs i s → A (i + rs.length : Int) = s + (flat (cat rs)).length → W (i + rs.length : Int) = s + (flat (cat rs)).length + (flat r.1).length → E (i + rs.length : Int) = s + (flat (cat rs)).length + (flat r.1).length + (flat r.2).length → posB A W E (rs ++ [r]) i s
  | [], i, s, _, h1, h2, h3 => by
    have e : ((i : Int) + (([] : RLs).length : Nat)) = i := by show (i : Int) + ((0 : Nat) : Int) = i; omega
    have e2 : s + ((flat (cat [])).length : Nat) = s := by show s + ((0 : Nat) : Int) = s; omega
    rw [e, e2] at h1
    rw [e, e2] at h2
    rw [e, e2] at h3
    exact ⟨h1, h2, h3, trivial⟩
  | x :: rs, i, s, h, h1, h2, h3 => by
    have el : ((flat (cat (x :: rs))).length : Int) = (flat x.1).length + (flat x.2).length + (flat (cat rs)).length := by
      rw [flat_cat_cons, List.length_append, List.length_append]
      omega
    have ei : (i : Int) + ((x :: rs).length : Nat) = ((i + 1 : Nat) : Int) + (rs.length : Nat) := by rw [List.length_cons]; omega
    rw [el, ei] at h1
    rw [el, ei] at h2
    rw [el, ei] at h3
    exact ⟨h.1, h.2.1, h.2.2.1, posB_snoc rs (i + 1) _ h.2.2.2 (by omega) (by omega) (by omega)⟩
theorem bookP_of {A S W E : Int → Int} : ∀ (rs : RLs) (i : Nat) (s : Int), posB S W E rs i s → seg A s (flat (cat rs)) → 0 ≤ s → s + (flat (cat rs)).length ≤ 400 → (∀ r ∈ rs, okS r.1 0 1 ∧ okS r.2 0 1) → bookP A S W E rs i
  | [], _, _, _, _, _, _, _ => trivial
  | x :: rs, i, s, h, hs, h0, hb, hk => by
    have el : ((flat (cat (x :: rs))).length : Int) = (flat x.1).length + (flat x.2).length + (flat (cat rs)).length := by
      rw [flat_cat_cons, List.length_append, List.length_append]
      omega
    rw [el] at hb
    rw [flat_cat_cons] at hs
    obtain ⟨s1, s2⟩ := (seg_app _ _ _).mp hs
    obtain ⟨s3, s4⟩ := (seg_app _ _ _).mp s1
    rw [List.length_append] at s2
    have hx := hk x (List.mem_cons_self ..)
    have e2 : s + (((flat x.1).length + (flat x.2).length : Nat) : Int) = s + (flat x.1).length + (flat x.2).length := by omega
    rw [e2] at s2
    refine ⟨by rw [h.1]; exact h0, by rw [h.1]; exact h.2.1, by rw [h.2.1]; exact h.2.2.1, by rw [h.2.2.1]; omega, by rw [h.1]; exact s3, by rw [h.2.1]; exact s4, hx.1, hx.2, bookP_of rs (i + 1) _ h.2.2.2 s2 (by omega) (by omega) (fun r hr => hk r (List.mem_cons_of_mem _ hr))⟩
/-- only what reading rules writes has changed -/
def rrOnly (b : Nat) (I I' : Iv) : Prop := (∀ o, o ≠ 55 → o ≠ 56 → o ≠ 59 → o < b ∨ b + 4 < o → I' o = I o) ∧ I' 56 0 = I 56 0 ∧ ∀ j, j ≠ 0 → j ≠ 1 → I' b j = I b j
theorem rrOnly.rf (b : Nat) (I : Iv) : rrOnly b I I := ⟨fun _ _ _ _ _ => rfl, rfl, fun _ _ _ => rfl⟩
theorem rrOnly.rd {b : Nat} {I J : Iv} (h : rdOnly b I J) : rrOnly b I J := ⟨fun o x y z w => h.1 o x y z (by omega) (by omega), h.2.1, fun j _ a => h.2.2 j a⟩
theorem rrOnly.tr {b : Nat} {I J K : Iv} (h1 : rrOnly b I J) (h2 : rrOnly b J K) : rrOnly b I K := ⟨fun o x y z w => (h2.1 o x y z w).trans (h1.1 o x y z w), h2.2.1.trans h1.2.1, fun j x y => (h2.2.2 j x y).trans (h1.2.2 j x y)⟩
theorem rrOnly.ob {b : Nat} {I J : Iv} (h : rrOnly b I J) (hb : 60 ≤ b) {o : Nat} (ho : b + 1 < o ∧ o ≤ b + 4) (i v : Int) : rrOnly b I (up J o i v) := ⟨fun x p q r s => by rw [up_o (by omega)]; exact h.1 x p q r s, by rw [up_o (by omega)]; exact h.2.1, fun j p q => by rw [up_o (by omega)]; exact h.2.2 j p q⟩
theorem rrOnly.put0 {b : Nat} {I J : Iv} (h : rrOnly b I J) (hb : 60 ≤ b) (v : Int) : rrOnly b I (up J b 0 v) := ⟨fun x p q r s => by rw [up_o (by omega)]; exact h.1 x p q r s, by rw [up_o (by omega)]; exact h.2.1, fun j p q => by rw [up_i p]; exact h.2.2 j p q⟩
def bBad (I' : Iv) (res : (Int × Int) ⊕ ((TL × TL) × TL)) : Prop := ∃ e, res = .inl e ∧ I' 55 0 = e.1 ∧ I' 55 1 = e.2
def bOk (b : Nat) (I' : Iv) (acc : RLs) (res : (Int × Int) ⊕ ((TL × TL) × TL)) : Prop := ∃ q, res = .inr q ∧ rPre b I' (flat (cat (acc ++ [q.1]))) q.2 ∧ I' b 0 = acc.length + 1 ∧ posB (I' (b + 2)) (I' (b + 3)) (I' (b + 4)) (acc ++ [q.1]) 0 0
theorem bBad_of {I : Iv} {R : (Int × Int) ⊕ ((TL × TL) × TL)} {a p : Int} (hR : R = .inl (a, p)) : bBad (up (up I 55 0 a) 55 1 p) R := ⟨_, hR, by rw [up_i (by decide), up_s], by rw [up_s]⟩
section
variable (G : GE) (n : Nat) (I : Iv) (bk dr : Nat) (pt : Option Nat)
theorem c_readConds (hB : BkOk n (rst bk dr pt) dr) {C0 : List Int} {T : TL} (hP : rPre dr I C0 T) (hN : C0.length + T.length ≤ 401) : Ct G yX7_readConditions cX7_readConditions 4 (some .boolean) 4 0 0 [.ref (gb G + 55), .ref (gb G + dr)] n I (rst bk dr pt) (fun v n' I' ρ' => n = n' ∧ rst bk dr pt = ρ' ∧ rdOnly dr I I' ∧ ∃ z : Int, v = some (.int (jI z)) ∧ ((z = 0 ∧ rBad I' (condsP T)) ∨ (z = 1 ∧ rSu dr I' C0 (condsP T)))) := by
  have hn := hB.2.2.2.2.2.2.2.2.2.2.2.2.2
  have hb := hB.2.2.2.2.2.2.2.2.2.2.2.1
  have hb' := hB.2.2.2.2.2.2.2.2.2.2.2.2.1
  have k0 := hB.1
  refine Ct.of [some (.ref (gb G + 55)), some (.ref (gb G + dr)), none, none] (by decide) rfl rfl rfl ?_
  intro k SR
  have S : Sem G RX7 "readConditions" cX7_readConditions 4 (rmD 4 0 0) k := SR.sem
  obtain ⟨R, eR⟩ : ∃ R, R = condsP T := ⟨_, rfl⟩
  rw [← eR] at SR
  have loop : ∀ (m : Nat) (acc T' : TL) (i : Int) (J : Iv) (x3 : Option Value), T'.length < m → 0 ≤ i → i + T'.length ≤ 401 → rdOnly dr I J → rPre dr J (C0 ++ flat acc) T' → C0.length + (flat acc).length + T'.length + jw i ≤ 401 → R = bd (condP T') (fun a t => condsT 500 (acc ++ a ++ jn12 i) t) → k 2 [some (.ref (gb G + 55)), some (.ref (gb G + dr)), some (.int (jI i)), x3] [] n J (rst bk dr pt) 0 0 := by
    intro m
    induction m with
    | zero => intro acc T' i J x3 h; omega
    | succ m ih =>
      intro acc T' i J x3 hm i0 i1 hJ hP hN hR
      have hp := TL_pos hP.1
      rw [condP_bd, bd_bd] at hR
      -- behind the second E
      have ended : ∀ (acc3 T3 : TL) (J : Iv), rdOnly dr I J → rPre dr J (C0 ++ flat acc3) T3 → T3.length < T'.length → C0.length + (flat acc3).length + T3.length ≤ 401 → R = condsT 500 acc3 T3 → ∀ x3, k 72 [some (.ref (gb G + 55)), some (.ref (gb G + dr)), some (.int (jI i)), x3] [] n J (rst bk dr pt) 0 0 := by
        intro acc3 T3 J hJ hP hl hN hR x3
        have hh := TLok_hd hP.1
        have hp3 := TL_pos hP.1
        refine r_aload_n S rfl dX7_readConditions_72 ?_
        refine r_getR S (o' := 56) fk_X7_21 dX7_readConditions_73 rfl rfl (Nat.lt_of_lt_of_le (by decide) hn) rfl ?_
        refine r_callV S lk_X7_44 mk_X9_code (c_tcode G n J bk dr pt hn hP.2.1) rfl (Nat.lt_of_lt_of_le (by decide) hn) rfl rfl rfl (Nat.le_of_ble_eq_true rfl) ⟨by decide, by decide⟩ rfl ⟨by decide, by decide⟩ dX7_readConditions_76 ?_
        rintro _ _ _ _ ⟨rfl, rfl, rfl, rfl⟩
        refine r_bipush S (by decide +kernel) dX7_readConditions_79 ?_
        refine r_icmp_eq S (tgt := 86) dX7_readConditions_81 (by decide) (by omega) (by decide) (fun c81 => ?_) (fun c81 => ?_)
        · refine r_aload_n S rfl dX7_readConditions_86 ?_
          refine r_getR S (o' := 56) fk_X7_21 dX7_readConditions_87 rfl rfl (Nat.lt_of_lt_of_le (by decide) hn) rfl ?_
          refine r_callV S lk_X7_61 mk_X9_advance (c_tadv G n J bk dr pt hn hP.2.1) rfl (Nat.lt_of_lt_of_le (by decide) hn) rfl rfl rfl (Nat.le_of_ble_eq_true rfl) ⟨by decide, by decide⟩ rfl ⟨by decide, by decide⟩ dX7_readConditions_90 ?_
          rintro _ _ _ _ ⟨rfl, rfl, rfl, rfl⟩
          have hla := TLok_len hP.1 (by omega)
          refine r_iinc S dX7_readConditions_93 rfl rfl rfl ?_
          refine r_goto S (tgt := 2) dX7_readConditions_96 (by decide) ?_
          refine ih acc3 (adv T3) (i + 1) _ _ (by omega) (by omega) (by omega) (hJ.adv hb) (hP.adv hb) (by unfold jw; rw [if_neg (by omega)]; omega) (hR.trans ?_)
          rw [condsT_12 c81]
          refine bd_congr (fun q hq => ?_)
          obtain ⟨p1, p2, p3, p4, p5⟩ := PG_cond (TLok_adv hP.1) q hq
          unfold jn12
          rw [if_neg (by omega)]
          exact condsT_fuel 499 500 _ _ p1 (by omega) (by omega)
        · refine r_iconst S dX7_readConditions_84 ?_
          refine r_zret SR dX7_readConditions_85 (by decide) ⟨by decide, by decide⟩ ?_
          exact ⟨rfl, rfl, hJ, 1, rfl, Or.inr ⟨rfl, (acc3, T3), hR.trans (condsT_no c81), hP.1, hP.2.1, hP.2.2.1, hP.2.2.2.1, hP.2.2.2.2⟩⟩
      refine r_iload_n S rfl dX7_readConditions_2 ?_
      refine r_sipush S (by decide +kernel) dX7_readConditions_3 ?_
      refine r_icmp_gt S (tgt := 99) dX7_readConditions_6 (by decide) (by omega) (by omega) (fun c6 => ?_) (fun c6 => ?_)
      · exact absurd c6 (by omega)
      · refine r_aload_n S rfl dX7_readConditions_9 ?_
        refine r_aload_n S rfl dX7_readConditions_10 ?_
        refine r_callV S lk_X7_74 mk_X7_readSum (c_readSum G n J bk dr pt hB hP.1 hP.2.1 hP.2.2.1 hP.2.2.2.1 hP.2.2.2.2 (by rw [List.length_append]; omega)) rfl (Nat.lt_of_lt_of_le (by decide) hn) rfl rfl rfl (Nat.le_of_ble_eq_true rfl) ⟨by decide, by decide⟩ rfl ⟨by decide, by decide⟩ dX7_readConditions_11 ?_
        rintro v _ J1 _ ⟨rfl, rfl, hO1, z, rfl, ez⟩
        have hO := hJ.tr hO1
        refine r_if_ne S (tgt := 19) dX7_readConditions_14 (by decide) (by omega) (fun c14 => ?_) (fun c14 => ?_)
        · rcases ez with ⟨h, -⟩ | ⟨-, q, h1, hP1⟩
          · omega
          obtain ⟨p1, p2, p3, p4, p5⟩ := PG_expr hP.1 q h1
          rw [h1, bd_r] at hR
          have hh1 := TLok_hd p1
          have hpq := TL_pos p1
          refine r_aload_n S rfl dX7_readConditions_19 ?_
          refine r_getR S (o' := 56) fk_X7_21 dX7_readConditions_20 rfl rfl (Nat.lt_of_lt_of_le (by decide) hn) rfl ?_
          refine r_callV S lk_X7_44 mk_X9_code (c_tcode G n J1 bk dr pt hn hP1.2.1) rfl (Nat.lt_of_lt_of_le (by decide) hn) rfl rfl rfl (Nat.le_of_ble_eq_true rfl) ⟨by decide, by decide⟩ rfl ⟨by decide, by decide⟩ dX7_readConditions_23 ?_
          rintro _ _ _ _ ⟨rfl, rfl, rfl, rfl⟩
          refine r_istore_n S dX7_readConditions_26 rfl rfl ?_
          refine r_iload_n S rfl dX7_readConditions_27 ?_
          refine r_callS S lk_X7_86 mk_X1_isComparison (c_X1_isComparison G n J1 (rst bk dr pt) (by omega)) rfl rfl (Nat.le_of_ble_eq_true rfl) ⟨by decide, by decide⟩ rfl ⟨by decide, by decide⟩ dX7_readConditions_28 ?_
          rintro _ _ _ _ ⟨rfl, rfl, rfl, rfl⟩
          refine r_ifb_ne S (tgt := 40) dX7_readConditions_31 (by decide)  (fun c31 => ?_) (fun c31 => ?_)
          · rw [if_pos c31, bd_bd] at hR
            have hl1 := TLok_len p1 (by omega)
            have hPa := rPre.adv hb hP1
            refine r_aload_n S rfl dX7_readConditions_40 ?_
            refine r_getR S (o' := 56) fk_X7_21 dX7_readConditions_41 rfl rfl (Nat.lt_of_lt_of_le (by decide) hn) rfl ?_
            refine r_callV S lk_X7_61 mk_X9_advance (c_tadv G n J1 bk dr pt hn hP1.2.1) rfl (Nat.lt_of_lt_of_le (by decide) hn) rfl rfl rfl (Nat.le_of_ble_eq_true rfl) ⟨by decide, by decide⟩ rfl ⟨by decide, by decide⟩ dX7_readConditions_44 ?_
            rintro _ _ _ _ ⟨rfl, rfl, rfl, rfl⟩
            refine r_aload_n S rfl dX7_readConditions_47 ?_
            refine r_aload_n S rfl dX7_readConditions_48 ?_
            refine r_callV S lk_X7_74 mk_X7_readSum (c_readSum G n (advI J1) bk dr pt hB hPa.1 hPa.2.1 hPa.2.2.1 hPa.2.2.2.1 hPa.2.2.2.2 (by rw [List.length_append, List.length_append]; omega)) rfl (Nat.lt_of_lt_of_le (by decide) hn) rfl rfl rfl (Nat.le_of_ble_eq_true rfl) ⟨by decide, by decide⟩ rfl ⟨by decide, by decide⟩ dX7_readConditions_49 ?_
            rintro v _ J2 _ ⟨rfl, rfl, hO2, y, rfl, ey⟩
            have hOb := (hO.adv hb).tr hO2
            refine r_if_ne S (tgt := 57) dX7_readConditions_52 (by decide) (by omega) (fun c52 => ?_) (fun c52 => ?_)
            · rcases ey with ⟨h, -⟩ | ⟨-, q2, h2, hP2⟩
              · omega
              obtain ⟨r1, r2, r3, r4, r5⟩ := PG_expr (TLok_adv p1) q2 h2
              rw [h2, bd_r, bd_r] at hR
              have hp2 := TL_pos r1
              have hP2' : rPre dr J2 (C0 ++ flat acc ++ flat q.1 ++ flat q2.1) q2.2 := hP2
              have w1 : J2 dr 1 = (C0 ++ flat acc ++ flat q.1 ++ flat q2.1).length := hP2'.2.2.1.2
              rw [List.length_append, List.length_append, List.length_append] at w1
              have hP3 := rPre.wr hb hP2' (hd q.2)
              have w2 : wrI dr J2 (hd q.2) dr 1 = J2 dr 1 + 1 := up_s _ _ _ _
              refine r_aload_n S rfl dX7_readConditions_57 ?_
              refine r_iload_n S rfl dX7_readConditions_58 ?_
              refine r_callV S lk_X7_89 mk_X6_write (c_X6_write G n J2 (rst bk dr pt) dr hB (a := hd q.2) (by omega) (by omega)) k0 (by omega) rfl rfl rfl (Nat.le_of_ble_eq_true rfl) ⟨by decide, by decide⟩ rfl ⟨by decide, by decide⟩ dX7_readConditions_59 ?_
              rintro _ _ _ _ ⟨rfl, rfl, rfl, rfl⟩
              show k 62 _ _ n (wrI dr J2 (hd q.2)) _ _ _
              refine r_iload_n S rfl dX7_readConditions_62 ?_
              refine r_if_le S (tgt := 72) dX7_readConditions_63 (by decide) (by omega) (fun c63 => ?_) (fun c63 => ?_)
              · have hRR : R = condsT 500 (acc ++ (q.1 ++ q2.1 ++ [(-hd q.2, 0)]) ++ jn12 i) q2.2 := hR
                have ef : C0 ++ flat (acc ++ (q.1 ++ q2.1 ++ [(-hd q.2, 0)]) ++ jn12 i) = C0 ++ flat acc ++ flat q.1 ++ flat q2.1 ++ [hd q.2] ++ (if i = 0 then [] else [-12]) := by
                  rw [flat_app, flat_app, flat_app, flat_app, flat_cmp c31, flat_jn]
                  simp only [List.append_assoc]
                have el : C0.length + (flat (acc ++ (q.1 ++ q2.1 ++ [(-hd q.2, 0)]) ++ jn12 i)).length = C0.length + (flat acc).length + (flat q.1).length + (flat q2.1).length + 1 + jw i := by
                  rw [flat_app, flat_app, flat_app, flat_app, flat_cmp c31, flat_jn]
                  unfold jw
                  split <;> simp only [List.length_append, List.length_cons, List.length_nil] <;> omega
                first | (refine ended _ _ _ ((hOb.wr hb _).wr hb _) ?_ (by omega) (by omega) hRR _; rw [ef, if_neg (by omega)]; exact rPre.wr hb hP3 (-12)) | (refine ended _ _ _ (hOb.wr hb _) ?_ (by omega) (by omega) hRR _; rw [ef, if_pos (by omega), List.append_nil]; exact hP3)
              · have hjw : jw i = 1 := if_neg (by omega)
                refine r_aload_n S rfl dX7_readConditions_66 ?_
                refine r_bipush S (by decide +kernel) dX7_readConditions_67 ?_
                refine r_callV S lk_X7_89 mk_X6_write (c_X6_write G n (wrI dr J2 (hd q.2)) (rst bk dr pt) dr hB (a := -12) (by omega) (by omega)) k0 (by omega) rfl rfl rfl (Nat.le_of_ble_eq_true rfl) ⟨by decide, by decide⟩ rfl ⟨by decide, by decide⟩ dX7_readConditions_69 ?_
                rintro _ _ _ _ ⟨rfl, rfl, rfl, rfl⟩
                show k 72 _ _ n (wrI dr (wrI dr J2 (hd q.2)) (-12)) _ _ _
                have hRR : R = condsT 500 (acc ++ (q.1 ++ q2.1 ++ [(-hd q.2, 0)]) ++ jn12 i) q2.2 := hR
                have ef : C0 ++ flat (acc ++ (q.1 ++ q2.1 ++ [(-hd q.2, 0)]) ++ jn12 i) = C0 ++ flat acc ++ flat q.1 ++ flat q2.1 ++ [hd q.2] ++ (if i = 0 then [] else [-12]) := by
                  rw [flat_app, flat_app, flat_app, flat_app, flat_cmp c31, flat_jn]
                  simp only [List.append_assoc]
                have el : C0.length + (flat (acc ++ (q.1 ++ q2.1 ++ [(-hd q.2, 0)]) ++ jn12 i)).length = C0.length + (flat acc).length + (flat q.1).length + (flat q2.1).length + 1 + jw i := by
                  rw [flat_app, flat_app, flat_app, flat_app, flat_cmp c31, flat_jn]
                  unfold jw
                  split <;> simp only [List.length_append, List.length_cons, List.length_nil] <;> omega
                first | (refine ended _ _ _ ((hOb.wr hb _).wr hb _) ?_ (by omega) (by omega) hRR _; rw [ef, if_neg (by omega)]; exact rPre.wr hb hP3 (-12)) | (refine ended _ _ _ (hOb.wr hb _) ?_ (by omega) (by omega) hRR _; rw [ef, if_pos (by omega), List.append_nil]; exact hP3)
            · refine r_iconst S dX7_readConditions_55 ?_
              refine r_zret SR dX7_readConditions_56 (by decide) ⟨by decide, by decide⟩ ?_
              rcases ey with ⟨-, e, h1, h2, h3⟩ | ⟨h, -⟩
              · rw [h1] at hR
                exact ⟨rfl, rfl, hOb, 0, rfl, Or.inl ⟨rfl, e, hR, h2, h3⟩⟩
              · omega
          · refine r_aload_n S rfl dX7_readConditions_34 ?_
            refine r_iconst S dX7_readConditions_35 ?_
            refine r_callV S lk_X7_54 mk_X7_fail (c_X7_fail G n J1 bk dr pt hn hP1.2.1 (a := 1)) rfl (Nat.lt_of_lt_of_le (by decide) hn) rfl rfl rfl (Nat.le_of_ble_eq_true rfl) ⟨by decide, by decide⟩ rfl ⟨by decide, by decide⟩ dX7_readConditions_36 ?_
            rintro _ _ _ _ ⟨rfl, rfl, rfl, rfl⟩
            refine r_zret SR dX7_readConditions_39 (by decide) ⟨by decide, by decide⟩ ?_
            rw [if_neg c31, bd_l] at hR
            exact ⟨rfl, rfl, (hO.put hb (Or.inl rfl) _ _).put hb (Or.inl rfl) _ _, 0, rfl, Or.inl ⟨rfl, rBad_of hR⟩⟩
        · refine r_iconst S dX7_readConditions_17 ?_
          refine r_zret SR dX7_readConditions_18 (by decide) ⟨by decide, by decide⟩ ?_
          rcases ez with ⟨-, e, h1, h2, h3⟩ | ⟨h, -⟩
          · rw [h1] at hR
            exact ⟨rfl, rfl, hO, 0, rfl, Or.inl ⟨rfl, e, hR, h2, h3⟩⟩
          · omega
  refine r_iconst S dX7_readConditions_0 ?_
  refine r_istore_n S dX7_readConditions_1 rfl rfl ?_
  refine loop (T.length + 1) [] T 0 I none (by omega) (by decide) (by omega) (rdOnly.rf _ _) (by show rPre dr I (C0 ++ []) T; rw [List.append_nil]; exact hP) (by show C0.length + 0 + T.length + 0 ≤ 401; omega) (eR.trans ?_)
  rw [condsP_bd]
  refine bd_congr (fun q _ => ?_)
  show _ = condsT 500 ([] ++ q.1 ++ []) q.2
  rw [List.nil_append, List.append_nil]
end
