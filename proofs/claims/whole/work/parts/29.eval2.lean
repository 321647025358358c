theorem seg_nth {A : Int → Int} : ∀ (l : List Int) (i : Int) (j : Nat), seg A i l → j < l.length → A (i + j) = l.getD j 0
  | [], _, _, _, h => absurd h (Nat.not_lt_zero _)
  | x :: l, i, 0, hs, _ => by
    rw [show i + ((0 : Nat) : Int) = i by omega]
    exact hs.1
  | x :: l, i, j + 1, hs, h => by
    rw [show i + ((j + 1 : Nat) : Int) = (i + 1) + (j : Nat) by omega]
    exact seg_nth l (i + 1) j hs.2 (Nat.lt_of_succ_lt_succ h)
theorem seg_congr {A B : Int → Int} : ∀ (l : List Int) (i : Int), (∀ j : Int, i ≤ j → j < i + l.length → B j = A j) → seg A i l → seg B i l
  | [], _, _, _ => trivial
  | x :: l, i, h, hs => ⟨by rw [h i (by omega) (by simp only [List.length_cons]; omega)]; exact hs.1, seg_congr l (i + 1) (fun j h0 h1 => h j (by omega) (by simp only [List.length_cons]; omega)) hs.2⟩
theorem seg_app {A : Int → Int} : ∀ (l m : List Int) (i : Int), seg A i (l ++ m) ↔ seg A i l ∧ seg A (i + l.length) m
  | [], m, i => by
    show seg A i m ↔ True ∧ seg A (i + ((0 : Nat) : Int)) m
    rw [show i + ((0 : Nat) : Int) = i by omega]
    exact ⟨fun h => ⟨trivial, h⟩, fun h => h.2⟩
  | x :: l, m, i => by
    show (A i = x ∧ seg A (i + 1) (l ++ m)) ↔ (A i = x ∧ seg A (i + 1) l) ∧ seg A (i + ((l.length + 1 : Nat) : Int)) m
    rw [seg_app l m (i + 1), show i + ((l.length + 1 : Nat) : Int) = i + 1 + (l.length : Int) by omega]
    exact ⟨fun h => ⟨⟨h.1, h.2.1⟩, h.2.2⟩, fun h => ⟨h.1.1, h.1.2, h.2⟩⟩
/-- only the stack of book o has changed -/
def stkOnly (o : Nat) (I I' : Iv) : Prop := (∀ o', o' ≠ o → o' ≠ o + 5 → I' o' = I o') ∧ ∀ j, j ≠ 6 → I' o j = I o j
theorem stkOnly.rf (o : Nat) (I : Iv) : stkOnly o I I := ⟨fun _ _ _ => rfl, fun _ _ => rfl⟩
theorem stkOnly.tr {o : Nat} {I J K : Iv} (h1 : stkOnly o I J) (h2 : stkOnly o J K) : stkOnly o I K := ⟨fun o' a b => (h2.1 o' a b).trans (h1.1 o' a b), fun j a => (h2.2 j a).trans (h1.2 j a)⟩
theorem stkOnly.put6 {o : Nat} {I J : Iv} (h : stkOnly o I J) (v : Int) : stkOnly o I (up J o 6 v) := ⟨fun o' a b => by rw [up_o a]; exact h.1 o' a b, fun j a => by rw [up_i a]; exact h.2 j a⟩
theorem stkOnly.put5 {o : Nat} {I J : Iv} (h : stkOnly o I J) (i v : Int) : stkOnly o I (up J (o + 5) i v) := ⟨fun o' a b => by rw [up_o b]; exact h.1 o' a b, fun j a => by rw [up_o (by omega)]; exact h.2 j a⟩
section
variable (G : GE) (n : Nat) (I : Iv) (ρ : Rv) (o : Nat)
/-- the facts in the class's row -/
abbrev fxC (I : Iv) : Int → Int := fun k => I 13 (k - 1)
theorem c_X6_run (hB : BkOk n ρ o) {a b : Int} (l : List Int) (a0 : 0 ≤ a) (hab : b = a + l.length) (hb : b ≤ 400) (hs : seg (I (o + 1)) a l) (hk : okC l 0 1) (hf : ∀ j, 0 ≤ j → j < 4 → rg (I 13 j)) : Ct G yX6_run cX6_run 8 (some .int) 3 0 0 [.ref (gb G + o), .int (jI a), .int (jI b), .ref (gb G + 13)] n I ρ (fun v n' I' ρ' => (∃ r, v = some (.int (jI r)) ∧ rg r ∧ ec (fxC I) l [] = [r]) ∧ n = n' ∧ ρ = ρ' ∧ stkOnly o I I') := by
  refine Ct.of [some (.ref (gb G + o)), some (.int (jI a)), some (.int (jI b)), some (.ref (gb G + 13)), none, none, none, none] (by decide) rfl rfl rfl ?_
  intro k SR
  have S : Sem G RX6 "run" cX6_run 8 (rmD 3 0 0) k := SR.sem
  have hB' := hB
  obtain ⟨k0, k1, k2, k3, k4, k5, r2, r3, r4, r5, r7, l0, l1, hn⟩ := hB
  obtain ⟨R, eR⟩ : ∃ R, R = ec (fxC I) l [] := ⟨_, rfl⟩
  rw [← eR] at SR
  have loop : ∀ (l : List Int) (i : Int) (st : List Int) (J : Iv), 0 ≤ i → b = i + l.length → seg (I (o + 1)) i l → okC l st.length 1 → st.length ≤ 24 → (∀ x ∈ st, rg x) → stkOnly o I J → J o 6 = st.length → holdS (J (o + 5)) st → ec (fxC I) l st = R → k 12 [some (.ref (gb G + o)), some (.int (jI a)), some (.int (jI b)), some (.ref (gb G + 13)), some (.int (jI i)), none, none, none] [] n J ρ 0 0 := by
    intro l
    induction l with
    | nil =>
      intro i st J i0 ib hs hk h24 hr hJ h6 hS hR
      have hst : st.length = 1 := hk
      obtain ⟨r, rfl⟩ : ∃ r, st = [r] := List.length_eq_one_iff.mp hst
      have e6 : J o 6 = 1 := h6
      have e5 : J (o + 5) (J o 6 - 1) = r := by
        rw [e6]
        exact hS.1
      have hib : b = i := by rw [ib]; simp
      refine r_iload S rfl dX6_run_12 ?_
      refine r_iload_n S rfl dX6_run_14 ?_
      refine r_icmp_ge S (tgt := 120) dX6_run_15 (by decide) (by omega) (by omega) (fun c15 => ?_) (fun c15 => ?_)
      · refine r_aload_n S rfl dX6_run_120 ?_
        refine r_callV S lk_X6_71 mk_X6_pop (c_X6_pop G n J ρ o hB' (by omega) (by omega)) k0 (by omega) rfl rfl rfl (Nat.le_of_ble_eq_true rfl) ⟨by decide, by decide⟩ rfl ⟨by decide, by decide⟩ dX6_run_121 ?_
        rintro _ _ _ _ ⟨rfl, rfl, rfl, rfl⟩
        rw [e5]
        refine r_iret SR dX6_run_124 ⟨by decide, by decide⟩ ?_
        exact ⟨⟨r, rfl, hr r (by simp), hR.symm⟩, rfl, rfl, hJ.put6 _⟩
      · exact absurd c15 (by omega)
    | cons x l ih =>
      intro i st J i0 ib hs hk h24 hr hJ h6 hS hR
      have hib : i < b := by rw [ib]; simp only [List.length_cons]; omega
      have hib' : b = i + 1 + l.length := by rw [ib]; simp only [List.length_cons]; omega
      have e1 : J (o + 1) i = x := by
        rw [hJ.1 (o + 1) (by omega) (by omega)]
        exact hs.1
      have e13 : J 13 = I 13 := hJ.1 13 (by omega) (by omega)
      unfold okC at hk
      have hxr : rg x := by
        by_cases e : 0 ≤ x
        · rw [if_pos e] at hk
          exact ⟨by omega, by omega⟩
        · rw [if_neg e] at hk
          by_cases e2 : -4 ≤ x ∧ x ≤ -1
          · exact ⟨by omega, by omega⟩
          · rw [if_neg e2] at hk
            exact ⟨by omega, by omega⟩
      have push : ∀ (v : Int) (t : List Int) (J : Iv), rg v → (∀ x ∈ t, rg x) → stkOnly o I J → J o 6 = t.length → holdS (J (o + 5)) t → t.length < 24 → okC l (t.length + 1) 1 → ec1 (fxC I) x st = v :: t → k 12 [some (.ref (gb G + o)), some (.int (jI a)), some (.int (jI b)), some (.ref (gb G + 13)), some (.int (jI (i + 1))), none, none, none] [] n (up (up J (o + 5) (J o 6) v) o 6 (J o 6 + 1)) ρ 0 0 := by
        intro v t J hv ht hJ h6 hS hlt hk he
        refine ih (i + 1) (v :: t) _ (by omega) hib' hs.2 hk (by simp only [List.length_cons]; omega) ?_ ((hJ.put5 _ _).put6 _) ?_ ?_ ?_
        · intro y hy
          rcases List.mem_cons.mp hy with rfl | hy
          · exact hv
          · exact ht y hy
        · rw [up_s, h6]
          simp only [List.length_cons]
          omega
        · refine ⟨?_, holdS_congr t (fun j g0 g1 => ?_) hS⟩
          · rw [up_o (by omega), h6, up_s]
          · rw [up_o (by omega), up_i (by omega)]
        · rw [← he]
          exact hR
      have rest : ∀ (w u : Int) (t : List Int), st = w :: u :: t → okC l (t.length + 1) 1 → ¬ 0 ≤ x → ¬ (-4 ≤ x ∧ x ≤ -1) → k 89 [some (.ref (gb G + o)), some (.int (jI a)), some (.int (jI b)), some (.ref (gb G + 13)), some (.int (jI i)), some (.int (jI x)), none, none] [] n J ρ 0 0 := by
        intro w u t hst hk1 n1 n2
        subst hst
        simp only [List.length_cons] at h6 h24
        have hw := hr w (by simp)
        have hu := hr u (by simp)
        have p1 : J (o + 5) (J o 6 - 1) = w := by
          rw [h6, show (((t.length + 1 + 1 : Nat)) : Int) - 1 = ((u :: t).length : Int) by simp only [List.length_cons]; omega]
          exact hS.1
        obtain ⟨J1, eJ1⟩ : ∃ J1, J1 = up J o 6 (J o 6 - 1) := ⟨_, rfl⟩
        have q1 : J1 o 6 = t.length + 1 := by rw [eJ1, up_s, h6]; omega
        have q5 : J1 (o + 5) = J (o + 5) := by rw [eJ1, up_o (by omega)]
        have p2 : J1 (o + 5) (J1 o 6 - 1) = u := by
          rw [q1, q5, show ((t.length : Int) + 1 - 1) = (t.length : Int) by omega]
          exact hS.2.1
        obtain ⟨J2, eJ2⟩ : ∃ J2, J2 = up J1 o 6 (J1 o 6 - 1) := ⟨_, rfl⟩
        have q2 : J2 o 6 = t.length := by rw [eJ2, up_s, q1]; omega
        have q25 : J2 (o + 5) = J (o + 5) := by rw [eJ2, up_o (by omega), q5]
        have hJ2 : stkOnly o I J2 := by rw [eJ2, eJ1]; exact (hJ.put6 _).put6 _
        refine r_aload_n S rfl dX6_run_89 ?_
        refine r_callV S lk_X6_71 mk_X6_pop (c_X6_pop G n J ρ o hB' (by omega) (by omega)) k0 (by omega) rfl rfl rfl (Nat.le_of_ble_eq_true rfl) ⟨by decide, by decide⟩ rfl ⟨by decide, by decide⟩ dX6_run_90 ?_
        rintro _ _ _ _ ⟨rfl, rfl, rfl, rfl⟩
        rw [p1, ← eJ1]
        refine r_istore S dX6_run_93 rfl rfl ?_
        refine r_aload_n S rfl dX6_run_95 ?_
        refine r_callV S lk_X6_71 mk_X6_pop (c_X6_pop G n J1 ρ o hB' (by omega) (by omega)) k0 (by omega) rfl rfl rfl (Nat.le_of_ble_eq_true rfl) ⟨by decide, by decide⟩ rfl ⟨by decide, by decide⟩ dX6_run_96 ?_
        rintro _ _ _ _ ⟨rfl, rfl, rfl, rfl⟩
        rw [p2, ← eJ2]
        refine r_istore S dX6_run_99 rfl rfl ?_
        refine r_aload_n S rfl dX6_run_101 ?_
        refine r_iload S rfl dX6_run_102 ?_
        refine r_iload S rfl dX6_run_104 ?_
        refine r_iload S rfl dX6_run_106 ?_
        refine r_callS S lk_X6_75 mk_X6_join (c_X6_join G n J2 ρ hu hxr hw) rfl rfl (Nat.le_of_ble_eq_true rfl) ⟨by decide, by decide⟩ rfl ⟨by decide, by decide⟩ dX6_run_108 ?_
        rintro _ _ _ _ ⟨rfl, rfl, rfl, rfl⟩
        refine r_callV S lk_X6_63 mk_X6_push (c_X6_push G n J2 ρ o hB' (by omega) (by omega)) k0 (by omega) rfl rfl rfl (Nat.le_of_ble_eq_true rfl) ⟨by decide, by decide⟩ rfl ⟨by decide, by decide⟩ dX6_run_111 ?_
        rintro _ _ _ _ ⟨rfl, rfl, rfl, rfl⟩
        refine r_iinc S dX6_run_114 rfl rfl rfl ?_
        refine r_goto S (tgt := 12) dX6_run_117 (by decide) ?_
        refine r_drop S 5 ?_
        refine r_drop S 6 ?_
        refine r_drop S 7 ?_
        refine push _ t J2 (jn_rg _ _ _) (fun y hy => hr y (by simp [hy])) hJ2 q2 (by rw [q25]; exact hS.2.2) (by omega) hk1 (by unfold ec1; rw [if_neg n1, if_neg n2])
      refine r_iload S rfl dX6_run_12 ?_
      refine r_iload_n S rfl dX6_run_14 ?_
      refine r_icmp_ge S (tgt := 120) dX6_run_15 (by decide) (by omega) (by omega) (fun c15 => ?_) (fun c15 => ?_)
      · exact absurd c15 (by omega)
      · refine r_iload S rfl dX6_run_18 ?_
        refine r_sipush S (by decide +kernel) dX6_run_20 ?_
        refine r_icmp_ge S (tgt := 120) dX6_run_23 (by decide) (by omega) (by omega) (fun c23 => ?_) (fun c23 => ?_)
        · exact absurd c23 (by omega)
        · refine r_aload_n S rfl dX6_run_26 ?_
          refine r_getR S (o' := (o + 1)) fk_X6_18 dX6_run_27 k0 rfl (by omega) r2 ?_
          refine r_iload S rfl dX6_run_30 ?_
          refine r_iald S (v := x) dX6_run_32 k1 rfl (by omega) (by omega) (by omega) e1 ?_
          refine r_istore S dX6_run_33 rfl rfl ?_
          refine r_iload S rfl dX6_run_35 ?_
          refine r_callS S lk_X6_60 mk_X1_isNumber (c_X1_isNumber G n J ρ hxr) rfl rfl (Nat.le_of_ble_eq_true rfl) ⟨by decide, by decide⟩ rfl ⟨by decide, by decide⟩ dX6_run_37 ?_
          rintro _ _ _ _ ⟨rfl, rfl, rfl, rfl⟩
          refine r_ifb_eq S (tgt := 52) dX6_run_40 (by decide)  (fun c40 => ?_) (fun c40 => ?_)
          · rw [if_neg c40] at hk
            refine r_iload S rfl dX6_run_52 ?_
            refine r_callS S lk_X6_41 mk_X1_isFact (c_X1_isFact G n J ρ hxr) rfl rfl (Nat.le_of_ble_eq_true rfl) ⟨by decide, by decide⟩ rfl ⟨by decide, by decide⟩ dX6_run_54 ?_
            rintro _ _ _ _ ⟨rfl, rfl, rfl, rfl⟩
            refine r_ifb_eq S (tgt := 89) dX6_run_57 (by decide)  (fun c57 => ?_) (fun c57 => ?_)
            · rw [if_neg c57] at hk
              cases st with
              | nil => exact absurd hk.2.1 (by simp)
              | cons w t =>
                cases t with
                | nil => exact absurd hk.2.1 (by simp)
                | cons u t =>
                  exact rest w u t rfl hk.2.2 c40 c57
            · rw [if_pos c57] at hk
              refine r_iload S rfl dX6_run_60 ?_
              refine r_callS S lk_X6_67 mk_X6_factAt (c_X6_factAt G n J ρ (a := x) hxr) rfl rfl (Nat.le_of_ble_eq_true rfl) ⟨by decide, by decide⟩ rfl ⟨by decide, by decide⟩ dX6_run_62 ?_
              rintro _ _ _ _ ⟨rfl, rfl, rfl, rfl⟩
              rw [if_pos c57]
              refine r_istore S dX6_run_65 rfl rfl ?_
              refine r_aload_n S rfl dX6_run_67 ?_
              refine r_iload S rfl dX6_run_68 ?_
              refine r_aload_n S rfl dX6_run_70 ?_
              refine r_alen S (v := 4) dX6_run_71 rfl (Nat.lt_of_lt_of_le (by decide) hn) rfl ?_
              refine r_icmp_ge S (tgt := 82) dX6_run_72 (by decide) (by omega) (by omega) (fun c72 => ?_) (fun c72 => ?_)
              · exact absurd c72 (by omega)
              · refine r_aload_n S rfl dX6_run_75 ?_
                refine r_iload S rfl dX6_run_76 ?_
                refine r_iald S (v := J 13 (-1 - x)) dX6_run_78 rfl rfl (Nat.lt_of_lt_of_le (by decide) hn) (by omega) (by omega) rfl ?_
                refine r_goto S (tgt := 83) dX6_run_79 (by decide) ?_
                refine r_callV S lk_X6_63 mk_X6_push (c_X6_push G n J ρ o hB' (by omega) (by omega)) k0 (by omega) rfl rfl rfl (Nat.le_of_ble_eq_true rfl) ⟨by decide, by decide⟩ rfl ⟨by decide, by decide⟩ dX6_run_83 ?_
                rintro _ _ _ _ ⟨rfl, rfl, rfl, rfl⟩
                refine r_goto S (tgt := 114) dX6_run_86 (by decide) ?_
                refine r_iinc S dX6_run_114 rfl rfl rfl ?_
                refine r_goto S (tgt := 12) dX6_run_117 (by decide) ?_
                refine r_drop S 5 ?_
                first
                  | exact push x st J hxr hr hJ h6 hS (by omega) hk.2.2 (by unfold ec1; rw [if_pos c40])
                  | (refine r_drop S 6 ?_
                     have e9 := congrFun e13 (-1 - x)
                     exact push _ st J (by rw [e9]; exact hf _ (by omega) (by omega)) hr hJ h6 hS (by omega) hk.2 (by unfold ec1; rw [if_neg c40, if_pos c57, e9, show -1 - x = -x - 1 by omega]))
          · rw [if_pos c40] at hk
            refine r_aload_n S rfl dX6_run_43 ?_
            refine r_iload S rfl dX6_run_44 ?_
            refine r_callV S lk_X6_63 mk_X6_push (c_X6_push G n J ρ o hB' (by omega) (by omega)) k0 (by omega) rfl rfl rfl (Nat.le_of_ble_eq_true rfl) ⟨by decide, by decide⟩ rfl ⟨by decide, by decide⟩ dX6_run_46 ?_
            rintro _ _ _ _ ⟨rfl, rfl, rfl, rfl⟩
            refine r_goto S (tgt := 114) dX6_run_49 (by decide) ?_
            refine r_iinc S dX6_run_114 rfl rfl rfl ?_
            refine r_goto S (tgt := 12) dX6_run_117 (by decide) ?_
            refine r_drop S 5 ?_
            first
              | exact push x st J hxr hr hJ h6 hS (by omega) hk.2.2 (by unfold ec1; rw [if_pos c40])
              | (refine r_drop S 6 ?_
                 have e9 := congrFun e13 (-1 - x)
                 exact push _ st J (by rw [e9]; exact hf _ (by omega) (by omega)) hr hJ h6 hS (by omega) hk.2 (by unfold ec1; rw [if_neg c40, if_pos c57, e9, show -1 - x = -x - 1 by omega]))
  refine r_aload_n S rfl dX6_run_0 ?_
  refine r_iconst S dX6_run_1 ?_
  refine r_putI S fk_X6_31 dX6_run_2 k0 rfl (by omega) (Or.inl rfl) (Or.inl rfl) ?_
  refine r_iload_n S rfl dX6_run_5 ?_
  refine r_iconst S dX6_run_6 ?_
  refine r_mmax S lk_X6_57 (by omega) (by decide) (by decide) (Nat.le_of_ble_eq_true rfl) rfl ⟨by decide, by decide⟩ dX6_run_7 ?_
  refine r_istore S dX6_run_10 rfl rfl ?_
  rw [show max a 0 = a by omega]
  exact loop l a [] _ a0 hab hs hk (by decide) (fun x hx => absurd hx List.not_mem_nil) ((stkOnly.rf o I).put6 0) (up_s _ _ _ _) trivial eR.symm
/-- a book holds the rules rs: of each, what it gives and when -/
def bookP (A S W E : Int → Int) : List (List (Int × Int) × List (Int × Int)) → Nat → Prop
  | [], _ => True
  | r :: rs, i => 0 ≤ S i ∧ W i = S i + (flat r.1).length ∧ E i = W i + (flat r.2).length ∧ E i ≤ 400 ∧ seg A (S i) (flat r.1) ∧ seg A (W i) (flat r.2) ∧ okS r.1 0 1 ∧ okS r.2 0 1 ∧ bookP A S W E rs (i + 1)
/-- the first rule that is so -/
def ruleS (fx : Int → Int) : List (List (Int × Int) × List (Int × Int)) → Nat → Int
  | [], _ => -1
  | r :: rs, i => if ev fx r.2 [] = [1] then (i : Int) else ruleS fx rs (i + 1)
def clampD (v : Int) : Int := max 0 (min 9999 v)
/-- what is due by the first rule that is so -/
def dueS (fx : Int → Int) : List (List (Int × Int) × List (Int × Int)) → Int
  | [] => 0
  | r :: rs => if ev fx r.2 [] = [1] then clampD ((ev fx r.1 []).headD 0) else dueS fx rs
theorem bookP_congr {A S W E A' S' W' E' : Int → Int} : ∀ (rs : List (List (Int × Int) × List (Int × Int))) (i : Nat), (∀ j : Int, 0 ≤ j → j < 400 → A' j = A j) → (∀ j : Int, 0 ≤ j → S' j = S j ∧ W' j = W j ∧ E' j = E j) → bookP A S W E rs i → bookP A' S' W' E' rs i
  | [], _, _, _, _ => trivial
  | r :: rs, i, hA, hS, h => by
    obtain ⟨h1, h2, h3, h4, h5, h6, h7, h8, h9⟩ := h
    obtain ⟨e1, e2, e3⟩ := hS i (by omega)
    refine ⟨by omega, by omega, by omega, by omega, ?_, ?_, h7, h8, bookP_congr rs (i + 1) hA hS h9⟩
    · rw [e1]
      exact seg_congr _ _ (fun j g0 g1 => hA j (by omega) (by omega)) h5
    · rw [e2]
      exact seg_congr _ _ (fun j g0 g1 => hA j (by omega) (by omega)) h6
theorem bookP_nth {A S W E : Int → Int} : ∀ (rs : List (List (Int × Int) × List (Int × Int))) (i j : Nat), bookP A S W E rs i → j < rs.length → bookP A S W E (rs.drop j) (i + j) ∧ rs.drop j ≠ []
  | [], _, _, _, h => absurd h (Nat.not_lt_zero _)
  | r :: rs, i, 0, h, _ => ⟨h, by simp⟩
  | r :: rs, i, j + 1, h, hj => by
    have := bookP_nth rs (i + 1) j h.2.2.2.2.2.2.2.2 (Nat.lt_of_succ_lt_succ hj)
    rw [show i + (j + 1) = i + 1 + j by omega]
    exact this
theorem ruleS_range (fx : Int → Int) : ∀ (rs : List (List (Int × Int) × List (Int × Int))) (i : Nat), ruleS fx rs i = -1 ∨ ((i : Int) ≤ ruleS fx rs i ∧ ruleS fx rs i < i + rs.length)
  | [], _ => Or.inl rfl
  | r :: rs, i => by
    unfold ruleS
    split
    · exact Or.inr (by simp only [List.length_cons]; omega)
    · rcases ruleS_range fx rs (i + 1) with h | h
      · exact Or.inl h
      · exact Or.inr (by simp only [List.length_cons]; omega)
/-- rule i, where it stands: its when is so, and due by it -/
theorem dueS_at (fx : Int → Int) : ∀ (rs : List (List (Int × Int) × List (Int × Int))) (i : Nat), dueS fx rs = if ruleS fx rs i = -1 then 0 else clampD ((ev fx ((rs.getD (ruleS fx rs i - i).toNat ([], [])).1) []).headD 0)
  | [], _ => rfl
  | r :: rs, i => by
    unfold dueS ruleS
    by_cases h : ev fx r.2 [] = [1]
    · rw [if_pos h, if_pos h, if_neg (by omega), Int.sub_self]
      rfl
    · rw [if_neg h, if_neg h, dueS_at fx rs (i + 1)]
      rcases ruleS_range fx rs (i + 1) with q | q
      · rw [if_pos q, if_pos q]
      · rw [if_neg (by omega), if_neg (by omega), show (ruleS fx rs (i + 1) - (i : Int)).toNat = (ruleS fx rs (i + 1) - ((i + 1 : Nat) : Int)).toNat + 1 by omega]
        rfl
theorem ec_one {fx : Int → Int} {c : List (Int × Int)} {r : Int} (h : okS c 0 1) (e : ec fx (flat c) [] = [r]) : ev fx c [] = [r] := by rw [← ec_flat fx c [] 1 h]; exact e
theorem c_X6_ruleFor (hB : BkOk n ρ o) (rs : List (List (Int × Int) × List (Int × Int))) (h0 : I o 0 = rs.length) (h1 : rs.length ≤ 10) (hb : bookP (I (o + 1)) (I (o + 2)) (I (o + 3)) (I (o + 4)) rs 0) (hf : ∀ j, 0 ≤ j → j < 4 → rg (I 13 j)) : Ct G yX6_ruleFor cX6_ruleFor 3 (some .int) 4 0 0 [.ref (gb G + o), .ref (gb G + 13)] n I ρ (fun v n' I' ρ' => v = some (.int (jI (ruleS (fxC I) rs 0))) ∧ n = n' ∧ ρ = ρ' ∧ stkOnly o I I') := by
  refine Ct.of [some (.ref (gb G + o)), some (.ref (gb G + 13)), none] (by decide) rfl rfl rfl ?_
  intro k SR
  have S : Sem G RX6 "ruleFor" cX6_ruleFor 3 (rmD 4 0 0) k := SR.sem
  have hB' := hB
  obtain ⟨k0, k1, k2, k3, k4, k5, r2, r3, r4, r5, r7, l0, l1, hn⟩ := hB
  obtain ⟨R, eR⟩ : ∃ R, R = ruleS (fxC I) rs 0 := ⟨_, rfl⟩
  rw [← eR] at SR
  have loop : ∀ (l : List (List (Int × Int) × List (Int × Int))) (i : Nat) (J : Iv), (i : Int) + l.length = rs.length → stkOnly o I J → bookP (I (o + 1)) (I (o + 2)) (I (o + 3)) (I (o + 4)) l i → ruleS (fxC I) l i = R → k 2 [some (.ref (gb G + o)), some (.ref (gb G + 13)), some (.int (jI (i : Int)))] [] n J ρ 0 0 := by
    intro l
    induction l with
    | nil =>
      intro i J hi hJ hb hR
      have e0 : J o 0 = rs.length := by rw [hJ.2 0 (by decide)]; exact h0
      have hi' : (i : Int) = rs.length := by simpa using hi
      refine r_iload_n S rfl dX6_ruleFor_2 ?_
      refine r_aload_n S rfl dX6_ruleFor_3 ?_
      refine r_getI S (v := J o 0) fk_X6_9 dX6_ruleFor_4 k0 rfl (by omega) rfl ?_
      refine r_icmp_ge S (tgt := 39) dX6_ruleFor_7 (by decide) (by omega) (by omega) (fun c7 => ?_) (fun c7 => ?_)
      · refine r_iconst S dX6_ruleFor_39 ?_
        refine r_iret SR dX6_ruleFor_40 ⟨by decide, by decide⟩ ?_
        exact ⟨by rw [← hR]; rfl, rfl, rfl, hJ⟩
      · exact absurd c7 (by omega)
    | cons r l ih =>
      intro i J hi hJ hb hR
      have e0 : J o 0 = rs.length := by rw [hJ.2 0 (by decide)]; exact h0
      have hi' : (i : Int) < rs.length := by simp only [List.length_cons] at hi; omega
      have hi1 : (((i + 1 : Nat)) : Int) + l.length = rs.length := by simp only [List.length_cons] at hi; omega
      obtain ⟨b1, b2', b3, b4, b5, b6, b7, b8, b9⟩ := hb
      have e3 : J (o + 3) = I (o + 3) := hJ.1 _ (by omega) (by omega)
      have e4 : J (o + 4) = I (o + 4) := hJ.1 _ (by omega) (by omega)
      have e1 : J (o + 1) = I (o + 1) := hJ.1 _ (by omega) (by omega)
      have e13 : J 13 = I 13 := hJ.1 _ (by omega) (by omega)
      have efx : fxC J = fxC I := by
        funext k
        show J 13 (k - 1) = I 13 (k - 1)
        rw [e13]
      refine r_iload_n S rfl dX6_ruleFor_2 ?_
      refine r_aload_n S rfl dX6_ruleFor_3 ?_
      refine r_getI S (v := J o 0) fk_X6_9 dX6_ruleFor_4 k0 rfl (by omega) rfl ?_
      refine r_icmp_ge S (tgt := 39) dX6_ruleFor_7 (by decide) (by omega) (by omega) (fun c7 => ?_) (fun c7 => ?_)
      · exact absurd c7 (by omega)
      · refine r_aload_n S rfl dX6_ruleFor_10 ?_
        refine r_aload_n S rfl dX6_ruleFor_11 ?_
        refine r_getR S (o' := (o + 3)) fk_X6_25 dX6_ruleFor_12 k0 rfl (by omega) r4 ?_
        refine r_iload_n S rfl dX6_ruleFor_15 ?_
        refine r_iald S (v := I (o + 3) (i : Int)) dX6_ruleFor_16 k3 rfl (by omega) (by omega) (by omega) (by rw [e3]) ?_
        refine r_aload_n S rfl dX6_ruleFor_17 ?_
        refine r_getR S (o' := (o + 4)) fk_X6_28 dX6_ruleFor_18 k0 rfl (by omega) r5 ?_
        refine r_iload_n S rfl dX6_ruleFor_21 ?_
        refine r_iald S (v := I (o + 4) (i : Int)) dX6_ruleFor_22 k4 rfl (by omega) (by omega) (by omega) (by rw [e4]) ?_
        refine r_aload_n S rfl dX6_ruleFor_23 ?_
        refine r_callV S lk_X6_47 mk_X6_run (c_X6_run G n J ρ o hB' (flat r.2) (by omega) b3 b4 (by rw [e1]; exact b6) (okC_flat _ _ _ b8) (by rw [e13]; exact hf)) k0 (by omega) rfl rfl rfl (Nat.le_of_ble_eq_true rfl) ⟨by decide, by decide⟩ rfl ⟨by decide, by decide⟩ dX6_ruleFor_24 ?_
        rintro _ _ J2 _ ⟨⟨w, rfl, hw, hev⟩, rfl, rfl, hJ2⟩
        rw [efx] at hev
        have hev := ec_one b8 hev
        refine r_iconst S dX6_ruleFor_27 ?_
        refine r_icmp_ne S (tgt := 33) dX6_ruleFor_28 (by decide) hw (by decide) (fun c28 => ?_) (fun c28 => ?_)
        · refine r_iinc S dX6_ruleFor_33 rfl rfl rfl ?_
          refine r_goto S (tgt := 2) dX6_ruleFor_36 (by decide) ?_
          refine ih (i + 1) J2 hi1 (hJ.tr hJ2) b9 ?_
          rw [← hR, ruleS, if_neg (by rw [hev]; intro q; exact c28 (List.cons.inj q).1)]
        · refine r_iload_n S rfl dX6_ruleFor_31 ?_
          refine r_iret SR dX6_ruleFor_32 ⟨by decide, by decide⟩ ?_
          exact ⟨by rw [← hR, ruleS, if_pos (by rw [hev, c28])], rfl, rfl, hJ.tr hJ2⟩
  refine r_iconst S dX6_ruleFor_0 ?_
  refine r_istore_n S dX6_ruleFor_1 rfl rfl ?_
  exact loop rs 0 I (by simp) (stkOnly.rf o I) hb eR.symm
end
