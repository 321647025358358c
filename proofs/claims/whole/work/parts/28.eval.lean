/-! ===== rules as steps: what they come to ===== -/
/-- a whole number as an int of the machine keeps it -/
def wr (z : Int) : Int := (jI z).toInt
theorem wr_j (z : Int) : jI (wr z) = jI z := jI_of _
theorem wr_rg (z : Int) : rg (wr z) := rg_of _
def andW (a b : Int) : Int := (jI a &&& jI b).toInt
theorem andW_j (a b : Int) : jI a &&& jI b = jI (andW a b) := (jI_of _).symm
theorem andW_rg (a b : Int) : rg (andW a b) := rg_of _
def divW (a b : Int) : Int := (jI a / jI b).toInt
theorem divW_j (a b : Int) : jI a / jI b = jI (divW a b) := (jI_of _).symm
theorem divW_rg (a b : Int) : rg (divW a b) := rg_of _
/-- what an operator makes of two numbers: 5 + 6 - 7 * 9 < 10 = 11 > else and -/
def opS (k a b : Int) : Int := if k = 5 then wr (a + b) else if k = 6 then wr (a - b) else if k = 7 then wr (a * b) else if k = 9 then b2 (a < b) else if k = 10 then b2 (a = b) else if k = 11 then b2 (b < a) else andW a b
theorem rg_ite {p : Prop} [Decidable p] {a b : Int} (ha : rg a) (hb : rg b) : rg (if p then a else b) := by
  by_cases h : p
  · rw [if_pos h]
    exact ha
  · rw [if_neg h]
    exact hb
theorem opS_rg (k a b : Int) : rg (opS k a b) := rg_ite (wr_rg _) (rg_ite (wr_rg _) (rg_ite (wr_rg _) (rg_ite (b2_rg _) (rg_ite (b2_rg _) (rg_ite (b2_rg _) (andW_rg _ _))))))
/-- a step: (0, v) a number; (1 .. 4, _) a fact; (8, v) a part by v; else an operator -/
def ev1 (fx : Int → Int) (s : Int × Int) (st : List Int) : List Int := if s.1 = 0 then s.2 :: st else if 1 ≤ s.1 ∧ s.1 ≤ 4 then fx s.1 :: st else if s.1 = 8 then (match st with
  | a :: t => divW a s.2 :: t
  | [] => []) else (match st with
  | b :: a :: t => opS s.1 a b :: t
  | _ => [])
def ev (fx : Int → Int) : List (Int × Int) → List Int → List Int
  | [], st => st
  | s :: l, st => ev fx l (ev1 fx s st)
theorem ev_app (fx : Int → Int) : ∀ (a b : List (Int × Int)) (st : List Int), ev fx (a ++ b) st = ev fx b (ev fx a st)
  | [], _, _ => rfl
  | s :: a, b, st => ev_app fx a b (ev1 fx s st)
/-- the steps go from height h to height h', never under what they take, never over 24 (a part wants one more place) -/
def okS : List (Int × Int) → Nat → Nat → Prop
  | [], h, h' => h = h'
  | s :: l, h, h' => if s.1 = 0 then 0 ≤ s.2 ∧ s.2 ≤ 9999 ∧ h + 1 ≤ 24 ∧ okS l (h + 1) h' else if 1 ≤ s.1 ∧ s.1 ≤ 4 then h + 1 ≤ 24 ∧ okS l (h + 1) h' else if s.1 = 8 then 1 ≤ s.2 ∧ s.2 ≤ 9999 ∧ 1 ≤ h ∧ h + 1 ≤ 24 ∧ okS l h h' else 5 ≤ s.1 ∧ s.1 ≤ 12 ∧ 2 ≤ h ∧ okS l (h - 1) h'
theorem okS_app : ∀ (a b : List (Int × Int)) (h h' h'' : Nat), okS a h h' → okS b h' h'' → okS (a ++ b) h h''
  | [], b, h, h', h'', ha, hb => by
    cases (show h = h' from ha)
    exact hb
  | s :: a, b, h, h', h'', ha, hb => by
    show okS (s :: (a ++ b)) h h''
    unfold okS at ha ⊢
    split
    · rename_i e
      rw [if_pos e] at ha
      exact ⟨ha.1, ha.2.1, ha.2.2.1, okS_app a b _ _ _ ha.2.2.2 hb⟩
    · rename_i e
      rw [if_neg e] at ha
      split
      · rename_i e2
        rw [if_pos e2] at ha
        exact ⟨ha.1, okS_app a b _ _ _ ha.2 hb⟩
      · rename_i e2
        rw [if_neg e2] at ha
        split
        · rename_i e3
          rw [if_pos e3] at ha
          exact ⟨ha.1, ha.2.1, ha.2.2.1, ha.2.2.2.1, okS_app a b _ _ _ ha.2.2.2.2 hb⟩
        · rename_i e3
          rw [if_neg e3] at ha
          exact ⟨ha.1, ha.2.1, ha.2.2.1, okS_app a b _ _ _ ha.2.2.2 hb⟩
/-- as the class writes them: codes alone -/
def fl1 (s : Int × Int) : List Int := if s.1 = 0 then [s.2] else if s.1 = 8 then [s.2, -8] else [-s.1]
def flat : List (Int × Int) → List Int
  | [] => []
  | s :: l => fl1 s ++ flat l
theorem flat_app : ∀ a b : List (Int × Int), flat (a ++ b) = flat a ++ flat b
  | [], _ => rfl
  | s :: a, b => by
    show fl1 s ++ flat (a ++ b) = (fl1 s ++ flat a) ++ flat b
    rw [flat_app a b, List.append_assoc]
/-- the class's operator -/
def jn (a x b : Int) : Int := if x = -5 then wr (a + b) else if x = -6 then wr (a - b) else if x = -7 then wr (a * b) else if x = -8 then (if b = 0 then 0 else divW a b) else if x = -9 then b2 (a < b) else if x = -10 then b2 (a = b) else if x = -11 then b2 (b < a) else if x = -12 then andW a b else 0
def ec1 (fx : Int → Int) (x : Int) (st : List Int) : List Int := if 0 ≤ x then x :: st else if -4 ≤ x ∧ x ≤ -1 then fx (-x) :: st else (match st with
  | b :: a :: t => jn a x b :: t
  | _ => [])
def ec (fx : Int → Int) : List Int → List Int → List Int
  | [], st => st
  | x :: l, st => ec fx l (ec1 fx x st)
theorem ec_app (fx : Int → Int) : ∀ (a b : List Int) (st : List Int), ec fx (a ++ b) st = ec fx b (ec fx a st)
  | [], _, _ => rfl
  | s :: a, b, st => ec_app fx a b (ec1 fx s st)
def okC : List Int → Nat → Nat → Prop
  | [], h, h' => h = h'
  | x :: l, h, h' => if 0 ≤ x then x ≤ 9999 ∧ h + 1 ≤ 24 ∧ okC l (h + 1) h' else if -4 ≤ x ∧ x ≤ -1 then h + 1 ≤ 24 ∧ okC l (h + 1) h' else -12 ≤ x ∧ 2 ≤ h ∧ okC l (h - 1) h'
theorem okC_app : ∀ (a b : List Int) (h h' h'' : Nat), okC a h h' → okC b h' h'' → okC (a ++ b) h h''
  | [], b, h, h', h'', ha, hb => by
    cases (show h = h' from ha)
    exact hb
  | x :: a, b, h, h', h'', ha, hb => by
    show okC (x :: (a ++ b)) h h''
    unfold okC at ha ⊢
    split
    · rename_i e
      rw [if_pos e] at ha
      exact ⟨ha.1, ha.2.1, okC_app a b _ _ _ ha.2.2 hb⟩
    · rename_i e
      rw [if_neg e] at ha
      split
      · rename_i e2
        rw [if_pos e2] at ha
        exact ⟨ha.1, okC_app a b _ _ _ ha.2 hb⟩
      · rename_i e2
        rw [if_neg e2] at ha
        exact ⟨ha.1, ha.2.1, okC_app a b _ _ _ ha.2.2 hb⟩
theorem jn_op {k a b : Int} (h0 : 5 ≤ k) (h1 : k ≤ 12) (h8 : ¬ k = 8) : jn a (-k) b = opS k a b := by
  have : k = 5 ∨ k = 6 ∨ k = 7 ∨ k = 9 ∨ k = 10 ∨ k = 11 ∨ k = 12 := by omega
  rcases this with rfl | rfl | rfl | rfl | rfl | rfl | rfl <;> rfl
theorem okC_flat : ∀ (l : List (Int × Int)) (h h' : Nat), okS l h h' → okC (flat l) h h'
  | [], _, _, hh => hh
  | s :: l, h, h', hh => by
    unfold okS at hh
    show okC (fl1 s ++ flat l) h h'
    unfold fl1
    by_cases e : s.1 = 0
    · rw [if_pos e] at hh ⊢
      refine okC_app _ _ h (h + 1) h' ?_ (okC_flat l _ _ hh.2.2.2)
      unfold okC
      rw [if_pos hh.1]
      exact ⟨hh.2.1, hh.2.2.1, rfl⟩
    · rw [if_neg e] at hh ⊢
      by_cases e2 : 1 ≤ s.1 ∧ s.1 ≤ 4
      · rw [if_pos e2] at hh
        rw [if_neg (by omega)]
        refine okC_app _ _ h (h + 1) h' ?_ (okC_flat l _ _ hh.2)
        unfold okC
        rw [if_neg (by omega), if_pos (by omega)]
        exact ⟨hh.1, rfl⟩
      · rw [if_neg e2] at hh
        by_cases e3 : s.1 = 8
        · rw [if_pos e3] at hh ⊢
          refine okC_app _ _ h h h' ?_ (okC_flat l _ _ hh.2.2.2.2)
          unfold okC
          rw [if_pos (by omega)]
          refine ⟨hh.2.1, hh.2.2.2.1, ?_⟩
          unfold okC
          rw [if_neg (by decide), if_neg (by decide)]
          exact ⟨by decide, by omega, by unfold okC; omega⟩
        · rw [if_neg e3] at hh ⊢
          refine okC_app _ _ h (h - 1) h' ?_ (okC_flat l _ _ hh.2.2.2)
          unfold okC
          rw [if_neg (by omega), if_neg (by omega)]
          exact ⟨by omega, hh.2.2.1, rfl⟩
theorem ev1_len (fx : Int → Int) {s : Int × Int} {l : List (Int × Int)} {st : List Int} {h' : Nat} (hh : okS (s :: l) st.length h') : okS l (ev1 fx s st).length h' := by
  unfold okS at hh
  unfold ev1
  by_cases e : s.1 = 0
  · rw [if_pos e] at hh ⊢
    exact hh.2.2.2
  · rw [if_neg e] at hh ⊢
    by_cases e2 : 1 ≤ s.1 ∧ s.1 ≤ 4
    · rw [if_pos e2] at hh ⊢
      exact hh.2
    · rw [if_neg e2] at hh ⊢
      by_cases e3 : s.1 = 8
      · rw [if_pos e3] at hh ⊢
        cases st with
        | nil => exact absurd hh.2.2.1 (by decide)
        | cons a t => exact hh.2.2.2.2
      · rw [if_neg e3] at hh ⊢
        cases st with
        | nil => exact absurd hh.2.2.1 (by decide)
        | cons b t =>
          cases t with
          | nil => exact absurd hh.2.2.1 (by simp)
          | cons a t => exact hh.2.2.2
theorem ec_flat (fx : Int → Int) : ∀ (l : List (Int × Int)) (st : List Int) (h' : Nat), okS l st.length h' → ec fx (flat l) st = ev fx l st
  | [], _, _, _ => rfl
  | s :: l, st, h', hh => by
    have hl := ev1_len fx hh
    have ih := ec_flat fx l (ev1 fx s st) h' hl
    show ec fx (fl1 s ++ flat l) st = ev fx l (ev1 fx s st)
    rw [ec_app, ← ih]
    congr 1
    unfold okS at hh
    unfold fl1 ev1
    by_cases e : s.1 = 0
    · rw [if_pos e] at hh ⊢
      rw [if_pos e]
      show ec1 fx s.2 st = _
      unfold ec1
      rw [if_pos hh.1]
    · rw [if_neg e] at hh ⊢
      rw [if_neg e]
      by_cases e2 : 1 ≤ s.1 ∧ s.1 ≤ 4
      · rw [if_pos e2, if_neg (by omega)]
        show ec1 fx (-s.1) st = _
        unfold ec1
        rw [if_neg (by omega), if_pos (by omega), Int.neg_neg]
      · rw [if_neg e2] at hh ⊢
        by_cases e3 : s.1 = 8
        · rw [if_pos e3] at hh ⊢
          rw [if_pos e3]
          show ec1 fx (-8) (ec1 fx s.2 st) = _
          unfold ec1
          rw [if_pos (show 0 ≤ s.2 by omega), if_neg (by decide), if_neg (by decide)]
          cases st with
          | nil => exact absurd hh.2.2.1 (by decide)
          | cons a t =>
            show jn a (-8) s.2 :: t = divW a s.2 :: t
            unfold jn
            rw [if_neg (by decide), if_neg (by decide), if_neg (by decide), if_pos rfl, if_neg (by omega)]
        · rw [if_neg e3] at hh ⊢
          rw [if_neg e3]
          show ec1 fx (-s.1) st = _
          unfold ec1
          rw [if_neg (by omega), if_neg (by omega)]
          cases st with
          | nil => rfl
          | cons b t =>
            cases t with
            | nil => rfl
            | cons a t =>
              show jn a (-s.1) b :: t = opS s.1 a b :: t
              rw [jn_op (by omega) (by omega) e3]
/-- array A holds the codes l from place i on -/
def seg (A : Int → Int) : Int → List Int → Prop
  | _, [] => True
  | i, x :: l => A i = x ∧ seg A (i + 1) l
/-- array A holds the stack (the top is the head) -/
def holdS (A : Int → Int) : List Int → Prop
  | [] => True
  | a :: t => A (t.length : Int) = a ∧ holdS A t
theorem holdS_congr {A B : Int → Int} : ∀ (st : List Int), (∀ j : Int, 0 ≤ j → j < st.length → B j = A j) → holdS A st → holdS B st
  | [], _, _ => trivial
  | a :: t, h, hh => by
    refine ⟨?_, holdS_congr t (fun j h0 h1 => h j h0 (by simp only [List.length_cons]; omega)) hh.2⟩
    rw [h t.length (by omega) (by simp only [List.length_cons]; omega)]
    exact hh.1
section
variable (G : GE) (n : Nat) (I : Iv) (ρ : Rv) (o : Nat)
theorem c_X6_join {a x b : Int} (ha : rg a) (hx : rg x) (hb : rg b) : Ct G yX6_join cX6_join 3 (some .int) 0 0 0 [.int (jI a), .int (jI x), .int (jI b)] n I ρ (PI (jn a x b) n I ρ) := by
  refine Ct.of [some (.int (jI a)), some (.int (jI x)), some (.int (jI b))] (by decide) rfl rfl rfl ?_
  intro k SR
  have S : Sem G RX6 "join" cX6_join 3 (rmD 0 0 0) k := SR.sem
  refine r_iload_n S rfl dX6_join_0 ?_
  rcases (by omega : x = (-12) ∨ x = (-11) ∨ x = (-10) ∨ x = (-9) ∨ x = (-8) ∨ x = (-7) ∨ x = (-6) ∨ x = (-5) ∨ (x < -12 ∨ -5 < x)) with c1 | c1 | c1 | c1 | c1 | c1 | c1 | c1 | c1
  · refine r_tableIn S (-12) (tgt := 105) dX6_join_1 c1 (by decide) (by decide) (by decide) rfl (by decide) ?_
    refine r_iload_n S rfl dX6_join_105 ?_
    refine r_iload_n S rfl dX6_join_106 ?_
    refine r_iand S (v := andW a b) (andW_j a b) dX6_join_107 ?_
    refine r_iret SR dX6_join_108 ⟨by decide, by decide⟩ ?_
    exact ⟨by rw [c1]; rfl, rfl, rfl, rfl⟩
  · refine r_tableIn S (-11) (tgt := 94) dX6_join_1 c1 (by decide) (by decide) (by decide) rfl (by decide) ?_
    refine r_iload_n S rfl dX6_join_94 ?_
    refine r_iload_n S rfl dX6_join_95 ?_
    refine r_icmp_le S (tgt := 103) dX6_join_96 (by decide) (by omega) (by omega) (fun c96 => ?_) (fun c96 => ?_)
    · refine r_iconst S dX6_join_103 ?_
      refine r_iret SR dX6_join_104 ⟨by decide, by decide⟩ ?_
      first | exact ⟨by rw [c1]; show _ = some (Value.int (jI (b2 (b < a)))); rw [b2_t (by omega)], rfl, rfl, rfl⟩ | exact ⟨by rw [c1]; show _ = some (Value.int (jI (b2 (b < a)))); rw [b2_f (by omega)], rfl, rfl, rfl⟩
    · refine r_iconst S dX6_join_99 ?_
      refine r_goto S (tgt := 104) dX6_join_100 (by decide) ?_
      refine r_iret SR dX6_join_104 ⟨by decide, by decide⟩ ?_
      first | exact ⟨by rw [c1]; show _ = some (Value.int (jI (b2 (b < a)))); rw [b2_t (by omega)], rfl, rfl, rfl⟩ | exact ⟨by rw [c1]; show _ = some (Value.int (jI (b2 (b < a)))); rw [b2_f (by omega)], rfl, rfl, rfl⟩
  · refine r_tableIn S (-10) (tgt := 83) dX6_join_1 c1 (by decide) (by decide) (by decide) rfl (by decide) ?_
    refine r_iload_n S rfl dX6_join_83 ?_
    refine r_iload_n S rfl dX6_join_84 ?_
    refine r_icmp_ne S (tgt := 92) dX6_join_85 (by decide) (by omega) (by omega) (fun c85 => ?_) (fun c85 => ?_)
    · refine r_iconst S dX6_join_92 ?_
      refine r_iret SR dX6_join_93 ⟨by decide, by decide⟩ ?_
      first | exact ⟨by rw [c1]; show _ = some (Value.int (jI (b2 (a = b)))); rw [b2_t (by omega)], rfl, rfl, rfl⟩ | exact ⟨by rw [c1]; show _ = some (Value.int (jI (b2 (a = b)))); rw [b2_f (by omega)], rfl, rfl, rfl⟩
    · refine r_iconst S dX6_join_88 ?_
      refine r_goto S (tgt := 93) dX6_join_89 (by decide) ?_
      refine r_iret SR dX6_join_93 ⟨by decide, by decide⟩ ?_
      first | exact ⟨by rw [c1]; show _ = some (Value.int (jI (b2 (a = b)))); rw [b2_t (by omega)], rfl, rfl, rfl⟩ | exact ⟨by rw [c1]; show _ = some (Value.int (jI (b2 (a = b)))); rw [b2_f (by omega)], rfl, rfl, rfl⟩
  · refine r_tableIn S (-9) (tgt := 72) dX6_join_1 c1 (by decide) (by decide) (by decide) rfl (by decide) ?_
    refine r_iload_n S rfl dX6_join_72 ?_
    refine r_iload_n S rfl dX6_join_73 ?_
    refine r_icmp_ge S (tgt := 81) dX6_join_74 (by decide) (by omega) (by omega) (fun c74 => ?_) (fun c74 => ?_)
    · refine r_iconst S dX6_join_81 ?_
      refine r_iret SR dX6_join_82 ⟨by decide, by decide⟩ ?_
      first | exact ⟨by rw [c1]; show _ = some (Value.int (jI (b2 (a < b)))); rw [b2_t (by omega)], rfl, rfl, rfl⟩ | exact ⟨by rw [c1]; show _ = some (Value.int (jI (b2 (a < b)))); rw [b2_f (by omega)], rfl, rfl, rfl⟩
    · refine r_iconst S dX6_join_77 ?_
      refine r_goto S (tgt := 82) dX6_join_78 (by decide) ?_
      refine r_iret SR dX6_join_82 ⟨by decide, by decide⟩ ?_
      first | exact ⟨by rw [c1]; show _ = some (Value.int (jI (b2 (a < b)))); rw [b2_t (by omega)], rfl, rfl, rfl⟩ | exact ⟨by rw [c1]; show _ = some (Value.int (jI (b2 (a < b)))); rw [b2_f (by omega)], rfl, rfl, rfl⟩
  · refine r_tableIn S (-8) (tgt := 60) dX6_join_1 c1 (by decide) (by decide) (by decide) rfl (by decide) ?_
    refine r_iload_n S rfl dX6_join_60 ?_
    refine r_if_ne S (tgt := 68) dX6_join_61 (by decide) (by omega) (fun c61 => ?_) (fun c61 => ?_)
    · refine r_iload_n S rfl dX6_join_68 ?_
      refine r_iload_n S rfl dX6_join_69 ?_
      refine r_idiv S (v := divW a b) (fun h => c61 ((jI_eq hb rg_0).mp h)) (divW_j a b) dX6_join_70 ?_
      refine r_iret SR dX6_join_71 ⟨by decide, by decide⟩ ?_
      first | exact ⟨by rw [c1, c61]; rfl, rfl, rfl, rfl⟩ | exact ⟨by rw [c1, jn, if_neg (by decide), if_neg (by decide), if_neg (by decide), if_pos rfl, if_neg c61], rfl, rfl, rfl⟩
    · refine r_iconst S dX6_join_64 ?_
      refine r_goto S (tgt := 71) dX6_join_65 (by decide) ?_
      refine r_iret SR dX6_join_71 ⟨by decide, by decide⟩ ?_
      first | exact ⟨by rw [c1, c61]; rfl, rfl, rfl, rfl⟩ | exact ⟨by rw [c1, jn, if_neg (by decide), if_neg (by decide), if_neg (by decide), if_pos rfl, if_neg c61], rfl, rfl, rfl⟩
  · refine r_tableIn S (-7) (tgt := 56) dX6_join_1 c1 (by decide) (by decide) (by decide) rfl (by decide) ?_
    refine r_iload_n S rfl dX6_join_56 ?_
    refine r_iload_n S rfl dX6_join_57 ?_
    refine r_imul S dX6_join_58 ?_
    refine r_iret SR dX6_join_59 ⟨by decide, by decide⟩ ?_
    exact ⟨by rw [c1, ← wr_j]; rfl, rfl, rfl, rfl⟩
  · refine r_tableIn S (-6) (tgt := 52) dX6_join_1 c1 (by decide) (by decide) (by decide) rfl (by decide) ?_
    refine r_iload_n S rfl dX6_join_52 ?_
    refine r_iload_n S rfl dX6_join_53 ?_
    refine r_isub S dX6_join_54 ?_
    refine r_iret SR dX6_join_55 ⟨by decide, by decide⟩ ?_
    exact ⟨by rw [c1, ← wr_j]; rfl, rfl, rfl, rfl⟩
  · refine r_tableIn S (-5) (tgt := 48) dX6_join_1 c1 (by decide) (by decide) (by decide) rfl (by decide) ?_
    refine r_iload_n S rfl dX6_join_48 ?_
    refine r_iload_n S rfl dX6_join_49 ?_
    refine r_iadd S dX6_join_50 ?_
    refine r_iret SR dX6_join_51 ⟨by decide, by decide⟩ ?_
    exact ⟨by rw [c1, ← wr_j]; rfl, rfl, rfl, rfl⟩
  · refine r_tableOut S (tgt := 109) dX6_join_1 (by omega) c1 (by decide) ?_
    refine r_iconst S dX6_join_109 ?_
    refine r_iret SR dX6_join_110 ⟨by decide, by decide⟩ ?_
    exact ⟨by unfold jn; rw [if_neg (by omega), if_neg (by omega), if_neg (by omega), if_neg (by omega), if_neg (by omega), if_neg (by omega), if_neg (by omega), if_neg (by omega)], rfl, rfl, rfl⟩
theorem jn_rg (a x b : Int) : rg (jn a x b) := rg_ite (wr_rg _) (rg_ite (wr_rg _) (rg_ite (wr_rg _) (rg_ite (rg_ite rg_0 (divW_rg _ _)) (rg_ite (b2_rg _) (rg_ite (b2_rg _) (rg_ite (b2_rg _) (rg_ite (andW_rg _ _) rg_0)))))))
end
