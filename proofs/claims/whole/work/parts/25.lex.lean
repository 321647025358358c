/-! ===== the text as tokens ===== -/
abbrev isLet (c : Int) : Prop := (97 ≤ c ∧ c ≤ 122) ∨ (65 ≤ c ∧ c ≤ 90)
abbrev isDig (c : Int) : Prop := 48 ≤ c ∧ c ≤ 57
/-- the first place from p on, k at most, where P doesn't hold -/
def runF (P : Int → Prop) [DecidablePred P] (by_ : Int → Int) : Nat → Int → Int
  | 0, p => p
  | k + 1, p => if P (by_ p) then runF P by_ k (p + 1) else p
theorem runF_range (P : Int → Prop) [DecidablePred P] (by_ : Int → Int) : ∀ (k : Nat) (p : Int), p ≤ runF P by_ k p ∧ runF P by_ k p ≤ p + k
  | 0, p => ⟨by unfold runF; omega, by unfold runF; omega⟩
  | k + 1, p => by
    have := runF_range P by_ k (p + 1)
    unfold runF
    split <;> omega
theorem runF_in (P : Int → Prop) [DecidablePred P] (by_ : Int → Int) : ∀ (k : Nat) (p j : Int), p ≤ j → j < runF P by_ k p → P (by_ j)
  | 0, p, j, h0, h1 => by unfold runF at h1; omega
  | k + 1, p, j, h0, h1 => by
    unfold runF at h1
    split at h1
    · rename_i hP
      by_cases e : j = p
      · rw [e]
        exact hP
      · exact runF_in P by_ k (p + 1) j (by omega) h1
    · omega
/-- the run of P from p on, before len -/
abbrev run0 (P : Int → Prop) [DecidablePred P] (by_ : Int → Int) (len p : Int) : Int := runF P by_ (len - p).toNat p
theorem run0_step (P : Int → Prop) [DecidablePred P] (by_ : Int → Int) {len p : Int} (h : p < len) : run0 P by_ len p = if P (by_ p) then run0 P by_ len (p + 1) else p := by
  unfold run0
  rw [show (len - p).toNat = (len - (p + 1)).toNat + 1 by omega]
  rfl
theorem run0_end (P : Int → Prop) [DecidablePred P] (by_ : Int → Int) {len p : Int} (h : len ≤ p) : run0 P by_ len p = p := by
  unfold run0
  rw [show (len - p).toNat = 0 by omega]
  rfl
theorem run0_range (P : Int → Prop) [DecidablePred P] (by_ : Int → Int) {len p : Int} (h : p ≤ len) : p ≤ run0 P by_ len p ∧ run0 P by_ len p ≤ len := by
  have := runF_range P by_ (len - p).toNat p
  unfold run0
  omega
theorem run0_gt (P : Int → Prop) [DecidablePred P] (by_ : Int → Int) {len p : Int} (h : p < len) (hP : P (by_ p)) : p < run0 P by_ len p := by
  rw [run0_step P by_ h, if_pos hP]
  have := run0_range P by_ (len := len) (p := p + 1) (by omega)
  omega
/-- word i stands at a .. b - 1 -/
def splB (by_ : Int → Int) (i : Nat) (a : Int) : Bool := (List.range (sL.getD i 0)).all (fun j => by_ (a + j) == sCh i j)
abbrev splP (by_ : Int → Int) (i : Nat) (a b : Int) : Prop := b - a = (sL.getD i 0 : Nat) ∧ splB by_ i a = true
theorem splB_iff {by_ : Int → Int} {i : Nat} {a : Int} : splB by_ i a = true ↔ ∀ j : Int, 0 ≤ j → j < (sL.getD i 0 : Nat) → by_ (a + j) = sCh i j := by
  unfold splB
  rw [List.all_eq_true]
  constructor
  · intro h j h0 h1
    have h2 := h j.toNat (List.mem_range.mpr (by omega))
    rw [show ((j.toNat : Nat) : Int) = j by omega] at h2
    exact eq_of_beq h2
  · intro h x hx
    rw [h x (by omega) (by have := List.mem_range.mp hx; omega)]
    exact beq_self_eq_true _
/-- the code of the word at a .. b - 1 -/
def wcode (by_ : Int → Int) (a b : Int) : Int := if splP by_ 0 a b then -13 else if splP by_ 1 a b then -14 else if splP by_ 2 a b then -12 else if splP by_ 3 a b then -1 else if splP by_ 4 a b then -2 else if splP by_ 5 a b then -3 else if splP by_ 6 a b then -4 else -18
/-- the number of k digits from a on -/
def numv (by_ : Int → Int) (a : Int) : Nat → Int
  | 0 => 0
  | k + 1 => numv by_ a k * 10 + (by_ (a + k) - 48)
/-- the code of a sign -/
def sgn (c : Int) : Int := if c = 59 then -15 else if c = 43 then -5 else if c = 45 then -6 else if c = 42 then -7 else if c = 47 then -8 else if c = 40 then -16 else if c = 41 then -17 else if c = 60 then -9 else if c = 61 then -10 else if c = 62 then -11 else -18
def dcode (by_ : Int → Int) (a b : Int) : Int := if b - a ≤ 4 then numv by_ a (b - a).toNat else -18
/-- code and next place of the token that begins at p -/
def tok1 (by_ : Int → Int) (len p : Int) : Int × Int := if isLet (by_ p) then (wcode by_ p (run0 isLet by_ len p), run0 isLet by_ len p) else if isDig (by_ p) then (dcode by_ p (run0 isDig by_ len p), run0 isDig by_ len p) else (sgn (by_ p), p + 1)
def tokF (by_ : Int → Int) (len : Int) : Nat → Int → List (Int × Int)
  | 0, _ => [(-19, len)]
  | k + 1, p => if len ≤ p then [(-19, len)] else if by_ p = 32 ∨ by_ p = 10 then tokF by_ len k (p + 1) else ((tok1 by_ len p).1, p) :: tokF by_ len k (tok1 by_ len p).2
theorem tok1_range (by_ : Int → Int) {len p : Int} (h : p < len) : p < (tok1 by_ len p).2 ∧ (tok1 by_ len p).2 ≤ len := by
  unfold tok1
  split
  · rename_i hP
    exact ⟨run0_gt isLet by_ h hP, (run0_range isLet by_ (Int.le_of_lt h)).2⟩
  · split
    · rename_i hP
      exact ⟨run0_gt isDig by_ h hP, (run0_range isDig by_ (Int.le_of_lt h)).2⟩
    · exact ⟨by simp only; omega, by simp only; omega⟩
theorem tokF_fuel (by_ : Int → Int) (len : Int) : ∀ (k k' : Nat) (p : Int), (len - p).toNat ≤ k → (len - p).toNat ≤ k' → tokF by_ len k p = tokF by_ len k' p
  | 0, 0, _, _, _ => rfl
  | 0, k' + 1, p, h, _ => by
    unfold tokF
    rw [if_pos (by omega)]
  | k + 1, 0, p, _, h => by
    unfold tokF
    rw [if_pos (by omega)]
  | k + 1, k' + 1, p, h, h' => by
    unfold tokF
    by_cases e : len ≤ p
    · rw [if_pos e, if_pos e]
    · rw [if_neg e, if_neg e, tokF_fuel by_ len k k' (p + 1) (by omega) (by omega)]
      have := tok1_range by_ (len := len) (p := p) (by omega)
      rw [tokF_fuel by_ len k k' (tok1 by_ len p).2 (by omega) (by omega)]
/-- the tokens from p on; the last is the end -/
def toks (by_ : Int → Int) (len p : Int) : List (Int × Int) := tokF by_ len (len - p).toNat p
theorem toks_end (by_ : Int → Int) {len p : Int} (h : len ≤ p) : toks by_ len p = [(-19, len)] := by
  unfold toks
  rw [show (len - p).toNat = 0 by omega]
  rfl
theorem toks_blank (by_ : Int → Int) {len p : Int} (h : p < len) (hb : by_ p = 32 ∨ by_ p = 10) : toks by_ len p = toks by_ len (p + 1) := by
  unfold toks
  rw [show (len - p).toNat = (len - (p + 1)).toNat + 1 by omega]
  show (if len ≤ p then _ else _) = _
  rw [if_neg (by omega), if_pos hb]
theorem toks_tok (by_ : Int → Int) {len p : Int} (h : p < len) (hb : ¬ (by_ p = 32 ∨ by_ p = 10)) : toks by_ len p = ((tok1 by_ len p).1, p) :: toks by_ len (tok1 by_ len p).2 := by
  unfold toks
  have := tok1_range by_ h
  rw [show (len - p).toNat = (len - (p + 1)).toNat + 1 by omega]
  show (if len ≤ p then _ else _) = _
  rw [if_neg (by omega), if_neg hb, tokF_fuel by_ len (len - (p + 1)).toNat (len - (tok1 by_ len p).2).toNat _ (by omega) (by omega)]
theorem tokF_len (by_ : Int → Int) (len : Int) : ∀ (k : Nat) (p : Int), (tokF by_ len k p).length ≤ k + 1
  | 0, _ => Nat.le_refl _
  | k + 1, p => by
    unfold tokF
    split
    · simp
    · split
      · have := tokF_len by_ len k (p + 1)
        omega
      · have := tokF_len by_ len k (tok1 by_ len p).2
        simp only [List.length_cons]
        omega
theorem toks_len (by_ : Int → Int) (len p : Int) : (toks by_ len p).length ≤ (len - p).toNat + 1 := tokF_len by_ len _ p
theorem toks_ne (by_ : Int → Int) (len p : Int) : 0 < (toks by_ len p).length := by
  have : ∀ (k : Nat) (p : Int), 0 < (tokF by_ len k p).length := by
    intro k
    induction k with
    | zero => intro p; exact Nat.one_pos
    | succ k ih =>
      intro p
      unfold tokF
      split
      · simp
      · split
        · exact ih (p + 1)
        · simp
  exact this _ _
theorem numv_range (by_ : Int → Int) (a : Int) : ∀ k : Nat, k ≤ 4 → (∀ j : Int, a ≤ j → j < a + k → isDig (by_ j)) → 0 ≤ numv by_ a k ∧ numv by_ a k ≤ (if k = 0 then 0 else if k = 1 then 9 else if k = 2 then 99 else if k = 3 then 999 else 9999)
  | 0, _, _ => ⟨by unfold numv; omega, by unfold numv; omega⟩
  | k + 1, hk, h => by
    have ih := numv_range by_ a k (by omega) (fun j h0 h1 => h j h0 (by omega))
    have hd := h (a + k) (by omega) (by omega)
    unfold numv
    obtain ⟨d, ed⟩ : ∃ d, d = by_ (a + k) := ⟨_, rfl⟩
    rw [← ed] at hd ⊢
    have : k = 0 ∨ k = 1 ∨ k = 2 ∨ k = 3 := by omega
    rcases this with rfl | rfl | rfl | rfl <;> simp at ih ⊢ <;> omega
section
variable (G : GE) (n : Nat) (I : Iv) (bk dr : Nat) (pt : Option Nat)
theorem c_X1_isNumber (ρ : Rv) {a : Int} (ha : rg a) : Ct G yX1_isNumber cX1_isNumber 1 (some .boolean) 0 0 0 [.int (jI a)] n I ρ (PI (b2 (0 ≤ a)) n I ρ) := by
  refine Ct.of [some (.int (jI a))] (by decide) rfl rfl rfl ?_
  intro k SR
  have S : Sem G RX1 "isNumber" cX1_isNumber 1 (rmD 0 0 0) k := SR.sem
  refine r_iload_n S rfl dX1_isNumber_0 ?_
  refine r_if_lt S (tgt := 8) dX1_isNumber_1 (by decide) (by omega) (fun c1 => ?_) (fun c1 => ?_)
  · refine r_iconst S dX1_isNumber_8 ?_
    refine r_zret SR dX1_isNumber_9 (by decide) ⟨by decide, by decide⟩ ?_
    refine ⟨?_, rfl, rfl, rfl⟩
    first | rw [b2_t (by omega)] | rw [b2_f (by omega)]
  · refine r_iconst S dX1_isNumber_4 ?_
    refine r_goto S (tgt := 9) dX1_isNumber_5 (by decide) ?_
    refine r_zret SR dX1_isNumber_9 (by decide) ⟨by decide, by decide⟩ ?_
    refine ⟨?_, rfl, rfl, rfl⟩
    first | rw [b2_t (by omega)] | rw [b2_f (by omega)]
theorem c_X1_isFact (ρ : Rv) {a : Int} (ha : rg a) : Ct G yX1_isFact cX1_isFact 1 (some .boolean) 1 0 0 [.int (jI a)] n I ρ (PI (b2 (-4 ≤ a ∧ a ≤ -1)) n I ρ) := by
  refine Ct.of [some (.int (jI a))] (by decide) rfl rfl rfl ?_
  intro k SR
  have S : Sem G RX1 "isFact" cX1_isFact 1 (rmD 1 0 0) k := SR.sem
  refine r_iload_n S rfl dX1_isFact_0 ?_
  refine r_bipush S (by decide +kernel) dX1_isFact_1 ?_
  refine r_iconst S dX1_isFact_3 ?_
  refine r_callS S lk_X1_9 mk_X11_isWithin (c_X11_isWithin G n I ρ ha (by decide) (by decide)) rfl rfl (Nat.le_of_ble_eq_true rfl) ⟨by decide, by decide⟩ rfl ⟨by decide, by decide⟩ dX1_isFact_4 ?_
  rintro _ _ _ _ ⟨rfl, rfl, rfl, rfl⟩
  refine r_zret SR dX1_isFact_7 (by first | exact b2_01 _ | omega) ⟨by decide, by decide⟩ ?_
  exact ⟨rfl, rfl, rfl, rfl⟩
theorem c_X1_isComparison (ρ : Rv) {a : Int} (ha : rg a) : Ct G yX1_isComparison cX1_isComparison 1 (some .boolean) 1 0 0 [.int (jI a)] n I ρ (PI (b2 (-11 ≤ a ∧ a ≤ -9)) n I ρ) := by
  refine Ct.of [some (.int (jI a))] (by decide) rfl rfl rfl ?_
  intro k SR
  have S : Sem G RX1 "isComparison" cX1_isComparison 1 (rmD 1 0 0) k := SR.sem
  refine r_iload_n S rfl dX1_isComparison_0 ?_
  refine r_bipush S (by decide +kernel) dX1_isComparison_1 ?_
  refine r_bipush S (by decide +kernel) dX1_isComparison_3 ?_
  refine r_callS S lk_X1_9 mk_X11_isWithin (c_X11_isWithin G n I ρ ha (by decide) (by decide)) rfl rfl (Nat.le_of_ble_eq_true rfl) ⟨by decide, by decide⟩ rfl ⟨by decide, by decide⟩ dX1_isComparison_5 ?_
  rintro _ _ _ _ ⟨rfl, rfl, rfl, rfl⟩
  refine r_zret SR dX1_isComparison_8 (by first | exact b2_01 _ | omega) ⟨by decide, by decide⟩ ?_
  exact ⟨rfl, rfl, rfl, rfl⟩
/-- how strongly an operator binds -/
def strn (a : Int) : Int := if a = -5 ∨ a = -6 then 1 else if a = -7 ∨ a = -8 then 2 else 0
theorem strn_range (a : Int) : 0 ≤ strn a ∧ strn a ≤ 2 := by
  unfold strn
  split
  · omega
  · split <;> omega
theorem c_X1_strength (ρ : Rv) {a : Int} (ha : rg a) : Ct G yX1_strength cX1_strength 1 (some .int) 0 0 0 [.int (jI a)] n I ρ (PI (strn a) n I ρ) := by
  refine Ct.of [some (.int (jI a))] (by decide) rfl rfl rfl ?_
  intro k SR
  have S : Sem G RX1 "strength" cX1_strength 1 (rmD 0 0 0) k := SR.sem
  refine r_iload_n S rfl dX1_strength_0 ?_
  rcases (by omega : a = (-8) ∨ a = (-7) ∨ a = (-6) ∨ a = (-5) ∨ (a < -8 ∨ -5 < a)) with c1 | c1 | c1 | c1 | c1
  · refine r_tableIn S (-8) (tgt := 34) dX1_strength_1 c1 (by decide) (by decide) (by decide) rfl (by decide) ?_
    refine r_iconst S dX1_strength_34 ?_
    refine r_iret SR dX1_strength_35 ⟨by decide, by decide⟩ ?_
    refine ⟨?_, rfl, rfl, rfl⟩
    unfold strn
    first | rw [if_pos (by omega)] | rw [if_neg (by omega), if_pos (by omega)] | rw [if_neg (by omega), if_neg (by omega)]
  · refine r_tableIn S (-7) (tgt := 34) dX1_strength_1 c1 (by decide) (by decide) (by decide) rfl (by decide) ?_
    refine r_iconst S dX1_strength_34 ?_
    refine r_iret SR dX1_strength_35 ⟨by decide, by decide⟩ ?_
    refine ⟨?_, rfl, rfl, rfl⟩
    unfold strn
    first | rw [if_pos (by omega)] | rw [if_neg (by omega), if_pos (by omega)] | rw [if_neg (by omega), if_neg (by omega)]
  · refine r_tableIn S (-6) (tgt := 32) dX1_strength_1 c1 (by decide) (by decide) (by decide) rfl (by decide) ?_
    refine r_iconst S dX1_strength_32 ?_
    refine r_iret SR dX1_strength_33 ⟨by decide, by decide⟩ ?_
    refine ⟨?_, rfl, rfl, rfl⟩
    unfold strn
    first | rw [if_pos (by omega)] | rw [if_neg (by omega), if_pos (by omega)] | rw [if_neg (by omega), if_neg (by omega)]
  · refine r_tableIn S (-5) (tgt := 32) dX1_strength_1 c1 (by decide) (by decide) (by decide) rfl (by decide) ?_
    refine r_iconst S dX1_strength_32 ?_
    refine r_iret SR dX1_strength_33 ⟨by decide, by decide⟩ ?_
    refine ⟨?_, rfl, rfl, rfl⟩
    unfold strn
    first | rw [if_pos (by omega)] | rw [if_neg (by omega), if_pos (by omega)] | rw [if_neg (by omega), if_neg (by omega)]
  · refine r_tableOut S (tgt := 36) dX1_strength_1 (by omega) c1 (by decide) ?_
    refine r_iconst S dX1_strength_36 ?_
    refine r_iret SR dX1_strength_37 ⟨by decide, by decide⟩ ?_
    refine ⟨?_, rfl, rfl, rfl⟩
    unfold strn
    first | rw [if_pos (by omega)] | rw [if_neg (by omega), if_pos (by omega)] | rw [if_neg (by omega), if_neg (by omega)]
theorem c_X1_ofSign (ρ : Rv) {a : Int} (ha : rg a) : Ct G yX1_ofSign cX1_ofSign 1 (some .int) 0 0 0 [.int (jI a)] n I ρ (PI (sgn a) n I ρ) := by
  refine Ct.of [some (.int (jI a))] (by decide) rfl rfl rfl ?_
  intro k SR
  have S : Sem G RX1 "ofSign" cX1_ofSign 1 (rmD 0 0 0) k := SR.sem
  refine r_iload_n S rfl dX1_ofSign_0 ?_
  rcases (by omega : a = 40 ∨ a = 41 ∨ a = 42 ∨ a = 43 ∨ a = 44 ∨ a = 45 ∨ a = 46 ∨ a = 47 ∨ a = 48 ∨ a = 49 ∨ a = 50 ∨ a = 51 ∨ a = 52 ∨ a = 53 ∨ a = 54 ∨ a = 55 ∨ a = 56 ∨ a = 57 ∨ a = 58 ∨ a = 59 ∨ a = 60 ∨ a = 61 ∨ a = 62 ∨ (a < 40 ∨ 62 < a)) with c1 | c1 | c1 | c1 | c1 | c1 | c1 | c1 | c1 | c1 | c1 | c1 | c1 | c1 | c1 | c1 | c1 | c1 | c1 | c1 | c1 | c1 | c1 | c1
  · refine r_tableIn S 40 (tgt := 123) dX1_ofSign_1 c1 (by decide) (by decide) (by decide) rfl (by decide) ?_
    refine r_bipush S (by decide +kernel) dX1_ofSign_123 ?_
    refine r_iret SR dX1_ofSign_125 ⟨by decide, by decide⟩ ?_
    first | exact ⟨by rw [c1]; rfl, rfl, rfl, rfl⟩ | exact ⟨by unfold sgn; rw [if_neg (by omega), if_neg (by omega), if_neg (by omega), if_neg (by omega), if_neg (by omega), if_neg (by omega), if_neg (by omega), if_neg (by omega), if_neg (by omega), if_neg (by omega)], rfl, rfl, rfl⟩
  · refine r_tableIn S 41 (tgt := 126) dX1_ofSign_1 c1 (by decide) (by decide) (by decide) rfl (by decide) ?_
    refine r_bipush S (by decide +kernel) dX1_ofSign_126 ?_
    refine r_iret SR dX1_ofSign_128 ⟨by decide, by decide⟩ ?_
    first | exact ⟨by rw [c1]; rfl, rfl, rfl, rfl⟩ | exact ⟨by unfold sgn; rw [if_neg (by omega), if_neg (by omega), if_neg (by omega), if_neg (by omega), if_neg (by omega), if_neg (by omega), if_neg (by omega), if_neg (by omega), if_neg (by omega), if_neg (by omega)], rfl, rfl, rfl⟩
  · refine r_tableIn S 42 (tgt := 117) dX1_ofSign_1 c1 (by decide) (by decide) (by decide) rfl (by decide) ?_
    refine r_bipush S (by decide +kernel) dX1_ofSign_117 ?_
    refine r_iret SR dX1_ofSign_119 ⟨by decide, by decide⟩ ?_
    first | exact ⟨by rw [c1]; rfl, rfl, rfl, rfl⟩ | exact ⟨by unfold sgn; rw [if_neg (by omega), if_neg (by omega), if_neg (by omega), if_neg (by omega), if_neg (by omega), if_neg (by omega), if_neg (by omega), if_neg (by omega), if_neg (by omega), if_neg (by omega)], rfl, rfl, rfl⟩
  · refine r_tableIn S 43 (tgt := 111) dX1_ofSign_1 c1 (by decide) (by decide) (by decide) rfl (by decide) ?_
    refine r_bipush S (by decide +kernel) dX1_ofSign_111 ?_
    refine r_iret SR dX1_ofSign_113 ⟨by decide, by decide⟩ ?_
    first | exact ⟨by rw [c1]; rfl, rfl, rfl, rfl⟩ | exact ⟨by unfold sgn; rw [if_neg (by omega), if_neg (by omega), if_neg (by omega), if_neg (by omega), if_neg (by omega), if_neg (by omega), if_neg (by omega), if_neg (by omega), if_neg (by omega), if_neg (by omega)], rfl, rfl, rfl⟩
  · refine r_tableIn S 44 (tgt := 138) dX1_ofSign_1 c1 (by decide) (by decide) (by decide) rfl (by decide) ?_
    refine r_bipush S (by decide +kernel) dX1_ofSign_138 ?_
    refine r_iret SR dX1_ofSign_140 ⟨by decide, by decide⟩ ?_
    first | exact ⟨by rw [c1]; rfl, rfl, rfl, rfl⟩ | exact ⟨by unfold sgn; rw [if_neg (by omega), if_neg (by omega), if_neg (by omega), if_neg (by omega), if_neg (by omega), if_neg (by omega), if_neg (by omega), if_neg (by omega), if_neg (by omega), if_neg (by omega)], rfl, rfl, rfl⟩
  · refine r_tableIn S 45 (tgt := 114) dX1_ofSign_1 c1 (by decide) (by decide) (by decide) rfl (by decide) ?_
    refine r_bipush S (by decide +kernel) dX1_ofSign_114 ?_
    refine r_iret SR dX1_ofSign_116 ⟨by decide, by decide⟩ ?_
    first | exact ⟨by rw [c1]; rfl, rfl, rfl, rfl⟩ | exact ⟨by unfold sgn; rw [if_neg (by omega), if_neg (by omega), if_neg (by omega), if_neg (by omega), if_neg (by omega), if_neg (by omega), if_neg (by omega), if_neg (by omega), if_neg (by omega), if_neg (by omega)], rfl, rfl, rfl⟩
  · refine r_tableIn S 46 (tgt := 138) dX1_ofSign_1 c1 (by decide) (by decide) (by decide) rfl (by decide) ?_
    refine r_bipush S (by decide +kernel) dX1_ofSign_138 ?_
    refine r_iret SR dX1_ofSign_140 ⟨by decide, by decide⟩ ?_
    first | exact ⟨by rw [c1]; rfl, rfl, rfl, rfl⟩ | exact ⟨by unfold sgn; rw [if_neg (by omega), if_neg (by omega), if_neg (by omega), if_neg (by omega), if_neg (by omega), if_neg (by omega), if_neg (by omega), if_neg (by omega), if_neg (by omega), if_neg (by omega)], rfl, rfl, rfl⟩
  · refine r_tableIn S 47 (tgt := 120) dX1_ofSign_1 c1 (by decide) (by decide) (by decide) rfl (by decide) ?_
    refine r_bipush S (by decide +kernel) dX1_ofSign_120 ?_
    refine r_iret SR dX1_ofSign_122 ⟨by decide, by decide⟩ ?_
    first | exact ⟨by rw [c1]; rfl, rfl, rfl, rfl⟩ | exact ⟨by unfold sgn; rw [if_neg (by omega), if_neg (by omega), if_neg (by omega), if_neg (by omega), if_neg (by omega), if_neg (by omega), if_neg (by omega), if_neg (by omega), if_neg (by omega), if_neg (by omega)], rfl, rfl, rfl⟩
  · refine r_tableIn S 48 (tgt := 138) dX1_ofSign_1 c1 (by decide) (by decide) (by decide) rfl (by decide) ?_
    refine r_bipush S (by decide +kernel) dX1_ofSign_138 ?_
    refine r_iret SR dX1_ofSign_140 ⟨by decide, by decide⟩ ?_
    first | exact ⟨by rw [c1]; rfl, rfl, rfl, rfl⟩ | exact ⟨by unfold sgn; rw [if_neg (by omega), if_neg (by omega), if_neg (by omega), if_neg (by omega), if_neg (by omega), if_neg (by omega), if_neg (by omega), if_neg (by omega), if_neg (by omega), if_neg (by omega)], rfl, rfl, rfl⟩
  · refine r_tableIn S 49 (tgt := 138) dX1_ofSign_1 c1 (by decide) (by decide) (by decide) rfl (by decide) ?_
    refine r_bipush S (by decide +kernel) dX1_ofSign_138 ?_
    refine r_iret SR dX1_ofSign_140 ⟨by decide, by decide⟩ ?_
    first | exact ⟨by rw [c1]; rfl, rfl, rfl, rfl⟩ | exact ⟨by unfold sgn; rw [if_neg (by omega), if_neg (by omega), if_neg (by omega), if_neg (by omega), if_neg (by omega), if_neg (by omega), if_neg (by omega), if_neg (by omega), if_neg (by omega), if_neg (by omega)], rfl, rfl, rfl⟩
  · refine r_tableIn S 50 (tgt := 138) dX1_ofSign_1 c1 (by decide) (by decide) (by decide) rfl (by decide) ?_
    refine r_bipush S (by decide +kernel) dX1_ofSign_138 ?_
    refine r_iret SR dX1_ofSign_140 ⟨by decide, by decide⟩ ?_
    first | exact ⟨by rw [c1]; rfl, rfl, rfl, rfl⟩ | exact ⟨by unfold sgn; rw [if_neg (by omega), if_neg (by omega), if_neg (by omega), if_neg (by omega), if_neg (by omega), if_neg (by omega), if_neg (by omega), if_neg (by omega), if_neg (by omega), if_neg (by omega)], rfl, rfl, rfl⟩
  · refine r_tableIn S 51 (tgt := 138) dX1_ofSign_1 c1 (by decide) (by decide) (by decide) rfl (by decide) ?_
    refine r_bipush S (by decide +kernel) dX1_ofSign_138 ?_
    refine r_iret SR dX1_ofSign_140 ⟨by decide, by decide⟩ ?_
    first | exact ⟨by rw [c1]; rfl, rfl, rfl, rfl⟩ | exact ⟨by unfold sgn; rw [if_neg (by omega), if_neg (by omega), if_neg (by omega), if_neg (by omega), if_neg (by omega), if_neg (by omega), if_neg (by omega), if_neg (by omega), if_neg (by omega), if_neg (by omega)], rfl, rfl, rfl⟩
  · refine r_tableIn S 52 (tgt := 138) dX1_ofSign_1 c1 (by decide) (by decide) (by decide) rfl (by decide) ?_
    refine r_bipush S (by decide +kernel) dX1_ofSign_138 ?_
    refine r_iret SR dX1_ofSign_140 ⟨by decide, by decide⟩ ?_
    first | exact ⟨by rw [c1]; rfl, rfl, rfl, rfl⟩ | exact ⟨by unfold sgn; rw [if_neg (by omega), if_neg (by omega), if_neg (by omega), if_neg (by omega), if_neg (by omega), if_neg (by omega), if_neg (by omega), if_neg (by omega), if_neg (by omega), if_neg (by omega)], rfl, rfl, rfl⟩
  · refine r_tableIn S 53 (tgt := 138) dX1_ofSign_1 c1 (by decide) (by decide) (by decide) rfl (by decide) ?_
    refine r_bipush S (by decide +kernel) dX1_ofSign_138 ?_
    refine r_iret SR dX1_ofSign_140 ⟨by decide, by decide⟩ ?_
    first | exact ⟨by rw [c1]; rfl, rfl, rfl, rfl⟩ | exact ⟨by unfold sgn; rw [if_neg (by omega), if_neg (by omega), if_neg (by omega), if_neg (by omega), if_neg (by omega), if_neg (by omega), if_neg (by omega), if_neg (by omega), if_neg (by omega), if_neg (by omega)], rfl, rfl, rfl⟩
  · refine r_tableIn S 54 (tgt := 138) dX1_ofSign_1 c1 (by decide) (by decide) (by decide) rfl (by decide) ?_
    refine r_bipush S (by decide +kernel) dX1_ofSign_138 ?_
    refine r_iret SR dX1_ofSign_140 ⟨by decide, by decide⟩ ?_
    first | exact ⟨by rw [c1]; rfl, rfl, rfl, rfl⟩ | exact ⟨by unfold sgn; rw [if_neg (by omega), if_neg (by omega), if_neg (by omega), if_neg (by omega), if_neg (by omega), if_neg (by omega), if_neg (by omega), if_neg (by omega), if_neg (by omega), if_neg (by omega)], rfl, rfl, rfl⟩
  · refine r_tableIn S 55 (tgt := 138) dX1_ofSign_1 c1 (by decide) (by decide) (by decide) rfl (by decide) ?_
    refine r_bipush S (by decide +kernel) dX1_ofSign_138 ?_
    refine r_iret SR dX1_ofSign_140 ⟨by decide, by decide⟩ ?_
    first | exact ⟨by rw [c1]; rfl, rfl, rfl, rfl⟩ | exact ⟨by unfold sgn; rw [if_neg (by omega), if_neg (by omega), if_neg (by omega), if_neg (by omega), if_neg (by omega), if_neg (by omega), if_neg (by omega), if_neg (by omega), if_neg (by omega), if_neg (by omega)], rfl, rfl, rfl⟩
  · refine r_tableIn S 56 (tgt := 138) dX1_ofSign_1 c1 (by decide) (by decide) (by decide) rfl (by decide) ?_
    refine r_bipush S (by decide +kernel) dX1_ofSign_138 ?_
    refine r_iret SR dX1_ofSign_140 ⟨by decide, by decide⟩ ?_
    first | exact ⟨by rw [c1]; rfl, rfl, rfl, rfl⟩ | exact ⟨by unfold sgn; rw [if_neg (by omega), if_neg (by omega), if_neg (by omega), if_neg (by omega), if_neg (by omega), if_neg (by omega), if_neg (by omega), if_neg (by omega), if_neg (by omega), if_neg (by omega)], rfl, rfl, rfl⟩
  · refine r_tableIn S 57 (tgt := 138) dX1_ofSign_1 c1 (by decide) (by decide) (by decide) rfl (by decide) ?_
    refine r_bipush S (by decide +kernel) dX1_ofSign_138 ?_
    refine r_iret SR dX1_ofSign_140 ⟨by decide, by decide⟩ ?_
    first | exact ⟨by rw [c1]; rfl, rfl, rfl, rfl⟩ | exact ⟨by unfold sgn; rw [if_neg (by omega), if_neg (by omega), if_neg (by omega), if_neg (by omega), if_neg (by omega), if_neg (by omega), if_neg (by omega), if_neg (by omega), if_neg (by omega), if_neg (by omega)], rfl, rfl, rfl⟩
  · refine r_tableIn S 58 (tgt := 138) dX1_ofSign_1 c1 (by decide) (by decide) (by decide) rfl (by decide) ?_
    refine r_bipush S (by decide +kernel) dX1_ofSign_138 ?_
    refine r_iret SR dX1_ofSign_140 ⟨by decide, by decide⟩ ?_
    first | exact ⟨by rw [c1]; rfl, rfl, rfl, rfl⟩ | exact ⟨by unfold sgn; rw [if_neg (by omega), if_neg (by omega), if_neg (by omega), if_neg (by omega), if_neg (by omega), if_neg (by omega), if_neg (by omega), if_neg (by omega), if_neg (by omega), if_neg (by omega)], rfl, rfl, rfl⟩
  · refine r_tableIn S 59 (tgt := 108) dX1_ofSign_1 c1 (by decide) (by decide) (by decide) rfl (by decide) ?_
    refine r_bipush S (by decide +kernel) dX1_ofSign_108 ?_
    refine r_iret SR dX1_ofSign_110 ⟨by decide, by decide⟩ ?_
    first | exact ⟨by rw [c1]; rfl, rfl, rfl, rfl⟩ | exact ⟨by unfold sgn; rw [if_neg (by omega), if_neg (by omega), if_neg (by omega), if_neg (by omega), if_neg (by omega), if_neg (by omega), if_neg (by omega), if_neg (by omega), if_neg (by omega), if_neg (by omega)], rfl, rfl, rfl⟩
  · refine r_tableIn S 60 (tgt := 129) dX1_ofSign_1 c1 (by decide) (by decide) (by decide) rfl (by decide) ?_
    refine r_bipush S (by decide +kernel) dX1_ofSign_129 ?_
    refine r_iret SR dX1_ofSign_131 ⟨by decide, by decide⟩ ?_
    first | exact ⟨by rw [c1]; rfl, rfl, rfl, rfl⟩ | exact ⟨by unfold sgn; rw [if_neg (by omega), if_neg (by omega), if_neg (by omega), if_neg (by omega), if_neg (by omega), if_neg (by omega), if_neg (by omega), if_neg (by omega), if_neg (by omega), if_neg (by omega)], rfl, rfl, rfl⟩
  · refine r_tableIn S 61 (tgt := 132) dX1_ofSign_1 c1 (by decide) (by decide) (by decide) rfl (by decide) ?_
    refine r_bipush S (by decide +kernel) dX1_ofSign_132 ?_
    refine r_iret SR dX1_ofSign_134 ⟨by decide, by decide⟩ ?_
    first | exact ⟨by rw [c1]; rfl, rfl, rfl, rfl⟩ | exact ⟨by unfold sgn; rw [if_neg (by omega), if_neg (by omega), if_neg (by omega), if_neg (by omega), if_neg (by omega), if_neg (by omega), if_neg (by omega), if_neg (by omega), if_neg (by omega), if_neg (by omega)], rfl, rfl, rfl⟩
  · refine r_tableIn S 62 (tgt := 135) dX1_ofSign_1 c1 (by decide) (by decide) (by decide) rfl (by decide) ?_
    refine r_bipush S (by decide +kernel) dX1_ofSign_135 ?_
    refine r_iret SR dX1_ofSign_137 ⟨by decide, by decide⟩ ?_
    first | exact ⟨by rw [c1]; rfl, rfl, rfl, rfl⟩ | exact ⟨by unfold sgn; rw [if_neg (by omega), if_neg (by omega), if_neg (by omega), if_neg (by omega), if_neg (by omega), if_neg (by omega), if_neg (by omega), if_neg (by omega), if_neg (by omega), if_neg (by omega)], rfl, rfl, rfl⟩
  · refine r_tableOut S (tgt := 138) dX1_ofSign_1 (by omega) c1 (by decide) ?_
    refine r_bipush S (by decide +kernel) dX1_ofSign_138 ?_
    refine r_iret SR dX1_ofSign_140 ⟨by decide, by decide⟩ ?_
    first | exact ⟨by rw [c1]; rfl, rfl, rfl, rfl⟩ | exact ⟨by unfold sgn; rw [if_neg (by omega), if_neg (by omega), if_neg (by omega), if_neg (by omega), if_neg (by omega), if_neg (by omega), if_neg (by omega), if_neg (by omega), if_neg (by omega), if_neg (by omega)], rfl, rfl, rfl⟩
theorem c_X9_isLetter (ρ : Rv) {a : Int} (ha : rg a) : Ct G yX9_isLetter cX9_isLetter 1 (some .boolean) 1 0 0 [.int (jI a)] n I ρ (PI (b2 (isLet a)) n I ρ) := by
  refine Ct.of [some (.int (jI a))] (by decide) rfl rfl rfl ?_
  intro k SR
  have S : Sem G RX9 "isLetter" cX9_isLetter 1 (rmD 1 0 0) k := SR.sem
  refine r_iload_n S rfl dX9_isLetter_0 ?_
  refine r_bipush S (by decide +kernel) dX9_isLetter_1 ?_
  refine r_bipush S (by decide +kernel) dX9_isLetter_3 ?_
  refine r_callS S lk_X9_57 mk_X11_isWithin (c_X11_isWithin G n I ρ ha (by decide) (by decide)) rfl rfl (Nat.le_of_ble_eq_true rfl) ⟨by decide, by decide⟩ rfl ⟨by decide, by decide⟩ dX9_isLetter_5 ?_
  rintro _ _ _ _ ⟨rfl, rfl, rfl, rfl⟩
  refine r_ifb_ne S (tgt := 22) dX9_isLetter_8 (by decide)  (fun c8 => ?_) (fun c8 => ?_)
  · refine r_iconst S dX9_isLetter_22 ?_
    refine r_goto S (tgt := 27) dX9_isLetter_23 (by decide) ?_
    refine r_zret SR dX9_isLetter_27 (by decide) ⟨by decide, by decide⟩ ?_
    refine ⟨?_, rfl, rfl, rfl⟩
    first | rw [b2_t (by omega)] | rw [b2_f (by omega)]
  · refine r_iload_n S rfl dX9_isLetter_11 ?_
    refine r_bipush S (by decide +kernel) dX9_isLetter_12 ?_
    refine r_bipush S (by decide +kernel) dX9_isLetter_14 ?_
    refine r_callS S lk_X9_57 mk_X11_isWithin (c_X11_isWithin G n I ρ ha (by decide) (by decide)) rfl rfl (Nat.le_of_ble_eq_true rfl) ⟨by decide, by decide⟩ rfl ⟨by decide, by decide⟩ dX9_isLetter_16 ?_
    rintro _ _ _ _ ⟨rfl, rfl, rfl, rfl⟩
    refine r_ifb_eq S (tgt := 26) dX9_isLetter_19 (by decide)  (fun c19 => ?_) (fun c19 => ?_)
    · refine r_iconst S dX9_isLetter_26 ?_
      refine r_zret SR dX9_isLetter_27 (by decide) ⟨by decide, by decide⟩ ?_
      refine ⟨?_, rfl, rfl, rfl⟩
      first | rw [b2_t (by omega)] | rw [b2_f (by omega)]
    · refine r_iconst S dX9_isLetter_22 ?_
      refine r_goto S (tgt := 27) dX9_isLetter_23 (by decide) ?_
      refine r_zret SR dX9_isLetter_27 (by decide) ⟨by decide, by decide⟩ ?_
      refine ⟨?_, rfl, rfl, rfl⟩
      first | rw [b2_t (by omega)] | rw [b2_f (by omega)]
theorem c_X9_isDigit (ρ : Rv) {a : Int} (ha : rg a) : Ct G yX9_isDigit cX9_isDigit 1 (some .boolean) 1 0 0 [.int (jI a)] n I ρ (PI (b2 (isDig a)) n I ρ) := by
  refine Ct.of [some (.int (jI a))] (by decide) rfl rfl rfl ?_
  intro k SR
  have S : Sem G RX9 "isDigit" cX9_isDigit 1 (rmD 1 0 0) k := SR.sem
  refine r_iload_n S rfl dX9_isDigit_0 ?_
  refine r_bipush S (by decide +kernel) dX9_isDigit_1 ?_
  refine r_bipush S (by decide +kernel) dX9_isDigit_3 ?_
  refine r_callS S lk_X9_57 mk_X11_isWithin (c_X11_isWithin G n I ρ ha (by decide) (by decide)) rfl rfl (Nat.le_of_ble_eq_true rfl) ⟨by decide, by decide⟩ rfl ⟨by decide, by decide⟩ dX9_isDigit_5 ?_
  rintro _ _ _ _ ⟨rfl, rfl, rfl, rfl⟩
  refine r_zret SR dX9_isDigit_8 (by first | exact b2_01 _ | omega) ⟨by decide, by decide⟩ ?_
  exact ⟨rfl, rfl, rfl, rfl⟩
theorem c_X8_spells (hn : 103 ≤ n) {i : Nat} (hi : i < 7) {a b : Int} (a0 : 0 ≤ a) (a1 : a ≤ b) (a2 : b ≤ I 53 0) (h1 : I 53 0 ≤ 400) (hby : ∀ j, 0 ≤ j → j < I 53 0 → 0 ≤ I 54 j ∧ I 54 j ≤ 255) : Ct G yX8_spells cX8_spells 5 (some .boolean) 4 0 0 [.ref (gb G + 53), .ref (gK G i), .int (jI a), .int (jI b)] n I (rst bk dr pt) (PI (b2 (splP (I 54) i a b)) n I (rst bk dr pt)) := by
  refine Ct.of [some (.ref (gb G + 53)), some (.ref (gK G i)), some (.int (jI a)), some (.int (jI b)), none] (by decide) rfl rfl rfl ?_
  intro k SR
  have S : Sem G RX8 "spells" cX8_spells 5 (rmD 4 0 0) k := SR.sem
  have hlen : sL.getD i 0 ≤ 6 := by
    have : ∀ i, i < 7 → sL.getD i 0 ≤ 6 := by decide
    exact this i hi
  obtain ⟨l, el⟩ : ∃ l : Int, l = (sL.getD i 0 : Nat) := ⟨_, rfl⟩
  have cl : Ct G yJ0_length_8abf5 cJ0_length_8abf5 1 (some .int) 1 0 0 [.ref (gK G i)] n I (rst bk dr pt) (PI l n I (rst bk dr pt)) := by
    rw [el]
    exact c_length G n I _ hi
  have loop : b - a = l → ∀ (q : Nat) (j : Int), 0 ≤ j → j ≤ l → l < j + q → (∀ m : Int, 0 ≤ m → m < j → I 54 (a + m) = sCh i m) → k 15 [some (.ref (gb G + 53)), some (.ref (gK G i)), some (.int (jI a)), some (.int (jI b)), some (.int (jI j))] [] n I (rst bk dr pt) 0 0 := by
    intro hab q
    induction q with
    | zero => intro j _ _ _; omega
    | succ q ih =>
      intro j b0 b1 b2_ hj
      refine r_iload S rfl dX8_spells_15 ?_
      refine r_aload_n S rfl dX8_spells_17 ?_
      refine r_callT S hi lk_X8_19 mk_J0_length_8abf5 rfl cl rfl rfl (Nat.le_of_ble_eq_true rfl) ⟨by decide, by decide⟩ rfl ⟨by decide, by decide⟩ dX8_spells_18 ?_
      rintro _ _ _ _ ⟨rfl, rfl, rfl, rfl⟩
      refine r_icmp_ge S (tgt := 49) dX8_spells_21 (by decide) (by omega) (by omega) (fun c21 => ?_) (fun c21 => ?_)
      · refine r_iconst S dX8_spells_49 ?_
        refine r_zret SR dX8_spells_50 (by decide) ⟨by decide, by decide⟩ ⟨?_, rfl, rfl, rfl⟩
        rw [b2_t]
        exact ⟨by omega, splB_iff.mpr (fun m m0 m1 => hj m m0 (by omega))⟩
      · have hch := (sCh_all i hi j.toNat (by omega)).2.2.2
        have hbj := hby (a + j) (by omega) (by omega)
        refine r_aload_n S rfl dX8_spells_24 ?_
        refine r_iload_n S rfl dX8_spells_25 ?_
        refine r_iload S rfl dX8_spells_26 ?_
        refine r_iadd S dX8_spells_28 ?_
        refine r_callV S lk_X8_24 mk_X8_byteAt (c_X8_byteAt G n I bk dr pt hn (a := a + j) ⟨by omega, by omega⟩ (by omega) (by omega)) rfl (Nat.lt_of_lt_of_le (by decide) hn) rfl rfl rfl (Nat.le_of_ble_eq_true rfl) ⟨by decide, by decide⟩ rfl ⟨by decide, by decide⟩ dX8_spells_29 ?_
        rintro _ _ _ _ ⟨rfl, rfl, rfl, rfl⟩
        rw [if_pos (by omega)]
        refine r_aload_n S rfl dX8_spells_32 ?_
        refine r_iload S rfl dX8_spells_33 ?_
        refine r_callT S hi lk_X8_28 mk_J0_charAt_5068e rfl (c_charAt G n I _ hi (j := j) b0 (by omega)) rfl rfl (Nat.le_of_ble_eq_true rfl) ⟨by decide, by decide⟩ rfl ⟨by decide, by decide⟩ dX8_spells_35 ?_
        rintro _ _ _ _ ⟨rfl, rfl, rfl, rfl⟩
        refine r_icmp_eq S (tgt := 43) dX8_spells_38 (by decide) (by omega) (by unfold sCh; omega) (fun c38 => ?_) (fun c38 => ?_)
        · refine r_iinc S dX8_spells_43 rfl rfl rfl ?_
          refine r_goto S (tgt := 15) dX8_spells_46 (by decide) ?_
          refine ih (j + 1) (by omega) (by omega) (by omega) (fun m m0 m1 => ?_)
          by_cases e : m = j
          · subst e
            exact c38
          · exact hj m m0 (by omega)
        · refine r_iconst S dX8_spells_41 ?_
          refine r_zret SR dX8_spells_42 (by decide) ⟨by decide, by decide⟩ ⟨?_, rfl, rfl, rfl⟩
          rw [b2_f]
          rintro ⟨-, h⟩
          exact c38 (splB_iff.mp h j b0 (by omega))
  refine r_iload_n S rfl dX8_spells_0 ?_
  refine r_iload_n S rfl dX8_spells_1 ?_
  refine r_isub S dX8_spells_2 ?_
  refine r_aload_n S rfl dX8_spells_3 ?_
  refine r_callT S hi lk_X8_19 mk_J0_length_8abf5 rfl cl rfl rfl (Nat.le_of_ble_eq_true rfl) ⟨by decide, by decide⟩ rfl ⟨by decide, by decide⟩ dX8_spells_4 ?_
  rintro _ _ _ _ ⟨rfl, rfl, rfl, rfl⟩
  refine r_icmp_eq S (tgt := 12) dX8_spells_7 (by decide) (by omega) (by omega) (fun c7 => ?_) (fun c7 => ?_)
  · refine r_iconst S dX8_spells_12 ?_
    refine r_istore S dX8_spells_13 rfl rfl ?_
    exact loop c7 7 0 (by omega) (by omega) (by omega) (fun m m0 m1 => by omega)
  · refine r_iconst S dX8_spells_10 ?_
    refine r_zret SR dX8_spells_11 (by decide) ⟨by decide, by decide⟩ ⟨?_, rfl, rfl, rfl⟩
    rw [b2_f]
    rintro ⟨h, -⟩
    omega
theorem c_X1_ofWord (hn : 103 ≤ n) {a b : Int} (a0 : 0 ≤ a) (a1 : a ≤ b) (a2 : b ≤ I 53 0) (h1 : I 53 0 ≤ 400) (hby : ∀ j, 0 ≤ j → j < I 53 0 → 0 ≤ I 54 j ∧ I 54 j ≤ 255) : Ct G yX1_ofWord cX1_ofWord 3 (some .int) 5 0 0 [.ref (gb G + 53), .int (jI a), .int (jI b)] n I (rst bk dr pt) (PI (wcode (I 54) a b) n I (rst bk dr pt)) := by
  refine Ct.of [some (.ref (gb G + 53)), some (.int (jI a)), some (.int (jI b))] (by decide) rfl rfl rfl ?_
  intro k SR
  have S : Sem G RX1 "ofWord" cX1_ofWord 3 (rmD 5 0 0) k := SR.sem
  refine r_aload_n S rfl dX1_ofWord_0 ?_
  refine r_ldcS S (i := 0) (by decide) dX1_ofWord_1 ?_
  refine r_iload_n S rfl dX1_ofWord_3 ?_
  refine r_iload_n S rfl dX1_ofWord_4 ?_
  refine r_callV S lk_X1_17 mk_X8_spells (c_X8_spells G n I bk dr pt hn (i := 0) (by decide) a0 a1 a2 h1 hby) rfl (Nat.lt_of_lt_of_le (by decide) hn) rfl rfl rfl (Nat.le_of_ble_eq_true rfl) ⟨by decide, by decide⟩ rfl ⟨by decide, by decide⟩ dX1_ofWord_5 ?_
  rintro _ _ _ _ ⟨rfl, rfl, rfl, rfl⟩
  refine r_ifb_eq S (tgt := 14) dX1_ofWord_8 (by decide)  (fun c8 => ?_) (fun c8 => ?_)
  · refine r_aload_n S rfl dX1_ofWord_14 ?_
    refine r_ldcS S (i := 1) (by decide) dX1_ofWord_15 ?_
    refine r_iload_n S rfl dX1_ofWord_17 ?_
    refine r_iload_n S rfl dX1_ofWord_18 ?_
    refine r_callV S lk_X1_17 mk_X8_spells (c_X8_spells G n I bk dr pt hn (i := 1) (by decide) a0 a1 a2 h1 hby) rfl (Nat.lt_of_lt_of_le (by decide) hn) rfl rfl rfl (Nat.le_of_ble_eq_true rfl) ⟨by decide, by decide⟩ rfl ⟨by decide, by decide⟩ dX1_ofWord_19 ?_
    rintro _ _ _ _ ⟨rfl, rfl, rfl, rfl⟩
    refine r_ifb_eq S (tgt := 28) dX1_ofWord_22 (by decide)  (fun c22 => ?_) (fun c22 => ?_)
    · refine r_aload_n S rfl dX1_ofWord_28 ?_
      refine r_ldcS S (i := 2) (by decide) dX1_ofWord_29 ?_
      refine r_iload_n S rfl dX1_ofWord_31 ?_
      refine r_iload_n S rfl dX1_ofWord_32 ?_
      refine r_callV S lk_X1_17 mk_X8_spells (c_X8_spells G n I bk dr pt hn (i := 2) (by decide) a0 a1 a2 h1 hby) rfl (Nat.lt_of_lt_of_le (by decide) hn) rfl rfl rfl (Nat.le_of_ble_eq_true rfl) ⟨by decide, by decide⟩ rfl ⟨by decide, by decide⟩ dX1_ofWord_33 ?_
      rintro _ _ _ _ ⟨rfl, rfl, rfl, rfl⟩
      refine r_ifb_eq S (tgt := 42) dX1_ofWord_36 (by decide)  (fun c36 => ?_) (fun c36 => ?_)
      · refine r_aload_n S rfl dX1_ofWord_42 ?_
        refine r_ldcS S (i := 3) (by decide) dX1_ofWord_43 ?_
        refine r_iload_n S rfl dX1_ofWord_45 ?_
        refine r_iload_n S rfl dX1_ofWord_46 ?_
        refine r_callV S lk_X1_17 mk_X8_spells (c_X8_spells G n I bk dr pt hn (i := 3) (by decide) a0 a1 a2 h1 hby) rfl (Nat.lt_of_lt_of_le (by decide) hn) rfl rfl rfl (Nat.le_of_ble_eq_true rfl) ⟨by decide, by decide⟩ rfl ⟨by decide, by decide⟩ dX1_ofWord_47 ?_
        rintro _ _ _ _ ⟨rfl, rfl, rfl, rfl⟩
        refine r_ifb_eq S (tgt := 55) dX1_ofWord_50 (by decide)  (fun c50 => ?_) (fun c50 => ?_)
        · refine r_aload_n S rfl dX1_ofWord_55 ?_
          refine r_ldcS S (i := 4) (by decide) dX1_ofWord_56 ?_
          refine r_iload_n S rfl dX1_ofWord_58 ?_
          refine r_iload_n S rfl dX1_ofWord_59 ?_
          refine r_callV S lk_X1_17 mk_X8_spells (c_X8_spells G n I bk dr pt hn (i := 4) (by decide) a0 a1 a2 h1 hby) rfl (Nat.lt_of_lt_of_le (by decide) hn) rfl rfl rfl (Nat.le_of_ble_eq_true rfl) ⟨by decide, by decide⟩ rfl ⟨by decide, by decide⟩ dX1_ofWord_60 ?_
          rintro _ _ _ _ ⟨rfl, rfl, rfl, rfl⟩
          refine r_ifb_eq S (tgt := 69) dX1_ofWord_63 (by decide)  (fun c63 => ?_) (fun c63 => ?_)
          · refine r_aload_n S rfl dX1_ofWord_69 ?_
            refine r_ldcS S (i := 5) (by decide) dX1_ofWord_70 ?_
            refine r_iload_n S rfl dX1_ofWord_72 ?_
            refine r_iload_n S rfl dX1_ofWord_73 ?_
            refine r_callV S lk_X1_17 mk_X8_spells (c_X8_spells G n I bk dr pt hn (i := 5) (by decide) a0 a1 a2 h1 hby) rfl (Nat.lt_of_lt_of_le (by decide) hn) rfl rfl rfl (Nat.le_of_ble_eq_true rfl) ⟨by decide, by decide⟩ rfl ⟨by decide, by decide⟩ dX1_ofWord_74 ?_
            rintro _ _ _ _ ⟨rfl, rfl, rfl, rfl⟩
            refine r_ifb_eq S (tgt := 83) dX1_ofWord_77 (by decide)  (fun c77 => ?_) (fun c77 => ?_)
            · refine r_aload_n S rfl dX1_ofWord_83 ?_
              refine r_ldcS S (i := 6) (by decide) dX1_ofWord_84 ?_
              refine r_iload_n S rfl dX1_ofWord_86 ?_
              refine r_iload_n S rfl dX1_ofWord_87 ?_
              refine r_callV S lk_X1_17 mk_X8_spells (c_X8_spells G n I bk dr pt hn (i := 6) (by decide) a0 a1 a2 h1 hby) rfl (Nat.lt_of_lt_of_le (by decide) hn) rfl rfl rfl (Nat.le_of_ble_eq_true rfl) ⟨by decide, by decide⟩ rfl ⟨by decide, by decide⟩ dX1_ofWord_88 ?_
              rintro _ _ _ _ ⟨rfl, rfl, rfl, rfl⟩
              refine r_ifb_eq S (tgt := 99) dX1_ofWord_91 (by decide)  (fun c91 => ?_) (fun c91 => ?_)
              · refine r_bipush S (by decide +kernel) dX1_ofWord_99 ?_
                refine r_iret SR dX1_ofWord_101 ⟨by decide, by decide⟩ ?_
                first | exact ⟨by unfold wcode; rw [if_neg c8, if_neg c22, if_neg c36, if_neg c50, if_neg c63, if_neg c77, if_pos c91], rfl, rfl, rfl⟩ | exact ⟨by unfold wcode; rw [if_neg c8, if_neg c22, if_neg c36, if_neg c50, if_neg c63, if_neg c77, if_neg c91], rfl, rfl, rfl⟩
              · refine r_bipush S (by decide +kernel) dX1_ofWord_94 ?_
                refine r_goto S (tgt := 101) dX1_ofWord_96 (by decide) ?_
                refine r_iret SR dX1_ofWord_101 ⟨by decide, by decide⟩ ?_
                first | exact ⟨by unfold wcode; rw [if_neg c8, if_neg c22, if_neg c36, if_neg c50, if_neg c63, if_neg c77, if_pos c91], rfl, rfl, rfl⟩ | exact ⟨by unfold wcode; rw [if_neg c8, if_neg c22, if_neg c36, if_neg c50, if_neg c63, if_neg c77, if_neg c91], rfl, rfl, rfl⟩
            · refine r_bipush S (by decide +kernel) dX1_ofWord_80 ?_
              refine r_iret SR dX1_ofWord_82 ⟨by decide, by decide⟩ ?_
              exact ⟨by unfold wcode; rw [if_neg c8, if_neg c22, if_neg c36, if_neg c50, if_neg c63, if_pos c77], rfl, rfl, rfl⟩
          · refine r_bipush S (by decide +kernel) dX1_ofWord_66 ?_
            refine r_iret SR dX1_ofWord_68 ⟨by decide, by decide⟩ ?_
            exact ⟨by unfold wcode; rw [if_neg c8, if_neg c22, if_neg c36, if_neg c50, if_pos c63], rfl, rfl, rfl⟩
        · refine r_iconst S dX1_ofWord_53 ?_
          refine r_iret SR dX1_ofWord_54 ⟨by decide, by decide⟩ ?_
          exact ⟨by unfold wcode; rw [if_neg c8, if_neg c22, if_neg c36, if_pos c50], rfl, rfl, rfl⟩
      · refine r_bipush S (by decide +kernel) dX1_ofWord_39 ?_
        refine r_iret SR dX1_ofWord_41 ⟨by decide, by decide⟩ ?_
        exact ⟨by unfold wcode; rw [if_neg c8, if_neg c22, if_pos c36], rfl, rfl, rfl⟩
    · refine r_bipush S (by decide +kernel) dX1_ofWord_25 ?_
      refine r_iret SR dX1_ofWord_27 ⟨by decide, by decide⟩ ?_
      exact ⟨by unfold wcode; rw [if_neg c8, if_pos c22], rfl, rfl, rfl⟩
  · refine r_bipush S (by decide +kernel) dX1_ofWord_11 ?_
    refine r_iret SR dX1_ofWord_13 ⟨by decide, by decide⟩ ?_
    exact ⟨by unfold wcode; rw [if_pos c8], rfl, rfl, rfl⟩
end
