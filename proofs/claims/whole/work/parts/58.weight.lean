/-! ===== the WORTH of sets of FIELDS ===== -/
def bt (s f : Nat) : Int := if Nat.testBit s f then 1 else 0
def wgt (ws : Int → Int) : Nat → Nat → Int
  | 0, _ => 0
  | f + 1, s => wgt ws f s + bt s f * ws f
/-- without the one that has the least -/
def wlo (ws : Int → Int) : Nat → Nat → Int
  | 0, _ => 0
  | f + 1, s => if Nat.testBit s f then (if wgt ws f s = 0 then 0 else wgt ws f s + ws f - min (ws f) (wgt ws f s - wlo ws f s)) else wlo ws f s
theorem wgt_congr {ws ws' : Int → Int} {s s' : Nat} : ∀ f : Nat, (∀ i : Nat, i < f → Nat.testBit s i = Nat.testBit s' i) → (∀ i : Nat, i < f → ws i = ws' i) → wgt ws f s = wgt ws' f s'
  | 0, _, _ => rfl
  | f + 1, h, h' => by
    show wgt ws f s + bt s f * ws f = wgt ws' f s' + bt s' f * ws' f
    rw [wgt_congr f (fun i hi => h i (by omega)) (fun i hi => h' i (by omega)), h' f (by omega)]
    unfold bt
    rw [h f (by omega)]
theorem wlo_congr {ws ws' : Int → Int} {s s' : Nat} : ∀ f : Nat, (∀ i : Nat, i < f → Nat.testBit s i = Nat.testBit s' i) → (∀ i : Nat, i < f → ws i = ws' i) → wlo ws f s = wlo ws' f s'
  | 0, _, _ => rfl
  | f + 1, h, h' => by
    have e1 := wgt_congr f (fun i hi => h i (by omega)) (fun i hi => h' i (by omega)) (ws := ws) (ws' := ws') (s := s) (s' := s')
    have e2 := wlo_congr f (fun i hi => h i (by omega)) (fun i hi => h' i (by omega)) (ws := ws) (ws' := ws') (s := s) (s' := s')
    show (if Nat.testBit s f then (if wgt ws f s = 0 then 0 else wgt ws f s + ws f - min (ws f) (wgt ws f s - wlo ws f s)) else wlo ws f s) = (if Nat.testBit s' f then (if wgt ws' f s' = 0 then 0 else wgt ws' f s' + ws' f - min (ws' f) (wgt ws' f s' - wlo ws' f s')) else wlo ws' f s')
    rw [h f (by omega), e1, e2, h' f (by omega)]
theorem wgt_zero (ws : Int → Int) : ∀ f : Nat, wgt ws f 0 = 0
  | 0 => rfl
  | f + 1 => by
    show wgt ws f 0 + bt 0 f * ws f = 0
    rw [wgt_zero ws f]
    unfold bt
    rw [Nat.zero_testBit]
    simp
theorem wgt_1 {ws : Int → Int} {f s : Nat} (h : Nat.testBit s f = true) : wgt ws (f + 1) s = wgt ws f s + ws f := by
  show wgt ws f s + bt s f * ws f = _
  unfold bt
  rw [if_pos h, Int.one_mul]
theorem wgt_0 {ws : Int → Int} {f s : Nat} (h : ¬ Nat.testBit s f = true) : wgt ws (f + 1) s = wgt ws f s := by
  show wgt ws f s + bt s f * ws f = _
  unfold bt
  rw [if_neg h, Int.zero_mul, Int.add_zero]
theorem wgt_rg {ws : Int → Int} {s : Nat} : ∀ f : Nat, (∀ i : Nat, i < f → 1 ≤ ws i ∧ ws i ≤ 999) → 0 ≤ wgt ws f s ∧ wgt ws f s ≤ 999 * f
  | 0, _ => ⟨Int.le_refl _, Int.le_refl _⟩
  | f + 1, h => by
    have ih := wgt_rg (s := s) f (fun i hi => h i (by omega))
    have hf := h f (by omega)
    rw [show ((f + 1 : Nat) : Int) = (f : Int) + 1 by omega]
    by_cases hb : Nat.testBit s f = true
    · rw [wgt_1 hb]; omega
    · rw [wgt_0 hb]; omega
theorem wgt_pos {ws : Int → Int} {s i : Nat} : ∀ f : Nat, (∀ i : Nat, i < f → 1 ≤ ws i ∧ ws i ≤ 999) → i < f → Nat.testBit s i = true → 0 < wgt ws f s
  | 0, _, h, _ => absurd h (Nat.not_lt_zero i)
  | f + 1, h, hi, hb => by
    have hr := wgt_rg (s := s) f (fun i hi => h i (by omega))
    have hf := h f (by omega)
    by_cases e : i = f
    · rw [← e]
      rw [← e] at hr hf
      rw [wgt_1 hb]
      omega
    · have ih := wgt_pos f (fun i hi => h i (by omega)) (by omega) hb
      by_cases hb' : Nat.testBit s f = true
      · rw [wgt_1 hb']; omega
      · rw [wgt_0 hb']; exact ih
theorem wgt_add {ws : Int → Int} {a L : Nat} (h : sub a L) : ∀ f : Nat, wgt ws f L = wgt ws f a + wgt ws f (dif L a)
  | 0 => rfl
  | f + 1 => by
    have ih := wgt_add h f (ws := ws)
    have hd := dif_tb L a f
    by_cases ha : Nat.testBit a f = true
    · have hL := sub_tb.mp h f ha
      rw [wgt_1 hL, wgt_1 ha, wgt_0 (by rw [hd, ha]; simp), ih]
      omega
    · by_cases hL : Nat.testBit L f = true
      · have ha' : Nat.testBit a f = false := by simpa using ha
        rw [wgt_1 hL, wgt_0 ha, wgt_1 (by rw [hd, hL, ha']; rfl), ih]
        omega
      · rw [wgt_0 hL, wgt_0 ha, wgt_0 (by rw [hd, Bool.and_eq_true]; exact fun q => hL q.1), ih]
theorem pow_tb (f i : Nat) : Nat.testBit (2 ^ f) i = decide (f = i) := Nat.testBit_two_pow
theorem wlo_ok {ws : Int → Int} : ∀ (f a : Nat), (∀ i : Nat, i < f → 1 ≤ ws i ∧ ws i ≤ 999) → ¬ wgt ws f a = 0 → ∃ b, sub b a ∧ wgt ws f b = wlo ws f a ∧ wlo ws f a < wgt ws f a
  | 0, _, _, h => absurd rfl h
  | f + 1, a, hws, h => by
    have hf := hws f (by omega)
    have hws' : ∀ i : Nat, i < f → 1 ≤ ws i ∧ ws i ≤ 999 := fun i hi => hws i (by omega)
    have hra := wgt_rg (s := a) f hws'
    -- without FIELD f
    have hcut : ∀ i : Nat, i < f → Nat.testBit (dif a (2 ^ f)) i = Nat.testBit a i := fun i hi => by
      rw [dif_tb, pow_tb, decide_eq_false (by omega)]
      simp
    have ecut := wgt_congr (ws := ws) (ws' := ws) f hcut (fun _ _ => rfl)
    have bcut : ¬ Nat.testBit (dif a (2 ^ f)) f = true := by
      rw [dif_tb, pow_tb, decide_eq_true rfl]
      simp
    by_cases hb : Nat.testBit a f = true
    · have e1 : wlo ws (f + 1) a = if wgt ws f a = 0 then 0 else wgt ws f a + ws f - min (ws f) (wgt ws f a - wlo ws f a) := if_pos hb
      rw [wgt_1 hb, e1]
      by_cases h0 : wgt ws f a = 0
      · rw [if_pos h0]
        exact ⟨dif a (2 ^ f), sub_dif _ _, by rw [wgt_0 bcut, ecut]; exact h0, by omega⟩
      · rw [if_neg h0]
        obtain ⟨b, b1, b2, b3⟩ := wlo_ok f a hws' h0
        by_cases hm : ws f ≤ wgt ws f a - wlo ws f a
        · rw [Int.min_eq_left hm]
          exact ⟨dif a (2 ^ f), sub_dif _ _, by rw [wgt_0 bcut, ecut]; omega, by omega⟩
        · rw [Int.min_eq_right (by omega)]
          refine ⟨b ||| 2 ^ f, sub_or b1 (sub_tb.mpr fun i hi => ?_), ?_, by omega⟩
          · rw [pow_tb] at hi
            rw [← of_decide_eq_true hi]
            exact hb
          · rw [wgt_1 (by rw [Nat.testBit_or, pow_tb, decide_eq_true rfl]; simp)]
            have e2 : wgt ws f (b ||| 2 ^ f) = wgt ws f b := wgt_congr f (fun i hi => by rw [Nat.testBit_or, pow_tb, decide_eq_false (by omega)]; simp) (fun _ _ => rfl)
            rw [e2, b2]
            omega
    · have e1 : wlo ws (f + 1) a = wlo ws f a := if_neg hb
      rw [wgt_0 hb] at h ⊢
      rw [e1]
      obtain ⟨b, b1, b2, b3⟩ := wlo_ok f a hws' h
      refine ⟨b, b1, ?_, b3⟩
      rw [wgt_0 (fun q => hb (sub_tb.mp b1 f q))]
      exact b2
theorem wgt_PW {ws : Int → Int} {F al : Nat} (hF : F ≤ 10) (hal : 2 ^ F = al + 1) (hws : ∀ i : Nat, i < F → 1 ≤ ws i ∧ ws i ≤ 999) : PW (wgt ws F) (wlo ws F) al := by
  refine ⟨wgt_zero ws F, fun a ha a0 => ?_, fun a L _ h => wgt_add h F, fun a _ => ?_⟩
  · have hne : ¬ wgt ws F a = 0 := by
      intro h0
      have hz : a = 0 := by
        apply Nat.eq_of_testBit_eq
        intro i
        rw [Nat.zero_testBit]
        by_cases hi : i < F
        · cases hb : Nat.testBit a i with
          | false => rfl
          | true =>
            have := wgt_pos F hws hi hb
            omega
        · refine Nat.testBit_lt_two_pow (Nat.lt_of_lt_of_le ?_ (Nat.pow_le_pow_right (by decide) (show F ≤ i by omega)))
          have := sub_le ha
          omega
      omega
    obtain ⟨b, b1, b2, b3⟩ := wlo_ok F a hws hne
    refine ⟨b, b1, ?_, b2, b3⟩
    rcases Nat.lt_or_eq_of_le (sub_le b1) with h | h
    · exact h
    · rw [h] at b2
      omega
  · have := wgt_rg (s := a) F hws
    omega
