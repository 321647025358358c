/-! ===== the class's PARTINGS: rows of keys ===== -/
theorem or_half (a b : Nat) : (a ||| b) / 2 = a / 2 ||| b / 2 := Nat.or_div_two
theorem or_sum : ∀ (a b : Nat), a &&& b = 0 → a ||| b = a + b := by
  intro a
  induction a using Nat.strongRecOn with
  | ind a ih =>
    intro b h
    by_cases ha : a = 0
    · rw [ha, Nat.zero_or, Nat.zero_add]
    · have hh := and_half a b
      have hl := and_low a b
      rw [h] at hh hl
      have hi := ih (a / 2) (by omega) (b / 2) (by omega)
      have ho := or_half a b
      have e0 := bitl (a ||| b)
      have ea : a % 2 = 0 ∨ a % 2 = 1 := by omega
      have eb : b % 2 = 0 ∨ b % 2 = 1 := by omega
      have hm : (a ||| b) % 2 = a % 2 + b % 2 := by
        have t := Nat.testBit_or a b 0
        rw [Nat.testBit_zero, Nat.testBit_zero, Nat.testBit_zero] at t
        have em : (a ||| b) % 2 = 0 ∨ (a ||| b) % 2 = 1 := by omega
        rcases ea with ea | ea <;> rcases eb with eb | eb <;> rcases em with em | em <;> rw [ea, eb] at hl <;> rw [ea, eb, em] at t <;> simp at t hl <;> omega
      omega
theorem dif_or_self {a L : Nat} (h : sub a L) : a ||| dif L a = L := by
  apply Nat.eq_of_testBit_eq
  intro i
  rw [Nat.testBit_or, dif_tb]
  cases ha : Nat.testBit a i with
  | false => simp
  | true => rw [sub_tb.mp h i ha]; rfl
theorem dif_disj (a L : Nat) : a &&& dif L a = 0 := by
  apply Nat.eq_of_testBit_eq
  intro i
  rw [Nat.testBit_and, dif_tb, Nat.zero_testBit]
  cases Nat.testBit a i <;> cases Nat.testBit L i <;> rfl
theorem dif_sum {a L : Nat} (h : sub a L) : a + dif L a = L := by rw [← or_sum _ _ (dif_disj a L), dif_or_self h]
theorem add_sub {a r al : Nat} (h : sub r (dif al a)) : a ||| r = a + r ∧ sub a (a + r) ∧ dif (a + r) a = r := by
  have hd : a &&& r = 0 := by rw [Nat.and_comm]; exact dif_and h
  have e := or_sum a r hd
  refine ⟨e, ?_, ?_⟩
  · rw [← e]
    exact sub_tb.mpr fun i hi => by rw [Nat.testBit_or, hi]; rfl
  · rw [← e]
    apply Nat.eq_of_testBit_eq
    intro i
    rw [dif_tb, Nat.testBit_or]
    have t := congrArg (fun x => Nat.testBit x i) hd
    simp only [Nat.testBit_and, Nat.zero_testBit] at t
    cases ha : Nat.testBit a i <;> cases hr : Nat.testBit r i <;> rw [ha, hr] at t <;> first | rfl | cases t
