/-! ===== sets of FIELDS as bits ===== -/
theorem jI_bv (a : Nat) : (jI (a : Int)).toBitVec = BitVec.ofNat 32 a := by
  unfold jI
  rw [Int32.toBitVec_ofInt, BitVec.ofInt_natCast]
theorem bv_inj {x y : Int32} (h : x.toBitVec = y.toBitVec) : x = y := Int32.toBitVec_inj.mp h
theorem and_n (a b : Nat) : jI (a : Int) &&& jI (b : Int) = jI ((a &&& b : Nat) : Int) := by
  apply bv_inj
  rw [Int32.toBitVec_and, jI_bv, jI_bv, jI_bv, BitVec.ofNat_and]
theorem or_n (a b : Nat) : jI (a : Int) ||| jI (b : Int) = jI ((a ||| b : Nat) : Int) := by
  apply bv_inj
  rw [Int32.toBitVec_or, jI_bv, jI_bv, jI_bv, BitVec.ofNat_or]
theorem xor_n (a b : Nat) : jI (a : Int) ^^^ jI (b : Int) = jI ((a ^^^ b : Nat) : Int) := by
  apply bv_inj
  rw [Int32.toBitVec_xor, jI_bv, jI_bv, jI_bv, BitVec.ofNat_xor]
/-- a without b -/
def dif (a b : Nat) : Nat := a ^^^ (a &&& b)
theorem m1_bv : (jI (-1)).toBitVec = BitVec.allOnes 32 := by decide
theorem dif_n (a b : Nat) {c : Int} (hc : jI (b : Int) ^^^ jI (-1) = jI c) : jI (a : Int) &&& jI c = jI ((dif a b : Nat) : Int) := by
  rw [← hc]
  unfold dif
  rw [← xor_n, ← and_n]
  apply bv_inj
  rw [Int32.toBitVec_and, Int32.toBitVec_xor, Int32.toBitVec_xor, Int32.toBitVec_and, m1_bv]
  generalize (jI (a : Int)).toBitVec = A
  generalize (jI (b : Int)).toBitVec = B
  apply BitVec.eq_of_getLsbD_eq
  intro i hi
  simp only [BitVec.getLsbD_and, BitVec.getLsbD_xor, BitVec.getLsbD_allOnes, hi, decide_true]
  cases A.getLsbD i <;> cases B.getLsbD i <;> rfl
theorem not_n (b : Int) : jI b ^^^ jI (-1) = jI (jI b ^^^ jI (-1)).toInt := (jI_of _).symm
theorem bitl (a : Nat) : a = 2 * (a / 2) + a % 2 := by omega
theorem and_half (a b : Nat) : (a &&& b) / 2 = a / 2 &&& b / 2 := Nat.and_div_two
theorem and_low (a b : Nat) : (a &&& b) % 2 = (a % 2) * (b % 2) := by
  have h := @Nat.and_mod_two_eq_one a b
  by_cases hc : a % 2 = 1 ∧ b % 2 = 1
  · rw [h.mpr hc, hc.1, hc.2]
  · have h0 : ¬ (a &&& b) % 2 = 1 := fun q => hc (h.mp q)
    have h1 : (a &&& b) % 2 = 0 := by omega
    rw [h1]
    by_cases ha : a % 2 = 0
    · rw [ha, Nat.zero_mul]
    · have hb : b % 2 = 0 := by omega
      rw [hb, Nat.mul_zero]
/-- a is a part of b -/
def sub (a b : Nat) : Prop := a &&& b = a
theorem sub_half {a b : Nat} (h : sub a b) : sub (a / 2) (b / 2) := by
  unfold sub at h ⊢
  rw [← and_half, h]
theorem sub_low {a b : Nat} (h : sub a b) : a % 2 ≤ b % 2 := by
  unfold sub at h
  have e := and_low a b
  rw [h] at e
  have ha : a % 2 = 0 ∨ a % 2 = 1 := by omega
  have hb : b % 2 = 0 ∨ b % 2 = 1 := by omega
  rcases ha with ha | ha <;> rcases hb with hb | hb <;> rw [ha, hb] at e <;> omega
/-- the next part of o below r -/
theorem sub_next : ∀ (r o s : Nat), sub r o → sub s o → s < r → s ≤ ((r - 1) &&& o) := by
  intro r
  induction r using Nat.strongRecOn with
  | ind r ih =>
    intro o s hr hs hlt
    have hh := and_half (r - 1) o
    have hl := and_low (r - 1) o
    have hrl := sub_low hr
    have hsl := sub_low hs
    have hr2 := sub_half hr
    have hs2 := sub_half hs
    have e0 := bitl ((r - 1) &&& o)
    by_cases hb : r % 2 = 1
    · have e1 : (r - 1) / 2 = r / 2 := by omega
      rw [e1] at hh
      unfold sub at hr2
      rw [hr2] at hh
      omega
    · have e1 : (r - 1) / 2 = r / 2 - 1 := by omega
      have e2 : (r - 1) % 2 = 1 := by omega
      rw [e1] at hh
      rw [e2, Nat.one_mul] at hl
      have := ih (r / 2) (by omega) (o / 2) (s / 2) hr2 hs2
      by_cases h2 : s / 2 < r / 2
      · have h3 := this h2
        omega
      · omega
theorem sub_and (a o : Nat) : sub (a &&& o) o := by
  unfold sub
  rw [Nat.and_assoc, Nat.and_self]
theorem sub_le {a b : Nat} (h : sub a b) : a ≤ b := by
  unfold sub at h
  rw [← h]
  exact Nat.and_le_right
theorem and_pred_lt {r o : Nat} (h : 0 < r) : ((r - 1) &&& o) < r := by
  have := @Nat.and_le_left (r - 1) o
  omega
