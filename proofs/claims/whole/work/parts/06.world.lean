/-! ===== numbers: an int of the machine by a whole number ===== -/
def jI (z : Int) : Int32 := Int32.ofInt z
abbrev rg (z : Int) : Prop := -2147483648 ≤ z ∧ z ≤ 2147483647
theorem jI_add (a b : Int) : jI a + jI b = jI (a + b) := (Int32.ofInt_add a b).symm
theorem jI_sub (a b : Int) : jI a - jI b = jI (a - b) := (Int32.ofInt_sub a b).symm
theorem jI_mul (a b : Int) : jI a * jI b = jI (a * b) := (Int32.ofInt_mul a b).symm
theorem jI_neg (a : Int) : -jI a = jI (-a) := Int32.neg_ofInt
theorem jI_toInt {z : Int} (h : rg z) : (jI z).toInt = z := Int32.toInt_ofInt_of_le (by have := h.1; omega) (by have := h.2; omega)
theorem jI_of (x : Int32) : jI x.toInt = x := Int32.ofInt_toInt x
theorem rg_of (x : Int32) : rg x.toInt := ⟨by have := x.le_toInt; omega, by have := x.toInt_lt; omega⟩
theorem jI_lt {a b : Int} (ha : rg a) (hb : rg b) : jI a < jI b ↔ a < b := by rw [Int32.lt_iff_toInt_lt, jI_toInt ha, jI_toInt hb]
theorem jI_le {a b : Int} (ha : rg a) (hb : rg b) : jI a ≤ jI b ↔ a ≤ b := by rw [Int32.le_iff_toInt_le, jI_toInt ha, jI_toInt hb]
theorem jI_eq {a b : Int} (ha : rg a) (hb : rg b) : jI a = jI b ↔ a = b := by rw [← Int32.toInt_inj, jI_toInt ha, jI_toInt hb]
theorem jI_0 : jI 0 = 0 := rfl
theorem rg_0 : rg 0 := ⟨by decide, by decide⟩
theorem jI_clamp {z : Int} (h0 : 0 ≤ z) (h1 : z ≤ 2147483647) : (jI z).toNatClampNeg = z.toNat := by
  have h := Int32.toNat_toInt (jI z)
  rw [jI_toInt ⟨by omega, h1⟩] at h
  exact h.symm
theorem jI_in {z : Int} {N : Nat} (h0 : 0 ≤ z) (h1 : z < N) (hN : N ≤ 2147483647) : vp_in (jI z) N := by
  rintro (h | h)
  · rw [← jI_0, jI_lt ⟨by omega, by omega⟩ rg_0] at h
    omega
  · rw [jI_clamp h0 (by omega)] at h
    omega
theorem jI_nat (N : Nat) : Int32.ofNat N = jI (N : Int) := Int32.ofInt_eq_ofNat.symm
/-- a truth as an int -/
def b2 (p : Prop) [Decidable p] : Int := if p then 1 else 0
theorem b2_t {p : Prop} [Decidable p] (h : p) : b2 p = 1 := if_pos h
theorem b2_f {p : Prop} [Decidable p] (h : ¬ p) : b2 p = 0 := if_neg h
theorem b2_rg (p : Prop) [Decidable p] : rg (b2 p) := by unfold b2; split <;> decide
theorem b2_01 (p : Prop) [Decidable p] : b2 p = 0 ∨ b2 p = 1 := by unfold b2; split <;> simp
/-! ===== locals ===== -/
def la_go : Nat → List (Option Value) → List (Nat × Value)
  | _, [] => []
  | i, none :: t => la_go (i + 1) t
  | i, some v :: t => (i, v) :: la_go (i + 1) t
abbrev la (L : List (Option Value)) : List (Nat × Value) := la_go 0 L
theorem la_mem : ∀ (L : List (Option Value)) (k j : Nat) (v : Value), (j, v) ∈ la_go k L ↔ k ≤ j ∧ L[j - k]? = some (some v)
  | [], k, j, v => by simp [la_go]
  | none :: t, k, j, v => by
    rw [la_go, la_mem t (k + 1) j v]
    constructor
    · rintro ⟨h1, h2⟩
      refine ⟨by omega, ?_⟩
      rw [show j - k = (j - (k + 1)) + 1 by omega, List.getElem?_cons_succ]
      exact h2
    · rintro ⟨h1, h2⟩
      by_cases e : j = k
      · subst e
        simp at h2
      · refine ⟨by omega, ?_⟩
        rw [show j - k = (j - (k + 1)) + 1 by omega, List.getElem?_cons_succ] at h2
        exact h2
  | some w :: t, k, j, v => by
    rw [la_go, List.mem_cons, la_mem t (k + 1) j v]
    constructor
    · rintro (h | ⟨h1, h2⟩)
      · cases h
        exact ⟨Nat.le_refl _, by simp⟩
      · refine ⟨by omega, ?_⟩
        rw [show j - k = (j - (k + 1)) + 1 by omega, List.getElem?_cons_succ]
        exact h2
    · rintro ⟨h1, h2⟩
      by_cases e : j = k
      · subst e
        simp at h2
        exact Or.inl (by rw [h2])
      · refine Or.inr ⟨by omega, ?_⟩
        rw [show j - k = (j - (k + 1)) + 1 by omega, List.getElem?_cons_succ] at h2
        exact h2
theorem la_iff {L : List (Option Value)} {j : Nat} {v : Value} : (j, v) ∈ la L ↔ L[j]? = some (some v) := by
  have h := la_mem L 0 j v
  rw [Nat.sub_zero] at h
  exact h.trans ⟨fun q => q.2, fun q => ⟨Nat.zero_le _, q⟩⟩
def Lh (ls : Array Slot) (L : List (Option Value)) : Prop := lv_has ls L.length (la L)
theorem Lh.at {ls : Array Slot} {L : List (Option Value)} (h : Lh ls L) {i : Nat} {v : Value} (hi : L[i]? = some (some v)) : ls[i]? = some (.val v) := h.2.2 (i, v) (la_iff.mpr hi)
/-- ahead of place i stands nothing of two places -/
def c1 (L : List (Option Value)) : Nat → Bool
  | 0 => true
  | j + 1 => match L[j]? with
    | some (some w) => w.category == 1
    | _ => true
theorem Lh.set {ls : Array Slot} {L : List (Option Value)} {i : Nat} {v : Value} {n : Nat} (hn : n = L.length) (h : lv_has ls n ((i, v) :: (la L).filter (fun q => !(q.1 == i) && !(q.1 + 1 == i && q.2.category == 2)))) (hc : c1 L i = true) : Lh ls (L.set i (some v)) := by
  subst hn
  refine ⟨by rw [List.length_set]; exact h.1, h.2.1, ?_⟩
  rintro ⟨j, w⟩ hq
  rw [la_iff] at hq
  by_cases e : i = j
  · subst e
    rw [List.getElem?_set_self' ] at hq
    cases hL : L[i]? with
    | none => rw [hL] at hq; simp at hq
    | some z =>
      rw [hL] at hq
      simp at hq
      subst hq
      exact h.2.2 _ List.mem_cons_self
  · rw [List.getElem?_set_ne e] at hq
    refine h.2.2 _ (List.mem_cons_of_mem _ (List.mem_filter.mpr ⟨la_iff.mpr hq, ?_⟩))
    have e1 : ¬ j = i := fun q => e q.symm
    by_cases e2 : j + 1 = i
    · subst e2
      simp only [c1, hq] at hc
      have : w.category = 1 := by simpa using hc
      simp [this]
    · simp [e1, e2]
theorem Lh.none {ls : Array Slot} {L : List (Option Value)} (h : Lh ls L) (i : Nat) : Lh ls (L.set i none) := by
  refine ⟨by rw [List.length_set]; exact h.1, h.2.1, ?_⟩
  rintro ⟨j, w⟩ hq
  rw [la_iff] at hq
  by_cases e : i = j
  · subst e
    rw [List.getElem?_set_self'] at hq
    cases hL : L[i]? with
    | none => rw [hL] at hq; simp at hq
    | some z => rw [hL] at hq; simp at hq
  · rw [List.getElem?_set_ne e] at hq
    exact h.at hq
