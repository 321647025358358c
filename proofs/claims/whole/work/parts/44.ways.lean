/-! ===== the WAYS: a search through all of them ===== -/
abbrev BS : Type := Int × List Int
/-- the BOND of HOUSEHOLD j at SITE t with those that are placed (the last first) -/
def gR (NR TI : Int → Int → Int) : List Int → Int → Int → Int
  | [], _, _ => 0
  | x :: rc, t, j => gR NR TI rc t j + TI rc.length j * NR x t
def recd (bond : Int) (rc : List Int) (b : BS) : BS := if b.1 < bond then (bond, rc) else b
def goL (F : Int → BS → BS) (rc : List Int) : Nat → Int → BS → BS
  | 0, _, b => b
  | f + 1, s, b => goL F rc f (s + 1) (if s ∈ rc then b else F s b)
def dfs (NR TI : Int → Int → Int) (S : Nat) : Nat → List Int → Int → BS → BS
  | 0, rc, bond, b => recd bond rc b
  | k + 1, rc, bond, b => goL (fun s b => dfs NR TI S k (s :: rc) (bond + gR NR TI rc s rc.length) b) rc S 0 b
def sumM (M : Int → Int) : Int → Nat → Int
  | _, 0 => 0
  | h, k + 1 => M h + sumM M (h + 1) k
theorem sumM_add (M N : Int → Int) (c : Int) : ∀ (k : Nat) (h : Int), sumM (fun j => M j + N j * c) h k = sumM M h k + sumM N h k * c
  | 0, h => by show (0 : Int) = 0 + 0 * c; rw [Int.zero_mul, Int.add_zero]
  | k + 1, h => by
    show M h + N h * c + sumM (fun j => M j + N j * c) (h + 1) k = M h + sumM M (h + 1) k + (N h + sumM N (h + 1) k) * c
    rw [sumM_add M N c k (h + 1), Int.add_mul]
    omega
theorem sumM_le {M N : Int → Int} : ∀ (k : Nat) (h : Int), (∀ j, h ≤ j → j < h + k → M j ≤ N j) → sumM M h k ≤ sumM N h k
  | 0, _, _ => Int.le_refl _
  | k + 1, h, H => by
    have h1 := H h (by omega) (by omega)
    have h2 := sumM_le k (h + 1) (fun j a b => H j (by omega) (by omega))
    show M h + sumM M (h + 1) k ≤ N h + sumM N (h + 1) k
    omega
theorem sumM_rg {M : Int → Int} {c : Int} : ∀ (k : Nat) (h : Int), (∀ j, h ≤ j → j < h + k → 0 ≤ M j ∧ M j ≤ c) → 0 ≤ sumM M h k ∧ sumM M h k ≤ c * k
  | 0, _, _ => by
    show (0 : Int) ≤ 0 ∧ (0 : Int) ≤ c * ((0 : Nat) : Int)
    rw [show ((0 : Nat) : Int) = 0 from rfl, Int.mul_zero]
    omega
  | k + 1, h, H => by
    have h1 := H h (by omega) (by omega)
    have h2 := sumM_rg k (h + 1) (fun j a b => H j (by omega) (by omega))
    show 0 ≤ M h + sumM M (h + 1) k ∧ M h + sumM M (h + 1) k ≤ c * ((k + 1 : Nat) : Int)
    rw [show ((k + 1 : Nat) : Int) = (k : Int) + 1 by omega, Int.mul_add, Int.mul_one]
    omega
theorem sumM_snoc (M : Int → Int) : ∀ (k : Nat) (h : Int), sumM M h (k + 1) = sumM M h k + M (h + k)
  | 0, h => by
    show M h + 0 = 0 + M (h + ((0 : Nat) : Int))
    rw [show h + ((0 : Nat) : Int) = h by omega]
    omega
  | k + 1, h => by
    show M h + sumM M (h + 1) (k + 1) = M h + sumM M (h + 1) k + M (h + ((k + 1 : Nat) : Int))
    rw [sumM_snoc M k (h + 1), show h + 1 + (k : Int) = h + ((k + 1 : Nat) : Int) by omega]
    omega
/-- what TIES and SITES are, for H HOUSEHOLDS and S SITES -/
def WOk (NR TI : Int → Int → Int) (H S : Nat) : Prop := (H ≤ S ∧ S ≤ 8) ∧ (∀ i j : Int, 0 ≤ i → i < j → j < H → 0 ≤ TI i j ∧ TI i j ≤ 9) ∧ ∀ s t : Int, 0 ≤ s → s < S → 0 ≤ t → t < S → s ≠ t → 0 ≤ NR s t ∧ NR s t ≤ 10
theorem mul_rg {a b : Int} (a0 : 0 ≤ a) (a1 : a ≤ 9) (b0 : 0 ≤ b) (b1 : b ≤ 10) : 0 ≤ a * b ∧ a * b ≤ 90 := by
  have h1 := Int.mul_nonneg a0 b0
  have h2 := Int.mul_le_mul a1 b1 b0 (by decide : (0 : Int) ≤ 9)
  omega
theorem gR_rg {NR TI : Int → Int → Int} {H S : Nat} (W : WOk NR TI H S) : ∀ (rc : List Int) (t j : Int), (∀ x ∈ rc, 0 ≤ x ∧ x < S) → 0 ≤ t → t < S → t ∉ rc → (rc.length : Int) ≤ j → j < H → 0 ≤ gR NR TI rc t j ∧ gR NR TI rc t j ≤ 90 * rc.length
  | [], _, _, _, _, _, _, _, _ => ⟨Int.le_refl _, Int.le_refl _⟩
  | x :: rc, t, j, hx, t0, t1, ht, h0, h1 => by
    rw [List.length_cons] at h0
    have hx0 := hx x (List.mem_cons_self ..)
    have ih := gR_rg W rc t j (fun y hy => hx y (List.mem_cons_of_mem _ hy)) t0 t1 (fun h => ht (List.mem_cons_of_mem _ h)) (by omega) h1
    have hT := W.2.1 (rc.length : Int) j (by omega) (by omega) h1
    have hN := W.2.2 x t hx0.1 hx0.2 t0 t1 (fun e => ht (by rw [e]; exact List.mem_cons_self ..))
    have hm := mul_rg hT.1 hT.2 hN.1 hN.2
    show 0 ≤ gR NR TI rc t j + TI rc.length j * NR x t ∧ gR NR TI rc t j + TI rc.length j * NR x t ≤ 90 * ((rc.length + 1 : Nat) : Int)
    rw [show ((rc.length + 1 : Nat) : Int) = (rc.length : Int) + 1 by omega]
    omega
theorem goL_no {F : Int → BS → BS} {rc : List Int} {b : BS} {S : Int} : ∀ (f : Nat) (s : Int), 0 ≤ s → s + f ≤ S → (∀ s, 0 ≤ s → s < S → s ∉ rc → F s b = b) → goL F rc f s b = b
  | 0, _, _, _, _ => rfl
  | f + 1, s, h0, h1, h => by
    show goL F rc f (s + 1) (if s ∈ rc then b else F s b) = b
    have e : (if s ∈ rc then b else F s b) = b := by
      by_cases hs : s ∈ rc
      · rw [if_pos hs]
      · rw [if_neg hs]
        exact h s h0 (by omega) hs
    rw [e]
    exact goL_no f (s + 1) (by omega) (by omega) h
/-- where no greater BOND may come, nothing is kept -/
theorem dfs_no {NR TI : Int → Int → Int} {H S : Nat} {nst : Int} {am : Int → Int} (W : WOk NR TI H S) (hN : ∀ s t : Int, 0 ≤ s → s < S → 0 ≤ t → t < S → s ≠ t → NR s t ≤ nst) (hH : am H = 0) (hA : ∀ h : Int, ∀ k : Nat, 0 ≤ h → h + k + 1 = H → am h = am (h + 1) + sumM (TI h) (h + 1) k * nst) : ∀ (k : Nat) (rc : List Int) (bond : Int) (b : BS) (M : Int → Int), rc.length + k = H → (∀ x ∈ rc, 0 ≤ x ∧ x < S) → (∀ j t : Int, (rc.length : Int) ≤ j → j < H → 0 ≤ t → t < S → t ∉ rc → gR NR TI rc t j ≤ M j) → bond + sumM M rc.length k + am rc.length ≤ b.1 → dfs NR TI S k rc bond b = b
  | 0, rc, bond, b, M, hl, hx, hM, hb => by
    have e : (rc.length : Int) = H := by omega
    rw [e, hH] at hb
    have hb' : bond + 0 + 0 ≤ b.1 := hb
    show (if b.1 < bond then (bond, rc) else b) = b
    rw [if_neg (by omega)]
  | k + 1, rc, bond, b, M, hl, hx, hM, hb => by
    show goL (fun s b => dfs NR TI S k (s :: rc) (bond + gR NR TI rc s rc.length) b) rc S 0 b = b
    refine goL_no (S := S) S 0 (Int.le_refl _) (by omega) (fun s s0 s1 hs => ?_)
    have e1 : ((s :: rc).length : Int) = (rc.length : Int) + 1 := by rw [List.length_cons]; omega
    refine dfs_no W hN hH hA k (s :: rc) _ b (fun j => M j + TI rc.length j * nst) (by rw [List.length_cons]; omega) (fun x h => ?_) (fun j t j0 j1 t0 t1 ht => ?_) ?_
    · rcases List.mem_cons.mp h with h | h
      · rw [h]; exact ⟨s0, s1⟩
      · exact hx x h
    · rw [e1] at j0
      have h1 := hM j t (by omega) j1 t0 t1 (fun h => ht (List.mem_cons_of_mem _ h))
      have h2 := hN s t s0 s1 t0 t1 (fun e => ht (by rw [e]; exact List.mem_cons_self ..))
      have h3 := W.2.1 (rc.length : Int) j (by omega) (by omega) j1
      have h4 : TI rc.length j * NR s t ≤ TI rc.length j * nst := Int.mul_le_mul_of_nonneg_left h2 h3.1
      show gR NR TI rc t j + TI rc.length j * NR s t ≤ M j + TI rc.length j * nst
      omega
    · have h1 := hM rc.length s (by omega) (by omega) s0 s1 hs
      have h2 := hA rc.length k (by omega) (by omega)
      rw [e1, sumM_add]
      have h3 : sumM M rc.length (k + 1) = M rc.length + sumM M (rc.length + 1) k := rfl
      omega
/-- how great a BOND may be -/
theorem goL_rg {F : Int → BS → BS} {rc : List Int} {S : Int} : ∀ (f : Nat) (s : Int) (b : BS), 0 ≤ s → s + f ≤ S → (-1 ≤ b.1 ∧ b.1 ≤ 5760) → (∀ s b, 0 ≤ s → s < S → s ∉ rc → (-1 ≤ b.1 ∧ b.1 ≤ 5760) → -1 ≤ (F s b).1 ∧ (F s b).1 ≤ 5760) → -1 ≤ (goL F rc f s b).1 ∧ (goL F rc f s b).1 ≤ 5760
  | 0, _, _, _, _, hb, _ => hb
  | f + 1, s, b, h0, h1, hb, h => by
    show -1 ≤ (goL F rc f (s + 1) (if s ∈ rc then b else F s b)).1 ∧ (goL F rc f (s + 1) (if s ∈ rc then b else F s b)).1 ≤ 5760
    refine goL_rg f (s + 1) _ (by omega) (by omega) ?_ h
    by_cases hs : s ∈ rc
    · rw [if_pos hs]; exact hb
    · rw [if_neg hs]; exact h s b h0 (by omega) hs hb
theorem dfs_rg {NR TI : Int → Int → Int} {H S : Nat} (W : WOk NR TI H S) : ∀ (k : Nat) (rc : List Int) (bond : Int) (b : BS), rc.length + k = H → (∀ x ∈ rc, 0 ≤ x ∧ x < S) → (0 ≤ bond ∧ bond ≤ 720 * rc.length) → (-1 ≤ b.1 ∧ b.1 ≤ 5760) → -1 ≤ (dfs NR TI S k rc bond b).1 ∧ (dfs NR TI S k rc bond b).1 ≤ 5760
  | 0, rc, bond, b, hl, hx, hbo, hb => by
    have hW := W.1
    show -1 ≤ (if b.1 < bond then (bond, rc) else b).1 ∧ (if b.1 < bond then (bond, rc) else b).1 ≤ 5760
    by_cases e : b.1 < bond
    · rw [if_pos e]
      show -1 ≤ bond ∧ bond ≤ 5760
      omega
    · rw [if_neg e]; exact hb
  | k + 1, rc, bond, b, hl, hx, hbo, hb => by
    have hW := W.1
    refine goL_rg (S := S) S 0 b (Int.le_refl _) (by omega) hb (fun s b s0 s1 hs hb => ?_)
    have hg := gR_rg W rc s rc.length hx s0 s1 hs (by omega) (by omega)
    refine dfs_rg W k (s :: rc) _ b (by rw [List.length_cons]; omega) (fun x h => ?_) ?_ hb
    · rcases List.mem_cons.mp h with h | h
      · rw [h]; exact ⟨s0, s1⟩
      · exact hx x h
    · rw [List.length_cons, show ((rc.length + 1 : Nat) : Int) = (rc.length : Int) + 1 by omega]
      omega
theorem goL_len {F : Int → BS → BS} {rc : List Int} {H : Nat} : ∀ (f : Nat) (s : Int) (b : BS), (b.2.length = H ∨ b.1 = -1) → (∀ s b, (b.2.length = H ∨ b.1 = -1) → (F s b).2.length = H ∨ (F s b).1 = -1) → (goL F rc f s b).2.length = H ∨ (goL F rc f s b).1 = -1
  | 0, _, _, hb, _ => hb
  | f + 1, s, b, hb, h => by
    refine goL_len f (s + 1) _ ?_ h
    by_cases hs : s ∈ rc
    · rw [if_pos hs]; exact hb
    · rw [if_neg hs]; exact h s b hb
/-- the BEST of all WAYS -/
def bestW (NR TI : Int → Int → Int) (H S : Nat) : BS := dfs NR TI S H [] 0 (-1, [])
