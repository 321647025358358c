/-! ===== counting bits; there is always a WAY ===== -/
def pcK (s : Nat) : Nat → Int
  | 0 => 0
  | k + 1 => pcK s k + bt s k
def us (a b : Int) : Int := (((jI a).toUInt32 >>> ((jI b).toUInt32 &&& Int32.toUInt32 31)).toInt32).toInt
theorem us_j (a b : Int) : ((jI a).toUInt32 >>> ((jI b).toUInt32 &&& Int32.toUInt32 31)).toInt32 = jI (us a b) := (jI_of _).symm
def bc1 (x : Int) : Int := x - andW (us x 1) 1431655765
def bc2 (x : Int) : Int := andW x 858993459 + andW (us x 2) 858993459
def bc3 (x : Int) : Int := andW (x + us x 4) 252645135
def bc4 (x : Int) : Int := x + us x 8
def bc5 (x : Int) : Int := x + us x 16
theorem bc_all : ∀ s : Fin 256, andW (bc5 (bc4 (bc3 (bc2 (bc1 (s.val : Int)))))) 63 = pcK s.val 8 := by decide +kernel
theorem srvN_lt (D : Int → Int) (st : List Nat) : ∀ h : Nat, srvN D st h < 2 ^ h
  | 0 => Nat.zero_lt_one
  | h + 1 => by
    have ih := srvN_lt D st h
    have e : 2 ^ (h + 1) = 2 ^ h + 2 ^ h := by rw [Nat.pow_succ]; omega
    refine Nat.or_lt_two_pow (by omega) ?_
    split
    · have := Nat.two_pow_pos h; omega
    · exact Nat.two_pow_pos _
section
variable (G : GE) (n : Nat) (I : Iv) (ρ : Rv)
theorem c_bitCount {s : Nat} (hs : s < 256) : Ct G yJ6_bitCount_0f7a4 cJ6_bitCount_0f7a4 1 (some .int) 0 0 0 [.int (jI (s : Int))] n I ρ (PI (pcK s 8) n I ρ) := by
  refine Ct.of [some (.int (jI (s : Int)))] (by decide) rfl rfl rfl ?_
  intro k SR
  have S : Sem G RJ6 "bitCount" cJ6_bitCount_0f7a4 1 (rmD 0 0 0) k := SR.sem
  refine r_iload_n S rfl dJ6_bitCount_0f7a4_0 ?_
  refine r_iload_n S rfl dJ6_bitCount_0f7a4_1 ?_
  refine r_iconst S dJ6_bitCount_0f7a4_2 ?_
  refine r_iushr S (v := us (s:Int) 1) (us_j _ _) dJ6_bitCount_0f7a4_3 ?_
  refine r_ldcw S kc_J6_265 dJ6_bitCount_0f7a4_4 ?_
  refine r_iand S (v := andW (us (s:Int) 1) 1431655765) (andW_j _ _) dJ6_bitCount_0f7a4_7 ?_
  refine r_isub S dJ6_bitCount_0f7a4_8 ?_
  rw [show (s : Int) - andW (us (s : Int) 1) 1431655765 = bc1 s from rfl]
  refine r_istore_n S dJ6_bitCount_0f7a4_9 rfl rfl ?_
  refine r_iload_n S rfl dJ6_bitCount_0f7a4_10 ?_
  refine r_ldcw S kc_J6_266 dJ6_bitCount_0f7a4_11 ?_
  refine r_iand S (v := andW (bc1 (s : Int)) 858993459) (andW_j _ _) dJ6_bitCount_0f7a4_14 ?_
  refine r_iload_n S rfl dJ6_bitCount_0f7a4_15 ?_
  refine r_iconst S dJ6_bitCount_0f7a4_16 ?_
  refine r_iushr S (v := us (bc1 (s : Int)) 2) (us_j _ _) dJ6_bitCount_0f7a4_17 ?_
  refine r_ldcw S kc_J6_266 dJ6_bitCount_0f7a4_18 ?_
  refine r_iand S (v := andW (us (bc1 (s : Int)) 2) 858993459) (andW_j _ _) dJ6_bitCount_0f7a4_21 ?_
  refine r_iadd S dJ6_bitCount_0f7a4_22 ?_
  rw [show andW (bc1 (s : Int)) 858993459 + andW (us (bc1 (s : Int)) 2) 858993459 = bc2 (bc1 s) from rfl]
  refine r_istore_n S dJ6_bitCount_0f7a4_23 rfl rfl ?_
  refine r_iload_n S rfl dJ6_bitCount_0f7a4_24 ?_
  refine r_iload_n S rfl dJ6_bitCount_0f7a4_25 ?_
  refine r_iconst S dJ6_bitCount_0f7a4_26 ?_
  refine r_iushr S (v := us (bc2 (bc1 (s : Int))) 4) (us_j _ _) dJ6_bitCount_0f7a4_27 ?_
  refine r_iadd S dJ6_bitCount_0f7a4_28 ?_
  refine r_ldcw S kc_J6_267 dJ6_bitCount_0f7a4_29 ?_
  refine r_iand S (v := bc3 (bc2 (bc1 (s : Int)))) (andW_j _ _) dJ6_bitCount_0f7a4_32 ?_
  refine r_istore_n S dJ6_bitCount_0f7a4_33 rfl rfl ?_
  refine r_iload_n S rfl dJ6_bitCount_0f7a4_34 ?_
  refine r_iload_n S rfl dJ6_bitCount_0f7a4_35 ?_
  refine r_bipush S (by decide +kernel) dJ6_bitCount_0f7a4_36 ?_
  refine r_iushr S (v := us (bc3 (bc2 (bc1 (s : Int)))) 8) (us_j _ _) dJ6_bitCount_0f7a4_38 ?_
  refine r_iadd S dJ6_bitCount_0f7a4_39 ?_
  rw [show bc3 (bc2 (bc1 (s : Int))) + us (bc3 (bc2 (bc1 (s : Int)))) 8 = bc4 (bc3 (bc2 (bc1 (s : Int)))) from rfl]
  refine r_istore_n S dJ6_bitCount_0f7a4_40 rfl rfl ?_
  refine r_iload_n S rfl dJ6_bitCount_0f7a4_41 ?_
  refine r_iload_n S rfl dJ6_bitCount_0f7a4_42 ?_
  refine r_bipush S (by decide +kernel) dJ6_bitCount_0f7a4_43 ?_
  refine r_iushr S (v := us (bc4 (bc3 (bc2 (bc1 (s : Int))))) 16) (us_j _ _) dJ6_bitCount_0f7a4_45 ?_
  refine r_iadd S dJ6_bitCount_0f7a4_46 ?_
  rw [show bc4 (bc3 (bc2 (bc1 (s : Int)))) + us (bc4 (bc3 (bc2 (bc1 (s : Int))))) 16 = bc5 (bc4 (bc3 (bc2 (bc1 (s : Int))))) from rfl]
  refine r_istore_n S dJ6_bitCount_0f7a4_47 rfl rfl ?_
  refine r_iload_n S rfl dJ6_bitCount_0f7a4_48 ?_
  refine r_bipush S (by decide +kernel) dJ6_bitCount_0f7a4_49 ?_
  refine r_iand S (v := pcK s 8) (by rw [andW_j]; exact congrArg jI (bc_all ⟨s, hs⟩)) dJ6_bitCount_0f7a4_51 ?_
  refine r_iret SR dJ6_bitCount_0f7a4_52 ⟨by decide, by decide⟩ ?_
  exact ⟨rfl, rfl, rfl, rfl⟩
theorem c_X12_bits {s : Nat} (hs : s < 256) : Ct G yX12_bits cX12_bits 3 (some .int) 0 0 0 [.int (jI (s : Int))] n I ρ (PI (pcK s 8) n I ρ) := by
  refine Ct.of [some (.int (jI (s : Int))), none, none] (by decide) rfl rfl rfl ?_
  intro k SR
  have S : Sem G RX12 "bits" cX12_bits 3 (rmD 0 0 0) k := SR.sem
  have loop : ∀ (q t : Nat), t + q = 8 → k 4 [some (.int (jI (s : Int))), some (.int (jI (pcK s t))), some (.int (jI (t : Int)))] [] n I ρ 0 0 := by
    intro q
    induction q with
    | zero =>
      intro t ht
      have et : t = 8 := by omega
      rw [et]
      refine r_iload_n S rfl dX12_bits_4 ?_
      refine r_bipush S (by decide +kernel) dX12_bits_5 ?_
      refine r_icmp_ge S (tgt := 24) dX12_bits_7 (by decide) (by decide) (by decide) (fun c7 => ?_) (fun c7 => ?_)
      · refine r_iload_n S rfl dX12_bits_24 ?_
        refine r_iret SR dX12_bits_25 ⟨by decide, by decide⟩ ?_
        exact ⟨rfl, rfl, rfl, rfl⟩
      · exact absurd c7 (by decide)
    | succ q ih =>
      intro t ht
      have B := shr_bt (s := s) (f := t) (by omega) (by omega)
      refine r_iload_n S rfl dX12_bits_4 ?_
      refine r_bipush S (by decide +kernel) dX12_bits_5 ?_
      refine r_icmp_ge S (tgt := 24) dX12_bits_7 (by decide) (by omega) (by omega) (fun c7 => ?_) (fun c7 => ?_)
      · exact absurd c7 (by omega)
      · refine r_iload_n S rfl dX12_bits_10 ?_
        refine r_iload_n S rfl dX12_bits_11 ?_
        refine r_iload_n S rfl dX12_bits_12 ?_
        refine r_ishr S (v := ((s / 2 ^ t : Nat) : Int)) B.1 dX12_bits_13 ?_
        refine r_iconst S dX12_bits_14 ?_
        refine r_iand S (v := bt s t) B.2 dX12_bits_15 ?_
        refine r_iadd S dX12_bits_16 ?_
        refine r_istore_n S dX12_bits_17 rfl rfl ?_
        refine r_iinc S dX12_bits_18 rfl rfl rfl ?_
        refine r_goto S (tgt := 4) dX12_bits_21 (by decide) ?_
        have Q := ih (t + 1) (by omega)
        rw [show ((t + 1 : Nat) : Int) = (t : Int) + 1 by omega] at Q
        exact Q
  refine r_iconst S dX12_bits_0 ?_
  refine r_istore_n S dX12_bits_1 rfl rfl ?_
  refine r_iconst S dX12_bits_2 ?_
  refine r_istore_n S dX12_bits_3 rfl rfl ?_
  exact loop 8 0 (by omega)
end
/-! there is always a WAY -/
theorem all_in : ∀ (S : Nat) (rc : List Int), (∀ s : Int, 0 ≤ s → s < S → s ∈ rc) → S ≤ rc.length
  | 0, _, _ => Nat.zero_le _
  | S + 1, rc, h => by
    have hm : (S : Int) ∈ rc := h S (by omega) (by omega)
    have ih := all_in S (rc.erase (S : Int)) (fun s a b => (List.mem_erase_of_ne (by omega)).mpr (h s a (by omega)))
    rw [List.length_erase_of_mem hm] at ih
    have := List.length_pos_of_mem hm
    omega
theorem goL_mono {F : Int → BS → BS} {rc : List Int} (hF : ∀ s b, b.1 ≤ (F s b).1) : ∀ (f : Nat) (s : Int) (b : BS), b.1 ≤ (goL F rc f s b).1
  | 0, _, _ => Int.le_refl _
  | f + 1, s, b => by
    have ih := goL_mono hF f (s + 1) (if s ∈ rc then b else F s b) (rc := rc)
    refine Int.le_trans ?_ ih
    by_cases hs : s ∈ rc
    · rw [if_pos hs]; exact Int.le_refl _
    · rw [if_neg hs]; exact hF s b
theorem dfs_mono (NR TI : Int → Int → Int) (S : Nat) : ∀ (k : Nat) (rc : List Int) (bond : Int) (b : BS), b.1 ≤ (dfs NR TI S k rc bond b).1
  | 0, rc, bond, b => by
    show b.1 ≤ (if b.1 < bond then (bond, rc) else b).1
    by_cases e : b.1 < bond
    · rw [if_pos e]; exact Int.le_of_lt e
    · rw [if_neg e]; exact Int.le_refl _
  | k + 1, rc, bond, b => goL_mono (fun s b => dfs_mono NR TI S k (s :: rc) _ b) S 0 b
theorem goL_nn {F : Int → BS → BS} {rc : List Int} (hF : ∀ s b, b.1 ≤ (F s b).1) {s' : Int} (hs' : s' ∉ rc) (hN : ∀ b, 0 ≤ (F s' b).1) : ∀ (f : Nat) (s : Int) (b : BS), s ≤ s' → s' < s + f → 0 ≤ (goL F rc f s b).1
  | 0, s, _, h1, h2 => by omega
  | f + 1, s, b, h1, h2 => by
    by_cases e : s = s'
    · have h := goL_mono hF f (s + 1) (if s ∈ rc then b else F s b) (rc := rc)
      have h0 : 0 ≤ (if s ∈ rc then b else F s b).1 := by
        rw [e, if_neg hs']
        exact hN b
      exact Int.le_trans h0 h
    · exact goL_nn hF hs' hN f (s + 1) _ (by omega) (by omega)
theorem dfs_nn {NR TI : Int → Int → Int} {H S : Nat} (W : WOk NR TI H S) : ∀ (k : Nat) (rc : List Int) (bond : Int) (b : BS), rc.length + k = H → (∀ x ∈ rc, 0 ≤ x ∧ x < S) → 0 ≤ bond → 0 ≤ (dfs NR TI S k rc bond b).1
  | 0, rc, bond, b, hl, hx, hb => by
    show 0 ≤ (if b.1 < bond then (bond, rc) else b).1
    by_cases e : b.1 < bond
    · rw [if_pos e]; exact hb
    · rw [if_neg e]; omega
  | k + 1, rc, bond, b, hl, hx, hb => by
    have hW := W.1
    have hex : ∃ s : Int, 0 ≤ s ∧ s < S ∧ s ∉ rc := Classical.byContradiction fun hno => by
      have := all_in S rc (fun s a c => Classical.byContradiction fun q => hno ⟨s, a, c, q⟩)
      omega
    obtain ⟨s', s0, s1, s2⟩ := hex
    refine goL_nn (fun s b => dfs_mono NR TI S k (s :: rc) _ b) s2 (fun b => ?_) S 0 b s0 (by omega)
    have hg := gR_rg W rc s' rc.length hx s0 s1 s2 (by omega) (by omega)
    exact dfs_nn W k (s' :: rc) _ b (by rw [List.length_cons]; omega) (fun x h => by
      rcases List.mem_cons.mp h with h | h
      · rw [h]; exact ⟨s0, s1⟩
      · exact hx x h) (by omega)
theorem bestW_nn {NR TI : Int → Int → Int} {H S : Nat} (W : WOk NR TI H S) : 0 ≤ (bestW NR TI H S).1 := dfs_nn W H [] 0 (-1, []) (by show 0 + H = H; omega) (fun x h => absurd h (by simp)) (Int.le_refl _)
theorem bestW_rg {NR TI : Int → Int → Int} {H S : Nat} (W : WOk NR TI H S) : (bestW NR TI H S).1 ≤ 5760 := (dfs_rg W H [] 0 (-1, []) (by show 0 + H = H; omega) (fun x h => absurd h (by simp)) ⟨Int.le_refl _, by decide⟩ ⟨Int.le_refl _, by decide⟩).2
