/-! ===== the reference's PARTINGS ===== -/
def dul (D : Int → Int) : Nat → Nat → List Int
  | 0, _ => []
  | k + 1, h => D h :: dul D k (h + 1)
theorem dsO_prs (D φ : Int → Int) : ∀ k h : Nat, dsO (prs D φ k h) = dul D k h
  | 0, _ => rfl
  | k + 1, h => by
    show D h :: dsO (prs D φ k (h + 1)) = D h :: dul D k (h + 1)
    rw [dsO_prs D φ k (h + 1)]
theorem prs_get (D φ : Int → Int) : ∀ (k h j : Nat), j < k → (prs D φ k h).getD j (0, 0) = (D ((h + j : Nat) : Int), φ ((h + j : Nat) : Int))
  | 0, _, j, hj => absurd hj (Nat.not_lt_zero j)
  | k + 1, h, 0, _ => rfl
  | k + 1, h, j + 1, hj => by
    have := prs_get D φ k (h + 1) j (by omega)
    rw [show h + (j + 1) = h + 1 + j by omega]
    exact this
theorem prs_mem {D φ : Int → Int} {P : Int → Int → Prop} : ∀ (k h : Nat), (∀ j : Nat, h ≤ j → j < h + k → P (D j) (φ j)) → ∀ p ∈ prs D φ k h, P p.1 p.2
  | 0, _, _, p, hp => by cases hp
  | k + 1, h, H, p, hp => by
    rcases List.mem_cons.mp hp with e | e
    · rw [e]
      exact H h (Nat.le_refl _) (by omega)
    · exact prs_mem k (h + 1) (fun j a b => H j (by omega) (by omega)) p e
theorem dul_mem {D : Int → Int} : ∀ (k h : Nat), (∀ j : Nat, h ≤ j → j < h + k → 0 ≤ D j) → ∀ d ∈ dul D k h, 0 ≤ d
  | 0, _, _, d, hd => by cases hd
  | k + 1, h, H, d, hd => by
    rcases List.mem_cons.mp hd with e | e
    · rw [e]
      exact H h (Nat.le_refl _) (by omega)
    · exact dul_mem k (h + 1) (fun j a b => H j (by omega) (by omega)) d e
/-- who is served -/
def phD (D : Int → Int) (st : List Nat) (h : Int) : Int := if D h = 0 ∨ st.getD h.toNat 0 ≠ 0 then 1 else 0
theorem phD_01 (D : Int → Int) (st : List Nat) (h : Int) : phD D st h = 0 ∨ phD D st h = 1 := by
  unfold phD
  split
  · exact Or.inr rfl
  · exact Or.inl rfl
theorem phi_prs {D φ : Int → Int} {st : List Nat} {H j : Nat} (h : j < H) : phi (prs D φ H 0) st j = phD D st j := by
  unfold phi phD
  rw [prs_get D φ H 0 j h, Nat.zero_add]
  rfl
def srvN (D : Int → Int) (st : List Nat) : Nat → Nat
  | 0 => 0
  | h + 1 => srvN D st h ||| (if phD D st h = 1 then 2 ^ h else 0)
def gnN (st : List Nat) : Nat → Nat
  | 0 => 0
  | h + 1 => gnN st h ||| st.getD h 0
theorem shr_all : ∀ s : Fin 1024, ∀ f : Fin 10, jI (s.val : Int) >>> (jI (f.val : Int) &&& 31) = jI ((s.val / 2 ^ f.val : Nat) : Int) ∧ jI ((s.val / 2 ^ f.val : Nat) : Int) &&& jI 1 = jI (if Nat.testBit s.val f.val then 1 else 0) := by decide +kernel
theorem shr_bt {s f : Nat} (hs : s < 1024) (hf : f < 10) : jI (s : Int) >>> (jI (f : Int) &&& 31) = jI ((s / 2 ^ f : Nat) : Int) ∧ jI ((s / 2 ^ f : Nat) : Int) &&& jI 1 = jI (bt s f) := shr_all ⟨s, hs⟩ ⟨f, hf⟩
theorem shl_h {h : Nat} (h8 : h < 8) : jI 1 <<< (jI (h : Int) &&& 31) = jI ((2 ^ h : Nat) : Int) := shl_F (F := (h : Int)) (by omega) (by omega)
