/-! ===== the class's PARTINGS: rankWithSet ===== -/
section
variable (G : GE) (n : Nat) (I : Iv) (bk dr : Nat) (pt : Option Nat)
theorem c_X5_rankWithSet (hn : 109 ≤ n) {h a al : Nat} (h1 : 1 ≤ h) (h8 : h < 8) (hal : al < 1024) (ha : sub a al) (hr : ∀ i : Int, 0 ≤ i → i < 8192 → -50000000 ≤ I 107 i ∧ I 107 i ≤ 50000000) (hw : 0 ≤ I 105 a ∧ I 105 a ≤ 16383) : Ct G yX5_rankWithSet cX5_rankWithSet 9 none 1 0 0 [.ref (gb G + 103), .int (jI (h : Int)), .int (jI (a : Int)), .int (jI (dif al a : Int))] n I (rst bk dr pt) (fun v n' I' ρ' => v = none ∧ n = n' ∧ rst bk dr pt = ρ' ∧ (∀ o, o ≠ 107 → I' o = I o) ∧ (∀ i : Int, 1024 * (h : Int) ≤ i ∨ i < 1024 * (h : Int) - 1024 → I' 107 i = I 107 i) ∧ ∀ L : Nat, L ≤ al → sub L al → I' 107 (1024 * (h : Int) - 1024 + L) = if a &&& L = a then max (I 107 (1024 * (h : Int) - 1024 + L)) (I 107 (1024 * (h : Int) + (dif L a : Nat)) + key1 (fun s => I 105 (s : Int)) h a) else I 107 (1024 * (h : Int) - 1024 + L)) := by
  refine Ct.of [some (.ref (gb G + 103)), some (.int (jI (h : Int))), some (.int (jI (a : Int))), some (.int (jI (dif al a : Int))), none, none, none, none, none] (by decide) rfl rfl rfl ?_
  intro k SR
  have S : Sem G RX5 "rankWithSet" cX5_rankWithSet 9 (rmD 1 0 0) k := SR.sem
  obtain ⟨ky, eky⟩ : ∃ ky, ky = key1 (fun s => I 105 (s : Int)) h a := ⟨_, rfl⟩
  rw [← eky] at SR
  obtain ⟨ot, eot⟩ : ∃ ot, ot = dif al a := ⟨_, rfl⟩
  have hot : sub ot al := by rw [eot]; exact sub_dif _ _
  have haa := sub_le ha
  have hoo := sub_le hot
  have hkr : -4194304 ≤ ky ∧ ky ≤ 4194304 + 128 := by
    rw [eky]
    unfold key1
    have : (2 : Nat) ^ (7 - h) ≤ 2 ^ 7 := Nat.pow_le_pow_right (by decide) (by omega)
    have e7 : (2 : Nat) ^ 7 = 128 := by decide
    generalize (2 : Nat) ^ (7 - h) = p at this ⊢
    show -4194304 ≤ 4194304 - I 105 a * 256 + (p : Int) ∧ 4194304 - I 105 a * 256 + (p : Int) ≤ 4194304 + 128
    omega
  have fin : ∀ (K : Iv) (i : Int) (x7 : Int), (∀ o, o ≠ 107 → K o = I o) → (∀ s : Nat, sub s ot → K 107 ((h : Int) * 1024 - 1024 + a + s) = max (I 107 ((h : Int) * 1024 - 1024 + a + s)) (I 107 ((h : Int) * 1024 + s) + ky)) → (∀ j : Int, (∀ s : Nat, sub s ot → j ≠ (h : Int) * 1024 - 1024 + a + s) → K 107 j = I 107 j) → k 103 [some (.ref (gb G + 103)), some (.int (jI (h : Int))), some (.int (jI (a : Int))), some (.int (jI (ot : Int))), some (.int (jI ky)), some (.int (jI ((h : Int) * 1024))), some (.int (jI ((h : Int) * 1024 - 1024 + a))), some (.int (jI x7)), some (.int (jI i))] [] n K (rst bk dr pt) 0 0 := by
    intro K i x7 g1 g2 g3
    refine r_vret SR dX5_rankWithSet_103 ⟨by decide, by decide⟩ ?_
    refine ⟨rfl, rfl, rfl, g1, fun j hj => g3 j (fun s hs => by have := sub_le hs; have := sub_le (sub_or ha (hs.tr hot)); rw [eot] at hs; rw [(add_sub hs).1] at this; omega), fun L hL hLs => ?_⟩
    by_cases e : a &&& L = a
    · rw [if_pos e]
      have hs : sub (dif L a) ot := by rw [eot]; exact dif_mono hLs (sub.rf a)
      have q := g2 (dif L a) hs
      have ds := dif_sum e
      rw [show (h : Int) * 1024 - 1024 + a + (dif L a : Nat) = 1024 * (h : Int) - 1024 + L by omega, show (h : Int) * 1024 + (dif L a : Nat) = 1024 * (h : Int) + (dif L a : Nat) by omega] at q
      exact q
    · rw [if_neg e]
      refine g3 _ (fun s hs q => e ?_)
      rw [eot] at hs
      have q2 := (add_sub hs).2.1
      rw [show a + s = L by omega] at q2
      exact q2
  have loop : ∀ (m r : Nat) (i : Int) (K : Iv), r < m → 0 ≤ i → i + r ≤ 1023 → sub r ot → (∀ o, o ≠ 107 → K o = I o) → (∀ s : Nat, sub s ot → K 107 ((h : Int) * 1024 - 1024 + a + s) = if r < s then max (I 107 ((h : Int) * 1024 - 1024 + a + s)) (I 107 ((h : Int) * 1024 + s) + ky) else I 107 ((h : Int) * 1024 - 1024 + a + s)) → (∀ j : Int, (∀ s : Nat, sub s ot → j ≠ (h : Int) * 1024 - 1024 + a + s) → K 107 j = I 107 j) → k 31 [some (.ref (gb G + 103)), some (.int (jI (h : Int))), some (.int (jI (a : Int))), some (.int (jI (ot : Int))), some (.int (jI ky)), some (.int (jI ((h : Int) * 1024))), some (.int (jI ((h : Int) * 1024 - 1024 + a))), some (.int (jI (r : Int))), some (.int (jI i))] [] n K (rst bk dr pt) 0 0 := by
    intro m
    induction m with
    | zero => intro r i K hr0; omega
    | succ m ih =>
      intro r i K hm i0 i1 hro g1 g2 g3
      sorry
  sorry
end
