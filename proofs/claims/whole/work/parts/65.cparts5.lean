/-! ===== the class's PARTINGS: rankWith ===== -/
theorem cB_rg {w wl : Nat → Int} {al : Nat} (hW : PW w wl al) : ∀ (ds : List Int) (i L : Nat), sub L al → 0 ≤ cB w wl al i ds L ∧ cB w wl al i ds L ≤ 4194432 * (ds.length : Int)
  | [], _, _, _ => ⟨Int.le_refl _, Int.le_refl _⟩
  | d :: ds, i, L, hL => by
    have ih := cB_rg hW ds (i + 1) L hL
    rw [List.length_cons, show ((ds.length + 1 : Nat) : Int) = (ds.length : Int) + 1 by omega]
    by_cases h0 : d = 0
    · have e : cB w wl al i (d :: ds) L = cB w wl al (i + 1) ds L := if_pos h0
      rw [e]
      omega
    · have e : cB w wl al i (d :: ds) L = mxs (fun a => key1 w i a + cB w wl al (i + 1) ds (dif L a)) (je w wl d L) al (cB w wl al (i + 1) ds L) := if_neg h0
      rw [e]
      have hv := mxs_v (fun a => key1 w i a + cB w wl al (i + 1) ds (dif L a)) (je w wl d L) al (cB w wl al (i + 1) ds L)
      refine ⟨by omega, ?_⟩
      rcases mxs_att (fun a => key1 w i a + cB w wl al (i + 1) ds (dif L a)) (je w wl d L) al (cB w wl al (i + 1) ds L) with q | ⟨a, a1, a2, a3, a4⟩
      · rw [q]; omega
      · rw [a4]
        have hs := (je_iff.mp a3).2.2
        have iha := cB_rg hW ds (i + 1) (dif L a) ((sub_dif L a).tr hL)
        have hwa := hW.2.2.2 a (hs.tr hL)
        have hk : key1 w i a ≤ 4194432 := by
          unfold key1
          have : (2 : Nat) ^ (7 - i) ≤ 2 ^ 7 := Nat.pow_le_pow_right (by decide) (by omega)
          have e7 : (2 : Nat) ^ 7 = 128 := by decide
          generalize (2 : Nat) ^ (7 - i) = p at this ⊢
          omega
        show key1 w i a + cB w wl al (i + 1) ds (dif L a) ≤ _
        omega
