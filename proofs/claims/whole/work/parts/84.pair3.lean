/-! ===== calls on both sides: tie, site, rules, best, part ===== -/
theorem holdS_eq {A B : Int → Int} : ∀ (l : List Int), holdS A l → holdS B l → ∀ i : Int, 0 ≤ i → i < l.length → A i = B i
  | [], _, _, i, h0, h1 => by
    have h1' : i < ((0 : Nat) : Int) := h1
    omega
  | y :: l, ha, hb, i, h0, h1 => by
    rw [List.length_cons] at h1
    by_cases e : i = l.length
    · rw [e]
      exact ha.1.trans hb.1.symm
    · exact holdS_eq l ha.2 hb.2 i h0 (by omega)
section
variable {G : GE} {n : Nat} {I : Iv} {bk dr : Nat} {pt : Option Nat} {rs : RLs}
theorem q_tie (hR : Rel I rs bk dr pt n) {a b v : Int} (ha : rg a) (hb : rg b) (hv : rg v) : Pr G yX11_tie cX11_tie 5 yX12_tie cX12_tie 4 (some .boolean) [.int (jI a), .int (jI b), .int (jI v)] n I (rst bk dr pt) := by
  obtain ⟨hT, hW, hB, hH, hY, hF, hP, hX, hRl, hS⟩ := id hR
  have hn := hS.n
  obtain ⟨e1, c8, -⟩ := id hH
  obtain ⟨⟨Z, z1, z2, z3, z4⟩, y2, y3, y4, y5, y6, y7⟩ := id hY
  obtain ⟨w1, w2, w3, w4, w5, w6⟩ := id z3
  have hr : ∀ i j : Nat, i < 8 → j < 8 → i ≠ j → rg (I (29 + i) (j : Int)) := fun i j p q r => by
    rw [w3 i j p q r]
    have := w4 i j (by omega) (by omega) (by omega) (by omega)
    omega
  refine Pr_two (d := 2) (d' := 2) (by decide) (by decide) (c_X11_tie G n I bk dr pt hn ha hb hv (by omega) (by omega) hr) ⟨rs, bk, dr, pt, rfl, hR⟩ (fun h => ?_) (fun h => ?_)
  · have h' := h
    unfold tiP at h'
    obtain ⟨A, eA⟩ : ∃ A : Nat, a = A := ⟨a.toNat, by omega⟩
    obtain ⟨B, eB⟩ : ∃ B : Nat, b = B := ⟨b.toNat, by omega⟩
    have hA : A < 8 := by omega
    have hBB : B < 8 := by omega
    have hAB : A ≠ B := by omega
    obtain ⟨W, eW⟩ : ∃ W, W = tiW I a b v := ⟨_, rfl⟩
    have eW' : W = if I (29 + A) B = v then I else up (up (up I (29 + A) B v) (29 + B) A v) 16 7 (-1) := by
      rw [eW, eA, eB]
      rfl
    have oW : ∀ o, o ≠ 16 → o < 29 ∨ 36 < o → W o = I o := fun o x y => by
      rw [eW']
      split
      · rfl
      · rw [up_o x, up_o (by omega), up_o (by omega)]
    have w16 : ∀ j, j ≠ 7 → W 16 j = I 16 j := fun j hj => by
      rw [eW']
      split
      · rfl
      · rw [up_i hj, up_o (by omega), up_o (by omega)]
    obtain ⟨V, eV⟩ : ∃ V, V = tiV W a b v := ⟨_, rfl⟩
    have oV : ∀ o, o ≠ 81 → V o = W o := fun o x => by rw [eV]; unfold tiV; rw [up_o x, up_o x]
    have v81 : ∀ j, V 81 j = if j = 8 * b + a then v else if j = 8 * a + b then v else I 81 j := fun j => by
      rw [eV]
      unfold tiV
      rw [up_fn, up_fn, oW 81 (by decide) (by omega)]
    have fr : ∀ o, o ≠ 16 → o < 29 ∨ 36 < o → o ≠ 81 → V o = I o := fun o x y z => by rw [oV o z]; exact oW o x y
    have C := c_X12_tie G n W bk dr pt hn ha hb hv (by rw [oW 72 (by decide) (by omega)]; exact c8.1) (by rw [oW 72 (by decide) (by omega)]; exact c8.2)
    rw [oW 72 (by decide) (by omega), ← eV] at C
    rw [← eW]
    have tAB : I (29 + A) B = I 81 (8 * a + b) := by rw [w3 A B hA hBB hAB, eA, eB]; rfl
    have tBA : I (29 + B) A = I 81 (8 * b + a) := by rw [w3 B A hBB hA (Ne.symm hAB), eA, eB]; rfl
    have sy := y4 a b (by omega) (by omega) (by omega) (by omega)
    refine ⟨_, _, _, _, C, (show tiP a b v (I 72 1) by unfold tiP; omega), rfl, rs, bk, dr, pt, rfl, ?_, ?_, ?_, ?_, ?_, ?_, ?_, ?_, ?_, ?_⟩
    · rw [fr 0 (by decide) (by omega) (by decide), fr 72 (by decide) (by omega) (by decide)]; exact hT
    · rw [fr 2 (by decide) (by omega) (by decide), fr 73 (by decide) (by omega) (by decide), fr 3 (by decide) (by omega) (by decide), fr 75 (by decide) (by omega) (by decide)]; exact hW
    · rw [fr 15 (by decide) (by omega) (by decide), fr 74 (by decide) (by omega) (by decide)]; exact hB
    · rw [fr 4 (by decide) (by omega) (by decide), fr 72 (by decide) (by omega) (by decide), fr 5 (by decide) (by omega) (by decide), fr 76 (by decide) (by omega) (by decide), fr 6 (by decide) (by omega) (by decide), fr 77 (by decide) (by omega) (by decide), fr 7 (by decide) (by omega) (by decide), fr 78 (by decide) (by omega) (by decide), fr 8 (by decide) (by omega) (by decide), fr 79 (by decide) (by omega) (by decide), fr 9 (by decide) (by omega) (by decide), fr 85 (by decide) (by omega) (by decide), fr 10 (by decide) (by omega) (by decide), fr 11 (by decide) (by omega) (by decide), fr 80 (by decide) (by omega) (by decide)]; exact hH
    · have e82 := fr 82 (by decide) (by omega) (by decide)
      have e83 := fr 83 (by decide) (by omega) (by decide)
      have ti' : ∀ i j : Int, tiM (V 81) i j = if 8 * i + j = 8 * b + a then v else if 8 * i + j = 8 * a + b then v else tiM (I 81) i j := fun i j => v81 (8 * i + j)
      have trg : ∀ i j : Int, 0 ≤ i → i < 8 → 0 ≤ j → j < 8 → 0 ≤ tiM (V 81) i j ∧ tiM (V 81) i j ≤ 9 := fun i j i0 i1 j0 j1 => by
        rw [ti']
        have := w4 i j i0 i1 j0 j1
        split
        · omega
        · split
          · omega
          · exact this
      have trow : ∀ i j : Nat, i < 8 → j < 8 → i ≠ j → V (29 + i) (j : Int) = tiM (V 81) i j := fun i j i1 j1 ij => by
        rw [oV (29 + i) (by omega), ti', eW']
        have hij := w3 i j i1 j1 ij
        by_cases ev : I (29 + A) B = v
        · rw [if_pos ev, hij]
          by_cases q1 : 8 * (i : Int) + j = 8 * b + a
          · rw [if_pos q1, ← ev, tAB, sy, ← q1]
            rfl
          · rw [if_neg q1]
            by_cases q2 : 8 * (i : Int) + j = 8 * a + b
            · rw [if_pos q2, ← ev, tAB, ← q2]
              rfl
            · rw [if_neg q2]
        · rw [if_neg ev, up_o (by omega)]
          by_cases q1 : 8 * (i : Int) + j = 8 * b + a
          · rw [if_pos q1, show i = B by omega, show j = A by omega, up_s]
          · rw [if_neg q1, up_n (by omega)]
            by_cases q2 : 8 * (i : Int) + j = 8 * a + b
            · rw [if_pos q2, show i = A by omega, show j = B by omega, up_s]
            · rw [if_neg q2, up_n (by omega)]
              exact hij
      refine ⟨⟨Z, z1, by rw [fr 72 (by decide) (by omega) (by decide)]; exact z2, ⟨⟨w1.1, by rw [oV 16 (by decide), w16 0 (by decide)]; exact w1.2⟩, fun s t p q r => ?_, trow, trg, ?_, ?_⟩, fun H q => ?_⟩, ⟨by rw [fr 17 (by decide) (by omega) (by decide), e82]; exact y2.1, by rw [fr 18 (by decide) (by omega) (by decide), e83]; exact y2.2⟩, by rw [e82, e83]; exact y3, fun i j i0 i1 j0 j1 => ?_, ⟨by rw [fr 39 (by decide) (by omega) (by decide)]; exact y5.1, by rw [fr 41 (by decide) (by omega) (by decide)]; exact y5.2⟩, ?_, by rw [fr 97 (by decide) (by omega) (by decide)]; exact y7⟩
      · rw [fr (20 + s) (by omega) (by omega) (by omega), e82, e83]; exact w2 s t p q r
      · rw [e82, e83]; exact w5
      · rw [e82, e83]; exact w6
      · rw [oV 16 (by decide), eW'] at q
        by_cases ev : I (29 + A) B = v
        · rw [if_pos ev] at q
          have e81 : V 81 = I 81 := by
            funext j
            rw [v81]
            by_cases q1 : j = 8 * b + a
            · rw [if_pos q1, q1, ← sy, ← tAB, ev]
            · rw [if_neg q1]
              by_cases q2 : j = 8 * a + b
              · rw [if_pos q2, q2, ← tAB, ev]
              · rw [if_neg q2]
          rw [e81, e82, e83]
          exact (z4 H q).same (by rw [oV 16 (by decide), w16 5 (by decide)]) (fr 37 (by decide) (by omega) (by decide))
        · rw [if_neg ev, up_s] at q
          omega
      · rw [v81, v81]
        have := y4 i j i0 i1 j0 j1
        by_cases q1 : 8 * i + j = 8 * b + a
        · rw [if_pos q1, if_neg (show ¬ 8 * j + i = 8 * b + a by omega), if_pos (show 8 * j + i = 8 * a + b by omega)]
        · rw [if_neg q1]
          by_cases q2 : 8 * i + j = 8 * a + b
          · rw [if_pos q2, if_pos (show 8 * j + i = 8 * b + a by omega)]
          · rw [if_neg q2, if_neg (show ¬ 8 * j + i = 8 * b + a by omega), if_neg (show ¬ 8 * j + i = 8 * a + b by omega)]
            exact this
      · rw [oV 16 (by decide), eW']
        split
        · exact y6
        · rw [up_s]; decide
    · rw [fr 51 (by decide) (by omega) (by decide), fr 72 (by decide) (by omega) (by decide), fr 52 (by decide) (by omega) (by decide), fr 84 (by decide) (by omega) (by decide)]; exact hF
    · rw [fr 53 (by decide) (by omega) (by decide), fr 72 (by decide) (by omega) (by decide), fr 54 (by decide) (by omega) (by decide), fr 93 (by decide) (by omega) (by decide)]; exact hP
    · rw [fr 55 (by decide) (by omega) (by decide), fr 72 (by decide) (by omega) (by decide)]; exact hX
    · exact hRl.same (fun o x y => fr o (by omega) (by omega) (by omega)) (by rw [fr 72 (by decide) (by omega) (by decide)]) (by rw [fr 72 (by decide) (by omega) (by decide)]) (fr 86 (by decide) (by omega) (by decide)) (fr 87 (by decide) (by omega) (by decide)) (fr 88 (by decide) (by omega) (by decide))
    · exact hS.same (by rw [fr 0 (by decide) (by omega) (by decide)]) (by rw [fr 4 (by decide) (by omega) (by decide)]) (fr 6 (by decide) (by omega) (by decide)) (fr 7 (by decide) (by omega) (by decide)) (fr 8 (by decide) (by omega) (by decide)) (fr 9 (by decide) (by omega) (by decide)) (by rw [fr 51 (by decide) (by omega) (by decide)]) (fr 52 (by decide) (by omega) (by decide)) (fun o x y => fr o (by omega) (by omega) (by omega))
  · refine ⟨_, _, _, _, c_X12_tie G n I bk dr pt hn ha hb hv c8.1 c8.2, fun q => h ?_, rfl⟩
    unfold tiP at q ⊢
    omega
theorem q_site (hR : Rel I rs bk dr pt n) {x y : Int} (hx : rg x) (hy : rg y) : Pr G yX11_site cX11_site 4 yX12_site cX12_site 3 (some .int) [.int (jI x), .int (jI y)] n I (rst bk dr pt) := by
  obtain ⟨hT, hW, hB, hH, hY, hF, hP, hX, hRl, hS⟩ := id hR
  have hn := hS.n
  obtain ⟨⟨Z, z1, z2, z3, z4⟩, y2, y3, y4, y5, y6, y7⟩ := id hY
  obtain ⟨w1, w2, w3, w4, w5, w6⟩ := id z3
  refine ⟨2, 0, 0, _, by decide, by decide, by decide, c_X11_site G n I bk dr pt hn (Z := Z) hx hy z1 w1.2 (fun j p q => by rw [y2.1]; exact (y3 j p q).1) (fun j p q => by rw [y2.2]; exact (y3 j p q).2) (by rw [y2.1, y2.2]; exact w2), ?_⟩
  rintro v n' I' ρ' ⟨rfl, rfl, ⟨h, rfl, s1, s2, s3, s4, s5, s6, s7⟩ | ⟨h, rfl, rfl⟩⟩
  · have i0 : ∀ o, o ≠ 16 → o ≠ 17 → o ≠ 18 → o < 20 ∨ 27 < o → I' o = I o := s1
    have i72 := i0 72 (by decide) (by decide) (by decide) (by omega)
    have C := c_X12_site G n I' bk dr pt hn hx hy (by rw [i72, z2]; omega) (by rw [i72, z2]; omega)
    rw [i72, z2] at C
    refine ⟨by first | exact hn | decide, vI _, 1, _, by decide, C, ?_⟩
    rintro v' n'' V ρ'' ⟨rfl, rfl, ⟨g, rfl, eV⟩ | ⟨g, -⟩⟩
    · have oV : ∀ o, o ≠ 72 → o ≠ 82 → o ≠ 83 → V o = I' o := fun o p q r => by rw [← eV]; unfold siV; rw [up_o p, up_o r, up_o q]
      have fr : ∀ o, o ≠ 16 → o ≠ 17 → o ≠ 18 → o < 20 ∨ 27 < o → o ≠ 72 → o ≠ 82 → o ≠ 83 → V o = I o := fun o a b c d p q r => by rw [oV o p q r]; exact i0 o a b c d
      have f0 : ∀ o, o ≤ 15 ∨ (28 ≤ o ∧ o ≤ 71) ∨ (73 ≤ o ∧ o ≤ 81) ∨ 84 ≤ o → V o = I o := fun o q => fr o (by omega) (by omega) (by omega) (by omega) (by omega) (by omega) (by omega)
      have v72 : ∀ j, j ≠ 2 → V 72 j = I 72 j := fun j hj => by rw [← eV]; unfold siV; rw [up_i hj, up_o (by decide), up_o (by decide), i72]
      have v722 : V 72 2 = Z + 1 := by rw [← eV]; unfold siV; rw [up_s]
      have v82 : V 82 = I' 17 := by rw [← eV]; unfold siV; rw [up_o (by decide), up_o (by decide), up_fn, i0 82 (by decide) (by decide) (by decide) (by omega), s5, up_fn, y2.1]
      have v83 : V 83 = I' 18 := by rw [← eV]; unfold siV; rw [up_o (by decide), up_fn, up_o (by decide), i0 83 (by decide) (by decide) (by decide) (by omega), s6, up_fn, y2.2]
      have r17 : ∀ j, 0 ≤ j → j < 8 → 0 ≤ I' 17 j ∧ I' 17 j ≤ 20 := fun j p q => by
        rw [s5, up_fn]
        show 0 ≤ (if j = (Z : Int) then x else I 17 j) ∧ (if j = (Z : Int) then x else I 17 j) ≤ 20
        split
        · exact h.1
        · rw [y2.1]; exact (y3 j p q).1
      have r18 : ∀ j, 0 ≤ j → j < 8 → 0 ≤ I' 18 j ∧ I' 18 j ≤ 20 := fun j p q => by
        rw [s6, up_fn]
        show 0 ≤ (if j = (Z : Int) then y else I 18 j) ∧ (if j = (Z : Int) then y else I 18 j) ≤ 20
        split
        · exact h.2.1
        · rw [y2.2]; exact (y3 j p q).2
      refine ⟨rfl, rs, bk, dr, pt, rfl, ?_, ?_, ?_, ?_, ?_, ?_, ?_, ?_, ?_, ?_⟩
      · rw [f0 0 (by omega), v72 0 (by decide)]; exact hT
      · rw [f0 2 (by omega), f0 73 (by omega), f0 3 (by omega), f0 75 (by omega)]; exact hW
      · rw [f0 15 (by omega), f0 74 (by omega)]; exact hB
      · rw [f0 4 (by omega), v72 1 (by decide), f0 5 (by omega), f0 76 (by omega), f0 6 (by omega), f0 77 (by omega), f0 7 (by omega), f0 78 (by omega), f0 8 (by omega), f0 79 (by omega), f0 9 (by omega), f0 85 (by omega), f0 10 (by omega), f0 11 (by omega), f0 80 (by omega)]; exact hH
      · have e81 := f0 81 (by omega)
        have o16 : V 16 = I' 16 := oV 16 (by decide) (by decide) (by decide)
        refine ⟨⟨Z + 1, by omega, by rw [v722]; omega, ⟨⟨by omega, by rw [o16, s3]; omega⟩, fun s t p q r => ?_, fun i j p q r => ?_, ?_, fun s t p q r u => ?_, fun s t => nrM_sym _ _ s t⟩, fun H q => ?_⟩, ⟨by rw [v82, oV 17 (by decide) (by decide) (by decide)], by rw [v83, oV 18 (by decide) (by decide) (by decide)]⟩, by rw [v82, v83]; exact fun j p q => ⟨r17 j p q, r18 j p q⟩, by rw [e81]; exact y4, ⟨by rw [f0 39 (by omega)]; exact y5.1, by rw [f0 41 (by omega)]; exact y5.2⟩, by rw [o16, s4]; decide, by rw [f0 97 (by omega)]; exact y7⟩
        · rw [oV (20 + s) (by omega) (by omega) (by omega), v82, v83]; exact s7 s t p q r
        · rw [f0 (29 + i) (by omega), e81]; exact w3 i j p q r
        · rw [e81]; exact w4
        · rw [v82, v83]; exact nrM_rg r17 r18 p q r u
        · rw [o16, s4] at q
          omega
      · rw [f0 51 (by omega), v72 3 (by decide), f0 52 (by omega), f0 84 (by omega)]; exact hF
      · rw [f0 53 (by omega), v72 28 (by decide), f0 54 (by omega), f0 93 (by omega)]; exact hP
      · rw [f0 55 (by omega), v72 35 (by decide), v72 37 (by decide)]; exact hX
      · exact hRl.same (fun o x y => f0 o (by omega)) (v72 17 (by decide)) (v72 32 (by decide)) (f0 86 (by omega)) (f0 87 (by omega)) (f0 88 (by omega))
      · exact hS.same (by rw [f0 0 (by omega)]) (by rw [f0 4 (by omega)]) (f0 6 (by omega)) (f0 7 (by omega)) (f0 8 (by omega)) (f0 9 (by omega)) (by rw [f0 51 (by omega)]) (f0 52 (by omega)) (fun o x y => f0 o (by omega))
    · exact absurd (show (0 ≤ x ∧ x ≤ 20) ∧ (0 ≤ y ∧ y ≤ 20) ∧ (Z : Int) < 8 by omega) g
  · refine ⟨by first | exact hn | decide, vI _, 1, _, by decide, c_X12_site G n I bk dr pt hn hx hy (by rw [z2]; omega) (by rw [z2]; omega), ?_⟩
    rintro v' n'' V ρ'' ⟨rfl, rfl, ⟨g, -⟩ | ⟨g, rfl, rfl⟩⟩
    · rw [z2] at g
      exact absurd (show (0 ≤ x ∧ x ≤ 20) ∧ (0 ≤ y ∧ y ≤ 20) ∧ Z < 8 by omega) h
    · exact ⟨rfl, rs, bk, dr, pt, rfl, hR⟩
theorem q_rules (hR : Rel I rs bk dr pt n) : Pr G yX11_rules cX11_rules 3 yX12_rules cX12_rules 3 (some .int) [] n I (rst bk dr pt) := by
  obtain ⟨hT, hW, hB, hH, hY, hF, hP, hX, hRl, hS⟩ := id hR
  have hn := hS.n
  have hbk := hRl.1
  obtain ⟨p1, p2, p3, p4⟩ := id hP
  have hBk := hRl.ok (pt := pt) hn
  refine ⟨9, 0, 0, _, by decide, by decide, by decide, c_X11_rules G n I bk dr pt hBk.2 (by omega) (by omega) (fun j _ _ => by rw [p3]; exact p4 j), ?_⟩
  rintro v n' I' ρ' ⟨rfl, ⟨u1, u2, u3⟩, hc⟩
  have i0 : ∀ o, o ≠ 0 → o ≠ 53 → o < 55 ∨ (59 < o ∧ o < dr) ∨ dr + 4 < o → I' o = I o := u1
  have ih : ∀ o, 72 ≤ o → I' o = I o := fun o q => i0 o (by omega) (by omega) (by omega)
  obtain ⟨R, eR⟩ : ∃ R, R = rulesP 500 [] (toks (I 54) (I 53 0) 0) := ⟨_, rfl⟩
  rw [← eR] at hc
  have hmE : mE I' := by
    unfold mE
    rw [ih 72 (by decide), ih 93 (by decide)]
    exact ⟨p2, fun j _ _ => p4 j⟩
  have hvO : vOk I' := by
    have := hRl.2.2.2
    unfold vOk at this ⊢
    rw [ih 72 (by decide)]
    exact this
  have hmo : modI I' rs := modI_same hRl.2.2.1 (by rw [ih 72 (by decide)]) (ih 86 (by decide)) (ih 87 (by decide)) (ih 88 (by decide))
  have key : ∀ (bk' dr' : Nat), ((bk' = 60 ∧ dr' = 66) ∨ (bk' = 66 ∧ dr' = 60)) → Ct G yX12_rules cX12_rules 3 (some .int) 33 0 0 [.ref (gb G + 72)] n I' (rst bk' dr' pt) (fun v n' J ρ' => n = n' ∧ rst bk' dr' pt = ρ' ∧ mrOnly I' J ∧ J 72 28 = 0 ∧ vOk J ∧ mRul R rs v J) := fun bk' dr' _ => by
    have C := c_X12_rules G n I' bk' dr' pt hn hmE hvO hmo
    rw [ih 72 (by decide), ih 93 (by decide), ← p3, ← p1, ← eR] at C
    exact C
  -- what stays as it was
  have rest : ∀ (V : Iv) (rs' : RLs) (bk' dr' : Nat), mrOnly I' V → V 72 28 = 0 → jX (V 55 0) (V 72 35) (V 55 1) (V 72 37) → jR V rs' bk' dr' → jS V rs' pt n → Rel V rs' bk' dr' pt n := by
    intro V rs' bk' dr' m1 m2 hx hr hs
    have f0 : ∀ o, o ≠ 0 → o ≠ 53 → o < 55 ∨ (73 ≤ o ∧ o ≤ 85) ∨ 92 ≤ o → V o = I o := fun o a b c => by rw [m1.1 o (by omega) (by omega)]; exact i0 o a b (by omega)
    have v0 : ∀ j, j ≠ 11 → V 0 j = I 0 j := fun j hj => by rw [m1.1 0 (by decide) (by omega)]; exact u2 j hj
    have v72 : ∀ j, j < 17 ∨ (19 < j ∧ j < 28) → V 72 j = I 72 j := fun j hj => by rw [m1.2 j (by omega) (by omega), ih 72 (by decide)]
    have v53 : V 53 0 = 0 := by rw [m1.1 53 (by decide) (by omega)]; exact u3
    refine ⟨?_, ?_, ?_, ?_, ?_, ?_, ?_, hx, hr, hs⟩
    · rw [v0 0 (by decide), v72 0 (by omega)]; exact hT
    · rw [f0 2 (by decide) (by decide) (by omega), f0 73 (by decide) (by decide) (by omega), f0 3 (by decide) (by decide) (by omega), f0 75 (by decide) (by decide) (by omega)]; exact hW
    · rw [f0 15 (by decide) (by decide) (by omega), f0 74 (by decide) (by decide) (by omega)]; exact hB
    · rw [f0 4 (by decide) (by decide) (by omega), v72 1 (by omega), f0 5 (by decide) (by decide) (by omega), f0 76 (by decide) (by decide) (by omega), f0 6 (by decide) (by decide) (by omega), f0 77 (by decide) (by decide) (by omega), f0 7 (by decide) (by decide) (by omega), f0 78 (by decide) (by decide) (by omega), f0 8 (by decide) (by decide) (by omega), f0 79 (by decide) (by decide) (by omega), f0 9 (by decide) (by decide) (by omega), f0 85 (by decide) (by decide) (by omega), f0 10 (by decide) (by decide) (by omega), f0 11 (by decide) (by decide) (by omega), f0 80 (by decide) (by decide) (by omega)]; exact hH
    · exact hY.same (fun o x y => f0 o (by omega) (by omega) (by omega)) (v72 2 (by omega)) (f0 81 (by decide) (by decide) (by omega)) (f0 82 (by decide) (by decide) (by omega)) (f0 83 (by decide) (by decide) (by omega)) (by rw [f0 97 (by decide) (by decide) (by omega)])
    · rw [f0 51 (by decide) (by decide) (by omega), v72 3 (by omega), f0 52 (by decide) (by decide) (by omega), f0 84 (by decide) (by decide) (by omega)]; exact hF
    · rw [v53, m2, f0 54 (by decide) (by decide) (by omega), f0 93 (by decide) (by decide) (by omega)]
      exact ⟨rfl, by decide, p3, p4⟩
  cases R with
  | inl e =>
    obtain ⟨rfl, rfl, c1, c2, c3⟩ : v = some (.int (jI (-1))) ∧ rst bk dr pt = ρ' ∧ I' 55 0 = e.1 ∧ I' 55 1 = e.2 ∧ I' 0 11 = I 0 11 := hc
    refine ⟨by first | exact hn | decide, vI _, 33, _, by decide, key bk dr hbk, ?_⟩
    rintro v' n'' V ρ'' ⟨rfl, rfl, m1, m2, m3, hm⟩
    obtain ⟨rfl, d1, d2, d3⟩ : v' = some (.int (jI (-1))) ∧ V 72 35 = e.1 ∧ V 72 37 = e.2 ∧ modI V rs := hm
    have e55 : V 55 = I' 55 := m1.1 55 (by decide) (by omega)
    have fo : ∀ o, o ≠ 53 → o ≠ 0 → o < 55 ∨ (59 < o ∧ o < dr) ∨ (dr + 4 < o ∧ o < 72) ∨ 103 ≤ o → V o = I o := fun o a b c => by rw [m1.1 o (by omega) (by omega)]; exact i0 o b a (by omega)
    refine ⟨rfl, rs, bk, dr, pt, rfl, rest V rs bk dr m1 m2 ⟨by rw [e55, c1, d1], by rw [e55, c2, d2]⟩ ⟨hbk, hRl.2.1.same (by rw [fo bk (by omega) (by omega) (by omega)]) (fun o x y => fo o (by omega) (by omega) (by omega)), d3, m3⟩ ?_⟩
    exact hS.same (by rw [m1.1 0 (by decide) (by omega)]; exact c3) (by rw [fo 4 (by decide) (by decide) (by omega)]) (fo 6 (by decide) (by decide) (by omega)) (fo 7 (by decide) (by decide) (by omega)) (fo 8 (by decide) (by decide) (by omega)) (fo 9 (by decide) (by decide) (by omega)) (by rw [fo 51 (by decide) (by decide) (by omega)]) (fo 52 (by decide) (by decide) (by omega)) (fun o x y => fo o (by omega) (by omega) (by omega))
  | inr rs' =>
    obtain ⟨rfl, rfl, c1, c2, c3, c4⟩ : v = some (.int (jI (rs'.length : Int))) ∧ rst dr bk pt = ρ' ∧ I' 55 0 = 0 ∧ I' 55 1 = -1 ∧ bookI I' dr rs' ∧ I' 0 11 = 0 := hc
    refine ⟨by first | exact hn | decide, vI _, 33, _, by decide, key dr bk (by omega), ?_⟩
    rintro v' n'' V ρ'' ⟨rfl, rfl, m1, m2, m3, hm⟩
    obtain ⟨rfl, d1, d2, d3⟩ : v' = some (.int (jI (rs'.length : Int))) ∧ V 72 35 = 0 ∧ V 72 37 = -1 ∧ modI V rs' := hm
    have e55 : V 55 = I' 55 := m1.1 55 (by decide) (by omega)
    have fo : ∀ o, o < 72 → V o = I' o := fun o a => m1.1 o (by omega) (by omega)
    have f3 : ∀ o, 103 ≤ o → V o = I o := fun o a => by rw [m1.1 o (by omega) (by omega)]; exact ih o (by omega)
    refine ⟨rfl, rs', dr, bk, pt, rfl, rest V rs' dr bk m1 m2 ⟨by rw [e55, c1, d1], by rw [e55, c2, d2]⟩ ⟨by omega, c3.same (by rw [fo dr (by omega)]) (fun o x y => fo o (by omega)), d3, m3⟩ ?_⟩
    exact hS.zero (by rw [fo 0 (by decide)]; exact c4) (f3 105 (by decide)) (f3 107 (by decide))
theorem q_best (hR : Rel I rs bk dr pt n) {w : Int} (hw : rg w) : Pr G yX11_best cX11_best 3 yX12_best cX12_best 2 (some .int) [.int (jI w)] n I (rst bk dr pt) := by
  obtain ⟨hT, hW, hB, hH, hY, hF, hP, hX, hRl, hS⟩ := id hR
  have hn := hS.n
  obtain ⟨e1, c8, -⟩ := id hH
  obtain ⟨⟨Z, z1, z2, z3, z4⟩, y2, y3, y4, y5, y6, y7⟩ := id hY
  obtain ⟨H, eH⟩ : ∃ H : Nat, I 72 1 = H := ⟨(I 72 1).toNat, by omega⟩
  have hH8 : H ≤ 8 := by omega
  obtain ⟨b, eb⟩ : ∃ b, b = bestW (nrM (I 82) (I 83)) (tiM (I 81)) H Z := ⟨_, rfl⟩
  have C1 := c_X11_best G n I bk dr pt hn (H := H) (Z := Z) hw (by rw [e1]; exact eH) hH8 z3 y5.1 y5.2 y6 (fun q => z4 H q)
  rw [← eb] at C1
  have hbb : beP I w ↔ beM I w := by
    unfold beP beM
    rw [e1, z3.1.2, z2]
    omega
  refine ⟨22, 0, 0, _, by decide, by decide, by decide, C1, ?_⟩
  rintro v n' I' ρ' ⟨rfl, rfl, ⟨h, rfl, f1, f2, f3⟩ | ⟨h, rfl, rfl⟩⟩
  · have h' := h
    unfold beP at h'
    have i0 : ∀ o, o ≠ 16 → o ≠ 37 → o ≠ 38 → o < 42 ∨ 50 < o → I' o = I o := f1.1
    have ih : ∀ o, 72 ≤ o → I' o = I o := fun o q => i0 o (by omega) (by omega) (by omega) (by omega)
    have hHZ : H ≤ Z := by rw [z3.1.2, e1, eH] at h'; omega
    have Wk := z3.W hHZ
    have hbn : 0 ≤ b.1 := by rw [eb]; exact bestW_nn Wk
    -- held together behind the class's call
    have hR' : Rel I' rs bk dr pt n := by
      have f0 : ∀ o, o ≤ 15 ∨ (51 ≤ o) → I' o = I o := fun o q => i0 o (by omega) (by omega) (by omega) (by omega)
      refine ⟨?_, ?_, ?_, ?_, ?_, ?_, ?_, ?_, ?_, ?_⟩
      · rw [f0 0 (by omega), f0 72 (by omega)]; exact hT
      · rw [f0 2 (by omega), f0 73 (by omega), f0 3 (by omega), f0 75 (by omega)]; exact hW
      · rw [f0 15 (by omega), f0 74 (by omega)]; exact hB
      · rw [f0 4 (by omega), f0 72 (by omega), f0 5 (by omega), f0 76 (by omega), f0 6 (by omega), f0 77 (by omega), f0 7 (by omega), f0 78 (by omega), f0 8 (by omega), f0 79 (by omega), f0 9 (by omega), f0 85 (by omega), f0 10 (by omega), f0 11 (by omega), f0 80 (by omega)]; exact hH
      · unfold jY
        rw [ih 81 (by decide), ih 82 (by decide), ih 83 (by decide), ih 72 (by decide), ih 97 (by decide), i0 17 (by decide) (by decide) (by decide) (by omega), i0 18 (by decide) (by decide) (by decide) (by omega), i0 39 (by decide) (by decide) (by decide) (by omega), i0 41 (by decide) (by decide) (by decide) (by omega)]
        refine ⟨⟨Z, z1, z2, z3.same (f1.2 0 (by decide) (by decide) (by decide)) (fun o p q => i0 o (by omega) (by omega) (by omega) (by omega)), fun H' q => ?_⟩, y2, y3, y4, y5, by rw [f2]; omega, y7⟩
        have eHH : H' = H := by rw [f2] at q; omega
        rw [eHH, ← eb]
        exact f3
      · rw [f0 51 (by omega), f0 72 (by omega), f0 52 (by omega), f0 84 (by omega)]; exact hF
      · rw [f0 53 (by omega), f0 72 (by omega), f0 54 (by omega), f0 93 (by omega)]; exact hP
      · rw [f0 55 (by omega), f0 72 (by omega)]; exact hX
      · exact hRl.same (fun o x y => f0 o (by omega)) (by rw [f0 72 (by omega)]) (by rw [f0 72 (by omega)]) (f0 86 (by omega)) (f0 87 (by omega)) (f0 88 (by omega))
      · exact hS.same (by rw [f0 0 (by omega)]) (by rw [f0 4 (by omega)]) (f0 6 (by omega)) (f0 7 (by omega)) (f0 8 (by omega)) (f0 9 (by omega)) (by rw [f0 51 (by omega)]) (f0 52 (by omega)) (fun o x y => f0 o (by omega))
    have C2 := c_X12_best G n I' bk dr pt hn (H := H) (Z := Z) hw (by rw [ih 72 (by decide)]; exact eH) hH8 (by rw [ih 72 (by decide)]; exact z2) z1 (by rw [ih 82 (by decide)]; exact fun j p q => (y3 j p q).1) (by rw [ih 83 (by decide)]; exact fun j p q => (y3 j p q).2) (by rw [ih 81 (by decide), ih 82 (by decide), ih 83 (by decide)]; exact fun _ => Wk) (by rw [ih 97 (by decide)]; exact y7)
    rw [ih 81 (by decide), ih 82 (by decide), ih 83 (by decide), ← eb] at C2
    have hbm : beM I' w := by
      have := hbb.mp h
      unfold beM at this ⊢
      rw [ih 72 (by decide)]
      exact this
    refine ⟨by first | exact hn | decide, vI _, 3, _, by decide, C2, ?_⟩
    rintro v' n'' V ρ'' ⟨rfl, rfl, ⟨-, g0, rfl, rfl⟩ | ⟨-, g0, rfl, m1, m2, m3⟩ | ⟨g0, -, -⟩⟩
    · have hw0 : w = 0 := by
        have := hbm
        unfold beM at this
        rw [ih 72 (by decide), eH] at this
        omega
      have eb0 : b = (0, []) := by
        rw [eb, g0]
        rfl
      refine ⟨?_, rs, bk, dr, pt, rfl, hR'⟩
      rw [if_pos hw0, f3.1, eb0]
    · refine ⟨?_, rs, bk, dr, pt, rfl, hR'.mm (fun o q => m1.1 o (by omega) (by omega) (by omega) (by omega)) (fun j x _ _ => m1.2 j x) (by rw [m2, ih 97 (by decide)]; exact y7.symm)⟩
      by_cases hw0 : w = 0
      · rw [if_pos hw0, if_pos hw0, m3.1, f3.1]
      · rw [if_neg hw0, if_neg hw0]
        have g1 : b.2.length = H ∧ holdS (I' 37) b.2 := by rcases f3.2 with q | q; exact absurd q (by omega); exact q
        have g2 : b.2.length = H ∧ holdS (V 96) b.2 := by rcases m3.2 with q | q; exact absurd q (by omega); exact q
        have hb9 := hbm
        unfold beM at hb9
        rw [ih 72 (by decide), eH] at hb9
        rw [holdS_eq b.2 g2.2 g1.2 (w - 10) (by omega) (by rw [g1.1]; omega)]
    · exact absurd hbm g0
  · refine ⟨by first | exact hn | decide, vI _, 3, _, by decide, c_X12_best G n I bk dr pt hn (H := H) (Z := Z) hw eH hH8 z2 z1 (fun j p q => (y3 j p q).1) (fun j p q => (y3 j p q).2) (fun q => z3.W q) y7, ?_⟩
    rintro v' n'' V ρ'' ⟨rfl, rfl, ⟨g0, -⟩ | ⟨g0, -⟩ | ⟨g0, rfl, rfl⟩⟩
    · exact absurd (hbb.mpr g0) h
    · exact absurd (hbb.mpr g0) h
    · exact ⟨rfl, rs, bk, dr, pt, rfl, hR⟩
theorem q_part (hR : Rel I rs bk dr pt n) {a : Int} (ha : rg a) : Pr G yX11_part cX11_part 4 yX12_part cX12_part 2 (some .int) [.int (jI a)] n I (rst bk dr pt) := by
  obtain ⟨hT, hW, hB, hH, hY, hF, hP, hX, hRl, hS⟩ := id hR
  have hn := hS.n
  have hbk := hRl.1
  obtain ⟨e1, c8, ⟨e5, e6, e7, e8, e9⟩, h1, h2⟩ := id hH
  obtain ⟨p1, p2, p3, p4⟩ := id hF
  obtain ⟨H, eH⟩ : ∃ H : Nat, I 72 1 = H := ⟨(I 72 1).toNat, by omega⟩
  obtain ⟨F, eF⟩ : ∃ F : Nat, I 72 3 = F := ⟨(I 72 3).toNat, by omega⟩
  obtain ⟨al, hal⟩ : ∃ al : Nat, 2 ^ F = al + 1 := ⟨2 ^ F - 1, by have := Nat.two_pow_pos F; omega⟩
  have hf : ∀ j, 0 ≤ j → j < 8 → rg (I 6 j) ∧ rg (I 7 j) ∧ rg (I 8 j) ∧ rg (I 9 j) := fun j p q => by
    rw [e6, e7, e8, e9]
    have := h1 j p q
    unfold jh1 at this
    omega
  refine ⟨7, 6, 10263, _, by decide, by decide, by decide, c_X11_part G n I bk dr pt ha (H := H) (F := F) (al := al) (hRl.ok hn).1 hRl.2.1 (by omega) hal (by omega) (by rw [p1]; exact eF) (by rw [e1]; exact eH) (by rw [p3]; exact fun i hi => p4 i (by omega)) hf hS, ?_⟩
  have ws : ∀ i : Nat, i < F → 1 ≤ I 84 i ∧ I 84 i ≤ 999 := fun i hi => p4 i (by omega)
  have hfx : ∀ h : Int, 0 ≤ h → h < 8 → rg (I 77 h) ∧ rg (I 78 h) ∧ rg (I 79 h) ∧ (I 85 h = 0 ∨ I 85 h = 1) := fun j p q => by
    have := h1 j p q
    unfold jh1 at this
    omega
  have efx : ∀ h : Int, fxM I h = fxH I h := fun h => by
    unfold fxM fxH
    rw [e6, e7, e8, e9]
  rintro v n' I' ρ' (⟨h, rfl, rfl, rfl, ⟨u1, u2, u3, u4, u5, u6⟩, hc⟩ | ⟨h, rfl, rfl, rfl, rfl⟩)
  · have ih : ∀ o, 72 ≤ o → o < 103 → I' o = I o := fun o q r => u1 o (by omega) (by omega) (by omega) (by omega) r
    have f0 : ∀ o, o ≠ 0 → o ≠ 13 → o < 60 ∨ (72 ≤ o ∧ o < 103) → I' o = I o := fun o a b c => u1 o a b (by omega) (by omega) (by omega)
    have i72 := ih 72 (by decide) (by decide)
    have hR' : Rel I' rs bk dr (some 103) 109 := by
      refine ⟨?_, ?_, ?_, ?_, ?_, ?_, ?_, ?_, ?_, ?_⟩
      · rw [u2 0 (by decide), i72]; exact hT
      · rw [f0 2 (by decide) (by decide) (by omega), f0 73 (by decide) (by decide) (by omega), f0 3 (by decide) (by decide) (by omega), f0 75 (by decide) (by decide) (by omega)]; exact hW
      · rw [f0 15 (by decide) (by decide) (by omega), f0 74 (by decide) (by decide) (by omega)]; exact hB
      · rw [f0 4 (by decide) (by decide) (by omega), i72, f0 5 (by decide) (by decide) (by omega), f0 76 (by decide) (by decide) (by omega), f0 6 (by decide) (by decide) (by omega), f0 77 (by decide) (by decide) (by omega), f0 7 (by decide) (by decide) (by omega), f0 78 (by decide) (by decide) (by omega), f0 8 (by decide) (by decide) (by omega), f0 79 (by decide) (by decide) (by omega), f0 9 (by decide) (by decide) (by omega), f0 85 (by decide) (by decide) (by omega), f0 10 (by decide) (by decide) (by omega), f0 11 (by decide) (by decide) (by omega), f0 80 (by decide) (by decide) (by omega)]; exact hH
      · exact hY.same (fun o x y => f0 o (by omega) (by omega) (by omega)) (by rw [i72]) (f0 81 (by decide) (by decide) (by omega)) (f0 82 (by decide) (by decide) (by omega)) (f0 83 (by decide) (by decide) (by omega)) (by rw [f0 97 (by decide) (by decide) (by omega)])
      · rw [f0 51 (by decide) (by decide) (by omega), i72, f0 52 (by decide) (by decide) (by omega), f0 84 (by decide) (by decide) (by omega)]; exact hF
      · rw [f0 53 (by decide) (by decide) (by omega), i72, f0 54 (by decide) (by decide) (by omega), f0 93 (by decide) (by decide) (by omega)]; exact hP
      · rw [f0 55 (by decide) (by decide) (by omega), i72]; exact hX
      · obtain ⟨a, b, c, d⟩ := id hRl
        refine ⟨a, b.same (u3 0 (by decide)) (fun o x y => u1 o (by omega) (by omega) (by omega) (by omega) (by omega)), modI_same c (by rw [i72]) (ih 86 (by decide) (by decide)) (ih 87 (by decide) (by decide)) (ih 88 (by decide) (by decide)), ?_⟩
        unfold vOk at d ⊢
        rw [i72]
        exact d
      · refine Or.inr ⟨rfl, rfl, u5, u6, Or.inr ⟨u4, fun H' F' al' q1 q2 q3 => ?_⟩⟩
        rw [f0 4 (by decide) (by decide) (by omega), e1, eH] at q1
        rw [f0 51 (by decide) (by decide) (by omega), p1, eF] at q2
        have a1 : H' = H := by omega
        have a2 : F' = F := by omega
        rw [a2, hal] at q3
        have a3 : al' = al := by omega
        have ed : duC I' rs = duC I rs := by
          unfold duC fxH
          rw [f0 6 (by decide) (by decide) (by omega), f0 7 (by decide) (by decide) (by omega), f0 8 (by decide) (by decide) (by omega), f0 9 (by decide) (by decide) (by omega)]
        rw [a1, a2, a3, f0 52 (by decide) (by decide) (by omega), ed]
        have es : stC I' rs H F al = stC I rs H F al := by
          unfold stC
          rw [ed, f0 52 (by decide) (by decide) (by omega)]
        rw [es]
        exact hc
    have C := c_X12_part G 109 I' bk dr (some 103) (by decide) (H := H) (F := F) (al := al) ha hR'.2.2.2.2.2.2.2.2.1.2.2.1 (by omega) hal (by omega) (by rw [i72]; exact eF) (by rw [i72]; exact eH) (by rw [ih 84 (by decide) (by decide)]; exact ws) (by rw [ih 77 (by decide) (by decide), ih 78 (by decide) (by decide), ih 79 (by decide) (by decide), ih 85 (by decide) (by decide)]; exact hfx)
    refine ⟨by first | exact hn | decide, vI _, 5, _, by decide, C, ?_⟩
    have eD : (fun h => dueS (fxM I' h) rs) = duC I rs := by
      funext h
      show dueS (fxM I' h) rs = dueS (fxH I h) rs
      rw [← efx h]
      unfold fxM
      rw [ih 77 (by decide) (by decide), ih 78 (by decide) (by decide), ih 79 (by decide) (by decide), ih 85 (by decide) (by decide)]
    rintro v' n'' V ρ'' ⟨rfl, rfl, ⟨g, rfl, m1, m2⟩ | ⟨g, -⟩⟩
    · refine ⟨?_, rs, bk, dr, some 103, rfl, hR'.mm (fun o q => m1 o (by omega) (by omega) (by omega) (by omega) (by omega) (by omega) (by omega)) (fun j _ x y => m2 j x y) (by rw [m1 97 (by decide) (by decide) (by decide) (by decide) (by decide) (by decide) (by decide)])⟩
      rw [eD, ih 84 (by decide) (by decide), ← p3]
      rfl
    · rw [i72] at g
      exact absurd (show (0 ≤ a ∧ a ≤ 2) ∨ (10 ≤ a ∧ a ≤ 9 + I 72 1) by omega) g
  · refine ⟨by first | exact hn | decide, vI _, 5, _, by decide, c_X12_part G n I bk dr pt hn (H := H) (F := F) (al := al) ha hRl.2.2.1 (by omega) hal (by omega) eF eH ws hfx, ?_⟩
    rintro v' n'' V ρ'' ⟨rfl, rfl, ⟨g, -⟩ | ⟨g, rfl, rfl⟩⟩
    · exact absurd (show (0 ≤ a ∧ a ≤ 2) ∨ (10 ≤ a ∧ a ≤ 9 + I 4 0) by omega) h
    · exact ⟨rfl, rs, bk, dr, pt, rfl, hR⟩
end
