/-! ===== calls on both sides: tie, site, look, of, months ===== -/
theorem Rel.mm {I J : Iv} {rs : RLs} {bk dr n : Nat} {pt : Option Nat} (hR : Rel I rs bk dr pt n) (ho : ∀ o, o < 72 ∨ (73 ≤ o ∧ o ≤ 91) ∨ o = 93 ∨ 103 ≤ o → J o = I o) (h72 : ∀ j : Int, j ≠ 42 → j ≠ 48 → j ≠ 49 → J 72 j = I 72 j) (h97 : J 97 0 = I 97 0) : Rel J rs bk dr pt n := by
  obtain ⟨hT, hW, hB, hH, hY, hF, hP, hX, hRl, hS⟩ := hR
  have e72 : ∀ j : Int, j < 42 → J 72 j = I 72 j := fun j hj => h72 j (by omega) (by omega) (by omega)
  refine ⟨?_, ?_, ?_, ?_, ?_, ?_, ?_, ?_, ?_, ?_⟩
  · rw [ho 0 (by omega), e72 0 (by decide)]; exact hT
  · rw [ho 2 (by omega), ho 73 (by omega), ho 3 (by omega), ho 75 (by omega)]; exact hW
  · rw [ho 15 (by omega), ho 74 (by omega)]; exact hB
  · rw [ho 4 (by omega), e72 1 (by decide), ho 5 (by omega), ho 76 (by omega), ho 6 (by omega), ho 77 (by omega), ho 7 (by omega), ho 78 (by omega), ho 8 (by omega), ho 79 (by omega), ho 9 (by omega), ho 85 (by omega), ho 10 (by omega), ho 11 (by omega), ho 80 (by omega)]; exact hH
  · exact hY.same (fun o x y => ho o (by omega)) (e72 2 (by decide)) (ho 81 (by omega)) (ho 82 (by omega)) (ho 83 (by omega)) h97
  · rw [ho 51 (by omega), e72 3 (by decide), ho 52 (by omega), ho 84 (by omega)]; exact hF
  · rw [ho 53 (by omega), e72 28 (by decide), ho 54 (by omega), ho 93 (by omega)]; exact hP
  · rw [ho 55 (by omega), e72 35 (by decide), e72 37 (by decide)]; exact hX
  · exact hRl.same (fun o x y => ho o (by omega)) (e72 17 (by decide)) (e72 32 (by decide)) (ho 86 (by omega)) (ho 87 (by omega)) (ho 88 (by omega))
  · exact hS.same (by rw [ho 0 (by omega)]) (by rw [ho 4 (by omega)]) (ho 6 (by omega)) (ho 7 (by omega)) (ho 8 (by omega)) (ho 9 (by omega)) (by rw [ho 51 (by omega)]) (ho 52 (by omega)) (fun o x y => ho o (by omega))
theorem jh2.pl {c : Int} {hs rd bt : Int → Int} (h : jh2 c hs rd bt) {j : Int} (j0 : 0 ≤ j) (j1 : j < c) : plan0 rd hs j = bt j := by
  show (if rd j = 0 then -1 else hs j) = bt j
  rcases h.1 j j0 j1 with ⟨a, b⟩ | ⟨a, b, -⟩
  · rw [if_pos a, b]
  · rw [if_neg (by omega), b]
theorem wl_eq {I : Iv} {rs : RLs} {bk dr n : Nat} {pt : Option Nat} (hR : Rel I rs bk dr pt n) {j : Int} (j0 : 0 ≤ j) (j1 : j < I 72 1) : wlC I j = wlM I j := by
  obtain ⟨hT, hW, hB, hH, -⟩ := hR
  obtain ⟨e1, c8, ⟨e5, -⟩, -, h2⟩ := hH
  unfold wlC wlM
  rw [hT.1, e1, hW.1, hW.2.1, hB.1, e5]
  exact plF_congr (fun _ _ _ => rfl) _ _ (fun _ _ _ => rfl) (fun h a b => h2.pl a (by omega)) j j0 (by omega)
theorem wlC_kept {I : Iv} {j : Int} (h : I 11 j = 1) (h2 : 0 ≤ I 10 j) : wlC I j = I 10 j := by
  have e : plan0 (I 11) (I 10) j = I 10 j := by
    show (if I 11 j = 0 then -1 else I 10 j) = _
    rw [if_neg (by omega)]
  unfold wlC
  rw [plF_kept _ _ _ (by rw [e]; omega), e]
theorem Rel.plP {I : Iv} {rs : RLs} {bk dr n : Nat} {pt : Option Nat} (hR : Rel I rs bk dr pt n) : plP I := by
  obtain ⟨hT, hW, hB, hH, -⟩ := hR
  obtain ⟨e1, c8, ⟨e5, -⟩, h1, h2⟩ := hH
  refine ⟨by rw [hT.1]; exact hT.2, by rw [e1]; exact c8, ?_, ?_, ?_, ?_, ?_, ?_⟩
  · rw [hW.1]; exact fun j p q => by have := hW.2.2.1 j p q; omega
  · rw [hW.2.1]; exact fun j p q => by have := hW.2.2.2 j p q; omega
  · rw [e1, e5]; exact fun j p q => (h1 j p (by omega)).1
  · rw [e1]; exact h2.2.2
  · rw [e1]; exact fun j p q => by rcases h2.1 j p q with h | h; exact Or.inl h.1; exact Or.inr h.1
  · rw [hB.1]; exact hB.2
theorem Rel.plM {I : Iv} {rs : RLs} {bk dr n : Nat} {pt : Option Nat} (hR : Rel I rs bk dr pt n) : plM I := by
  obtain ⟨hT, hW, hB, hH, -⟩ := hR
  obtain ⟨e1, c8, -, h1, h2⟩ := hH
  exact ⟨hT.2, c8, fun j p q => by have := hW.2.2.1 j p q; omega, fun j p q => by have := hW.2.2.2 j p q; omega, fun j p q => (h1 j p (by omega)).1, fun j p q => (h1 j p (by omega)).2.2.2.2.2, hB.2⟩
theorem plM.same {I J : Iv} (h : plM I) (ho : ∀ o, 72 ≤ o → o ≤ 80 → J o = I o) : plM J := by
  unfold plM at h ⊢
  rw [ho 72 (by decide) (by decide), ho 73 (by decide) (by decide), ho 74 (by decide) (by decide), ho 75 (by decide) (by decide), ho 76 (by decide) (by decide), ho 80 (by decide) (by decide)]
  exact h
theorem Rel.slk {I J : Iv} {rs : RLs} {bk dr n : Nat} {pt : Option Nat} (hR : Rel I rs bk dr pt n) (h : slk bk I J) : Rel J rs bk dr pt n := by
  have hpl := hR.plP
  obtain ⟨hT, hW, hB, hH, hY, hF, hP, hX, hRl, hS⟩ := hR
  have hbk := hRl.1
  have ho : ∀ o, o ≠ 10 → o ≠ 12 → o ≠ 13 → o ≠ bk → o ≠ bk + 5 → J o = I o := h.1
  have h0 : ∀ o, o < 10 ∨ o = 11 ∨ (14 ≤ o ∧ o < 60) ∨ 72 ≤ o → J o = I o := fun o q => ho o (by omega) (by omega) (by omega) (by omega) (by omega)
  refine ⟨?_, ?_, ?_, ?_, ?_, ?_, ?_, ?_, ?_, ?_⟩
  · rw [h0 0 (by omega), h0 72 (by omega)]; exact hT
  · rw [h0 2 (by omega), h0 73 (by omega), h0 3 (by omega), h0 75 (by omega)]; exact hW
  · rw [h0 15 (by omega), h0 74 (by omega)]; exact hB
  · rw [h0 4 (by omega), h0 72 (by omega), h0 5 (by omega), h0 76 (by omega), h0 6 (by omega), h0 77 (by omega), h0 7 (by omega), h0 78 (by omega), h0 8 (by omega), h0 79 (by omega), h0 9 (by omega), h0 85 (by omega), h0 11 (by omega), h0 80 (by omega)]
    obtain ⟨e1, c8, e5, h1, h2⟩ := hH
    refine ⟨e1, c8, e5, h1, ?_⟩
    rcases h.2.2 with q | q
    · rw [q]; exact h2
    · refine ⟨fun j p r => ?_, h2.2.1, fun j p r => by rw [q j p (by omega)]; exact wlC_rg hpl p (by omega)⟩
      rcases h2.1 j p r with a | ⟨a, b, c⟩
      · exact Or.inl a
      · have ek := wlC_kept (I := I) a c
        rw [q j p (by omega), ek]
        exact Or.inr ⟨a, b, c⟩
  · exact hY.same (fun o x y => h0 o (by omega)) (by rw [h0 72 (by omega)]) (h0 81 (by omega)) (h0 82 (by omega)) (h0 83 (by omega)) (by rw [h0 97 (by omega)])
  · rw [h0 51 (by omega), h0 72 (by omega), h0 52 (by omega), h0 84 (by omega)]; exact hF
  · rw [h0 53 (by omega), h0 72 (by omega), h0 54 (by omega), h0 93 (by omega)]; exact hP
  · rw [h0 55 (by omega), h0 72 (by omega)]; exact hX
  · obtain ⟨a, b, c, d⟩ := hRl
    refine ⟨a, b.same (h.2.1 0 (by decide)) (fun o x y => ho o (by omega) (by omega) (by omega) (by omega) (by omega)), modI_same c (by rw [h0 72 (by omega)]) (h0 86 (by omega)) (h0 87 (by omega)) (h0 88 (by omega)), ?_⟩
    unfold vOk at d ⊢
    rw [h0 72 (by omega)]
    exact d
  · exact hS.same (by rw [h0 0 (by omega)]) (by rw [h0 4 (by omega)]) (h0 6 (by omega)) (h0 7 (by omega)) (h0 8 (by omega)) (h0 9 (by omega)) (by rw [h0 51 (by omega)]) (h0 52 (by omega)) (fun o x y => h0 o (by omega))
section
variable {G : GE} {n : Nat} {I : Iv} {bk dr : Nat} {pt : Option Nat} {rs : RLs}
theorem q_look (hR : Rel I rs bk dr pt n) {a : Int} (ha : rg a) : Pr G yX11_look cX11_look 2 yX12_look cX12_look 4 (some .int) [.int (jI a)] n I (rst bk dr pt) := by
  obtain ⟨hT, hW, hB, hH, hY, hF, hP, hX, hRl, hS⟩ := id hR
  have hn := hS.n
  have hbk := hRl.1
  refine ⟨4, 0, 0, _, by decide, by decide, by decide, c_X11_look G n I bk dr pt (hRl.ok hn).1 ha hR.plP, ?_⟩
  rintro v n' I' ρ' ⟨rfl, rfl, rfl, hs⟩
  have h0 : ∀ o, 72 ≤ o → I' o = I o := fun o q => hs.1 o (by omega) (by omega) (by omega) (by omega) (by omega)
  refine ⟨by first | exact hn | decide, vI _, 3, _, by decide, c_X12_look G n I' bk dr pt hn ha (hR.plM.same (fun o x y => h0 o (by omega))), ?_⟩
  rintro v' n'' V ρ'' ⟨rfl, rfl, rfl, g⟩
  refine ⟨?_, rs, bk, dr, pt, rfl, (hR.slk hs).mm (fun o q => g o (by omega)) (fun j _ _ _ => by rw [g 72 (by decide)]) (by rw [g 97 (by decide)])⟩
  have e1 : lkM I' a = lkM I a := by
    unfold lkM wlM
    rw [h0 72 (by decide), h0 73 (by decide), h0 74 (by decide), h0 75 (by decide), h0 76 (by decide), h0 80 (by decide)]
  have e2 : lkM I a = lkC bk I a := by
    unfold lkM lkC
    rw [hT.1, hH.1, hF.1]
    obtain ⟨Z, z1, z2, z3, z4⟩ := hY.1
    rw [show I 16 0 = I 72 2 by rw [z3.1.2, z2], show I bk 0 = I 72 17 by rw [hRl.2.1.1, hRl.2.2.1.1]]
    have s5 : sumF (fun h => b2 (¬ I 80 h = -1)) (I 72 1).toNat = sumF (fun h => b2 (¬ I 11 h = 0)) (I 72 1).toNat := sumF_congr _ (fun h p q => by
      show b2 (¬ I 80 h = -1) = b2 (¬ I 11 h = 0)
      rcases hH.2.2.2.2.1 h p (by omega) with ⟨x, y⟩ | ⟨x, y, w⟩
      · rw [b2_f (fun t => t y), b2_f (fun t => t x)]
      · rw [b2_t (by omega), b2_t (by omega)])
    have s6 : sumF (fun h => b2 (lateP (drF (I 73) (I 75) (I 76) h) (wlM I h))) (I 72 1).toNat = sumF (fun h => b2 (lateP (drF (I 2) (I 3) (I 5) h) (wlC I h))) (I 72 1).toNat := sumF_congr _ (fun h p q => by
      show b2 (lateP (drF (I 73) (I 75) (I 76) h) (wlM I h)) = b2 (lateP (drF (I 2) (I 3) (I 5) h) (wlC I h))
      rw [wl_eq hR p (by omega), hW.1, hW.2.1, hH.2.2.1.1])
    rw [s5, s6]
  rw [e1, e2]
theorem q_of (hR : Rel I rs bk dr pt n) {a w : Int} (ha : rg a) (hw : rg w) : Pr G yX11_of cX11_of 3 yX12_of cX12_of 3 (some .int) [.int (jI a), .int (jI w)] n I (rst bk dr pt) := by
  obtain ⟨hT, hW, hB, hH, hY, hF, hP, hX, hRl, hS⟩ := id hR
  have hn := hS.n
  have hbk := hRl.1
  obtain ⟨e1, c8, ⟨e5, e6, e7, e8, e9⟩, h1, h2⟩ := id hH
  refine ⟨6, 0, 0, _, by decide, by decide, by decide, c_X11_of G n I bk dr pt (hRl.ok hn).1 hRl.2.1 ha hw hR.plP (fun j p q => ?_), ?_⟩
  · rw [e6, e7, e8, e9]
    have := h1 j p q
    unfold jh1 at this
    omega
  rintro v n' I' ρ' ⟨rfl, rfl, rfl, hs⟩
  have h0 : ∀ o, 72 ≤ o → I' o = I o := fun o q => hs.1 o (by omega) (by omega) (by omega) (by omega) (by omega)
  have hm : modI I' rs := modI_same hRl.2.2.1 (by rw [h0 72 (by decide)]) (h0 86 (by decide)) (h0 87 (by decide)) (h0 88 (by decide))
  refine ⟨by first | exact hn | decide, vI _, 4, _, by decide, c_X12_of G n I' bk dr pt hn hm ha hw (hR.plM.same (fun o x y => h0 o (by omega))) (fun j p q => ?_), ?_⟩
  · rw [h0 77 (by decide), h0 78 (by decide), h0 79 (by decide), h0 85 (by decide)]
    have := h1 j p q
    unfold jh1 at this
    omega
  rintro v' n'' V ρ'' ⟨rfl, rfl, rfl, g⟩
  refine ⟨?_, rs, bk, dr, pt, rfl, (hR.slk hs).mm (fun o q => g o (by omega) (by omega)) (fun j _ _ _ => by rw [g 72 (by decide) (by decide)]) (by rw [g 97 (by decide) (by decide)])⟩
  rw [h0 72 (by decide), e1]
  by_cases hin : 0 ≤ a ∧ a < I 72 1
  · rw [if_pos hin, if_pos hin]
    have f1 : ofM I' rs a w = ofM I rs a w := by
      unfold ofM wlM fxM
      rw [h0 72 (by decide), h0 73 (by decide), h0 74 (by decide), h0 75 (by decide), h0 76 (by decide), h0 80 (by decide), h0 77 (by decide), h0 78 (by decide), h0 79 (by decide), h0 85 (by decide)]
    have f2 : ofM I rs a w = ofC I rs a w := by
      have ew := wl_eq hR hin.1 hin.2
      unfold ofM ofC
      rw [ew]
      unfold fxM fxH
      rw [hW.1, hW.2.1, e5, e6, e7, e8, e9]
    rw [f1, f2]
  · rw [if_neg hin, if_neg hin]
theorem q_months (hR : Rel I rs bk dr pt n) {a : Int} (ha : rg a) : Pr G yX11_months cX11_months 2 yX12_months cX12_months 3 (some .int) [.int (jI a)] n I (rst bk dr pt) := by
  obtain ⟨hT, hW, hB, hH, hY, hF, hP, hX, hRl, hS⟩ := id hR
  have hn := hS.n
  obtain ⟨e1, c8, ee, h1, h2⟩ := id hH
  refine ⟨4, 0, 0, _, by decide, by decide, by decide, c_X11_months G n I bk dr pt hn ha hR.plP, ?_⟩
  rintro v n' I' ρ' ⟨rfl, rfl, ⟨h, rfl, m1, m2, m3, m4, m5, m6⟩ | ⟨h, rfl, rfl⟩⟩
  · have h0 : ∀ o, 72 ≤ o → I' o = I o := fun o q => m1 o (by omega) (by omega) (by omega) (by omega)
    have i72 := h0 72 (by decide)
    refine ⟨by first | exact hn | decide, vI _, 3, _, by decide, c_X12_months G n I' bk dr pt hn ha (hR.plM.same (fun o x y => h0 o (by omega))), ?_⟩
    have ew : wlM I' = wlM I := by
      unfold wlM
      rw [h0 72 (by decide), h0 73 (by decide), h0 74 (by decide), h0 75 (by decide), h0 76 (by decide), h0 80 (by decide)]
    have t1 := hT.1
    rintro v' n'' V ρ'' ⟨rfl, rfl, ⟨g, rfl, g1, g2, g3, g4, g5⟩ | ⟨g, rfl, rfl⟩⟩
    · rw [i72] at g2 g3 g4 g5
      rw [h0 80 (by decide), ew] at g4
      rw [h0 80 (by decide)] at g5
      refine ⟨by rw [i72, t1], rs, bk, dr, pt, rfl, ?_⟩
      have fr : ∀ o, o ≠ 0 → o ≠ 10 → o ≠ 11 → o ≠ 12 → o ≠ 72 → o ≠ 80 → o ≠ 94 → V o = I o := fun o x0 x1 x2 x3 x4 x5 x6 => by rw [g1 o x4 x5 x6]; exact m1 o x0 x1 x2 x3
      have f0 : ∀ o, (1 ≤ o ∧ o ≤ 9) ∨ (13 ≤ o ∧ o ≤ 71) ∨ (73 ≤ o ∧ o ≤ 79) ∨ (81 ≤ o ∧ o ≤ 93) ∨ 95 ≤ o → V o = I o := fun o q => fr o (by omega) (by omega) (by omega) (by omega) (by omega) (by omega) (by omega)
      have v0 : V 0 = I' 0 := g1 0 (by decide) (by decide) (by decide)
      have v10 : V 10 = I' 10 := g1 10 (by decide) (by decide) (by decide)
      have v11 : V 11 = I' 11 := g1 11 (by decide) (by decide) (by decide)
      refine ⟨?_, ?_, ?_, ?_, ?_, ?_, ?_, ?_, ?_, ?_⟩
      · rw [v0, m3, g3]
        have t2 := hT.2
        exact ⟨by omega, by omega, by omega⟩
      · rw [f0 2 (by omega), f0 73 (by omega), f0 3 (by omega), f0 75 (by omega)]; exact hW
      · rw [f0 15 (by omega), f0 74 (by omega)]; exact hB
      · rw [f0 4 (by omega), g2 1 (by decide), f0 5 (by omega), f0 76 (by omega), f0 6 (by omega), f0 77 (by omega), f0 7 (by omega), f0 78 (by omega), f0 8 (by omega), f0 79 (by omega), f0 9 (by omega), f0 85 (by omega), v10, v11]
        have wr : ∀ j, 0 ≤ j → j < I 72 1 → -1 ≤ wlM I j ∧ wlM I j ≤ 35 := fun j p q => wlM_rg hR.plM p q
        refine ⟨e1, c8, ee, fun j p q => ?_, fun j p q => ?_, fun j p => ?_, fun j p q => ?_⟩
        · have hj := h1 j p q
          refine ⟨hj.1, hj.2.1, hj.2.2.1, hj.2.2.2.1, hj.2.2.2.2.1, ?_⟩
          by_cases c : j < I 72 1
          · rw [g4 j p c]
            have := wr j p c
            have := hj.2.2.2.2.2
            split <;> omega
          · rw [g5 j (by omega)]
            exact hj.2.2.2.2.2
        · have ej := wl_eq hR p q
          rw [m5 j p (by omega), g4 j p q, m4 j p (by omega), ej, t1]
          have wj := wr j p q
          by_cases c : ¬ wlM I j = -1 ∧ wlM I j < I 72 0 + a
          · rw [if_pos c, if_pos c]
            exact Or.inr ⟨rfl, rfl, by omega⟩
          · rw [if_neg c, if_neg c]
            rcases h2.1 j p q with x | ⟨x, y, w⟩
            · exact Or.inl x
            · have ek := wlC_kept (I := I) x w
              rw [← ej, ek]
              exact Or.inr ⟨x, y, w⟩
        · rw [m6 j (by omega)]
          exact h2.2.1 j p
        · rw [m4 j p (by omega), wl_eq hR p q]
          exact wr j p q
      · exact hY.same (fun o x y => f0 o (by omega)) (g2 2 (by decide)) (f0 81 (by omega)) (f0 82 (by omega)) (f0 83 (by omega)) (by rw [f0 97 (by omega)])
      · rw [f0 51 (by omega), g2 3 (by decide), f0 52 (by omega), f0 84 (by omega)]; exact hF
      · rw [f0 53 (by omega), g2 28 (by decide), f0 54 (by omega), f0 93 (by omega)]; exact hP
      · rw [f0 55 (by omega), g2 35 (by decide), g2 37 (by decide)]; exact hX
      · exact hRl.same (fun o x y => f0 o (by omega)) (g2 17 (by decide)) (g2 32 (by decide)) (f0 86 (by omega)) (f0 87 (by omega)) (f0 88 (by omega))
      · exact hS.same (by rw [v0]; exact m2 11 (by decide)) (by rw [f0 4 (by omega)]) (f0 6 (by omega)) (f0 7 (by omega)) (f0 8 (by omega)) (f0 9 (by omega)) (by rw [f0 51 (by omega)]) (f0 52 (by omega)) (fun o x y => f0 o (by omega))
    · rw [i72] at g
      exact absurd (show (1 ≤ a ∧ a ≤ 12) ∧ I 72 0 + a < 36 by omega) g
  · refine ⟨by first | exact hn | decide, vI _, 3, _, by decide, c_X12_months G n I bk dr pt hn ha hR.plM, ?_⟩
    have t1 := hT.1
    rintro v' n'' V ρ'' ⟨rfl, rfl, ⟨g, -⟩ | ⟨g, rfl, rfl⟩⟩
    · exact absurd (show (1 ≤ a ∧ a ≤ 12) ∧ I 0 0 + a < 36 by omega) h
    · exact ⟨rfl, rs, bk, dr, pt, rfl, hR⟩
end
