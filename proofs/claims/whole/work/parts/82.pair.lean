/-! ===== calls on both sides: the smaller ones ===== -/
section
variable {G : GE} {n : Nat} {I : Iv} {bk dr : Nat} {pt : Option Nat} {rs : RLs}
theorem q_water (hR : Rel I rs bk dr pt n) {a l : Int} (ha : rg a) (hl : rg l) : Pr G yX11_water cX11_water 3 yX12_water cX12_water 3 (some .boolean) [.int (jI a), .int (jI l)] n I (rst bk dr pt) := by
  obtain ⟨hT, hW, hB, hH, hY, hF, hP, hX, hRl, hS⟩ := id hR
  have hn := hS.n
  have t1 := hT.1
  have t2 := hT.2
  refine Pr_two (d := 2) (d' := 1) (by decide) (by decide) (c_X11_water G n I bk dr pt hn ha hl (by omega)) ⟨rs, bk, dr, pt, rfl, hR⟩ (fun h => ?_) (fun h => ?_)
  · refine ⟨_, _, _, _, c_X12_water G n (up I 2 a l) bk dr pt hn ha hl t2.1 t2.2, ⟨⟨by show I 72 0 ≤ a; omega, h.2.1.2⟩, h.2.2⟩, rfl, rs, bk, dr, pt, rfl, hT, ?_, hB, hH, ?_, hF, hP, hX, ?_, ?_⟩
    · refine ⟨?_, hW.2.1, fun j p q => ?_, hW.2.2.2⟩
      · show up I 2 a l 2 = up (up I 2 a l) 73 a l 73
        rw [up_fn, up_fn, up_o (by decide), hW.1]
      · show 0 ≤ up (up I 2 a l) 73 a l 73 j ∧ up (up I 2 a l) 73 a l 73 j ≤ 99
        by_cases e : j = a
        · rw [e, up_s]; exact h.2.2
        · rw [up_i e]; exact hW.2.2.1 j p q
    · exact hY.same (fun o p q => by rw [up_o (by omega), up_o (by omega)]) rfl rfl rfl rfl rfl
    · exact hRl.same (fun o p q => by rw [up_o (by omega), up_o (by omega)]) rfl rfl rfl rfl rfl
    · exact hS.same rfl rfl rfl rfl rfl rfl rfl rfl (fun o p q => by rw [up_o (by omega), up_o (by omega)])
  · exact ⟨_, _, _, _, c_X12_water G n I bk dr pt hn ha hl t2.1 t2.2, fun q => h (by omega), rfl⟩
theorem q_builders (hR : Rel I rs bk dr pt n) {a l : Int} (ha : rg a) (hl : rg l) : Pr G yX11_builders cX11_builders 3 yX12_builders cX12_builders 3 (some .boolean) [.int (jI a), .int (jI l)] n I (rst bk dr pt) := by
  obtain ⟨hT, hW, hB, hH, hY, hF, hP, hX, hRl, hS⟩ := id hR
  have hn := hS.n
  have t1 := hT.1
  have t2 := hT.2
  refine Pr_two (d := 2) (d' := 1) (by decide) (by decide) (c_X11_builders G n I bk dr pt hn ha hl (by omega)) ⟨rs, bk, dr, pt, rfl, hR⟩ (fun h => ?_) (fun h => ?_)
  · refine ⟨_, _, _, _, c_X12_builders G n (up I 15 a l) bk dr pt hn ha hl t2.1 t2.2, ⟨⟨by show I 72 0 ≤ a; omega, h.2.1.2⟩, h.2.2⟩, rfl, rs, bk, dr, pt, rfl, hT, hW, ?_, hH, ?_, hF, hP, hX, ?_, ?_⟩
    · refine ⟨?_, fun j p q => ?_⟩
      · show up I 15 a l 15 = up (up I 15 a l) 74 a l 74
        rw [up_fn, up_fn, up_o (by decide), hB.1]
      · show 0 ≤ up (up I 15 a l) 74 a l 74 j ∧ up (up I 15 a l) 74 a l 74 j ≤ 8
        by_cases e : j = a
        · rw [e, up_s]; exact h.2.2
        · rw [up_i e]; exact hB.2 j p q
    · exact hY.same (fun o p q => by rw [up_o (by omega), up_o (by omega)]) rfl rfl rfl rfl rfl
    · exact hRl.same (fun o p q => by rw [up_o (by omega), up_o (by omega)]) rfl rfl rfl rfl rfl
    · exact hS.same rfl rfl rfl rfl rfl rfl rfl rfl (fun o p q => by rw [up_o (by omega), up_o (by omega)])
  · exact ⟨_, _, _, _, c_X12_builders G n I bk dr pt hn ha hl t2.1 t2.2, fun q => h (by omega), rfl⟩
theorem q_village (hR : Rel I rs bk dr pt n) {a l : Int} (ha : rg a) (hl : rg l) : Pr G yX11_village cX11_village 3 yX12_village cX12_village 3 (some .boolean) [.int (jI a), .int (jI l)] n I (rst bk dr pt) := by
  obtain ⟨hT, hW, hB, hH, hY, hF, hP, hX, hRl, hS⟩ := id hR
  have hn := hS.n
  refine Pr_two (d := 2) (d' := 2) (by decide) (by decide) (c_X11_village G n I bk dr pt hn ha hl) ⟨rs, bk, dr, pt, rfl, hR⟩ (fun h => ?_) (fun h => ?_)
  · refine ⟨_, _, _, _, c_X12_village G n (up I 3 a l) bk dr pt hn ha hl, h, rfl, rs, bk, dr, pt, rfl, hT, ?_, hB, hH, ?_, hF, hP, hX, ?_, ?_⟩
    · refine ⟨hW.1, ?_, hW.2.2.1, fun j p q => ?_⟩
      · show up I 3 a l 3 = up (up I 3 a l) 75 a l 75
        rw [up_fn, up_fn, up_o (by decide), hW.2.1]
      · show 0 ≤ up (up I 3 a l) 75 a l 75 j ∧ up (up I 3 a l) 75 a l 75 j ≤ 99
        by_cases e : j = a
        · rw [e, up_s]; exact h.2
        · rw [up_i e]; exact hW.2.2.2 j p q
    · exact hY.same (fun o p q => by rw [up_o (by omega), up_o (by omega)]) rfl rfl rfl rfl rfl
    · exact hRl.same (fun o p q => by rw [up_o (by omega), up_o (by omega)]) rfl rfl rfl rfl rfl
    · exact hS.same rfl rfl rfl rfl rfl rfl rfl rfl (fun o p q => by rw [up_o (by omega), up_o (by omega)])
  · exact ⟨_, _, _, _, c_X12_village G n I bk dr pt hn ha hl, h, rfl⟩
theorem q_drowned (hR : Rel I rs bk dr pt n) {a : Int} (ha : rg a) : Pr G yX11_drowned cX11_drowned 2 yX12_drowned cX12_drowned 2 (some .int) [.int (jI a)] n I (rst bk dr pt) := by
  obtain ⟨hT, hW, hB, hH, hY, hF, hP, hX, hRl, hS⟩ := id hR
  have hn := hS.n
  have r1 : ∀ j, 0 ≤ j → j < 36 → rg (I 73 j) := fun j p q => by have := hW.2.2.1 j p q; omega
  have r2 : ∀ j, 0 ≤ j → j < 4 → rg (I 75 j) := fun j p q => by have := hW.2.2.2 j p q; omega
  exact Pr_pi (d := 2) (d' := 2) (by decide) (by decide) (c_X11_drowned G n I bk dr pt hn ha (by rw [hW.1]; exact r1) (by rw [hW.2.1]; exact r2)) (c_X12_drowned G n I bk dr pt hn ha r1 r2) (by rw [hW.1, hW.2.1]) ⟨rs, bk, dr, pt, rfl, hR⟩
theorem q_fault (hR : Rel I rs bk dr pt n) {a : Int} (ha : rg a) : Pr G yX11_fault cX11_fault 2 yX12_fault cX12_fault 2 (some .int) [.int (jI a)] n I (rst bk dr pt) := by
  obtain ⟨hT, hW, hB, hH, hY, hF, hP, hX, hRl, hS⟩ := id hR
  have hn := hS.n
  exact Pr_pi (d := 0) (d' := 0) (by decide) (by decide) (c_X11_fault G n I bk dr pt hn ha) (c_X12_fault G n I bk dr pt hn ha) (by rw [hX.1, hX.2]) ⟨rs, bk, dr, pt, rfl, hR⟩
theorem q_end (hR : Rel I rs bk dr pt n) {a : Int} (ha : rg a) : Pr G yX11_end cX11_end 2 yX12_end cX12_end 2 (some .boolean) [.int (jI a)] n I (rst bk dr pt) := by
  obtain ⟨hT, hW, hB, hH, hY, hF, hP, hX, hRl, hS⟩ := id hR
  have hn := hS.n
  have p1 := hP.1
  have p2 := hP.2.1
  refine Pr_two (d := 1) (d' := 1) (by decide) (by decide) (c_X11_end G n I bk dr pt hn ha (by omega)) ⟨rs, bk, dr, pt, rfl, hR⟩ (fun h => ?_) (fun h => ?_)
  · refine ⟨_, _, _, _, c_X12_end G n (up I 53 0 a) bk dr pt hn ha (show rg (I 72 28) by omega), (show 0 ≤ a ∧ a ≤ I 72 28 by omega), rfl, rs, bk, dr, pt, rfl, hT, hW, hB, hH, ?_, hF, ?_, hX, ?_, ?_⟩
    · exact hY.same (fun o p q => by rw [up_o (by omega), up_o (by omega)]) rfl rfl rfl rfl rfl
    · exact ⟨rfl, (show 0 ≤ a ∧ a ≤ 400 by omega), hP.2.2.1, hP.2.2.2⟩
    · exact hRl.same (fun o p q => by rw [up_o (by omega), up_o (by omega)]) rfl rfl rfl rfl rfl
    · exact hS.same rfl rfl rfl rfl rfl rfl rfl rfl (fun o p q => by rw [up_o (by omega), up_o (by omega)])
  · exact ⟨_, _, _, _, c_X12_end G n I bk dr pt hn ha (show rg (I 72 28) by omega), (show ¬ (0 ≤ a ∧ a ≤ I 72 28) by omega), rfl⟩
theorem q_field (hR : Rel I rs bk dr pt n) {a : Int} (ha : rg a) : Pr G yX11_field cX11_field 2 yX12_field cX12_field 2 (some .int) [.int (jI a)] n I (rst bk dr pt) := by
  obtain ⟨hT, hW, hB, hH, hY, hF, hP, hX, hRl, hS⟩ := id hR
  have hn := hS.n
  have p1 := hF.1
  have p2 := hF.2.1
  refine Pr_two (d := 2) (d' := 1) (by decide) (by decide) (c_X11_field G n I bk dr pt hn ha (by omega) (by omega)) ⟨rs, bk, dr, pt, rfl, hR⟩ (fun h => ?_) (fun h => ?_)
  · refine ⟨_, _, _, _, c_X12_field G n (up (up (up I 0 11 0) 52 (I 51 0) a) 51 0 (I 51 0 + 1)) bk dr pt hn ha (show 0 ≤ I 72 3 by omega) (show I 72 3 ≤ 10 by omega), ⟨h.1, show I 72 3 < 10 by omega⟩, (show I 72 3 = I 51 0 by omega), rs, bk, dr, pt, rfl, hT, hW, hB, hH, ?_, ?_, hP, hX, ?_, ?_⟩
    · exact hY.same (fun o p q => by rw [up_o (by omega), up_o (by omega), up_o (by omega), up_o (by omega), up_o (by omega)]) rfl rfl rfl rfl rfl
    · refine ⟨(show I 51 0 + 1 = I 72 3 + 1 by omega), (show 0 ≤ I 72 3 + 1 ∧ I 72 3 + 1 ≤ 10 by omega), ?_, fun i hi => ?_⟩
      · show up (up (up (up (up I 0 11 0) 52 (I 51 0) a) 51 0 (I 51 0 + 1)) 84 (I 72 3) a) 72 3 (I 72 3 + 1) 52 = up (up (up (up (up I 0 11 0) 52 (I 51 0) a) 51 0 (I 51 0 + 1)) 84 (I 72 3) a) 72 3 (I 72 3 + 1) 84
        rw [up_o (by decide), up_o (by decide), up_o (by decide), up_fn, up_o (by decide), up_o (by decide), up_fn, up_o (by decide), up_o (by decide), up_o (by decide), hF.2.2.1, p1]
      · have hi' : (i : Int) < I 72 3 + 1 := hi
        show 1 ≤ up (up (up (up (up I 0 11 0) 52 (I 51 0) a) 51 0 (I 51 0 + 1)) 84 (I 72 3) a) 72 3 (I 72 3 + 1) 84 i ∧ up (up (up (up (up I 0 11 0) 52 (I 51 0) a) 51 0 (I 51 0 + 1)) 84 (I 72 3) a) 72 3 (I 72 3 + 1) 84 i ≤ 999
        rw [up_o (by decide)]
        by_cases e : (i : Int) = I 72 3
        · rw [e, up_s]; exact h.1
        · rw [up_i e]; exact hF.2.2.2 i (by omega)
    · exact hRl.same (fun o p q => by rw [up_o (by omega), up_o (by omega), up_o (by omega), up_o (by omega), up_o (by omega)]) rfl rfl rfl rfl rfl
    · exact hS.zero rfl rfl rfl
  · exact ⟨_, _, _, _, c_X12_field G n I bk dr pt hn ha (show 0 ≤ I 72 3 by omega) (show I 72 3 ≤ 10 by omega), fun q => h ⟨q.1, by omega⟩, rfl⟩
theorem q_papers (hR : Rel I rs bk dr pt n) {a : Int} (ha : rg a) : Pr G yX11_papers cX11_papers 3 yX12_papers cX12_papers 2 (some .boolean) [.int (jI a)] n I (rst bk dr pt) := by
  obtain ⟨hT, hW, hB, hH, hY, hF, hP, hX, hRl, hS⟩ := id hR
  have hn := hS.n
  obtain ⟨e1, c8, ⟨e5, e6, e7, e8, e9⟩, h1, h2⟩ := id hH
  have q85 : ∀ j, 0 ≤ j → j < 8 → I 85 j = 0 ∨ I 85 j = 1 := fun j p q => (h1 j p q).2.2.2.2.1
  have q9 : ∀ j, 0 ≤ j → j < I 4 0 → rg (I 9 j) := fun j p q => by rw [e9]; have := q85 j p (by omega); omega
  refine Pr_two (d := 2) (d' := 2) (by decide) (by decide) (c_X11_papers G n I bk dr pt hn ha (by omega) (by omega) q9) ⟨rs, bk, dr, pt, rfl, hR⟩ (fun h => ?_) (fun h => ?_)
  · refine ⟨_, _, _, _, c_X12_papers G n (up (up I 9 a 1) 0 11 0) bk dr pt hn ha c8.1 c8.2 q85, ⟨(show 0 ≤ a ∧ a < I 72 1 by omega), (show ¬ I 85 a = 1 by rw [← e9]; exact h.2)⟩, rfl, rs, bk, dr, pt, rfl, hT, hW, hB, ?_, ?_, hF, hP, hX, ?_, ?_⟩
    · refine ⟨e1, c8, ⟨e5, e6, e7, e8, ?_⟩, fun j p q => ?_, h2⟩
      · show up (up (up I 9 a 1) 0 11 0) 85 a 1 9 = up (up (up I 9 a 1) 0 11 0) 85 a 1 85
        rw [up_o (by decide), up_o (by decide), up_fn, up_fn, up_o (by decide), up_o (by decide), e9]
      · have hj := h1 j p q
        refine ⟨hj.1, hj.2.1, hj.2.2.1, hj.2.2.2.1, ?_, hj.2.2.2.2.2⟩
        show up (up (up I 9 a 1) 0 11 0) 85 a 1 85 j = 0 ∨ up (up (up I 9 a 1) 0 11 0) 85 a 1 85 j = 1
        by_cases e : j = a
        · rw [e, up_s]; exact Or.inr rfl
        · rw [up_i e]; exact hj.2.2.2.2.1
    · exact hY.same (fun o p q => by rw [up_o (by omega), up_o (by omega), up_o (by omega)]) rfl rfl rfl rfl rfl
    · exact hRl.same (fun o p q => by rw [up_o (by omega), up_o (by omega), up_o (by omega)]) rfl rfl rfl rfl rfl
    · exact hS.zero rfl rfl rfl
  · exact ⟨_, _, _, _, c_X12_papers G n I bk dr pt hn ha c8.1 c8.2 q85, fun q => h ⟨by omega, by rw [e9]; exact q.2⟩, rfl⟩
theorem q_household (hR : Rel I rs bk dr pt n) {a b c d p : Int} (ha : rg a) (hb : rg b) (hc : rg c) (hd : rg d) (hp : p = 0 ∨ p = 1) : Pr G yX11_household cX11_household 7 yX12_household cX12_household 7 (some .int) [.int (jI a), .int (jI b), .int (jI c), .int (jI d), .int (jI p)] n I (rst bk dr pt) := by
  obtain ⟨hT, hW, hB, hH, hY, hF, hP, hX, hRl, hS⟩ := id hR
  have hn := hS.n
  obtain ⟨e1, c8, ⟨e5, e6, e7, e8, e9⟩, h1, h2⟩ := id hH
  refine Pr_two (d := 2) (d' := 2) (by decide) (by decide) (c_X11_household G n I bk dr pt hn ha hb hc hd hp (by omega) (by omega)) ⟨rs, bk, dr, pt, rfl, hR⟩ (fun h => ?_) (fun h => ?_)
  · obtain ⟨W, eW⟩ : ∃ W, W = hhW I (I 4 0) a b c d p := ⟨_, rfl⟩
    have oW : ∀ o, o ≠ 0 → o ≠ 4 → o ≠ 5 → o ≠ 6 → o ≠ 7 → o ≠ 8 → o ≠ 9 → o ≠ 10 → W o = I o := fun o x0 x4 x5 x6 x7 x8 x9 x10 => by rw [eW]; unfold hhW; rw [up_o x4, up_o x10, up_o x9, up_o x8, up_o x7, up_o x6, up_o x5, up_o x0]
    have w72 : W 72 = I 72 := oW 72 (by decide) (by decide) (by decide) (by decide) (by decide) (by decide) (by decide) (by decide)
    obtain ⟨V, eV⟩ : ∃ V, V = hhV W (I 72 1) a b c d p := ⟨_, rfl⟩
    have oV : ∀ o, o ≠ 72 → o ≠ 76 → o ≠ 77 → o ≠ 78 → o ≠ 79 → o ≠ 80 → o ≠ 85 → V o = W o := fun o x0 x4 x5 x6 x7 x8 x9 => by rw [eV]; unfold hhV; rw [up_o x8, up_o x9, up_o x7, up_o x6, up_o x5, up_o x4, up_o x0]
    have fr : ∀ o, (11 ≤ o ∧ o ≤ 71) ∨ o = 2 ∨ o = 3 ∨ o = 1 ∨ (73 ≤ o ∧ o ≤ 75) ∨ (81 ≤ o ∧ o ≤ 84) ∨ 86 ≤ o → V o = I o := fun o q => by rw [oV o (by omega) (by omega) (by omega) (by omega) (by omega) (by omega) (by omega)]; exact oW o (by omega) (by omega) (by omega) (by omega) (by omega) (by omega) (by omega) (by omega)
    have f72 : ∀ j, j ≠ 1 → V 72 j = I 72 j := fun j hj => by rw [eV]; unfold hhV; rw [up_o (by decide), up_o (by decide), up_o (by decide), up_o (by decide), up_o (by decide), up_o (by decide), up_i hj, w72]
    have v721 : V 72 1 = I 72 1 + 1 := by rw [eV]; unfold hhV; rw [up_o (by decide), up_o (by decide), up_o (by decide), up_o (by decide), up_o (by decide), up_o (by decide), up_s]
    have v40 : V 4 0 = I 4 0 + 1 := by rw [oV 4 (by decide) (by decide) (by decide) (by decide) (by decide) (by decide) (by decide), eW]; unfold hhW; rw [up_s]
    have v0 : ∀ j, V 0 j = if j = 11 then 0 else I 0 j := fun j => by
      rw [oV 0 (by decide) (by decide) (by decide) (by decide) (by decide) (by decide) (by decide), eW]
      unfold hhW
      rw [up_o (by decide), up_o (by decide), up_o (by decide), up_o (by decide), up_o (by decide), up_o (by decide), up_o (by decide), up_fn]
    have v5 : V 5 = ud (I 5) (I 4 0) a := by rw [oV 5 (by decide) (by decide) (by decide) (by decide) (by decide) (by decide) (by decide), eW]; unfold hhW; rw [up_o (by decide), up_o (by decide), up_o (by decide), up_o (by decide), up_o (by decide), up_o (by decide), up_ud, up_o (by decide)]
    have v6 : V 6 = ud (I 6) (I 4 0) b := by rw [oV 6 (by decide) (by decide) (by decide) (by decide) (by decide) (by decide) (by decide), eW]; unfold hhW; rw [up_o (by decide), up_o (by decide), up_o (by decide), up_o (by decide), up_o (by decide), up_ud, up_o (by decide), up_o (by decide)]
    have v7 : V 7 = ud (I 7) (I 4 0) c := by rw [oV 7 (by decide) (by decide) (by decide) (by decide) (by decide) (by decide) (by decide), eW]; unfold hhW; rw [up_o (by decide), up_o (by decide), up_o (by decide), up_o (by decide), up_ud, up_o (by decide), up_o (by decide), up_o (by decide)]
    have v8 : V 8 = ud (I 8) (I 4 0) d := by rw [oV 8 (by decide) (by decide) (by decide) (by decide) (by decide) (by decide) (by decide), eW]; unfold hhW; rw [up_o (by decide), up_o (by decide), up_o (by decide), up_ud, up_o (by decide), up_o (by decide), up_o (by decide), up_o (by decide)]
    have v9 : V 9 = ud (I 9) (I 4 0) p := by rw [oV 9 (by decide) (by decide) (by decide) (by decide) (by decide) (by decide) (by decide), eW]; unfold hhW; rw [up_o (by decide), up_o (by decide), up_ud, up_o (by decide), up_o (by decide), up_o (by decide), up_o (by decide), up_o (by decide)]
    have v10 : V 10 = ud (I 10) (I 4 0) (-1) := by rw [oV 10 (by decide) (by decide) (by decide) (by decide) (by decide) (by decide) (by decide), eW]; unfold hhW; rw [up_o (by decide), up_ud, up_o (by decide), up_o (by decide), up_o (by decide), up_o (by decide), up_o (by decide), up_o (by decide)]
    have wo : ∀ o, 76 ≤ o → o ≤ 85 → W o = I o := fun o x y => oW o (by omega) (by omega) (by omega) (by omega) (by omega) (by omega) (by omega) (by omega)
    have v76 : V 76 = ud (I 76) (I 72 1) a := by rw [eV]; unfold hhV; rw [up_o (by decide), up_o (by decide), up_o (by decide), up_o (by decide), up_o (by decide), up_ud, up_o (by decide), wo 76 (by decide) (by decide)]
    have v77 : V 77 = ud (I 77) (I 72 1) b := by rw [eV]; unfold hhV; rw [up_o (by decide), up_o (by decide), up_o (by decide), up_o (by decide), up_ud, up_o (by decide), up_o (by decide), wo 77 (by decide) (by decide)]
    have v78 : V 78 = ud (I 78) (I 72 1) c := by rw [eV]; unfold hhV; rw [up_o (by decide), up_o (by decide), up_o (by decide), up_ud, up_o (by decide), up_o (by decide), up_o (by decide), wo 78 (by decide) (by decide)]
    have v79 : V 79 = ud (I 79) (I 72 1) d := by rw [eV]; unfold hhV; rw [up_o (by decide), up_o (by decide), up_ud, up_o (by decide), up_o (by decide), up_o (by decide), up_o (by decide), wo 79 (by decide) (by decide)]
    have v85 : V 85 = ud (I 85) (I 72 1) p := by rw [eV]; unfold hhV; rw [up_o (by decide), up_ud, up_o (by decide), up_o (by decide), up_o (by decide), up_o (by decide), up_o (by decide), wo 85 (by decide) (by decide)]
    have v80 : V 80 = ud (I 80) (I 72 1) (-1) := by rw [eV]; unfold hhV; rw [up_ud, up_o (by decide), up_o (by decide), up_o (by decide), up_o (by decide), up_o (by decide), up_o (by decide), wo 80 (by decide) (by decide)]
    have C := c_X12_household G n W bk dr pt hn ha hb hc hd hp (by rw [w72]; exact c8.1) (by rw [w72]; exact c8.2)
    rw [w72, ← eV] at C
    rw [← eW]
    have h' := h
    unfold hhP at h'
    refine ⟨_, _, _, _, C, (show hhP a b c d (I 72 1) by unfold hhP; omega), e1.symm, rs, bk, dr, pt, rfl, ?_, ?_, ?_, ?_, ?_, ?_, ?_, ?_, ?_, ?_⟩
    · rw [v0, f72 0 (by decide), if_neg (by decide)]; exact hT
    · rw [fr 2 (by omega), fr 73 (by omega), fr 3 (by omega), fr 75 (by omega)]; exact hW
    · rw [fr 15 (by omega), fr 74 (by omega)]; exact hB
    · rw [v40, v721, v5, v6, v7, v8, v9, v10, v76, v77, v78, v79, v80, v85, fr 11 (by omega), e1, e5, e6, e7, e8, e9]
      refine ⟨rfl, by omega, ⟨rfl, rfl, rfl, rfl, rfl⟩, fun j x y => ?_, fun j x y => ?_, fun j x => h2.2.1 j (by omega), fun j x y => ?_⟩
      · unfold ud
        by_cases e : j = I 72 1
        · rw [if_pos e, if_pos e, if_pos e, if_pos e, if_pos e, if_pos e]
          unfold jh1
          omega
        · rw [if_neg e, if_neg e, if_neg e, if_neg e, if_neg e, if_neg e]
          exact h1 j x y
      · unfold ud
        by_cases e : j = I 72 1
        · rw [if_pos e, if_pos e, h2.2.1 j (by omega)]
          exact Or.inl ⟨rfl, rfl⟩
        · rw [if_neg e, if_neg e]
          exact h2.1 j x (by omega)
      · unfold ud
        by_cases e : j = I 72 1
        · rw [if_pos e]; decide
        · rw [if_neg e]
          exact h2.2.2 j x (by omega)
    · exact hY.same (fun o x y => fr o (by omega)) (f72 2 (by decide)) (fr 81 (by omega)) (fr 82 (by omega)) (fr 83 (by omega)) (by rw [fr 97 (by omega)])
    · rw [fr 51 (by omega), f72 3 (by decide), fr 52 (by omega), fr 84 (by omega)]; exact hF
    · rw [fr 53 (by omega), f72 28 (by decide), fr 54 (by omega), fr 93 (by omega)]; exact hP
    · rw [fr 55 (by omega), f72 35 (by decide), f72 37 (by decide)]; exact hX
    · exact hRl.same (fun o x y => fr o (by omega)) (f72 17 (by decide)) (f72 32 (by decide)) (fr 86 (by omega)) (fr 87 (by omega)) (fr 88 (by omega))
    · exact hS.zero (by rw [v0, if_pos rfl]) (fr 105 (by omega)) (fr 107 (by omega))
  · refine ⟨_, _, _, _, c_X12_household G n I bk dr pt hn ha hb hc hd hp c8.1 c8.2, fun q => h ?_, rfl⟩
    unfold hhP at q ⊢
    omega
theorem q_feed (hR : Rel I rs bk dr pt n) {a b c d e : Int} : Pr G yX11_feed cX11_feed 6 yX12_feed cX12_feed 8 (some .int) [.int (jI a), .int (jI b), .int (jI c), .int (jI d), .int (jI e)] n I (rst bk dr pt) := by
  obtain ⟨hT, hW, hB, hH, hY, hF, hP, hX, hRl, hS⟩ := id hR
  have hn := hS.n
  obtain ⟨p1, p2, p3, p4⟩ := id hP
  refine ⟨1, 0, 0, _, by decide, by decide, by decide, c_X11_feed G n I bk dr pt hn (a := a) (b := b) (c := c) (d := d) (e := e) (by omega) (by omega), ?_⟩
  rintro v n' I' ρ' ⟨rfl, rfl, ⟨h1, rfl, rfl⟩ | ⟨h1, rfl, h2, h3, h4⟩⟩
  · refine ⟨by first | exact hn | decide, vI _, 0, _, by decide, c_X12_feed G n I bk dr pt hn (a := a) (b := b) (c := c) (d := d) (e := e) p2.1 p2.2, ?_⟩
    rintro v' n'' I'' ρ'' ⟨rfl, rfl, ⟨g1, rfl, rfl⟩ | ⟨g1, -⟩⟩
    · exact ⟨rfl, rs, bk, dr, pt, rfl, hR⟩
    · exact absurd g1 (by omega)
  · have i72 : I' 72 = I 72 := h2 72 (by decide) (by decide)
    have i93 : I' 93 = I 93 := h2 93 (by decide) (by decide)
    refine ⟨by first | exact hn | decide, vI _, 0, _, by decide, c_X12_feed G n I' bk dr pt hn (a := a) (b := b) (c := c) (d := d) (e := e) (by rw [i72]; exact p2.1) (by rw [i72]; exact p2.2), ?_⟩
    rintro v' n'' V ρ'' ⟨rfl, rfl, ⟨g1, -, -⟩ | ⟨g1, rfl, g2, g3, g4, g5⟩⟩
    · rw [i72] at g1
      exact absurd g1 (by omega)
    · rw [i72] at g3 g4 g5 ⊢
      rw [i93] at g5
      have fr : ∀ o, o ≠ 53 → o ≠ 54 → o ≠ 72 → o ≠ 93 → V o = I o := fun o x y z w => by rw [g2 o z w]; exact h2 o x y
      refine ⟨by rw [p1], rs, bk, dr, pt, rfl, ?_, ?_, ?_, ?_, ?_, ?_, ?_, ?_, ?_, ?_⟩
      · rw [fr 0 (by decide) (by decide) (by decide) (by decide), g3 0 (by decide)]; exact hT
      · rw [fr 2 (by decide) (by decide) (by decide) (by decide), fr 73 (by decide) (by decide) (by decide) (by decide), fr 3 (by decide) (by decide) (by decide) (by decide), fr 75 (by decide) (by decide) (by decide) (by decide)]; exact hW
      · rw [fr 15 (by decide) (by decide) (by decide) (by decide), fr 74 (by decide) (by decide) (by decide) (by decide)]; exact hB
      · rw [fr 4 (by decide) (by decide) (by decide) (by decide), g3 1 (by decide), fr 5 (by decide) (by decide) (by decide) (by decide), fr 76 (by decide) (by decide) (by decide) (by decide), fr 6 (by decide) (by decide) (by decide) (by decide), fr 77 (by decide) (by decide) (by decide) (by decide), fr 7 (by decide) (by decide) (by decide) (by decide), fr 78 (by decide) (by decide) (by decide) (by decide), fr 8 (by decide) (by decide) (by decide) (by decide), fr 79 (by decide) (by decide) (by decide) (by decide), fr 9 (by decide) (by decide) (by decide) (by decide), fr 85 (by decide) (by decide) (by decide) (by decide), fr 10 (by decide) (by decide) (by decide) (by decide), fr 11 (by decide) (by decide) (by decide) (by decide), fr 80 (by decide) (by decide) (by decide) (by decide)]; exact hH
      · exact hY.same (fun o x y => fr o (by omega) (by omega) (by omega) (by omega)) (g3 2 (by decide)) (fr 81 (by decide) (by decide) (by decide) (by decide)) (fr 82 (by decide) (by decide) (by decide) (by decide)) (fr 83 (by decide) (by decide) (by decide) (by decide)) (by rw [fr 97 (by decide) (by decide) (by decide) (by decide)])
      · rw [fr 51 (by decide) (by decide) (by decide) (by decide), g3 3 (by decide), fr 52 (by decide) (by decide) (by decide) (by decide), fr 84 (by decide) (by decide) (by decide) (by decide)]; exact hF
      · have v53 : V 53 0 = I 53 0 + 20 := by rw [g2 53 (by decide) (by decide)]; exact h3
        have v54 : V 54 = fdF (I 53 0) (pk5 a b c d e) (I 54) 20 := by rw [g2 54 (by decide) (by decide)]; exact h4
        rw [v53, g4, v54, g5, p3, p1]
        refine ⟨rfl, by omega, rfl, ?_⟩
        rw [fdF_20]
        exact ap4_rg (ap4_rg (ap4_rg (ap4_rg (ap4_rg p4 _ _) _ _) _ _) _ _) _ _
      · rw [fr 55 (by decide) (by decide) (by decide) (by decide), g3 35 (by decide), g3 37 (by decide)]; exact hX
      · exact hRl.same (fun o x y => fr o (by omega) (by omega) (by omega) (by omega)) (g3 17 (by decide)) (g3 32 (by decide)) (fr 86 (by decide) (by decide) (by decide) (by decide)) (fr 87 (by decide) (by decide) (by decide) (by decide)) (fr 88 (by decide) (by decide) (by decide) (by decide))
      · exact hS.same (by rw [fr 0 (by decide) (by decide) (by decide) (by decide)]) (by rw [fr 4 (by decide) (by decide) (by decide) (by decide)]) (fr 6 (by decide) (by decide) (by decide) (by decide)) (fr 7 (by decide) (by decide) (by decide) (by decide)) (fr 8 (by decide) (by decide) (by decide) (by decide)) (fr 9 (by decide) (by decide) (by decide) (by decide)) (by rw [fr 51 (by decide) (by decide) (by decide) (by decide)]) (fr 52 (by decide) (by decide) (by decide) (by decide)) (fun o x y => fr o (by omega) (by omega) (by omega) (by omega))
end
