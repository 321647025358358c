/-! ===== PARTINGS: the reference's choice of FIELDS ===== -/
section
variable {w wl : Nat → Int} {al : Nat}
/-- as is the first of the best PARTINGS of L that keep the pattern -/
def Opt (w : Nat → Int) (al : Nat) (ps : PL) (L : Nat) (as : List Nat) : Prop := vA w L (dsO ps) as ∧ fOk ps as ∧ mA w (dsO ps) as = mV w al ps L ∧ ∀ bs, vA w L (dsO ps) bs → fOk ps bs → mA w (dsO ps) bs = mV w al ps L → lexLe as bs
theorem Opt_0 (hW : PW w wl al) {ps : PL} (h8 : ps.length ≤ 8) (hd : ∀ d ∈ dsO ps, 0 ≤ d) (hp : ∀ j, j < ps.length → (ps.getD j (0, 0)).2 = phi ps (cG w wl al 0 (dsO ps) al) j) (hp' : ∀ p ∈ ps, p.2 = -1 ∨ p.2 = 0 ∨ p.2 = 1) : Opt w al ps al (cG w wl al 0 (dsO ps) al) := by
  have hst := st_ok (w := w) (wl := wl) (al := al) ps
  have hl := vA_len _ _ _ hst
  rw [dsO_len] at hl
  have hf : fOk ps (cG w wl al 0 (dsO ps) al) := (fOk_get hl).mpr fun j hj => by
    have hpj := hp j hj
    unfold phi at hpj
    by_cases hs : (ps.getD j (0, 0)).1 = 0 ∨ (cG w wl al 0 (dsO ps) al).getD j 0 ≠ 0
    · rw [if_pos hs] at hpj
      rcases hs with s | s
      · exact Or.inl s
      · exact Or.inr (Or.inr (Or.inl ⟨hpj, s⟩))
    · rw [if_neg hs] at hpj
      exact Or.inr (Or.inr (Or.inr ⟨hpj, by
        by_cases q3 : (cG w wl al 0 (dsO ps) al).getD j 0 = 0
        · exact q3
        · exact absurd (Or.inr q3) hs⟩))
  have hk := mV_keeps hW h8 hd hp' hf
  refine ⟨hst, hf, hk.symm, fun bs b1 b2 b3 => ?_⟩
  have lb := vA_len _ _ _ b1
  rw [dsO_len] at lb
  have hm := (st_max hW h8 hd b1).2 (b3.trans hk)
  have hg := (fOk_get lb).mp b2
  have hbt : btS 0 bs = btS 0 (cG w wl al 0 (dsO ps) al) := by
    refine btS_same bs _ 0 (by omega) (fun j hj => ?_)
    by_cases hdz : (ps.getD j (0, 0)).1 = 0
    · rw [vA_zero _ _ _ j b1 (by rw [dsO_get]; exact hdz), vA_zero _ _ _ j hst (by rw [dsO_get]; exact hdz)]
    · have hpj := hp j (by omega)
      unfold phi at hpj
      rcases hg j (by omega) with q | q | ⟨q, q2⟩ | ⟨q, q2⟩
      · exact absurd q hdz
      · rw [q] at hpj
        split at hpj <;> omega
      · rw [q] at hpj
        by_cases hs : (ps.getD j (0, 0)).1 = 0 ∨ (cG w wl al 0 (dsO ps) al).getD j 0 ≠ 0
        · rcases hs with s | s
          · exact absurd s hdz
          · exact ⟨fun x => absurd x q2, fun x => absurd x s⟩
        · rw [if_neg hs] at hpj
          omega
      · rw [q] at hpj
        by_cases hs : (ps.getD j (0, 0)).1 = 0 ∨ (cG w wl al 0 (dsO ps) al).getD j 0 ≠ 0
        · rw [if_pos hs] at hpj
          omega
        · exact ⟨fun _ => by
            by_cases q3 : (cG w wl al 0 (dsO ps) al).getD j 0 = 0
            · exact q3
            · exact absurd (Or.inr q3) hs, fun _ => q2⟩
  refine cG_first hW (dsO ps) bs 0 al hd (sub.rf al) b1 ?_
  have h2 := cG_ok (w := w) (wl := wl) (dsO ps) 0 al (sub.rf al)
  rw [← h2.2, kA_eq, kA_eq, hm.1, hm.2.1, hbt]
theorem Opt_skip {p : Int × Int} {ps : PL} {L a : Nat} {as : List Nat} (hL : sub L al) (h : Opt w al (p :: ps) L (a :: as)) (hp : p.1 = 0 ∨ p.2 = 0) : a = 0 ∧ Opt w al ps L as := by
  obtain ⟨h1, h2, h3, h4⟩ := h
  have ea : a = 0 := by
    rcases h1.1 with e | ⟨e, e2, -⟩
    · exact e
    · rcases hp with q | q
      · exact absurd q e
      · rcases h2.1 with r | r | ⟨r, -⟩ | ⟨-, r⟩
        · exact absurd r e
        · omega
        · omega
        · exact r
  have hv2 := h1.2
  rw [ea, dif_0] at hv2
  have hval : ∀ bs, mA w (dsO ps) bs = mV w al ps L ↔ mA w (dsO (p :: ps)) (0 :: bs) = mV w al (p :: ps) L := by
    intro bs
    show _ ↔ (if p.1 = 0 then 100000 else if (0 : Nat) = 0 then 0 else 100000 - w 0) + mA w (dsO ps) bs = _
    by_cases q : p.1 = 0
    · rw [if_pos q, mV_0 q]; omega
    · rcases hp with r | r
      · exact absurd r q
      · rw [if_neg q, if_pos rfl, mV_n q r]; omega
  have hfo : ∀ bs, fOk ps bs → fOk (p :: ps) (0 :: bs) := fun bs hb => ⟨by
    rcases hp with q | q
    · exact Or.inl q
    · exact Or.inr (Or.inr (Or.inr ⟨q, rfl⟩)), hb⟩
  refine ⟨ea, hv2, h2.2, (hval as).mpr (by rw [← ea]; exact h3), fun bs b1 b2 b3 => ?_⟩
  rcases h4 (0 :: bs) ⟨Or.inl rfl, by rw [dif_0]; exact b1⟩ (hfo bs b2) ((hval bs).mp b3) with q | ⟨-, q⟩
  · omega
  · exact q
theorem Opt_take (hW : PW w wl al) {p : Int × Int} {ps : PL} {L a : Nat} {as : List Nat} (hL : sub L al) (h8 : ps.length ≤ 7) (hpp : ∀ q ∈ ps, q.2 = -1 ∨ q.2 = 0 ∨ q.2 = 1) (h : Opt w al (p :: ps) L (a :: as)) (hp1 : ¬ p.1 = 0) (hp2 : p.2 = 1) : 1 ≤ a ∧ sub a L ∧ sv w p.1 a + mV w al ps (dif L a) = mV w al (p :: ps) L ∧ (∀ b, 1 ≤ b → b < a → sub b L → ¬ sv w p.1 b + mV w al ps (dif L b) = mV w al (p :: ps) L) ∧ Opt w al ps (dif L a) as := by
  have hnn := mA_nn hW _ _ L hL h.1
  obtain ⟨h1, h2, h3, h4⟩ := h
  have hmn : 0 ≤ mV w al (p :: ps) L := by rw [← h3]; exact hnn
  have ha0 : a ≠ 0 := by
    rcases h2.1 with r | r | ⟨-, r⟩ | ⟨r, -⟩
    · exact absurd r hp1
    · omega
    · exact r
    · omega
  have hv1 : ¬ p.1 = 0 ∧ 0 < a ∧ sub a L ∧ p.1 ≤ w a := by
    rcases h1.1 with e | e
    · exact absurd e ha0
    · exact e
  have hval : ∀ (b : Nat) (bs : List Nat), b ≠ 0 → mA w (dsO (p :: ps)) (b :: bs) = 100000 - w b + mA w (dsO ps) bs := by
    intro b bs hb
    show (if p.1 = 0 then 100000 else if b = 0 then 0 else 100000 - w b) + mA w (dsO ps) bs = _
    rw [if_neg hp1, if_neg hb]
  have hub : ∀ b, 1 ≤ b → sub b L → sv w p.1 b + mV w al ps (dif L b) ≤ mV w al (p :: ps) L := by
    intro b b1 b2
    rw [mV_s hp1 (by omega)]
    exact mxs_ge (fun a => sv w p.1 a + mV w al ps (dif L a)) (fun a => decide (a &&& L = a)) al _ b b1 (sub_le (b2.tr hL)) (decide_eq_true b2)
  have hsva : sv w p.1 a = 100000 - w a := if_pos hv1.2.2.2
  have hua := hub a (by omega) hv1.2.2.1
  have hra := mV_ub ps as (dif L a) ((sub_dif L a).tr hL) h1.2 h2.2
  rw [hval a as ha0] at h3
  have eqa : mA w (dsO ps) as = mV w al ps (dif L a) := by omega
  refine ⟨by omega, hv1.2.2.1, by omega, fun b b1 b2 b3 b4 => ?_, h1.2, h2.2, eqa, fun bs c1 c2 c3 => ?_⟩
  · have hwb := hW.2.2.2 b (b3.tr hL)
    have hrg := mV_rg hW ps (dif L b) ((sub_dif L b).tr hL)
    by_cases hd : p.1 ≤ w b
    · have hsv : sv w p.1 b = 100000 - w b := if_pos hd
      rcases mV_att hW ps (dif L b) ((sub_dif L b).tr hL) hpp with ⟨bs, i1, i2, i3⟩ | hbad
      · have := h4 (b :: bs) ⟨Or.inr ⟨hp1, b1, b3, hd⟩, i1⟩ ⟨Or.inr (Or.inr (Or.inl ⟨hp2, by omega⟩)), i2⟩ (by rw [hval b bs (by omega)]; omega)
        rcases this with q | ⟨q, -⟩ <;> omega
      · omega
    · have hsv : sv w p.1 b = -1000000 := if_neg hd
      omega
  · have := h4 (a :: bs) ⟨Or.inr hv1, c1⟩ ⟨Or.inr (Or.inr (Or.inl ⟨hp2, ha0⟩)), c2⟩ (by rw [hval a bs ha0]; omega)
    rcases this with q | ⟨-, q⟩
    · omega
    · exact q
end
