/-! ===== PARTINGS: both find the same ===== -/
theorem fOk_get : ∀ {ps : PL} {as : List Nat}, as.length = ps.length → (fOk ps as ↔ ∀ j, j < ps.length → ((ps.getD j (0, 0)).1 = 0 ∨ (ps.getD j (0, 0)).2 = -1 ∨ ((ps.getD j (0, 0)).2 = 1 ∧ as.getD j 0 ≠ 0) ∨ ((ps.getD j (0, 0)).2 = 0 ∧ as.getD j 0 = 0)))
  | [], [], _ => ⟨fun _ j h => absurd h (Nat.not_lt_zero j), fun _ => trivial⟩
  | [], _ :: _, h => by cases h
  | _ :: _, [], h => by cases h
  | p :: ps, a :: as, h => by
    have ih := fOk_get (ps := ps) (as := as) (by rw [List.length_cons, List.length_cons] at h; omega)
    constructor
    · rintro ⟨h1, h2⟩ j hj
      cases j with
      | zero => exact h1
      | succ j => exact ih.mp h2 j (Nat.lt_of_succ_lt_succ hj)
    · intro hall
      exact ⟨hall 0 (Nat.succ_pos _), ih.mpr fun j hj => hall (j + 1) (Nat.succ_lt_succ hj)⟩
theorem vA_zero {w : Nat → Int} : ∀ (ds : List Int) (as : List Nat) (L j : Nat), vA w L ds as → ds.getD j 0 = 0 → as.getD j 0 = 0
  | [], [], _, _, _, _ => rfl
  | [], _ :: _, _, _, h, _ => h.elim
  | _ :: _, [], _, _, h, _ => h.elim
  | d :: ds, a :: as, L, 0, h, hd => by
    rcases h.1 with e | ⟨e, -⟩
    · exact e
    · exact absurd hd e
  | d :: ds, a :: as, L, j + 1, h, hd => vA_zero ds as _ j h.2 hd
theorem btS_cmp : ∀ (as bs : List Nat) (i h : Nat), as.length = bs.length → i + as.length ≤ 8 → (∀ j, j < h → (as.getD j 0 = 0 ↔ bs.getD j 0 = 0)) → h < as.length → as.getD h 0 ≠ 0 → bs.getD h 0 = 0 → btS i bs < btS i as
  | [], _, _, h, _, _, _, hl, _, _ => absurd hl (Nat.not_lt_zero h)
  | _ :: _, [], _, _, e, _, _, _, _, _ => by cases e
  | a :: as, b :: bs, i, 0, e, h8, _, _, ha, hb => by
    have ha' : a ≠ 0 := ha
    have hb' : b = 0 := hb
    rw [List.length_cons, List.length_cons] at e
    rw [List.length_cons] at h8
    have hlt := btS_lt bs (i + 1) (by omega)
    rw [show 8 - (i + 1) = 7 - i by omega] at hlt
    show (if b = 0 then 0 else 2 ^ (7 - i)) + btS (i + 1) bs < (if a = 0 then 0 else 2 ^ (7 - i)) + btS (i + 1) as
    rw [if_pos hb', if_neg ha']
    generalize 2 ^ (7 - i) = p at hlt ⊢
    omega
  | a :: as, b :: bs, i, h + 1, e, h8, hj, hl, ha, hb => by
    rw [List.length_cons, List.length_cons] at e
    rw [List.length_cons] at h8 hl
    have ih := btS_cmp as bs (i + 1) h (by omega) (by omega) (fun j q => hj (j + 1) (Nat.succ_lt_succ q)) (by omega) ha hb
    have h0 : a = 0 ↔ b = 0 := hj 0 (Nat.succ_pos _)
    show (if b = 0 then 0 else 2 ^ (7 - i)) + btS (i + 1) bs < (if a = 0 then 0 else 2 ^ (7 - i)) + btS (i + 1) as
    by_cases e0 : a = 0
    · rw [if_pos e0, if_pos (h0.mp e0)]; omega
    · rw [if_neg e0, if_neg (fun q => e0 (h0.mpr q))]; omega
theorem btS_same : ∀ (as bs : List Nat) (i : Nat), as.length = bs.length → (∀ j, j < as.length → (as.getD j 0 = 0 ↔ bs.getD j 0 = 0)) → btS i as = btS i bs
  | [], [], _, _, _ => rfl
  | [], _ :: _, _, e, _ => by cases e
  | _ :: _, [], _, e, _ => by cases e
  | a :: as, b :: bs, i, e, hj => by
    rw [List.length_cons, List.length_cons] at e
    have ih := btS_same as bs (i + 1) (by omega) (fun j q => hj (j + 1) (Nat.succ_lt_succ q))
    have h0 : a = 0 ↔ b = 0 := hj 0 (Nat.succ_pos _)
    show (if a = 0 then 0 else 2 ^ (7 - i)) + btS (i + 1) as = (if b = 0 then 0 else 2 ^ (7 - i)) + btS (i + 1) bs
    rw [ih]
    by_cases e0 : a = 0
    · rw [if_pos e0, if_pos (h0.mp e0)]
    · rw [if_neg e0, if_neg (fun q => e0 (h0.mpr q))]
/-- the order of keys goes with that of values -/
theorem top_cmp {w wl : Nat → Int} {al : Nat} (hW : PW w wl al) {ds : List Int} (h8 : ds.length ≤ 8) {as bs : List Nat} (ha : vA w al ds as) (hb : vA w al ds bs) (hk : kA w 0 as ≤ kA w 0 bs) : mA w ds as ≤ mA w ds bs ∧ (mA w ds as = mA w ds bs → cnt as = cnt bs ∧ Wt w as = Wt w bs ∧ btS 0 as ≤ btS 0 bs) := by
  have la := vA_len ds as al ha
  have lb := vA_len ds bs al hb
  have wa := Wt_le hW ds as al (sub.rf al) ha
  have wb := Wt_le hW ds bs al (sub.rf al) hb
  have wm := hW.2.2.2 al (sub.rf al)
  have ba := btS_lt as 0 (by omega)
  have bb := btS_lt bs 0 (by omega)
  rw [kA_eq, kA_eq] at hk
  rw [mA_eq ds as al ha, mA_eq ds bs al hb]
  have e8 : 2 ^ (8 - 0) = 256 := by decide
  rw [e8] at ba bb
  omega
section
variable {w wl : Nat → Int} {al : Nat}
theorem dsO_len (ps : PL) : (dsO ps).length = ps.length := List.length_map ..
theorem dsO_get : ∀ (ps : PL) (j : Nat), (dsO ps).getD j 0 = (ps.getD j (0, 0)).1
  | [], _ => rfl
  | _ :: _, 0 => rfl
  | _ :: ps, j + 1 => dsO_get ps j
/-- who is served in it -/
def phi (ps : PL) (as : List Nat) (j : Nat) : Int := if (ps.getD j (0, 0)).1 = 0 ∨ as.getD j 0 ≠ 0 then 1 else 0
theorem mA_nn (hW : PW w wl al) : ∀ (ds : List Int) (as : List Nat) (L : Nat), sub L al → vA w L ds as → 0 ≤ mA w ds as
  | [], [], _, _, _ => Int.le_refl _
  | [], _ :: _, _, _, h => h.elim
  | _ :: _, [], _, _, h => h.elim
  | d :: ds, a :: as, L, hL, h => by
    have ih := mA_nn hW ds as (dif L a) ((sub_dif L a).tr hL) h.2
    show 0 ≤ (if d = 0 then 100000 else if a = 0 then 0 else 100000 - w a) + mA w ds as
    rcases h.1 with e | ⟨e, e2, e3, -⟩
    · rw [if_pos e]
      split <;> omega
    · rw [if_neg e, if_neg (by omega)]
      have := hW.2.2.2 a (e3.tr hL)
      omega
theorem st_ok (ps : PL) : vA w al (dsO ps) (cG w wl al 0 (dsO ps) al) := (cG_ok (dsO ps) 0 al (sub.rf al)).1
theorem st_max (hW : PW w wl al) {ps : PL} (h8 : ps.length ≤ 8) (hd : ∀ d ∈ dsO ps, 0 ≤ d) {as : List Nat} (ha : vA w al (dsO ps) as) : mA w (dsO ps) as ≤ mA w (dsO ps) (cG w wl al 0 (dsO ps) al) ∧ (mA w (dsO ps) as = mA w (dsO ps) (cG w wl al 0 (dsO ps) al) → cnt as = cnt (cG w wl al 0 (dsO ps) al) ∧ Wt w as = Wt w (cG w wl al 0 (dsO ps) al) ∧ btS 0 as ≤ btS 0 (cG w wl al 0 (dsO ps) al)) := by
  have h1 := cB_ub hW (dsO ps) as 0 al hd (sub.rf al) ha
  have h2 := cG_ok (w := w) (wl := wl) (dsO ps) 0 al (sub.rf al)
  rw [← h2.2] at h1
  exact top_cmp hW (by rw [dsO_len]; exact h8) ha h2.1 h1
/-- a pattern that it keeps gives its value -/
theorem mV_keeps (hW : PW w wl al) {ps : PL} (h8 : ps.length ≤ 8) (hd : ∀ d ∈ dsO ps, 0 ≤ d) (hp : ∀ p ∈ ps, p.2 = -1 ∨ p.2 = 0 ∨ p.2 = 1) (hf : fOk ps (cG w wl al 0 (dsO ps) al)) : mV w al ps al = mA w (dsO ps) (cG w wl al 0 (dsO ps) al) := by
  have hu := mV_ub ps _ al (sub.rf al) (st_ok (wl := wl) ps) hf
  have hn := mA_nn hW (dsO ps) _ al (sub.rf al) (st_ok (wl := wl) ps)
  rcases mV_att hW ps al (sub.rf al) hp with ⟨as, i1, i2, i3⟩ | h
  · have := (st_max hW h8 hd i1).1
    omega
  · omega
/-- asking whether HOUSEHOLD h may be served -/
theorem mV_asks (hW : PW w wl al) {ps : PL} (h8 : ps.length ≤ 8) (hd : ∀ d ∈ dsO ps, 0 ≤ d) (hp : ∀ p ∈ ps, p.2 = -1 ∨ p.2 = 0 ∨ p.2 = 1) {h : Nat} (hh : h < ps.length) (h1 : ∀ j, j < h → (ps.getD j (0, 0)).2 = phi ps (cG w wl al 0 (dsO ps) al) j) (h2 : (ps.getD h (0, 0)).2 = 1) (h3 : ∀ j, h < j → j < ps.length → (ps.getD j (0, 0)).2 = -1) : mV w al ps al = mA w (dsO ps) (cG w wl al 0 (dsO ps) al) ↔ phi ps (cG w wl al 0 (dsO ps) al) h = 1 := by
  obtain ⟨st, est⟩ : ∃ st, st = cG w wl al 0 (dsO ps) al := ⟨_, rfl⟩
  have hst := st_ok (w := w) (wl := wl) (al := al) ps
  have hmax := @st_max w wl al hW ps h8 hd
  have hkeep := mV_keeps hW h8 hd hp
  rw [← est] at h1 hst hmax hkeep ⊢
  have hl := vA_len _ _ _ hst
  rw [dsO_len] at hl
  have hz := fun j => vA_zero (dsO ps) st al j hst
  constructor
  · intro e
    unfold phi
    by_cases hc : (ps.getD h (0, 0)).1 = 0 ∨ st.getD h 0 ≠ 0
    · rw [if_pos hc]
    · exfalso
      have hc1 : ¬ (ps.getD h (0, 0)).1 = 0 := fun q => hc (Or.inl q)
      have hc2 : st.getD h 0 = 0 := by
        by_cases q : st.getD h 0 = 0
        · exact q
        · exact absurd (Or.inr q) hc
      have hn := mA_nn hW (dsO ps) st al (sub.rf al) hst
      rcases mV_att hW ps al (sub.rf al) hp with ⟨as, i1, i2, i3⟩ | hbad
      · have la := vA_len _ _ _ i1
        rw [dsO_len] at la
        have hb := ((hmax i1).2 (by omega)).2.2
        have hg := (fOk_get la).mp i2
        have hza := fun j => vA_zero (dsO ps) as al j i1
        have hah : as.getD h 0 ≠ 0 := by
          rcases hg h hh with q | q | ⟨-, q⟩ | ⟨q, -⟩
          · exact absurd q hc1
          · omega
          · exact q
          · omega
        have := btS_cmp as st 0 h (by omega) (by omega) (fun j hj => ?_) (by omega) hah hc2
        · omega
        · by_cases hdz : (ps.getD j (0, 0)).1 = 0
          · have e1 := hza j (by rw [dsO_get]; exact hdz)
            have e2 := hz j (by rw [dsO_get]; exact hdz)
            rw [e1, e2]
          · have hpj := h1 j hj
            unfold phi at hpj
            rcases hg j (by omega) with q | q | ⟨q, q2⟩ | ⟨q, q2⟩
            · exact absurd q hdz
            · rw [q] at hpj
              split at hpj <;> omega
            · rw [q] at hpj
              by_cases hs : (ps.getD j (0, 0)).1 = 0 ∨ st.getD j 0 ≠ 0
              · rcases hs with s | s
                · exact absurd s hdz
                · exact ⟨fun x => absurd x q2, fun x => absurd x s⟩
              · rw [if_neg hs] at hpj
                omega
            · rw [q] at hpj
              by_cases hs : (ps.getD j (0, 0)).1 = 0 ∨ st.getD j 0 ≠ 0
              · rw [if_pos hs] at hpj
                omega
              · have s2 : st.getD j 0 = 0 := by
                  by_cases q3 : st.getD j 0 = 0
                  · exact q3
                  · exact absurd (Or.inr q3) hs
                exact ⟨fun _ => s2, fun _ => q2⟩
      · omega
  · intro e
    refine hkeep ((fOk_get hl).mpr fun j hj => ?_)
    by_cases hlt : j < h
    · have hpj := h1 j hlt
      unfold phi at hpj
      by_cases hs : (ps.getD j (0, 0)).1 = 0 ∨ st.getD j 0 ≠ 0
      · rw [if_pos hs] at hpj
        rcases hs with s | s
        · exact Or.inl s
        · exact Or.inr (Or.inr (Or.inl ⟨hpj, s⟩))
      · rw [if_neg hs] at hpj
        have s2 : st.getD j 0 = 0 := by
          by_cases q3 : st.getD j 0 = 0
          · exact q3
          · exact absurd (Or.inr q3) hs
        exact Or.inr (Or.inr (Or.inr ⟨hpj, s2⟩))
    · by_cases heq : j = h
      · rw [heq]
        unfold phi at e
        by_cases hs : (ps.getD h (0, 0)).1 = 0 ∨ st.getD h 0 ≠ 0
        · rcases hs with s | s
          · exact Or.inl s
          · exact Or.inr (Or.inr (Or.inl ⟨h2, s⟩))
        · rw [if_neg hs] at e
          omega
      · exact Or.inr (Or.inl (h3 j (by omega) hj))
end
