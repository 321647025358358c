/-! ===== PARTINGS: as the reference weighs them ===== -/
abbrev PL : Type := List (Int × Int)
def dsO (ps : PL) : List Int := ps.map Prod.fst
def mA (w : Nat → Int) : List Int → List Nat → Int
  | d :: ds, a :: as => (if d = 0 then 100000 else if a = 0 then 0 else 100000 - w a) + mA w ds as
  | _, _ => 0
def zc : List Int → Int
  | [] => 0
  | d :: ds => (if d = 0 then 1 else 0) + zc ds
theorem mA_eq {w : Nat → Int} : ∀ (ds : List Int) (as : List Nat) (L : Nat), vA w L ds as → mA w ds as = 100000 * (cnt as + zc ds) - Wt w as
  | [], [], _, _ => rfl
  | [], _ :: _, _, h => h.elim
  | _ :: _, [], _, h => h.elim
  | d :: ds, a :: as, L, h => by
    have ih := mA_eq ds as (dif L a) h.2
    show (if d = 0 then 100000 else if a = 0 then 0 else 100000 - w a) + mA w ds as = 100000 * ((if a = 0 then 0 else 1) + cnt as + ((if d = 0 then 1 else 0) + zc ds)) - ((if a = 0 then 0 else w a) + Wt w as)
    rcases h.1 with e | ⟨e, e2, -⟩
    · rw [if_pos e, if_pos e, if_pos e]
      split <;> omega
    · rw [if_neg e, if_neg e, if_neg (by omega), if_neg (by omega), if_neg (by omega)]
      omega
def sv (w : Nat → Int) (d : Int) (a : Nat) : Int := if d ≤ w a then 100000 - w a else -1000000
def mV (w : Nat → Int) (al : Nat) : PL → Nat → Int
  | [], _ => 0
  | p :: ps, L => if p.1 = 0 then 100000 + mV w al ps L else if p.2 = 0 then mV w al ps L else mxs (fun a => sv w p.1 a + mV w al ps (dif L a)) (fun a => decide (a &&& L = a)) al (if p.2 = 1 then -1000000 else mV w al ps L)
def fOk : PL → List Nat → Prop
  | p :: ps, a :: as => (p.1 = 0 ∨ p.2 = -1 ∨ (p.2 = 1 ∧ a ≠ 0) ∨ (p.2 = 0 ∧ a = 0)) ∧ fOk ps as
  | _, _ => True
theorem mV_0 {w : Nat → Int} {al : Nat} {p : Int × Int} {ps : PL} {L : Nat} (h : p.1 = 0) : mV w al (p :: ps) L = 100000 + mV w al ps L := if_pos h
theorem mV_n {w : Nat → Int} {al : Nat} {p : Int × Int} {ps : PL} {L : Nat} (h : ¬ p.1 = 0) (h2 : p.2 = 0) : mV w al (p :: ps) L = mV w al ps L := by
  show (if p.1 = 0 then _ else _) = _
  rw [if_neg h, if_pos h2]
theorem mV_s {w : Nat → Int} {al : Nat} {p : Int × Int} {ps : PL} {L : Nat} (h : ¬ p.1 = 0) (h2 : ¬ p.2 = 0) : mV w al (p :: ps) L = mxs (fun a => sv w p.1 a + mV w al ps (dif L a)) (fun a => decide (a &&& L = a)) al (if p.2 = 1 then -1000000 else mV w al ps L) := by
  show (if p.1 = 0 then _ else _) = _
  rw [if_neg h, if_neg h2]
theorem mV_rg {w wl : Nat → Int} {al : Nat} (hW : PW w wl al) : ∀ (ps : PL) (L : Nat), sub L al → -1000000 ≤ mV w al ps L ∧ mV w al ps L ≤ 100000 * (ps.length : Int)
  | [], _, _ => ⟨by show (-1000000 : Int) ≤ 0; decide, Int.le_refl _⟩
  | p :: ps, L, hL => by
    have ih := mV_rg hW ps L hL
    rw [List.length_cons, show ((ps.length + 1 : Nat) : Int) = (ps.length : Int) + 1 by omega]
    by_cases h1 : p.1 = 0
    · rw [mV_0 h1]; omega
    · by_cases h2 : p.2 = 0
      · rw [mV_n h1 h2]; omega
      · rw [mV_s h1 h2]
        have hv := mxs_v (fun a => sv w p.1 a + mV w al ps (dif L a)) (fun a => decide (a &&& L = a)) al (if p.2 = 1 then -1000000 else mV w al ps L)
        refine ⟨?_, ?_⟩
        · refine Int.le_trans ?_ hv
          split
          · exact Int.le_refl _
          · exact ih.1
        · rcases mxs_att (fun a => sv w p.1 a + mV w al ps (dif L a)) (fun a => decide (a &&& L = a)) al (if p.2 = 1 then -1000000 else mV w al ps L) with e | ⟨a, a1, a2, a3, a4⟩
          · rw [e]
            split <;> omega
          · rw [a4]
            have hs : sub a L := of_decide_eq_true (p := a &&& L = a) a3
            have iha := mV_rg hW ps (dif L a) ((sub_dif L a).tr hL)
            have hwa := hW.2.2.2 a (hs.tr hL)
            have hsv : sv w p.1 a ≤ 100000 := by
              unfold sv
              split <;> omega
            show sv w p.1 a + mV w al ps (dif L a) ≤ _
            omega
theorem mV_ub {w : Nat → Int} {al : Nat} : ∀ (ps : PL) (as : List Nat) (L : Nat), sub L al → vA w L (dsO ps) as → fOk ps as → mA w (dsO ps) as ≤ mV w al ps L
  | [], [], _, _, _, _ => Int.le_refl _
  | [], _ :: _, _, _, h, _ => h.elim
  | _ :: _, [], _, _, h, _ => h.elim
  | p :: ps, a :: as, L, hL, hv, hf => by
    have ih := mV_ub ps as (dif L a) ((sub_dif L a).tr hL) hv.2 hf.2
    show (if p.1 = 0 then 100000 else if a = 0 then 0 else 100000 - w a) + mA w (dsO ps) as ≤ mV w al (p :: ps) L
    have hv1 : a = 0 ∨ (¬ p.1 = 0 ∧ 0 < a ∧ sub a L ∧ p.1 ≤ w a) := hv.1
    by_cases h1 : p.1 = 0
    · rw [mV_0 h1, if_pos h1]
      have ea : a = 0 := by
        rcases hv1 with e | ⟨e, -⟩
        · exact e
        · exact absurd h1 e
      rw [ea, dif_0] at ih
      omega
    · rw [if_neg h1]
      have hf1 := hf.1
      by_cases h2 : p.2 = 0
      · rw [mV_n h1 h2]
        have ea : a = 0 := by
          rcases hf1 with e | e | ⟨e, -⟩ | ⟨-, e⟩
          · exact absurd e h1
          · omega
          · omega
          · exact e
        rw [if_pos ea]
        rw [ea, dif_0] at ih
        omega
      · rw [mV_s h1 h2]
        rcases hv1 with ea | ⟨-, a1, a2, a3⟩
        · rw [if_pos ea]
          rw [ea, dif_0] at ih
          have hmv := mxs_v (fun a => sv w p.1 a + mV w al ps (dif L a)) (fun a => decide (a &&& L = a)) al (if p.2 = 1 then -1000000 else mV w al ps L)
          have h3 : ¬ p.2 = 1 := by
            rcases hf1 with e | e | ⟨-, e⟩ | ⟨e, -⟩
            · exact absurd e h1
            · omega
            · exact absurd ea e
            · omega
          rw [if_neg h3] at hmv ⊢
          omega
        · rw [if_neg (by omega)]
          have hge := mxs_ge (fun a => sv w p.1 a + mV w al ps (dif L a)) (fun a => decide (a &&& L = a)) al (if p.2 = 1 then -1000000 else mV w al ps L) a a1 (sub_le (a2.tr hL)) (decide_eq_true a2)
          have hsv : sv w p.1 a = 100000 - w a := if_pos a3
          have hge' : sv w p.1 a + mV w al ps (dif L a) ≤ mxs (fun a => sv w p.1 a + mV w al ps (dif L a)) (fun a => decide (a &&& L = a)) al (if p.2 = 1 then -1000000 else mV w al ps L) := hge
          omega
/-- the value is that of a PARTING, or there is none -/
theorem mV_att {w wl : Nat → Int} {al : Nat} (hW : PW w wl al) : ∀ (ps : PL) (L : Nat), sub L al → (∀ p ∈ ps, p.2 = -1 ∨ p.2 = 0 ∨ p.2 = 1) → (∃ as, vA w L (dsO ps) as ∧ fOk ps as ∧ mA w (dsO ps) as = mV w al ps L) ∨ mV w al ps L ≤ -1000000 + 100000 * (ps.length : Int)
  | [], _, _, _ => Or.inl ⟨[], trivial, trivial, rfl⟩
  | p :: ps, L, hL, hp => by
    have hps : ∀ q ∈ ps, q.2 = -1 ∨ q.2 = 0 ∨ q.2 = 1 := fun q hq => hp q (List.mem_cons_of_mem _ hq)
    have hp0 := hp p (List.mem_cons_self ..)
    have ih := mV_att hW ps L hL hps
    rw [List.length_cons, show ((ps.length + 1 : Nat) : Int) = (ps.length : Int) + 1 by omega]
    -- not served
    have skip : ∀ v : Int, (p.1 = 0 ∧ v = 100000 + mV w al ps L) ∨ (¬ p.1 = 0 ∧ ¬ p.2 = 1 ∧ v = mV w al ps L) → (∃ as, vA w L (dsO (p :: ps)) as ∧ fOk (p :: ps) as ∧ mA w (dsO (p :: ps)) as = v) ∨ v ≤ -1000000 + 100000 * ((ps.length : Int) + 1) := by
      intro v hv
      rcases ih with ⟨as, i1, i2, i3⟩ | ih
      · refine Or.inl ⟨0 :: as, ⟨Or.inl rfl, by rw [dif_0]; exact i1⟩, ⟨?_, i2⟩, ?_⟩
        · rcases hv with ⟨h1, -⟩ | ⟨h1, h2, -⟩
          · exact Or.inl h1
          · rcases hp0 with e | e | e
            · exact Or.inr (Or.inl e)
            · exact Or.inr (Or.inr (Or.inr ⟨e, rfl⟩))
            · exact absurd e h2
        · show (if p.1 = 0 then 100000 else if (0 : Nat) = 0 then 0 else 100000 - w 0) + mA w (dsO ps) as = v
          rcases hv with ⟨h1, h3⟩ | ⟨h1, h2, h3⟩
          · rw [if_pos h1]; omega
          · rw [if_neg h1, if_pos rfl]; omega
      · refine Or.inr ?_
        omega
    by_cases h1 : p.1 = 0
    · exact skip _ (Or.inl ⟨h1, mV_0 h1⟩)
    · by_cases h2 : p.2 = 0
      · exact skip _ (Or.inr ⟨h1, by omega, mV_n h1 h2⟩)
      · rw [mV_s h1 h2]
        rcases mxs_att (fun a => sv w p.1 a + mV w al ps (dif L a)) (fun a => decide (a &&& L = a)) al (if p.2 = 1 then -1000000 else mV w al ps L) with e | ⟨a, a1, a2, a3, a4⟩
        · rw [e]
          by_cases h3 : p.2 = 1
          · rw [if_pos h3]
            exact Or.inr (by omega)
          · rw [if_neg h3]
            exact skip _ (Or.inr ⟨h1, h3, rfl⟩)
        · rw [a4]
          have hs : sub a L := of_decide_eq_true (p := a &&& L = a) a3
          have hwa := hW.2.2.2 a (hs.tr hL)
          have iha := mV_att hW ps (dif L a) ((sub_dif L a).tr hL) hps
          have hrg := mV_rg hW ps (dif L a) ((sub_dif L a).tr hL)
          show (∃ as, _ ∧ _ ∧ _ = sv w p.1 a + mV w al ps (dif L a)) ∨ sv w p.1 a + mV w al ps (dif L a) ≤ _
          by_cases h4 : p.1 ≤ w a
          · have hsv : sv w p.1 a = 100000 - w a := if_pos h4
            rw [hsv]
            rcases iha with ⟨as, i1, i2, i3⟩ | iha
            · refine Or.inl ⟨a :: as, ⟨Or.inr ⟨h1, a1, hs, h4⟩, i1⟩, ⟨?_, i2⟩, ?_⟩
              · rcases hp0 with e | e | e
                · exact Or.inr (Or.inl e)
                · exact absurd e h2
                · exact Or.inr (Or.inr (Or.inl ⟨e, by omega⟩))
              · show (if p.1 = 0 then 100000 else if a = 0 then 0 else 100000 - w a) + mA w (dsO ps) as = _
                rw [if_neg h1, if_neg (by omega), i3]
            · exact Or.inr (by omega)
          · have hsv : sv w p.1 a = -1000000 := if_neg h4
            rw [hsv]
            exact Or.inr (by omega)
