/-! ===== PARTINGS: the first of the best ===== -/
theorem mxs_ext {g : Nat → Int} {P : Nat → Bool} {n : Nat} {v : Int} (h : ∀ a, P a = true → a ≤ n) : ∀ m, n ≤ m → mxs g P m v = mxs g P n v
  | 0, hm => by rw [show n = 0 by omega]
  | m + 1, hm => by
    by_cases e : n = m + 1
    · rw [e]
    · have hp : ¬ P (m + 1) = true := fun q => by
        have := h _ q
        omega
      have e1 : mxs g P (m + 1) v = mxs g P m v := if_neg hp
      rw [e1]
      exact mxs_ext h m (by omega)
theorem vA_len {w : Nat → Int} : ∀ (ds : List Int) (as : List Nat) (L : Nat), vA w L ds as → as.length = ds.length
  | [], [], _, _ => rfl
  | [], _ :: _, _, h => h.elim
  | _ :: _, [], _, h => h.elim
  | _ :: ds, _ :: as, _, h => by rw [List.length_cons, List.length_cons, vA_len ds as _ h.2]
/-- it is a PARTING, and has the best key -/
theorem cG_ok {w wl : Nat → Int} {al : Nat} : ∀ (ds : List Int) (i L : Nat), sub L al → vA w L ds (cG w wl al i ds L) ∧ kA w i (cG w wl al i ds L) = cB w wl al i ds L
  | [], _, _, _ => ⟨trivial, rfl⟩
  | d :: ds, i, L, hL => by
    by_cases h0 : d = 0
    · have e1 : cG w wl al i (d :: ds) L = 0 :: cG w wl al (i + 1) ds L := if_pos h0
      have e2 : cB w wl al i (d :: ds) L = cB w wl al (i + 1) ds L := if_pos h0
      have ih := cG_ok (w := w) (wl := wl) ds (i + 1) L hL
      rw [e1, e2]
      refine ⟨⟨Or.inl rfl, by rw [dif_0]; exact ih.1⟩, ?_⟩
      show (if (0 : Nat) = 0 then 0 else key1 w i 0) + kA w (i + 1) (cG w wl al (i + 1) ds L) = _
      rw [if_pos rfl, ih.2]
      omega
    · obtain ⟨g, eg⟩ : ∃ g : Nat → Int, g = fun a => key1 w i a + cB w wl al (i + 1) ds (dif L a) := ⟨_, rfl⟩
      obtain ⟨r, er⟩ : ∃ r, r = lob g (je w wl d L) L (cB w wl al (i + 1) ds L) := ⟨_, rfl⟩
      have e1 : cG w wl al i (d :: ds) L = r.2 :: cG w wl al (i + 1) ds (dif L r.2) := by
        rw [er, eg]
        exact if_neg h0
      have e2 : cB w wl al i (d :: ds) L = r.1 := by
        have e3 : cB w wl al i (d :: ds) L = mxs g (je w wl d L) al (cB w wl al (i + 1) ds L) := by
          rw [eg]
          exact if_neg h0
        rw [e3, er, lob_1]
        exact mxs_ext (fun a ha => sub_le (je_iff.mp ha).2.2) al (sub_le hL)
      have ih := cG_ok (w := w) (wl := wl) ds (i + 1) (dif L r.2) ((sub_dif L r.2).tr hL)
      have hl := lob_2 g (je w wl d L) L (cB w wl al (i + 1) ds L)
      rw [← er] at hl
      rw [e1, e2]
      rcases hl with ⟨q1, q2⟩ | ⟨q1, q2, q3, q4, q5, q6⟩
      · refine ⟨⟨Or.inl q1, ih.1⟩, ?_⟩
        show (if r.2 = 0 then 0 else key1 w i r.2) + kA w (i + 1) _ = _
        rw [if_pos q1, ih.2, q2, q1, dif_0]
        omega
      · have hj := je_iff.mp q3
        refine ⟨⟨Or.inr ⟨h0, by omega, hj.2.2, hj.1⟩, ih.1⟩, ?_⟩
        show (if r.2 = 0 then 0 else key1 w i r.2) + kA w (i + 1) _ = _
        rw [if_neg (by omega), ih.2, q4, eg]
def lexLe : List Nat → List Nat → Prop
  | [], [] => True
  | a :: as, b :: bs => a < b ∨ (a = b ∧ lexLe as bs)
  | [], _ :: _ => False
  | _ :: _, [] => False
/-- it is the first of these -/
theorem cG_first {w wl : Nat → Int} {al : Nat} (hW : PW w wl al) : ∀ (ds : List Int) (as : List Nat) (i L : Nat), (∀ d ∈ ds, 0 ≤ d) → sub L al → vA w L ds as → kA w i as = cB w wl al i ds L → lexLe (cG w wl al i ds L) as
  | [], [], _, _, _, _, _, _ => trivial
  | [], _ :: _, _, _, _, _, h, _ => h.elim
  | _ :: _, [], _, _, _, _, h, _ => h.elim
  | d :: ds, a :: as, i, L, hd, hL, hv, hk => by
    have hds : ∀ x ∈ ds, 0 ≤ x := fun x hx => hd x (List.mem_cons_of_mem _ hx)
    have hub := cB_ub hW ds as (i + 1) (dif L a) hds ((sub_dif L a).tr hL) hv.2
    have hd0 := hd d (List.mem_cons_self ..)
    have hk' : (if a = 0 then 0 else key1 w i a) + kA w (i + 1) as = cB w wl al i (d :: ds) L := hk
    by_cases h0 : d = 0
    · have e1 : cG w wl al i (d :: ds) L = 0 :: cG w wl al (i + 1) ds L := if_pos h0
      have e2 : cB w wl al i (d :: ds) L = cB w wl al (i + 1) ds L := if_pos h0
      have ea : a = 0 := by
        rcases hv.1 with e | ⟨e, -⟩
        · exact e
        · exact absurd h0 e
      rw [e1]
      refine Or.inr ⟨ea.symm, ?_⟩
      rw [if_pos ea, e2] at hk'
      have hv2 := hv.2
      rw [ea, dif_0] at hv2
      exact cG_first hW ds as (i + 1) L hds hL hv2 (by omega)
    · obtain ⟨g, eg⟩ : ∃ g : Nat → Int, g = fun a => key1 w i a + cB w wl al (i + 1) ds (dif L a) := ⟨_, rfl⟩
      obtain ⟨r, er⟩ : ∃ r, r = lob g (je w wl d L) L (cB w wl al (i + 1) ds L) := ⟨_, rfl⟩
      have e1 : cG w wl al i (d :: ds) L = r.2 :: cG w wl al (i + 1) ds (dif L r.2) := by
        rw [er, eg]
        exact if_neg h0
      have e3 : cB w wl al i (d :: ds) L = mxs g (je w wl d L) al (cB w wl al (i + 1) ds L) := by
        rw [eg]
        exact if_neg h0
      have e2 : cB w wl al i (d :: ds) L = r.1 := by
        rw [e3, er, lob_1]
        exact mxs_ext (fun a ha => sub_le (je_iff.mp ha).2.2) al (sub_le hL)
      have hl := lob_2 g (je w wl d L) L (cB w wl al (i + 1) ds L)
      rw [← er] at hl
      rw [e1]
      rcases hv.1 with e | ⟨n1, n2, n3, n4⟩
      · -- not served
        rw [if_pos e] at hk'
        rw [e, dif_0] at hub
        have hmv := mxs_v g (je w wl d L) al (cB w wl al (i + 1) ds L)
        rcases hl with ⟨q1, q2⟩ | ⟨q1, q2, q3, q4, q5, q6⟩
        · refine Or.inr ⟨by rw [q1, e], ?_⟩
          rw [q1, dif_0]
          have hv2 := hv.2
          rw [e, dif_0] at hv2
          exact cG_first hW ds as (i + 1) L hds hL hv2 (by omega)
        · omega
      · -- served
        rw [if_neg (by omega)] at hk'
        obtain ⟨b, b1, b2, b3, b4, b5, b6⟩ := red hW (d := d) (by omega) a (n3.tr hL) n2 n4
        have hm := cB_mono w wl al ds (i + 1) (dif L a) (dif L b) (dif_mono (sub.rf L) b1)
        have hge := mxs_ge g (je w wl d L) al (cB w wl al (i + 1) ds L) b b2 (sub_le (b1.tr (n3.tr hL))) (je_iff.mpr ⟨b3, b4, b1.tr n3⟩)
        have egb : g b = key1 w i b + cB w wl al (i + 1) ds (dif L b) := by rw [eg]
        have hja : wl a < d := by
          by_cases hj : wl a < d
          · exact hj
          · have := b6 hj
            have hkk : key1 w i a < key1 w i b := by unfold key1; omega
            omega
        have hPa : je w wl d L a = true := je_iff.mpr ⟨n4, hja, n3⟩
        have hga := mxs_ge g (je w wl d L) al (cB w wl al (i + 1) ds L) a n2 (sub_le (n3.tr hL)) hPa
        have ega : g a = key1 w i a + cB w wl al (i + 1) ds (dif L a) := by rw [eg]
        rcases hl with ⟨q1, q2⟩ | ⟨q1, q2, q3, q4, q5, q6⟩
        · exact Or.inl (by omega)
        · by_cases hlt : r.2 < a
          · exact Or.inl hlt
          · by_cases heq : r.2 = a
            · refine Or.inr ⟨heq, ?_⟩
              rw [heq]
              exact cG_first hW ds as (i + 1) (dif L a) hds ((sub_dif L a).tr hL) hv.2 (by omega)
            · have := q6 a n2 (by omega) hPa
              omega
/-! how keys and values go together -/
def cnt : List Nat → Int
  | [] => 0
  | a :: as => (if a = 0 then 0 else 1) + cnt as
def Wt (w : Nat → Int) : List Nat → Int
  | [] => 0
  | a :: as => (if a = 0 then 0 else w a) + Wt w as
def btS : Nat → List Nat → Nat
  | _, [] => 0
  | i, a :: as => (if a = 0 then 0 else 2 ^ (7 - i)) + btS (i + 1) as
theorem kA_eq (w : Nat → Int) : ∀ (as : List Nat) (i : Nat), kA w i as = 4194304 * cnt as - 256 * Wt w as + (btS i as : Int)
  | [], _ => rfl
  | a :: as, i => by
    have ih := kA_eq w as (i + 1)
    show (if a = 0 then 0 else key1 w i a) + kA w (i + 1) as = 4194304 * ((if a = 0 then 0 else 1) + cnt as) - 256 * ((if a = 0 then 0 else w a) + Wt w as) + (((if a = 0 then 0 else 2 ^ (7 - i)) + btS (i + 1) as : Nat) : Int)
    by_cases h : a = 0
    · rw [if_pos h, if_pos h, if_pos h, if_pos h, ih]
      omega
    · rw [if_neg h, if_neg h, if_neg h, if_neg h, ih]
      unfold key1
      generalize (2 ^ (7 - i) : Nat) = p
      omega
theorem btS_lt : ∀ (as : List Nat) (i : Nat), i + as.length ≤ 8 → btS i as < 2 ^ (8 - i)
  | [], i, _ => Nat.two_pow_pos _
  | a :: as, i, h => by
    rw [List.length_cons] at h
    have ih := btS_lt as (i + 1) (by omega)
    have e : 2 ^ (8 - i) = 2 ^ (7 - i) + 2 ^ (8 - (i + 1)) := by
      rw [show 8 - i = (7 - i) + 1 by omega, show 8 - (i + 1) = 7 - i by omega, Nat.pow_succ]
      omega
    show (if a = 0 then 0 else 2 ^ (7 - i)) + btS (i + 1) as < 2 ^ (8 - i)
    rw [e]
    generalize 2 ^ (8 - (i + 1)) = q at ih ⊢
    generalize 2 ^ (7 - i) = p
    split <;> omega
theorem Wt_le {w wl : Nat → Int} {al : Nat} (hW : PW w wl al) : ∀ (ds : List Int) (as : List Nat) (L : Nat), sub L al → vA w L ds as → 0 ≤ Wt w as ∧ Wt w as ≤ w L
  | [], [], L, hL, _ => ⟨Int.le_refl _, (hW.2.2.2 L hL).1⟩
  | [], _ :: _, _, _, h => h.elim
  | _ :: _, [], _, _, h => h.elim
  | d :: ds, a :: as, L, hL, hv => by
    have ih := Wt_le hW ds as (dif L a) ((sub_dif L a).tr hL) hv.2
    show 0 ≤ (if a = 0 then 0 else w a) + Wt w as ∧ (if a = 0 then 0 else w a) + Wt w as ≤ w L
    rcases hv.1 with e | ⟨n1, n2, n3, n4⟩
    · rw [if_pos e]
      rw [e, dif_0] at ih
      omega
    · rw [if_neg (by omega)]
      have h1 := hW.2.2.1 a L hL n3
      have h2 := hW.2.2.2 a (n3.tr hL)
      omega
