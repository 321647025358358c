/-! ===== PARTINGS: the best of them ===== -/
theorem dif_tb (a b i : Nat) : Nat.testBit (dif a b) i = (Nat.testBit a i && !Nat.testBit b i) := by
  unfold dif
  rw [Nat.testBit_xor, Nat.testBit_and]
  cases Nat.testBit a i <;> cases Nat.testBit b i <;> rfl
theorem sub_tb {a b : Nat} : sub a b ↔ ∀ i, Nat.testBit a i = true → Nat.testBit b i = true := by
  unfold sub
  constructor
  · intro h i hi
    have e := congrArg (fun x => Nat.testBit x i) h
    simp only [Nat.testBit_and] at e
    rw [hi] at e
    simpa using e
  · intro h
    apply Nat.eq_of_testBit_eq
    intro i
    rw [Nat.testBit_and]
    cases ha : Nat.testBit a i with
    | false => rfl
    | true => rw [h i ha]; rfl
theorem sub.tr {a b c : Nat} (h1 : sub a b) (h2 : sub b c) : sub a c := sub_tb.mpr fun i h => sub_tb.mp h2 i (sub_tb.mp h1 i h)
theorem sub.rf (a : Nat) : sub a a := Nat.and_self a
theorem sub_dif (L a : Nat) : sub (dif L a) L := sub_tb.mpr fun i h => by
  rw [dif_tb, Bool.and_eq_true] at h
  exact h.1
theorem dif_mono {L L' a b : Nat} (h1 : sub L' L) (h2 : sub b a) : sub (dif L' a) (dif L b) := sub_tb.mpr fun i h => by
  rw [dif_tb, Bool.and_eq_true] at h
  rw [dif_tb, Bool.and_eq_true]
  refine ⟨sub_tb.mp h1 i h.1, ?_⟩
  cases hb : Nat.testBit b i with
  | false => rfl
  | true =>
    have := sub_tb.mp h2 i hb
    rw [this] at h
    exact absurd h.2 (by decide)
theorem dif_0 (L : Nat) : dif L 0 = L := by
  unfold dif
  rw [Nat.and_zero, Nat.xor_zero]
/-- the greatest of v and the g of those that are so -/
def mxs (g : Nat → Int) (P : Nat → Bool) : Nat → Int → Int
  | 0, v => v
  | n + 1, v => if P (n + 1) then max (mxs g P n v) (g (n + 1)) else mxs g P n v
theorem mxs_v (g : Nat → Int) (P : Nat → Bool) : ∀ (n : Nat) (v : Int), v ≤ mxs g P n v
  | 0, _ => Int.le_refl _
  | n + 1, v => by
    have := mxs_v g P n v
    show v ≤ if P (n + 1) then max (mxs g P n v) (g (n + 1)) else mxs g P n v
    split
    · omega
    · exact this
theorem mxs_ge (g : Nat → Int) (P : Nat → Bool) : ∀ (n : Nat) (v : Int) (a : Nat), 1 ≤ a → a ≤ n → P a = true → g a ≤ mxs g P n v
  | 0, _, a, h0, h1, _ => by omega
  | n + 1, v, a, h0, h1, hP => by
    show g a ≤ if P (n + 1) then max (mxs g P n v) (g (n + 1)) else mxs g P n v
    by_cases e : a = n + 1
    · rw [← e, if_pos hP]
      omega
    · have := mxs_ge g P n v a h0 (by omega) hP
      split
      · omega
      · exact this
theorem mxs_att (g : Nat → Int) (P : Nat → Bool) : ∀ (n : Nat) (v : Int), mxs g P n v = v ∨ ∃ a, 1 ≤ a ∧ a ≤ n ∧ P a = true ∧ mxs g P n v = g a
  | 0, _ => Or.inl rfl
  | n + 1, v => by
    have ih := mxs_att g P n v
    by_cases h : P (n + 1) = true
    · have e : mxs g P (n + 1) v = max (mxs g P n v) (g (n + 1)) := if_pos h
      by_cases hm : mxs g P n v ≤ g (n + 1)
      · exact Or.inr ⟨n + 1, by omega, Nat.le_refl _, h, by rw [e, Int.max_eq_right hm]⟩
      · rw [e, Int.max_eq_left (by omega)]
        rcases ih with h1 | ⟨a, a1, a2, a3, a4⟩
        · exact Or.inl h1
        · exact Or.inr ⟨a, a1, by omega, a3, a4⟩
    · have e : mxs g P (n + 1) v = mxs g P n v := if_neg h
      rw [e]
      rcases ih with h1 | ⟨a, a1, a2, a3, a4⟩
      · exact Or.inl h1
      · exact Or.inr ⟨a, a1, by omega, a3, a4⟩
theorem mxs_mono {g g' : Nat → Int} {P P' : Nat → Bool} {n : Nat} {v v' : Int} (hv : v ≤ v') (h : ∀ a, 1 ≤ a → a ≤ n → P a = true → P' a = true ∧ g a ≤ g' a) : mxs g P n v ≤ mxs g' P' n v' := by
  rcases mxs_att g P n v with e | ⟨a, a1, a2, a3, a4⟩
  · rw [e]
    exact Int.le_trans hv (mxs_v g' P' n v')
  · have := h a a1 a2 a3
    rw [a4]
    exact Int.le_trans this.2 (mxs_ge g' P' n v' a a1 a2 this.1)
/-- the first of the greatest, 0 if that is v -/
def lob (g : Nat → Int) (P : Nat → Bool) : Nat → Int → Int × Nat
  | 0, v => (v, 0)
  | n + 1, v => if P (n + 1) = true ∧ (lob g P n v).1 < g (n + 1) then (g (n + 1), n + 1) else lob g P n v
theorem lob_1 (g : Nat → Int) (P : Nat → Bool) : ∀ (n : Nat) (v : Int), (lob g P n v).1 = mxs g P n v
  | 0, _ => rfl
  | n + 1, v => by
    have ih := lob_1 g P n v
    show (if P (n + 1) = true ∧ (lob g P n v).1 < g (n + 1) then (g (n + 1), n + 1) else lob g P n v).1 = if P (n + 1) then max (mxs g P n v) (g (n + 1)) else mxs g P n v
    by_cases h : P (n + 1) = true
    · rw [if_pos h]
      by_cases h2 : (lob g P n v).1 < g (n + 1)
      · rw [if_pos ⟨h, h2⟩]
        show g (n + 1) = _
        omega
      · rw [if_neg (fun q => h2 q.2)]
        omega
    · rw [if_neg h, if_neg (fun q => h q.1)]
      exact ih
theorem lob_2 (g : Nat → Int) (P : Nat → Bool) : ∀ (n : Nat) (v : Int), ((lob g P n v).2 = 0 ∧ (lob g P n v).1 = v) ∨ (1 ≤ (lob g P n v).2 ∧ (lob g P n v).2 ≤ n ∧ P (lob g P n v).2 = true ∧ (lob g P n v).1 = g (lob g P n v).2 ∧ v < (lob g P n v).1 ∧ ∀ b, 1 ≤ b → b < (lob g P n v).2 → P b = true → g b < (lob g P n v).1)
  | 0, _ => Or.inl ⟨rfl, rfl⟩
  | n + 1, v => by
    have ih := lob_2 g P n v
    have e1 := lob_1 g P n v
    by_cases h : P (n + 1) = true ∧ (lob g P n v).1 < g (n + 1)
    · have e : lob g P (n + 1) v = (g (n + 1), n + 1) := if_pos h
      rw [e]
      refine Or.inr ⟨Nat.succ_le_succ (Nat.zero_le n), Nat.le_refl _, h.1, rfl, ?_, fun b b1 b2 b3 => ?_⟩
      · have := mxs_v g P n v
        show v < g (n + 1)
        omega
      · have b2' : b < n + 1 := b2
        have := mxs_ge g P n v b b1 (by omega) b3
        show g b < g (n + 1)
        omega
    · have e : lob g P (n + 1) v = lob g P n v := if_neg h
      rw [e]
      rcases ih with h1 | ⟨a1, a2, a3⟩
      · exact Or.inl h1
      · exact Or.inr ⟨a1, by omega, a3⟩
/-- a PARTING of the FIELDS L among HOUSEHOLDS with these DUES -/
def vA (w : Nat → Int) : Nat → List Int → List Nat → Prop
  | _, [], [] => True
  | L, d :: ds, a :: as => (a = 0 ∨ (¬ d = 0 ∧ 0 < a ∧ sub a L ∧ d ≤ w a)) ∧ vA w (dif L a) ds as
  | _, [], _ :: _ => False
  | _, _ :: _, [] => False
def key1 (w : Nat → Int) (i a : Nat) : Int := 4194304 - w a * 256 + ((2 ^ (7 - i) : Nat) : Int)
def kA (w : Nat → Int) : Nat → List Nat → Int
  | _, [] => 0
  | i, a :: as => (if a = 0 then 0 else key1 w i a) + kA w (i + 1) as
def je (w wl : Nat → Int) (d : Int) (L a : Nat) : Bool := decide (d ≤ w a) && decide (wl a < d) && decide (a &&& L = a)
theorem je_iff {w wl : Nat → Int} {d : Int} {L a : Nat} : je w wl d L a = true ↔ d ≤ w a ∧ wl a < d ∧ sub a L := by
  unfold je sub
  rw [Bool.and_eq_true, Bool.and_eq_true, decide_eq_true_iff, decide_eq_true_iff, decide_eq_true_iff]
  exact ⟨fun h => ⟨h.1.1, h.1.2, h.2⟩, fun h => ⟨⟨h.1, h.2.1⟩, h.2.2⟩⟩
/-- the best key -/
def cB (w wl : Nat → Int) (al : Nat) : Nat → List Int → Nat → Int
  | _, [], _ => 0
  | i, d :: ds, L => if d = 0 then cB w wl al (i + 1) ds L else mxs (fun a => key1 w i a + cB w wl al (i + 1) ds (dif L a)) (je w wl d L) al (cB w wl al (i + 1) ds L)
/-- the first of the best -/
def cG (w wl : Nat → Int) (al : Nat) : Nat → List Int → Nat → List Nat
  | _, [], _ => []
  | i, d :: ds, L => if d = 0 then 0 :: cG w wl al (i + 1) ds L else (lob (fun a => key1 w i a + cB w wl al (i + 1) ds (dif L a)) (je w wl d L) L (cB w wl al (i + 1) ds L)).2 :: cG w wl al (i + 1) ds (dif L (lob (fun a => key1 w i a + cB w wl al (i + 1) ds (dif L a)) (je w wl d L) L (cB w wl al (i + 1) ds L)).2)
def PW (w wl : Nat → Int) (al : Nat) : Prop := w 0 = 0 ∧ (∀ a, sub a al → 0 < a → ∃ b, sub b a ∧ b < a ∧ w b = wl a ∧ wl a < w a) ∧ (∀ a L, sub L al → sub a L → w L = w a + w (dif L a)) ∧ ∀ a, sub a al → 0 ≤ w a ∧ w a ≤ 16383
theorem cB_mono (w wl : Nat → Int) (al : Nat) : ∀ (ds : List Int) (i L' L : Nat), sub L' L → cB w wl al i ds L' ≤ cB w wl al i ds L
  | [], _, _, _, _ => Int.le_refl _
  | d :: ds, i, L', L, h => by
    show (if d = 0 then cB w wl al (i + 1) ds L' else mxs _ _ al (cB w wl al (i + 1) ds L')) ≤ (if d = 0 then cB w wl al (i + 1) ds L else mxs _ _ al (cB w wl al (i + 1) ds L))
    by_cases hd : d = 0
    · rw [if_pos hd, if_pos hd]
      exact cB_mono w wl al ds (i + 1) L' L h
    · rw [if_neg hd, if_neg hd]
      refine mxs_mono (cB_mono w wl al ds (i + 1) L' L h) (fun a _ _ hP => ?_)
      have hp := je_iff.mp hP
      refine ⟨je_iff.mpr ⟨hp.1, hp.2.1, hp.2.2.tr h⟩, ?_⟩
      have := cB_mono w wl al ds (i + 1) (dif L' a) (dif L a) (dif_mono h (sub.rf a))
      show key1 w i a + _ ≤ key1 w i a + _
      omega
/-- what is more than enough holds what is just enough -/
theorem red {w wl : Nat → Int} {al : Nat} (hW : PW w wl al) {d : Int} (hd : 0 < d) : ∀ a : Nat, sub a al → 0 < a → d ≤ w a → ∃ b, sub b a ∧ 0 < b ∧ d ≤ w b ∧ wl b < d ∧ w b ≤ w a ∧ (¬ wl a < d → w b < w a) := by
  intro a
  induction a using Nat.strongRecOn with
  | ind a ih =>
    intro hs h0 hda
    by_cases h : wl a < d
    · exact ⟨a, sub.rf a, h0, hda, h, Int.le_refl _, fun q => absurd h q⟩
    · obtain ⟨b, b1, b2, b3, b4⟩ := hW.2.1 a hs h0
      have hb0 : 0 < b := by
        rcases Nat.eq_zero_or_pos b with e | e
        · rw [e, hW.1] at b3
          omega
        · exact e
      obtain ⟨c, c1, c2, c3, c4, c5, -⟩ := ih b b2 (b1.tr hs) hb0 (by omega)
      exact ⟨c, c1.tr b1, c2, c3, c4, by omega, fun _ => by omega⟩
theorem key1_lt {w : Nat → Int} {i a b : Nat} (h : w b ≤ w a) : key1 w i a ≤ key1 w i b := by
  unfold key1
  omega
/-- no PARTING has a greater key -/
theorem cB_ub {w wl : Nat → Int} {al : Nat} (hW : PW w wl al) : ∀ (ds : List Int) (as : List Nat) (i L : Nat), (∀ d ∈ ds, 0 ≤ d) → sub L al → vA w L ds as → kA w i as ≤ cB w wl al i ds L
  | [], [], _, _, _, _, _ => Int.le_refl _
  | [], _ :: _, _, _, _, _, h => h.elim
  | _ :: _, [], _, _, _, _, h => h.elim
  | d :: ds, a :: as, i, L, hd, hL, hv => by
    have ih := cB_ub hW ds as (i + 1) (dif L a) (fun x hx => hd x (List.mem_cons_of_mem _ hx)) ((sub_dif L a).tr hL) hv.2
    have hd0 := hd d (List.mem_cons_self ..)
    show (if a = 0 then 0 else key1 w i a) + kA w (i + 1) as ≤ (if d = 0 then cB w wl al (i + 1) ds L else mxs _ _ al (cB w wl al (i + 1) ds L))
    rcases hv.1 with e | ⟨e1, e2, e3, e4⟩
    · rw [if_pos e]
      rw [e, dif_0] at ih
      by_cases h0 : d = 0
      · rw [if_pos h0]; omega
      · rw [if_neg h0]
        have := mxs_v (fun a => key1 w i a + cB w wl al (i + 1) ds (dif L a)) (je w wl d L) al (cB w wl al (i + 1) ds L)
        omega
    · rw [if_neg e1, if_neg (by omega)]
      obtain ⟨b, b1, b2, b3, b4, b5, -⟩ := red hW (d := d) (by omega) a (e3.tr hL) e2 e4
      have hk := key1_lt (i := i) b5
      have hm := cB_mono w wl al ds (i + 1) (dif L a) (dif L b) (dif_mono (sub.rf L) b1)
      have := mxs_ge (fun a => key1 w i a + cB w wl al (i + 1) ds (dif L a)) (je w wl d L) al (cB w wl al (i + 1) ds L) b b2 (sub_le (b1.tr (e3.tr hL))) (je_iff.mpr ⟨b3, b4, b1.tr e3⟩)
      have this' : key1 w i b + cB w wl al (i + 1) ds (dif L b) ≤ mxs (fun a => key1 w i a + cB w wl al (i + 1) ds (dif L a)) (je w wl d L) al (cB w wl al (i + 1) ds L) := this
      omega
