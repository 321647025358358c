/-! ===== the grammar, on lists of tokens (code, place); the last is the end, -19 ===== -/
abbrev TL : Type := List (Int × Int)
abbrev PR : Type := (Int × Int) ⊕ (TL × TL)
def hd (T : TL) : Int := (T.headD (-19, 0)).1
def pl (T : TL) : Int := (T.headD (-19, 0)).2
def adv (T : TL) : TL := match T with
  | _ :: b :: t => b :: t
  | t => t
def TLok : TL → Prop
  | [] => False
  | [x] => x.1 = -19
  | x :: y :: t => (-18 ≤ x.1 ∧ x.1 ≤ 9999) ∧ TLok (y :: t)
theorem TLok_adv : ∀ {T : TL}, TLok T → TLok (adv T)
  | [], h => h
  | [_], h => h
  | _ :: _ :: _, h => h.2
theorem TLok_pos : ∀ {T : TL}, TLok T → 0 < T.length
  | [], h => h.elim
  | _ :: _, _ => Nat.succ_pos _
theorem TLok_len : ∀ {T : TL}, TLok T → ¬ hd T = -19 → (adv T).length + 1 = T.length
  | [], h, _ => h.elim
  | [_], h, n => absurd h n
  | _ :: _ :: _, _, _ => rfl
theorem TLok_hd : ∀ {T : TL}, TLok T → -19 ≤ hd T ∧ hd T ≤ 9999
  | [], h => h.elim
  | [x], h => by
    have h' : hd [x] = -19 := h
    omega
  | x :: y :: t, h => by
    have e : hd (x :: y :: t) = x.1 := rfl
    have h1 := h.1
    omega
/-- after a unit: the rest of a product -/
def prodT (u : TL → PR) : Nat → TL → TL → PR
  | 0, _, _ => .inl (0, 0)
  | f + 1, acc, T => if hd T = -7 then (match u (adv T) with
      | .inl e => .inl e
      | .inr q => prodT u f (acc ++ q.1 ++ [(7, 0)]) q.2)
    else if hd T = -8 then (if hd (adv T) < 0 then .inl (1, pl (adv T)) else if hd (adv T) = 0 then .inl (2, pl (adv T)) else prodT u f (acc ++ [(8, hd (adv T))]) (adv (adv T)))
    else .inr (acc, T)
def prodP (u : TL → PR) (T : TL) : PR := match u T with
  | .inl e => .inl e
  | .inr q => prodT u 500 q.1 q.2
def sumT (u : TL → PR) : Nat → TL → TL → PR
  | 0, _, _ => .inl (0, 0)
  | f + 1, acc, T => if hd T = -5 ∨ hd T = -6 then (match prodP u (adv T) with
      | .inl e => .inl e
      | .inr q => sumT u f (acc ++ q.1 ++ [(-hd T, 0)]) q.2)
    else .inr (acc, T)
def sumP (u : TL → PR) (T : TL) : PR := match prodP u T with
  | .inl e => .inl e
  | .inr q => sumT u 500 q.1 q.2
def atomP (T : TL) : PR := if 0 ≤ hd T then .inr ([(0, hd T)], adv T) else if -4 ≤ hd T then .inr ([(-hd T, 0)], adv T) else .inl (1, pl T)
/-- a unit, with r more ( that may be opened -/
def unitP : Nat → TL → PR
  | 0, T => if hd T = -16 then .inl (3, pl T) else atomP T
  | r + 1, T => if hd T = -16 then (match sumP (unitP r) (adv T) with
      | .inl e => .inl e
      | .inr q => if hd q.2 = -17 then .inr (q.1, adv q.2) else .inl (1, pl q.2))
    else atomP T
/-- a result of parsing T: what is left is a list of tokens too; the steps go up by one within w places; no more codes than tokens -/
def PG (w : Nat) (T : TL) (r : PR) : Prop := ∀ q, r = .inr q → TLok q.2 ∧ q.2.length + (flat q.1).length ≤ T.length ∧ 0 < (flat q.1).length ∧ q.1.length ≤ (flat q.1).length ∧ ∀ h, h + w ≤ 24 → okS q.1 h (h + 1)
theorem fl_len : ∀ c : TL, c.length ≤ (flat c).length
  | [] => Nat.le_refl _
  | s :: l => by
    have ih := fl_len l
    show l.length + 1 ≤ (fl1 s ++ flat l).length
    rw [List.length_append]
    have : 1 ≤ (fl1 s).length := by
      unfold fl1
      split
      · exact Nat.le_refl _
      · split
        · exact (by decide : 1 ≤ 2)
        · exact Nat.le_refl _
    omega
theorem okS_op {k : Int} {h : Nat} (h5 : 5 ≤ k) (h12 : k ≤ 12) (h8 : ¬ k = 8) (hh : 2 ≤ h) : okS [(k, 0)] h (h - 1) := by
  unfold okS
  rw [if_neg (show ¬ (k, (0 : Int)).1 = 0 by show ¬ k = 0; omega), if_neg (show ¬ (1 ≤ (k, (0 : Int)).1 ∧ (k, (0 : Int)).1 ≤ 4) by show ¬ (1 ≤ k ∧ k ≤ 4); omega), if_neg (show ¬ (k, (0 : Int)).1 = 8 from h8)]
  exact ⟨h5, h12, hh, rfl⟩
theorem flat_one {k : Int} (h0 : ¬ k = 0) (h8 : ¬ k = 8) : flat [(k, 0)] = [-k] := by
  show fl1 (k, 0) ++ [] = _
  unfold fl1
  rw [if_neg h0, if_neg h8]
  rfl
theorem flat_part (v : Int) : flat [(8, v)] = [v, -8] := rfl
theorem PG_atom {T : TL} (hT : TLok T) : PG 1 T (atomP T) := by
  intro q hq
  have hh := TLok_hd hT
  unfold atomP at hq
  by_cases e : 0 ≤ hd T
  · rw [if_pos e] at hq
    cases hq
    have hl := TLok_len hT (by omega)
    have ef : flat [((0 : Int), hd T)] = [hd T] := rfl
    refine ⟨TLok_adv hT, ?_, ?_, ?_, fun h hw => ?_⟩
    · show (adv T).length + (flat [((0 : Int), hd T)]).length ≤ T.length
      rw [ef]
      show (adv T).length + 1 ≤ T.length
      omega
    · show 0 < (flat [((0 : Int), hd T)]).length
      rw [ef]
      exact Nat.one_pos
    · exact fl_len _
    · unfold okS
      rw [if_pos rfl]
      exact ⟨e, hh.2, by omega, rfl⟩
  · rw [if_neg e] at hq
    by_cases e2 : -4 ≤ hd T
    · rw [if_pos e2] at hq
      cases hq
      have hl := TLok_len hT (by omega)
      have ef : flat [(-hd T, (0 : Int))] = [- -hd T] := flat_one (by omega) (by omega)
      refine ⟨TLok_adv hT, ?_, ?_, ?_, fun h hw => ?_⟩
      · show (adv T).length + (flat [(-hd T, (0 : Int))]).length ≤ T.length
        rw [ef]
        show (adv T).length + 1 ≤ T.length
        omega
      · show 0 < (flat [(-hd T, (0 : Int))]).length
        rw [ef]
        exact Nat.one_pos
      · exact fl_len _
      · unfold okS
        rw [if_neg (show ¬ (-hd T, (0 : Int)).1 = 0 by show ¬ -hd T = 0; omega), if_pos (show 1 ≤ (-hd T, (0 : Int)).1 ∧ (-hd T, (0 : Int)).1 ≤ 4 by show 1 ≤ -hd T ∧ -hd T ≤ 4; omega)]
        exact ⟨by omega, rfl⟩
    · rw [if_neg e2] at hq
      cases hq
/-- acc is a code for what stands between T0 and T -/
def AG (w : Nat) (T0 T acc : TL) : Prop := TLok T ∧ T.length + (flat acc).length ≤ T0.length ∧ 0 < (flat acc).length ∧ ∀ h, h + w ≤ 24 → okS acc h (h + 1)
theorem AG_of {w : Nat} {T : TL} {r : PR} (h : PG w T r) {q : TL × TL} (hq : r = .inr q) : AG w T q.2 q.1 := by
  obtain ⟨h1, h2, h3, h4, h5⟩ := h q hq
  exact ⟨h1, h2, h3, h5⟩
theorem AG.wide {w w' : Nat} {T0 T acc : TL} (hw : w ≤ w') (h : AG w T0 T acc) : AG w' T0 T acc := ⟨h.1, h.2.1, h.2.2.1, fun x hx => h.2.2.2 x (by omega)⟩
/-- one more operand and its operator -/
theorem AG_bin {w : Nat} {T0 T acc : TL} {k : Int} {q : TL × TL} (hA : AG (w + 1) T0 T acc) (hn : ¬ hd T = -19) (h5 : 5 ≤ k) (h12 : k ≤ 12) (h8 : ¬ k = 8) (hQ : AG w (adv T) q.2 q.1) : AG (w + 1) T0 q.2 (acc ++ q.1 ++ [(k, 0)]) := by
  have hl := TLok_len hA.1 hn
  refine ⟨hQ.1, ?_, ?_, fun h hw => ?_⟩
  · rw [flat_app, flat_app, List.length_append, List.length_append, flat_one (by omega) h8]
    have := hA.2.1
    have := hQ.2.1
    show q.2.length + ((flat acc).length + (flat q.1).length + 1) ≤ T0.length
    omega
  · rw [flat_app, List.length_append, flat_one (by omega) h8]
    show 0 < (flat (acc ++ q.1)).length + 1
    omega
  · refine okS_app _ _ h (h + 1 + 1) _ (okS_app _ _ h (h + 1) _ (hA.2.2.2 h hw) (hQ.2.2.2 (h + 1) (by omega))) ?_
    exact okS_op h5 h12 h8 (by omega)
theorem AG_part {w : Nat} {T0 T acc : TL} (hw2 : 2 ≤ w) (hA : AG w T0 T acc) (hn : hd T = -8) (hv : 1 ≤ hd (adv T)) : AG w T0 (adv (adv T)) (acc ++ [(8, hd (adv T))]) := by
  have hl := TLok_len hA.1 (by omega)
  have hT1 := TLok_adv hA.1
  have hl2 := TLok_len hT1 (by omega)
  have hh := TLok_hd hT1
  refine ⟨TLok_adv hT1, ?_, ?_, fun h hw => ?_⟩
  · rw [flat_app, List.length_append, flat_part]
    have := hA.2.1
    show (adv (adv T)).length + ((flat acc).length + 2) ≤ T0.length
    omega
  · rw [flat_app, List.length_append, flat_part]
    show 0 < (flat acc).length + 2
    omega
  · refine okS_app _ _ h (h + 1) _ (hA.2.2.2 h hw) ?_
    unfold okS
    rw [if_neg (show ¬ ((8 : Int), hd (adv T)).1 = 0 by show ¬ (8 : Int) = 0; decide), if_neg (show ¬ (1 ≤ ((8 : Int), hd (adv T)).1 ∧ ((8 : Int), hd (adv T)).1 ≤ 4) by show ¬ ((1 : Int) ≤ 8 ∧ (8 : Int) ≤ 4); decide), if_pos rfl]
    exact ⟨hv, hh.2, by omega, by omega, rfl⟩
theorem PG_prodT {u : TL → PR} {w : Nat} (hw : 1 ≤ w) (hu : ∀ T, TLok T → PG w T (u T)) {T0 : TL} : ∀ (f : Nat) (acc T : TL), AG (w + 1) T0 T acc → PG (w + 1) T0 (prodT u f acc T)
  | 0, _, _, _ => fun q hq => by cases hq
  | f + 1, acc, T, hA => by
    intro q hq
    unfold prodT at hq
    by_cases e : hd T = -7
    · rw [if_pos e] at hq
      cases hu' : u (adv T) with
      | inl x => rw [hu'] at hq; cases hq
      | inr y =>
        rw [hu'] at hq
        exact PG_prodT hw hu f _ _ (AG_bin hA (by omega) (by decide) (by decide) (by decide) (AG_of (hu _ (TLok_adv hA.1)) hu')) q hq
    · rw [if_neg e] at hq
      by_cases e2 : hd T = -8
      · rw [if_pos e2] at hq
        by_cases e3 : hd (adv T) < 0
        · rw [if_pos e3] at hq
          cases hq
        · rw [if_neg e3] at hq
          by_cases e4 : hd (adv T) = 0
          · rw [if_pos e4] at hq
            cases hq
          · rw [if_neg e4] at hq
            exact PG_prodT hw hu f _ _ (AG_part (by omega) hA e2 (by omega)) q hq
      · rw [if_neg e2] at hq
        cases hq
        exact ⟨hA.1, hA.2.1, hA.2.2.1, fl_len _, hA.2.2.2⟩
theorem PG_prodP {u : TL → PR} {w : Nat} (hw : 1 ≤ w) (hu : ∀ T, TLok T → PG w T (u T)) {T : TL} (hT : TLok T) : PG (w + 1) T (prodP u T) := by
  unfold prodP
  cases hu' : u T with
  | inl x => exact fun q hq => by cases hq
  | inr y => exact PG_prodT hw hu 500 _ _ ((AG_of (hu T hT) hu').wide (by omega))
theorem PG_sumT {u : TL → PR} {w : Nat} (hw : 1 ≤ w) (hu : ∀ T, TLok T → PG w T (u T)) {T0 : TL} : ∀ (f : Nat) (acc T : TL), AG (w + 2) T0 T acc → PG (w + 2) T0 (sumT u f acc T)
  | 0, _, _, _ => fun q hq => by cases hq
  | f + 1, acc, T, hA => by
    intro q hq
    unfold sumT at hq
    by_cases e : hd T = -5 ∨ hd T = -6
    · rw [if_pos e] at hq
      cases hu' : prodP u (adv T) with
      | inl x => rw [hu'] at hq; cases hq
      | inr y =>
        rw [hu'] at hq
        exact PG_sumT hw hu f _ _ (AG_bin hA (by omega) (by omega) (by omega) (by omega) (AG_of (PG_prodP hw hu (TLok_adv hA.1)) hu')) q hq
    · rw [if_neg e] at hq
      cases hq
      exact ⟨hA.1, hA.2.1, hA.2.2.1, fl_len _, hA.2.2.2⟩
theorem PG_sumP {u : TL → PR} {w : Nat} (hw : 1 ≤ w) (hu : ∀ T, TLok T → PG w T (u T)) {T : TL} (hT : TLok T) : PG (w + 2) T (sumP u T) := by
  unfold sumP
  cases hu' : prodP u T with
  | inl x => exact fun q hq => by cases hq
  | inr y => exact PG_sumT hw hu 500 _ _ ((AG_of (PG_prodP hw hu hT) hu').wide (by omega))
theorem PG_unitP : ∀ (r : Nat) (T : TL), TLok T → PG (2 * r + 1) T (unitP r T)
  | 0, T, hT => by
    unfold unitP
    by_cases e : hd T = -16
    · rw [if_pos e]
      exact fun q hq => by cases hq
    · rw [if_neg e]
      exact PG_atom hT
  | r + 1, T, hT => by
    unfold unitP
    by_cases e : hd T = -16
    · rw [if_pos e]
      have hl := TLok_len hT (by omega)
      cases hs : sumP (unitP r) (adv T) with
      | inl x => exact fun q hq => by cases hq
      | inr y =>
        intro q hq
        have hq' : (if hd y.2 = -17 then (Sum.inr (y.1, adv y.2) : PR) else .inl (1, pl y.2)) = .inr q := hq
        obtain ⟨h1, h2, h3, h4, h5⟩ := PG_sumP (by omega) (PG_unitP r) (TLok_adv hT) y hs
        by_cases e2 : hd y.2 = -17
        · rw [if_pos e2] at hq'
          cases hq'
          have hl2 := TLok_len h1 (by omega)
          refine ⟨TLok_adv h1, ?_, h3, h4, fun h hw => h5 h (by omega)⟩
          show (adv y.2).length + (flat y.1).length ≤ T.length
          omega
        · rw [if_neg e2] at hq'
          cases hq'
    · rw [if_neg e]
      intro q hq
      obtain ⟨h1, h2, h3, h4, h5⟩ := PG_atom hT q hq
      exact ⟨h1, h2, h3, h4, fun h hw => h5 h (by omega)⟩
/-- E, from outside of all ( ) -/
def exprP (T : TL) : PR := sumP (unitP 8) T
theorem PG_expr {T : TL} (hT : TLok T) : PG 19 T (exprP T) := PG_sumP (by decide) (PG_unitP 8) hT
/-- C -/
def condP (T : TL) : PR := match exprP T with
  | .inl e => .inl e
  | .inr q => if -11 ≤ hd q.2 ∧ hd q.2 ≤ -9 then (match exprP (adv q.2) with
      | .inl e => .inl e
      | .inr q2 => .inr (q.1 ++ q2.1 ++ [(-hd q.2, 0)], q2.2)) else .inl (1, pl q.2)
theorem PG_cond {T : TL} (hT : TLok T) : PG 20 T (condP T) := by
  unfold condP
  cases h1 : exprP T with
  | inl x => exact fun q hq => by cases hq
  | inr y =>
    intro q hq
    have hq' : (if -11 ≤ hd y.2 ∧ hd y.2 ≤ -9 then (match exprP (adv y.2) with
      | .inl e => (Sum.inl e : PR)
      | .inr q2 => .inr (y.1 ++ q2.1 ++ [(-hd y.2, 0)], q2.2)) else .inl (1, pl y.2)) = .inr q := hq
    have hA := AG_of (PG_expr hT) h1
    by_cases e : -11 ≤ hd y.2 ∧ hd y.2 ≤ -9
    · rw [if_pos e] at hq'
      cases h2 : exprP (adv y.2) with
      | inl x => rw [h2] at hq'; cases hq'
      | inr z =>
        rw [h2] at hq'
        cases hq'
        have hB := AG_bin (k := -hd y.2) (hA.wide (by decide)) (by omega) (by omega) (by omega) (by omega) (AG_of (PG_expr (TLok_adv hA.1)) h2)
        exact ⟨hB.1, hB.2.1, hB.2.2.1, fl_len _, hB.2.2.2⟩
    · rw [if_neg e] at hq'
      cases hq'
def condsT : Nat → TL → TL → PR
  | 0, _, _ => .inl (0, 0)
  | f + 1, acc, T => if hd T = -12 then (match condP (adv T) with
      | .inl e => .inl e
      | .inr q => condsT f (acc ++ q.1 ++ [(12, 0)]) q.2) else .inr (acc, T)
/-- B -/
def condsP (T : TL) : PR := match condP T with
  | .inl e => .inl e
  | .inr q => condsT 500 q.1 q.2
theorem PG_condsT {T0 : TL} : ∀ (f : Nat) (acc T : TL), AG 21 T0 T acc → PG 21 T0 (condsT f acc T)
  | 0, _, _, _ => fun q hq => by cases hq
  | f + 1, acc, T, hA => by
    intro q hq
    unfold condsT at hq
    by_cases e : hd T = -12
    · rw [if_pos e] at hq
      cases hu' : condP (adv T) with
      | inl x => rw [hu'] at hq; cases hq
      | inr y =>
        rw [hu'] at hq
        exact PG_condsT f _ _ (AG_bin hA (by omega) (by decide) (by decide) (by decide) (AG_of (PG_cond (TLok_adv hA.1)) hu')) q hq
    · rw [if_neg e] at hq
      cases hq
      exact ⟨hA.1, hA.2.1, hA.2.2.1, fl_len _, hA.2.2.2⟩
theorem PG_conds {T : TL} (hT : TLok T) : PG 21 T (condsP T) := by
  unfold condsP
  cases hu' : condP T with
  | inl x => exact fun q hq => by cases hq
  | inr y => exact PG_condsT 500 _ _ ((AG_of (PG_cond hT) hu').wide (by decide))
/-- one rule; i rules stand already -/
def ruleP (i : Nat) (T : TL) : (Int × Int) ⊕ ((TL × TL) × TL) := if ¬ hd T = -13 then .inl (1, pl T) else if i = 10 then .inl (3, pl T) else (match exprP (adv T) with
  | .inl e => .inl e
  | .inr g => if ¬ hd g.2 = -14 then .inl (1, pl g.2) else (match condsP (adv g.2) with
    | .inl e => .inl e
    | .inr w => if ¬ hd w.2 = -15 then .inl (1, pl w.2) else .inr ((g.1, w.1), adv w.2)))
def rulesP : Nat → List (TL × TL) → TL → (Int × Int) ⊕ List (TL × TL)
  | 0, _, _ => .inl (0, 0)
  | f + 1, acc, T => if hd T = -19 then .inr acc else (match ruleP acc.length T with
    | .inl e => .inl e
    | .inr q => rulesP f (acc ++ [q.1]) q.2)
theorem ruleP_ok {i : Nat} {T : TL} (hT : TLok T) {q : (TL × TL) × TL} (h : ruleP i T = .inr q) : TLok q.2 ∧ q.2.length + (flat q.1.1).length + (flat q.1.2).length + 3 ≤ T.length ∧ okS q.1.1 0 1 ∧ okS q.1.2 0 1 ∧ ¬ i = 10 := by
  unfold ruleP at h
  by_cases e : hd T = -13
  · rw [if_neg (fun x => x e)] at h
    by_cases e2 : i = 10
    · rw [if_pos e2] at h
      cases h
    · rw [if_neg e2] at h
      have hl := TLok_len hT (by omega)
      cases hg : exprP (adv T) with
      | inl x => rw [hg] at h; cases h
      | inr g =>
        rw [hg] at h
        obtain ⟨g1, g2, g3, g4, g5⟩ := PG_expr (TLok_adv hT) g hg
        by_cases e3 : hd g.2 = -14
        · have h' : (if ¬ hd g.2 = -14 then (Sum.inl (1, pl g.2) : (Int × Int) ⊕ ((TL × TL) × TL)) else (match condsP (adv g.2) with
            | .inl e => .inl e
            | .inr w => if ¬ hd w.2 = -15 then .inl (1, pl w.2) else .inr ((g.1, w.1), adv w.2))) = .inr q := h
          rw [if_neg (fun x => x e3)] at h'
          have hl2 := TLok_len g1 (by omega)
          cases hw : condsP (adv g.2) with
          | inl x => rw [hw] at h'; cases h'
          | inr w =>
            rw [hw] at h'
            obtain ⟨w1, w2, w3, w4, w5⟩ := PG_conds (TLok_adv g1) w hw
            by_cases e4 : hd w.2 = -15
            · have h'' : (if ¬ hd w.2 = -15 then (Sum.inl (1, pl w.2) : (Int × Int) ⊕ ((TL × TL) × TL)) else .inr ((g.1, w.1), adv w.2)) = .inr q := h'
              rw [if_neg (fun x => x e4)] at h''
              cases h''
              have hl3 := TLok_len w1 (by omega)
              refine ⟨TLok_adv w1, ?_, g5 0 (by decide), w5 0 (by decide), e2⟩
              show (adv w.2).length + (flat g.1).length + (flat w.1).length + 3 ≤ T.length
              omega
            · have h'' : (if ¬ hd w.2 = -15 then (Sum.inl (1, pl w.2) : (Int × Int) ⊕ ((TL × TL) × TL)) else .inr ((g.1, w.1), adv w.2)) = .inr q := h'
              rw [if_pos e4] at h''
              cases h''
        · have h' : (if ¬ hd g.2 = -14 then (Sum.inl (1, pl g.2) : (Int × Int) ⊕ ((TL × TL) × TL)) else (match condsP (adv g.2) with
            | .inl e => .inl e
            | .inr w => if ¬ hd w.2 = -15 then .inl (1, pl w.2) else .inr ((g.1, w.1), adv w.2))) = .inr q := h
          rw [if_pos e3] at h'
          cases h'
  · rw [if_pos e] at h
    cases h
/-! what the tokens of a tape are -/
theorem sgn_range (c : Int) : -18 ≤ sgn c ∧ sgn c ≤ 9999 := by
  unfold sgn
  repeat (first | omega | split)
theorem wcode_range (by_ : Int → Int) (a b : Int) : -18 ≤ wcode by_ a b ∧ wcode by_ a b ≤ 9999 := by
  unfold wcode
  repeat (first | omega | split)
theorem tok1_code (by_ : Int → Int) {len p : Int} (h : p < len) : -18 ≤ (tok1 by_ len p).1 ∧ (tok1 by_ len p).1 ≤ 9999 := by
  unfold tok1
  split
  · exact wcode_range _ _ _
  · split
    · rename_i h1 h2
      show -18 ≤ dcode by_ p (run0 isDig by_ len p) ∧ dcode by_ p (run0 isDig by_ len p) ≤ 9999
      unfold dcode
      have hr := run0_range isDig by_ (Int.le_of_lt h)
      split
      · rename_i h4
        have := numv_range by_ p (run0 isDig by_ len p - p).toNat (by omega) (fun j g0 g1 => runF_in isDig by_ _ p j g0 (by show j < run0 isDig by_ len p; omega))
        constructor
        · omega
        · have h5 := this.2
          repeat (first | omega | split at h5)
      · decide
    · exact sgn_range _
theorem TLok_cons {x : Int × Int} {T : TL} (hx : -18 ≤ x.1 ∧ x.1 ≤ 9999) (hT : TLok T) : TLok (x :: T) := by
  cases T with
  | nil => exact hT.elim
  | cons y t => exact ⟨hx, hT⟩
theorem TLok_toks (by_ : Int → Int) (len p : Int) : TLok (toks by_ len p) := by
  have : ∀ (k : Nat) (p : Int), (len - p).toNat ≤ k → TLok (toks by_ len p) := by
    intro k
    induction k with
    | zero =>
      intro p h
      rw [toks_end by_ (by omega)]
      rfl
    | succ k ih =>
      intro p h
      by_cases e : len ≤ p
      · rw [toks_end by_ e]
        rfl
      · by_cases e2 : by_ p = 32 ∨ by_ p = 10
        · rw [toks_blank by_ (by omega) e2]
          exact ih _ (by omega)
        · rw [toks_tok by_ (by omega) e2]
          have := tok1_range by_ (len := len) (p := p) (by omega)
          exact TLok_cons (tok1_code by_ (by omega)) (ih _ (by omega))
  exact this _ p (Nat.le_refl _)
