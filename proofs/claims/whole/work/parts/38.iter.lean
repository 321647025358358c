/-! ===== the class's way through an E: with a stack of what waits ===== -/
def bd (r : PR) (k : TL → TL → PR) : PR := match r with
  | .inl e => .inl e
  | .inr q => k q.1 q.2
def pfx (p : TL) (r : PR) : PR := bd r (fun a t => .inr (p ++ a, t))
theorem bd_l (e : Int × Int) (k : TL → TL → PR) : bd (.inl e) k = .inl e := rfl
theorem bd_r (q : TL × TL) (k : TL → TL → PR) : bd (.inr q) k = k q.1 q.2 := rfl
theorem bd_bd (r : PR) (k k' : TL → TL → PR) : bd (bd r k) k' = bd r (fun a t => bd (k a t) k') := by cases r <;> rfl
theorem bd_pfx (p : TL) (r : PR) (k : TL → TL → PR) : bd (pfx p r) k = bd r (fun a t => k (p ++ a) t) := by cases r <;> rfl
theorem bd_congr {r : PR} {k k' : TL → TL → PR} (h : ∀ q, r = .inr q → k q.1 q.2 = k' q.1 q.2) : bd r k = bd r k' := by
  cases r with
  | inl e => rfl
  | inr q => exact h q rfl
theorem prodT_7 {u : TL → PR} {f : Nat} {acc T : TL} (h : hd T = -7) : prodT u (f + 1) acc T = bd (u (adv T)) (fun a t => prodT u f (acc ++ a ++ [(7, 0)]) t) := by
  show (if hd T = -7 then _ else _) = _
  rw [if_pos h]
  cases u (adv T) <;> rfl
theorem prodT_8 {u : TL → PR} {f : Nat} {acc T : TL} (h : hd T = -8) : prodT u (f + 1) acc T = (if hd (adv T) < 0 then .inl (1, pl (adv T)) else if hd (adv T) = 0 then .inl (2, pl (adv T)) else prodT u f (acc ++ [(8, hd (adv T))]) (adv (adv T))) := by
  show (if hd T = -7 then _ else _) = _
  rw [if_neg (by omega), if_pos h]
theorem prodT_no {u : TL → PR} {f : Nat} {acc T : TL} (h7 : ¬ hd T = -7) (h8 : ¬ hd T = -8) : prodT u (f + 1) acc T = .inr (acc, T) := by
  show (if hd T = -7 then _ else _) = _
  rw [if_neg h7, if_neg h8]
theorem prodP_bd (u : TL → PR) (T : TL) : prodP u T = bd (u T) (fun a t => prodT u 500 a t) := by
  unfold prodP
  cases u T <;> rfl
theorem sumT_56 {u : TL → PR} {f : Nat} {acc T : TL} (h : hd T = -5 ∨ hd T = -6) : sumT u (f + 1) acc T = bd (prodP u (adv T)) (fun a t => sumT u f (acc ++ a ++ [(-hd T, 0)]) t) := by
  show (if hd T = -5 ∨ hd T = -6 then _ else _) = _
  rw [if_pos h]
  cases prodP u (adv T) <;> rfl
theorem sumT_no {u : TL → PR} {f : Nat} {acc T : TL} (h : ¬ (hd T = -5 ∨ hd T = -6)) : sumT u (f + 1) acc T = .inr (acc, T) := if_neg h
theorem sumP_bd (u : TL → PR) (T : TL) : sumP u T = bd (prodP u T) (fun a t => sumT u 500 a t) := by
  unfold sumP
  cases prodP u T <;> rfl
theorem pfx_ite {c : Prop} [Decidable c] (p : TL) (a b : PR) : pfx p (if c then a else b) = if c then pfx p a else pfx p b := by
  by_cases h : c
  · rw [if_pos h, if_pos h]
  · rw [if_neg h, if_neg h]
theorem pfx_bd (p : TL) (r : PR) (k : TL → TL → PR) : pfx p (bd r k) = bd r (fun a t => pfx p (k a t)) := by cases r <;> rfl
theorem prodT_pfx (u : TL → PR) (p : TL) : ∀ (f : Nat) (acc T : TL), prodT u f (p ++ acc) T = pfx p (prodT u f acc T)
  | 0, _, _ => rfl
  | f + 1, acc, T => by
    by_cases h7 : hd T = -7
    · rw [prodT_7 h7, prodT_7 h7, pfx_bd]
      refine bd_congr (fun q _ => ?_)
      rw [← prodT_pfx u p f]
      simp only [List.append_assoc]
    · by_cases h8 : hd T = -8
      · rw [prodT_8 h8, prodT_8 h8, pfx_ite, pfx_ite, ← prodT_pfx u p f, List.append_assoc]
        rfl
      · rw [prodT_no h7 h8, prodT_no h7 h8]
        rfl
theorem sumT_pfx (u : TL → PR) (p : TL) : ∀ (f : Nat) (acc T : TL), sumT u f (p ++ acc) T = pfx p (sumT u f acc T)
  | 0, _, _ => rfl
  | f + 1, acc, T => by
    by_cases h : hd T = -5 ∨ hd T = -6
    · rw [sumT_56 h, sumT_56 h, pfx_bd]
      refine bd_congr (fun q _ => ?_)
      rw [← sumT_pfx u p f]
      simp only [List.append_assoc]
    · rw [sumT_no h, sumT_no h]
      rfl
theorem prodT_fuel {u : TL → PR} {w : Nat} (hu : ∀ T, TLok T → PG w T (u T)) : ∀ (f f' : Nat) (acc T : TL), TLok T → T.length < f → T.length < f' → prodT u f acc T = prodT u f' acc T
  | 0, _, _, _, _, h, _ => absurd h (Nat.not_lt_zero _)
  | _ + 1, 0, _, _, _, _, h => absurd h (Nat.not_lt_zero _)
  | f + 1, f' + 1, acc, T, hT, h1, h2 => by
    by_cases h7 : hd T = -7
    · rw [prodT_7 h7, prodT_7 h7]
      refine bd_congr (fun q hq => ?_)
      have hl := TLok_len hT (by omega)
      obtain ⟨p1, p2, p3, p4, p5⟩ := hu _ (TLok_adv hT) q hq
      exact prodT_fuel hu f f' _ _ p1 (by omega) (by omega)
    · by_cases h8 : hd T = -8
      · rw [prodT_8 h8, prodT_8 h8]
        have hl := TLok_len hT (by omega)
        by_cases h0 : hd (adv T) < 0
        · rw [if_pos h0, if_pos h0]
        · rw [if_neg h0, if_neg h0]
          have hl2 := TLok_len (TLok_adv hT) (by omega)
          rw [prodT_fuel hu f f' _ _ (TLok_adv (TLok_adv hT)) (by omega) (by omega)]
      · rw [prodT_no h7 h8, prodT_no h7 h8]
theorem sumT_fuel {u : TL → PR} {w : Nat} (hw : 1 ≤ w) (hu : ∀ T, TLok T → PG w T (u T)) : ∀ (f f' : Nat) (acc T : TL), TLok T → T.length < f → T.length < f' → sumT u f acc T = sumT u f' acc T
  | 0, _, _, _, _, h, _ => absurd h (Nat.not_lt_zero _)
  | _ + 1, 0, _, _, _, _, h => absurd h (Nat.not_lt_zero _)
  | f + 1, f' + 1, acc, T, hT, h1, h2 => by
    by_cases h7 : hd T = -5 ∨ hd T = -6
    · rw [sumT_56 h7, sumT_56 h7]
      refine bd_congr (fun q hq => ?_)
      have hl := TLok_len hT (by omega)
      obtain ⟨p1, p2, p3, p4, p5⟩ := PG_prodP hw hu (TLok_adv hT) q hq
      exact sumT_fuel hw hu f f' _ _ p1 (by omega) (by omega)
    · rw [sumT_no h7, sumT_no h7]
/-- what waits at one level: (0, + or -, and 0 or *) -/
abbrev Fr : Type := Int × Int
def emS (f : Fr) : TL := if f.2 = 7 then [(7, 0)] else []
def emP (f : Fr) : TL := if f.1 = 0 then [] else [(f.1, 0)]
def FrOk (f : Fr) : Prop := (f.1 = 0 ∨ f.1 = 5 ∨ f.1 = 6) ∧ (f.2 = 0 ∨ f.2 = 7)
/-- behind a unit, to the end of this level -/
def aft (u : TL → PR) (f : Fr) (acc T : TL) : PR := bd (prodT u 500 (acc ++ emS f) T) (fun a t => sumT u 500 (a ++ emP f) t)
/-- behind a unit, to the end of all -/
def Kf : Fr → List Fr → TL → TL → PR
  | f, [], acc, T => aft (unitP 8) f acc T
  | f, g :: gs, acc, T => bd (aft (unitP (8 - (gs.length + 1))) f acc T) (fun a t => if hd t = -17 then Kf g gs a (adv t) else .inl (1, pl t))
/-- a unit comes -/
def KU (f : Fr) (gs : List Fr) (acc T : TL) : PR := bd (unitP (8 - gs.length) T) (fun a t => Kf f gs (acc ++ a) t)
def fin_ (gs : List Fr) (a t : TL) : PR := match gs with
  | [] => .inr (a, t)
  | g :: gs => if hd t = -17 then Kf g gs a (adv t) else .inl (1, pl t)
theorem Kf_eq (f : Fr) (gs : List Fr) (acc T : TL) : Kf f gs acc T = bd (aft (unitP (8 - gs.length)) f acc T) (fin_ gs) := by
  cases gs with
  | nil =>
    show aft (unitP 8) f acc T = bd (aft (unitP 8) f acc T) (fin_ [])
    cases aft (unitP 8) f acc T <;> rfl
  | cons g gs => rfl
theorem exprP_KU (T : TL) : exprP T = KU (0, 0) [] [] T := by
  unfold exprP KU
  rw [sumP_bd, prodP_bd, bd_bd]
  refine bd_congr (fun q _ => ?_)
  show _ = aft (unitP 8) (0, 0) ([] ++ q.1) q.2
  unfold aft
  show _ = bd (prodT (unitP 8) 500 ([] ++ q.1 ++ []) q.2) (fun a t => sumT (unitP 8) 500 (a ++ []) t)
  rw [List.nil_append, List.append_nil]
  refine bd_congr (fun q _ => ?_)
  rw [List.append_nil]
theorem KU_open {f : Fr} {gs : List Fr} {acc T : TL} (h : hd T = -16) (hg : gs.length < 8) : KU f gs acc T = KU (0, 0) (f :: gs) acc (adv T) := by
  obtain ⟨r, hr⟩ : ∃ r, 8 - gs.length = r + 1 := ⟨7 - gs.length, by omega⟩
  have e : 8 - (f :: gs).length = r := by rw [List.length_cons]; omega
  have e2 : 8 - (gs.length + 1) = r := by omega
  unfold KU
  rw [hr, e]
  have eu : unitP (r + 1) T = bd (sumP (unitP r) (adv T)) (fun a t => if hd t = -17 then .inr (a, adv t) else .inl (1, pl t)) := by
    show (if hd T = -16 then _ else _) = _
    rw [if_pos h]
    cases sumP (unitP r) (adv T) <;> rfl
  rw [eu, sumP_bd, prodP_bd, bd_bd, bd_bd, bd_bd]
  refine bd_congr (fun q _ => ?_)
  show _ = bd (aft (unitP (8 - (gs.length + 1))) (0, 0) (acc ++ q.1) q.2) (fun a t => if hd t = -17 then Kf f gs a (adv t) else .inl (1, pl t))
  rw [e2]
  unfold aft
  show _ = bd (bd (prodT (unitP r) 500 (acc ++ q.1 ++ []) q.2) (fun a t => sumT (unitP r) 500 (a ++ []) t)) _
  rw [List.append_nil, prodT_pfx, bd_pfx, bd_bd]
  refine bd_congr (fun p _ => ?_)
  rw [List.append_nil, sumT_pfx, bd_pfx]
  refine bd_congr (fun s _ => ?_)
  by_cases h17 : hd s.2 = -17
  · rw [if_pos h17, if_pos h17]
    rfl
  · rw [if_neg h17, if_neg h17]
    rfl
theorem KU_deep {f : Fr} {gs : List Fr} {acc T : TL} (h : hd T = -16) (hg : gs.length = 8) : KU f gs acc T = .inl (3, pl T) := by
  unfold KU
  rw [hg]
  show bd (if hd T = -16 then _ else _) _ = _
  rw [if_pos h]
  rfl
theorem KU_atom {f : Fr} {gs : List Fr} {acc T : TL} (h : ¬ hd T = -16) : KU f gs acc T = bd (atomP T) (fun a t => Kf f gs (acc ++ a) t) := by
  unfold KU
  cases 8 - gs.length with
  | zero =>
    show bd (if hd T = -16 then _ else _) _ = _
    rw [if_neg h]
  | succ r =>
    show bd (if hd T = -16 then _ else _) _ = _
    rw [if_neg h]
theorem KU_no {f : Fr} {gs : List Fr} {acc T : TL} (h : ¬ hd T = -16) (h4 : hd T < -4) : KU f gs acc T = .inl (1, pl T) := by
  rw [KU_atom h]
  unfold atomP
  rw [if_neg (by omega), if_neg (by omega)]
  rfl
def atS (c : Int) : Int × Int := if 0 ≤ c then (0, c) else (-c, 0)
theorem KU_unit {f : Fr} {gs : List Fr} {acc T : TL} (h4 : -4 ≤ hd T) : KU f gs acc T = Kf f gs (acc ++ [atS (hd T)]) (adv T) := by
  rw [KU_atom (by omega)]
  unfold atomP atS
  by_cases h0 : 0 ≤ hd T
  · rw [if_pos h0, if_pos h0]
    rfl
  · rw [if_neg h0, if_neg h0, if_pos h4]
    rfl
theorem Kf_star {f : Fr} {gs : List Fr} {acc T : TL} (hT : TLok T) (hl : T.length ≤ 402) (h : hd T = -7) : Kf f gs acc T = KU (f.1, 7) gs (acc ++ emS f) (adv T) := by
  have hl1 := TLok_len hT (by omega)
  rw [Kf_eq]
  unfold KU aft
  rw [prodT_7 h, bd_bd, bd_bd]
  refine bd_congr (fun q hq => ?_)
  obtain ⟨p1, p2, p3, p4, p5⟩ := PG_unitP _ _ (TLok_adv hT) q hq
  rw [Kf_eq]
  unfold aft
  rw [prodT_fuel (PG_unitP (8 - gs.length)) 499 500 _ _ p1 (by omega) (by omega), bd_bd]
  rfl
theorem Kf_slash {f : Fr} {gs : List Fr} {acc T : TL} (hT : TLok T) (hl : T.length ≤ 402) (h : hd T = -8) : Kf f gs acc T = (if hd (adv T) < 0 then .inl (1, pl (adv T)) else if hd (adv T) = 0 then .inl (2, pl (adv T)) else Kf (f.1, 0) gs (acc ++ emS f ++ [(8, hd (adv T))]) (adv (adv T))) := by
  have hl1 := TLok_len hT (by omega)
  rw [Kf_eq]
  unfold aft
  rw [prodT_8 h]
  by_cases h0 : hd (adv T) < 0
  · rw [if_pos h0, if_pos h0]
    rfl
  · rw [if_neg h0, if_neg h0]
    by_cases h1 : hd (adv T) = 0
    · rw [if_pos h1, if_pos h1]
      rfl
    · rw [if_neg h1, if_neg h1, Kf_eq]
      have hl2 := TLok_len (TLok_adv hT) (by omega)
      unfold aft
      rw [prodT_fuel (PG_unitP (8 - gs.length)) 499 500 _ _ (TLok_adv (TLok_adv hT)) (by omega) (by omega)]
      show _ = bd (bd (prodT (unitP (8 - gs.length)) 500 (acc ++ emS f ++ [(8, hd (adv T))] ++ []) (adv (adv T))) _) _
      rw [List.append_nil]
      rfl
theorem Kf_plus {f : Fr} {gs : List Fr} {acc T : TL} (hT : TLok T) (hl : T.length ≤ 402) (h : hd T = -5 ∨ hd T = -6) : Kf f gs acc T = KU (-hd T, 0) gs (acc ++ emS f ++ emP f) (adv T) := by
  have hl1 := TLok_len hT (by omega)
  rw [Kf_eq]
  unfold KU aft
  rw [prodT_no (by omega) (by omega), bd_r, sumT_56 h, prodP_bd, bd_bd, bd_bd]
  refine bd_congr (fun q hq => ?_)
  obtain ⟨p1, p2, p3, p4, p5⟩ := PG_unitP _ _ (TLok_adv hT) q hq
  rw [Kf_eq]
  unfold aft
  show _ = bd (bd (prodT (unitP (8 - gs.length)) 500 (acc ++ emS f ++ emP f ++ q.1 ++ []) q.2) (fun a t => sumT (unitP (8 - gs.length)) 500 (a ++ emP (-hd T, 0)) t)) _
  rw [List.append_nil, prodT_pfx, bd_pfx, bd_bd]
  have e : emP (-hd T, 0) = [(-hd T, 0)] := if_neg (by show ¬ -hd T = 0; omega)
  rw [e]
  refine bd_congr (fun s hs => ?_)
  obtain ⟨r1, r2, r3, r4, r5⟩ := PG_prodT (T0 := adv T) (w := 2 * (8 - gs.length) + 1) (by omega) (PG_unitP (8 - gs.length)) 500 q.1 q.2 ((AG_of (PG_unitP _ _ (TLok_adv hT)) hq).wide (by omega)) s hs
  rw [sumT_fuel (w := 2 * (8 - gs.length) + 1) (by omega) (PG_unitP (8 - gs.length)) 499 500 _ _ r1 (by omega) (by omega)]
theorem Kf_end {f : Fr} {gs : List Fr} {acc T : TL} (h5 : ¬ hd T = -5) (h6 : ¬ hd T = -6) (h7 : ¬ hd T = -7) (h8 : ¬ hd T = -8) : Kf f gs acc T = fin_ gs (acc ++ emS f ++ emP f) T := by
  rw [Kf_eq]
  unfold aft
  rw [prodT_no h7 h8, bd_r]
  show bd (sumT (unitP (8 - gs.length)) 500 (acc ++ emS f ++ emP f) T) (fin_ gs) = _
  rw [sumT_no (by omega), bd_r]
theorem Kf_close {f g : Fr} {gs : List Fr} {acc T : TL} (h : hd T = -17) : Kf f (g :: gs) acc T = Kf g gs (acc ++ emS f ++ emP f) (adv T) := by
  rw [Kf_end (by omega) (by omega) (by omega) (by omega)]
  exact if_pos h
theorem Kf_out {f : Fr} {acc T : TL} (h5 : ¬ hd T = -5) (h6 : ¬ hd T = -6) (h7 : ¬ hd T = -7) (h8 : ¬ hd T = -8) : Kf f [] acc T = .inr (acc ++ emS f ++ emP f, T) := Kf_end h5 h6 h7 h8
theorem Kf_bad {f g : Fr} {gs : List Fr} {acc T : TL} (h5 : ¬ hd T = -5) (h6 : ¬ hd T = -6) (h7 : ¬ hd T = -7) (h8 : ¬ hd T = -8) (h17 : ¬ hd T = -17) : Kf f (g :: gs) acc T = .inl (1, pl T) := by
  rw [Kf_end h5 h6 h7 h8]
  exact if_neg h17
/-! the stack -/
def enc (f : Fr) : List Int := (if f.2 = 7 then [-7] else []) ++ (if f.1 = 0 then [] else [-f.1])
def encs : Fr → List Fr → List Int
  | f, [] => enc f
  | f, g :: gs => enc f ++ -16 :: encs g gs
theorem enc_len {f : Fr} : (enc f).length ≤ 2 := by
  unfold enc
  rw [List.length_append]
  have h1 : (if f.2 = 7 then ([-7] : List Int) else []).length ≤ 1 := by split <;> decide
  have h2 : (if f.1 = 0 then ([] : List Int) else [-f.1]).length ≤ 1 := by
    split
    · decide
    · exact Nat.le_refl 1
  omega
theorem encs_len : ∀ (gs : List Fr) (f : Fr), (encs f gs).length ≤ 2 + 3 * gs.length
  | [], f => enc_len
  | g :: gs, f => by
    have ih := encs_len gs g
    have := enc_len (f := f)
    show (enc f ++ -16 :: encs g gs).length ≤ 2 + 3 * (gs.length + 1)
    rw [List.length_append, List.length_cons]
    omega
