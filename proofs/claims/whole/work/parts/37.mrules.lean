/-! ===== the reference's rules ===== -/
theorem ruleP_1 {i : Nat} {T : TL} (h : ¬ hd T = -13) : ruleP i T = .inl (1, pl T) := if_pos h
theorem ruleP_2 {i : Nat} {T : TL} (h : hd T = -13) (hi : i = 10) : ruleP i T = .inl (3, pl T) := by
  unfold ruleP
  rw [if_neg (fun x => x h), if_pos hi]
theorem ruleP_3 {i : Nat} {T : TL} {e : Int × Int} (h : hd T = -13) (hi : ¬ i = 10) (he : exprP (adv T) = .inl e) : ruleP i T = .inl e := by
  unfold ruleP
  rw [if_neg (fun x => x h), if_neg hi, he]
theorem ruleP_4 {i : Nat} {T : TL} {g : TL × TL} (h : hd T = -13) (hi : ¬ i = 10) (hg : exprP (adv T) = .inr g) (h4 : ¬ hd g.2 = -14) : ruleP i T = .inl (1, pl g.2) := by
  unfold ruleP
  rw [if_neg (fun x => x h), if_neg hi, hg]
  exact if_pos h4
theorem ruleP_5 {i : Nat} {T : TL} {g : TL × TL} {e : Int × Int} (h : hd T = -13) (hi : ¬ i = 10) (hg : exprP (adv T) = .inr g) (h4 : hd g.2 = -14) (he : condsP (adv g.2) = .inl e) : ruleP i T = .inl e := by
  unfold ruleP
  rw [if_neg (fun x => x h), if_neg hi, hg]
  show (if ¬ hd g.2 = -14 then _ else _) = _
  rw [if_neg (fun x => x h4), he]
theorem ruleP_6 {i : Nat} {T : TL} {g w : TL × TL} (h : hd T = -13) (hi : ¬ i = 10) (hg : exprP (adv T) = .inr g) (h4 : hd g.2 = -14) (hw : condsP (adv g.2) = .inr w) (h5 : ¬ hd w.2 = -15) : ruleP i T = .inl (1, pl w.2) := by
  unfold ruleP
  rw [if_neg (fun x => x h), if_neg hi, hg]
  show (if ¬ hd g.2 = -14 then _ else _) = _
  rw [if_neg (fun x => x h4), hw]
  exact if_pos h5
theorem ruleP_7 {i : Nat} {T : TL} {g w : TL × TL} (h : hd T = -13) (hi : ¬ i = 10) (hg : exprP (adv T) = .inr g) (h4 : hd g.2 = -14) (hw : condsP (adv g.2) = .inr w) (h5 : hd w.2 = -15) : ruleP i T = .inr ((g.1, w.1), adv w.2) := by
  unfold ruleP
  rw [if_neg (fun x => x h), if_neg hi, hg]
  show (if ¬ hd g.2 = -14 then _ else _) = _
  rw [if_neg (fun x => x h4), hw]
  exact if_neg (fun x => x h5)
theorem condsP_1 {T : TL} {e : Int × Int} (h : condP T = .inl e) : condsP T = .inl e := by unfold condsP; rw [h]
theorem condsP_2 {T : TL} {q : TL × TL} (h : condP T = .inr q) : condsP T = condsT 500 q.1 q.2 := by unfold condsP; rw [h]
abbrev RLs : Type := List (TL × TL)
/-- all steps of the rules, one behind another -/
def cat : RLs → TL
  | [] => []
  | r :: rs => r.1 ++ r.2 ++ cat rs
theorem cat_snoc : ∀ (rs : RLs) (r : TL × TL), cat (rs ++ [r]) = cat rs ++ r.1 ++ r.2
  | [], r => by show r.1 ++ r.2 ++ [] = [] ++ r.1 ++ r.2; rw [List.append_nil, List.nil_append]
  | x :: rs, r => by
    show x.1 ++ x.2 ++ cat (rs ++ [r]) = x.1 ++ x.2 ++ cat rs ++ r.1 ++ r.2
    rw [cat_snoc rs r]
    simp only [List.append_assoc]
/-- where the rules begin, from s on -/
def posP (A W : Int → Int) : RLs → Nat → Int → Prop
  | [], _, _ => True
  | r :: rs, i, s => A i = s ∧ W i = s + r.1.length ∧ posP A W rs (i + 1) (s + r.1.length + r.2.length)
theorem posP_congr {A W A' W' : Int → Int} : ∀ (rs : RLs) (i : Nat) (s : Int), (∀ j : Int, i ≤ j → j < i + rs.length → A' j = A j ∧ W' j = W j) → posP A W rs i s → posP A' W' rs i s
  | [], _, _, _, _ => trivial
  | r :: rs, i, s, h, hp => by
    have h0 := h i (by omega) (by rw [List.length_cons]; omega)
    exact ⟨h0.1.trans hp.1, h0.2.trans hp.2.1, posP_congr rs (i + 1) _ (fun j g0 g1 => h j (by omega) (by rw [List.length_cons]; omega)) hp.2.2⟩
theorem posP_snoc {A W : Int → Int} {r : TL × TL} : ∀ (rs : RLs) (i : Nat) (s : Int), posP A W rs i s → A (i + rs.length : Int) = s + (cat rs).length → W (i + rs.length : Int) = s + (cat rs).length + r.1.length → posP A W (rs ++ [r]) i s
  | [], i, s, _, h1, h2 => by
    have e : ((i : Int) + (([] : RLs).length : Nat)) = i := by show (i : Int) + ((0 : Nat) : Int) = i; omega
    have e2 : s + ((cat []).length : Nat) = s := by show s + ((0 : Nat) : Int) = s; omega
    rw [e, e2] at h1
    rw [e, e2] at h2
    exact ⟨h1, h2, trivial⟩
  | x :: rs, i, s, h, h1, h2 => by
    have el : ((cat (x :: rs)).length : Int) = x.1.length + x.2.length + (cat rs).length := by
      show (((x.1 ++ x.2 ++ cat rs).length : Nat) : Int) = _
      rw [List.length_append, List.length_append]
      omega
    have ei : (i : Int) + ((x :: rs).length : Nat) = ((i + 1 : Nat) : Int) + (rs.length : Nat) := by rw [List.length_cons]; omega
    rw [el, ei] at h1
    rw [el, ei] at h2
    exact ⟨h.1, h.2.1, posP_snoc rs (i + 1) _ h.2.2 (by omega) (by omega)⟩
theorem modP_of {A F W : Int → Int} : ∀ (rs : RLs) (i : Nat) (s : Int), posP F W rs i s → F (i + rs.length : Int) = s + (cat rs).length → segM A s (cat rs) → 0 ≤ s → s + (cat rs).length ≤ 410 → (∀ r ∈ rs, okS r.1 0 1 ∧ okS r.2 0 1) → modP A F W rs i
  | [], _, _, _, _, _, _, _, _ => trivial
  | x :: rs, i, s, h, he, hs, h0, hb, hk => by
    have el : ((cat (x :: rs)).length : Int) = x.1.length + x.2.length + (cat rs).length := by
      show (((x.1 ++ x.2 ++ cat rs).length : Nat) : Int) = _
      rw [List.length_append, List.length_append]
      omega
    have ei : (i : Int) + ((x :: rs).length : Nat) = ((i + 1 : Nat) : Int) + (rs.length : Nat) := by rw [List.length_cons]; omega
    rw [el] at hb
    rw [el, ei] at he
    have hs' : segM A s (x.1 ++ x.2 ++ cat rs) := hs
    obtain ⟨s1, s2⟩ := (segM_app _ _ _).mp hs'
    obtain ⟨s3, s4⟩ := (segM_app _ _ _).mp s1
    rw [List.length_append] at s2
    have hx := hk x (List.mem_cons_self ..)
    have e2 : s + ((x.1.length + x.2.length : Nat) : Int) = s + x.1.length + x.2.length := by omega
    rw [e2] at s2
    have nx : F ((i : Int) + 1) = s + x.1.length + x.2.length := by
      cases rs with
      | nil =>
        have e3 : ((i + 1 : Nat) : Int) + (([] : RLs).length : Nat) = (i : Int) + 1 := by show ((i + 1 : Nat) : Int) + ((0 : Nat) : Int) = _; omega
        have e4 : ((cat []).length : Int) = 0 := rfl
        rw [e3, e4] at he
        omega
      | cons y ys => exact h.2.2.1
    refine ⟨by rw [h.1]; exact h0, by rw [h.1]; exact h.2.1, ?_, ?_, ?_, ?_, hx.1, hx.2, modP_of rs (i + 1) _ h.2.2 (by omega) s2 (by omega) (by omega) (fun r hr => hk r (List.mem_cons_of_mem _ hr))⟩
    · rw [nx, h.2.1]
    · rw [nx]; omega
    · rw [h.1]; exact s3
    · rw [h.2.1]; exact s4
theorem modP_congr {A F W A' F' W' : Int → Int} : ∀ (rs : RLs) (i : Nat), (∀ j, A' j = A j) → (∀ j, F' j = F j) → (∀ j, W' j = W j) → modP A F W rs i → modP A' F' W' rs i := by
  intro rs i h1 h2 h3 h
  rw [show A' = A from funext h1, show F' = F from funext h2, show W' = W from funext h3]
  exact h
/-- only what reading rules writes has changed -/
def rlOnly (I I' : Iv) : Prop := (∀ o, o ≠ 72 → o ≠ 89 → o ≠ 90 → o ≠ 91 → I' o = I o) ∧ ∀ j, j ≠ 18 → j ≠ 19 → j ≠ 29 → j ≠ 30 → j ≠ 31 → j ≠ 32 → j ≠ 33 → j ≠ 34 → j ≠ 36 → I' 72 j = I 72 j
theorem rlOnly.rf (I : Iv) : rlOnly I I := ⟨fun _ _ _ _ _ => rfl, fun _ _ _ _ _ _ _ _ _ _ => rfl⟩
theorem rlOnly.ps {I J : Iv} (h : psOnly I J) : rlOnly I J := ⟨fun o a _ _ b => h.1 o a b, fun j _ a b c d e f g k => h.2 j a b c d e f g k⟩
theorem rlOnly.tr {I J K : Iv} (h1 : rlOnly I J) (h2 : rlOnly J K) : rlOnly I K := ⟨fun o a b c d => (h2.1 o a b c d).trans (h1.1 o a b c d), fun j q a b c d e f g h => (h2.2 j q a b c d e f g h).trans (h1.2 j q a b c d e f g h)⟩
theorem rlOnly.put {I J : Iv} (h : rlOnly I J) {j : Int} (v : Int) (hj : j = 18 ∨ j = 19 ∨ j = 29 ∨ j = 33 ∨ j = 34 ∨ j = 36) : rlOnly I (up J 72 j v) := ⟨fun o a b c d => by rw [up_o a]; exact h.1 o a b c d, fun i q a b c d e f g h' => by rw [up_i (by omega)]; exact h.2 i q a b c d e f g h'⟩
theorem rlOnly.ob {I J : Iv} (h : rlOnly I J) {b : Nat} (i v : Int) (hb : b = 89 ∨ b = 90) : rlOnly I (up J b i v) := ⟨fun o x y z w => by rw [up_o (by omega)]; exact h.1 o x y z w, fun j q a b' c d e f g h' => by rw [up_o (by omega)]; exact h.2 j q a b' c d e f g h'⟩
theorem mE.rl {I J : Iv} (h : mE I) (hJ : rlOnly I J) : mE J := by
  have e1 := hJ.2 28 (by decide) (by decide) (by decide) (by decide) (by decide) (by decide) (by decide) (by decide) (by decide)
  have e2 := hJ.1 93 (by decide) (by decide) (by decide) (by decide)
  unfold mE
  rw [e1, e2]
  exact h
theorem tokI.ob {T : TL} {I : Iv} (h : tokI I T) {b : Nat} (i v : Int) (hb : b = 89 ∨ b = 90) : tokI (up I b i v) T := by
  unfold tokI
  rw [up_o (by omega), up_o (by omega)]
  exact h
theorem tokI.put18 {T : TL} {I : Iv} (h : tokI I T) (v : Int) : tokI (up I 72 18 v) T := by
  unfold tokI
  rw [up_i (by omega), up_i (by omega), up_i (by omega), up_i (by omega), up_i (by omega), up_o (by decide)]
  exact h
theorem stps.ob {F : TL} {I : Iv} (h : stps F I) {b : Nat} (i v : Int) (hb : b = 89 ∨ b = 90) : stps F (up I b i v) := by
  unfold stps
  rw [up_o (by omega), up_o (by omega)]
  exact h
def aBad (I' : Iv) (res : (Int × Int) ⊕ ((TL × TL) × TL)) : Prop := ∃ e, res = .inl e ∧ I' 72 33 = e.1 ∧ I' 72 34 = e.2
def aOk (I' : Iv) (acc : RLs) (res : (Int × Int) ⊕ ((TL × TL) × TL)) : Prop := ∃ q, res = .inr q ∧ tokI I' q.2 ∧ I' 72 18 = acc.length + 1 ∧ posP (I' 89) (I' 90) (acc ++ [q.1]) 0 0 ∧ stps (cat (acc ++ [q.1])) I'
def aRes (I0 : Iv) (acc : RLs) (res : (Int × Int) ⊕ ((TL × TL) × TL)) (v : Option Value) (I' : Iv) : Prop := rlOnly I0 I' ∧ vOk I' ∧ ∃ z : Int, v = some (.int (jI z)) ∧ ((z = 0 ∧ aBad I' res) ∨ (z = 1 ∧ aOk I' acc res))
theorem aRes_bad {I0 I' : Iv} {acc : RLs} {res : (Int × Int) ⊕ ((TL × TL) × TL)} {e : Int × Int} (h : rlOnly I0 I') (hv : vOk I') (hr : res = .inl e) (h1 : I' 72 33 = e.1) (h2 : I' 72 34 = e.2) : aRes I0 acc res (some (.int (jI 0))) I' := ⟨h, hv, 0, rfl, Or.inl ⟨rfl, e, hr, h1, h2⟩⟩
/-- where a rule begins -/
def aPre (I : Iv) (T : TL) (acc : RLs) : Prop := mE I ∧ tokI I T ∧ TLok T ∧ stps (cat acc) I ∧ (cat acc).length + T.length ≤ 402 ∧ I 72 18 = acc.length ∧ acc.length ≤ 10 ∧ posP (I 89) (I 90) acc 0 0
section
variable (G : GE) (n : Nat) (I : Iv) (bk dr : Nat) (pt : Option Nat)
theorem c_one (hn : 103 ≤ n) : mC G n bk dr pt yX12_one cX12_one 2 31 0 condP := by
  have U := c_expr G n bk dr pt hn
  intro I T F hP
  refine Ct.of [some (.ref (gb G + 72)), none] (by decide) rfl rfl rfl ?_
  intro k SR
  have S : Sem G RX12 "one" cX12_one 2 (rmD 31 0 0) k := SR.sem
  obtain ⟨R, eR⟩ : ∃ R, R = condP T := ⟨_, rfl⟩
  rw [← eR] at SR
  unfold condP at eR
  have rest : ∀ (J : Iv) (q : TL × TL) (how : Int), exprP T = .inr q → psOnly I J → mPre J q.2 (F ++ q.1) 0 → ((how = -1 ∧ ¬ (-11 ≤ hd q.2 ∧ hd q.2 ≤ -9)) ∨ (how = -hd q.2 ∧ -11 ≤ hd q.2 ∧ hd q.2 ≤ -9)) → k 52 [some (.ref (gb G + 72)), none] [.int (jI how)] n J (rst bk dr pt) 0 0 := by
    intro J q how hq hJ hPJ hh
    have hPJ0 := hPJ
    obtain ⟨jE, jT, jL, jS, jF, jd⟩ := hPJ
    have h99 := TLok_hd jL
    rw [hq] at eR
    have eR2 : R = (if -11 ≤ hd q.2 ∧ hd q.2 ≤ -9 then (match exprP (adv q.2) with
      | .inl e => .inl e
      | .inr q2 => .inr (q.1 ++ q2.1 ++ [(-hd q.2, 0)], q2.2)) else .inl (1, pl q.2)) := eR
    refine r_istore_n S dX12_one_52 rfl rfl ?_
    refine r_iload_n S rfl dX12_one_53 ?_
    refine r_iconst S dX12_one_54 ?_
    refine r_icmp_ne S (tgt := 64) dX12_one_55 (by decide) (by omega) (by decide) (fun c55 => ?_) (fun c55 => ?_)
    · rw [if_pos (by omega)] at eR2
      refine r_aload_n S rfl dX12_one_64 ?_
      refine r_callV S lk_X12_183 mk_X12_next0 (c_next G n J bk dr pt hn jE jT (by omega)) rfl (Nat.lt_of_lt_of_le (by decide) hn) rfl rfl rfl (Nat.le_of_ble_eq_true rfl) (by unfold roomy rmD; simp only; omega) rfl ⟨Nat.le_refl _, Nat.le_refl _⟩ dX12_one_65 ?_
      rintro _ _ J1 _ ⟨rfl, rfl, rfl, hJ1, hT1⟩
      have hP1 := mPre_nx hPJ0 hJ1 hT1 (by omega)
      have hl := TLok_len jL (by omega)
      refine r_aload_n S rfl dX12_one_68 ?_
      refine r_callV S lk_X12_203 mk_X12_sum (U J1 (adv q.2) (F ++ q.1) hP1) rfl (Nat.lt_of_lt_of_le (by decide) hn) rfl rfl rfl (Nat.le_of_ble_eq_true rfl) (by unfold roomy rmD; simp only; omega) rfl ⟨Nat.le_refl _, Nat.le_refl _⟩ dX12_one_69 ?_
      rintro v _ J2 _ ⟨rfl, rfl, hJ2, hV2, z, rfl, ez⟩
      have p2 : psOnly I J2 := (hJ.tr (psOnly.nx hJ1)).tr hJ2
      refine r_if_ne S (tgt := 77) dX12_one_72 (by decide) (by omega) (fun c72 => ?_) (fun c72 => ?_)
      · rcases ez with ⟨h0, -⟩ | ⟨-, q2, h1, h3, h4, h5⟩
        · omega
        rw [h1] at eR2
        obtain ⟨p1, p2', p3, p4, p5⟩ := PG_expr hP1.2.2.1 q2 h1
        have qF : (F ++ q.1 ++ q2.1).length + 1 + q2.2.length ≤ 402 := by rw [List.length_append, List.length_append]; rw [List.length_append] at jF; omega
        have e19 : J2 72 19 = (F ++ q.1 ++ q2.1).length := h5.2.1
        refine r_aload_n S rfl dX12_one_77 ?_
        refine r_iload_n S rfl dX12_one_78 ?_
        refine r_iconst S dX12_one_79 ?_
        refine r_callV S lk_X12_193 mk_X12_lay (c_X12_lay G n J2 bk dr pt hn (a := how) (v := 0) (by omega) (by omega)) rfl (Nat.lt_of_lt_of_le (by decide) hn) rfl rfl rfl (Nat.le_of_ble_eq_true rfl) (by unfold roomy rmD; simp only; omega) rfl ⟨Nat.le_refl _, Nat.le_refl _⟩ dX12_one_80 ?_
        rintro _ _ _ _ ⟨rfl, rfl, rfl, rfl⟩
        have hPX := mPre_lay (k := how) hP.1 p2 p1 h3 h4 h5 qF (by omega)
        refine r_iconst S dX12_one_83 ?_
        refine r_zret SR dX12_one_84 (by decide) ⟨by decide, by decide⟩ ?_
        exact ⟨rfl, rfl, mRes_ok (q := (q.1 ++ q2.1 ++ [(how, 0)], q2.2)) (layI_ps p2 _ _) (by rw [eR2, show -hd q.2 = how by omega]) hPX.2.1 hPX.2.2.2.2.2 hPX.2.2.2.1⟩
      · refine r_iconst S dX12_one_75 ?_
        refine r_zret SR dX12_one_76 (by decide) ⟨by decide, by decide⟩ ?_
        rcases ez with ⟨-, e, h1, h3, h4⟩ | ⟨h0, -⟩
        · rw [h1] at eR2
          exact ⟨rfl, rfl, mRes_bad p2 hV2 eR2 h3 h4⟩
        · omega
    · refine r_aload_n S rfl dX12_one_58 ?_
      refine r_iconst S dX12_one_59 ?_
      refine r_callV S lk_X12_180 mk_X12_bad (c_X12_bad G n J bk dr pt hn) rfl (Nat.lt_of_lt_of_le (by decide) hn) rfl rfl rfl (Nat.le_of_ble_eq_true rfl) (by unfold roomy rmD; simp only; omega) rfl ⟨Nat.le_refl _, Nat.le_refl _⟩ dX12_one_60 ?_
      rintro _ _ _ _ ⟨rfl, rfl, rfl, rfl⟩
      refine r_zret SR dX12_one_63 (by decide) ⟨by decide, by decide⟩ ?_
      rw [if_neg (by omega)] at eR2
      refine ⟨rfl, rfl, mRes_bad ((hJ.put _ (by omega)).put _ (by omega)) (vOk.bad jT.2.2.2.1 _ _) eR2 ?_ ?_⟩
      · rw [up_i (by decide), up_s]
      · rw [up_s, jT.2.1]
  refine r_aload_n S rfl dX12_one_0 ?_
  refine r_callV S lk_X12_203 mk_X12_sum (U I T F hP) rfl (Nat.lt_of_lt_of_le (by decide) hn) rfl rfl rfl (Nat.le_of_ble_eq_true rfl) (by unfold roomy rmD; simp only; omega) rfl ⟨Nat.le_refl _, Nat.le_refl _⟩ dX12_one_1 ?_
  rintro v _ J2 _ ⟨rfl, rfl, hJ2, hV2, z, rfl, ez⟩
  refine r_if_ne S (tgt := 9) dX12_one_4 (by decide) (by omega) (fun c4 => ?_) (fun c4 => ?_)
  · rcases ez with ⟨h0, -⟩ | ⟨-, q, h1, h3, h4, h5⟩
    · omega
    obtain ⟨p1, p2, p3, p4, p5⟩ := PG_expr hP.2.2.1 q h1
    have hPq : mPre J2 q.2 (F ++ q.1) 0 := ⟨hP.1.ps hJ2, h3, p1, h5, by have := hP.2.2.2.2.1; rw [List.length_append]; omega, h4⟩
    have hh := TLok_hd p1
    have hr := mtok_rg hh.1
    have m60 := mt_60 hh.1
    have m61 := mt_61 hh.1
    have m62 := mt_62 hh.1
    have e30 := h3.1
    obtain ⟨c, ec⟩ : ∃ c, c = mtok (hd q.2) := ⟨_, rfl⟩
    rw [← ec] at hr m60 m61 m62 e30
    refine r_aload_n S rfl dX12_one_9 ?_
    refine r_getI S (v := J2 72 30) fk_X12_158 dX12_one_10 rfl rfl (Nat.lt_of_lt_of_le (by decide) hn) rfl ?_
    refine r_bipush S (by decide +kernel) dX12_one_13 ?_
    refine r_icmp_ne S (tgt := 23) dX12_one_15 (by decide) (by omega) (by decide) (fun c15 => ?_) (fun c15 => ?_)
    · refine r_aload_n S rfl dX12_one_23 ?_
      refine r_getI S (v := J2 72 30) fk_X12_158 dX12_one_24 rfl rfl (Nat.lt_of_lt_of_le (by decide) hn) rfl ?_
      refine r_bipush S (by decide +kernel) dX12_one_27 ?_
      refine r_icmp_ne S (tgt := 37) dX12_one_29 (by decide) (by omega) (by decide) (fun c29 => ?_) (fun c29 => ?_)
      · refine r_aload_n S rfl dX12_one_37 ?_
        refine r_getI S (v := J2 72 30) fk_X12_158 dX12_one_38 rfl rfl (Nat.lt_of_lt_of_le (by decide) hn) rfl ?_
        refine r_bipush S (by decide +kernel) dX12_one_41 ?_
        refine r_icmp_ne S (tgt := 51) dX12_one_43 (by decide) (by omega) (by decide) (fun c43 => ?_) (fun c43 => ?_)
        · refine r_iconst S dX12_one_51 ?_
          exact rest J2 q _ h1 hJ2 hPq (by omega)
        · refine r_bipush S (by decide +kernel) dX12_one_46 ?_
          refine r_goto S (tgt := 52) dX12_one_48 (by decide) ?_
          exact rest J2 q _ h1 hJ2 hPq (by omega)
      · refine r_bipush S (by decide +kernel) dX12_one_32 ?_
        refine r_goto S (tgt := 52) dX12_one_34 (by decide) ?_
        exact rest J2 q _ h1 hJ2 hPq (by omega)
    · refine r_bipush S (by decide +kernel) dX12_one_18 ?_
      refine r_goto S (tgt := 52) dX12_one_20 (by decide) ?_
      exact rest J2 q _ h1 hJ2 hPq (by omega)
  · refine r_iconst S dX12_one_7 ?_
    refine r_zret SR dX12_one_8 (by decide) ⟨by decide, by decide⟩ ?_
    rcases ez with ⟨-, e, h1, h3, h4⟩ | ⟨h0, -⟩
    · rw [h1] at eR
      exact ⟨rfl, rfl, mRes_bad hJ2 hV2 eR h3 h4⟩
    · omega
theorem c_aRule (hn : 103 ≤ n) {T : TL} {acc : RLs} (hA : aPre I T acc) : Ct G yX12_aRule cX12_aRule 1 (some .boolean) 32 0 0 [.ref (gb G + 72)] n I (rst bk dr pt) (fun v n' I' ρ' => n = n' ∧ rst bk dr pt = ρ' ∧ aRes I acc (ruleP acc.length T) v I') := by
  have U := c_expr G n bk dr pt hn
  have V := c_one G n bk dr pt hn
  refine Ct.of [some (.ref (gb G + 72))] (by decide) rfl rfl rfl ?_
  intro k SR
  have S : Sem G RX12 "aRule" cX12_aRule 1 (rmD 32 0 0) k := SR.sem
  obtain ⟨R, eR⟩ : ∃ R, R = ruleP acc.length T := ⟨_, rfl⟩
  rw [← eR] at SR
  obtain ⟨jE, jT, jL, jS, jF, j18, j10, jp⟩ := hA
  have hh := TLok_hd jL
  have hr := mtok_rg hh.1
  have m3 := mt_3 hh.1
  have e30 := jT.1
  have e31 := jT.2.1
  have e19 : I 72 19 = (cat acc).length := jS.2.1
  obtain ⟨c, ec⟩ : ∃ c, c = mtok (hd T) := ⟨_, rfl⟩
  rw [← ec] at hr m3 e30
  -- the conditions
  have conds : ∀ (g : TL × TL) (B : Iv), hd T = -13 → ¬ acc.length = 10 → exprP (adv T) = .inr g → hd g.2 = -14 → TLok (adv g.2) → rlOnly I B → B 72 18 = acc.length + 1 → (∀ w : TL, posP (B 89) (B 90) (acc ++ [(g.1, w)]) 0 0) → ∀ (f : Nat) (ws T' : TL) (J : Iv), T'.length < f → psOnly B J → mPre J T' (cat acc ++ g.1 ++ ws) 0 → condsT f ws T' = condsP (adv g.2) → k 100 [some (.ref (gb G + 72))] [] n J (rst bk dr pt) 0 0 := by
    intro g B h13 h10 hg h14 gL hB hB18 hBp f
    induction f with
    | zero => intro ws T' J h; omega
    | succ f ih =>
      intro ws T' J hlen hJ hPJ hR
      have hPJ0 := hPJ
      obtain ⟨kE, kT, kL, kS, kF, kd'⟩ := hPJ
      have h99 := TLok_hd kL
      have hr' := mtok_rg h99.1
      have m5 := mt_5 h99.1
      have m59 := mt_59 h99.1
      have e30' := kT.1
      obtain ⟨c', ec'⟩ : ∃ c', c' = mtok (hd T') := ⟨_, rfl⟩
      rw [← ec'] at hr' m5 e30' m59
      unfold condsT at hR
      refine r_aload_n S rfl dX12_aRule_100 ?_
      refine r_getI S (v := J 72 30) fk_X12_158 dX12_aRule_101 rfl rfl (Nat.lt_of_lt_of_le (by decide) hn) rfl ?_
      refine r_iconst S dX12_aRule_104 ?_
      refine r_icmp_ne S (tgt := 131) dX12_aRule_105 (by decide) (by omega) (by decide) (fun c105 => ?_) (fun c105 => ?_)
      · refine r_aload_n S rfl dX12_aRule_131 ?_
        refine r_bipush S (by decide +kernel) dX12_aRule_132 ?_
        refine r_callV S lk_X12_206 mk_X12_need (c_need G n J bk dr pt hn kE kT kL (t := 59) (by decide) (by decide)) rfl (Nat.lt_of_lt_of_le (by decide) hn) rfl rfl rfl (Nat.le_of_ble_eq_true rfl) (by unfold roomy rmD; simp only; omega) rfl ⟨Nat.le_refl _, Nat.le_refl _⟩ dX12_aRule_134 ?_
        rintro v _ J3 _ ⟨rfl, rfl, y, rfl, ey⟩
        refine r_zret SR dX12_aRule_137 (by omega) ⟨by decide, by decide⟩ ?_
        rw [if_neg (by omega)] at hR
        rcases ey with ⟨y0, n1, n2⟩ | ⟨y1, n1, n2, n3⟩
        · rw [y0]
          refine ⟨rfl, rfl, aRes_bad ?_ (by rw [n2]; exact vOk.bad kT.2.2.2.1 _ _) (eR.trans (ruleP_6 h13 h10 hg h14 hR.symm (by show ¬ hd T' = -15; omega))) ?_ ?_⟩
          · rw [n2]
            exact hB.tr (rlOnly.ps ((hJ.put _ (by omega)).put _ (by omega)))
          · rw [n2, up_i (by decide), up_s]
          · rw [n2, up_s]
        · rw [y1]
          refine ⟨rfl, rfl, hB.tr (rlOnly.ps (hJ.tr (psOnly.nx n2))), n3.2.2.2.1, 1, rfl, Or.inr ⟨rfl, _, eR.trans (ruleP_7 h13 h10 hg h14 hR.symm (by show hd T' = -15; omega)), n3, ?_, ?_, ?_⟩⟩
          · have := (hJ.tr (psOnly.nx n2)).2 18 (by decide) (by decide) (by decide) (by decide) (by decide) (by decide) (by decide) (by decide)
            rw [this]
            exact hB18
          · have a1 := (hJ.tr (psOnly.nx n2)).1 89 (by decide) (by decide)
            have a2 := (hJ.tr (psOnly.nx n2)).1 90 (by decide) (by decide)
            rw [a1, a2]
            exact hBp ws
          · rw [cat_snoc]
            exact kS.nx n2
      · refine r_aload_n S rfl dX12_aRule_108 ?_
        refine r_callV S lk_X12_183 mk_X12_next0 (c_next G n J bk dr pt hn kE kT (by omega)) rfl (Nat.lt_of_lt_of_le (by decide) hn) rfl rfl rfl (Nat.le_of_ble_eq_true rfl) (by unfold roomy rmD; simp only; omega) rfl ⟨Nat.le_refl _, Nat.le_refl _⟩ dX12_aRule_109 ?_
        rintro _ _ J1 _ ⟨rfl, rfl, rfl, hJ1, hT1⟩
        have hP1 := mPre_nx hPJ0 hJ1 hT1 (by omega)
        have hl := TLok_len kL (by omega)
        rw [if_pos (by omega)] at hR
        refine r_aload_n S rfl dX12_aRule_112 ?_
        refine r_callV S lk_X12_212 mk_X12_one (V J1 (adv T') (cat acc ++ g.1 ++ ws) hP1) rfl (Nat.lt_of_lt_of_le (by decide) hn) rfl rfl rfl (Nat.le_of_ble_eq_true rfl) (by unfold roomy rmD; simp only; omega) rfl ⟨Nat.le_refl _, Nat.le_refl _⟩ dX12_aRule_113 ?_
        rintro v _ J2 _ ⟨rfl, rfl, hJ2, hV2, z, rfl, ez⟩
        have p2 : psOnly B J2 := (hJ.tr (psOnly.nx hJ1)).tr hJ2
        refine r_if_ne S (tgt := 121) dX12_aRule_116 (by decide) (by omega) (fun c116 => ?_) (fun c116 => ?_)
        · rcases ez with ⟨h0, -⟩ | ⟨-, q, h1, h3, h4, h5⟩
          · omega
          rw [h1] at hR
          obtain ⟨p1, p2', p3, p4, p5⟩ := PG_cond hP1.2.2.1 q h1
          have qF : (cat acc ++ g.1 ++ ws ++ q.1).length + 1 + q.2.length ≤ 402 := by rw [List.length_append]; omega
          have e19' : J2 72 19 = (cat acc ++ g.1 ++ ws ++ q.1).length := h5.2.1
          refine r_aload_n S rfl dX12_aRule_121 ?_
          refine r_bipush S (by decide +kernel) dX12_aRule_122 ?_
          refine r_iconst S dX12_aRule_124 ?_
          refine r_callV S lk_X12_193 mk_X12_lay (c_X12_lay G n J2 bk dr pt hn (a := 12) (v := 0) (by omega) (by omega)) rfl (Nat.lt_of_lt_of_le (by decide) hn) rfl rfl rfl (Nat.le_of_ble_eq_true rfl) (by unfold roomy rmD; simp only; omega) rfl ⟨Nat.le_refl _, Nat.le_refl _⟩ dX12_aRule_125 ?_
          rintro _ _ _ _ ⟨rfl, rfl, rfl, rfl⟩
          refine r_goto S (tgt := 100) dX12_aRule_128 (by decide) ?_
          refine ih (ws ++ q.1 ++ [(12, 0)]) q.2 _ (by omega) (layI_ps p2 _ _) (mPre_lay (k := 12) (jE.rl hB) p2 p1 h3 h4 h5 qF (by decide)) hR
        · refine r_iconst S dX12_aRule_119 ?_
          refine r_zret SR dX12_aRule_120 (by decide) ⟨by decide, by decide⟩ ?_
          rcases ez with ⟨-, e, h1, h3, h4⟩ | ⟨h0, -⟩
          · rw [h1] at hR
            exact ⟨rfl, rfl, aRes_bad (hB.tr (rlOnly.ps p2)) hV2 (eR.trans (ruleP_5 h13 h10 hg h14 hR.symm)) h3 h4⟩
          · omega
  have given : hd T = -13 → ¬ acc.length = 10 → k 29 [some (.ref (gb G + 72))] [] n I (rst bk dr pt) 0 0 := by
    intro h13 h10
    have hl := TLok_len jL (by omega)
    have hL1 := TLok_adv jL
    refine r_aload_n S rfl dX12_aRule_29 ?_
    refine r_callV S lk_X12_183 mk_X12_next0 (c_next G n I bk dr pt hn jE jT (by omega)) rfl (Nat.lt_of_lt_of_le (by decide) hn) rfl rfl rfl (Nat.le_of_ble_eq_true rfl) (by unfold roomy rmD; simp only; omega) rfl ⟨Nat.le_refl _, Nat.le_refl _⟩ dX12_aRule_30 ?_
    rintro _ _ J1 _ ⟨rfl, rfl, rfl, hJ1, hT1⟩
    have a18 : J1 72 18 = acc.length := by rw [hJ1.2 18 (by decide) (by decide) (by decide) (by decide)]; exact j18
    have a19 : J1 72 19 = (cat acc).length := by rw [hJ1.2 19 (by decide) (by decide) (by decide) (by decide)]; exact e19
    have a89 : J1 89 = I 89 := hJ1.1 89 (by decide)
    have a90 : J1 90 = I 90 := hJ1.1 90 (by decide)
    refine r_aload_n S rfl dX12_aRule_33 ?_
    refine r_iconst S dX12_aRule_34 ?_
    refine r_putI S fk_X12_200 dX12_aRule_35 rfl rfl (Nat.lt_of_lt_of_le (by decide) hn) (Or.inl rfl) (Or.inl rfl) ?_
    refine r_aload_n S rfl dX12_aRule_38 ?_
    refine r_getR S (o' := 89) fk_X12_59 dX12_aRule_39 rfl rfl (Nat.lt_of_lt_of_le (by decide) hn) rfl ?_
    refine r_aload_n S rfl dX12_aRule_42 ?_
    refine r_getI S (v := J1 72 18) fk_X12_209 dX12_aRule_43 rfl rfl (Nat.lt_of_lt_of_le (by decide) hn) rfl ?_
    refine r_aload_n S rfl dX12_aRule_46 ?_
    refine r_getI S (v := J1 72 19) fk_X12_186 dX12_aRule_47 rfl rfl (Nat.lt_of_lt_of_le (by decide) hn) rfl ?_
    refine r_iast S dX12_aRule_50 rfl rfl (Nat.lt_of_lt_of_le (by decide) hn) (by omega) (by omega) ?_
    obtain ⟨J3, eJ3⟩ : ∃ J3, J3 = up (up J1 72 36 0) 89 (J1 72 18) (J1 72 19) := ⟨_, rfl⟩
    rw [← eJ3]
    have o3 : rlOnly I J3 := by rw [eJ3]; exact ((rlOnly.ps (psOnly.nx hJ1)).put _ (by omega)).ob _ _ (by omega)
    have hP3 : mPre J3 (adv T) (cat acc) 0 := by
      refine ⟨jE.rl o3, ?_, hL1, ?_, by omega, ?_⟩
      · rw [eJ3]; exact (hT1.put _ (by omega)).ob _ _ (by omega)
      · rw [eJ3]; exact ((jS.nx hJ1).put _ (by decide)).ob _ _ (by omega)
      · rw [eJ3, up_o (by decide), up_s]
    have b18 : J3 72 18 = acc.length := by rw [eJ3, up_o (by decide), up_i (by decide)]; exact a18
    have b89 : J3 89 = up I 89 acc.length (cat acc).length 89 := by rw [eJ3, a18, a19]; funext j; by_cases e : j = acc.length; rw [e, up_s, up_s]; rw [up_i e, up_i e, up_o (by decide), a89]
    have b90 : J3 90 = I 90 := by rw [eJ3, up_o (by decide), up_o (by decide)]; exact a90
    refine r_aload_n S rfl dX12_aRule_51 ?_
    refine r_callV S lk_X12_203 mk_X12_sum (U J3 (adv T) (cat acc) hP3) rfl (Nat.lt_of_lt_of_le (by decide) hn) rfl rfl rfl (Nat.le_of_ble_eq_true rfl) (by unfold roomy rmD; simp only; omega) rfl ⟨Nat.le_refl _, Nat.le_refl _⟩ dX12_aRule_52 ?_
    rintro v _ J4 _ ⟨rfl, rfl, hJ4, hV4, z, rfl, ez⟩
    refine r_if_ne S (tgt := 60) dX12_aRule_55 (by decide) (by omega) (fun c55 => ?_) (fun c55 => ?_)
    · rcases ez with ⟨h0, -⟩ | ⟨-, g, h1, h3, h4, h5⟩
      · omega
      obtain ⟨p1, p2, p3, p4, p5⟩ := PG_expr hL1 g h1
      have d18 : J4 72 18 = acc.length := by rw [hJ4.2 18 (by decide) (by decide) (by decide) (by decide) (by decide) (by decide) (by decide) (by decide)]; exact b18
      have d19 : J4 72 19 = (cat acc ++ g.1).length := h5.2.1
      have d89 : J4 89 = up I 89 acc.length (cat acc).length 89 := by rw [hJ4.1 89 (by decide) (by decide)]; exact b89
      have d90 : J4 90 = I 90 := by rw [hJ4.1 90 (by decide) (by decide)]; exact b90
      refine r_aload_n S rfl dX12_aRule_60 ?_
      refine r_getR S (o' := 90) fk_X12_62 dX12_aRule_61 rfl rfl (Nat.lt_of_lt_of_le (by decide) hn) rfl ?_
      refine r_aload_n S rfl dX12_aRule_64 ?_
      refine r_getI S (v := J4 72 18) fk_X12_209 dX12_aRule_65 rfl rfl (Nat.lt_of_lt_of_le (by decide) hn) rfl ?_
      refine r_aload_n S rfl dX12_aRule_68 ?_
      refine r_getI S (v := J4 72 19) fk_X12_186 dX12_aRule_69 rfl rfl (Nat.lt_of_lt_of_le (by decide) hn) rfl ?_
      refine r_iast S dX12_aRule_72 rfl rfl (Nat.lt_of_lt_of_le (by decide) hn) (by omega) (by omega) ?_
      refine r_aload_n S rfl dX12_aRule_73 ?_
      refine r_dup S rfl dX12_aRule_74 ?_
      refine r_getI S (v := J4 72 18) fk_X12_209 dX12_aRule_75 rfl rfl (Nat.lt_of_lt_of_le (by decide) hn) rfl ?_
      refine r_iconst S dX12_aRule_78 ?_
      refine r_iadd S dX12_aRule_79 ?_
      refine r_putI S fk_X12_209 dX12_aRule_80 rfl rfl (Nat.lt_of_lt_of_le (by decide) hn) (Or.inl rfl) (Or.inl rfl) ?_
      obtain ⟨B, eB⟩ : ∃ B, B = up (up J4 90 (J4 72 18) (J4 72 19)) 72 18 (J4 72 18 + 1) := ⟨_, rfl⟩
      rw [← eB]
      have oB : rlOnly I B := by rw [eB]; exact ((o3.tr (rlOnly.ps hJ4)).ob _ _ (by omega)).put _ (by omega)
      have tB : tokI B g.2 := by rw [eB]; exact (h3.ob _ _ (by omega)).put18 _
      have sB : stps (cat acc ++ g.1) B := by rw [eB]; exact (h5.ob _ _ (by omega)).put _ (by decide)
      have B36 : B 72 36 = 0 := by rw [eB, up_i (by decide), up_o (by decide)]; exact h4
      have B18 : B 72 18 = acc.length + 1 := by rw [eB, up_s, d18]
      have Bp : ∀ w : TL, posP (B 89) (B 90) (acc ++ [(g.1, w)]) 0 0 := by
        intro w
        have e89 : B 89 = up I 89 acc.length (cat acc).length 89 := by rw [eB, up_o (by decide), up_o (by decide)]; exact d89
        have e90 : ∀ j, B 90 j = up I 90 acc.length (cat acc ++ g.1).length 90 j := by intro j; rw [eB, up_o (by decide), d18, d19]; by_cases e : j = acc.length; rw [e, up_s, up_s]; rw [up_i e, up_i e, d90]
        refine posP_snoc acc 0 0 (posP_congr acc 0 0 (fun j g0 g1 => ?_) jp) ?_ ?_
        · rw [e89, e90, up_i (by omega), up_i (by omega)]; exact ⟨rfl, rfl⟩
        · rw [e89, show ((0 : Nat) : Int) + (acc.length : Int) = acc.length by omega, up_s]; omega
        · rw [e90, show ((0 : Nat) : Int) + (acc.length : Int) = acc.length by omega, up_s, List.length_append]; show _ = 0 + ((cat acc).length : Int) + (g.1.length : Int); omega
      have m4 := mt_4 (TLok_hd p1).1
      refine r_aload_n S rfl dX12_aRule_83 ?_
      refine r_iconst S dX12_aRule_84 ?_
      refine r_callV S lk_X12_206 mk_X12_need (c_need G n B bk dr pt hn (jE.rl oB) tB p1 (t := 4) (by decide) (by decide)) rfl (Nat.lt_of_lt_of_le (by decide) hn) rfl rfl rfl (Nat.le_of_ble_eq_true rfl) (by unfold roomy rmD; simp only; omega) rfl ⟨Nat.le_refl _, Nat.le_refl _⟩ dX12_aRule_85 ?_
      rintro v _ J5 _ ⟨rfl, rfl, y, rfl, ey⟩
      have hbad : y = 0 → aRes I acc R (some (.int (jI 0))) J5 := by
        intro hy
        rcases ey with ⟨-, n1, n2⟩ | ⟨n0, -⟩
        · refine aRes_bad ?_ (by rw [n2]; exact vOk.bad tB.2.2.2.1 _ _) (eR.trans (ruleP_4 h13 h10 h1 (by omega))) ?_ ?_
          · rw [n2]
            exact (oB.put _ (by omega)).put _ (by omega)
          · rw [n2, up_i (by decide), up_s]
          · rw [n2, up_s]
        · omega
      refine r_if_eq S (tgt := 98) dX12_aRule_88 (by decide) (by omega) (fun c88 => ?_) (fun c88 => ?_)
      · refine r_iconst S dX12_aRule_98 ?_
        refine r_zret SR dX12_aRule_99 (by decide) ⟨by decide, by decide⟩ ?_
        exact ⟨rfl, rfl, hbad (by omega)⟩
      · rcases ey with ⟨n0, -⟩ | ⟨-, n1, n2, n3⟩
        · omega
        have h14 : hd g.2 = -14 := by omega
        have hl2 := TLok_len p1 (by omega)
        have hgl := PG_expr hL1 g h1
        have hP5 : mPre J5 (adv g.2) (cat acc ++ g.1) 0 := by
          refine ⟨(jE.rl oB).ps (psOnly.nx n2), n3, TLok_adv p1, sB.nx n2, ?_, ?_⟩
          · rw [List.length_append]; omega
          · rw [n2.2 36 (by decide) (by decide) (by decide) (by decide)]; exact B36
        refine r_aload_n S rfl dX12_aRule_91 ?_
        refine r_callV S lk_X12_212 mk_X12_one (V J5 (adv g.2) (cat acc ++ g.1) hP5) rfl (Nat.lt_of_lt_of_le (by decide) hn) rfl rfl rfl (Nat.le_of_ble_eq_true rfl) (by unfold roomy rmD; simp only; omega) rfl ⟨Nat.le_refl _, Nat.le_refl _⟩ dX12_aRule_92 ?_
        rintro v _ J6 _ ⟨rfl, rfl, hJ6, hV6, x, rfl, ex⟩
        have p6 : psOnly B J6 := (psOnly.nx n2).tr hJ6
        have hbad : x = 0 → aRes I acc R (some (.int (jI 0))) J6 := by
          intro hx
          rcases ex with ⟨-, e, h7, h8, h9⟩ | ⟨h0, -⟩
          · exact aRes_bad (oB.tr (rlOnly.ps p6)) hV6 (eR.trans (ruleP_5 h13 h10 h1 h14 (condsP_1 h7))) h8 h9
          · omega
        refine r_if_ne S (tgt := 100) dX12_aRule_95 (by decide) (by omega) (fun c95 => ?_) (fun c95 => ?_)
        · rcases ex with ⟨h0, -⟩ | ⟨-, q, h7, h8, h9, ha⟩
          · omega
          obtain ⟨q1, q2, q3, q4, q5⟩ := PG_cond (TLok_adv p1) q h7
          refine conds g B h13 h10 h1 h14 (TLok_adv p1) oB B18 Bp 500 q.1 q.2 J6 (by omega) p6 ⟨(jE.rl oB).ps p6, h8, q1, ha, ?_, h9⟩ (condsP_2 h7).symm
          rw [List.length_append, List.length_append]
          omega
        · refine r_iconst S dX12_aRule_98 ?_
          refine r_zret SR dX12_aRule_99 (by decide) ⟨by decide, by decide⟩ ?_
          exact ⟨rfl, rfl, hbad (by omega)⟩
    · refine r_iconst S dX12_aRule_58 ?_
      refine r_zret SR dX12_aRule_59 (by decide) ⟨by decide, by decide⟩ ?_
      rcases ez with ⟨-, e, h1, h3, h4⟩ | ⟨h0, -⟩
      · exact ⟨rfl, rfl, aRes_bad (o3.tr (rlOnly.ps hJ4)) hV4 (eR.trans (ruleP_3 h13 h10 h1)) h3 h4⟩
      · omega
  refine r_aload_n S rfl dX12_aRule_0 ?_
  refine r_getI S (v := I 72 30) fk_X12_158 dX12_aRule_1 rfl rfl (Nat.lt_of_lt_of_le (by decide) hn) rfl ?_
  refine r_iconst S dX12_aRule_4 ?_
  refine r_icmp_eq S (tgt := 14) dX12_aRule_5 (by decide) (by omega) (by decide) (fun c5 => ?_) (fun c5 => ?_)
  · refine r_aload_n S rfl dX12_aRule_14 ?_
    refine r_getI S (v := I 72 18) fk_X12_209 dX12_aRule_15 rfl rfl (Nat.lt_of_lt_of_le (by decide) hn) rfl ?_
    refine r_bipush S (by decide +kernel) dX12_aRule_18 ?_
    refine r_icmp_ne S (tgt := 29) dX12_aRule_20 (by decide) (by omega) (by decide) (fun c20 => ?_) (fun c20 => ?_)
    · exact given (by omega) (by omega)
    · refine r_aload_n S rfl dX12_aRule_23 ?_
      refine r_iconst S dX12_aRule_24 ?_
      refine r_callV S lk_X12_180 mk_X12_bad (c_X12_bad G n I bk dr pt hn) rfl (Nat.lt_of_lt_of_le (by decide) hn) rfl rfl rfl (Nat.le_of_ble_eq_true rfl) (by unfold roomy rmD; simp only; omega) rfl ⟨Nat.le_refl _, Nat.le_refl _⟩ dX12_aRule_25 ?_
      rintro _ _ _ _ ⟨rfl, rfl, rfl, rfl⟩
      refine r_zret SR dX12_aRule_28 (by decide) ⟨by decide, by decide⟩ ?_
      refine ⟨rfl, rfl, aRes_bad (((rlOnly.rf _).put _ (by omega)).put _ (by omega)) (vOk.bad jT.2.2.2.1 _ _) (eR.trans (ruleP_2 (by omega) (by omega))) ?_ ?_⟩
      · rw [up_i (by decide), up_s]
      · rw [up_s, e31]
  · refine r_aload_n S rfl dX12_aRule_8 ?_
    refine r_iconst S dX12_aRule_9 ?_
    refine r_callV S lk_X12_180 mk_X12_bad (c_X12_bad G n I bk dr pt hn) rfl (Nat.lt_of_lt_of_le (by decide) hn) rfl rfl rfl (Nat.le_of_ble_eq_true rfl) (by unfold roomy rmD; simp only; omega) rfl ⟨Nat.le_refl _, Nat.le_refl _⟩ dX12_aRule_10 ?_
    rintro _ _ _ _ ⟨rfl, rfl, rfl, rfl⟩
    refine r_zret SR dX12_aRule_13 (by decide) ⟨by decide, by decide⟩ ?_
    refine ⟨rfl, rfl, aRes_bad (((rlOnly.rf _).put _ (by omega)).put _ (by omega)) (vOk.bad jT.2.2.2.1 _ _) (eR.trans (ruleP_1 (by omega))) ?_ ?_⟩
    · rw [up_i (by decide), up_s]
    · rw [up_s, e31]
def mrOnly (I I' : Iv) : Prop := (∀ o, o ≠ 72 → o < 86 ∨ 91 < o → I' o = I o) ∧ ∀ j, j < 17 ∨ 19 < j → j < 28 ∨ 37 < j → I' 72 j = I 72 j
theorem mrOnly.rl {I J : Iv} (h : rlOnly I J) : mrOnly I J := ⟨fun o a b => h.1 o a (by omega) (by omega) (by omega), fun j a b => h.2 j (by omega) (by omega) (by omega) (by omega) (by omega) (by omega) (by omega) (by omega) (by omega)⟩
theorem mrOnly.put {I J : Iv} (h : mrOnly I J) {j : Int} (v : Int) (hj : (17 ≤ j ∧ j ≤ 19) ∨ (28 ≤ j ∧ j ≤ 37)) : mrOnly I (up J 72 j v) := ⟨fun o a b => by rw [up_o a]; exact h.1 o a b, fun i a b => by rw [up_i (by omega)]; exact h.2 i a b⟩
theorem mrOnly.tr {I J K : Iv} (h1 : mrOnly I J) (h2 : mrOnly J K) : mrOnly I K := ⟨fun o a b => (h2.1 o a b).trans (h1.1 o a b), fun j a b => (h2.2 j a b).trans (h1.2 j a b)⟩
def mRul (res : (Int × Int) ⊕ RLs) (rs0 : RLs) (v : Option Value) (I' : Iv) : Prop := match res with
  | .inl e => v = some (.int (jI (-1))) ∧ I' 72 35 = e.1 ∧ I' 72 37 = e.2 ∧ modI I' rs0
  | .inr rs => v = some (.int (jI (rs.length : Int))) ∧ I' 72 35 = 0 ∧ I' 72 37 = -1 ∧ modI I' rs
theorem rulesP_end {f : Nat} {acc : RLs} {T : TL} (h : hd T = -19) : rulesP (f + 1) acc T = .inr acc := if_pos h
theorem rulesP_bad {f : Nat} {acc : RLs} {T : TL} {e : Int × Int} (h : ¬ hd T = -19) (he : ruleP acc.length T = .inl e) : rulesP (f + 1) acc T = .inl e := by
  show (if hd T = -19 then _ else _) = _
  rw [if_neg h, he]
theorem rulesP_go {f : Nat} {acc : RLs} {T : TL} {q : (TL × TL) × TL} (h : ¬ hd T = -19) (he : ruleP acc.length T = .inr q) : rulesP (f + 1) acc T = rulesP f (acc ++ [q.1]) q.2 := by
  show (if hd T = -19 then _ else _) = _
  rw [if_neg h, he]
theorem modI_same {I J : Iv} {rs : RLs} (h : modI I rs) (h17 : J 72 17 = I 72 17) (h86 : J 86 = I 86) (h87 : J 87 = I 87) (h88 : J 88 = I 88) : modI J rs := by
  unfold modI
  rw [h17, h86, h87, h88]
  exact h
theorem c_X12_rules (hn : 103 ≤ n) (hE : mE I) (hV : vOk I) {rs0 : RLs} (hM : modI I rs0) : Ct G yX12_rules cX12_rules 3 (some .int) 33 0 0 [.ref (gb G + 72)] n I (rst bk dr pt) (fun v n' I' ρ' => n = n' ∧ rst bk dr pt = ρ' ∧ mrOnly I I' ∧ I' 72 28 = 0 ∧ vOk I' ∧ mRul (rulesP 500 [] (toks (I 93) (I 72 28) 0)) rs0 v I') := by
  refine Ct.of [some (.ref (gb G + 72)), none, none] (by decide) rfl rfl rfl ?_
  intro k SR
  have S : Sem G RX12 "rules" cX12_rules 3 (rmD 33 0 0) k := SR.sem
  obtain ⟨R, eR⟩ : ∃ R, R = rulesP 500 [] (toks (I 93) (I 72 28) 0) := ⟨_, rfl⟩
  rw [← eR] at SR
  have bad : ∀ (J : Iv) (e : Int × Int), rlOnly I J → vOk J → J 72 33 = e.1 → J 72 34 = e.2 → R = .inl e → k 26 [some (.ref (gb G + 72)), some (.int (jI 0)), none] [] n J (rst bk dr pt) 0 0 := by
    intro J e hJ hVJ h33 h34 hR
    rw [hR] at SR
    refine r_iload_n S rfl dX12_rules_26 ?_
    refine r_if_eq S (tgt := 45) dX12_rules_27 (by decide) (by decide) (fun c27 => ?_) (fun c27 => ?_)
    · refine r_aload_n S rfl dX12_rules_45 ?_
      refine r_iconst S dX12_rules_46 ?_
      refine r_putI S fk_X12_132 dX12_rules_47 rfl rfl (Nat.lt_of_lt_of_le (by decide) hn) (Or.inl rfl) (Or.inl rfl) ?_
      refine r_aload_n S rfl dX12_rules_50 ?_
      refine r_aload_n S rfl dX12_rules_51 ?_
      refine r_getI S (v := J 72 33) fk_X12_174 dX12_rules_52 rfl rfl (Nat.lt_of_lt_of_le (by decide) hn) rfl ?_
      refine r_putI S fk_X12_218 dX12_rules_55 rfl rfl (Nat.lt_of_lt_of_le (by decide) hn) (Or.inl rfl) (Or.inl rfl) ?_
      refine r_aload_n S rfl dX12_rules_58 ?_
      refine r_iload_n S rfl dX12_rules_59 ?_
      refine r_if_eq S (tgt := 67) dX12_rules_60 (by decide) (by decide) (fun c60 => ?_) (fun c60 => ?_)
      · refine r_aload_n S rfl dX12_rules_67 ?_
        refine r_getI S (v := J 72 34) fk_X12_177 dX12_rules_68 rfl rfl (Nat.lt_of_lt_of_le (by decide) hn) rfl ?_
        refine r_putI S fk_X12_74 dX12_rules_71 rfl rfl (Nat.lt_of_lt_of_le (by decide) hn) (Or.inl rfl) (Or.inl rfl) ?_
        refine r_iload_n S rfl dX12_rules_74 ?_
        refine r_if_ne S (tgt := 80) dX12_rules_75 (by decide) (by decide) (fun c75 => ?_) (fun c75 => ?_)
        · exact absurd c75 (by decide)
        · refine r_iconst S dX12_rules_78 ?_
          refine r_iret SR dX12_rules_79 ⟨by decide, by decide⟩ ?_
          refine ⟨rfl, rfl, (((mrOnly.rl hJ).put _ (by omega)).put _ (by omega)).put _ (by omega), ?_, ?_, rfl, ?_, ?_, ?_⟩
          · rw [up_i (by decide), up_i (by decide), up_s]
          · unfold vOk
            rw [up_i (by decide), up_i (by decide), up_i (by decide)]
            exact hVJ
          · rw [up_i (by decide), up_s]
            exact h33
          · rw [up_s]
            exact h34
          · refine modI_same hM ?_ ?_ ?_ ?_
            · rw [up_i (by decide), up_i (by decide), up_i (by decide)]
              exact hJ.2 17 (by decide) (by decide) (by decide) (by decide) (by decide) (by decide) (by decide) (by decide) (by decide)
            · rw [up_o (by decide), up_o (by decide), up_o (by decide)]
              exact hJ.1 86 (by decide) (by decide) (by decide) (by decide)
            · rw [up_o (by decide), up_o (by decide), up_o (by decide)]
              exact hJ.1 87 (by decide) (by decide) (by decide) (by decide)
            · rw [up_o (by decide), up_o (by decide), up_o (by decide)]
              exact hJ.1 88 (by decide) (by decide) (by decide) (by decide)
      · exact absurd c60 (by decide)
    · exact absurd c27 (by decide)
  have good : ∀ (J : Iv) (T : TL) (acc : RLs), rlOnly I J → aPre J T acc → (∀ r ∈ acc, okS r.1 0 1 ∧ okS r.2 0 1) → R = .inr acc → k 45 [some (.ref (gb G + 72)), some (.int (jI 1)), none] [] n J (rst bk dr pt) 0 0 := by
    intro J T acc hJ hA hk hR
    rw [hR] at SR
    obtain ⟨jE, jT, jL, jS, jF, j18, j10, jp⟩ := hA
    have j19 : J 72 19 = (cat acc).length := jS.2.1
    have hlp := TLok_pos jL
    obtain ⟨K0, eK0⟩ : ∃ K0, K0 = up (up (up (up J 72 28 0) 72 35 (J 72 33)) 72 37 (-1)) 72 17 (J 72 18) := ⟨_, rfl⟩
    have K17 : K0 72 17 = acc.length := by rw [eK0, up_s]; exact j18
    have K19 : K0 72 19 = (cat acc).length := by rw [eK0, up_i (by decide), up_i (by decide), up_i (by decide), up_i (by decide)]; exact j19
    have K89 : ∀ o, o ≠ 72 → K0 o = J o := fun o ho => by rw [eK0, up_o ho, up_o ho, up_o ho, up_o ho]
    have steps : ∀ (q : Nat) (j : Int) (K : Iv), 0 ≤ j → j + q = 2 * ((cat acc).length : Int) → (∀ o, o ≠ 86 → o ≠ 87 → o ≠ 88 → K o = K0 o) → (∀ i : Int, 0 ≤ i → i < acc.length → K 86 i = K0 89 i ∧ K 87 i = K0 90 i) → K 86 acc.length = (cat acc).length → (∀ i, 0 ≤ i → i < j → K 88 i = K0 91 i) → (∀ i, j ≤ i → K 88 i = I 88 i) → k 143 [some (.ref (gb G + 72)), some (.int (jI 1)), some (.int (jI j))] [] n K (rst bk dr pt) 0 0 := by
      intro q
      induction q with
      | zero =>
        intro j K h0 h1 hK h86 h86e h88 h88'
        have k19 : K 72 19 = (cat acc).length := by rw [hK 72 (by decide) (by decide) (by decide)]; exact K19
        have k17 : K 72 17 = acc.length := by rw [hK 72 (by decide) (by decide) (by decide)]; exact K17
        refine r_iload_n S rfl dX12_rules_143 ?_
        refine r_iconst S dX12_rules_144 ?_
        refine r_aload_n S rfl dX12_rules_145 ?_
        refine r_getI S (v := K 72 19) fk_X12_186 dX12_rules_146 rfl rfl (Nat.lt_of_lt_of_le (by decide) hn) rfl ?_
        refine r_imul S dX12_rules_149 ?_
        refine r_icmp_ge S (tgt := 171) dX12_rules_150 (by decide) (by omega) (by omega) (fun c150 => ?_) (fun c150 => ?_)
        · refine r_aload_n S rfl dX12_rules_171 ?_
          refine r_getI S (v := K 72 17) fk_X12_221 dX12_rules_172 rfl rfl (Nat.lt_of_lt_of_le (by decide) hn) rfl ?_
          refine r_iret SR dX12_rules_175 ⟨by decide, by decide⟩ ?_
          refine ⟨rfl, rfl, ?_, ?_, ?_, by rw [k17], ?_, ?_, k17, j10, ?_, ?_⟩
          · refine ⟨fun o a b => ?_, fun i a b => ?_⟩
            · rw [hK o (by omega) (by omega) (by omega), K89 o a]
              exact hJ.1 o a (by omega) (by omega) (by omega)
            · rw [hK 72 (by decide) (by decide) (by decide), eK0, up_i (by omega), up_i (by omega), up_i (by omega), up_i (by omega)]
              exact hJ.2 i (by omega) (by omega) (by omega) (by omega) (by omega) (by omega) (by omega) (by omega) (by omega)
          · rw [hK 72 (by decide) (by decide) (by decide), eK0, up_i (by decide), up_i (by decide), up_i (by decide), up_s]
          · unfold vOk
            rw [hK 72 (by decide) (by decide) (by decide), eK0, up_i (by decide), up_i (by decide), up_i (by decide), up_i (by decide)]
            exact jT.2.2.2.1
          · rw [hK 72 (by decide) (by decide) (by decide), eK0, up_i (by decide), up_i (by decide), up_s]
            exact jS.2.2.2
          · rw [hK 72 (by decide) (by decide) (by decide), eK0, up_i (by decide), up_s]
          · intro i g0 g1
            by_cases e : i < j
            · rw [h88 i g0 e, K89 91 (by decide)]
              exact jS.2.2.1 i g0 (by omega)
            · rw [h88' i (by omega)]
              exact hM.2.2.1 i g0 g1
          · refine modP_of acc 0 0 (posP_congr acc 0 0 (fun i g0 g1 => ?_) jp) ?_ (segM_congr (cat acc) 0 (fun i g0 g1 => ?_) jS.1) (by decide) (by omega) hk
            · have := h86 i (by omega) (by omega)
              rw [K89 89 (by decide), K89 90 (by decide)] at this
              exact this
            · rw [show ((0 : Nat) : Int) + (acc.length : Int) = acc.length by omega, h86e]
              omega
            · rw [h88 i (by omega) (by omega), K89 91 (by decide)]
        · exact absurd c150 (by omega)
      | succ q ih =>
        intro j K h0 h1 hK h86 h86e h88 h88'
        have k19 : K 72 19 = (cat acc).length := by rw [hK 72 (by decide) (by decide) (by decide)]; exact K19
        refine r_iload_n S rfl dX12_rules_143 ?_
        refine r_iconst S dX12_rules_144 ?_
        refine r_aload_n S rfl dX12_rules_145 ?_
        refine r_getI S (v := K 72 19) fk_X12_186 dX12_rules_146 rfl rfl (Nat.lt_of_lt_of_le (by decide) hn) rfl ?_
        refine r_imul S dX12_rules_149 ?_
        refine r_icmp_ge S (tgt := 171) dX12_rules_150 (by decide) (by omega) (by omega) (fun c150 => ?_) (fun c150 => ?_)
        · exact absurd c150 (by omega)
        · refine r_aload_n S rfl dX12_rules_153 ?_
          refine r_getR S (o' := 88) fk_X12_56 dX12_rules_154 rfl rfl (Nat.lt_of_lt_of_le (by decide) hn) rfl ?_
          refine r_iload_n S rfl dX12_rules_157 ?_
          refine r_aload_n S rfl dX12_rules_158 ?_
          refine r_getR S (o' := 91) fk_X12_65 dX12_rules_159 rfl rfl (Nat.lt_of_lt_of_le (by decide) hn) rfl ?_
          refine r_iload_n S rfl dX12_rules_162 ?_
          refine r_iald S (v := K 91 j) dX12_rules_163 rfl rfl (Nat.lt_of_lt_of_le (by decide) hn) (by omega) (by omega) rfl ?_
          refine r_iast S dX12_rules_164 rfl rfl (Nat.lt_of_lt_of_le (by decide) hn) (by omega) (by omega) ?_
          refine r_iinc S dX12_rules_165 rfl rfl rfl ?_
          refine r_goto S (tgt := 143) dX12_rules_168 (by decide) ?_
          refine ih (j + 1) _ (by omega) (by omega) (fun o a b c => by rw [up_o c]; exact hK o a b c) (fun i g0 g1 => by rw [up_o (by decide), up_o (by decide)]; exact h86 i g0 g1) (by rw [up_o (by decide)]; exact h86e) (fun i g0 g1 => ?_) (fun i g0 => by rw [up_i (by omega)]; exact h88' i (by omega))
          by_cases e : i = j
          · rw [e, up_s, hK 91 (by decide) (by decide) (by decide)]
          · rw [up_i e]
            exact h88 i g0 (by omega)
    have froms : ∀ (q : Nat) (i : Int) (K : Iv), 0 ≤ i → i + q = (acc.length : Int) → (∀ o, o ≠ 86 → o ≠ 87 → K o = K0 o) → (∀ j : Int, 0 ≤ j → j < i → K 86 j = K0 89 j ∧ K 87 j = K0 90 j) → k 90 [some (.ref (gb G + 72)), some (.int (jI 1)), some (.int (jI i))] [] n K (rst bk dr pt) 0 0 := by
      intro q
      induction q with
      | zero =>
        intro i K h0 h1 hK h86
        have k19 : K 72 19 = (cat acc).length := by rw [hK 72 (by decide) (by decide)]; exact K19
        have k17 : K 72 17 = acc.length := by rw [hK 72 (by decide) (by decide)]; exact K17
        refine r_iload_n S rfl dX12_rules_90 ?_
        refine r_aload_n S rfl dX12_rules_91 ?_
        refine r_getI S (v := K 72 17) fk_X12_221 dX12_rules_92 rfl rfl (Nat.lt_of_lt_of_le (by decide) hn) rfl ?_
        refine r_icmp_ge S (tgt := 128) dX12_rules_95 (by decide) (by omega) (by omega) (fun c95 => ?_) (fun c95 => ?_)
        · refine r_aload_n S rfl dX12_rules_128 ?_
          refine r_getR S (o' := 86) fk_X12_50 dX12_rules_129 rfl rfl (Nat.lt_of_lt_of_le (by decide) hn) rfl ?_
          refine r_aload_n S rfl dX12_rules_132 ?_
          refine r_getI S (v := K 72 17) fk_X12_221 dX12_rules_133 rfl rfl (Nat.lt_of_lt_of_le (by decide) hn) rfl ?_
          refine r_aload_n S rfl dX12_rules_136 ?_
          refine r_getI S (v := K 72 19) fk_X12_186 dX12_rules_137 rfl rfl (Nat.lt_of_lt_of_le (by decide) hn) rfl ?_
          refine r_iast S dX12_rules_140 rfl rfl (Nat.lt_of_lt_of_le (by decide) hn) (by omega) (by omega) ?_
          refine r_iconst S dX12_rules_141 ?_
          refine r_istore_n S dX12_rules_142 rfl rfl ?_
          refine steps (2 * (cat acc).length) 0 _ (by decide) (by omega) (fun o a b c => by rw [up_o a]; exact hK o a b) (fun j g0 g1 => ?_) (by rw [← k17, up_s]; exact k19) (fun j g0 g1 => absurd g1 (by omega)) (fun j g0 => by rw [up_o (by decide), hK 88 (by decide) (by decide), K89 88 (by decide)]; rw [hJ.1 88 (by decide) (by decide) (by decide) (by decide)])
          rw [up_i (by omega), up_o (by decide)]
          exact h86 j g0 (by omega)
        · exact absurd c95 (by omega)
      | succ q ih =>
        intro i K h0 h1 hK h86
        have k17 : K 72 17 = acc.length := by rw [hK 72 (by decide) (by decide)]; exact K17
        refine r_iload_n S rfl dX12_rules_90 ?_
        refine r_aload_n S rfl dX12_rules_91 ?_
        refine r_getI S (v := K 72 17) fk_X12_221 dX12_rules_92 rfl rfl (Nat.lt_of_lt_of_le (by decide) hn) rfl ?_
        refine r_icmp_ge S (tgt := 128) dX12_rules_95 (by decide) (by omega) (by omega) (fun c95 => ?_) (fun c95 => ?_)
        · exact absurd c95 (by omega)
        · refine r_aload_n S rfl dX12_rules_98 ?_
          refine r_getR S (o' := 86) fk_X12_50 dX12_rules_99 rfl rfl (Nat.lt_of_lt_of_le (by decide) hn) rfl ?_
          refine r_iload_n S rfl dX12_rules_102 ?_
          refine r_aload_n S rfl dX12_rules_103 ?_
          refine r_getR S (o' := 89) fk_X12_59 dX12_rules_104 rfl rfl (Nat.lt_of_lt_of_le (by decide) hn) rfl ?_
          refine r_iload_n S rfl dX12_rules_107 ?_
          refine r_iald S (v := K 89 i) dX12_rules_108 rfl rfl (Nat.lt_of_lt_of_le (by decide) hn) (by omega) (by omega) rfl ?_
          refine r_iast S dX12_rules_109 rfl rfl (Nat.lt_of_lt_of_le (by decide) hn) (by omega) (by omega) ?_
          refine r_aload_n S rfl dX12_rules_110 ?_
          refine r_getR S (o' := 87) fk_X12_53 dX12_rules_111 rfl rfl (Nat.lt_of_lt_of_le (by decide) hn) rfl ?_
          refine r_iload_n S rfl dX12_rules_114 ?_
          refine r_aload_n S rfl dX12_rules_115 ?_
          refine r_getR S (o' := 90) fk_X12_62 dX12_rules_116 rfl rfl (Nat.lt_of_lt_of_le (by decide) hn) rfl ?_
          refine r_iload_n S rfl dX12_rules_119 ?_
          refine r_iald S (v := K 90 i) dX12_rules_120 rfl rfl (Nat.lt_of_lt_of_le (by decide) hn) (by omega) (by omega) rfl ?_
          refine r_iast S dX12_rules_121 rfl rfl (Nat.lt_of_lt_of_le (by decide) hn) (by omega) (by omega) ?_
          refine r_iinc S dX12_rules_122 rfl rfl rfl ?_
          refine r_goto S (tgt := 90) dX12_rules_125 (by decide) ?_
          refine ih (i + 1) _ (by omega) (by omega) (fun o a b => by rw [up_o b, up_o a]; exact hK o a b) (fun j g0 g1 => ?_)
          by_cases e : j = i
          · rw [e, up_o (by decide), up_s, up_s, hK 89 (by decide) (by decide), hK 90 (by decide) (by decide)]
            exact ⟨rfl, rfl⟩
          · rw [up_o (by decide), up_i e, up_i e, up_o (by decide)]
            exact h86 j g0 (by omega)
    refine r_aload_n S rfl dX12_rules_45 ?_
    refine r_iconst S dX12_rules_46 ?_
    refine r_putI S fk_X12_132 dX12_rules_47 rfl rfl (Nat.lt_of_lt_of_le (by decide) hn) (Or.inl rfl) (Or.inl rfl) ?_
    refine r_aload_n S rfl dX12_rules_50 ?_
    refine r_aload_n S rfl dX12_rules_51 ?_
    refine r_getI S (v := J 72 33) fk_X12_174 dX12_rules_52 rfl rfl (Nat.lt_of_lt_of_le (by decide) hn) rfl ?_
    refine r_putI S fk_X12_218 dX12_rules_55 rfl rfl (Nat.lt_of_lt_of_le (by decide) hn) (Or.inl rfl) (Or.inl rfl) ?_
    refine r_aload_n S rfl dX12_rules_58 ?_
    refine r_iload_n S rfl dX12_rules_59 ?_
    refine r_if_eq S (tgt := 67) dX12_rules_60 (by decide) (by decide) (fun c60 => ?_) (fun c60 => ?_)
    · exact absurd c60 (by decide)
    · refine r_iconst S dX12_rules_63 ?_
      refine r_goto S (tgt := 71) dX12_rules_64 (by decide) ?_
      refine r_putI S fk_X12_74 dX12_rules_71 rfl rfl (Nat.lt_of_lt_of_le (by decide) hn) (Or.inl rfl) (Or.inl rfl) ?_
      refine r_iload_n S rfl dX12_rules_74 ?_
      refine r_if_ne S (tgt := 80) dX12_rules_75 (by decide) (by decide) (fun c75 => ?_) (fun c75 => ?_)
      · refine r_aload_n S rfl dX12_rules_80 ?_
        refine r_aload_n S rfl dX12_rules_81 ?_
        refine r_getI S (v := J 72 18) fk_X12_209 dX12_rules_82 rfl rfl (Nat.lt_of_lt_of_le (by decide) hn) rfl ?_
        refine r_putI S fk_X12_221 dX12_rules_85 rfl rfl (Nat.lt_of_lt_of_le (by decide) hn) (Or.inl rfl) (Or.inl rfl) ?_
        rw [← eK0]
        refine r_iconst S dX12_rules_88 ?_
        refine r_istore_n S dX12_rules_89 rfl rfl ?_
        exact froms acc.length 0 K0 (by decide) (by omega) (fun _ _ _ => rfl) (fun j g0 g1 => absurd g1 (by omega))
      · exact absurd c75 (by decide)
  have loop : ∀ (f : Nat) (acc : RLs) (T : TL) (J : Iv), T.length < f → rlOnly I J → aPre J T acc → (∀ r ∈ acc, okS r.1 0 1 ∧ okS r.2 0 1) → R = rulesP f acc T → k 26 [some (.ref (gb G + 72)), some (.int (jI 1)), none] [] n J (rst bk dr pt) 0 0 := by
    intro f
    induction f with
    | zero => intro acc T J h; omega
    | succ f ih =>
      intro acc T J hlen hJ hA hk hR
      have hh := TLok_hd hA.2.2.1
      have hr := mtok_rg hh.1
      have m0 := mt_0 hh.1
      have e30 := hA.2.1.1
      obtain ⟨c, ec⟩ : ∃ c, c = mtok (hd T) := ⟨_, rfl⟩
      rw [← ec] at hr m0 e30
      refine r_iload_n S rfl dX12_rules_26 ?_
      refine r_if_eq S (tgt := 45) dX12_rules_27 (by decide) (by decide) (fun c27 => ?_) (fun c27 => ?_)
      · exact absurd c27 (by decide)
      · refine r_aload_n S rfl dX12_rules_30 ?_
        refine r_getI S (v := J 72 30) fk_X12_158 dX12_rules_31 rfl rfl (Nat.lt_of_lt_of_le (by decide) hn) rfl ?_
        refine r_if_eq S (tgt := 45) dX12_rules_34 (by decide) (by omega) (fun c34 => ?_) (fun c34 => ?_)
        · exact good J T acc hJ hA hk (hR.trans (rulesP_end (by omega)))
        · refine r_aload_n S rfl dX12_rules_37 ?_
          refine r_callV S lk_X12_215 mk_X12_aRule (c_aRule G n J bk dr pt hn hA) rfl (Nat.lt_of_lt_of_le (by decide) hn) rfl rfl rfl (Nat.le_of_ble_eq_true rfl) (by unfold roomy rmD; simp only; omega) rfl ⟨Nat.le_refl _, Nat.le_refl _⟩ dX12_rules_38 ?_
          rintro v _ J2 _ ⟨rfl, rfl, hJ2, hV2, z, rfl, ez⟩
          refine r_istore_n S dX12_rules_41 rfl rfl ?_
          refine r_goto S (tgt := 26) dX12_rules_42 (by decide) ?_
          rcases ez with ⟨z0, e, h1, h3, h4⟩ | ⟨z1, q, h1, h3, h4, h5, h6⟩
          · rw [z0]
            exact bad J2 e (hJ.tr hJ2) hV2 h3 h4 (hR.trans (rulesP_bad (by omega) h1))
          · rw [z1]
            obtain ⟨p1, p2, p3, p4, p5⟩ := ruleP_ok hA.2.2.1 h1
            have l1 := fl_len q.1.1
            have l2 := fl_len q.1.2
            have l3 := hA.2.2.2.2.1
            have l4 := hA.2.2.2.2.2.2.1
            refine ih (acc ++ [q.1]) q.2 J2 (by omega) (hJ.tr hJ2) ⟨hA.1.rl hJ2, h3, p1, h6, ?_, ?_, ?_, h5⟩ ?_ (hR.trans (rulesP_go (by omega) h1))
            · rw [cat_snoc, List.length_append, List.length_append]
              omega
            · rw [h4, List.length_append]
              rfl
            · rw [List.length_append]
              show acc.length + 1 ≤ 10
              omega
            · intro r hr'
              rcases List.mem_append.mp hr' with h | h
              · exact hk r h
              · rw [List.mem_singleton.mp h]
                exact ⟨p3, p4⟩
  obtain ⟨I0, eI0⟩ : ∃ I0, I0 = up (up (up (up I 72 33 0) 72 29 0) 72 18 0) 72 19 0 := ⟨_, rfl⟩
  have o0 : rlOnly I I0 := by rw [eI0]; exact ((((rlOnly.rf _).put _ (by omega)).put _ (by omega)).put _ (by omega)).put _ (by omega)
  have i28 : I0 72 28 = I 72 28 := o0.2 28 (by decide) (by decide) (by decide) (by decide) (by decide) (by decide) (by decide) (by decide) (by decide)
  have i93 : I0 93 = I 93 := o0.1 93 (by decide) (by decide) (by decide) (by decide)
  have i29 : I0 72 29 = 0 := by rw [eI0, up_i (by decide), up_i (by decide), up_s]
  have i32 : I0 72 32 = I 72 32 := by rw [eI0, up_i (by decide), up_i (by decide), up_i (by decide), up_i (by decide)]
  have C := c_X12_next0 G n I0 bk dr pt hn (by omega) (by rw [i29, i28]; exact hE.1.1) (by rw [i28]; exact hE.1.2) (by rw [i28, i93]; exact hE.2) (by rw [i32]; exact hV)
  rw [i93, i28, i29] at C
  refine r_aload_n S rfl dX12_rules_0 ?_
  refine r_iconst S dX12_rules_1 ?_
  refine r_putI S fk_X12_174 dX12_rules_2 rfl rfl (Nat.lt_of_lt_of_le (by decide) hn) (Or.inl rfl) (Or.inl rfl) ?_
  refine r_aload_n S rfl dX12_rules_5 ?_
  refine r_iconst S dX12_rules_6 ?_
  refine r_putI S fk_X12_149 dX12_rules_7 rfl rfl (Nat.lt_of_lt_of_le (by decide) hn) (Or.inl rfl) (Or.inl rfl) ?_
  refine r_aload_n S rfl dX12_rules_10 ?_
  refine r_iconst S dX12_rules_11 ?_
  refine r_putI S fk_X12_209 dX12_rules_12 rfl rfl (Nat.lt_of_lt_of_le (by decide) hn) (Or.inl rfl) (Or.inl rfl) ?_
  refine r_aload_n S rfl dX12_rules_15 ?_
  refine r_iconst S dX12_rules_16 ?_
  refine r_putI S fk_X12_186 dX12_rules_17 rfl rfl (Nat.lt_of_lt_of_le (by decide) hn) (Or.inl rfl) (Or.inl rfl) ?_
  rw [← eI0]
  refine r_aload_n S rfl dX12_rules_20 ?_
  refine r_callV S lk_X12_183 mk_X12_next0 C rfl (Nat.lt_of_lt_of_le (by decide) hn) rfl rfl rfl (Nat.le_of_ble_eq_true rfl) (by unfold roomy rmD; simp only; omega) rfl ⟨Nat.le_refl _, Nat.le_refl _⟩ dX12_rules_21 ?_
  rintro _ _ J _ ⟨rfl, rfl, rfl, hJ, hTJ⟩
  refine r_iconst S dX12_rules_24 ?_
  refine r_istore_n S dX12_rules_25 rfl rfl ?_
  have tl := toks_len (I 93) (I 72 28) 0
  have hE1 := hE.1.1
  have hE2 := hE.1.2
  have o1 := o0.tr (rlOnly.ps (psOnly.nx hJ))
  refine loop 500 [] (toks (I 93) (I 72 28) 0) J (by omega) o1 ⟨hE.rl o1, hTJ, TLok_toks _ _ _, ?_, ?_, ?_, by decide, trivial⟩ (fun r hr => by cases hr) eR
  · refine stps.nx ?_ hJ
    refine ⟨trivial, ?_, fun j g0 g1 => ?_, ?_⟩
    · rw [eI0, up_s]
      rfl
    · have g1' : j < 2 * ((0 : Nat) : Int) := g1
      omega
    · rw [eI0, up_i (by decide), up_i (by decide), up_i (by decide), up_s]
  · show 0 + (toks (I 93) (I 72 28) 0).length ≤ 402
    omega
  · rw [hJ.2 18 (by decide) (by decide) (by decide) (by decide), eI0, up_i (by decide), up_s]
    rfl
end
