/-! ===== the reference's tokens ===== -/
/-- the reference's number for a token -/
def mtok (c : Int) : Int := if 0 ≤ c then 2 else if c = -1 then 201 else if c = -2 then 202 else if c = -3 then 203 else if c = -4 then 204 else if c = -5 then 43 else if c = -6 then 45 else if c = -7 then 42 else if c = -8 then 47 else if c = -9 then 60 else if c = -10 then 61 else if c = -11 then 62 else if c = -12 then 5 else if c = -13 then 3 else if c = -14 then 4 else if c = -15 then 59 else if c = -16 then 40 else if c = -17 then 41 else if c = -18 then 1 else 0
/-- k bytes from a on as one number -/
def pkN (by_ : Int → Int) (a : Int) : Nat → Nat
  | 0 => 0
  | k + 1 => pkN by_ a k * 256 + (by_ (a + k)).toNat
theorem pkN_lt (by_ : Int → Int) (a : Int) (h : ∀ j : Int, 0 ≤ by_ j → by_ j ≤ 255 → True) : ∀ k : Nat, (∀ j : Nat, j < k → 0 ≤ by_ (a + j) ∧ by_ (a + j) ≤ 255) → pkN by_ a k < 256 ^ k
  | 0, _ => Nat.one_pos
  | k + 1, hb => by
    have ih := pkN_lt by_ a h k (fun j hj => hb j (by omega))
    have hk := hb k (by omega)
    show pkN by_ a k * 256 + (by_ (a + k)).toNat < 256 ^ (k + 1)
    rw [Nat.pow_succ]
    omega
theorem pkN_inj {f g : Int → Int} {a b : Int} : ∀ (n m : Nat), (∀ j : Nat, j < n → 1 ≤ f (a + j) ∧ f (a + j) ≤ 255) → (∀ j : Nat, j < m → 1 ≤ g (b + j) ∧ g (b + j) ≤ 255) → (pkN f a n = pkN g b m ↔ n = m ∧ ∀ j : Nat, j < n → f (a + j) = g (b + j))
  | 0, 0, _, _ => ⟨fun _ => ⟨rfl, fun j h => absurd h (Nat.not_lt_zero _)⟩, fun _ => rfl⟩
  | 0, m + 1, _, hg => by
    have h1 := hg m (by omega)
    constructor
    · intro h
      have h' : 0 = pkN g b m * 256 + (g (b + m)).toNat := h
      omega
    · rintro ⟨h, -⟩
      omega
  | n + 1, 0, hf, _ => by
    have h1 := hf n (by omega)
    constructor
    · intro h
      have h' : pkN f a n * 256 + (f (a + n)).toNat = 0 := h
      omega
    · rintro ⟨h, -⟩
      omega
  | n + 1, m + 1, hf, hg => by
    have ih := pkN_inj (f := f) (g := g) (a := a) (b := b) n m (fun j hj => hf j (by omega)) (fun j hj => hg j (by omega))
    have h1 := hf n (by omega)
    have h2 := hg m (by omega)
    constructor
    · intro h
      have h' : pkN f a n * 256 + (f (a + n)).toNat = pkN g b m * 256 + (g (b + m)).toNat := h
      obtain ⟨e1, e2⟩ := ih.mp (by omega)
      subst e1
      refine ⟨rfl, fun j hj => ?_⟩
      by_cases e : j = n
      · subst e
        omega
      · exact e2 j (by omega)
    · rintro ⟨e1, e2⟩
      have e1' : n = m := by omega
      subst e1'
      have e3 := e2 n (by omega)
      have e4 := ih.mpr ⟨rfl, fun j hj => e2 j (by omega)⟩
      show pkN f a n * 256 + (f (a + n)).toNat = pkN g b n * 256 + (g (b + n)).toNat
      rw [e3, e4]
/-- the words' numbers -/
def wdC : List Nat := [1734964837, 2003330414, 6385252, 123580963646565, 1818324580, 500135454067, 123563799835251]
theorem wdC_ok : ∀ i, i < 7 → wdC.getD i 0 = pkN (sCh i) 0 (sL.getD i 0) := by decide +kernel
theorem sCh_pos : ∀ i, i < 7 → ∀ j, j < sL.getD i 0 → (1 ≤ sCh i (0 + (j : Nat)) ∧ sCh i (0 + (j : Nat)) ≤ 255) := by decide +kernel
def wdM (m : Nat) : Int := if m = 1734964837 then 3 else if m = 2003330414 then 4 else if m = 6385252 then 5 else if m = 123580963646565 then 201 else if m = 1818324580 then 202 else if m = 500135454067 then 203 else if m = 123563799835251 then 204 else 1
theorem wd_iff {by_ : Int → Int} {p q : Int} (hq : p ≤ q) (hb : ∀ j : Int, p ≤ j → j < q → isLet (by_ j)) {i : Nat} (hi : i < 7) : pkN by_ p (q - p).toNat = wdC.getD i 0 ↔ splP by_ i p q := by
  rw [wdC_ok i hi, pkN_inj _ _ (fun j hj => by have := hb (p + j) (by omega) (by omega); omega) (fun j hj => sCh_pos i hi j hj)]
  constructor
  · rintro ⟨h1, h2⟩
    refine ⟨by omega, splB_iff.mpr (fun j g0 g1 => ?_)⟩
    have := h2 j.toNat (by omega)
    rw [show ((j.toNat : Nat) : Int) = j by omega, Int.zero_add] at this
    exact this
  · rintro ⟨h1, h2⟩
    refine ⟨by omega, fun j hj => ?_⟩
    have := splB_iff.mp h2 j (by omega) (by omega)
    rw [Int.zero_add]
    exact this
theorem wd_code {by_ : Int → Int} {p q : Int} (hq : p ≤ q) (hb : ∀ j : Int, p ≤ j → j < q → isLet (by_ j)) : wdM (pkN by_ p (q - p).toNat) = mtok (wcode by_ p q) := by
  have e0 := wd_iff hq hb (i := 0) (by decide)
  have e1 := wd_iff hq hb (i := 1) (by decide)
  have e2 := wd_iff hq hb (i := 2) (by decide)
  have e3 := wd_iff hq hb (i := 3) (by decide)
  have e4 := wd_iff hq hb (i := 4) (by decide)
  have e5 := wd_iff hq hb (i := 5) (by decide)
  have e6 := wd_iff hq hb (i := 6) (by decide)
  obtain ⟨w, ew⟩ : ∃ w, w = pkN by_ p (q - p).toNat := ⟨_, rfl⟩
  rw [← ew] at e0 e1 e2 e3 e4 e5 e6 ⊢
  have g0 : w = 1734964837 ↔ splP by_ 0 p q := e0
  have g1 : w = 2003330414 ↔ splP by_ 1 p q := e1
  have g2 : w = 6385252 ↔ splP by_ 2 p q := e2
  have g3 : w = 123580963646565 ↔ splP by_ 3 p q := e3
  have g4 : w = 1818324580 ↔ splP by_ 4 p q := e4
  have g5 : w = 500135454067 ↔ splP by_ 5 p q := e5
  have g6 : w = 123563799835251 ↔ splP by_ 6 p q := e6
  unfold wdM wcode
  by_cases h0 : splP by_ 0 p q
  · rw [if_pos h0, if_pos (g0.mpr h0)]
    rfl
  · rw [if_neg h0, if_neg (fun z => h0 (g0.mp z))]
    by_cases h1 : splP by_ 1 p q
    · rw [if_pos h1, if_pos (g1.mpr h1)]
      rfl
    · rw [if_neg h1, if_neg (fun z => h1 (g1.mp z))]
      by_cases h2 : splP by_ 2 p q
      · rw [if_pos h2, if_pos (g2.mpr h2)]
        rfl
      · rw [if_neg h2, if_neg (fun z => h2 (g2.mp z))]
        by_cases h3 : splP by_ 3 p q
        · rw [if_pos h3, if_pos (g3.mpr h3)]
          rfl
        · rw [if_neg h3, if_neg (fun z => h3 (g3.mp z))]
          by_cases h4 : splP by_ 4 p q
          · rw [if_pos h4, if_pos (g4.mpr h4)]
            rfl
          · rw [if_neg h4, if_neg (fun z => h4 (g4.mp z))]
            by_cases h5 : splP by_ 5 p q
            · rw [if_pos h5, if_pos (g5.mpr h5)]
              rfl
            · rw [if_neg h5, if_neg (fun z => h5 (g5.mp z))]
              by_cases h6 : splP by_ 6 p q
              · rw [if_pos h6, if_pos (g6.mpr h6)]
                rfl
              · rw [if_neg h6, if_neg (fun z => h6 (g6.mp z))]
                rfl
theorem wcode_long {by_ : Int → Int} {p q : Int} (h : 7 ≤ q - p) : wcode by_ p q = -18 := by
  have hl : ∀ i, i < 7 → ¬ splP by_ i p q := by
    intro i hi hs
    have : ∀ i, i < 7 → sL.getD i 0 ≤ 6 := by decide
    have := this i hi
    have := hs.1
    omega
  unfold wcode
  rw [if_neg (hl 0 (by decide)), if_neg (hl 1 (by decide)), if_neg (hl 2 (by decide)), if_neg (hl 3 (by decide)), if_neg (hl 4 (by decide)), if_neg (hl 5 (by decide)), if_neg (hl 6 (by decide))]
theorem sh8 {m : Nat} {b : Int} (hm : m < 2 ^ 48) (b0 : 0 ≤ b) (b1 : b ≤ 255) : (lN m <<< ((jI 8).toInt64 &&& 63)) ||| (jI b).toInt64 = lN (m * 256 + b.toNat) := by
  have hs : (((jI 8).toInt64 &&& 63).toBitVec.smod 64).toNat = 8 := by decide +kernel
  have hb : (jI b).toInt64 = lN b.toNat := by
    rw [show jI b = nI b.toNat by rw [← show ((b.toNat : Nat) : Int) = b by omega, ← jI_nat]; rfl]
    exact nI_l (by omega)
  have tn : ∀ x : Nat, x < 2 ^ 64 → (lN x).toBitVec.toNat = x := fun x hx => by
    show x % 2 ^ 64 = x
    exact Nat.mod_eq_of_lt hx
  rw [hb]
  apply Int64.toBitVec.inj
  apply BitVec.eq_of_toNat_eq
  show ((lN m).toBitVec <<< (((jI 8).toInt64 &&& 63).toBitVec.smod 64).toNat ||| (lN b.toNat).toBitVec).toNat = _
  rw [hs, BitVec.toNat_or, BitVec.toNat_shiftLeft, tn m (by omega), tn b.toNat (by omega), tn _ (by omega), Nat.mod_eq_of_lt (by rw [Nat.shiftLeft_eq]; omega), ← Nat.shiftLeft_add_eq_or_of_lt (by omega), Nat.shiftLeft_eq]
theorem lcmp0 (a b : Int64) : (lg_cmp a b).toInt = 0 ↔ a = b := by
  rw [← lg_cmp_eq, ← Int32.toInt_inj]
  rfl
section
variable (G : GE) (n : Nat) (I : Iv) (bk dr : Nat) (pt : Option Nat)
theorem c_X12_word (ρ : Rv) {m : Nat} (hm : m < 2 ^ 60) : Ct G yX12_word cX12_word 2 (some .int) 0 0 0 [.long (lN m)] n I ρ (PI (wdM m) n I ρ) := by
  refine Ct.of [some (.long (lN m)), none] (by decide) rfl rfl rfl ?_
  intro k SR
  have S : Sem G RX12 "word" cX12_word 2 (rmD 0 0 0) k := SR.sem
  have key : ∀ c : Nat, c < 2 ^ 60 → ((lg_cmp (lN m) (lN c)).toInt = 0 ↔ m = c) := fun c hc => by rw [lcmp0, pk_lEQ (by omega) (by omega)]
  have k0 := key 1734964837 (by decide)
  have k1 := key 2003330414 (by decide)
  have k2 := key 6385252 (by decide)
  have k3 := key 123580963646565 (by decide)
  have k4 := key 1818324580 (by decide)
  have k5 := key 500135454067 (by decide)
  have k6 := key 123563799835251 (by decide)
  refine r_lload_n S rfl dX12_word_0 ?_
  refine r_ldc2 S kc_X12_135 dX12_word_1 ?_
  refine r_lcmp S (v := (lg_cmp (lN m) (lN 1734964837)).toInt) (jI_of _).symm dX12_word_4 ?_
  refine r_if_ne S (tgt := 10) dX12_word_5 (by decide) (rg_of _) (fun c5 => ?_) (fun c5 => ?_)
  · refine r_lload_n S rfl dX12_word_10 ?_
    refine r_ldc2 S kc_X12_137 dX12_word_11 ?_
    refine r_lcmp S (v := (lg_cmp (lN m) (lN 2003330414)).toInt) (jI_of _).symm dX12_word_14 ?_
    refine r_if_ne S (tgt := 20) dX12_word_15 (by decide) (rg_of _) (fun c15 => ?_) (fun c15 => ?_)
    · refine r_lload_n S rfl dX12_word_20 ?_
      refine r_ldc2 S kc_X12_139 dX12_word_21 ?_
      refine r_lcmp S (v := (lg_cmp (lN m) (lN 6385252)).toInt) (jI_of _).symm dX12_word_24 ?_
      refine r_if_ne S (tgt := 30) dX12_word_25 (by decide) (rg_of _) (fun c25 => ?_) (fun c25 => ?_)
      · refine r_lload_n S rfl dX12_word_30 ?_
        refine r_ldc2 S kc_X12_141 dX12_word_31 ?_
        refine r_lcmp S (v := (lg_cmp (lN m) (lN 123580963646565)).toInt) (jI_of _).symm dX12_word_34 ?_
        refine r_if_ne S (tgt := 42) dX12_word_35 (by decide) (rg_of _) (fun c35 => ?_) (fun c35 => ?_)
        · refine r_lload_n S rfl dX12_word_42 ?_
          refine r_ldc2 S kc_X12_143 dX12_word_43 ?_
          refine r_lcmp S (v := (lg_cmp (lN m) (lN 1818324580)).toInt) (jI_of _).symm dX12_word_46 ?_
          refine r_if_ne S (tgt := 54) dX12_word_47 (by decide) (rg_of _) (fun c47 => ?_) (fun c47 => ?_)
          · refine r_lload_n S rfl dX12_word_54 ?_
            refine r_ldc2 S kc_X12_145 dX12_word_55 ?_
            refine r_lcmp S (v := (lg_cmp (lN m) (lN 500135454067)).toInt) (jI_of _).symm dX12_word_58 ?_
            refine r_if_ne S (tgt := 66) dX12_word_59 (by decide) (rg_of _) (fun c59 => ?_) (fun c59 => ?_)
            · refine r_lload_n S rfl dX12_word_66 ?_
              refine r_ldc2 S kc_X12_147 dX12_word_67 ?_
              refine r_lcmp S (v := (lg_cmp (lN m) (lN 123563799835251)).toInt) (jI_of _).symm dX12_word_70 ?_
              refine r_if_ne S (tgt := 80) dX12_word_71 (by decide) (rg_of _) (fun c71 => ?_) (fun c71 => ?_)
              · refine r_iconst S dX12_word_80 ?_
                refine r_iret SR dX12_word_81 ⟨by decide, by decide⟩ ?_
                first | exact ⟨by unfold wdM; rw [if_neg (fun z => c5 (k0.mpr z)), if_neg (fun z => c15 (k1.mpr z)), if_neg (fun z => c25 (k2.mpr z)), if_neg (fun z => c35 (k3.mpr z)), if_neg (fun z => c47 (k4.mpr z)), if_neg (fun z => c59 (k5.mpr z)), if_pos (k6.mp c71)], rfl, rfl, rfl⟩ | exact ⟨by unfold wdM; rw [if_neg (fun z => c5 (k0.mpr z)), if_neg (fun z => c15 (k1.mpr z)), if_neg (fun z => c25 (k2.mpr z)), if_neg (fun z => c35 (k3.mpr z)), if_neg (fun z => c47 (k4.mpr z)), if_neg (fun z => c59 (k5.mpr z)), if_neg (fun z => c71 (k6.mpr z))], rfl, rfl, rfl⟩
              · refine r_sipush S (by decide +kernel) dX12_word_74 ?_
                refine r_goto S (tgt := 81) dX12_word_77 (by decide) ?_
                refine r_iret SR dX12_word_81 ⟨by decide, by decide⟩ ?_
                first | exact ⟨by unfold wdM; rw [if_neg (fun z => c5 (k0.mpr z)), if_neg (fun z => c15 (k1.mpr z)), if_neg (fun z => c25 (k2.mpr z)), if_neg (fun z => c35 (k3.mpr z)), if_neg (fun z => c47 (k4.mpr z)), if_neg (fun z => c59 (k5.mpr z)), if_pos (k6.mp c71)], rfl, rfl, rfl⟩ | exact ⟨by unfold wdM; rw [if_neg (fun z => c5 (k0.mpr z)), if_neg (fun z => c15 (k1.mpr z)), if_neg (fun z => c25 (k2.mpr z)), if_neg (fun z => c35 (k3.mpr z)), if_neg (fun z => c47 (k4.mpr z)), if_neg (fun z => c59 (k5.mpr z)), if_neg (fun z => c71 (k6.mpr z))], rfl, rfl, rfl⟩
            · refine r_sipush S (by decide +kernel) dX12_word_62 ?_
              refine r_iret SR dX12_word_65 ⟨by decide, by decide⟩ ?_
              exact ⟨by unfold wdM; rw [if_neg (fun z => c5 (k0.mpr z)), if_neg (fun z => c15 (k1.mpr z)), if_neg (fun z => c25 (k2.mpr z)), if_neg (fun z => c35 (k3.mpr z)), if_neg (fun z => c47 (k4.mpr z)), if_pos (k5.mp c59)], rfl, rfl, rfl⟩
          · refine r_sipush S (by decide +kernel) dX12_word_50 ?_
            refine r_iret SR dX12_word_53 ⟨by decide, by decide⟩ ?_
            exact ⟨by unfold wdM; rw [if_neg (fun z => c5 (k0.mpr z)), if_neg (fun z => c15 (k1.mpr z)), if_neg (fun z => c25 (k2.mpr z)), if_neg (fun z => c35 (k3.mpr z)), if_pos (k4.mp c47)], rfl, rfl, rfl⟩
        · refine r_sipush S (by decide +kernel) dX12_word_38 ?_
          refine r_iret SR dX12_word_41 ⟨by decide, by decide⟩ ?_
          exact ⟨by unfold wdM; rw [if_neg (fun z => c5 (k0.mpr z)), if_neg (fun z => c15 (k1.mpr z)), if_neg (fun z => c25 (k2.mpr z)), if_pos (k3.mp c35)], rfl, rfl, rfl⟩
      · refine r_iconst S dX12_word_28 ?_
        refine r_iret SR dX12_word_29 ⟨by decide, by decide⟩ ?_
        exact ⟨by unfold wdM; rw [if_neg (fun z => c5 (k0.mpr z)), if_neg (fun z => c15 (k1.mpr z)), if_pos (k2.mp c25)], rfl, rfl, rfl⟩
    · refine r_iconst S dX12_word_18 ?_
      refine r_iret SR dX12_word_19 ⟨by decide, by decide⟩ ?_
      exact ⟨by unfold wdM; rw [if_neg (fun z => c5 (k0.mpr z)), if_pos (k1.mp c15)], rfl, rfl, rfl⟩
  · refine r_iconst S dX12_word_8 ?_
    refine r_iret SR dX12_word_9 ⟨by decide, by decide⟩ ?_
    exact ⟨by unfold wdM; rw [if_pos (k0.mp c5)], rfl, rfl, rfl⟩
theorem c_X12_isLetter (ρ : Rv) {a : Int} (ha : rg a) : Ct G yX12_isLetter cX12_isLetter 1 (some .boolean) 1 0 0 [.int (jI a)] n I ρ (PI (b2 (isLet a)) n I ρ) := by
  refine Ct.of [some (.int (jI a))] (by decide) rfl rfl rfl ?_
  intro k SR
  have S : Sem G RX12 "isLetter" cX12_isLetter 1 (rmD 1 0 0) k := SR.sem
  refine r_iload_n S rfl dX12_isLetter_0 ?_
  refine r_bipush S (by decide +kernel) dX12_isLetter_1 ?_
  refine r_bipush S (by decide +kernel) dX12_isLetter_3 ?_
  refine r_callS S lk_X12_105 mk_X12_isIn (c_X12_isIn G n I ρ ha (by decide) (by decide)) rfl rfl (Nat.le_of_ble_eq_true rfl) ⟨by decide, by decide⟩ rfl ⟨by decide, by decide⟩ dX12_isLetter_5 ?_
  rintro _ _ _ _ ⟨rfl, rfl, rfl, rfl⟩
  refine r_ifb_ne S (tgt := 22) dX12_isLetter_8 (by decide)  (fun c8 => ?_) (fun c8 => ?_)
  · refine r_iconst S dX12_isLetter_22 ?_
    refine r_goto S (tgt := 27) dX12_isLetter_23 (by decide) ?_
    refine r_zret SR dX12_isLetter_27 (by decide) ⟨by decide, by decide⟩ ?_
    refine ⟨?_, rfl, rfl, rfl⟩
    first | rw [b2_t (by omega)] | rw [b2_f (by omega)]
  · refine r_iload_n S rfl dX12_isLetter_11 ?_
    refine r_bipush S (by decide +kernel) dX12_isLetter_12 ?_
    refine r_bipush S (by decide +kernel) dX12_isLetter_14 ?_
    refine r_callS S lk_X12_105 mk_X12_isIn (c_X12_isIn G n I ρ ha (by decide) (by decide)) rfl rfl (Nat.le_of_ble_eq_true rfl) ⟨by decide, by decide⟩ rfl ⟨by decide, by decide⟩ dX12_isLetter_16 ?_
    rintro _ _ _ _ ⟨rfl, rfl, rfl, rfl⟩
    refine r_ifb_eq S (tgt := 26) dX12_isLetter_19 (by decide)  (fun c19 => ?_) (fun c19 => ?_)
    · refine r_iconst S dX12_isLetter_26 ?_
      refine r_zret SR dX12_isLetter_27 (by decide) ⟨by decide, by decide⟩ ?_
      refine ⟨?_, rfl, rfl, rfl⟩
      first | rw [b2_t (by omega)] | rw [b2_f (by omega)]
    · refine r_iconst S dX12_isLetter_22 ?_
      refine r_goto S (tgt := 27) dX12_isLetter_23 (by decide) ?_
      refine r_zret SR dX12_isLetter_27 (by decide) ⟨by decide, by decide⟩ ?_
      refine ⟨?_, rfl, rfl, rfl⟩
      first | rw [b2_t (by omega)] | rw [b2_f (by omega)]
theorem c_X12_isDigit (ρ : Rv) {a : Int} (ha : rg a) : Ct G yX12_isDigit cX12_isDigit 1 (some .boolean) 1 0 0 [.int (jI a)] n I ρ (PI (b2 (isDig a)) n I ρ) := by
  refine Ct.of [some (.int (jI a))] (by decide) rfl rfl rfl ?_
  intro k SR
  have S : Sem G RX12 "isDigit" cX12_isDigit 1 (rmD 1 0 0) k := SR.sem
  refine r_iload_n S rfl dX12_isDigit_0 ?_
  refine r_bipush S (by decide +kernel) dX12_isDigit_1 ?_
  refine r_bipush S (by decide +kernel) dX12_isDigit_3 ?_
  refine r_callS S lk_X12_105 mk_X12_isIn (c_X12_isIn G n I ρ ha (by decide) (by decide)) rfl rfl (Nat.le_of_ble_eq_true rfl) ⟨by decide, by decide⟩ rfl ⟨by decide, by decide⟩ dX12_isDigit_5 ?_
  rintro _ _ _ _ ⟨rfl, rfl, rfl, rfl⟩
  refine r_zret SR dX12_isDigit_8 (by first | exact b2_01 _ | omega) ⟨by decide, by decide⟩ ?_
  exact ⟨rfl, rfl, rfl, rfl⟩
theorem c_X12_see (hn : 103 ≤ n) {a : Int} (a0 : 0 ≤ a) (a1 : a ≤ 400) (h0 : rg (I 72 28)) (h1 : I 72 28 ≤ 400) : Ct G yX12_see cX12_see 2 (some .int) 0 0 0 [.ref (gb G + 72), .int (jI a)] n I (rst bk dr pt) (PI (if a < I 72 28 then I 93 a else -1) n I (rst bk dr pt)) := by
  refine Ct.of [some (.ref (gb G + 72)), some (.int (jI a))] (by decide) rfl rfl rfl ?_
  intro k SR
  have S : Sem G RX12 "see" cX12_see 2 (rmD 0 0 0) k := SR.sem
  refine r_iload_n S rfl dX12_see_0 ?_
  refine r_aload_n S rfl dX12_see_1 ?_
  refine r_getI S (v := I 72 28) fk_X12_132 dX12_see_2 rfl rfl (Nat.lt_of_lt_of_le (by decide) hn) rfl ?_
  refine r_icmp_ge S (tgt := 17) dX12_see_5 (by decide) (by omega) (by omega) (fun c5 => ?_) (fun c5 => ?_)
  · refine r_iconst S dX12_see_17 ?_
    refine r_iret SR dX12_see_18 ⟨by decide, by decide⟩ ?_
    refine ⟨?_, rfl, rfl, rfl⟩
    first | rw [if_pos (by omega)] | rw [if_neg (by omega)]
  · refine r_aload_n S rfl dX12_see_8 ?_
    refine r_getR S (o' := 93) fk_X12_71 dX12_see_9 rfl rfl (Nat.lt_of_lt_of_le (by decide) hn) rfl ?_
    refine r_iload_n S rfl dX12_see_12 ?_
    refine r_iald S (v := I 93 a) dX12_see_13 rfl rfl (Nat.lt_of_lt_of_le (by decide) hn) (by omega) (by omega) rfl ?_
    refine r_goto S (tgt := 18) dX12_see_14 (by decide) ?_
    refine r_iret SR dX12_see_18 ⟨by decide, by decide⟩ ?_
    refine ⟨?_, rfl, rfl, rfl⟩
    first | rw [if_pos (by omega)] | rw [if_neg (by omega)]
end
