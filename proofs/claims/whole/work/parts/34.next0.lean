/-- only the reading place and the token have changed -/
def nxOnly (I I' : Iv) : Prop := (∀ o, o ≠ 72 → I' o = I o) ∧ ∀ j, j ≠ 29 → j ≠ 30 → j ≠ 31 → j ≠ 32 → I' 72 j = I 72 j
theorem nxOnly.rf (I : Iv) : nxOnly I I := ⟨fun _ _ => rfl, fun _ _ _ _ _ => rfl⟩
theorem nxOnly.put {I J : Iv} (h : nxOnly I J) {j : Int} (v : Int) (hj : j = 29 ∨ j = 30 ∨ j = 31 ∨ j = 32) : nxOnly I (up J 72 j v) := ⟨fun o ho => by rw [up_o ho]; exact h.1 o ho, fun i h1 h2 h3 h4 => by rw [up_i (by omega)]; exact h.2 i h1 h2 h3 h4⟩
/-- the reference stands at the tokens T -/
def tokI (I : Iv) (T : TL) : Prop := I 72 30 = mtok (hd T) ∧ I 72 31 = pl T ∧ (0 ≤ hd T → I 72 32 = hd T) ∧ (0 ≤ I 72 32 ∧ I 72 32 ≤ 9999) ∧ (0 ≤ I 72 29 ∧ I 72 29 ≤ I 72 28) ∧ (¬ hd T = -19 → toks (I 93) (I 72 28) (I 72 29) = adv T)
theorem adv_toks {by_ : Int → Int} {len : Int} {x : Int × Int} {q : Int} : adv (x :: toks by_ len q) = toks by_ len q := by
  cases h : toks by_ len q with
  | nil => exact absurd (toks_ne by_ len q) (by rw [h]; decide)
  | cons a t => rfl
section
variable (G : GE) (n : Nat) (I : Iv) (bk dr : Nat) (pt : Option Nat)
theorem c_X12_next0 (hn : 103 ≤ n) (a0 : 0 ≤ I 72 29) (a1 : I 72 29 ≤ I 72 28) (h1 : I 72 28 ≤ 400) (hby : ∀ j, 0 ≤ j → j < I 72 28 → 0 ≤ I 93 j ∧ I 93 j ≤ 255) (hv : 0 ≤ I 72 32 ∧ I 72 32 ≤ 9999) : Ct G yX12_next0 cX12_next0 5 none 2 0 0 [.ref (gb G + 72)] n I (rst bk dr pt) (fun v n' I' ρ' => v = none ∧ n = n' ∧ rst bk dr pt = ρ' ∧ nxOnly I I' ∧ tokI I' (toks (I 93) (I 72 28) (I 72 29))) := by
  refine Ct.of [some (.ref (gb G + 72)), none, none, none, none] (by decide) rfl rfl rfl ?_
  intro k SR
  have S : Sem G RX12 "next0" cX12_next0 5 (rmD 2 0 0) k := SR.sem
  obtain ⟨T, eT⟩ : ∃ T, T = toks (I 93) (I 72 28) (I 72 29) := ⟨_, rfl⟩
  rw [← eT] at SR
  obtain ⟨B, eB⟩ : ∃ B, B = I 93 := ⟨_, rfl⟩
  obtain ⟨N, eN⟩ : ∃ N, N = I 72 28 := ⟨_, rfl⟩
  rw [← eB, ← eN] at eT
  rw [← eN] at a1 h1
  rw [← eB, ← eN] at hby
  have f93 : ∀ J, nxOnly I J → J 93 = B := fun J h => by rw [h.1 93 (by decide), eB]
  have f28 : ∀ J, nxOnly I J → J 72 28 = N := fun J h => by rw [h.2 28 (by decide) (by decide) (by decide) (by decide), eN]
  obtain ⟨sv, esv⟩ : ∃ sv : Int → Int, sv = fun a => if a < N then B a else -1 := ⟨_, rfl⟩
  have svI : ∀ a, a < N → sv a = B a := fun a h => by rw [esv]; exact if_pos h
  have svO : ∀ a, N ≤ a → sv a = -1 := fun a h => by rw [esv]; exact if_neg (by omega)
  have svR : ∀ a, 0 ≤ a → rg (sv a) := fun a h => by
    by_cases q : a < N
    · rw [svI a q]
      have := hby a h q
      omega
    · rw [svO a (by omega)]
      decide
  have see : ∀ (J : Iv) (a : Int), nxOnly I J → 0 ≤ a → a ≤ N → Ct G yX12_see cX12_see 2 (some .int) 0 0 0 [.ref (gb G + 72), .int (jI a)] n J (rst bk dr pt) (PI (sv a) n J (rst bk dr pt)) := by
    intro J a hJ g0 g1
    have C := c_X12_see G n J bk dr pt hn (a := a) g0 (by omega) (by rw [f28 J hJ]; omega) (by rw [f28 J hJ]; omega)
    rw [f28 J hJ, f93 J hJ] at C
    rw [esv]
    exact C
  -- the end: everything is set
  have fin : ∀ (J : Iv) (L : List (Option Value)), nxOnly I J → tokI J T → k 328 L [] n J (rst bk dr pt) 0 0 := by
    intro J L hJ hT
    refine r_vret SR dX12_next0_328 ⟨by decide, by decide⟩ ?_
    exact ⟨rfl, rfl, rfl, hJ, hT⟩
  -- letters
  have loopL : ∀ (p : Int), 0 ≤ p → p < N → ¬ (B p = 32 ∨ B p = 10) → isLet (B p) → toks B N p = T → ∀ (q : Nat) (e m c : Int) (w : Nat) (J : Iv), nxOnly I J → J 72 31 = p → (0 ≤ J 72 32 ∧ J 72 32 ≤ 9999) → J 72 29 = e → p ≤ e → e ≤ N → N < e + q → m = e - p → run0 isLet B N e = run0 isLet B N p → w < 2 ^ 60 → (e - p ≤ 7 → w = pkN B p (e - p).toNat) → k 80 [some (.ref (gb G + 72)), some (.int (jI c)), some (.int (jI m)), some (.long (lN w)), none] [] n J (rst bk dr pt) 0 0 := by
    intro p p0 p1 pb pl_ pT q
    have hall : ∀ j, p ≤ j → j < run0 isLet B N p → isLet (B j) := fun j g0 g1 => runF_in isLet B _ p j g0 g1
    induction q with
    | zero => intro e m c w J _ _ _ _ _ _ _; omega
    | succ q ih =>
      intro e m c w J hJ h31 h32 h29 g0 g1 g2 hm hrun hw hpk
      have done_ : e = run0 isLet B N p → ∀ tk : Int, tk = mtok (wcode B p e) → nxOnly I (up J 72 30 tk) ∧ tokI (up J 72 30 tk) T := by
        intro he tk htk
        have hJ2 : nxOnly I (up J 72 30 tk) := hJ.put tk (by omega)
        refine ⟨hJ2, ?_⟩
        have hT : T = (wcode B p e, p) :: toks B N e := by rw [← pT, toks_tok B p1 pb, tok1, if_pos pl_, ← he]
        have hh : hd T = wcode B p e := by rw [hT]; rfl
        have hwn : wcode B p e < 0 := by
          unfold wcode
          repeat (first | omega | split)
        refine ⟨?_, ?_, ?_, ?_, ?_, ?_⟩
        · rw [up_s, htk, hh]
        · rw [up_i (by decide), h31, hT]
          rfl
        · intro hc
          omega
        · rw [up_i (by decide)]
          exact h32
        · rw [up_i (by decide), f28 _ hJ2, h29]
          omega
        · intro _
          rw [f93 _ hJ2, f28 _ hJ2, up_i (by decide), h29, hT]
          exact adv_toks.symm
      refine r_aload_n S rfl dX12_next0_80 ?_
      refine r_aload_n S rfl dX12_next0_81 ?_
      refine r_getI S (v := J 72 29) fk_X12_149 dX12_next0_82 rfl rfl (Nat.lt_of_lt_of_le (by decide) hn) rfl ?_
      rw [h29]
      refine r_callV S lk_X12_152 mk_X12_see (see J e hJ (by omega) g1) rfl (Nat.lt_of_lt_of_le (by decide) hn) rfl rfl rfl (Nat.le_of_ble_eq_true rfl) ⟨by decide, by decide⟩ rfl ⟨by decide, by decide⟩ dX12_next0_85 ?_
      rintro _ _ _ _ ⟨rfl, rfl, rfl, rfl⟩
      refine r_callS S lk_X12_161 mk_X12_isLetter (c_X12_isLetter G n J _ (svR e (by omega))) rfl rfl (Nat.le_of_ble_eq_true rfl) ⟨by decide, by decide⟩ rfl ⟨by decide, by decide⟩ dX12_next0_88 ?_
      rintro _ _ _ _ ⟨rfl, rfl, rfl, rfl⟩
      refine r_ifb_eq S (tgt := 131) dX12_next0_91 (by decide)  (fun c91 => ?_) (fun c91 => ?_)
      · have he : e = run0 isLet B N p := by
          by_cases z : e < N
          · rw [svI e z] at c91
            rw [← hrun, run0_step isLet B z, if_neg c91]
          · rw [← hrun, run0_end isLet B (by omega)]
        refine r_aload_n S rfl dX12_next0_131 ?_
        refine r_iload_n S rfl dX12_next0_132 ?_
        refine r_bipush S (by decide +kernel) dX12_next0_133 ?_
        refine r_icmp_ge S (tgt := 145) dX12_next0_135 (by decide) (by omega) (by omega) (fun c135 => ?_) (fun c135 => ?_)
        · refine r_iconst S dX12_next0_145 ?_
          refine r_putI S fk_X12_158 dX12_next0_146 rfl rfl (Nat.lt_of_lt_of_le (by decide) hn) (Or.inl rfl) (Or.inl rfl) ?_
          refine r_goto S (tgt := 328) dX12_next0_149 (by decide) ?_
          first
            | (have D := done_ he (wdM w) (by rw [hpk (by omega), wd_code (by omega) (fun j z0 z1 => hall j z0 (by omega))])
               exact fin _ _ D.1 D.2)
            | (have D := done_ he 1 (by rw [wcode_long (by omega)]; rfl)
               exact fin _ _ D.1 D.2)
        · refine r_lload_n S rfl dX12_next0_138 ?_
          refine r_callS S lk_X12_164 mk_X12_word (c_X12_word G n J _ hw) rfl rfl (Nat.le_of_ble_eq_true rfl) ⟨by decide, by decide⟩ rfl ⟨by decide, by decide⟩ dX12_next0_139 ?_
          rintro _ _ _ _ ⟨rfl, rfl, rfl, rfl⟩
          refine r_goto S (tgt := 146) dX12_next0_142 (by decide) ?_
          refine r_putI S fk_X12_158 dX12_next0_146 rfl rfl (Nat.lt_of_lt_of_le (by decide) hn) (Or.inl rfl) (Or.inl rfl) ?_
          refine r_goto S (tgt := 328) dX12_next0_149 (by decide) ?_
          first
            | (have D := done_ he (wdM w) (by rw [hpk (by omega), wd_code (by omega) (fun j z0 z1 => hall j z0 (by omega))])
               exact fin _ _ D.1 D.2)
            | (have D := done_ he 1 (by rw [wcode_long (by omega)]; rfl)
               exact fin _ _ D.1 D.2)
      · have heN : e < N := by
          by_cases z : e < N
          · exact z
          · rw [svO e (by omega)] at c91
            exact absurd c91 (by decide)
        have hBe := hby e (by omega) heN
        rw [svI e heN] at c91
        have hrun2 : run0 isLet B N (e + 1) = run0 isLet B N p := by rw [← hrun, run0_step isLet B heN, if_pos c91]
        refine r_iload_n S rfl dX12_next0_94 ?_
        refine r_bipush S (by decide +kernel) dX12_next0_95 ?_
        refine r_icmp_ge S (tgt := 115) dX12_next0_97 (by decide) (by omega) (by omega) (fun c97 => ?_) (fun c97 => ?_)
        · refine r_iinc S dX12_next0_115 rfl rfl rfl ?_
          refine r_aload_n S rfl dX12_next0_118 ?_
          refine r_dup S rfl dX12_next0_119 ?_
          refine r_getI S (v := J 72 29) fk_X12_149 dX12_next0_120 rfl rfl (Nat.lt_of_lt_of_le (by decide) hn) rfl ?_
          refine r_iconst S dX12_next0_123 ?_
          refine r_iadd S dX12_next0_124 ?_
          refine r_putI S fk_X12_149 dX12_next0_125 rfl rfl (Nat.lt_of_lt_of_le (by decide) hn) (Or.inl rfl) (Or.inl rfl) ?_
          refine r_goto S (tgt := 80) dX12_next0_128 (by decide) ?_
          have hJ2 : nxOnly I (up J 72 29 (J 72 29 + 1)) := hJ.put _ (by omega)
          first
            | (have hm8 := hpk (by omega)
               have hw48 : w < 2 ^ 48 := by
                 have := pkN_lt B p (fun _ _ _ => trivial) (e - p).toNat (fun j hj => hby (p + j) (by omega) (by omega))
                 have h6 : 256 ^ (e - p).toNat ≤ 256 ^ 6 := Nat.pow_le_pow_right (by decide) (by omega)
                 have h7 : (256 : Nat) ^ 6 = 2 ^ 48 := by decide
                 omega
               have hsh := sh8 (m := w) (b := B e) hw48 (by omega) (by omega)
               have nx := ih (e + 1) (m + 1) c (w * 256 + (B e).toNat) _ hJ2 (by rw [up_i (by decide)]; exact h31) (by rw [up_i (by decide)]; exact h32) (by rw [up_s, h29]) (by omega) (by omega) (by omega) (by omega) hrun2 (by omega) (fun _ => by
                 rw [show (e + 1 - p).toNat = (e - p).toNat + 1 by omega]
                 show _ = pkN B p (e - p).toNat * 256 + (B (p + ((e - p).toNat : Nat))).toNat
                 rw [← hm8, show p + ((e - p).toNat : Nat) = e by omega])
               rw [← hsh] at nx
               exact nx)
            | exact ih (e + 1) (m + 1) c w _ hJ2 (by rw [up_i (by decide)]; exact h31) (by rw [up_i (by decide)]; exact h32) (by rw [up_s, h29]) (by omega) (by omega) (by omega) (by omega) hrun2 hw (fun z => by omega)
        · refine r_lload_n S rfl dX12_next0_100 ?_
          refine r_bipush S (by decide +kernel) dX12_next0_101 ?_
          refine r_lshl S dX12_next0_103 ?_
          refine r_aload_n S rfl dX12_next0_104 ?_
          refine r_aload_n S rfl dX12_next0_105 ?_
          refine r_getI S (v := J 72 29) fk_X12_149 dX12_next0_106 rfl rfl (Nat.lt_of_lt_of_le (by decide) hn) rfl ?_
          rw [h29]
          refine r_callV S lk_X12_152 mk_X12_see (see J e hJ (by omega) g1) rfl (Nat.lt_of_lt_of_le (by decide) hn) rfl rfl rfl (Nat.le_of_ble_eq_true rfl) ⟨by decide, by decide⟩ rfl ⟨by decide, by decide⟩ dX12_next0_109 ?_
          rintro _ _ _ _ ⟨rfl, rfl, rfl, rfl⟩
          rw [svI e heN]
          refine r_i2l S dX12_next0_112 ?_
          refine r_lor S dX12_next0_113 ?_
          refine r_lstore_n S dX12_next0_114 rfl rfl ?_
          refine r_iinc S dX12_next0_115 rfl rfl rfl ?_
          refine r_aload_n S rfl dX12_next0_118 ?_
          refine r_dup S rfl dX12_next0_119 ?_
          refine r_getI S (v := J 72 29) fk_X12_149 dX12_next0_120 rfl rfl (Nat.lt_of_lt_of_le (by decide) hn) rfl ?_
          refine r_iconst S dX12_next0_123 ?_
          refine r_iadd S dX12_next0_124 ?_
          refine r_putI S fk_X12_149 dX12_next0_125 rfl rfl (Nat.lt_of_lt_of_le (by decide) hn) (Or.inl rfl) (Or.inl rfl) ?_
          refine r_goto S (tgt := 80) dX12_next0_128 (by decide) ?_
          have hJ2 : nxOnly I (up J 72 29 (J 72 29 + 1)) := hJ.put _ (by omega)
          first
            | (have hm8 := hpk (by omega)
               have hw48 : w < 2 ^ 48 := by
                 have := pkN_lt B p (fun _ _ _ => trivial) (e - p).toNat (fun j hj => hby (p + j) (by omega) (by omega))
                 have h6 : 256 ^ (e - p).toNat ≤ 256 ^ 6 := Nat.pow_le_pow_right (by decide) (by omega)
                 have h7 : (256 : Nat) ^ 6 = 2 ^ 48 := by decide
                 omega
               have hsh := sh8 (m := w) (b := B e) hw48 (by omega) (by omega)
               have nx := ih (e + 1) (m + 1) c (w * 256 + (B e).toNat) _ hJ2 (by rw [up_i (by decide)]; exact h31) (by rw [up_i (by decide)]; exact h32) (by rw [up_s, h29]) (by omega) (by omega) (by omega) (by omega) hrun2 (by omega) (fun _ => by
                 rw [show (e + 1 - p).toNat = (e - p).toNat + 1 by omega]
                 show _ = pkN B p (e - p).toNat * 256 + (B (p + ((e - p).toNat : Nat))).toNat
                 rw [← hm8, show p + ((e - p).toNat : Nat) = e by omega])
               rw [← hsh] at nx
               exact nx)
            | exact ih (e + 1) (m + 1) c w _ hJ2 (by rw [up_i (by decide)]; exact h31) (by rw [up_i (by decide)]; exact h32) (by rw [up_s, h29]) (by omega) (by omega) (by omega) (by omega) hrun2 hw (fun z => by omega)
  -- digits
  have loopD : ∀ (p : Int), 0 ≤ p → p < N → ¬ (B p = 32 ∨ B p = 10) → ¬ isLet (B p) → isDig (B p) → toks B N p = T → ∀ (q : Nat) (e m c : Int) (J : Iv), nxOnly I J → J 72 31 = p → (0 ≤ J 72 32 ∧ J 72 32 ≤ 9999) → J 72 29 = e → p ≤ e → e ≤ N → N < e + q → m = e - p → run0 isDig B N e = run0 isDig B N p → (e - p ≤ 4 → J 72 32 = numv B p (e - p).toNat) → k 164 [some (.ref (gb G + 72)), some (.int (jI c)), some (.int (jI m)), none, none] [] n J (rst bk dr pt) 0 0 := by
    intro p p0 p1 pb pl_ pd pT q
    have hall : ∀ j, p ≤ j → j < run0 isDig B N p → isDig (B j) := fun j g0 g1 => runF_in isDig B _ p j g0 g1
    induction q with
    | zero => intro e m c J _ _ _ _ _ _ _; omega
    | succ q ih =>
      intro e m c J hJ h31 h32 h29 g0 g1 g2 hm hrun hpk
      have done_ : e = run0 isDig B N p → ∀ tk : Int, tk = mtok (dcode B p e) → nxOnly I (up J 72 30 tk) ∧ tokI (up J 72 30 tk) T := by
        intro he tk htk
        have hJ2 : nxOnly I (up J 72 30 tk) := hJ.put tk (by omega)
        refine ⟨hJ2, ?_⟩
        have hT : T = (dcode B p e, p) :: toks B N e := by rw [← pT, toks_tok B p1 pb, tok1, if_neg pl_, if_pos pd, ← he]
        have hh : hd T = dcode B p e := by rw [hT]; rfl
        refine ⟨?_, ?_, ?_, ?_, ?_, ?_⟩
        · rw [up_s, htk, hh]
        · rw [up_i (by decide), h31, hT]
          rfl
        · intro hc
          rw [up_i (by decide), hh]
          rw [hh] at hc
          unfold dcode at hc ⊢
          by_cases z : e - p ≤ 4
          · rw [if_pos z]
            exact hpk z
          · rw [if_neg z] at hc
            omega
        · rw [up_i (by decide)]
          exact h32
        · rw [up_i (by decide), f28 _ hJ2, h29]
          omega
        · intro _
          rw [f93 _ hJ2, f28 _ hJ2, up_i (by decide), h29, hT]
          exact adv_toks.symm
      obtain ⟨V, eV⟩ : ∃ V, V = J 72 32 := ⟨_, rfl⟩
      refine r_aload_n S rfl dX12_next0_164 ?_
      refine r_aload_n S rfl dX12_next0_165 ?_
      refine r_getI S (v := J 72 29) fk_X12_149 dX12_next0_166 rfl rfl (Nat.lt_of_lt_of_le (by decide) hn) rfl ?_
      rw [h29]
      refine r_callV S lk_X12_152 mk_X12_see (see J e hJ (by omega) g1) rfl (Nat.lt_of_lt_of_le (by decide) hn) rfl rfl rfl (Nat.le_of_ble_eq_true rfl) ⟨by decide, by decide⟩ rfl ⟨by decide, by decide⟩ dX12_next0_169 ?_
      rintro _ _ _ _ ⟨rfl, rfl, rfl, rfl⟩
      refine r_callS S lk_X12_168 mk_X12_isDigit (c_X12_isDigit G n J _ (svR e (by omega))) rfl rfl (Nat.le_of_ble_eq_true rfl) ⟨by decide, by decide⟩ rfl ⟨by decide, by decide⟩ dX12_next0_172 ?_
      rintro _ _ _ _ ⟨rfl, rfl, rfl, rfl⟩
      refine r_ifb_eq S (tgt := 222) dX12_next0_175 (by decide)  (fun c175 => ?_) (fun c175 => ?_)
      · have he : e = run0 isDig B N p := by
          by_cases z : e < N
          · rw [svI e z] at c175
            rw [← hrun, run0_step isDig B z, if_neg c175]
          · rw [← hrun, run0_end isDig B (by omega)]
        refine r_aload_n S rfl dX12_next0_222 ?_
        refine r_iload_n S rfl dX12_next0_223 ?_
        refine r_iconst S dX12_next0_224 ?_
        refine r_icmp_ge S (tgt := 232) dX12_next0_225 (by decide) (by omega) (by omega) (fun c225 => ?_) (fun c225 => ?_)
        · refine r_iconst S dX12_next0_232 ?_
          refine r_putI S fk_X12_158 dX12_next0_233 rfl rfl (Nat.lt_of_lt_of_le (by decide) hn) (Or.inl rfl) (Or.inl rfl) ?_
          refine r_goto S (tgt := 328) dX12_next0_236 (by decide) ?_
          first
            | (have hran := numv_range B p (e - p).toNat (by omega) (fun j z0 z1 => hall j z0 (by omega))
               have D := done_ he 2 (by unfold dcode mtok; rw [if_pos (show e - p ≤ 4 by omega), if_pos hran.1])
               exact fin _ _ D.1 D.2)
            | (have D := done_ he 1 (by unfold dcode; rw [if_neg (by omega)]; rfl)
               exact fin _ _ D.1 D.2)
        · refine r_iconst S dX12_next0_228 ?_
          refine r_goto S (tgt := 233) dX12_next0_229 (by decide) ?_
          refine r_putI S fk_X12_158 dX12_next0_233 rfl rfl (Nat.lt_of_lt_of_le (by decide) hn) (Or.inl rfl) (Or.inl rfl) ?_
          refine r_goto S (tgt := 328) dX12_next0_236 (by decide) ?_
          first
            | (have hran := numv_range B p (e - p).toNat (by omega) (fun j z0 z1 => hall j z0 (by omega))
               have D := done_ he 2 (by unfold dcode mtok; rw [if_pos (show e - p ≤ 4 by omega), if_pos hran.1])
               exact fin _ _ D.1 D.2)
            | (have D := done_ he 1 (by unfold dcode; rw [if_neg (by omega)]; rfl)
               exact fin _ _ D.1 D.2)
      · have heN : e < N := by
          by_cases z : e < N
          · exact z
          · rw [svO e (by omega)] at c175
            exact absurd c175 (by decide)
        have hBe := hby e (by omega) heN
        rw [svI e heN] at c175
        have hrun2 : run0 isDig B N (e + 1) = run0 isDig B N p := by rw [← hrun, run0_step isDig B heN, if_pos c175]
        refine r_iload_n S rfl dX12_next0_178 ?_
        refine r_iconst S dX12_next0_179 ?_
        refine r_icmp_ge S (tgt := 206) dX12_next0_180 (by decide) (by omega) (by omega) (fun c180 => ?_) (fun c180 => ?_)
        · refine r_iinc S dX12_next0_206 rfl rfl rfl ?_
          refine r_aload_n S rfl dX12_next0_209 ?_
          refine r_dup S rfl dX12_next0_210 ?_
          refine r_getI S (v := J 72 29) fk_X12_149 dX12_next0_211 rfl rfl (Nat.lt_of_lt_of_le (by decide) hn) rfl ?_
          refine r_iconst S dX12_next0_214 ?_
          refine r_iadd S dX12_next0_215 ?_
          refine r_putI S fk_X12_149 dX12_next0_216 rfl rfl (Nat.lt_of_lt_of_le (by decide) hn) (Or.inl rfl) (Or.inl rfl) ?_
          refine r_goto S (tgt := 164) dX12_next0_219 (by decide) ?_
          first
            | (have hm8 := hpk (by omega)
               have hnum : 10 * V + B e - 48 = numv B p (e + 1 - p).toNat := by
                 rw [show (e + 1 - p).toNat = (e - p).toNat + 1 by omega]
                 show _ = numv B p (e - p).toNat * 10 + (B (p + ((e - p).toNat : Nat)) - 48)
                 rw [← hm8, show p + ((e - p).toNat : Nat) = e by omega, eV]
                 omega
               have hran := numv_range B p (e + 1 - p).toNat (by omega) (fun j z0 z1 => by
                 by_cases z : j = e
                 · rw [z]
                   exact c175
                 · exact hall j z0 (by have := run0_range isDig B g1; omega))
               have hran2 : 0 ≤ 10 * V + B e - 48 ∧ 10 * V + B e - 48 ≤ 9999 := by
                 rw [hnum]
                 refine ⟨hran.1, ?_⟩
                 have h5 := hran.2
                 repeat (first | omega | split at h5)
               have hJ2 : nxOnly I (up J 72 32 (10 * V + B e - 48)) := hJ.put _ (by omega)
               exact ih (e + 1) (m + 1) c _ (hJ2.put _ (by omega)) (by rw [up_i (by decide), up_i (by decide)]; exact h31) (by rw [up_i (by decide), up_s]; exact hran2) (by rw [up_s, h29]) (by omega) (by omega) (by omega) (by omega) hrun2 (fun _ => by rw [up_i (by decide), up_s, hnum]))
            | exact ih (e + 1) (m + 1) c _ (hJ.put _ (by omega)) (by rw [up_i (by decide)]; exact h31) (by rw [up_i (by decide)]; exact h32) (by rw [up_s, h29]) (by omega) (by omega) (by omega) (by omega) hrun2 (fun z => by omega)
        · refine r_aload_n S rfl dX12_next0_183 ?_
          refine r_bipush S (by decide +kernel) dX12_next0_184 ?_
          refine r_aload_n S rfl dX12_next0_186 ?_
          refine r_getI S (v := J 72 32) fk_X12_171 dX12_next0_187 rfl rfl (Nat.lt_of_lt_of_le (by decide) hn) rfl ?_
          rw [← eV]
          refine r_imul S dX12_next0_190 ?_
          refine r_aload_n S rfl dX12_next0_191 ?_
          refine r_aload_n S rfl dX12_next0_192 ?_
          refine r_getI S (v := J 72 29) fk_X12_149 dX12_next0_193 rfl rfl (Nat.lt_of_lt_of_le (by decide) hn) rfl ?_
          rw [h29]
          refine r_callV S lk_X12_152 mk_X12_see (see J e hJ (by omega) g1) rfl (Nat.lt_of_lt_of_le (by decide) hn) rfl rfl rfl (Nat.le_of_ble_eq_true rfl) ⟨by decide, by decide⟩ rfl ⟨by decide, by decide⟩ dX12_next0_196 ?_
          rintro _ _ _ _ ⟨rfl, rfl, rfl, rfl⟩
          rw [svI e heN]
          refine r_iadd S dX12_next0_199 ?_
          refine r_bipush S (by decide +kernel) dX12_next0_200 ?_
          refine r_isub S dX12_next0_202 ?_
          refine r_putI S fk_X12_171 dX12_next0_203 rfl rfl (Nat.lt_of_lt_of_le (by decide) hn) (Or.inl rfl) (Or.inl rfl) ?_
          refine r_iinc S dX12_next0_206 rfl rfl rfl ?_
          refine r_aload_n S rfl dX12_next0_209 ?_
          refine r_dup S rfl dX12_next0_210 ?_
          refine r_getI S (v := J 72 29) fk_X12_149 dX12_next0_211 rfl rfl (Nat.lt_of_lt_of_le (by decide) hn) rfl ?_
          refine r_iconst S dX12_next0_214 ?_
          refine r_iadd S dX12_next0_215 ?_
          refine r_putI S fk_X12_149 dX12_next0_216 rfl rfl (Nat.lt_of_lt_of_le (by decide) hn) (Or.inl rfl) (Or.inl rfl) ?_
          refine r_goto S (tgt := 164) dX12_next0_219 (by decide) ?_
          first
            | (have hm8 := hpk (by omega)
               have hnum : 10 * V + B e - 48 = numv B p (e + 1 - p).toNat := by
                 rw [show (e + 1 - p).toNat = (e - p).toNat + 1 by omega]
                 show _ = numv B p (e - p).toNat * 10 + (B (p + ((e - p).toNat : Nat)) - 48)
                 rw [← hm8, show p + ((e - p).toNat : Nat) = e by omega, eV]
                 omega
               have hran := numv_range B p (e + 1 - p).toNat (by omega) (fun j z0 z1 => by
                 by_cases z : j = e
                 · rw [z]
                   exact c175
                 · exact hall j z0 (by have := run0_range isDig B g1; omega))
               have hran2 : 0 ≤ 10 * V + B e - 48 ∧ 10 * V + B e - 48 ≤ 9999 := by
                 rw [hnum]
                 refine ⟨hran.1, ?_⟩
                 have h5 := hran.2
                 repeat (first | omega | split at h5)
               have hJ2 : nxOnly I (up J 72 32 (10 * V + B e - 48)) := hJ.put _ (by omega)
               exact ih (e + 1) (m + 1) c _ (hJ2.put _ (by omega)) (by rw [up_i (by decide), up_i (by decide)]; exact h31) (by rw [up_i (by decide), up_s]; exact hran2) (by rw [up_s, h29]) (by omega) (by omega) (by omega) (by omega) hrun2 (fun _ => by rw [up_i (by decide), up_s, hnum]))
            | exact ih (e + 1) (m + 1) c _ (hJ.put _ (by omega)) (by rw [up_i (by decide)]; exact h31) (by rw [up_i (by decide)]; exact h32) (by rw [up_s, h29]) (by omega) (by omega) (by omega) (by omega) hrun2 (fun z => by omega)
  -- behind the blanks
  have at39 : ∀ (J : Iv) (p : Int), nxOnly I J → (0 ≤ J 72 32 ∧ J 72 32 ≤ 9999) → J 72 29 = p → 0 ≤ p → p ≤ N → ¬ (sv p = 32 ∨ sv p = 10) → toks B N p = T → k 39 [some (.ref (gb G + 72)), none, none, none, none] [] n J (rst bk dr pt) 0 0 := by
    intro J p hJ h32 h29 p0 p1 pb pT
    obtain ⟨J1, eJ1⟩ : ∃ J1, J1 = up J 72 31 p := ⟨_, rfl⟩
    have hJ1 : nxOnly I J1 := by rw [eJ1]; exact hJ.put _ (by omega)
    have q29 : J1 72 29 = p := by rw [eJ1, up_i (by decide)]; exact h29
    have q31 : J1 72 31 = p := by rw [eJ1, up_s]
    have q32 : 0 ≤ J1 72 32 ∧ J1 72 32 ≤ 9999 := by rw [eJ1, up_i (by decide)]; exact h32
    refine r_aload_n S rfl dX12_next0_39 ?_
    refine r_aload_n S rfl dX12_next0_40 ?_
    refine r_getI S (v := J 72 29) fk_X12_149 dX12_next0_41 rfl rfl (Nat.lt_of_lt_of_le (by decide) hn) rfl ?_
    rw [h29]
    refine r_putI S fk_X12_155 dX12_next0_44 rfl rfl (Nat.lt_of_lt_of_le (by decide) hn) (Or.inl rfl) (Or.inl rfl) ?_
    rw [← eJ1]
    refine r_aload_n S rfl dX12_next0_47 ?_
    refine r_aload_n S rfl dX12_next0_48 ?_
    refine r_getI S (v := J1 72 29) fk_X12_149 dX12_next0_49 rfl rfl (Nat.lt_of_lt_of_le (by decide) hn) rfl ?_
    rw [q29]
    refine r_callV S lk_X12_152 mk_X12_see (see J1 p hJ1 p0 p1) rfl (Nat.lt_of_lt_of_le (by decide) hn) rfl rfl rfl (Nat.le_of_ble_eq_true rfl) ⟨by decide, by decide⟩ rfl ⟨by decide, by decide⟩ dX12_next0_52 ?_
    rintro _ _ _ _ ⟨rfl, rfl, rfl, rfl⟩
    refine r_istore_n S dX12_next0_55 rfl rfl ?_
    refine r_iconst S dX12_next0_56 ?_
    refine r_istore_n S dX12_next0_57 rfl rfl ?_
    refine r_iload_n S rfl dX12_next0_58 ?_
    refine r_iconst S dX12_next0_59 ?_
    refine r_icmp_ne S (tgt := 71) dX12_next0_60 (by decide) (svR p p0) (by decide) (fun c60 => ?_) (fun c60 => ?_)
    · have hpN : p < N := by
        by_cases z : p < N
        · exact z
        · exact absurd (svO p (by omega)) c60
      have hBp := hby p p0 hpN
      rw [svI p hpN] at pb c60 ⊢
      refine r_iload_n S rfl dX12_next0_71 ?_
      refine r_callS S lk_X12_161 mk_X12_isLetter (c_X12_isLetter G n J1 _ (a := B p) (by omega)) rfl rfl (Nat.le_of_ble_eq_true rfl) ⟨by decide, by decide⟩ rfl ⟨by decide, by decide⟩ dX12_next0_72 ?_
      rintro _ _ _ _ ⟨rfl, rfl, rfl, rfl⟩
      refine r_ifb_eq S (tgt := 152) dX12_next0_75 (by decide)  (fun c75 => ?_) (fun c75 => ?_)
      · refine r_iload_n S rfl dX12_next0_152 ?_
        refine r_callS S lk_X12_168 mk_X12_isDigit (c_X12_isDigit G n J1 _ (a := B p) (by omega)) rfl rfl (Nat.le_of_ble_eq_true rfl) ⟨by decide, by decide⟩ rfl ⟨by decide, by decide⟩ dX12_next0_153 ?_
        rintro _ _ _ _ ⟨rfl, rfl, rfl, rfl⟩
        refine r_ifb_eq S (tgt := 239) dX12_next0_156 (by decide)  (fun c156 => ?_) (fun c156 => ?_)
        · refine r_aload_n S rfl dX12_next0_239 ?_
          refine r_dup S rfl dX12_next0_240 ?_
          refine r_getI S (v := J1 72 29) fk_X12_149 dX12_next0_241 rfl rfl (Nat.lt_of_lt_of_le (by decide) hn) rfl ?_
          refine r_iconst S dX12_next0_244 ?_
          refine r_iadd S dX12_next0_245 ?_
          refine r_putI S fk_X12_149 dX12_next0_246 rfl rfl (Nat.lt_of_lt_of_le (by decide) hn) (Or.inl rfl) (Or.inl rfl) ?_
          refine r_iload_n S rfl dX12_next0_249 ?_
          refine r_bipush S (by decide +kernel) dX12_next0_250 ?_
          refine r_icmp_eq S (tgt := 309) dX12_next0_252 (by decide) (by omega) (by omega) (fun c252 => ?_) (fun c252 => ?_)
          · refine r_iconst S dX12_next0_309 ?_
            refine r_goto S (tgt := 314) dX12_next0_310 (by decide) ?_
            refine r_istore_n S dX12_next0_314 rfl rfl ?_
            refine r_aload_n S rfl dX12_next0_315 ?_
            refine r_iload_n S rfl dX12_next0_316 ?_
            refine r_if_eq S (tgt := 324) dX12_next0_317 (by decide) (by decide) (fun c317 => ?_) (fun c317 => ?_)
            · exact absurd c317 (by decide)
            · refine r_iload_n S rfl dX12_next0_320 ?_
              refine r_goto S (tgt := 325) dX12_next0_321 (by decide) ?_
              refine r_putI S fk_X12_158 dX12_next0_325 rfl rfl (Nat.lt_of_lt_of_le (by decide) hn) (Or.inl rfl) (Or.inl rfl) ?_
              first
                | (have hpN : N ≤ p := by
                     by_cases z : p < N
                     · have := hby p p0 z
                       rw [svI p z] at c60
                       omega
                     · omega
                   have hT : T = [(-19, N)] := by rw [← pT, toks_end B hpN]
                   have hJ2 : nxOnly I (up J1 72 30 0) := hJ1.put 0 (by omega)
                   refine fin _ _ hJ2 ⟨by rw [up_s, hT]; rfl, by rw [up_i (by decide), q31, hT]; show p = N; omega, fun z => by rw [hT] at z; exact absurd z (by show ¬ (0 : Int) ≤ -19; decide), by rw [up_i (by decide)]; exact q32, by rw [up_i (by decide), f28 _ hJ2, q29]; omega, fun z => by rw [hT] at z; exact absurd rfl z⟩)
                | (have hT : T = (sgn (B p), p) :: toks B N (p + 1) := by rw [← pT, toks_tok B hpN pb, tok1, if_neg c75, if_neg c156]
                   have key : ∀ tk : Int, tk = mtok (sgn (B p)) → nxOnly I (up (up J1 72 29 (J1 72 29 + 1)) 72 30 tk) ∧ tokI (up (up J1 72 29 (J1 72 29 + 1)) 72 30 tk) T := by
                     intro tk htk
                     have hJ2 : nxOnly I (up (up J1 72 29 (J1 72 29 + 1)) 72 30 tk) := (hJ1.put _ (by omega)).put tk (by omega)
                     have hsn : sgn (B p) < 0 := by
                       unfold sgn
                       repeat (first | omega | split)
                     have hh : hd T = sgn (B p) := by rw [hT]; rfl
                     refine ⟨hJ2, by rw [up_s, htk, hh], by rw [up_i (by decide), up_i (by decide), q31, hT]; rfl, fun z => by omega, by rw [up_i (by decide), up_i (by decide)]; exact q32, by rw [up_i (by decide), up_s, f28 _ hJ2, q29]; omega, fun _ => ?_⟩
                     rw [f93 _ hJ2, f28 _ hJ2, up_i (by decide), up_s, q29, hT]
                     exact adv_toks.symm
                   first
                     | (have D := key (B p) (by
                          have hc : B p = 59 ∨ B p = 40 ∨ B p = 41 ∨ B p = 60 ∨ B p = 61 ∨ B p = 62 ∨ B p = 43 ∨ B p = 45 ∨ B p = 42 ∨ B p = 47 := by omega
                          rcases hc with e | e | e | e | e | e | e | e | e | e <;> rw [e] <;> rfl)
                        exact fin _ _ D.1 D.2)
                     | (have D := key 1 (by
                          unfold sgn
                          rw [if_neg (by omega), if_neg (by omega), if_neg (by omega), if_neg (by omega), if_neg (by omega), if_neg (by omega), if_neg (by omega), if_neg (by omega), if_neg (by omega), if_neg (by omega)]
                          rfl)
                        exact fin _ _ D.1 D.2))
          · refine r_iload_n S rfl dX12_next0_255 ?_
            refine r_bipush S (by decide +kernel) dX12_next0_256 ?_
            refine r_icmp_eq S (tgt := 309) dX12_next0_258 (by decide) (by omega) (by omega) (fun c258 => ?_) (fun c258 => ?_)
            · refine r_iconst S dX12_next0_309 ?_
              refine r_goto S (tgt := 314) dX12_next0_310 (by decide) ?_
              refine r_istore_n S dX12_next0_314 rfl rfl ?_
              refine r_aload_n S rfl dX12_next0_315 ?_
              refine r_iload_n S rfl dX12_next0_316 ?_
              refine r_if_eq S (tgt := 324) dX12_next0_317 (by decide) (by decide) (fun c317 => ?_) (fun c317 => ?_)
              · exact absurd c317 (by decide)
              · refine r_iload_n S rfl dX12_next0_320 ?_
                refine r_goto S (tgt := 325) dX12_next0_321 (by decide) ?_
                refine r_putI S fk_X12_158 dX12_next0_325 rfl rfl (Nat.lt_of_lt_of_le (by decide) hn) (Or.inl rfl) (Or.inl rfl) ?_
                first
                  | (have hpN : N ≤ p := by
                       by_cases z : p < N
                       · have := hby p p0 z
                         rw [svI p z] at c60
                         omega
                       · omega
                     have hT : T = [(-19, N)] := by rw [← pT, toks_end B hpN]
                     have hJ2 : nxOnly I (up J1 72 30 0) := hJ1.put 0 (by omega)
                     refine fin _ _ hJ2 ⟨by rw [up_s, hT]; rfl, by rw [up_i (by decide), q31, hT]; show p = N; omega, fun z => by rw [hT] at z; exact absurd z (by show ¬ (0 : Int) ≤ -19; decide), by rw [up_i (by decide)]; exact q32, by rw [up_i (by decide), f28 _ hJ2, q29]; omega, fun z => by rw [hT] at z; exact absurd rfl z⟩)
                  | (have hT : T = (sgn (B p), p) :: toks B N (p + 1) := by rw [← pT, toks_tok B hpN pb, tok1, if_neg c75, if_neg c156]
                     have key : ∀ tk : Int, tk = mtok (sgn (B p)) → nxOnly I (up (up J1 72 29 (J1 72 29 + 1)) 72 30 tk) ∧ tokI (up (up J1 72 29 (J1 72 29 + 1)) 72 30 tk) T := by
                       intro tk htk
                       have hJ2 : nxOnly I (up (up J1 72 29 (J1 72 29 + 1)) 72 30 tk) := (hJ1.put _ (by omega)).put tk (by omega)
                       have hsn : sgn (B p) < 0 := by
                         unfold sgn
                         repeat (first | omega | split)
                       have hh : hd T = sgn (B p) := by rw [hT]; rfl
                       refine ⟨hJ2, by rw [up_s, htk, hh], by rw [up_i (by decide), up_i (by decide), q31, hT]; rfl, fun z => by omega, by rw [up_i (by decide), up_i (by decide)]; exact q32, by rw [up_i (by decide), up_s, f28 _ hJ2, q29]; omega, fun _ => ?_⟩
                       rw [f93 _ hJ2, f28 _ hJ2, up_i (by decide), up_s, q29, hT]
                       exact adv_toks.symm
                     first
                       | (have D := key (B p) (by
                            have hc : B p = 59 ∨ B p = 40 ∨ B p = 41 ∨ B p = 60 ∨ B p = 61 ∨ B p = 62 ∨ B p = 43 ∨ B p = 45 ∨ B p = 42 ∨ B p = 47 := by omega
                            rcases hc with e | e | e | e | e | e | e | e | e | e <;> rw [e] <;> rfl)
                          exact fin _ _ D.1 D.2)
                       | (have D := key 1 (by
                            unfold sgn
                            rw [if_neg (by omega), if_neg (by omega), if_neg (by omega), if_neg (by omega), if_neg (by omega), if_neg (by omega), if_neg (by omega), if_neg (by omega), if_neg (by omega), if_neg (by omega)]
                            rfl)
                          exact fin _ _ D.1 D.2))
            · refine r_iload_n S rfl dX12_next0_261 ?_
              refine r_bipush S (by decide +kernel) dX12_next0_262 ?_
              refine r_icmp_eq S (tgt := 309) dX12_next0_264 (by decide) (by omega) (by omega) (fun c264 => ?_) (fun c264 => ?_)
              · refine r_iconst S dX12_next0_309 ?_
                refine r_goto S (tgt := 314) dX12_next0_310 (by decide) ?_
                refine r_istore_n S dX12_next0_314 rfl rfl ?_
                refine r_aload_n S rfl dX12_next0_315 ?_
                refine r_iload_n S rfl dX12_next0_316 ?_
                refine r_if_eq S (tgt := 324) dX12_next0_317 (by decide) (by decide) (fun c317 => ?_) (fun c317 => ?_)
                · exact absurd c317 (by decide)
                · refine r_iload_n S rfl dX12_next0_320 ?_
                  refine r_goto S (tgt := 325) dX12_next0_321 (by decide) ?_
                  refine r_putI S fk_X12_158 dX12_next0_325 rfl rfl (Nat.lt_of_lt_of_le (by decide) hn) (Or.inl rfl) (Or.inl rfl) ?_
                  first
                    | (have hpN : N ≤ p := by
                         by_cases z : p < N
                         · have := hby p p0 z
                           rw [svI p z] at c60
                           omega
                         · omega
                       have hT : T = [(-19, N)] := by rw [← pT, toks_end B hpN]
                       have hJ2 : nxOnly I (up J1 72 30 0) := hJ1.put 0 (by omega)
                       refine fin _ _ hJ2 ⟨by rw [up_s, hT]; rfl, by rw [up_i (by decide), q31, hT]; show p = N; omega, fun z => by rw [hT] at z; exact absurd z (by show ¬ (0 : Int) ≤ -19; decide), by rw [up_i (by decide)]; exact q32, by rw [up_i (by decide), f28 _ hJ2, q29]; omega, fun z => by rw [hT] at z; exact absurd rfl z⟩)
                    | (have hT : T = (sgn (B p), p) :: toks B N (p + 1) := by rw [← pT, toks_tok B hpN pb, tok1, if_neg c75, if_neg c156]
                       have key : ∀ tk : Int, tk = mtok (sgn (B p)) → nxOnly I (up (up J1 72 29 (J1 72 29 + 1)) 72 30 tk) ∧ tokI (up (up J1 72 29 (J1 72 29 + 1)) 72 30 tk) T := by
                         intro tk htk
                         have hJ2 : nxOnly I (up (up J1 72 29 (J1 72 29 + 1)) 72 30 tk) := (hJ1.put _ (by omega)).put tk (by omega)
                         have hsn : sgn (B p) < 0 := by
                           unfold sgn
                           repeat (first | omega | split)
                         have hh : hd T = sgn (B p) := by rw [hT]; rfl
                         refine ⟨hJ2, by rw [up_s, htk, hh], by rw [up_i (by decide), up_i (by decide), q31, hT]; rfl, fun z => by omega, by rw [up_i (by decide), up_i (by decide)]; exact q32, by rw [up_i (by decide), up_s, f28 _ hJ2, q29]; omega, fun _ => ?_⟩
                         rw [f93 _ hJ2, f28 _ hJ2, up_i (by decide), up_s, q29, hT]
                         exact adv_toks.symm
                       first
                         | (have D := key (B p) (by
                              have hc : B p = 59 ∨ B p = 40 ∨ B p = 41 ∨ B p = 60 ∨ B p = 61 ∨ B p = 62 ∨ B p = 43 ∨ B p = 45 ∨ B p = 42 ∨ B p = 47 := by omega
                              rcases hc with e | e | e | e | e | e | e | e | e | e <;> rw [e] <;> rfl)
                            exact fin _ _ D.1 D.2)
                         | (have D := key 1 (by
                              unfold sgn
                              rw [if_neg (by omega), if_neg (by omega), if_neg (by omega), if_neg (by omega), if_neg (by omega), if_neg (by omega), if_neg (by omega), if_neg (by omega), if_neg (by omega), if_neg (by omega)]
                              rfl)
                            exact fin _ _ D.1 D.2))
              · refine r_iload_n S rfl dX12_next0_267 ?_
                refine r_bipush S (by decide +kernel) dX12_next0_268 ?_
                refine r_icmp_eq S (tgt := 309) dX12_next0_270 (by decide) (by omega) (by omega) (fun c270 => ?_) (fun c270 => ?_)
                · refine r_iconst S dX12_next0_309 ?_
                  refine r_goto S (tgt := 314) dX12_next0_310 (by decide) ?_
                  refine r_istore_n S dX12_next0_314 rfl rfl ?_
                  refine r_aload_n S rfl dX12_next0_315 ?_
                  refine r_iload_n S rfl dX12_next0_316 ?_
                  refine r_if_eq S (tgt := 324) dX12_next0_317 (by decide) (by decide) (fun c317 => ?_) (fun c317 => ?_)
                  · exact absurd c317 (by decide)
                  · refine r_iload_n S rfl dX12_next0_320 ?_
                    refine r_goto S (tgt := 325) dX12_next0_321 (by decide) ?_
                    refine r_putI S fk_X12_158 dX12_next0_325 rfl rfl (Nat.lt_of_lt_of_le (by decide) hn) (Or.inl rfl) (Or.inl rfl) ?_
                    first
                      | (have hpN : N ≤ p := by
                           by_cases z : p < N
                           · have := hby p p0 z
                             rw [svI p z] at c60
                             omega
                           · omega
                         have hT : T = [(-19, N)] := by rw [← pT, toks_end B hpN]
                         have hJ2 : nxOnly I (up J1 72 30 0) := hJ1.put 0 (by omega)
                         refine fin _ _ hJ2 ⟨by rw [up_s, hT]; rfl, by rw [up_i (by decide), q31, hT]; show p = N; omega, fun z => by rw [hT] at z; exact absurd z (by show ¬ (0 : Int) ≤ -19; decide), by rw [up_i (by decide)]; exact q32, by rw [up_i (by decide), f28 _ hJ2, q29]; omega, fun z => by rw [hT] at z; exact absurd rfl z⟩)
                      | (have hT : T = (sgn (B p), p) :: toks B N (p + 1) := by rw [← pT, toks_tok B hpN pb, tok1, if_neg c75, if_neg c156]
                         have key : ∀ tk : Int, tk = mtok (sgn (B p)) → nxOnly I (up (up J1 72 29 (J1 72 29 + 1)) 72 30 tk) ∧ tokI (up (up J1 72 29 (J1 72 29 + 1)) 72 30 tk) T := by
                           intro tk htk
                           have hJ2 : nxOnly I (up (up J1 72 29 (J1 72 29 + 1)) 72 30 tk) := (hJ1.put _ (by omega)).put tk (by omega)
                           have hsn : sgn (B p) < 0 := by
                             unfold sgn
                             repeat (first | omega | split)
                           have hh : hd T = sgn (B p) := by rw [hT]; rfl
                           refine ⟨hJ2, by rw [up_s, htk, hh], by rw [up_i (by decide), up_i (by decide), q31, hT]; rfl, fun z => by omega, by rw [up_i (by decide), up_i (by decide)]; exact q32, by rw [up_i (by decide), up_s, f28 _ hJ2, q29]; omega, fun _ => ?_⟩
                           rw [f93 _ hJ2, f28 _ hJ2, up_i (by decide), up_s, q29, hT]
                           exact adv_toks.symm
                         first
                           | (have D := key (B p) (by
                                have hc : B p = 59 ∨ B p = 40 ∨ B p = 41 ∨ B p = 60 ∨ B p = 61 ∨ B p = 62 ∨ B p = 43 ∨ B p = 45 ∨ B p = 42 ∨ B p = 47 := by omega
                                rcases hc with e | e | e | e | e | e | e | e | e | e <;> rw [e] <;> rfl)
                              exact fin _ _ D.1 D.2)
                           | (have D := key 1 (by
                                unfold sgn
                                rw [if_neg (by omega), if_neg (by omega), if_neg (by omega), if_neg (by omega), if_neg (by omega), if_neg (by omega), if_neg (by omega), if_neg (by omega), if_neg (by omega), if_neg (by omega)]
                                rfl)
                              exact fin _ _ D.1 D.2))
                · refine r_iload_n S rfl dX12_next0_273 ?_
                  refine r_bipush S (by decide +kernel) dX12_next0_274 ?_
                  refine r_icmp_eq S (tgt := 309) dX12_next0_276 (by decide) (by omega) (by omega) (fun c276 => ?_) (fun c276 => ?_)
                  · refine r_iconst S dX12_next0_309 ?_
                    refine r_goto S (tgt := 314) dX12_next0_310 (by decide) ?_
                    refine r_istore_n S dX12_next0_314 rfl rfl ?_
                    refine r_aload_n S rfl dX12_next0_315 ?_
                    refine r_iload_n S rfl dX12_next0_316 ?_
                    refine r_if_eq S (tgt := 324) dX12_next0_317 (by decide) (by decide) (fun c317 => ?_) (fun c317 => ?_)
                    · exact absurd c317 (by decide)
                    · refine r_iload_n S rfl dX12_next0_320 ?_
                      refine r_goto S (tgt := 325) dX12_next0_321 (by decide) ?_
                      refine r_putI S fk_X12_158 dX12_next0_325 rfl rfl (Nat.lt_of_lt_of_le (by decide) hn) (Or.inl rfl) (Or.inl rfl) ?_
                      first
                        | (have hpN : N ≤ p := by
                             by_cases z : p < N
                             · have := hby p p0 z
                               rw [svI p z] at c60
                               omega
                             · omega
                           have hT : T = [(-19, N)] := by rw [← pT, toks_end B hpN]
                           have hJ2 : nxOnly I (up J1 72 30 0) := hJ1.put 0 (by omega)
                           refine fin _ _ hJ2 ⟨by rw [up_s, hT]; rfl, by rw [up_i (by decide), q31, hT]; show p = N; omega, fun z => by rw [hT] at z; exact absurd z (by show ¬ (0 : Int) ≤ -19; decide), by rw [up_i (by decide)]; exact q32, by rw [up_i (by decide), f28 _ hJ2, q29]; omega, fun z => by rw [hT] at z; exact absurd rfl z⟩)
                        | (have hT : T = (sgn (B p), p) :: toks B N (p + 1) := by rw [← pT, toks_tok B hpN pb, tok1, if_neg c75, if_neg c156]
                           have key : ∀ tk : Int, tk = mtok (sgn (B p)) → nxOnly I (up (up J1 72 29 (J1 72 29 + 1)) 72 30 tk) ∧ tokI (up (up J1 72 29 (J1 72 29 + 1)) 72 30 tk) T := by
                             intro tk htk
                             have hJ2 : nxOnly I (up (up J1 72 29 (J1 72 29 + 1)) 72 30 tk) := (hJ1.put _ (by omega)).put tk (by omega)
                             have hsn : sgn (B p) < 0 := by
                               unfold sgn
                               repeat (first | omega | split)
                             have hh : hd T = sgn (B p) := by rw [hT]; rfl
                             refine ⟨hJ2, by rw [up_s, htk, hh], by rw [up_i (by decide), up_i (by decide), q31, hT]; rfl, fun z => by omega, by rw [up_i (by decide), up_i (by decide)]; exact q32, by rw [up_i (by decide), up_s, f28 _ hJ2, q29]; omega, fun _ => ?_⟩
                             rw [f93 _ hJ2, f28 _ hJ2, up_i (by decide), up_s, q29, hT]
                             exact adv_toks.symm
                           first
                             | (have D := key (B p) (by
                                  have hc : B p = 59 ∨ B p = 40 ∨ B p = 41 ∨ B p = 60 ∨ B p = 61 ∨ B p = 62 ∨ B p = 43 ∨ B p = 45 ∨ B p = 42 ∨ B p = 47 := by omega
                                  rcases hc with e | e | e | e | e | e | e | e | e | e <;> rw [e] <;> rfl)
                                exact fin _ _ D.1 D.2)
                             | (have D := key 1 (by
                                  unfold sgn
                                  rw [if_neg (by omega), if_neg (by omega), if_neg (by omega), if_neg (by omega), if_neg (by omega), if_neg (by omega), if_neg (by omega), if_neg (by omega), if_neg (by omega), if_neg (by omega)]
                                  rfl)
                                exact fin _ _ D.1 D.2))
                  · refine r_iload_n S rfl dX12_next0_279 ?_
                    refine r_bipush S (by decide +kernel) dX12_next0_280 ?_
                    refine r_icmp_eq S (tgt := 309) dX12_next0_282 (by decide) (by omega) (by omega) (fun c282 => ?_) (fun c282 => ?_)
                    · refine r_iconst S dX12_next0_309 ?_
                      refine r_goto S (tgt := 314) dX12_next0_310 (by decide) ?_
                      refine r_istore_n S dX12_next0_314 rfl rfl ?_
                      refine r_aload_n S rfl dX12_next0_315 ?_
                      refine r_iload_n S rfl dX12_next0_316 ?_
                      refine r_if_eq S (tgt := 324) dX12_next0_317 (by decide) (by decide) (fun c317 => ?_) (fun c317 => ?_)
                      · exact absurd c317 (by decide)
                      · refine r_iload_n S rfl dX12_next0_320 ?_
                        refine r_goto S (tgt := 325) dX12_next0_321 (by decide) ?_
                        refine r_putI S fk_X12_158 dX12_next0_325 rfl rfl (Nat.lt_of_lt_of_le (by decide) hn) (Or.inl rfl) (Or.inl rfl) ?_
                        first
                          | (have hpN : N ≤ p := by
                               by_cases z : p < N
                               · have := hby p p0 z
                                 rw [svI p z] at c60
                                 omega
                               · omega
                             have hT : T = [(-19, N)] := by rw [← pT, toks_end B hpN]
                             have hJ2 : nxOnly I (up J1 72 30 0) := hJ1.put 0 (by omega)
                             refine fin _ _ hJ2 ⟨by rw [up_s, hT]; rfl, by rw [up_i (by decide), q31, hT]; show p = N; omega, fun z => by rw [hT] at z; exact absurd z (by show ¬ (0 : Int) ≤ -19; decide), by rw [up_i (by decide)]; exact q32, by rw [up_i (by decide), f28 _ hJ2, q29]; omega, fun z => by rw [hT] at z; exact absurd rfl z⟩)
                          | (have hT : T = (sgn (B p), p) :: toks B N (p + 1) := by rw [← pT, toks_tok B hpN pb, tok1, if_neg c75, if_neg c156]
                             have key : ∀ tk : Int, tk = mtok (sgn (B p)) → nxOnly I (up (up J1 72 29 (J1 72 29 + 1)) 72 30 tk) ∧ tokI (up (up J1 72 29 (J1 72 29 + 1)) 72 30 tk) T := by
                               intro tk htk
                               have hJ2 : nxOnly I (up (up J1 72 29 (J1 72 29 + 1)) 72 30 tk) := (hJ1.put _ (by omega)).put tk (by omega)
                               have hsn : sgn (B p) < 0 := by
                                 unfold sgn
                                 repeat (first | omega | split)
                               have hh : hd T = sgn (B p) := by rw [hT]; rfl
                               refine ⟨hJ2, by rw [up_s, htk, hh], by rw [up_i (by decide), up_i (by decide), q31, hT]; rfl, fun z => by omega, by rw [up_i (by decide), up_i (by decide)]; exact q32, by rw [up_i (by decide), up_s, f28 _ hJ2, q29]; omega, fun _ => ?_⟩
                               rw [f93 _ hJ2, f28 _ hJ2, up_i (by decide), up_s, q29, hT]
                               exact adv_toks.symm
                             first
                               | (have D := key (B p) (by
                                    have hc : B p = 59 ∨ B p = 40 ∨ B p = 41 ∨ B p = 60 ∨ B p = 61 ∨ B p = 62 ∨ B p = 43 ∨ B p = 45 ∨ B p = 42 ∨ B p = 47 := by omega
                                    rcases hc with e | e | e | e | e | e | e | e | e | e <;> rw [e] <;> rfl)
                                  exact fin _ _ D.1 D.2)
                               | (have D := key 1 (by
                                    unfold sgn
                                    rw [if_neg (by omega), if_neg (by omega), if_neg (by omega), if_neg (by omega), if_neg (by omega), if_neg (by omega), if_neg (by omega), if_neg (by omega), if_neg (by omega), if_neg (by omega)]
                                    rfl)
                                  exact fin _ _ D.1 D.2))
                    · refine r_iload_n S rfl dX12_next0_285 ?_
                      refine r_bipush S (by decide +kernel) dX12_next0_286 ?_
                      refine r_icmp_eq S (tgt := 309) dX12_next0_288 (by decide) (by omega) (by omega) (fun c288 => ?_) (fun c288 => ?_)
                      · refine r_iconst S dX12_next0_309 ?_
                        refine r_goto S (tgt := 314) dX12_next0_310 (by decide) ?_
                        refine r_istore_n S dX12_next0_314 rfl rfl ?_
                        refine r_aload_n S rfl dX12_next0_315 ?_
                        refine r_iload_n S rfl dX12_next0_316 ?_
                        refine r_if_eq S (tgt := 324) dX12_next0_317 (by decide) (by decide) (fun c317 => ?_) (fun c317 => ?_)
                        · exact absurd c317 (by decide)
                        · refine r_iload_n S rfl dX12_next0_320 ?_
                          refine r_goto S (tgt := 325) dX12_next0_321 (by decide) ?_
                          refine r_putI S fk_X12_158 dX12_next0_325 rfl rfl (Nat.lt_of_lt_of_le (by decide) hn) (Or.inl rfl) (Or.inl rfl) ?_
                          first
                            | (have hpN : N ≤ p := by
                                 by_cases z : p < N
                                 · have := hby p p0 z
                                   rw [svI p z] at c60
                                   omega
                                 · omega
                               have hT : T = [(-19, N)] := by rw [← pT, toks_end B hpN]
                               have hJ2 : nxOnly I (up J1 72 30 0) := hJ1.put 0 (by omega)
                               refine fin _ _ hJ2 ⟨by rw [up_s, hT]; rfl, by rw [up_i (by decide), q31, hT]; show p = N; omega, fun z => by rw [hT] at z; exact absurd z (by show ¬ (0 : Int) ≤ -19; decide), by rw [up_i (by decide)]; exact q32, by rw [up_i (by decide), f28 _ hJ2, q29]; omega, fun z => by rw [hT] at z; exact absurd rfl z⟩)
                            | (have hT : T = (sgn (B p), p) :: toks B N (p + 1) := by rw [← pT, toks_tok B hpN pb, tok1, if_neg c75, if_neg c156]
                               have key : ∀ tk : Int, tk = mtok (sgn (B p)) → nxOnly I (up (up J1 72 29 (J1 72 29 + 1)) 72 30 tk) ∧ tokI (up (up J1 72 29 (J1 72 29 + 1)) 72 30 tk) T := by
                                 intro tk htk
                                 have hJ2 : nxOnly I (up (up J1 72 29 (J1 72 29 + 1)) 72 30 tk) := (hJ1.put _ (by omega)).put tk (by omega)
                                 have hsn : sgn (B p) < 0 := by
                                   unfold sgn
                                   repeat (first | omega | split)
                                 have hh : hd T = sgn (B p) := by rw [hT]; rfl
                                 refine ⟨hJ2, by rw [up_s, htk, hh], by rw [up_i (by decide), up_i (by decide), q31, hT]; rfl, fun z => by omega, by rw [up_i (by decide), up_i (by decide)]; exact q32, by rw [up_i (by decide), up_s, f28 _ hJ2, q29]; omega, fun _ => ?_⟩
                                 rw [f93 _ hJ2, f28 _ hJ2, up_i (by decide), up_s, q29, hT]
                                 exact adv_toks.symm
                               first
                                 | (have D := key (B p) (by
                                      have hc : B p = 59 ∨ B p = 40 ∨ B p = 41 ∨ B p = 60 ∨ B p = 61 ∨ B p = 62 ∨ B p = 43 ∨ B p = 45 ∨ B p = 42 ∨ B p = 47 := by omega
                                      rcases hc with e | e | e | e | e | e | e | e | e | e <;> rw [e] <;> rfl)
                                    exact fin _ _ D.1 D.2)
                                 | (have D := key 1 (by
                                      unfold sgn
                                      rw [if_neg (by omega), if_neg (by omega), if_neg (by omega), if_neg (by omega), if_neg (by omega), if_neg (by omega), if_neg (by omega), if_neg (by omega), if_neg (by omega), if_neg (by omega)]
                                      rfl)
                                    exact fin _ _ D.1 D.2))
                      · refine r_iload_n S rfl dX12_next0_291 ?_
                        refine r_bipush S (by decide +kernel) dX12_next0_292 ?_
                        refine r_icmp_eq S (tgt := 309) dX12_next0_294 (by decide) (by omega) (by omega) (fun c294 => ?_) (fun c294 => ?_)
                        · refine r_iconst S dX12_next0_309 ?_
                          refine r_goto S (tgt := 314) dX12_next0_310 (by decide) ?_
                          refine r_istore_n S dX12_next0_314 rfl rfl ?_
                          refine r_aload_n S rfl dX12_next0_315 ?_
                          refine r_iload_n S rfl dX12_next0_316 ?_
                          refine r_if_eq S (tgt := 324) dX12_next0_317 (by decide) (by decide) (fun c317 => ?_) (fun c317 => ?_)
                          · exact absurd c317 (by decide)
                          · refine r_iload_n S rfl dX12_next0_320 ?_
                            refine r_goto S (tgt := 325) dX12_next0_321 (by decide) ?_
                            refine r_putI S fk_X12_158 dX12_next0_325 rfl rfl (Nat.lt_of_lt_of_le (by decide) hn) (Or.inl rfl) (Or.inl rfl) ?_
                            first
                              | (have hpN : N ≤ p := by
                                   by_cases z : p < N
                                   · have := hby p p0 z
                                     rw [svI p z] at c60
                                     omega
                                   · omega
                                 have hT : T = [(-19, N)] := by rw [← pT, toks_end B hpN]
                                 have hJ2 : nxOnly I (up J1 72 30 0) := hJ1.put 0 (by omega)
                                 refine fin _ _ hJ2 ⟨by rw [up_s, hT]; rfl, by rw [up_i (by decide), q31, hT]; show p = N; omega, fun z => by rw [hT] at z; exact absurd z (by show ¬ (0 : Int) ≤ -19; decide), by rw [up_i (by decide)]; exact q32, by rw [up_i (by decide), f28 _ hJ2, q29]; omega, fun z => by rw [hT] at z; exact absurd rfl z⟩)
                              | (have hT : T = (sgn (B p), p) :: toks B N (p + 1) := by rw [← pT, toks_tok B hpN pb, tok1, if_neg c75, if_neg c156]
                                 have key : ∀ tk : Int, tk = mtok (sgn (B p)) → nxOnly I (up (up J1 72 29 (J1 72 29 + 1)) 72 30 tk) ∧ tokI (up (up J1 72 29 (J1 72 29 + 1)) 72 30 tk) T := by
                                   intro tk htk
                                   have hJ2 : nxOnly I (up (up J1 72 29 (J1 72 29 + 1)) 72 30 tk) := (hJ1.put _ (by omega)).put tk (by omega)
                                   have hsn : sgn (B p) < 0 := by
                                     unfold sgn
                                     repeat (first | omega | split)
                                   have hh : hd T = sgn (B p) := by rw [hT]; rfl
                                   refine ⟨hJ2, by rw [up_s, htk, hh], by rw [up_i (by decide), up_i (by decide), q31, hT]; rfl, fun z => by omega, by rw [up_i (by decide), up_i (by decide)]; exact q32, by rw [up_i (by decide), up_s, f28 _ hJ2, q29]; omega, fun _ => ?_⟩
                                   rw [f93 _ hJ2, f28 _ hJ2, up_i (by decide), up_s, q29, hT]
                                   exact adv_toks.symm
                                 first
                                   | (have D := key (B p) (by
                                        have hc : B p = 59 ∨ B p = 40 ∨ B p = 41 ∨ B p = 60 ∨ B p = 61 ∨ B p = 62 ∨ B p = 43 ∨ B p = 45 ∨ B p = 42 ∨ B p = 47 := by omega
                                        rcases hc with e | e | e | e | e | e | e | e | e | e <;> rw [e] <;> rfl)
                                      exact fin _ _ D.1 D.2)
                                   | (have D := key 1 (by
                                        unfold sgn
                                        rw [if_neg (by omega), if_neg (by omega), if_neg (by omega), if_neg (by omega), if_neg (by omega), if_neg (by omega), if_neg (by omega), if_neg (by omega), if_neg (by omega), if_neg (by omega)]
                                        rfl)
                                      exact fin _ _ D.1 D.2))
                        · refine r_iload_n S rfl dX12_next0_297 ?_
                          refine r_bipush S (by decide +kernel) dX12_next0_298 ?_
                          refine r_icmp_eq S (tgt := 309) dX12_next0_300 (by decide) (by omega) (by omega) (fun c300 => ?_) (fun c300 => ?_)
                          · refine r_iconst S dX12_next0_309 ?_
                            refine r_goto S (tgt := 314) dX12_next0_310 (by decide) ?_
                            refine r_istore_n S dX12_next0_314 rfl rfl ?_
                            refine r_aload_n S rfl dX12_next0_315 ?_
                            refine r_iload_n S rfl dX12_next0_316 ?_
                            refine r_if_eq S (tgt := 324) dX12_next0_317 (by decide) (by decide) (fun c317 => ?_) (fun c317 => ?_)
                            · exact absurd c317 (by decide)
                            · refine r_iload_n S rfl dX12_next0_320 ?_
                              refine r_goto S (tgt := 325) dX12_next0_321 (by decide) ?_
                              refine r_putI S fk_X12_158 dX12_next0_325 rfl rfl (Nat.lt_of_lt_of_le (by decide) hn) (Or.inl rfl) (Or.inl rfl) ?_
                              first
                                | (have hpN : N ≤ p := by
                                     by_cases z : p < N
                                     · have := hby p p0 z
                                       rw [svI p z] at c60
                                       omega
                                     · omega
                                   have hT : T = [(-19, N)] := by rw [← pT, toks_end B hpN]
                                   have hJ2 : nxOnly I (up J1 72 30 0) := hJ1.put 0 (by omega)
                                   refine fin _ _ hJ2 ⟨by rw [up_s, hT]; rfl, by rw [up_i (by decide), q31, hT]; show p = N; omega, fun z => by rw [hT] at z; exact absurd z (by show ¬ (0 : Int) ≤ -19; decide), by rw [up_i (by decide)]; exact q32, by rw [up_i (by decide), f28 _ hJ2, q29]; omega, fun z => by rw [hT] at z; exact absurd rfl z⟩)
                                | (have hT : T = (sgn (B p), p) :: toks B N (p + 1) := by rw [← pT, toks_tok B hpN pb, tok1, if_neg c75, if_neg c156]
                                   have key : ∀ tk : Int, tk = mtok (sgn (B p)) → nxOnly I (up (up J1 72 29 (J1 72 29 + 1)) 72 30 tk) ∧ tokI (up (up J1 72 29 (J1 72 29 + 1)) 72 30 tk) T := by
                                     intro tk htk
                                     have hJ2 : nxOnly I (up (up J1 72 29 (J1 72 29 + 1)) 72 30 tk) := (hJ1.put _ (by omega)).put tk (by omega)
                                     have hsn : sgn (B p) < 0 := by
                                       unfold sgn
                                       repeat (first | omega | split)
                                     have hh : hd T = sgn (B p) := by rw [hT]; rfl
                                     refine ⟨hJ2, by rw [up_s, htk, hh], by rw [up_i (by decide), up_i (by decide), q31, hT]; rfl, fun z => by omega, by rw [up_i (by decide), up_i (by decide)]; exact q32, by rw [up_i (by decide), up_s, f28 _ hJ2, q29]; omega, fun _ => ?_⟩
                                     rw [f93 _ hJ2, f28 _ hJ2, up_i (by decide), up_s, q29, hT]
                                     exact adv_toks.symm
                                   first
                                     | (have D := key (B p) (by
                                          have hc : B p = 59 ∨ B p = 40 ∨ B p = 41 ∨ B p = 60 ∨ B p = 61 ∨ B p = 62 ∨ B p = 43 ∨ B p = 45 ∨ B p = 42 ∨ B p = 47 := by omega
                                          rcases hc with e | e | e | e | e | e | e | e | e | e <;> rw [e] <;> rfl)
                                        exact fin _ _ D.1 D.2)
                                     | (have D := key 1 (by
                                          unfold sgn
                                          rw [if_neg (by omega), if_neg (by omega), if_neg (by omega), if_neg (by omega), if_neg (by omega), if_neg (by omega), if_neg (by omega), if_neg (by omega), if_neg (by omega), if_neg (by omega)]
                                          rfl)
                                        exact fin _ _ D.1 D.2))
                          · refine r_iload_n S rfl dX12_next0_303 ?_
                            refine r_bipush S (by decide +kernel) dX12_next0_304 ?_
                            refine r_icmp_ne S (tgt := 313) dX12_next0_306 (by decide) (by omega) (by omega) (fun c306 => ?_) (fun c306 => ?_)
                            · refine r_iconst S dX12_next0_313 ?_
                              refine r_istore_n S dX12_next0_314 rfl rfl ?_
                              refine r_aload_n S rfl dX12_next0_315 ?_
                              refine r_iload_n S rfl dX12_next0_316 ?_
                              refine r_if_eq S (tgt := 324) dX12_next0_317 (by decide) (by decide) (fun c317 => ?_) (fun c317 => ?_)
                              · refine r_iconst S dX12_next0_324 ?_
                                refine r_putI S fk_X12_158 dX12_next0_325 rfl rfl (Nat.lt_of_lt_of_le (by decide) hn) (Or.inl rfl) (Or.inl rfl) ?_
                                first
                                  | (have hpN : N ≤ p := by
                                       by_cases z : p < N
                                       · have := hby p p0 z
                                         rw [svI p z] at c60
                                         omega
                                       · omega
                                     have hT : T = [(-19, N)] := by rw [← pT, toks_end B hpN]
                                     have hJ2 : nxOnly I (up J1 72 30 0) := hJ1.put 0 (by omega)
                                     refine fin _ _ hJ2 ⟨by rw [up_s, hT]; rfl, by rw [up_i (by decide), q31, hT]; show p = N; omega, fun z => by rw [hT] at z; exact absurd z (by show ¬ (0 : Int) ≤ -19; decide), by rw [up_i (by decide)]; exact q32, by rw [up_i (by decide), f28 _ hJ2, q29]; omega, fun z => by rw [hT] at z; exact absurd rfl z⟩)
                                  | (have hT : T = (sgn (B p), p) :: toks B N (p + 1) := by rw [← pT, toks_tok B hpN pb, tok1, if_neg c75, if_neg c156]
                                     have key : ∀ tk : Int, tk = mtok (sgn (B p)) → nxOnly I (up (up J1 72 29 (J1 72 29 + 1)) 72 30 tk) ∧ tokI (up (up J1 72 29 (J1 72 29 + 1)) 72 30 tk) T := by
                                       intro tk htk
                                       have hJ2 : nxOnly I (up (up J1 72 29 (J1 72 29 + 1)) 72 30 tk) := (hJ1.put _ (by omega)).put tk (by omega)
                                       have hsn : sgn (B p) < 0 := by
                                         unfold sgn
                                         repeat (first | omega | split)
                                       have hh : hd T = sgn (B p) := by rw [hT]; rfl
                                       refine ⟨hJ2, by rw [up_s, htk, hh], by rw [up_i (by decide), up_i (by decide), q31, hT]; rfl, fun z => by omega, by rw [up_i (by decide), up_i (by decide)]; exact q32, by rw [up_i (by decide), up_s, f28 _ hJ2, q29]; omega, fun _ => ?_⟩
                                       rw [f93 _ hJ2, f28 _ hJ2, up_i (by decide), up_s, q29, hT]
                                       exact adv_toks.symm
                                     first
                                       | (have D := key (B p) (by
                                            have hc : B p = 59 ∨ B p = 40 ∨ B p = 41 ∨ B p = 60 ∨ B p = 61 ∨ B p = 62 ∨ B p = 43 ∨ B p = 45 ∨ B p = 42 ∨ B p = 47 := by omega
                                            rcases hc with e | e | e | e | e | e | e | e | e | e <;> rw [e] <;> rfl)
                                          exact fin _ _ D.1 D.2)
                                       | (have D := key 1 (by
                                            unfold sgn
                                            rw [if_neg (by omega), if_neg (by omega), if_neg (by omega), if_neg (by omega), if_neg (by omega), if_neg (by omega), if_neg (by omega), if_neg (by omega), if_neg (by omega), if_neg (by omega)]
                                            rfl)
                                          exact fin _ _ D.1 D.2))
                              · exact absurd c317 (by decide)
                            · refine r_iconst S dX12_next0_309 ?_
                              refine r_goto S (tgt := 314) dX12_next0_310 (by decide) ?_
                              refine r_istore_n S dX12_next0_314 rfl rfl ?_
                              refine r_aload_n S rfl dX12_next0_315 ?_
                              refine r_iload_n S rfl dX12_next0_316 ?_
                              refine r_if_eq S (tgt := 324) dX12_next0_317 (by decide) (by decide) (fun c317 => ?_) (fun c317 => ?_)
                              · exact absurd c317 (by decide)
                              · refine r_iload_n S rfl dX12_next0_320 ?_
                                refine r_goto S (tgt := 325) dX12_next0_321 (by decide) ?_
                                refine r_putI S fk_X12_158 dX12_next0_325 rfl rfl (Nat.lt_of_lt_of_le (by decide) hn) (Or.inl rfl) (Or.inl rfl) ?_
                                first
                                  | (have hpN : N ≤ p := by
                                       by_cases z : p < N
                                       · have := hby p p0 z
                                         rw [svI p z] at c60
                                         omega
                                       · omega
                                     have hT : T = [(-19, N)] := by rw [← pT, toks_end B hpN]
                                     have hJ2 : nxOnly I (up J1 72 30 0) := hJ1.put 0 (by omega)
                                     refine fin _ _ hJ2 ⟨by rw [up_s, hT]; rfl, by rw [up_i (by decide), q31, hT]; show p = N; omega, fun z => by rw [hT] at z; exact absurd z (by show ¬ (0 : Int) ≤ -19; decide), by rw [up_i (by decide)]; exact q32, by rw [up_i (by decide), f28 _ hJ2, q29]; omega, fun z => by rw [hT] at z; exact absurd rfl z⟩)
                                  | (have hT : T = (sgn (B p), p) :: toks B N (p + 1) := by rw [← pT, toks_tok B hpN pb, tok1, if_neg c75, if_neg c156]
                                     have key : ∀ tk : Int, tk = mtok (sgn (B p)) → nxOnly I (up (up J1 72 29 (J1 72 29 + 1)) 72 30 tk) ∧ tokI (up (up J1 72 29 (J1 72 29 + 1)) 72 30 tk) T := by
                                       intro tk htk
                                       have hJ2 : nxOnly I (up (up J1 72 29 (J1 72 29 + 1)) 72 30 tk) := (hJ1.put _ (by omega)).put tk (by omega)
                                       have hsn : sgn (B p) < 0 := by
                                         unfold sgn
                                         repeat (first | omega | split)
                                       have hh : hd T = sgn (B p) := by rw [hT]; rfl
                                       refine ⟨hJ2, by rw [up_s, htk, hh], by rw [up_i (by decide), up_i (by decide), q31, hT]; rfl, fun z => by omega, by rw [up_i (by decide), up_i (by decide)]; exact q32, by rw [up_i (by decide), up_s, f28 _ hJ2, q29]; omega, fun _ => ?_⟩
                                       rw [f93 _ hJ2, f28 _ hJ2, up_i (by decide), up_s, q29, hT]
                                       exact adv_toks.symm
                                     first
                                       | (have D := key (B p) (by
                                            have hc : B p = 59 ∨ B p = 40 ∨ B p = 41 ∨ B p = 60 ∨ B p = 61 ∨ B p = 62 ∨ B p = 43 ∨ B p = 45 ∨ B p = 42 ∨ B p = 47 := by omega
                                            rcases hc with e | e | e | e | e | e | e | e | e | e <;> rw [e] <;> rfl)
                                          exact fin _ _ D.1 D.2)
                                       | (have D := key 1 (by
                                            unfold sgn
                                            rw [if_neg (by omega), if_neg (by omega), if_neg (by omega), if_neg (by omega), if_neg (by omega), if_neg (by omega), if_neg (by omega), if_neg (by omega), if_neg (by omega), if_neg (by omega)]
                                            rfl)
                                          exact fin _ _ D.1 D.2))
        · refine r_aload_n S rfl dX12_next0_159 ?_
          refine r_iconst S dX12_next0_160 ?_
          refine r_putI S fk_X12_171 dX12_next0_161 rfl rfl (Nat.lt_of_lt_of_le (by decide) hn) (Or.inl rfl) (Or.inl rfl) ?_
          exact loopD p p0 hpN pb c75 c156 pT ((N - p).toNat + 1) p 0 _ _ (hJ1.put 0 (by omega)) (by rw [up_i (by decide)]; exact q31) (by rw [up_s]; decide) (by rw [up_i (by decide)]; exact q29) (by omega) (by omega) (by omega) (by omega) rfl (fun _ => by rw [up_s, Int.sub_self]; rfl)
      · refine r_lconst S dX12_next0_78 ?_
        refine r_lstore_n S dX12_next0_79 rfl rfl ?_
        exact loopL p p0 hpN pb c75 pT ((N - p).toNat + 1) p 0 _ 0 J1 hJ1 q31 q32 q29 (by omega) (by omega) (by omega) (by omega) rfl (by decide) (fun _ => by rw [Int.sub_self]; rfl)
    · refine r_aload_n S rfl dX12_next0_63 ?_
      refine r_iconst S dX12_next0_64 ?_
      refine r_putI S fk_X12_158 dX12_next0_65 rfl rfl (Nat.lt_of_lt_of_le (by decide) hn) (Or.inl rfl) (Or.inl rfl) ?_
      refine r_goto S (tgt := 328) dX12_next0_68 (by decide) ?_
      first
        | (have hpN : N ≤ p := by
             by_cases z : p < N
             · have := hby p p0 z
               rw [svI p z] at c60
               omega
             · omega
           have hT : T = [(-19, N)] := by rw [← pT, toks_end B hpN]
           have hJ2 : nxOnly I (up J1 72 30 0) := hJ1.put 0 (by omega)
           refine fin _ _ hJ2 ⟨by rw [up_s, hT]; rfl, by rw [up_i (by decide), q31, hT]; show p = N; omega, fun z => by rw [hT] at z; exact absurd z (by show ¬ (0 : Int) ≤ -19; decide), by rw [up_i (by decide)]; exact q32, by rw [up_i (by decide), f28 _ hJ2, q29]; omega, fun z => by rw [hT] at z; exact absurd rfl z⟩)
        | (have hT : T = (sgn (B p), p) :: toks B N (p + 1) := by rw [← pT, toks_tok B hpN pb, tok1, if_neg c75, if_neg c156]
           have key : ∀ tk : Int, tk = mtok (sgn (B p)) → nxOnly I (up (up J1 72 29 (J1 72 29 + 1)) 72 30 tk) ∧ tokI (up (up J1 72 29 (J1 72 29 + 1)) 72 30 tk) T := by
             intro tk htk
             have hJ2 : nxOnly I (up (up J1 72 29 (J1 72 29 + 1)) 72 30 tk) := (hJ1.put _ (by omega)).put tk (by omega)
             have hsn : sgn (B p) < 0 := by
               unfold sgn
               repeat (first | omega | split)
             have hh : hd T = sgn (B p) := by rw [hT]; rfl
             refine ⟨hJ2, by rw [up_s, htk, hh], by rw [up_i (by decide), up_i (by decide), q31, hT]; rfl, fun z => by omega, by rw [up_i (by decide), up_i (by decide)]; exact q32, by rw [up_i (by decide), up_s, f28 _ hJ2, q29]; omega, fun _ => ?_⟩
             rw [f93 _ hJ2, f28 _ hJ2, up_i (by decide), up_s, q29, hT]
             exact adv_toks.symm
           first
             | (have D := key (B p) (by
                  have hc : B p = 59 ∨ B p = 40 ∨ B p = 41 ∨ B p = 60 ∨ B p = 61 ∨ B p = 62 ∨ B p = 43 ∨ B p = 45 ∨ B p = 42 ∨ B p = 47 := by omega
                  rcases hc with e | e | e | e | e | e | e | e | e | e <;> rw [e] <;> rfl)
                exact fin _ _ D.1 D.2)
             | (have D := key 1 (by
                  unfold sgn
                  rw [if_neg (by omega), if_neg (by omega), if_neg (by omega), if_neg (by omega), if_neg (by omega), if_neg (by omega), if_neg (by omega), if_neg (by omega), if_neg (by omega), if_neg (by omega)]
                  rfl)
                exact fin _ _ D.1 D.2))
  -- the blanks
  have blanks : ∀ (q : Nat) (J : Iv) (p : Int), nxOnly I J → (0 ≤ J 72 32 ∧ J 72 32 ≤ 9999) → J 72 29 = p → 0 ≤ p → p ≤ N → N < p + q → toks B N p = T → k 0 [some (.ref (gb G + 72)), none, none, none, none] [] n J (rst bk dr pt) 0 0 := by
    intro q
    induction q with
    | zero => intro J p _ _ _ _ _ _; omega
    | succ q ih =>
      intro J p hJ h32 h29 p0 p1 pq pT
      refine r_aload_n S rfl dX12_next0_0 ?_
      refine r_aload_n S rfl dX12_next0_1 ?_
      refine r_getI S (v := J 72 29) fk_X12_149 dX12_next0_2 rfl rfl (Nat.lt_of_lt_of_le (by decide) hn) rfl ?_
      rw [h29]
      refine r_callV S lk_X12_152 mk_X12_see (see J p hJ p0 p1) rfl (Nat.lt_of_lt_of_le (by decide) hn) rfl rfl rfl (Nat.le_of_ble_eq_true rfl) ⟨by decide, by decide⟩ rfl ⟨by decide, by decide⟩ dX12_next0_5 ?_
      rintro _ _ _ _ ⟨rfl, rfl, rfl, rfl⟩
      refine r_bipush S (by decide +kernel) dX12_next0_8 ?_
      refine r_icmp_eq S (tgt := 26) dX12_next0_10 (by decide) (svR p p0) (by decide) (fun c10 => ?_) (fun c10 => ?_)
      · refine r_aload_n S rfl dX12_next0_26 ?_
        refine r_dup S rfl dX12_next0_27 ?_
        refine r_getI S (v := J 72 29) fk_X12_149 dX12_next0_28 rfl rfl (Nat.lt_of_lt_of_le (by decide) hn) rfl ?_
        refine r_iconst S dX12_next0_31 ?_
        refine r_iadd S dX12_next0_32 ?_
        refine r_putI S fk_X12_149 dX12_next0_33 rfl rfl (Nat.lt_of_lt_of_le (by decide) hn) (Or.inl rfl) (Or.inl rfl) ?_
        refine r_goto S (tgt := 0) dX12_next0_36 (by decide) ?_
        have hpN : p < N := by
          by_cases z : p < N
          · exact z
          · have := svO p (by omega)
            omega
        have hs := svI p hpN
        exact ih _ (p + 1) (hJ.put _ (by omega)) (by rw [up_i (by decide)]; exact h32) (by rw [up_s, h29]) (by omega) (by omega) (by omega) (by rw [← pT, toks_blank B (p := p) hpN (by omega)])
      · refine r_aload_n S rfl dX12_next0_13 ?_
        refine r_aload_n S rfl dX12_next0_14 ?_
        refine r_getI S (v := J 72 29) fk_X12_149 dX12_next0_15 rfl rfl (Nat.lt_of_lt_of_le (by decide) hn) rfl ?_
        rw [h29]
        refine r_callV S lk_X12_152 mk_X12_see (see J p hJ p0 p1) rfl (Nat.lt_of_lt_of_le (by decide) hn) rfl rfl rfl (Nat.le_of_ble_eq_true rfl) ⟨by decide, by decide⟩ rfl ⟨by decide, by decide⟩ dX12_next0_18 ?_
        rintro _ _ _ _ ⟨rfl, rfl, rfl, rfl⟩
        refine r_bipush S (by decide +kernel) dX12_next0_21 ?_
        refine r_icmp_ne S (tgt := 39) dX12_next0_23 (by decide) (svR p p0) (by decide) (fun c23 => ?_) (fun c23 => ?_)
        · exact at39 J p hJ h32 h29 p0 p1 (by omega) pT
        · refine r_aload_n S rfl dX12_next0_26 ?_
          refine r_dup S rfl dX12_next0_27 ?_
          refine r_getI S (v := J 72 29) fk_X12_149 dX12_next0_28 rfl rfl (Nat.lt_of_lt_of_le (by decide) hn) rfl ?_
          refine r_iconst S dX12_next0_31 ?_
          refine r_iadd S dX12_next0_32 ?_
          refine r_putI S fk_X12_149 dX12_next0_33 rfl rfl (Nat.lt_of_lt_of_le (by decide) hn) (Or.inl rfl) (Or.inl rfl) ?_
          refine r_goto S (tgt := 0) dX12_next0_36 (by decide) ?_
          have hpN : p < N := by
            by_cases z : p < N
            · exact z
            · have := svO p (by omega)
              omega
          have hs := svI p hpN
          exact ih _ (p + 1) (hJ.put _ (by omega)) (by rw [up_i (by decide)]; exact h32) (by rw [up_s, h29]) (by omega) (by omega) (by omega) (by rw [← pT, toks_blank B (p := p) hpN (by omega)])
  exact blanks ((N - I 72 29).toNat + 1) I (I 72 29) (nxOnly.rf I) hv rfl a0 a1 (by omega) eT.symm
end
