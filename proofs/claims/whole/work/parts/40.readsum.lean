/-! ===== the class's reader: an E ===== -/
def putW (I : Iv) (a : Int) : Iv := up (up I 59 (I 55 4) a) 55 4 (I 55 4 + 1)
/-- the reader's state: codes written, what waits, how many are open, what comes -/
def cSt (b : Nat) (I : Iv) (C W : List Int) (o : Int) (T : TL) : Prop := TLok T ∧ ctk I T ∧ I 55 3 = o ∧ (I 55 4 = W.length ∧ holdS (I 59) W) ∧ bok b I C ∧ I 55 0 = 0 ∧ I 55 1 = -1
theorem cSt.adv {b : Nat} {I : Iv} {C W : List Int} {o : Int} {T : TL} (hb : 60 ≤ b) (h : cSt b I C W o T) : cSt b (advI I) C W o (adv T) := by
  obtain ⟨h1, h2, h3, h4, h5, h6, h7⟩ := h
  refine ⟨TLok_adv h1, ctk_adv h2, ?_, ?_, bok_same h5 (advI_o _ (by omega)) (by rw [advI_o _ (by omega)]), ?_, ?_⟩
  · rw [advI_o _ (by decide)]; exact h3
  · rw [advI_o _ (by decide), advI_o _ (by decide)]; exact h4
  · rw [advI_o _ (by decide)]; exact h6
  · rw [advI_o _ (by decide)]; exact h7
theorem cSt.put {b : Nat} {I : Iv} {C W : List Int} {o : Int} {T : TL} (hb : 60 ≤ b) (h : cSt b I C W o T) (a : Int) : cSt b (putW I a) C (a :: W) o T := by
  obtain ⟨h1, h2, h3, ⟨h4, h4'⟩, h5, h6, h7⟩ := h
  unfold putW
  refine ⟨h1, ctk_same h2 (by rw [up_o (by decide), up_o (by decide)]) (by rw [up_o (by decide), up_o (by decide)]) (by rw [up_o (by decide), up_o (by decide)]), ?_, ⟨?_, ?_, ?_⟩, bok_same h5 (by rw [up_o (by omega), up_o (by omega)]) (by rw [up_o (by omega), up_o (by omega)]), ?_, ?_⟩
  · rw [up_i (by decide), up_o (by decide)]; exact h3
  · rw [up_s, h4]; rfl
  · rw [up_o (by decide), h4, up_s]
  · refine holdS_congr W (fun j g0 g1 => ?_) h4'
    rw [up_o (by decide), up_i (by omega)]
  · rw [up_i (by decide), up_o (by decide)]; exact h6
  · rw [up_i (by decide), up_o (by decide)]; exact h7
theorem cSt.wr {b : Nat} {I : Iv} {C W : List Int} {o : Int} {T : TL} (hb : 60 ≤ b) (h : cSt b I C W o T) (a : Int) : cSt b (wrI b I a) (C ++ [a]) W o T := by
  obtain ⟨h1, h2, h3, h4, h5, h6, h7⟩ := h
  refine ⟨h1, ctk_same h2 (wrI_o (by omega) (by omega)) (wrI_o (by omega) (by omega)) (wrI_o (by omega) (by omega)), ?_, ?_, bok_wr h5 a, ?_, ?_⟩
  · rw [wrI_o (by omega) (by omega)]; exact h3
  · rw [wrI_o (by omega) (by omega), wrI_o (by omega) (by omega)]; exact h4
  · rw [wrI_o (by omega) (by omega)]; exact h6
  · rw [wrI_o (by omega) (by omega)]; exact h7
theorem holdS_drop {A : Int → Int} : ∀ (P W : List Int), holdS A (P ++ W) → holdS A W
  | [], _, h => h
  | _ :: P, W, h => holdS_drop P W h.2
theorem cSt.ww {b : Nat} {I I' : Iv} {C P W : List Int} {o : Int} {T : TL} (hb : 60 ≤ b) (h : cSt b I C (P ++ W) o T) (hw : wwQ b I P W C I') : cSt b I' (C ++ P) W o T := by
  have ht := hw.tk hb h.2.1
  obtain ⟨h1, h2, h3, h4, h5, h6, h7⟩ := h
  obtain ⟨q1, q2, q3, q4, q5⟩ := hw
  refine ⟨h1, ht, ?_, ⟨q1, ?_⟩, q2, ?_, ?_⟩
  · rw [q4 3 (by decide)]; exact h3
  · rw [q3 59 (by decide) (by omega) (by omega)]; exact holdS_drop P W h4.2
  · rw [q4 0 (by decide)]; exact h6
  · rw [q4 1 (by decide)]; exact h7
theorem cSt.opn {b : Nat} {I : Iv} {C W : List Int} {o : Int} {T : TL} (hb : 60 ≤ b) (h : cSt b I C W o T) (o' : Int) : cSt b (up I 55 3 o') C W o' T := by
  obtain ⟨h1, h2, h3, h4, h5, h6, h7⟩ := h
  refine ⟨h1, ctk_same h2 (up_o (by decide)) (up_o (by decide)) (up_o (by decide)), up_s _ _ _ _, ?_, bok_same h5 (up_o (by omega)) (by rw [up_o (by omega)]), ?_, ?_⟩
  · rw [up_i (by decide), up_o (by decide)]; exact h4
  · rw [up_i (by decide)]; exact h6
  · rw [up_i (by decide)]; exact h7
theorem cSt.pop {b : Nat} {I : Iv} {C W : List Int} {a o w : Int} {T : TL} (hb : 60 ≤ b) (h : cSt b I C (a :: W) o T) (hw : w = W.length) : cSt b (up I 55 4 w) C W o T := by
  obtain ⟨h1, h2, h3, h4, h5, h6, h7⟩ := h
  refine ⟨h1, ctk_same h2 (up_o (by decide)) (up_o (by decide)) (up_o (by decide)), ?_, ⟨?_, ?_⟩, bok_same h5 (up_o (by omega)) (by rw [up_o (by omega)]), ?_, ?_⟩
  · rw [up_i (by decide)]; exact h3
  · rw [up_s]; exact hw
  · rw [up_o (by decide)]; exact h4.2.2
  · rw [up_i (by decide)]; exact h6
  · rw [up_i (by decide)]; exact h7
def opc : Fr → List Fr → Nat
  | f, [] => (enc f).length
  | f, g :: gs => (enc f).length + opc g gs
/-- what waits below the inner level -/
def rest_ (gs : List Fr) : List Int := match gs with
  | [] => []
  | g :: gs => -16 :: encs g gs
theorem encs_eq (f : Fr) (gs : List Fr) : encs f gs = enc f ++ rest_ gs := by
  cases gs with
  | nil => show enc f = enc f ++ []; rw [List.append_nil]
  | cons g gs => rfl
def opr (gs : List Fr) : Nat := match gs with
  | [] => 0
  | g :: gs => opc g gs
theorem opc_eq (f : Fr) (gs : List Fr) : opc f gs = (enc f).length + opr gs := by
  cases gs with
  | nil => rfl
  | cons g gs => rfl
def eS (f : Fr) : List Int := if f.2 = 7 then [-7] else []
def eP (f : Fr) : List Int := if f.1 = 0 then [] else [-f.1]
theorem enc_eq (f : Fr) : enc f = eS f ++ eP f := rfl
theorem flat_emS (f : Fr) : flat (emS f) = eS f := by
  unfold emS eS
  by_cases h : f.2 = 7
  · rw [if_pos h, if_pos h]; rfl
  · rw [if_neg h, if_neg h]; rfl
theorem flat_emP {f : Fr} (hf : FrOk f) : flat (emP f) = eP f := by
  unfold emP eP
  by_cases h : f.1 = 0
  · rw [if_pos h, if_pos h]; rfl
  · rw [if_neg h, if_neg h]
    exact flat_one h (by have := hf.1; omega)
theorem eS_mem {f : Fr} {x : Int} (h : x ∈ eS f) : x = -7 := by
  unfold eS at h
  split at h
  · exact List.mem_singleton.mp h
  · cases h
theorem eP_mem {f : Fr} (hf : FrOk f) {x : Int} (h : x ∈ eP f) : x = -5 ∨ x = -6 := by
  unfold eP at h
  split at h
  · cases h
  · have := List.mem_singleton.mp h
    have := hf.1
    omega
theorem enc_mem {f : Fr} (hf : FrOk f) {x : Int} (h : x ∈ enc f) : -7 ≤ x ∧ x ≤ -5 := by
  rw [enc_eq] at h
  rcases List.mem_append.mp h with h | h
  · have := eS_mem h; omega
  · have := eP_mem hf h; omega
theorem encs_mem : ∀ (gs : List Fr) (f : Fr), FrOk f → (∀ g ∈ gs, FrOk g) → ∀ x ∈ encs f gs, rg x
  | [], f, hf, _, x, hx => by
    have := enc_mem hf hx
    omega
  | g :: gs, f, hf, hg, x, hx => by
    have hx' : x ∈ enc f ++ -16 :: encs g gs := hx
    rcases List.mem_append.mp hx' with h | h
    · have := enc_mem hf h
      omega
    · rcases List.mem_cons.mp h with h | h
      · omega
      · exact encs_mem gs g (hg g (List.mem_cons_self ..)) (fun y hy => hg y (List.mem_cons_of_mem _ hy)) x h
/-- the state, in the words of the frames -/
def rSt (b : Nat) (I : Iv) (C0 : List Int) (f : Fr) (gs : List Fr) (acc T : TL) : Prop := (FrOk f ∧ ∀ g ∈ gs, FrOk g) ∧ gs.length ≤ 8 ∧ C0.length + (flat acc).length + opc f gs + T.length ≤ 401 ∧ cSt b I (C0 ++ flat acc) (encs f gs) gs.length T
def rBad (I' : Iv) (R : PR) : Prop := ∃ e, R = .inl e ∧ I' 55 0 = e.1 ∧ I' 55 1 = e.2
def rUn (b : Nat) (I' : Iv) (C0 : List Int) (R : PR) (len : Nat) : Prop := ∃ f gs acc T, R = Kf f gs acc T ∧ rSt b I' C0 f gs acc T ∧ T.length < len ∧ 0 < (flat acc).length
def rBe (b : Nat) (I' : Iv) (C0 : List Int) (R : PR) (len : Nat) : Prop := ∃ f gs acc T, R = Kf f gs acc T ∧ rSt b I' C0 f gs acc T ∧ T.length ≤ len ∧ ¬ hd T = -8 ∧ (hd T = -17 → gs = [])
def rSu (b : Nat) (I' : Iv) (C0 : List Int) (R : PR) : Prop := ∃ q, R = .inr q ∧ TLok q.2 ∧ ctk I' q.2 ∧ bok b I' (C0 ++ flat q.1) ∧ I' 55 0 = 0 ∧ I' 55 1 = -1
theorem rBad_of {I : Iv} {R : PR} {a p : Int} (hR : R = .inl (a, p)) : rBad (up (up I 55 0 a) 55 1 p) R := ⟨_, hR, by rw [up_i (by decide), up_s], by rw [up_s]⟩
theorem flat_atS {c : Int} (h : -4 ≤ c) : flat [atS c] = [c] := by
  unfold atS
  by_cases h0 : 0 ≤ c
  · rw [if_pos h0]; rfl
  · rw [if_neg h0, flat_one (by omega) (by omega), show - -c = c by omega]
theorem TL_pos {T : TL} (h : TLok T) : 1 ≤ T.length := TLok_pos h
section
variable (G : GE) (n : Nat) (I : Iv) (bk dr : Nat) (pt : Option Nat)
theorem c_X7_expect (hn : 103 ≤ n) {T : TL} (hL : TLok T) (hT : ctk I T) {c : Int} (hc : rg c) : Ct G yX7_expect cX7_expect 2 (some .boolean) 2 0 0 [.ref (gb G + 55), .int (jI c)] n I (rst bk dr pt) (fun v n' I' ρ' => n = n' ∧ rst bk dr pt = ρ' ∧ ∃ y : Int, v = some (.int (jI y)) ∧ ((y = 0 ∧ ¬ hd T = c ∧ I' = up (up I 55 0 1) 55 1 (pl T)) ∨ (y = 1 ∧ hd T = c ∧ I' = advI I))) := by
  have hh := TLok_hd hL
  refine Ct.of [some (.ref (gb G + 55)), some (.int (jI c))] (by decide) rfl rfl rfl ?_
  intro k SR
  have S : Sem G RX7 "expect" cX7_expect 2 (rmD 2 0 0) k := SR.sem
  refine r_aload_n S rfl dX7_expect_0 ?_
  refine r_getR S (o' := 56) fk_X7_21 dX7_expect_1 rfl rfl (Nat.lt_of_lt_of_le (by decide) hn) rfl ?_
  refine r_callV S lk_X7_44 mk_X9_code (c_tcode G n I bk dr pt hn hT) rfl (Nat.lt_of_lt_of_le (by decide) hn) rfl rfl rfl (Nat.le_of_ble_eq_true rfl) ⟨by decide, by decide⟩ rfl ⟨by decide, by decide⟩ dX7_expect_4 ?_
  rintro _ _ _ _ ⟨rfl, rfl, rfl, rfl⟩
  refine r_iload_n S rfl dX7_expect_7 ?_
  refine r_icmp_eq S (tgt := 17) dX7_expect_8 (by decide) (by omega) hc (fun c8 => ?_) (fun c8 => ?_)
  · refine r_aload_n S rfl dX7_expect_17 ?_
    refine r_getR S (o' := 56) fk_X7_21 dX7_expect_18 rfl rfl (Nat.lt_of_lt_of_le (by decide) hn) rfl ?_
    refine r_callV S lk_X7_61 mk_X9_advance (c_tadv G n I bk dr pt hn hT) rfl (Nat.lt_of_lt_of_le (by decide) hn) rfl rfl rfl (Nat.le_of_ble_eq_true rfl) ⟨by decide, by decide⟩ rfl ⟨by decide, by decide⟩ dX7_expect_21 ?_
    rintro _ _ _ _ ⟨rfl, rfl, rfl, rfl⟩
    refine r_iconst S dX7_expect_24 ?_
    refine r_zret SR dX7_expect_25 (by decide) ⟨by decide, by decide⟩ ?_
    exact ⟨rfl, rfl, 1, rfl, Or.inr ⟨rfl, c8, rfl⟩⟩
  · refine r_aload_n S rfl dX7_expect_11 ?_
    refine r_iconst S dX7_expect_12 ?_
    refine r_callV S lk_X7_54 mk_X7_fail (c_X7_fail G n I bk dr pt hn hT (a := 1)) rfl (Nat.lt_of_lt_of_le (by decide) hn) rfl rfl rfl (Nat.le_of_ble_eq_true rfl) ⟨by decide, by decide⟩ rfl ⟨by decide, by decide⟩ dX7_expect_13 ?_
    rintro _ _ _ _ ⟨rfl, rfl, rfl, rfl⟩
    refine r_zret SR dX7_expect_16 (by decide) ⟨by decide, by decide⟩ ?_
    exact ⟨rfl, rfl, 0, rfl, Or.inl ⟨rfl, c8, rfl⟩⟩
theorem c_readUnit (hB : BkOk n (rst bk dr pt) dr) {C0 : List Int} {f : Fr} {gs : List Fr} {acc T : TL} (hS : rSt dr I C0 f gs acc T) : Ct G yX7_readUnit cX7_readUnit 3 (some .boolean) 2 0 0 [.ref (gb G + 55), .ref (gb G + dr)] n I (rst bk dr pt) (fun v n' I' ρ' => n = n' ∧ rst bk dr pt = ρ' ∧ rdOnly dr I I' ∧ ∃ z : Int, v = some (.int (jI z)) ∧ ((z = 0 ∧ rBad I' (KU f gs acc T)) ∨ (z = 1 ∧ rUn dr I' C0 (KU f gs acc T) T.length))) := by
  have hn := hB.2.2.2.2.2.2.2.2.2.2.2.2.2
  have hb := hB.2.2.2.2.2.2.2.2.2.2.2.1
  have hb' := hB.2.2.2.2.2.2.2.2.2.2.2.2.1
  have k0 := hB.1
  refine Ct.of [some (.ref (gb G + 55)), some (.ref (gb G + dr)), none] (by decide) rfl rfl rfl ?_
  intro k SR
  have S : Sem G RX7 "readUnit" cX7_readUnit 3 (rmD 2 0 0) k := SR.sem
  obtain ⟨R, eR⟩ : ∃ R, R = KU f gs acc T := ⟨_, rfl⟩
  rw [← eR] at SR
  have unit : ∀ (f' : Fr) (gs' : List Fr) (T' : TL) (i : Int) (J : Iv), ¬ hd T' = -16 → rdOnly dr I J → rSt dr J C0 f' gs' acc T' → R = KU f' gs' acc T' → T'.length ≤ T.length → k 65 [some (.ref (gb G + 55)), some (.ref (gb G + dr)), some (.int (jI i))] [] n J (rst bk dr pt) 0 0 := by
    intro f' gs' T' i J h16 hJ hSJ hR hlen
    obtain ⟨hF, h8, hN, hC⟩ := hSJ
    have hC0 := hC
    obtain ⟨jL, jT, j3, j4, j5, j6, j7⟩ := hC
    have hh := TLok_hd jL
    have hp := TL_pos jL
    have j51 : J dr 1 = (C0 ++ flat acc).length := j5.2
    rw [List.length_append] at j51
    refine r_aload_n S rfl dX7_readUnit_65 ?_
    refine r_getR S (o' := 56) fk_X7_21 dX7_readUnit_66 rfl rfl (Nat.lt_of_lt_of_le (by decide) hn) rfl ?_
    refine r_callV S lk_X7_44 mk_X9_code (c_tcode G n J bk dr pt hn jT) rfl (Nat.lt_of_lt_of_le (by decide) hn) rfl rfl rfl (Nat.le_of_ble_eq_true rfl) ⟨by decide, by decide⟩ rfl ⟨by decide, by decide⟩ dX7_readUnit_69 ?_
    rintro _ _ _ _ ⟨rfl, rfl, rfl, rfl⟩
    refine r_istore_n S dX7_readUnit_72 rfl rfl ?_
    refine r_iload_n S rfl dX7_readUnit_73 ?_
    refine r_callS S lk_X7_110 mk_X1_isNumber (c_X1_isNumber G n J (rst bk dr pt) (by omega)) rfl rfl (Nat.le_of_ble_eq_true rfl) ⟨by decide, by decide⟩ rfl ⟨by decide, by decide⟩ dX7_readUnit_74 ?_
    rintro _ _ _ _ ⟨rfl, rfl, rfl, rfl⟩
    refine r_ifb_ne S (tgt := 93) dX7_readUnit_77 (by decide)  (fun c77 => ?_) (fun c77 => ?_)
    · have hl := TLok_len jL (by omega)
      have h4 : -4 ≤ hd T' := by omega
      have hl1 := TL_pos (TLok_adv jL)
      refine r_aload_n S rfl dX7_readUnit_93 ?_
      refine r_iload_n S rfl dX7_readUnit_94 ?_
      refine r_callV S lk_X7_89 mk_X6_write (c_X6_write G n J (rst bk dr pt) dr hB (a := hd T') (by omega) (by omega)) k0 (by omega) rfl rfl rfl (Nat.le_of_ble_eq_true rfl) ⟨by decide, by decide⟩ rfl ⟨by decide, by decide⟩ dX7_readUnit_95 ?_
      rintro _ _ _ _ ⟨rfl, rfl, rfl, rfl⟩
      show k 98 _ _ n (wrI dr J (hd T')) _ _ _
      refine r_aload_n S rfl dX7_readUnit_98 ?_
      refine r_getR S (o' := 56) fk_X7_21 dX7_readUnit_99 rfl rfl (Nat.lt_of_lt_of_le (by decide) hn) rfl ?_
      refine r_callV S lk_X7_61 mk_X9_advance (c_tadv G n (wrI dr J (hd T')) bk dr pt hn (hC0.wr hb (hd T')).2.1) rfl (Nat.lt_of_lt_of_le (by decide) hn) rfl rfl rfl (Nat.le_of_ble_eq_true rfl) ⟨by decide, by decide⟩ rfl ⟨by decide, by decide⟩ dX7_readUnit_102 ?_
      rintro _ _ _ _ ⟨rfl, rfl, rfl, rfl⟩
      refine r_iconst S dX7_readUnit_105 ?_
      refine r_zret SR dX7_readUnit_106 (by decide) ⟨by decide, by decide⟩ ?_
      refine ⟨rfl, rfl, (hJ.wr hb _).adv hb, 1, rfl, Or.inr ⟨rfl, f', gs', acc ++ [atS (hd T')], adv T', hR.trans (KU_unit h4), ⟨hF, h8, ?_, ?_⟩, by omega, ?_⟩⟩
      · rw [flat_app, List.length_append, flat_atS h4]
        show C0.length + ((flat acc).length + 1) + opc f' gs' + (adv T').length ≤ 401
        omega
      · rw [flat_app, flat_atS h4, ← List.append_assoc]
        exact (hC0.wr hb (hd T')).adv hb
      · rw [flat_app, List.length_append, flat_atS h4]
        show 0 < (flat acc).length + 1
        omega
    · refine r_iload_n S rfl dX7_readUnit_80 ?_
      refine r_callS S lk_X7_113 mk_X1_isFact (c_X1_isFact G n J (rst bk dr pt) (by omega)) rfl rfl (Nat.le_of_ble_eq_true rfl) ⟨by decide, by decide⟩ rfl ⟨by decide, by decide⟩ dX7_readUnit_81 ?_
      rintro _ _ _ _ ⟨rfl, rfl, rfl, rfl⟩
      refine r_ifb_ne S (tgt := 93) dX7_readUnit_84 (by decide)  (fun c84 => ?_) (fun c84 => ?_)
      · have hl := TLok_len jL (by omega)
        have h4 : -4 ≤ hd T' := by omega
        have hl1 := TL_pos (TLok_adv jL)
        refine r_aload_n S rfl dX7_readUnit_93 ?_
        refine r_iload_n S rfl dX7_readUnit_94 ?_
        refine r_callV S lk_X7_89 mk_X6_write (c_X6_write G n J (rst bk dr pt) dr hB (a := hd T') (by omega) (by omega)) k0 (by omega) rfl rfl rfl (Nat.le_of_ble_eq_true rfl) ⟨by decide, by decide⟩ rfl ⟨by decide, by decide⟩ dX7_readUnit_95 ?_
        rintro _ _ _ _ ⟨rfl, rfl, rfl, rfl⟩
        show k 98 _ _ n (wrI dr J (hd T')) _ _ _
        refine r_aload_n S rfl dX7_readUnit_98 ?_
        refine r_getR S (o' := 56) fk_X7_21 dX7_readUnit_99 rfl rfl (Nat.lt_of_lt_of_le (by decide) hn) rfl ?_
        refine r_callV S lk_X7_61 mk_X9_advance (c_tadv G n (wrI dr J (hd T')) bk dr pt hn (hC0.wr hb (hd T')).2.1) rfl (Nat.lt_of_lt_of_le (by decide) hn) rfl rfl rfl (Nat.le_of_ble_eq_true rfl) ⟨by decide, by decide⟩ rfl ⟨by decide, by decide⟩ dX7_readUnit_102 ?_
        rintro _ _ _ _ ⟨rfl, rfl, rfl, rfl⟩
        refine r_iconst S dX7_readUnit_105 ?_
        refine r_zret SR dX7_readUnit_106 (by decide) ⟨by decide, by decide⟩ ?_
        refine ⟨rfl, rfl, (hJ.wr hb _).adv hb, 1, rfl, Or.inr ⟨rfl, f', gs', acc ++ [atS (hd T')], adv T', hR.trans (KU_unit h4), ⟨hF, h8, ?_, ?_⟩, by omega, ?_⟩⟩
        · rw [flat_app, List.length_append, flat_atS h4]
          show C0.length + ((flat acc).length + 1) + opc f' gs' + (adv T').length ≤ 401
          omega
        · rw [flat_app, flat_atS h4, ← List.append_assoc]
          exact (hC0.wr hb (hd T')).adv hb
        · rw [flat_app, List.length_append, flat_atS h4]
          show 0 < (flat acc).length + 1
          omega
      · refine r_aload_n S rfl dX7_readUnit_87 ?_
        refine r_iconst S dX7_readUnit_88 ?_
        refine r_callV S lk_X7_54 mk_X7_fail (c_X7_fail G n J bk dr pt hn jT (a := 1)) rfl (Nat.lt_of_lt_of_le (by decide) hn) rfl rfl rfl (Nat.le_of_ble_eq_true rfl) ⟨by decide, by decide⟩ rfl ⟨by decide, by decide⟩ dX7_readUnit_89 ?_
        rintro _ _ _ _ ⟨rfl, rfl, rfl, rfl⟩
        refine r_zret SR dX7_readUnit_92 (by decide) ⟨by decide, by decide⟩ ?_
        exact ⟨rfl, rfl, (hJ.put hb (Or.inl rfl) _ _).put hb (Or.inl rfl) _ _, 0, rfl, Or.inl ⟨rfl, rBad_of (hR.trans (KU_no h16 (by omega)))⟩⟩
  have loop : ∀ (m : Nat) (f' : Fr) (gs' : List Fr) (T' : TL) (i : Int) (J : Iv), T'.length < m → 0 ≤ i → i ≤ gs'.length → rdOnly dr I J → rSt dr J C0 f' gs' acc T' → R = KU f' gs' acc T' → T'.length ≤ T.length → k 2 [some (.ref (gb G + 55)), some (.ref (gb G + dr)), some (.int (jI i))] [] n J (rst bk dr pt) 0 0 := by
    intro m
    induction m with
    | zero => intro f' gs' T' i J h; omega
    | succ m ih =>
      intro f' gs' T' i J hm i0 i1 hJ hSJ hR hlen
      have hSJ0 := hSJ
      obtain ⟨hF, h8, hN, hC⟩ := hSJ
      have hC0 := hC
      obtain ⟨jL, jT, j3, j4, j5, j6, j7⟩ := hC
      have hh := TLok_hd jL
      have hel := encs_len gs' f'
      have j41 := j4.1
      obtain ⟨J1, eJ1⟩ : ∃ J1, J1 = up J 55 3 (J 55 3 + 1) := ⟨_, rfl⟩
      have hC1 : cSt dr J1 (C0 ++ flat acc) (encs f' gs') (J 55 3 + 1) T' := by rw [eJ1]; exact hC0.opn hb _
      have j1 : J1 55 4 = (encs f' gs').length := hC1.2.2.2.1.1
      refine r_iload_n S rfl dX7_readUnit_2 ?_
      refine r_sipush S (by decide +kernel) dX7_readUnit_3 ?_
      refine r_icmp_ge S (tgt := 65) dX7_readUnit_6 (by decide) (by omega) (by omega) (fun c6 => ?_) (fun c6 => ?_)
      · exact absurd c6 (by omega)
      · refine r_aload_n S rfl dX7_readUnit_9 ?_
        refine r_getR S (o' := 56) fk_X7_21 dX7_readUnit_10 rfl rfl (Nat.lt_of_lt_of_le (by decide) hn) rfl ?_
        refine r_callV S lk_X7_44 mk_X9_code (c_tcode G n J bk dr pt hn jT) rfl (Nat.lt_of_lt_of_le (by decide) hn) rfl rfl rfl (Nat.le_of_ble_eq_true rfl) ⟨by decide, by decide⟩ rfl ⟨by decide, by decide⟩ dX7_readUnit_13 ?_
        rintro _ _ _ _ ⟨rfl, rfl, rfl, rfl⟩
        refine r_bipush S (by decide +kernel) dX7_readUnit_16 ?_
        refine r_icmp_ne S (tgt := 65) dX7_readUnit_18 (by decide) (by omega) (by decide) (fun c18 => ?_) (fun c18 => ?_)
        · exact unit f' gs' T' i J c18 hJ hSJ0 hR hlen
        · refine r_aload_n S rfl dX7_readUnit_21 ?_
          refine r_getI S (v := J 55 3) fk_X7_25 dX7_readUnit_22 rfl rfl (Nat.lt_of_lt_of_le (by decide) hn) rfl ?_
          refine r_bipush S (by decide +kernel) dX7_readUnit_25 ?_
          refine r_icmp_lt S (tgt := 36) dX7_readUnit_27 (by decide) (by omega) (by decide) (fun c27 => ?_) (fun c27 => ?_)
          · refine r_aload_n S rfl dX7_readUnit_36 ?_
            refine r_dup S rfl dX7_readUnit_37 ?_
            refine r_getI S (v := J 55 3) fk_X7_25 dX7_readUnit_38 rfl rfl (Nat.lt_of_lt_of_le (by decide) hn) rfl ?_
            refine r_iconst S dX7_readUnit_41 ?_
            refine r_iadd S dX7_readUnit_42 ?_
            refine r_putI S fk_X7_25 dX7_readUnit_43 rfl rfl (Nat.lt_of_lt_of_le (by decide) hn) (Or.inl rfl) (Or.inl rfl) ?_
            rw [← eJ1]
            have hl := TLok_len jL (by omega)
            refine r_aload_n S rfl dX7_readUnit_46 ?_
            refine r_bipush S (by decide +kernel) dX7_readUnit_47 ?_
            refine r_callV S lk_X7_107 mk_X7_putToWait (c_X7_putToWait G n J1 bk dr pt hn (a := -16) (by omega) (by omega)) rfl (Nat.lt_of_lt_of_le (by decide) hn) rfl rfl rfl (Nat.le_of_ble_eq_true rfl) ⟨by decide, by decide⟩ rfl ⟨by decide, by decide⟩ dX7_readUnit_49 ?_
            rintro _ _ _ _ ⟨rfl, rfl, rfl, rfl⟩
            show k 52 _ _ n (putW J1 (-16)) _ _ _
            refine r_aload_n S rfl dX7_readUnit_52 ?_
            refine r_getR S (o' := 56) fk_X7_21 dX7_readUnit_53 rfl rfl (Nat.lt_of_lt_of_le (by decide) hn) rfl ?_
            refine r_callV S lk_X7_61 mk_X9_advance (c_tadv G n (putW J1 (-16)) bk dr pt hn (hC1.put hb (-16)).2.1) rfl (Nat.lt_of_lt_of_le (by decide) hn) rfl rfl rfl (Nat.le_of_ble_eq_true rfl) ⟨by decide, by decide⟩ rfl ⟨by decide, by decide⟩ dX7_readUnit_56 ?_
            rintro _ _ _ _ ⟨rfl, rfl, rfl, rfl⟩
            refine r_iinc S dX7_readUnit_59 rfl rfl rfl ?_
            refine r_goto S (tgt := 2) dX7_readUnit_62 (by decide) ?_
            refine ih (0, 0) (f' :: gs') (adv T') (i + 1) _ (by omega) (by omega) (by rw [List.length_cons]; omega) ?_ ⟨⟨⟨Or.inl rfl, Or.inl rfl⟩, fun g hg => ?_⟩, by rw [List.length_cons]; omega, ?_, ?_⟩ (hR.trans (KU_open (by omega) (by omega))) (by omega)
            · refine rdOnly.adv ?_ hb
              unfold putW
              refine rdOnly.put (rdOnly.put ?_ hb (Or.inr rfl) _ _) hb (Or.inl rfl) _ _
              rw [eJ1]
              exact hJ.put hb (Or.inl rfl) _ _
            · rcases List.mem_cons.mp hg with h | h
              · rw [h]; exact hF.1
              · exact hF.2 g h
            · have e : opc (0, 0) (f' :: gs') = 0 + opc f' gs' := rfl
              rw [e]
              omega
            · have e : ((f' :: gs').length : Int) = J 55 3 + 1 := by rw [List.length_cons]; omega
              rw [e]
              exact (hC1.put hb (-16)).adv hb
          · refine r_aload_n S rfl dX7_readUnit_30 ?_
            refine r_iconst S dX7_readUnit_31 ?_
            refine r_callV S lk_X7_54 mk_X7_fail (c_X7_fail G n J bk dr pt hn jT (a := 3)) rfl (Nat.lt_of_lt_of_le (by decide) hn) rfl rfl rfl (Nat.le_of_ble_eq_true rfl) ⟨by decide, by decide⟩ rfl ⟨by decide, by decide⟩ dX7_readUnit_32 ?_
            rintro _ _ _ _ ⟨rfl, rfl, rfl, rfl⟩
            refine r_zret SR dX7_readUnit_35 (by decide) ⟨by decide, by decide⟩ ?_
            exact ⟨rfl, rfl, (hJ.put hb (Or.inl rfl) _ _).put hb (Or.inl rfl) _ _, 0, rfl, Or.inl ⟨rfl, rBad_of (hR.trans (KU_deep (by omega) (by omega)))⟩⟩
  refine r_iconst S dX7_readUnit_0 ?_
  refine r_istore_n S dX7_readUnit_1 rfl rfl ?_
  exact loop (T.length + 1) f gs T 0 I (by omega) (by decide) (by omega) (rdOnly.rf _ _) hS eR (Nat.le_refl _)
end
