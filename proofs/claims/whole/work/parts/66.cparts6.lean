/-! ===== the class's PARTINGS: leastOfBest ===== -/
theorem dif_eq0 {a L : Nat} : dif a L = 0 ↔ sub a L := by
  constructor
  · intro h
    refine sub_tb.mpr fun i hi => ?_
    have t := congrArg (fun x => Nat.testBit x i) h
    simp only [dif_tb, Nat.zero_testBit, hi] at t
    simpa using t
  · intro h
    apply Nat.eq_of_testBit_eq
    intro i
    rw [dif_tb, Nat.zero_testBit]
    cases ha : Nat.testBit a i with
    | false => rfl
    | true => rw [sub_tb.mp h i ha]; rfl
section
variable (G : GE) (n : Nat) (I : Iv) (bk dr : Nat) (pt : Option Nat)
theorem c_X5_leastOfBest (hn : 109 ≤ n) {h F al left : Nat} {w wl : Nat → Int} {d : Int} {ds : List Int} (hW : PW w wl al) (hal : 2 ^ F = al + 1) (h8 : h < 8) (hal1 : al < 1024) (hl : ds.length ≤ 7) (ed : I 104 h = d) (hd : 0 ≤ d ∧ d ≤ 9999) (hw : ∀ s : Nat, 1 ≤ s → s ≤ al → I 105 (s : Int) = w s ∧ I 106 (s : Int) = wl s ∧ rg (wl s)) (hrow : ∀ L : Nat, L ≤ al → I 107 (1024 * (h : Int) + L) = cB w wl al (h + 1) ds L) (hle : left ≤ al) : Ct G yX5_leastOfBest cX5_leastOfBest 8 (some .int) 1 0 0 [.ref (gb G + 103), .int (jI (h : Int)), .int (jI (left : Int))] n I (rst bk dr pt) (PI ((lob (fun a => key1 w h a + cB w wl al (h + 1) ds (dif left a)) (je w wl d left) left (cB w wl al (h + 1) ds left)).2 : Int) n I (rst bk dr pt)) := by
  refine Ct.of [some (.ref (gb G + 103)), some (.int (jI (h : Int))), some (.int (jI (left : Int))), none, none, none, none, none] (by decide) rfl rfl rfl ?_
  intro k SR
  have S : Sem G RX5 "leastOfBest" cX5_leastOfBest 8 (rmD 1 0 0) k := SR.sem
  have hsub : ∀ s, s ≤ al → sub s al := fun s hs => sub_al hal hs
  obtain ⟨g, eg⟩ : ∃ g : Nat → Int, g = fun a => key1 w h a + cB w wl al (h + 1) ds (dif left a) := ⟨_, rfl⟩
  obtain ⟨v0, ev0⟩ : ∃ v0, v0 = cB w wl al (h + 1) ds left := ⟨_, rfl⟩
  rw [← eg, ← ev0] at SR
  have cbr : ∀ L, L ≤ al → 0 ≤ cB w wl al (h + 1) ds L ∧ cB w wl al (h + 1) ds L ≤ 4194432 * 7 := fun L hL => by
    have := cB_rg hW ds (h + 1) L (hsub L hL)
    omega
  have gr : ∀ a, a ≤ al → -4194304 ≤ g a ∧ g a ≤ 4194432 * 8 := fun a ha => by
    rw [eg]
    have h1 := cbr (dif left a) (Nat.le_trans (sub_le (sub_dif left a)) hle)
    have h2 := hW.2.2.2 a (hsub a ha)
    have h3 := key1_le w (i := h) (a := a) h2.1
    have h4 : -4194304 ≤ key1 w h a := by
      unfold key1
      generalize (2 : Nat) ^ (7 - h) = p
      omega
    show -4194304 ≤ key1 w h a + cB w wl al (h + 1) ds (dif left a) ∧ key1 w h a + cB w wl al (h + 1) ds (dif left a) ≤ _
    omega
  have lr : ∀ m, m ≤ al → 0 ≤ (lob g (je w wl d left) m v0).1 ∧ (lob g (je w wl d left) m v0).1 ≤ 4194432 * 8 := fun m hm => by
    have hc := cbr left hle
    rw [← ev0] at hc
    rw [lob_1]
    have hv := mxs_v g (je w wl d left) m v0
    refine ⟨by omega, ?_⟩
    rcases mxs_att g (je w wl d left) m v0 with q | ⟨a, a1, a2, a3, a4⟩
    · rw [q]; omega
    · rw [a4]
      have := gr a (by omega)
      omega
  have loop : ∀ (q s : Nat) (x7 : Option Value), s + q = left + 1 → 1 ≤ s → k 22 [some (.ref (gb G + 103)), some (.int (jI (h : Int))), some (.int (jI (left : Int))), some (.int (jI ((h : Int) * 1024))), some (.int (jI (lob g (je w wl d left) (s - 1) v0).1)), some (.int (jI ((lob g (je w wl d left) (s - 1) v0).2 : Int))), some (.int (jI (s : Int))), x7] [] n I (rst bk dr pt) 0 0 := by
    intro q
    induction q with
    | zero =>
      intro s x7 hs s1
      refine r_iload S rfl dX5_leastOfBest_22 ?_
      refine r_iload_n S rfl dX5_leastOfBest_24 ?_
      refine r_icmp_gt S (tgt := 94) dX5_leastOfBest_25 (by decide) (by omega) (by omega) (fun c25 => ?_) (fun c25 => ?_)
      · refine r_iload S rfl dX5_leastOfBest_94 ?_
        refine r_iret SR dX5_leastOfBest_96 ⟨by decide, by decide⟩ ?_
        exact ⟨by rw [show s - 1 = left by omega], rfl, rfl, rfl⟩
      · exact absurd c25 (by omega)
    | succ q ih =>
      intro s x7 hs s1
      have hsal : s ≤ al := by omega
      have hws := hw s s1 hsal
      have wr := hW.2.2.2 s (hsub s hsal)
      have CJ := c_X5_isJustEnough G n I bk dr pt hn (a := s) (d := d) (by omega) (by rw [hws.1]; omega) (by rw [hws.2.1]; exact hws.2.2) (by omega)
      rw [hws.1, hws.2.1] at CJ
      have CK := c_X5_keyOf G n I bk dr pt hn (h := h) (a := s) h8 (by omega)
      have ek : key1 (fun t => I 105 (t : Int)) h s = key1 w h s := by unfold key1; show 4194304 - I 105 s * 256 + _ = _; rw [hws.1]
      rw [ek] at CK
      obtain ⟨r, er⟩ : ∃ r, r = lob g (je w wl d left) (s - 1) v0 := ⟨_, rfl⟩
      have lrs := lr (s - 1) (by omega)
      rw [← er] at lrs ⊢
      have grs := gr s hsal
      have hs1 : lob g (je w wl d left) s v0 = if je w wl d left s = true ∧ r.1 < g s then (g s, s) else r := by
        obtain ⟨s', es'⟩ : ∃ s', s = s' + 1 := ⟨s - 1, by omega⟩
        rw [er, es']
        rfl
      have nxt : ∀ (v : Int) (b : Nat) (x7 : Option Value), (v, b) = lob g (je w wl d left) s v0 → k 88 [some (.ref (gb G + 103)), some (.int (jI (h : Int))), some (.int (jI (left : Int))), some (.int (jI ((h : Int) * 1024))), some (.int (jI v)), some (.int (jI (b : Int))), some (.int (jI (s : Int))), x7] [] n I (rst bk dr pt) 0 0 := by
        intro v b x7 hvb
        refine r_iinc S dX5_leastOfBest_88 rfl rfl rfl ?_
        refine r_goto S (tgt := 22) dX5_leastOfBest_91 (by decide) ?_
        have Q := ih (s + 1) x7 (by omega) (by omega)
        rw [show s + 1 - 1 = s by omega, ← hvb, show ((s + 1 : Nat) : Int) = (s : Int) + 1 by omega] at Q
        exact Q
      have erow : sub s left → I 107 ((h : Int) * 1024 + left - s) = cB w wl al (h + 1) ds (dif left s) := fun hsl => by
        have ds' := dif_sum hsl
        have := hrow (dif left s) (Nat.le_trans (sub_le (sub_dif left s)) hle)
        rw [show 1024 * (h : Int) + (dif left s : Nat) = (h : Int) * 1024 + left - s by omega] at this
        exact this
      have egs : g s = cB w wl al (h + 1) ds (dif left s) + key1 w h s := by rw [eg, Int.add_comm]
      have no : ¬ (je w wl d left s = true ∧ r.1 < g s) → (r.1, r.2) = lob g (je w wl d left) s v0 := fun q => by rw [hs1, if_neg q]
      refine r_iload S rfl dX5_leastOfBest_22 ?_
      refine r_iload_n S rfl dX5_leastOfBest_24 ?_
      refine r_icmp_gt S (tgt := 94) dX5_leastOfBest_25 (by decide) (by omega) (by omega) (fun c25 => ?_) (fun c25 => ?_)
      · exact absurd c25 (by omega)
      · refine r_iload S rfl dX5_leastOfBest_28 ?_
        refine r_iload_n S rfl dX5_leastOfBest_30 ?_
        refine r_iconst S dX5_leastOfBest_31 ?_
        refine r_ixor S (v := (jI (left : Int) ^^^ jI (-1)).toInt) (not_n _) dX5_leastOfBest_32 ?_
        refine r_iand S (v := (dif s left : Int)) (dif_n s left (not_n _)) dX5_leastOfBest_33 ?_
        refine r_if_ne S (tgt := 88) dX5_leastOfBest_34 (by decide) (by have := sub_le (sub_dif s left); omega) (fun c34 => ?_) (fun c34 => ?_)
        · first | exact nxt _ _ _ (no (fun q => c34 (congrArg Int.ofNat (dif_eq0.mpr (je_iff.mp q.1).2.2)))) | exact nxt _ _ _ (no (fun q => c49 ⟨(je_iff.mp q.1).1, (je_iff.mp q.1).2.1⟩)) | exact nxt _ _ _ (no (fun q => absurd q.2 (Int.not_lt.mpr c77))) | exact nxt _ _ _ (hs1.trans (if_pos ⟨je_iff.mpr ⟨c49.1, c49.2, hsl⟩, c77⟩)).symm
        · refine r_aload_n S rfl dX5_leastOfBest_37 ?_
          refine r_iload S rfl dX5_leastOfBest_38 ?_
          refine r_aload_n S rfl dX5_leastOfBest_40 ?_
          refine r_getR S (o' := 104) fk_X5_11 dX5_leastOfBest_41 rfl rfl (Nat.lt_of_lt_of_le (by decide) hn) rfl ?_
          refine r_iload_n S rfl dX5_leastOfBest_44 ?_
          refine r_iald S (v := I 104 (h:Int)) dX5_leastOfBest_45 rfl rfl (Nat.lt_of_lt_of_le (by decide) hn) (by omega) (by omega) rfl ?_
          rw [ed]
          refine r_callV S lk_X5_73 mk_X5_isJustEnough CJ rfl (Nat.lt_of_lt_of_le (by decide) hn) rfl rfl rfl (Nat.le_of_ble_eq_true rfl) ⟨by decide, by decide⟩ rfl ⟨by decide, by decide⟩ dX5_leastOfBest_46 ?_
          rintro _ _ _ _ ⟨rfl, rfl, rfl, rfl⟩
          refine r_ifb_eq S (tgt := 88) dX5_leastOfBest_49 (by decide)  (fun c49 => ?_) (fun c49 => ?_)
          · first | exact nxt _ _ _ (no (fun q => c34 (congrArg Int.ofNat (dif_eq0.mpr (je_iff.mp q.1).2.2)))) | exact nxt _ _ _ (no (fun q => c49 ⟨(je_iff.mp q.1).1, (je_iff.mp q.1).2.1⟩)) | exact nxt _ _ _ (no (fun q => absurd q.2 (Int.not_lt.mpr c77))) | exact nxt _ _ _ (hs1.trans (if_pos ⟨je_iff.mpr ⟨c49.1, c49.2, hsl⟩, c77⟩)).symm
          · have hsl : sub s left := dif_eq0.mp (by omega)
            refine r_aload_n S rfl dX5_leastOfBest_52 ?_
            refine r_getR S (o' := 107) fk_X5_21 dX5_leastOfBest_53 rfl rfl (Nat.lt_of_lt_of_le (by decide) hn) rfl ?_
            refine r_iload_n S rfl dX5_leastOfBest_56 ?_
            refine r_iload_n S rfl dX5_leastOfBest_57 ?_
            refine r_iadd S dX5_leastOfBest_58 ?_
            refine r_iload S rfl dX5_leastOfBest_59 ?_
            refine r_isub S dX5_leastOfBest_61 ?_
            refine r_iald S (v := I 107 ((((h:Int) * 1024) + (left:Int)) - (s:Int))) dX5_leastOfBest_62 rfl rfl (Nat.lt_of_lt_of_le (by decide) hn) (by have := sub_le hsl; omega) (by have := sub_le hsl; omega) rfl ?_
            rw [erow hsl]
            refine r_aload_n S rfl dX5_leastOfBest_63 ?_
            refine r_iload_n S rfl dX5_leastOfBest_64 ?_
            refine r_iload S rfl dX5_leastOfBest_65 ?_
            refine r_callV S lk_X5_81 mk_X5_keyOf CK rfl (Nat.lt_of_lt_of_le (by decide) hn) rfl rfl rfl (Nat.le_of_ble_eq_true rfl) ⟨by decide, by decide⟩ rfl ⟨by decide, by decide⟩ dX5_leastOfBest_67 ?_
            rintro _ _ _ _ ⟨rfl, rfl, rfl, rfl⟩
            refine r_iadd S dX5_leastOfBest_70 ?_
            rw [← egs]
            refine r_istore S dX5_leastOfBest_71 rfl rfl ?_
            refine r_iload S rfl dX5_leastOfBest_73 ?_
            refine r_iload S rfl dX5_leastOfBest_75 ?_
            refine r_icmp_le S (tgt := 88) dX5_leastOfBest_77 (by decide) (by omega) (by omega) (fun c77 => ?_) (fun c77 => ?_)
            · first | exact nxt _ _ _ (no (fun q => c34 (congrArg Int.ofNat (dif_eq0.mpr (je_iff.mp q.1).2.2)))) | exact nxt _ _ _ (no (fun q => c49 ⟨(je_iff.mp q.1).1, (je_iff.mp q.1).2.1⟩)) | exact nxt _ _ _ (no (fun q => absurd q.2 (Int.not_lt.mpr c77))) | exact nxt _ _ _ (hs1.trans (if_pos ⟨je_iff.mpr ⟨c49.1, c49.2, hsl⟩, c77⟩)).symm
            · refine r_iload S rfl dX5_leastOfBest_80 ?_
              refine r_istore S dX5_leastOfBest_82 rfl rfl ?_
              refine r_iload S rfl dX5_leastOfBest_84 ?_
              refine r_istore S dX5_leastOfBest_86 rfl rfl ?_
              first | exact nxt _ _ _ (no (fun q => c34 (congrArg Int.ofNat (dif_eq0.mpr (je_iff.mp q.1).2.2)))) | exact nxt _ _ _ (no (fun q => c49 ⟨(je_iff.mp q.1).1, (je_iff.mp q.1).2.1⟩)) | exact nxt _ _ _ (no (fun q => absurd q.2 (Int.not_lt.mpr c77))) | exact nxt _ _ _ (hs1.trans (if_pos ⟨je_iff.mpr ⟨c49.1, c49.2, hsl⟩, c77⟩)).symm
  refine r_iload_n S rfl dX5_leastOfBest_0 ?_
  refine r_sipush S (by decide +kernel) dX5_leastOfBest_1 ?_
  refine r_imul S dX5_leastOfBest_4 ?_
  refine r_istore_n S dX5_leastOfBest_5 rfl rfl ?_
  refine r_aload_n S rfl dX5_leastOfBest_6 ?_
  refine r_getR S (o' := 107) fk_X5_21 dX5_leastOfBest_7 rfl rfl (Nat.lt_of_lt_of_le (by decide) hn) rfl ?_
  refine r_iload_n S rfl dX5_leastOfBest_10 ?_
  refine r_iload_n S rfl dX5_leastOfBest_11 ?_
  refine r_iadd S dX5_leastOfBest_12 ?_
  refine r_iald S (v := I 107 (((h:Int) * 1024) + (left:Int))) dX5_leastOfBest_13 rfl rfl (Nat.lt_of_lt_of_le (by decide) hn) (by omega) (by omega) rfl ?_
  rw [show (h : Int) * 1024 + left = 1024 * (h : Int) + left by omega, hrow left hle, ← ev0]
  refine r_istore S dX5_leastOfBest_14 rfl rfl ?_
  refine r_iconst S dX5_leastOfBest_16 ?_
  refine r_istore S dX5_leastOfBest_17 rfl rfl ?_
  refine r_iconst S dX5_leastOfBest_19 ?_
  refine r_istore S dX5_leastOfBest_20 rfl rfl ?_
  exact loop left 1 none (by omega) (Nat.le_refl _)
end
