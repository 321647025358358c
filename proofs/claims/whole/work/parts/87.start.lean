/-! ===== the law from its entry ===== -/
theorem AOI.spec {U : State} (h : AOI U) : ∃ comp c k, U.vm.findClass (FieldType.array .int).toString = some comp ∧ U.vm.classes[c]? = some k ∧ k.kind = .array comp (.array .int) ∧ U.vm.findClass ("[" ++ (FieldType.array .int).toString) = some c := by
  simp only [AOI, Cond.before, Cond.holds, Cond.value, beq_iff_eq] at h
  cases hc : U.vm.findClass (FieldType.array .int).toString with
  | none => simp [hc] at h
  | some comp =>
    simp only [hc, Option.bind_some, Option.bind_eq_some_iff, Option.map_eq_some_iff] at h
    obtain ⟨c, hi, k, hk, hb⟩ := h
    obtain ⟨hlt, hp, -⟩ := Array.findIdx?_eq_some_iff_getElem.mp hi
    have hkk : U.vm.classes[c] = k := (Array.getElem?_eq_some_iff.mp hk).2
    rw [hkk] at hp
    cases hkind : k.kind with
    | array component ty =>
      rw [hkind] at hb hp
      simp at hb hp
      refine ⟨comp, c, k, rfl, hk, ?_, hb.2⟩
      rw [hkind, hp, hb.1]
    | _ => rw [hkind] at hp; simp at hp
theorem arr_ok {s : State} {cA comp : ClassId} {kA : Class} {ty : FieldType} (h2 : s.vm.classes[cA]? = some kA) (h3 : kA.kind = .array comp ty) : ArrOfT s cA ty := fun n z => ⟨fun k h => (by cases h), kA, h2, comp, h3⟩
theorem filI_iv0 (a b : Nat) : filI a b iv0 = iv0 := by
  funext o i
  unfold filI
  split <;> rfl
theorem fil_rst (a b : Nat) : fil a b (rst 60 66 none) = rst 60 66 none := by
  funext o i
  unfold fil
  split <;> rfl
theorem iv0_0 {o : Nat} (h3 : o ≠ 3) (h75 : o ≠ 75) (h15 : o ≠ 15) (h74 : o ≠ 74) (h16 : o ≠ 16) (h55 : o ≠ 55) (h72 : o ≠ 72) (i : Int) : iv0 o i = 0 := by
  unfold iv0
  rw [if_neg (by omega), if_neg (by omega), if_neg (by omega)]
theorem iv0_f {o : Nat} (h3 : o ≠ 3) (h75 : o ≠ 75) (h15 : o ≠ 15) (h74 : o ≠ 74) (h16 : o ≠ 16) (h55 : o ≠ 55) (h72 : o ≠ 72) : iv0 o = fun _ => 0 := funext (iv0_0 h3 h75 h15 h74 h16 h55 h72)
/-- at first both are held together -/
theorem Rel_0 : Rel iv0 [] 60 66 none 103 := by
  have z : ∀ o, o ≠ 3 → o ≠ 75 → o ≠ 15 → o ≠ 74 → o ≠ 16 → o ≠ 55 → o ≠ 72 → iv0 o = fun _ => 0 := fun o a b c d e f g => iv0_f a b c d e f g
  have z72 : ∀ j : Int, j ≠ 37 → iv0 72 j = 0 := fun j hj => by unfold iv0; rw [if_neg (by omega), if_neg (by omega), if_neg (by omega)]
  have z16 : ∀ j : Int, j ≠ 7 → iv0 16 j = 0 := fun j hj => by unfold iv0; rw [if_neg (by omega), if_neg (by omega), if_neg (by omega)]
  have zz : ∀ o, o ≠ 3 → o ≠ 75 → o ≠ 15 → o ≠ 74 → o ≠ 16 → o ≠ 55 → o ≠ 72 → ∀ j : Int, iv0 o j = 0 := fun o a b c d e f g j => iv0_0 a b c d e f g j
  have q16 : iv0 16 7 = -1 := rfl
  refine ⟨?_, ?_, ?_, ?_, ?_, ?_, ?_, ?_, ?_, ?_⟩
  · exact ⟨rfl, by decide, by decide⟩
  · refine ⟨?_, rfl, fun j p q => ?_, fun j p q => ?_⟩
    · rw [z 2 (by decide) (by decide) (by decide) (by decide) (by decide) (by decide) (by decide), z 73 (by decide) (by decide) (by decide) (by decide) (by decide) (by decide) (by decide)]
    · rw [zz 73 (by decide) (by decide) (by decide) (by decide) (by decide) (by decide) (by decide)]; decide
    · have e : iv0 75 j = 50 := by unfold iv0; rw [if_pos (by omega), if_pos ⟨p, q⟩]
      rw [e]; decide
  · refine ⟨rfl, fun j p q => ?_⟩
    have e : iv0 74 j = 1 := by unfold iv0; rw [if_neg (by omega), if_pos (by omega), if_pos ⟨p, q⟩]
    rw [e]; decide
  · have f : ∀ o, 5 ≤ o → o ≤ 11 → iv0 o = fun _ => 0 := fun o a b => z o (by omega) (by omega) (by omega) (by omega) (by omega) (by omega) (by omega)
    have g : ∀ o, 76 ≤ o → o ≤ 103 → iv0 o = fun _ => 0 := fun o a b => z o (by omega) (by omega) (by omega) (by omega) (by omega) (by omega) (by omega)
    rw [f 5 (by decide) (by decide), f 6 (by decide) (by decide), f 7 (by decide) (by decide), f 8 (by decide) (by decide), f 9 (by decide) (by decide), f 10 (by decide) (by decide), f 11 (by decide) (by decide), g 76 (by decide) (by decide), g 77 (by decide) (by decide), g 78 (by decide) (by decide), g 79 (by decide) (by decide), g 80 (by decide) (by decide), g 85 (by decide) (by decide)]
    refine ⟨rfl, by decide, ⟨rfl, rfl, rfl, rfl, rfl⟩, fun j p q => ⟨(show (0 : Int) ≤ 0 ∧ (0 : Int) ≤ 3 by decide), (show (0 : Int) ≤ 0 ∧ (0 : Int) ≤ 20 by decide), (show (0 : Int) ≤ 0 ∧ (0 : Int) ≤ 99 by decide), (show (0 : Int) ≤ 0 ∧ (0 : Int) ≤ 99 by decide), Or.inl rfl, (show (-1 : Int) ≤ 0 ∧ (0 : Int) ≤ 35 by decide)⟩, fun h p q => ?_, fun h p => rfl, fun h p q => ?_⟩
    · have q' : h < 0 := q
      omega
    · have q' : h < 0 := q
      omega
  · have g : ∀ o, 76 ≤ o → iv0 o = fun _ => 0 := fun o a => z o (by omega) (by omega) (by omega) (by omega) (by omega) (by omega) (by omega)
    have y : ∀ o, 17 ≤ o → o ≤ 50 → iv0 o = fun _ => 0 := fun o a b => z o (by omega) (by omega) (by omega) (by omega) (by omega) (by omega) (by omega)
    refine ⟨⟨0, by decide, rfl, ⟨⟨by decide, rfl⟩, fun s t p => absurd p (by omega), fun i j p q r => ?_, fun i j _ _ _ _ => ?_, fun s t p q r u => ?_, fun s t => nrM_sym _ _ s t⟩, fun H q => ?_⟩, ⟨?_, ?_⟩, fun j _ _ => ?_, fun i j _ _ _ _ => ?_, ⟨fun t _ _ => ?_, fun i _ _ => ?_⟩, ?_, ?_⟩
    · show iv0 (29 + i) j = iv0 81 (8 * i + j)
      rw [y (29 + i) (by omega) (by omega), g 81 (by decide)]
    · show 0 ≤ iv0 81 (8 * i + j) ∧ iv0 81 (8 * i + j) ≤ 9
      rw [g 81 (by decide)]; show (0 : Int) ≤ 0 ∧ (0 : Int) ≤ 9; decide
    · refine nrM_rg (fun j _ _ => ?_) (fun j _ _ => ?_) p q r u
      · rw [g 82 (by decide)]; show (0 : Int) ≤ 0 ∧ (0 : Int) ≤ 20; decide
      · rw [g 83 (by decide)]; show (0 : Int) ≤ 0 ∧ (0 : Int) ≤ 20; decide
    · rw [q16] at q
      omega
    · rw [y 17 (by decide) (by decide), g 82 (by decide)]
    · rw [y 18 (by decide) (by decide), g 83 (by decide)]
    · rw [g 82 (by decide), g 83 (by decide)]; show ((0 : Int) ≤ 0 ∧ (0 : Int) ≤ 20) ∧ (0 : Int) ≤ 0 ∧ (0 : Int) ≤ 20; decide
    · rw [g 81 (by decide)]
    · rw [y 39 (by decide) (by decide)]
    · rw [y 41 (by decide) (by decide)]
    · rw [q16]; decide
    · rw [g 97 (by decide)]
  · refine ⟨rfl, by decide, ?_, fun i hi => ?_⟩
    · rw [z 52 (by decide) (by decide) (by decide) (by decide) (by decide) (by decide) (by decide), z 84 (by decide) (by decide) (by decide) (by decide) (by decide) (by decide) (by decide)]
    · have hi' : (i : Int) < 0 := hi
      omega
  · refine ⟨rfl, by decide, ?_, fun j => ?_⟩
    · rw [z 54 (by decide) (by decide) (by decide) (by decide) (by decide) (by decide) (by decide), z 93 (by decide) (by decide) (by decide) (by decide) (by decide) (by decide) (by decide)]
    · rw [zz 93 (by decide) (by decide) (by decide) (by decide) (by decide) (by decide) (by decide)]; decide
  · exact ⟨rfl, rfl⟩
  · refine ⟨Or.inl ⟨rfl, rfl⟩, ⟨rfl, by decide, trivial⟩, ⟨rfl, by decide, fun j _ _ => ?_, ?_⟩, by unfold vOk; decide⟩
    · rw [zz 88 (by decide) (by decide) (by decide) (by decide) (by decide) (by decide) (by decide)]; decide
    · first | trivial | exact ⟨rfl, trivial⟩ | exact rfl
  · exact Or.inl ⟨rfl, rfl, rfl⟩
theorem lw_ls1 : Cond.laysStatic "java/lang/String" "COMPACT_STRINGS" "Z" ∈ lw_tbl := by decide +kernel
theorem lw_ls2 : Cond.laysStatic "jdk/internal/util/Preconditions" "SIOOBE_FORMATTER" "Ljava/util/function/BiFunction;" ∈ lw_tbl := by decide +kernel
theorem lw_in1 : Cond.initialized "java/lang/String" ∈ lw_tbl := by decide +kernel
theorem lw_in2 : Cond.initialized "jdk/internal/util/Preconditions" ∈ lw_tbl := by decide +kernel
theorem lw_aoi : Cond.arrayOver (.array .int) ∈ lw_tbl := by decide +kernel
theorem lw_srf : ∀ i, i < 7 → Cond.stringRef "NewValley$Code" (sK.getD i 0) (sT.getD i "") ∈ lw_tbl := by decide +kernel
section
variable {G : GE} {nm : String} {k : Kt} {b L : Nat} {xs : Nat → Int32}
theorem lw_run (SL : SemL G nm b L xs k) (hL : L ≤ 3072) : k 0 [some (.ref b), none, none, none] [] 0 iv0 (rst 60 66 none) 0 0 := by
  have S := SL.sem
  have C1 := i_X11_0 G iv0 (rst 60 66 none)
  have C2 := i_X12_72 G iv0 (rst 60 66 none)
  rw [filI_iv0, fil_rst] at C1 C2
  refine r_new S nk_L_7 in_X11 ii_X11 (T := TX11) rfl ok_X11 (by decide) dL_law_0 rfl ⟨Nat.le_of_ble_eq_true rfl, Nat.le_of_ble_eq_true rfl⟩ ?_
  refine r_dup S rfl dL_law_3 ?_
  refine r_callI S lk_L_9 mk_X11_init C1 rfl rfl (Nat.le_of_ble_eq_true rfl) ⟨Nat.le_of_ble_eq_true rfl, Nat.le_of_ble_eq_true rfl⟩ rfl ⟨Nat.le_of_ble_eq_true rfl, Nat.le_of_ble_eq_true rfl⟩ dL_law_4 ?_
  rintro _ _ _ _ ⟨rfl, rfl, rfl, rfl⟩
  refine r_astore_n S dL_law_7 rfl rfl ?_
  refine r_new S nk_L_10 in_X12 ii_X12 (T := TX12) rfl ok_X12 (by decide) dL_law_8 rfl ⟨Nat.le_of_ble_eq_true rfl, Nat.le_of_ble_eq_true rfl⟩ ?_
  refine r_dup S rfl dL_law_11 ?_
  refine r_callI S lk_L_12 mk_X12_init C2 rfl rfl (Nat.le_of_ble_eq_true rfl) ⟨Nat.le_of_ble_eq_true rfl, Nat.le_of_ble_eq_true rfl⟩ rfl ⟨Nat.le_of_ble_eq_true rfl, Nat.le_of_ble_eq_true rfl⟩ dL_law_12 ?_
  rintro _ _ _ _ ⟨rfl, rfl, rfl, rfl⟩
  refine r_astore_n S dL_law_15 rfl rfl ?_
  refine r_iconst S dL_law_16 ?_
  refine r_istore_n S dL_law_17 rfl rfl ?_
  have Q := lw_loop SL hL 513 0 103 iv0 (rst 60 66 none) 103 16199 (by omega) ⟨[], 60, 66, none, rfl, Rel_0⟩ (by decide) (by decide)
  rw [show 6 * ((0 : Nat) : Int) = 0 from rfl] at Q
  exact Q
end
theorem cls_ok {s : State} {A : Array Value} (hts : ∀ w ∈ lw_tbl, w.before A s = true) : ∀ (k : Nat) (q : vw_C), vwCl[k]? = some q → ∃ (cC : ClassId) (iS : Nat → Nat), u_Kn s q.1 q.2.1 q.2.2 cC iS := by
  intro k q hq
  match k, hq with
  | 0, hq => cases hq; exact u_known hts ok_X0.1 (hts _ in_X0)
  | 1, hq => cases hq; exact u_known hts ok_X2.1 (hts _ in_X2)
  | 2, hq => cases hq; exact u_known hts ok_X3.1 (hts _ in_X3)
  | 3, hq => cases hq; exact u_known hts ok_X4.1 (hts _ in_X4)
  | 4, hq => cases hq; exact u_known hts ok_X5.1 (hts _ in_X5)
  | 5, hq => cases hq; exact u_known hts ok_X6.1 (hts _ in_X6)
  | 6, hq => cases hq; exact u_known hts ok_X7.1 (hts _ in_X7)
  | 7, hq => cases hq; exact u_known hts ok_X8.1 (hts _ in_X8)
  | 8, hq => cases hq; exact u_known hts ok_X9.1 (hts _ in_X9)
  | 9, hq => cases hq; exact u_known hts ok_X10.1 (hts _ in_X10)
  | 10, hq => cases hq; exact u_known hts ok_X11.1 (hts _ in_X11)
  | 11, hq => cases hq; exact u_known hts ok_X12.1 (hts _ in_X12)
  | k + 12, hq => simp [vwCl] at hq
theorem whole_start {p : Program} {e : Env} {s : State} {m : MethodId} {below : List Frame} {meth : Method} {c : Code} (l : Launch) {b L : Nat} {xs : Nat → Int32} (hL : L ≤ 3072) (C0 : lw_At p s m meth c b L xs) : W p l e room_1 s m #[Value.ref b] below meth c s.heap [] 0 0 (lw_Z below #[Value.ref b] s) (entryFrame m ([Value.ref b] : List Value).toArray 4) := by
  obtain ⟨hx, hb, hr, hml, hown, hts, hX, hbl, hlocks, hgv⟩ := id C0
  have hA : ∀ a : Nat, a < s.heap.size → ¬ (fun q : Nat => s.heap.size ≤ q) a := fun a ha h => Nat.not_le.mpr ha h
  have hs := flat_of_before _ hgv
  obtain ⟨c0, -, -⟩ := u_known hts ok_X0.1 (hts _ in_X0)
  have hch : ∀ k : Nat, ∃ cd : ClassId × (Nat → Nat), ∀ q : vw_C, vwCl[k]? = some q → u_Kn s q.1 q.2.1 q.2.2 cd.1 cd.2 := by
    intro k
    cases hk : vwCl[k]? with
    | none => exact ⟨(c0, fun _ => 0), fun q hq => by cases hq⟩
    | some q =>
      obtain ⟨cC, iS, h⟩ := cls_ok hts k q hk
      exact ⟨(cC, iS), fun q' hq => by cases hq; exact h⟩
  obtain ⟨cd, hcd⟩ := Classical.axiomOfChoice hch
  obtain ⟨cI, kI, pI, i1, i2, i3⟩ := Cond.arrayClass_spec (hts _ ac_int)
  obtain ⟨cZ, kZ, pZ, z1, z2, z3⟩ := Cond.arrayClass_spec (hts _ ac_boolean)
  have hao : AOI s := hts _ lw_aoi
  obtain ⟨comp, cQ, kQ, q1, q2, q3, q4⟩ := hao.spec
  obtain ⟨adK, adV, hvS, hev⟩ := vk_Sof (args := #[Value.ref b]) (s := s) (N := 7) (tm := fun i => Term.string "NewValley$Code" (sK.getD i 0)) (len := sL) (byt := sB) (A := fun q : Nat => s.heap.size ≤ q) (by decide) (fun i hi => hs _ (by revert i; decide +kernel)) (fun i hi => hs _ (by revert i; decide +kernel)) (fun i hi => hs _ (by revert i; decide +kernel)) (fun i hi => hs _ (by revert i; decide +kernel)) (fun i hi j hj => hs _ (by revert j; revert i; decide +kernel)) (fun i j hi hj hij => by
      rcases Nat.lt_or_gt_of_ne hij with h | h
      · exact Or.inl (hs _ (by clear hij hi; revert i; revert j; decide +kernel))
      · exact Or.inr (hs _ (by clear hij hj; revert j; revert i; decide +kernel))) hA
  obtain ⟨G, eG⟩ : ∃ G : GE, G = (l, s.heap.size, (fun i => if i = 0 then cI else if i = 1 then cZ else cQ), (fun k => (cd k).1, fun k => (cd k).2), adK, adV) := ⟨_, rfl⟩
  have hE : Ev G s := by
    rw [eG]
    refine ⟨⟨fun k q hk => hcd k q hk, fun k q hk => ?_⟩, fun w hw => ?_, hao, fun i hi => vk_R.of (hts _ (lw_srf i hi)) (hev i hi), hvS, ?_, ?_⟩
    · match k, hk with
      | 0, hk => cases hk; exact ⟨arr_ok i2 i3, i1⟩
      | 1, hk => cases hk; exact ⟨arr_ok z2 z3, z1⟩
      | 2, hk => cases hk; exact ⟨arr_ok q2 q3, q4⟩
      | k + 3, hk => simp [Ty] at hk
    · have h1 := (List.mem_filter.mp hw).1
      have h2 := (List.mem_filter.mp hw).2
      have h3 := hts w h1
      cases w <;> first | (cases h2; done) | exact va_Nw.of rfl h3
    · exact va_Zof (hts _ lw_ls1) (hts _ lw_in1) (va_eqt (hs _ (by decide +kernel))) hA
    · exact va_Zqof (hts _ lw_ls2) (hts _ lw_in2) (hs _ (by decide +kernel)) hA
  have eb : gb G = s.heap.size := by rw [eG]
  have el : gl G = l := by rw [eG]
  have SL : SemL G meth.name b L xs (KK G p e room_1 s m #[Value.ref b] below meth c (lw_Z below #[Value.ref b] s)) := ⟨p, e, s, m, below, meth, c, rfl, ⟨hx, hb, hml, hown, rfl, fun w hw => hts w (List.mem_filter.mp hw).1, hE, by rw [eb]; exact Nat.le_refl _⟩, hX, hbl, eb, hr, hlocks⟩
  have hl := lv_entry ([.ref b]) (n := 4) (Nat.le_of_ble_eq_true rfl)
  rw [lg_entry_eq]
  generalize (lg_sl ([.ref b]) ++ List.replicate (4 - (lg_sl ([.ref b])).length) Slot.unset).toArray = ls at hl ⊢
  have K := lw_run SL hL s.heap [] ls ⟨fun k q hk => by simp [wst] at hk, by rw [eb]; rfl⟩ va_S.rf (by unfold Lh; exact hl)
  rw [el] at K
  exact K
