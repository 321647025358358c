/-! ===== the constructors: WAYS, the reader, the whole ===== -/
section
variable {G : GE} {own nm : String} {cc : ByteArray} {nL : Nat} {R : Room} {k : Kt} {pc : Nat} {L : List (Option Value)} {st : List Value} {n : Nat} {I : Iv} {ρ : Rv} {x z : Nat}
theorem r_aloadN (S : Sem G own nm cc nL R k) {j : Fin 4} (hv : L[(j : Nat)]? = some (some .null)) (hd : decode cc pc = .ok (.aload_n j, 1)) (kk : k (pc + 1) L (.null :: st) n I ρ x z) : k pc L (st) n I ρ x z := by
  obtain ⟨p, e, s, m, args, below, meth, c, Q, rfl, hx, hb, hml, hown, hnm, hts, hE, hbs⟩ := S
  intro H locs ls hH hS hl
  exact lv_aload_nN hx hb hd rfl (hl.at hv) (kk H locs ls hH hS hl)
theorem r_astoreN (S : Sem G own nm cc nL R k) {j : Fin 4} (hd : decode cc pc = .ok (.astore_n j, 1)) (hi : Nat.blt (j : Nat) L.length = true) (hc : c1 L (j : Nat) = true) (kk : k (pc + 1) (L.set (j : Nat) (some .null)) st n I ρ x z) : k pc L (.null :: st) n I ρ x z := by
  obtain ⟨p, e, s, m, args, below, meth, c, Q, rfl, hx, hb, hml, hown, hnm, hts, hE, hbs⟩ := S
  intro H locs ls hH hS hl T hT X
  obtain ⟨ls', e', h'⟩ := lv_store1 (v := .null) hl (Nat.le_of_ble_eq_true hi) rfl
  obtain ⟨t, a, b⟩ := kk H locs ls' hH hS (Lh.set rfl h' hc) T hT X
  refine ⟨t, ?_, b⟩
  jvm_step X.here [X.here.top, ↓top_set X.here.top, hx, hb, hd, e', Value.isRef]
  exact a
end
section
variable (G : GE) (I : Iv) (ρ : Rv)
theorem i_X10_16 : Ct G yX10_init cX10_init 1 none 1 34 778 [.ref (gb G + 16)] 17 (zr I 16) (zrR ρ 16) (PV 51 (filI 16 51 I) (fil 16 51 ρ)) := by
  refine Ct.of [some (.ref (gb G + 16))] (by decide) rfl rfl rfl ?_
  intro k SR
  have S : Sem G RX10 "<init>" cX10_init 1 (rmD 1 34 778) k := SR.sem
  refine r_aload_n S rfl dX10_init_0 ?_
  refine r_objI S lk_X10_3 ⟨rfl, rfl⟩ rfl dX10_init_1 oi_1 oi_2 ?_
  refine r_aload_n S rfl dX10_init_4 ?_
  refine r_iconst S dX10_init_5 ?_
  refine r_putI S fk_X10_9 dX10_init_6 rfl rfl (by decide) (Or.inr ⟨rfl, rfl⟩) (Or.inl rfl) ?_
  refine r_aload_n S rfl dX10_init_9 ?_
  refine r_bipush S (by decide +kernel) dX10_init_10 ?_
  refine r_newI S (N := 8) rfl dX10_init_12 rfl rfl ⟨Nat.le_of_ble_eq_true rfl, Nat.le_of_ble_eq_true rfl⟩ ?_
  refine r_putR S fk_X10_15 dX10_init_14 rfl rfl (by decide) (Or.inr ⟨rfl, rfl⟩) ?_
  refine r_aload_n S rfl dX10_init_17 ?_
  refine r_bipush S (by decide +kernel) dX10_init_18 ?_
  refine r_newI S (N := 8) rfl dX10_init_20 rfl rfl ⟨Nat.le_of_ble_eq_true rfl, Nat.le_of_ble_eq_true rfl⟩ ?_
  refine r_putR S fk_X10_19 dX10_init_22 rfl rfl (by decide) (Or.inr ⟨rfl, rfl⟩) ?_
  refine r_aload_n S rfl dX10_init_25 ?_
  refine r_bipush S (by decide +kernel) dX10_init_26 ?_
  refine r_bipush S (by decide +kernel) dX10_init_28 ?_
  refine r_multi S (N := 8) (M := 8) nk_X10_22 dX10_init_30 rfl (by decide) (by decide) (by decide) (by decide) ⟨Nat.le_of_ble_eq_true rfl, Nat.le_of_ble_eq_true rfl⟩ ?_
  refine r_putR S fk_X10_24 dX10_init_34 rfl rfl (by decide) (Or.inr ⟨rfl, rfl⟩) ?_
  refine r_aload_n S rfl dX10_init_37 ?_
  refine r_bipush S (by decide +kernel) dX10_init_38 ?_
  refine r_bipush S (by decide +kernel) dX10_init_40 ?_
  refine r_multi S (N := 8) (M := 8) nk_X10_22 dX10_init_42 rfl (by decide) (by decide) (by decide) (by decide) ⟨Nat.le_of_ble_eq_true rfl, Nat.le_of_ble_eq_true rfl⟩ ?_
  refine r_putR S fk_X10_27 dX10_init_46 rfl rfl (by decide) (Or.inr ⟨rfl, rfl⟩) ?_
  refine r_aload_n S rfl dX10_init_49 ?_
  refine r_iconst S dX10_init_50 ?_
  refine r_putI S fk_X10_30 dX10_init_51 rfl rfl (by decide) (Or.inr ⟨rfl, rfl⟩) (Or.inl rfl) ?_
  refine r_aload_n S rfl dX10_init_54 ?_
  refine r_bipush S (by decide +kernel) dX10_init_55 ?_
  refine r_newI S (N := 8) rfl dX10_init_57 rfl rfl ⟨Nat.le_of_ble_eq_true rfl, Nat.le_of_ble_eq_true rfl⟩ ?_
  refine r_putR S fk_X10_33 dX10_init_59 rfl rfl (by decide) (Or.inr ⟨rfl, rfl⟩) ?_
  refine r_aload_n S rfl dX10_init_62 ?_
  refine r_iconst S dX10_init_63 ?_
  refine r_putI S fk_X10_36 dX10_init_64 rfl rfl (by decide) (Or.inr ⟨rfl, rfl⟩) (Or.inl rfl) ?_
  refine r_aload_n S rfl dX10_init_67 ?_
  refine r_iconst S dX10_init_68 ?_
  refine r_putI S fk_X10_39 dX10_init_69 rfl rfl (by decide) (Or.inr ⟨rfl, rfl⟩) (Or.inl rfl) ?_
  refine r_aload_n S rfl dX10_init_72 ?_
  refine r_bipush S (by decide +kernel) dX10_init_73 ?_
  refine r_newI S (N := 8) rfl dX10_init_75 rfl rfl ⟨Nat.le_of_ble_eq_true rfl, Nat.le_of_ble_eq_true rfl⟩ ?_
  refine r_putR S fk_X10_42 dX10_init_77 rfl rfl (by decide) (Or.inr ⟨rfl, rfl⟩) ?_
  refine r_aload_n S rfl dX10_init_80 ?_
  refine r_bipush S (by decide +kernel) dX10_init_81 ?_
  refine r_newZ S (N := 8) rfl dX10_init_83 rfl rfl ⟨Nat.le_of_ble_eq_true rfl, Nat.le_of_ble_eq_true rfl⟩ ?_
  refine r_putR S fk_X10_45 dX10_init_85 rfl rfl (by decide) (Or.inr ⟨rfl, rfl⟩) ?_
  refine r_aload_n S rfl dX10_init_88 ?_
  refine r_bipush S (by decide +kernel) dX10_init_89 ?_
  refine r_bipush S (by decide +kernel) dX10_init_91 ?_
  refine r_multi S (N := 9) (M := 64) nk_X10_22 dX10_init_93 rfl (by decide) (by decide) (by decide) (by decide) ⟨Nat.le_of_ble_eq_true rfl, Nat.le_of_ble_eq_true rfl⟩ ?_
  refine r_putR S fk_X10_49 dX10_init_97 rfl rfl (by decide) (Or.inr ⟨rfl, rfl⟩) ?_
  refine r_aload_n S rfl dX10_init_100 ?_
  refine r_bipush S (by decide +kernel) dX10_init_101 ?_
  refine r_newI S (N := 9) rfl dX10_init_103 rfl rfl ⟨Nat.le_of_ble_eq_true rfl, Nat.le_of_ble_eq_true rfl⟩ ?_
  refine r_putR S fk_X10_52 dX10_init_105 rfl rfl (by decide) (Or.inr ⟨rfl, rfl⟩) ?_
  refine k_conv S (I' := filI 16 51 I) (ρ' := fil 16 51 ρ) ?_ ?_
  · intro o ho
    rcases (by omega : o < 16 ∨ o = 16 ∨ o = 17 ∨ o = 18 ∨ o = 19 ∨ o = 20 ∨ o = 21 ∨ o = 22 ∨ o = 23 ∨ o = 24 ∨ o = 25 ∨ o = 26 ∨ o = 27 ∨ o = 28 ∨ o = 29 ∨ o = 30 ∨ o = 31 ∨ o = 32 ∨ o = 33 ∨ o = 34 ∨ o = 35 ∨ o = 36 ∨ o = 37 ∨ o = 38 ∨ o = 39 ∨ o = 40 ∨ o = 41 ∨ o = 42 ∨ o = 43 ∨ o = 44 ∨ o = 45 ∨ o = 46 ∨ o = 47 ∨ o = 48 ∨ o = 49 ∨ o = 50) with h | rfl | rfl | rfl | rfl | rfl | rfl | rfl | rfl | rfl | rfl | rfl | rfl | rfl | rfl | rfl | rfl | rfl | rfl | rfl | rfl | rfl | rfl | rfl | rfl | rfl | rfl | rfl | rfl | rfl | rfl | rfl | rfl | rfl | rfl | rfl
    · exact cel_congr (by funext j; simp only [up, zr, filI, zrN]; repeat rw [if_neg (by omega)]) (by funext j; simp only [upR, zrR, fil, mulR]; repeat rw [if_neg (by omega)])
    · exact rfl
    · exact rfl
    · exact rfl
    · exact rfl
    · exact rfl
    · exact rfl
    · exact rfl
    · exact rfl
    · exact rfl
    · exact rfl
    · exact rfl
    · exact rfl
    · exact rfl
    · exact rfl
    · exact rfl
    · exact rfl
    · exact rfl
    · exact rfl
    · exact rfl
    · exact rfl
    · exact rfl
    · exact rfl
    · exact rfl
    · exact rfl
    · exact rfl
    · exact rfl
    · exact rfl
    · exact rfl
    · exact rfl
    · exact rfl
    · exact rfl
    · exact rfl
    · exact rfl
    · exact rfl
    · exact rfl
  refine r_vret SR dX10_init_108 ⟨Nat.le_of_ble_eq_true rfl, Nat.le_of_ble_eq_true rfl⟩ ?_
  exact ⟨rfl, rfl, rfl, rfl⟩
theorem i_X7_55 : Ct G yX7_init cX7_init 1 none 2 4 832 [.ref (gb G + 55)] 56 (zr I 55) (zrR ρ 55) (PV 60 (filI 55 60 I) (fil 55 60 ρ)) := by
  refine Ct.of [some (.ref (gb G + 55))] (by decide) rfl rfl rfl ?_
  intro k SR
  have S : Sem G RX7 "<init>" cX7_init 1 (rmD 2 4 832) k := SR.sem
  refine r_aload_n S rfl dX7_init_0 ?_
  refine r_objI S lk_X7_3 ⟨rfl, rfl⟩ rfl dX7_init_1 oi_1 oi_2 ?_
  refine r_aload_n S rfl dX7_init_4 ?_
  refine r_iconst S dX7_init_5 ?_
  refine r_putI S fk_X7_9 dX7_init_6 rfl rfl (by decide) (Or.inr ⟨rfl, rfl⟩) (Or.inl rfl) ?_
  refine r_aload_n S rfl dX7_init_9 ?_
  refine r_iconst S dX7_init_10 ?_
  refine r_putI S fk_X7_15 dX7_init_11 rfl rfl (by decide) (Or.inr ⟨rfl, rfl⟩) (Or.inl rfl) ?_
  refine r_aload_n S rfl dX7_init_14 ?_
  refine r_new S nk_X7_18 in_X9 ii_X9 (T := TX9) rfl ok_X9 (by decide) dX7_init_15 rfl ⟨Nat.le_of_ble_eq_true rfl, Nat.le_of_ble_eq_true rfl⟩ ?_
  refine r_dup S rfl dX7_init_18 ?_
  refine r_callI S lk_X7_20 mk_X9_init (i_X9_56 G _ _) rfl rfl (Nat.le_of_ble_eq_true rfl) ⟨by decide, by decide⟩ rfl ⟨Nat.le_of_ble_eq_true rfl, Nat.le_of_ble_eq_true rfl⟩ dX7_init_19 ?_
  rintro _ _ _ _ ⟨rfl, rfl, rfl, rfl⟩
  refine r_putR S fk_X7_21 dX7_init_22 rfl rfl (by decide) (Or.inr ⟨rfl, rfl⟩) ?_
  refine r_aload_n S rfl dX7_init_25 ?_
  refine r_iconst S dX7_init_26 ?_
  refine r_putI S fk_X7_25 dX7_init_27 rfl rfl (by decide) (Or.inr ⟨rfl, rfl⟩) (Or.inl rfl) ?_
  refine r_aload_n S rfl dX7_init_30 ?_
  refine r_iconst S dX7_init_31 ?_
  refine r_putI S fk_X7_28 dX7_init_32 rfl rfl (by decide) (Or.inr ⟨rfl, rfl⟩) (Or.inl rfl) ?_
  refine r_aload_n S rfl dX7_init_35 ?_
  refine r_bipush S (by decide +kernel) dX7_init_36 ?_
  refine r_newI S (N := 26) rfl dX7_init_38 rfl rfl ⟨Nat.le_of_ble_eq_true rfl, Nat.le_of_ble_eq_true rfl⟩ ?_
  refine r_putR S fk_X7_31 dX7_init_40 rfl rfl (by decide) (Or.inr ⟨rfl, rfl⟩) ?_
  refine k_conv S (I' := filI 55 60 I) (ρ' := fil 55 60 ρ) ?_ ?_
  · intro o ho
    rcases (by omega : o < 55 ∨ o = 55 ∨ o = 56 ∨ o = 57 ∨ o = 58 ∨ o = 59) with h | rfl | rfl | rfl | rfl | rfl
    · exact cel_congr (by funext j; simp only [up, zr, filI, zrN]; repeat rw [if_neg (by omega)]) (by funext j; simp only [upR, zrR, fil, mulR]; repeat rw [if_neg (by omega)])
    · exact rfl
    · exact rfl
    · exact rfl
    · exact rfl
    · exact rfl
  refine r_vret SR dX7_init_43 ⟨Nat.le_of_ble_eq_true rfl, Nat.le_of_ble_eq_true rfl⟩ ?_
  exact ⟨rfl, rfl, rfl, rfl⟩
theorem i_X11_0 : Ct G yX11_init cX11_init 1 none 3 71 3124 [.ref (gb G + 0)] 1 (zr I 0) (zrR ρ 0) (PV 72 (filI 0 72 I) (fil 0 72 ρ)) := by
  refine Ct.of [some (.ref (gb G + 0))] (by decide) rfl rfl rfl ?_
  intro k SR
  have S : Sem G RX11 "<init>" cX11_init 1 (rmD 3 71 3124) k := SR.sem
  refine r_aload_n S rfl dX11_init_0 ?_
  refine r_objI S lk_X11_1 ⟨rfl, rfl⟩ rfl dX11_init_1 oi_1 oi_2 ?_
  refine r_aload_n S rfl dX11_init_4 ?_
  refine r_iconst S dX11_init_5 ?_
  refine r_putI S fk_X11_7 dX11_init_6 rfl rfl (by decide) (Or.inr ⟨rfl, rfl⟩) (Or.inl rfl) ?_
  refine r_aload_n S rfl dX11_init_9 ?_
  refine r_new S nk_X11_13 in_X3 ii_X3 (T := TX3) rfl ok_X3 (by decide) dX11_init_10 rfl ⟨Nat.le_of_ble_eq_true rfl, Nat.le_of_ble_eq_true rfl⟩ ?_
  refine r_dup S rfl dX11_init_13 ?_
  refine r_callI S lk_X11_15 mk_X3_init (i_X3_1 G _ _) rfl rfl (Nat.le_of_ble_eq_true rfl) ⟨by decide, by decide⟩ rfl ⟨Nat.le_of_ble_eq_true rfl, Nat.le_of_ble_eq_true rfl⟩ dX11_init_14 ?_
  rintro _ _ _ _ ⟨rfl, rfl, rfl, rfl⟩
  refine r_putR S fk_X11_16 dX11_init_17 rfl rfl (by decide) (Or.inr ⟨rfl, rfl⟩) ?_
  refine r_aload_n S rfl dX11_init_20 ?_
  refine r_new S nk_X11_20 in_X4 ii_X4 (T := TX4) rfl ok_X4 (by decide) dX11_init_21 rfl ⟨Nat.le_of_ble_eq_true rfl, Nat.le_of_ble_eq_true rfl⟩ ?_
  refine r_dup S rfl dX11_init_24 ?_
  refine r_callI S lk_X11_22 mk_X4_init (i_X4_4 G _ _) rfl rfl (Nat.le_of_ble_eq_true rfl) ⟨by decide, by decide⟩ rfl ⟨Nat.le_of_ble_eq_true rfl, Nat.le_of_ble_eq_true rfl⟩ dX11_init_25 ?_
  rintro _ _ _ _ ⟨rfl, rfl, rfl, rfl⟩
  refine r_putR S fk_X11_23 dX11_init_28 rfl rfl (by decide) (Or.inr ⟨rfl, rfl⟩) ?_
  refine r_aload_n S rfl dX11_init_31 ?_
  refine r_new S nk_X11_27 in_X0 ii_X0 (T := TX0) rfl ok_X0 (by decide) dX11_init_32 rfl ⟨Nat.le_of_ble_eq_true rfl, Nat.le_of_ble_eq_true rfl⟩ ?_
  refine r_dup S rfl dX11_init_35 ?_
  refine r_callI S lk_X11_29 mk_X0_init (i_X0_14 G _ _) rfl rfl (Nat.le_of_ble_eq_true rfl) ⟨by decide, by decide⟩ rfl ⟨Nat.le_of_ble_eq_true rfl, Nat.le_of_ble_eq_true rfl⟩ dX11_init_36 ?_
  rintro _ _ _ _ ⟨rfl, rfl, rfl, rfl⟩
  refine r_putR S fk_X11_30 dX11_init_39 rfl rfl (by decide) (Or.inr ⟨rfl, rfl⟩) ?_
  refine r_aload_n S rfl dX11_init_42 ?_
  refine r_new S nk_X11_34 in_X10 ii_X10 (T := TX10) rfl ok_X10 (by decide) dX11_init_43 rfl ⟨Nat.le_of_ble_eq_true rfl, Nat.le_of_ble_eq_true rfl⟩ ?_
  refine r_dup S rfl dX11_init_46 ?_
  refine r_callI S lk_X11_36 mk_X10_init (i_X10_16 G _ _) rfl rfl (Nat.le_of_ble_eq_true rfl) ⟨by decide, by decide⟩ rfl ⟨Nat.le_of_ble_eq_true rfl, Nat.le_of_ble_eq_true rfl⟩ dX11_init_47 ?_
  rintro _ _ _ _ ⟨rfl, rfl, rfl, rfl⟩
  refine r_putR S fk_X11_37 dX11_init_50 rfl rfl (by decide) (Or.inr ⟨rfl, rfl⟩) ?_
  refine r_aload_n S rfl dX11_init_53 ?_
  refine r_new S nk_X11_41 in_X2 ii_X2 (T := TX2) rfl ok_X2 (by decide) dX11_init_54 rfl ⟨Nat.le_of_ble_eq_true rfl, Nat.le_of_ble_eq_true rfl⟩ ?_
  refine r_dup S rfl dX11_init_57 ?_
  refine r_callI S lk_X11_43 mk_X2_init (i_X2_51 G _ _) rfl rfl (Nat.le_of_ble_eq_true rfl) ⟨by decide, by decide⟩ rfl ⟨Nat.le_of_ble_eq_true rfl, Nat.le_of_ble_eq_true rfl⟩ dX11_init_58 ?_
  rintro _ _ _ _ ⟨rfl, rfl, rfl, rfl⟩
  refine r_putR S fk_X11_44 dX11_init_61 rfl rfl (by decide) (Or.inr ⟨rfl, rfl⟩) ?_
  refine r_aload_n S rfl dX11_init_64 ?_
  refine r_new S nk_X11_48 in_X8 ii_X8 (T := TX8) rfl ok_X8 (by decide) dX11_init_65 rfl ⟨Nat.le_of_ble_eq_true rfl, Nat.le_of_ble_eq_true rfl⟩ ?_
  refine r_dup S rfl dX11_init_68 ?_
  refine r_callI S lk_X11_50 mk_X8_init (i_X8_53 G _ _) rfl rfl (Nat.le_of_ble_eq_true rfl) ⟨by decide, by decide⟩ rfl ⟨Nat.le_of_ble_eq_true rfl, Nat.le_of_ble_eq_true rfl⟩ dX11_init_69 ?_
  rintro _ _ _ _ ⟨rfl, rfl, rfl, rfl⟩
  refine r_putR S fk_X11_51 dX11_init_72 rfl rfl (by decide) (Or.inr ⟨rfl, rfl⟩) ?_
  refine r_aload_n S rfl dX11_init_75 ?_
  refine r_new S nk_X11_55 in_X7 ii_X7 (T := TX7) rfl ok_X7 (by decide) dX11_init_76 rfl ⟨Nat.le_of_ble_eq_true rfl, Nat.le_of_ble_eq_true rfl⟩ ?_
  refine r_dup S rfl dX11_init_79 ?_
  refine r_callI S lk_X11_57 mk_X7_init (i_X7_55 G _ _) rfl rfl (Nat.le_of_ble_eq_true rfl) ⟨by decide, by decide⟩ rfl ⟨Nat.le_of_ble_eq_true rfl, Nat.le_of_ble_eq_true rfl⟩ dX11_init_80 ?_
  rintro _ _ _ _ ⟨rfl, rfl, rfl, rfl⟩
  refine r_putR S fk_X11_58 dX11_init_83 rfl rfl (by decide) (Or.inr ⟨rfl, rfl⟩) ?_
  refine r_aload_n S rfl dX11_init_86 ?_
  refine r_new S nk_X11_62 in_X6 ii_X6 (T := TX6) rfl ok_X6 (by decide) dX11_init_87 rfl ⟨Nat.le_of_ble_eq_true rfl, Nat.le_of_ble_eq_true rfl⟩ ?_
  refine r_dup S rfl dX11_init_90 ?_
  refine r_callI S lk_X11_64 mk_X6_init (i_X6_60 G _ _) rfl rfl (Nat.le_of_ble_eq_true rfl) ⟨by decide, by decide⟩ rfl ⟨Nat.le_of_ble_eq_true rfl, Nat.le_of_ble_eq_true rfl⟩ dX11_init_91 ?_
  rintro _ _ _ _ ⟨rfl, rfl, rfl, rfl⟩
  refine r_putR S fk_X11_65 dX11_init_94 rfl rfl (by decide) (Or.inr ⟨rfl, rfl⟩) ?_
  refine r_aload_n S rfl dX11_init_97 ?_
  refine r_new S nk_X11_62 in_X6 ii_X6 (T := TX6) rfl ok_X6 (by decide) dX11_init_98 rfl ⟨Nat.le_of_ble_eq_true rfl, Nat.le_of_ble_eq_true rfl⟩ ?_
  refine r_dup S rfl dX11_init_101 ?_
  refine r_callI S lk_X11_64 mk_X6_init (i_X6_66 G _ _) rfl rfl (Nat.le_of_ble_eq_true rfl) ⟨by decide, by decide⟩ rfl ⟨Nat.le_of_ble_eq_true rfl, Nat.le_of_ble_eq_true rfl⟩ dX11_init_102 ?_
  rintro _ _ _ _ ⟨rfl, rfl, rfl, rfl⟩
  refine r_putR S fk_X11_69 dX11_init_105 rfl rfl (by decide) (Or.inr ⟨rfl, rfl⟩) ?_
  refine r_aload_n S rfl dX11_init_108 ?_
  refine r_null S dX11_init_109 ?_
  refine r_putN S fk_X11_72 dX11_init_110 rfl rfl (by decide) (Or.inr ⟨rfl, rfl⟩) ?_
  refine r_aload_n S rfl dX11_init_113 ?_
  refine r_iconst S dX11_init_114 ?_
  refine r_putI S fk_X11_76 dX11_init_115 rfl rfl (by decide) (Or.inr ⟨rfl, rfl⟩) (Or.inr ⟨rfl, by omega⟩) ?_
  refine k_conv S (I' := filI 0 72 I) (ρ' := fil 0 72 ρ) ?_ ?_
  · intro o ho
    rcases (by omega : o < 0 ∨ o = 0 ∨ o = 1 ∨ o = 2 ∨ o = 3 ∨ o = 4 ∨ o = 5 ∨ o = 6 ∨ o = 7 ∨ o = 8 ∨ o = 9 ∨ o = 10 ∨ o = 11 ∨ o = 12 ∨ o = 13 ∨ o = 14 ∨ o = 15 ∨ o = 16 ∨ o = 17 ∨ o = 18 ∨ o = 19 ∨ o = 20 ∨ o = 21 ∨ o = 22 ∨ o = 23 ∨ o = 24 ∨ o = 25 ∨ o = 26 ∨ o = 27 ∨ o = 28 ∨ o = 29 ∨ o = 30 ∨ o = 31 ∨ o = 32 ∨ o = 33 ∨ o = 34 ∨ o = 35 ∨ o = 36 ∨ o = 37 ∨ o = 38 ∨ o = 39 ∨ o = 40 ∨ o = 41 ∨ o = 42 ∨ o = 43 ∨ o = 44 ∨ o = 45 ∨ o = 46 ∨ o = 47 ∨ o = 48 ∨ o = 49 ∨ o = 50 ∨ o = 51 ∨ o = 52 ∨ o = 53 ∨ o = 54 ∨ o = 55 ∨ o = 56 ∨ o = 57 ∨ o = 58 ∨ o = 59 ∨ o = 60 ∨ o = 61 ∨ o = 62 ∨ o = 63 ∨ o = 64 ∨ o = 65 ∨ o = 66 ∨ o = 67 ∨ o = 68 ∨ o = 69 ∨ o = 70 ∨ o = 71) with h | rfl | rfl | rfl | rfl | rfl | rfl | rfl | rfl | rfl | rfl | rfl | rfl | rfl | rfl | rfl | rfl | rfl | rfl | rfl | rfl | rfl | rfl | rfl | rfl | rfl | rfl | rfl | rfl | rfl | rfl | rfl | rfl | rfl | rfl | rfl | rfl | rfl | rfl | rfl | rfl | rfl | rfl | rfl | rfl | rfl | rfl | rfl | rfl | rfl | rfl | rfl | rfl | rfl | rfl | rfl | rfl | rfl | rfl | rfl | rfl | rfl | rfl | rfl | rfl | rfl | rfl | rfl | rfl | rfl | rfl | rfl | rfl
    · exact cel_congr (by funext j; simp only [up, zr, filI, zrN]; repeat rw [if_neg (by omega)]) (by funext j; simp only [upR, zrR, fil, mulR]; repeat rw [if_neg (by omega)])
    · exact rfl
    · exact rfl
    · exact rfl
    · exact rfl
    · exact rfl
    · exact rfl
    · exact rfl
    · exact rfl
    · exact rfl
    · exact rfl
    · exact rfl
    · exact rfl
    · exact rfl
    · exact rfl
    · exact rfl
    · exact rfl
    · exact rfl
    · exact rfl
    · exact rfl
    · exact rfl
    · exact rfl
    · exact rfl
    · exact rfl
    · exact rfl
    · exact rfl
    · exact rfl
    · exact rfl
    · exact rfl
    · exact rfl
    · exact rfl
    · exact rfl
    · exact rfl
    · exact rfl
    · exact rfl
    · exact rfl
    · exact rfl
    · exact rfl
    · exact rfl
    · exact rfl
    · exact rfl
    · exact rfl
    · exact rfl
    · exact rfl
    · exact rfl
    · exact rfl
    · exact rfl
    · exact rfl
    · exact rfl
    · exact rfl
    · exact rfl
    · exact rfl
    · exact rfl
    · exact rfl
    · exact rfl
    · exact rfl
    · exact rfl
    · exact rfl
    · exact rfl
    · exact rfl
    · exact rfl
    · exact rfl
    · exact rfl
    · exact rfl
    · exact rfl
    · exact rfl
    · exact rfl
    · exact rfl
    · exact rfl
    · exact rfl
    · exact rfl
    · exact rfl
    · exact rfl
  refine r_vret SR dX11_init_118 ⟨Nat.le_of_ble_eq_true rfl, Nat.le_of_ble_eq_true rfl⟩ ?_
  exact ⟨rfl, rfl, rfl, rfl⟩
end
