section
variable {G : GE} {own nm : String} {cc : ByteArray} {nL : Nat} {R : Room} {k : Kt} {pc : Nat} {L : List (Option Value)} {st : List Value} {n : Nat} {I : Iv} {ρ : Rv} {x z : Nat}

theorem r_iconst (S : Sem G own nm cc nL R k) {v : Int} (hd : decode cc pc = .ok (.iconst v, 1)) (kk : k (pc + 1) L (.int (jI v) :: st) n I ρ x z) : k pc L (st) n I ρ x z := by
  obtain ⟨p, e, s, m, args, below, meth, c, Q, rfl, hx, hb, hml, hown, hnm, hts, hE, hbs⟩ := S
  intro H locs ls hH hS hl
  exact lv_iconst (v := jI v) hx hb hd rfl (kk H locs ls hH hS hl)

theorem r_bipush (S : Sem G own nm cc nL R k) {v : Int} (hv : (Int8.ofInt v).toInt32 = jI v) (hd : decode cc pc = .ok (.bipush v, 2)) (kk : k (pc + 2) L (.int (jI v) :: st) n I ρ x z) : k pc L (st) n I ρ x z := by
  obtain ⟨p, e, s, m, args, below, meth, c, Q, rfl, hx, hb, hml, hown, hnm, hts, hE, hbs⟩ := S
  intro H locs ls hH hS hl
  exact lv_bipush hx hb hd hv (kk H locs ls hH hS hl)

theorem r_sipush (S : Sem G own nm cc nL R k) {v : Int} (hv : (Int16.ofInt v).toInt32 = jI v) (hd : decode cc pc = .ok (.sipush v, 3)) (kk : k (pc + 3) L (.int (jI v) :: st) n I ρ x z) : k pc L (st) n I ρ x z := by
  obtain ⟨p, e, s, m, args, below, meth, c, Q, rfl, hx, hb, hml, hown, hnm, hts, hE, hbs⟩ := S
  intro H locs ls hH hS hl
  exact lv_sipush hx hb hd hv (kk H locs ls hH hS hl)

theorem r_iload_n (S : Sem G own nm cc nL R k) {j : Fin 4} {v : Int} (hv : L[(j : Nat)]? = some (some (.int (jI v)))) (hd : decode cc pc = .ok (.iload_n j, 1)) (kk : k (pc + 1) L (.int (jI v) :: st) n I ρ x z) : k pc L (st) n I ρ x z := by
  obtain ⟨p, e, s, m, args, below, meth, c, Q, rfl, hx, hb, hml, hown, hnm, hts, hE, hbs⟩ := S
  intro H locs ls hH hS hl
  exact lv_iload_n hx hb hd rfl (hl.at hv) (kk H locs ls hH hS hl)

theorem r_iload (S : Sem G own nm cc nL R k) {i : Nat} {v : Int} (hv : L[i]? = some (some (.int (jI v)))) (hd : decode cc pc = .ok (.iload i, 2)) (kk : k (pc + 2) L (.int (jI v) :: st) n I ρ x z) : k pc L (st) n I ρ x z := by
  obtain ⟨p, e, s, m, args, below, meth, c, Q, rfl, hx, hb, hml, hown, hnm, hts, hE, hbs⟩ := S
  intro H locs ls hH hS hl
  exact lv_iload hx hb hd (hl.at hv) (kk H locs ls hH hS hl)

theorem r_aload_n (S : Sem G own nm cc nL R k) {j : Fin 4} {a : Nat} (hv : L[(j : Nat)]? = some (some (.ref a))) (hd : decode cc pc = .ok (.aload_n j, 1)) (kk : k (pc + 1) L (.ref a :: st) n I ρ x z) : k pc L (st) n I ρ x z := by
  obtain ⟨p, e, s, m, args, below, meth, c, Q, rfl, hx, hb, hml, hown, hnm, hts, hE, hbs⟩ := S
  intro H locs ls hH hS hl
  exact lv_aload_n hx hb hd rfl (hl.at hv) (kk H locs ls hH hS hl)

theorem r_lload_n (S : Sem G own nm cc nL R k) {j : Fin 4} {v : Int64} (hv : L[(j : Nat)]? = some (some (.long v))) (hd : decode cc pc = .ok (.lload_n j, 1)) (kk : k (pc + 1) L (.long v :: st) n I ρ x z) : k pc L (st) n I ρ x z := by
  obtain ⟨p, e, s, m, args, below, meth, c, Q, rfl, hx, hb, hml, hown, hnm, hts, hE, hbs⟩ := S
  intro H locs ls hH hS hl
  exact lv_lload_n hx hb hd rfl (hl.at hv) (kk H locs ls hH hS hl)

theorem r_lconst (S : Sem G own nm cc nL R k) {j : Fin 2} (hd : decode cc pc = .ok (.lconst j, 1)) (kk : k (pc + 1) L (.long (Int64.ofNat j) :: st) n I ρ x z) : k pc L (st) n I ρ x z := by
  obtain ⟨p, e, s, m, args, below, meth, c, Q, rfl, hx, hb, hml, hown, hnm, hts, hE, hbs⟩ := S
  intro H locs ls hH hS hl
  exact lv_lconst hx hb hd rfl (kk H locs ls hH hS hl)

theorem r_iadd (S : Sem G own nm cc nL R k) {a b : Int} (hd : decode cc pc = .ok (.iadd, 1)) (kk : k (pc + 1) L (.int (jI (a + b)) :: st) n I ρ x z) : k pc L (.int (jI b) :: .int (jI a) :: st) n I ρ x z := by
  obtain ⟨p, e, s, m, args, below, meth, c, Q, rfl, hx, hb, hml, hown, hnm, hts, hE, hbs⟩ := S
  intro H locs ls hH hS hl
  exact lv_iadd hx hb hd (by rw [jI_add]; exact kk H locs ls hH hS hl)

theorem r_isub (S : Sem G own nm cc nL R k) {a b : Int} (hd : decode cc pc = .ok (.isub, 1)) (kk : k (pc + 1) L (.int (jI (a - b)) :: st) n I ρ x z) : k pc L (.int (jI b) :: .int (jI a) :: st) n I ρ x z := by
  obtain ⟨p, e, s, m, args, below, meth, c, Q, rfl, hx, hb, hml, hown, hnm, hts, hE, hbs⟩ := S
  intro H locs ls hH hS hl
  exact lv_isub hx hb hd (by rw [jI_sub]; exact kk H locs ls hH hS hl)

theorem r_imul (S : Sem G own nm cc nL R k) {a b : Int} (hd : decode cc pc = .ok (.imul, 1)) (kk : k (pc + 1) L (.int (jI (a * b)) :: st) n I ρ x z) : k pc L (.int (jI b) :: .int (jI a) :: st) n I ρ x z := by
  obtain ⟨p, e, s, m, args, below, meth, c, Q, rfl, hx, hb, hml, hown, hnm, hts, hE, hbs⟩ := S
  intro H locs ls hH hS hl
  exact lv_imul hx hb hd (by rw [jI_mul]; exact kk H locs ls hH hS hl)

theorem r_ineg (S : Sem G own nm cc nL R k) {a : Int} (hd : decode cc pc = .ok (.ineg, 1)) (kk : k (pc + 1) L (.int (jI (-a)) :: st) n I ρ x z) : k pc L (.int (jI a) :: st) n I ρ x z := by
  obtain ⟨p, e, s, m, args, below, meth, c, Q, rfl, hx, hb, hml, hown, hnm, hts, hE, hbs⟩ := S
  intro H locs ls hH hS hl
  exact lv_ineg hx hb hd (by rw [jI_neg]; exact kk H locs ls hH hS hl)

theorem r_iand (S : Sem G own nm cc nL R k) {a b v : Int} (hv : jI a &&& jI b = jI v) (hd : decode cc pc = .ok (.iand, 1)) (kk : k (pc + 1) L (.int (jI v) :: st) n I ρ x z) : k pc L (.int (jI b) :: .int (jI a) :: st) n I ρ x z := by
  obtain ⟨p, e, s, m, args, below, meth, c, Q, rfl, hx, hb, hml, hown, hnm, hts, hE, hbs⟩ := S
  intro H locs ls hH hS hl
  exact lv_iand hx hb hd (by rw [hv]; exact kk H locs ls hH hS hl)

theorem r_ior (S : Sem G own nm cc nL R k) {a b v : Int} (hv : jI a ||| jI b = jI v) (hd : decode cc pc = .ok (.ior, 1)) (kk : k (pc + 1) L (.int (jI v) :: st) n I ρ x z) : k pc L (.int (jI b) :: .int (jI a) :: st) n I ρ x z := by
  obtain ⟨p, e, s, m, args, below, meth, c, Q, rfl, hx, hb, hml, hown, hnm, hts, hE, hbs⟩ := S
  intro H locs ls hH hS hl
  exact lv_ior hx hb hd (by rw [hv]; exact kk H locs ls hH hS hl)

theorem r_ixor (S : Sem G own nm cc nL R k) {a b v : Int} (hv : jI a ^^^ jI b = jI v) (hd : decode cc pc = .ok (.ixor, 1)) (kk : k (pc + 1) L (.int (jI v) :: st) n I ρ x z) : k pc L (.int (jI b) :: .int (jI a) :: st) n I ρ x z := by
  obtain ⟨p, e, s, m, args, below, meth, c, Q, rfl, hx, hb, hml, hown, hnm, hts, hE, hbs⟩ := S
  intro H locs ls hH hS hl
  exact lv_ixor hx hb hd (by rw [hv]; exact kk H locs ls hH hS hl)

theorem r_ishl (S : Sem G own nm cc nL R k) {a b v : Int} (hv : jI a <<< (jI b &&& 31) = jI v) (hd : decode cc pc = .ok (.ishl, 1)) (kk : k (pc + 1) L (.int (jI v) :: st) n I ρ x z) : k pc L (.int (jI b) :: .int (jI a) :: st) n I ρ x z := by
  obtain ⟨p, e, s, m, args, below, meth, c, Q, rfl, hx, hb, hml, hown, hnm, hts, hE, hbs⟩ := S
  intro H locs ls hH hS hl
  exact lv_ishl hx hb hd (by rw [hv]; exact kk H locs ls hH hS hl)

theorem r_ishr (S : Sem G own nm cc nL R k) {a b v : Int} (hv : jI a >>> (jI b &&& 31) = jI v) (hd : decode cc pc = .ok (.ishr, 1)) (kk : k (pc + 1) L (.int (jI v) :: st) n I ρ x z) : k pc L (.int (jI b) :: .int (jI a) :: st) n I ρ x z := by
  obtain ⟨p, e, s, m, args, below, meth, c, Q, rfl, hx, hb, hml, hown, hnm, hts, hE, hbs⟩ := S
  intro H locs ls hH hS hl
  exact lv_ishr hx hb hd (by rw [hv]; exact kk H locs ls hH hS hl)

theorem r_iushr (S : Sem G own nm cc nL R k) {a b v : Int} (hv : ((jI a).toUInt32 >>> ((jI b).toUInt32 &&& Int32.toUInt32 31)).toInt32 = jI v) (hd : decode cc pc = .ok (.iushr, 1)) (kk : k (pc + 1) L (.int (jI v) :: st) n I ρ x z) : k pc L (.int (jI b) :: .int (jI a) :: st) n I ρ x z := by
  obtain ⟨p, e, s, m, args, below, meth, c, Q, rfl, hx, hb, hml, hown, hnm, hts, hE, hbs⟩ := S
  intro H locs ls hH hS hl
  exact lv_iushr hx hb hd hv (kk H locs ls hH hS hl)

theorem r_idiv (S : Sem G own nm cc nL R k) {a b v : Int} (h0 : ¬ jI b = 0) (hv : jI a / jI b = jI v) (hd : decode cc pc = .ok (.idiv, 1)) (kk : k (pc + 1) L (.int (jI v) :: st) n I ρ x z) : k pc L (.int (jI b) :: .int (jI a) :: st) n I ρ x z := by
  obtain ⟨p, e, s, m, args, below, meth, c, Q, rfl, hx, hb, hml, hown, hnm, hts, hE, hbs⟩ := S
  intro H locs ls hH hS hl
  exact lv_idiv hx hb hd h0 (by rw [hv]; exact kk H locs ls hH hS hl)

theorem r_irem (S : Sem G own nm cc nL R k) {a b v : Int} (h0 : ¬ jI b = 0) (hv : jI a - jI a / jI b * jI b = jI v) (hd : decode cc pc = .ok (.irem, 1)) (kk : k (pc + 1) L (.int (jI v) :: st) n I ρ x z) : k pc L (.int (jI b) :: .int (jI a) :: st) n I ρ x z := by
  obtain ⟨p, e, s, m, args, below, meth, c, Q, rfl, hx, hb, hml, hown, hnm, hts, hE, hbs⟩ := S
  intro H locs ls hH hS hl
  exact lv_irem hx hb hd h0 (by rw [hv]; exact kk H locs ls hH hS hl)

theorem r_i2l (S : Sem G own nm cc nL R k) {a : Int} (hd : decode cc pc = .ok (.i2l, 1)) (kk : k (pc + 1) L (.long (jI a).toInt64 :: st) n I ρ x z) : k pc L (.int (jI a) :: st) n I ρ x z := by
  obtain ⟨p, e, s, m, args, below, meth, c, Q, rfl, hx, hb, hml, hown, hnm, hts, hE, hbs⟩ := S
  intro H locs ls hH hS hl
  exact lv_i2l hx hb hd rfl (kk H locs ls hH hS hl)

theorem r_lor (S : Sem G own nm cc nL R k) {a b : Int64} (hd : decode cc pc = .ok (.lor, 1)) (kk : k (pc + 1) L (.long (a ||| b) :: st) n I ρ x z) : k pc L (.long b :: .long a :: st) n I ρ x z := by
  obtain ⟨p, e, s, m, args, below, meth, c, Q, rfl, hx, hb, hml, hown, hnm, hts, hE, hbs⟩ := S
  intro H locs ls hH hS hl
  exact lv_lor hx hb hd (kk H locs ls hH hS hl)

theorem r_lshl (S : Sem G own nm cc nL R k) {a : Int64} {b : Int} (hd : decode cc pc = .ok (.lshl, 1)) (kk : k (pc + 1) L (.long (a <<< ((jI b).toInt64 &&& 63)) :: st) n I ρ x z) : k pc L (.int (jI b) :: .long a :: st) n I ρ x z := by
  obtain ⟨p, e, s, m, args, below, meth, c, Q, rfl, hx, hb, hml, hown, hnm, hts, hE, hbs⟩ := S
  intro H locs ls hH hS hl
  exact lv_lshl hx hb hd rfl (kk H locs ls hH hS hl)

theorem r_lcmp (S : Sem G own nm cc nL R k) {a b : Int64} {v : Int} (hv : lg_cmp a b = jI v) (hd : decode cc pc = .ok (.lcmp, 1)) (kk : k (pc + 1) L (.int (jI v) :: st) n I ρ x z) : k pc L (.long b :: .long a :: st) n I ρ x z := by
  obtain ⟨p, e, s, m, args, below, meth, c, Q, rfl, hx, hb, hml, hown, hnm, hts, hE, hbs⟩ := S
  intro H locs ls hH hS hl
  exact W.lcmp hx hb hd (by rw [hv]; exact kk H locs ls hH hS hl)

theorem r_dup (S : Sem G own nm cc nL R k) {v : Value} (hv : v.category = 1) (hd : decode cc pc = .ok (.dup, 1)) (kk : k (pc + 1) L (v :: v :: st) n I ρ x z) : k pc L (v :: st) n I ρ x z := by
  obtain ⟨p, e, s, m, args, below, meth, c, Q, rfl, hx, hb, hml, hown, hnm, hts, hE, hbs⟩ := S
  intro H locs ls hH hS hl
  exact lv_dup hx hb hd hv (kk H locs ls hH hS hl)

theorem r_pop (S : Sem G own nm cc nL R k) {v : Value} (hv : v.category = 1) (hd : decode cc pc = .ok (.pop, 1)) (kk : k (pc + 1) L (st) n I ρ x z) : k pc L (v :: st) n I ρ x z := by
  obtain ⟨p, e, s, m, args, below, meth, c, Q, rfl, hx, hb, hml, hown, hnm, hts, hE, hbs⟩ := S
  intro H locs ls hH hS hl
  exact lv_pop hx hb hd hv (kk H locs ls hH hS hl)

theorem r_dup2 (S : Sem G own nm cc nL R k) {v w : Value} (hv : v.category = 1) (hw : w.category = 1) (hd : decode cc pc = .ok (.dup2, 1)) (kk : k (pc + 1) L (v :: w :: v :: w :: st) n I ρ x z) : k pc L (v :: w :: st) n I ρ x z := by
  obtain ⟨p, e, s, m, args, below, meth, c, Q, rfl, hx, hb, hml, hown, hnm, hts, hE, hbs⟩ := S
  intro H locs ls hH hS hl
  exact lv_dup2_11 hx hb hd hv hw (kk H locs ls hH hS hl)

theorem r_null (S : Sem G own nm cc nL R k) (hd : decode cc pc = .ok (.aconst_null, 1)) (kk : k (pc + 1) L (.null :: st) n I ρ x z) : k pc L (st) n I ρ x z := by
  obtain ⟨p, e, s, m, args, below, meth, c, Q, rfl, hx, hb, hml, hown, hnm, hts, hE, hbs⟩ := S
  intro H locs ls hH hS hl
  exact lv_null hx hb hd (kk H locs ls hH hS hl)

theorem r_ldc (S : Sem G own nm cc nL R k) {idx : Nat} {v : Int} (hc : Cond.constant own idx (jI v) ∈ lw_tbl) (hd : decode cc pc = .ok (.ldc idx, 2)) (kk : k (pc + 2) L (.int (jI v) :: st) n I ρ x z) : k pc L (st) n I ρ x z := by
  obtain ⟨p, e, s, m, args, below, meth, c, Q, rfl, hx, hb, hml, hown, hnm, hts, hE, hbs⟩ := S
  intro H locs ls hH hS hl
  exact lv_ldc hx hb hown (hts _ (TBG_in hc rfl)) hd (kk H locs ls hH hS hl)

theorem r_ldcw (S : Sem G own nm cc nL R k) {idx : Nat} {v : Int} (hc : Cond.constant own idx (jI v) ∈ lw_tbl) (hd : decode cc pc = .ok (.ldc_w idx, 3)) (kk : k (pc + 3) L (.int (jI v) :: st) n I ρ x z) : k pc L (st) n I ρ x z := by
  obtain ⟨p, e, s, m, args, below, meth, c, Q, rfl, hx, hb, hml, hown, hnm, hts, hE, hbs⟩ := S
  intro H locs ls hH hS hl
  exact lv_ldcw hx hb hown (hts _ (TBG_in hc rfl)) hd (kk H locs ls hH hS hl)

theorem r_ldc2 (S : Sem G own nm cc nL R k) {idx : Nat} {v : Int64} (hc : Cond.constantLong own idx v ∈ lw_tbl) (hd : decode cc pc = .ok (.ldc2_w idx, 3)) (kk : k (pc + 3) L (.long v :: st) n I ρ x z) : k pc L (st) n I ρ x z := by
  obtain ⟨p, e, s, m, args, below, meth, c, Q, rfl, hx, hb, hml, hown, hnm, hts, hE, hbs⟩ := S
  intro H locs ls hH hS hl
  exact lv_ldc2 hx hb hown (hts _ (TBG_in hc rfl)) hd (kk H locs ls hH hS hl)

theorem r_goto (S : Sem G own nm cc nL R k) {off : Int} {tgt : Nat} (hd : decode cc pc = .ok (.goto off, 3)) (ht : (pc : Int) + off = (tgt : Int)) (kk : k tgt L st n I ρ x z) : k pc L st n I ρ x z := by
  obtain ⟨p, e, s, m, args, below, meth, c, Q, rfl, hx, hb, hml, hown, hnm, hts, hE, hbs⟩ := S
  intro H locs ls hH hS hl
  exact lv_goto hx hb hd ht (kk H locs ls hH hS hl)

theorem r_icmp_eq (S : Sem G own nm cc nL R k) {a b : Int} {off : Int} {tgt : Nat} (hd : decode cc pc = .ok (.if_icmp .eq off, 3)) (ht : (pc : Int) + off = (tgt : Int)) (ha : rg a) (hc : rg b) (kt : a = b → k tgt L st n I ρ x z) (kf : ¬ a = b → k (pc + 3) L st n I ρ x z) : k pc L (.int (jI b) :: .int (jI a) :: st) n I ρ x z := by
  obtain ⟨p, e, s, m, args, below, meth, c, Q, rfl, hx, hb, hml, hown, hnm, hts, hE, hbs⟩ := S
  intro H locs ls hH hS hl
  exact lv_icmp_eq hx hb hd ht (fun q => kt ((jI_eq ha hc).mp q) H locs ls hH hS hl) (fun q => kf (fun q2 => q ((jI_eq ha hc).mpr q2)) H locs ls hH hS hl)

theorem r_if_eq (S : Sem G own nm cc nL R k) {a : Int} {off : Int} {tgt : Nat} (hd : decode cc pc = .ok (.ifCond .eq off, 3)) (ht : (pc : Int) + off = (tgt : Int)) (ha : rg a) (kt : a = 0 → k tgt L st n I ρ x z) (kf : ¬ a = 0 → k (pc + 3) L st n I ρ x z) : k pc L (.int (jI a) :: st) n I ρ x z := by
  obtain ⟨p, e, s, m, args, below, meth, c, Q, rfl, hx, hb, hml, hown, hnm, hts, hE, hbs⟩ := S
  intro H locs ls hH hS hl
  exact lv_if_eq hx hb hd ht (fun q => kt ((jI_eq ha rg_0).mp q) H locs ls hH hS hl) (fun q => kf (fun q2 => q ((jI_eq ha rg_0).mpr q2)) H locs ls hH hS hl)

theorem r_icmp_ne (S : Sem G own nm cc nL R k) {a b : Int} {off : Int} {tgt : Nat} (hd : decode cc pc = .ok (.if_icmp .ne off, 3)) (ht : (pc : Int) + off = (tgt : Int)) (ha : rg a) (hc : rg b) (kt : ¬ a = b → k tgt L st n I ρ x z) (kf : a = b → k (pc + 3) L st n I ρ x z) : k pc L (.int (jI b) :: .int (jI a) :: st) n I ρ x z := by
  obtain ⟨p, e, s, m, args, below, meth, c, Q, rfl, hx, hb, hml, hown, hnm, hts, hE, hbs⟩ := S
  intro H locs ls hH hS hl
  exact lv_icmp_ne hx hb hd ht (fun q => kt (fun q2 => q ((jI_eq ha hc).mpr q2)) H locs ls hH hS hl) (fun q => kf ((jI_eq ha hc).mp q) H locs ls hH hS hl)

theorem r_if_ne (S : Sem G own nm cc nL R k) {a : Int} {off : Int} {tgt : Nat} (hd : decode cc pc = .ok (.ifCond .ne off, 3)) (ht : (pc : Int) + off = (tgt : Int)) (ha : rg a) (kt : ¬ a = 0 → k tgt L st n I ρ x z) (kf : a = 0 → k (pc + 3) L st n I ρ x z) : k pc L (.int (jI a) :: st) n I ρ x z := by
  obtain ⟨p, e, s, m, args, below, meth, c, Q, rfl, hx, hb, hml, hown, hnm, hts, hE, hbs⟩ := S
  intro H locs ls hH hS hl
  exact lv_if_ne hx hb hd ht (fun q => kt (fun q2 => q ((jI_eq ha rg_0).mpr q2)) H locs ls hH hS hl) (fun q => kf ((jI_eq ha rg_0).mp q) H locs ls hH hS hl)

theorem r_icmp_lt (S : Sem G own nm cc nL R k) {a b : Int} {off : Int} {tgt : Nat} (hd : decode cc pc = .ok (.if_icmp .lt off, 3)) (ht : (pc : Int) + off = (tgt : Int)) (ha : rg a) (hc : rg b) (kt : a < b → k tgt L st n I ρ x z) (kf : b ≤ a → k (pc + 3) L st n I ρ x z) : k pc L (.int (jI b) :: .int (jI a) :: st) n I ρ x z := by
  obtain ⟨p, e, s, m, args, below, meth, c, Q, rfl, hx, hb, hml, hown, hnm, hts, hE, hbs⟩ := S
  intro H locs ls hH hS hl
  exact lv_icmp_lt hx hb hd ht (fun q => kt ((jI_lt ha hc).mp q) H locs ls hH hS hl) (fun q => kf (Int.not_lt.mp fun q2 => q ((jI_lt ha hc).mpr q2)) H locs ls hH hS hl)

theorem r_if_lt (S : Sem G own nm cc nL R k) {a : Int} {off : Int} {tgt : Nat} (hd : decode cc pc = .ok (.ifCond .lt off, 3)) (ht : (pc : Int) + off = (tgt : Int)) (ha : rg a) (kt : a < 0 → k tgt L st n I ρ x z) (kf : 0 ≤ a → k (pc + 3) L st n I ρ x z) : k pc L (.int (jI a) :: st) n I ρ x z := by
  obtain ⟨p, e, s, m, args, below, meth, c, Q, rfl, hx, hb, hml, hown, hnm, hts, hE, hbs⟩ := S
  intro H locs ls hH hS hl
  exact lv_if_lt hx hb hd ht (fun q => kt ((jI_lt ha rg_0).mp q) H locs ls hH hS hl) (fun q => kf (Int.not_lt.mp fun q2 => q ((jI_lt ha rg_0).mpr q2)) H locs ls hH hS hl)

theorem r_icmp_ge (S : Sem G own nm cc nL R k) {a b : Int} {off : Int} {tgt : Nat} (hd : decode cc pc = .ok (.if_icmp .ge off, 3)) (ht : (pc : Int) + off = (tgt : Int)) (ha : rg a) (hc : rg b) (kt : b ≤ a → k tgt L st n I ρ x z) (kf : a < b → k (pc + 3) L st n I ρ x z) : k pc L (.int (jI b) :: .int (jI a) :: st) n I ρ x z := by
  obtain ⟨p, e, s, m, args, below, meth, c, Q, rfl, hx, hb, hml, hown, hnm, hts, hE, hbs⟩ := S
  intro H locs ls hH hS hl
  exact lv_icmp_ge hx hb hd ht (fun q => kt ((jI_le hc ha).mp q) H locs ls hH hS hl) (fun q => kf (Int.not_le.mp fun q2 => q ((jI_le hc ha).mpr q2)) H locs ls hH hS hl)

theorem r_if_ge (S : Sem G own nm cc nL R k) {a : Int} {off : Int} {tgt : Nat} (hd : decode cc pc = .ok (.ifCond .ge off, 3)) (ht : (pc : Int) + off = (tgt : Int)) (ha : rg a) (kt : 0 ≤ a → k tgt L st n I ρ x z) (kf : a < 0 → k (pc + 3) L st n I ρ x z) : k pc L (.int (jI a) :: st) n I ρ x z := by
  obtain ⟨p, e, s, m, args, below, meth, c, Q, rfl, hx, hb, hml, hown, hnm, hts, hE, hbs⟩ := S
  intro H locs ls hH hS hl
  exact lv_if_ge hx hb hd ht (fun q => kt ((jI_le rg_0 ha).mp q) H locs ls hH hS hl) (fun q => kf (Int.not_le.mp fun q2 => q ((jI_le rg_0 ha).mpr q2)) H locs ls hH hS hl)

theorem r_icmp_gt (S : Sem G own nm cc nL R k) {a b : Int} {off : Int} {tgt : Nat} (hd : decode cc pc = .ok (.if_icmp .gt off, 3)) (ht : (pc : Int) + off = (tgt : Int)) (ha : rg a) (hc : rg b) (kt : b < a → k tgt L st n I ρ x z) (kf : a ≤ b → k (pc + 3) L st n I ρ x z) : k pc L (.int (jI b) :: .int (jI a) :: st) n I ρ x z := by
  obtain ⟨p, e, s, m, args, below, meth, c, Q, rfl, hx, hb, hml, hown, hnm, hts, hE, hbs⟩ := S
  intro H locs ls hH hS hl
  exact lv_icmp_gt hx hb hd ht (fun q => kt ((jI_lt hc ha).mp q) H locs ls hH hS hl) (fun q => kf (Int.not_lt.mp fun q2 => q ((jI_lt hc ha).mpr q2)) H locs ls hH hS hl)

theorem r_if_gt (S : Sem G own nm cc nL R k) {a : Int} {off : Int} {tgt : Nat} (hd : decode cc pc = .ok (.ifCond .gt off, 3)) (ht : (pc : Int) + off = (tgt : Int)) (ha : rg a) (kt : 0 < a → k tgt L st n I ρ x z) (kf : a ≤ 0 → k (pc + 3) L st n I ρ x z) : k pc L (.int (jI a) :: st) n I ρ x z := by
  obtain ⟨p, e, s, m, args, below, meth, c, Q, rfl, hx, hb, hml, hown, hnm, hts, hE, hbs⟩ := S
  intro H locs ls hH hS hl
  exact lv_if_gt hx hb hd ht (fun q => kt ((jI_lt rg_0 ha).mp q) H locs ls hH hS hl) (fun q => kf (Int.not_lt.mp fun q2 => q ((jI_lt rg_0 ha).mpr q2)) H locs ls hH hS hl)

theorem r_icmp_le (S : Sem G own nm cc nL R k) {a b : Int} {off : Int} {tgt : Nat} (hd : decode cc pc = .ok (.if_icmp .le off, 3)) (ht : (pc : Int) + off = (tgt : Int)) (ha : rg a) (hc : rg b) (kt : a ≤ b → k tgt L st n I ρ x z) (kf : b < a → k (pc + 3) L st n I ρ x z) : k pc L (.int (jI b) :: .int (jI a) :: st) n I ρ x z := by
  obtain ⟨p, e, s, m, args, below, meth, c, Q, rfl, hx, hb, hml, hown, hnm, hts, hE, hbs⟩ := S
  intro H locs ls hH hS hl
  exact lv_icmp_le hx hb hd ht (fun q => kt ((jI_le ha hc).mp q) H locs ls hH hS hl) (fun q => kf (Int.not_le.mp fun q2 => q ((jI_le ha hc).mpr q2)) H locs ls hH hS hl)

theorem r_if_le (S : Sem G own nm cc nL R k) {a : Int} {off : Int} {tgt : Nat} (hd : decode cc pc = .ok (.ifCond .le off, 3)) (ht : (pc : Int) + off = (tgt : Int)) (ha : rg a) (kt : a ≤ 0 → k tgt L st n I ρ x z) (kf : 0 < a → k (pc + 3) L st n I ρ x z) : k pc L (.int (jI a) :: st) n I ρ x z := by
  obtain ⟨p, e, s, m, args, below, meth, c, Q, rfl, hx, hb, hml, hown, hnm, hts, hE, hbs⟩ := S
  intro H locs ls hH hS hl
  exact lv_if_le hx hb hd ht (fun q => kt ((jI_le ha rg_0).mp q) H locs ls hH hS hl) (fun q => kf (Int.not_le.mp fun q2 => q ((jI_le ha rg_0).mpr q2)) H locs ls hH hS hl)

theorem r_ifb_eq (S : Sem G own nm cc nL R k) {P : Prop} [Decidable P] {off : Int} {tgt : Nat} (hd : decode cc pc = .ok (.ifCond .eq off, 3)) (ht : (pc : Int) + off = (tgt : Int)) (kt : ¬ P → k tgt L st n I ρ x z) (kf : P → k (pc + 3) L st n I ρ x z) : k pc L (.int (jI (b2 P)) :: st) n I ρ x z := by
  by_cases h : P
  · refine r_if_eq S hd ht (b2_rg P) (fun q => ?_) (fun q => ?_)
    · first | exact kt h | exact absurd q (by rw [b2_t h]; decide)
    · first | exact kf h | exact absurd (b2_t h) (by rw [q]; decide)
  · refine r_if_eq S hd ht (b2_rg P) (fun q => ?_) (fun q => ?_)
    · first | exact kt h | exact absurd (b2_f h) q
    · first | exact kf h | exact absurd (b2_f h) q

theorem r_ifb_ne (S : Sem G own nm cc nL R k) {P : Prop} [Decidable P] {off : Int} {tgt : Nat} (hd : decode cc pc = .ok (.ifCond .ne off, 3)) (ht : (pc : Int) + off = (tgt : Int)) (kt : P → k tgt L st n I ρ x z) (kf : ¬ P → k (pc + 3) L st n I ρ x z) : k pc L (.int (jI (b2 P)) :: st) n I ρ x z := by
  by_cases h : P
  · refine r_if_ne S hd ht (b2_rg P) (fun q => ?_) (fun q => ?_)
    · first | exact kt h | exact absurd q (by rw [b2_t h]; decide)
    · first | exact kf h | exact absurd (b2_t h) (by rw [q]; decide)
  · refine r_if_ne S hd ht (b2_rg P) (fun q => ?_) (fun q => ?_)
    · first | exact kt h | exact absurd (b2_f h) q
    · first | exact kf h | exact absurd (b2_f h) q

theorem r_istore_n (S : Sem G own nm cc nL R k) {j : Fin 4} {a : Int32} (hd : decode cc pc = .ok (.istore_n j, 1)) (hi : Nat.blt (j : Nat) L.length = true) (hc : c1 L (j : Nat) = true) (kk : k (pc + 1) (L.set (j : Nat) (some (.int a))) st n I ρ x z) : k pc L (.int a :: st) n I ρ x z := by
  obtain ⟨p, e, s, m, args, below, meth, c, Q, rfl, hx, hb, hml, hown, hnm, hts, hE, hbs⟩ := S
  intro H locs ls hH hS hl
  exact lv_istore_n hx hb hd rfl hl (Nat.le_of_ble_eq_true hi) rfl (fun ls' hl' => kk H locs ls' hH hS (Lh.set rfl hl' hc))

theorem r_istore (S : Sem G own nm cc nL R k) {i : Nat} {a : Int32} (hd : decode cc pc = .ok (.istore i, 2)) (hi : Nat.blt i L.length = true) (hc : c1 L i = true) (kk : k (pc + 2) (L.set i (some (.int a))) st n I ρ x z) : k pc L (.int a :: st) n I ρ x z := by
  obtain ⟨p, e, s, m, args, below, meth, c, Q, rfl, hx, hb, hml, hown, hnm, hts, hE, hbs⟩ := S
  intro H locs ls hH hS hl
  exact lv_istore hx hb hd hl (Nat.le_of_ble_eq_true hi) rfl (fun ls' hl' => kk H locs ls' hH hS (Lh.set rfl hl' hc))

theorem r_astore_n (S : Sem G own nm cc nL R k) {j : Fin 4} {a : Nat} (hd : decode cc pc = .ok (.astore_n j, 1)) (hi : Nat.blt (j : Nat) L.length = true) (hc : c1 L (j : Nat) = true) (kk : k (pc + 1) (L.set (j : Nat) (some (.ref a))) st n I ρ x z) : k pc L (.ref a :: st) n I ρ x z := by
  obtain ⟨p, e, s, m, args, below, meth, c, Q, rfl, hx, hb, hml, hown, hnm, hts, hE, hbs⟩ := S
  intro H locs ls hH hS hl
  exact lv_astore_n hx hb hd rfl hl (Nat.le_of_ble_eq_true hi) rfl (fun ls' hl' => kk H locs ls' hH hS (Lh.set rfl hl' hc))

theorem r_iinc (S : Sem G own nm cc nL R k) {i : Nat} {d v : Int} (hd : decode cc pc = .ok (.iinc i d, 3)) (hv : L[i]? = some (some (.int (jI v)))) (hi : Nat.blt i L.length = true) (hc : c1 L i = true) (kk : k (pc + 3) (L.set i (some (.int (jI (v + d))))) st n I ρ x z) : k pc L st n I ρ x z := by
  obtain ⟨p, e, s, m, args, below, meth, c, Q, rfl, hx, hb, hml, hown, hnm, hts, hE, hbs⟩ := S
  intro H locs ls hH hS hl
  obtain ⟨q, hq⟩ := List.getElem?_of_mem (la_iff.mpr hv)
  exact lv_iinc (v := jI (v + d)) hx hb hd hl hq (jI_add v d) (Nat.le_of_ble_eq_true hi) rfl (fun ls' hl' => kk H locs ls' hH hS (Lh.set rfl hl' hc))

theorem r_drop (S : Sem G own nm cc nL R k) (i : Nat) (kk : k pc (L.set i none) st n I ρ x z) : k pc L st n I ρ x z := by
  obtain ⟨p, e, s, m, args, below, meth, c, Q, rfl, hx, hb, hml, hown, hnm, hts, hE, hbs⟩ := S
  intro H locs ls hH hS hl
  exact kk H locs ls hH hS (hl.none i)

theorem r_lstore_n (S : Sem G own nm cc nL R k) {j : Fin 4} {a : Int64} (hd : decode cc pc = .ok (.lstore_n j, 1)) (hi : Nat.blt ((j : Nat) + 1) L.length = true) (hc : c1 L (j : Nat) = true) (kk : k (pc + 1) ((L.set ((j : Nat) + 1) none).set (j : Nat) (some (.long a))) st n I ρ x z) : k pc L (.long a :: st) n I ρ x z := by
  obtain ⟨p, e, s, m, args, below, meth, c, Q, rfl, hx, hb, hml, hown, hnm, hts, hE, hbs⟩ := S
  intro H locs ls hH hS hl
  refine lv_lstore_n hx hb hd rfl hl (Nat.le_of_ble_eq_true hi) rfl (fun ls' hl' => kk H locs ls' hH hS ?_)
  refine ⟨by rw [List.length_set, List.length_set]; exact hl'.1, hl'.2.1, ?_⟩
  rintro ⟨i, w⟩ hq
  rw [la_iff] at hq
  have hlt : (j : Nat) + 1 < L.length := Nat.le_of_ble_eq_true hi
  by_cases e : (j : Nat) = i
  · subst e
    rw [List.getElem?_set_self (by rw [List.length_set]; omega)] at hq
    cases hq
    exact hl'.2.2 _ List.mem_cons_self
  · rw [List.getElem?_set_ne e] at hq
    by_cases e2 : (j : Nat) + 1 = i
    · subst e2
      rw [List.getElem?_set_self hlt] at hq
      cases hq
    · rw [List.getElem?_set_ne e2] at hq
      refine hl'.2.2 _ (List.mem_cons_of_mem _ (List.mem_filter.mpr ⟨la_iff.mpr hq, ?_⟩))
      have e1 : ¬ i = (j : Nat) := fun q => e q.symm
      have e3 : ¬ i = (j : Nat) + 1 := fun q => e2 q.symm
      by_cases e4 : i + 1 = (j : Nat)
      · rw [← e4] at hc
        simp only [c1, hq] at hc
        have : w.category = 1 := by simpa using hc
        simp [this, e1, e3]
      · simp [e1, e3, e4]

theorem r_tableIn (S : Sem G own nm cc nL R k) {a dflt lo hi : Int} {offs : Array Int} {len : Nat} (v : Int) {off : Int} {tgt : Nat} (hd : decode cc pc = .ok (.tableswitch dflt lo hi offs, len)) (hv : a = v) (hg : rg v) (h1 : lo ≤ v) (h2 : v ≤ hi) (ho : offs[(v - lo).toNat]? = some off) (ht : (pc : Int) + off = (tgt : Int)) (kk : k tgt L st n I ρ x z) : k pc L (.int (jI a) :: st) n I ρ x z := by
  obtain ⟨p, e, s, m, args, below, meth, c, Q, rfl, hx, hb, hml, hown, hnm, hts, hE, hbs⟩ := S
  intro H locs ls hH hS hl
  subst hv
  have e1 := jI_toInt hg
  exact lv_tableIn hx hb hd (by rw [e1]; omega) (by rw [e1]; omega) (by rw [e1]; exact ho) ht (kk H locs ls hH hS hl)
theorem r_tableOut (S : Sem G own nm cc nL R k) {a dflt lo hi : Int} {offs : Array Int} {len : Nat} {tgt : Nat} (hd : decode cc pc = .ok (.tableswitch dflt lo hi offs, len)) (hg : rg a) (h1 : a < lo ∨ hi < a) (ht : (pc : Int) + dflt = (tgt : Int)) (kk : k tgt L st n I ρ x z) : k pc L (.int (jI a) :: st) n I ρ x z := by
  obtain ⟨p, e, s, m, args, below, meth, c, Q, rfl, hx, hb, hml, hown, hnm, hts, hE, hbs⟩ := S
  intro H locs ls hH hS hl
  exact lv_tableOut hx hb hd (by rw [jI_toInt hg]; exact h1) ht (kk H locs ls hH hS hl)
theorem r_lookup (S : Sem G own nm cc nL R k) {a dflt : Int} {ps : Array (Int × Int)} {len : Nat} {off : Int} {tgt : Nat} (hd : decode cc pc = .ok (.lookupswitch dflt ps, len)) (hg : rg a) (hp : (ps.toList.zip (ps.toList.drop 1)).all (fun (a, next) => a.1 < next.1) = true) (ho : Op.lookupswitch.offset ps.toList dflt a = off) (ht : (pc : Int) + off = (tgt : Int)) (kk : k tgt L st n I ρ x z) : k pc L (.int (jI a) :: st) n I ρ x z := by
  obtain ⟨p, e, s, m, args, below, meth, c, Q, rfl, hx, hb, hml, hown, hnm, hts, hE, hbs⟩ := S
  intro H locs ls hH hS hl
  exact lv_lookup hx hb hd hp (by rw [jI_toInt hg]; exact ho) ht (kk H locs ls hH hS hl)
theorem r_ifnonnull (S : Sem G own nm cc nL R k) {a : Nat} {off : Int} {tgt : Nat} (hd : decode cc pc = .ok (.ifnonnull off, 3)) (ht : (pc : Int) + off = (tgt : Int)) (kk : k tgt L st n I ρ x z) : k pc L (.ref a :: st) n I ρ x z := by
  obtain ⟨p, e, s, m, args, below, meth, c, Q, rfl, hx, hb, hml, hown, hnm, hts, hE, hbs⟩ := S
  intro H locs ls hH hS hl
  exact lv_ifnonnull hx hb hd ht (kk H locs ls hH hS hl)
theorem r_ifnonnullN (S : Sem G own nm cc nL R k) {off : Int} (hd : decode cc pc = .ok (.ifnonnull off, 3)) (kk : k (pc + 3) L st n I ρ x z) : k pc L (.null :: st) n I ρ x z := by
  obtain ⟨p, e, s, m, args, below, meth, c, Q, rfl, hx, hb, hml, hown, hnm, hts, hE, hbs⟩ := S
  intro H locs ls hH hS hl
  exact lv_ifnonnullN hx hb hd (kk H locs ls hH hS hl)

end
