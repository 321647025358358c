/-! ===== what is made: rows ===== -/
theorem zr_o {I : Iv} {a o : Nat} (h : o ≠ a) : zr I a o = I o := by
  funext j
  unfold zr
  rw [if_neg h]
theorem zr_s (I : Iv) (a : Nat) (j : Int) : zr I a a j = 0 := by
  unfold zr
  rw [if_pos rfl]
theorem zrR_o {ρ : Rv} {a o : Nat} (h : o ≠ a) : zrR ρ a o = ρ o := by
  funext j
  unfold zrR
  rw [if_neg h]
theorem zrR_s (ρ : Rv) (a : Nat) (j : Int) : zrR ρ a a j = none := by
  unfold zrR
  rw [if_pos rfl]
theorem cel_congr {G : GE} {kk : Nat × Nat} {o : Nat} {I I' : Iv} {ρ ρ' : Rv} (e1 : I o = I' o) (e2 : ρ o = ρ' o) : cel G kk o I ρ = cel G kk o I' ρ' := by
  unfold cel flds
  rw [e1, e2]
theorem wst_succ {G : GE} {n : Nat} {I I' : Iv} {ρ ρ' : Rv} (hI : ∀ o, o < n → I' o = I o) (hR : ∀ o, o < n → ρ' o = ρ o) : wst G (n + 1) I' ρ' = wst G n I ρ ++ [(gb G + n, cel G (kd n) n I' ρ')] := by
  unfold wst
  rw [List.range_succ, List.map_append]
  congr 1
  apply List.map_congr_left
  intro o ho
  have h := List.mem_range.mp ho
  rw [cel_congr (hI o h) (hR o h)]
theorem Hp.push {G : GE} {n : Nat} {I I' : Iv} {ρ ρ' : Rv} {H H1 : Heap} (h : Hp G n I ρ H) (hI : ∀ o, o < n → I' o = I o) (hR : ∀ o, o < n → ρ' o = ρ o) (he : va_at (gD G) vwCl (gb G + n, cel G (kd n) n I' ρ') H1) (hz : H1.size = H.size + 1) (oq : ∀ q : Nat, q < H.size → H1[q]? = H[q]?) : Hp G (n + 1) I' ρ' H1 := by
  refine ⟨?_, by rw [hz, h.2]; rfl⟩
  rw [wst_succ hI hR]
  refine (h.1.kept (fun k x hx => oq x.1 ((h.1 k x hx).lt))).app (fun k x hx => ?_)
  have hz1 : k < 1 := (List.getElem?_eq_some_iff.mp hx).1
  rw [show k = 0 by omega] at hx
  cases hx
  exact he
theorem va_S.push {A : Nat → Prop} {H0 H H1 : Heap} {locs : List Loc} (h : va_S A H0 H locs) (hz : H.size ≤ H1.size) (oq : ∀ q : Nat, q < H.size → H1[q]? = H[q]?) : va_S A H0 H1 locs := ⟨Nat.le_trans h.1 hz, fun x h1 h2 => (oq x (Nat.lt_of_lt_of_le h1 h.1)).trans (h.2.1 x h1 h2), h.2.2⟩
/-- of these kinds a field is 0 or null at first -/
def okT (t : FieldType) : Bool := match t with
  | .object _ => true
  | .array _ => true
  | .int => true
  | .boolean => true
  | _ => false
theorem okT_df {t : FieldType} (h : okT t = true) (b : Nat) : defaultValue t = fv b (isR t) 0 none := by
  cases t <;> first | rfl | cases h
section
variable {G : GE} {own nm : String} {cc : ByteArray} {nL : Nat} {R : Room} {k : Kt} {pc : Nat} {L : List (Option Value)} {st : List Value} {n : Nat} {I : Iv} {ρ : Rv} {x z idx : Nat}
theorem k_conv (S : Sem G own nm cc nL R k) {I' : Iv} {ρ' : Rv} (h : ∀ o, o < n → cel G (kd o) o I ρ = cel G (kd o) o I' ρ') (kk : k pc L st n I' ρ' x z) : k pc L st n I ρ x z := by
  obtain ⟨p, e, s, m, args, below, meth, c, Q, rfl, hx, hb, hml, hown, hnm, hts, hE, hbs⟩ := S
  intro H locs ls hH hS hl
  refine kk H locs ls ⟨?_, hH.2⟩ hS hl
  have e : wst G n I' ρ' = wst G n I ρ := by
    unfold wst
    apply List.map_congr_left
    intro o ho
    rw [h o (List.mem_range.mp ho)]
  rw [e]
  exact hH.1
theorem r_newI (S : Sem G own nm cc nL R k) {N : Nat} {a : Int} (ha : a = (N : Int)) (hd : decode cc pc = .ok (.newarray .int, 2)) (hk : kd n = (0, N)) (hN : Nat.ble N 100000 = true) (hR : x + 1 ≤ R.cells ∧ z + N ≤ R.slots) (kk : k (pc + 2) L (.ref (gb G + n) :: st) (n + 1) (zr I n) ρ (x + 1) (z + N)) : k pc L (.int (jI a) :: st) n I ρ x z := by
  obtain ⟨p, e, s, m, args, below, meth, c, Q, rfl, hx, hb, hml, hown, hnm, hts, hE, hbs⟩ := S
  have hN' : N ≤ 100000 := Nat.le_of_ble_eq_true hN
  intro H locs ls hH hS hl
  have hn0 : ¬ jI a < 0 := jI_nn (by omega) (by omega)
  have hcl : (jI a).toNatClampNeg = N := by rw [jI_clamp (by omega) (by omega)]; omega
  refine va_newaK (atype := .int) (N := N) hx hb (hts _ (TBG_in ac_int rfl)) rfl hd rfl hn0 hcl (by show N * 4 ≤ _; omega) hR.1 hR.2 hH.2 (fun H1 cA e1 z1 o1 hAr hNm => ?_)
  have hcA : cA = gA G 0 := Option.some.inj (hNm.symm.trans (hE.1.2 0 _ rfl).2)
  rw [hcA] at e1
  have o1' : ∀ q : Nat, q < H.size → H1[q]? = H[q]? := fun q hq => o1 q (by rw [← hH.2]; exact hq)
  refine kk H1 locs ls (hH.push (fun o ho => zr_o (by omega)) (fun _ _ => rfl) ?_ (by rw [z1, hH.2]) o1') (hS.push (by rw [z1, hH.2]; omega) o1') hl
  rw [cel_i _ _ hk]
  show H1[gb G + n]? = some (vp_cell _ _)
  rw [e1, vp_cell_i]
  congr 2
  funext j
  rw [zr_s]
  rfl
theorem r_newZ (S : Sem G own nm cc nL R k) {N : Nat} {a : Int} (ha : a = (N : Int)) (hd : decode cc pc = .ok (.newarray .boolean, 2)) (hk : kd n = (1, N)) (hN : Nat.ble N 100000 = true) (hR : x + 1 ≤ R.cells ∧ z + N ≤ R.slots) (kk : k (pc + 2) L (.ref (gb G + n) :: st) (n + 1) (zr I n) ρ (x + 1) (z + N)) : k pc L (.int (jI a) :: st) n I ρ x z := by
  obtain ⟨p, e, s, m, args, below, meth, c, Q, rfl, hx, hb, hml, hown, hnm, hts, hE, hbs⟩ := S
  have hN' : N ≤ 100000 := Nat.le_of_ble_eq_true hN
  intro H locs ls hH hS hl
  have hn0 : ¬ jI a < 0 := jI_nn (by omega) (by omega)
  have hcl : (jI a).toNatClampNeg = N := by rw [jI_clamp (by omega) (by omega)]; omega
  refine va_newaK (atype := .boolean) (N := N) hx hb (hts _ (TBG_in ac_boolean rfl)) rfl hd rfl hn0 hcl (by show N * 1 ≤ _; omega) hR.1 hR.2 hH.2 (fun H1 cA e1 z1 o1 hAr hNm => ?_)
  have hcA : cA = gA G 1 := Option.some.inj (hNm.symm.trans (hE.1.2 1 _ rfl).2)
  rw [hcA] at e1
  have o1' : ∀ q : Nat, q < H.size → H1[q]? = H[q]? := fun q hq => o1 q (by rw [← hH.2]; exact hq)
  refine kk H1 locs ls (hH.push (fun o ho => zr_o (by omega)) (fun _ _ => rfl) ?_ (by rw [z1, hH.2]) o1') (hS.push (by rw [z1, hH.2]; omega) o1') hl
  rw [cel_z _ _ hk]
  show H1[gb G + n]? = some (vp_cell _ _)
  rw [e1, vp_cell_i]
  congr 2
  funext j
  rw [zr_s]
  rfl
theorem r_new (S : Sem G own nm cc nL R k) {ci N : Nat} {C : String} {T : u_T} (cl : Cond.classLink own idx C ∈ lw_tbl) (ins : Cond.instantiable C N ∈ lw_tbl) (ini : Cond.initialized C ∈ lw_tbl) (hc : vwCl[ci]? = some (C, T, N)) (hok : nmOk ci T C N) (hdf : ∀ j, j < N → okT (fTy ci j) = true) (hd : decode cc pc = .ok (.new idx, 3)) (hk : kd n = (ci + 3, N)) (hR : x + 1 ≤ R.cells ∧ z + N ≤ R.slots) (kk : k (pc + 3) L (.ref (gb G + n) :: st) (n + 1) (zr I n) (zrR ρ n) (x + 1) (z + N)) : k pc L st n I ρ x z := by
  obtain ⟨p, e, s, m, args, below, meth, c, Q, rfl, hx, hb, hml, hown, hnm, hts, hE, hbs⟩ := S
  intro H locs ls hH hS hl
  have hKn := hE.1.1 ci _ hc
  refine W.newcK hx hb hown (hts _ (TBG_in cl rfl)) (hts _ (TBG_in ins rfl)) (hts _ (TBG_in ini rfl)) rfl hd hR.1 hR.2 hKn.2.1 hH.2 fun H1 kC hkC e1 z1 o1 => ?_
  have o1' : ∀ q : Nat, q < H.size → H1[q]? = H[q]? := fun q hq => o1 q (by rw [← hH.2]; exact hq)
  refine kk H1 locs ls (hH.push (fun o ho => zr_o (by omega)) (fun o ho => zrR_o (by omega)) ?_ (by rw [z1, hH.2]) o1') (hS.push (by rw [z1, hH.2]; omega) o1') hl
  rw [cel_c _ _ hk]
  refine ⟨_, hc, (u_born (fTy ci) hts hok.has hKn hkC e1 hok.2.2.1).to (fun j hj => ?_)⟩
  unfold vp_V
  rw [List.getD_eq_getElem?_getD, flds_at G _ _ hj, zr_s, zrR_s]
  exact okT_df (hdf j hj) (gb G)
end
