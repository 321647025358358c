/-! ===== copying a stretch of an int[] ===== -/
/-- a stretch of o0 laid into o1 -/
def cpI (I : Iv) (o0 o1 : Nat) (sp dp len : Int) : Iv := fun o j => if o = o1 ∧ dp ≤ j ∧ j < dp + len then I o0 (sp + (j - dp)) else I o j
theorem cpI_o {I : Iv} {o0 o1 : Nat} {sp dp len : Int} {o : Nat} (h : o ≠ o1) : cpI I o0 o1 sp dp len o = I o := by
  funext j
  unfold cpI
  rw [if_neg (fun q => h q.1)]
theorem cpI_in {I : Iv} {o0 o1 : Nat} {sp dp len j : Int} (h0 : dp ≤ j) (h1 : j < dp + len) : cpI I o0 o1 sp dp len o1 j = I o0 (sp + (j - dp)) := if_pos ⟨rfl, h0, h1⟩
theorem cpI_out {I : Iv} {o0 o1 : Nat} {sp dp len j : Int} (h : j < dp ∨ dp + len ≤ j) : cpI I o0 o1 sp dp len o1 j = I o1 j := if_neg (by omega)
theorem cp_stat : Cond.static arraycopyName ∈ lw_tbl := List.mem_of_getElem? (i := 758) (by decide +kernel)
theorem cp_nat : Cond.native arraycopyName ∈ lw_tbl := List.mem_of_getElem? (i := 759) (by decide +kernel)
theorem cp_ini : Cond.initialized "java/lang/System" ∈ lw_tbl := List.mem_of_getElem? (i := 72) (by decide +kernel)
section
variable {G : GE} {own nm : String} {cc : ByteArray} {nL : Nat} {R : Room} {k : Kt} {pc : Nat} {L : List (Option Value)} {st : List Value} {n : Nat} {I : Iv} {ρ : Rv} {x z idx : Nat}
theorem jI_nn {a : Int} (h0 : 0 ≤ a) (h1 : a ≤ 2147483647) : ¬ jI a < 0 := by
  intro h
  rw [← jI_0, jI_lt ⟨by omega, by omega⟩ rg_0] at h
  omega
theorem r_copy (S : Sem G own nm cc nL R k) {o0 o1 N0 N1 : Nat} {sp dp len : Int} (lk : Cond.methodLink own idx arraycopyName ∈ lw_tbl) (k0 : kd o0 = (0, N0)) (k1 : kd o1 = (0, N1)) (hN0 : Nat.ble N0 2147483647 = true) (hN1 : Nat.ble N1 2147483647 = true) (ho0 : o0 < n) (ho1 : o1 < n) (s0 : 0 ≤ sp) (d0 : 0 ≤ dp) (l0 : 0 ≤ len) (hs : sp + len ≤ N0) (hdl : dp + len ≤ N1) (hfr : 1 ≤ R.frames) (hlo : (st.map fun v => v.category).sum + (nativeFrameWords "java/lang/System" "arraycopy" 5 + 11) ≤ R.locals) (hL : L.length = nL) (hd : decode cc pc = .ok (.invokestatic idx, 3)) (kk : k (pc + 3) L st n (cpI I o0 o1 sp dp len) ρ x z) : k pc L (.int (jI len) :: .int (jI dp) :: .ref (gb G + o1) :: .int (jI sp) :: .ref (gb G + o0) :: st) n I ρ x z := by
  obtain ⟨p, e, s, m, args, below, meth, c, Q, rfl, hx, hb, hml, hown, hnm, hts, hE, hbs⟩ := S
  have hM0 : N0 ≤ 2147483647 := Nat.le_of_ble_eq_true hN0
  have hM1 : N1 ≤ 2147483647 := Nat.le_of_ble_eq_true hN1
  have cs := jI_clamp s0 (by omega)
  have cd' := jI_clamp d0 (by omega)
  have cl' := jI_clamp l0 (by omega)
  intro H locs ls hH hS hl T hT X
  have he0 : (wst G n I ρ)[o0]? = some (gb G + o0, .inl (gA G 0, N0, .inl (fun j => jI (I o0 (j : Int))))) := by rw [wst_get G I ρ ho0, cel_i I ρ k0]
  have he1 : (wst G n I ρ)[o1]? = some (gb G + o1, .inl (gA G 0, N1, .inl (fun j => jI (I o1 (j : Int))))) := by rw [wst_get G I ρ ho1, cel_i I ρ k1]
  have c0 : H[gb G + o0]? = some (vp_cell (gA G 0) (N0, .inl (fun j => jI (I o0 (j : Int))))) := hH.1 o0 _ he0
  have c1 : H[gb G + o1]? = some (vp_cell (gA G 0) (N1, .inl (fun j => jI (I o1 (j : Int))))) := hH.1 o1 _ he1
  obtain ⟨-, q0, hq0, cm0, hqk0⟩ := (hE.1.2 0 _ rfl).1 N0 (fun j => .int (jI (I o0 (j : Int))))
  obtain ⟨-, q1, hq1, cm1, hqk1⟩ := (hE.1.2 0 _ rfl).1 N1 (fun j => .int (jI (I o1 (j : Int))))
  obtain ⟨vm', X', step⟩ := X.arraycopy hx hown (hts _ (TBG_in lk rfl)) (hts _ (TBG_in cp_nat rfl)) (hts _ (TBG_in cp_stat rfl)) (hts _ (TBG_in cp_ini rfl)) (src := gb G + o0) (dst := gb G + o1) (cs := vp_cell (gA G 0) (N0, .inl (fun j => jI (I o0 (j : Int))))) (cd := vp_cell (gA G 0) (N1, .inl (fun j => jI (I o1 (j : Int))))) (srcPos := jI sp) (destPos := jI dp) (n := jI len) (by rw [hT]; exact c0) (by rw [hT]; exact c1) (fun _ h => by cases h) (fun _ h => by cases h) (fun h => by cases h) (fun h => by cases h) hq0 hq1 hqk0 hqk1 (by simp [refKind]) (jI_nn s0 (by omega)) (jI_nn d0 (by omega)) (jI_nn l0 (by omega))
    (by rw [jI_toInt ⟨by omega, by omega⟩, jI_toInt ⟨by omega, by omega⟩]; show ¬ _ > ((arrV _ N0 _).slots.size : Int); rw [arrV_size]; omega)
    (by rw [jI_toInt ⟨by omega, by omega⟩, jI_toInt ⟨by omega, by omega⟩]; show ¬ _ > ((arrV _ N1 _).slots.size : Int); rw [arrV_size]; omega)
    (fun _ _ i hi => by
      have ev : (vp_cell (gA G 0) (N0, .inl (fun j => jI (I o0 (j : Int))))).slots.getD ((jI sp).toNatClampNeg + i) .null = .int (jI (I o0 (((jI sp).toNatClampNeg + i : Nat) : Int))) := by
        show (arrV _ N0 _).slots.getD _ _ = _
        rw [Array.getD_eq_getD_getElem?, arrV_read _ _ (by rw [cs]; rw [cl'] at hi; omega)]
        rfl
      rw [ev]
      exact ⟨rfl, trivial⟩)
    (g := F0 m pc ls (.int (jI len) :: .int (jI dp) :: .ref (gb G + o1) :: .int (jI sp) :: .ref (gb G + o0) :: st)) rfl (by rw [hml, ← hL]; exact hl.1) (rest := st) rfl (by rw [hb]; exact hd) hfr (by show 2 * 0 + _ + _ ≤ _; omega)
  have ec : copied (vp_cell (gA G 0) (N0, .inl (fun j => jI (I o0 (j : Int))))) (vp_cell (gA G 0) (N1, .inl (fun j => jI (I o1 (j : Int))))) (jI sp) (jI dp) (jI len) = vp_cell (gA G 0) (N1, .inl (fun j => jI (cpI I o0 o1 sp dp len o1 (j : Int)))) := by
    have h1 := va_copied (fun z => Value.int z) (gA G 0) (gA G 0) (n0 := N0) (n1 := N1) (sp := (jI sp).toNatClampNeg) (dp := (jI dp).toNatClampNeg) (n := (jI len).toNatClampNeg) (fun j => jI (I o0 (j : Int))) (fun j => jI (I o1 (j : Int))) (by rw [cs, cl']; omega)
    refine h1.trans ?_
    rw [vp_cell_i]
    congr 1
    funext j
    congr 1
    unfold va_cpy cpI
    rw [cs, cd', cl']
    by_cases h : dp.toNat ≤ j ∧ j < dp.toNat + len.toNat
    · rw [if_pos h, if_pos ⟨rfl, by omega, by omega⟩]
      have e2 : ((sp.toNat + (j - dp.toNat) : Nat) : Int) = sp + ((j : Int) - dp) := by omega
      rw [← e2]
    · rw [if_neg h, if_neg (fun q => h (by omega))]
  rw [ec] at X' step
  have hlt : gb G + o1 < H.size := by rw [hH.2]; omega
  have oq : ∀ q : Nat, q ≠ gb G + o1 → (H.setIfInBounds (gb G + o1) (vp_cell (gA G 0) (N1, .inl (fun j => jI (cpI I o0 o1 sp dp len o1 (j : Int))))))[q]? = H[q]? := fun q hq => by simp [Array.getElem?_setIfInBounds, Ne.symm hq]
  have hz : (H.setIfInBounds (gb G + o1) (vp_cell (gA G 0) (N1, .inl (fun j => jI (cpI I o0 o1 sp dp len o1 (j : Int)))))).size = H.size := by simp
  have hP1 : Hp G n (cpI I o0 o1 sp dp len) ρ (H.setIfInBounds (gb G + o1) (vp_cell (gA G 0) (N1, .inl (fun j => jI (cpI I o0 o1 sp dp len o1 (j : Int)))))) := by
    refine hH.set ho1 (fun o' h => cpI_o h) (fun _ _ => rfl) ?_ hz oq
    rw [cel_i _ _ k1]
    show (H.setIfInBounds (gb G + o1) _)[gb G + o1]? = some (vp_cell _ _)
    simp [Array.getElem?_setIfInBounds, hlt]
  obtain ⟨t, a1, b1⟩ := kk _ _ ls hP1 ⟨by rw [hz]; exact hS.1, fun q g1 g2 => by rw [oq q (fun e => g2 (by rw [e]; exact Nat.le_add_right _ _))]; exact hS.2.1 q g1 g2, fun q hq => by
    rcases List.mem_append.mp hq with h | h
    · exact hS.2.2 q h
    · obtain ⟨y, -, hy⟩ := List.mem_map.mp h
      rw [← hy]
      exact Nat.le_add_right _ _⟩ hl _ (by rw [← hT]; rfl) X'
  exact ⟨t, step t a1, b1⟩
end
theorem rst_row_19 (bk dr : Nat) (pt : Option Nat) {i : Nat} (h : i < 8) : rst bk dr pt 19 (i : Int) = some (20 + i) := if_pos ⟨by omega, by omega⟩
theorem rst_row_28 (bk dr : Nat) (pt : Option Nat) {i : Nat} (h : i < 8) : rst bk dr pt 28 (i : Int) = some (29 + i) := if_pos ⟨by omega, by omega⟩
theorem rst_row_40 (bk dr : Nat) (pt : Option Nat) {i : Nat} (h : i < 9) : rst bk dr pt 40 (i : Int) = some (41 + i) := if_pos ⟨by omega, by omega⟩
theorem kd_near {i : Nat} (h : i < 8) : kd (20 + i) = (0, 8) := by
  have : i = 0 ∨ i = 1 ∨ i = 2 ∨ i = 3 ∨ i = 4 ∨ i = 5 ∨ i = 6 ∨ i = 7 := by omega
  rcases this with rfl | rfl | rfl | rfl | rfl | rfl | rfl | rfl <;> rfl
theorem kd_ties {i : Nat} (h : i < 8) : kd (29 + i) = (0, 8) := by
  have : i = 0 ∨ i = 1 ∨ i = 2 ∨ i = 3 ∨ i = 4 ∨ i = 5 ∨ i = 6 ∨ i = 7 := by omega
  rcases this with rfl | rfl | rfl | rfl | rfl | rfl | rfl | rfl <;> rfl
theorem kd_pull {i : Nat} (h : i < 9) : kd (41 + i) = (0, 64) := by
  have : i = 0 ∨ i = 1 ∨ i = 2 ∨ i = 3 ∨ i = 4 ∨ i = 5 ∨ i = 6 ∨ i = 7 ∨ i = 8 := by omega
  rcases this with rfl | rfl | rfl | rfl | rfl | rfl | rfl | rfl | rfl <;> rfl
