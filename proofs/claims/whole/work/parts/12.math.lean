/-! ===== Math.max, min, abs ===== -/
/-- the size of a number -/
def absI (a : Int) : Int := if 0 ≤ a then a else -a
def noNest : Cond → Bool
  | .methodLinkNest _ _ y _ => y.cls != "java/lang/Math"
  | _ => true
theorem noNest_ok : lw_tbl.all noNest = true := by decide +kernel
theorem math_link {own : String} {idx : Nat} {y : MethodName} (h : LkM own idx y) (hy : y.cls = "java/lang/Math") : Cond.methodLink own idx y ∈ lw_tbl := by
  rcases h with h | ⟨host, h⟩
  · exact h
  · have h1 := List.all_eq_true.mp noNest_ok _ h
    simp only [noNest, hy] at h1
    exact absurd h1 (by decide)
theorem mmax_code : Cond.code Lib.Math.max.name Lib.Math.max.code 2 (some .int) ∈ lw_tbl := List.mem_of_getElem? (i := 425) (by decide +kernel)
theorem mmin_code : Cond.code Lib.Math.min.name Lib.Math.min.code 2 (some .int) ∈ lw_tbl := List.mem_of_getElem? (i := 735) (by decide +kernel)
theorem mabs_code : Cond.code Lib.Math.abs.name Lib.Math.abs.code 1 (some .int) ∈ lw_tbl := List.mem_of_getElem? (i := 422) (by decide +kernel)
section
variable {G : GE} {own nm : String} {cc : ByteArray} {nL : Nat} {R : Room} {k : Kt} {pc : Nat} {L : List (Option Value)} {st : List Value} {n : Nat} {I : Iv} {ρ : Rv} {x z idx : Nat}
theorem r_mmax (S : Sem G own nm cc nL R k) {a b : Int} (lk : LkM own idx yJ9_max_7cf53) (ha : rg a) (hb' : rg b) (hfr : 1 ≤ R.frames) (hlo : (st.map fun v => v.category).sum + 13 ≤ R.locals) (hL : L.length = nL) (hcs : x ≤ R.cells ∧ z ≤ R.slots) (hd : decode cc pc = .ok (.invokestatic idx, 3)) (kk : k (pc + 3) L (.int (jI (max a b)) :: st) n I ρ x z) : k pc L (.int (jI b) :: .int (jI a) :: st) n I ρ x z := by
  obtain ⟨p, e, s, m, args, below, meth, c, Q, rfl, hx, hb, hml, hown, hnm, hts, hE, hbs⟩ := S
  intro H locs ls hH hS hl
  refine va_mmax hx hb (by rw [hml, ← hL]; exact hl.1.symm) hown (hts _ (TBG_in (math_link lk rfl) rfl)) (hts _ (TBG_in mk_J9_max_7cf53.2 rfl)) (hts _ (TBG_in mk_J9_max_7cf53.1.2.1 rfl)) (hts _ (TBG_in mmax_code rfl)) hfr hlo hcs.1 hcs.2 hd ?_
  have e1 : (if jI a < jI b then jI b else jI a) = jI (max a b) := by
    by_cases h : a < b
    · rw [if_pos ((jI_lt ha hb').mpr h)]
      congr 1
      omega
    · rw [if_neg (fun q => h ((jI_lt ha hb').mp q))]
      congr 1
      omega
  rw [e1]
  exact kk H locs ls hH hS hl
theorem r_mmin (S : Sem G own nm cc nL R k) {a b : Int} (lk : LkM own idx yJ9_min_7cf53) (ha : rg a) (hb' : rg b) (hfr : 1 ≤ R.frames) (hlo : (st.map fun v => v.category).sum + 13 ≤ R.locals) (hL : L.length = nL) (hcs : x ≤ R.cells ∧ z ≤ R.slots) (hd : decode cc pc = .ok (.invokestatic idx, 3)) (kk : k (pc + 3) L (.int (jI (min a b)) :: st) n I ρ x z) : k pc L (.int (jI b) :: .int (jI a) :: st) n I ρ x z := by
  obtain ⟨p, e, s, m, args, below, meth, c, Q, rfl, hx, hb, hml, hown, hnm, hts, hE, hbs⟩ := S
  intro H locs ls hH hS hl
  refine va_mmin hx hb (by rw [hml, ← hL]; exact hl.1.symm) hown (hts _ (TBG_in (math_link lk rfl) rfl)) (hts _ (TBG_in mk_J9_min_7cf53.2 rfl)) (hts _ (TBG_in mk_J9_min_7cf53.1.2.1 rfl)) (hts _ (TBG_in mmin_code rfl)) hfr hlo hcs.1 hcs.2 hd ?_
  have e1 : (if jI b < jI a then jI b else jI a) = jI (min a b) := by
    by_cases h : b < a
    · rw [if_pos ((jI_lt hb' ha).mpr h)]
      congr 1
      omega
    · rw [if_neg (fun q => h ((jI_lt hb' ha).mp q))]
      congr 1
      omega
  rw [e1]
  exact kk H locs ls hH hS hl
theorem r_mabs (S : Sem G own nm cc nL R k) {a : Int} (lk : LkM own idx yJ9_abs_0f7a4) (ha : rg a) (hfr : 1 ≤ R.frames) (hlo : (st.map fun v => v.category).sum + 13 ≤ R.locals) (hL : L.length = nL) (hcs : x ≤ R.cells ∧ z ≤ R.slots) (hd : decode cc pc = .ok (.invokestatic idx, 3)) (kk : k (pc + 3) L (.int (jI (absI a)) :: st) n I ρ x z) : k pc L (.int (jI a) :: st) n I ρ x z := by
  obtain ⟨p, e, s, m, args, below, meth, c, Q, rfl, hx, hb, hml, hown, hnm, hts, hE, hbs⟩ := S
  intro H locs ls hH hS hl
  refine va_mabs hx hb (by rw [hml, ← hL]; exact hl.1.symm) hown (hts _ (TBG_in (math_link lk rfl) rfl)) (hts _ (TBG_in mk_J9_abs_0f7a4.2 rfl)) (hts _ (TBG_in mk_J9_abs_0f7a4.1.2.1 rfl)) (hts _ (TBG_in mabs_code rfl)) hfr hlo hcs.1 hcs.2 hd ?_
  have e1 : (if 0 ≤ jI a then jI a else 0 - jI a) = jI (absI a) := by
    unfold absI
    rw [← jI_0]
    by_cases h : 0 ≤ a
    · rw [if_pos ((jI_le rg_0 ha).mpr h), if_pos h]
    · rw [if_neg (fun q => h ((jI_le rg_0 ha).mp q)), if_neg h, jI_sub, Int.zero_sub]
  rw [e1]
  exact kk H locs ls hH hS hl
end
