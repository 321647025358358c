/-! ===== rows of rows ===== -/
theorem Hp.grow {G : GE} {n m : Nat} {I I' : Iv} {ρ ρ' : Rv} {H H1 : Heap} (h : Hp G n I ρ H) (hI : ∀ o, o < n → I' o = I o) (hR : ∀ o, o < n → ρ' o = ρ o) (he : ∀ i, i < m → va_at (gD G) vwCl (gb G + (n + i), cel G (kd (n + i)) (n + i) I' ρ') H1) (hz : H1.size = H.size + m) (oq : ∀ q : Nat, q < H.size → H1[q]? = H[q]?) : Hp G (n + m) I' ρ' H1 := by
  refine ⟨fun k q hk => ?_, by rw [hz, h.2]; omega⟩
  obtain ⟨hlt, rfl⟩ := wst_inv hk
  by_cases hkn : k < n
  · have h1 := h.1 k _ (wst_get G I ρ hkn)
    have h2 := h1.kept (oq (gb G + k) (by rw [h.2]; omega))
    rw [cel_congr (hI k hkn) (hR k hkn)]
    exact h2
  · have h1 := he (k - n) (by omega)
    rw [show n + (k - n) = k by omega] at h1
    exact h1
theorem va_arrV_congr {c : ClassId} {N : Nat} {f g : Nat → Value} (h : ∀ j, j < N → f j = g j) : arrV c N f = arrV c N g := by
  unfold arrV
  congr 1
  congr 1
  funext j
  exact h j.val j.isLt
/-- I, but 0 from object a up to b -/
def zrN (I : Iv) (a b : Nat) : Iv := fun o i => if a ≤ o ∧ o < b then 0 else I o i
/-- ρ, but object a holds the N that come behind it -/
def mulR (ρ : Rv) (a N : Nat) : Rv := fun o i => if o = a then nvRows (a + 1) N i else ρ o i
section
variable {G : GE} {own nm : String} {cc : ByteArray} {nL : Nat} {R : Room} {k : Kt} {pc : Nat} {L : List (Option Value)} {st : List Value} {n : Nat} {I : Iv} {ρ : Rv} {x z idx : Nat}
theorem r_multi (S : Sem G own nm cc nL R k) {N M : Nat} (cl : Cond.classLink own idx "[[I" ∈ lw_tbl) (hd : decode cc pc = .ok (.multianewarray idx 2, 4)) (hk : kd n = (2, N)) (hkr : ∀ i, i < N → kd (n + 1 + i) = (0, M)) (hN0 : 0 < N) (hN : N ≤ 1000) (hM : M ≤ 1000) (hR : x + (1 + N) ≤ R.cells ∧ z + (N + N * M) ≤ R.slots) (kk : k (pc + 4) L (.ref (gb G + n) :: st) (n + (1 + N)) (zrN I n (n + (1 + N))) (mulR ρ n N) (x + 1 + N) (z + N + N * M)) : k pc L (.int (jI (M : Int)) :: .int (jI (N : Int)) :: st) n I ρ x z := by
  obtain ⟨p, e, s, m, args, below, meth, c, Q, rfl, hx, hb, hml, hown, hnm, hts, hE, hbs⟩ := S
  intro H locs ls hH hS hl T hT X
  have cN : (jI (N : Int)).toNatClampNeg = N := by rw [jI_clamp (by omega) (by omega)]; omega
  have cM : (jI (M : Int)).toNatClampNeg = M := by rw [jI_clamp (by omega) (by omega)]; omega
  have hover : (Cond.arrayOver (.array .int)).before args s = true := hE.2.2.1
  obtain ⟨vm₁, cA, comp, hfA, hfC, X1, step⟩ := ml_multi X hx hown (hts _ (TBG_in cl rfl)) hover (hts _ (TBG_in ac_int rfl)) (g := F0 m pc ls (.int (jI (M : Int)) :: .int (jI (N : Int)) :: st)) rfl (by rw [hb]; exact hd) rfl (jI_nn (by omega) (by omega)) (jI_nn (by omega) (by omega)) cN cM hN0 hN hM hR.1 hR.2
  have hcA : cA = gA G 2 := Option.some.inj (hfA.symm.trans (hE.1.2 2 _ rfl).2)
  have hcI : comp = gA G 0 := Option.some.inj (hfC.symm.trans (hE.1.2 0 _ rfl).2)
  rw [hcA, hcI] at X1 step
  obtain ⟨F, eF⟩ : ∃ F, F = mlS (T.setVm vm₁) (gA G 2) (gA G 0) N M N := ⟨_, rfl⟩
  rw [← eF] at X1 step
  have hs : (T.setVm vm₁).heap = H := hT
  have hsz : (T.setVm vm₁).heap.size = gb G + n := by rw [hs]; exact hH.2
  have f1 := mlS_size (T.setVm vm₁) (gA G 2) (gA G 0) N M N
  have f2 := mlS_outer (T.setVm vm₁) (gA G 2) (gA G 0) N M N
  rw [← eF, hsz] at f1 f2
  have fo : ∀ q : Nat, q < H.size → F.heap[q]? = H[q]? := fun q hq => by
    have := mlS_old (T.setVm vm₁) (gA G 2) (gA G 0) N M q (by rw [hs]; exact hq) N
    rw [← eF, hs] at this
    exact this
  have fi : ∀ j, j < N → F.heap[gb G + n + 1 + j]? = some (arrV (gA G 0) M (fun _ => .int 0)) := fun j hj => by
    have := mlS_inner (T.setVm vm₁) (gA G 2) (gA G 0) N M N j hj
    rw [← eF, hsz] at this
    exact this
  have hP1 : Hp G (n + (1 + N)) (zrN I n (n + (1 + N))) (mulR ρ n N) F.heap := by
    refine hH.grow (fun o ho => ?_) (fun o ho => ?_) (fun i hi => ?_) (by rw [f1, hH.2]; omega) fo
    · funext j
      unfold zrN
      rw [if_neg (by omega)]
    · funext j
      unfold mulR
      rw [if_neg (by omega)]
    · rcases Nat.eq_zero_or_pos i with h0 | h0
      · rw [h0, Nat.add_zero, cel_q _ _ hk]
        show F.heap[gb G + n]? = some (vp_cell _ _)
        rw [f2, vp_cell_q]
        unfold mlC
        congr 1
        refine (va_arrV_congr (fun j hj => ?_))
        rw [if_pos hj]
        have e1 : mulR ρ n N n (j : Int) = some (n + 1 + j) := by
          unfold mulR nvRows
          rw [if_pos rfl, if_pos (by omega)]
          rfl
        rw [e1]
        show Value.ref (gb G + n + 1 + j) = Value.ref (gb G + (n + 1 + j))
        rw [show gb G + n + 1 + j = gb G + (n + 1 + j) by omega]
      · obtain ⟨j, rfl⟩ : ∃ j, i = 1 + j := ⟨i - 1, by omega⟩
        rw [show n + (1 + j) = n + 1 + j by omega, cel_i _ _ (hkr j (by omega))]
        show F.heap[gb G + (n + 1 + j)]? = some (vp_cell _ _)
        rw [show gb G + (n + 1 + j) = gb G + n + 1 + j by omega, fi j (by omega), vp_cell_i]
        congr 2
        funext q
        unfold zrN
        rw [if_pos (by omega)]
        rfl
  obtain ⟨t, a1, b1⟩ := kk F.heap locs ls hP1 (hS.push (by rw [f1, hH.2]; omega) fo) hl F rfl X1
  refine ⟨t, step t ?_, b1⟩
  rw [show T.heap.size = gb G + n by rw [hT]; exact hH.2]
  exact a1
end
