/-! ===== classes and links ===== -/
def nmOk (ci : Nat) (T : u_T) (C : String) (N : Nat) : Prop := (∀ w ∈ u_ws C T N, w ∈ lw_tbl) ∧ (u_ws C T N).all goodWord = true ∧ (∀ k, k < N → parseFieldDescriptor (T k).2.2.1 = some (fTy ci k)) ∧ (∀ a, a < N → ∀ b, b < N → a ≠ b → (T a).2.1 ≠ (T b).2.1) ∧ ∀ k, k < N → (T k).1 = C
theorem nmOk.has {ci : Nat} {T : u_T} {C : String} {N : Nat} (h : nmOk ci T C N) : ∀ w ∈ u_ws C T N, w ∈ TBG := fun w hw => TBG_in (h.1 w hw) (List.all_eq_true.mp h.2.1 w hw)
def fFin (ci k : Nat) : Bool := (nvTT.getD ci TX0 k).2.2.2
/-- in class own, pool place idx is field kf (as a number i) of class ci; r: it holds a reference -/
def LkF (own : String) (idx ci kf : Nat) (i : Int) (r : Bool) : Prop := ∃ C T N, vwCl[ci]? = some (C, T, N) ∧ nmOk ci T C N ∧ (T kf).2.2.2 = fFin ci kf ∧ kf < N ∧ (kf : Int) = i ∧ isR (fTy ci kf) = r ∧ (Cond.fieldLink own idx C (T kf).2.1 (T kf).2.2.1 ∈ lw_tbl ∨ ∃ host, Cond.fieldLinkNest own idx C (T kf).2.1 (T kf).2.2.1 host ∈ lw_tbl)
def LkM (own : String) (idx : Nat) (y : MethodName) : Prop := Cond.methodLink own idx y ∈ lw_tbl ∨ ∃ host, Cond.methodLinkNest own idx y host ∈ lw_tbl
def MkB (y : MethodName) (bytes : ByteArray) (mL : Nat) (ret : Option FieldType) (na : Nat) : Prop := Cond.code y bytes mL ret ∈ lw_tbl ∧ Cond.initialized y.cls ∈ lw_tbl ∧ (y.cls ≠ "java/lang/invoke/MethodHandle" ∧ y.cls ≠ "java/lang/invoke/VarHandle" ∧ (parseMethodDescriptor y.desc).map (fun d => d.parameters.length) = some na)
def MkS (y : MethodName) (bytes : ByteArray) (mL : Nat) (ret : Option FieldType) (na : Nat) : Prop := MkB y bytes mL ret na ∧ Cond.static y ∈ lw_tbl
def MkV (y : MethodName) (bytes : ByteArray) (mL : Nat) (ret : Option FieldType) (na : Nat) : Prop := MkB y bytes mL ret na ∧ Cond.instanceMethod y ∈ lw_tbl ∧ Cond.selects y.cls y y ∈ lw_tbl
def MkI (y : MethodName) (bytes : ByteArray) (mL na : Nat) : Prop := MkB y bytes mL none na ∧ y.name = "<init>" ∧ Cond.instanceMethod y ∈ lw_tbl
/-! ===== cells ===== -/
theorem cel_c {G : GE} {o ci N : Nat} (I : Iv) (ρ : Rv) (hk : kd o = (ci + 3, N)) : cel G (kd o) o I ρ = .inr (ci, flds G ci N o I ρ) := by rw [hk]; rfl
theorem cel_i {G : GE} {o N : Nat} (I : Iv) (ρ : Rv) (hk : kd o = (0, N)) : cel G (kd o) o I ρ = .inl (gA G 0, N, .inl (fun j => jI (I o (j : Int)))) := by rw [hk]; rfl
theorem cel_z {G : GE} {o N : Nat} (I : Iv) (ρ : Rv) (hk : kd o = (1, N)) : cel G (kd o) o I ρ = .inl (gA G 1, N, .inl (fun j => jI (I o (j : Int)))) := by rw [hk]; rfl
theorem cel_q {G : GE} {o N : Nat} (I : Iv) (ρ : Rv) (hk : kd o = (2, N)) : cel G (kd o) o I ρ = .inl (gA G 2, N, .inr (.inr (.inr (.inr (fun j => (ρ o (j : Int)).map (gb G + ·)))))) := by rw [hk]; rfl
theorem flds_at (G : GE) {ci N o k : Nat} (I : Iv) (ρ : Rv) (h : k < N) : (flds G ci N o I ρ)[k]? = some (fv (gb G) (isR (fTy ci k)) (I o (k : Int)) (ρ o (k : Int))) := by simp [flds, h]
theorem flds_len (G : GE) (ci N o : Nat) (I : Iv) (ρ : Rv) : (flds G ci N o I ρ).length = N := by simp [flds]
theorem flds_setI {G : GE} {ci N o k : Nat} {I : Iv} {ρ : Rv} {v : Int} (hr : isR (fTy ci k) = false) : (flds G ci N o I ρ).set k (.int (jI v)) = flds G ci N o (up I o (k : Int) v) ρ := by
  apply List.ext_getElem?
  intro j
  by_cases h : j < N
  · rw [flds_at G _ ρ h]
    by_cases e : k = j
    · subst e
      rw [List.getElem?_set_self (by rw [flds_len]; exact h), hr, up_s]
      rfl
    · rw [List.getElem?_set_ne e, flds_at G I ρ h, up_i (by omega)]
  · rw [List.getElem?_eq_none (by rw [List.length_set, flds_len]; omega), List.getElem?_eq_none (by rw [flds_len]; omega)]
theorem flds_setR {G : GE} {ci N o k : Nat} {I : Iv} {ρ : Rv} {v : Option Nat} (hr : isR (fTy ci k) = true) : (flds G ci N o I ρ).set k (va_rf (v.map (gb G + ·))) = flds G ci N o I (upR ρ o (k : Int) v) := by
  apply List.ext_getElem?
  intro j
  by_cases h : j < N
  · rw [flds_at G _ _ h]
    by_cases e : k = j
    · subst e
      rw [List.getElem?_set_self (by rw [flds_len]; exact h), hr, upR_s]
      rfl
    · rw [List.getElem?_set_ne e, flds_at G I ρ h, upR_n (Or.inr (by omega))]
  · rw [List.getElem?_eq_none (by rw [List.length_set, flds_len]; omega), List.getElem?_eq_none (by rw [flds_len]; omega)]
theorem arr_upd {I : Iv} {o : Nat} {i v : Int} (h0 : 0 ≤ i) (h1 : i ≤ 2147483647) : upd (fun (j : Nat) => jI (I o (j : Int))) (jI i).toNatClampNeg (jI v) = fun (j : Nat) => jI (up I o i v o (j : Int)) := by
  funext j
  rw [jI_clamp h0 h1]
  unfold upd up
  by_cases e : j = i.toNat
  · rw [if_pos e, if_pos ⟨rfl, by omega⟩]
  · rw [if_neg e, if_neg (fun q => e (by omega))]
theorem Hp.set {G : GE} {n o : Nat} {I I' : Iv} {ρ ρ' : Rv} {H H1 : Heap} (h : Hp G n I ρ H) (ho : o < n) (hI : ∀ o', o' ≠ o → I' o' = I o') (hR : ∀ o', o' ≠ o → ρ' o' = ρ o') (he : va_at (gD G) vwCl (gb G + o, cel G (kd o) o I' ρ') H1) (hz : H1.size = H.size) (oq : ∀ q : Nat, q ≠ gb G + o → H1[q]? = H[q]?) : Hp G n I' ρ' H1 := by
  refine ⟨?_, by rw [hz]; exact h.2⟩
  have h1 := h.1.set (wst_D G n I ρ) (wst_get G I ρ ho) he oq
  rw [wst_set hI hR rfl] at h1
  exact h1
section
variable {G : GE} {own nm : String} {cc : ByteArray} {nL : Nat} {R : Room} {k : Kt} {pc : Nat} {L : List (Option Value)} {st : List Value} {n : Nat} {I : Iv} {ρ : Rv} {x z : Nat}
theorem r_getV (S : Sem G own nm cc nL R k) {idx ci kf N o : Nat} {i : Int} {r : Bool} (fl : LkF own idx ci kf i r) (hd : decode cc pc = .ok (.getfield idx, 3)) (hk : kd o = (ci + 3, N)) (hf : Nat.blt kf N = true) (ho : o < n) (kk : k (pc + 3) L (fv (gb G) r (I o i) (ρ o i) :: st) n I ρ x z) : k pc L (.ref (gb G + o) :: st) n I ρ x z := by
  obtain ⟨p, e, s, m, args, below, meth, c, Q, rfl, hx, hb, hml, hown, hnm, hts, hE, hbs⟩ := S
  intro H locs ls hH hS hl
  obtain ⟨C, T, N0, hc, hok, -, hlt, rfl, rfl, hlink⟩ := fl
  have he : (wst G n I ρ)[o]? = some (gb G + o, .inr (ci, flds G ci N o I ρ)) := by rw [wst_get G I ρ ho, cel_c I ρ hk]
  have hv := flds_at G (ci := ci) (o := o) I ρ (Nat.le_of_ble_eq_true hf : kf < N)
  rcases hlink with h | ⟨host, h⟩
  · exact va_get hx hb hts hok.has hown hE.1 hH.1 o he hc kf hlt (hts _ (TBG_in h rfl)) (fun q hq => by rw [hok.2.2.2.2 kf hlt] at hq; exact hq) hv hd (kk H locs ls hH hS hl)
  · exact va_getN hx hb hts hok.has hown hE.1 hH.1 o he hc kf hlt (va_Nw.use rfl (hE.2.1 _ (NST_in h rfl))) (fun q hq => by rw [hok.2.2.2.2 kf hlt] at hq; exact hq) hv hd (kk H locs ls hH hS hl)
theorem r_getI (S : Sem G own nm cc nL R k) {idx ci kf N o : Nat} {i : Int} (fl : LkF own idx ci kf i false) (hd : decode cc pc = .ok (.getfield idx, 3)) (hk : kd o = (ci + 3, N)) (hf : Nat.blt kf N = true) (ho : o < n) {v : Int} (hv : I o i = v) (kk : k (pc + 3) L (.int (jI v) :: st) n I ρ x z) : k pc L (.ref (gb G + o) :: st) n I ρ x z := by
  subst hv
  exact r_getV S fl hd hk hf ho kk
theorem r_getR (S : Sem G own nm cc nL R k) {idx ci kf N o : Nat} {i : Int} (fl : LkF own idx ci kf i true) (hd : decode cc pc = .ok (.getfield idx, 3)) (hk : kd o = (ci + 3, N)) (hf : Nat.blt kf N = true) (ho : o < n) {o' : Nat} (hv : ρ o i = some o') (kk : k (pc + 3) L (.ref (gb G + o') :: st) n I ρ x z) : k pc L (.ref (gb G + o) :: st) n I ρ x z := by
  refine r_getV S fl hd hk hf ho ?_
  rw [hv]
  exact kk
theorem r_getN (S : Sem G own nm cc nL R k) {idx ci kf N o : Nat} {i : Int} (fl : LkF own idx ci kf i true) (hd : decode cc pc = .ok (.getfield idx, 3)) (hk : kd o = (ci + 3, N)) (hf : Nat.blt kf N = true) (ho : o < n) (hv : ρ o i = none) (kk : k (pc + 3) L (.null :: st) n I ρ x z) : k pc L (.ref (gb G + o) :: st) n I ρ x z := by
  refine r_getV S fl hd hk hf ho ?_
  rw [hv]
  exact kk
theorem r_putV (S : Sem G own nm cc nL R k) {idx ci kf N o : Nat} {i : Int} {r : Bool} (fl : LkF own idx ci kf i r) (hd : decode cc pc = .ok (.putfield idx, 3)) (hk : kd o = (ci + 3, N)) (hf : Nat.blt kf N = true) (ho : o < n) (hfin : fFin ci kf = false ∨ (nm = "<init>" ∧ (vwCl.getD ci (RX0, TX0, 1)).1 = own)) {v : Value} {I' : Iv} {ρ' : Rv} (hn : narrow (fTy ci kf) v = v) (hfit : fits (fTy ci kf) v = true) (hI : ∀ o', o' ≠ o → I' o' = I o') (hR : ∀ o', o' ≠ o → ρ' o' = ρ o') (hset : (flds G ci N o I ρ).set kf v = flds G ci N o I' ρ') (kk : k (pc + 3) L st n I' ρ' x z) : k pc L (v :: .ref (gb G + o) :: st) n I ρ x z := by
  obtain ⟨p, e, s, m, args, below, meth, c, Q, rfl, hx, hb, hml, hown, hnm, hts, hE, hbs⟩ := S
  intro H locs ls hH hS hl
  obtain ⟨C, T, N0, hc, hok, hfi, hlt, hki, hr, hlink⟩ := fl
  have hkN : kf < N := Nat.le_of_ble_eq_true hf
  have he : (wst G n I ρ)[o]? = some (gb G + o, .inr (ci, flds G ci N o I ρ)) := by rw [wst_get G I ρ ho, cel_c I ρ hk]
  have hin := hok.has
  have hap := va_apart (own := own) hts hin (fTy ci) hok.2.2.1 hok.2.2.2.1 hE.1 hc
  have hcl : T kf = T kf := rfl
  have hdecl := hok.2.2.2.2 kf hlt
  have hdesc := hok.2.2.1 kf hlt
  obtain ⟨r0, h1, cell, q1, q2, q3, q4⟩ := hH.1 o _ he
  have hr0 : r0 = (C, T, N0) := Option.some.inj (h1.symm.trans hc)
  subst hr0
  obtain ⟨hSl, hfc, kC, hkC, hkind⟩ := hE.1.1 ci _ hc
  obtain ⟨cf, kf', fi, f, hi, hsl⟩ := hSl kf hlt
  have hsame : s.fieldFound? C (T kf).2.1 (T kf).2.2.1 = some (cf, kf', fi, f) := by rw [← hdecl]; exact hi
  have hst := (u_facts hfc hkC (u_lays hts hin hlt) hi).1
  have hlay := hts _ (hin _ (u_in_lay hlt))
  have fin : ∀ H' : Heap, H'[gb G + o]? = some (cell.setSlot f.slot v) → H'.size = H.size → (∀ q : Nat, q ≠ gb G + o → H'[q]? = H[q]?) → W p (gl G) e R s m args below meth c H' (locs ++ [⟨gb G + o, f.slot⟩]) x z Q (F0 m (pc + 3) ls st) := by
    intro H' e1 e2 e3
    rw [hsl] at e1
    refine kk H' _ ls (hH.set ho hI hR ?_ e2 e3) (hS.put e2 e3 (Nat.le_add_right _ _)) hl
    rw [cel_c I' ρ' hk, ← hset]
    exact ⟨_, hc, t_OB.to (V := updV (vp_V (flds G ci N o I ρ)) kf v) ⟨_, e1, q2, q3, t_set q4 hap hlt v⟩ (fun j _ => vp_updV_set (by rw [flds_len]; exact hkN) v j)⟩
  unfold u_lay at hlay
  cases hff : fFin ci kf with
  | false =>
    rw [if_neg (by rw [hfi, hff]; decide)] at hlay
    have h6 := u_store hfc hkC hkind hlay hi hdesc hn hfit
    rcases hlink with h | ⟨host, h⟩
    · exact W.putK hx hb (f := f) ⟨hown, hts _ (TBG_in h rfl), ⟨_, _, _, hsame⟩, hst⟩ (by rw [q2]; exact h6) q1 q3 (by rw [hsl]; exact k2_hasslot (q4 kf hlt)) rfl rfl hd fin
    · exact va_WputK hx hb (f := f) hown (va_Nw.use rfl (hE.2.1 _ (NST_in h rfl))) hsame hst (by rw [q2]; exact h6) q1 q3 (by rw [hsl]; exact k2_hasslot (q4 kf hlt)) rfl rfl hd fin
  | true =>
    rw [if_pos (by rw [hfi, hff])] at hlay
    have h6 := u_fits hfc hkC hkind (Or.inr hlay) hi hdesc hn hfit
    rcases hfin with h | ⟨hin2, hC⟩
    · rw [hff] at h
      cases h
    · have hC' : C = own := by
        rw [List.getD_eq_getElem?_getD, hc] at hC
        exact hC
      have hcf : m.cls = cf := by
        obtain ⟨_, _, c', _, _, _, -, -, hf', -, -, -, hown2, -⟩ := Cond.laysFinal_spec hlay
        have e1 : c' = cf := by
          have := hi.symm.trans hf'
          simp at this
          exact this.1.symm
        rw [hdecl, hC'] at hown2
        rw [← e1]
        exact Option.some.inj (hown.symm.trans hown2)
      rcases hlink with h | ⟨host, h⟩
      · exact W.putFinK hx hb hown (hts _ (TBG_in h rfl)) hsame hst hcf (by rw [hnm, hin2]) (by rw [q2]; exact h6) q1 q3 (by rw [hsl]; exact k2_hasslot (q4 kf hlt)) rfl rfl hd fin
      · have ha : gb G + o < H.size := (Array.getElem?_eq_some_iff.mp q1).1
        exact va_Wputf hx hb hown (va_Nw.use rfl (hE.2.1 _ (NST_in h rfl))) hsame hst (Or.inr ⟨hcf, by rw [hnm, hin2]⟩) q1 (by rw [q3]; exact fun h => by cases h) (by rw [hsl]; exact k2_hasslot (q4 kf hlt)) (by rw [q2] at *; exact h6.1) (by rw [q3, q2]; exact h6.2) rfl rfl hd (fin _ (by simp [ha]) (by simp) (fun q hq => by rw [Array.getElem?_setIfInBounds, if_neg (fun w => hq w.symm)]))
theorem r_putI (S : Sem G own nm cc nL R k) {idx ci kf N o : Nat} {i : Int} (fl : LkF own idx ci kf i false) (hd : decode cc pc = .ok (.putfield idx, 3)) (hk : kd o = (ci + 3, N)) (hf : Nat.blt kf N = true) (ho : o < n) (hfin : fFin ci kf = false ∨ (nm = "<init>" ∧ (vwCl.getD ci (RX0, TX0, 1)).1 = own)) {v : Int} (hT : fTy ci kf = .int ∨ (fTy ci kf = .boolean ∧ (v = 0 ∨ v = 1))) (kk : k (pc + 3) L st n (up I o i v) ρ x z) : k pc L (.int (jI v) :: .ref (gb G + o) :: st) n I ρ x z := by
  have fl' := fl
  obtain ⟨C, T, N0, hc, hok, -, hlt, rfl, hr, hlink⟩ := fl'
  refine r_putV S fl hd hk hf ho hfin ?_ ?_ (fun o' h => up_o h) (fun _ _ => rfl) (flds_setI hr) kk
  · rcases hT with h | ⟨h, rfl | rfl⟩ <;> rw [h] <;> rfl
  · rcases hT with h | ⟨h, rfl | rfl⟩ <;> rw [h] <;> rfl
theorem r_putR (S : Sem G own nm cc nL R k) {idx ci kf N o : Nat} {i : Int} (fl : LkF own idx ci kf i true) (hd : decode cc pc = .ok (.putfield idx, 3)) (hk : kd o = (ci + 3, N)) (hf : Nat.blt kf N = true) (ho : o < n) (hfin : fFin ci kf = false ∨ (nm = "<init>" ∧ (vwCl.getD ci (RX0, TX0, 1)).1 = own)) {o' : Nat} (kk : k (pc + 3) L st n I (upR ρ o i (some o')) x z) : k pc L (.ref (gb G + o') :: .ref (gb G + o) :: st) n I ρ x z := by
  have fl' := fl
  obtain ⟨C, T, N0, hc, hok, -, hlt, rfl, hr, hlink⟩ := fl'
  refine r_putV S fl hd hk hf ho hfin ?_ ?_ (fun _ _ => rfl) (fun o' h => upR_o h) (flds_setR (v := some o') hr) kk
  · cases h : fTy ci kf <;> rw [h] at hr <;> first | rfl | cases hr
  · cases h : fTy ci kf <;> rw [h] at hr <;> first | rfl | cases hr
theorem r_putN (S : Sem G own nm cc nL R k) {idx ci kf N o : Nat} {i : Int} (fl : LkF own idx ci kf i true) (hd : decode cc pc = .ok (.putfield idx, 3)) (hk : kd o = (ci + 3, N)) (hf : Nat.blt kf N = true) (ho : o < n) (hfin : fFin ci kf = false ∨ (nm = "<init>" ∧ (vwCl.getD ci (RX0, TX0, 1)).1 = own)) (kk : k (pc + 3) L st n I (upR ρ o i none) x z) : k pc L (.null :: .ref (gb G + o) :: st) n I ρ x z := by
  have fl' := fl
  obtain ⟨C, T, N0, hc, hok, -, hlt, rfl, hr, hlink⟩ := fl'
  refine r_putV S fl hd hk hf ho hfin ?_ ?_ (fun _ _ => rfl) (fun o' h => upR_o h) (flds_setR (v := none) hr) kk
  · cases h : fTy ci kf <;> rw [h] at hr <;> first | rfl | cases hr
  · cases h : fTy ci kf <;> rw [h] at hr <;> first | rfl | cases hr
/-! arrays -/
theorem r_iald (S : Sem G own nm cc nL R k) {N o : Nat} {i v : Int} (hd : decode cc pc = .ok (.iaload, 1)) (hk : kd o = (0, N)) (hN : Nat.ble N 2147483647 = true) (ho : o < n) (h0 : 0 ≤ i) (h1 : i < N) (hv : I o i = v) (kk : k (pc + 1) L (.int (jI v) :: st) n I ρ x z) : k pc L (.int (jI i) :: .ref (gb G + o) :: st) n I ρ x z := by
  obtain ⟨p, e, s, m, args, below, meth, c, Q, rfl, hx, hb, hml, hown, hnm, hts, hE, hbs⟩ := S
  intro H locs ls hH hS hl
  subst hv
  have hN' : N ≤ 2147483647 := Nat.le_of_ble_eq_true hN
  have he : (wst G n I ρ)[o]? = some (gb G + o, .inl (gA G 0, N, .inl (fun j => jI (I o (j : Int))))) := by rw [wst_get G I ρ ho, cel_i I ρ hk]
  refine va_iald hx hb hE.1 hH.1 o 0 he rfl (jI_in h0 h1 hN') hd ?_
  rw [jI_clamp h0 (by omega), Int.toNat_of_nonneg h0]
  exact kk H locs ls hH hS hl
theorem r_bald (S : Sem G own nm cc nL R k) {N o : Nat} {i v : Int} (hd : decode cc pc = .ok (.baload, 1)) (hk : kd o = (1, N)) (hN : Nat.ble N 2147483647 = true) (ho : o < n) (h0 : 0 ≤ i) (h1 : i < N) (hv : I o i = v) (kk : k (pc + 1) L (.int (jI v) :: st) n I ρ x z) : k pc L (.int (jI i) :: .ref (gb G + o) :: st) n I ρ x z := by
  obtain ⟨p, e, s, m, args, below, meth, c, Q, rfl, hx, hb, hml, hown, hnm, hts, hE, hbs⟩ := S
  intro H locs ls hH hS hl
  subst hv
  have hN' : N ≤ 2147483647 := Nat.le_of_ble_eq_true hN
  have he : (wst G n I ρ)[o]? = some (gb G + o, .inl (gA G 1, N, .inl (fun j => jI (I o (j : Int))))) := by rw [wst_get G I ρ ho, cel_z I ρ hk]
  refine va_zald hx hb hE.1 hH.1 o 1 he rfl (jI_in h0 h1 hN') hd ?_
  rw [jI_clamp h0 (by omega), Int.toNat_of_nonneg h0]
  exact kk H locs ls hH hS hl
theorem r_aald (S : Sem G own nm cc nL R k) {N o o' : Nat} {i : Int} (hd : decode cc pc = .ok (.aaload, 1)) (hk : kd o = (2, N)) (hN : Nat.ble N 2147483647 = true) (ho : o < n) (h0 : 0 ≤ i) (h1 : i < N) (hv : ρ o i = some o') (kk : k (pc + 1) L (.ref (gb G + o') :: st) n I ρ x z) : k pc L (.int (jI i) :: .ref (gb G + o) :: st) n I ρ x z := by
  obtain ⟨p, e, s, m, args, below, meth, c, Q, rfl, hx, hb, hml, hown, hnm, hts, hE, hbs⟩ := S
  intro H locs ls hH hS hl
  have hN' : N ≤ 2147483647 := Nat.le_of_ble_eq_true hN
  have he : (wst G n I ρ)[o]? = some (gb G + o, .inl (gA G 2, N, .inr (.inr (.inr (.inr (fun j => (ρ o (j : Int)).map (gb G + ·))))))) := by rw [wst_get G I ρ ho, cel_q I ρ hk]
  have hlt : (jI i).toNatClampNeg < N := by rw [jI_clamp h0 (by omega)]; omega
  refine W.aald (v := .ref (gb G + o')) (ty := .array .int) hx hb (hH.1 o _ he) ((hE.1.2 2 _ rfl).1 N (fun j => va_rf ((ρ o (j : Int)).map (gb G + ·)))) rfl (fun q => by cases q) (by show ¬ (_ < 0 ∨ (arrV _ _ _).slots.size ≤ _); rw [arrV_size]; exact jI_in h0 h1 hN') ?_ rfl rfl hd (kk H locs ls hH hS hl)
  show (arrV _ _ _).slots[_]? = _
  rw [arrV_read _ _ hlt, jI_clamp h0 (by omega)]
  dsimp only
  rw [Int.toNat_of_nonneg h0, hv]
  rfl
theorem r_alen (S : Sem G own nm cc nL R k) {N o : Nat} {v : Int} (hd : decode cc pc = .ok (.arraylength, 1)) (hk : kd o = (0, N)) (ho : o < n) (hv : (N : Int) = v) (kk : k (pc + 1) L (.int (jI v) :: st) n I ρ x z) : k pc L (.ref (gb G + o) :: st) n I ρ x z := by
  obtain ⟨p, e, s, m, args, below, meth, c, Q, rfl, hx, hb, hml, hown, hnm, hts, hE, hbs⟩ := S
  intro H locs ls hH hS hl
  have he : (wst G n I ρ)[o]? = some (gb G + o, .inl (gA G 0, N, .inl (fun j => jI (I o (j : Int))))) := by rw [wst_get G I ρ ho, cel_i I ρ hk]
  exact va_alen hx hb hE.1 hH.1 o 0 he (ty := .int) rfl (by rw [← hv]; exact jI_nat N) hd (kk H locs ls hH hS hl)
theorem r_iast (S : Sem G own nm cc nL R k) {N o : Nat} {i v : Int} (hd : decode cc pc = .ok (.iastore, 1)) (hk : kd o = (0, N)) (hN : Nat.ble N 2147483647 = true) (ho : o < n) (h0 : 0 ≤ i) (h1 : i < N) (kk : k (pc + 1) L st n (up I o i v) ρ x z) : k pc L (.int (jI v) :: .int (jI i) :: .ref (gb G + o) :: st) n I ρ x z := by
  obtain ⟨p, e, s, m, args, below, meth, c, Q, rfl, hx, hb, hml, hown, hnm, hts, hE, hbs⟩ := S
  intro H locs ls hH hS hl
  have hN' : N ≤ 2147483647 := Nat.le_of_ble_eq_true hN
  have he : (wst G n I ρ)[o]? = some (gb G + o, .inl (gA G 0, N, .inl (fun j => jI (I o (j : Int))))) := by rw [wst_get G I ρ ho, cel_i I ρ hk]
  refine W.iast hx hb (hH.1 o _ he) ((hE.1.2 0 _ rfl).1 N (fun j => .int (jI (I o (j : Int))))) (fun q => by cases q) (by show ¬ (_ < 0 ∨ (arrV _ _ _).slots.size ≤ _); rw [arrV_size]; exact jI_in h0 h1 hN') rfl rfl hd fun H1 e1 z1 oq => ?_
  refine kk H1 _ ls (hH.set ho (fun o' h => up_o h) (fun _ _ => rfl) ?_ z1 oq) (hS.put z1 oq (Nat.le_add_right _ _)) hl
  rw [cel_i _ _ hk]
  show H1[gb G + o]? = some (vp_cell _ _)
  rw [e1, vp_cell_i, vp_cell_i, arrV_store]
  congr 2
  funext q
  unfold updV up
  rw [jI_clamp h0 (by omega)]
  by_cases e : q = i.toNat
  · rw [if_pos e, if_pos ⟨rfl, by omega⟩]
  · rw [if_neg e, if_neg (fun w => e (by have := w.2; omega))]
theorem r_bast (S : Sem G own nm cc nL R k) {N o : Nat} {i v : Int} (hd : decode cc pc = .ok (.bastore, 1)) (hk : kd o = (1, N)) (hN : Nat.ble N 2147483647 = true) (ho : o < n) (h0 : 0 ≤ i) (h1 : i < N) (hv : v = 0 ∨ v = 1) (kk : k (pc + 1) L st n (up I o i v) ρ x z) : k pc L (.int (jI v) :: .int (jI i) :: .ref (gb G + o) :: st) n I ρ x z := by
  obtain ⟨p, e, s, m, args, below, meth, c, Q, rfl, hx, hb, hml, hown, hnm, hts, hE, hbs⟩ := S
  intro H locs ls hH hS hl
  have hN' : N ≤ 2147483647 := Nat.le_of_ble_eq_true hN
  have he : (wst G n I ρ)[o]? = some (gb G + o, .inl (gA G 1, N, .inl (fun j => jI (I o (j : Int))))) := by rw [wst_get G I ρ ho, cel_z I ρ hk]
  refine W.zast hx hb (hH.1 o _ he) ((hE.1.2 1 _ rfl).1 N (fun j => .int (jI (I o (j : Int))))) (fun q => by cases q) (by show ¬ (_ < 0 ∨ (arrV _ _ _).slots.size ≤ _); rw [arrV_size]; exact jI_in h0 h1 hN') rfl rfl hd fun H1 e1 z1 oq => ?_
  refine kk H1 _ ls (hH.set ho (fun o' h => up_o h) (fun _ _ => rfl) ?_ z1 oq) (hS.put z1 oq (Nat.le_add_right _ _)) hl
  rw [cel_z _ _ hk]
  show H1[gb G + o]? = some (vp_cell _ _)
  have hn : narrow .boolean (.int (jI v)) = .int (jI v) := by rcases hv with rfl | rfl <;> rfl
  rw [hn] at e1
  rw [e1, vp_cell_i, vp_cell_i, arrV_store]
  congr 2
  funext q
  unfold updV up
  rw [jI_clamp h0 (by omega)]
  by_cases e : q = i.toNat
  · rw [if_pos e, if_pos ⟨rfl, by omega⟩]
  · rw [if_neg e, if_neg (fun w => e (by have := w.2; omega))]
end
