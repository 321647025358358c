/-! ===== calls and returns ===== -/
theorem Ev.to {G : GE} {s U : State} {H : Heap} {locs : List Loc} (hE : Ev G s) (hW : s.WarmedH U.vm) (hS : va_S (gF G) s.heap H locs) (hU : U.heap = H) : Ev G U := by
  obtain ⟨h1, h2, h0, h3, h4, h5, h6⟩ := hE
  have hk : ∀ a : Nat, a < s.heap.size → ¬ gF G a → U.heap[a]? = s.heap[a]? := fun a q1 q2 => by rw [hU]; exact hS.2.1 a q1 q2
  exact ⟨va_K.moved hW.alike h1, NST_warm hW h2, h0.moved hW.alike, fun i hi => (h3 i hi).warm hW, (h4.kept hk).moved hW.alike, (h5.kept hk).moved hW.alike, (h6.kept hk).moved hW.alike⟩
theorem Pc_blind {G : GE} {as : List Value} {n : Nat} {I : Iv} {ρ : Rv} : FrameBlind (PcW G as n I ρ) := by
  intro a U g mk h
  obtain ⟨q1, q2, h1, h2, h0, h3, h4, h5, h6⟩ := h
  have e : U.vm = (U.calling g mk a).vm := rfl
  exact ⟨q1, q2, va_K.moved (u := U) (U := U.calling g mk a) (Vm.Alike.refl U.vm) h1, NST_same e h2, h0.moved (u := U) (U := U.calling g mk a) (Vm.Alike.refl U.vm), fun i hi => (h3 i hi).same e.symm, h4.moved (u := U) (U := U.calling g mk a) (Vm.Alike.refl U.vm), h5.moved (u := U) (U := U.calling g mk a) (Vm.Alike.refl U.vm), h6.moved (u := U) (U := U.calling g mk a) (Vm.Alike.refl U.vm)⟩
theorem goodTo {y : MethodName} {bytes : ByteArray} {mL : Nat} {ret : Option FieldType} (h : Cond.code y bytes mL ret ∈ lw_tbl) : GoodIn TBG (Cond.code y bytes mL ret :: TBG) := by
  intro w hw
  rcases List.mem_cons.mp hw with rfl | hw
  · exact ⟨TBG_in h rfl, Or.inl rfl⟩
  · exact TBG_good w hw
/-- what a caller must leave to a callee of depth d -/
def roomy (R : Room) (d mL : Nat) : Prop := d + 1 ≤ R.frames ∧ 8 + (mL + 11) + 64 * d ≤ R.locals
theorem KK_run {G : GE} {p : Program} {e : Env} {R : Room} {s : State} {m : MethodId} {args : Array Value} {below : List Frame} {meth : Method} {c : Code} {Q : State → Prop} {pc : Nat} {L : List (Option Value)} {st rest : List Value} {n : Nat} {I : Iv} {ρ : Rv} {x z mc ms : Nat} {Φ : Pt5} {a : Array Value}
    (hr : ∀ (H : Heap) (locs : List Loc) (ls : Array Slot), Hp G n I ρ H → va_S (gF G) s.heap H locs → Lh ls L → va_Run p (gl G) e R s m args below meth c H locs x z mc ms (F0 m pc ls st) rest (QcW G Φ a) (gF G))
    (kk : ∀ v n' I' ρ', Φ v n' I' ρ' → KK G p e R s m args below meth c Q (pc + 3) L (v.toList ++ rest) n' I' ρ' (x + mc) (z + ms)) : KK G p e R s m args below meth c Q pc L st n I ρ x z := by
  intro H locs ls hH hS hl T hT X
  obtain ⟨v, st₀, t, T', Lc, h0, X', hL, e1, e2, ⟨⟨v', n', I', ρ', hv, hp, hh⟩, hz, hk⟩, stp⟩ := hr H locs ls hH hS hl T hT X
  cases hv
  rw [h0] at hz hk
  have hS' : va_S (gF G) s.heap T'.heap (locs ++ Lc) := by
    rw [e1]
    refine ⟨Nat.le_trans hS.1 hz, fun q q1 q2 => (hk q (Nat.lt_of_lt_of_le q1 hS.1) q2).trans (hS.2.1 q q1 q2), fun q hq => ?_⟩
    rcases List.mem_append.mp hq with q1 | q1
    · exact hS.2.2 q q1
    · exact hL q q1
  obtain ⟨t2, a1, b1⟩ := kk _ _ _ _ hp T'.heap (locs ++ Lc) ls (by rw [e1]; exact hh) hS' hl T' rfl X'
  exact ⟨t2, stp t2 a1, b1⟩
section
variable {G : GE} {own nm : String} {cc : ByteArray} {nL : Nat} {R : Room} {k : Kt} {pc : Nat} {L : List (Option Value)} {st rest : List Value} {n : Nat} {I : Iv} {ρ : Rv} {x z : Nat} {y : MethodName} {bytes : ByteArray} {mL na idx d mc ms : Nat} {ret : Option FieldType} {as : List Value} {Φ : Pt5}
theorem r_callS (S : Sem G own nm cc nL R k) (lk : LkM own idx y) (mk : MkS y bytes mL ret na) (hC : Ct G y bytes mL ret d mc ms as n I ρ Φ) (hn : as.length = na) (hst : st = as.reverse ++ rest) (hW : (rest.map fun v => v.category).sum ≤ 8) (hR : roomy R d mL) (hL : L.length = nL) (hf : x + mc ≤ R.cells ∧ z + ms ≤ R.slots) (hd : decode cc pc = .ok (.invokestatic idx, 3)) (kk : ∀ v n' I' ρ', Φ v n' I' ρ' → k (pc + 3) L (v.toList ++ rest) n' I' ρ' (x + mc) (z + ms)) : k pc L st n I ρ x z := by
  obtain ⟨p, e, s, m, args, below, meth, c, Q, rfl, hx, hb, hml, hown, hnm, hts, hE, hbs⟩ := S
  subst hst
  refine KK_run (Φ := Φ) (a := as.toArray) (fun H locs ls hH hS hl => ?_) kk
  have hp : PreS s H (PcW G as n I ρ) as := ⟨Pc_blind, fun U hU hW => ⟨rfl, by rw [hU]; exact hH, hE.to hW hS hU⟩⟩
  have hw8 : 2 * (F0 m pc ls (as.reverse ++ rest)).monitorRoom + (rest.map fun v => v.category).sum ≤ 8 := lv_room hW
  have hini := hts _ (TBG_in mk.1.2.1 rfl)
  rcases lk with h | ⟨host, h⟩
  · exact va_runS (rest := rest) ⟨hx, hb, hml, hown, hts⟩ hC ⟨callB_of na hts (goodTo mk.1.1) rfl rfl rfl hini (hts _ (TBG_in h rfl)) mk.1.2.2 hR, hts _ (TBG_in mk.2 rfl)⟩ hp rfl hn (hl.1.trans hL) rfl hw8 hd hf
  · exact va_runSN (rest := rest) ⟨hx, hb, hml, hown, hts⟩ hC ⟨va_cnB na hts (goodTo mk.1.1) rfl rfl rfl (hE.2.1 _ (NST_in h rfl)) hini mk.1.2.2 hR, hts _ (TBG_in mk.2 rfl), trivial⟩ hp rfl hn (hl.1.trans hL) rfl hw8 hd hf
theorem r_callV (S : Sem G own nm cc nL R k) {o ci N : Nat} (lk : LkM own idx y) (mk : MkV y bytes mL ret na) (hC : Ct G y bytes mL ret d mc ms (.ref (gb G + o) :: as) n I ρ Φ) (hk : kd o = (ci + 3, N)) (ho : o < n) (hcl : (vwCl[ci]?).map (fun q => q.1) = some y.cls) (hn : as.length = na) (hst : st = as.reverse ++ .ref (gb G + o) :: rest) (hW : (rest.map fun v => v.category).sum ≤ 8) (hR : roomy R d mL) (hL : L.length = nL) (hf : x + mc ≤ R.cells ∧ z + ms ≤ R.slots) (hd : decode cc pc = .ok (.invokevirtual idx, 3)) (kk : ∀ v n' I' ρ', Φ v n' I' ρ' → k (pc + 3) L (v.toList ++ rest) n' I' ρ' (x + mc) (z + ms)) : k pc L st n I ρ x z := by
  obtain ⟨p, e, s, m, args, below, meth, c, Q, rfl, hx, hb, hml, hown, hnm, hts, hE, hbs⟩ := S
  subst hst
  refine KK_run (Φ := Φ) (a := (.ref (gb G + o) :: as).toArray) (fun H locs ls hH hS hl => ?_) kk
  obtain ⟨q, hq, hqc⟩ : ∃ q, vwCl[ci]? = some q ∧ q.1 = y.cls := by
    cases h : vwCl[ci]? with
    | none => rw [h] at hcl; cases hcl
    | some q => rw [h] at hcl; exact ⟨q, rfl, Option.some.inj hcl⟩
  have he : (wst G n I ρ)[o]? = some (gb G + o, .inr (ci, flds G ci N o I ρ)) := by rw [wst_get G I ρ ho, cel_c I ρ hk]
  have hrecv := va_recv hE.1 hH.1 hq he
  rw [hqc] at hrecv
  have hp : PreV s H y.cls (gb G + o) (PcW G (.ref (gb G + o) :: as) n I ρ) as := ⟨Pc_blind, hrecv, fun U hU hW => ⟨rfl, by rw [hU]; exact hH, hE.to hW hS hU⟩⟩
  have hw8 : 2 * (F0 m pc ls (as.reverse ++ .ref (gb G + o) :: rest)).monitorRoom + (rest.map fun v => v.category).sum ≤ 8 := lv_room hW
  have hini := hts _ (TBG_in mk.1.2.1 rfl)
  rcases lk with h | ⟨host, h⟩
  · exact va_runV (rest := rest) ⟨hx, hb, hml, hown, hts⟩ hC ⟨callB_of na hts (goodTo mk.1.1) rfl rfl rfl hini (hts _ (TBG_in h rfl)) mk.1.2.2 hR, hts _ (TBG_in mk.2.1 rfl), hts _ (TBG_in mk.2.2 rfl)⟩ hp rfl hn (hl.1.trans hL) rfl hw8 hd hf
  · exact va_runVN (rest := rest) ⟨hx, hb, hml, hown, hts⟩ hC ⟨va_cnB na hts (goodTo mk.1.1) rfl rfl rfl (hE.2.1 _ (NST_in h rfl)) hini mk.1.2.2 hR, hts _ (TBG_in mk.2.1 rfl), hts _ (TBG_in mk.2.2 rfl)⟩ hp rfl hn (hl.1.trans hL) rfl hw8 hd hf
theorem r_callI (S : Sem G own nm cc nL R k) {o : Nat} (lk : LkM own idx y) (mk : MkI y bytes mL na) (hC : Ct G y bytes mL none d mc ms (.ref (gb G + o) :: as) n I ρ Φ) (hn : as.length = na) (hst : st = as.reverse ++ .ref (gb G + o) :: rest) (hW : (rest.map fun v => v.category).sum ≤ 8) (hR : roomy R d mL) (hL : L.length = nL) (hf : x + mc ≤ R.cells ∧ z + ms ≤ R.slots) (hd : decode cc pc = .ok (.invokespecial idx, 3)) (kk : ∀ v n' I' ρ', Φ v n' I' ρ' → k (pc + 3) L (v.toList ++ rest) n' I' ρ' (x + mc) (z + ms)) : k pc L st n I ρ x z := by
  obtain ⟨p, e, s, m, args, below, meth, c, Q, rfl, hx, hb, hml, hown, hnm, hts, hE, hbs⟩ := S
  subst hst
  refine KK_run (Φ := Φ) (a := (.ref (gb G + o) :: as).toArray) (fun H locs ls hH hS hl => ?_) kk
  have hp : PreS s H (PcW G (.ref (gb G + o) :: as) n I ρ) (.ref (gb G + o) :: as) := ⟨Pc_blind, fun U hU hW => ⟨rfl, by rw [hU]; exact hH, hE.to hW hS hU⟩⟩
  have hw8 : 2 * (F0 m pc ls (as.reverse ++ .ref (gb G + o) :: rest)).monitorRoom + (rest.map fun v => v.category).sum ≤ 8 := lv_room hW
  have hini := hts _ (TBG_in mk.1.2.1 rfl)
  rcases lk with h | ⟨host, h⟩
  · exact va_runI (rest := rest) ⟨hx, hb, hml, hown, hts⟩ hC ⟨callB_of na hts (goodTo mk.1.1) rfl rfl rfl hini (hts _ (TBG_in h rfl)) mk.1.2.2 hR, mk.2.1, hts _ (TBG_in mk.2.2 rfl)⟩ hp rfl hn (hl.1.trans hL) rfl hw8 hd hf
  · exact va_runIN (rest := rest) ⟨hx, hb, hml, hown, hts⟩ hC ⟨va_cnB na hts (goodTo mk.1.1) rfl rfl rfl (hE.2.1 _ (NST_in h rfl)) hini mk.1.2.2 hR, mk.2.1, hts _ (TBG_in mk.2.2 rfl)⟩ hp rfl hn (hl.1.trans hL) rfl hw8 hd hf
theorem r_objI (S : Sem G own nm cc nL R k) {a : Nat} (lk : Cond.methodLink own idx Lib.objectInit ∈ lw_tbl) (hR : Nat.ble 1 R.frames = true ∧ Nat.ble ((st.map fun v => v.category).sum + 12) R.locals = true) (hL : L.length = nL) (hd : decode cc pc = .ok (.invokespecial idx, 3)) (ho1 : Cond.instanceMethod Lib.objectInit ∈ lw_tbl) (ho2 : Cond.code Lib.objectInit ⟨#[0xb1]⟩ 1 none ∈ lw_tbl) (kk : k (pc + 3) L st n I ρ x z) : k pc L (.ref a :: st) n I ρ x z := by
  obtain ⟨p, e, s, m, args, below, meth, c, Q, rfl, hx, hb, hml, hown, hnm, hts, hE, hbs⟩ := S
  intro H locs ls hH hS hl
  exact W.objInit hx hb hown (hts _ (TBG_in lk rfl)) (hts _ (TBG_in ho1 rfl)) (hts _ (TBG_in ho2 rfl)) rfl (by show ls.size = _; rw [hml, ← hL]; exact hl.1) rfl hd (Nat.le_of_ble_eq_true hR.1) (by have := Nat.le_of_ble_eq_true hR.2; show 2 * (F0 m pc ls (.ref a :: st)).monitorRoom + _ + 12 ≤ _; have h0 : (F0 m pc ls (.ref a :: st)).monitorRoom = 0 := rfl; rw [h0]; omega) (kk H locs ls hH hS hl)
end
section
variable {G : GE} {own nm : String} {cc : ByteArray} {nL : Nat} {ret : Option FieldType} {k : Kt} {pc : Nat} {L : List (Option Value)} {n : Nat} {I : Iv} {ρ : Rv} {x z d mc ms : Nat} {Φ : Pt5}
theorem r_iret (S : SemR G own nm cc nL (some .int) d mc ms Φ k) {v : Int} (hd : decode cc pc = .ok (.ireturn, 1)) (hm : x ≤ mc ∧ z ≤ ms) (hΦ : Φ (some (.int (jI v))) n I ρ) : k pc L [.int (jI v)] n I ρ x z := by
  obtain ⟨p, e, s, m, args, below, meth, c, rfl, ⟨hx, hb, hml, hown, hnm, hts, hE, hbs⟩, hr, hlocks⟩ := S
  intro H locs ls hH hS hl
  refine W.widen hm.1 hm.2 ?_
  exact W.iret hx hb hr (fun t ht hW => ⟨⟨_, n, I, ρ, rfl, hΦ, by rw [ht]; exact hH⟩, hS.F ht⟩) hS.2.2 hd hlocks
theorem r_zret (S : SemR G own nm cc nL (some .boolean) d mc ms Φ k) {v : Int} (hd : decode cc pc = .ok (.ireturn, 1)) (hv : v = 0 ∨ v = 1) (hm : x ≤ mc ∧ z ≤ ms) (hΦ : Φ (some (.int (jI v))) n I ρ) : k pc L [.int (jI v)] n I ρ x z := by
  obtain ⟨p, e, s, m, args, below, meth, c, rfl, ⟨hx, hb, hml, hown, hnm, hts, hE, hbs⟩, hr, hlocks⟩ := S
  intro H locs ls hH hS hl
  refine W.widen hm.1 hm.2 ?_
  exact W.zret hx hb hr (by rcases hv with rfl | rfl <;> rfl) (fun t ht hW => ⟨⟨_, n, I, ρ, rfl, hΦ, by rw [ht]; exact hH⟩, hS.F ht⟩) hS.2.2 hd hlocks
theorem r_vret (S : SemR G own nm cc nL none d mc ms Φ k) (hd : decode cc pc = .ok (.return_, 1)) (hm : x ≤ mc ∧ z ≤ ms) (hΦ : Φ none n I ρ) : k pc L [] n I ρ x z := by
  obtain ⟨p, e, s, m, args, below, meth, c, rfl, ⟨hx, hb, hml, hown, hnm, hts, hE, hbs⟩, hr, hlocks⟩ := S
  intro H locs ls hH hS hl
  refine W.widen hm.1 hm.2 ?_
  exact W.vret hx hb hr (fun t ht hW => ⟨⟨_, n, I, ρ, rfl, hΦ, by rw [ht]; exact hH⟩, hS.F ht⟩) hS.2.2 hd hlocks
theorem r_aret {rt : FieldType} (S : SemR G own nm cc nL (some rt) d mc ms Φ k) {a : Nat} (hd : decode cc pc = .ok (.areturn, 1)) (hrt : (∃ n, rt = .object n) ∨ ∃ t, rt = .array t) (hm : x ≤ mc ∧ z ≤ ms) (hΦ : Φ (some (.ref a)) n I ρ) : k pc L [.ref a] n I ρ x z := by
  obtain ⟨p, e, s, m, args, below, meth, c, rfl, ⟨hx, hb, hml, hown, hnm, hts, hE, hbs⟩, hr, hlocks⟩ := S
  intro H locs ls hH hS hl
  refine W.widen hm.1 hm.2 ?_
  exact W.aret hx hb hr hrt (Or.inr ⟨_, rfl⟩) (fun t ht hW => ⟨⟨_, n, I, ρ, rfl, hΦ, by rw [ht]; exact hH⟩, hS.F ht⟩) hS.2.2 hd (hlocks := hlocks)
end
