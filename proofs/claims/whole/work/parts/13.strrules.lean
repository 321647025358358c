/-! ===== the string constants ===== -/
section
variable {G : GE} {own nm : String} {cc : ByteArray} {nL : Nat} {R : Room} {k : Kt} {pc : Nat} {L : List (Option Value)} {st rest : List Value} {n : Nat} {I : Iv} {ρ : Rv} {x z idx i : Nat}
theorem r_ldcS (S : Sem G "NewValley$Code" nm cc nL R k) (hi : i < 7) (hd : decode cc pc = .ok (.ldc (sK.getD i 0), 2)) (kk : k (pc + 2) L (.ref (gK G i) :: st) n I ρ x z) : k pc L st n I ρ x z := by
  obtain ⟨p, e, s, m, args, below, meth, c, Q, rfl, hx, hb, hml, hown, hnm, hts, hE, hbs⟩ := S
  intro H locs ls hH hS hl
  exact va_ldcS hx hb hown (hE.2.2.2.1 i hi) hd (kk H locs ls hH hS hl)
theorem r_getSv (S : Sem G own nm cc nL R k) (hi : i < 7) (fl : Cond.fieldLink own idx "java/lang/String" "value" "[B" ∈ lw_tbl) (hd : decode cc pc = .ok (.getfield idx, 3)) (kk : k (pc + 3) L (.ref (gV G i) :: st) n I ρ x z) : k pc L (.ref (gK G i) :: st) n I ρ x z := by
  obtain ⟨p, e, s, m, args, below, meth, c, Q, rfl, hx, hb, hml, hown, hnm, hts, hE, hbs⟩ := S
  intro H locs ls hH hS hl
  exact vk_getf hx hb (hE.2.2.2.2.1.1 i hi).2.2.1 hS hown (hts _ (TBG_in fl rfl)) (fun _ h => h) hd (kk H locs ls hH hS hl)
theorem r_getSc (S : Sem G own nm cc nL R k) (hi : i < 7) (fl : Cond.fieldLink own idx "java/lang/String" "coder" "B" ∈ lw_tbl) (hd : decode cc pc = .ok (.getfield idx, 3)) (kk : k (pc + 3) L (.int (jI 0) :: st) n I ρ x z) : k pc L (.ref (gK G i) :: st) n I ρ x z := by
  obtain ⟨p, e, s, m, args, below, meth, c, Q, rfl, hx, hb, hml, hown, hnm, hts, hE, hbs⟩ := S
  intro H locs ls hH hS hl
  exact vk_getf hx hb (hE.2.2.2.2.1.1 i hi).2.1 hS hown (hts _ (TBG_in fl rfl)) (fun _ h => h) hd (kk H locs ls hH hS hl)
theorem r_getCS (S : Sem G own nm cc nL R k) (fl : Cond.fieldLink own idx "java/lang/String" "COMPACT_STRINGS" "Z" ∈ lw_tbl) (hd : decode cc pc = .ok (.getstatic idx, 3)) (kk : k (pc + 3) L (.int (jI 1) :: st) n I ρ x z) : k pc L st n I ρ x z := by
  obtain ⟨p, e, s, m, args, below, meth, c, Q, rfl, hx, hb, hml, hown, hnm, hts, hE, hbs⟩ := S
  intro H locs ls hH hS hl
  exact va_gets hx hb hE.2.2.2.2.2.1 hS hown (hts _ (TBG_in fl rfl)) (fun _ h => h) hd (kk H locs ls hH hS hl)
theorem r_getSF (S : Sem G own nm cc nL R k) (fl : Cond.fieldLink own idx "jdk/internal/util/Preconditions" "SIOOBE_FORMATTER" "Ljava/util/function/BiFunction;" ∈ lw_tbl) (hd : decode cc pc = .ok (.getstatic idx, 3)) (kk : ∀ v : Value, (v = .null ∨ ∃ t, v = .ref t) → k (pc + 3) L (v :: st) n I ρ x z) : k pc L st n I ρ x z := by
  obtain ⟨p, e, s, m, args, below, meth, c, Q, rfl, hx, hb, hml, hown, hnm, hts, hE, hbs⟩ := S
  intro H locs ls hH hS hl
  rcases hE.2.2.2.2.2.2 with h | ⟨t, h⟩
  · exact va_gets hx hb h hS hown (hts _ (TBG_in fl rfl)) (fun _ h => h) hd (kk _ (Or.inl rfl) H locs ls hH hS hl)
  · exact va_gets hx hb h hS hown (hts _ (TBG_in fl rfl)) (fun _ h => h) hd (kk _ (Or.inr ⟨t, rfl⟩) H locs ls hH hS hl)
theorem r_slen (S : Sem G own nm cc nL R k) (hi : i < 7) (hd : decode cc pc = .ok (.arraylength, 1)) (kk : k (pc + 1) L (.int (jI (sL.getD i 0 : Nat)) :: st) n I ρ x z) : k pc L (.ref (gV G i) :: st) n I ρ x z := by
  obtain ⟨p, e, s, m, args, below, meth, c, Q, rfl, hx, hb, hml, hown, hnm, hts, hE, hbs⟩ := S
  intro H locs ls hH hS hl
  exact va_tlen hx hb (hE.2.2.2.2.1.1 i hi).2.2.2 hS (jI_nat _) hd (kk H locs ls hH hS hl)
theorem r_sbald (S : Sem G own nm cc nL R k) (hi : i < 7) {j : Int} (h0 : 0 ≤ j) (h1 : j < (sL.getD i 0 : Nat)) (hd : decode cc pc = .ok (.baload, 1)) (kk : k (pc + 1) L (.int ((sB.getD i []).getD j.toNat 0) :: st) n I ρ x z) : k pc L (.int (jI j) :: .ref (gV G i) :: st) n I ρ x z := by
  obtain ⟨p, e, s, m, args, below, meth, c, Q, rfl, hx, hb, hml, hown, hnm, hts, hE, hbs⟩ := S
  intro H locs ls hH hS hl
  have hlen : sL.getD i 0 ≤ 6 := by
    have : ∀ i, i < 7 → sL.getD i 0 ≤ 6 := by decide
    exact this i hi
  exact va_tb hx hb (hE.2.2.2.2.1.1 i hi).2.2.2 hS (jI_in h0 h1 (by omega)) (by rw [jI_clamp h0 (by omega)]) hd (kk H locs ls hH hS hl)
theorem r_callT (S : Sem G own nm cc nL R k) {y : MethodName} {bytes : ByteArray} {mL na d mc ms : Nat} {ret : Option FieldType} {as : List Value} {Φ : Pt5} (hi : i < 7) (lk : LkM own idx y) (mk : MkV y bytes mL ret na) (hy : y.cls = "java/lang/String") (hC : Ct G y bytes mL ret d mc ms (.ref (gK G i) :: as) n I ρ Φ) (hn : as.length = na) (hst : st = as.reverse ++ .ref (gK G i) :: rest) (hW : (rest.map fun v => v.category).sum ≤ 8) (hR : roomy R d mL) (hL : L.length = nL) (hf : x + mc ≤ R.cells ∧ z + ms ≤ R.slots) (hd : decode cc pc = .ok (.invokevirtual idx, 3)) (kk : ∀ v n' I' ρ', Φ v n' I' ρ' → k (pc + 3) L (v.toList ++ rest) n' I' ρ' (x + mc) (z + ms)) : k pc L st n I ρ x z := by
  obtain ⟨p, e, s, m, args, below, meth, c, Q, rfl, hx, hb, hml, hown, hnm, hts, hE, hbs⟩ := S
  subst hst
  refine KK_run (Φ := Φ) (a := (.ref (gK G i) :: as).toArray) (fun H locs ls hH hS hl => ?_) kk
  have hrecv := vk_recv hE.2.2.2.2.1 hi hS
  rw [← hy] at hrecv
  have hp : PreV s H y.cls (gK G i) (PcW G (.ref (gK G i) :: as) n I ρ) as := ⟨Pc_blind, hrecv, fun U hU hW => ⟨rfl, by rw [hU]; exact hH, hE.to hW hS hU⟩⟩
  have hw8 : 2 * (F0 m pc ls (as.reverse ++ .ref (gK G i) :: rest)).monitorRoom + (rest.map fun v => v.category).sum ≤ 8 := lv_room hW
  have hini := hts _ (TBG_in mk.1.2.1 rfl)
  rcases lk with h | ⟨host, h⟩
  · exact va_runV (rest := rest) ⟨hx, hb, hml, hown, hts⟩ hC ⟨callB_of na hts (goodTo mk.1.1) rfl rfl rfl hini (hts _ (TBG_in h rfl)) mk.1.2.2 hR, hts _ (TBG_in mk.2.1 rfl), hts _ (TBG_in mk.2.2 rfl)⟩ hp rfl hn (hl.1.trans hL) rfl hw8 hd hf
  · exact va_runVN (rest := rest) ⟨hx, hb, hml, hown, hts⟩ hC ⟨va_cnB na hts (goodTo mk.1.1) rfl rfl rfl (hE.2.1 _ (NST_in h rfl)) hini mk.1.2.2 hR, hts _ (TBG_in mk.2.1 rfl), hts _ (TBG_in mk.2.2 rfl)⟩ hp rfl hn (hl.1.trans hL) rfl hw8 hd hf
theorem r_i2c (S : Sem G own nm cc nL R k) {a v : Int32} (hv : (a.toUInt32 % 65536).toInt32 = v) (hd : decode cc pc = .ok (.i2c, 1)) (kk : k (pc + 1) L (.int v :: st) n I ρ x z) : k pc L (.int a :: st) n I ρ x z := by
  obtain ⟨p, e, s, m, args, below, meth, c, Q, rfl, hx, hb, hml, hown, hnm, hts, hE, hbs⟩ := S
  intro H locs ls hH hS hl
  exact lv_i2c hx hb hd hv (kk H locs ls hH hS hl)
theorem r_iandR (S : Sem G own nm cc nL R k) {a b v : Int32} (hv : a &&& b = v) (hd : decode cc pc = .ok (.iand, 1)) (kk : k (pc + 1) L (.int v :: st) n I ρ x z) : k pc L (.int b :: .int a :: st) n I ρ x z := by
  obtain ⟨p, e, s, m, args, below, meth, c, Q, rfl, hx, hb, hml, hown, hnm, hts, hE, hbs⟩ := S
  intro H locs ls hH hS hl
  exact lv_iand hx hb hd (by rw [hv]; exact kk H locs ls hH hS hl)
end
section
variable {G : GE} {own nm : String} {cc : ByteArray} {nL : Nat} {k : Kt} {pc : Nat} {L : List (Option Value)} {n : Nat} {I : Iv} {ρ : Rv} {x z d mc ms : Nat} {Φ : Pt5}
theorem r_nret {ty : FieldType} (S : SemR G own nm cc nL (some ty) d mc ms Φ k) {v : Int32} (hd : decode cc pc = .ok (.ireturn, 1)) (hv : narrow ty (.int v) = .int v) (hm : x ≤ mc ∧ z ≤ ms) (hΦ : Φ (some (.int v)) n I ρ) : k pc L [.int v] n I ρ x z := by
  obtain ⟨p, e, s, m, args, below, meth, c, rfl, ⟨hx, hb, hml, hown, hnm, hts, hE, hbs⟩, hr, hlocks⟩ := S
  intro H locs ls hH hS hl
  refine W.widen hm.1 hm.2 ?_
  exact W.zret hx hb hr hv (fun t ht hW => ⟨⟨_, n, I, ρ, rfl, hΦ, by rw [ht]; exact hH⟩, hS.F ht⟩) hS.2.2 hd hlocks
end
