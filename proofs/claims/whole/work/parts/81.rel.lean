/-! ===== the two sides held together ===== -/
def jT (a b : Int) : Prop := a = b ∧ 0 ≤ b ∧ b ≤ 35
def jW (l l' h h' : Int → Int) : Prop := l = l' ∧ h = h' ∧ (∀ j, 0 ≤ j → j < 36 → 0 ≤ l' j ∧ l' j ≤ 99) ∧ ∀ j, 0 ≤ j → j < 4 → 0 ≤ h' j ∧ h' j ≤ 99
def jB (b b' : Int → Int) : Prop := b = b' ∧ ∀ j, 0 ≤ j → j < 36 → 0 ≤ b' j ∧ b' j ≤ 8
def jh1 (v p l t q b : Int) : Prop := (0 ≤ v ∧ v ≤ 3) ∧ (0 ≤ p ∧ p ≤ 20) ∧ (0 ≤ l ∧ l ≤ 99) ∧ (0 ≤ t ∧ t ≤ 99) ∧ (q = 0 ∨ q = 1) ∧ -1 ≤ b ∧ b ≤ 35
def jh2 (c : Int) (hs rd bt : Int → Int) : Prop := (∀ h, 0 ≤ h → h < c → (rd h = 0 ∧ bt h = -1) ∨ (rd h = 1 ∧ bt h = hs h ∧ 0 ≤ hs h)) ∧ (∀ h, c ≤ h → rd h = 0) ∧ ∀ h, 0 ≤ h → h < c → -1 ≤ hs h ∧ hs h ≤ 35
def jH (c c' : Int) (v v' p p' l l' t t' q q' hs rd bt : Int → Int) : Prop := c = c' ∧ (0 ≤ c' ∧ c' ≤ 8) ∧ (v = v' ∧ p = p' ∧ l = l' ∧ t = t' ∧ q = q') ∧ (∀ j, 0 ≤ j → j < 8 → jh1 (v' j) (p' j) (l' j) (t' j) (q' j) (bt j)) ∧ jh2 c' hs rd bt
def jY (I : Iv) : Prop := (∃ Z : Nat, Z ≤ 8 ∧ I 72 2 = Z ∧ waS (nrM (I 82) (I 83)) (tiM (I 81)) Z I ∧ ∀ H : Nat, I 16 7 = H → cb I H (bestW (nrM (I 82) (I 83)) (tiM (I 81)) H Z)) ∧ (I 17 = I 82 ∧ I 18 = I 83) ∧ (∀ j, 0 ≤ j → j < 8 → (0 ≤ I 82 j ∧ I 82 j ≤ 20) ∧ 0 ≤ I 83 j ∧ I 83 j ≤ 20) ∧ (∀ i j : Int, 0 ≤ i → i < 8 → 0 ≤ j → j < 8 → I 81 (8 * i + j) = I 81 (8 * j + i)) ∧ ((∀ t, 0 ≤ t → t < 8 → I 39 t = 0) ∧ ∀ i, 0 ≤ i → i < 64 → I 41 i = 0) ∧ (-1 ≤ I 16 7 ∧ I 16 7 ≤ 8) ∧ I 97 0 = 0
def jF (c c' : Int) (w w' : Int → Int) : Prop := c = c' ∧ (0 ≤ c' ∧ c' ≤ 10) ∧ w = w' ∧ ∀ i : Nat, (i : Int) < c' → 1 ≤ w' i ∧ w' i ≤ 999
def jP (t t' : Int) (b b' : Int → Int) : Prop := t = t' ∧ (0 ≤ t' ∧ t' ≤ 400) ∧ b = b' ∧ ∀ j, 0 ≤ b' j ∧ b' j ≤ 255
def jX (a a' b b' : Int) : Prop := a = a' ∧ b = b'
def jR (I : Iv) (rs : RLs) (bk dr : Nat) : Prop := ((bk = 60 ∧ dr = 66) ∨ (bk = 66 ∧ dr = 60)) ∧ bookI I bk rs ∧ modI I rs ∧ vOk I
def Rel (I : Iv) (rs : RLs) (bk dr : Nat) (pt : Option Nat) (n : Nat) : Prop := jT (I 0 0) (I 72 0) ∧ jW (I 2) (I 73) (I 3) (I 75) ∧ jB (I 15) (I 74) ∧ jH (I 4 0) (I 72 1) (I 5) (I 76) (I 6) (I 77) (I 7) (I 78) (I 8) (I 79) (I 9) (I 85) (I 10) (I 11) (I 80) ∧ jY I ∧ jF (I 51 0) (I 72 3) (I 52) (I 84) ∧ jP (I 53 0) (I 72 28) (I 54) (I 93) ∧ jX (I 55 0) (I 72 35) (I 55 1) (I 72 37) ∧ jR I rs bk dr ∧ jS I rs pt n
def Relx (n : Nat) (I : Iv) (ρ : Rv) : Prop := ∃ rs bk dr pt, ρ = rst bk dr pt ∧ Rel I rs bk dr pt n
theorem jY.same {I J : Iv} (h : jY I) (hr : ∀ o, 16 ≤ o → o ≤ 50 → J o = I o) (h2 : J 72 2 = I 72 2) (h81 : J 81 = I 81) (h82 : J 82 = I 82) (h83 : J 83 = I 83) (h97 : J 97 0 = I 97 0) : jY J := by
  obtain ⟨⟨Z, a1, a2, a3, a4⟩, b, c, d, e, f, g⟩ := h
  have e16 := hr 16 (by decide) (by decide)
  unfold jY
  rw [h81, h82, h83, h2, h97, hr 17 (by decide) (by decide), hr 18 (by decide) (by decide), hr 39 (by decide) (by decide), hr 41 (by decide) (by decide), e16]
  exact ⟨⟨Z, a1, a2, a3.same (by rw [e16]) (fun o p q => hr o (by omega) (by omega)), fun H q => (a4 H q).same (by rw [e16]) (hr 37 (by decide) (by decide))⟩, b, c, d, e, f, g⟩
theorem bookI.same {I J : Iv} {b : Nat} {rs : RLs} (h : bookI I b rs) (h0 : J b 0 = I b 0) (hr : ∀ o, b < o → o ≤ b + 4 → J o = I o) : bookI J b rs := by
  unfold bookI at h ⊢
  rw [h0, hr (b + 1) (by omega) (by omega), hr (b + 2) (by omega) (by omega), hr (b + 3) (by omega) (by omega), hr (b + 4) (by omega) (by omega)]
  exact h
theorem jR.same {I J : Iv} {rs : RLs} {bk dr : Nat} (h : jR I rs bk dr) (hr : ∀ o, 60 ≤ o → o ≤ 71 → J o = I o) (h17 : J 72 17 = I 72 17) (h32 : J 72 32 = I 72 32) (h86 : J 86 = I 86) (h87 : J 87 = I 87) (h88 : J 88 = I 88) : jR J rs bk dr := by
  obtain ⟨a, b, c, d⟩ := h
  refine ⟨a, b.same (by rw [hr bk (by omega) (by omega)]) (fun o p q => hr o (by omega) (by omega)), modI_same c h17 h86 h87 h88, ?_⟩
  unfold vOk at d ⊢
  rw [h32]
  exact d
theorem cpRes.same {w : Nat → Int} {D : Int → Int} {st : List Nat} {H : Nat} {I J : Iv} (h : cpRes w D st H I) (h3 : J 103 = I 103) (h8 : J 108 = I 108) : cpRes w D st H J := by
  unfold cpRes at h ⊢
  rw [h3, h8]
  exact h
theorem jS.same {I J : Iv} {rs : RLs} {pt : Option Nat} {n : Nat} (h : jS I rs pt n) (h0 : J 0 11 = I 0 11) (h4 : J 4 0 = I 4 0) (h6 : J 6 = I 6) (h7 : J 7 = I 7) (h8 : J 8 = I 8) (h9 : J 9 = I 9) (h51 : J 51 0 = I 51 0) (h52 : J 52 = I 52) (hr : ∀ o, 103 ≤ o → o ≤ 108 → J o = I o) : jS J rs pt n := by
  have ed : duC J rs = duC I rs := by
    unfold duC fxH
    rw [h6, h7, h8, h9]
  have es : ∀ H F al, stC J rs H F al = stC I rs H F al := fun H F al => by
    unfold stC
    rw [ed, h52]
  rcases h with ⟨a, b, c⟩ | ⟨a, b, c, d, e⟩
  · exact Or.inl ⟨a, b, by rw [h0]; exact c⟩
  · refine Or.inr ⟨a, b, by rw [hr 105 (by decide) (by decide)]; exact c, ?_, ?_⟩
    · intro i i0 i1
      rw [hr 107 (by decide) (by decide)]
      exact d i i0 i1
    · rw [h0]
      rcases e with e | ⟨e1, e2⟩
      · exact Or.inl e
      · refine Or.inr ⟨e1, fun H F al q1 q2 q3 => ?_⟩
        rw [h52, ed, es]
        exact (e2 H F al (by rw [← h4]; exact q1) (by rw [← h51]; exact q2) q3).same (hr 103 (by decide) (by decide)) (hr 108 (by decide) (by decide))
theorem jS.zero {I J : Iv} {rs rs' : RLs} {pt : Option Nat} {n : Nat} (h : jS I rs pt n) (h0 : J 0 11 = 0) (h5 : J 105 = I 105) (h7 : J 107 = I 107) : jS J rs' pt n := by
  rcases h with ⟨a, b, c⟩ | ⟨a, b, c, d, e⟩
  · exact Or.inl ⟨a, b, h0⟩
  · refine Or.inr ⟨a, b, by rw [h5]; exact c, ?_, Or.inl h0⟩
    intro i i0 i1
    rw [h7]
    exact d i i0 i1
theorem jS.n {I : Iv} {rs : RLs} {pt : Option Nat} {n : Nat} (h : jS I rs pt n) : 103 ≤ n := by
  rcases h with ⟨-, b, -⟩ | ⟨-, b, -⟩ <;> omega
theorem jR.ok {I : Iv} {rs : RLs} {bk dr n : Nat} {pt : Option Nat} (h : jR I rs bk dr) (hn : 103 ≤ n) : BkOk n (rst bk dr pt) bk ∧ BkOk n (rst bk dr pt) dr := by
  rcases h.1 with ⟨rfl, rfl⟩ | ⟨rfl, rfl⟩
  · exact ⟨⟨rfl, rfl, rfl, rfl, rfl, rfl, rfl, rfl, rfl, rfl, rfl, by decide, by decide, hn⟩, ⟨rfl, rfl, rfl, rfl, rfl, rfl, rfl, rfl, rfl, rfl, rfl, by decide, by decide, hn⟩⟩
  · exact ⟨⟨rfl, rfl, rfl, rfl, rfl, rfl, rfl, rfl, rfl, rfl, rfl, by decide, by decide, hn⟩, ⟨rfl, rfl, rfl, rfl, rfl, rfl, rfl, rfl, rfl, rfl, rfl, by decide, by decide, hn⟩⟩
theorem Relx.n {n : Nat} {I : Iv} {ρ : Rv} (h : Relx n I ρ) : 103 ≤ n := by
  obtain ⟨rs, bk, dr, pt, -, hR⟩ := h
  exact hR.2.2.2.2.2.2.2.2.2.n
theorem vI (a : Int) : ∃ a' : Int, rg a' ∧ some (Value.int (jI a)) = some (.int (jI a')) := ⟨(jI a).toInt, rg_of _, by rw [jI_of]⟩
/-- a call on both: what the class's comes to, then what the reference's comes to; the answers are the same, and they are held together still -/
def Pr (G : GE) (y1 : MethodName) (c1 : ByteArray) (n1 : Nat) (y2 : MethodName) (c2 : ByteArray) (n2 : Nat) (ret : Option FieldType) (as : List Value) (n : Nat) (I : Iv) (ρ : Rv) : Prop := ∃ (d mc ms : Nat) (Φ : Pt5), d ≤ 40 ∧ mc ≤ 6 ∧ ms ≤ 10263 ∧ Ct G y1 c1 n1 ret d mc ms (.ref (gb G + 0) :: as) n I ρ Φ ∧ ∀ v n' I' ρ', Φ v n' I' ρ' → 103 ≤ n' ∧ (∃ a : Int, rg a ∧ v = some (.int (jI a))) ∧ ∃ (d' : Nat) (Φ' : Pt5), d' ≤ 40 ∧ Ct G y2 c2 n2 ret d' 0 0 (.ref (gb G + 72) :: as) n' I' ρ' Φ' ∧ ∀ v' n'' I'' ρ'', Φ' v' n'' I'' ρ'' → v' = v ∧ Relx n'' I'' ρ''
theorem Pr_two {G : GE} {y1 y2 : MethodName} {c1 c2 : ByteArray} {n1 n2 : Nat} {ret : Option FieldType} {as : List Value} {n : Nat} {I : Iv} {ρ : Rv} {P : Prop} {r r0 : Int} {W : Iv} {d d' : Nat} (hd : d ≤ 40) (hd' : d' ≤ 40) (C1 : Ct G y1 c1 n1 ret d 0 0 (.ref (gb G + 0) :: as) n I ρ (Two P r r0 W I n ρ)) (hx : Relx n I ρ)
    (ht : P → ∃ P' r' r0' W', Ct G y2 c2 n2 ret d' 0 0 (.ref (gb G + 72) :: as) n W ρ (Two P' r' r0' W' W n ρ) ∧ P' ∧ r' = r ∧ Relx n W' ρ)
    (hf : ¬ P → ∃ P' r' r0' W', Ct G y2 c2 n2 ret d' 0 0 (.ref (gb G + 72) :: as) n I ρ (Two P' r' r0' W' I n ρ) ∧ ¬ P' ∧ r0' = r0) : Pr G y1 c1 n1 y2 c2 n2 ret as n I ρ := by
  refine ⟨d, 0, 0, _, hd, by decide, by decide, C1, ?_⟩
  rintro v n' I' ρ' ⟨rfl, rfl, ⟨hP, rfl, rfl⟩ | ⟨hP, rfl, rfl⟩⟩
  · obtain ⟨P', r', r0', W', C2, hP', rfl, hR⟩ := ht hP
    refine ⟨hx.n, vI _, d', _, hd', C2, ?_⟩
    rintro v' n'' I'' ρ'' ⟨rfl, rfl, ⟨h1, rfl, rfl⟩ | ⟨h1, rfl, rfl⟩⟩
    · exact ⟨rfl, hR⟩
    · exact absurd hP' h1
  · obtain ⟨P', r', r0', W', C2, hP', rfl⟩ := hf hP
    refine ⟨hx.n, vI _, d', _, hd', C2, ?_⟩
    rintro v' n'' I'' ρ'' ⟨rfl, rfl, ⟨h1, rfl, rfl⟩ | ⟨h1, rfl, rfl⟩⟩
    · exact absurd h1 hP'
    · exact ⟨rfl, hx⟩
theorem Pr_pi {G : GE} {y1 y2 : MethodName} {c1 c2 : ByteArray} {n1 n2 : Nat} {ret : Option FieldType} {as : List Value} {n : Nat} {I : Iv} {ρ : Rv} {r r' : Int} {d d' : Nat} (hd : d ≤ 40) (hd' : d' ≤ 40) (C1 : Ct G y1 c1 n1 ret d 0 0 (.ref (gb G + 0) :: as) n I ρ (PI r n I ρ)) (C2 : Ct G y2 c2 n2 ret d' 0 0 (.ref (gb G + 72) :: as) n I ρ (PI r' n I ρ)) (e : r' = r) (hx : Relx n I ρ) : Pr G y1 c1 n1 y2 c2 n2 ret as n I ρ := by
  refine ⟨d, 0, 0, _, hd, by decide, by decide, C1, ?_⟩
  rintro v n' I' ρ' ⟨rfl, rfl, rfl, rfl⟩
  refine ⟨hx.n, vI _, d', _, hd', C2, ?_⟩
  rintro v' n'' I'' ρ'' ⟨rfl, rfl, rfl, rfl⟩
  exact ⟨by rw [e], hx⟩
