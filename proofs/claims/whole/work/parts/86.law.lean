/-! ===== the law: its rows and its cases ===== -/
abbrev sc (xs : Nat → Int32) (j : Int) : Int := (xs j.toNat).toInt
theorem sc_rg (xs : Nat → Int32) (j : Int) : rg (sc xs j) := rg_of _
/-- the machine in the law -/
def SemL (G : GE) (nm : String) (b L : Nat) (xs : Nat → Int32) (k : Kt) : Prop := ∃ (p : Program) (e : Env) (s : State) (m : MethodId) (below : List Frame) (meth : Method) (c : Code), k = KK G p e room_1 s m #[Value.ref b] below meth c (lw_Z below #[Value.ref b] s) ∧ Cx G RL nm cL_law 4 p s m #[Value.ref b] meth c ∧ va_X b L xs s s.heap ∧ b < s.heap.size ∧ gb G = s.heap.size ∧ meth.sig.returnType = ret ∧ meth.locks = false
theorem SemL.sem {G : GE} {nm : String} {b L : Nat} {xs : Nat → Int32} {k : Kt} (h : SemL G nm b L xs k) : Sem G RL nm cL_law 4 room_1 k := by
  obtain ⟨p, e, s, m, below, meth, c, h1, h2, -⟩ := h
  exact ⟨p, e, s, m, _, below, meth, c, _, h1, h2⟩
section
variable {G : GE} {nm : String} {k : Kt} {pc : Nat} {Lc : List (Option Value)} {st : List Value} {n : Nat} {I : Iv} {ρ : Rv} {x z b L : Nat} {xs : Nat → Int32}
theorem r_sld (SL : SemL G nm b L xs k) {i : Int} (h0 : 0 ≤ i) (h1 : i < L) (hd : decode cL_law pc = .ok (.iaload, 1)) (kk : k (pc + 1) Lc (.int (jI (sc xs i)) :: st) n I ρ x z) (hL : L ≤ 3072 := by omega) : k pc Lc (.int (jI i) :: .ref b :: st) n I ρ x z := by
  obtain ⟨p, e, s, m, below, meth, c, rfl, ⟨hx, hb, hml, hown, hnm, hts, hE, hbs⟩, hX, hbl, hg, hr, hlk⟩ := SL
  intro H locs ls hH hS hl
  refine va_sld hx hb hX hbl (by show ¬ gb G ≤ b; omega) hS (jI_in h0 h1 (by omega)) hd ?_
  rw [jI_clamp h0 (by omega)]
  have K := kk H locs ls hH hS hl
  rw [show jI (sc xs i) = xs i.toNat from jI_of _] at K
  exact K
theorem r_lsn (SL : SemL G nm b L xs k) (hd : decode cL_law pc = .ok (.arraylength, 1)) (kk : k (pc + 1) Lc (.int (jI (L : Int)) :: st) n I ρ x z) : k pc Lc (.ref b :: st) n I ρ x z := by
  obtain ⟨p, e, s, m, below, meth, c, rfl, ⟨hx, hb, hml, hown, hnm, hts, hE, hbs⟩, hX, hbl, hg, hr, hlk⟩ := SL
  intro H locs ls hH hS hl
  refine va_slen hx hb hX hbl (by show ¬ gb G ≤ b; omega) hS hd ?_
  rw [jI_nat]
  exact kk H locs ls hH hS hl
theorem r_lret (SL : SemL G nm b L xs k) (hd : decode cL_law pc = .ok (.ireturn, 1)) (hx' : x ≤ 600000) (hz' : z ≤ 7302250) : k pc Lc [.int (jI 1)] n I ρ x z := by
  obtain ⟨p, e, s, m, below, meth, c, rfl, ⟨hx, hb, hml, hown, hnm, hts, hE, hbs⟩, hX, hbl, hg, hr, hlk⟩ := SL
  intro H locs ls hH hS hl
  refine va_forget (fun q hq => by have := hS.2.2 q hq; show s.heap.size ≤ q.base; rw [← hg]; exact this) ?_
  refine W.widen hx' hz' ?_
  exact lw_ret hx hb hr hlk hd
theorem lw_water (SL : SemL G nm b L xs k) (hR : Relx n I ρ) {t : Nat} (ht : 6 * t + 6 ≤ L) (hL : L ≤ 3072) (hx : x ≤ 103 + 6 * t) (hz : z ≤ 16199 + 10263 * t) (kk : ∀ (n' : Nat) (I' : Iv) (ρ' : Rv) (x' z' : Nat), Relx n' I' ρ' → x' ≤ 103 + 6 * (t + 1) → z' ≤ 16199 + 10263 * (t + 1) → k 690 [some (.ref b), some (.ref (gb G + 0)), some (.ref (gb G + 72)), some (.int (jI (6 * (t : Int))))] [] n' I' ρ' x' z') : k 120 [some (.ref b), some (.ref (gb G + 0)), some (.ref (gb G + 72)), some (.int (jI (6 * (t : Int))))] [] n I ρ x z := by
  have S := SL.sem
  have hn := hR.n
  obtain ⟨rs, bk, dr, pt, rfl, hR⟩ := hR
  obtain ⟨d, mc, ms, Φ, hd, hmc, hms, C1, hΦ⟩ := q_water (G := G) hR (sc_rg xs (6 * (t : Int) + 1)) (sc_rg xs (6 * (t : Int) + 2))
  refine r_aload_n S rfl dL_law_120 ?_
  refine r_aload_n S rfl dL_law_121 ?_
  refine r_iload_n S rfl dL_law_122 ?_
  refine r_iconst S dL_law_123 ?_
  refine r_iadd S dL_law_124 ?_
  refine r_sld SL (by omega) (by omega) dL_law_125 ?_
  refine r_aload_n S rfl dL_law_126 ?_
  refine r_iload_n S rfl dL_law_127 ?_
  refine r_iconst S dL_law_128 ?_
  refine r_iadd S dL_law_129 ?_
  refine r_sld SL (by omega) (by omega) dL_law_130 ?_
  refine r_callV S lk_L_13 mk_X11_water C1 rfl (Nat.lt_of_lt_of_le (by decide) hn) rfl rfl rfl (Nat.le_of_ble_eq_true rfl) ⟨by show _ ≤ 2048; omega, by show _ ≤ 84000; omega⟩ rfl ⟨by show _ ≤ 600000; omega, by show _ ≤ 7302250; omega⟩ dL_law_131 ?_
  rintro v n1 I1 ρ1 h1
  obtain ⟨hn1, ⟨va, hva, rfl⟩, d', Φ', hd', C2, hΦ'⟩ := hΦ v n1 I1 ρ1 h1
  refine r_aload_n S rfl dL_law_134 ?_
  refine r_aload_n S rfl dL_law_135 ?_
  refine r_iload_n S rfl dL_law_136 ?_
  refine r_iconst S dL_law_137 ?_
  refine r_iadd S dL_law_138 ?_
  refine r_sld SL (by omega) (by omega) dL_law_139 ?_
  refine r_aload_n S rfl dL_law_140 ?_
  refine r_iload_n S rfl dL_law_141 ?_
  refine r_iconst S dL_law_142 ?_
  refine r_iadd S dL_law_143 ?_
  refine r_sld SL (by omega) (by omega) dL_law_144 ?_
  refine r_callV S lk_L_17 mk_X12_water C2 rfl (Nat.lt_of_lt_of_le (by decide) hn1) rfl rfl rfl (Nat.le_of_ble_eq_true rfl) ⟨by show _ ≤ 2048; omega, by show _ ≤ 84000; omega⟩ rfl ⟨by show _ ≤ 600000; omega, by show _ ≤ 7302250; omega⟩ dL_law_145 ?_
  rintro v' n2 I2 ρ2 h2
  obtain ⟨rfl, hR2⟩ := hΦ' v' n2 I2 ρ2 h2
  refine r_icmp_eq S (tgt := 690) dL_law_148 (by decide) hva hva (fun c148 => ?_) (fun c148 => ?_)
  · exact kk n2 I2 ρ2 _ _ hR2 (by omega) (by omega)
  · exact absurd rfl c148
theorem lw_village (SL : SemL G nm b L xs k) (hR : Relx n I ρ) {t : Nat} (ht : 6 * t + 6 ≤ L) (hL : L ≤ 3072) (hx : x ≤ 103 + 6 * t) (hz : z ≤ 16199 + 10263 * t) (kk : ∀ (n' : Nat) (I' : Iv) (ρ' : Rv) (x' z' : Nat), Relx n' I' ρ' → x' ≤ 103 + 6 * (t + 1) → z' ≤ 16199 + 10263 * (t + 1) → k 690 [some (.ref b), some (.ref (gb G + 0)), some (.ref (gb G + 72)), some (.int (jI (6 * (t : Int))))] [] n' I' ρ' x' z') : k 153 [some (.ref b), some (.ref (gb G + 0)), some (.ref (gb G + 72)), some (.int (jI (6 * (t : Int))))] [] n I ρ x z := by
  have S := SL.sem
  have hn := hR.n
  obtain ⟨rs, bk, dr, pt, rfl, hR⟩ := hR
  obtain ⟨d, mc, ms, Φ, hd, hmc, hms, C1, hΦ⟩ := q_village (G := G) hR (sc_rg xs (6 * (t : Int) + 1)) (sc_rg xs (6 * (t : Int) + 2))
  refine r_aload_n S rfl dL_law_153 ?_
  refine r_aload_n S rfl dL_law_154 ?_
  refine r_iload_n S rfl dL_law_155 ?_
  refine r_iconst S dL_law_156 ?_
  refine r_iadd S dL_law_157 ?_
  refine r_sld SL (by omega) (by omega) dL_law_158 ?_
  refine r_aload_n S rfl dL_law_159 ?_
  refine r_iload_n S rfl dL_law_160 ?_
  refine r_iconst S dL_law_161 ?_
  refine r_iadd S dL_law_162 ?_
  refine r_sld SL (by omega) (by omega) dL_law_163 ?_
  refine r_callV S lk_L_18 mk_X11_village C1 rfl (Nat.lt_of_lt_of_le (by decide) hn) rfl rfl rfl (Nat.le_of_ble_eq_true rfl) ⟨by show _ ≤ 2048; omega, by show _ ≤ 84000; omega⟩ rfl ⟨by show _ ≤ 600000; omega, by show _ ≤ 7302250; omega⟩ dL_law_164 ?_
  rintro v n1 I1 ρ1 h1
  obtain ⟨hn1, ⟨va, hva, rfl⟩, d', Φ', hd', C2, hΦ'⟩ := hΦ v n1 I1 ρ1 h1
  refine r_aload_n S rfl dL_law_167 ?_
  refine r_aload_n S rfl dL_law_168 ?_
  refine r_iload_n S rfl dL_law_169 ?_
  refine r_iconst S dL_law_170 ?_
  refine r_iadd S dL_law_171 ?_
  refine r_sld SL (by omega) (by omega) dL_law_172 ?_
  refine r_aload_n S rfl dL_law_173 ?_
  refine r_iload_n S rfl dL_law_174 ?_
  refine r_iconst S dL_law_175 ?_
  refine r_iadd S dL_law_176 ?_
  refine r_sld SL (by omega) (by omega) dL_law_177 ?_
  refine r_callV S lk_L_21 mk_X12_village C2 rfl (Nat.lt_of_lt_of_le (by decide) hn1) rfl rfl rfl (Nat.le_of_ble_eq_true rfl) ⟨by show _ ≤ 2048; omega, by show _ ≤ 84000; omega⟩ rfl ⟨by show _ ≤ 600000; omega, by show _ ≤ 7302250; omega⟩ dL_law_178 ?_
  rintro v' n2 I2 ρ2 h2
  obtain ⟨rfl, hR2⟩ := hΦ' v' n2 I2 ρ2 h2
  refine r_icmp_eq S (tgt := 690) dL_law_181 (by decide) hva hva (fun c181 => ?_) (fun c181 => ?_)
  · exact kk n2 I2 ρ2 _ _ hR2 (by omega) (by omega)
  · exact absurd rfl c181
theorem lw_drowned (SL : SemL G nm b L xs k) (hR : Relx n I ρ) {t : Nat} (ht : 6 * t + 6 ≤ L) (hL : L ≤ 3072) (hx : x ≤ 103 + 6 * t) (hz : z ≤ 16199 + 10263 * t) (kk : ∀ (n' : Nat) (I' : Iv) (ρ' : Rv) (x' z' : Nat), Relx n' I' ρ' → x' ≤ 103 + 6 * (t + 1) → z' ≤ 16199 + 10263 * (t + 1) → k 690 [some (.ref b), some (.ref (gb G + 0)), some (.ref (gb G + 72)), some (.int (jI (6 * (t : Int))))] [] n' I' ρ' x' z') : k 186 [some (.ref b), some (.ref (gb G + 0)), some (.ref (gb G + 72)), some (.int (jI (6 * (t : Int))))] [] n I ρ x z := by
  have S := SL.sem
  have hn := hR.n
  obtain ⟨rs, bk, dr, pt, rfl, hR⟩ := hR
  obtain ⟨d, mc, ms, Φ, hd, hmc, hms, C1, hΦ⟩ := q_drowned (G := G) hR (sc_rg xs (6 * (t : Int) + 1))
  refine r_aload_n S rfl dL_law_186 ?_
  refine r_aload_n S rfl dL_law_187 ?_
  refine r_iload_n S rfl dL_law_188 ?_
  refine r_iconst S dL_law_189 ?_
  refine r_iadd S dL_law_190 ?_
  refine r_sld SL (by omega) (by omega) dL_law_191 ?_
  refine r_callV S lk_L_22 mk_X11_drowned C1 rfl (Nat.lt_of_lt_of_le (by decide) hn) rfl rfl rfl (Nat.le_of_ble_eq_true rfl) ⟨by show _ ≤ 2048; omega, by show _ ≤ 84000; omega⟩ rfl ⟨by show _ ≤ 600000; omega, by show _ ≤ 7302250; omega⟩ dL_law_192 ?_
  rintro v n1 I1 ρ1 h1
  obtain ⟨hn1, ⟨va, hva, rfl⟩, d', Φ', hd', C2, hΦ'⟩ := hΦ v n1 I1 ρ1 h1
  refine r_aload_n S rfl dL_law_195 ?_
  refine r_aload_n S rfl dL_law_196 ?_
  refine r_iload_n S rfl dL_law_197 ?_
  refine r_iconst S dL_law_198 ?_
  refine r_iadd S dL_law_199 ?_
  refine r_sld SL (by omega) (by omega) dL_law_200 ?_
  refine r_callV S lk_L_26 mk_X12_drowned C2 rfl (Nat.lt_of_lt_of_le (by decide) hn1) rfl rfl rfl (Nat.le_of_ble_eq_true rfl) ⟨by show _ ≤ 2048; omega, by show _ ≤ 84000; omega⟩ rfl ⟨by show _ ≤ 600000; omega, by show _ ≤ 7302250; omega⟩ dL_law_201 ?_
  rintro v' n2 I2 ρ2 h2
  obtain ⟨rfl, hR2⟩ := hΦ' v' n2 I2 ρ2 h2
  refine r_icmp_eq S (tgt := 690) dL_law_204 (by decide) hva hva (fun c204 => ?_) (fun c204 => ?_)
  · exact kk n2 I2 ρ2 _ _ hR2 (by omega) (by omega)
  · exact absurd rfl c204
theorem lw_household (SL : SemL G nm b L xs k) (hR : Relx n I ρ) {t : Nat} (ht : 6 * t + 6 ≤ L) (hL : L ≤ 3072) (hx : x ≤ 103 + 6 * t) (hz : z ≤ 16199 + 10263 * t) (kk : ∀ (n' : Nat) (I' : Iv) (ρ' : Rv) (x' z' : Nat), Relx n' I' ρ' → x' ≤ 103 + 6 * (t + 1) → z' ≤ 16199 + 10263 * (t + 1) → k 690 [some (.ref b), some (.ref (gb G + 0)), some (.ref (gb G + 72)), some (.int (jI (6 * (t : Int))))] [] n' I' ρ' x' z') : k 209 [some (.ref b), some (.ref (gb G + 0)), some (.ref (gb G + 72)), some (.int (jI (6 * (t : Int))))] [] n I ρ x z := by
  have S := SL.sem
  have hn := hR.n
  obtain ⟨rs, bk, dr, pt, rfl, hR⟩ := hR
  by_cases e5 : sc xs (6 * (t : Int) + 5) = 0
  · have e6 := e5
    obtain ⟨d, mc, ms, Φ, hd, hmc, hms, C1, hΦ⟩ := q_household (G := G) hR (sc_rg xs (6 * (t : Int) + 1)) (sc_rg xs (6 * (t : Int) + 2)) (sc_rg xs (6 * (t : Int) + 3)) (sc_rg xs (6 * (t : Int) + 4)) (p := 0) (Or.inl rfl)
    refine r_aload_n S rfl dL_law_209 ?_
    refine r_aload_n S rfl dL_law_210 ?_
    refine r_iload_n S rfl dL_law_211 ?_
    refine r_iconst S dL_law_212 ?_
    refine r_iadd S dL_law_213 ?_
    refine r_sld SL (by omega) (by omega) dL_law_214 ?_
    refine r_aload_n S rfl dL_law_215 ?_
    refine r_iload_n S rfl dL_law_216 ?_
    refine r_iconst S dL_law_217 ?_
    refine r_iadd S dL_law_218 ?_
    refine r_sld SL (by omega) (by omega) dL_law_219 ?_
    refine r_aload_n S rfl dL_law_220 ?_
    refine r_iload_n S rfl dL_law_221 ?_
    refine r_iconst S dL_law_222 ?_
    refine r_iadd S dL_law_223 ?_
    refine r_sld SL (by omega) (by omega) dL_law_224 ?_
    refine r_aload_n S rfl dL_law_225 ?_
    refine r_iload_n S rfl dL_law_226 ?_
    refine r_iconst S dL_law_227 ?_
    refine r_iadd S dL_law_228 ?_
    refine r_sld SL (by omega) (by omega) dL_law_229 ?_
    refine r_aload_n S rfl dL_law_230 ?_
    refine r_iload_n S rfl dL_law_231 ?_
    refine r_iconst S dL_law_232 ?_
    refine r_iadd S dL_law_233 ?_
    refine r_sld SL (by omega) (by omega) dL_law_234 ?_
    refine r_if_eq S (tgt := 242) dL_law_235 (by decide) (sc_rg xs _) (fun c235 => ?_) (fun c235 => ?_)
    · refine r_iconst S dL_law_242 ?_
      refine r_callV S lk_L_27 mk_X11_household C1 rfl (Nat.lt_of_lt_of_le (by decide) hn) rfl rfl rfl (Nat.le_of_ble_eq_true rfl) ⟨by show _ ≤ 2048; omega, by show _ ≤ 84000; omega⟩ rfl ⟨by show _ ≤ 600000; omega, by show _ ≤ 7302250; omega⟩ dL_law_243 ?_
      rintro v n1 I1 ρ1 h1
      obtain ⟨hn1, ⟨va, hva, rfl⟩, d', Φ', hd', C2, hΦ'⟩ := hΦ v n1 I1 ρ1 h1
      refine r_aload_n S rfl dL_law_246 ?_
      refine r_aload_n S rfl dL_law_247 ?_
      refine r_iload_n S rfl dL_law_248 ?_
      refine r_iconst S dL_law_249 ?_
      refine r_iadd S dL_law_250 ?_
      refine r_sld SL (by omega) (by omega) dL_law_251 ?_
      refine r_aload_n S rfl dL_law_252 ?_
      refine r_iload_n S rfl dL_law_253 ?_
      refine r_iconst S dL_law_254 ?_
      refine r_iadd S dL_law_255 ?_
      refine r_sld SL (by omega) (by omega) dL_law_256 ?_
      refine r_aload_n S rfl dL_law_257 ?_
      refine r_iload_n S rfl dL_law_258 ?_
      refine r_iconst S dL_law_259 ?_
      refine r_iadd S dL_law_260 ?_
      refine r_sld SL (by omega) (by omega) dL_law_261 ?_
      refine r_aload_n S rfl dL_law_262 ?_
      refine r_iload_n S rfl dL_law_263 ?_
      refine r_iconst S dL_law_264 ?_
      refine r_iadd S dL_law_265 ?_
      refine r_sld SL (by omega) (by omega) dL_law_266 ?_
      refine r_aload_n S rfl dL_law_267 ?_
      refine r_iload_n S rfl dL_law_268 ?_
      refine r_iconst S dL_law_269 ?_
      refine r_iadd S dL_law_270 ?_
      refine r_sld SL (by omega) (by omega) dL_law_271 ?_
      refine r_if_eq S (tgt := 279) dL_law_272 (by decide) (sc_rg xs _) (fun c272 => ?_) (fun c272 => ?_)
      · refine r_iconst S dL_law_279 ?_
        refine r_callV S lk_L_31 mk_X12_household C2 rfl (Nat.lt_of_lt_of_le (by decide) hn1) rfl rfl rfl (Nat.le_of_ble_eq_true rfl) ⟨by show _ ≤ 2048; omega, by show _ ≤ 84000; omega⟩ rfl ⟨by show _ ≤ 600000; omega, by show _ ≤ 7302250; omega⟩ dL_law_280 ?_
        rintro v' n2 I2 ρ2 h2
        obtain ⟨rfl, hR2⟩ := hΦ' v' n2 I2 ρ2 h2
        refine r_icmp_eq S (tgt := 690) dL_law_283 (by decide) hva hva (fun c283 => ?_) (fun c283 => ?_)
        · exact kk n2 I2 ρ2 _ _ hR2 (by omega) (by omega)
        · exact absurd rfl c283
      · exact absurd e5 c272
    · exact absurd e5 c235
  · have e6 := e5
    obtain ⟨d, mc, ms, Φ, hd, hmc, hms, C1, hΦ⟩ := q_household (G := G) hR (sc_rg xs (6 * (t : Int) + 1)) (sc_rg xs (6 * (t : Int) + 2)) (sc_rg xs (6 * (t : Int) + 3)) (sc_rg xs (6 * (t : Int) + 4)) (p := 1) (Or.inr rfl)
    refine r_aload_n S rfl dL_law_209 ?_
    refine r_aload_n S rfl dL_law_210 ?_
    refine r_iload_n S rfl dL_law_211 ?_
    refine r_iconst S dL_law_212 ?_
    refine r_iadd S dL_law_213 ?_
    refine r_sld SL (by omega) (by omega) dL_law_214 ?_
    refine r_aload_n S rfl dL_law_215 ?_
    refine r_iload_n S rfl dL_law_216 ?_
    refine r_iconst S dL_law_217 ?_
    refine r_iadd S dL_law_218 ?_
    refine r_sld SL (by omega) (by omega) dL_law_219 ?_
    refine r_aload_n S rfl dL_law_220 ?_
    refine r_iload_n S rfl dL_law_221 ?_
    refine r_iconst S dL_law_222 ?_
    refine r_iadd S dL_law_223 ?_
    refine r_sld SL (by omega) (by omega) dL_law_224 ?_
    refine r_aload_n S rfl dL_law_225 ?_
    refine r_iload_n S rfl dL_law_226 ?_
    refine r_iconst S dL_law_227 ?_
    refine r_iadd S dL_law_228 ?_
    refine r_sld SL (by omega) (by omega) dL_law_229 ?_
    refine r_aload_n S rfl dL_law_230 ?_
    refine r_iload_n S rfl dL_law_231 ?_
    refine r_iconst S dL_law_232 ?_
    refine r_iadd S dL_law_233 ?_
    refine r_sld SL (by omega) (by omega) dL_law_234 ?_
    refine r_if_eq S (tgt := 242) dL_law_235 (by decide) (sc_rg xs _) (fun c235 => ?_) (fun c235 => ?_)
    · exact absurd c235 e5
    · refine r_iconst S dL_law_238 ?_
      refine r_goto S (tgt := 243) dL_law_239 (by decide) ?_
      refine r_callV S lk_L_27 mk_X11_household C1 rfl (Nat.lt_of_lt_of_le (by decide) hn) rfl rfl rfl (Nat.le_of_ble_eq_true rfl) ⟨by show _ ≤ 2048; omega, by show _ ≤ 84000; omega⟩ rfl ⟨by show _ ≤ 600000; omega, by show _ ≤ 7302250; omega⟩ dL_law_243 ?_
      rintro v n1 I1 ρ1 h1
      obtain ⟨hn1, ⟨va, hva, rfl⟩, d', Φ', hd', C2, hΦ'⟩ := hΦ v n1 I1 ρ1 h1
      refine r_aload_n S rfl dL_law_246 ?_
      refine r_aload_n S rfl dL_law_247 ?_
      refine r_iload_n S rfl dL_law_248 ?_
      refine r_iconst S dL_law_249 ?_
      refine r_iadd S dL_law_250 ?_
      refine r_sld SL (by omega) (by omega) dL_law_251 ?_
      refine r_aload_n S rfl dL_law_252 ?_
      refine r_iload_n S rfl dL_law_253 ?_
      refine r_iconst S dL_law_254 ?_
      refine r_iadd S dL_law_255 ?_
      refine r_sld SL (by omega) (by omega) dL_law_256 ?_
      refine r_aload_n S rfl dL_law_257 ?_
      refine r_iload_n S rfl dL_law_258 ?_
      refine r_iconst S dL_law_259 ?_
      refine r_iadd S dL_law_260 ?_
      refine r_sld SL (by omega) (by omega) dL_law_261 ?_
      refine r_aload_n S rfl dL_law_262 ?_
      refine r_iload_n S rfl dL_law_263 ?_
      refine r_iconst S dL_law_264 ?_
      refine r_iadd S dL_law_265 ?_
      refine r_sld SL (by omega) (by omega) dL_law_266 ?_
      refine r_aload_n S rfl dL_law_267 ?_
      refine r_iload_n S rfl dL_law_268 ?_
      refine r_iconst S dL_law_269 ?_
      refine r_iadd S dL_law_270 ?_
      refine r_sld SL (by omega) (by omega) dL_law_271 ?_
      refine r_if_eq S (tgt := 279) dL_law_272 (by decide) (sc_rg xs _) (fun c272 => ?_) (fun c272 => ?_)
      · exact absurd c272 e5
      · refine r_iconst S dL_law_275 ?_
        refine r_goto S (tgt := 280) dL_law_276 (by decide) ?_
        refine r_callV S lk_L_31 mk_X12_household C2 rfl (Nat.lt_of_lt_of_le (by decide) hn1) rfl rfl rfl (Nat.le_of_ble_eq_true rfl) ⟨by show _ ≤ 2048; omega, by show _ ≤ 84000; omega⟩ rfl ⟨by show _ ≤ 600000; omega, by show _ ≤ 7302250; omega⟩ dL_law_280 ?_
        rintro v' n2 I2 ρ2 h2
        obtain ⟨rfl, hR2⟩ := hΦ' v' n2 I2 ρ2 h2
        refine r_icmp_eq S (tgt := 690) dL_law_283 (by decide) hva hva (fun c283 => ?_) (fun c283 => ?_)
        · exact kk n2 I2 ρ2 _ _ hR2 (by omega) (by omega)
        · exact absurd rfl c283
theorem lw_papers (SL : SemL G nm b L xs k) (hR : Relx n I ρ) {t : Nat} (ht : 6 * t + 6 ≤ L) (hL : L ≤ 3072) (hx : x ≤ 103 + 6 * t) (hz : z ≤ 16199 + 10263 * t) (kk : ∀ (n' : Nat) (I' : Iv) (ρ' : Rv) (x' z' : Nat), Relx n' I' ρ' → x' ≤ 103 + 6 * (t + 1) → z' ≤ 16199 + 10263 * (t + 1) → k 690 [some (.ref b), some (.ref (gb G + 0)), some (.ref (gb G + 72)), some (.int (jI (6 * (t : Int))))] [] n' I' ρ' x' z') : k 288 [some (.ref b), some (.ref (gb G + 0)), some (.ref (gb G + 72)), some (.int (jI (6 * (t : Int))))] [] n I ρ x z := by
  have S := SL.sem
  have hn := hR.n
  obtain ⟨rs, bk, dr, pt, rfl, hR⟩ := hR
  obtain ⟨d, mc, ms, Φ, hd, hmc, hms, C1, hΦ⟩ := q_papers (G := G) hR (sc_rg xs (6 * (t : Int) + 1))
  refine r_aload_n S rfl dL_law_288 ?_
  refine r_aload_n S rfl dL_law_289 ?_
  refine r_iload_n S rfl dL_law_290 ?_
  refine r_iconst S dL_law_291 ?_
  refine r_iadd S dL_law_292 ?_
  refine r_sld SL (by omega) (by omega) dL_law_293 ?_
  refine r_callV S lk_L_32 mk_X11_papers C1 rfl (Nat.lt_of_lt_of_le (by decide) hn) rfl rfl rfl (Nat.le_of_ble_eq_true rfl) ⟨by show _ ≤ 2048; omega, by show _ ≤ 84000; omega⟩ rfl ⟨by show _ ≤ 600000; omega, by show _ ≤ 7302250; omega⟩ dL_law_294 ?_
  rintro v n1 I1 ρ1 h1
  obtain ⟨hn1, ⟨va, hva, rfl⟩, d', Φ', hd', C2, hΦ'⟩ := hΦ v n1 I1 ρ1 h1
  refine r_aload_n S rfl dL_law_297 ?_
  refine r_aload_n S rfl dL_law_298 ?_
  refine r_iload_n S rfl dL_law_299 ?_
  refine r_iconst S dL_law_300 ?_
  refine r_iadd S dL_law_301 ?_
  refine r_sld SL (by omega) (by omega) dL_law_302 ?_
  refine r_callV S lk_L_36 mk_X12_papers C2 rfl (Nat.lt_of_lt_of_le (by decide) hn1) rfl rfl rfl (Nat.le_of_ble_eq_true rfl) ⟨by show _ ≤ 2048; omega, by show _ ≤ 84000; omega⟩ rfl ⟨by show _ ≤ 600000; omega, by show _ ≤ 7302250; omega⟩ dL_law_303 ?_
  rintro v' n2 I2 ρ2 h2
  obtain ⟨rfl, hR2⟩ := hΦ' v' n2 I2 ρ2 h2
  refine r_icmp_eq S (tgt := 690) dL_law_306 (by decide) hva hva (fun c306 => ?_) (fun c306 => ?_)
  · exact kk n2 I2 ρ2 _ _ hR2 (by omega) (by omega)
  · exact absurd rfl c306
theorem lw_tie (SL : SemL G nm b L xs k) (hR : Relx n I ρ) {t : Nat} (ht : 6 * t + 6 ≤ L) (hL : L ≤ 3072) (hx : x ≤ 103 + 6 * t) (hz : z ≤ 16199 + 10263 * t) (kk : ∀ (n' : Nat) (I' : Iv) (ρ' : Rv) (x' z' : Nat), Relx n' I' ρ' → x' ≤ 103 + 6 * (t + 1) → z' ≤ 16199 + 10263 * (t + 1) → k 690 [some (.ref b), some (.ref (gb G + 0)), some (.ref (gb G + 72)), some (.int (jI (6 * (t : Int))))] [] n' I' ρ' x' z') : k 311 [some (.ref b), some (.ref (gb G + 0)), some (.ref (gb G + 72)), some (.int (jI (6 * (t : Int))))] [] n I ρ x z := by
  have S := SL.sem
  have hn := hR.n
  obtain ⟨rs, bk, dr, pt, rfl, hR⟩ := hR
  obtain ⟨d, mc, ms, Φ, hd, hmc, hms, C1, hΦ⟩ := q_tie (G := G) hR (sc_rg xs (6 * (t : Int) + 1)) (sc_rg xs (6 * (t : Int) + 2)) (sc_rg xs (6 * (t : Int) + 3))
  refine r_aload_n S rfl dL_law_311 ?_
  refine r_aload_n S rfl dL_law_312 ?_
  refine r_iload_n S rfl dL_law_313 ?_
  refine r_iconst S dL_law_314 ?_
  refine r_iadd S dL_law_315 ?_
  refine r_sld SL (by omega) (by omega) dL_law_316 ?_
  refine r_aload_n S rfl dL_law_317 ?_
  refine r_iload_n S rfl dL_law_318 ?_
  refine r_iconst S dL_law_319 ?_
  refine r_iadd S dL_law_320 ?_
  refine r_sld SL (by omega) (by omega) dL_law_321 ?_
  refine r_aload_n S rfl dL_law_322 ?_
  refine r_iload_n S rfl dL_law_323 ?_
  refine r_iconst S dL_law_324 ?_
  refine r_iadd S dL_law_325 ?_
  refine r_sld SL (by omega) (by omega) dL_law_326 ?_
  refine r_callV S lk_L_37 mk_X11_tie C1 rfl (Nat.lt_of_lt_of_le (by decide) hn) rfl rfl rfl (Nat.le_of_ble_eq_true rfl) ⟨by show _ ≤ 2048; omega, by show _ ≤ 84000; omega⟩ rfl ⟨by show _ ≤ 600000; omega, by show _ ≤ 7302250; omega⟩ dL_law_327 ?_
  rintro v n1 I1 ρ1 h1
  obtain ⟨hn1, ⟨va, hva, rfl⟩, d', Φ', hd', C2, hΦ'⟩ := hΦ v n1 I1 ρ1 h1
  refine r_aload_n S rfl dL_law_330 ?_
  refine r_aload_n S rfl dL_law_331 ?_
  refine r_iload_n S rfl dL_law_332 ?_
  refine r_iconst S dL_law_333 ?_
  refine r_iadd S dL_law_334 ?_
  refine r_sld SL (by omega) (by omega) dL_law_335 ?_
  refine r_aload_n S rfl dL_law_336 ?_
  refine r_iload_n S rfl dL_law_337 ?_
  refine r_iconst S dL_law_338 ?_
  refine r_iadd S dL_law_339 ?_
  refine r_sld SL (by omega) (by omega) dL_law_340 ?_
  refine r_aload_n S rfl dL_law_341 ?_
  refine r_iload_n S rfl dL_law_342 ?_
  refine r_iconst S dL_law_343 ?_
  refine r_iadd S dL_law_344 ?_
  refine r_sld SL (by omega) (by omega) dL_law_345 ?_
  refine r_callV S lk_L_41 mk_X12_tie C2 rfl (Nat.lt_of_lt_of_le (by decide) hn1) rfl rfl rfl (Nat.le_of_ble_eq_true rfl) ⟨by show _ ≤ 2048; omega, by show _ ≤ 84000; omega⟩ rfl ⟨by show _ ≤ 600000; omega, by show _ ≤ 7302250; omega⟩ dL_law_346 ?_
  rintro v' n2 I2 ρ2 h2
  obtain ⟨rfl, hR2⟩ := hΦ' v' n2 I2 ρ2 h2
  refine r_icmp_eq S (tgt := 690) dL_law_349 (by decide) hva hva (fun c349 => ?_) (fun c349 => ?_)
  · exact kk n2 I2 ρ2 _ _ hR2 (by omega) (by omega)
  · exact absurd rfl c349
theorem lw_site (SL : SemL G nm b L xs k) (hR : Relx n I ρ) {t : Nat} (ht : 6 * t + 6 ≤ L) (hL : L ≤ 3072) (hx : x ≤ 103 + 6 * t) (hz : z ≤ 16199 + 10263 * t) (kk : ∀ (n' : Nat) (I' : Iv) (ρ' : Rv) (x' z' : Nat), Relx n' I' ρ' → x' ≤ 103 + 6 * (t + 1) → z' ≤ 16199 + 10263 * (t + 1) → k 690 [some (.ref b), some (.ref (gb G + 0)), some (.ref (gb G + 72)), some (.int (jI (6 * (t : Int))))] [] n' I' ρ' x' z') : k 354 [some (.ref b), some (.ref (gb G + 0)), some (.ref (gb G + 72)), some (.int (jI (6 * (t : Int))))] [] n I ρ x z := by
  have S := SL.sem
  have hn := hR.n
  obtain ⟨rs, bk, dr, pt, rfl, hR⟩ := hR
  obtain ⟨d, mc, ms, Φ, hd, hmc, hms, C1, hΦ⟩ := q_site (G := G) hR (sc_rg xs (6 * (t : Int) + 1)) (sc_rg xs (6 * (t : Int) + 2))
  refine r_aload_n S rfl dL_law_354 ?_
  refine r_aload_n S rfl dL_law_355 ?_
  refine r_iload_n S rfl dL_law_356 ?_
  refine r_iconst S dL_law_357 ?_
  refine r_iadd S dL_law_358 ?_
  refine r_sld SL (by omega) (by omega) dL_law_359 ?_
  refine r_aload_n S rfl dL_law_360 ?_
  refine r_iload_n S rfl dL_law_361 ?_
  refine r_iconst S dL_law_362 ?_
  refine r_iadd S dL_law_363 ?_
  refine r_sld SL (by omega) (by omega) dL_law_364 ?_
  refine r_callV S lk_L_42 mk_X11_site C1 rfl (Nat.lt_of_lt_of_le (by decide) hn) rfl rfl rfl (Nat.le_of_ble_eq_true rfl) ⟨by show _ ≤ 2048; omega, by show _ ≤ 84000; omega⟩ rfl ⟨by show _ ≤ 600000; omega, by show _ ≤ 7302250; omega⟩ dL_law_365 ?_
  rintro v n1 I1 ρ1 h1
  obtain ⟨hn1, ⟨va, hva, rfl⟩, d', Φ', hd', C2, hΦ'⟩ := hΦ v n1 I1 ρ1 h1
  refine r_aload_n S rfl dL_law_368 ?_
  refine r_aload_n S rfl dL_law_369 ?_
  refine r_iload_n S rfl dL_law_370 ?_
  refine r_iconst S dL_law_371 ?_
  refine r_iadd S dL_law_372 ?_
  refine r_sld SL (by omega) (by omega) dL_law_373 ?_
  refine r_aload_n S rfl dL_law_374 ?_
  refine r_iload_n S rfl dL_law_375 ?_
  refine r_iconst S dL_law_376 ?_
  refine r_iadd S dL_law_377 ?_
  refine r_sld SL (by omega) (by omega) dL_law_378 ?_
  refine r_callV S lk_L_46 mk_X12_site C2 rfl (Nat.lt_of_lt_of_le (by decide) hn1) rfl rfl rfl (Nat.le_of_ble_eq_true rfl) ⟨by show _ ≤ 2048; omega, by show _ ≤ 84000; omega⟩ rfl ⟨by show _ ≤ 600000; omega, by show _ ≤ 7302250; omega⟩ dL_law_379 ?_
  rintro v' n2 I2 ρ2 h2
  obtain ⟨rfl, hR2⟩ := hΦ' v' n2 I2 ρ2 h2
  refine r_icmp_eq S (tgt := 690) dL_law_382 (by decide) hva hva (fun c382 => ?_) (fun c382 => ?_)
  · exact kk n2 I2 ρ2 _ _ hR2 (by omega) (by omega)
  · exact absurd rfl c382
theorem lw_field (SL : SemL G nm b L xs k) (hR : Relx n I ρ) {t : Nat} (ht : 6 * t + 6 ≤ L) (hL : L ≤ 3072) (hx : x ≤ 103 + 6 * t) (hz : z ≤ 16199 + 10263 * t) (kk : ∀ (n' : Nat) (I' : Iv) (ρ' : Rv) (x' z' : Nat), Relx n' I' ρ' → x' ≤ 103 + 6 * (t + 1) → z' ≤ 16199 + 10263 * (t + 1) → k 690 [some (.ref b), some (.ref (gb G + 0)), some (.ref (gb G + 72)), some (.int (jI (6 * (t : Int))))] [] n' I' ρ' x' z') : k 387 [some (.ref b), some (.ref (gb G + 0)), some (.ref (gb G + 72)), some (.int (jI (6 * (t : Int))))] [] n I ρ x z := by
  have S := SL.sem
  have hn := hR.n
  obtain ⟨rs, bk, dr, pt, rfl, hR⟩ := hR
  obtain ⟨d, mc, ms, Φ, hd, hmc, hms, C1, hΦ⟩ := q_field (G := G) hR (sc_rg xs (6 * (t : Int) + 1))
  refine r_aload_n S rfl dL_law_387 ?_
  refine r_aload_n S rfl dL_law_388 ?_
  refine r_iload_n S rfl dL_law_389 ?_
  refine r_iconst S dL_law_390 ?_
  refine r_iadd S dL_law_391 ?_
  refine r_sld SL (by omega) (by omega) dL_law_392 ?_
  refine r_callV S lk_L_47 mk_X11_field C1 rfl (Nat.lt_of_lt_of_le (by decide) hn) rfl rfl rfl (Nat.le_of_ble_eq_true rfl) ⟨by show _ ≤ 2048; omega, by show _ ≤ 84000; omega⟩ rfl ⟨by show _ ≤ 600000; omega, by show _ ≤ 7302250; omega⟩ dL_law_393 ?_
  rintro v n1 I1 ρ1 h1
  obtain ⟨hn1, ⟨va, hva, rfl⟩, d', Φ', hd', C2, hΦ'⟩ := hΦ v n1 I1 ρ1 h1
  refine r_aload_n S rfl dL_law_396 ?_
  refine r_aload_n S rfl dL_law_397 ?_
  refine r_iload_n S rfl dL_law_398 ?_
  refine r_iconst S dL_law_399 ?_
  refine r_iadd S dL_law_400 ?_
  refine r_sld SL (by omega) (by omega) dL_law_401 ?_
  refine r_callV S lk_L_50 mk_X12_field C2 rfl (Nat.lt_of_lt_of_le (by decide) hn1) rfl rfl rfl (Nat.le_of_ble_eq_true rfl) ⟨by show _ ≤ 2048; omega, by show _ ≤ 84000; omega⟩ rfl ⟨by show _ ≤ 600000; omega, by show _ ≤ 7302250; omega⟩ dL_law_402 ?_
  rintro v' n2 I2 ρ2 h2
  obtain ⟨rfl, hR2⟩ := hΦ' v' n2 I2 ρ2 h2
  refine r_icmp_eq S (tgt := 690) dL_law_405 (by decide) hva hva (fun c405 => ?_) (fun c405 => ?_)
  · exact kk n2 I2 ρ2 _ _ hR2 (by omega) (by omega)
  · exact absurd rfl c405
theorem lw_builders (SL : SemL G nm b L xs k) (hR : Relx n I ρ) {t : Nat} (ht : 6 * t + 6 ≤ L) (hL : L ≤ 3072) (hx : x ≤ 103 + 6 * t) (hz : z ≤ 16199 + 10263 * t) (kk : ∀ (n' : Nat) (I' : Iv) (ρ' : Rv) (x' z' : Nat), Relx n' I' ρ' → x' ≤ 103 + 6 * (t + 1) → z' ≤ 16199 + 10263 * (t + 1) → k 690 [some (.ref b), some (.ref (gb G + 0)), some (.ref (gb G + 72)), some (.int (jI (6 * (t : Int))))] [] n' I' ρ' x' z') : k 410 [some (.ref b), some (.ref (gb G + 0)), some (.ref (gb G + 72)), some (.int (jI (6 * (t : Int))))] [] n I ρ x z := by
  have S := SL.sem
  have hn := hR.n
  obtain ⟨rs, bk, dr, pt, rfl, hR⟩ := hR
  obtain ⟨d, mc, ms, Φ, hd, hmc, hms, C1, hΦ⟩ := q_builders (G := G) hR (sc_rg xs (6 * (t : Int) + 1)) (sc_rg xs (6 * (t : Int) + 2))
  refine r_aload_n S rfl dL_law_410 ?_
  refine r_aload_n S rfl dL_law_411 ?_
  refine r_iload_n S rfl dL_law_412 ?_
  refine r_iconst S dL_law_413 ?_
  refine r_iadd S dL_law_414 ?_
  refine r_sld SL (by omega) (by omega) dL_law_415 ?_
  refine r_aload_n S rfl dL_law_416 ?_
  refine r_iload_n S rfl dL_law_417 ?_
  refine r_iconst S dL_law_418 ?_
  refine r_iadd S dL_law_419 ?_
  refine r_sld SL (by omega) (by omega) dL_law_420 ?_
  refine r_callV S lk_L_51 mk_X11_builders C1 rfl (Nat.lt_of_lt_of_le (by decide) hn) rfl rfl rfl (Nat.le_of_ble_eq_true rfl) ⟨by show _ ≤ 2048; omega, by show _ ≤ 84000; omega⟩ rfl ⟨by show _ ≤ 600000; omega, by show _ ≤ 7302250; omega⟩ dL_law_421 ?_
  rintro v n1 I1 ρ1 h1
  obtain ⟨hn1, ⟨va, hva, rfl⟩, d', Φ', hd', C2, hΦ'⟩ := hΦ v n1 I1 ρ1 h1
  refine r_aload_n S rfl dL_law_424 ?_
  refine r_aload_n S rfl dL_law_425 ?_
  refine r_iload_n S rfl dL_law_426 ?_
  refine r_iconst S dL_law_427 ?_
  refine r_iadd S dL_law_428 ?_
  refine r_sld SL (by omega) (by omega) dL_law_429 ?_
  refine r_aload_n S rfl dL_law_430 ?_
  refine r_iload_n S rfl dL_law_431 ?_
  refine r_iconst S dL_law_432 ?_
  refine r_iadd S dL_law_433 ?_
  refine r_sld SL (by omega) (by omega) dL_law_434 ?_
  refine r_callV S lk_L_54 mk_X12_builders C2 rfl (Nat.lt_of_lt_of_le (by decide) hn1) rfl rfl rfl (Nat.le_of_ble_eq_true rfl) ⟨by show _ ≤ 2048; omega, by show _ ≤ 84000; omega⟩ rfl ⟨by show _ ≤ 600000; omega, by show _ ≤ 7302250; omega⟩ dL_law_435 ?_
  rintro v' n2 I2 ρ2 h2
  obtain ⟨rfl, hR2⟩ := hΦ' v' n2 I2 ρ2 h2
  refine r_icmp_eq S (tgt := 690) dL_law_438 (by decide) hva hva (fun c438 => ?_) (fun c438 => ?_)
  · exact kk n2 I2 ρ2 _ _ hR2 (by omega) (by omega)
  · exact absurd rfl c438
theorem lw_feed (SL : SemL G nm b L xs k) (hR : Relx n I ρ) {t : Nat} (ht : 6 * t + 6 ≤ L) (hL : L ≤ 3072) (hx : x ≤ 103 + 6 * t) (hz : z ≤ 16199 + 10263 * t) (kk : ∀ (n' : Nat) (I' : Iv) (ρ' : Rv) (x' z' : Nat), Relx n' I' ρ' → x' ≤ 103 + 6 * (t + 1) → z' ≤ 16199 + 10263 * (t + 1) → k 690 [some (.ref b), some (.ref (gb G + 0)), some (.ref (gb G + 72)), some (.int (jI (6 * (t : Int))))] [] n' I' ρ' x' z') : k 443 [some (.ref b), some (.ref (gb G + 0)), some (.ref (gb G + 72)), some (.int (jI (6 * (t : Int))))] [] n I ρ x z := by
  have S := SL.sem
  have hn := hR.n
  obtain ⟨rs, bk, dr, pt, rfl, hR⟩ := hR
  obtain ⟨d, mc, ms, Φ, hd, hmc, hms, C1, hΦ⟩ := q_feed (G := G) hR (a := sc xs (6 * (t : Int) + 1)) (b := sc xs (6 * (t : Int) + 2)) (c := sc xs (6 * (t : Int) + 3)) (d := sc xs (6 * (t : Int) + 4)) (e := sc xs (6 * (t : Int) + 5))
  refine r_aload_n S rfl dL_law_443 ?_
  refine r_aload_n S rfl dL_law_444 ?_
  refine r_iload_n S rfl dL_law_445 ?_
  refine r_iconst S dL_law_446 ?_
  refine r_iadd S dL_law_447 ?_
  refine r_sld SL (by omega) (by omega) dL_law_448 ?_
  refine r_aload_n S rfl dL_law_449 ?_
  refine r_iload_n S rfl dL_law_450 ?_
  refine r_iconst S dL_law_451 ?_
  refine r_iadd S dL_law_452 ?_
  refine r_sld SL (by omega) (by omega) dL_law_453 ?_
  refine r_aload_n S rfl dL_law_454 ?_
  refine r_iload_n S rfl dL_law_455 ?_
  refine r_iconst S dL_law_456 ?_
  refine r_iadd S dL_law_457 ?_
  refine r_sld SL (by omega) (by omega) dL_law_458 ?_
  refine r_aload_n S rfl dL_law_459 ?_
  refine r_iload_n S rfl dL_law_460 ?_
  refine r_iconst S dL_law_461 ?_
  refine r_iadd S dL_law_462 ?_
  refine r_sld SL (by omega) (by omega) dL_law_463 ?_
  refine r_aload_n S rfl dL_law_464 ?_
  refine r_iload_n S rfl dL_law_465 ?_
  refine r_iconst S dL_law_466 ?_
  refine r_iadd S dL_law_467 ?_
  refine r_sld SL (by omega) (by omega) dL_law_468 ?_
  refine r_callV S lk_L_55 mk_X11_feed C1 rfl (Nat.lt_of_lt_of_le (by decide) hn) rfl rfl rfl (Nat.le_of_ble_eq_true rfl) ⟨by show _ ≤ 2048; omega, by show _ ≤ 84000; omega⟩ rfl ⟨by show _ ≤ 600000; omega, by show _ ≤ 7302250; omega⟩ dL_law_469 ?_
  rintro v n1 I1 ρ1 h1
  obtain ⟨hn1, ⟨va, hva, rfl⟩, d', Φ', hd', C2, hΦ'⟩ := hΦ v n1 I1 ρ1 h1
  refine r_aload_n S rfl dL_law_472 ?_
  refine r_aload_n S rfl dL_law_473 ?_
  refine r_iload_n S rfl dL_law_474 ?_
  refine r_iconst S dL_law_475 ?_
  refine r_iadd S dL_law_476 ?_
  refine r_sld SL (by omega) (by omega) dL_law_477 ?_
  refine r_aload_n S rfl dL_law_478 ?_
  refine r_iload_n S rfl dL_law_479 ?_
  refine r_iconst S dL_law_480 ?_
  refine r_iadd S dL_law_481 ?_
  refine r_sld SL (by omega) (by omega) dL_law_482 ?_
  refine r_aload_n S rfl dL_law_483 ?_
  refine r_iload_n S rfl dL_law_484 ?_
  refine r_iconst S dL_law_485 ?_
  refine r_iadd S dL_law_486 ?_
  refine r_sld SL (by omega) (by omega) dL_law_487 ?_
  refine r_aload_n S rfl dL_law_488 ?_
  refine r_iload_n S rfl dL_law_489 ?_
  refine r_iconst S dL_law_490 ?_
  refine r_iadd S dL_law_491 ?_
  refine r_sld SL (by omega) (by omega) dL_law_492 ?_
  refine r_aload_n S rfl dL_law_493 ?_
  refine r_iload_n S rfl dL_law_494 ?_
  refine r_iconst S dL_law_495 ?_
  refine r_iadd S dL_law_496 ?_
  refine r_sld SL (by omega) (by omega) dL_law_497 ?_
  refine r_callV S lk_L_59 mk_X12_feed C2 rfl (Nat.lt_of_lt_of_le (by decide) hn1) rfl rfl rfl (Nat.le_of_ble_eq_true rfl) ⟨by show _ ≤ 2048; omega, by show _ ≤ 84000; omega⟩ rfl ⟨by show _ ≤ 600000; omega, by show _ ≤ 7302250; omega⟩ dL_law_498 ?_
  rintro v' n2 I2 ρ2 h2
  obtain ⟨rfl, hR2⟩ := hΦ' v' n2 I2 ρ2 h2
  refine r_icmp_eq S (tgt := 690) dL_law_501 (by decide) hva hva (fun c501 => ?_) (fun c501 => ?_)
  · exact kk n2 I2 ρ2 _ _ hR2 (by omega) (by omega)
  · exact absurd rfl c501
theorem lw_end (SL : SemL G nm b L xs k) (hR : Relx n I ρ) {t : Nat} (ht : 6 * t + 6 ≤ L) (hL : L ≤ 3072) (hx : x ≤ 103 + 6 * t) (hz : z ≤ 16199 + 10263 * t) (kk : ∀ (n' : Nat) (I' : Iv) (ρ' : Rv) (x' z' : Nat), Relx n' I' ρ' → x' ≤ 103 + 6 * (t + 1) → z' ≤ 16199 + 10263 * (t + 1) → k 690 [some (.ref b), some (.ref (gb G + 0)), some (.ref (gb G + 72)), some (.int (jI (6 * (t : Int))))] [] n' I' ρ' x' z') : k 506 [some (.ref b), some (.ref (gb G + 0)), some (.ref (gb G + 72)), some (.int (jI (6 * (t : Int))))] [] n I ρ x z := by
  have S := SL.sem
  have hn := hR.n
  obtain ⟨rs, bk, dr, pt, rfl, hR⟩ := hR
  obtain ⟨d, mc, ms, Φ, hd, hmc, hms, C1, hΦ⟩ := q_end (G := G) hR (sc_rg xs (6 * (t : Int) + 1))
  refine r_aload_n S rfl dL_law_506 ?_
  refine r_aload_n S rfl dL_law_507 ?_
  refine r_iload_n S rfl dL_law_508 ?_
  refine r_iconst S dL_law_509 ?_
  refine r_iadd S dL_law_510 ?_
  refine r_sld SL (by omega) (by omega) dL_law_511 ?_
  refine r_callV S lk_L_60 mk_X11_end C1 rfl (Nat.lt_of_lt_of_le (by decide) hn) rfl rfl rfl (Nat.le_of_ble_eq_true rfl) ⟨by show _ ≤ 2048; omega, by show _ ≤ 84000; omega⟩ rfl ⟨by show _ ≤ 600000; omega, by show _ ≤ 7302250; omega⟩ dL_law_512 ?_
  rintro v n1 I1 ρ1 h1
  obtain ⟨hn1, ⟨va, hva, rfl⟩, d', Φ', hd', C2, hΦ'⟩ := hΦ v n1 I1 ρ1 h1
  refine r_aload_n S rfl dL_law_515 ?_
  refine r_aload_n S rfl dL_law_516 ?_
  refine r_iload_n S rfl dL_law_517 ?_
  refine r_iconst S dL_law_518 ?_
  refine r_iadd S dL_law_519 ?_
  refine r_sld SL (by omega) (by omega) dL_law_520 ?_
  refine r_callV S lk_L_63 mk_X12_end C2 rfl (Nat.lt_of_lt_of_le (by decide) hn1) rfl rfl rfl (Nat.le_of_ble_eq_true rfl) ⟨by show _ ≤ 2048; omega, by show _ ≤ 84000; omega⟩ rfl ⟨by show _ ≤ 600000; omega, by show _ ≤ 7302250; omega⟩ dL_law_521 ?_
  rintro v' n2 I2 ρ2 h2
  obtain ⟨rfl, hR2⟩ := hΦ' v' n2 I2 ρ2 h2
  refine r_icmp_eq S (tgt := 690) dL_law_524 (by decide) hva hva (fun c524 => ?_) (fun c524 => ?_)
  · exact kk n2 I2 ρ2 _ _ hR2 (by omega) (by omega)
  · exact absurd rfl c524
theorem lw_rules (SL : SemL G nm b L xs k) (hR : Relx n I ρ) {t : Nat} (ht : 6 * t + 6 ≤ L) (hL : L ≤ 3072) (hx : x ≤ 103 + 6 * t) (hz : z ≤ 16199 + 10263 * t) (kk : ∀ (n' : Nat) (I' : Iv) (ρ' : Rv) (x' z' : Nat), Relx n' I' ρ' → x' ≤ 103 + 6 * (t + 1) → z' ≤ 16199 + 10263 * (t + 1) → k 690 [some (.ref b), some (.ref (gb G + 0)), some (.ref (gb G + 72)), some (.int (jI (6 * (t : Int))))] [] n' I' ρ' x' z') : k 529 [some (.ref b), some (.ref (gb G + 0)), some (.ref (gb G + 72)), some (.int (jI (6 * (t : Int))))] [] n I ρ x z := by
  have S := SL.sem
  have hn := hR.n
  obtain ⟨rs, bk, dr, pt, rfl, hR⟩ := hR
  obtain ⟨d, mc, ms, Φ, hd, hmc, hms, C1, hΦ⟩ := q_rules (G := G) hR 
  refine r_aload_n S rfl dL_law_529 ?_
  refine r_callV S lk_L_64 mk_X11_rules C1 rfl (Nat.lt_of_lt_of_le (by decide) hn) rfl rfl rfl (Nat.le_of_ble_eq_true rfl) ⟨by show _ ≤ 2048; omega, by show _ ≤ 84000; omega⟩ rfl ⟨by show _ ≤ 600000; omega, by show _ ≤ 7302250; omega⟩ dL_law_530 ?_
  rintro v n1 I1 ρ1 h1
  obtain ⟨hn1, ⟨va, hva, rfl⟩, d', Φ', hd', C2, hΦ'⟩ := hΦ v n1 I1 ρ1 h1
  refine r_aload_n S rfl dL_law_533 ?_
  refine r_callV S lk_L_68 mk_X12_rules C2 rfl (Nat.lt_of_lt_of_le (by decide) hn1) rfl rfl rfl (Nat.le_of_ble_eq_true rfl) ⟨by show _ ≤ 2048; omega, by show _ ≤ 84000; omega⟩ rfl ⟨by show _ ≤ 600000; omega, by show _ ≤ 7302250; omega⟩ dL_law_534 ?_
  rintro v' n2 I2 ρ2 h2
  obtain ⟨rfl, hR2⟩ := hΦ' v' n2 I2 ρ2 h2
  refine r_icmp_eq S (tgt := 690) dL_law_537 (by decide) hva hva (fun c537 => ?_) (fun c537 => ?_)
  · exact kk n2 I2 ρ2 _ _ hR2 (by omega) (by omega)
  · exact absurd rfl c537
theorem lw_fault (SL : SemL G nm b L xs k) (hR : Relx n I ρ) {t : Nat} (ht : 6 * t + 6 ≤ L) (hL : L ≤ 3072) (hx : x ≤ 103 + 6 * t) (hz : z ≤ 16199 + 10263 * t) (kk : ∀ (n' : Nat) (I' : Iv) (ρ' : Rv) (x' z' : Nat), Relx n' I' ρ' → x' ≤ 103 + 6 * (t + 1) → z' ≤ 16199 + 10263 * (t + 1) → k 690 [some (.ref b), some (.ref (gb G + 0)), some (.ref (gb G + 72)), some (.int (jI (6 * (t : Int))))] [] n' I' ρ' x' z') : k 542 [some (.ref b), some (.ref (gb G + 0)), some (.ref (gb G + 72)), some (.int (jI (6 * (t : Int))))] [] n I ρ x z := by
  have S := SL.sem
  have hn := hR.n
  obtain ⟨rs, bk, dr, pt, rfl, hR⟩ := hR
  obtain ⟨d, mc, ms, Φ, hd, hmc, hms, C1, hΦ⟩ := q_fault (G := G) hR (sc_rg xs (6 * (t : Int) + 1))
  refine r_aload_n S rfl dL_law_542 ?_
  refine r_aload_n S rfl dL_law_543 ?_
  refine r_iload_n S rfl dL_law_544 ?_
  refine r_iconst S dL_law_545 ?_
  refine r_iadd S dL_law_546 ?_
  refine r_sld SL (by omega) (by omega) dL_law_547 ?_
  refine r_callV S lk_L_69 mk_X11_fault C1 rfl (Nat.lt_of_lt_of_le (by decide) hn) rfl rfl rfl (Nat.le_of_ble_eq_true rfl) ⟨by show _ ≤ 2048; omega, by show _ ≤ 84000; omega⟩ rfl ⟨by show _ ≤ 600000; omega, by show _ ≤ 7302250; omega⟩ dL_law_548 ?_
  rintro v n1 I1 ρ1 h1
  obtain ⟨hn1, ⟨va, hva, rfl⟩, d', Φ', hd', C2, hΦ'⟩ := hΦ v n1 I1 ρ1 h1
  refine r_aload_n S rfl dL_law_551 ?_
  refine r_aload_n S rfl dL_law_552 ?_
  refine r_iload_n S rfl dL_law_553 ?_
  refine r_iconst S dL_law_554 ?_
  refine r_iadd S dL_law_555 ?_
  refine r_sld SL (by omega) (by omega) dL_law_556 ?_
  refine r_callV S lk_L_72 mk_X12_fault C2 rfl (Nat.lt_of_lt_of_le (by decide) hn1) rfl rfl rfl (Nat.le_of_ble_eq_true rfl) ⟨by show _ ≤ 2048; omega, by show _ ≤ 84000; omega⟩ rfl ⟨by show _ ≤ 600000; omega, by show _ ≤ 7302250; omega⟩ dL_law_557 ?_
  rintro v' n2 I2 ρ2 h2
  obtain ⟨rfl, hR2⟩ := hΦ' v' n2 I2 ρ2 h2
  refine r_icmp_eq S (tgt := 690) dL_law_560 (by decide) hva hva (fun c560 => ?_) (fun c560 => ?_)
  · exact kk n2 I2 ρ2 _ _ hR2 (by omega) (by omega)
  · exact absurd rfl c560
theorem lw_look (SL : SemL G nm b L xs k) (hR : Relx n I ρ) {t : Nat} (ht : 6 * t + 6 ≤ L) (hL : L ≤ 3072) (hx : x ≤ 103 + 6 * t) (hz : z ≤ 16199 + 10263 * t) (kk : ∀ (n' : Nat) (I' : Iv) (ρ' : Rv) (x' z' : Nat), Relx n' I' ρ' → x' ≤ 103 + 6 * (t + 1) → z' ≤ 16199 + 10263 * (t + 1) → k 690 [some (.ref b), some (.ref (gb G + 0)), some (.ref (gb G + 72)), some (.int (jI (6 * (t : Int))))] [] n' I' ρ' x' z') : k 565 [some (.ref b), some (.ref (gb G + 0)), some (.ref (gb G + 72)), some (.int (jI (6 * (t : Int))))] [] n I ρ x z := by
  have S := SL.sem
  have hn := hR.n
  obtain ⟨rs, bk, dr, pt, rfl, hR⟩ := hR
  obtain ⟨d, mc, ms, Φ, hd, hmc, hms, C1, hΦ⟩ := q_look (G := G) hR (sc_rg xs (6 * (t : Int) + 1))
  refine r_aload_n S rfl dL_law_565 ?_
  refine r_aload_n S rfl dL_law_566 ?_
  refine r_iload_n S rfl dL_law_567 ?_
  refine r_iconst S dL_law_568 ?_
  refine r_iadd S dL_law_569 ?_
  refine r_sld SL (by omega) (by omega) dL_law_570 ?_
  refine r_callV S lk_L_73 mk_X11_look C1 rfl (Nat.lt_of_lt_of_le (by decide) hn) rfl rfl rfl (Nat.le_of_ble_eq_true rfl) ⟨by show _ ≤ 2048; omega, by show _ ≤ 84000; omega⟩ rfl ⟨by show _ ≤ 600000; omega, by show _ ≤ 7302250; omega⟩ dL_law_571 ?_
  rintro v n1 I1 ρ1 h1
  obtain ⟨hn1, ⟨va, hva, rfl⟩, d', Φ', hd', C2, hΦ'⟩ := hΦ v n1 I1 ρ1 h1
  refine r_aload_n S rfl dL_law_574 ?_
  refine r_aload_n S rfl dL_law_575 ?_
  refine r_iload_n S rfl dL_law_576 ?_
  refine r_iconst S dL_law_577 ?_
  refine r_iadd S dL_law_578 ?_
  refine r_sld SL (by omega) (by omega) dL_law_579 ?_
  refine r_callV S lk_L_76 mk_X12_look C2 rfl (Nat.lt_of_lt_of_le (by decide) hn1) rfl rfl rfl (Nat.le_of_ble_eq_true rfl) ⟨by show _ ≤ 2048; omega, by show _ ≤ 84000; omega⟩ rfl ⟨by show _ ≤ 600000; omega, by show _ ≤ 7302250; omega⟩ dL_law_580 ?_
  rintro v' n2 I2 ρ2 h2
  obtain ⟨rfl, hR2⟩ := hΦ' v' n2 I2 ρ2 h2
  refine r_icmp_eq S (tgt := 690) dL_law_583 (by decide) hva hva (fun c583 => ?_) (fun c583 => ?_)
  · exact kk n2 I2 ρ2 _ _ hR2 (by omega) (by omega)
  · exact absurd rfl c583
theorem lw_of (SL : SemL G nm b L xs k) (hR : Relx n I ρ) {t : Nat} (ht : 6 * t + 6 ≤ L) (hL : L ≤ 3072) (hx : x ≤ 103 + 6 * t) (hz : z ≤ 16199 + 10263 * t) (kk : ∀ (n' : Nat) (I' : Iv) (ρ' : Rv) (x' z' : Nat), Relx n' I' ρ' → x' ≤ 103 + 6 * (t + 1) → z' ≤ 16199 + 10263 * (t + 1) → k 690 [some (.ref b), some (.ref (gb G + 0)), some (.ref (gb G + 72)), some (.int (jI (6 * (t : Int))))] [] n' I' ρ' x' z') : k 588 [some (.ref b), some (.ref (gb G + 0)), some (.ref (gb G + 72)), some (.int (jI (6 * (t : Int))))] [] n I ρ x z := by
  have S := SL.sem
  have hn := hR.n
  obtain ⟨rs, bk, dr, pt, rfl, hR⟩ := hR
  obtain ⟨d, mc, ms, Φ, hd, hmc, hms, C1, hΦ⟩ := q_of (G := G) hR (sc_rg xs (6 * (t : Int) + 1)) (sc_rg xs (6 * (t : Int) + 2))
  refine r_aload_n S rfl dL_law_588 ?_
  refine r_aload_n S rfl dL_law_589 ?_
  refine r_iload_n S rfl dL_law_590 ?_
  refine r_iconst S dL_law_591 ?_
  refine r_iadd S dL_law_592 ?_
  refine r_sld SL (by omega) (by omega) dL_law_593 ?_
  refine r_aload_n S rfl dL_law_594 ?_
  refine r_iload_n S rfl dL_law_595 ?_
  refine r_iconst S dL_law_596 ?_
  refine r_iadd S dL_law_597 ?_
  refine r_sld SL (by omega) (by omega) dL_law_598 ?_
  refine r_callV S lk_L_77 mk_X11_of C1 rfl (Nat.lt_of_lt_of_le (by decide) hn) rfl rfl rfl (Nat.le_of_ble_eq_true rfl) ⟨by show _ ≤ 2048; omega, by show _ ≤ 84000; omega⟩ rfl ⟨by show _ ≤ 600000; omega, by show _ ≤ 7302250; omega⟩ dL_law_599 ?_
  rintro v n1 I1 ρ1 h1
  obtain ⟨hn1, ⟨va, hva, rfl⟩, d', Φ', hd', C2, hΦ'⟩ := hΦ v n1 I1 ρ1 h1
  refine r_aload_n S rfl dL_law_602 ?_
  refine r_aload_n S rfl dL_law_603 ?_
  refine r_iload_n S rfl dL_law_604 ?_
  refine r_iconst S dL_law_605 ?_
  refine r_iadd S dL_law_606 ?_
  refine r_sld SL (by omega) (by omega) dL_law_607 ?_
  refine r_aload_n S rfl dL_law_608 ?_
  refine r_iload_n S rfl dL_law_609 ?_
  refine r_iconst S dL_law_610 ?_
  refine r_iadd S dL_law_611 ?_
  refine r_sld SL (by omega) (by omega) dL_law_612 ?_
  refine r_callV S lk_L_80 mk_X12_of C2 rfl (Nat.lt_of_lt_of_le (by decide) hn1) rfl rfl rfl (Nat.le_of_ble_eq_true rfl) ⟨by show _ ≤ 2048; omega, by show _ ≤ 84000; omega⟩ rfl ⟨by show _ ≤ 600000; omega, by show _ ≤ 7302250; omega⟩ dL_law_613 ?_
  rintro v' n2 I2 ρ2 h2
  obtain ⟨rfl, hR2⟩ := hΦ' v' n2 I2 ρ2 h2
  refine r_icmp_eq S (tgt := 690) dL_law_616 (by decide) hva hva (fun c616 => ?_) (fun c616 => ?_)
  · exact kk n2 I2 ρ2 _ _ hR2 (by omega) (by omega)
  · exact absurd rfl c616
theorem lw_best (SL : SemL G nm b L xs k) (hR : Relx n I ρ) {t : Nat} (ht : 6 * t + 6 ≤ L) (hL : L ≤ 3072) (hx : x ≤ 103 + 6 * t) (hz : z ≤ 16199 + 10263 * t) (kk : ∀ (n' : Nat) (I' : Iv) (ρ' : Rv) (x' z' : Nat), Relx n' I' ρ' → x' ≤ 103 + 6 * (t + 1) → z' ≤ 16199 + 10263 * (t + 1) → k 690 [some (.ref b), some (.ref (gb G + 0)), some (.ref (gb G + 72)), some (.int (jI (6 * (t : Int))))] [] n' I' ρ' x' z') : k 621 [some (.ref b), some (.ref (gb G + 0)), some (.ref (gb G + 72)), some (.int (jI (6 * (t : Int))))] [] n I ρ x z := by
  have S := SL.sem
  have hn := hR.n
  obtain ⟨rs, bk, dr, pt, rfl, hR⟩ := hR
  obtain ⟨d, mc, ms, Φ, hd, hmc, hms, C1, hΦ⟩ := q_best (G := G) hR (sc_rg xs (6 * (t : Int) + 1))
  refine r_aload_n S rfl dL_law_621 ?_
  refine r_aload_n S rfl dL_law_622 ?_
  refine r_iload_n S rfl dL_law_623 ?_
  refine r_iconst S dL_law_624 ?_
  refine r_iadd S dL_law_625 ?_
  refine r_sld SL (by omega) (by omega) dL_law_626 ?_
  refine r_callV S lk_L_81 mk_X11_best C1 rfl (Nat.lt_of_lt_of_le (by decide) hn) rfl rfl rfl (Nat.le_of_ble_eq_true rfl) ⟨by show _ ≤ 2048; omega, by show _ ≤ 84000; omega⟩ rfl ⟨by show _ ≤ 600000; omega, by show _ ≤ 7302250; omega⟩ dL_law_627 ?_
  rintro v n1 I1 ρ1 h1
  obtain ⟨hn1, ⟨va, hva, rfl⟩, d', Φ', hd', C2, hΦ'⟩ := hΦ v n1 I1 ρ1 h1
  refine r_aload_n S rfl dL_law_630 ?_
  refine r_aload_n S rfl dL_law_631 ?_
  refine r_iload_n S rfl dL_law_632 ?_
  refine r_iconst S dL_law_633 ?_
  refine r_iadd S dL_law_634 ?_
  refine r_sld SL (by omega) (by omega) dL_law_635 ?_
  refine r_callV S lk_L_84 mk_X12_best C2 rfl (Nat.lt_of_lt_of_le (by decide) hn1) rfl rfl rfl (Nat.le_of_ble_eq_true rfl) ⟨by show _ ≤ 2048; omega, by show _ ≤ 84000; omega⟩ rfl ⟨by show _ ≤ 600000; omega, by show _ ≤ 7302250; omega⟩ dL_law_636 ?_
  rintro v' n2 I2 ρ2 h2
  obtain ⟨rfl, hR2⟩ := hΦ' v' n2 I2 ρ2 h2
  refine r_icmp_eq S (tgt := 690) dL_law_639 (by decide) hva hva (fun c639 => ?_) (fun c639 => ?_)
  · exact kk n2 I2 ρ2 _ _ hR2 (by omega) (by omega)
  · exact absurd rfl c639
theorem lw_part (SL : SemL G nm b L xs k) (hR : Relx n I ρ) {t : Nat} (ht : 6 * t + 6 ≤ L) (hL : L ≤ 3072) (hx : x ≤ 103 + 6 * t) (hz : z ≤ 16199 + 10263 * t) (kk : ∀ (n' : Nat) (I' : Iv) (ρ' : Rv) (x' z' : Nat), Relx n' I' ρ' → x' ≤ 103 + 6 * (t + 1) → z' ≤ 16199 + 10263 * (t + 1) → k 690 [some (.ref b), some (.ref (gb G + 0)), some (.ref (gb G + 72)), some (.int (jI (6 * (t : Int))))] [] n' I' ρ' x' z') : k 644 [some (.ref b), some (.ref (gb G + 0)), some (.ref (gb G + 72)), some (.int (jI (6 * (t : Int))))] [] n I ρ x z := by
  have S := SL.sem
  have hn := hR.n
  obtain ⟨rs, bk, dr, pt, rfl, hR⟩ := hR
  obtain ⟨d, mc, ms, Φ, hd, hmc, hms, C1, hΦ⟩ := q_part (G := G) hR (sc_rg xs (6 * (t : Int) + 1))
  refine r_aload_n S rfl dL_law_644 ?_
  refine r_aload_n S rfl dL_law_645 ?_
  refine r_iload_n S rfl dL_law_646 ?_
  refine r_iconst S dL_law_647 ?_
  refine r_iadd S dL_law_648 ?_
  refine r_sld SL (by omega) (by omega) dL_law_649 ?_
  refine r_callV S lk_L_85 mk_X11_part C1 rfl (Nat.lt_of_lt_of_le (by decide) hn) rfl rfl rfl (Nat.le_of_ble_eq_true rfl) ⟨by show _ ≤ 2048; omega, by show _ ≤ 84000; omega⟩ rfl ⟨by show _ ≤ 600000; omega, by show _ ≤ 7302250; omega⟩ dL_law_650 ?_
  rintro v n1 I1 ρ1 h1
  obtain ⟨hn1, ⟨va, hva, rfl⟩, d', Φ', hd', C2, hΦ'⟩ := hΦ v n1 I1 ρ1 h1
  refine r_aload_n S rfl dL_law_653 ?_
  refine r_aload_n S rfl dL_law_654 ?_
  refine r_iload_n S rfl dL_law_655 ?_
  refine r_iconst S dL_law_656 ?_
  refine r_iadd S dL_law_657 ?_
  refine r_sld SL (by omega) (by omega) dL_law_658 ?_
  refine r_callV S lk_L_88 mk_X12_part C2 rfl (Nat.lt_of_lt_of_le (by decide) hn1) rfl rfl rfl (Nat.le_of_ble_eq_true rfl) ⟨by show _ ≤ 2048; omega, by show _ ≤ 84000; omega⟩ rfl ⟨by show _ ≤ 600000; omega, by show _ ≤ 7302250; omega⟩ dL_law_659 ?_
  rintro v' n2 I2 ρ2 h2
  obtain ⟨rfl, hR2⟩ := hΦ' v' n2 I2 ρ2 h2
  refine r_icmp_eq S (tgt := 690) dL_law_662 (by decide) hva hva (fun c662 => ?_) (fun c662 => ?_)
  · exact kk n2 I2 ρ2 _ _ hR2 (by omega) (by omega)
  · exact absurd rfl c662
theorem lw_months (SL : SemL G nm b L xs k) (hR : Relx n I ρ) {t : Nat} (ht : 6 * t + 6 ≤ L) (hL : L ≤ 3072) (hx : x ≤ 103 + 6 * t) (hz : z ≤ 16199 + 10263 * t) (kk : ∀ (n' : Nat) (I' : Iv) (ρ' : Rv) (x' z' : Nat), Relx n' I' ρ' → x' ≤ 103 + 6 * (t + 1) → z' ≤ 16199 + 10263 * (t + 1) → k 690 [some (.ref b), some (.ref (gb G + 0)), some (.ref (gb G + 72)), some (.int (jI (6 * (t : Int))))] [] n' I' ρ' x' z') : k 667 [some (.ref b), some (.ref (gb G + 0)), some (.ref (gb G + 72)), some (.int (jI (6 * (t : Int))))] [] n I ρ x z := by
  have S := SL.sem
  have hn := hR.n
  obtain ⟨rs, bk, dr, pt, rfl, hR⟩ := hR
  obtain ⟨d, mc, ms, Φ, hd, hmc, hms, C1, hΦ⟩ := q_months (G := G) hR (sc_rg xs (6 * (t : Int) + 1))
  refine r_aload_n S rfl dL_law_667 ?_
  refine r_aload_n S rfl dL_law_668 ?_
  refine r_iload_n S rfl dL_law_669 ?_
  refine r_iconst S dL_law_670 ?_
  refine r_iadd S dL_law_671 ?_
  refine r_sld SL (by omega) (by omega) dL_law_672 ?_
  refine r_callV S lk_L_89 mk_X11_months C1 rfl (Nat.lt_of_lt_of_le (by decide) hn) rfl rfl rfl (Nat.le_of_ble_eq_true rfl) ⟨by show _ ≤ 2048; omega, by show _ ≤ 84000; omega⟩ rfl ⟨by show _ ≤ 600000; omega, by show _ ≤ 7302250; omega⟩ dL_law_673 ?_
  rintro v n1 I1 ρ1 h1
  obtain ⟨hn1, ⟨va, hva, rfl⟩, d', Φ', hd', C2, hΦ'⟩ := hΦ v n1 I1 ρ1 h1
  refine r_aload_n S rfl dL_law_676 ?_
  refine r_aload_n S rfl dL_law_677 ?_
  refine r_iload_n S rfl dL_law_678 ?_
  refine r_iconst S dL_law_679 ?_
  refine r_iadd S dL_law_680 ?_
  refine r_sld SL (by omega) (by omega) dL_law_681 ?_
  refine r_callV S lk_L_92 mk_X12_months C2 rfl (Nat.lt_of_lt_of_le (by decide) hn1) rfl rfl rfl (Nat.le_of_ble_eq_true rfl) ⟨by show _ ≤ 2048; omega, by show _ ≤ 84000; omega⟩ rfl ⟨by show _ ≤ 600000; omega, by show _ ≤ 7302250; omega⟩ dL_law_682 ?_
  rintro v' n2 I2 ρ2 h2
  obtain ⟨rfl, hR2⟩ := hΦ' v' n2 I2 ρ2 h2
  refine r_icmp_eq S (tgt := 690) dL_law_685 (by decide) hva hva (fun c685 => ?_) (fun c685 => ?_)
  · exact kk n2 I2 ρ2 _ _ hR2 (by omega) (by omega)
  · exact absurd rfl c685
theorem lw_loop (SL : SemL G nm b L xs k) (hL : L ≤ 3072) : ∀ (q t n : Nat) (I : Iv) (ρ : Rv) (x z : Nat), t + q = 513 → Relx n I ρ → x ≤ 103 + 6 * t → z ≤ 16199 + 10263 * t → k 18 [some (.ref b), some (.ref (gb G + 0)), some (.ref (gb G + 72)), some (.int (jI (6 * (t : Int))))] [] n I ρ x z := by
  have S := SL.sem
  intro q
  induction q with
  | zero =>
    intro t n I ρ x z hq hR hx hz
    refine r_iload_n S rfl dL_law_18 ?_
    refine r_aload_n S rfl dL_law_19 ?_
    refine r_lsn SL dL_law_20 ?_
    refine r_bipush S (by decide +kernel) dL_law_21 ?_
    refine r_isub S dL_law_23 ?_
    refine r_icmp_gt S (tgt := 696) dL_law_24 (by decide) (by omega) (by omega) (fun c24 => ?_) (fun c24 => ?_)
    · refine r_iconst S dL_law_696 ?_
      exact r_lret SL dL_law_697 (by omega) (by omega)
    · exact absurd c24 (by omega)
  | succ q ih =>
    intro t n I ρ x z hq hR hx hz
    have nxt : ∀ (n' : Nat) (I' : Iv) (ρ' : Rv) (x' z' : Nat), Relx n' I' ρ' → x' ≤ 103 + 6 * (t + 1) → z' ≤ 16199 + 10263 * (t + 1) → k 690 [some (.ref b), some (.ref (gb G + 0)), some (.ref (gb G + 72)), some (.int (jI (6 * (t : Int))))] [] n' I' ρ' x' z' := by
      intro n' I' ρ' x' z' hR' hx' hz'
      refine r_iinc S dL_law_690 rfl rfl rfl ?_
      refine r_goto S (tgt := 18) dL_law_693 (by decide) ?_
      have Q := ih (t + 1) n' I' ρ' x' z' (by omega) hR' hx' hz'
      rw [show 6 * ((t + 1 : Nat) : Int) = 6 * (t : Int) + 6 by omega] at Q
      exact Q
    have body : 6 * t + 6 ≤ L → k 27 [some (.ref b), some (.ref (gb G + 0)), some (.ref (gb G + 72)), some (.int (jI (6 * (t : Int))))] [] n I ρ x z := by
      intro ht
      obtain ⟨c, ec⟩ : ∃ c, c = andW (sc xs (6 * (t : Int))) 31 := ⟨_, rfl⟩
      have hc : rg c := by rw [ec]; exact rg_of _
      refine r_aload_n S rfl dL_law_27 ?_
      refine r_iload_n S rfl dL_law_28 ?_
      refine r_sld SL (by omega) (by omega) dL_law_29 ?_
      refine r_bipush S (by decide +kernel) dL_law_30 ?_
      refine r_iand S (v := c) (by rw [ec]; exact andW_j _ _) dL_law_32 ?_
      rcases (by omega : c = 0 ∨ c = 1 ∨ c = 2 ∨ c = 3 ∨ c = 4 ∨ c = 5 ∨ c = 6 ∨ c = 7 ∨ c = 8 ∨ c = 9 ∨ c = 10 ∨ c = 11 ∨ c = 12 ∨ c = 13 ∨ c = 14 ∨ c = 15 ∨ c = 16 ∨ c = 17 ∨ (c < 0 ∨ 17 < c)) with c33 | c33 | c33 | c33 | c33 | c33 | c33 | c33 | c33 | c33 | c33 | c33 | c33 | c33 | c33 | c33 | c33 | c33 | c33
      · refine r_tableIn S 0 (tgt := 120) dL_law_33 c33 (by decide) (by decide) (by decide) rfl (by decide) ?_
        exact lw_water SL hR ht hL hx hz nxt
      · refine r_tableIn S 1 (tgt := 153) dL_law_33 c33 (by decide) (by decide) (by decide) rfl (by decide) ?_
        exact lw_village SL hR ht hL hx hz nxt
      · refine r_tableIn S 2 (tgt := 186) dL_law_33 c33 (by decide) (by decide) (by decide) rfl (by decide) ?_
        exact lw_drowned SL hR ht hL hx hz nxt
      · refine r_tableIn S 3 (tgt := 209) dL_law_33 c33 (by decide) (by decide) (by decide) rfl (by decide) ?_
        exact lw_household SL hR ht hL hx hz nxt
      · refine r_tableIn S 4 (tgt := 288) dL_law_33 c33 (by decide) (by decide) (by decide) rfl (by decide) ?_
        exact lw_papers SL hR ht hL hx hz nxt
      · refine r_tableIn S 5 (tgt := 311) dL_law_33 c33 (by decide) (by decide) (by decide) rfl (by decide) ?_
        exact lw_tie SL hR ht hL hx hz nxt
      · refine r_tableIn S 6 (tgt := 354) dL_law_33 c33 (by decide) (by decide) (by decide) rfl (by decide) ?_
        exact lw_site SL hR ht hL hx hz nxt
      · refine r_tableIn S 7 (tgt := 387) dL_law_33 c33 (by decide) (by decide) (by decide) rfl (by decide) ?_
        exact lw_field SL hR ht hL hx hz nxt
      · refine r_tableIn S 8 (tgt := 410) dL_law_33 c33 (by decide) (by decide) (by decide) rfl (by decide) ?_
        exact lw_builders SL hR ht hL hx hz nxt
      · refine r_tableIn S 9 (tgt := 443) dL_law_33 c33 (by decide) (by decide) (by decide) rfl (by decide) ?_
        exact lw_feed SL hR ht hL hx hz nxt
      · refine r_tableIn S 10 (tgt := 506) dL_law_33 c33 (by decide) (by decide) (by decide) rfl (by decide) ?_
        exact lw_end SL hR ht hL hx hz nxt
      · refine r_tableIn S 11 (tgt := 529) dL_law_33 c33 (by decide) (by decide) (by decide) rfl (by decide) ?_
        exact lw_rules SL hR ht hL hx hz nxt
      · refine r_tableIn S 12 (tgt := 542) dL_law_33 c33 (by decide) (by decide) (by decide) rfl (by decide) ?_
        exact lw_fault SL hR ht hL hx hz nxt
      · refine r_tableIn S 13 (tgt := 565) dL_law_33 c33 (by decide) (by decide) (by decide) rfl (by decide) ?_
        exact lw_look SL hR ht hL hx hz nxt
      · refine r_tableIn S 14 (tgt := 588) dL_law_33 c33 (by decide) (by decide) (by decide) rfl (by decide) ?_
        exact lw_of SL hR ht hL hx hz nxt
      · refine r_tableIn S 15 (tgt := 621) dL_law_33 c33 (by decide) (by decide) (by decide) rfl (by decide) ?_
        exact lw_best SL hR ht hL hx hz nxt
      · refine r_tableIn S 16 (tgt := 644) dL_law_33 c33 (by decide) (by decide) (by decide) rfl (by decide) ?_
        exact lw_part SL hR ht hL hx hz nxt
      · refine r_tableIn S 17 (tgt := 667) dL_law_33 c33 (by decide) (by decide) (by decide) rfl (by decide) ?_
        exact lw_months SL hR ht hL hx hz nxt
      · refine r_tableOut S (tgt := 690) dL_law_33 hc c33 (by decide) ?_
        exact nxt n I ρ x z hR (by omega) (by omega)
    refine r_iload_n S rfl dL_law_18 ?_
    refine r_aload_n S rfl dL_law_19 ?_
    refine r_lsn SL dL_law_20 ?_
    refine r_bipush S (by decide +kernel) dL_law_21 ?_
    refine r_isub S dL_law_23 ?_
    refine r_icmp_gt S (tgt := 696) dL_law_24 (by decide) (by omega) (by omega) (fun c24 => ?_) (fun c24 => ?_)
    · refine r_iconst S dL_law_696 ?_
      exact r_lret SL dL_law_697 (by omega) (by omega)
    · exact body (by omega)
end
