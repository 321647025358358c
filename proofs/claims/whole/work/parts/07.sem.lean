/-! ===== the world: objects by number, ints and references apart ===== -/
abbrev Iv : Type := Nat → Int → Int
abbrev Rv : Type := Nat → Int → Option Nat
/-- what a run stands in: launch, the first own address, the array classes, the classes' numbers, the string constants' places -/
abbrev GE : Type := Launch × Nat × (Nat → ClassId) × va_G × (Nat → Nat) × (Nat → Nat)
abbrev gl (G : GE) : Launch := G.1
abbrev gb (G : GE) : Nat := G.2.1
abbrev gA (G : GE) : Nat → ClassId := G.2.2.1
abbrev gD (G : GE) : va_G := G.2.2.2.1
abbrev gK (G : GE) : Nat → Nat := G.2.2.2.2.1
abbrev gV (G : GE) : Nat → Nat := G.2.2.2.2.2
abbrev gF (G : GE) : Nat → Prop := fun q => gb G ≤ q
def nvTy : List (Nat → FieldType) := [tyX0, tyX2, tyX3, tyX4, tyX5, tyX6, tyX7, tyX8, tyX9, tyX10, tyX11, tyX12]
def nvTT : List u_T := [TX0, TX2, TX3, TX4, TX5, TX6, TX7, TX8, TX9, TX10, TX11, TX12]
def fTy (ci k : Nat) : FieldType := nvTy.getD ci tyX0 k
def isR (t : FieldType) : Bool := match t with
  | .object _ => true
  | .array _ => true
  | _ => false
def fv (b : Nat) (r : Bool) (x : Int) (y : Option Nat) : Value := match r with
  | true => va_rf (y.map (b + ·))
  | false => .int (jI x)
def flds (G : GE) (ci N o : Nat) (I : Iv) (ρ : Rv) : List Value := (List.range N).map fun k => fv (gb G) (isR (fTy ci k)) (I o (k : Int)) (ρ o (k : Int))
def cel (G : GE) (kk : Nat × Nat) (o : Nat) (I : Iv) (ρ : Rv) : va_E := match kk.1 with
  | 0 => .inl (gA G 0, kk.2, .inl (fun j => jI (I o (j : Int))))
  | 1 => .inl (gA G 1, kk.2, .inl (fun j => jI (I o (j : Int))))
  | 2 => .inl (gA G 2, kk.2, .inr (.inr (.inr (.inr (fun j => (ρ o (j : Int)).map (gb G + ·))))))
  | ci + 3 => .inr (ci, flds G ci kk.2 o I ρ)
def wst (G : GE) (n : Nat) (I : Iv) (ρ : Rv) : va_W := (List.range n).map fun o => (gb G + o, cel G (kd o) o I ρ)
def Hp (G : GE) (n : Nat) (I : Iv) (ρ : Rv) (H : Heap) : Prop := va_P (gD G) vwCl (wst G n I ρ) H ∧ H.size = gb G + n
theorem wst_get (G : GE) {n : Nat} (I : Iv) (ρ : Rv) {o : Nat} (h : o < n) : (wst G n I ρ)[o]? = some (gb G + o, cel G (kd o) o I ρ) := by
  simp [wst, h]
theorem wst_inv {G : GE} {n : Nat} {I : Iv} {ρ : Rv} {k : Nat} {q : Nat × va_E} (h : (wst G n I ρ)[k]? = some q) : k < n ∧ q = (gb G + k, cel G (kd k) k I ρ) := by
  have hk : k < (wst G n I ρ).length := (List.getElem?_eq_some_iff.mp h).1
  have hk' : k < n := by simpa [wst] using hk
  rw [wst_get G I ρ hk'] at h
  exact ⟨hk', (Option.some.inj h).symm⟩
theorem wst_D (G : GE) (n : Nat) (I : Iv) (ρ : Rv) : va_D (gF G) (wst G n I ρ) := by
  refine ⟨fun i j p q hi hj e => ?_, fun k q hk => ?_⟩
  · obtain ⟨-, rfl⟩ := wst_inv hi
    obtain ⟨-, rfl⟩ := wst_inv hj
    have e' : gb G + i = gb G + j := e
    omega
  · obtain ⟨-, rfl⟩ := wst_inv hk
    exact Nat.le_add_right _ _
theorem wst_set {G : GE} {n : Nat} {I I' : Iv} {ρ ρ' : Rv} {o : Nat} (hI : ∀ o', o' ≠ o → I' o' = I o') (hR : ∀ o', o' ≠ o → ρ' o' = ρ o') {e : va_E} (he : e = cel G (kd o) o I' ρ') : (wst G n I ρ).set o (gb G + o, e) = wst G n I' ρ' := by
  subst he
  apply List.ext_getElem?
  intro j
  by_cases h : j < n
  · rw [wst_get G I' ρ' h]
    by_cases e : o = j
    · subst e
      rw [List.getElem?_set_self (by simpa [wst] using h)]
    · rw [List.getElem?_set_ne e, wst_get G I ρ h]
      have : cel G (kd j) j I ρ = cel G (kd j) j I' ρ' := by
        have h1 := hI j (fun q => e q.symm)
        have h2 := hR j (fun q => e q.symm)
        unfold cel flds
        rw [h1, h2]
      rw [this]
  · rw [List.getElem?_eq_none (by simp [wst]; omega), List.getElem?_eq_none (by simp [wst]; omega)]
/-- I, but v at place i of object o -/
def up (I : Iv) (o : Nat) (i v : Int) : Iv := fun o' i' => if o' = o ∧ i' = i then v else I o' i'
def upR (ρ : Rv) (o : Nat) (i : Int) (v : Option Nat) : Rv := fun o' i' => if o' = o ∧ i' = i then v else ρ o' i'
/-- I, but object o is all 0 -/
def zr (I : Iv) (o : Nat) : Iv := fun o' i' => if o' = o then 0 else I o' i'
def zrR (ρ : Rv) (o : Nat) : Rv := fun o' i' => if o' = o then none else ρ o' i'
theorem up_s (I : Iv) (o : Nat) (i v : Int) : up I o i v o i = v := by simp [up]
theorem up_o {I : Iv} {o o' : Nat} {i v : Int} (h : o' ≠ o) : up I o i v o' = I o' := by funext j; simp [up, h]
theorem up_i {I : Iv} {o o' : Nat} {i v j : Int} (h : j ≠ i) : up I o i v o' j = I o' j := by simp [up, h]
theorem up_n {I : Iv} {o o' : Nat} {i v j : Int} (h : o' ≠ o ∨ j ≠ i) : up I o i v o' j = I o' j := by
  unfold up
  rw [if_neg]
  rintro ⟨h1, h2⟩
  cases h with
  | inl h => exact h h1
  | inr h => exact h h2
theorem upR_s (ρ : Rv) (o : Nat) (i : Int) (v : Option Nat) : upR ρ o i v o i = v := by simp [upR]
theorem upR_o {ρ : Rv} {o o' : Nat} {i : Int} {v : Option Nat} (h : o' ≠ o) : upR ρ o i v o' = ρ o' := by funext j; simp [upR, h]
theorem upR_n {ρ : Rv} {o o' : Nat} {i j : Int} {v : Option Nat} (h : o' ≠ o ∨ j ≠ i) : upR ρ o i v o' j = ρ o' j := by
  unfold upR
  rw [if_neg]
  rintro ⟨h1, h2⟩
  cases h with
  | inl h => exact h h1
  | inr h => exact h h2
/-! ===== words ===== -/
def TBG : List Cond := lw_tbl.filter goodWord
def isNest : Cond → Bool
  | .fieldLinkNest .. => true
  | .methodLinkNest .. => true
  | _ => false
def NST : List Cond := lw_tbl.filter isNest
theorem TBG_in {w : Cond} (h : w ∈ lw_tbl) (hg : goodWord w = true) : w ∈ TBG := List.mem_filter.mpr ⟨h, hg⟩
theorem NST_in {w : Cond} (h : w ∈ lw_tbl) (hg : isNest w = true) : w ∈ NST := List.mem_filter.mpr ⟨h, hg⟩
theorem TBG_good : GoodIn TBG TBG := fun w h => ⟨h, good_of_word (List.mem_filter.mp h).2⟩
theorem NST_warm {s U : State} (hW : s.WarmedH U.vm) (h : ∀ w ∈ NST, va_Nw w s) : ∀ w ∈ NST, va_Nw w U := by
  intro w hw
  have h1 := h w hw
  have h2 := (List.mem_filter.mp hw).2
  cases w <;> first | (cases h2; done) | exact va_Nw.warmF hW h1 | exact va_Nw.warmM hW h1
theorem NST_same {u U : State} (hv : u.vm = U.vm) (h : ∀ w ∈ NST, va_Nw w u) : ∀ w ∈ NST, va_Nw w U := by
  intro w hw
  have h1 := h w hw
  have h2 := (List.mem_filter.mp hw).2
  cases w <;> first | (cases h2; done) | exact va_Nw.same rfl hv h1
def sK : List Nat := [15, 23, 25, 27, 29, 31, 33]
def sT : List String := ["give", "when", "and", "people", "land", "trees", "papers"]
def sL : List Nat := [4, 4, 3, 6, 4, 5, 6]
def sB : List (List Int32) := [[103, 105, 118, 101], [119, 104, 101, 110], [97, 110, 100], [112, 101, 111, 112, 108, 101], [108, 97, 110, 100], [116, 114, 101, 101, 115], [112, 97, 112, 101, 114, 115]]
/-- what a state gives of the string constants and of the statics that they are read by -/
def Ex (G : GE) (U : State) : Prop :=
  (∀ i, i < 7 → vk_R "NewValley$Code" (sK.getD i 0) (sT.getD i "") (gK G i) U) ∧ vk_S 7 sL sB (gK G) (gV G) (gF G) U U.heap ∧ va_Z "java/lang/String" "COMPACT_STRINGS" "Z" (.int 1) (gF G) U U.heap ∧ va_Zq "jdk/internal/util/Preconditions" "SIOOBE_FORMATTER" "Ljava/util/function/BiFunction;" (gF G) U U.heap
/-- there is a class of int[][] -/
def AOI (U : State) : Prop := (Cond.arrayOver (.array .int)).before #[] U = true
theorem AOI.moved {u U : State} (hvm : u.vm.Alike U.vm) (h : AOI u) : AOI U := by
  obtain ⟨comp, c, k, h1, h2, h3, h4, h5⟩ : ∃ comp c k, u.vm.findClass (FieldType.array .int).toString = some comp ∧ (u.vm.classes.findIdx? fun (x : Class) => match x.kind with | .array component _ => component == comp | _ => false) = some c ∧ u.vm.classes[c]? = some k ∧ k.kind = .array comp (.array .int) ∧ u.vm.findClass ("[" ++ (FieldType.array .int).toString) = some c := by
    simp only [AOI, Cond.before, Cond.holds, Cond.value, beq_iff_eq] at h
    cases hc : u.vm.findClass (FieldType.array .int).toString with
    | none => simp [hc] at h
    | some comp =>
      simp only [hc, Option.bind_some, Option.bind_eq_some_iff, Option.map_eq_some_iff] at h
      obtain ⟨c, hi, k, hk, hb⟩ := h
      obtain ⟨hlt, hp, -⟩ := Array.findIdx?_eq_some_iff_getElem.mp hi
      have hkk : u.vm.classes[c] = k := (Array.getElem?_eq_some_iff.mp hk).2
      rw [hkk] at hp
      cases hkind : k.kind with
      | array component ty =>
        rw [hkind] at hb hp
        simp at hb hp
        refine ⟨comp, c, k, rfl, hi, hk, ?_, hb.2⟩
        rw [hkind, hp, hb.1]
      | _ => rw [hkind] at hp; simp at hp
  obtain ⟨k', hk', he⟩ := hvm.2.2 _ _ h3
  have hi : (U.vm.classes.findIdx? fun (x : Class) => match x.kind with | .array component _ => component == comp | _ => false) = some c := by
    refine (va_idx_bare U.vm comp).symm.trans ?_
    first | rw [hvm.bare_eq] | rw [← hvm.bare_eq]
    exact (va_idx_bare u.vm comp).trans h2
  have hkind : k'.kind = .array comp (.array .int) := by rw [he]; exact h4
  have f1 : U.vm.findClass (FieldType.array .int).toString = some comp := by rw [hvm.findClass]; exact h1
  have f2 : U.vm.findClass ("[" ++ (FieldType.array .int).toString) = some c := by rw [hvm.findClass]; exact h5
  unfold AOI Cond.before Cond.holds
  simp only [Cond.value]
  rw [f1, Option.bind_some]
  refine (congrArg (fun o : Option Nat => (o.bind (fun c => (U.vm.classes[c]?).map fun (k : Class) => match k.kind with | .array _ ty => decide (ty = FieldType.array .int) && decide (U.vm.findClass ("[" ++ (FieldType.array .int).toString) = some c) | _ => false) == some true)) hi).trans ?_
  simp [hk', hkind, f2]
def Ty (G : GE) : List (ClassId × FieldType) := [(gA G 0, .int), (gA G 1, .boolean), (gA G 2, .array .int)]
def Ev (G : GE) (U : State) : Prop := va_K (gD G) vwCl (Ty G) U ∧ (∀ w ∈ NST, va_Nw w U) ∧ AOI U ∧ Ex G U
/-! ===== contracts ===== -/
def rmD (d mc ms : Nat) : Room := { frames := d, cells := mc, slots := ms, locals := 64 * d }
def PcW (G : GE) (as : List Value) (n : Nat) (I : Iv) (ρ : Rv) : Array Value → State → Prop := va_Pc as (fun U => Hp G n I ρ U.heap ∧ Ev G U)
abbrev Pt5 : Type := Option Value → Nat → Iv → Rv → Prop
def QcW (G : GE) (Φ : Pt5) : Array Value → State → Outcome → State → Prop := fun _ st oc t => (∃ v n I ρ, oc = .returned v ∧ Φ v n I ρ ∧ Hp G n I ρ t.heap) ∧ va_F (gF G) st t
/-- a method's contract: from the world (n, I, ρ) with these arguments it returns, and Φ holds of its answer and the world then -/
def Ct (G : GE) (y : MethodName) (cc : ByteArray) (nL : Nat) (ret : Option FieldType) (d mc ms : Nat) (as : List Value) (n : Nat) (I : Iv) (ρ : Rv) (Φ : Pt5) : Prop :=
  Met (gl G) y (Cond.code y cc nL ret :: TBG) (rmD d mc ms) (PcW G as n I ρ) (QcW G Φ) mc ms (gF G)
def KK (G : GE) (p : Program) (e : Env) (R : Room) (s : State) (m : MethodId) (args : Array Value) (below : List Frame) (meth : Method) (c : Code) (Q : State → Prop) (pc : Nat) (L : List (Option Value)) (st : List Value) (n : Nat) (I : Iv) (ρ : Rv) (x z : Nat) : Prop :=
  ∀ (H : Heap) (locs : List Loc) (ls : Array Slot), Hp G n I ρ H → va_S (gF G) s.heap H locs → Lh ls L → W p (gl G) e R s m args below meth c H locs x z Q (F0 m pc ls st)
abbrev Kt : Type := Nat → List (Option Value) → List Value → Nat → Iv → Rv → Nat → Nat → Prop
def Cx (G : GE) (own nm : String) (cc : ByteArray) (nL : Nat) (p : Program) (s : State) (m : MethodId) (args : Array Value) (meth : Method) (c : Code) : Prop :=
  p.tables.exec = Jvm.exec ∧ c.code = cc ∧ c.maxLocals = nL ∧ s.vm.findClass own = some m.cls ∧ meth.name = nm ∧ (∀ w ∈ TBG, w.before args s = true) ∧ Ev G s ∧ gb G ≤ s.heap.size
/-- k is the machine in a method of class own: at a place, with locals, stack and world -/
def Sem (G : GE) (own nm : String) (cc : ByteArray) (nL : Nat) (R : Room) (k : Kt) : Prop :=
  ∃ (p : Program) (e : Env) (s : State) (m : MethodId) (args : Array Value) (below : List Frame) (meth : Method) (c : Code) (Q : State → Prop), k = KK G p e R s m args below meth c Q ∧ Cx G own nm cc nL p s m args meth c
/-- the same, where returning gives Φ -/
def SemR (G : GE) (own nm : String) (cc : ByteArray) (nL : Nat) (ret : Option FieldType) (d mc ms : Nat) (Φ : Pt5) (k : Kt) : Prop :=
  ∃ (p : Program) (e : Env) (s : State) (m : MethodId) (args : Array Value) (below : List Frame) (meth : Method) (c : Code), k = KK G p e (rmD d mc ms) s m args below meth c (MQ below (QcW G Φ) args s mc ms (gF G)) ∧ Cx G own nm cc nL p s m args meth c ∧ meth.sig.returnType = ret ∧ meth.locks = false
theorem SemR.sem {G : GE} {own nm : String} {cc : ByteArray} {nL : Nat} {ret : Option FieldType} {d mc ms : Nat} {Φ : Pt5} {k : Kt} (h : SemR G own nm cc nL ret d mc ms Φ k) : Sem G own nm cc nL (rmD d mc ms) k := by
  obtain ⟨p, e, s, m, args, below, meth, c, h1, h2, -, -⟩ := h
  exact ⟨p, e, s, m, args, below, meth, c, _, h1, h2⟩
theorem Ct.of {G : GE} {y : MethodName} {cc : ByteArray} {nL : Nat} {ret : Option FieldType} {d mc ms : Nat} {as : List Value} {n : Nat} {I : Iv} {ρ : Rv} {Φ : Pt5} (L0 : List (Option Value)) (hy : plainName y.cls = true) (h1 : la L0 = lv_args 0 as) (h2 : L0.length = nL) (h3 : Nat.ble (lg_sl as).length nL = true)
    (h : ∀ k : Kt, SemR G y.cls y.name cc nL ret d mc ms Φ k → k 0 L0 [] n I ρ 0 0) : Ct G y cc nL ret d mc ms as n I ρ Φ := by
  refine Met.ofW (cc := cc) (maxL := nL) (ret := ret) hy rfl ?_
  intro p e s m args below meth c s₁ B hml hv
  obtain ⟨rfl, hP, hE⟩ := hv
  have hts := atoms_spec (ws := Cond.code y cc nL ret :: TBG) B.pre
  have hl := lv_entry as (n := nL) (Nat.le_of_ble_eq_true h3)
  rw [lg_entry_eq]
  generalize (lg_sl as ++ List.replicate (nL - (lg_sl as).length) Slot.unset).toArray = ls at hl ⊢
  have hnm := (name_of_methodNamed B.named B.method).1
  have K := h _ ⟨p, e, s, m, as.toArray, below, meth, c, rfl, ⟨B.exec, B.bytes, hml, findClass_of_methodNamed B.named, hnm, fun w hw => hts w (List.mem_cons_of_mem _ hw), hE, by have := hP.2; omega⟩, B.returns, B.notSynchronized⟩
  exact K s.heap [] ls hP va_S.rf (by unfold Lh; rw [h2, h1]; exact hl)
