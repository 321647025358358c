/-! ===== rows of rows: multianewarray by the machine's own words ===== -/
section
variable {s : State} {args : Array Value}
/-- what 'somebody has made an int[][]' gives -/
theorem ml_over (h : (Cond.arrayOver (.array .int)).before args s = true) : ∃ comp c k, s.vm.findClass "[I" = some comp ∧ s.vm.classes[c]? = some k ∧ k.kind = .array comp (.array .int) ∧ s.vm.findClass "[[I" = some c := by
  have e1 : (FieldType.array .int).toString = "[I" := by decide +kernel
  have e2 : "[" ++ (FieldType.array .int).toString = "[[I" := by decide +kernel
  simp only [Cond.before, Cond.holds, Cond.value, beq_iff_eq] at h
  rw [Option.bind_eq_some_iff] at h
  obtain ⟨comp, hc, h⟩ := h
  rw [Option.bind_eq_some_iff] at h
  obtain ⟨c, hi, h⟩ := h
  rw [Option.map_eq_some_iff] at h
  obtain ⟨k, hk, h⟩ := h
  rw [e1] at hc
  rw [e2] at h
  obtain ⟨hlt, hp, -⟩ := Array.findIdx?_eq_some_iff_getElem.mp hi
  rw [(Array.getElem?_eq_some_iff.mp hk).2] at hp
  cases hq : k.kind with
  | array x y =>
    rw [hq] at h hp
    rw [Bool.and_eq_true, decide_eq_true_eq, decide_eq_true_eq] at h
    have hx : x = comp := by simpa using hp
    exact ⟨comp, c, k, hc, hk, by rw [hq, hx, h.1], h.2⟩
  | _ => rw [hq] at h; cases h
/-- the outer row, its first i places filled with what comes behind it -/
def mlC (c : ClassId) (N h0 i : Nat) : Cell := arrV c N (fun j => if j < i then .ref (h0 + 1 + j) else .null)
/-- a row of zeros -/
def mlZ (c : ClassId) (M : Nat) : Cell := arrV c M (fun _ => .int 0)
/-- T, the outer row made and i rows behind it -/
def mlS (T : State) (c comp : ClassId) (N M : Nat) : Nat → State
  | 0 => T.pushCell (mlC c N T.heap.size 0)
  | i + 1 => ((mlS T c comp N M i).pushCell (mlZ comp M)).setCell T.heap.size (mlC c N T.heap.size (i + 1))
theorem mlC_step (c : ClassId) (N h0 i : Nat) : (mlC c N h0 i).setSlot i (.ref (h0 + 1 + i)) = mlC c N h0 (i + 1) := by
  unfold mlC
  rw [arrV_store]
  congr 1
  funext j
  unfold updV
  by_cases e : j = i
  · rw [if_pos e, if_pos (by omega), e]
  · rw [if_neg e]
    show (if j < i then Value.ref (h0 + 1 + j) else Value.null) = _
    by_cases e2 : j < i
    · rw [if_pos e2, if_pos (by omega)]
    · rw [if_neg e2, if_neg (by omega)]
variable (T : State) (c comp : ClassId) (N M : Nat)
theorem mlS_vm : ∀ i, (mlS T c comp N M i).vm = T.vm
  | 0 => rfl
  | i + 1 => mlS_vm i
theorem mlS_java : ∀ i, (mlS T c comp N M i).topJava? = T.topJava?
  | 0 => rfl
  | i + 1 => mlS_java i
theorem mlS_size : ∀ i, (mlS T c comp N M i).heap.size = T.heap.size + 1 + i
  | 0 => by
    show (T.heap.push _).size = _
    rw [Array.size_push]
  | i + 1 => by
    show (((mlS T c comp N M i).heap.push _).setIfInBounds _ _).size = _
    rw [Array.size_setIfInBounds, Array.size_push, mlS_size i]
    omega
theorem mlS_used : ∀ i, (mlS T c comp N M i).slotsUsed = T.slotsUsed + N + i * M
  | 0 => by
    show T.slotsUsed + (mlC c N T.heap.size 0).slots.size = _
    unfold mlC
    rw [arrV_size]
    omega
  | i + 1 => by
    show (mlS T c comp N M i).slotsUsed + (mlZ comp M).slots.size = _
    unfold mlZ
    rw [arrV_size, mlS_used i, Nat.add_mul]
    omega
theorem mlS_outer : ∀ i, (mlS T c comp N M i).heap[T.heap.size]? = some (mlC c N T.heap.size i)
  | 0 => by
    show (T.heap.push _)[T.heap.size]? = _
    exact Array.getElem?_push_size
  | i + 1 => by
    have h1 := mlS_size T c comp N M i
    show (((mlS T c comp N M i).heap.push _).setIfInBounds T.heap.size _)[T.heap.size]? = _
    rw [Array.getElem?_setIfInBounds, if_pos rfl, if_pos (by rw [Array.size_push]; omega)]
theorem mlS_inner : ∀ i j, j < i → (mlS T c comp N M i).heap[T.heap.size + 1 + j]? = some (mlZ comp M)
  | 0, j, h => absurd h (by omega)
  | i + 1, j, h => by
    have h1 := mlS_size T c comp N M i
    show (((mlS T c comp N M i).heap.push _).setIfInBounds T.heap.size _)[T.heap.size + 1 + j]? = _
    rw [Array.getElem?_setIfInBounds, if_neg (by omega), Array.getElem?_push]
    by_cases e : j = i
    · rw [if_pos (by omega)]
    · rw [if_neg (by omega)]
      exact mlS_inner i j (by omega)
theorem mlS_old (q : Nat) (hq : q < T.heap.size) : ∀ i, (mlS T c comp N M i).heap[q]? = T.heap[q]?
  | 0 => by
    show (T.heap.push _)[q]? = _
    rw [Array.getElem?_push, if_neg (by omega)]
  | i + 1 => by
    have h1 := mlS_size T c comp N M i
    show (((mlS T c comp N M i).heap.push _).setIfInBounds T.heap.size _)[q]? = _
    rw [Array.getElem?_setIfInBounds, if_neg (by omega), Array.getElem?_push, if_neg (by omega)]
    exact mlS_old q hq i
theorem mlS_top (f : JFrame) : ∀ i, mlS (T.setTop f) c comp N M i = (mlS T c comp N M i).setTop f
  | 0 => rfl
  | i + 1 => by
    show ((mlS (T.setTop f) c comp N M i).pushCell _).setCell _ _ = _
    rw [mlS_top f i]
    rfl
end
section
variable {E : CtlPost} {e : Env} {d : Bool} {acts : List Action} {s : State}
theorem ml_inner {c c2 : ClassId} {k : Class} {m : Int32} {Q : Addr → Pre} (hm : ¬ m < 0) (hk : s.vm.classes[c]? = some k) (hkind : k.kind = .array c2 .int) (hl : ¬ m.toNatClampNeg > e.platform.arrayLengthLimit) (hh : ¬ m.toNatClampNeg * 4 > e.platform.maxHeapBytes)
    (hc : s.heap.size < e.platform.maxCells) (hs : s.slotsUsed + m.toNatClampNeg ≤ e.platform.maxSlots) (hq : ∀ acts', Q s.heap.size d acts' (s.pushCell (mlZ c m.toNatClampNeg))) :
    wp (Jvm.Op.multianewarray.make c [m]) Q E e d acts s := by
  simp only [Jvm.Op.multianewarray.make, wp_bind', W.ite, hm, if_false, wp_pure', W.theClass, hk, Option.some.injEq, exists_eq_left', hkind]
  refine W.newArray_of hk hkind hl hh hc hs rfl (fun acts' => ?_)
  have h1 := hq acts'
  unfold mlZ at h1
  rw [← arrV_new] at h1
  exact h1
theorem ml_make {c comp c2 : ClassId} {k k2 : Class} {n m : Int32} {N M : Nat} {Q : Addr → Pre} (hn : ¬ n < 0) (hm : ¬ m < 0) (en : n.toNatClampNeg = N) (em : m.toNatClampNeg = M) (h0 : 0 < N)
    (hk : s.vm.classes[c]? = some k) (hkind : k.kind = .array comp (.array .int)) (hk2 : s.vm.classes[comp]? = some k2) (hkind2 : k2.kind = .array c2 .int)
    (hl : ¬ N > e.platform.arrayLengthLimit) (hh : ¬ N * 4 > e.platform.maxHeapBytes) (hl2 : ¬ M > e.platform.arrayLengthLimit) (hh2 : ¬ M * 4 > e.platform.maxHeapBytes)
    (hc : s.heap.size + (1 + N) ≤ e.platform.maxCells) (hs : s.slotsUsed + (N + N * M) ≤ e.platform.maxSlots) (hq : ∀ d' acts', Q s.heap.size d' acts' (mlS s c comp N M N)) :
    wp (Jvm.Op.multianewarray.make c [n, m]) Q E e d acts s := by
  have hz : (n == 0) = false := by
    cases hb : n == 0 with
    | false => rfl
    | true =>
      have : n = 0 := by simpa using hb
      rw [this] at en
      have e0 : (0 : Int32).toNatClampNeg = 0 := by decide
      omega
  rw [Jvm.Op.multianewarray.make]
  simp only [wp_bind', W.ite, hn, if_false, wp_pure', W.theClass, hk, Option.some.injEq, exists_eq_left', hkind, hz, Bool.false_eq_true, en]
  refine W.newArray_of hk hkind hl hh (by omega) (by omega) rfl (fun acts' => ?_)
  rw [arrV_new]
  have e0 : (s.pushCell (arrV c N (fun _ => .null))) = mlS s c comp N M 0 := by
    show _ = s.pushCell (arrV c N _)
    congr 2
  rw [e0]
  simp only [Std.Legacy.Range.forIn_eq_forIn_range', wp_bind']
  refine wp_forIn_inv (fun rest s' => ∃ i, i ≤ N ∧ rest = List.range' i (N - i) ∧ s' = mlS s c comp N M i) _ _ ⟨0, Nat.zero_le N, ?_, rfl⟩ ?_ ?_
  · simp [Std.Legacy.Range.size]
  · rintro x rest s' d' acts2 Q' ⟨i, hi, hr, rfl⟩ hnext
    have hlt : i < N := by
      rcases Nat.lt_or_ge i N with h | h
      · exact h
      · rw [show N - i = 0 by omega] at hr
        cases hr
    rw [show N - i = (N - (i + 1)) + 1 by omega, List.range'_succ] at hr
    obtain ⟨rfl, rfl⟩ := List.cons.inj hr
    have z1 := mlS_size s c comp N M x
    have u1 := mlS_used s c comp N M x
    have mm : x * M + M ≤ N * M := by
      have := Nat.mul_le_mul_right M (show x + 1 ≤ N by omega)
      rw [Nat.add_mul] at this
      omega
    simp only [wp_bind']
    refine ml_inner hm (by rw [mlS_vm]; exact hk2) hkind2 (by rw [em]; exact hl2) (by rw [em]; exact hh2) (by omega) (by rw [em]; omega) (fun acts3 => ?_)
    rw [em]
    simp only [wp_bind', W.writeLoc, wp_pure']
    have o1 := mlS_outer s c comp N M x
    have hcell : ((mlS s c comp N M x).pushCell (mlZ comp M)).heap[s.heap.size]? = some (mlC c N s.heap.size x) := by
      rw [State.heap_pushCell_of_lt _ _ (show s.heap.size < (mlS s c comp N M x).heap.size by omega)]
      exact o1
    refine ⟨mlC c N s.heap.size x, hcell, (by intro h; cases h), (by unfold mlC; rw [arrV_size]; exact hlt), ?_, hnext _ _ _ ⟨x + 1, hlt, rfl, ?_⟩⟩
    · have hv : ((mlS s c comp N M x).pushCell (mlZ comp M)).vm.classes[c]? = some k := by
        show (mlS s c comp N M x).vm.classes[c]? = _
        rw [mlS_vm]
        exact hk
      show State.fitsSlot _ c .none x (.ref _) = true
      have h2 : State.slotType? ((mlS s c comp N M x).pushCell (mlZ comp M)) c .none x = some (.array .int) := by
        simp only [State.slotType?, hv, hkind, Option.bind_some, Option.bind_eq_bind, bind]
        try rfl
      unfold State.fitsSlot
      rw [h2]
      rfl
    · rw [z1, mlC_step]
      rfl
  · rintro s' d' acts2 ⟨i, hi, hr, rfl⟩
    have : i = N := by
      rcases Nat.lt_or_ge i N with h | h
      · rw [show N - i = (N - (i + 1)) + 1 by omega, List.range'_succ] at hr
        cases hr
      · omega
    rw [this]
    exact hq _ _
end
section
variable {Q : Unit → Pre} {E : CtlPost} {e : Env} {d : Bool} {acts : List Action} {s : State} {f : JFrame}
theorem ml_sem {index : Nat} {vm' : Vm} {c comp c2 : ClassId} {k k2 : Class} {n m : Int32} {N M : Nat} {rest : List Value} (ht : s.topJava?.isSome)
    (hg : (Jvm.resolveClass f.method.cls index).Gives e.toSetting s.vm (.ok c) vm') (hr : vm'.classReady f.method.cls index c) (hsz : vm'.classes.size ≤ s.vm.classes.size)
    (hst : f.stack = .int m :: .int n :: rest) (hn : ¬ n < 0) (hm : ¬ m < 0) (en : n.toNatClampNeg = N) (em : m.toNatClampNeg = M) (h0 : 0 < N)
    (hk : vm'.classes[c]? = some k) (hkind : k.kind = .array comp (.array .int)) (hk2 : vm'.classes[comp]? = some k2) (hkind2 : k2.kind = .array c2 .int)
    (hl : ¬ N > e.platform.arrayLengthLimit) (hh : ¬ N * 4 > e.platform.maxHeapBytes) (hl2 : ¬ M > e.platform.arrayLengthLimit) (hh2 : ¬ M * 4 > e.platform.maxHeapBytes)
    (hc : s.heap.size + (1 + N) ≤ e.platform.maxCells) (hs : s.slotsUsed + (N + N * M) ≤ e.platform.maxSlots)
    (hq : ∀ d' acts', Q () d' acts' ((mlS (s.setVm vm') c comp N M N).setTop { f with stack := .ref s.heap.size :: rest })) :
    wp (Jvm.Op.multianewarray.sem index 2) Q E e d acts (s.setTop f) := by
  simp only [Jvm.Op.multianewarray.sem, wp_bind']
  rw [W.resolveClassAt_transfer (s := s.setTop f) (State.method?_setTop f ht) hg hr hsz, W.resolveClassAt_ready (s := (s.setTop f).setVm vm') (show ((s.setTop f).setVm vm').method? = some f.method from State.method?_setTop f ht) hr]
  rw [show (s.setTop f).setVm vm' = (s.setVm vm').setTop f from rfl]
  have ht' : (s.setVm vm').topJava?.isSome := ht
  simp only [Jvm.popN, wp_bind', W.pop, wp_pure', State.topJava?_setTop' _ ht', Option.some.injEq, exists_eq_left', hst, List.cons.injEq, exists_cons_eq, State.setTop_setTop, List.nil_append, List.cons_append, List.mapM_cons, List.mapM_nil]
  refine ml_make hn hm en em h0 hk hkind hk2 hkind2 hl hh hl2 hh2 hc hs (fun d' acts' => ?_)
  rw [mlS_top]
  have ht2 : (mlS (s.setVm vm') c comp N M N).topJava?.isSome := by rw [mlS_java]; exact ht
  simp only [wp_bind', W.mark, W.pushRef, State.topJava?_setTop' _ ht2, Option.some.injEq, exists_eq_left', State.setTop_setTop]
  exact hq _ _
end
section
variable {p : Program} {l : Launch} {e : Env} {R : Room} {s : State} {m : MethodId} {args : Array Value} {below : List Frame} {meth : Method} {c : Code} {T : State} {locs : List Loc} {cells slots : Nat}
theorem ml_stand (X : Stand p l e R s m args below meth c T locs cells slots) (cA comp : ClassId) (N M : Nat) : ∀ i, Stand p l e R s m args below meth c (mlS T cA comp N M i) locs (cells + 1 + i) (slots + N + i * M)
  | 0 => by
    have h := X.pushed (mlC cA N T.heap.size 0)
    rw [show (mlC cA N T.heap.size 0).slots.size = N from arrV_size _ _ _] at h
    rw [Nat.zero_mul]
    exact h
  | i + 1 => by
    have h := (ml_stand X cA comp N M i).pushed (mlZ comp M)
    rw [show (mlZ comp M).slots.size = M from arrV_size _ _ _] at h
    have z1 := mlS_size T cA comp N M i
    have hcell : ((mlS T cA comp N M i).pushCell (mlZ comp M)).heap[T.heap.size]? = some (mlC cA N T.heap.size i) := by
      rw [State.heap_pushCell_of_lt _ _ (show T.heap.size < (mlS T cA comp N M i).heap.size by omega)]
      exact mlS_outer T cA comp N M i
    have h2 := h.stored hcell i (.ref (T.heap.size + 1 + i))
    rw [mlC_step] at h2
    have h3 := h2.dropFresh (fun x hx => by
      rcases List.mem_singleton.mp hx with rfl
      exact X.heapGrown)
    rw [show cells + 1 + (i + 1) = cells + 1 + i + 1 by omega, show slots + N + (i + 1) * M = slots + N + i * M + M by rw [Nat.add_mul]; omega]
    exact h3
/-- int[N][M]: the outer row and N rows of zeros, in the order of their making -/
theorem ml_multi (X : Stand p l e R s m args below meth c T locs cells slots) (hexec : p.tables.exec = Jvm.exec) {own : String} {index : Nat} (hown : s.vm.findClass own = some m.cls)
    (hlink : (Cond.classLink own index "[[I").before args s = true) (hover : (Cond.arrayOver (.array .int)).before args s = true) (harr : (Cond.arrayClass .int).before args s = true)
    {g : JFrame} (hg : g.method = m) (hdg : decode c.code g.pc = .ok (.multianewarray index 2, 4)) {a b : Int32} {N M : Nat} {rest : List Value} (hst : g.stack = .int b :: .int a :: rest)
    (ha : ¬ a < 0) (hb : ¬ b < 0) (ea : a.toNatClampNeg = N) (eb : b.toNatClampNeg = M) (h0 : 0 < N) (hN : N ≤ 1000) (hM : M ≤ 1000) (hc : cells + (1 + N) ≤ R.cells) (hs : slots + (N + N * M) ≤ R.slots) :
    ∃ (vm' : Vm) (cA comp : ClassId), s.vm.findClass "[[I" = some cA ∧ s.vm.findClass "[I" = some comp ∧
      Stand p l e R s m args below meth c (mlS (T.setVm vm') cA comp N M N) locs (cells + 1 + N) (slots + N + N * M) ∧
      ∀ target, Steps p.tables e below ((mlS (T.setVm vm') cA comp N M N).setTop { g with pc := g.pc + 4, stack := .ref T.heap.size :: rest }) target → Steps p.tables e below (T.setTop g) target := by
  subst hg
  have hpl : e.platform.magicAccessors = ({} : Platform).magicAccessors := by rw [X.admits.platform]
  obtain ⟨comp, cA, kA, hcomp, hkA, hkindA, hnA⟩ := ml_over hover
  obtain ⟨cI, kI, c2, hnI, hkI, hkindI⟩ := Cond.arrayClass_spec harr
  have hnI' : s.vm.findClass "[I" = some cI := hnI
  cases hcomp.symm.trans hnI'
  obtain ⟨cc, hfcc, hcl⟩ := Cond.classLink_spec hown hlink e.platform hpl
  cases hnA.symm.trans hfcc
  obtain ⟨hg1, hw1, hr1⟩ := State.classEntry (e := e) X.warmed hcl
  have hsz : (T.vm.noted g.method.cls index (.cls cA)).classes.size ≤ T.vm.classes.size := by no_record
  generalize T.vm.noted g.method.cls index (.cls cA) = vm' at hg1 hw1 hr1 hsz
  obtain ⟨kA', hkA', eA⟩ := hw1.alike.2.2 _ _ hkA
  obtain ⟨kI', hkI', eI⟩ := hw1.alike.2.2 _ _ hkI
  obtain ⟨r1, r2⟩ := X.roomAbove hc hs
  refine ⟨vm', cA, comp, hnA, hcomp, ml_stand (X.noted hw1) cA comp N M N, fun target hrest => ?_⟩
  refine Steps.instr (c := c) (by simpa using X.here) ?_
  rw [hdg]
  show wpRun (p.tables.exec _) _ _ e _
  rw [hexec]
  show wp (Jvm.Op.multianewarray.sem index 2) _ _ e false [] _
  refine ml_sem X.here.top hg1 hr1 hsz hst ha hb ea eb h0 hkA' (by rw [eA]; exact hkindA) hkI' (by rw [eI]; exact hkindI) ?_ ?_ ?_ ?_ r1 r2 (fun d' acts' acts2 => ?_)
  · rw [Launch.admits_arrayLengthLimit X.admits]; omega
  · rw [Launch.admits_maxHeapBytes X.admits]; omega
  · rw [Launch.admits_arrayLengthLimit X.admits]; omega
  · rw [Launch.admits_maxHeapBytes X.admits]; omega
  · rw [afterInstr_ok]
    exact hrest
end
