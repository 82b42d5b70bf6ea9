/-! 08g: multianewarray with two counts, out of the machine's own words: the outer array, then its rows one behind another, each put into its place -/
section XM
variable {p : Program} {l : Launch} {e : Env} {R : Room} {s : State} {m : MethodId} {args : Array Value} {below : List Frame} {meth : Method} {c : Code} {locs : List Loc} {cells slots : Nat}
/-- V: the state where i rows of K ints stand behind the outer array, which lies at T's end -/
def mm_I (p : Program) (l : Launch) (e : Env) (R : Room) (s : State) (m : MethodId) (args : Array Value) (below : List Frame) (meth : Method) (c : Code) (locs : List Loc) (cells slots : Nat) (T : State) (cO cI : ClassId) (N K i : Nat) (V : State) : Prop :=
  (∃ ls : List Loc, Stand p l e R s m args below meth c V ls (cells + 1 + i) (slots + N + i * K) ∧ ∀ q ∈ ls, q ∈ locs ∨ q.base = T.heap.size) ∧ V.vm = T.vm ∧ V.heap.size = T.heap.size + 1 + i ∧ (∀ x : Nat, x < T.heap.size → V.heap[x]? = T.heap[x]?) ∧
    V.heap[T.heap.size]? = some (arrV cO N (fun j => va_rf (if j < i then some (T.heap.size + 1 + j) else none))) ∧ ∀ j : Nat, j < i → V.heap[T.heap.size + 1 + j]? = some (arrV cI K (fun _ => .int 0))
/-- one row: made at the end, then put into place i -/
theorem mm_put {T V : State} {cO cI : ClassId} {N K i : Nat} (h : mm_I p l e R s m args below meth c locs cells slots T cO cI N K i V) :
    mm_I p l e R s m args below meth c locs cells slots T cO cI N K (i + 1) ((V.pushCell { cls := cI, slots := Array.replicate K (.int 0), vm := .none }).setCell T.heap.size ((arrV cO N (fun j => va_rf (if j < i then some (T.heap.size + 1 + j) else none))).setSlot i (.ref V.heap.size))) := by
  obtain ⟨⟨ls, X, hls⟩, h1, h2, h3, h4, h5⟩ := h
  have hsz : (V.pushCell ({ cls := cI, slots := Array.replicate K (.int 0), vm := .none } : Cell)).heap.size = T.heap.size + 1 + i + 1 := by
    show (V.heap.push _).size = _
    rw [Array.size_push, h2]
  have hold : ∀ x : Nat, x < V.heap.size → (V.pushCell ({ cls := cI, slots := Array.replicate K (.int 0), vm := .none } : Cell)).heap[x]? = V.heap[x]? := fun x hx => by
    show (V.heap.push _)[x]? = _
    rw [Array.getElem?_push, if_neg (Nat.ne_of_lt hx)]
  have hO : (V.pushCell ({ cls := cI, slots := Array.replicate K (.int 0), vm := .none } : Cell)).heap[T.heap.size]? = some (arrV cO N (fun j => va_rf (if j < i then some (T.heap.size + 1 + j) else none))) := by
    rw [hold _ (by omega)]; exact h4
  have X1 := X.pushed ({ cls := cI, slots := Array.replicate K (.int 0), vm := .none } : Cell)
  have X2 := X1.stored hO i (.ref V.heap.size)
  rw [show ({ cls := cI, slots := Array.replicate K (.int 0), vm := .none } : Cell).slots.size = K from Array.size_replicate] at X2
  have hlt : T.heap.size < (V.pushCell ({ cls := cI, slots := Array.replicate K (.int 0), vm := .none } : Cell)).heap.size := by omega
  refine ⟨⟨ls ++ [⟨T.heap.size, i⟩], ?_, ?_⟩, h1, ?_, ?_, ?_, ?_⟩
  · rw [show cells + 1 + (i + 1) = cells + 1 + i + 1 by omega, show slots + N + (i + 1) * K = slots + N + i * K + K by rw [Nat.succ_mul]; omega]
    exact X2
  · intro q hq
    rcases List.mem_append.mp hq with g | g
    · exact hls q g
    · rw [List.mem_singleton.mp g]; exact Or.inr rfl
  · rw [size_setCell, hsz]; omega
  · intro x hx
    rw [heapAt_setCell_ne _ (show T.heap.size ≠ x by omega), hold x (by omega)]
    exact h3 x hx
  · rw [heapAt_setCell_self _ hlt, arrV_store]
    refine congrArg (fun f => some (arrV cO N f)) (funext fun j => ?_)
    by_cases g : j = i
    · subst g
      simp [updV, va_rf, h2]
    · by_cases k : j < i
      · simp [updV, g, k, Nat.lt_succ_of_lt k]
      · simp [updV, g, k, show ¬ j < i + 1 by omega]
  · intro j hj
    rw [heapAt_setCell_ne _ (show T.heap.size ≠ T.heap.size + 1 + j by omega)]
    by_cases g : j = i
    · subst g
      rw [← arrV_new]
      show (V.heap.push _)[_]? = _
      rw [← h2, Array.getElem?_push_size]
    · rw [hold _ (by omega)]
      exact h5 j (by omega)
/-- the machine makes a row -/
theorem mm_row {E : CtlPost} {d : Bool} {acts : List Action} {U : State} {Q : Addr → Pre} {cI comp : ClassId} {k : Class} {n : Int32} (hk : U.vm.classes[cI]? = some k) (hkind : k.kind = .array comp .int) (hn : ¬ n < 0)
    (hlimit : ¬ n.toNatClampNeg > e.platform.arrayLengthLimit) (hheap : ¬ n.toNatClampNeg * componentBytes .int > e.platform.maxHeapBytes) (hcells : U.heap.size < e.platform.maxCells) (hslots : U.slotsUsed + n.toNatClampNeg ≤ e.platform.maxSlots)
    (hq : ∀ acts', Q U.heap.size d acts' (U.pushCell { cls := cI, slots := Array.replicate n.toNatClampNeg (.int 0), vm := .none })) : wp (multianewarray.make cI [n]) Q E e d acts U := by
  rw [multianewarray.make.eq_2]
  simp only [wp_bind', hn, if_false, wp_pure', Jvm.W.theClass, hk, Option.some.injEq, exists_eq_left', hkind]
  exact Jvm.W.newArray_of hk hkind hlimit hheap hcells hslots rfl hq
/-- all rows, by a loop whose round is one row -/
theorem mm_rows {T : State} {cO cI : ClassId} {N K : Nat} (g : Nat → PUnit → Sem (ForInStep PUnit))
    (hg : ∀ (i : Nat) (V : State), i < N → mm_I p l e R s m args below meth c locs cells slots T cO cI N K i V → ∃ V2 : State, mm_I p l e R s m args below meth c locs cells slots T cO cI N K (i + 1) V2 ∧
      ∀ (f : JFrame) (Q : ForInStep PUnit → Pre) (E : CtlPost) (d : Bool) (acts : List Action), (∀ d' acts', Q (.yield PUnit.unit) d' acts' (V2.setTop f)) → wp (g i PUnit.unit) Q E e d acts (V.setTop f)) :
    ∀ (r i : Nat) (V : State), i + r = N → mm_I p l e R s m args below meth c locs cells slots T cO cI N K i V → ∃ V2 : State, mm_I p l e R s m args below meth c locs cells slots T cO cI N K N V2 ∧
      ∀ (f : JFrame) (Q : PUnit → Pre) (E : CtlPost) (d : Bool) (acts : List Action), (∀ d' acts', Q PUnit.unit d' acts' (V2.setTop f)) → wp (forIn (List.range' i r) PUnit.unit g) Q E e d acts (V.setTop f)
  | 0, i, V, hi, h => by
    rw [show i = N by omega] at h
    refine ⟨V, h, fun f Q E d acts hQ => ?_⟩
    rw [List.range'_zero, List.forIn_nil, wp_pure']
    exact hQ d acts
  | r + 1, i, V, hi, h => by
    obtain ⟨V1, a1, b1⟩ := hg i V (by omega) h
    obtain ⟨V2, a2, b2⟩ := mm_rows g hg r (i + 1) V1 (by omega) a1
    refine ⟨V2, a2, fun f Q E d acts hQ => ?_⟩
    rw [List.range'_succ, List.forIn_cons, wp_bind']
    exact b1 f _ E d acts fun d' acts' => b2 f Q E d' acts' hQ
/-- the machine makes the outer array and all its rows -/
theorem mm_make {T : State} {cO cI compI : ClassId} {kO kI : Class} {k1 k2 : Int32} (X : Stand p l e R s m args below meth c T locs cells slots) (hkO : T.vm.classes[cO]? = some kO) (hkindO : kO.kind = .array cI (.array .int)) (hkI : T.vm.classes[cI]? = some kI) (hkindI : kI.kind = .array compI .int)
    (h1 : ¬ k1 < 0) (h2 : ¬ k2 < 0) (hb1 : k1.toNatClampNeg * 4 ≤ 536870912) (hb2 : k2.toNatClampNeg * 4 ≤ 536870912) (hcells : cells + 1 + k1.toNatClampNeg ≤ R.cells) (hslots : slots + k1.toNatClampNeg + k1.toNatClampNeg * k2.toNatClampNeg ≤ R.slots) :
    ∃ V : State, mm_I p l e R s m args below meth c locs cells slots T cO cI k1.toNatClampNeg k2.toNatClampNeg k1.toNatClampNeg V ∧
      ∀ (f : JFrame) (Q : Addr → Pre) (E : CtlPost) (d : Bool) (acts : List Action), (∀ d' acts', Q T.heap.size d' acts' (V.setTop f)) → wp (multianewarray.make cO [k1, k2]) Q E e d acts (T.setTop f) := by
  have hl : ∀ n : Int32, n.toNatClampNeg * 4 ≤ 536870912 → ¬ n.toNatClampNeg > e.platform.arrayLengthLimit := fun n hn => by rw [Launch.admits_arrayLengthLimit X.admits]; omega
  have hh : ∀ n : Int32, n.toNatClampNeg * 4 ≤ 536870912 → ¬ n.toNatClampNeg * 4 > e.platform.maxHeapBytes := fun n hn => by rw [Launch.admits_maxHeapBytes X.admits]; omega
  have hI0 : mm_I p l e R s m args below meth c locs cells slots T cO cI k1.toNatClampNeg k2.toNatClampNeg 0 (T.pushCell { cls := cO, slots := Array.replicate k1.toNatClampNeg .null, vm := .none }) := by
    have X1 := X.pushed ({ cls := cO, slots := Array.replicate k1.toNatClampNeg .null, vm := .none } : Cell)
    rw [show ({ cls := cO, slots := Array.replicate k1.toNatClampNeg .null, vm := .none } : Cell).slots.size = k1.toNatClampNeg from Array.size_replicate] at X1
    refine ⟨⟨locs, by rw [Nat.zero_mul]; exact X1, fun q hq => Or.inl hq⟩, rfl, ?_, ?_, ?_, fun j hj => absurd hj (Nat.not_lt_zero _)⟩
    · show (T.heap.push _).size = _
      rw [Array.size_push]
    · intro x hx
      show (T.heap.push _)[x]? = _
      rw [Array.getElem?_push, if_neg (Nat.ne_of_lt hx)]
    · show (T.heap.push _)[T.heap.size]? = _
      rw [Array.getElem?_push_size, arrV_new]
      simp [va_rf]
  let g : Nat → PUnit → Sem (ForInStep PUnit) := fun i _ => do
    writeLoc T.heap.size i (.ref (← multianewarray.make cI [k2]))
    Pure.pure (ForInStep.yield PUnit.unit)
  obtain ⟨V, hV, hw⟩ := mm_rows (p := p) (l := l) (e := e) (R := R) (s := s) (m := m) (args := args) (below := below) (meth := meth) (c := c) (locs := locs) (cells := cells) (slots := slots) (T := T) (cO := cO) (cI := cI) (N := k1.toNatClampNeg) (K := k2.toNatClampNeg) g (fun i V hi hV => by
    refine ⟨_, mm_put hV, fun f Q E d acts hQ => ?_⟩
    obtain ⟨⟨ls, XV, -⟩, v1, v2, v3, v4, v5⟩ := hV
    have hmul : i * k2.toNatClampNeg + k2.toNatClampNeg ≤ k1.toNatClampNeg * k2.toNatClampNeg := by
      rw [← Nat.succ_mul]; exact Nat.mul_le_mul_right _ hi
    obtain ⟨hr1, hr2⟩ := XV.roomAbove (a := 1) (b := k2.toNatClampNeg) (by omega) (by omega)
    show wp (do writeLoc T.heap.size i (.ref (← multianewarray.make cI [k2])); Pure.pure (ForInStep.yield PUnit.unit)) Q E e d acts (V.setTop f)
    simp only [wp_bind']
    refine mm_row (U := V.setTop f) (k := kI) (comp := compI) (by show V.vm.classes[cI]? = _; rw [v1]; exact hkI) hkindI h2 (hl _ hb2) (hh _ hb2) (by show V.heap.size < _; omega) (by show V.slotsUsed + _ ≤ _; exact hr2) fun acts' => ?_
    rw [wp_bind', Jvm.W.writeLoc]
    refine ⟨arrV cO k1.toNatClampNeg (fun j => va_rf (if j < i then some (T.heap.size + 1 + j) else none)), ?_, ?_, ?_, ?_, ?_⟩
    · show (V.heap.push _)[T.heap.size]? = _
      rw [Array.getElem?_push, if_neg (by omega)]; exact v4
    · intro h; cases h
    · rw [arrV_size]; exact hi
    · show V.fitsSlot cO .none i _ = true
      simp [State.fitsSlot, State.slotType?, v1, hkO, hkindO]; rfl
    · rw [wp_pure']
      exact hQ _ _) k1.toNatClampNeg 0 _ (by omega) hI0
  refine ⟨V, hV, fun f Q E d acts hQ => ?_⟩
  obtain ⟨hr1, hr2⟩ := X.roomAbove (a := 1) (b := k1.toNatClampNeg) (by omega) (by omega)
  rw [multianewarray.make.eq_2]
  simp only [wp_bind', h1, if_false, wp_pure', Jvm.W.theClass, show (T.setTop f).vm.classes[cO]? = some kO from hkO, Option.some.injEq, exists_eq_left', hkindO]
  refine Jvm.W.newArray_of hkO hkindO (hl _ hb1) (hh _ hb1) (by show T.heap.size < _; omega) hr2 rfl fun acts' => ?_
  have hf : List.find? (fun x : Int32 => decide (x < 0)) [k2] = none := by simp [h2]
  have key : wp (do forIn [:k1.toNatClampNeg] PUnit.unit g; Pure.pure T.heap.size) Q E e d acts' ((T.pushCell { cls := cO, slots := Array.replicate k1.toNatClampNeg .null }).setTop f) := by
    rw [wp_bind', Std.Legacy.Range.forIn_eq_forIn_range']
    rw [show Std.Legacy.Range.size [:k1.toNatClampNeg] = k1.toNatClampNeg by simp [Std.Legacy.Range.size]]
    exact hw f _ E d acts' fun d' acts2 => hQ d' acts2
  split
  · simp only [hf]
    exact key
  · exact key
/-- the whole instruction -/
theorem mm_sem {E : CtlPost} {d : Bool} {acts : List Action} {T : State} {Q : Unit → Pre} {f : JFrame} {index cO : Nat} {vm1 : Vm} {k1 k2 : Int32} {rest : List Value} (ht : T.topJava?.isSome) (hg : (Jvm.resolveClass f.method.cls index).Gives e.toSetting T.vm (.ok cO) vm1) (hsz : vm1.classes.size ≤ T.vm.classes.size) (hst : f.stack = .int k2 :: .int k1 :: rest)
    (hm : ∀ d', wp (multianewarray.make cO [k1, k2]) (fun a d2 a2 U => wp (pushRef a) Q E e d2 a2 U) E e d' acts ((T.setVm vm1).setTop { f with stack := rest })) : wp (multianewarray.sem index 2) Q E e d acts (T.setTop f) := by
  have hlink : ∀ Q2 : ClassId → Pre, wp (Jvm.resolveClassAt index) Q2 E e d acts (T.setTop f) ↔ Q2 cO d acts ((T.setTop f).setVm vm1) := fun Q2 => Jvm.W.resolveClassAt_links (State.method?_setTop f ht) hg hsz
  simp only [multianewarray.sem, wp_bind', hlink]
  simp only [Jvm.popN, wp_bind', Jvm.W.pop, wp_pure', State.setVm_setTop, State.topJava?_setTop' _ (show (T.setVm vm1).topJava?.isSome from ht), Option.some.injEq, exists_eq_left', hst, List.cons.injEq, State.setTop_setTop]
  refine ⟨.int k2, .int k1 :: rest, ⟨rfl, rfl⟩, .int k1, rest, rfl, ?_⟩
  simp only [List.nil_append, List.cons_append, List.mapM_cons, List.mapM_nil, wp_bind', wp_pure', Jvm.W.mark]
  exact hm true
/-- the row of the walk: arrays of ints, of two dimensions -/
theorem mm_W {H : Heap} {Q : State → Prop} {cc : ByteArray} (hexec : p.tables.exec = Jvm.exec) (hb : c.code = cc) {own : String} {index : Nat} (hown : s.vm.findClass own = some m.cls) (hclink : (Cond.classLink own index "[[I").before args s = true) (hover : (Cond.arrayOver (.array .int)).before args s = true) (harr : (Cond.arrayClass .int).before args s = true)
    {g : JFrame} (hg : g.method = m) (hdg : decode cc g.pc = .ok (.multianewarray index 2, 4)) {k1 k2 : Int32} {N K : Nat} {rest : List Value} (hstack : g.stack = .int k2 :: .int k1 :: rest) (h1 : ¬ k1 < 0) (h2 : ¬ k2 < 0) (hN : k1.toNatClampNeg = N) (hK : k2.toNatClampNeg = K) (hb1 : N * 4 ≤ 536870912) (hb2 : K * 4 ≤ 536870912) (hcells : cells + 1 + N ≤ R.cells) (hslots : slots + N + N * K ≤ R.slots)
    (kk : ∀ (cO cI : ClassId) (H1 : Heap) (ls : List Loc), s.vm.findClass "[[I" = some cO → s.vm.findClass "[I" = some cI → (∀ q ∈ ls, q ∈ locs ∨ q.base = H.size) → H1.size = H.size + 1 + N → (∀ x : Nat, x < H.size → H1[x]? = H[x]?) → H1[H.size]? = some (arrV cO N (fun j => va_rf (if j < N then some (H.size + 1 + j) else none))) → (∀ j : Nat, j < N → H1[H.size + 1 + j]? = some (arrV cI K (fun _ => .int 0))) →
      W p l e R s m args below meth c H1 ls (cells + 1 + N) (slots + N + N * K) Q { g with pc := g.pc + 4, stack := .ref H.size :: rest }) : W p l e R s m args below meth c H locs cells slots Q g := by
  intro T hT X
  subst hT; subst hb; subst hg; subst hN; subst hK
  have hpl : e.platform.magicAccessors = ({} : Platform).magicAccessors := by rw [X.admits.platform]
  obtain ⟨cI, cO, kO, hcI, -, hkO, hkindO, hcO⟩ := arrayOverA_spec hover
  obtain ⟨cI2, kI, compI, hcI2, hkI, hkindI⟩ := Cond.arrayClass_spec harr
  have e1 : s.vm.findClass "[I" = some cI := hcI
  have e2 : s.vm.findClass "[I" = some cI2 := hcI2
  have e3 : s.vm.findClass "[[I" = some cO := hcO
  cases e1.symm.trans e2
  obtain ⟨cL, hcL, hcl⟩ := Cond.classLink_spec hown hclink e.platform hpl
  cases e3.symm.trans hcL
  obtain ⟨hg1, hwarm1, -⟩ := State.classEntry (e := e) X.warmed hcl
  generalize T.vm.noted g.method.cls index (.cls cO) = vm1 at hg1 hwarm1
  have hal : s.vm.Alike vm1 := hwarm1.alike
  obtain ⟨kO1, hkO1, heO⟩ := hal.2.2 _ _ hkO
  obtain ⟨kI1, hkI1, heI⟩ := hal.2.2 _ _ hkI
  have X1 := X.noted hwarm1
  have hsz : vm1.classes.size ≤ T.vm.classes.size := by no_record
  obtain ⟨V, ⟨⟨ls, XV, hls⟩, -, v2, v3, v4, v5⟩, hw⟩ := mm_make X1 (cO := cO) (cI := cI) (compI := compI) (kO := kO1) (kI := kI1) (k1 := k1) (k2 := k2) hkO1 (by rw [heO]; exact hkindO) hkI1 (by rw [heI]; exact hkindI) h1 h2 hb1 hb2 hcells hslots
  obtain ⟨t, a1, b1⟩ := kk cO cI V.heap ls e3 e1 hls v2 v3 v4 v5 V rfl XV
  refine ⟨t, Steps.instr (c := c) X.here ?_, b1⟩
  rw [hdg]
  show wp (p.tables.exec (.multianewarray index 2)) _ _ e false [] (T.setTop g)
  rw [hexec]
  show wp (multianewarray.sem index 2) _ _ e false [] (T.setTop g)
  refine mm_sem X.here.top hg1 hsz hstack fun d' => hw _ _ _ d' [] fun d2 a2 => ?_
  rw [Jvm.W.pushRef]
  refine ⟨_, State.topJava?_setTop' _ XV.here.top, ?_⟩
  intro acts
  rw [State.setTop_setTop, afterInstr_ok]
  exact a1
end XM
