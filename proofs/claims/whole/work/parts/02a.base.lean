/-! 02a: cells by their numbers beyond the old heap O; the judgement gv; a row an instruction -/
abbrev xg_G : Type := va_G × (Nat → ClassId)
def xg_tys (a : Nat → ClassId) : List (ClassId × FieldType) := [(a 0, .int), (a 1, .array .int), (a 2, .object "UnderText$Half"), (a 3, .object "UnderText$Leaf"), (a 4, .boolean)]
def xg_nest : List (String × Nat × MethodName) := [(RX8, 9, yX6_init), (RX8, 18, yX5_init), (RX5, 11, yX7_init), (RX2, 21, yX1_init), (RX5, 27, yX3_init), (RX8, 37, yX4_init), (RX0, 33, yX3_init), (RX7, 39, yX8_isWithin), (RX5, 97, yX8_isWithin), (RX5, 77, yX8_lettersAhead), (RX5, 93, yX8_hasLetter), (RX4, 63, yX8_isWithin)]
/-- what the tables say, beside the words -/
def xg_K (G : xg_G) (U : State) : Prop := va_K G.1 vwCl (xg_tys G.2) U ∧ (∀ q ∈ xg_nest, va_Nw (.methodLinkNest q.1 q.2.1 q.2.2 RX8) U) ∧ va_AO "UnderText$Half" U ∧ va_AO "UnderText$Leaf" U ∧ (Cond.arrayOver (.array .int)).before #[] U = true
theorem xg_K.warm {G : xg_G} {s U : State} (hW : s.WarmedH U.vm) (h : xg_K G s) : xg_K G U :=
  ⟨va_K.moved hW.alike h.1, fun q hq => va_Nw.warmM hW (h.2.1 q hq), va_AO.moved hW.alike h.2.2.1, va_AO.moved hW.alike h.2.2.2.1, over_moved hW.alike h.2.2.2.2⟩
theorem xg_K.calling {G : xg_G} {U : State} {g : JFrame} {mk : MethodId} {a : Array Value} (h : xg_K G U) : xg_K G (U.calling g mk a) :=
  ⟨va_K.moved (u := U) (Vm.Alike.refl U.vm) h.1, fun q hq => va_Nw.same (u := U) rfl rfl (h.2.1 q hq), va_AO.moved (u := U) (Vm.Alike.refl U.vm) h.2.2.1, va_AO.moved (u := U) (Vm.Alike.refl U.vm) h.2.2.2.1, over_moved (u := U) (Vm.Alike.refl U.vm) h.2.2.2.2⟩
def xg_up (w : Nat → va_E) (k : Nat) (e : va_E) : Nat → va_E := fun j => if j = k then e else w j
/-- the heap holds the cells w 0 .. w (n-1) behind the old heap O, which is as it was -/
def xg_hp (G : xg_G) (O : Heap) (w : Nat → va_E) (n : Nat) (H : Heap) : Prop := (∀ k, k < n → va_at G.1 vwCl (O.size + k, w k) H) ∧ ∀ q, q < O.size → H[q]? = O[q]?
theorem xg_hp.set {G : xg_G} {O : Heap} {w : Nat → va_E} {n : Nat} {H H1 : Heap} (h : xg_hp G O w n H) {k : Nat} (e : va_E) (hat : va_at G.1 vwCl (O.size + k, e) H1) (oq : ∀ q, q ≠ O.size + k → H1[q]? = H[q]?) : xg_hp G O (xg_up w k e) n H1 := by
  refine ⟨fun j hj => ?_, fun q hq => ?_⟩
  · unfold xg_up
    by_cases hjk : j = k
    · rw [if_pos hjk, hjk]; exact hat
    · rw [if_neg hjk]
      exact (h.1 j hj).kept (oq _ (by show O.size + j ≠ O.size + k; omega))
  · rw [oq q (by omega)]; exact h.2 q hq
theorem xg_hp.push {G : xg_G} {O : Heap} {w : Nat → va_E} {n : Nat} {H H1 : Heap} (h : xg_hp G O w n H) (e : va_E) (hat : va_at G.1 vwCl (O.size + n, e) H1) (oq : ∀ q, q < O.size + n → H1[q]? = H[q]?) : xg_hp G O (xg_up w n e) (n + 1) H1 := by
  refine ⟨fun j hj => ?_, fun q hq => ?_⟩
  · unfold xg_up
    by_cases hjk : j = n
    · rw [if_pos hjk, hjk]; exact hat
    · rw [if_neg hjk]
      exact (h.1 j (by omega)).kept (oq _ (by show O.size + j < O.size + n; omega))
  · rw [oq q (by omega)]; exact h.2 q hq
/-- one cell of the world as a list -/
theorem xg_hp.one {G : xg_G} {O : Heap} {w : Nat → va_E} {n : Nat} {H : Heap} (h : xg_hp G O w n H) {k : Nat} (hk : k < n) : va_P G.1 vwCl [(O.size + k, w k)] H := by
  intro i q hq
  match i, hq with
  | 0, hq => cases hq; exact h.1 k hk
  | i + 1, hq => simp at hq
/-- the locals: those that are known, of one word each -/
def xl_has (ls : Array Slot) (nL : Nat) (L : List (Option Value)) : Prop := ls.size = nL ∧ lv_wf ls ∧ L.length = nL ∧ ∀ (i : Nat) (v : Value), L[i]? = some (some v) → ls[i]? = some (.val v) ∧ v.category = 1
theorem xl_has.at {ls : Array Slot} {nL : Nat} {L : List (Option Value)} (h : xl_has ls nL L) {i : Nat} {v : Value} (hi : L[i]? = some (some v)) : ls[i]? = some (.val v) := (h.2.2.2 i v hi).1
def xl_ps (L : List (Option Value)) : List (Nat × Value) := (List.range L.length).filterMap (fun i => match L[i]? with | some (some v) => some (i, v) | _ => none)
theorem xl_ps_mem {L : List (Option Value)} {j : Nat} {u : Value} (h : L[j]? = some (some u)) : (j, u) ∈ xl_ps L := by
  refine List.mem_filterMap.mpr ⟨j, List.mem_range.mpr (List.getElem?_eq_some_iff.mp h).1, ?_⟩
  rw [h]
theorem xl_ps_of {L : List (Option Value)} {q : Nat × Value} (h : q ∈ xl_ps L) : L[q.1]? = some (some q.2) := by
  obtain ⟨i, -, hi⟩ := List.mem_filterMap.mp h
  revert hi
  split
  · rename_i v hv
    intro hi
    cases hi
    exact hv
  · intro hi; cases hi
theorem xl_has.lv {ls : Array Slot} {nL : Nat} {L : List (Option Value)} (h : xl_has ls nL L) : lv_has ls nL (xl_ps L) := ⟨h.1, h.2.1, fun q hq => h.at (xl_ps_of hq)⟩
theorem xl_has.store {ls ls' : Array Slot} {nL : Nat} {L : List (Option Value)} (h : xl_has ls nL L) {i : Nat} {v : Value} (hc : v.category = 1) (hi : i < nL) (h' : lv_has ls' nL ((i, v) :: (xl_ps L).filter (fun q => !(q.1 == i) && !(q.1 + 1 == i && q.2.category == 2)))) : xl_has ls' nL (L.set i (some v)) := by
  refine ⟨h'.1, h'.2.1, by rw [List.length_set]; exact h.2.2.1, fun j u hj => ?_⟩
  by_cases hji : j = i
  · subst hji
    rw [List.getElem?_set_self (by rw [h.2.2.1]; exact hi)] at hj
    cases hj
    exact ⟨h'.2.2 _ List.mem_cons_self, hc⟩
  · rw [List.getElem?_set_ne (Ne.symm hji)] at hj
    have hu := (h.2.2.2 j u hj).2
    refine ⟨h'.2.2 (j, u) (List.mem_cons_of_mem _ (List.mem_filter.mpr ⟨xl_ps_mem hj, ?_⟩)), hu⟩
    simp [hji, hu]
theorem xl_args : ∀ (vs : List Value) (i : Nat), (∀ v ∈ vs, v.category = 1) → ∀ (j : Nat) (u : Value), vs[j]? = some u → (i + j, u) ∈ lv_args i vs
  | [], _, _, j, u, h => by simp at h
  | v :: vs, i, hc, j, u, h => by
    unfold lv_args
    have h1 : ¬ v.category = 2 := by rw [hc v List.mem_cons_self]; decide
    rw [if_neg h1]
    match j, h with
    | 0, h => simp at h; subst h; simp
    | j + 1, h =>
      have h2 : vs[j]? = some u := by simpa using h
      have := xl_args vs (i + 1) (fun v hv => hc v (List.mem_cons_of_mem _ hv)) j u h2
      rw [show i + (j + 1) = i + 1 + j by omega]
      exact List.mem_cons_of_mem _ this
theorem xl_entry (vs : List Value) (k : Nat) (hc : ∀ v ∈ vs, v.category = 1) {n : Nat} (hn : vs.length + k = n) : ∃ ls, (∀ m : MethodId, entryFrame m vs.toArray n = F0 m 0 ls []) ∧ xl_has ls n (vs.map some ++ List.replicate k none) := by
  have hlen : ∀ (vs : List Value), (∀ v ∈ vs, v.category = 1) → (lg_sl vs).length = vs.length := by
    intro vs
    induction vs with
    | nil => intro _; rfl
    | cons v vs ih =>
      intro hc
      have h1 := hc v List.mem_cons_self
      have h2 := ih (fun v hv => hc v (List.mem_cons_of_mem _ hv))
      simp only [lg_sl] at h2 ⊢
      simp_all
  have hl := lv_entry vs (n := n) (by rw [hlen vs hc]; omega)
  refine ⟨_, fun m => lg_entry_eq m vs n, hl.1, hl.2.1, by simp; exact hn, fun i v hi => ?_⟩
  have hv : vs[i]? = some v := by
    rcases Nat.lt_or_ge i vs.length with q | q
    · rw [List.getElem?_append_left (by simpa using q), List.getElem?_map] at hi
      cases hvi : vs[i]? with
      | none => rw [hvi] at hi; cases hi
      | some u => rw [hvi] at hi; cases hi; rfl
    · rw [List.getElem?_append_right (by simpa using q)] at hi
      have := (List.getElem?_eq_some_iff.mp hi).2
      simp at this
  have := xl_args vs 0 hc i v hv
  rw [Nat.zero_add] at this
  exact ⟨hl.2.2 _ this, hc v (List.mem_of_getElem? hv)⟩
/-- the walk: at pc, with the locals L, the stack st and the cells w (n of them; z: the heap ends with them) -/
def gv (z : Prop) (p : Program) (l : Launch) (e : Env) (R : Room) (s : State) (m : MethodId) (args : Array Value) (below : List Frame) (meth : Method) (c : Code) (nL : Nat) (G : xg_G) (O : Heap) (cells slots : Nat) (Q : State → Prop) (n : Nat) (w : Nat → va_E) (L : List (Option Value)) (pc : Nat) (st : List Value) : Prop :=
  ∀ (H : Heap) (ls : Array Slot) (locs : List Loc), xl_has ls nL L → xg_hp G O w n H → (z → H.size = O.size + n) → (∀ q ∈ locs, O.size ≤ q.base) → W p l e R s m args below meth c H locs cells slots Q (F0 m pc ls st)
/-- what is fixed over a walk -/
def xg_X (p : Program) (m : MethodId) (c : Code) (cc : ByteArray) (nL : Nat) (s : State) (args : Array Value) (own : String) (G : xg_G) : Prop := CallFix p m c cc nL s args xw_T own ∧ xg_K G s
section XB
variable {z : Prop} {p : Program} {l : Launch} {e : Env} {R : Room} {s : State} {m : MethodId} {args : Array Value} {below : List Frame} {meth : Method} {c : Code} {nL : Nat} {G : xg_G} {O : Heap} {cells slots : Nat} {Q : State → Prop} {n : Nat} {w : Nat → va_E} {L : List (Option Value)} {pc : Nat} {rest : List Value} {cc : ByteArray} {own : String}
theorem g_iconst (X : xg_X p m c cc nL s args own G) {k : Int} {v : Int32} (hd : decode cc pc = .ok (.iconst k, 1)) (hv : Int32.ofInt k = v) (kk : gv z p l e R s m args below meth c nL G O cells slots Q n w L (pc + 1) (.int v :: rest)) : gv z p l e R s m args below meth c nL G O cells slots Q n w L (pc) (rest) :=
  fun H ls locs hl hh hz hq => lv_iconst X.1.1 X.1.2.1 hd hv (kk H ls locs hl hh hz hq)
theorem g_bipush (X : xg_X p m c cc nL s args own G) {k : Int} {v : Int32} (hd : decode cc pc = .ok (.bipush k, 2)) (hv : (Int8.ofInt k).toInt32 = v) (kk : gv z p l e R s m args below meth c nL G O cells slots Q n w L (pc + 2) (.int v :: rest)) : gv z p l e R s m args below meth c nL G O cells slots Q n w L (pc) (rest) :=
  fun H ls locs hl hh hz hq => lv_bipush X.1.1 X.1.2.1 hd hv (kk H ls locs hl hh hz hq)
theorem g_sipush (X : xg_X p m c cc nL s args own G) {k : Int} {v : Int32} (hd : decode cc pc = .ok (.sipush k, 3)) (hv : (Int16.ofInt k).toInt32 = v) (kk : gv z p l e R s m args below meth c nL G O cells slots Q n w L (pc + 3) (.int v :: rest)) : gv z p l e R s m args below meth c nL G O cells slots Q n w L (pc) (rest) :=
  fun H ls locs hl hh hz hq => lv_sipush X.1.1 X.1.2.1 hd hv (kk H ls locs hl hh hz hq)
theorem g_iload_n (X : xg_X p m c cc nL s args own G) {k : Fin 4} {i : Nat} {x : Int32} (hd : decode cc pc = .ok (.iload_n k, 1)) (hi : (k : Nat) = i) (hx : L[i]? = some (some (.int x))) (kk : gv z p l e R s m args below meth c nL G O cells slots Q n w L (pc + 1) (.int x :: rest)) : gv z p l e R s m args below meth c nL G O cells slots Q n w L (pc) (rest) :=
  fun H ls locs hl hh hz hq => lv_iload_n X.1.1 X.1.2.1 hd hi (hl.at hx) (kk H ls locs hl hh hz hq)
theorem g_iload (X : xg_X p m c cc nL s args own G) {i : Nat} {x : Int32} (hd : decode cc pc = .ok (.iload i, 2)) (hx : L[i]? = some (some (.int x))) (kk : gv z p l e R s m args below meth c nL G O cells slots Q n w L (pc + 2) (.int x :: rest)) : gv z p l e R s m args below meth c nL G O cells slots Q n w L (pc) (rest) :=
  fun H ls locs hl hh hz hq => lv_iload X.1.1 X.1.2.1 hd (hl.at hx) (kk H ls locs hl hh hz hq)
theorem g_aload_n (X : xg_X p m c cc nL s args own G) {k : Fin 4} {i : Nat} {x : Nat} (hd : decode cc pc = .ok (.aload_n k, 1)) (hi : (k : Nat) = i) (hx : L[i]? = some (some (.ref x))) (kk : gv z p l e R s m args below meth c nL G O cells slots Q n w L (pc + 1) (.ref x :: rest)) : gv z p l e R s m args below meth c nL G O cells slots Q n w L (pc) (rest) :=
  fun H ls locs hl hh hz hq => lv_aload_n X.1.1 X.1.2.1 hd hi (hl.at hx) (kk H ls locs hl hh hz hq)
theorem g_aload (X : xg_X p m c cc nL s args own G) {i : Nat} {x : Nat} (hd : decode cc pc = .ok (.aload i, 2)) (hx : L[i]? = some (some (.ref x))) (kk : gv z p l e R s m args below meth c nL G O cells slots Q n w L (pc + 2) (.ref x :: rest)) : gv z p l e R s m args below meth c nL G O cells slots Q n w L (pc) (rest) :=
  fun H ls locs hl hh hz hq => lv_aload X.1.1 X.1.2.1 hd (hl.at hx) (kk H ls locs hl hh hz hq)
theorem g_istore_n (X : xg_X p m c cc nL s args own G) {k : Fin 4} {i : Nat} {x : Int32} (hd : decode cc pc = .ok (.istore_n k, 1)) (hi : (k : Nat) = i) (hn : i < nL) (kk : gv z p l e R s m args below meth c nL G O cells slots Q n w (L.set i (some (.int x))) (pc + 1) (rest)) : gv z p l e R s m args below meth c nL G O cells slots Q n w L (pc) (.int x :: rest) :=
  fun H ls locs hl hh hz hq => lv_istore_n X.1.1 X.1.2.1 hd hi hl.lv hn rfl (fun ls2 hl2 => kk H ls2 locs (hl.store rfl hn hl2) hh hz hq)
theorem g_istore (X : xg_X p m c cc nL s args own G) {i : Nat} {x : Int32} (hd : decode cc pc = .ok (.istore i, 2)) (hn : i < nL) (kk : gv z p l e R s m args below meth c nL G O cells slots Q n w (L.set i (some (.int x))) (pc + 2) (rest)) : gv z p l e R s m args below meth c nL G O cells slots Q n w L (pc) (.int x :: rest) :=
  fun H ls locs hl hh hz hq => lv_istore X.1.1 X.1.2.1 hd hl.lv hn rfl (fun ls2 hl2 => kk H ls2 locs (hl.store rfl hn hl2) hh hz hq)
theorem g_astore_n (X : xg_X p m c cc nL s args own G) {k : Fin 4} {i : Nat} {x : Nat} (hd : decode cc pc = .ok (.astore_n k, 1)) (hi : (k : Nat) = i) (hn : i < nL) (kk : gv z p l e R s m args below meth c nL G O cells slots Q n w (L.set i (some (.ref x))) (pc + 1) (rest)) : gv z p l e R s m args below meth c nL G O cells slots Q n w L (pc) (.ref x :: rest) :=
  fun H ls locs hl hh hz hq => lv_astore_n X.1.1 X.1.2.1 hd hi hl.lv hn rfl (fun ls2 hl2 => kk H ls2 locs (hl.store rfl hn hl2) hh hz hq)
theorem g_astore (X : xg_X p m c cc nL s args own G) {i : Nat} {x : Nat} (hd : decode cc pc = .ok (.astore i, 2)) (hn : i < nL) (kk : gv z p l e R s m args below meth c nL G O cells slots Q n w (L.set i (some (.ref x))) (pc + 2) (rest)) : gv z p l e R s m args below meth c nL G O cells slots Q n w L (pc) (.ref x :: rest) :=
  fun H ls locs hl hh hz hq => lv_astore X.1.1 X.1.2.1 hd hl.lv hn rfl (fun ls2 hl2 => kk H ls2 locs (hl.store rfl hn hl2) hh hz hq)
theorem g_iinc (X : xg_X p m c cc nL s args own G) {i : Nat} {k : Int} {x v : Int32} (hd : decode cc pc = .ok (.iinc i k, 3)) (hx : L[i]? = some (some (.int x))) (hv : x + Int32.ofInt k = v) (hn : i < nL) (kk : gv z p l e R s m args below meth c nL G O cells slots Q n w (L.set i (some (.int v))) (pc + 3) (rest)) : gv z p l e R s m args below meth c nL G O cells slots Q n w L (pc) (rest) := by
  intro H ls locs hl hh hz hq
  obtain ⟨j, hj⟩ := List.getElem?_of_mem (xl_ps_mem hx)
  exact lv_iinc X.1.1 X.1.2.1 hd hl.lv hj hv hn rfl (fun ls2 hl2 => kk H ls2 locs (hl.store rfl hn hl2) hh hz hq)
theorem g_iadd (X : xg_X p m c cc nL s args own G) {x y : Int32} (hd : decode cc pc = .ok (.iadd, 1)) (kk : gv z p l e R s m args below meth c nL G O cells slots Q n w L (pc + 1) (.int (x + y) :: rest)) : gv z p l e R s m args below meth c nL G O cells slots Q n w L (pc) (.int y :: .int x :: rest) :=
  fun H ls locs hl hh hz hq => lv_iadd X.1.1 X.1.2.1 hd (kk H ls locs hl hh hz hq)
theorem g_isub (X : xg_X p m c cc nL s args own G) {x y : Int32} (hd : decode cc pc = .ok (.isub, 1)) (kk : gv z p l e R s m args below meth c nL G O cells slots Q n w L (pc + 1) (.int (x - y) :: rest)) : gv z p l e R s m args below meth c nL G O cells slots Q n w L (pc) (.int y :: .int x :: rest) :=
  fun H ls locs hl hh hz hq => lv_isub X.1.1 X.1.2.1 hd (kk H ls locs hl hh hz hq)
theorem g_imul (X : xg_X p m c cc nL s args own G) {x y : Int32} (hd : decode cc pc = .ok (.imul, 1)) (kk : gv z p l e R s m args below meth c nL G O cells slots Q n w L (pc + 1) (.int (x * y) :: rest)) : gv z p l e R s m args below meth c nL G O cells slots Q n w L (pc) (.int y :: .int x :: rest) :=
  fun H ls locs hl hh hz hq => lv_imul X.1.1 X.1.2.1 hd (kk H ls locs hl hh hz hq)
theorem g_iand (X : xg_X p m c cc nL s args own G) {x y : Int32} (hd : decode cc pc = .ok (.iand, 1)) (kk : gv z p l e R s m args below meth c nL G O cells slots Q n w L (pc + 1) (.int (x &&& y) :: rest)) : gv z p l e R s m args below meth c nL G O cells slots Q n w L (pc) (.int y :: .int x :: rest) :=
  fun H ls locs hl hh hz hq => lv_iand X.1.1 X.1.2.1 hd (kk H ls locs hl hh hz hq)
theorem g_ixor (X : xg_X p m c cc nL s args own G) {x y : Int32} (hd : decode cc pc = .ok (.ixor, 1)) (kk : gv z p l e R s m args below meth c nL G O cells slots Q n w L (pc + 1) (.int (x ^^^ y) :: rest)) : gv z p l e R s m args below meth c nL G O cells slots Q n w L (pc) (.int y :: .int x :: rest) :=
  fun H ls locs hl hh hz hq => lv_ixor X.1.1 X.1.2.1 hd (kk H ls locs hl hh hz hq)
theorem g_ishl (X : xg_X p m c cc nL s args own G) {x y : Int32} (hd : decode cc pc = .ok (.ishl, 1)) (kk : gv z p l e R s m args below meth c nL G O cells slots Q n w L (pc + 1) (.int (x <<< (y &&& 31)) :: rest)) : gv z p l e R s m args below meth c nL G O cells slots Q n w L (pc) (.int y :: .int x :: rest) :=
  fun H ls locs hl hh hz hq => lv_ishl X.1.1 X.1.2.1 hd (kk H ls locs hl hh hz hq)
theorem g_ishr (X : xg_X p m c cc nL s args own G) {x y : Int32} (hd : decode cc pc = .ok (.ishr, 1)) (kk : gv z p l e R s m args below meth c nL G O cells slots Q n w L (pc + 1) (.int (x >>> (y &&& 31)) :: rest)) : gv z p l e R s m args below meth c nL G O cells slots Q n w L (pc) (.int y :: .int x :: rest) :=
  fun H ls locs hl hh hz hq => lv_ishr X.1.1 X.1.2.1 hd (kk H ls locs hl hh hz hq)
theorem g_iushr (X : xg_X p m c cc nL s args own G) {x y v : Int32} (hd : decode cc pc = .ok (.iushr, 1)) (hv : (x.toUInt32 >>> (y.toUInt32 &&& Int32.toUInt32 31)).toInt32 = v) (kk : gv z p l e R s m args below meth c nL G O cells slots Q n w L (pc + 1) (.int v :: rest)) : gv z p l e R s m args below meth c nL G O cells slots Q n w L (pc) (.int y :: .int x :: rest) :=
  fun H ls locs hl hh hz hq => lv_iushr X.1.1 X.1.2.1 hd hv (kk H ls locs hl hh hz hq)
theorem g_idiv (X : xg_X p m c cc nL s args own G) {x y : Int32} (hd : decode cc pc = .ok (.idiv, 1)) (hne : ¬ y = 0) (kk : gv z p l e R s m args below meth c nL G O cells slots Q n w L (pc + 1) (.int (x / y) :: rest)) : gv z p l e R s m args below meth c nL G O cells slots Q n w L (pc) (.int y :: .int x :: rest) :=
  fun H ls locs hl hh hz hq => lv_idiv X.1.1 X.1.2.1 hd hne (kk H ls locs hl hh hz hq)
theorem g_irem (X : xg_X p m c cc nL s args own G) {x y : Int32} (hd : decode cc pc = .ok (.irem, 1)) (hne : ¬ y = 0) (kk : gv z p l e R s m args below meth c nL G O cells slots Q n w L (pc + 1) (.int (x - x / y * y) :: rest)) : gv z p l e R s m args below meth c nL G O cells slots Q n w L (pc) (.int y :: .int x :: rest) :=
  fun H ls locs hl hh hz hq => lv_irem X.1.1 X.1.2.1 hd hne (kk H ls locs hl hh hz hq)
theorem g_dup (X : xg_X p m c cc nL s args own G) {a : Value} (hd : decode cc pc = .ok (.dup, 1)) (ha : a.category = 1) (kk : gv z p l e R s m args below meth c nL G O cells slots Q n w L (pc + 1) (a :: a :: rest)) : gv z p l e R s m args below meth c nL G O cells slots Q n w L (pc) (a :: rest) :=
  fun H ls locs hl hh hz hq => lv_dup X.1.1 X.1.2.1 hd ha (kk H ls locs hl hh hz hq)
theorem g_dup2 (X : xg_X p m c cc nL s args own G) {a b : Value} (hd : decode cc pc = .ok (.dup2, 1)) (ha : a.category = 1) (hb : b.category = 1) (kk : gv z p l e R s m args below meth c nL G O cells slots Q n w L (pc + 1) (a :: b :: a :: b :: rest)) : gv z p l e R s m args below meth c nL G O cells slots Q n w L (pc) (a :: b :: rest) :=
  fun H ls locs hl hh hz hq => lv_dup2_11 X.1.1 X.1.2.1 hd ha hb (kk H ls locs hl hh hz hq)
theorem g_pop (X : xg_X p m c cc nL s args own G) {a : Value} (hd : decode cc pc = .ok (.pop, 1)) (ha : a.category = 1) (kk : gv z p l e R s m args below meth c nL G O cells slots Q n w L (pc + 1) (rest)) : gv z p l e R s m args below meth c nL G O cells slots Q n w L (pc) (a :: rest) :=
  fun H ls locs hl hh hz hq => lv_pop X.1.1 X.1.2.1 hd ha (kk H ls locs hl hh hz hq)
theorem g_goto (X : xg_X p m c cc nL s args own G) {off : Int} {tgt : Nat} (hd : decode cc pc = .ok (.goto off, 3)) (ht : (pc : Int) + off = (tgt : Int)) (kk : gv z p l e R s m args below meth c nL G O cells slots Q n w L (tgt) (rest)) : gv z p l e R s m args below meth c nL G O cells slots Q n w L (pc) (rest) :=
  fun H ls locs hl hh hz hq => lv_goto X.1.1 X.1.2.1 hd ht (kk H ls locs hl hh hz hq)
theorem g_if_eq (X : xg_X p m c cc nL s args own G) {x : Int32} {off : Int} {tgt : Nat} (hd : decode cc pc = .ok (.ifCond .eq off, 3)) (ht : (pc : Int) + off = (tgt : Int)) (kt : x = 0 → gv z p l e R s m args below meth c nL G O cells slots Q n w L (tgt) (rest)) (kf : ¬ (x = 0) → gv z p l e R s m args below meth c nL G O cells slots Q n w L (pc + 3) (rest)) : gv z p l e R s m args below meth c nL G O cells slots Q n w L (pc) (.int x :: rest) :=
  fun H ls locs hl hh hz hq => lv_if_eq X.1.1 X.1.2.1 hd ht (fun h => kt h H ls locs hl hh hz hq) (fun h => kf h H ls locs hl hh hz hq)
theorem g_icmp_eq (X : xg_X p m c cc nL s args own G) {x y : Int32} {off : Int} {tgt : Nat} (hd : decode cc pc = .ok (.if_icmp .eq off, 3)) (ht : (pc : Int) + off = (tgt : Int)) (kt : x = y → gv z p l e R s m args below meth c nL G O cells slots Q n w L (tgt) (rest)) (kf : ¬ (x = y) → gv z p l e R s m args below meth c nL G O cells slots Q n w L (pc + 3) (rest)) : gv z p l e R s m args below meth c nL G O cells slots Q n w L (pc) (.int y :: .int x :: rest) :=
  fun H ls locs hl hh hz hq => lv_icmp_eq X.1.1 X.1.2.1 hd ht (fun h => kt h H ls locs hl hh hz hq) (fun h => kf h H ls locs hl hh hz hq)
theorem g_if_ne (X : xg_X p m c cc nL s args own G) {x : Int32} {off : Int} {tgt : Nat} (hd : decode cc pc = .ok (.ifCond .ne off, 3)) (ht : (pc : Int) + off = (tgt : Int)) (kt : ¬ x = 0 → gv z p l e R s m args below meth c nL G O cells slots Q n w L (tgt) (rest)) (kf : x = 0 → gv z p l e R s m args below meth c nL G O cells slots Q n w L (pc + 3) (rest)) : gv z p l e R s m args below meth c nL G O cells slots Q n w L (pc) (.int x :: rest) :=
  fun H ls locs hl hh hz hq => lv_if_ne X.1.1 X.1.2.1 hd ht (fun h => kt h H ls locs hl hh hz hq) (fun h => kf h H ls locs hl hh hz hq)
theorem g_icmp_ne (X : xg_X p m c cc nL s args own G) {x y : Int32} {off : Int} {tgt : Nat} (hd : decode cc pc = .ok (.if_icmp .ne off, 3)) (ht : (pc : Int) + off = (tgt : Int)) (kt : ¬ x = y → gv z p l e R s m args below meth c nL G O cells slots Q n w L (tgt) (rest)) (kf : x = y → gv z p l e R s m args below meth c nL G O cells slots Q n w L (pc + 3) (rest)) : gv z p l e R s m args below meth c nL G O cells slots Q n w L (pc) (.int y :: .int x :: rest) :=
  fun H ls locs hl hh hz hq => lv_icmp_ne X.1.1 X.1.2.1 hd ht (fun h => kt h H ls locs hl hh hz hq) (fun h => kf h H ls locs hl hh hz hq)
theorem g_if_lt (X : xg_X p m c cc nL s args own G) {x : Int32} {off : Int} {tgt : Nat} (hd : decode cc pc = .ok (.ifCond .lt off, 3)) (ht : (pc : Int) + off = (tgt : Int)) (kt : x < 0 → gv z p l e R s m args below meth c nL G O cells slots Q n w L (tgt) (rest)) (kf : ¬ (x < 0) → gv z p l e R s m args below meth c nL G O cells slots Q n w L (pc + 3) (rest)) : gv z p l e R s m args below meth c nL G O cells slots Q n w L (pc) (.int x :: rest) :=
  fun H ls locs hl hh hz hq => lv_if_lt X.1.1 X.1.2.1 hd ht (fun h => kt h H ls locs hl hh hz hq) (fun h => kf h H ls locs hl hh hz hq)
theorem g_icmp_lt (X : xg_X p m c cc nL s args own G) {x y : Int32} {off : Int} {tgt : Nat} (hd : decode cc pc = .ok (.if_icmp .lt off, 3)) (ht : (pc : Int) + off = (tgt : Int)) (kt : x < y → gv z p l e R s m args below meth c nL G O cells slots Q n w L (tgt) (rest)) (kf : ¬ (x < y) → gv z p l e R s m args below meth c nL G O cells slots Q n w L (pc + 3) (rest)) : gv z p l e R s m args below meth c nL G O cells slots Q n w L (pc) (.int y :: .int x :: rest) :=
  fun H ls locs hl hh hz hq => lv_icmp_lt X.1.1 X.1.2.1 hd ht (fun h => kt h H ls locs hl hh hz hq) (fun h => kf h H ls locs hl hh hz hq)
theorem g_if_ge (X : xg_X p m c cc nL s args own G) {x : Int32} {off : Int} {tgt : Nat} (hd : decode cc pc = .ok (.ifCond .ge off, 3)) (ht : (pc : Int) + off = (tgt : Int)) (kt : 0 ≤ x → gv z p l e R s m args below meth c nL G O cells slots Q n w L (tgt) (rest)) (kf : ¬ (0 ≤ x) → gv z p l e R s m args below meth c nL G O cells slots Q n w L (pc + 3) (rest)) : gv z p l e R s m args below meth c nL G O cells slots Q n w L (pc) (.int x :: rest) :=
  fun H ls locs hl hh hz hq => lv_if_ge X.1.1 X.1.2.1 hd ht (fun h => kt h H ls locs hl hh hz hq) (fun h => kf h H ls locs hl hh hz hq)
theorem g_icmp_ge (X : xg_X p m c cc nL s args own G) {x y : Int32} {off : Int} {tgt : Nat} (hd : decode cc pc = .ok (.if_icmp .ge off, 3)) (ht : (pc : Int) + off = (tgt : Int)) (kt : y ≤ x → gv z p l e R s m args below meth c nL G O cells slots Q n w L (tgt) (rest)) (kf : ¬ (y ≤ x) → gv z p l e R s m args below meth c nL G O cells slots Q n w L (pc + 3) (rest)) : gv z p l e R s m args below meth c nL G O cells slots Q n w L (pc) (.int y :: .int x :: rest) :=
  fun H ls locs hl hh hz hq => lv_icmp_ge X.1.1 X.1.2.1 hd ht (fun h => kt h H ls locs hl hh hz hq) (fun h => kf h H ls locs hl hh hz hq)
theorem g_if_gt (X : xg_X p m c cc nL s args own G) {x : Int32} {off : Int} {tgt : Nat} (hd : decode cc pc = .ok (.ifCond .gt off, 3)) (ht : (pc : Int) + off = (tgt : Int)) (kt : 0 < x → gv z p l e R s m args below meth c nL G O cells slots Q n w L (tgt) (rest)) (kf : ¬ (0 < x) → gv z p l e R s m args below meth c nL G O cells slots Q n w L (pc + 3) (rest)) : gv z p l e R s m args below meth c nL G O cells slots Q n w L (pc) (.int x :: rest) :=
  fun H ls locs hl hh hz hq => lv_if_gt X.1.1 X.1.2.1 hd ht (fun h => kt h H ls locs hl hh hz hq) (fun h => kf h H ls locs hl hh hz hq)
theorem g_icmp_gt (X : xg_X p m c cc nL s args own G) {x y : Int32} {off : Int} {tgt : Nat} (hd : decode cc pc = .ok (.if_icmp .gt off, 3)) (ht : (pc : Int) + off = (tgt : Int)) (kt : y < x → gv z p l e R s m args below meth c nL G O cells slots Q n w L (tgt) (rest)) (kf : ¬ (y < x) → gv z p l e R s m args below meth c nL G O cells slots Q n w L (pc + 3) (rest)) : gv z p l e R s m args below meth c nL G O cells slots Q n w L (pc) (.int y :: .int x :: rest) :=
  fun H ls locs hl hh hz hq => lv_icmp_gt X.1.1 X.1.2.1 hd ht (fun h => kt h H ls locs hl hh hz hq) (fun h => kf h H ls locs hl hh hz hq)
theorem g_if_le (X : xg_X p m c cc nL s args own G) {x : Int32} {off : Int} {tgt : Nat} (hd : decode cc pc = .ok (.ifCond .le off, 3)) (ht : (pc : Int) + off = (tgt : Int)) (kt : x ≤ 0 → gv z p l e R s m args below meth c nL G O cells slots Q n w L (tgt) (rest)) (kf : ¬ (x ≤ 0) → gv z p l e R s m args below meth c nL G O cells slots Q n w L (pc + 3) (rest)) : gv z p l e R s m args below meth c nL G O cells slots Q n w L (pc) (.int x :: rest) :=
  fun H ls locs hl hh hz hq => lv_if_le X.1.1 X.1.2.1 hd ht (fun h => kt h H ls locs hl hh hz hq) (fun h => kf h H ls locs hl hh hz hq)
theorem g_icmp_le (X : xg_X p m c cc nL s args own G) {x y : Int32} {off : Int} {tgt : Nat} (hd : decode cc pc = .ok (.if_icmp .le off, 3)) (ht : (pc : Int) + off = (tgt : Int)) (kt : x ≤ y → gv z p l e R s m args below meth c nL G O cells slots Q n w L (tgt) (rest)) (kf : ¬ (x ≤ y) → gv z p l e R s m args below meth c nL G O cells slots Q n w L (pc + 3) (rest)) : gv z p l e R s m args below meth c nL G O cells slots Q n w L (pc) (.int y :: .int x :: rest) :=
  fun H ls locs hl hh hz hq => lv_icmp_le X.1.1 X.1.2.1 hd ht (fun h => kt h H ls locs hl hh hz hq) (fun h => kf h H ls locs hl hh hz hq)
theorem g_ldc (X : xg_X p m c cc nL s args own G) {index : Nat} {v : Int32} (hd : decode cc pc = .ok (.ldc index, 2)) (hw : Cond.constant own index v ∈ xw_T) (kk : gv z p l e R s m args below meth c nL G O cells slots Q n w L (pc + 2) (.int v :: rest)) : gv z p l e R s m args below meth c nL G O cells slots Q n w L (pc) (rest) :=
  fun H ls locs hl hh hz hq => lv_ldc X.1.1 X.1.2.1 X.1.2.2.2.1 (X.1.2.2.2.2 _ hw) hd (kk H ls locs hl hh hz hq)
theorem g_ldcw (X : xg_X p m c cc nL s args own G) {index : Nat} {v : Int32} (hd : decode cc pc = .ok (.ldc_w index, 3)) (hw : Cond.constant own index v ∈ xw_T) (kk : gv z p l e R s m args below meth c nL G O cells slots Q n w L (pc + 3) (.int v :: rest)) : gv z p l e R s m args below meth c nL G O cells slots Q n w L (pc) (rest) :=
  fun H ls locs hl hh hz hq => lv_ldcw X.1.1 X.1.2.1 X.1.2.2.2.1 (X.1.2.2.2.2 _ hw) hd (kk H ls locs hl hh hz hq)
theorem g_tabOut (X : xg_X p m c cc nL s args own G) {dflt lo hi : Int} {offs : Array Int} {len : Nat} {x : Int32} {tgt : Nat} (hd : decode cc pc = .ok (.tableswitch dflt lo hi offs, len)) (h : x.toInt < lo ∨ hi < x.toInt) (ht : (pc : Int) + dflt = (tgt : Int)) (kk : gv z p l e R s m args below meth c nL G O cells slots Q n w L (tgt) (rest)) : gv z p l e R s m args below meth c nL G O cells slots Q n w L (pc) (.int x :: rest) :=
  fun H ls locs hl hh hz hq => lv_tableOut X.1.1 X.1.2.1 hd h ht (kk H ls locs hl hh hz hq)
theorem g_tabIn (X : xg_X p m c cc nL s args own G) {dflt lo hi : Int} {offs : Array Int} {len : Nat} {x : Int32} {off : Int} {tgt : Nat} (hd : decode cc pc = .ok (.tableswitch dflt lo hi offs, len)) (h1 : ¬ x.toInt < lo) (h2 : ¬ hi < x.toInt) (ho : offs[(x.toInt - lo).toNat]? = some off) (ht : (pc : Int) + off = (tgt : Int)) (kk : gv z p l e R s m args below meth c nL G O cells slots Q n w L (tgt) (rest)) : gv z p l e R s m args below meth c nL G O cells slots Q n w L (pc) (.int x :: rest) :=
  fun H ls locs hl hh hz hq => lv_tableIn X.1.1 X.1.2.1 hd h1 h2 ho ht (kk H ls locs hl hh hz hq)
theorem g_topi {x : Int32} (kk : ∀ y : Int32, y = x → gv z p l e R s m args below meth c nL G O cells slots Q n w L (pc) (.int y :: rest)) : gv z p l e R s m args below meth c nL G O cells slots Q n w L (pc) (.int x :: rest) := kk x rfl
theorem g_eq {st st2 : List Value} {L2 : List (Option Value)} {w2 : Nat → va_E} (h1 : st = st2) (h2 : L = L2) (h3 : w = w2) (kk : gv z p l e R s m args below meth c nL G O cells slots Q n w2 L2 (pc) (st2)) : gv z p l e R s m args below meth c nL G O cells slots Q n w L (pc) (st) := by subst h1; subst h2; subst h3; exact kk
theorem g_get (X : xg_X p m c cc nL s args own G) {k ci j index : Nat} {fs : List Value} {v : Value} {C : String} {T : u_T} {N : Nat} (hd : decode cc pc = .ok (.getfield index, 3)) (hk : k < n) (hw : w k = .inr (ci, fs)) (hc : vwCl[ci]? = some (C, T, N)) (hin : ∀ w ∈ u_ws C T N, w ∈ xw_T) (hj : j < N) (fl : Cond.fieldLink own index (T j).1 (T j).2.1 (T j).2.2.1 ∈ xw_T) (hv : fs[j]? = some v) (kk : gv z p l e R s m args below meth c nL G O cells slots Q n w L (pc + 3) (v :: rest)) : gv z p l e R s m args below meth c nL G O cells slots Q n w L (pc) (.ref (O.size + k) :: rest) := by
  intro H ls locs hl hh hz hq
  exact va_get X.1.1 X.1.2.1 X.1.2.2.2.2 hin X.1.2.2.2.1 X.2.1 (hh.one hk) 0 (by rw [hw]; rfl) hc j hj (X.1.2.2.2.2 _ fl) (fun _ h => h) hv hd (kk H ls locs hl hh hz hq)
theorem g_put (X : xg_X p m c cc nL s args own G) {k ci j index : Nat} {fs : List Value} {v : Value} {ty : FieldType} {C : String} {T : u_T} {N : Nat} (ty0 : Nat → FieldType) (hd : decode cc pc = .ok (.putfield index, 3)) (hk : k < n) (hw : w k = .inr (ci, fs)) (hc : vwCl[ci]? = some (C, T, N)) (hin : ∀ w ∈ u_ws C T N, w ∈ xw_T) (hty : ∀ k, k < N → parseFieldDescriptor (T k).2.2.1 = some (ty0 k)) (hnm : ∀ a, a < N → ∀ b, b < N → a ≠ b → (T a).2.1 ≠ (T b).2.1) (hj : j < N) (hjl : j < fs.length) (fl : Cond.fieldLink own index (T j).1 (T j).2.1 (T j).2.2.1 ∈ xw_T) (hf : (T j).2.2.2 = false ∨ ((T j).2.2.2 = true ∧ meth.name = "<init>" ∧ (T j).1 = own)) (hdn : ty0 j = ty) (hn : narrow ty v = v) (hfit : fits ty v = true) (kk : gv z p l e R s m args below meth c nL G O cells slots Q n (xg_up w k (.inr (ci, fs.set j v))) L (pc + 3) (rest)) : gv z p l e R s m args below meth c nL G O cells slots Q n w L (pc) (v :: .ref (O.size + k) :: rest) := by
  intro H ls locs hl hh hz hq
  have hap := va_apart (own := own) X.1.2.2.2.2 hin ty0 hty hnm X.2.1 hc
  have h0 := hh.1 k hk
  rw [hw] at h0
  obtain ⟨r, h1, cell, q1, q2, q3, q4⟩ := h0
  have hr : r = (C, T, N) := Option.some.inj (h1.symm.trans hc)
  subst hr
  obtain ⟨hS, hfc, kC, hkC, hkind⟩ := X.2.1.1 ci _ hc
  obtain ⟨cf, kf, fi, f, hi, hsl⟩ := hS j hj
  have hlay := X.1.2.2.2.2 _ (hin _ (u_in_lay hj))
  have hst := (u_facts hfc hkC (u_lays X.1.2.2.2.2 hin hj) hi).1
  have hdesc : parseFieldDescriptor (T j).2.2.1 = some ty := by rw [hty j hj, hdn]
  have done : ∀ H1 : Heap, H1[O.size + k]? = some (cell.setSlot f.slot v) → H1.size = H.size → (∀ q, q ≠ O.size + k → H1[q]? = H[q]?) → W p l e R s m args below meth c H1 (locs ++ [⟨O.size + k, f.slot⟩]) cells slots Q (F0 m (pc + 3) ls rest) := by
    intro H1 e1 e2 e3
    rw [hsl] at e1 ⊢
    refine kk H1 ls _ hl (hh.set _ ⟨_, hc, t_OB.to (V := updV (vp_V fs) j v) ⟨_, e1, q2, q3, t_set q4 hap hj v⟩ (fun i _ => vp_updV_set hjl v i)⟩ e3) (fun hz1 => by rw [e2]; exact hz hz1) (fun q hq1 => ?_)
    rcases List.mem_append.mp hq1 with h | h
    · exact hq q h
    · rw [List.mem_singleton.mp h]; exact Nat.le_add_right _ _
  unfold u_lay at hlay
  rcases hf with hf | ⟨hf, hin2, hdecl⟩
  · rw [if_neg (by rw [hf]; decide)] at hlay
    have h6 := u_store hfc hkC hkind hlay hi hdesc hn hfit
    exact W.putK X.1.1 X.1.2.1 (f := f) ⟨X.1.2.2.2.1, X.1.2.2.2.2 _ fl, ⟨_, _, _, hi⟩, hst⟩ (by rw [q2]; exact h6) q1 q3 (by rw [hsl]; exact k2_hasslot (q4 j hj)) rfl rfl hd done
  · rw [if_pos hf] at hlay
    have hcf : m.cls = cf := by
      obtain ⟨_, _, c', _, _, _, -, -, hf', -, -, -, hown2, -⟩ := Cond.laysFinal_spec hlay
      have e1 : c' = cf := by have := hi.symm.trans hf'; simp at this; exact this.1.symm
      rw [hdecl] at hown2
      rw [← e1]; exact Option.some.inj (X.1.2.2.2.1.symm.trans hown2)
    have h6 := u_fits hfc hkC hkind (Or.inr hlay) hi hdesc hn hfit
    exact W.putFinK X.1.1 X.1.2.1 X.1.2.2.2.1 (X.1.2.2.2.2 _ fl) hi hst hcf hin2 (by rw [q2]; exact h6) q1 q3 (by rw [hsl]; exact k2_hasslot (q4 j hj)) rfl rfl hd done
theorem g_iald (X : xg_X p m c cc nL s args own G) {k ln : Nat} {f : Nat → Int32} {i : Int32} {cA : ClassId} (hd : decode cc pc = .ok (.iaload, 1)) (hk : k < n) (hw : w k = .inl (cA, ln, .inl f)) (hA : cA = G.2 0) (hi : vp_in i ln) (kk : gv z p l e R s m args below meth c nL G O cells slots Q n w L (pc + 1) (.int (f i.toNatClampNeg) :: rest)) : gv z p l e R s m args below meth c nL G O cells slots Q n w L (pc) (.int i :: .ref (O.size + k) :: rest) := by
  intro H ls locs hl hh hz hq
  subst hA
  exact va_iald X.1.1 X.1.2.1 X.2.1 (hh.one hk) 0 0 (by rw [hw]; rfl) rfl hi hd (kk H ls locs hl hh hz hq)
theorem g_zald (X : xg_X p m c cc nL s args own G) {k ln : Nat} {f : Nat → Int32} {i : Int32} {cA : ClassId} (hd : decode cc pc = .ok (.baload, 1)) (hk : k < n) (hw : w k = .inl (cA, ln, .inl f)) (hA : cA = G.2 4) (hi : vp_in i ln) (kk : gv z p l e R s m args below meth c nL G O cells slots Q n w L (pc + 1) (.int (f i.toNatClampNeg) :: rest)) : gv z p l e R s m args below meth c nL G O cells slots Q n w L (pc) (.int i :: .ref (O.size + k) :: rest) := by
  intro H ls locs hl hh hz hq
  subst hA
  exact va_zald X.1.1 X.1.2.1 X.2.1 (hh.one hk) 0 4 (by rw [hw]; rfl) rfl hi hd (kk H ls locs hl hh hz hq)
theorem g_alen (X : xg_X p m c cc nL s args own G) {k : Nat} {t : vp_A} {v : Int32} {cA : ClassId} (t0 : Nat) (ty : FieldType) (hd : decode cc pc = .ok (.arraylength, 1)) (hk : k < n) (hw : w k = .inl (cA, t)) (ht : (xg_tys G.2)[t0]? = some (cA, ty)) (hv : Int32.ofNat t.1 = v) (kk : gv z p l e R s m args below meth c nL G O cells slots Q n w L (pc + 1) (.int v :: rest)) : gv z p l e R s m args below meth c nL G O cells slots Q n w L (pc) (.ref (O.size + k) :: rest) := by
  intro H ls locs hl hh hz hq
  exact va_alen X.1.1 X.1.2.1 X.2.1 (hh.one hk) 0 t0 (by rw [hw]; rfl) ht hv hd (kk H ls locs hl hh hz hq)
theorem g_aald (X : xg_X p m c cc nL s args own G) {k ln : Nat} {f : Nat → Option Nat} {i : Int32} {cA : ClassId} (t0 : Nat) (ty : FieldType) (hd : decode cc pc = .ok (.aaload, 1)) (hk : k < n) (hw : w k = .inl (cA, ln, .inr (.inr (.inr (.inr f))))) (ht : (xg_tys G.2)[t0]? = some (cA, ty)) (hr : ty.isReference = true) (hi : vp_in i ln) (kk : gv z p l e R s m args below meth c nL G O cells slots Q n w L (pc + 1) (va_rf (f i.toNatClampNeg) :: rest)) : gv z p l e R s m args below meth c nL G O cells slots Q n w L (pc) (.int i :: .ref (O.size + k) :: rest) := by
  intro H ls locs hl hh hz hq
  have h0 := hh.1 k hk
  rw [hw] at h0
  have hlt : i.toNatClampNeg < ln := Nat.not_le.mp fun q => hi (Or.inr q)
  exact W.aald (v := va_rf (f i.toNatClampNeg)) (ty := ty) X.1.1 X.1.2.1 h0 ((X.2.1.2 t0 _ ht).1 ln (fun j => va_rf (f j))) hr (fun q => by cases q) (by show ¬ (i < 0 ∨ (arrV _ _ _).slots.size ≤ _); rw [arrV_size]; exact hi) (by show (arrV _ _ _).slots[_]? = _; rw [arrV_read _ _ hlt]) rfl rfl hd (kk H ls locs hl hh hz hq)
theorem g_iast (X : xg_X p m c cc nL s args own G) {k ln : Nat} {f : Nat → Int32} {i x : Int32} {cA : ClassId} (hd : decode cc pc = .ok (.iastore, 1)) (hk : k < n) (hw : w k = .inl (cA, ln, .inl f)) (hA : cA = G.2 0) (hi : vp_in i ln) (kk : gv z p l e R s m args below meth c nL G O cells slots Q n (xg_up w k (.inl (cA, ln, .inl (upd f i.toNatClampNeg x)))) L (pc + 1) (rest)) : gv z p l e R s m args below meth c nL G O cells slots Q n w L (pc) (.int x :: .int i :: .ref (O.size + k) :: rest) := by
  intro H ls locs hl hh hz hq
  subst hA
  have h0 := hh.1 k hk
  rw [hw] at h0
  refine W.iast X.1.1 X.1.2.1 h0 ((X.2.1.2 0 _ rfl).1 ln (fun j => .int (f j))) (fun q => by cases q) (by show ¬ (i < 0 ∨ (arrV _ _ _).slots.size ≤ _); rw [arrV_size]; exact hi) rfl rfl hd fun H1 e1 e2 e3 => ?_
  refine kk H1 ls _ hl (hh.set _ ?_ e3) (fun hz1 => by rw [e2]; exact hz hz1) (fun q hq1 => ?_)
  · show H1[O.size + k]? = some (vp_cell _ _)
    rw [e1]
    rw [vp_cell_i, vp_cell_i, arrV_store]
    congr 2
    funext q
    by_cases hq : q = i.toNatClampNeg
    · subst hq; simp [updV, upd]
    · simp [updV, upd, hq]
  · rcases List.mem_append.mp hq1 with h | h
    · exact hq q h
    · rw [List.mem_singleton.mp h]; exact Nat.le_add_right _ _
theorem g_zast (X : xg_X p m c cc nL s args own G) {k ln : Nat} {f : Nat → Int32} {i x : Int32} {cA : ClassId} (hd : decode cc pc = .ok (.bastore, 1)) (hk : k < n) (hw : w k = .inl (cA, ln, .inl f)) (hA : cA = G.2 4) (hi : vp_in i ln) (kk : gv z p l e R s m args below meth c nL G O cells slots Q n (xg_up w k (.inl (cA, ln, .inl (upd f i.toNatClampNeg (vp_nar .boolean x))))) L (pc + 1) (rest)) : gv z p l e R s m args below meth c nL G O cells slots Q n w L (pc) (.int x :: .int i :: .ref (O.size + k) :: rest) := by
  intro H ls locs hl hh hz hq
  subst hA
  have h0 := hh.1 k hk
  rw [hw] at h0
  refine W.zast X.1.1 X.1.2.1 h0 ((X.2.1.2 4 _ rfl).1 ln (fun j => .int (f j))) (fun q => by cases q) (by show ¬ (i < 0 ∨ (arrV _ _ _).slots.size ≤ _); rw [arrV_size]; exact hi) rfl rfl hd fun H1 e1 e2 e3 => ?_
  refine kk H1 ls _ hl (hh.set _ ?_ e3) (fun hz1 => by rw [e2]; exact hz hz1) (fun q hq1 => ?_)
  · show H1[O.size + k]? = some (vp_cell _ _)
    rw [e1]
    rw [vp_cell_i, vp_cell_i, arrV_store]
    congr 2
    funext q
    by_cases hq : q = i.toNatClampNeg
    · subst hq; simp [updV, upd, vp_nar]; try rfl
    · simp [updV, upd, hq]
  · rcases List.mem_append.mp hq1 with h | h
    · exact hq q h
    · rw [List.mem_singleton.mp h]; exact Nat.le_add_right _ _
end XB
