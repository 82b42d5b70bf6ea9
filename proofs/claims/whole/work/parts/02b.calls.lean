/-! 02b: contracts over cells by numbers, entry, returns, calls -/
def xg_P (z : Prop) (G : xg_G) (O : Heap) (n : Nat) (w : Nat → va_E) (as : List Value) : Array Value → State → Prop := fun v U => v = as.toArray ∧ xg_hp G O w n U.heap ∧ (z → U.heap.size = O.size + n) ∧ xg_K G U
def xg_Qc (z : Prop) (G : xg_G) (O : Heap) (n' : Nat) (post : Option Value → (Nat → va_E) → Prop) : Array Value → State → Outcome → State → Prop := fun _ _ o t => ∃ (r : Option Value) (w' : Nat → va_E), o = .returned r ∧ post r w' ∧ xg_hp G O w' n' t.heap ∧ (z → t.heap.size = O.size + n')
/-- a contract: from the cells w the method comes to its end with an answer and cells of which post is said -/
def xg_M (z : Prop) (l : Launch) (y : MethodName) (cb : ByteArray) (ml : Nat) (ret : Option FieldType) (rm : Room) (G : xg_G) (O : Heap) (n : Nat) (w : Nat → va_E) (as : List Value) (n' mc ms : Nat) (post : Option Value → (Nat → va_E) → Prop) : Prop :=
  Met l y (Cond.code y cb ml ret :: xw_T) rm (xg_P z G O n w as) (xg_Qc z G O n' post) mc ms (fun q => O.size ≤ q)
theorem xg_P.blind {z : Prop} {G : xg_G} {O : Heap} {n : Nat} {w : Nat → va_E} {as : List Value} : FrameBlind (xg_P z G O n w as) := fun _ _ _ _ h => ⟨h.1, h.2.1, h.2.2.1, h.2.2.2.calling⟩
theorem xg_enter {z : Prop} {l : Launch} {y : MethodName} {cb : ByteArray} {ml : Nat} {ret : Option FieldType} {rm : Room} {G : xg_G} {O : Heap} {n : Nat} {w : Nat → va_E} {as : List Value} {n' mc ms : Nat} {post : Option Value → (Nat → va_E) → Prop} (hy : plainName y.cls = true) (k : Nat) (hc : as.all (fun v => v.category == 1) = true) (hk : as.length + k = ml)
    (body : ∀ (p : Program) (e : Env) (s : State) (m : MethodId) (args : Array Value) (below : List Frame) (meth : Method) (c : Code), xg_X p m c cb ml s args y.cls G → meth.sig.returnType = ret → meth.locks = false → meth.name = y.name →
      gv z p l e rm s m args below meth c ml G O 0 0 (MQ below (xg_Qc z G O n' post) args s mc ms (fun q => O.size ≤ q)) n w (as.map some ++ List.replicate k none) 0 []) : xg_M z l y cb ml ret rm G O n w as n' mc ms post := by
  refine Met.ofW (cc := cb) (maxL := ml) (ret := ret) hy rfl ?_
  intro p e s m args below meth c s₁ B hml hv
  obtain ⟨rfl, hh, hz, hK⟩ := hv
  obtain ⟨ls, he, hl⟩ := xl_entry as k (fun v hv => by have := List.all_eq_true.mp hc v hv; simpa using this) hk
  rw [he]
  have hts := atoms_spec (ws := Cond.code y cb ml ret :: xw_T) B.pre
  exact body p e s m _ below meth c ⟨⟨B.exec, B.bytes, hml, findClass_of_methodNamed B.named, fun w hw => hts w (List.mem_cons_of_mem _ hw)⟩, hK⟩ B.returns B.notSynchronized (name_of_methodNamed B.named B.method).1 s.heap ls [] hl hh hz (fun q h => by cases h)
theorem xw_goodL {ws : List Cond} (h : ∀ w ∈ ws, w ∈ xw_T) : GoodIn xw_T ws := fun w hw => ⟨h w hw, good_of_word (List.mem_filter.mp (h w hw)).2⟩
/-- what a call's link rests on, by its kind -/
def xc_D (y : MethodName) (na : Nat) : Prop := y.cls ≠ "java/lang/invoke/MethodHandle" ∧ y.cls ≠ "java/lang/invoke/VarHandle" ∧ (parseMethodDescriptor y.desc).map (fun d => d.parameters.length) = some na
def xc_V (own : String) (index : Nat) (C : String) (y : MethodName) (cb : ByteArray) (ml : Nat) (ret : Option FieldType) (na : Nat) : Prop := Cond.methodLink own index y ∈ xw_T ∧ Cond.instanceMethod y ∈ xw_T ∧ Cond.selects C y y ∈ xw_T ∧ Cond.initialized C ∈ xw_T ∧ Cond.code y cb ml ret ∈ xw_T ∧ y.cls = C ∧ xc_D y na
def xc_S (own : String) (index : Nat) (y : MethodName) (cb : ByteArray) (ml : Nat) (ret : Option FieldType) (na : Nat) : Prop := Cond.methodLink own index y ∈ xw_T ∧ Cond.static y ∈ xw_T ∧ Cond.initialized y.cls ∈ xw_T ∧ Cond.code y cb ml ret ∈ xw_T ∧ xc_D y na
def xc_SN (own : String) (index : Nat) (y : MethodName) (cb : ByteArray) (ml : Nat) (ret : Option FieldType) (na : Nat) : Prop := (own, index, y) ∈ xg_nest ∧ Cond.static y ∈ xw_T ∧ Cond.initialized y.cls ∈ xw_T ∧ Cond.code y cb ml ret ∈ xw_T ∧ xc_D y na
def xc_I (own : String) (index : Nat) (y : MethodName) (cb : ByteArray) (ml : Nat) (na : Nat) : Prop := Cond.methodLink own index y ∈ xw_T ∧ Cond.instanceMethod y ∈ xw_T ∧ Cond.initialized y.cls ∈ xw_T ∧ Cond.code y cb ml none ∈ xw_T ∧ y.name = "<init>" ∧ xc_D y na
def xc_IN (own : String) (index : Nat) (y : MethodName) (cb : ByteArray) (ml : Nat) (na : Nat) : Prop := (own, index, y) ∈ xg_nest ∧ Cond.instanceMethod y ∈ xw_T ∧ Cond.initialized y.cls ∈ xw_T ∧ Cond.code y cb ml none ∈ xw_T ∧ y.name = "<init>" ∧ xc_D y na
/-- the callee's room within the caller's -/
def xr_ok (rm R : Room) (ml mc ms cells slots : Nat) : Bool := rm.cells == mc && rm.slots == ms && decide (rm.frames + 1 ≤ R.frames) && decide (8 + (ml + 11) + rm.locals ≤ R.locals) && decide (cells + mc ≤ R.cells) && decide (slots + ms ≤ R.slots)
theorem xr_of {rm R : Room} {ml mc ms cells slots : Nat} (h : xr_ok rm R ml mc ms cells slots = true) : (rm.cells = mc ∧ rm.slots = ms) ∧ (rm.frames + 1 ≤ R.frames ∧ 8 + (ml + 11) + rm.locals ≤ R.locals) ∧ (cells + mc ≤ R.cells ∧ slots + ms ≤ R.slots) := by
  simp only [xr_ok, Bool.and_eq_true, beq_iff_eq, decide_eq_true_eq] at h
  omega
section XC
variable {z : Prop} {p : Program} {l : Launch} {e : Env} {R : Room} {s : State} {m : MethodId} {args : Array Value} {below : List Frame} {meth : Method} {c : Code} {nL : Nat} {G : xg_G} {O : Heap} {cells slots : Nat} {Q : State → Prop} {n : Nat} {w : Nat → va_E} {L : List (Option Value)} {pc : Nat} {rest : List Value} {cc : ByteArray} {own : String}
variable {y : MethodName} {cb : ByteArray} {ml : Nat} {ret : Option FieldType} {rm : Room} {as : List Value} {n' mc ms na index : Nat} {post : Option Value → (Nat → va_E) → Prop} {st : List Value}
theorem g_iret (X : xg_X p m c cc nL s args own G) (hr : meth.sig.returnType = some .int) (hk : meth.locks = false) {v : Int32} (hd : decode cc pc = .ok (.ireturn, 1)) (hp : post (some (.int v)) w) : gv z p l e R s m args below meth c nL G O cells slots (MQ below (xg_Qc z G O n post) args s cells slots (fun q => O.size ≤ q)) n w L pc [.int v] :=
  fun H ls locs hl hh hz hq => W.iret (v := v) X.1.1 X.1.2.1 hr (fun t ht _ => ⟨some (.int v), w, rfl, hp, by rw [ht]; exact hh, fun h => by rw [ht]; exact hz h⟩) hq hd (hlocks := hk)
theorem g_zret (X : xg_X p m c cc nL s args own G) (hr : meth.sig.returnType = some .boolean) (hk : meth.locks = false) {v : Int32} (hd : decode cc pc = .ok (.ireturn, 1)) (hv : v = 0 ∨ v = 1) (hp : post (some (.int v)) w) : gv z p l e R s m args below meth c nL G O cells slots (MQ below (xg_Qc z G O n post) args s cells slots (fun q => O.size ≤ q)) n w L pc [.int v] :=
  fun H ls locs hl hh hz hq => W.zret (v := v) X.1.1 X.1.2.1 hr (by rcases hv with rfl | rfl <;> rfl) (fun t ht _ => ⟨some (.int v), w, rfl, hp, by rw [ht]; exact hh, fun h => by rw [ht]; exact hz h⟩) hq hd (hlocks := hk)
theorem g_vret (X : xg_X p m c cc nL s args own G) (hr : meth.sig.returnType = none) (hk : meth.locks = false) (hd : decode cc pc = .ok (.return_, 1)) (hp : post none w) : gv z p l e R s m args below meth c nL G O cells slots (MQ below (xg_Qc z G O n post) args s cells slots (fun q => O.size ≤ q)) n w L pc [] :=
  fun H ls locs hl hh hz hq => W.vret X.1.1 X.1.2.1 hr (fun t ht _ => ⟨none, w, rfl, hp, by rw [ht]; exact hh, fun h => by rw [ht]; exact hz h⟩) hq hd (hlocks := hk)
theorem g_aret (X : xg_X p m c cc nL s args own G) {rt : FieldType} (hr : meth.sig.returnType = some rt) (hrt : (∃ n, rt = .object n) ∨ ∃ t, rt = .array t) (hk : meth.locks = false) {a : Nat} (hd : decode cc pc = .ok (.areturn, 1)) (hp : post (some (.ref a)) w) : gv z p l e R s m args below meth c nL G O cells slots (MQ below (xg_Qc z G O n post) args s cells slots (fun q => O.size ≤ q)) n w L pc [.ref a] :=
  fun H ls locs hl hh hz hq => W.aret (v := .ref a) X.1.1 X.1.2.1 hr hrt (Or.inr ⟨a, rfl⟩) (fun t ht _ => ⟨some (.ref a), w, rfl, hp, by rw [ht]; exact hh, fun h => by rw [ht]; exact hz h⟩) hq hd (hlocks := hk)
theorem g_widen {k k2 : Nat} (h1 : cells ≤ k) (h2 : slots ≤ k2) (kk : gv z p l e R s m args below meth c nL G O k k2 Q n w L pc st) : gv z p l e R s m args below meth c nL G O cells slots Q n w L pc st :=
  fun H ls locs hl hh hz hq => W.widen h1 h2 (kk H ls locs hl hh hz hq)
/-- behind a call -/
theorem g_run {H : Heap} {ls : Array Slot} {locs : List Loc} {a : Array Value} (hl : xl_has ls nL L) (hq : ∀ q ∈ locs, O.size ≤ q.base) (hr : va_Run p l e R s m args below meth c H locs cells slots mc ms (F0 m pc ls st) rest (xg_Qc z G O n' post a) (fun q => O.size ≤ q))
    (kk : ∀ (r : Option Value) (w' : Nat → va_E), post r w' → gv z p l e R s m args below meth c nL G O (cells + mc) (slots + ms) Q n' w' L (pc + 3) (r.toList ++ rest)) : W p l e R s m args below meth c H locs cells slots Q (F0 m pc ls st) := by
  intro T hT X
  obtain ⟨v, st₀, t, T', Lc, h0, X', hL, e1, e2, ⟨r, w', hv, hp, hh, hz⟩, stp⟩ := hr T hT X
  cases hv
  obtain ⟨t2, a1, b1⟩ := kk v w' hp T'.heap ls (locs ++ Lc) hl (by rw [e1]; exact hh) (fun h => by rw [e1]; exact hz h) (fun q hq1 => by
    rcases List.mem_append.mp hq1 with h | h
    · exact hq q h
    · exact hL q h) T' rfl X'
  exact ⟨t2, stp t2 a1, b1⟩
theorem g_callV (X : xg_X p m c cc nL s args own G) {C : String} {T : u_T} {N k ci : Nat} {fs : List Value} (cv : xc_V own index C y cb ml ret na) (hM : xg_M z l y cb ml ret rm G O n w (.ref (O.size + k) :: as) n' mc ms post) (hd : decode cc pc = .ok (.invokevirtual index, 3)) (hk : k < n) (hw : w k = .inr (ci, fs)) (hc : vwCl[ci]? = some (C, T, N)) (hst : st = as.reverse ++ .ref (O.size + k) :: rest) (hna : as.length = na) (hR : xr_ok rm R ml mc ms cells slots = true) (hrs : (rest.map fun v => v.category).sum ≤ 8)
    (kk : ∀ (r : Option Value) (w' : Nat → va_E), post r w' → gv z p l e R s m args below meth c nL G O (cells + mc) (slots + ms) Q n' w' L (pc + 3) (r.toList ++ rest)) : gv z p l e R s m args below meth c nL G O cells slots Q n w L pc st := by
  intro H ls locs hl hh hz hq
  obtain ⟨hr1, hr2, hr3⟩ := xr_of hR
  obtain ⟨v1, v2, v3, v4, v5, v6, v7⟩ := cv
  have hrec : ∃ cell : Cell, H[O.size + k]? = some cell ∧ cell.vm.isStatics = false ∧ s.vm.findClass C = some cell.cls := va_recv (ci := ci) (q := (C, T, N)) (fs := fs) X.2.1 (hh.one hk) hc (q0 := 0) (by rw [hw]; rfl)
  refine g_run hl hq (va_runV (As := as) (C := C) (b := O.size + k) X.1 hM (cwV na X.1.2.2.2.2 (xw_goodL ?_) rfl hr1.1 hr1.2 ⟨v6, v7⟩ hr2) ⟨xg_P.blind, hrec, fun U hU hW => ⟨rfl, by rw [hU]; exact hh, fun h => by rw [hU]; exact hz h, X.2.warm hW⟩⟩ rfl hna hl.1 hst (lv_room hrs) hd hr3) kk
  intro w hw
  simp only [wsV, List.mem_append, List.mem_cons, List.not_mem_nil, or_false] at hw
  rcases hw with (rfl | rfl | rfl | rfl) | rfl | hw
  · exact v1
  · exact v2
  · exact v3
  · exact v4
  · exact v5
  · exact hw
theorem g_callS (X : xg_X p m c cc nL s args own G) (cv : xc_S own index y cb ml ret na) (hM : xg_M z l y cb ml ret rm G O n w as n' mc ms post) (hd : decode cc pc = .ok (.invokestatic index, 3)) (hst : st = as.reverse ++ rest) (hna : as.length = na) (hR : xr_ok rm R ml mc ms cells slots = true) (hrs : (rest.map fun v => v.category).sum ≤ 8)
    (kk : ∀ (r : Option Value) (w' : Nat → va_E), post r w' → gv z p l e R s m args below meth c nL G O (cells + mc) (slots + ms) Q n' w' L (pc + 3) (r.toList ++ rest)) : gv z p l e R s m args below meth c nL G O cells slots Q n w L pc st := by
  intro H ls locs hl hh hz hq
  obtain ⟨hr1, hr2, hr3⟩ := xr_of hR
  obtain ⟨v1, v2, v3, v4, v5⟩ := cv
  have ht := X.1.2.2.2.2
  exact g_run hl hq (va_runS (As := as) X.1 hM ⟨callB_of na ht (xw_goodT v4) rfl hr1.1 hr1.2 (ht _ v3) (ht _ v1) v5 hr2, ht _ v2⟩ ⟨xg_P.blind, fun U hU hW => ⟨rfl, by rw [hU]; exact hh, fun h => by rw [hU]; exact hz h, X.2.warm hW⟩⟩ rfl hna hl.1 hst (lv_room hrs) hd hr3) kk
theorem g_callSN (X : xg_X p m c cc nL s args own G) (cv : xc_SN own index y cb ml ret na) (hM : xg_M z l y cb ml ret rm G O n w as n' mc ms post) (hd : decode cc pc = .ok (.invokestatic index, 3)) (hst : st = as.reverse ++ rest) (hna : as.length = na) (hR : xr_ok rm R ml mc ms cells slots = true) (hrs : (rest.map fun v => v.category).sum ≤ 8)
    (kk : ∀ (r : Option Value) (w' : Nat → va_E), post r w' → gv z p l e R s m args below meth c nL G O (cells + mc) (slots + ms) Q n' w' L (pc + 3) (r.toList ++ rest)) : gv z p l e R s m args below meth c nL G O cells slots Q n w L pc st := by
  intro H ls locs hl hh hz hq
  obtain ⟨hr1, hr2, hr3⟩ := xr_of hR
  obtain ⟨v1, v2, v3, v4, v5⟩ := cv
  have ht := X.1.2.2.2.2
  exact g_run hl hq (va_runSN (As := as) X.1 hM ⟨va_cnB na ht (xw_goodT v4) rfl hr1.1 hr1.2 (X.2.2.1 _ v1) (ht _ v3) v5 hr2, ht _ v2, trivial⟩ ⟨xg_P.blind, fun U hU hW => ⟨rfl, by rw [hU]; exact hh, fun h => by rw [hU]; exact hz h, X.2.warm hW⟩⟩ rfl hna hl.1 hst (lv_room hrs) hd hr3) kk
theorem g_callI (X : xg_X p m c cc nL s args own G) {a : Nat} (cv : xc_I own index y cb ml na) (hM : xg_M z l y cb ml none rm G O n w (.ref a :: as) n' mc ms post) (hd : decode cc pc = .ok (.invokespecial index, 3)) (hst : st = as.reverse ++ .ref a :: rest) (hna : as.length = na) (hR : xr_ok rm R ml mc ms cells slots = true) (hrs : (rest.map fun v => v.category).sum ≤ 8)
    (kk : ∀ (r : Option Value) (w' : Nat → va_E), post r w' → gv z p l e R s m args below meth c nL G O (cells + mc) (slots + ms) Q n' w' L (pc + 3) (r.toList ++ rest)) : gv z p l e R s m args below meth c nL G O cells slots Q n w L pc st := by
  intro H ls locs hl hh hz hq
  obtain ⟨hr1, hr2, hr3⟩ := xr_of hR
  obtain ⟨v1, v2, v3, v4, v5, v6⟩ := cv
  have ht := X.1.2.2.2.2
  exact g_run hl hq (va_runI (As := as) (b := a) X.1 hM ⟨callB_of na ht (xw_goodT v4) rfl hr1.1 hr1.2 (ht _ v3) (ht _ v1) v6 hr2, v5, ht _ v2⟩ ⟨xg_P.blind, fun U hU hW => ⟨rfl, by rw [hU]; exact hh, fun h => by rw [hU]; exact hz h, X.2.warm hW⟩⟩ rfl hna hl.1 hst (lv_room hrs) hd hr3) kk
theorem g_callIN (X : xg_X p m c cc nL s args own G) {a : Nat} (cv : xc_IN own index y cb ml na) (hM : xg_M z l y cb ml none rm G O n w (.ref a :: as) n' mc ms post) (hd : decode cc pc = .ok (.invokespecial index, 3)) (hst : st = as.reverse ++ .ref a :: rest) (hna : as.length = na) (hR : xr_ok rm R ml mc ms cells slots = true) (hrs : (rest.map fun v => v.category).sum ≤ 8)
    (kk : ∀ (r : Option Value) (w' : Nat → va_E), post r w' → gv z p l e R s m args below meth c nL G O (cells + mc) (slots + ms) Q n' w' L (pc + 3) (r.toList ++ rest)) : gv z p l e R s m args below meth c nL G O cells slots Q n w L pc st := by
  intro H ls locs hl hh hz hq
  obtain ⟨hr1, hr2, hr3⟩ := xr_of hR
  obtain ⟨v1, v2, v3, v4, v5, v6⟩ := cv
  have ht := X.1.2.2.2.2
  exact g_run hl hq (va_runIN (As := as) (b := a) X.1 hM ⟨va_cnB na ht (xw_goodT v4) rfl hr1.1 hr1.2 (X.2.2.1 _ v1) (ht _ v3) v6 hr2, v5, ht _ v2⟩ ⟨xg_P.blind, fun U hU hW => ⟨rfl, by rw [hU]; exact hh, fun h => by rw [hU]; exact hz h, X.2.warm hW⟩⟩ rfl hna hl.1 hst (lv_room hrs) hd hr3) kk
theorem g_objInit (X : xg_X p m c cc nL s args own G) {a : Nat} (hd : decode cc pc = .ok (.invokespecial index, 3)) (h1 : Cond.methodLink own index objectInit ∈ xw_T) (h2 : Cond.instanceMethod objectInit ∈ xw_T) (h3 : Cond.code objectInit ⟨#[0xb1]⟩ 1 none ∈ xw_T) (hf : 1 ≤ R.frames) (hrs : (rest.map fun v => v.category).sum + 12 ≤ R.locals) (kk : gv z p l e R s m args below meth c nL G O cells slots Q n w L (pc + 3) rest) : gv z p l e R s m args below meth c nL G O cells slots Q n w L pc (.ref a :: rest) := by
  intro H ls locs hl hh hz hq
  have ht := X.1.2.2.2.2
  exact W.objInit X.1.1 X.1.2.1 X.1.2.2.2.1 (ht _ h1) (ht _ h2) (ht _ h3) rfl (by rw [X.1.2.2.1]; exact hl.1) (rest := rest) rfl hd hf (by show 2 * 0 + _ + 12 ≤ _; omega) (kk H ls locs hl hh hz hq)
theorem g_max (X : xg_X p m c cc nL s args own G) {x y : Int32} (hd : decode cc pc = .ok (.invokestatic index, 3)) (h1 : Cond.methodLink own index Lib.Math.max.name ∈ xw_T) (h2 : Cond.static Lib.Math.max.name ∈ xw_T) (h3 : Cond.initialized "java/lang/Math" ∈ xw_T) (h4 : Cond.code Lib.Math.max.name Lib.Math.max.code 2 (some .int) ∈ xw_T) (hf : 1 ≤ R.frames) (hrs : (rest.map fun v => v.category).sum + 13 ≤ R.locals) (hc : cells ≤ R.cells) (hs : slots ≤ R.slots) (kk : gv z p l e R s m args below meth c nL G O cells slots Q n w L (pc + 3) (.int (if x < y then y else x) :: rest)) : gv z p l e R s m args below meth c nL G O cells slots Q n w L pc (.int y :: .int x :: rest) := by
  intro H ls locs hl hh hz hq
  have ht := X.1.2.2.2.2
  exact va_mmax X.1.1 X.1.2.1 (by rw [X.1.2.2.1, hl.1]) X.1.2.2.2.1 (ht _ h1) (ht _ h2) (ht _ h3) (ht _ h4) hf hrs hc hs hd (kk H ls locs hl hh hz hq)
theorem g_min (X : xg_X p m c cc nL s args own G) {x y : Int32} (hd : decode cc pc = .ok (.invokestatic index, 3)) (h1 : Cond.methodLink own index Lib.Math.min.name ∈ xw_T) (h2 : Cond.static Lib.Math.min.name ∈ xw_T) (h3 : Cond.initialized "java/lang/Math" ∈ xw_T) (h4 : Cond.code Lib.Math.min.name Lib.Math.min.code 2 (some .int) ∈ xw_T) (hf : 1 ≤ R.frames) (hrs : (rest.map fun v => v.category).sum + 13 ≤ R.locals) (hc : cells ≤ R.cells) (hs : slots ≤ R.slots) (kk : gv z p l e R s m args below meth c nL G O cells slots Q n w L (pc + 3) (.int (if y < x then y else x) :: rest)) : gv z p l e R s m args below meth c nL G O cells slots Q n w L pc (.int y :: .int x :: rest) := by
  intro H ls locs hl hh hz hq
  have ht := X.1.2.2.2.2
  exact va_mmin X.1.1 X.1.2.1 (by rw [X.1.2.2.1, hl.1]) X.1.2.2.2.1 (ht _ h1) (ht _ h2) (ht _ h3) (ht _ h4) hf hrs hc hs hd (kk H ls locs hl hh hz hq)
end XC
