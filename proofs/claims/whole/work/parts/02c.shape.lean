/-! 02c: the shape of the cells once both objects are made: kinds, lengths, fixed references; the ints are t k j -/
def xs_KD : List Nat := [8, 6, 10, 5, 7, 10, 2, 12, 1, 10, 1, 10, 1, 10, 1, 10, 1, 10, 1, 10, 1, 10, 1, 10, 3, 11, 10, 10, 10, 10, 10, 10, 10, 10, 10, 10, 10, 10, 10, 10, 10, 10, 10, 4, 11, 10, 10, 10, 10, 10, 10, 10, 10, 10, 10, 0, 13, 10, 10, 11, 10, 10, 10, 10, 10, 10, 10, 10, 3, 3, 3, 3, 3, 3, 3, 3, 9, 10, 10, 10, 10, 10, 10, 10, 10, 10, 10, 10, 10, 10, 10, 10, 14, 10]
def xs_LN : List Nat := [0, 0, 400, 0, 0, 160, 0, 8, 0, 16, 0, 16, 0, 16, 0, 16, 0, 16, 0, 16, 0, 16, 0, 16, 0, 16, 129, 129, 129, 129, 129, 129, 129, 129, 129, 129, 129, 129, 129, 129, 129, 129, 129, 0, 8, 8, 8, 8, 8, 8, 8, 8, 8, 256, 256, 0, 8, 8, 8, 8, 16, 16, 16, 16, 16, 16, 16, 16, 0, 0, 0, 0, 0, 0, 0, 0, 0, 400, 320, 8, 8, 8, 128, 256, 64, 8, 8, 8, 8, 8, 128, 128, 8, 8]
def xs_SR : List (List Nat) := [[1, 3, 4, 6, 43, 55], [2], [], [4, 6, 24, 25, 42], [5], [], [7], [8, 10, 12, 14, 16, 18, 20, 22], [0, 0, 0, 9], [], [0, 0, 0, 11], [], [0, 0, 0, 13], [], [0, 0, 0, 15], [], [0, 0, 0, 17], [], [0, 0, 0, 19], [], [0, 0, 0, 21], [], [0, 0, 0, 23], [], [], [26, 27, 28, 29, 30, 31, 32, 33, 34, 35, 36, 37, 38, 39, 40, 41], [], [], [], [], [], [], [], [], [], [], [], [], [], [], [], [], [], [44, 53, 54], [45, 46, 47, 48, 49, 50, 51, 52], [], [], [], [], [], [], [], [], [], [], [56, 57, 58, 59], [68, 69, 70, 71, 72, 73, 74, 75], [], [], [60, 61, 62, 63, 64, 65, 66, 67], [], [], [], [], [], [], [], [], [], [], [], [], [], [], [], [], [0, 77, 0, 78, 0, 0, 0, 0, 79, 80, 81, 82, 0, 0, 0, 0, 0, 0, 83, 84, 0, 0, 85, 86, 87, 88, 89, 0, 90, 91, 92, 93], [], [], [], [], [], [], [], [], [], [], [], [], [], [], [], [], []]
def xs_NF : List Nat := [5, 4, 2, 7, 4, 5, 2, 4, 8, 32]
def xs_RF : List (List Bool) := [[true, true, true, true, false], [false, false, false, true], [true, false], [false, false, false, false, false, false, false], [true, true, true, false], [true, true, true, true, true], [true, false], [true, false, false, false], [true, true, true, true, true, true, false, false], [false, true, false, true, false, false, false, false, true, true, true, true, false, false, false, false, false, false, true, true, false, false, true, true, true, true, true, false, true, true, true, true]]
def kd (k : Nat) : Nat := xs_KD.getD k 99
def ln (k : Nat) : Nat := xs_LN.getD k 0
def sr (k j : Nat) : Nat := (xs_SR.getD k []).getD j 0
def nf (c : Nat) : Nat := xs_NF.getD c 0
def isr (c j : Nat) : Bool := (xs_RF.getD c []).getD j false
theorem kd_lt {k c : Nat} (h : kd k = c) (hc : c < 99) : k < 94 := by
  rcases Nat.lt_or_ge k 94 with q | q
  · exact q
  · have : kd k = 99 := by unfold kd; rw [List.getD_eq_getElem?_getD, List.getElem?_eq_none (by show 94 ≤ k; exact q)]; rfl
    omega
theorem kd_half : ∀ h, h < 8 → kd (8 + 2 * h) = 1 ∧ sr 7 h = 8 + 2 * h ∧ sr (8 + 2 * h) 3 = 9 + 2 * h ∧ kd (9 + 2 * h) = 10 ∧ ln (9 + 2 * h) = 16 := by decide
theorem kd_row : ∀ r, r < 16 → sr 25 r = 26 + r ∧ kd (26 + r) = 10 ∧ ln (26 + r) = 129 := by decide
theorem kd_cost : ∀ a, a < 8 → sr 44 a = 45 + a ∧ kd (45 + a) = 10 ∧ ln (45 + a) = 8 := by decide
theorem kd_leaf : ∀ k, k < 8 → sr 56 k = 68 + k ∧ kd (68 + k) = 3 := by decide
theorem kd_was : ∀ h, h < 8 → sr 59 h = 60 + h ∧ kd (60 + h) = 10 ∧ ln (60 + h) = 16 := by decide
/-- the ints of the state, by cell and place -/
abbrev xT : Type := Nat → Nat → Int32
def xt (t : xT) (k j : Nat) (v : Int32) : xT := fun a b => if a = k ∧ b = j then v else t a b
def xd_f (O : Heap) (t : xT) (k c : Nat) : List Value := (List.range (nf c)).map (fun j => if isr c j = true then Value.ref (O.size + sr k j) else .int (t k j))
def xd (G : xg_G) (O : Heap) (t : xT) (k : Nat) : va_E :=
  if kd k < 10 then .inr (kd k, xd_f O t k (kd k)) else if kd k = 10 then .inl (G.2 0, ln k, .inl (t k)) else if kd k = 14 then .inl (G.2 4, ln k, .inl (t k))
  else .inl (G.2 (kd k - 10), ln k, .inr (.inr (.inr (.inr (fun j => if j < ln k then some (O.size + sr k j) else none)))))
theorem xd_obj {G : xg_G} {O : Heap} {t : xT} {k c : Nat} (hk : kd k = c) (hc : c < 10) : xd G O t k = .inr (c, xd_f O t k c) := by
  unfold xd; rw [hk, if_pos hc]
theorem xd_ints {G : xg_G} {O : Heap} {t : xT} {k : Nat} (hk : kd k = 10) : xd G O t k = .inl (G.2 0, ln k, .inl (t k)) := by
  unfold xd; rw [hk, if_neg (by decide), if_pos rfl]
theorem xd_bits {G : xg_G} {O : Heap} {t : xT} {k : Nat} (hk : kd k = 14) : xd G O t k = .inl (G.2 4, ln k, .inl (t k)) := by
  unfold xd; rw [hk, if_neg (by decide), if_neg (by decide), if_pos rfl]
theorem xd_refs {G : xg_G} {O : Heap} {t : xT} {k c : Nat} (hk : kd k = c) (h1 : 10 < c) (h2 : c < 14) : xd G O t k = .inl (G.2 (c - 10), ln k, .inr (.inr (.inr (.inr (fun j => if j < ln k then some (O.size + sr k j) else none))))) := by
  unfold xd; rw [hk, if_neg (by omega), if_neg (by omega), if_neg (by omega)]
theorem xd_f_at {O : Heap} {t : xT} {k c j : Nat} (hj : j < nf c) : (xd_f O t k c)[j]? = some (if isr c j = true then .ref (O.size + sr k j) else .int (t k j)) := by
  unfold xd_f; rw [List.getElem?_map, List.getElem?_range hj]; rfl
theorem xd_f_len {O : Heap} {t : xT} {k c : Nat} : (xd_f O t k c).length = nf c := by simp [xd_f]
theorem xt_same (t : xT) (k j : Nat) (v : Int32) : xt t k j v k j = v := by simp [xt]
theorem xt_ne (t : xT) {k j a b : Nat} (v : Int32) (h : a ≠ k ∨ b ≠ j) : xt t k j v a b = t a b := by
  unfold xt; rw [if_neg]; intro q; rcases h with h | h
  · exact h q.1
  · exact h q.2
theorem xd_other {G : xg_G} {O : Heap} {t : xT} {k j a : Nat} {v : Int32} (h : a ≠ k) : xd G O (xt t k j v) a = xd G O t a := by
  have e : xt t k j v a = t a := funext fun b => xt_ne t v (Or.inl h)
  unfold xd xd_f; rw [e]
theorem xd_put {G : xg_G} {O : Heap} {t : xT} {k c j : Nat} {v : Int32} (hk : kd k = c) (hc : c < 10) (hr : isr c j = false) : xg_up (xd G O t) k (.inr (c, (xd_f O t k c).set j (.int v))) = xd G O (xt t k j v) := by
  funext a
  unfold xg_up
  by_cases h : a = k
  · subst h
    rw [if_pos rfl, xd_obj hk hc]
    congr 2
    apply List.ext_getElem?
    intro i
    by_cases hi : i < nf c
    · rw [xd_f_at hi]
      by_cases hij : i = j
      · subst hij
        rw [List.getElem?_set_self (by rw [xd_f_len]; exact hi), hr, xt_same]; simp
      · rw [List.getElem?_set_ne (Ne.symm hij), xd_f_at hi, xt_ne t v (Or.inr hij)]
    · rw [List.getElem?_eq_none (by rw [List.length_set, xd_f_len]; omega), List.getElem?_eq_none (by rw [xd_f_len]; omega)]
  · rw [if_neg h, xd_other h]
theorem xd_ast {G : xg_G} {O : Heap} {t : xT} {k j : Nat} {v : Int32} (hk : kd k = 10) : xg_up (xd G O t) k (.inl (G.2 0, ln k, .inl (upd (t k) j v))) = xd G O (xt t k j v) := by
  funext a
  unfold xg_up
  by_cases h : a = k
  · subst h
    rw [if_pos rfl, xd_ints hk]
    have e : upd (t a) j v = xt t a j v a := by funext b; unfold upd xt; simp
    rw [e]
  · rw [if_neg h, xd_other h]
theorem xd_zst {G : xg_G} {O : Heap} {t : xT} {k j : Nat} {v : Int32} (hk : kd k = 14) : xg_up (xd G O t) k (.inl (G.2 4, ln k, .inl (upd (t k) j v))) = xd G O (xt t k j v) := by
  funext a
  unfold xg_up
  by_cases h : a = k
  · subst h
    rw [if_pos rfl, xd_bits hk]
    have e : upd (t a) j v = xt t a j v a := by funext b; unfold upd xt; simp
    rw [e]
  · rw [if_neg h, xd_other h]
/-- the walk over the made cells, which hold the ints t -/
abbrev gm (p : Program) (l : Launch) (e : Env) (R : Room) (s : State) (m : MethodId) (args : Array Value) (below : List Frame) (meth : Method) (c : Code) (nL : Nat) (G : xg_G) (O : Heap) (Q : State → Prop) (t : xT) (L : List (Option Value)) (pc : Nat) (st : List Value) : Prop :=
  gv False p l e R s m args below meth c nL G O 0 0 Q 94 (xd G O t) L pc st
/-- a contract over the made cells -/
def xm (l : Launch) (y : MethodName) (cb : ByteArray) (ml : Nat) (ret : Option FieldType) (rm : Room) (G : xg_G) (O : Heap) (t : xT) (as : List Value) (post : Option Value → xT → Prop) : Prop :=
  xg_M False l y cb ml ret rm G O 94 (xd G O t) as 94 0 0 (fun r w' => ∃ t' : xT, w' = xd G O t' ∧ post r t')
def xi (P : Int32 → xT → Prop) : Option Value → xT → Prop := fun r t => ∃ v : Int32, r = some (.int v) ∧ P v t
def xv (P : xT → Prop) : Option Value → xT → Prop := fun r t => r = none ∧ P t
def xa (O : Heap) (P : Nat → xT → Prop) : Option Value → xT → Prop := fun r t => ∃ k : Nat, r = some (.ref (O.size + k)) ∧ P k t
/-- where a method over the made cells ends -/
abbrev xmQ (below : List Frame) (G : xg_G) (O : Heap) (post : Option Value → xT → Prop) (args : Array Value) (s : State) : State → Prop := MQ below (xg_Qc False G O 94 (fun r w' => ∃ t' : xT, w' = xd G O t' ∧ post r t')) args s 0 0 (fun q => O.size ≤ q)
section XM
variable {p : Program} {l : Launch} {e : Env} {R : Room} {s : State} {m : MethodId} {args : Array Value} {below : List Frame} {meth : Method} {c : Code} {nL : Nat} {G : xg_G} {O : Heap} {Q : State → Prop} {t : xT} {L : List (Option Value)} {pc : Nat} {rest : List Value} {cc : ByteArray} {own : String}
variable {y : MethodName} {cb : ByteArray} {ml : Nat} {ret : Option FieldType} {rm : Room} {as : List Value} {na index : Nat} {post : Option Value → xT → Prop} {st : List Value}
theorem xm_enter (hy : plainName y.cls = true) (k : Nat) (hc : as.all (fun v => v.category == 1) = true) (hk : as.length + k = ml)
    (body : ∀ (p : Program) (e : Env) (s : State) (m : MethodId) (args : Array Value) (below : List Frame) (meth : Method) (c : Code), xg_X p m c cb ml s args y.cls G → meth.sig.returnType = ret → meth.locks = false → gm p l e rm s m args below meth c ml G O (xmQ below G O post args s) t (as.map some ++ List.replicate k none) 0 []) : xm l y cb ml ret rm G O t as post :=
  xg_enter hy k hc hk (fun p e s m args below meth c X hr hk _ => body p e s m args below meth c X hr hk)
theorem gm_iret {P : Int32 → xT → Prop} (X : xg_X p m c cc nL s args own G) (hr : meth.sig.returnType = some .int) (hk : meth.locks = false) {v : Int32} (hd : decode cc pc = .ok (.ireturn, 1)) (hp : P v t) : gm p l e R s m args below meth c nL G O (xmQ below G O (xi P) args s) t L pc [.int v] :=
  g_iret X hr hk hd ⟨t, rfl, v, rfl, hp⟩
theorem gm_zret {P : Int32 → xT → Prop} (X : xg_X p m c cc nL s args own G) (hr : meth.sig.returnType = some .boolean) (hk : meth.locks = false) {v : Int32} (hd : decode cc pc = .ok (.ireturn, 1)) (hv : v = 0 ∨ v = 1) (hp : P v t) : gm p l e R s m args below meth c nL G O (xmQ below G O (xi P) args s) t L pc [.int v] :=
  g_zret X hr hk hd hv ⟨t, rfl, v, rfl, hp⟩
theorem gm_vret {P : xT → Prop} (X : xg_X p m c cc nL s args own G) (hr : meth.sig.returnType = none) (hk : meth.locks = false) (hd : decode cc pc = .ok (.return_, 1)) (hp : P t) : gm p l e R s m args below meth c nL G O (xmQ below G O (xv P) args s) t L pc [] :=
  g_vret X hr hk hd ⟨t, rfl, rfl, hp⟩
theorem gm_aret {P : Nat → xT → Prop} (X : xg_X p m c cc nL s args own G) {ty : FieldType} (hr : meth.sig.returnType = some (.array ty)) (hk : meth.locks = false) {k : Nat} (hd : decode cc pc = .ok (.areturn, 1)) (hp : P k t) : gm p l e R s m args below meth c nL G O (xmQ below G O (xa O P) args s) t L pc [.ref (O.size + k)] :=
  g_aret X hr (Or.inr ⟨ty, rfl⟩) hk hd ⟨t, rfl, k, rfl, hp⟩
theorem gm_getI (X : xg_X p m c cc nL s args own G) {k j : Nat} {C : String} {T : u_T} {N : Nat} (ci : Nat) (hd : decode cc pc = .ok (.getfield index, 3)) (hk : kd k = ci) (hc10 : ci < 10) (hc : vwCl[ci]? = some (C, T, N)) (hin : ∀ w ∈ u_ws C T N, w ∈ xw_T) (hj : j < N) (hN : nf ci = N) (fl : Cond.fieldLink own index (T j).1 (T j).2.1 (T j).2.2.1 ∈ xw_T) (hr : isr ci j = false) (kk : gm p l e R s m args below meth c nL G O Q t L (pc + 3) (.int (t k j) :: rest)) : gm p l e R s m args below meth c nL G O Q t L pc (.ref (O.size + k) :: rest) :=
  g_get X hd (kd_lt hk (by omega)) (xd_obj hk hc10) hc hin hj fl (by rw [xd_f_at (by rw [hN]; exact hj), hr]; rfl) kk
theorem gm_getR (X : xg_X p m c cc nL s args own G) {k j k' : Nat} {C : String} {T : u_T} {N : Nat} (ci : Nat) (hd : decode cc pc = .ok (.getfield index, 3)) (hk : kd k = ci) (hc10 : ci < 10) (hc : vwCl[ci]? = some (C, T, N)) (hin : ∀ w ∈ u_ws C T N, w ∈ xw_T) (hj : j < N) (hN : nf ci = N) (fl : Cond.fieldLink own index (T j).1 (T j).2.1 (T j).2.2.1 ∈ xw_T) (hr : isr ci j = true) (hs : sr k j = k') (kk : gm p l e R s m args below meth c nL G O Q t L (pc + 3) (.ref (O.size + k') :: rest)) : gm p l e R s m args below meth c nL G O Q t L pc (.ref (O.size + k) :: rest) :=
  g_get X hd (kd_lt hk (by omega)) (xd_obj hk hc10) hc hin hj fl (by rw [xd_f_at (by rw [hN]; exact hj), hr, hs]; rfl) kk
theorem gm_putI (X : xg_X p m c cc nL s args own G) {k j : Nat} {v : Int32} {C : String} {T : u_T} {N : Nat} (ci : Nat) (ty0 : Nat → FieldType) (hd : decode cc pc = .ok (.putfield index, 3)) (hk : kd k = ci) (hc10 : ci < 10) (hc : vwCl[ci]? = some (C, T, N)) (hin : ∀ w ∈ u_ws C T N, w ∈ xw_T) (hty : ∀ k, k < N → parseFieldDescriptor (T k).2.2.1 = some (ty0 k)) (hnm : ∀ a, a < N → ∀ b, b < N → a ≠ b → (T a).2.1 ≠ (T b).2.1) (hj : j < N) (hN : nf ci = N) (fl : Cond.fieldLink own index (T j).1 (T j).2.1 (T j).2.2.1 ∈ xw_T) (hf : (T j).2.2.2 = false) (hr : isr ci j = false) (hdn : ty0 j = .int ∨ (ty0 j = .boolean ∧ (v = 0 ∨ v = 1))) (kk : gm p l e R s m args below meth c nL G O Q (xt t k j v) L (pc + 3) rest) : gm p l e R s m args below meth c nL G O Q t L pc (.int v :: .ref (O.size + k) :: rest) := by
  have h1 : narrow (ty0 j) (.int v) = .int v := by
    rcases hdn with h | ⟨h, rfl | rfl⟩ <;> rw [h] <;> rfl
  have h2 : fits (ty0 j) (.int v) = true := by
    rcases hdn with h | ⟨h, rfl | rfl⟩ <;> rw [h] <;> rfl
  refine g_put X ty0 hd (kd_lt hk (by omega)) (xd_obj hk hc10) hc hin hty hnm hj (by rw [xd_f_len, hN]; exact hj) fl (Or.inl hf) rfl h1 h2 ?_
  rw [xd_put hk hc10 hr]
  exact kk
theorem gm_iald (X : xg_X p m c cc nL s args own G) {k : Nat} {i : Int32} (j : Nat) (hd : decode cc pc = .ok (.iaload, 1)) (hk : kd k = 10) (hi : i = nI j) (hj : j < ln k) (hl : ln k ≤ 400) (kk : gm p l e R s m args below meth c nL G O Q t L (pc + 1) (.int (t k j) :: rest)) : gm p l e R s m args below meth c nL G O Q t L pc (.int i :: .ref (O.size + k) :: rest) := by
  subst hi
  refine g_iald X hd (kd_lt hk (by omega)) (xd_ints hk) rfl (vp_in_nI hj (by omega)) ?_
  rw [nI_clamp (by omega)]
  exact kk
theorem gm_zald (X : xg_X p m c cc nL s args own G) {k : Nat} {i : Int32} (j : Nat) (hd : decode cc pc = .ok (.baload, 1)) (hk : kd k = 14) (hi : i = nI j) (hj : j < ln k) (hl : ln k ≤ 400) (kk : gm p l e R s m args below meth c nL G O Q t L (pc + 1) (.int (t k j) :: rest)) : gm p l e R s m args below meth c nL G O Q t L pc (.int i :: .ref (O.size + k) :: rest) := by
  subst hi
  refine g_zald X hd (kd_lt hk (by omega)) (xd_bits hk) rfl (vp_in_nI hj (by omega)) ?_
  rw [nI_clamp (by omega)]
  exact kk
theorem gm_iast (X : xg_X p m c cc nL s args own G) {k : Nat} {i v : Int32} (j : Nat) (hd : decode cc pc = .ok (.iastore, 1)) (hk : kd k = 10) (hi : i = nI j) (hj : j < ln k) (hl : ln k ≤ 400) (kk : gm p l e R s m args below meth c nL G O Q (xt t k j v) L (pc + 1) rest) : gm p l e R s m args below meth c nL G O Q t L pc (.int v :: .int i :: .ref (O.size + k) :: rest) := by
  subst hi
  refine g_iast X hd (kd_lt hk (by omega)) (xd_ints hk) rfl (vp_in_nI hj (by omega)) ?_
  rw [nI_clamp (by omega), xd_ast hk]
  exact kk
theorem gm_zast (X : xg_X p m c cc nL s args own G) {k : Nat} {i v : Int32} (j : Nat) (hd : decode cc pc = .ok (.bastore, 1)) (hk : kd k = 14) (hi : i = nI j) (hj : j < ln k) (hl : ln k ≤ 400) (hv : v = 0 ∨ v = 1) (kk : gm p l e R s m args below meth c nL G O Q (xt t k j v) L (pc + 1) rest) : gm p l e R s m args below meth c nL G O Q t L pc (.int v :: .int i :: .ref (O.size + k) :: rest) := by
  subst hi
  refine g_zast X hd (kd_lt hk (by omega)) (xd_bits hk) rfl (vp_in_nI hj (by omega)) ?_
  rw [nI_clamp (by omega), show vp_nar .boolean v = v by rcases hv with rfl | rfl <;> rfl, xd_zst hk]
  exact kk
theorem gm_aald (X : xg_X p m c cc nL s args own G) {k k' : Nat} {i : Int32} (ci j : Nat) (ty : FieldType) (hd : decode cc pc = .ok (.aaload, 1)) (hk : kd k = ci) (h1 : 10 < ci) (h2 : ci < 14) (ht : (xg_tys G.2)[ci - 10]? = some (G.2 (ci - 10), ty)) (hr : ty.isReference = true) (hi : i = nI j) (hj : j < ln k) (hl : ln k ≤ 400) (hs : sr k j = k') (kk : gm p l e R s m args below meth c nL G O Q t L (pc + 1) (.ref (O.size + k') :: rest)) : gm p l e R s m args below meth c nL G O Q t L pc (.int i :: .ref (O.size + k) :: rest) := by
  subst hi
  refine g_aald X (ci - 10) ty hd (kd_lt hk (by omega)) (xd_refs hk h1 h2) ht hr (vp_in_nI hj (by omega)) ?_
  rw [nI_clamp (by omega), if_pos hj, hs]
  exact kk
theorem gm_alen (X : xg_X p m c cc nL s args own G) {k : Nat} {v : Int32} (hd : decode cc pc = .ok (.arraylength, 1)) (hk : kd k = 10) (hv : Int32.ofNat (ln k) = v) (kk : gm p l e R s m args below meth c nL G O Q t L (pc + 1) (.int v :: rest)) : gm p l e R s m args below meth c nL G O Q t L pc (.ref (O.size + k) :: rest) :=
  g_alen X 0 .int hd (kd_lt hk (by omega)) (xd_ints hk) rfl hv kk
theorem gm_callV (X : xg_X p m c cc nL s args own G) {C : String} {T : u_T} {N k : Nat} (ci : Nat) (cv : xc_V own index C y cb ml ret na) (hM : xm l y cb ml ret rm G O t (.ref (O.size + k) :: as) post) (hd : decode cc pc = .ok (.invokevirtual index, 3)) (hk : kd k = ci) (hc10 : ci < 10) (hc : vwCl[ci]? = some (C, T, N)) (hst : st = as.reverse ++ .ref (O.size + k) :: rest) (hna : as.length = na) (hR : xr_ok rm R ml 0 0 0 0 = true) (hrs : (rest.map fun v => v.category).sum ≤ 8)
    (kk : ∀ (r : Option Value) (t' : xT), post r t' → gm p l e R s m args below meth c nL G O Q t' L (pc + 3) (r.toList ++ rest)) : gm p l e R s m args below meth c nL G O Q t L pc st :=
  g_callV X cv hM hd (kd_lt hk (by omega)) (xd_obj hk hc10) hc hst hna hR hrs (fun r w' h => by obtain ⟨t', rfl, h⟩ := h; exact kk r t' h)
theorem gm_callS (X : xg_X p m c cc nL s args own G) (cv : xc_S own index y cb ml ret na) (hM : xm l y cb ml ret rm G O t as post) (hd : decode cc pc = .ok (.invokestatic index, 3)) (hst : st = as.reverse ++ rest) (hna : as.length = na) (hR : xr_ok rm R ml 0 0 0 0 = true) (hrs : (rest.map fun v => v.category).sum ≤ 8)
    (kk : ∀ (r : Option Value) (t' : xT), post r t' → gm p l e R s m args below meth c nL G O Q t' L (pc + 3) (r.toList ++ rest)) : gm p l e R s m args below meth c nL G O Q t L pc st :=
  g_callS X cv hM hd hst hna hR hrs (fun r w' h => by obtain ⟨t', rfl, h⟩ := h; exact kk r t' h)
theorem gm_callSN (X : xg_X p m c cc nL s args own G) (cv : xc_SN own index y cb ml ret na) (hM : xm l y cb ml ret rm G O t as post) (hd : decode cc pc = .ok (.invokestatic index, 3)) (hst : st = as.reverse ++ rest) (hna : as.length = na) (hR : xr_ok rm R ml 0 0 0 0 = true) (hrs : (rest.map fun v => v.category).sum ≤ 8)
    (kk : ∀ (r : Option Value) (t' : xT), post r t' → gm p l e R s m args below meth c nL G O Q t' L (pc + 3) (r.toList ++ rest)) : gm p l e R s m args below meth c nL G O Q t L pc st :=
  g_callSN X cv hM hd hst hna hR hrs (fun r w' h => by obtain ⟨t', rfl, h⟩ := h; exact kk r t' h)
theorem gm_Vi {P : Int32 → xT → Prop} (X : xg_X p m c cc nL s args own G) {C : String} {T : u_T} {N k : Nat} (ci : Nat) (cv : xc_V own index C y cb ml ret na) (hM : xm l y cb ml ret rm G O t (.ref (O.size + k) :: as) (xi P)) (hd : decode cc pc = .ok (.invokevirtual index, 3)) (hk : kd k = ci) (hc10 : ci < 10) (hc : vwCl[ci]? = some (C, T, N)) (hst : st = as.reverse ++ .ref (O.size + k) :: rest) (hna : as.length = na) (hR : xr_ok rm R ml 0 0 0 0 = true) (hrs : (rest.map fun v => v.category).sum ≤ 8) (kk : ∀ (v : Int32) (t' : xT), P v t' → gm p l e R s m args below meth c nL G O Q t' L (pc + 3) (.int v :: rest)) : gm p l e R s m args below meth c nL G O Q t L pc st :=
  gm_callV X ci cv hM hd hk hc10 hc hst hna hR hrs (fun r t' h => by obtain ⟨v, rfl, h⟩ := h; exact kk v t' h)
theorem gm_Vv {P : xT → Prop} (X : xg_X p m c cc nL s args own G) {C : String} {T : u_T} {N k : Nat} (ci : Nat) (cv : xc_V own index C y cb ml ret na) (hM : xm l y cb ml ret rm G O t (.ref (O.size + k) :: as) (xv P)) (hd : decode cc pc = .ok (.invokevirtual index, 3)) (hk : kd k = ci) (hc10 : ci < 10) (hc : vwCl[ci]? = some (C, T, N)) (hst : st = as.reverse ++ .ref (O.size + k) :: rest) (hna : as.length = na) (hR : xr_ok rm R ml 0 0 0 0 = true) (hrs : (rest.map fun v => v.category).sum ≤ 8) (kk : ∀ (t' : xT), P t' → gm p l e R s m args below meth c nL G O Q t' L (pc + 3) rest) : gm p l e R s m args below meth c nL G O Q t L pc st :=
  gm_callV X ci cv hM hd hk hc10 hc hst hna hR hrs (fun r t' h => by obtain ⟨rfl, h⟩ := h; exact kk t' h)
theorem gm_Va {P : Nat → xT → Prop} (X : xg_X p m c cc nL s args own G) {C : String} {T : u_T} {N k : Nat} (ci : Nat) (cv : xc_V own index C y cb ml ret na) (hM : xm l y cb ml ret rm G O t (.ref (O.size + k) :: as) (xa O P)) (hd : decode cc pc = .ok (.invokevirtual index, 3)) (hk : kd k = ci) (hc10 : ci < 10) (hc : vwCl[ci]? = some (C, T, N)) (hst : st = as.reverse ++ .ref (O.size + k) :: rest) (hna : as.length = na) (hR : xr_ok rm R ml 0 0 0 0 = true) (hrs : (rest.map fun v => v.category).sum ≤ 8) (kk : ∀ (k' : Nat) (t' : xT), P k' t' → gm p l e R s m args below meth c nL G O Q t' L (pc + 3) (.ref (O.size + k') :: rest)) : gm p l e R s m args below meth c nL G O Q t L pc st :=
  gm_callV X ci cv hM hd hk hc10 hc hst hna hR hrs (fun r t' h => by obtain ⟨v, rfl, h⟩ := h; exact kk v t' h)
theorem gm_Si {P : Int32 → xT → Prop} (X : xg_X p m c cc nL s args own G) (cv : xc_S own index y cb ml ret na) (hM : xm l y cb ml ret rm G O t as (xi P)) (hd : decode cc pc = .ok (.invokestatic index, 3)) (hst : st = as.reverse ++ rest) (hna : as.length = na) (hR : xr_ok rm R ml 0 0 0 0 = true) (hrs : (rest.map fun v => v.category).sum ≤ 8) (kk : ∀ (v : Int32) (t' : xT), P v t' → gm p l e R s m args below meth c nL G O Q t' L (pc + 3) (.int v :: rest)) : gm p l e R s m args below meth c nL G O Q t L pc st :=
  gm_callS X cv hM hd hst hna hR hrs (fun r t' h => by obtain ⟨v, rfl, h⟩ := h; exact kk v t' h)
theorem gm_Sv {P : xT → Prop} (X : xg_X p m c cc nL s args own G) (cv : xc_S own index y cb ml ret na) (hM : xm l y cb ml ret rm G O t as (xv P)) (hd : decode cc pc = .ok (.invokestatic index, 3)) (hst : st = as.reverse ++ rest) (hna : as.length = na) (hR : xr_ok rm R ml 0 0 0 0 = true) (hrs : (rest.map fun v => v.category).sum ≤ 8) (kk : ∀ (t' : xT), P t' → gm p l e R s m args below meth c nL G O Q t' L (pc + 3) rest) : gm p l e R s m args below meth c nL G O Q t L pc st :=
  gm_callS X cv hM hd hst hna hR hrs (fun r t' h => by obtain ⟨rfl, h⟩ := h; exact kk t' h)
theorem gm_Sa {P : Nat → xT → Prop} (X : xg_X p m c cc nL s args own G) (cv : xc_S own index y cb ml ret na) (hM : xm l y cb ml ret rm G O t as (xa O P)) (hd : decode cc pc = .ok (.invokestatic index, 3)) (hst : st = as.reverse ++ rest) (hna : as.length = na) (hR : xr_ok rm R ml 0 0 0 0 = true) (hrs : (rest.map fun v => v.category).sum ≤ 8) (kk : ∀ (k' : Nat) (t' : xT), P k' t' → gm p l e R s m args below meth c nL G O Q t' L (pc + 3) (.ref (O.size + k') :: rest)) : gm p l e R s m args below meth c nL G O Q t L pc st :=
  gm_callS X cv hM hd hst hna hR hrs (fun r t' h => by obtain ⟨v, rfl, h⟩ := h; exact kk v t' h)
theorem gm_SNi {P : Int32 → xT → Prop} (X : xg_X p m c cc nL s args own G) (cv : xc_SN own index y cb ml ret na) (hM : xm l y cb ml ret rm G O t as (xi P)) (hd : decode cc pc = .ok (.invokestatic index, 3)) (hst : st = as.reverse ++ rest) (hna : as.length = na) (hR : xr_ok rm R ml 0 0 0 0 = true) (hrs : (rest.map fun v => v.category).sum ≤ 8) (kk : ∀ (v : Int32) (t' : xT), P v t' → gm p l e R s m args below meth c nL G O Q t' L (pc + 3) (.int v :: rest)) : gm p l e R s m args below meth c nL G O Q t L pc st :=
  gm_callSN X cv hM hd hst hna hR hrs (fun r t' h => by obtain ⟨v, rfl, h⟩ := h; exact kk v t' h)
theorem gm_SNv {P : xT → Prop} (X : xg_X p m c cc nL s args own G) (cv : xc_SN own index y cb ml ret na) (hM : xm l y cb ml ret rm G O t as (xv P)) (hd : decode cc pc = .ok (.invokestatic index, 3)) (hst : st = as.reverse ++ rest) (hna : as.length = na) (hR : xr_ok rm R ml 0 0 0 0 = true) (hrs : (rest.map fun v => v.category).sum ≤ 8) (kk : ∀ (t' : xT), P t' → gm p l e R s m args below meth c nL G O Q t' L (pc + 3) rest) : gm p l e R s m args below meth c nL G O Q t L pc st :=
  gm_callSN X cv hM hd hst hna hR hrs (fun r t' h => by obtain ⟨rfl, h⟩ := h; exact kk t' h)
theorem gm_SNa {P : Nat → xT → Prop} (X : xg_X p m c cc nL s args own G) (cv : xc_SN own index y cb ml ret na) (hM : xm l y cb ml ret rm G O t as (xa O P)) (hd : decode cc pc = .ok (.invokestatic index, 3)) (hst : st = as.reverse ++ rest) (hna : as.length = na) (hR : xr_ok rm R ml 0 0 0 0 = true) (hrs : (rest.map fun v => v.category).sum ≤ 8) (kk : ∀ (k' : Nat) (t' : xT), P k' t' → gm p l e R s m args below meth c nL G O Q t' L (pc + 3) (.ref (O.size + k') :: rest)) : gm p l e R s m args below meth c nL G O Q t L pc st :=
  gm_callSN X cv hM hd hst hna hR hrs (fun r t' h => by obtain ⟨v, rfl, h⟩ := h; exact kk v t' h)
end XM
