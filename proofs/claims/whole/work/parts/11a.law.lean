/-! 11a: rows of the law: its script, its calls; what the tables say at its entry -/
section XL
variable {z : Prop} {p : Program} {l : Launch} {e : Env} {R : Room} {s : State} {m : MethodId} {args : Array Value} {below : List Frame} {meth : Method} {c : Code} {nL : Nat} {G : xg_G} {O : Heap} {cells slots : Nat} {Q : State → Prop} {n : Nat} {w : Nat → va_E} {L : List (Option Value)} {pc : Nat} {rest : List Value} {cc : ByteArray} {own : String}
theorem g_sld (X : xg_X p m c cc nL s args own G) {b Ls : Nat} {xs : Nat → Int32} (hX : va_X b Ls xs s O) (hbl : b < O.size) (hL : Ls ≤ 3072) {i : Int32} (j : Nat) (hi : i = nI j) (hj : j < Ls) (hd : decode cc pc = .ok (.iaload, 1)) (kk : gv z p l e R s m args below meth c nL G O cells slots Q n w L (pc + 1) (.int (xs j) :: rest)) : gv z p l e R s m args below meth c nL G O cells slots Q n w L pc (.int i :: .ref b :: rest) := by
  intro H ls locs hl hh hz hq
  subst hi
  obtain ⟨scr, h1, h2, h3, h4, h5⟩ := hX
  exact W.iald (v := .int (xs j)) X.1.1 X.1.2.1 (by rw [hh.2 b hbl]; exact h1) h2 h3 (by rw [h4]; exact nI_in hj (by omega)) (by rw [nI_clamp (by omega)]; exact h5 _ hj) rfl rfl hd (kk H ls locs hl hh hz hq)
theorem g_slen (X : xg_X p m c cc nL s args own G) {b Ls : Nat} {xs : Nat → Int32} (hX : va_X b Ls xs s O) (hbl : b < O.size) (hd : decode cc pc = .ok (.arraylength, 1)) (kk : gv z p l e R s m args below meth c nL G O cells slots Q n w L (pc + 1) (.int (nI Ls) :: rest)) : gv z p l e R s m args below meth c nL G O cells slots Q n w L pc (.ref b :: rest) := by
  intro H ls locs hl hh hz hq
  obtain ⟨scr, h1, h2, h3, h4, h5⟩ := hX
  exact W.alen (n := nI Ls) X.1.1 X.1.2.1 (by rw [hh.2 b hbl]; exact h1) h2 (by rw [h4] <;> rfl) rfl rfl hd (kk H ls locs hl hh hz hq)
end XL
/-- the law's walk, both objects made -/
abbrev gl (p : Program) (l : Launch) (e : Env) (s : State) (m : MethodId) (args : Array Value) (below : List Frame) (meth : Method) (c : Code) (G : xg_G) (O : Heap) (Q : State → Prop) (t : xT) (L : List (Option Value)) (pc : Nat) (st : List Value) : Prop :=
  gv False p l e room_1 s m args below meth c 4 G O 94 5310 Q 94 (xd G O t) L pc st
section XL2
variable {p : Program} {l : Launch} {e : Env} {s : State} {m : MethodId} {args : Array Value} {below : List Frame} {meth : Method} {c : Code} {G : xg_G} {O : Heap} {Q : State → Prop} {t : xT} {L : List (Option Value)} {pc : Nat} {rest : List Value} {cc : ByteArray} {own : String}
variable {y : MethodName} {cb : ByteArray} {ml : Nat} {ret : Option FieldType} {rm : Room} {as : List Value} {na index : Nat} {st : List Value}
theorem gl_Vi {P : Int32 → xT → Prop} (X : xg_X p m c cc 4 s args own G) {C : String} {T : u_T} {N k : Nat} (ci : Nat) (cv : xc_V own index C y cb ml ret na) (hM : xm l y cb ml ret rm G O t (.ref (O.size + k) :: as) (xi P)) (hd : decode cc pc = .ok (.invokevirtual index, 3)) (hk : kd k = ci) (hc10 : ci < 10) (hc : vwCl[ci]? = some (C, T, N)) (hst : st = as.reverse ++ .ref (O.size + k) :: rest) (hna : as.length = na) (hR : xr_ok rm room_1 ml 0 0 94 5310 = true) (hrs : (rest.map fun v => v.category).sum ≤ 8) (kk : ∀ (v : Int32) (t' : xT), P v t' → gl p l e s m args below meth c G O Q t' L (pc + 3) (.int v :: rest)) : gl p l e s m args below meth c G O Q t L pc st :=
  g_callV X cv hM hd (kd_lt hk (by omega)) (xd_obj hk hc10) hc hst hna hR hrs (fun r w' h => by obtain ⟨t', rfl, v, rfl, h⟩ := h; exact kk v t' h)
end XL2
theorem lx_end {Ls i : Nat} (hL : Ls ≤ 3072) (hi : i ≤ 4000) (h : ¬ nI Ls - 6 < nI i) : i + 6 ≤ Ls := by
  rcases Nat.lt_or_ge Ls 6 with q | q
  · have e : ∀ k, k < 6 → (nI k - 6).toInt < 0 := by decide
    refine absurd ((i_lt _ _).mpr ?_) h
    rw [nI_toInt (n := i) (by omega)]
    have := e Ls q
    omega
  · have h6 : nI Ls - 6 = nI (Ls - 6) := pk_sub (b := 6) q
    rw [h6] at h
    rcases Nat.lt_or_ge (Ls - 6) i with k | k
    · exact absurd (nI_lt k (by omega)) h
    · omega
/-- the tables at the law's entry -/
theorem lx_arr {s : State} {A : Array Value} {ty : FieldType} (h : (Cond.arrayClass ty).before A s = true) : ∃ cA : ClassId, ArrOfT s cA ty ∧ s.vm.findClass ("[" ++ ty.toString) = some cA := by
  obtain ⟨cA, k, comp, h1, h2, h3⟩ := Cond.arrayClass_spec h
  exact ⟨cA, fun n z => ⟨fun q h => (by cases h), k, h2, comp, h3⟩, h1⟩
theorem lx_obj {s : State} {A : Array Value} {C : String} (h : (Cond.arrayOver (.object C)).before A s = true) : ∃ cA : ClassId, ArrOfT s cA (.object C) ∧ va_RA s cA (.object C) := by
  obtain ⟨comp, cA, k, h1, -, h2, h3, h4⟩ := Cond.arrayOver_spec h
  exact ⟨cA, fun n z => ⟨fun q h => (by cases h), k, h2, comp, h3⟩, k, comp, h2, h3, h1, h4⟩
theorem lx_arrA {s : State} {A : Array Value} {ty : FieldType} (h : (Cond.arrayOver (.array ty)).before A s = true) : ∃ cA : ClassId, ArrOfT s cA (.array ty) ∧ s.vm.findClass ("[" ++ (FieldType.array ty).toString) = some cA := by
  obtain ⟨comp, cA, k, h1, -, h2, h3, h4⟩ := arrayOverA_spec h
  exact ⟨cA, fun n z => ⟨fun q h => (by cases h), k, h2, comp, h3⟩, h4⟩
theorem lx_nest : ∀ q ∈ xg_nest, Cond.methodLinkNest q.1 q.2.1 q.2.2 RX8 ∈ lw_tbl := by decide +kernel
theorem lx_K {s : State} {A : Array Value} (hts : ∀ w ∈ lw_tbl, w.before A s = true) : ∃ G : xg_G, xg_K G s := by
  have hT : ∀ w ∈ xw_T, w.before A s = true := fun w hw => hts w (List.mem_filter.mp hw).1
  have hC : ∀ k : Nat, ∃ ci : ClassId × (Nat → Nat), ∀ q : vw_C, vwCl[k]? = some q → u_Kn s q.1 q.2.1 q.2.2 ci.1 ci.2 := by
    intro k
    match k with
    | 0 => obtain ⟨a, b, h⟩ := u_known hT xu_0 (hT _ xw_232); exact ⟨(a, b), fun q hq => by cases hq; exact h⟩
    | 1 => obtain ⟨a, b, h⟩ := u_known hT xu_1 (hT _ xw_105); exact ⟨(a, b), fun q hq => by cases hq; exact h⟩
    | 2 => obtain ⟨a, b, h⟩ := u_known hT xu_2 (hT _ xw_98); exact ⟨(a, b), fun q hq => by cases hq; exact h⟩
    | 3 => obtain ⟨a, b, h⟩ := u_known hT xu_3 (hT _ xw_145); exact ⟨(a, b), fun q hq => by cases hq; exact h⟩
    | 4 => obtain ⟨a, b, h⟩ := u_known hT xu_4 (hT _ xw_212); exact ⟨(a, b), fun q hq => by cases hq; exact h⟩
    | 5 => obtain ⟨a, b, h⟩ := u_known hT xu_5 (hT _ xw_70); exact ⟨(a, b), fun q hq => by cases hq; exact h⟩
    | 6 => obtain ⟨a, b, h⟩ := u_known hT xu_6 (hT _ xw_55); exact ⟨(a, b), fun q hq => by cases hq; exact h⟩
    | 7 => obtain ⟨a, b, h⟩ := u_known hT xu_7 (hT _ xw_76); exact ⟨(a, b), fun q hq => by cases hq; exact h⟩
    | 8 => obtain ⟨a, b, h⟩ := u_known hT xu_8 (hT _ xw_47); exact ⟨(a, b), fun q hq => by cases hq; exact h⟩
    | 9 => obtain ⟨a, b, h⟩ := u_known hT xu_9 (hT _ xw_586); exact ⟨(a, b), fun q hq => by cases hq; exact h⟩
    | k + 10 =>
      obtain ⟨a, b, h⟩ := u_known hT xu_0 (hT _ xw_232)
      refine ⟨(a, b), fun q hq => ?_⟩
      rw [List.getElem?_eq_none (by show 10 ≤ k + 10; omega)] at hq
      cases hq
  obtain ⟨f, hf⟩ := Classical.axiomOfChoice hC
  obtain ⟨a0, i1, i2⟩ := lx_arr (hT _ xw_68)
  obtain ⟨a4, z1, z2⟩ := lx_arr (hT _ xw_688)
  have hA := hts (Cond.arrayOver (.array .int)) (by decide +kernel)
  have hH := hts (Cond.arrayOver (.object "UnderText$Half")) (by decide +kernel)
  have hL := hts (Cond.arrayOver (.object "UnderText$Leaf")) (by decide +kernel)
  obtain ⟨a1, r1, r2⟩ := lx_arrA hA
  obtain ⟨a2, g1, g2⟩ := lx_obj hH
  obtain ⟨a3, k1, k2⟩ := lx_obj hL
  refine ⟨((fun k => (f k).1, fun k => (f k).2), fun j => if j = 0 then a0 else if j = 1 then a1 else if j = 2 then a2 else if j = 3 then a3 else a4), ⟨fun k q h => hf k q h, fun k q h => ?_⟩, fun q hq => va_Nw.of rfl (hts _ (lx_nest q hq)), va_AO.of hH, va_AO.of hL, hA⟩
  match k, h with
  | 0, h => cases h; exact ⟨i1, i2⟩
  | 1, h => cases h; exact ⟨r1, r2⟩
  | 2, h => cases h; exact ⟨g1, g2⟩
  | 3, h => cases h; exact ⟨k1, k2⟩
  | 4, h => cases h; exact ⟨z1, z2⟩
  | k + 5, h => simp [xg_tys] at h
