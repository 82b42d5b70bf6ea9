/-! 09a: rows that make cells: the heap ends with the cells, so a new one stands at O.size + n -/
def xg_mn (w : Nat → va_E) (n : Nat) (o i : va_E) : Nat → va_E := fun j => if j = n then o else if j < n then w j else i
section XN
variable {p : Program} {l : Launch} {e : Env} {R : Room} {s : State} {m : MethodId} {args : Array Value} {below : List Frame} {meth : Method} {c : Code} {nL : Nat} {G : xg_G} {O : Heap} {cells slots : Nat} {Q : State → Prop} {n : Nat} {w : Nat → va_E} {L : List (Option Value)} {pc : Nat} {rest : List Value} {cc : ByteArray} {own : String} {z : Prop} {st : List Value}
/-- only the cells below n count -/
theorem g_eqn {w2 : Nat → va_E} (h : ∀ j, j < n → w j = w2 j) (kk : gv z p l e R s m args below meth c nL G O cells slots Q n w2 L pc st) : gv z p l e R s m args below meth c nL G O cells slots Q n w L pc st :=
  fun H ls locs hl hh hz hq => kk H ls locs hl ⟨fun k hk => by rw [← h k hk]; exact hh.1 k hk, hh.2⟩ hz hq
theorem g_forz (kk : gv False p l e R s m args below meth c nL G O cells slots Q n w L pc st) : gv z p l e R s m args below meth c nL G O cells slots Q n w L pc st :=
  fun H ls locs hl hh _ hq => kk H ls locs hl hh (fun h => h.elim) hq
theorem g_new (X : xg_X p m c cc nL s args own G) {ci index : Nat} {fs : List Value} {C : String} {T : u_T} {N : Nat} (ty : Nat → FieldType) (hd : decode cc pc = .ok (.new index, 3)) (hcl : Cond.classLink own index C ∈ xw_T) (hinst : Cond.instantiable C N ∈ xw_T) (hini : Cond.initialized C ∈ xw_T) (hc : vwCl[ci]? = some (C, T, N)) (hin : ∀ w ∈ u_ws C T N, w ∈ xw_T) (hty : ∀ k, k < N → parseFieldDescriptor (T k).2.2.1 = some (ty k)) (hfs : ∀ j, j < N → defaultValue (ty j) = vp_V fs j) (hR : (decide (cells + 1 ≤ R.cells) && decide (slots + N ≤ R.slots)) = true)
    (kk : gv True p l e R s m args below meth c nL G O (cells + 1) (slots + N) Q (n + 1) (xg_up w n (.inr (ci, fs))) L (pc + 3) (.ref (O.size + n) :: rest)) : gv True p l e R s m args below meth c nL G O cells slots Q n w L pc rest := by
  intro H ls locs hl hh hz hq
  have hKn := X.2.1.1 ci _ hc
  have ht := X.1.2.2.2.2
  simp only [Bool.and_eq_true, decide_eq_true_eq] at hR
  refine W.newcK X.1.1 X.1.2.1 X.1.2.2.2.1 (ht _ hcl) (ht _ hinst) (ht _ hini) rfl hd hR.1 hR.2 hKn.2.1 rfl fun H1 kC hkC e1 z1 o1 => ?_
  rw [hz trivial] at e1 z1 o1 ⊢
  exact kk H1 ls locs hl (hh.push _ ⟨_, hc, (u_born ty ht hin hKn hkC e1 hty).to hfs⟩ o1) (fun _ => by rw [z1]; omega) hq
theorem g_newi (X : xg_X p m c cc nL s args own G) {k : Int32} (N : Nat) (hd : decode cc pc = .ok (.newarray .int, 2)) (hw : Cond.arrayClass .int ∈ xw_T) (hk : k = nI N) (hN : N < 1000) (hR : (decide (cells + 1 ≤ R.cells) && decide (slots + N ≤ R.slots)) = true)
    (kk : gv True p l e R s m args below meth c nL G O (cells + 1) (slots + N) Q (n + 1) (xg_up w n (.inl (G.2 0, N, .inl (fun _ => 0)))) L (pc + 2) (.ref (O.size + n) :: rest)) : gv True p l e R s m args below meth c nL G O cells slots Q n w L pc (.int k :: rest) := by
  intro H ls locs hl hh hz hq
  subst hk
  have ht := X.1.2.2.2.2
  simp only [Bool.and_eq_true, decide_eq_true_eq] at hR
  refine va_newaK (atype := .int) (N := N) X.1.1 X.1.2.1 (ht _ hw) rfl hd rfl (nI_pos (by omega)) (nI_clamp (by omega)) ?_ hR.1 hR.2 (hz trivial) fun H1 cA e1 z1 o1 hAr hNm => ?_
  · have : componentBytes (newarray.typeOf .int) = 4 := rfl
    rw [this]; omega
  have hcA : cA = G.2 0 := by
    have h2 := (X.2.1.2 0 _ rfl).2
    exact Option.some.inj (hNm.symm.trans h2)
  subst hcA
  exact kk H1 ls locs hl (hh.push _ (show H1[O.size + n]? = some (vp_cell _ _) from by rw [vp_cell_i]; exact e1) o1) (fun _ => by rw [z1]; omega) hq
theorem g_newz (X : xg_X p m c cc nL s args own G) {k : Int32} (N : Nat) (hd : decode cc pc = .ok (.newarray .boolean, 2)) (hw : Cond.arrayClass .boolean ∈ xw_T) (hk : k = nI N) (hN : N < 1000) (hR : (decide (cells + 1 ≤ R.cells) && decide (slots + N ≤ R.slots)) = true)
    (kk : gv True p l e R s m args below meth c nL G O (cells + 1) (slots + N) Q (n + 1) (xg_up w n (.inl (G.2 4, N, .inl (fun _ => 0)))) L (pc + 2) (.ref (O.size + n) :: rest)) : gv True p l e R s m args below meth c nL G O cells slots Q n w L pc (.int k :: rest) := by
  intro H ls locs hl hh hz hq
  subst hk
  have ht := X.1.2.2.2.2
  simp only [Bool.and_eq_true, decide_eq_true_eq] at hR
  refine va_newaK (atype := .boolean) (N := N) X.1.1 X.1.2.1 (ht _ hw) rfl hd rfl (nI_pos (by omega)) (nI_clamp (by omega)) ?_ hR.1 hR.2 (hz trivial) fun H1 cA e1 z1 o1 hAr hNm => ?_
  · have : componentBytes (newarray.typeOf .boolean) = 1 := rfl
    rw [this]; omega
  have hcA : cA = G.2 4 := by
    have h2 := (X.2.1.2 4 _ rfl).2
    exact Option.some.inj (hNm.symm.trans h2)
  subst hcA
  exact kk H1 ls locs hl (hh.push _ (show H1[O.size + n]? = some (vp_cell _ _) from by rw [vp_cell_i]; exact e1) o1) (fun _ => by rw [z1]; omega) hq
theorem g_anew (X : xg_X p m c cc nL s args own G) {k : Int32} {index : Nat} {C : String} (t0 : Nat) (N : Nat) (hd : decode cc pc = .ok (.anewarray index, 3)) (hcl : Cond.classLink own index C ∈ xw_T) (hao : va_AO C s) (ht0 : (xg_tys G.2)[t0]? = some (G.2 t0, .object C)) (hk : k = nI N) (hN : N < 1000) (hR : (decide (cells + 1 ≤ R.cells) && decide (slots + N ≤ R.slots)) = true)
    (kk : gv True p l e R s m args below meth c nL G O (cells + 1) (slots + N) Q (n + 1) (xg_up w n (.inl (G.2 t0, N, .inr (.inr (.inr (.inr (fun _ => none))))))) L (pc + 3) (.ref (O.size + n) :: rest)) : gv True p l e R s m args below meth c nL G O cells slots Q n w L pc (.int k :: rest) := by
  intro H ls locs hl hh hz hq
  subst hk
  have ht := X.1.2.2.2.2
  simp only [Bool.and_eq_true, decide_eq_true_eq] at hR
  have hnn := nI_clamp (n := N) (by omega)
  refine W.anew X.1.1 X.1.2.1 X.1.2.2.2.1 (ht _ hcl) (va_AO.use hao) rfl hd rfl (nI_pos (by omega)) (by rw [hnn]; omega) hR.1 (by rw [hnn]; exact hR.2) fun cA kA comp f1 f2 f3 f4 => ?_
  rw [hnn]
  generalize hH1 : H.push ({ cls := cA, slots := Array.replicate N .null, vm := .none } : Cell) = H1
  have z1 : H1.size = H.size + 1 := by rw [← hH1, Array.size_push]
  have e1 : H1[H.size]? = some (arrV cA N (fun _ => .null)) := by rw [← hH1, Array.getElem?_push_size, ← arrV_new]
  have o1 : ∀ q : Nat, q < H.size → H1[q]? = H[q]? := fun q hq => by rw [← hH1, Array.getElem?_push, if_neg (Nat.ne_of_lt hq)]
  have hcA : cA = G.2 t0 := by
    obtain ⟨_, _, -, -, -, h4⟩ := (X.2.1.2 t0 _ ht0).2
    exact Option.some.inj (f1.symm.trans h4)
  subst hcA
  rw [hz trivial] at e1 z1 o1 ⊢
  exact kk H1 ls locs hl (hh.push _ (show H1[O.size + n]? = some (vp_cell _ _) from by rw [vp_cell_q]; exact e1) o1) (fun _ => by rw [z1]; omega) hq
theorem g_mna (X : xg_X p m c cc nL s args own G) {k1 k2 : Int32} {index : Nat} (N K : Nat) (hd : decode cc pc = .ok (.multianewarray index 2, 4)) (hcl : Cond.classLink own index "[[I" ∈ xw_T) (hw : Cond.arrayClass .int ∈ xw_T) (h1 : k1 = nI N) (h2 : k2 = nI K) (hN : N < 1000) (hK : K < 1000) (hR : (decide (cells + 1 + N ≤ R.cells) && decide (slots + N + N * K ≤ R.slots)) = true)
    (kk : gv True p l e R s m args below meth c nL G O (cells + 1 + N) (slots + N + N * K) Q (n + 1 + N) (xg_mn w n (.inl (G.2 1, N, .inr (.inr (.inr (.inr (fun i => if i < N then some (O.size + n + 1 + i) else none)))))) (.inl (G.2 0, K, .inl (fun _ => 0)))) L (pc + 4) (.ref (O.size + n) :: rest)) : gv True p l e R s m args below meth c nL G O cells slots Q n w L pc (.int k2 :: .int k1 :: rest) := by
  intro H ls locs hl hh hz hq
  subst h1 h2
  have ht := X.1.2.2.2.2
  simp only [Bool.and_eq_true, decide_eq_true_eq] at hR
  have hHs := hz trivial
  refine mm_W X.1.1 X.1.2.1 X.1.2.2.2.1 (ht _ hcl) X.2.2.2.2.2 (ht _ hw) rfl hd rfl (nI_pos (by omega)) (nI_pos (by omega)) (nI_clamp (n := N) (by omega)) (nI_clamp (n := K) (by omega)) (by omega) (by omega) hR.1 hR.2 fun cO cI H1 ls1 f1 f2 f3 f4 hold f5 hrow => ?_
  have hcI : cI = G.2 0 := Option.some.inj (f2.symm.trans (X.2.1.2 0 _ rfl).2)
  have hcO : cO = G.2 1 := Option.some.inj (f1.symm.trans (X.2.1.2 1 _ rfl).2)
  subst hcI hcO
  rw [hHs] at f4 hold f5 hrow f3 ⊢
  have hAll : ∀ j, j < n + 1 + N → va_at G.1 vwCl (O.size + j, xg_mn w n (.inl (G.2 1, N, .inr (.inr (.inr (.inr (fun i => if i < N then some (O.size + n + 1 + i) else none)))))) (.inl (G.2 0, K, .inl (fun _ => 0))) j) H1 := by
    intro j hj
    unfold xg_mn
    by_cases hjn : j = n
    · rw [if_pos hjn, hjn]
      show H1[O.size + n]? = some (vp_cell _ _)
      rw [vp_cell_q]; exact f5
    · rw [if_neg hjn]
      by_cases hjl : j < n
      · rw [if_pos hjl]
        exact (hh.1 j hjl).kept (hold _ (by show O.size + j < O.size + n; omega))
      · rw [if_neg hjl]
        have := hrow (j - (n + 1)) (by omega)
        rw [show O.size + n + 1 + (j - (n + 1)) = O.size + j by omega] at this
        show H1[O.size + j]? = some (vp_cell _ _)
        rw [vp_cell_i]; exact this
  refine kk H1 ls ls1 hl ⟨hAll, fun q hq1 => by rw [hold q (by omega)]; exact hh.2 q hq1⟩ (fun _ => by rw [f4]; omega) (fun q hq1 => ?_)
  rcases f3 q hq1 with g | g
  · exact hq q g
  · rw [g]; exact Nat.le_add_right _ _
theorem g_aast (X : xg_X p m c cc nL s args own G) {k kv ci N : Nat} {f : Nat → Option Nat} {i : Int32} {fs : List Value} {r : vw_C} (t0 j : Nat) (hd : decode cc pc = .ok (.aastore, 1)) (hk : k < n) (hw : w k = .inl (G.2 t0, N, .inr (.inr (.inr (.inr f))))) (ht0 : (xg_tys G.2)[t0]? = some (G.2 t0, .object r.1)) (hkv : kv < n) (hwv : w kv = .inr (ci, fs)) (hc : vwCl[ci]? = some r) (hi : i = nI j) (hj : j < N) (hN : N < 1000)
    (kk : gv z p l e R s m args below meth c nL G O cells slots Q n (xg_up w k (.inl (G.2 t0, N, .inr (.inr (.inr (.inr (va_up f j (some (O.size + kv))))))))) L (pc + 1) rest) : gv z p l e R s m args below meth c nL G O cells slots Q n w L pc (.ref (O.size + kv) :: .int i :: .ref (O.size + k) :: rest) := by
  intro H ls locs hl hh hz hq
  subst hi
  have hnn := nI_clamp (n := j) (by omega)
  have h0 := hh.1 k hk
  rw [hw] at h0
  have hv0 := hh.1 kv hkv
  rw [hwv] at hv0
  obtain ⟨r', hr', cellV, g1, g2, g3, -⟩ := hv0
  have hcls := (X.2.1.1 ci r hc).2
  obtain ⟨kA, comp, k1, k2, k3, -⟩ := (X.2.1.2 t0 _ ht0).2
  have hcomp : comp = G.1.1 ci := Option.some.inj (k3.symm.trans hcls.1)
  subst hcomp
  obtain ⟨kC, hkC, -⟩ := hcls.2
  refine W.aast X.1.1 X.1.2.1 h0 (fun q h => by cases h) (fun h => by cases h) k1 k2 rfl hkC ⟨nI_pos (by omega), by show _ < (arrV _ _ _).slots.size; rw [arrV_size, hnn]; exact hj⟩ g1 (fun q h => by rw [g3] at h; cases h) (by rw [g2]; exact hkC) (by rw [g2]; exact va_assign hcls) rfl rfl hd fun H1 e1 e2 e3 => ?_
  refine kk H1 ls _ hl (hh.set _ ?_ e3) (fun hz1 => by rw [e2]; exact hz hz1) (fun q hq1 => ?_)
  · show H1[O.size + k]? = some (vp_cell _ _)
    rw [e1]
    rw [vp_cell_q, vp_cell_q, arrV_store, hnn]
    congr 2
    funext q
    by_cases hq : q = j
    · subst hq; simp [updV, va_up, va_rf]
    · simp [updV, va_up, hq]
  · rcases List.mem_append.mp hq1 with h | h
    · exact hq q h
    · rw [List.mem_singleton.mp h]; exact Nat.le_add_right _ _
end XN
