/-! 06a: Book, its small methods -/
theorem va_list {G : xg_G} {O : Heap} {t : xT} {H : Heap} (hh : xg_hp G O (xd G O t) 94 H) : va_P G.1 vwCl ((List.range 94).map (fun k => (O.size + k, xd G O t k))) H := by
  intro k q hq
  rw [List.getElem?_map] at hq
  cases hk : (List.range 94)[k]? with
  | none => rw [hk] at hq; cases hq
  | some j =>
    rw [hk] at hq
    cases hq
    have hj : j < 94 := List.mem_range.mp (List.mem_of_getElem? hk)
    exact hh.1 j hj
theorem va_listD {G : xg_G} {O : Heap} {t : xT} : va_D (fun q => O.size ≤ q) ((List.range 94).map (fun k => (O.size + k, xd G O t k))) := by
  refine ⟨fun i j p q hp hq he => ?_, fun k q hq => ?_⟩
  · rw [List.getElem?_map] at hp hq
    rcases Nat.lt_or_ge i 94 with hi | hi
    · rcases Nat.lt_or_ge j 94 with hj | hj
      · rw [List.getElem?_range hi] at hp
        rw [List.getElem?_range hj] at hq
        cases hp; cases hq
        have : O.size + i = O.size + j := he
        omega
      · rw [List.getElem?_eq_none (by simpa using hj)] at hq; cases hq
    · rw [List.getElem?_eq_none (by simpa using hi)] at hp; cases hp
  · rw [List.getElem?_map] at hq
    cases hk : (List.range 94)[k]? with
    | none => rw [hk] at hq; cases hq
    | some j => rw [hk] at hq; cases hq; exact Nat.le_add_right _ _
theorem va_listAt {G : xg_G} {O : Heap} {t : xT} {k : Nat} (hk : k < 94) : ((List.range 94).map (fun k => (O.size + k, xd G O t k)))[k]? = some (O.size + k, xd G O t k) := by
  rw [List.getElem?_map, List.getElem?_range hk]; rfl
theorem va_listBack {G : xg_G} {O : Heap} {t : xT} {k : Nat} {e : va_E} {H1 : Heap} (hk : k < 94) (h : va_P G.1 vwCl (((List.range 94).map (fun k => (O.size + k, xd G O t k))).set k (O.size + k, e)) H1) (ho : ∀ q, q < O.size → H1[q]? = O[q]?) : xg_hp G O (xg_up (xd G O t) k e) 94 H1 := by
  refine ⟨fun j hj => ?_, ho⟩
  by_cases q : j = k
  · subst q
    have := h j (O.size + j, e) (List.getElem?_set_self (by simpa using hk))
    unfold xg_up; rw [if_pos rfl]; exact this
  · have := h j (O.size + j, xd G O t j) (by rw [List.getElem?_set_ne (Ne.symm q)]; exact va_listAt hj)
    unfold xg_up; rw [if_neg q]; exact this
/-- t with the first n places of the cell k1 as those of k0 -/
def xcp (t : xT) (k0 k1 n : Nat) : xT := fun x y => if x = k1 ∧ y < n then t k0 y else t x y
theorem gm_copy {p : Program} {l : Launch} {e : Env} {R : Room} {s : State} {m : MethodId} {args : Array Value} {below : List Frame} {meth : Method} {c : Code} {nL : Nat} {G : xg_G} {O : Heap} {Q : State → Prop} {t : xT} {L : List (Option Value)} {pc : Nat} {rest : List Value} {cc : ByteArray} {own : String} (X : xg_X p m c cc nL s args own G) {index k0 k1 : Nat} (n : Nat) {nv : Int32} (hd : decode cc pc = .ok (.invokestatic index, 3))
    (w1 : Cond.methodLink own index arraycopyName ∈ xw_T) (w2 : Cond.native arraycopyName ∈ xw_T) (w3 : Cond.static arraycopyName ∈ xw_T) (w4 : Cond.initialized "java/lang/System" ∈ xw_T)
    (h0 : kd k0 = 10) (h1 : kd k1 = 10) (hn : nv = nI n) (hn0 : n ≤ ln k0) (hn1 : n ≤ ln k1) (hl : ln k0 ≤ 400) (hf : 1 ≤ R.frames) (hlo : (rest.map fun v => v.category).sum + (nativeFrameWords "java/lang/System" "arraycopy" 5 + 11) ≤ R.locals)
    (kk : gm p l e R s m args below meth c nL G O Q (xcp t k0 k1 n) L (pc + 3) rest) : gm p l e R s m args below meth c nL G O Q t L pc (.int nv :: .int 0 :: .ref (O.size + k1) :: .int 0 :: .ref (O.size + k0) :: rest) := by
  intro H ls locs hls hh hz hq
  have ht := X.1.2.2.2.2
  have b0 := kd_lt h0 (by omega)
  have b1 := kd_lt h1 (by omega)
  have cl : nv.toNatClampNeg = n := by rw [hn]; exact nI_clamp (by omega)
  have cz : (0 : Int32).toNatClampNeg = 0 := rfl
  have hS : va_S (fun q => O.size ≤ q) O H locs := by
    refine ⟨?_, fun q hq1 _ => hh.2 q hq1, hq⟩
    have := (hh.1 0 (by omega)).lt
    exact Nat.le_of_lt (by simpa using this)
  refine va_copyi (D := G.1) (cl := vwCl) (ws := (List.range 94).map (fun k => (O.size + k, xd G O t k))) (A := fun q => O.size ≤ q) (H0 := O) (f := t k0) (g := t k1) (ty := .int) X.1.1 X.1.2.1 (by rw [X.1.2.2.1, hls.1]) X.1.2.2.2.1 (ht _ w1) (ht _ w2) (ht _ w3) (ht _ w4) X.2.1 (va_list hh) va_listD hS k0 k1 0 0 (by rw [va_listAt b0, xd_ints h0]) (by rw [va_listAt b1, xd_ints h1]) rfl rfl rfl (by decide) (by decide) (by rw [hn]; exact nI_pos (by omega)) (by rw [cl, cz]; omega) (by rw [cl, cz]; omega) (fun i hi => rfl) hf hlo hd fun H1 locs1 hP1 hD1 hS1 => ?_
  refine kk H1 ls locs1 hls ?_ (fun h => h.elim) hS1.2.2
  have := va_listBack b1 hP1 (fun q hq1 => hS1.2.1 q hq1 (by omega))
  rw [cl, cz] at this
  have e : xg_up (xd G O t) k1 (.inl (G.2 0, ln k1, .inl (va_cpy (t k0) (t k1) 0 0 n))) = xd G O (xcp t k0 k1 n) := by
    funext a
    unfold xg_up
    by_cases h : a = k1
    · subst h
      rw [if_pos rfl, xd_ints h1]
      have e1 : va_cpy (t k0) (t a) 0 0 n = xcp t k0 a n a := by
        funext b
        unfold xcp
        by_cases hb : b < n
        · rw [if_pos ⟨rfl, hb⟩, pk_cpy_in (by omega) (by omega)]; simp
        · rw [if_neg (by omega), pk_cpy_out (Or.inr (by omega))]
      rw [e1]
    · rw [if_neg h]
      have e1 : xcp t k0 k1 n a = t a := by funext b; unfold xcp; rw [if_neg (fun q => h q.1)]
      unfold xd xd_f
      rw [e1]
  rw [e] at this
  exact this
set_option maxRecDepth 100000 in
set_option maxHeartbeats 4000000 in
theorem c_clear (l : Launch) (G : xg_G) (O : Heap) (t : xT)  : xm l yX0_clear cX0_clear 1 none rmX0_clear G O t [.ref (O.size + 55)] (xv (fun t' => t' = xf (xt t 55 4 0) 58 8 (-1))) := by
  refine xm_enter (by decide) 0 rfl rfl ?_
  intro p e s m args below meth c X hr hk
  refine g_eq (L2 := [some (.ref (O.size + 55))]) rfl rfl rfl ?_
  refine g_aload_n (pc := 0) X dX0_clear_0 rfl rfl ?_
  refine g_iconst (pc := 1) (v := 0) X dX0_clear_1 (by decide) ?_
  refine gm_putI (pc := 2) (j := 4) X 0 tyX0 dX0_clear_2 rfl (by decide) rfl xu_0 tyX0_ok nmX0 (by decide) rfl xw_252 rfl rfl (Or.inl rfl) ?_
  refine g_aload_n (pc := 5) X dX0_clear_5 rfl rfl ?_
  refine gm_getR (k' := 58) (pc := 6) (j := 2) X 0 dX0_clear_6 rfl (by decide) rfl xu_0 (by decide) rfl xw_248 rfl rfl ?_
  refine g_iconst (pc := 9) (v := (-1)) X dX0_clear_9 (by decide) ?_
  refine gm_Sv (pc := 10) X xc_X0_34 (c_fill l G O _ 58 (-1) rfl (by decide)) dX0_clear_10 rfl rfl rfl (Nat.le_of_ble_eq_true rfl) (fun t_10 hp => ?_)
  subst hp
  exact gm_vret (pc := 13) X hr hk dX0_clear_13 (rfl)

set_option maxRecDepth 100000 in
set_option maxHeartbeats 4000000 in
theorem c_bhas (l : Launch) (G : xg_G) (O : Heap) (t : xT) (nj : Nat) (h : Int32) (hnj : nj ≤ 8) (h5 : t 55 4 = nI nj) : xm l yX0_has cX0_has 2 (some .boolean) rmX0_has G O t [.ref (O.size + 55), .int h] (xi (fun v t' => v = bi (0 ≤ h ∧ h < nI nj) ∧ t' = t)) := by
  refine xm_enter (by decide) 0 rfl rfl ?_
  intro p e s m args below meth c X hr hk
  refine g_eq (L2 := [some (.ref (O.size + 55)), some (.int h)]) rfl rfl rfl ?_
  refine g_iload_n (pc := 0) X dX0_has_0 rfl rfl ?_
  refine g_if_lt (pc := 1) (tgt := 22) X dX0_has_1 (by decide) (fun hc_1 => ?_) (fun hc_1 => ?_)
  · refine g_iconst (pc := 22) (v := 0) X dX0_has_22 (by decide) ?_
    exact gm_zret (pc := 23) X hr hk dX0_has_23 (by first | exact Or.inl rfl | exact Or.inr rfl) (⟨(bi_f (by simp only [i_le, i_lt, i_0, i_8, nI_toInt (show nj < 2 ^ 31 by omega)] at *; omega)).symm, rfl⟩)
  · refine g_iload_n (pc := 4) X dX0_has_4 rfl rfl ?_
    refine g_aload_n (pc := 5) X dX0_has_5 rfl rfl ?_
    refine gm_getI (pc := 6) (j := 4) X 0 dX0_has_6 rfl (by decide) rfl xu_0 (by decide) rfl xw_252 rfl ?_
    refine g_icmp_ge (pc := 9) (tgt := 22) X dX0_has_9 (by decide) (fun hc_9 => ?_) (fun hc_9 => ?_)
    · refine g_iconst (pc := 22) (v := 0) X dX0_has_22 (by decide) ?_
      exact gm_zret (pc := 23) X hr hk dX0_has_23 (by first | exact Or.inl rfl | exact Or.inr rfl) (⟨(bi_f (by rw [h5] at hc_9; simp only [i_le, i_lt, i_0, i_8, nI_toInt (show nj < 2 ^ 31 by omega)] at *; omega)).symm, rfl⟩)
    · refine g_iload_n (pc := 12) X dX0_has_12 rfl rfl ?_
      refine g_bipush (pc := 13) (v := 8) X dX0_has_13 (by decide) ?_
      refine g_icmp_ge (pc := 15) (tgt := 22) X dX0_has_15 (by decide) (fun hc_15 => ?_) (fun hc_15 => ?_)
      · refine g_iconst (pc := 22) (v := 0) X dX0_has_22 (by decide) ?_
        exact gm_zret (pc := 23) X hr hk dX0_has_23 (by first | exact Or.inl rfl | exact Or.inr rfl) (⟨(bi_f (by rw [h5] at hc_9; simp only [i_le, i_lt, i_0, i_8, nI_toInt (show nj < 2 ^ 31 by omega)] at *; omega)).symm, rfl⟩)
      · refine g_iconst (pc := 18) (v := 1) X dX0_has_18 (by decide) ?_
        refine g_goto (pc := 19) (tgt := 23) X dX0_has_19 (by decide) ?_
        exact gm_zret (pc := 23) X hr hk dX0_has_23 (by first | exact Or.inl rfl | exact Or.inr rfl) (⟨(bi_t (by rw [h5] at hc_9; simp only [i_le, i_lt, i_0, i_8, nI_toInt (show nj < 2 ^ 31 by omega)] at *; omega)).symm, rfl⟩)

set_option maxRecDepth 100000 in
set_option maxHeartbeats 4000000 in
theorem c_hasNext (l : Launch) (G : xg_G) (O : Heap) (t : xT) (nj k : Nat) (hnj : nj ≤ 8) (h5 : t 55 4 = nI nj) (hk9 : k < 9) : xm l yX0_hasNext cX0_hasNext 2 (some .boolean) rmX0_hasNext G O t [.ref (O.size + 55), .int (nI k)] (xi (fun v t' => v = bi (k + 1 < nj) ∧ t' = t)) := by
  refine xm_enter (by decide) 0 rfl rfl ?_
  intro p e s m args below meth c X hr hk
  refine g_eq (L2 := [some (.ref (O.size + 55)), some (.int (nI k))]) rfl rfl rfl ?_
  refine g_iload_n (pc := 0) X dX0_hasNext_0 rfl rfl ?_
  refine g_if_lt (pc := 1) (tgt := 18) X dX0_hasNext_1 (by decide) (fun hc_1 => ?_) (fun hc_1 => ?_)
  · exact absurd hc_1 (nI_pos (by omega))
  · refine g_iload_n (pc := 4) X dX0_hasNext_4 rfl rfl ?_
    refine g_iconst (pc := 5) (v := 1) X dX0_hasNext_5 (by decide) ?_
    refine g_iadd (pc := 6) X dX0_hasNext_6 ?_
    refine g_aload_n (pc := 7) X dX0_hasNext_7 rfl rfl ?_
    refine gm_getI (pc := 8) (j := 4) X 0 dX0_hasNext_8 rfl (by decide) rfl xu_0 (by decide) rfl xw_252 rfl ?_
    refine g_icmp_ge (pc := 11) (tgt := 18) X dX0_hasNext_11 (by decide) (fun hc_11 => ?_) (fun hc_11 => ?_)
    · refine g_iconst (pc := 18) (v := 0) X dX0_hasNext_18 (by decide) ?_
      exact gm_zret (pc := 19) X hr hk dX0_hasNext_19 (by first | exact Or.inl rfl | exact Or.inr rfl) (⟨(bi_f (by rw [h5, nI_1] at hc_11; have := n_ge hc_11; omega)).symm, rfl⟩)
    · refine g_iconst (pc := 14) (v := 1) X dX0_hasNext_14 (by decide) ?_
      refine g_goto (pc := 15) (tgt := 19) X dX0_hasNext_15 (by decide) ?_
      exact gm_zret (pc := 19) X hr hk dX0_hasNext_19 (by first | exact Or.inl rfl | exact Or.inr rfl) (⟨(bi_t (by rw [h5, nI_1] at hc_11; exact n_gt hc_11)).symm, rfl⟩)

abbrev plC (t : xT) (k : Nat) : Int32 := t (68 + (t 57 k).toNatClampNeg) 2
abbrev gapC (t : xT) (k : Nat) : Int32 := plC t (k + 1) - (plC t k + 32)
theorem o_idx {t : xT} {nj k : Nat} (ho : ∀ k, k < nj → ∃ j, j < nj ∧ t 57 k = nI j) (hk : k < nj) (hnj : nj ≤ 8) : t 57 k = nI (t 57 k).toNatClampNeg ∧ (t 57 k).toNatClampNeg < nj := by
  obtain ⟨j, hj, e⟩ := ho k hk
  rw [e, nI_clamp (by omega)]
  exact ⟨rfl, hj⟩
set_option maxRecDepth 100000 in
set_option maxHeartbeats 4000000 in
theorem c_gapBehind (l : Launch) (G : xg_G) (O : Heap) (t : xT) (nj k : Nat) (hnj : nj ≤ 8) (h5 : t 55 4 = nI nj) (ho : ∀ k, k < nj → ∃ j, j < nj ∧ t 57 k = nI j) (hk : k + 1 < nj) : xm l yX0_gapBehind cX0_gapBehind 2 (some .int) rmX0_gapBehind G O t [.ref (O.size + 55), .int (nI k)] (xi (fun v t' => v = gapC t k ∧ t' = t)) := by
  refine xm_enter (by decide) 0 rfl rfl ?_
  intro p e s m args below meth c X hr hkk
  refine g_eq (L2 := [some (.ref (O.size + 55)), some (.int (nI k))]) rfl rfl rfl ?_
  obtain ⟨e1, l1⟩ := o_idx (k := k + 1) ho (by omega) hnj
  obtain ⟨e0, l0⟩ := o_idx (k := k) ho (by omega) hnj
  have b1 : (t 57 (k + 1)).toNatClampNeg < 8 := by omega
  have b0 : (t 57 (k)).toNatClampNeg < 8 := by omega
  refine g_aload_n (pc := 0) X dX0_gapBehind_0 rfl rfl ?_
  refine gm_getR (k' := 56) (pc := 1) (j := 0) X 0 dX0_gapBehind_1 rfl (by decide) rfl xu_0 (by decide) rfl xw_244 rfl rfl ?_
  refine g_aload_n (pc := 4) X dX0_gapBehind_4 rfl rfl ?_
  refine gm_getR (k' := 57) (pc := 5) (j := 1) X 0 dX0_gapBehind_5 rfl (by decide) rfl xu_0 (by decide) rfl xw_246 rfl rfl ?_
  refine g_iload_n (pc := 8) X dX0_gapBehind_8 rfl rfl ?_
  refine g_iconst (pc := 9) (v := 1) X dX0_gapBehind_9 (by decide) ?_
  refine g_iadd (pc := 10) X dX0_gapBehind_10 ?_
  refine gm_iald (pc := 11) X (k + 1) dX0_gapBehind_11 rfl (nI_1 k) (show k + 1 < 8 from by omega) (by decide) ?_
  refine gm_aald (pc := 12) (k' := (68 + ((t 57 (k + 1)).toNatClampNeg))) X 13 ((t 57 (k + 1)).toNatClampNeg) (.object "UnderText$Leaf") dX0_gapBehind_12 rfl (by decide) (by decide) rfl rfl e1 (show (t 57 (k + 1)).toNatClampNeg < 8 from by omega) (by decide) (kd_leaf ((t 57 (k + 1)).toNatClampNeg) b1).1 ?_
  refine gm_getI (pc := 13) (j := 2) X 3 dX0_gapBehind_13 (kd_leaf ((t 57 (k + 1)).toNatClampNeg) b1).2 (by decide) rfl xu_3 (by decide) rfl xw_157 rfl ?_
  refine g_aload_n (pc := 16) X dX0_gapBehind_16 rfl rfl ?_
  refine gm_getR (k' := 56) (pc := 17) (j := 0) X 0 dX0_gapBehind_17 rfl (by decide) rfl xu_0 (by decide) rfl xw_244 rfl rfl ?_
  refine g_aload_n (pc := 20) X dX0_gapBehind_20 rfl rfl ?_
  refine gm_getR (k' := 57) (pc := 21) (j := 1) X 0 dX0_gapBehind_21 rfl (by decide) rfl xu_0 (by decide) rfl xw_246 rfl rfl ?_
  refine g_iload_n (pc := 24) X dX0_gapBehind_24 rfl rfl ?_
  refine gm_iald (pc := 25) X (k) dX0_gapBehind_25 rfl rfl (show k < 8 from by omega) (by decide) ?_
  refine gm_aald (pc := 26) (k' := (68 + ((t 57 (k)).toNatClampNeg))) X 13 ((t 57 (k)).toNatClampNeg) (.object "UnderText$Leaf") dX0_gapBehind_26 rfl (by decide) (by decide) rfl rfl e0 (show (t 57 (k)).toNatClampNeg < 8 from by omega) (by decide) (kd_leaf ((t 57 (k)).toNatClampNeg) b0).1 ?_
  refine gm_getI (pc := 27) (j := 2) X 3 dX0_gapBehind_27 (kd_leaf ((t 57 (k)).toNatClampNeg) b0).2 (by decide) rfl xu_3 (by decide) rfl xw_157 rfl ?_
  refine g_bipush (pc := 30) (v := 32) X dX0_gapBehind_30 (by decide) ?_
  refine g_iadd (pc := 32) X dX0_gapBehind_32 ?_
  refine g_isub (pc := 33) X dX0_gapBehind_33 ?_
  exact gm_iret (pc := 34) X hr hkk dX0_gapBehind_34 (⟨rfl, rfl⟩)

/-- whether the k-th of nj leaves clashes with the next -/
abbrev clsP (t : xT) (nj k : Nat) : Prop := k + 1 < nj ∧ (gapC t k < 0 ∨ ¬ gapC t k - gapC t k / 32 * 32 = 0)
abbrev lstV (t : xT) (nj k : Nat) : Int32 := if k + 1 < nj ∧ ¬ clsP t nj k then gapC t k / 32 else -1
abbrev fsC (t : xT) (k : Nat) : Int32 := t (68 + (t 57 k).toNatClampNeg) 6
abbrev brkP (t : xT) (nj k : Nat) : Prop := lstV t nj k = 0 ∧ fsC t k = fsC t (k + 1)
set_option maxRecDepth 100000 in
set_option maxHeartbeats 4000000 in
theorem c_clashesBehind (l : Launch) (G : xg_G) (O : Heap) (t : xT) (nj k : Nat) (hnj : nj ≤ 8) (h5 : t 55 4 = nI nj) (ho : ∀ k, k < nj → ∃ j, j < nj ∧ t 57 k = nI j) (hk9 : k < 9) : xm l yX0_clashesBehind cX0_clashesBehind 2 (some .boolean) rmX0_clashesBehind G O t [.ref (O.size + 55), .int (nI k)] (xi (fun v t' => v = bi (clsP t nj k) ∧ t' = t)) := by
  refine xm_enter (by decide) 0 rfl rfl ?_
  intro p e s m args below meth c X hr hk
  refine g_eq (L2 := [some (.ref (O.size + 55)), some (.int (nI k))]) rfl rfl rfl ?_
  refine g_aload_n (pc := 0) X dX0_clashesBehind_0 rfl rfl ?_
  refine g_iload_n (pc := 1) X dX0_clashesBehind_1 rfl rfl ?_
  refine gm_Vi (pc := 2) X 0 xc_X0_101 (c_hasNext l G O _ nj k hnj h5 hk9) dX0_clashesBehind_2 rfl (by decide) rfl rfl rfl rfl (Nat.le_of_ble_eq_true rfl) (fun v_2 t_2 hp => ?_)
  obtain ⟨rfl, hq9⟩ := hp
  have hq9 := hq9.symm
  subst hq9
  refine g_if_eq (pc := 5) (tgt := 31) X dX0_clashesBehind_5 (by decide) (fun hc_5 => ?_) (fun hc_5 => ?_)
  · refine g_iconst (pc := 31) (v := 0) X dX0_clashesBehind_31 (by decide) ?_
    exact gm_zret (pc := 32) X hr hk dX0_clashesBehind_32 (by first | exact Or.inl rfl | exact Or.inr rfl) (⟨(bi_f (fun q => bi_0 hc_5 q.1)).symm, rfl⟩)
  · refine g_aload_n (pc := 8) X dX0_clashesBehind_8 rfl rfl ?_
    refine g_iload_n (pc := 9) X dX0_clashesBehind_9 rfl rfl ?_
    refine gm_Vi (pc := 10) X 0 xc_X0_105 (c_gapBehind l G O _ nj k hnj h5 ho (bi_1 hc_5)) dX0_clashesBehind_10 rfl (by decide) rfl rfl rfl rfl (Nat.le_of_ble_eq_true rfl) (fun v_10 t_10 hp => ?_)
    obtain ⟨rfl, hq9⟩ := hp
    have hq9 := hq9.symm
    subst hq9
    refine g_if_lt (pc := 13) (tgt := 27) X dX0_clashesBehind_13 (by decide) (fun hc_13 => ?_) (fun hc_13 => ?_)
    · refine g_iconst (pc := 27) (v := 1) X dX0_clashesBehind_27 (by decide) ?_
      refine g_goto (pc := 28) (tgt := 32) X dX0_clashesBehind_28 (by decide) ?_
      exact gm_zret (pc := 32) X hr hk dX0_clashesBehind_32 (by first | exact Or.inl rfl | exact Or.inr rfl) (⟨(bi_t ⟨bi_1 hc_5, Or.inl hc_13⟩).symm, rfl⟩)
    · refine g_aload_n (pc := 16) X dX0_clashesBehind_16 rfl rfl ?_
      refine g_iload_n (pc := 17) X dX0_clashesBehind_17 rfl rfl ?_
      refine gm_Vi (pc := 18) X 0 xc_X0_105 (c_gapBehind l G O _ nj k hnj h5 ho (bi_1 hc_5)) dX0_clashesBehind_18 rfl (by decide) rfl rfl rfl rfl (Nat.le_of_ble_eq_true rfl) (fun v_18 t_18 hp => ?_)
      obtain ⟨rfl, hq9⟩ := hp
      have hq9 := hq9.symm
      subst hq9
      refine g_bipush (pc := 21) (v := 32) X dX0_clashesBehind_21 (by decide) ?_
      refine g_irem (pc := 23) X dX0_clashesBehind_23 (by decide) ?_
      refine g_if_eq (pc := 24) (tgt := 31) X dX0_clashesBehind_24 (by decide) (fun hc_24 => ?_) (fun hc_24 => ?_)
      · refine g_iconst (pc := 31) (v := 0) X dX0_clashesBehind_31 (by decide) ?_
        exact gm_zret (pc := 32) X hr hk dX0_clashesBehind_32 (by first | exact Or.inl rfl | exact Or.inr rfl) (⟨(bi_f (fun q => by rcases q.2 with r | r; exact hc_13 r; exact r hc_24)).symm, rfl⟩)
      · refine g_iconst (pc := 27) (v := 1) X dX0_clashesBehind_27 (by decide) ?_
        refine g_goto (pc := 28) (tgt := 32) X dX0_clashesBehind_28 (by decide) ?_
        exact gm_zret (pc := 32) X hr hk dX0_clashesBehind_32 (by first | exact Or.inl rfl | exact Or.inr rfl) (⟨(bi_t ⟨bi_1 hc_5, Or.inr hc_24⟩).symm, rfl⟩)

set_option maxRecDepth 100000 in
set_option maxHeartbeats 4000000 in
theorem c_lostBehind (l : Launch) (G : xg_G) (O : Heap) (t : xT) (nj k : Nat) (hnj : nj ≤ 8) (h5 : t 55 4 = nI nj) (ho : ∀ k, k < nj → ∃ j, j < nj ∧ t 57 k = nI j) (hk9 : k < 9) : xm l yX0_lostBehind cX0_lostBehind 2 (some .int) rmX0_lostBehind G O t [.ref (O.size + 55), .int (nI k)] (xi (fun v t' => v = lstV t nj k ∧ t' = t)) := by
  refine xm_enter (by decide) 0 rfl rfl ?_
  intro p e s m args below meth c X hr hk
  refine g_eq (L2 := [some (.ref (O.size + 55)), some (.int (nI k))]) rfl rfl rfl ?_
  refine g_aload_n (pc := 0) X dX0_lostBehind_0 rfl rfl ?_
  refine g_iload_n (pc := 1) X dX0_lostBehind_1 rfl rfl ?_
  refine gm_Vi (pc := 2) X 0 xc_X0_101 (c_hasNext l G O _ nj k hnj h5 hk9) dX0_lostBehind_2 rfl (by decide) rfl rfl rfl rfl (Nat.le_of_ble_eq_true rfl) (fun v_2 t_2 hp => ?_)
  obtain ⟨rfl, hq9⟩ := hp
  have hq9 := hq9.symm
  subst hq9
  refine g_if_eq (pc := 5) (tgt := 16) X dX0_lostBehind_5 (by decide) (fun hc_5 => ?_) (fun hc_5 => ?_)
  · refine g_iconst (pc := 16) (v := (-1)) X dX0_lostBehind_16 (by decide) ?_
    refine g_goto (pc := 17) (tgt := 28) X dX0_lostBehind_17 (by decide) ?_
    exact gm_iret (pc := 28) X hr hk dX0_lostBehind_28 (⟨(if_neg (fun q => bi_0 hc_5 q.1)).symm, rfl⟩)
  · refine g_aload_n (pc := 8) X dX0_lostBehind_8 rfl rfl ?_
    refine g_iload_n (pc := 9) X dX0_lostBehind_9 rfl rfl ?_
    refine gm_Vi (pc := 10) X 0 xc_X0_108 (c_clashesBehind l G O _ nj k hnj h5 ho hk9) dX0_lostBehind_10 rfl (by decide) rfl rfl rfl rfl (Nat.le_of_ble_eq_true rfl) (fun v_10 t_10 hp => ?_)
    obtain ⟨rfl, hq9⟩ := hp
    have hq9 := hq9.symm
    subst hq9
    refine g_if_eq (pc := 13) (tgt := 20) X dX0_lostBehind_13 (by decide) (fun hc_13 => ?_) (fun hc_13 => ?_)
    · refine g_aload_n (pc := 20) X dX0_lostBehind_20 rfl rfl ?_
      refine g_iload_n (pc := 21) X dX0_lostBehind_21 rfl rfl ?_
      refine gm_Vi (pc := 22) X 0 xc_X0_105 (c_gapBehind l G O _ nj k hnj h5 ho (bi_1 hc_5)) dX0_lostBehind_22 rfl (by decide) rfl rfl rfl rfl (Nat.le_of_ble_eq_true rfl) (fun v_22 t_22 hp => ?_)
      obtain ⟨rfl, hq9⟩ := hp
      have hq9 := hq9.symm
      subst hq9
      refine g_bipush (pc := 25) (v := 32) X dX0_lostBehind_25 (by decide) ?_
      refine g_idiv (pc := 27) X dX0_lostBehind_27 (by decide) ?_
      exact gm_iret (pc := 28) X hr hk dX0_lostBehind_28 (⟨(if_pos ⟨bi_1 hc_5, bi_0 hc_13⟩).symm, rfl⟩)
    · refine g_iconst (pc := 16) (v := (-1)) X dX0_lostBehind_16 (by decide) ?_
      refine g_goto (pc := 17) (tgt := 28) X dX0_lostBehind_17 (by decide) ?_
      exact gm_iret (pc := 28) X hr hk dX0_lostBehind_28 (⟨(if_neg (fun q => q.2 (bi_1 hc_13))).symm, rfl⟩)

set_option maxRecDepth 100000 in
set_option maxHeartbeats 4000000 in
theorem c_breaksBehind (l : Launch) (G : xg_G) (O : Heap) (t : xT) (nj k : Nat) (hnj : nj ≤ 8) (h5 : t 55 4 = nI nj) (ho : ∀ k, k < nj → ∃ j, j < nj ∧ t 57 k = nI j) (hk9 : k < 9) : xm l yX0_breaksBehind cX0_breaksBehind 2 (some .boolean) rmX0_breaksBehind G O t [.ref (O.size + 55), .int (nI k)] (xi (fun v t' => v = bi (brkP t nj k) ∧ t' = t)) := by
  refine xm_enter (by decide) 0 rfl rfl ?_
  intro p e s m args below meth c X hr hk
  refine g_eq (L2 := [some (.ref (O.size + 55)), some (.int (nI k))]) rfl rfl rfl ?_
  refine g_aload_n (pc := 0) X dX0_breaksBehind_0 rfl rfl ?_
  refine g_iload_n (pc := 1) X dX0_breaksBehind_1 rfl rfl ?_
  refine gm_Vi (pc := 2) X 0 xc_X0_111 (c_lostBehind l G O _ nj k hnj h5 ho hk9) dX0_breaksBehind_2 rfl (by decide) rfl rfl rfl rfl (Nat.le_of_ble_eq_true rfl) (fun v_2 t_2 hp => ?_)
  obtain ⟨rfl, hq9⟩ := hp
  have hq9 := hq9.symm
  subst hq9
  refine g_if_ne (pc := 5) (tgt := 45) X dX0_breaksBehind_5 (by decide) (fun hc_5 => ?_) (fun hc_5 => ?_)
  · refine g_iconst (pc := 45) (v := 0) X dX0_breaksBehind_45 (by decide) ?_
    exact gm_zret (pc := 46) X hr hk dX0_breaksBehind_46 (by first | exact Or.inl rfl | exact Or.inr rfl) (⟨(bi_f (fun q => hc_5 q.1)).symm, rfl⟩)
  · have hkl : k + 1 < nj := by rcases Nat.lt_or_ge (k + 1) nj with q | q; exact q; rw [show lstV t nj k = -1 from if_neg (by omega)] at hc_5; exact absurd hc_5 (by decide)
    obtain ⟨e1, l1⟩ := o_idx (k := k + 1) ho (by omega) hnj
    obtain ⟨e0, l0⟩ := o_idx (k := k) ho (by omega) hnj
    have b1 : (t 57 (k + 1)).toNatClampNeg < 8 := by omega
    have b0 : (t 57 (k)).toNatClampNeg < 8 := by omega
    refine g_aload_n (pc := 8) X dX0_breaksBehind_8 rfl rfl ?_
    refine gm_getR (k' := 56) (pc := 9) (j := 0) X 0 dX0_breaksBehind_9 rfl (by decide) rfl xu_0 (by decide) rfl xw_244 rfl rfl ?_
    refine g_aload_n (pc := 12) X dX0_breaksBehind_12 rfl rfl ?_
    refine gm_getR (k' := 57) (pc := 13) (j := 1) X 0 dX0_breaksBehind_13 rfl (by decide) rfl xu_0 (by decide) rfl xw_246 rfl rfl ?_
    refine g_iload_n (pc := 16) X dX0_breaksBehind_16 rfl rfl ?_
    refine gm_iald (pc := 17) X (k) dX0_breaksBehind_17 rfl rfl (show k < 8 from by omega) (by decide) ?_
    refine gm_aald (pc := 18) (k' := (68 + ((t 57 (k)).toNatClampNeg))) X 13 ((t 57 (k)).toNatClampNeg) (.object "UnderText$Leaf") dX0_breaksBehind_18 rfl (by decide) (by decide) rfl rfl e0 (show (t 57 (k)).toNatClampNeg < 8 from by omega) (by decide) (kd_leaf ((t 57 (k)).toNatClampNeg) b0).1 ?_
    refine gm_getI (pc := 19) (j := 6) X 3 dX0_breaksBehind_19 (kd_leaf ((t 57 (k)).toNatClampNeg) b0).2 (by decide) rfl xu_3 (by decide) rfl xw_173 rfl ?_
    refine g_aload_n (pc := 22) X dX0_breaksBehind_22 rfl rfl ?_
    refine gm_getR (k' := 56) (pc := 23) (j := 0) X 0 dX0_breaksBehind_23 rfl (by decide) rfl xu_0 (by decide) rfl xw_244 rfl rfl ?_
    refine g_aload_n (pc := 26) X dX0_breaksBehind_26 rfl rfl ?_
    refine gm_getR (k' := 57) (pc := 27) (j := 1) X 0 dX0_breaksBehind_27 rfl (by decide) rfl xu_0 (by decide) rfl xw_246 rfl rfl ?_
    refine g_iload_n (pc := 30) X dX0_breaksBehind_30 rfl rfl ?_
    refine g_iconst (pc := 31) (v := 1) X dX0_breaksBehind_31 (by decide) ?_
    refine g_iadd (pc := 32) X dX0_breaksBehind_32 ?_
    refine gm_iald (pc := 33) X (k + 1) dX0_breaksBehind_33 rfl (nI_1 k) (show k + 1 < 8 from by omega) (by decide) ?_
    refine gm_aald (pc := 34) (k' := (68 + ((t 57 (k + 1)).toNatClampNeg))) X 13 ((t 57 (k + 1)).toNatClampNeg) (.object "UnderText$Leaf") dX0_breaksBehind_34 rfl (by decide) (by decide) rfl rfl e1 (show (t 57 (k + 1)).toNatClampNeg < 8 from by omega) (by decide) (kd_leaf ((t 57 (k + 1)).toNatClampNeg) b1).1 ?_
    refine gm_getI (pc := 35) (j := 6) X 3 dX0_breaksBehind_35 (kd_leaf ((t 57 (k + 1)).toNatClampNeg) b1).2 (by decide) rfl xu_3 (by decide) rfl xw_173 rfl ?_
    refine g_icmp_ne (pc := 38) (tgt := 45) X dX0_breaksBehind_38 (by decide) (fun hc_38 => ?_) (fun hc_38 => ?_)
    · refine g_iconst (pc := 45) (v := 0) X dX0_breaksBehind_45 (by decide) ?_
      exact gm_zret (pc := 46) X hr hk dX0_breaksBehind_46 (by first | exact Or.inl rfl | exact Or.inr rfl) (⟨(bi_f (fun q => hc_38 q.2)).symm, rfl⟩)
    · refine g_iconst (pc := 41) (v := 1) X dX0_breaksBehind_41 (by decide) ?_
      refine g_goto (pc := 42) (tgt := 46) X dX0_breaksBehind_42 (by decide) ?_
      exact gm_zret (pc := 46) X hr hk dX0_breaksBehind_46 (by first | exact Or.inl rfl | exact Or.inr rfl) (⟨(bi_t ⟨hc_5, hc_38⟩).symm, rfl⟩)

def sm (f : Nat → Int32) : Nat → Int32
  | 0 => 0
  | n + 1 => sm f n + f n
theorem sm_cong {f g : Nat → Int32} : ∀ {n : Nat}, (∀ k, k < n → f k = g k) → sm f n = sm g n
  | 0, _ => rfl
  | n + 1, h => by rw [sm.eq_2, sm.eq_2, sm_cong (n := n) (fun k hk => h k (by omega)), h n (by omega)]
set_option maxRecDepth 100000 in
set_option maxHeartbeats 4000000 in
theorem c_allQuarrels (l : Launch) (G : xg_G) (O : Heap) (t : xT) (nj : Nat) (hnj : nj ≤ 8) (h5 : t 55 4 = nI nj) : xm l yX0_allQuarrels cX0_allQuarrels 3 (some .int) rmX0_allQuarrels G O t [.ref (O.size + 55)] (xi (fun v t' => v = sm (fun k => t (68 + k) 3) nj ∧ t' = t)) := by
  refine xm_enter (by decide) 2 rfl rfl ?_
  intro p e s m args below meth c X hr hk
  refine g_eq (L2 := [some (.ref (O.size + 55)), none, none]) rfl rfl rfl ?_
  have loop : ∀ (z9 : Nat) (k : Nat) (xk : Int32) (xs : Int32), nj - k < z9 → xk = nI k → xs = sm (fun k => t (68 + k) 3) k → k ≤ nj → gm p l e rmX0_allQuarrels s m args below meth c 3 G O (xmQ below G O (xi (fun v t' => v = sm (fun k => t (68 + k) 3) nj ∧ t' = t)) args s) (t) [some (.ref (O.size + 55)), some (.int (xs)), some (.int (xk))] 4 [] := by
    intro z9
    induction z9 with
    | zero => intro k xk xs h9; exact absurd h9 (Nat.not_lt_zero _)
    | succ z9 ih =>
      intro k xk xs h9 hxk hxs hkn
      subst hxk
      refine g_iload_n (pc := 4) X dX0_allQuarrels_4 rfl rfl ?_
      refine g_aload_n (pc := 5) X dX0_allQuarrels_5 rfl rfl ?_
      refine gm_getI (pc := 6) (j := 4) X 0 dX0_allQuarrels_6 rfl (by decide) rfl xu_0 (by decide) rfl xw_252 rfl ?_
      refine g_icmp_ge (pc := 9) (tgt := 30) X dX0_allQuarrels_9 (by decide) (fun hc_9 => ?_) (fun hc_9 => ?_)
      · refine g_iload_n (pc := 30) X dX0_allQuarrels_30 rfl rfl ?_
        exact gm_iret (pc := 31) X hr hk dX0_allQuarrels_31 (⟨by rw [h5] at hc_9; rw [hxs, show k = nj by have := n_ge hc_9; omega], rfl⟩)
      · have hkl : k < nj := by rw [h5] at hc_9; exact n_gt hc_9
        refine g_iload_n (pc := 12) X dX0_allQuarrels_12 rfl rfl ?_
        refine g_aload_n (pc := 13) X dX0_allQuarrels_13 rfl rfl ?_
        refine gm_getR (k' := 56) (pc := 14) (j := 0) X 0 dX0_allQuarrels_14 rfl (by decide) rfl xu_0 (by decide) rfl xw_244 rfl rfl ?_
        refine g_iload_n (pc := 17) X dX0_allQuarrels_17 rfl rfl ?_
        refine gm_aald (pc := 18) (k' := (68 + k)) X 13 (k) (.object "UnderText$Leaf") dX0_allQuarrels_18 rfl (by decide) (by decide) rfl rfl rfl (show k < 8 from by omega) (by decide) (kd_leaf k (by omega)).1 ?_
        refine gm_getI (pc := 19) (j := 3) X 3 dX0_allQuarrels_19 (kd_leaf k (show k < 8 by omega)).2 (by decide) rfl xu_3 (by decide) rfl xw_164 rfl ?_
        refine g_iadd (pc := 22) X dX0_allQuarrels_22 ?_
        refine g_istore_n (pc := 23) X dX0_allQuarrels_23 rfl (by decide) ?_
        refine g_inc (pc := 24) (kv := 1) X dX0_allQuarrels_24 (by decide) rfl (by decide) ?_
        refine g_goto (pc := 27) (tgt := 4) X dX0_allQuarrels_27 (by decide) ?_
        exact ih (k + 1) _ _ (by omega) (nI_1 k) (by rw [hxs, sm.eq_2]) (by omega)
  refine g_iconst (pc := 0) (v := 0) X dX0_allQuarrels_0 (by decide) ?_
  refine g_istore_n (pc := 1) X dX0_allQuarrels_1 rfl (by decide) ?_
  refine g_iconst (pc := 2) (v := 0) X dX0_allQuarrels_2 (by decide) ?_
  refine g_istore_n (pc := 3) X dX0_allQuarrels_3 rfl (by decide) ?_
  exact loop (nj + 1) 0 _ _ (by omega) nI_0.symm rfl (Nat.zero_le _)

set_option maxRecDepth 100000 in
set_option maxHeartbeats 4000000 in
theorem c_clashes (l : Launch) (G : xg_G) (O : Heap) (t : xT) (nj : Nat) (hnj : nj ≤ 8) (h5 : t 55 4 = nI nj) (ho : ∀ k, k < nj → ∃ j, j < nj ∧ t 57 k = nI j) : xm l yX0_clashes cX0_clashes 3 (some .int) rmX0_clashes G O t [.ref (O.size + 55)] (xi (fun v t' => v = sm (fun k => bi (clsP t nj k)) nj ∧ t' = t)) := by
  refine xm_enter (by decide) 2 rfl rfl ?_
  intro p e s m args below meth c X hr hk
  refine g_eq (L2 := [some (.ref (O.size + 55)), none, none]) rfl rfl rfl ?_
  have loop : ∀ (z9 : Nat) (k : Nat) (xk : Int32) (xs : Int32), nj - k < z9 → xk = nI k → xs = sm (fun k => bi (clsP t nj k)) k → k ≤ nj → gm p l e rmX0_clashes s m args below meth c 3 G O (xmQ below G O (xi (fun v t' => v = sm (fun k => bi (clsP t nj k)) nj ∧ t' = t)) args s) (t) [some (.ref (O.size + 55)), some (.int (xs)), some (.int (xk))] 4 [] := by
    intro z9
    induction z9 with
    | zero => intro k xk xs h9; exact absurd h9 (Nat.not_lt_zero _)
    | succ z9 ih =>
      intro k xk xs h9 hxk hxs hkn
      subst hxk
      refine g_iload_n (pc := 4) X dX0_clashes_4 rfl rfl ?_
      refine g_aload_n (pc := 5) X dX0_clashes_5 rfl rfl ?_
      refine gm_getI (pc := 6) (j := 4) X 0 dX0_clashes_6 rfl (by decide) rfl xu_0 (by decide) rfl xw_252 rfl ?_
      refine g_icmp_ge (pc := 9) (tgt := 34) X dX0_clashes_9 (by decide) (fun hc_9 => ?_) (fun hc_9 => ?_)
      · refine g_iload_n (pc := 34) X dX0_clashes_34 rfl rfl ?_
        exact gm_iret (pc := 35) X hr hk dX0_clashes_35 (⟨by rw [h5] at hc_9; rw [hxs, show k = nj by have := n_ge hc_9; omega], rfl⟩)
      · have hkl : k < nj := by rw [h5] at hc_9; exact n_gt hc_9
        refine g_iload_n (pc := 12) X dX0_clashes_12 rfl rfl ?_
        refine g_aload_n (pc := 13) X dX0_clashes_13 rfl rfl ?_
        refine g_iload_n (pc := 14) X dX0_clashes_14 rfl rfl ?_
        refine gm_Vi (pc := 15) X 0 xc_X0_108 (c_clashesBehind l G O _ nj k hnj h5 ho (by omega)) dX0_clashes_15 rfl (by decide) rfl rfl rfl rfl (Nat.le_of_ble_eq_true rfl) (fun v_15 t_15 hp => ?_)
        obtain ⟨rfl, hq9⟩ := hp
        have hq9 := hq9.symm
        subst hq9
        refine g_if_eq (pc := 18) (tgt := 25) X dX0_clashes_18 (by decide) (fun hc_18 => ?_) (fun hc_18 => ?_)
        · refine g_iconst (pc := 25) (v := 0) X dX0_clashes_25 (by decide) ?_
          refine g_iadd (pc := 26) X dX0_clashes_26 ?_
          refine g_istore_n (pc := 27) X dX0_clashes_27 rfl (by decide) ?_
          refine g_inc (pc := 28) (kv := 1) X dX0_clashes_28 (by decide) rfl (by decide) ?_
          refine g_goto (pc := 31) (tgt := 4) X dX0_clashes_31 (by decide) ?_
          exact ih (k + 1) _ _ (by omega) (nI_1 k) (by rw [hxs, sm.eq_2, bi_f (bi_0 hc_18)]) (by omega)
        · refine g_iconst (pc := 21) (v := 1) X dX0_clashes_21 (by decide) ?_
          refine g_goto (pc := 22) (tgt := 26) X dX0_clashes_22 (by decide) ?_
          refine g_iadd (pc := 26) X dX0_clashes_26 ?_
          refine g_istore_n (pc := 27) X dX0_clashes_27 rfl (by decide) ?_
          refine g_inc (pc := 28) (kv := 1) X dX0_clashes_28 (by decide) rfl (by decide) ?_
          refine g_goto (pc := 31) (tgt := 4) X dX0_clashes_31 (by decide) ?_
          exact ih (k + 1) _ _ (by omega) (nI_1 k) (by rw [hxs, sm.eq_2, bi_t (bi_1 hc_18)]) (by omega)
  refine g_iconst (pc := 0) (v := 0) X dX0_clashes_0 (by decide) ?_
  refine g_istore_n (pc := 1) X dX0_clashes_1 rfl (by decide) ?_
  refine g_iconst (pc := 2) (v := 0) X dX0_clashes_2 (by decide) ?_
  refine g_istore_n (pc := 3) X dX0_clashes_3 rfl (by decide) ?_
  exact loop (nj + 1) 0 _ _ (by omega) nI_0.symm rfl (Nat.zero_le _)

set_option maxRecDepth 100000 in
set_option maxHeartbeats 4000000 in
theorem c_breaks (l : Launch) (G : xg_G) (O : Heap) (t : xT) (nj : Nat) (hnj : nj ≤ 8) (h5 : t 55 4 = nI nj) (ho : ∀ k, k < nj → ∃ j, j < nj ∧ t 57 k = nI j) : xm l yX0_breaks cX0_breaks 3 (some .int) rmX0_breaks G O t [.ref (O.size + 55)] (xi (fun v t' => v = sm (fun k => bi (brkP t nj k)) nj ∧ t' = t)) := by
  refine xm_enter (by decide) 2 rfl rfl ?_
  intro p e s m args below meth c X hr hk
  refine g_eq (L2 := [some (.ref (O.size + 55)), none, none]) rfl rfl rfl ?_
  have loop : ∀ (z9 : Nat) (k : Nat) (xk : Int32) (xs : Int32), nj - k < z9 → xk = nI k → xs = sm (fun k => bi (brkP t nj k)) k → k ≤ nj → gm p l e rmX0_breaks s m args below meth c 3 G O (xmQ below G O (xi (fun v t' => v = sm (fun k => bi (brkP t nj k)) nj ∧ t' = t)) args s) (t) [some (.ref (O.size + 55)), some (.int (xs)), some (.int (xk))] 4 [] := by
    intro z9
    induction z9 with
    | zero => intro k xk xs h9; exact absurd h9 (Nat.not_lt_zero _)
    | succ z9 ih =>
      intro k xk xs h9 hxk hxs hkn
      subst hxk
      refine g_iload_n (pc := 4) X dX0_breaks_4 rfl rfl ?_
      refine g_aload_n (pc := 5) X dX0_breaks_5 rfl rfl ?_
      refine gm_getI (pc := 6) (j := 4) X 0 dX0_breaks_6 rfl (by decide) rfl xu_0 (by decide) rfl xw_252 rfl ?_
      refine g_icmp_ge (pc := 9) (tgt := 34) X dX0_breaks_9 (by decide) (fun hc_9 => ?_) (fun hc_9 => ?_)
      · refine g_iload_n (pc := 34) X dX0_breaks_34 rfl rfl ?_
        exact gm_iret (pc := 35) X hr hk dX0_breaks_35 (⟨by rw [h5] at hc_9; rw [hxs, show k = nj by have := n_ge hc_9; omega], rfl⟩)
      · have hkl : k < nj := by rw [h5] at hc_9; exact n_gt hc_9
        refine g_iload_n (pc := 12) X dX0_breaks_12 rfl rfl ?_
        refine g_aload_n (pc := 13) X dX0_breaks_13 rfl rfl ?_
        refine g_iload_n (pc := 14) X dX0_breaks_14 rfl rfl ?_
        refine gm_Vi (pc := 15) X 0 xc_X0_120 (c_breaksBehind l G O _ nj k hnj h5 ho (by omega)) dX0_breaks_15 rfl (by decide) rfl rfl rfl rfl (Nat.le_of_ble_eq_true rfl) (fun v_15 t_15 hp => ?_)
        obtain ⟨rfl, hq9⟩ := hp
        have hq9 := hq9.symm
        subst hq9
        refine g_if_eq (pc := 18) (tgt := 25) X dX0_breaks_18 (by decide) (fun hc_18 => ?_) (fun hc_18 => ?_)
        · refine g_iconst (pc := 25) (v := 0) X dX0_breaks_25 (by decide) ?_
          refine g_iadd (pc := 26) X dX0_breaks_26 ?_
          refine g_istore_n (pc := 27) X dX0_breaks_27 rfl (by decide) ?_
          refine g_inc (pc := 28) (kv := 1) X dX0_breaks_28 (by decide) rfl (by decide) ?_
          refine g_goto (pc := 31) (tgt := 4) X dX0_breaks_31 (by decide) ?_
          exact ih (k + 1) _ _ (by omega) (nI_1 k) (by rw [hxs, sm.eq_2, bi_f (bi_0 hc_18)]) (by omega)
        · refine g_iconst (pc := 21) (v := 1) X dX0_breaks_21 (by decide) ?_
          refine g_goto (pc := 22) (tgt := 26) X dX0_breaks_22 (by decide) ?_
          refine g_iadd (pc := 26) X dX0_breaks_26 ?_
          refine g_istore_n (pc := 27) X dX0_breaks_27 rfl (by decide) ?_
          refine g_inc (pc := 28) (kv := 1) X dX0_breaks_28 (by decide) rfl (by decide) ?_
          refine g_goto (pc := 31) (tgt := 4) X dX0_breaks_31 (by decide) ?_
          exact ih (k + 1) _ _ (by omega) (nI_1 k) (by rw [hxs, sm.eq_2, bi_t (bi_1 hc_18)]) (by omega)
  refine g_iconst (pc := 0) (v := 0) X dX0_breaks_0 (by decide) ?_
  refine g_istore_n (pc := 1) X dX0_breaks_1 rfl (by decide) ?_
  refine g_iconst (pc := 2) (v := 0) X dX0_breaks_2 (by decide) ?_
  refine g_istore_n (pc := 3) X dX0_breaks_3 rfl (by decide) ?_
  exact loop (nj + 1) 0 _ _ (by omega) nI_0.symm rfl (Nat.zero_le _)

set_option maxRecDepth 100000 in
set_option maxHeartbeats 4000000 in
theorem c_allLost (l : Launch) (G : xg_G) (O : Heap) (t : xT) (nj : Nat) (hnj : nj ≤ 8) (h5 : t 55 4 = nI nj) (ho : ∀ k, k < nj → ∃ j, j < nj ∧ t 57 k = nI j) : xm l yX0_allLost cX0_allLost 3 (some .int) rmX0_allLost G O t [.ref (O.size + 55)] (xi (fun v t' => v = sm (fun k => if 0 < lstV t nj k then lstV t nj k else 0) nj ∧ t' = t)) := by
  refine xm_enter (by decide) 2 rfl rfl ?_
  intro p e s m args below meth c X hr hk
  refine g_eq (L2 := [some (.ref (O.size + 55)), none, none]) rfl rfl rfl ?_
  have loop : ∀ (z9 : Nat) (k : Nat) (xk : Int32) (xs : Int32), nj - k < z9 → xk = nI k → xs = sm (fun k => if 0 < lstV t nj k then lstV t nj k else 0) k → k ≤ nj → gm p l e rmX0_allLost s m args below meth c 3 G O (xmQ below G O (xi (fun v t' => v = sm (fun k => if 0 < lstV t nj k then lstV t nj k else 0) nj ∧ t' = t)) args s) (t) [some (.ref (O.size + 55)), some (.int (xs)), some (.int (xk))] 4 [] := by
    intro z9
    induction z9 with
    | zero => intro k xk xs h9; exact absurd h9 (Nat.not_lt_zero _)
    | succ z9 ih =>
      intro k xk xs h9 hxk hxs hkn
      subst hxk
      refine g_iload_n (pc := 4) X dX0_allLost_4 rfl rfl ?_
      refine g_aload_n (pc := 5) X dX0_allLost_5 rfl rfl ?_
      refine gm_getI (pc := 6) (j := 4) X 0 dX0_allLost_6 rfl (by decide) rfl xu_0 (by decide) rfl xw_252 rfl ?_
      refine g_icmp_ge (pc := 9) (tgt := 30) X dX0_allLost_9 (by decide) (fun hc_9 => ?_) (fun hc_9 => ?_)
      · refine g_iload_n (pc := 30) X dX0_allLost_30 rfl rfl ?_
        exact gm_iret (pc := 31) X hr hk dX0_allLost_31 (⟨by rw [h5] at hc_9; rw [hxs, show k = nj by have := n_ge hc_9; omega], rfl⟩)
      · have hkl : k < nj := by rw [h5] at hc_9; exact n_gt hc_9
        refine g_iload_n (pc := 12) X dX0_allLost_12 rfl rfl ?_
        refine g_iconst (pc := 13) (v := 0) X dX0_allLost_13 (by decide) ?_
        refine g_aload_n (pc := 14) X dX0_allLost_14 rfl rfl ?_
        refine g_iload_n (pc := 15) X dX0_allLost_15 rfl rfl ?_
        refine gm_Vi (pc := 16) X 0 xc_X0_111 (c_lostBehind l G O _ nj k hnj h5 ho (by omega)) dX0_allLost_16 rfl (by decide) rfl rfl rfl rfl (Nat.le_of_ble_eq_true rfl) (fun v_16 t_16 hp => ?_)
        obtain ⟨rfl, hq9⟩ := hp
        have hq9 := hq9.symm
        subst hq9
        refine g_max (pc := 19) X dX0_allLost_19 xw_584 xw_374 xw_44 xw_375 (by decide) (Nat.le_of_ble_eq_true rfl) (Nat.zero_le _) (Nat.zero_le _) ?_
        refine g_iadd (pc := 22) X dX0_allLost_22 ?_
        refine g_istore_n (pc := 23) X dX0_allLost_23 rfl (by decide) ?_
        refine g_inc (pc := 24) (kv := 1) X dX0_allLost_24 (by decide) rfl (by decide) ?_
        refine g_goto (pc := 27) (tgt := 4) X dX0_allLost_27 (by decide) ?_
        exact ih (k + 1) _ _ (by omega) (nI_1 k) (by rw [hxs, sm.eq_2]) (by omega)
  refine g_iconst (pc := 0) (v := 0) X dX0_allLost_0 (by decide) ?_
  refine g_istore_n (pc := 1) X dX0_allLost_1 rfl (by decide) ?_
  refine g_iconst (pc := 2) (v := 0) X dX0_allLost_2 (by decide) ?_
  refine g_istore_n (pc := 3) X dX0_allLost_3 rfl (by decide) ?_
  exact loop (nj + 1) 0 _ _ (by omega) nI_0.symm rfl (Nat.zero_le _)

