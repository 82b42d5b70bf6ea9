/-! 04b: Scale, second part -/
section XE2
variable {z : Prop} {p : Program} {l : Launch} {e : Env} {R : Room} {s : State} {m : MethodId} {args : Array Value} {below : List Frame} {meth : Method} {c : Code} {nL : Nat} {G : xg_G} {O : Heap} {cells slots : Nat} {Q : State → Prop} {n : Nat} {w : Nat → va_E} {L : List (Option Value)} {pc : Nat} {st : List Value}
/-- forget a local -/
theorem g_wk (i : Nat) (kk : gv z p l e R s m args below meth c nL G O cells slots Q n w (L.set i none) pc st) : gv z p l e R s m args below meth c nL G O cells slots Q n w L pc st := by
  intro H ls locs hl hh hz hq
  refine kk H ls locs ⟨hl.1, hl.2.1, by rw [List.length_set]; exact hl.2.2.1, fun j v hj => ?_⟩ hh hz hq
  by_cases hji : j = i
  · subst hji
    rw [List.getElem?_set] at hj
    split at hj
    · split at hj
      · cases hj
      · cases hj
    · exact hl.2.2.2 j v hj
  · rw [List.getElem?_set_ne (Ne.symm hji)] at hj
    exact hl.2.2.2 j v hj
end XE2
theorem gm_st {p : Program} {l : Launch} {e : Env} {R : Room} {s : State} {m : MethodId} {args : Array Value} {below : List Frame} {meth : Method} {c : Code} {nL : Nat} {G : xg_G} {O : Heap} {Q : State → Prop} {t t2 : xT} {L L2 : List (Option Value)} {pc : Nat} {st : List Value} (h : t = t2) (hL : L = L2) (kk : gm p l e R s m args below meth c nL G O Q t2 L2 pc st) : gm p l e R s m args below meth c nL G O Q t L pc st := by
  subst h; subst hL; exact kk
def xw1 (t : xT) (pl k : Nat) : xT := xrow (xrow t (26 + (2 * k + 0)) pl (t (9 + 2 * k)) (t 5) 0 16) (26 + (2 * k + 1)) pl (t (9 + 2 * k)) (t 5) 1 16
def xwa (t : xT) (pl : Nat) : Nat → xT
  | 0 => t
  | n + 1 => xw1 (xwa t pl n) pl n
theorem xw1_ne (t : xT) {pl k x : Nat} (h : x < 26 + 2 * k ∨ 26 + (2 * k + 1) < x) : xw1 t pl k x = t x := by
  unfold xw1
  rw [xrow_ne1 _ _ _ _ _ _ (by omega), xrow_ne1 _ _ _ _ _ _ (by omega)]
theorem xw1_row (t : xT) {pl k q y : Nat} (hq : q < 2) (hpl : pl ≤ 129) (hy : y < pl) : xw1 t pl k (26 + (2 * k + q)) y = nI (qn (t (9 + 2 * k)) (t 5) q y 16) := by
  unfold xw1
  rcases (show q = 0 ∨ q = 1 by omega) with rfl | rfl
  · rw [xrow_ne1 _ _ _ _ _ _ (by omega)]
    simp [xrow, hy, show y < 129 by omega]
  · simp [xrow, hy, show y < 129 by omega]
theorem xwa_ne (t : xT) {pl x : Nat} : ∀ {n : Nat}, (x < 26 ∨ 26 + 2 * n ≤ x) → xwa t pl n x = t x
  | 0, _ => rfl
  | n + 1, h => by
    unfold xwa
    rw [xw1_ne _ (by omega), xwa_ne t (n := n) (by omega)]
theorem xwa_row (t : xT) {pl k q y : Nat} (hq : q < 2) (hpl : pl ≤ 129) (hy : y < pl) : ∀ {n : Nat}, k < n → n ≤ 8 → xwa t pl n (26 + (2 * k + q)) y = nI (qn (t (9 + 2 * k)) (t 5) q y 16)
  | 0, h, _ => absurd h (Nat.not_lt_zero k)
  | n + 1, h, h8 => by
    unfold xwa
    by_cases e : k = n
    · subst e
      rw [xw1_row _ hq hpl hy, xwa_ne t (n := k) (x := 9 + 2 * k) (by omega), xwa_ne t (n := k) (x := 5) (by omega)]
    · rw [xw1_ne _ (by omega), xwa_row t hq hpl hy (n := n) (by omega) (by omega)]
theorem tw_t {u l : Int32} {f : Nat → Int32} {n : Nat} {b : B4} (h : (tw u l f n b).2.2.2 = -1 ∨ f n < (tw u l f n b).2.2.2) : (u, l, nI n, f n) = tw u l f (n + 1) b := by
  conv => rhs; unfold tw
  rw [if_pos h]
theorem tw_f {u l : Int32} {f : Nat → Int32} {n : Nat} {b : B4} (h : ¬ ((tw u l f n b).2.2.2 = -1 ∨ f n < (tw u l f n b).2.2.2)) : tw u l f n b = tw u l f (n + 1) b := by
  conv => rhs; unfold tw
  rw [if_neg h]
theorem rcell_24 (u : Option Nat) (q : Nat) : rcell u q ≠ 24 := by
  cases u with
  | none => show 42 ≠ 24; decide
  | some k => show 26 + (2 * k + q) ≠ 24; omega
abbrev ptC (t : xT) : Nat → Int32 := fun k => t (8 + 2 * k) 0
abbrev sdC (t : xT) : Nat → Int32 := fun k => t (8 + 2 * k) 1
abbrev rlC (t : xT) : Nat → Int32 := fun k => t (8 + 2 * k) 2
abbrev fC (t : xT) : Option Nat → Option Nat → Nat → Int32 := fun u l p => t (rcell u 0) p + t (rcell l 1) p
theorem fC_set (t : xT) (b : B4) : fC (setB t b) = fC t := by
  funext u l p
  show setB t b (rcell u 0) p + setB t b (rcell l 1) p = _
  rw [setB_ne1 t b (rcell_24 u 0), setB_ne1 t b (rcell_24 l 1)]
theorem mayb_set (t : xT) (b : B4) {u : Option Nat} {q : Int32} (hu : ∀ k, u = some k → k < 8) : mayb (ptC (setB t b)) u q = mayb (ptC t) u q := by
  cases u with
  | none => rfl
  | some k =>
    have := hu k rfl
    show decide (ptC (setB t b) k = q ∨ ptC (setB t b) k = 2) = decide (ptC t k = q ∨ ptC t k = 2)
    rw [show ptC (setB t b) k = ptC t k from setB_ne t b 0 (by omega)]
theorem trg_set (t : xT) (b : B4) {pl : Nat} {u v : Option Nat} {c : B4} (hu : ∀ k, u = some k → k < 8) (hv : ∀ k, v = some k → k < 8) : trg (ptC (setB t b)) (fC (setB t b)) pl u v c = trg (ptC t) (fC t) pl u v c := by
  unfold trg
  rw [mayb_set t b hu, mayb_set t b hv, fC_set]
set_option maxRecDepth 100000 in
set_option maxHeartbeats 4000000 in
theorem c_weigh (l : Launch) (G : xg_G) (O : Heap) (t : xT) (nl nh k : Nat) (hnl : nl ≤ 160) (h4 : t 4 1 = nI nl) (hlet : ∀ i, i < nl → ∃ c, c < 16 ∧ t 5 i = nI c) (hnh : nh ≤ 8) (h1 : t 6 1 = nI nh) (hkn : k < nh) : xm l yX5_weigh cX5_weigh 2 none rmX5_weigh G O t [.ref (O.size + 3), .int (nI k)] (xv (fun t' => t' = xw1 t (nl - 31) k)) := by
  refine xm_enter (by decide) 0 rfl rfl ?_
  intro p e s m args below meth c X hr hk
  refine g_eq (L2 := [some (.ref (O.size + 3)), some (.int (nI k))]) rfl rfl rfl ?_
  have hk8 : k < 8 := by omega
  have hu : ∀ j, some k = some j → j < nh := fun j hj => by cases hj; exact hkn
  refine g_aload_n (pc := 0) X dX5_weigh_0 rfl rfl ?_
  refine gm_getR (k' := 6) (pc := 1) (j := 1) X 5 dX5_weigh_1 rfl (by decide) rfl xu_5 (by decide) rfl xw_193 rfl rfl ?_
  refine g_iload_n (pc := 4) X dX5_weigh_4 rfl rfl ?_
  refine gm_Vi (pc := 5) X 2 xc_X5_49 (c_has l G O t nh (nI k) hnh h1) dX5_weigh_5 rfl (by decide) rfl rfl rfl rfl (Nat.le_of_ble_eq_true rfl) (fun v_5 t_5 hp => ?_)
  obtain ⟨rfl, hq9⟩ := hp
  have hq9 := hq9.symm
  subst hq9
  refine g_if_eq (pc := 8) (tgt := 51) X dX5_weigh_8 (by decide) (fun hc_8 => ?_) (fun hc_8 => ?_)
  · exact absurd ⟨nI_pos' (by omega), nI_lt hkn (by omega)⟩ (bi_0 hc_8)
  · refine g_aload_n (pc := 11) X dX5_weigh_11 rfl rfl ?_
    refine g_aload_n (pc := 12) X dX5_weigh_12 rfl rfl ?_
    refine g_iload_n (pc := 13) X dX5_weigh_13 rfl rfl ?_
    refine g_iconst (pc := 14) (v := 0) X dX5_weigh_14 (by decide) ?_
    refine gm_Va (pc := 15) X 5 xc_X5_53 (c_rowOf l G O t nh (some k) 0 hnh h1 hu (by decide)) dX5_weigh_15 rfl (by decide) rfl rfl rfl rfl (Nat.le_of_ble_eq_true rfl) (fun k_15 t_15 hp => ?_)
    obtain ⟨rfl, hq9⟩ := hp
    have hq9 := hq9.symm
    subst hq9
    refine g_aload_n (pc := 18) X dX5_weigh_18 rfl rfl ?_
    refine gm_getR (k' := 6) (pc := 19) (j := 1) X 5 dX5_weigh_19 rfl (by decide) rfl xu_5 (by decide) rfl xw_193 rfl rfl ?_
    refine gm_getR (k' := 7) (pc := 22) (j := 0) X 2 dX5_weigh_22 rfl (by decide) rfl xu_2 (by decide) rfl xw_132 rfl rfl ?_
    refine g_iload_n (pc := 25) X dX5_weigh_25 rfl rfl ?_
    refine gm_aald (pc := 26) (k' := (8 + 2 * k)) X 12 (k) (.object "UnderText$Half") dX5_weigh_26 rfl (by decide) (by decide) rfl rfl rfl (show k < 8 from by omega) (by decide) (kd_half k hk8).2.1 ?_
    refine g_iconst (pc := 27) (v := 0) X dX5_weigh_27 (by decide) ?_
    refine gm_Vv (pc := 28) X 5 xc_X5_61 (c_fillRow l G O t nl (26 + (2 * k + 0)) k 0 hnl h4 hlet (kd_row (2 * k + 0) (by omega)).2.1 (kd_row (2 * k + 0) (by omega)).2.2 (by omega) hk8 (by decide)) dX5_weigh_28 rfl (by decide) rfl rfl rfl rfl (Nat.le_of_ble_eq_true rfl) (fun t_28 hp => ?_)
    subst hp
    refine g_aload_n (pc := 31) X dX5_weigh_31 rfl rfl ?_
    refine g_aload_n (pc := 32) X dX5_weigh_32 rfl rfl ?_
    refine g_iload_n (pc := 33) X dX5_weigh_33 rfl rfl ?_
    refine g_iconst (pc := 34) (v := 1) X dX5_weigh_34 (by decide) ?_
    refine gm_Va (pc := 35) X 5 xc_X5_53 (c_rowOf l G O _ nh (some k) 1 hnh (by rw [xrow_ne _ _ _ _ _ _ _ (by omega)]; exact h1) hu (by decide)) dX5_weigh_35 rfl (by decide) rfl rfl rfl rfl (Nat.le_of_ble_eq_true rfl) (fun k_35 t_35 hp => ?_)
    obtain ⟨rfl, hq9⟩ := hp
    have hq9 := hq9.symm
    subst hq9
    refine g_aload_n (pc := 38) X dX5_weigh_38 rfl rfl ?_
    refine gm_getR (k' := 6) (pc := 39) (j := 1) X 5 dX5_weigh_39 rfl (by decide) rfl xu_5 (by decide) rfl xw_193 rfl rfl ?_
    refine gm_getR (k' := 7) (pc := 42) (j := 0) X 2 dX5_weigh_42 rfl (by decide) rfl xu_2 (by decide) rfl xw_132 rfl rfl ?_
    refine g_iload_n (pc := 45) X dX5_weigh_45 rfl rfl ?_
    refine gm_aald (pc := 46) (k' := (8 + 2 * k)) X 12 (k) (.object "UnderText$Half") dX5_weigh_46 rfl (by decide) (by decide) rfl rfl rfl (show k < 8 from by omega) (by decide) (kd_half k hk8).2.1 ?_
    refine g_iconst (pc := 47) (v := 1) X dX5_weigh_47 (by decide) ?_
    refine gm_Vv (pc := 48) X 5 xc_X5_61 (c_fillRow l G O _ nl (26 + (2 * k + 1)) k 1 hnl (by rw [xrow_ne _ _ _ _ _ _ _ (by omega)]; exact h4) (fun i hi => by rw [xrow_ne _ _ _ _ _ _ _ (by omega)]; exact hlet i hi) (kd_row (2 * k + 1) (by omega)).2.1 (kd_row (2 * k + 1) (by omega)).2.2 (by omega) hk8 (by decide)) dX5_weigh_48 rfl (by decide) rfl rfl rfl rfl (Nat.le_of_ble_eq_true rfl) (fun t_48 hp => ?_)
    subst hp
    exact gm_vret (pc := 51) X hr hk dX5_weigh_51 (by unfold xw1; rw [xrow_ne1 t _ _ _ _ _ (by omega : 9 + 2 * k ≠ _), xrow_ne1 t _ _ _ _ _ (by omega : 5 ≠ _)])

set_option maxRecDepth 100000 in
set_option maxHeartbeats 4000000 in
theorem c_weighAll (l : Launch) (G : xg_G) (O : Heap) (t : xT) (nl nh : Nat) (hnl : nl ≤ 160) (h4 : t 4 1 = nI nl) (hlet : ∀ i, i < nl → ∃ c, c < 16 ∧ t 5 i = nI c) (hnh : nh ≤ 8) (h1 : t 6 1 = nI nh) : xm l yX5_weighAll cX5_weighAll 2 none rmX5_weighAll G O t [.ref (O.size + 3)] (xv (fun t' => t' = xwa t (nl - 31) nh)) := by
  refine xm_enter (by decide) 1 rfl rfl ?_
  intro p e s m args below meth c X hr hk
  refine g_eq (L2 := [some (.ref (O.size + 3)), none]) rfl rfl rfl ?_
  have loop : ∀ (z9 : Nat) (k : Nat) (xk : Int32) (t1 : xT), nh - k < z9 → xk = nI k → t1 = xwa t (nl - 31) k → k ≤ nh → gm p l e rmX5_weighAll s m args below meth c 2 G O (xmQ below G O (xv (fun t' => t' = xwa t (nl - 31) nh)) args s) (t1) [some (.ref (O.size + 3)), some (.int (xk))] 2 [] := by
    intro z9
    induction z9 with
    | zero => intro k xk t1 h9; exact absurd h9 (Nat.not_lt_zero _)
    | succ z9 ih =>
      intro k xk t1 h9 hxk ht1 hkn
      subst hxk
      subst ht1
      have e6 : xwa t (nl - 31) k 6 1 = nI nh := by rw [xwa_ne t (by omega)]; exact h1
      have e4 : xwa t (nl - 31) k 4 1 = nI nl := by rw [xwa_ne t (by omega)]; exact h4
      refine g_iload_n (pc := 2) X dX5_weighAll_2 rfl rfl ?_
      refine g_aload_n (pc := 3) X dX5_weighAll_3 rfl rfl ?_
      refine gm_getR (k' := 6) (pc := 4) (j := 1) X 5 dX5_weighAll_4 rfl (by decide) rfl xu_5 (by decide) rfl xw_193 rfl rfl ?_
      refine gm_getI (pc := 7) (j := 1) X 2 dX5_weighAll_7 rfl (by decide) rfl xu_2 (by decide) rfl xw_136 rfl ?_
      refine g_icmp_ge (pc := 10) (tgt := 24) X dX5_weighAll_10 (by decide) (fun hc_10 => ?_) (fun hc_10 => ?_)
      · exact gm_vret (pc := 24) X hr hk dX5_weighAll_24 (by rw [e6] at hc_10; rw [show k = nh by have := n_ge hc_10; omega])
      · have hlt : k < nh := by rw [e6] at hc_10; exact n_gt hc_10
        refine g_aload_n (pc := 13) X dX5_weighAll_13 rfl rfl ?_
        refine g_iload_n (pc := 14) X dX5_weighAll_14 rfl rfl ?_
        refine gm_Vv (pc := 15) X 5 xc_X5_45 (c_weigh l G O _ nl nh k hnl e4 (fun i hi => by rw [xwa_ne t (by omega)]; exact hlet i hi) hnh e6 hlt) dX5_weighAll_15 rfl (by decide) rfl rfl rfl rfl (Nat.le_of_ble_eq_true rfl) (fun t_15 hp => ?_)
        subst hp
        refine g_inc (pc := 18) (kv := 1) X dX5_weighAll_18 (by decide) rfl (by decide) ?_
        refine g_goto (pc := 21) (tgt := 2) X dX5_weighAll_21 (by decide) ?_
        exact ih (k + 1) _ _ (by omega) (nI_1 k) rfl (by omega)
  refine g_iconst (pc := 0) (v := 0) X dX5_weighAll_0 (by decide) ?_
  refine g_istore_n (pc := 1) X dX5_weighAll_1 rfl (by decide) ?_
  exact loop (nh + 1) 0 _ _ (by omega) nI_0.symm rfl (Nat.zero_le _)

set_option maxRecDepth 100000 in
set_option maxHeartbeats 4000000 in
theorem c_quarrelsAs (l : Launch) (G : xg_G) (O : Heap) (t : xT) (nh k q y : Nat) (hnh : nh ≤ 8) (h1 : t 6 1 = nI nh) (hkn : k < nh) (hq : q < 2) (hy : y < 129) : xm l yX5_quarrelsAs cX5_quarrelsAs 4 (some .int) rmX5_quarrelsAs G O t [.ref (O.size + 3), .int (nI k), .int (nI q), .int (nI y)] (xi (fun v t' => v = t (26 + (2 * k + q)) y ∧ t' = t)) := by
  refine xm_enter (by decide) 0 rfl rfl ?_
  intro p e s m args below meth c X hr hk
  refine g_eq (L2 := [some (.ref (O.size + 3)), some (.int (nI k)), some (.int (nI q)), some (.int (nI y))]) rfl rfl rfl ?_
  have hu : ∀ j, some k = some j → j < nh := fun j hj => by cases hj; exact hkn
  refine g_iload_n (pc := 0) X dX5_quarrelsAs_0 rfl rfl ?_
  refine g_sipush (pc := 1) (v := 128) X dX5_quarrelsAs_1 (by decide) ?_
  refine gm_SNi (pc := 4) X xc_X5_97 (c_isWithin l G O _ (nI y) 128) dX5_quarrelsAs_4 rfl rfl rfl (Nat.le_of_ble_eq_true rfl) (fun v_4 t_4 hp => ?_)
  obtain ⟨rfl, hq9⟩ := hp
  have hq9 := hq9.symm
  subst hq9
  refine g_if_eq (pc := 7) (tgt := 21) X dX5_quarrelsAs_7 (by decide) (fun hc_7 => ?_) (fun hc_7 => ?_)
  · exact absurd ⟨nI_pos' (by omega), nI_le (a := y) (b := 128) (by omega) (by omega)⟩ (bi_0 hc_7)
  · refine g_aload_n (pc := 10) X dX5_quarrelsAs_10 rfl rfl ?_
    refine g_iload_n (pc := 11) X dX5_quarrelsAs_11 rfl rfl ?_
    refine g_iload_n (pc := 12) X dX5_quarrelsAs_12 rfl rfl ?_
    refine gm_Va (pc := 13) X 5 xc_X5_53 (c_rowOf l G O _ nh (some k) q hnh h1 hu hq) dX5_quarrelsAs_13 rfl (by decide) rfl rfl rfl rfl (Nat.le_of_ble_eq_true rfl) (fun k_13 t_13 hp => ?_)
    obtain ⟨rfl, hq9⟩ := hp
    have hq9 := hq9.symm
    subst hq9
    refine g_iload_n (pc := 16) X dX5_quarrelsAs_16 rfl rfl ?_
    refine gm_iald (pc := 17) X (y) dX5_quarrelsAs_17 (kd_row (2 * k + q) (by omega)).2.1 rfl (by rw [(show ln (rcell (some k) q) = 129 from (kd_row (2 * k + q) (by omega)).2.2)]; omega) (by rw [(show ln (rcell (some k) q) = 129 from (kd_row (2 * k + q) (by omega)).2.2)]; decide) ?_
    refine g_goto (pc := 18) (tgt := 22) X dX5_quarrelsAs_18 (by decide) ?_
    exact gm_iret (pc := 22) X hr hk dX5_quarrelsAs_22 (⟨rfl, rfl⟩)

set_option maxRecDepth 100000 in
set_option maxHeartbeats 4000000 in
theorem c_tryWay (l : Launch) (G : xg_G) (O : Heap) (t : xT) (nl nh : Nat) (u v : Option Nat) (hnl : nl ≤ 160) (h4 : t 4 1 = nI nl) (hnh : nh ≤ 8) (h1 : t 6 1 = nI nh) (hu : ∀ k, u = some k → k < nh) (hv : ∀ k, v = some k → k < nh) : xm l yX5_tryWay cX5_tryWay 8 none rmX5_tryWay G O t [.ref (O.size + 3), .int (ov u), .int (ov v)] (xv (fun t' => t' = setB t (trg (ptC t) (fC t) (nl - 31) u v (getB t)))) := by
  refine xm_enter (by decide) 5 rfl rfl ?_
  intro p e s m args below meth c X hr hk
  refine g_eq (L2 := [some (.ref (O.size + 3)), some (.int (ov u)), some (.int (ov v)), none, none, none, none, none]) rfl rfl rfl ?_
  have hu8 : ∀ k, u = some k → k < 8 := fun k h => by have := hu k h; omega
  have hv8 : ∀ k, v = some k → k < 8 := fun k h => by have := hv k h; omega
  refine g_aload_n (pc := 0) X dX5_tryWay_0 rfl rfl ?_
  refine g_iload_n (pc := 1) X dX5_tryWay_1 rfl rfl ?_
  refine g_iconst (pc := 2) (v := 0) X dX5_tryWay_2 (by decide) ?_
  refine gm_Vi (pc := 3) X 5 xc_X5_123 (c_mayLie l G O _ nh u 0 hnh h1 hu) dX5_tryWay_3 rfl (by decide) rfl rfl rfl rfl (Nat.le_of_ble_eq_true rfl) (fun v_3 t_3 hp => ?_)
  obtain ⟨rfl, hq9⟩ := hp
  have hq9 := hq9.symm
  subst hq9
  refine g_if_eq (pc := 6) (tgt := 18) X dX5_tryWay_6 (by decide) (fun hc_6 => ?_) (fun hc_6 => ?_)
  · exact gm_vret (pc := 18) X hr hk dX5_tryWay_18 (by unfold trg; rw [if_neg (by rw [Bool.and_eq_true]; exact fun h => bi_0 hc_6 h.1), setB_get])
  · refine g_aload_n (pc := 9) X dX5_tryWay_9 rfl rfl ?_
    refine g_iload_n (pc := 10) X dX5_tryWay_10 rfl rfl ?_
    refine g_iconst (pc := 11) (v := 1) X dX5_tryWay_11 (by decide) ?_
    refine gm_Vi (pc := 12) X 5 xc_X5_123 (c_mayLie l G O _ nh v 1 hnh h1 hv) dX5_tryWay_12 rfl (by decide) rfl rfl rfl rfl (Nat.le_of_ble_eq_true rfl) (fun v_12 t_12 hp => ?_)
    obtain ⟨rfl, hq9⟩ := hp
    have hq9 := hq9.symm
    subst hq9
    refine g_if_ne (pc := 15) (tgt := 19) X dX5_tryWay_15 (by decide) (fun hc_15 => ?_) (fun hc_15 => ?_)
    · have hok : (mayb (ptC t) u 0 && mayb (ptC t) v 1) = true := by rw [Bool.and_eq_true]; exact ⟨bi_1 hc_6, bi_1 hc_15⟩
      have ew : trg (ptC t) (fC t) (nl - 31) u v (getB t) = tw (ov u) (ov v) (fC t u v) (nl - 31) (getB t) := if_pos hok
      have loop : ∀ (z9 : Nat) (y : Nat) (xy : Int32) (t1 : xT), nl - 31 - y < z9 → xy = nI y → t1 = setB t (tw (ov u) (ov v) (fC t u v) y (getB t)) → y ≤ nl - 31 → gm p l e rmX5_tryWay s m args below meth c 8 G O (xmQ below G O (xv (fun t' => t' = setB t (trg (ptC t) (fC t) (nl - 31) u v (getB t)))) args s) (t1) [some (.ref (O.size + 3)), some (.int (ov u)), some (.int (ov v)), some (.ref (O.size + (rcell u 0))), some (.ref (O.size + (rcell v 1))), some (.int (nI (nl - 31))), some (.int (xy)), none] 46 [] := by
        intro z9
        induction z9 with
        | zero => intro y xy t1 h9; exact absurd h9 (Nat.not_lt_zero _)
        | succ z9 ih =>
          intro y xy t1 h9 hxy ht1 hy
          subst hxy
          subst ht1
          refine g_iload (pc := 46) X dX5_tryWay_46 rfl ?_
          refine g_iload (pc := 48) X dX5_tryWay_48 rfl ?_
          refine g_icmp_ge (pc := 50) (tgt := 115) X dX5_tryWay_50 (by decide) (fun hc_50 => ?_) (fun hc_50 => ?_)
          · exact gm_vret (pc := 115) X hr hk dX5_tryWay_115 (by rw [ew, show y = nl - 31 by have := n_ge hc_50; omega])
          · refine g_iload (pc := 53) X dX5_tryWay_53 rfl ?_
            refine g_sipush (pc := 55) (v := 129) X dX5_tryWay_55 (by decide) ?_
            refine g_icmp_ge (pc := 58) (tgt := 115) X dX5_tryWay_58 (by decide) (fun hc_58 => ?_) (fun hc_58 => ?_)
            · exact absurd (n_ge (a := 129) (b := y) hc_58) (by have := n_gt hc_50; omega)
            · have hyl : y < nl - 31 := n_gt hc_50
              refine g_aload_n (pc := 61) X dX5_tryWay_61 rfl rfl ?_
              refine g_iload (pc := 62) X dX5_tryWay_62 rfl ?_
              refine gm_iald (pc := 64) X (y) dX5_tryWay_64 (rcell_ok (q := 0) hu8 (by decide)).1 rfl (by rw [(rcell_ok (q := 0) hu8 (by decide)).2.1]; omega) (by rw [(rcell_ok (q := 0) hu8 (by decide)).2.1]; decide) ?_
              refine g_aload (pc := 65) X dX5_tryWay_65 rfl ?_
              refine g_iload (pc := 67) X dX5_tryWay_67 rfl ?_
              refine gm_iald (pc := 69) X (y) dX5_tryWay_69 (rcell_ok (q := 1) hv8 (by decide)).1 rfl (by rw [(rcell_ok (q := 1) hv8 (by decide)).2.1]; omega) (by rw [(rcell_ok (q := 1) hv8 (by decide)).2.1]; decide) ?_
              refine g_iadd (pc := 70) X dX5_tryWay_70 ?_
              rw [setB_ne t _ y (rcell_24 u 0), setB_ne t _ y (rcell_24 v 1)]
              refine g_istore (pc := 71) X dX5_tryWay_71 (by decide) ?_
              refine g_aload_n (pc := 73) X dX5_tryWay_73 rfl rfl ?_
              refine gm_getR (k' := 24) (pc := 74) (j := 2) X 5 dX5_tryWay_74 rfl (by decide) rfl xu_5 (by decide) rfl xw_195 rfl rfl ?_
              refine gm_getI (pc := 77) (j := 3) X 3 dX5_tryWay_77 rfl (by decide) rfl xu_3 (by decide) rfl xw_162 rfl ?_
              refine g_iconst (pc := 80) (v := (-1)) X dX5_tryWay_80 (by decide) ?_
              refine g_icmp_eq (pc := 81) (tgt := 96) X dX5_tryWay_81 (by decide) (fun hc_81 => ?_) (fun hc_81 => ?_)
              · refine g_aload_n (pc := 96) X dX5_tryWay_96 rfl rfl ?_
                refine gm_getR (k' := 24) (pc := 97) (j := 2) X 5 dX5_tryWay_97 rfl (by decide) rfl xu_5 (by decide) rfl xw_195 rfl rfl ?_
                refine g_iload_n (pc := 100) X dX5_tryWay_100 rfl rfl ?_
                refine g_iload_n (pc := 101) X dX5_tryWay_101 rfl rfl ?_
                refine g_iload (pc := 102) X dX5_tryWay_102 rfl ?_
                refine g_iload (pc := 104) X dX5_tryWay_104 rfl ?_
                refine gm_Vv (pc := 106) X 3 xc_X5_100 (c_lie l G O _ 24 _ _ _ _ rfl) dX5_tryWay_106 rfl (by decide) rfl rfl rfl rfl (Nat.le_of_ble_eq_true rfl) (fun t_106 hp => ?_)
                subst hp
                refine g_inc (pc := 109) (kv := 1) X dX5_tryWay_109 (by decide) rfl (by decide) ?_
                refine g_goto (pc := 112) (tgt := 46) X dX5_tryWay_112 (by decide) ?_
                refine g_wk 7 ?_
                exact ih (y + 1) _ _ (by omega) (nI_1 y) (by rw [← tw_t (Or.inl (by rw [setB_q] at hc_81; exact hc_81))]; exact setB_set t _ (ov u, ov v, nI y, fC t u v y)) (by omega)
              · refine g_iload (pc := 84) X dX5_tryWay_84 rfl ?_
                refine g_aload_n (pc := 86) X dX5_tryWay_86 rfl rfl ?_
                refine gm_getR (k' := 24) (pc := 87) (j := 2) X 5 dX5_tryWay_87 rfl (by decide) rfl xu_5 (by decide) rfl xw_195 rfl rfl ?_
                refine gm_getI (pc := 90) (j := 3) X 3 dX5_tryWay_90 rfl (by decide) rfl xu_3 (by decide) rfl xw_162 rfl ?_
                refine g_icmp_ge (pc := 93) (tgt := 109) X dX5_tryWay_93 (by decide) (fun hc_93 => ?_) (fun hc_93 => ?_)
                · refine g_inc (pc := 109) (kv := 1) X dX5_tryWay_109 (by decide) rfl (by decide) ?_
                  refine g_goto (pc := 112) (tgt := 46) X dX5_tryWay_112 (by decide) ?_
                  refine g_wk 7 ?_
                  exact ih (y + 1) _ _ (by omega) (nI_1 y) (by rw [setB_q] at hc_81 hc_93; rw [← tw_f (by rintro (q | q); exact hc_81 q; exact k2_nlt hc_93 q)]) (by omega)
                · refine g_aload_n (pc := 96) X dX5_tryWay_96 rfl rfl ?_
                  refine gm_getR (k' := 24) (pc := 97) (j := 2) X 5 dX5_tryWay_97 rfl (by decide) rfl xu_5 (by decide) rfl xw_195 rfl rfl ?_
                  refine g_iload_n (pc := 100) X dX5_tryWay_100 rfl rfl ?_
                  refine g_iload_n (pc := 101) X dX5_tryWay_101 rfl rfl ?_
                  refine g_iload (pc := 102) X dX5_tryWay_102 rfl ?_
                  refine g_iload (pc := 104) X dX5_tryWay_104 rfl ?_
                  refine gm_Vv (pc := 106) X 3 xc_X5_100 (c_lie l G O _ 24 _ _ _ _ rfl) dX5_tryWay_106 rfl (by decide) rfl rfl rfl rfl (Nat.le_of_ble_eq_true rfl) (fun t_106 hp => ?_)
                  subst hp
                  refine g_inc (pc := 109) (kv := 1) X dX5_tryWay_109 (by decide) rfl (by decide) ?_
                  refine g_goto (pc := 112) (tgt := 46) X dX5_tryWay_112 (by decide) ?_
                  refine g_wk 7 ?_
                  exact ih (y + 1) _ _ (by omega) (nI_1 y) (by rw [setB_q] at hc_93; rw [← tw_t (Or.inr (k2_lt hc_93))]; exact setB_set t _ (ov u, ov v, nI y, fC t u v y)) (by omega)
      refine g_aload_n (pc := 19) X dX5_tryWay_19 rfl rfl ?_
      refine g_iload_n (pc := 20) X dX5_tryWay_20 rfl rfl ?_
      refine g_iconst (pc := 21) (v := 0) X dX5_tryWay_21 (by decide) ?_
      refine gm_Va (pc := 22) X 5 xc_X5_53 (c_rowOf l G O _ nh u 0 hnh h1 hu (by decide)) dX5_tryWay_22 rfl (by decide) rfl rfl rfl rfl (Nat.le_of_ble_eq_true rfl) (fun k_22 t_22 hp => ?_)
      obtain ⟨rfl, hq9⟩ := hp
      have hq9 := hq9.symm
      subst hq9
      refine g_astore_n (pc := 25) X dX5_tryWay_25 rfl (by decide) ?_
      refine g_aload_n (pc := 26) X dX5_tryWay_26 rfl rfl ?_
      refine g_iload_n (pc := 27) X dX5_tryWay_27 rfl rfl ?_
      refine g_iconst (pc := 28) (v := 1) X dX5_tryWay_28 (by decide) ?_
      refine gm_Va (pc := 29) X 5 xc_X5_53 (c_rowOf l G O _ nh v 1 hnh h1 hv (by decide)) dX5_tryWay_29 rfl (by decide) rfl rfl rfl rfl (Nat.le_of_ble_eq_true rfl) (fun k_29 t_29 hp => ?_)
      obtain ⟨rfl, hq9⟩ := hp
      have hq9 := hq9.symm
      subst hq9
      refine g_astore (pc := 32) X dX5_tryWay_32 (by decide) ?_
      refine g_aload_n (pc := 34) X dX5_tryWay_34 rfl rfl ?_
      refine gm_getR (k' := 4) (pc := 35) (j := 0) X 5 dX5_tryWay_35 rfl (by decide) rfl xu_5 (by decide) rfl xw_191 rfl rfl ?_
      refine gm_Vi (pc := 38) X 7 xc_X5_85 (c_places l G O _ nl hnl h4) dX5_tryWay_38 rfl (by decide) rfl rfl rfl rfl (Nat.le_of_ble_eq_true rfl) (fun v_38 t_38 hp => ?_)
      obtain ⟨rfl, hq9⟩ := hp
      have hq9 := hq9.symm
      subst hq9
      refine g_istore (pc := 41) X dX5_tryWay_41 (by decide) ?_
      refine g_iconst (pc := 43) (v := 0) X dX5_tryWay_43 (by decide) ?_
      refine g_istore (pc := 44) X dX5_tryWay_44 (by decide) ?_
      exact loop (nl - 31 + 1) 0 _ _ (by omega) nI_0.symm (setB_get t).symm (Nat.zero_le _)
    · exact gm_vret (pc := 18) X hr hk dX5_tryWay_18 (by unfold trg; rw [if_neg (by rw [Bool.and_eq_true]; exact fun h => bi_0 hc_15 h.2), setB_get])

set_option maxRecDepth 100000 in
set_option maxHeartbeats 4000000 in
theorem c_seekBest (l : Launch) (G : xg_G) (O : Heap) (t : xT) (nl nh a b : Nat) (hnl : nl ≤ 160) (h4 : t 4 1 = nI nl) (hnh : nh ≤ 8) (h1 : t 6 1 = nI nh) (ha : a < nh) (hb : b < nh) : xm l yX5_seekBest cX5_seekBest 5 (some .boolean) rmX5_seekBest G O t [.ref (O.size + 3), .int (nI a), .int (nI b)] (xi (fun v t' => v = bi (¬ (bsg (ptC t) (sdC t) (rlC t) (fC t) (nl - 31) (min a b) (max a b) (-1, -1, -1, -1)).2.2.2 = -1) ∧ t' = setB t (bsg (ptC t) (sdC t) (rlC t) (fC t) (nl - 31) (min a b) (max a b) (-1, -1, -1, -1)))) := by
  refine xm_enter (by decide) 2 rfl rfl ?_
  intro p e s m args below meth c X hr hk
  refine g_eq (L2 := [some (.ref (O.size + 3)), some (.int (nI a)), some (.int (nI b)), none, none]) rfl rfl rfl ?_
  have hx : min a b < nh := by omega
  have hy : max a b < nh := by omega
  generalize hxe : min a b = x at *
  generalize hye : max a b = y at *
  have hx8 : x < 8 := by omega
  have hy8 : y < 8 := by omega
  have hsx : ∀ k, some x = some k → k < nh := fun k h => by cases h; exact hx
  have hsy : ∀ k, some y = some k → k < nh := fun k h => by cases h; exact hy
  have hnn : ∀ k, (none : Option Nat) = some k → k < nh := fun k h => by cases h
  have hsx8 : ∀ k, some x = some k → k < 8 := fun k h => by cases h; exact hx8
  have hsy8 : ∀ k, some y = some k → k < 8 := fun k h => by cases h; exact hy8
  have hnn8 : ∀ k, (none : Option Nat) = some k → k < 8 := fun k h => by cases h
  have e6 : ∀ b : B4, setB t b 6 1 = nI nh := fun b => by rw [setB_ne t b 1 (by decide)]; exact h1
  have e4 : ∀ b : B4, setB t b 4 1 = nI nl := fun b => by rw [setB_ne t b 1 (by decide)]; exact h4
  have fin : ∀ B : B4, bsg (ptC t) (sdC t) (rlC t) (fC t) (nl - 31) x y (-1, -1, -1, -1) = B → gm p l e rmX5_seekBest s m args below meth c 5 G O (xmQ below G O (xi (fun v t' => v = bi (¬ (bsg (ptC t) (sdC t) (rlC t) (fC t) (nl - 31) x y (-1, -1, -1, -1)).2.2.2 = -1) ∧ t' = setB t (bsg (ptC t) (sdC t) (rlC t) (fC t) (nl - 31) x y (-1, -1, -1, -1)))) args s) (setB t B) [some (.ref (O.size + 3)), some (.int (nI a)), some (.int (nI b)), some (.int (nI x)), some (.int (nI y))] 109 [] := by
    intro B hB
    refine g_aload_n (pc := 109) X dX5_seekBest_109 rfl rfl ?_
    refine gm_getR (k' := 24) (pc := 110) (j := 2) X 5 dX5_seekBest_110 rfl (by decide) rfl xu_5 (by decide) rfl xw_195 rfl rfl ?_
    refine gm_getI (pc := 113) (j := 3) X 3 dX5_seekBest_113 rfl (by decide) rfl xu_3 (by decide) rfl xw_162 rfl ?_
    refine g_iconst (pc := 116) (v := (-1)) X dX5_seekBest_116 (by decide) ?_
    refine g_icmp_eq (pc := 117) (tgt := 124) X dX5_seekBest_117 (by decide) (fun hc_117 => ?_) (fun hc_117 => ?_)
    · refine g_iconst (pc := 124) (v := 0) X dX5_seekBest_124 (by decide) ?_
      exact gm_zret (pc := 125) X hr hk dX5_seekBest_125 (by first | exact Or.inl rfl | exact Or.inr rfl) (⟨by rw [hB, bi_f]; rw [setB_q] at hc_117; exact fun q => q hc_117, by rw [hB]⟩)
    · refine g_iconst (pc := 120) (v := 1) X dX5_seekBest_120 (by decide) ?_
      refine g_goto (pc := 121) (tgt := 125) X dX5_seekBest_121 (by decide) ?_
      exact gm_zret (pc := 125) X hr hk dX5_seekBest_125 (by first | exact Or.inl rfl | exact Or.inr rfl) (⟨by rw [hB, bi_t]; rw [setB_q] at hc_117; exact hc_117, by rw [hB]⟩)
  refine g_aload_n (pc := 0) X dX5_seekBest_0 rfl rfl ?_
  refine gm_getR (k' := 24) (pc := 1) (j := 2) X 5 dX5_seekBest_1 rfl (by decide) rfl xu_5 (by decide) rfl xw_195 rfl rfl ?_
  refine g_iconst (pc := 4) (v := (-1)) X dX5_seekBest_4 (by decide) ?_
  refine g_iconst (pc := 5) (v := (-1)) X dX5_seekBest_5 (by decide) ?_
  refine g_iconst (pc := 6) (v := (-1)) X dX5_seekBest_6 (by decide) ?_
  refine g_iconst (pc := 7) (v := (-1)) X dX5_seekBest_7 (by decide) ?_
  refine gm_Vv (pc := 8) X 3 xc_X5_100 (c_lie l G O _ 24 _ _ _ _ rfl) dX5_seekBest_8 rfl (by decide) rfl rfl rfl rfl (Nat.le_of_ble_eq_true rfl) (fun t_8 hp => ?_)
  refine gm_st (t2 := setB t (-1, -1, -1, -1)) hp rfl ?_
  clear hp
  refine g_iload_n (pc := 11) X dX5_seekBest_11 rfl rfl ?_
  refine g_iload_n (pc := 12) X dX5_seekBest_12 rfl rfl ?_
  refine g_min (pc := 13) X dX5_seekBest_13 xw_423 xw_424 xw_44 xw_425 (by decide) (Nat.le_of_ble_eq_true rfl) (Nat.zero_le _) (Nat.zero_le _) ?_
  rw [min_nI (by omega) (by omega), hxe]
  refine g_istore_n (pc := 16) X dX5_seekBest_16 rfl (by decide) ?_
  refine g_iload_n (pc := 17) X dX5_seekBest_17 rfl rfl ?_
  refine g_iload_n (pc := 18) X dX5_seekBest_18 rfl rfl ?_
  refine g_max (pc := 19) X dX5_seekBest_19 xw_426 xw_374 xw_44 xw_375 (by decide) (Nat.le_of_ble_eq_true rfl) (Nat.zero_le _) (Nat.zero_le _) ?_
  rw [max_nI (by omega) (by omega), hye]
  refine g_istore (pc := 22) X dX5_seekBest_22 (by decide) ?_
  refine g_aload_n (pc := 24) X dX5_seekBest_24 rfl rfl ?_
  refine gm_getR (k' := 6) (pc := 25) (j := 1) X 5 dX5_seekBest_25 rfl (by decide) rfl xu_5 (by decide) rfl xw_193 rfl rfl ?_
  refine g_iload_n (pc := 28) X dX5_seekBest_28 rfl rfl ?_
  refine gm_Vi (pc := 29) X 2 xc_X5_49 (c_has l G O _ nh (nI x) hnh (e6 _)) dX5_seekBest_29 rfl (by decide) rfl rfl rfl rfl (Nat.le_of_ble_eq_true rfl) (fun v_29 t_29 hp => ?_)
  obtain ⟨rfl, hq9⟩ := hp
  have hq9 := hq9.symm
  subst hq9
  refine g_if_eq (pc := 32) (tgt := 47) X dX5_seekBest_32 (by decide) (fun hc_32 => ?_) (fun hc_32 => ?_)
  · exact absurd ⟨nI_pos' (by omega), nI_lt hx (by omega)⟩ (bi_0 hc_32)
  · refine g_aload_n (pc := 35) X dX5_seekBest_35 rfl rfl ?_
    refine gm_getR (k' := 6) (pc := 36) (j := 1) X 5 dX5_seekBest_36 rfl (by decide) rfl xu_5 (by decide) rfl xw_193 rfl rfl ?_
    refine g_iload (pc := 39) X dX5_seekBest_39 rfl ?_
    refine gm_Vi (pc := 41) X 2 xc_X5_49 (c_has l G O _ nh (nI y) hnh (e6 _)) dX5_seekBest_41 rfl (by decide) rfl rfl rfl rfl (Nat.le_of_ble_eq_true rfl) (fun v_41 t_41 hp => ?_)
    obtain ⟨rfl, hq9⟩ := hp
    have hq9 := hq9.symm
    subst hq9
    refine g_if_ne (pc := 44) (tgt := 49) X dX5_seekBest_44 (by decide) (fun hc_44 => ?_) (fun hc_44 => ?_)
    · refine g_iload_n (pc := 49) X dX5_seekBest_49 rfl rfl ?_
      refine g_iload (pc := 50) X dX5_seekBest_50 rfl ?_
      refine g_icmp_ne (pc := 52) (tgt := 70) X dX5_seekBest_52 (by decide) (fun hc_52 => ?_) (fun hc_52 => ?_)
      · refine g_aload_n (pc := 70) X dX5_seekBest_70 rfl rfl ?_
        refine gm_getR (k' := 6) (pc := 71) (j := 1) X 5 dX5_seekBest_71 rfl (by decide) rfl xu_5 (by decide) rfl xw_193 rfl rfl ?_
        refine gm_getR (k' := 7) (pc := 74) (j := 0) X 2 dX5_seekBest_74 rfl (by decide) rfl xu_2 (by decide) rfl xw_132 rfl rfl ?_
        refine g_iload_n (pc := 77) X dX5_seekBest_77 rfl rfl ?_
        refine gm_aald (pc := 78) (k' := (8 + 2 * x)) X 12 (x) (.object "UnderText$Half") dX5_seekBest_78 rfl (by decide) (by decide) rfl rfl rfl (show x < 8 from by omega) (by decide) (kd_half x hx8).2.1 ?_
        refine g_aload_n (pc := 79) X dX5_seekBest_79 rfl rfl ?_
        refine gm_getR (k' := 6) (pc := 80) (j := 1) X 5 dX5_seekBest_80 rfl (by decide) rfl xu_5 (by decide) rfl xw_193 rfl rfl ?_
        refine gm_getR (k' := 7) (pc := 83) (j := 0) X 2 dX5_seekBest_83 rfl (by decide) rfl xu_2 (by decide) rfl xw_132 rfl rfl ?_
        refine g_iload (pc := 86) X dX5_seekBest_86 rfl ?_
        refine gm_aald (pc := 88) (k' := (8 + 2 * y)) X 12 (y) (.object "UnderText$Half") dX5_seekBest_88 rfl (by decide) (by decide) rfl rfl rfl (show y < 8 from by omega) (by decide) (kd_half y hy8).2.1 ?_
        refine gm_Vi (pc := 89) X 1 xc_X5_116 (c_isLike l G O _ x y hx8 hy8) dX5_seekBest_89 (kd_half x hx8).1 (by decide) rfl rfl rfl rfl (Nat.le_of_ble_eq_true rfl) (fun v_89 t_89 hp => ?_)
        obtain ⟨rfl, hq9⟩ := hp
        have hq9 := hq9.symm
        subst hq9
        refine g_if_eq (pc := 92) (tgt := 109) X dX5_seekBest_92 (by decide) (fun hc_92 => ?_) (fun hc_92 => ?_)
        · exact fin _ (by unfold bsg; rw [if_neg (fun q => hc_52 (by rw [q])), if_neg (fun q => bi_0 hc_92 ⟨by rw [setB_ne _ _ _ (by omega), setB_ne _ _ _ (by omega)]; exact q.1, by rw [setB_ne _ _ _ (by omega), setB_ne _ _ _ (by omega)]; exact q.2⟩)])
        · refine g_aload_n (pc := 95) X dX5_seekBest_95 rfl rfl ?_
          refine g_iload_n (pc := 96) X dX5_seekBest_96 rfl rfl ?_
          refine g_iload (pc := 97) X dX5_seekBest_97 rfl ?_
          refine gm_Vv (pc := 99) X 5 xc_X5_112 (c_tryWay l G O _ nl nh (some x) (some y) hnl (e4 _) hnh (e6 _) hsx hsy) dX5_seekBest_99 rfl (by decide) rfl rfl rfl rfl (Nat.le_of_ble_eq_true rfl) (fun t_99 hp => ?_)
          refine gm_st (t2 := setB t (trg (ptC t) (fC t) (nl - 31) (some x) (some y) ((-1, -1, -1, -1)))) (by rw [hp, trg_set t _ hsx8 hsy8, getB_set, setB_set]) rfl ?_
          clear hp
          refine g_aload_n (pc := 102) X dX5_seekBest_102 rfl rfl ?_
          refine g_iload (pc := 103) X dX5_seekBest_103 rfl ?_
          refine g_iload_n (pc := 105) X dX5_seekBest_105 rfl rfl ?_
          refine gm_Vv (pc := 106) X 5 xc_X5_112 (c_tryWay l G O _ nl nh (some y) (some x) hnl (e4 _) hnh (e6 _) hsy hsx) dX5_seekBest_106 rfl (by decide) rfl rfl rfl rfl (Nat.le_of_ble_eq_true rfl) (fun t_106 hp => ?_)
          refine gm_st (t2 := setB t (trg (ptC t) (fC t) (nl - 31) (some y) (some x) (trg (ptC t) (fC t) (nl - 31) (some x) (some y) (-1, -1, -1, -1)))) (by rw [hp, trg_set t _ hsy8 hsx8, getB_set, setB_set]) rfl ?_
          clear hp
          exact fin _ (by unfold bsg; rw [if_neg (fun q => hc_52 (by rw [q])), if_pos ⟨by have := (bi_1 hc_92).1; rw [setB_ne _ _ _ (by omega), setB_ne _ _ _ (by omega)] at this; exact this, by have := (bi_1 hc_92).2; rw [setB_ne _ _ _ (by omega), setB_ne _ _ _ (by omega)] at this; exact this⟩])
      · refine g_aload_n (pc := 55) X dX5_seekBest_55 rfl rfl ?_
        refine g_iload_n (pc := 56) X dX5_seekBest_56 rfl rfl ?_
        refine g_iconst (pc := 57) (v := (-1)) X dX5_seekBest_57 (by decide) ?_
        refine gm_Vv (pc := 58) X 5 xc_X5_112 (c_tryWay l G O _ nl nh (some x) none hnl (e4 _) hnh (e6 _) hsx hnn) dX5_seekBest_58 rfl (by decide) rfl rfl rfl rfl (Nat.le_of_ble_eq_true rfl) (fun t_58 hp => ?_)
        refine gm_st (t2 := setB t (trg (ptC t) (fC t) (nl - 31) (some x) none ((-1, -1, -1, -1)))) (by rw [hp, trg_set t _ hsx8 hnn8, getB_set, setB_set]) rfl ?_
        clear hp
        refine g_aload_n (pc := 61) X dX5_seekBest_61 rfl rfl ?_
        refine g_iconst (pc := 62) (v := (-1)) X dX5_seekBest_62 (by decide) ?_
        refine g_iload_n (pc := 63) X dX5_seekBest_63 rfl rfl ?_
        refine gm_Vv (pc := 64) X 5 xc_X5_112 (c_tryWay l G O _ nl nh none (some x) hnl (e4 _) hnh (e6 _) hnn hsx) dX5_seekBest_64 rfl (by decide) rfl rfl rfl rfl (Nat.le_of_ble_eq_true rfl) (fun t_64 hp => ?_)
        refine gm_st (t2 := setB t (trg (ptC t) (fC t) (nl - 31) none (some x) (trg (ptC t) (fC t) (nl - 31) (some x) none (-1, -1, -1, -1)))) (by rw [hp, trg_set t _ hnn8 hsx8, getB_set, setB_set]) rfl ?_
        clear hp
        refine g_goto (pc := 67) (tgt := 109) X dX5_seekBest_67 (by decide) ?_
        exact fin _ (by unfold bsg; rw [if_pos ((nI_eq (by omega) (by omega)).mp hc_52)])
    · exact absurd ⟨nI_pos' (by omega), nI_lt hy (by omega)⟩ (bi_0 hc_44)

