/-! 04c: Scale, third part -/
def cn (f : Nat → Int32) (q : Int32) : Nat → Nat
  | 0 => 0
  | n + 1 => cn f q n + (if f n ≤ q then 1 else 0)
theorem cn_le (f : Nat → Int32) (q : Int32) : ∀ n, cn f q n ≤ n
  | 0 => Nat.le_refl 0
  | n + 1 => by
    have := cn_le f q n
    unfold cn
    split <;> omega
theorem cn_cong {f g : Nat → Int32} {q : Int32} : ∀ {n : Nat}, (∀ p, p < n → f p = g p) → cn f q n = cn g q n
  | 0, _ => rfl
  | n + 1, h => by
    unfold cn
    rw [cn_cong (n := n) (fun p hp => h p (by omega)), h n (by omega)]
theorem cn_t {f : Nat → Int32} {q : Int32} {n : Nat} {x : Int32} (h : f n ≤ q) (hx : x = nI (cn f q n)) : x + 1 = nI (cn f q (n + 1)) := by
  rw [hx, cn.eq_2, if_pos h]; exact nI_1 _
theorem cn_f {f : Nat → Int32} {q : Int32} {n : Nat} {x : Int32} (h : ¬ f n ≤ q) (hx : x = nI (cn f q n)) : x + 0 = nI (cn f q (n + 1)) := by
  rw [hx, cn.eq_2, if_neg h]; exact Int32.add_zero _
def setL (t : xT) (k : Nat) (b : B4) : xT := xt (xt (xt (xt t k 0 b.1) k 1 b.2.1) k 2 b.2.2.1) k 3 b.2.2.2
theorem setL_ne (t : xT) {k : Nat} (b : B4) {x : Nat} (y : Nat) (h : x ≠ k) : setL t k b x y = t x y := by simp [setL, xt, h]
theorem xt_nk (t : xT) {k : Nat} (j : Nat) (v : Int32) {x : Nat} (y : Nat) (h : x ≠ k) : xt t k j v x y = t x y := xt_ne t v (Or.inl h)
/-- the greater of the halves that are there -/
def mx : Option Nat → Option Nat → Nat
  | none, none => 0
  | some a, none => a
  | none, some b => b
  | some a, some b => max a b
theorem ov_max {u v : Option Nat} (hu : ∀ k, u = some k → k < 8) (hv : ∀ k, v = some k → k < 8) (h : u ≠ none ∨ v ≠ none) : (if ov u < ov v then ov v else ov u) = nI (mx u v) ∧ (u = some (mx u v) ∨ v = some (mx u v)) := by
  have e : ∀ a, a < 8 → ¬ nI a < -1 := by decide
  have e2 : ∀ a, a < 8 → (-1 : Int32) < nI a := by decide
  cases u with
  | none =>
    cases v with
    | none => rcases h with h | h <;> exact absurd rfl h
    | some b => exact ⟨if_pos (e2 b (hv b rfl)), Or.inr rfl⟩
  | some a =>
    cases v with
    | none => exact ⟨if_neg (e a (hu a rfl)), Or.inl rfl⟩
    | some b =>
      have h1 := hu a rfl
      have h2 := hv b rfl
      refine ⟨max_nI (by omega) (by omega), ?_⟩
      rcases Nat.le_total a b with q | q
      · exact Or.inr (by rw [mx, Nat.max_eq_right q])
      · exact Or.inl (by rw [mx, Nat.max_eq_left q])
set_option maxRecDepth 100000 in
set_option maxHeartbeats 4000000 in
theorem c_placesUpTo (l : Launch) (G : xg_G) (O : Heap) (t : xT) (nh pl k : Nat) (u v : Option Nat) (hnh : nh ≤ 8) (h1 : t 6 1 = nI nh) (hu : ∀ k, u = some k → k < nh) (hv : ∀ k, v = some k → k < nh) (hkd : kd k = 3) (hk68 : 68 ≤ k) (e0 : t k 0 = ov u) (e1 : t k 1 = ov v) (e5 : t k 5 = nI pl) (hpl : pl ≤ 129) : xm l yX5_placesUpTo cX5_placesUpTo 6 (some .int) rmX5_placesUpTo G O t [.ref (O.size + 3), .ref (O.size + k)] (xi (fun r t' => r = nI (cn (fC t u v) (t k 3) pl) ∧ t' = t)) := by
  refine xm_enter (by decide) 4 rfl rfl ?_
  intro p e s m args below meth c X hr hk
  refine g_eq (L2 := [some (.ref (O.size + 3)), some (.ref (O.size + k)), none, none, none, none]) rfl rfl rfl ?_
  have hu8 : ∀ k, u = some k → k < 8 := fun k h => by have := hu k h; omega
  have hv8 : ∀ k, v = some k → k < 8 := fun k h => by have := hv k h; omega
  have loop : ∀ (z9 : Nat) (y : Nat) (xy : Int32) (xs : Int32), pl - y < z9 → xy = nI y → xs = nI (cn (fC t u v) (t k 3) y) → y ≤ pl → gm p l e rmX5_placesUpTo s m args below meth c 6 G O (xmQ below G O (xi (fun r t' => r = nI (cn (fC t u v) (t k 3) pl) ∧ t' = t)) args s) (t) [some (.ref (O.size + 3)), some (.ref (O.size + k)), some (.ref (O.size + (rcell u 0))), some (.ref (O.size + (rcell v 1))), some (.int (xs)), some (.int (xy))] 26 [] := by
    intro z9
    induction z9 with
    | zero => intro y xy xs h9; exact absurd h9 (Nat.not_lt_zero _)
    | succ z9 ih =>
      intro y xy xs h9 hxy hxs hy
      subst hxy
      refine g_iload (pc := 26) X dX5_placesUpTo_26 rfl ?_
      refine g_aload_n (pc := 28) X dX5_placesUpTo_28 rfl rfl ?_
      refine gm_getI (pc := 29) (j := 5) X 3 dX5_placesUpTo_29 hkd (by decide) rfl xu_3 (by decide) rfl xw_169 rfl ?_
      refine g_icmp_ge (pc := 32) (tgt := 75) X dX5_placesUpTo_32 (by decide) (fun hc_32 => ?_) (fun hc_32 => ?_)
      · refine g_iload (pc := 75) X dX5_placesUpTo_75 rfl ?_
        exact gm_iret (pc := 77) X hr hk dX5_placesUpTo_77 (⟨by rw [e5] at hc_32; rw [hxs, show y = pl by have := n_ge hc_32; omega], rfl⟩)
      · refine g_iload (pc := 35) X dX5_placesUpTo_35 rfl ?_
        refine g_sipush (pc := 37) (v := 129) X dX5_placesUpTo_37 (by decide) ?_
        refine g_icmp_ge (pc := 40) (tgt := 75) X dX5_placesUpTo_40 (by decide) (fun hc_40 => ?_) (fun hc_40 => ?_)
        · exact absurd (n_ge (a := 129) (b := y) hc_40) (by rw [e5] at hc_32; have := n_gt hc_32; omega)
        · have hyl : y < pl := by rw [e5] at hc_32; exact n_gt hc_32
          refine g_iload (pc := 43) X dX5_placesUpTo_43 rfl ?_
          refine g_aload_n (pc := 45) X dX5_placesUpTo_45 rfl rfl ?_
          refine g_iload (pc := 46) X dX5_placesUpTo_46 rfl ?_
          refine gm_iald (pc := 48) X (y) dX5_placesUpTo_48 (rcell_ok (q := 0) hu8 (by decide)).1 rfl (by rw [(rcell_ok (q := 0) hu8 (by decide)).2.1]; omega) (by rw [(rcell_ok (q := 0) hu8 (by decide)).2.1]; decide) ?_
          refine g_aload_n (pc := 49) X dX5_placesUpTo_49 rfl rfl ?_
          refine g_iload (pc := 50) X dX5_placesUpTo_50 rfl ?_
          refine gm_iald (pc := 52) X (y) dX5_placesUpTo_52 (rcell_ok (q := 1) hv8 (by decide)).1 rfl (by rw [(rcell_ok (q := 1) hv8 (by decide)).2.1]; omega) (by rw [(rcell_ok (q := 1) hv8 (by decide)).2.1]; decide) ?_
          refine g_iadd (pc := 53) X dX5_placesUpTo_53 ?_
          refine g_aload_n (pc := 54) X dX5_placesUpTo_54 rfl rfl ?_
          refine gm_getI (pc := 55) (j := 3) X 3 dX5_placesUpTo_55 hkd (by decide) rfl xu_3 (by decide) rfl xw_162 rfl ?_
          refine g_icmp_gt (pc := 58) (tgt := 65) X dX5_placesUpTo_58 (by decide) (fun hc_58 => ?_) (fun hc_58 => ?_)
          · refine g_iconst (pc := 65) (v := 0) X dX5_placesUpTo_65 (by decide) ?_
            refine g_iadd (pc := 66) X dX5_placesUpTo_66 ?_
            refine g_istore (pc := 67) X dX5_placesUpTo_67 (by decide) ?_
            refine g_inc (pc := 69) (kv := 1) X dX5_placesUpTo_69 (by decide) rfl (by decide) ?_
            refine g_goto (pc := 72) (tgt := 26) X dX5_placesUpTo_72 (by decide) ?_
            exact ih (y + 1) _ _ (by omega) (nI_1 y) (cn_f (k2_nle hc_58) hxs) (by omega)
          · refine g_iconst (pc := 61) (v := 1) X dX5_placesUpTo_61 (by decide) ?_
            refine g_goto (pc := 62) (tgt := 66) X dX5_placesUpTo_62 (by decide) ?_
            refine g_iadd (pc := 66) X dX5_placesUpTo_66 ?_
            refine g_istore (pc := 67) X dX5_placesUpTo_67 (by decide) ?_
            refine g_inc (pc := 69) (kv := 1) X dX5_placesUpTo_69 (by decide) rfl (by decide) ?_
            refine g_goto (pc := 72) (tgt := 26) X dX5_placesUpTo_72 (by decide) ?_
            exact ih (y + 1) _ _ (by omega) (nI_1 y) (cn_t (k2_le hc_58) hxs) (by omega)
  refine g_aload_n (pc := 0) X dX5_placesUpTo_0 rfl rfl ?_
  refine g_aload_n (pc := 1) X dX5_placesUpTo_1 rfl rfl ?_
  refine gm_getI (pc := 2) (j := 0) X 3 dX5_placesUpTo_2 hkd (by decide) rfl xu_3 (by decide) rfl xw_152 rfl ?_
  rw [e0]
  refine g_iconst (pc := 5) (v := 0) X dX5_placesUpTo_5 (by decide) ?_
  refine gm_Va (pc := 6) X 5 xc_X5_53 (c_rowOf l G O _ nh u 0 hnh h1 hu (by decide)) dX5_placesUpTo_6 rfl (by decide) rfl rfl rfl rfl (Nat.le_of_ble_eq_true rfl) (fun k_6 t_6 hp => ?_)
  obtain ⟨rfl, hq9⟩ := hp
  have hq9 := hq9.symm
  subst hq9
  refine g_astore_n (pc := 9) X dX5_placesUpTo_9 rfl (by decide) ?_
  refine g_aload_n (pc := 10) X dX5_placesUpTo_10 rfl rfl ?_
  refine g_aload_n (pc := 11) X dX5_placesUpTo_11 rfl rfl ?_
  refine gm_getI (pc := 12) (j := 1) X 3 dX5_placesUpTo_12 hkd (by decide) rfl xu_3 (by decide) rfl xw_154 rfl ?_
  rw [e1]
  refine g_iconst (pc := 15) (v := 1) X dX5_placesUpTo_15 (by decide) ?_
  refine gm_Va (pc := 16) X 5 xc_X5_53 (c_rowOf l G O _ nh v 1 hnh h1 hv (by decide)) dX5_placesUpTo_16 rfl (by decide) rfl rfl rfl rfl (Nat.le_of_ble_eq_true rfl) (fun k_16 t_16 hp => ?_)
  obtain ⟨rfl, hq9⟩ := hp
  have hq9 := hq9.symm
  subst hq9
  refine g_astore_n (pc := 19) X dX5_placesUpTo_19 rfl (by decide) ?_
  refine g_iconst (pc := 20) (v := 0) X dX5_placesUpTo_20 (by decide) ?_
  refine g_istore (pc := 21) X dX5_placesUpTo_21 (by decide) ?_
  refine g_iconst (pc := 23) (v := 0) X dX5_placesUpTo_23 (by decide) ?_
  refine g_istore (pc := 24) X dX5_placesUpTo_24 (by decide) ?_
  exact loop (pl + 1) 0 _ _ (by omega) nI_0.symm nI_0.symm (Nat.zero_le _)

set_option maxRecDepth 100000 in
set_option maxHeartbeats 4000000 in
theorem c_copyFoundTo (l : Launch) (G : xg_G) (O : Heap) (t : xT) (nl nh k : Nat) (u v : Option Nat) (hnl : nl ≤ 160) (h4 : t 4 1 = nI nl) (hnh : nh ≤ 8) (h1 : t 6 1 = nI nh) (hu : ∀ k, u = some k → k < nh) (hv : ∀ k, v = some k → k < nh) (hkd : kd k = 3) (hk68 : 68 ≤ k) (e0 : t 24 0 = ov u) (e1 : t 24 1 = ov v) (huv : u ≠ none ∨ v ≠ none) : xm l yX5_copyFoundTo cX5_copyFoundTo 3 none rmX5_copyFoundTo G O t [.ref (O.size + 3), .ref (O.size + k)] (xv (fun t' => t' = xt (xt (xt (setL t k (getB t)) k 5 (nI (nl - 31))) k 4 (nI (cn (fC t u v) (t 24 3) (nl - 31)))) k 6 (t (8 + 2 * mx u v) 1))) := by
  refine xm_enter (by decide) 1 rfl rfl ?_
  intro p e s m args below meth c X hr hk
  refine g_eq (L2 := [some (.ref (O.size + 3)), some (.ref (O.size + k)), none]) rfl rfl rfl ?_
  have hu8 : ∀ k, u = some k → k < 8 := fun k h => by have := hu k h; omega
  have hv8 : ∀ k, v = some k → k < 8 := fun k h => by have := hv k h; omega
  obtain ⟨hm1, hm2⟩ := ov_max hu8 hv8 huv
  have hmn : mx u v < nh := by rcases hm2 with q | q; exact hu _ q; exact hv _ q
  have hm8 : mx u v < 8 := by omega
  have hf : fC (xt (setL t k (getB t)) k 5 (nI (nl - 31))) u v = fC t u v := by
    funext p
    have r0 := (rcell_ok (q := 0) hu8 (by decide)).2.2.2
    have r1 := (rcell_ok (q := 1) hv8 (by decide)).2.2.2
    show xt _ _ _ _ (rcell u 0) p + xt _ _ _ _ (rcell v 1) p = _
    rw [xt_nk _ _ _ _ (by omega), setL_ne _ _ _ (by omega), xt_nk _ _ _ _ (by omega), setL_ne _ _ _ (by omega)]
  refine g_aload_n (pc := 0) X dX5_copyFoundTo_0 rfl rfl ?_
  refine g_aload_n (pc := 1) X dX5_copyFoundTo_1 rfl rfl ?_
  refine gm_getR (k' := 24) (pc := 2) (j := 2) X 5 dX5_copyFoundTo_2 rfl (by decide) rfl xu_5 (by decide) rfl xw_195 rfl rfl ?_
  refine gm_getI (pc := 5) (j := 0) X 3 dX5_copyFoundTo_5 rfl (by decide) rfl xu_3 (by decide) rfl xw_152 rfl ?_
  refine g_aload_n (pc := 8) X dX5_copyFoundTo_8 rfl rfl ?_
  refine gm_getR (k' := 24) (pc := 9) (j := 2) X 5 dX5_copyFoundTo_9 rfl (by decide) rfl xu_5 (by decide) rfl xw_195 rfl rfl ?_
  refine gm_getI (pc := 12) (j := 1) X 3 dX5_copyFoundTo_12 rfl (by decide) rfl xu_3 (by decide) rfl xw_154 rfl ?_
  refine g_aload_n (pc := 15) X dX5_copyFoundTo_15 rfl rfl ?_
  refine gm_getR (k' := 24) (pc := 16) (j := 2) X 5 dX5_copyFoundTo_16 rfl (by decide) rfl xu_5 (by decide) rfl xw_195 rfl rfl ?_
  refine gm_getI (pc := 19) (j := 2) X 3 dX5_copyFoundTo_19 rfl (by decide) rfl xu_3 (by decide) rfl xw_159 rfl ?_
  refine g_aload_n (pc := 22) X dX5_copyFoundTo_22 rfl rfl ?_
  refine gm_getR (k' := 24) (pc := 23) (j := 2) X 5 dX5_copyFoundTo_23 rfl (by decide) rfl xu_5 (by decide) rfl xw_195 rfl rfl ?_
  refine gm_getI (pc := 26) (j := 3) X 3 dX5_copyFoundTo_26 rfl (by decide) rfl xu_3 (by decide) rfl xw_162 rfl ?_
  refine gm_Vv (pc := 29) X 3 xc_X5_100 (c_lie l G O _ k _ _ _ _ hkd) dX5_copyFoundTo_29 hkd (by decide) rfl rfl rfl rfl (Nat.le_of_ble_eq_true rfl) (fun t_29 hp => ?_)
  refine gm_st (t2 := setL t k (getB t)) hp rfl ?_
  clear hp
  refine g_aload_n (pc := 32) X dX5_copyFoundTo_32 rfl rfl ?_
  refine g_aload_n (pc := 33) X dX5_copyFoundTo_33 rfl rfl ?_
  refine gm_getR (k' := 4) (pc := 34) (j := 0) X 5 dX5_copyFoundTo_34 rfl (by decide) rfl xu_5 (by decide) rfl xw_191 rfl rfl ?_
  refine gm_Vi (pc := 37) X 7 xc_X5_85 (c_places l G O _ nl hnl (by rw [setL_ne _ _ _ (by omega)]; exact h4)) dX5_copyFoundTo_37 rfl (by decide) rfl rfl rfl rfl (Nat.le_of_ble_eq_true rfl) (fun v_37 t_37 hp => ?_)
  obtain ⟨rfl, hq9⟩ := hp
  have hq9 := hq9.symm
  subst hq9
  refine gm_putI (pc := 40) (j := 5) X 3 tyX3 dX5_copyFoundTo_40 hkd (by decide) rfl xu_3 tyX3_ok nmX3 (by decide) rfl xw_169 rfl rfl (Or.inl rfl) ?_
  refine g_aload_n (pc := 43) X dX5_copyFoundTo_43 rfl rfl ?_
  refine g_aload_n (pc := 44) X dX5_copyFoundTo_44 rfl rfl ?_
  refine g_aload_n (pc := 45) X dX5_copyFoundTo_45 rfl rfl ?_
  refine gm_Vi (pc := 46) X 5 xc_X5_140 (c_placesUpTo l G O _ nh (nl - 31) k u v hnh (by rw [xt_nk _ _ _ _ (by omega), setL_ne _ _ _ (by omega)]; exact h1) hu hv hkd hk68 (by simp [xt, setL, getB, e0]) (by simp [xt, setL, getB, e1]) (by simp [xt]) (by omega)) dX5_copyFoundTo_46 rfl (by decide) rfl rfl rfl rfl (Nat.le_of_ble_eq_true rfl) (fun v_46 t_46 hp => ?_)
  obtain ⟨rfl, hq9⟩ := hp
  have hq9 := hq9.symm
  subst hq9
  rw [hf, show xt (setL t k (getB t)) k 5 (nI (nl - 31)) k 3 = t 24 3 by simp [xt, setL, getB]]
  refine gm_putI (pc := 49) (j := 4) X 3 tyX3 dX5_copyFoundTo_49 hkd (by decide) rfl xu_3 tyX3_ok nmX3 (by decide) rfl xw_166 rfl rfl (Or.inl rfl) ?_
  refine g_aload_n (pc := 52) X dX5_copyFoundTo_52 rfl rfl ?_
  refine gm_getI (pc := 53) (j := 0) X 3 dX5_copyFoundTo_53 hkd (by decide) rfl xu_3 (by decide) rfl xw_152 rfl ?_
  refine g_aload_n (pc := 56) X dX5_copyFoundTo_56 rfl rfl ?_
  refine gm_getI (pc := 57) (j := 1) X 3 dX5_copyFoundTo_57 hkd (by decide) rfl xu_3 (by decide) rfl xw_154 rfl ?_
  refine g_max (pc := 60) X dX5_copyFoundTo_60 xw_426 xw_374 xw_44 xw_375 (by decide) (Nat.le_of_ble_eq_true rfl) (Nat.zero_le _) (Nat.zero_le _) ?_
  rw [show (xt (xt (setL t k (getB t)) k 5 (nI (nl - 31))) k 4 (nI (cn (fC t u v) (t 24 3) (nl - 31)))) k 0 = ov u by simp [xt, setL, getB, e0], show (xt (xt (setL t k (getB t)) k 5 (nI (nl - 31))) k 4 (nI (cn (fC t u v) (t 24 3) (nl - 31)))) k 1 = ov v by simp [xt, setL, getB, e1], hm1]
  refine g_istore_n (pc := 63) X dX5_copyFoundTo_63 rfl (by decide) ?_
  refine g_aload_n (pc := 64) X dX5_copyFoundTo_64 rfl rfl ?_
  refine g_aload_n (pc := 65) X dX5_copyFoundTo_65 rfl rfl ?_
  refine gm_getR (k' := 6) (pc := 66) (j := 1) X 5 dX5_copyFoundTo_66 rfl (by decide) rfl xu_5 (by decide) rfl xw_193 rfl rfl ?_
  refine g_iload_n (pc := 69) X dX5_copyFoundTo_69 rfl rfl ?_
  refine gm_Vi (pc := 70) X 2 xc_X5_49 (c_has l G O _ nh (nI (mx u v)) hnh (by rw [xt_nk _ _ _ _ (by omega), xt_nk _ _ _ _ (by omega), setL_ne _ _ _ (by omega)]; exact h1)) dX5_copyFoundTo_70 rfl (by decide) rfl rfl rfl rfl (Nat.le_of_ble_eq_true rfl) (fun v_70 t_70 hp => ?_)
  obtain ⟨rfl, hq9⟩ := hp
  have hq9 := hq9.symm
  subst hq9
  refine g_if_eq (pc := 73) (tgt := 91) X dX5_copyFoundTo_73 (by decide) (fun hc_73 => ?_) (fun hc_73 => ?_)
  · exact absurd ⟨nI_pos' (by omega), nI_lt hmn (by omega)⟩ (bi_0 hc_73)
  · refine g_aload_n (pc := 76) X dX5_copyFoundTo_76 rfl rfl ?_
    refine gm_getR (k' := 6) (pc := 77) (j := 1) X 5 dX5_copyFoundTo_77 rfl (by decide) rfl xu_5 (by decide) rfl xw_193 rfl rfl ?_
    refine gm_getR (k' := 7) (pc := 80) (j := 0) X 2 dX5_copyFoundTo_80 rfl (by decide) rfl xu_2 (by decide) rfl xw_132 rfl rfl ?_
    refine g_iload_n (pc := 83) X dX5_copyFoundTo_83 rfl rfl ?_
    refine gm_aald (pc := 84) (k' := (8 + 2 * (mx u v))) X 12 (mx u v) (.object "UnderText$Half") dX5_copyFoundTo_84 rfl (by decide) (by decide) rfl rfl rfl (show mx u v < 8 from by omega) (by decide) (kd_half (mx u v) hm8).2.1 ?_
    refine gm_getI (pc := 85) (j := 1) X 1 dX5_copyFoundTo_85 (kd_half (mx u v) hm8).1 (by decide) rfl xu_1 (by decide) rfl xw_114 rfl ?_
    refine g_goto (pc := 88) (tgt := 92) X dX5_copyFoundTo_88 (by decide) ?_
    refine gm_putI (pc := 92) (j := 6) X 3 tyX3 dX5_copyFoundTo_92 hkd (by decide) rfl xu_3 tyX3_ok nmX3 (by decide) rfl xw_172 rfl rfl (Or.inl rfl) ?_
    exact gm_vret (pc := 95) X hr hk dX5_copyFoundTo_95 (by rw [xt_nk _ _ _ (x := 8 + 2 * mx u v) _ (by omega), xt_nk _ _ _ (x := 8 + 2 * mx u v) _ (by omega), setL_ne _ _ (x := 8 + 2 * mx u v) _ (by omega)])

