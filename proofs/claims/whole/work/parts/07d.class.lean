/-! 07d: quarrels, best, led -/
def qo (F : Nat → Nat → Int32) (g : Nat → Int32) : Option Nat → Nat → Nat → Int32
  | none, _, _ => 0
  | some k, q, p => nI (qn (F k) g q p 16)
def fQ (F : Nat → Nat → Int32) (g : Nat → Int32) (u v : Option Nat) (p : Nat) : Int32 := qo F g u 0 p + qo F g v 1 p
abbrev lsC (t : xT) : Nat → Nat → Int32 := fun k => t (9 + 2 * k)
abbrev bsQ (t : xT) (pl a b : Nat) : B4 := bsg (ptC t) (sdC t) (rlC t) (fQ (lsC t) (t 5)) pl (min a b) (max a b) (-1, -1, -1, -1)
theorem fC_Q {T t : xT} {pl a b : Nat} (h42 : ∀ p, p < pl → T 42 p = 0) (hrow : ∀ k, k = a ∨ k = b → ∀ q, q < 2 → ∀ p, p < pl → T (26 + (2 * k + q)) p = nI (qn (t (9 + 2 * k)) (t 5) q p 16)) {u v : Option Nat} (hu : ∀ k, u = some k → k = a ∨ k = b) (hv : ∀ k, v = some k → k = a ∨ k = b) {p : Nat} (hp : p < pl) : fC T u v p = fQ (lsC t) (t 5) u v p := by
  have e : ∀ (w : Option Nat) (q : Nat), q < 2 → (∀ k, w = some k → k = a ∨ k = b) → T (rcell w q) p = qo (lsC t) (t 5) w q p := by
    intro w q hq hw
    cases w with
    | none => exact h42 p hp
    | some k => exact hrow k (hw k rfl) q hq p hp
  show T (rcell u 0) p + T (rcell v 1) p = _
  rw [e u 0 (by decide) hu, e v 1 (by decide) hv]; rfl
theorem mm_ab {a b k : Nat} (h : k = min a b ∨ k = max a b) : k = a ∨ k = b := by omega
theorem bsC_Q {T t : xT} {pl a b : Nat} (hT : ∀ x y, 8 ≤ x ∧ x < 24 → T x y = t x y) (h42 : ∀ p, p < pl → T 42 p = 0) (ha : a < 8) (hb : b < 8) (hrow : ∀ k, k = a ∨ k = b → ∀ q, q < 2 → ∀ p, p < pl → T (26 + (2 * k + q)) p = nI (qn (t (9 + 2 * k)) (t 5) q p 16)) : bsC T pl a b = bsQ t pl a b := by
  have hx : min a b < 8 := by omega
  have hy : max a b < 8 := by omega
  refine bsg_cong ⟨hT _ _ ⟨by omega, by omega⟩, hT _ _ ⟨by omega, by omega⟩⟩ ⟨hT _ _ ⟨by omega, by omega⟩, hT _ _ ⟨by omega, by omega⟩⟩ ⟨hT _ _ ⟨by omega, by omega⟩, hT _ _ ⟨by omega, by omega⟩⟩ ?_
  intro u v hu hv p hp
  exact fC_Q h42 hrow (fun k h => mm_ab (hu k h)) (fun k h => mm_ab (hv k h)) hp
abbrev qrP (nl nh : Nat) (h q y : Int32) : Prop := (0 ≤ h ∧ h < nI nh) ∧ (0 ≤ q ∧ q ≤ 1) ∧ (0 ≤ y ∧ y < nI (nl - 31))
theorem le_pred {y : Int32} {m : Nat} (hm : m ≤ 200) : (0 ≤ y ∧ y ≤ nI m - 1) ↔ (0 ≤ y ∧ y < nI m) := by
  have e : ∀ m : Nat, m < 201 → (nI m - 1).toInt = (m : Int) - 1 := by decide +kernel
  refine and_congr Iff.rfl ?_
  rw [i_le, i_lt, e m (by omega), nI_toInt (by omega)]
  omega
set_option maxRecDepth 100000 in
set_option maxHeartbeats 4000000 in
theorem c_quarrels (l : Launch) (G : xg_G) (O : Heap) (t : xT) (nl nh : Nat) (h q y : Int32) (hnl : nl ≤ 160) (h4 : t 4 1 = nI nl) (hlet : ∀ i, i < nl → ∃ c, c < 16 ∧ t 5 i = nI c) (hnh : nh ≤ 8) (h6 : t 6 1 = nI nh) : xm l yX8_quarrels cX8_quarrels 4 (some .int) rmX8_quarrels G O t [.ref (O.size + 0), .int h, .int q, .int y] (xi (fun v t' => v = (if qrP nl nh h q y then nI (qn (t (9 + 2 * h.toNatClampNeg)) (t 5) q.toNatClampNeg y.toNatClampNeg 16) else -1) ∧ ∀ x y, (x < 26 ∨ 42 ≤ x) → t' x y = t x y)) := by
  refine xm_enter (by decide) 0 rfl rfl ?_
  intro p e s m args below meth c X hr hk
  refine g_eq (L2 := [some (.ref (O.size + 0)), some (.int h), some (.int q), some (.int y)]) rfl rfl rfl ?_
  refine g_aload_n (pc := 0) X dX8_quarrels_0 rfl rfl ?_
  refine gm_getR (k' := 6) (pc := 1) (j := 3) X 8 dX8_quarrels_1 rfl (by decide) rfl xu_8 (by decide) rfl xw_268 rfl rfl ?_
  refine g_iload_n (pc := 4) X dX8_quarrels_4 rfl rfl ?_
  refine gm_Vi (pc := 5) X 2 xc_X8_114 (c_has l G O _ nh h hnh h6) dX8_quarrels_5 rfl (by decide) rfl rfl rfl rfl (Nat.le_of_ble_eq_true rfl) (fun v_5 t_5 hp => ?_)
  obtain ⟨rfl, hq9⟩ := hp
  have hq9 := hq9.symm
  subst hq9
  refine g_if_eq (pc := 8) (tgt := 35) X dX8_quarrels_8 (by decide) (fun hc_8 => ?_) (fun hc_8 => ?_)
  · refine g_iconst (pc := 35) (v := (-1)) X dX8_quarrels_35 (by decide) ?_
    exact gm_iret (pc := 36) X hr hk dX8_quarrels_36 (⟨(if_neg (fun q9 => bi_0 hc_8 q9.1)).symm, fun _ _ _ => rfl⟩)
  · refine g_iload_n (pc := 11) X dX8_quarrels_11 rfl rfl ?_
    refine g_iconst (pc := 12) (v := 1) X dX8_quarrels_12 (by decide) ?_
    refine gm_Si (pc := 13) X xc_X8_79 (c_isWithin l G O _ q 1) dX8_quarrels_13 rfl rfl rfl (Nat.le_of_ble_eq_true rfl) (fun v_13 t_13 hp => ?_)
    obtain ⟨rfl, hq9⟩ := hp
    have hq9 := hq9.symm
    subst hq9
    refine g_if_eq (pc := 16) (tgt := 35) X dX8_quarrels_16 (by decide) (fun hc_16 => ?_) (fun hc_16 => ?_)
    · refine g_iconst (pc := 35) (v := (-1)) X dX8_quarrels_35 (by decide) ?_
      exact gm_iret (pc := 36) X hr hk dX8_quarrels_36 (⟨(if_neg (fun q9 => bi_0 hc_16 q9.2.1)).symm, fun _ _ _ => rfl⟩)
    · refine g_iload_n (pc := 19) X dX8_quarrels_19 rfl rfl ?_
      refine g_aload_n (pc := 20) X dX8_quarrels_20 rfl rfl ?_
      refine gm_getR (k' := 4) (pc := 21) (j := 2) X 8 dX8_quarrels_21 rfl (by decide) rfl xu_8 (by decide) rfl xw_267 rfl rfl ?_
      refine gm_Vi (pc := 24) X 7 xc_X8_118 (c_places l G O _ nl hnl h4) dX8_quarrels_24 rfl (by decide) rfl rfl rfl rfl (Nat.le_of_ble_eq_true rfl) (fun v_24 t_24 hp => ?_)
      obtain ⟨rfl, hq9⟩ := hp
      have hq9 := hq9.symm
      subst hq9
      refine g_iconst (pc := 27) (v := 1) X dX8_quarrels_27 (by decide) ?_
      refine g_isub (pc := 28) X dX8_quarrels_28 ?_
      refine gm_Si (pc := 29) X xc_X8_79 (c_isWithin l G O _ y _) dX8_quarrels_29 rfl rfl rfl (Nat.le_of_ble_eq_true rfl) (fun v_29 t_29 hp => ?_)
      obtain ⟨rfl, hq9⟩ := hp
      have hq9 := hq9.symm
      subst hq9
      refine g_if_ne (pc := 32) (tgt := 37) X dX8_quarrels_32 (by decide) (fun hc_32 => ?_) (fun hc_32 => ?_)
      · have hqr : qrP nl nh h q y := ⟨bi_1 hc_8, bi_1 hc_16, (le_pred (by omega)).mp (bi_1 hc_32)⟩
        obtain ⟨k, hk1, rfl⟩ := (i_in (by omega)).mp hqr.1
        obtain ⟨q1, hq1, rfl⟩ := nI_of2 (M := 1) (n := 1) rfl (fun z => absurd hqr.2.1.1 (k2_nle z)) hqr.2.1.2
        obtain ⟨y1, hy1, rfl⟩ := (i_in (by omega)).mp hqr.2.2
        refine g_aload_n (pc := 37) X dX8_quarrels_37 rfl rfl ?_
        refine gm_getR (k' := 3) (pc := 38) (j := 1) X 8 dX8_quarrels_38 rfl (by decide) rfl xu_8 (by decide) rfl xw_266 rfl rfl ?_
        refine g_iload_n (pc := 41) X dX8_quarrels_41 rfl rfl ?_
        refine gm_Vv (pc := 42) X 5 xc_X8_122 (c_weigh l G O _ nl nh k hnl h4 hlet hnh h6 hk1) dX8_quarrels_42 rfl (by decide) rfl rfl rfl rfl (Nat.le_of_ble_eq_true rfl) (fun t_42 hp => ?_)
        subst hp
        refine g_aload_n (pc := 45) X dX8_quarrels_45 rfl rfl ?_
        refine gm_getR (k' := 3) (pc := 46) (j := 1) X 8 dX8_quarrels_46 rfl (by decide) rfl xu_8 (by decide) rfl xw_266 rfl rfl ?_
        refine g_iload_n (pc := 49) X dX8_quarrels_49 rfl rfl ?_
        refine g_iload_n (pc := 50) X dX8_quarrels_50 rfl rfl ?_
        refine g_iload_n (pc := 51) X dX8_quarrels_51 rfl rfl ?_
        refine gm_Vi (pc := 52) X 5 xc_X8_125 (c_quarrelsAs l G O _ nh k q1 y1 hnh (by rw [xw1_ne _ (by omega)]; exact h6) hk1 (by omega) (by omega)) dX8_quarrels_52 rfl (by decide) rfl rfl rfl rfl (Nat.le_of_ble_eq_true rfl) (fun v_52 t_52 hp => ?_)
        obtain ⟨rfl, hq9⟩ := hp
        have hq9 := hq9.symm
        subst hq9
        exact gm_iret (pc := 55) X hr hk dX8_quarrels_55 (⟨by rw [if_pos hqr, nI_clamp (by omega), nI_clamp (by omega), nI_clamp (by omega), xw1_row _ (by omega) (by omega) hy1], fun x y hx => by rw [xw1_ne _ (by omega)]⟩)
      · refine g_iconst (pc := 35) (v := (-1)) X dX8_quarrels_35 (by decide) ?_
        exact gm_iret (pc := 36) X hr hk dX8_quarrels_36 (⟨(if_neg (fun q9 => bi_0 hc_32 ((le_pred (by omega)).mpr q9.2.2))).symm, fun _ _ _ => rfl⟩)

set_option maxRecDepth 100000 in
set_option maxHeartbeats 4000000 in
theorem c_best (l : Launch) (G : xg_G) (O : Heap) (t : xT) (nl nh : Nat) (a b w : Int32) (hnl : nl ≤ 160) (h4 : t 4 1 = nI nl) (hlet : ∀ i, i < nl → ∃ c, c < 16 ∧ t 5 i = nI c) (hnh : nh ≤ 8) (h6 : t 6 1 = nI nh) (h42 : ∀ p, p < 129 → t 42 p = 0) : xm l yX8_best cX8_best 4 (some .int) rmX8_best G O t [.ref (O.size + 0), .int a, .int b, .int w] (xi (fun v t' => v = (if (0 ≤ a ∧ a < nI nh) ∧ (0 ≤ b ∧ b < nI nh) ∧ ¬ (bsQ t (nl - 31) a.toNatClampNeg b.toNatClampNeg).2.2.2 = -1 then (if w = nI 0 then (bsQ t (nl - 31) a.toNatClampNeg b.toNatClampNeg).2.2.2 else if w = nI 1 then (bsQ t (nl - 31) a.toNatClampNeg b.toNatClampNeg).2.2.1 else if w = nI 2 then (bsQ t (nl - 31) a.toNatClampNeg b.toNatClampNeg).1 else -1) else -1) ∧ ∀ x y, x ≠ 24 → (x < 26 ∨ 42 ≤ x) → t' x y = t x y)) := by
  refine xm_enter (by decide) 0 rfl rfl ?_
  intro p e s m args below meth c X hr hk
  refine g_eq (L2 := [some (.ref (O.size + 0)), some (.int a), some (.int b), some (.int w)]) rfl rfl rfl ?_
  refine g_aload_n (pc := 0) X dX8_best_0 rfl rfl ?_
  refine gm_getR (k' := 6) (pc := 1) (j := 3) X 8 dX8_best_1 rfl (by decide) rfl xu_8 (by decide) rfl xw_268 rfl rfl ?_
  refine g_iload_n (pc := 4) X dX8_best_4 rfl rfl ?_
  refine gm_Vi (pc := 5) X 2 xc_X8_114 (c_has l G O _ nh a hnh h6) dX8_best_5 rfl (by decide) rfl rfl rfl rfl (Nat.le_of_ble_eq_true rfl) (fun v_5 t_5 hp => ?_)
  obtain ⟨rfl, hq9⟩ := hp
  have hq9 := hq9.symm
  subst hq9
  refine g_if_eq (pc := 8) (tgt := 22) X dX8_best_8 (by decide) (fun hc_8 => ?_) (fun hc_8 => ?_)
  · refine g_iconst (pc := 22) (v := (-1)) X dX8_best_22 (by decide) ?_
    exact gm_iret (pc := 23) X hr hk dX8_best_23 (⟨(if_neg (fun q9 => bi_0 hc_8 q9.1)).symm, fun _ _ _ _ => rfl⟩)
  · refine g_aload_n (pc := 11) X dX8_best_11 rfl rfl ?_
    refine gm_getR (k' := 6) (pc := 12) (j := 3) X 8 dX8_best_12 rfl (by decide) rfl xu_8 (by decide) rfl xw_268 rfl rfl ?_
    refine g_iload_n (pc := 15) X dX8_best_15 rfl rfl ?_
    refine gm_Vi (pc := 16) X 2 xc_X8_114 (c_has l G O _ nh b hnh h6) dX8_best_16 rfl (by decide) rfl rfl rfl rfl (Nat.le_of_ble_eq_true rfl) (fun v_16 t_16 hp => ?_)
    obtain ⟨rfl, hq9⟩ := hp
    have hq9 := hq9.symm
    subst hq9
    refine g_if_ne (pc := 19) (tgt := 24) X dX8_best_19 (by decide) (fun hc_19 => ?_) (fun hc_19 => ?_)
    · have ha1 := bi_1 hc_8
      have hb1 := bi_1 hc_19
      obtain ⟨i1, hi1, rfl⟩ := (i_in (by omega)).mp ha1
      obtain ⟨j1, hj1, rfl⟩ := (i_in (by omega)).mp hb1
      rw [nI_clamp (show i1 < 2 ^ 31 by omega), nI_clamp (show j1 < 2 ^ 31 by omega)]
      have ebs : bsC (xw1 (xw1 t (nl - 31) i1) (nl - 31) j1) (nl - 31) i1 j1 = bsQ t (nl - 31) i1 j1 := by
        refine bsC_Q (fun x y hx => by rw [xw1_ne _ (by omega), xw1_ne _ (by omega)]) (fun p hp => by rw [xw1_ne _ (by omega), xw1_ne _ (by omega)]; exact h42 p (by omega)) (by omega) (by omega) (fun k hk9 q hq p hp => ?_)
        by_cases ej : k = j1
        · subst ej
          rw [xw1_row _ hq (by omega) hp, xw1_ne _ (x := 9 + 2 * k) (by omega), xw1_ne _ (x := 5) (by omega)]
        · rcases hk9 with rfl | rfl
          · rw [xw1_ne _ (by omega), xw1_row _ hq (by omega) hp]
          · exact absurd rfl ej
      generalize hRe : bsQ t (nl - 31) i1 j1 = R at *
      have hoff : ∀ x y, x ≠ 24 → (x < 26 ∨ 42 ≤ x) → setB (xw1 (xw1 t (nl - 31) i1) (nl - 31) j1) R x y = t x y := fun x y q1 q2 => by rw [setB_ne _ _ _ q1, xw1_ne _ (by omega), xw1_ne _ (by omega)]
      refine g_aload_n (pc := 24) X dX8_best_24 rfl rfl ?_
      refine gm_getR (k' := 3) (pc := 25) (j := 1) X 8 dX8_best_25 rfl (by decide) rfl xu_8 (by decide) rfl xw_266 rfl rfl ?_
      refine g_iload_n (pc := 28) X dX8_best_28 rfl rfl ?_
      refine gm_Vv (pc := 29) X 5 xc_X8_122 (c_weigh l G O _ nl nh i1 hnl h4 hlet hnh h6 hi1) dX8_best_29 rfl (by decide) rfl rfl rfl rfl (Nat.le_of_ble_eq_true rfl) (fun t_29 hp => ?_)
      subst hp
      refine g_aload_n (pc := 32) X dX8_best_32 rfl rfl ?_
      refine gm_getR (k' := 3) (pc := 33) (j := 1) X 8 dX8_best_33 rfl (by decide) rfl xu_8 (by decide) rfl xw_266 rfl rfl ?_
      refine g_iload_n (pc := 36) X dX8_best_36 rfl rfl ?_
      refine gm_Vv (pc := 37) X 5 xc_X8_122 (c_weigh l G O _ nl nh j1 hnl (by rw [xw1_ne _ (by omega)]; exact h4) (fun i hi => by rw [xw1_ne _ (by omega)]; exact hlet i hi) hnh (by rw [xw1_ne _ (by omega)]; exact h6) hj1) dX8_best_37 rfl (by decide) rfl rfl rfl rfl (Nat.le_of_ble_eq_true rfl) (fun t_37 hp => ?_)
      subst hp
      refine g_aload_n (pc := 40) X dX8_best_40 rfl rfl ?_
      refine gm_getR (k' := 3) (pc := 41) (j := 1) X 8 dX8_best_41 rfl (by decide) rfl xu_8 (by decide) rfl xw_266 rfl rfl ?_
      refine g_iload_n (pc := 44) X dX8_best_44 rfl rfl ?_
      refine g_iload_n (pc := 45) X dX8_best_45 rfl rfl ?_
      refine gm_Vi (pc := 46) X 5 xc_X8_128 (c_seekBest l G O _ nl nh i1 j1 hnl (by rw [xw1_ne _ (by omega), xw1_ne _ (by omega)]; exact h4) hnh (by rw [xw1_ne _ (by omega), xw1_ne _ (by omega)]; exact h6) hi1 hj1) dX8_best_46 rfl (by decide) rfl rfl rfl rfl (Nat.le_of_ble_eq_true rfl) (fun v_46 t_46 hp => ?_)
      obtain ⟨hv46, ht46⟩ := hp
      have ev46 : v_46 = bi (¬ (bsC (xw1 (xw1 t (nl - 31) i1) (nl - 31) j1) (nl - 31) i1 j1).2.2.2 = -1) := hv46
      have et46 : t_46 = setB (xw1 (xw1 t (nl - 31) i1) (nl - 31) j1) (bsC (xw1 (xw1 t (nl - 31) i1) (nl - 31) j1) (nl - 31) i1 j1) := ht46
      rw [ebs] at ev46 et46
      subst ev46
      subst et46
      clear hv46 ht46
      refine g_if_ne (pc := 49) (tgt := 54) X dX8_best_49 (by decide) (fun hc_49 => ?_) (fun hc_49 => ?_)
      · have hall : (0 ≤ nI i1 ∧ nI i1 < nI nh) ∧ (0 ≤ nI j1 ∧ nI j1 < nI nh) ∧ ¬ R.2.2.2 = -1 := ⟨ha1, hb1, bi_1 hc_49⟩
        refine g_iload_n (pc := 54) X dX8_best_54 rfl rfl ?_
        by_cases hs_55_0 : w = nI 0
        · refine g_swIn (pc := 55) (tgt := 80) X 0 dX8_best_55 hs_55_0 (by decide) rfl (by decide) rfl (by decide) ?_
          refine g_aload_n (pc := 80) X dX8_best_80 rfl rfl ?_
          refine gm_getR (k' := 3) (pc := 81) (j := 1) X 8 dX8_best_81 rfl (by decide) rfl xu_8 (by decide) rfl xw_266 rfl rfl ?_
          refine gm_getR (k' := 24) (pc := 84) (j := 2) X 5 dX8_best_84 rfl (by decide) rfl xu_5 (by decide) rfl xw_197 rfl rfl ?_
          refine gm_getI (pc := 87) (j := 3) X 3 dX8_best_87 rfl (by decide) rfl xu_3 (by decide) rfl xw_163 rfl ?_
          exact gm_iret (pc := 90) X hr hk dX8_best_90 (⟨by rw [show setB (xw1 (xw1 t (nl - 31) i1) (nl - 31) j1) R 24 3 = R.2.2.2 by simp [setB, xt], if_pos hall, if_pos hs_55_0], hoff⟩)
        by_cases hs_55_1 : w = nI 1
        · refine g_swIn (pc := 55) (tgt := 91) X 1 dX8_best_55 hs_55_1 (by decide) rfl (by decide) rfl (by decide) ?_
          refine g_aload_n (pc := 91) X dX8_best_91 rfl rfl ?_
          refine gm_getR (k' := 3) (pc := 92) (j := 1) X 8 dX8_best_92 rfl (by decide) rfl xu_8 (by decide) rfl xw_266 rfl rfl ?_
          refine gm_getR (k' := 24) (pc := 95) (j := 2) X 5 dX8_best_95 rfl (by decide) rfl xu_5 (by decide) rfl xw_197 rfl rfl ?_
          refine gm_getI (pc := 98) (j := 2) X 3 dX8_best_98 rfl (by decide) rfl xu_3 (by decide) rfl xw_158 rfl ?_
          exact gm_iret (pc := 101) X hr hk dX8_best_101 (⟨by rw [show setB (xw1 (xw1 t (nl - 31) i1) (nl - 31) j1) R 24 2 = R.2.2.1 by simp [setB, xt], if_pos hall, if_neg hs_55_0, if_pos hs_55_1], hoff⟩)
        by_cases hs_55_2 : w = nI 2
        · refine g_swIn (pc := 55) (tgt := 102) X 2 dX8_best_55 hs_55_2 (by decide) rfl (by decide) rfl (by decide) ?_
          refine g_aload_n (pc := 102) X dX8_best_102 rfl rfl ?_
          refine gm_getR (k' := 3) (pc := 103) (j := 1) X 8 dX8_best_103 rfl (by decide) rfl xu_8 (by decide) rfl xw_266 rfl rfl ?_
          refine gm_getR (k' := 24) (pc := 106) (j := 2) X 5 dX8_best_106 rfl (by decide) rfl xu_5 (by decide) rfl xw_197 rfl rfl ?_
          refine gm_getI (pc := 109) (j := 0) X 3 dX8_best_109 rfl (by decide) rfl xu_3 (by decide) rfl xw_151 rfl ?_
          exact gm_iret (pc := 112) X hr hk dX8_best_112 (⟨by rw [show setB (xw1 (xw1 t (nl - 31) i1) (nl - 31) j1) R 24 0 = R.1 by simp [setB, xt], if_pos hall, if_neg hs_55_0, if_neg hs_55_1, if_pos hs_55_2], hoff⟩)
        refine g_swOut (pc := 55) (tgt := 113) X 2 dX8_best_55 rfl rfl (by decide) (fun k hk => match k, hk with | 0, _ => hs_55_0 | 1, _ => hs_55_1 | 2, _ => hs_55_2 | k + 3, h => absurd h (by omega)) (by decide) ?_
        refine g_iconst (pc := 113) (v := (-1)) X dX8_best_113 (by decide) ?_
        exact gm_iret (pc := 114) X hr hk dX8_best_114 (⟨by rw [if_pos hall, if_neg hs_55_0, if_neg hs_55_1, if_neg hs_55_2], hoff⟩)
      · refine g_iconst (pc := 52) (v := (-1)) X dX8_best_52 (by decide) ?_
        exact gm_iret (pc := 53) X hr hk dX8_best_53 (⟨(if_neg (fun q9 => absurd q9.2.2 (bi_0 hc_49))).symm, hoff⟩)
    · refine g_iconst (pc := 22) (v := (-1)) X dX8_best_22 (by decide) ?_
      exact gm_iret (pc := 23) X hr hk dX8_best_23 (⟨(if_neg (fun q9 => bi_0 hc_19 q9.2.1)).symm, fun _ _ _ _ => rfl⟩)

abbrev ldJ (t : xT) (h : Int32) : Nat := (t 58 h.toNatClampNeg).toNatClampNeg
abbrev ldL (t : xT) (h f s : Int32) : Int32 := t 5 ((t (68 + ldJ t h) 2).toNatClampNeg + la (if h = t (68 + ldJ t h) 0 then 0 else 1) (spI f s))
theorem hb_in {a : Int32} {c : Nat} (hc : c < 16) : ((0 ≤ nI c ∧ nI c ≤ 15) ∧ (a >>> (nI c &&& 31)) &&& 1 = 1) ↔ hb a (nI c) = true := by
  unfold hb
  rw [decide_eq_true_eq]
  exact ⟨fun h => h.2, fun h => ⟨⟨nI_pos' (by omega), nI_le (a := c) (b := 15) (by omega) (by omega)⟩, h⟩⟩
set_option maxRecDepth 100000 in
set_option maxHeartbeats 4000000 in
theorem c_led (l : Launch) (G : xg_G) (O : Heap) (t : xT) (nl nh nj : Nat) (h f s0 : Int32) (hnl : nl ≤ 160) (h4 : t 4 1 = nI nl) (hlet : ∀ i, i < nl → ∃ c, c < 16 ∧ t 5 i = nI c) (hnh : nh ≤ 8) (h6 : t 6 1 = nI nh) (hnj : nj ≤ 8) (h5 : t 55 4 = nI nj) (h58 : ∀ h, h < 8 → t 58 h = -1 ∨ ∃ j p, j < nj ∧ t 58 h = nI j ∧ t (68 + j) 2 = nI p ∧ p + 32 ≤ nl) : xm l yX8_led cX8_led 7 (some .int) rmX8_led G O t [.ref (O.size + 0), .int h, .int f, .int s0] (xi (fun v t' => v = (if spP nh h f s0 ∧ ¬ t 58 h.toNatClampNeg = -1 then (if hb (t (60 + h.toNatClampNeg) (spI f s0)) (ldL t h f s0) = true then ldL t h f s0 else -1) else -1) ∧ t' = t)) := by
  refine xm_enter (by decide) 3 rfl rfl ?_
  intro p e s m args below meth c X hr hk
  refine g_eq (L2 := [some (.ref (O.size + 0)), some (.int h), some (.int f), some (.int s0), none, none, none]) rfl rfl rfl ?_
  refine g_aload_n (pc := 0) X dX8_led_0 rfl rfl ?_
  refine g_iload_n (pc := 1) X dX8_led_1 rfl rfl ?_
  refine g_iload_n (pc := 2) X dX8_led_2 rfl rfl ?_
  refine g_iload_n (pc := 3) X dX8_led_3 rfl rfl ?_
  refine gm_Vi (pc := 4) X 8 xc_X8_89 (c_isSpot l G O _ nh h f s0 hnh h6) dX8_led_4 rfl (by decide) rfl rfl rfl rfl (Nat.le_of_ble_eq_true rfl) (fun v_4 t_4 hp => ?_)
  obtain ⟨rfl, hq9⟩ := hp
  have hq9 := hq9.symm
  subst hq9
  refine g_if_eq (pc := 7) (tgt := 29) X dX8_led_7 (by decide) (fun hc_7 => ?_) (fun hc_7 => ?_)
  · refine g_iconst (pc := 29) (v := (-1)) X dX8_led_29 (by decide) ?_
    exact gm_iret (pc := 30) X hr hk dX8_led_30 (⟨(if_neg (fun q9 => bi_0 hc_7 q9.1)).symm, rfl⟩)
  · have hsp := bi_1 hc_7
    obtain ⟨k, a, b, hk1, ha, hb1, rfl, rfl, rfl⟩ := sp_of hnh hsp
    have eI : spI (nI a) (nI b) = 8 * a + b := by show 8 * (nI a).toNatClampNeg + (nI b).toNatClampNeg = _; rw [nI_clamp (by omega), nI_clamp (by omega)]
    rw [eI, nI_clamp (show k < 2 ^ 31 by omega)]
    refine g_aload_n (pc := 10) X dX8_led_10 rfl rfl ?_
    refine gm_getR (k' := 55) (pc := 11) (j := 5) X 8 dX8_led_11 rfl (by decide) rfl xu_8 (by decide) rfl xw_270 rfl rfl ?_
    refine g_aload_n (pc := 14) X dX8_led_14 rfl rfl ?_
    refine gm_getR (k' := 55) (pc := 15) (j := 5) X 8 dX8_led_15 rfl (by decide) rfl xu_8 (by decide) rfl xw_270 rfl rfl ?_
    refine gm_getR (k' := 58) (pc := 18) (j := 2) X 0 dX8_led_18 rfl (by decide) rfl xu_0 (by decide) rfl xw_249 rfl rfl ?_
    refine g_iload_n (pc := 21) X dX8_led_21 rfl rfl ?_
    refine gm_iald (pc := 22) X (k) dX8_led_22 rfl rfl (show k < 8 from by omega) (by decide) ?_
    refine gm_Vi (pc := 23) X 0 xc_X8_161 (c_bhas l G O _ nj _ hnj h5) dX8_led_23 rfl (by decide) rfl rfl rfl rfl (Nat.le_of_ble_eq_true rfl) (fun v_23 t_23 hp => ?_)
    obtain ⟨rfl, hq9⟩ := hp
    have hq9 := hq9.symm
    subst hq9
    refine g_if_ne (pc := 26) (tgt := 31) X dX8_led_26 (by decide) (fun hc_26 => ?_) (fun hc_26 => ?_)
    · have hin := bi_1 hc_26
      rcases h58 k (by omega) with q8 | ⟨j1, p1, hj1, e8, e9, hp1⟩
      · rw [q8] at hin; exact absurd hin.1 (by decide)
      have hj8 : j1 < 8 := by omega
      have hne : ¬ t 58 k = -1 := by rw [e8]; exact nI_nm1 j1 hj8
      have hL : ∀ q, q < 2 → ∃ c, c < 16 ∧ t 5 (p1 + la q (8 * a + b)) = nI c := fun q hq => hlet _ (by have := la_lt q hq (8 * a + b) (by omega); omega)
      have eJ : ldJ t (nI k) = j1 := by show (t 58 (nI k).toNatClampNeg).toNatClampNeg = j1; rw [nI_clamp (by omega), e8, nI_clamp (by omega)]
      have eP : ∃ q, q < 2 ∧ (if nI k = t (68 + j1) 0 then (0 : Int32) else 1) = nI q ∧ (if nI k = t (68 + j1) 0 then 0 else 1) = q := by
        by_cases q9 : nI k = t (68 + j1) 0
        · exact ⟨0, by decide, by rw [if_pos q9]; rfl, by rw [if_pos q9]⟩
        · exact ⟨1, by decide, by rw [if_neg q9]; rfl, by rw [if_neg q9]⟩
      obtain ⟨pq, hpq, eq1, eq2⟩ := eP
      obtain ⟨c1, hc1, ec1⟩ := hL pq hpq
      have eLd : ldL t (nI k) (nI a) (nI b) = nI c1 := by
        show t 5 ((t (68 + ldJ t (nI k)) 2).toNatClampNeg + la (if nI k = t (68 + ldJ t (nI k)) 0 then 0 else 1) (spI (nI a) (nI b))) = _
        rw [eJ, e9, nI_clamp (by omega), eq2, eI]; exact ec1
      rw [if_pos ⟨hsp, hne⟩, eLd]
      refine g_aload_n (pc := 31) X dX8_led_31 rfl rfl ?_
      refine gm_getR (k' := 55) (pc := 32) (j := 5) X 8 dX8_led_32 rfl (by decide) rfl xu_8 (by decide) rfl xw_270 rfl rfl ?_
      refine gm_getR (k' := 56) (pc := 35) (j := 0) X 0 dX8_led_35 rfl (by decide) rfl xu_0 (by decide) rfl xw_245 rfl rfl ?_
      refine g_aload_n (pc := 38) X dX8_led_38 rfl rfl ?_
      refine gm_getR (k' := 55) (pc := 39) (j := 5) X 8 dX8_led_39 rfl (by decide) rfl xu_8 (by decide) rfl xw_270 rfl rfl ?_
      refine gm_getR (k' := 58) (pc := 42) (j := 2) X 0 dX8_led_42 rfl (by decide) rfl xu_0 (by decide) rfl xw_249 rfl rfl ?_
      refine g_iload_n (pc := 45) X dX8_led_45 rfl rfl ?_
      refine gm_iald (pc := 46) X (k) dX8_led_46 rfl rfl (show k < 8 from by omega) (by decide) ?_
      refine gm_aald (pc := 47) (k' := (68 + j1)) X 13 (j1) (.object "UnderText$Leaf") dX8_led_47 rfl (by decide) (by decide) rfl rfl e8 (show j1 < 8 from by omega) (by decide) (kd_leaf j1 hj8).1 ?_
      refine g_astore (pc := 48) X dX8_led_48 (by decide) ?_
      refine g_iload_n (pc := 50) X dX8_led_50 rfl rfl ?_
      refine g_iload_n (pc := 51) X dX8_led_51 rfl rfl ?_
      refine gm_Si (pc := 52) X xc_X8_104 (c_spotIndex l G O _ _ _) dX8_led_52 rfl rfl rfl (Nat.le_of_ble_eq_true rfl) (fun v_52 t_52 hp => ?_)
      obtain ⟨rfl, hq9⟩ := hp
      have hq9 := hq9.symm
      subst hq9
      refine g_istore (pc := 55) X dX8_led_55 (by decide) ?_
      refine g_aload_n (pc := 57) X dX8_led_57 rfl rfl ?_
      refine gm_getR (k' := 4) (pc := 58) (j := 2) X 8 dX8_led_58 rfl (by decide) rfl xu_8 (by decide) rfl xw_267 rfl rfl ?_
      refine g_aload (pc := 61) X dX8_led_61 rfl ?_
      refine gm_getI (pc := 63) (j := 2) X 3 dX8_led_63 (kd_leaf j1 hj8).2 (by decide) rfl xu_3 (by decide) rfl xw_158 rfl ?_
      refine g_aload (pc := 66) X dX8_led_66 rfl ?_
      refine g_iload_n (pc := 68) X dX8_led_68 rfl rfl ?_
      refine gm_Vi (pc := 69) X 3 xc_X8_186 (c_partOf l G O _ (68 + j1) (nI k) (kd_leaf j1 hj8).2) dX8_led_69 (kd_leaf j1 hj8).2 (by decide) rfl rfl rfl rfl (Nat.le_of_ble_eq_true rfl) (fun v_69 t_69 hp => ?_)
      obtain ⟨rfl, hq9⟩ := hp
      have hq9 := hq9.symm
      subst hq9
      refine g_iload (pc := 72) X dX8_led_72 rfl ?_
      rw [eq1, idx8]
      refine gm_Si (pc := 74) X xc_X8_189 (c_lettersAhead l G O _ pq (8 * a + b) hpq (by omega)) dX8_led_74 rfl rfl rfl (Nat.le_of_ble_eq_true rfl) (fun v_74 t_74 hp => ?_)
      obtain ⟨rfl, hq9⟩ := hp
      have hq9 := hq9.symm
      subst hq9
      refine g_iadd (pc := 77) X dX8_led_77 ?_
      rw [e9, nI_add]
      refine gm_Vi (pc := 78) X 7 xc_X8_192 (c_letterAt l G O _ nl (p1 + la pq (8 * a + b)) hnl h4 (by have := la_lt pq hpq (8 * a + b) (by omega); omega)) dX8_led_78 rfl (by decide) rfl rfl rfl rfl (Nat.le_of_ble_eq_true rfl) (fun v_78 t_78 hp => ?_)
      obtain ⟨rfl, hq9⟩ := hp
      have hq9 := hq9.symm
      subst hq9
      rw [ec1]
      refine g_istore (pc := 81) X dX8_led_81 (by decide) ?_
      refine g_aload_n (pc := 83) X dX8_led_83 rfl rfl ?_
      refine gm_getR (k' := 55) (pc := 84) (j := 5) X 8 dX8_led_84 rfl (by decide) rfl xu_8 (by decide) rfl xw_270 rfl rfl ?_
      refine gm_getR (k' := 59) (pc := 87) (j := 3) X 0 dX8_led_87 rfl (by decide) rfl xu_0 (by decide) rfl xw_251 rfl rfl ?_
      refine g_iload_n (pc := 90) X dX8_led_90 rfl rfl ?_
      refine gm_aald (pc := 91) (k' := (60 + k)) X 11 (k) (.array .int) dX8_led_91 rfl (by decide) (by decide) rfl rfl rfl (show k < 8 from by omega) (by decide) (kd_was k (show k < 8 by omega)).1 ?_
      refine g_iload (pc := 92) X dX8_led_92 rfl ?_
      refine gm_iald (pc := 94) X (8 * a + b) dX8_led_94 (kd_was k (show k < 8 by omega)).2.1 rfl (by rw [(kd_was k (show k < 8 by omega)).2.2]; omega) (by rw [(kd_was k (show k < 8 by omega)).2.2]; decide) ?_
      refine g_iload (pc := 95) X dX8_led_95 rfl ?_
      refine gm_Si (pc := 97) X xc_X8_198 (c_hasLetter l G O _ _ _) dX8_led_97 rfl rfl rfl (Nat.le_of_ble_eq_true rfl) (fun v_97 t_97 hp => ?_)
      obtain ⟨rfl, hq9⟩ := hp
      have hq9 := hq9.symm
      subst hq9
      refine g_if_eq (pc := 100) (tgt := 108) X dX8_led_100 (by decide) (fun hc_100 => ?_) (fun hc_100 => ?_)
      · refine g_iconst (pc := 108) (v := (-1)) X dX8_led_108 (by decide) ?_
        exact gm_iret (pc := 109) X hr hk dX8_led_109 (⟨(if_neg (fun q9 => bi_0 hc_100 ((hb_in hc1).mpr q9))).symm, rfl⟩)
      · refine g_iload (pc := 103) X dX8_led_103 rfl ?_
        refine g_goto (pc := 105) (tgt := 109) X dX8_led_105 (by decide) ?_
        exact gm_iret (pc := 109) X hr hk dX8_led_109 (⟨(if_pos ((hb_in hc1).mp (bi_1 hc_100))).symm, rfl⟩)
    · refine g_iconst (pc := 29) (v := (-1)) X dX8_led_29 (by decide) ?_
      exact gm_iret (pc := 30) X hr hk dX8_led_30 (⟨(if_neg (fun q9 => by rcases h58 k (by omega) with q8 | ⟨j, p1, hj, e8, -⟩; exact q9.2 q8; exact bi_0 hc_26 (by rw [e8]; exact ⟨nI_pos' (by omega), nI_lt hj (by omega)⟩))).symm, rfl⟩)

