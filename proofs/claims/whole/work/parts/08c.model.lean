/-! 08c: the reference: leaf, book, led, count, work -/
abbrev lfV (t : xT) (k w : Nat) : Int32 := if w = 5 then t 76 27 else t (85 + w) k
set_option maxRecDepth 100000 in
set_option maxHeartbeats 4000000 in
theorem m_leaf (l : Launch) (G : xg_G) (O : Heap) (t : xT) (nj : Nat) (n w : Int32) (hnj : nj ≤ 8) (h21 : t 76 21 = nI nj) : xm l yX9_leaf cX9_leaf 3 (some .int) rmX9_leaf G O t [.ref (O.size + 76), .int n, .int w] (xi (fun v t' => v = (if (0 ≤ n ∧ n < nI nj) ∧ (0 ≤ w ∧ w < nI 6) then lfV t n.toNatClampNeg w.toNatClampNeg else -1) ∧ t' = xt t 76 0 0)) := by
  refine xm_enter (by decide) 0 rfl rfl ?_
  intro p e s m args below meth c X hr hk
  refine g_eq (L2 := [some (.ref (O.size + 76)), some (.int n), some (.int w)]) rfl rfl rfl ?_
  refine g_aload_n (pc := 0) X dX9_leaf_0 rfl rfl ?_
  refine g_iconst (pc := 1) (v := 0) X dX9_leaf_1 (by decide) ?_
  refine gm_putI (pc := 2) (j := 0) X 9 tyX9 dX9_leaf_2 rfl (by decide) rfl xu_9 tyX9_ok nmX9 (by decide) rfl xw_591 rfl rfl (Or.inl rfl) ?_
  generalize hTe : xt t 76 0 0 = T at *
  have eT : ∀ x y, x ≠ 76 ∨ y ≠ 0 → T x y = t x y := fun x y q => by rw [← hTe]; exact xt_ne _ _ q
  have e21 : T 76 21 = nI nj := by rw [eT 76 21 (by decide)]; exact h21
  refine g_iload_n (pc := 5) X dX9_leaf_5 rfl rfl ?_
  refine g_if_lt (pc := 6) (tgt := 17) X dX9_leaf_6 (by decide) (fun hc_6 => ?_) (fun hc_6 => ?_)
  · refine g_iconst (pc := 17) (v := (-1)) X dX9_leaf_17 (by decide) ?_
    exact gm_iret (pc := 18) X hr hk dX9_leaf_18 (⟨(if_neg (fun q => k2_nle hc_6 q.1.1)).symm, rfl⟩)
  · refine g_iload_n (pc := 9) X dX9_leaf_9 rfl rfl ?_
    refine g_aload_n (pc := 10) X dX9_leaf_10 rfl rfl ?_
    refine gm_getI (pc := 11) (j := 21) X 9 dX9_leaf_11 rfl (by decide) rfl xu_9 (by decide) rfl xw_612 rfl ?_
    refine g_icmp_lt (pc := 14) (tgt := 19) X dX9_leaf_14 (by decide) (fun hc_14 => ?_) (fun hc_14 => ?_)
    · rw [e21] at hc_14
      have hin : 0 ≤ n ∧ n < nI nj := ⟨k2_le hc_6, hc_14⟩
      obtain ⟨k, hk1, rfl⟩ := (i_in (by omega)).mp hin
      refine g_iload_n (pc := 19) X dX9_leaf_19 rfl rfl ?_
      by_cases hs_20_0 : w = nI 0
      · refine g_swIn (pc := 20) (tgt := 60) X 0 dX9_leaf_20 hs_20_0 (by decide) rfl (by decide) rfl (by decide) ?_
        refine g_aload_n (pc := 60) X dX9_leaf_60 rfl rfl ?_
        refine gm_getR (k' := 85) (pc := 61) (j := 22) X 9 dX9_leaf_61 rfl (by decide) rfl xu_9 (by decide) rfl xw_613 rfl rfl ?_
        refine g_iload_n (pc := 64) X dX9_leaf_64 rfl rfl ?_
        refine gm_iald (pc := 65) X (k) dX9_leaf_65 rfl rfl (show k < 8 from by omega) (by decide) ?_
        exact gm_iret (pc := 66) X hr hk dX9_leaf_66 (⟨by rw [hs_20_0, if_pos ⟨hin, nI_pos' (by omega), nI_lt (by omega) (by omega)⟩, nI_clamp (by omega), nI_clamp (by omega), eT 85 k (Or.inl (by decide))]; rfl, rfl⟩)
      by_cases hs_20_1 : w = nI 1
      · refine g_swIn (pc := 20) (tgt := 67) X 1 dX9_leaf_20 hs_20_1 (by decide) rfl (by decide) rfl (by decide) ?_
        refine g_aload_n (pc := 67) X dX9_leaf_67 rfl rfl ?_
        refine gm_getR (k' := 86) (pc := 68) (j := 23) X 9 dX9_leaf_68 rfl (by decide) rfl xu_9 (by decide) rfl xw_614 rfl rfl ?_
        refine g_iload_n (pc := 71) X dX9_leaf_71 rfl rfl ?_
        refine gm_iald (pc := 72) X (k) dX9_leaf_72 rfl rfl (show k < 8 from by omega) (by decide) ?_
        exact gm_iret (pc := 73) X hr hk dX9_leaf_73 (⟨by rw [hs_20_1, if_pos ⟨hin, nI_pos' (by omega), nI_lt (by omega) (by omega)⟩, nI_clamp (by omega), nI_clamp (by omega), eT 86 k (Or.inl (by decide))]; rfl, rfl⟩)
      by_cases hs_20_2 : w = nI 2
      · refine g_swIn (pc := 20) (tgt := 74) X 2 dX9_leaf_20 hs_20_2 (by decide) rfl (by decide) rfl (by decide) ?_
        refine g_aload_n (pc := 74) X dX9_leaf_74 rfl rfl ?_
        refine gm_getR (k' := 87) (pc := 75) (j := 24) X 9 dX9_leaf_75 rfl (by decide) rfl xu_9 (by decide) rfl xw_615 rfl rfl ?_
        refine g_iload_n (pc := 78) X dX9_leaf_78 rfl rfl ?_
        refine gm_iald (pc := 79) X (k) dX9_leaf_79 rfl rfl (show k < 8 from by omega) (by decide) ?_
        exact gm_iret (pc := 80) X hr hk dX9_leaf_80 (⟨by rw [hs_20_2, if_pos ⟨hin, nI_pos' (by omega), nI_lt (by omega) (by omega)⟩, nI_clamp (by omega), nI_clamp (by omega), eT 87 k (Or.inl (by decide))]; rfl, rfl⟩)
      by_cases hs_20_3 : w = nI 3
      · refine g_swIn (pc := 20) (tgt := 81) X 3 dX9_leaf_20 hs_20_3 (by decide) rfl (by decide) rfl (by decide) ?_
        refine g_aload_n (pc := 81) X dX9_leaf_81 rfl rfl ?_
        refine gm_getR (k' := 88) (pc := 82) (j := 25) X 9 dX9_leaf_82 rfl (by decide) rfl xu_9 (by decide) rfl xw_616 rfl rfl ?_
        refine g_iload_n (pc := 85) X dX9_leaf_85 rfl rfl ?_
        refine gm_iald (pc := 86) X (k) dX9_leaf_86 rfl rfl (show k < 8 from by omega) (by decide) ?_
        exact gm_iret (pc := 87) X hr hk dX9_leaf_87 (⟨by rw [hs_20_3, if_pos ⟨hin, nI_pos' (by omega), nI_lt (by omega) (by omega)⟩, nI_clamp (by omega), nI_clamp (by omega), eT 88 k (Or.inl (by decide))]; rfl, rfl⟩)
      by_cases hs_20_4 : w = nI 4
      · refine g_swIn (pc := 20) (tgt := 88) X 4 dX9_leaf_20 hs_20_4 (by decide) rfl (by decide) rfl (by decide) ?_
        refine g_aload_n (pc := 88) X dX9_leaf_88 rfl rfl ?_
        refine gm_getR (k' := 89) (pc := 89) (j := 26) X 9 dX9_leaf_89 rfl (by decide) rfl xu_9 (by decide) rfl xw_617 rfl rfl ?_
        refine g_iload_n (pc := 92) X dX9_leaf_92 rfl rfl ?_
        refine gm_iald (pc := 93) X (k) dX9_leaf_93 rfl rfl (show k < 8 from by omega) (by decide) ?_
        exact gm_iret (pc := 94) X hr hk dX9_leaf_94 (⟨by rw [hs_20_4, if_pos ⟨hin, nI_pos' (by omega), nI_lt (by omega) (by omega)⟩, nI_clamp (by omega), nI_clamp (by omega), eT 89 k (Or.inl (by decide))]; rfl, rfl⟩)
      by_cases hs_20_5 : w = nI 5
      · refine g_swIn (pc := 20) (tgt := 95) X 5 dX9_leaf_20 hs_20_5 (by decide) rfl (by decide) rfl (by decide) ?_
        refine g_aload_n (pc := 95) X dX9_leaf_95 rfl rfl ?_
        refine gm_getI (pc := 96) (j := 27) X 9 dX9_leaf_96 rfl (by decide) rfl xu_9 (by decide) rfl xw_618 rfl ?_
        exact gm_iret (pc := 99) X hr hk dX9_leaf_99 (⟨by rw [hs_20_5, if_pos ⟨hin, nI_pos' (by omega), nI_lt (by omega) (by omega)⟩, nI_clamp (by omega), nI_clamp (by omega), eT 76 27 (Or.inr (by decide))]; rfl, rfl⟩)
      refine g_swOut (pc := 20) (tgt := 100) X 5 dX9_leaf_20 rfl rfl (by decide) (fun k hk => match k, hk with | 0, _ => hs_20_0 | 1, _ => hs_20_1 | 2, _ => hs_20_2 | 3, _ => hs_20_3 | 4, _ => hs_20_4 | 5, _ => hs_20_5 | k + 6, h => absurd h (by omega)) (by decide) ?_
      refine g_iconst (pc := 100) (v := (-1)) X dX9_leaf_100 (by decide) ?_
      exact gm_iret (pc := 101) X hr hk dX9_leaf_101 (⟨(if_neg (fun q => by obtain ⟨j, hj, e9⟩ := (i_in (n := 6) (by omega)).mp q.2; match j, hj, e9 with | 0, _, e9 => exact hs_20_0 e9 | 1, _, e9 => exact hs_20_1 e9 | 2, _, e9 => exact hs_20_2 e9 | 3, _, e9 => exact hs_20_3 e9 | 4, _, e9 => exact hs_20_4 e9 | 5, _, e9 => exact hs_20_5 e9 | j + 6, hj, _ => omega)).symm, rfl⟩)
    · refine g_iconst (pc := 17) (v := (-1)) X dX9_leaf_17 (by decide) ?_
      exact gm_iret (pc := 18) X hr hk dX9_leaf_18 (⟨(if_neg (fun q => hc_14 (by rw [e21]; exact q.1.2))).symm, rfl⟩)

abbrev gapM (t : xT) (k : Nat) : Int32 := t 87 (t 93 (k + 1)).toNatClampNeg - t 87 (t 93 k).toNatClampNeg - 32
abbrev lstM (g : Int32) : Int32 := if g < 0 ∨ ¬ g - g / 32 * 32 = 0 then -1 else g / 32
abbrev sdM (t : xT) (j : Nat) : Int32 := t 80 (if t 85 j = -1 then t 86 j else t 85 j).toNatClampNeg
abbrev brkM (t : xT) (k : Nat) : Prop := gapM t k = 0 ∧ ¬ 1 - sdM t (t 93 k).toNatClampNeg = sdM t (t 93 (k + 1)).toNatClampNeg
theorem o_idM {t : xT} {nj k : Nat} (ho : ∀ k, k < nj → ∃ j, j < nj ∧ t 93 k = nI j) (hk : k < nj) (hnj : nj ≤ 8) : t 93 k = nI (t 93 k).toNatClampNeg ∧ (t 93 k).toNatClampNeg < nj := by
  obtain ⟨j, hj, e⟩ := ho k hk
  rw [e, nI_clamp (by omega)]
  exact ⟨rfl, hj⟩
set_option maxRecDepth 100000 in
set_option maxHeartbeats 4000000 in
theorem m_between (l : Launch) (G : xg_G) (O : Heap) (t : xT) (nj k : Nat) (hnj : nj ≤ 8) (ho : ∀ k, k < nj → ∃ j, j < nj ∧ t 93 k = nI j) (hk1 : k + 1 < nj) : xm l yX9_between cX9_between 2 (some .int) rmX9_between G O t [.ref (O.size + 76), .int (nI k)] (xi (fun v t' => v = gapM t k ∧ t' = t)) := by
  refine xm_enter (by decide) 0 rfl rfl ?_
  intro p e s m args below meth c X hr hk
  refine g_eq (L2 := [some (.ref (O.size + 76)), some (.int (nI k))]) rfl rfl rfl ?_
  obtain ⟨e1, l1⟩ := o_idM (k := k + 1) ho (by omega) hnj
  obtain ⟨e0, l0⟩ := o_idM (k := k) ho (by omega) hnj
  refine g_aload_n (pc := 0) X dX9_between_0 rfl rfl ?_
  refine gm_getR (k' := 87) (pc := 1) (j := 24) X 9 dX9_between_1 rfl (by decide) rfl xu_9 (by decide) rfl xw_615 rfl rfl ?_
  refine g_aload_n (pc := 4) X dX9_between_4 rfl rfl ?_
  refine gm_getR (k' := 93) (pc := 5) (j := 31) X 9 dX9_between_5 rfl (by decide) rfl xu_9 (by decide) rfl xw_622 rfl rfl ?_
  refine g_iload_n (pc := 8) X dX9_between_8 rfl rfl ?_
  refine g_iconst (pc := 9) (v := 1) X dX9_between_9 (by decide) ?_
  refine g_iadd (pc := 10) X dX9_between_10 ?_
  refine gm_iald (pc := 11) X (k + 1) dX9_between_11 rfl (nI_1 k) (show k + 1 < 8 from by omega) (by decide) ?_
  refine gm_iald (pc := 12) X ((t 93 (k + 1)).toNatClampNeg) dX9_between_12 rfl e1 (show (t 93 (k + 1)).toNatClampNeg < 8 from by omega) (by decide) ?_
  refine g_aload_n (pc := 13) X dX9_between_13 rfl rfl ?_
  refine gm_getR (k' := 87) (pc := 14) (j := 24) X 9 dX9_between_14 rfl (by decide) rfl xu_9 (by decide) rfl xw_615 rfl rfl ?_
  refine g_aload_n (pc := 17) X dX9_between_17 rfl rfl ?_
  refine gm_getR (k' := 93) (pc := 18) (j := 31) X 9 dX9_between_18 rfl (by decide) rfl xu_9 (by decide) rfl xw_622 rfl rfl ?_
  refine g_iload_n (pc := 21) X dX9_between_21 rfl rfl ?_
  refine gm_iald (pc := 22) X (k) dX9_between_22 rfl rfl (show k < 8 from by omega) (by decide) ?_
  refine gm_iald (pc := 23) X ((t 93 (k)).toNatClampNeg) dX9_between_23 rfl e0 (show (t 93 (k)).toNatClampNeg < 8 from by omega) (by decide) ?_
  refine g_isub (pc := 24) X dX9_between_24 ?_
  refine g_bipush (pc := 25) (v := 32) X dX9_between_25 (by decide) ?_
  refine g_isub (pc := 27) X dX9_between_27 ?_
  exact gm_iret (pc := 28) X hr hk dX9_between_28 (⟨rfl, rfl⟩)

set_option maxRecDepth 100000 in
set_option maxHeartbeats 4000000 in
theorem m_lostBehind (l : Launch) (G : xg_G) (O : Heap) (t : xT) (nj k : Nat) (hnj : nj ≤ 8) (ho : ∀ k, k < nj → ∃ j, j < nj ∧ t 93 k = nI j) (hk1 : k + 1 < nj) : xm l yX9_lostBehind cX9_lostBehind 3 (some .int) rmX9_lostBehind G O t [.ref (O.size + 76), .int (nI k)] (xi (fun v t' => v = lstM (gapM t k) ∧ t' = t)) := by
  refine xm_enter (by decide) 1 rfl rfl ?_
  intro p e s m args below meth c X hr hk
  refine g_eq (L2 := [some (.ref (O.size + 76)), some (.int (nI k)), none]) rfl rfl rfl ?_
  refine g_aload_n (pc := 0) X dX9_lostBehind_0 rfl rfl ?_
  refine g_iload_n (pc := 1) X dX9_lostBehind_1 rfl rfl ?_
  refine gm_Vi (pc := 2) X 9 xc_X9_165 (m_between l G O _ nj k hnj ho hk1) dX9_lostBehind_2 rfl (by decide) rfl rfl rfl rfl (Nat.le_of_ble_eq_true rfl) (fun v_2 t_2 hp => ?_)
  obtain ⟨rfl, hq9⟩ := hp
  have hq9 := hq9.symm
  subst hq9
  refine g_istore_n (pc := 5) X dX9_lostBehind_5 rfl (by decide) ?_
  refine g_iload_n (pc := 6) X dX9_lostBehind_6 rfl rfl ?_
  refine g_if_lt (pc := 7) (tgt := 17) X dX9_lostBehind_7 (by decide) (fun hc_7 => ?_) (fun hc_7 => ?_)
  · refine g_iconst (pc := 17) (v := (-1)) X dX9_lostBehind_17 (by decide) ?_
    refine g_goto (pc := 18) (tgt := 25) X dX9_lostBehind_18 (by decide) ?_
    exact gm_iret (pc := 25) X hr hk dX9_lostBehind_25 (⟨(if_pos (Or.inl hc_7)).symm, rfl⟩)
  · refine g_iload_n (pc := 10) X dX9_lostBehind_10 rfl rfl ?_
    refine g_bipush (pc := 11) (v := 32) X dX9_lostBehind_11 (by decide) ?_
    refine g_irem (pc := 13) X dX9_lostBehind_13 (by decide) ?_
    refine g_if_eq (pc := 14) (tgt := 21) X dX9_lostBehind_14 (by decide) (fun hc_14 => ?_) (fun hc_14 => ?_)
    · refine g_iload_n (pc := 21) X dX9_lostBehind_21 rfl rfl ?_
      refine g_bipush (pc := 22) (v := 32) X dX9_lostBehind_22 (by decide) ?_
      refine g_idiv (pc := 24) X dX9_lostBehind_24 (by decide) ?_
      exact gm_iret (pc := 25) X hr hk dX9_lostBehind_25 (⟨(if_neg (by rintro (q | q); exact hc_7 q; exact q hc_14)).symm, rfl⟩)
    · refine g_iconst (pc := 17) (v := (-1)) X dX9_lostBehind_17 (by decide) ?_
      refine g_goto (pc := 18) (tgt := 25) X dX9_lostBehind_18 (by decide) ?_
      exact gm_iret (pc := 25) X hr hk dX9_lostBehind_25 (⟨(if_pos (Or.inr hc_14)).symm, rfl⟩)

set_option maxRecDepth 100000 in
set_option maxHeartbeats 4000000 in
theorem m_sideOf (l : Launch) (G : xg_G) (O : Heap) (t : xT) (nj j : Nat) (zz : Int32) (hnj : nj ≤ 8) (hs : ∀ j, j < nj → ∃ h, h < 8 ∧ (if t 85 j = -1 then t 86 j else t 85 j) = nI h) (hj : j < nj) (hz : zz = nI j) : xm l yX9_sideOf cX9_sideOf 2 (some .int) rmX9_sideOf G O t [.ref (O.size + 76), .int zz] (xi (fun v t' => v = sdM t j ∧ t' = t)) := by
  refine xm_enter (by decide) 0 rfl rfl ?_
  intro p e s m args below meth c X hr hk
  refine g_eq (L2 := [some (.ref (O.size + 76)), some (.int zz)]) rfl rfl rfl ?_
  subst hz
  obtain ⟨h, hh, eh⟩ := hs j hj
  refine g_aload_n (pc := 0) X dX9_sideOf_0 rfl rfl ?_
  refine gm_getR (k' := 80) (pc := 1) (j := 9) X 9 dX9_sideOf_1 rfl (by decide) rfl xu_9 (by decide) rfl xw_600 rfl rfl ?_
  refine g_aload_n (pc := 4) X dX9_sideOf_4 rfl rfl ?_
  refine gm_getR (k' := 85) (pc := 5) (j := 22) X 9 dX9_sideOf_5 rfl (by decide) rfl xu_9 (by decide) rfl xw_613 rfl rfl ?_
  refine g_iload_n (pc := 8) X dX9_sideOf_8 rfl rfl ?_
  refine gm_iald (pc := 9) X (j) dX9_sideOf_9 rfl rfl (show j < 8 from by omega) (by decide) ?_
  refine g_iconst (pc := 10) (v := (-1)) X dX9_sideOf_10 (by decide) ?_
  refine g_icmp_ne (pc := 11) (tgt := 23) X dX9_sideOf_11 (by decide) (fun hc_11 => ?_) (fun hc_11 => ?_)
  · refine g_aload_n (pc := 23) X dX9_sideOf_23 rfl rfl ?_
    refine gm_getR (k' := 85) (pc := 24) (j := 22) X 9 dX9_sideOf_24 rfl (by decide) rfl xu_9 (by decide) rfl xw_613 rfl rfl ?_
    refine g_iload_n (pc := 27) X dX9_sideOf_27 rfl rfl ?_
    refine gm_iald (pc := 28) X (j) dX9_sideOf_28 rfl rfl (show j < 8 from by omega) (by decide) ?_
    refine gm_iald (pc := 29) X (h) dX9_sideOf_29 rfl (by rw [if_neg hc_11] at eh; exact eh) (show h < 8 from by omega) (by decide) ?_
    exact gm_iret (pc := 30) X hr hk dX9_sideOf_30 (⟨by show _ = t 80 (if t 85 j = -1 then t 86 j else t 85 j).toNatClampNeg; rw [eh, nI_clamp (by omega)], rfl⟩)
  · refine g_aload_n (pc := 14) X dX9_sideOf_14 rfl rfl ?_
    refine gm_getR (k' := 86) (pc := 15) (j := 23) X 9 dX9_sideOf_15 rfl (by decide) rfl xu_9 (by decide) rfl xw_614 rfl rfl ?_
    refine g_iload_n (pc := 18) X dX9_sideOf_18 rfl rfl ?_
    refine gm_iald (pc := 19) X (j) dX9_sideOf_19 rfl rfl (show j < 8 from by omega) (by decide) ?_
    refine g_goto (pc := 20) (tgt := 29) X dX9_sideOf_20 (by decide) ?_
    refine gm_iald (pc := 29) X (h) dX9_sideOf_29 rfl (by rw [if_pos hc_11] at eh; exact eh) (show h < 8 from by omega) (by decide) ?_
    exact gm_iret (pc := 30) X hr hk dX9_sideOf_30 (⟨by show _ = t 80 (if t 85 j = -1 then t 86 j else t 85 j).toNatClampNeg; rw [eh, nI_clamp (by omega)], rfl⟩)

set_option maxRecDepth 100000 in
set_option maxHeartbeats 4000000 in
theorem m_breaks (l : Launch) (G : xg_G) (O : Heap) (t : xT) (nj k : Nat) (hnj : nj ≤ 8) (ho : ∀ k, k < nj → ∃ j, j < nj ∧ t 93 k = nI j) (hs : ∀ j, j < nj → ∃ h, h < 8 ∧ (if t 85 j = -1 then t 86 j else t 85 j) = nI h) (hk1 : k + 1 < nj) : xm l yX9_breaks cX9_breaks 2 (some .boolean) rmX9_breaks G O t [.ref (O.size + 76), .int (nI k)] (xi (fun v t' => v = bi (brkM t k) ∧ t' = t)) := by
  refine xm_enter (by decide) 0 rfl rfl ?_
  intro p e s m args below meth c X hr hk
  refine g_eq (L2 := [some (.ref (O.size + 76)), some (.int (nI k))]) rfl rfl rfl ?_
  obtain ⟨e1, l1⟩ := o_idM (k := k + 1) ho (by omega) hnj
  obtain ⟨e0, l0⟩ := o_idM (k := k) ho (by omega) hnj
  refine g_aload_n (pc := 0) X dX9_breaks_0 rfl rfl ?_
  refine g_iload_n (pc := 1) X dX9_breaks_1 rfl rfl ?_
  refine gm_Vi (pc := 2) X 9 xc_X9_165 (m_between l G O _ nj k hnj ho hk1) dX9_breaks_2 rfl (by decide) rfl rfl rfl rfl (Nat.le_of_ble_eq_true rfl) (fun v_2 t_2 hp => ?_)
  obtain ⟨rfl, hq9⟩ := hp
  have hq9 := hq9.symm
  subst hq9
  refine g_if_ne (pc := 5) (tgt := 39) X dX9_breaks_5 (by decide) (fun hc_5 => ?_) (fun hc_5 => ?_)
  · refine g_iconst (pc := 39) (v := 0) X dX9_breaks_39 (by decide) ?_
    exact gm_zret (pc := 40) X hr hk dX9_breaks_40 (by first | exact Or.inl rfl | exact Or.inr rfl) (⟨(bi_f (fun q => hc_5 q.1)).symm, rfl⟩)
  · refine g_iconst (pc := 8) (v := 1) X dX9_breaks_8 (by decide) ?_
    refine g_aload_n (pc := 9) X dX9_breaks_9 rfl rfl ?_
    refine g_aload_n (pc := 10) X dX9_breaks_10 rfl rfl ?_
    refine gm_getR (k' := 93) (pc := 11) (j := 31) X 9 dX9_breaks_11 rfl (by decide) rfl xu_9 (by decide) rfl xw_622 rfl rfl ?_
    refine g_iload_n (pc := 14) X dX9_breaks_14 rfl rfl ?_
    refine gm_iald (pc := 15) X (k) dX9_breaks_15 rfl rfl (show k < 8 from by omega) (by decide) ?_
    refine gm_Vi (pc := 16) X 9 xc_X9_168 (m_sideOf l G O _ nj ((t 93 (k)).toNatClampNeg) _ hnj hs l0 e0) dX9_breaks_16 rfl (by decide) rfl rfl rfl rfl (Nat.le_of_ble_eq_true rfl) (fun v_16 t_16 hp => ?_)
    obtain ⟨rfl, hq9⟩ := hp
    have hq9 := hq9.symm
    subst hq9
    refine g_isub (pc := 19) X dX9_breaks_19 ?_
    refine g_aload_n (pc := 20) X dX9_breaks_20 rfl rfl ?_
    refine g_aload_n (pc := 21) X dX9_breaks_21 rfl rfl ?_
    refine gm_getR (k' := 93) (pc := 22) (j := 31) X 9 dX9_breaks_22 rfl (by decide) rfl xu_9 (by decide) rfl xw_622 rfl rfl ?_
    refine g_iload_n (pc := 25) X dX9_breaks_25 rfl rfl ?_
    refine g_iconst (pc := 26) (v := 1) X dX9_breaks_26 (by decide) ?_
    refine g_iadd (pc := 27) X dX9_breaks_27 ?_
    refine gm_iald (pc := 28) X (k + 1) dX9_breaks_28 rfl (nI_1 k) (show k + 1 < 8 from by omega) (by decide) ?_
    refine gm_Vi (pc := 29) X 9 xc_X9_168 (m_sideOf l G O _ nj ((t 93 (k + 1)).toNatClampNeg) _ hnj hs l1 e1) dX9_breaks_29 rfl (by decide) rfl rfl rfl rfl (Nat.le_of_ble_eq_true rfl) (fun v_29 t_29 hp => ?_)
    obtain ⟨rfl, hq9⟩ := hp
    have hq9 := hq9.symm
    subst hq9
    refine g_icmp_eq (pc := 32) (tgt := 39) X dX9_breaks_32 (by decide) (fun hc_32 => ?_) (fun hc_32 => ?_)
    · refine g_iconst (pc := 39) (v := 0) X dX9_breaks_39 (by decide) ?_
      exact gm_zret (pc := 40) X hr hk dX9_breaks_40 (by first | exact Or.inl rfl | exact Or.inr rfl) (⟨(bi_f (fun q => q.2 hc_32)).symm, rfl⟩)
    · refine g_iconst (pc := 35) (v := 1) X dX9_breaks_35 (by decide) ?_
      refine g_goto (pc := 36) (tgt := 40) X dX9_breaks_36 (by decide) ?_
      exact gm_zret (pc := 40) X hr hk dX9_breaks_40 (by first | exact Or.inl rfl | exact Or.inr rfl) (⟨(bi_t ⟨hc_5, hc_32⟩).symm, rfl⟩)

set_option maxRecDepth 100000 in
set_option maxHeartbeats 4000000 in
theorem m_book (l : Launch) (G : xg_G) (O : Heap) (t : xT) (nj : Nat) (n w : Int32) (hnj : nj ≤ 8) (h21 : t 76 21 = nI nj) (ho : ∀ k, k < nj → ∃ j, j < nj ∧ t 93 k = nI j) (hs : ∀ j, j < nj → ∃ h, h < 8 ∧ (if t 85 j = -1 then t 86 j else t 85 j) = nI h) : xm l yX9_book cX9_book 3 (some .int) rmX9_book G O t [.ref (O.size + 76), .int n, .int w] (xi (fun v t' => v = (if 0 ≤ n ∧ n < nI nj then (if w = nI 0 then t 93 n.toNatClampNeg else if w = nI 1 then (if n.toNatClampNeg + 1 < nj then lstM (gapM t n.toNatClampNeg) else -1) else if w = nI 2 then bi (n.toNatClampNeg + 1 < nj ∧ brkM t n.toNatClampNeg) else -1) else -1) ∧ t' = xt t 76 0 0)) := by
  refine xm_enter (by decide) 0 rfl rfl ?_
  intro p e s m args below meth c X hr hk
  refine g_eq (L2 := [some (.ref (O.size + 76)), some (.int n), some (.int w)]) rfl rfl rfl ?_
  refine g_aload_n (pc := 0) X dX9_book_0 rfl rfl ?_
  refine g_iconst (pc := 1) (v := 0) X dX9_book_1 (by decide) ?_
  refine gm_putI (pc := 2) (j := 0) X 9 tyX9 dX9_book_2 rfl (by decide) rfl xu_9 tyX9_ok nmX9 (by decide) rfl xw_591 rfl rfl (Or.inl rfl) ?_
  generalize hTe : xt t 76 0 0 = T at *
  have eT : ∀ x y, x ≠ 76 ∨ y ≠ 0 → T x y = t x y := fun x y q => by rw [← hTe]; exact xt_ne _ _ q
  have e21 : T 76 21 = nI nj := by rw [eT 76 21 (by decide)]; exact h21
  have eo : ∀ k, k < nj → ∃ j, j < nj ∧ T 93 k = nI j := fun k hk9 => by rw [eT 93 k (Or.inl (by decide))]; exact ho k hk9
  have es : ∀ j, j < nj → ∃ h, h < 8 ∧ (if T 85 j = -1 then T 86 j else T 85 j) = nI h := fun j hj9 => by rw [eT 85 j (Or.inl (by decide)), eT 86 j (Or.inl (by decide))]; exact hs j hj9
  have eg : ∀ k, gapM T k = gapM t k := fun k => by
    show T 87 (T 93 (k + 1)).toNatClampNeg - T 87 (T 93 k).toNatClampNeg - 32 = t 87 (t 93 (k + 1)).toNatClampNeg - t 87 (t 93 k).toNatClampNeg - 32
    rw [eT 93 _ (Or.inl (by decide)), eT 93 _ (Or.inl (by decide)), eT 87 _ (Or.inl (by decide)), eT 87 _ (Or.inl (by decide))]
  have esd : ∀ j, sdM T j = sdM t j := fun j => by
    show T 80 (if T 85 j = -1 then T 86 j else T 85 j).toNatClampNeg = t 80 (if t 85 j = -1 then t 86 j else t 85 j).toNatClampNeg
    rw [eT 85 j (Or.inl (by decide)), eT 86 j (Or.inl (by decide)), eT 80 _ (Or.inl (by decide))]
  have ebk : ∀ k, brkM T k ↔ brkM t k := fun k => by
    show (T 87 (T 93 (k + 1)).toNatClampNeg - T 87 (T 93 k).toNatClampNeg - 32 = 0 ∧ ¬ 1 - sdM T (T 93 k).toNatClampNeg = sdM T (T 93 (k + 1)).toNatClampNeg) ↔ _
    rw [esd, esd, eT 93 _ (Or.inl (by decide)), eT 93 _ (Or.inl (by decide)), eT 87 _ (Or.inl (by decide)), eT 87 _ (Or.inl (by decide))]
  refine g_iload_n (pc := 5) X dX9_book_5 rfl rfl ?_
  refine g_if_lt (pc := 6) (tgt := 17) X dX9_book_6 (by decide) (fun hc_6 => ?_) (fun hc_6 => ?_)
  · refine g_iconst (pc := 17) (v := (-1)) X dX9_book_17 (by decide) ?_
    exact gm_iret (pc := 18) X hr hk dX9_book_18 (⟨(if_neg (fun q => k2_nle hc_6 q.1)).symm, rfl⟩)
  · refine g_iload_n (pc := 9) X dX9_book_9 rfl rfl ?_
    refine g_aload_n (pc := 10) X dX9_book_10 rfl rfl ?_
    refine gm_getI (pc := 11) (j := 21) X 9 dX9_book_11 rfl (by decide) rfl xu_9 (by decide) rfl xw_612 rfl ?_
    refine g_icmp_lt (pc := 14) (tgt := 19) X dX9_book_14 (by decide) (fun hc_14 => ?_) (fun hc_14 => ?_)
    · rw [e21] at hc_14
      have hin : 0 ≤ n ∧ n < nI nj := ⟨k2_le hc_6, hc_14⟩
      obtain ⟨k, hk1, rfl⟩ := (i_in (by omega)).mp hin
      have ep : nI nj - 1 = nI (nj - 1) := by have := nI_pred (nj - 1); rwa [show nj - 1 + 1 = nj by omega] at this
      refine g_iload_n (pc := 19) X dX9_book_19 rfl rfl ?_
      by_cases hs_20_0 : w = nI 0
      · refine g_swIn (pc := 20) (tgt := 48) X 0 dX9_book_20 hs_20_0 (by decide) rfl (by decide) rfl (by decide) ?_
        refine g_aload_n (pc := 48) X dX9_book_48 rfl rfl ?_
        refine gm_getR (k' := 93) (pc := 49) (j := 31) X 9 dX9_book_49 rfl (by decide) rfl xu_9 (by decide) rfl xw_622 rfl rfl ?_
        refine g_iload_n (pc := 52) X dX9_book_52 rfl rfl ?_
        refine gm_iald (pc := 53) X (k) dX9_book_53 rfl rfl (show k < 8 from by omega) (by decide) ?_
        exact gm_iret (pc := 54) X hr hk dX9_book_54 (⟨by rw [if_pos hin, nI_clamp (by omega), if_pos hs_20_0, eT 93 k (Or.inl (by decide))], rfl⟩)
      by_cases hs_20_1 : w = nI 1
      · refine g_swIn (pc := 20) (tgt := 55) X 1 dX9_book_20 hs_20_1 (by decide) rfl (by decide) rfl (by decide) ?_
        refine g_iload_n (pc := 55) X dX9_book_55 rfl rfl ?_
        refine g_aload_n (pc := 56) X dX9_book_56 rfl rfl ?_
        refine gm_getI (pc := 57) (j := 21) X 9 dX9_book_57 rfl (by decide) rfl xu_9 (by decide) rfl xw_612 rfl ?_
        refine g_iconst (pc := 60) (v := 1) X dX9_book_60 (by decide) ?_
        refine g_isub (pc := 61) X dX9_book_61 ?_
        refine g_icmp_ne (pc := 62) (tgt := 69) X dX9_book_62 (by decide) (fun hc_62 => ?_) (fun hc_62 => ?_)
        · rw [e21, ep] at hc_62
          have hk2 : k + 1 < nj := by rcases Nat.lt_or_ge (k + 1) nj with q | q; exact q; exact absurd (by rw [show k = nj - 1 by omega]) hc_62
          refine g_aload_n (pc := 69) X dX9_book_69 rfl rfl ?_
          refine g_iload_n (pc := 70) X dX9_book_70 rfl rfl ?_
          refine gm_Vi (pc := 71) X 9 xc_X9_171 (m_lostBehind l G O _ nj k hnj eo hk2) dX9_book_71 rfl (by decide) rfl rfl rfl rfl (Nat.le_of_ble_eq_true rfl) (fun v_71 t_71 hp => ?_)
          obtain ⟨rfl, hq9⟩ := hp
          have hq9 := hq9.symm
          subst hq9
          exact gm_iret (pc := 74) X hr hk dX9_book_74 (⟨by rw [if_pos hin, nI_clamp (by omega), if_neg hs_20_0, if_pos hs_20_1, if_pos hk2, eg], rfl⟩)
        · refine g_iconst (pc := 65) (v := (-1)) X dX9_book_65 (by decide) ?_
          refine g_goto (pc := 66) (tgt := 74) X dX9_book_66 (by decide) ?_
          exact gm_iret (pc := 74) X hr hk dX9_book_74 (⟨by rw [if_pos hin, nI_clamp (by omega), if_neg hs_20_0, if_pos hs_20_1, if_neg (by rw [e21, ep] at hc_62; have := (nI_eq (by omega) (by omega)).mp hc_62; omega)], rfl⟩)
      by_cases hs_20_2 : w = nI 2
      · refine g_swIn (pc := 20) (tgt := 75) X 2 dX9_book_20 hs_20_2 (by decide) rfl (by decide) rfl (by decide) ?_
        refine g_iload_n (pc := 75) X dX9_book_75 rfl rfl ?_
        refine g_aload_n (pc := 76) X dX9_book_76 rfl rfl ?_
        refine gm_getI (pc := 77) (j := 21) X 9 dX9_book_77 rfl (by decide) rfl xu_9 (by decide) rfl xw_612 rfl ?_
        refine g_iconst (pc := 80) (v := 1) X dX9_book_80 (by decide) ?_
        refine g_isub (pc := 81) X dX9_book_81 ?_
        refine g_icmp_ge (pc := 82) (tgt := 97) X dX9_book_82 (by decide) (fun hc_82 => ?_) (fun hc_82 => ?_)
        · refine g_iconst (pc := 97) (v := 0) X dX9_book_97 (by decide) ?_
          exact gm_iret (pc := 98) X hr hk dX9_book_98 (⟨by rw [if_pos hin, nI_clamp (by omega), if_neg hs_20_0, if_neg hs_20_1, if_pos hs_20_2, bi_f (fun q => by rw [e21, ep] at hc_82; have := n_ge hc_82; omega)], rfl⟩)
        · rw [e21, ep] at hc_82
          have hk2 : k + 1 < nj := by have := n_gt hc_82; omega
          refine g_aload_n (pc := 85) X dX9_book_85 rfl rfl ?_
          refine g_iload_n (pc := 86) X dX9_book_86 rfl rfl ?_
          refine gm_Vi (pc := 87) X 9 xc_X9_174 (m_breaks l G O _ nj k hnj eo es hk2) dX9_book_87 rfl (by decide) rfl rfl rfl rfl (Nat.le_of_ble_eq_true rfl) (fun v_87 t_87 hp => ?_)
          obtain ⟨rfl, hq9⟩ := hp
          have hq9 := hq9.symm
          subst hq9
          refine g_if_eq (pc := 90) (tgt := 97) X dX9_book_90 (by decide) (fun hc_90 => ?_) (fun hc_90 => ?_)
          · refine g_iconst (pc := 97) (v := 0) X dX9_book_97 (by decide) ?_
            exact gm_iret (pc := 98) X hr hk dX9_book_98 (⟨by rw [if_pos hin, nI_clamp (by omega), if_neg hs_20_0, if_neg hs_20_1, if_pos hs_20_2, bi_f (fun q => bi_0 hc_90 ((ebk k).mpr q.2))], rfl⟩)
          · refine g_iconst (pc := 93) (v := 1) X dX9_book_93 (by decide) ?_
            refine g_goto (pc := 94) (tgt := 98) X dX9_book_94 (by decide) ?_
            exact gm_iret (pc := 98) X hr hk dX9_book_98 (⟨by rw [if_pos hin, nI_clamp (by omega), if_neg hs_20_0, if_neg hs_20_1, if_pos hs_20_2, bi_t ⟨hk2, (ebk k).mp (bi_1 hc_90)⟩], rfl⟩)
      refine g_swOut (pc := 20) (tgt := 99) X 2 dX9_book_20 rfl rfl (by decide) (fun k hk => match k, hk with | 0, _ => hs_20_0 | 1, _ => hs_20_1 | 2, _ => hs_20_2 | k + 3, h => absurd h (by omega)) (by decide) ?_
      refine g_iconst (pc := 99) (v := (-1)) X dX9_book_99 (by decide) ?_
      exact gm_iret (pc := 100) X hr hk dX9_book_100 (⟨by rw [if_pos hin, if_neg hs_20_0, if_neg hs_20_1, if_neg hs_20_2], rfl⟩)
    · refine g_iconst (pc := 17) (v := (-1)) X dX9_book_17 (by decide) ?_
      exact gm_iret (pc := 18) X hr hk dX9_book_18 (⟨(if_neg (fun q => hc_14 (by rw [e21]; exact q.2))).symm, rfl⟩)

set_option maxRecDepth 100000 in
set_option maxHeartbeats 4000000 in
theorem m_led (l : Launch) (G : xg_G) (O : Heap) (t : xT) (nh : Nat) (h f s0 : Int32) (hnh : nh ≤ 8) (h7 : t 76 7 = nI nh) : xm l yX9_led cX9_led 5 (some .int) rmX9_led G O t [.ref (O.size + 76), .int h, .int f, .int s0] (xi (fun v t' => v = (if spP nh h f s0 ∧ ¬ t 76 20 = 0 ∧ ¬ t 92 h.toNatClampNeg = 0 then (if hb (t 90 (16 * h.toNatClampNeg + spI f s0)) (t 91 (16 * h.toNatClampNeg + spI f s0)) = true then t 91 (16 * h.toNatClampNeg + spI f s0) else -1) else -1) ∧ t' = xt t 76 0 0)) := by
  refine xm_enter (by decide) 1 rfl rfl ?_
  intro p e s m args below meth c X hr hk
  refine g_eq (L2 := [some (.ref (O.size + 76)), some (.int h), some (.int f), some (.int s0), none]) rfl rfl rfl ?_
  refine g_aload_n (pc := 0) X dX9_led_0 rfl rfl ?_
  refine g_iconst (pc := 1) (v := 0) X dX9_led_1 (by decide) ?_
  refine gm_putI (pc := 2) (j := 0) X 9 tyX9 dX9_led_2 rfl (by decide) rfl xu_9 tyX9_ok nmX9 (by decide) rfl xw_591 rfl rfl (Or.inl rfl) ?_
  generalize hTe : xt t 76 0 0 = T at *
  have eT : ∀ x y, x ≠ 76 ∨ y ≠ 0 → T x y = t x y := fun x y q => by rw [← hTe]; exact xt_ne _ _ q
  have e7 : T 76 7 = nI nh := by rw [eT 76 7 (by decide)]; exact h7
  refine g_aload_n (pc := 5) X dX9_led_5 rfl rfl ?_
  refine g_iload_n (pc := 6) X dX9_led_6 rfl rfl ?_
  refine g_iload_n (pc := 7) X dX9_led_7 rfl rfl ?_
  refine g_iload_n (pc := 8) X dX9_led_8 rfl rfl ?_
  refine gm_Vi (pc := 9) X 9 xc_X9_96 (m_spotAt l G O _ nh h f s0 hnh e7) dX9_led_9 rfl (by decide) rfl rfl rfl rfl (Nat.le_of_ble_eq_true rfl) (fun v_9 t_9 hp => ?_)
  obtain ⟨hvs, hq9⟩ := hp
  have hq9 := hq9.symm
  subst hq9
  refine g_istore (pc := 12) X dX9_led_12 (by decide) ?_
  refine g_iload (pc := 14) X dX9_led_14 rfl ?_
  refine g_iconst (pc := 16) (v := (-1)) X dX9_led_16 (by decide) ?_
  refine g_icmp_eq (pc := 17) (tgt := 36) X dX9_led_17 (by decide) (fun hc_17 => ?_) (fun hc_17 => ?_)
  · refine g_iconst (pc := 36) (v := (-1)) X dX9_led_36 (by decide) ?_
    exact gm_iret (pc := 37) X hr hk dX9_led_37 (⟨(if_neg (fun q8 => by rw [if_pos q8.1, hc_17] at hvs; exact nm1 (by have := sp_lt hnh q8.1; omega) hvs.symm)).symm, rfl⟩)
  · have hsp : spP nh h f s0 := by by_cases q : spP nh h f s0; exact q; rw [if_neg q] at hvs; exact absurd hvs hc_17
    rw [if_pos hsp] at hvs
    subst hvs
    have hlt := sp_lt hnh hsp
    obtain ⟨k, hk1, ek⟩ := (i_in (by omega)).mp hsp.1
    have ekc : h.toNatClampNeg = k := by rw [ek, nI_clamp (by omega)]
    refine g_aload_n (pc := 20) X dX9_led_20 rfl rfl ?_
    refine gm_getI (pc := 21) (j := 20) X 9 dX9_led_21 rfl (by decide) rfl xu_9 (by decide) rfl xw_611 rfl ?_
    refine g_if_eq (pc := 24) (tgt := 36) X dX9_led_24 (by decide) (fun hc_24 => ?_) (fun hc_24 => ?_)
    · refine g_iconst (pc := 36) (v := (-1)) X dX9_led_36 (by decide) ?_
      exact gm_iret (pc := 37) X hr hk dX9_led_37 (⟨(if_neg (fun q8 => q8.2.1 (by rw [← eT 76 20 (by decide)]; exact hc_24))).symm, rfl⟩)
    · refine g_aload_n (pc := 27) X dX9_led_27 rfl rfl ?_
      refine gm_getR (k' := 92) (pc := 28) (j := 30) X 9 dX9_led_28 rfl (by decide) rfl xu_9 (by decide) rfl xw_621 rfl rfl ?_
      refine g_iload_n (pc := 31) X dX9_led_31 rfl rfl ?_
      refine gm_zald (pc := 32) X (k) dX9_led_32 rfl ek (show k < 8 from by omega) (by decide) ?_
      refine g_if_ne (pc := 33) (tgt := 38) X dX9_led_33 (by decide) (fun hc_33 => ?_) (fun hc_33 => ?_)
      · have hall : spP nh h f s0 ∧ ¬ t 76 20 = 0 ∧ ¬ t 92 h.toNatClampNeg = 0 := ⟨hsp, by rw [← eT 76 20 (by decide)]; exact hc_24, by rw [ekc, ← eT 92 k (Or.inl (by decide))]; exact hc_33⟩
        rw [if_pos hall]
        refine g_aload_n (pc := 38) X dX9_led_38 rfl rfl ?_
        refine gm_getR (k' := 90) (pc := 39) (j := 28) X 9 dX9_led_39 rfl (by decide) rfl xu_9 (by decide) rfl xw_619 rfl rfl ?_
        refine g_iload (pc := 42) X dX9_led_42 rfl ?_
        refine gm_iald (pc := 44) X ((16 * h.toNatClampNeg + spI f s0)) dX9_led_44 rfl rfl (show (16 * h.toNatClampNeg + spI f s0) < 128 from by omega) (by decide) ?_
        refine g_aload_n (pc := 45) X dX9_led_45 rfl rfl ?_
        refine gm_getR (k' := 91) (pc := 46) (j := 29) X 9 dX9_led_46 rfl (by decide) rfl xu_9 (by decide) rfl xw_620 rfl rfl ?_
        refine g_iload (pc := 49) X dX9_led_49 rfl ?_
        refine gm_iald (pc := 51) X ((16 * h.toNatClampNeg + spI f s0)) dX9_led_51 rfl rfl (show (16 * h.toNatClampNeg + spI f s0) < 128 from by omega) (by decide) ?_
        refine g_ishr (pc := 52) X dX9_led_52 ?_
        refine g_iconst (pc := 53) (v := 1) X dX9_led_53 (by decide) ?_
        refine g_iand (pc := 54) X dX9_led_54 ?_
        refine g_iconst (pc := 55) (v := 1) X dX9_led_55 (by decide) ?_
        rw [eT 90 _ (Or.inl (by decide)), eT 91 _ (Or.inl (by decide))]
        refine g_icmp_ne (pc := 56) (tgt := 69) X dX9_led_56 (by decide) (fun hc_56 => ?_) (fun hc_56 => ?_)
        · refine g_iconst (pc := 69) (v := (-1)) X dX9_led_69 (by decide) ?_
          exact gm_iret (pc := 70) X hr hk dX9_led_70 (⟨(if_neg (by simpa [hb] using hc_56)).symm, rfl⟩)
        · refine g_aload_n (pc := 59) X dX9_led_59 rfl rfl ?_
          refine gm_getR (k' := 91) (pc := 60) (j := 29) X 9 dX9_led_60 rfl (by decide) rfl xu_9 (by decide) rfl xw_620 rfl rfl ?_
          refine g_iload (pc := 63) X dX9_led_63 rfl ?_
          refine gm_iald (pc := 65) X ((16 * h.toNatClampNeg + spI f s0)) dX9_led_65 rfl rfl (show (16 * h.toNatClampNeg + spI f s0) < 128 from by omega) (by decide) ?_
          refine g_goto (pc := 66) (tgt := 70) X dX9_led_66 (by decide) ?_
          exact gm_iret (pc := 70) X hr hk dX9_led_70 (⟨by rw [if_pos (by simpa [hb] using hc_56), eT 91 _ (Or.inl (by decide))], rfl⟩)
      · refine g_iconst (pc := 36) (v := (-1)) X dX9_led_36 (by decide) ?_
        exact gm_iret (pc := 37) X hr hk dX9_led_37 (⟨(if_neg (fun q8 => q8.2.2 (by rw [ekc, ← eT 92 k (Or.inl (by decide))]; exact hc_33))).symm, rfl⟩)

abbrev stC (t : xT) (nj k : Nat) : Int32 × Int32 × Int32 := (sm (fun k => if lstM (gapM t k) = -1 then 1 else 0) k, sm (fun k => bi (brkM t k)) k, sm (fun k => if 0 < lstM (gapM t k) then lstM (gapM t k) else 0) k)
set_option maxRecDepth 100000 in
set_option maxHeartbeats 4000000 in
theorem m_count (l : Launch) (G : xg_G) (O : Heap) (t : xT) (nj : Nat) (w : Int32) (hnj : nj ≤ 8) (h21 : t 76 21 = nI nj) (ho : ∀ k, k < nj → ∃ j, j < nj ∧ t 93 k = nI j) (hs : ∀ j, j < nj → ∃ h, h < 8 ∧ (if t 85 j = -1 then t 86 j else t 85 j) = nI h) : xm l yX9_count cX9_count 8 (some .int) rmX9_count G O t [.ref (O.size + 76), .int w] (xi (fun v t' => v = (if w = nI 0 then t 76 4 else if w = nI 1 then t 76 7 else if w = nI 2 then t 76 12 else if w = nI 3 then t 76 21 else if w = nI 4 then sm (fun k => t 88 k) nj else if w = nI 5 then sm (fun k => if lstM (gapM t k) = -1 then 1 else 0) (nj - 1) else if w = nI 6 then sm (fun k => bi (brkM t k)) (nj - 1) else if w = nI 7 then sm (fun k => if 0 < lstM (gapM t k) then lstM (gapM t k) else 0) (nj - 1) else -1) ∧ t' = xt t 76 0 0)) := by
  refine xm_enter (by decide) 6 rfl rfl ?_
  intro p e s m args below meth c X hr hk
  refine g_eq (L2 := [some (.ref (O.size + 76)), some (.int w), none, none, none, none, none, none]) rfl rfl rfl ?_
  refine g_aload_n (pc := 0) X dX9_count_0 rfl rfl ?_
  refine g_iconst (pc := 1) (v := 0) X dX9_count_1 (by decide) ?_
  refine gm_putI (pc := 2) (j := 0) X 9 tyX9 dX9_count_2 rfl (by decide) rfl xu_9 tyX9_ok nmX9 (by decide) rfl xw_591 rfl rfl (Or.inl rfl) ?_
  generalize hTe : xt t 76 0 0 = T at *
  have eT : ∀ x y, x ≠ 76 ∨ y ≠ 0 → T x y = t x y := fun x y q => by rw [← hTe]; exact xt_ne _ _ q
  have e21 : T 76 21 = nI nj := by rw [eT 76 21 (by decide)]; exact h21
  have eo : ∀ k, k < nj → ∃ j, j < nj ∧ T 93 k = nI j := fun k hk9 => by rw [eT 93 k (Or.inl (by decide))]; exact ho k hk9
  have es : ∀ j, j < nj → ∃ h, h < 8 ∧ (if T 85 j = -1 then T 86 j else T 85 j) = nI h := fun j hj9 => by rw [eT 85 j (Or.inl (by decide)), eT 86 j (Or.inl (by decide))]; exact hs j hj9
  have eg : ∀ k, gapM T k = gapM t k := fun k => by
    show T 87 (T 93 (k + 1)).toNatClampNeg - T 87 (T 93 k).toNatClampNeg - 32 = t 87 (t 93 (k + 1)).toNatClampNeg - t 87 (t 93 k).toNatClampNeg - 32
    rw [eT 93 _ (Or.inl (by decide)), eT 93 _ (Or.inl (by decide)), eT 87 _ (Or.inl (by decide)), eT 87 _ (Or.inl (by decide))]
  have esd : ∀ j, sdM T j = sdM t j := fun j => by
    show T 80 (if T 85 j = -1 then T 86 j else T 85 j).toNatClampNeg = t 80 (if t 85 j = -1 then t 86 j else t 85 j).toNatClampNeg
    rw [eT 85 j (Or.inl (by decide)), eT 86 j (Or.inl (by decide)), eT 80 _ (Or.inl (by decide))]
  have ebk : ∀ k, brkM T k ↔ brkM t k := fun k => by
    show (T 87 (T 93 (k + 1)).toNatClampNeg - T 87 (T 93 k).toNatClampNeg - 32 = 0 ∧ ¬ 1 - sdM T (T 93 k).toNatClampNeg = sdM T (T 93 (k + 1)).toNatClampNeg) ↔ _
    rw [esd, esd, eT 93 _ (Or.inl (by decide)), eT 93 _ (Or.inl (by decide)), eT 87 _ (Or.inl (by decide)), eT 87 _ (Or.inl (by decide))]
  have fin : ∀ xk : Int32, gm p l e rmX9_count s m args below meth c 8 G O (xmQ below G O (xi (fun v t' => v = (if w = nI 0 then t 76 4 else if w = nI 1 then t 76 7 else if w = nI 2 then t 76 12 else if w = nI 3 then t 76 21 else if w = nI 4 then sm (fun k => t 88 k) nj else if w = nI 5 then sm (fun k => if lstM (gapM t k) = -1 then 1 else 0) (nj - 1) else if w = nI 6 then sm (fun k => bi (brkM t k)) (nj - 1) else if w = nI 7 then sm (fun k => if 0 < lstM (gapM t k) then lstM (gapM t k) else 0) (nj - 1) else -1) ∧ t' = T)) args s) (T) [some (.ref (O.size + 76)), some (.int (w)), some (.int (sm (fun k => t 88 k) nj)), some (.int (sm (fun k => if lstM (gapM t k) = -1 then 1 else 0) (nj - 1))), some (.int (sm (fun k => bi (brkM t k)) (nj - 1))), some (.int (sm (fun k => if 0 < lstM (gapM t k) then lstM (gapM t k) else 0) (nj - 1))), some (.int (xk)), none] 115 [] := by
    intro xk
    refine g_iload_n (pc := 115) X dX9_count_115 rfl rfl ?_
    by_cases hs_116_0 : w = nI 0
    · refine g_swIn (pc := 116) (tgt := 164) X 0 dX9_count_116 hs_116_0 (by decide) rfl (by decide) rfl (by decide) ?_
      refine g_aload_n (pc := 164) X dX9_count_164 rfl rfl ?_
      refine gm_getI (pc := 165) (j := 4) X 9 dX9_count_165 rfl (by decide) rfl xu_9 (by decide) rfl xw_595 rfl ?_
      exact gm_iret (pc := 168) X hr hk dX9_count_168 (⟨by rw [if_pos hs_116_0, eT 76 4 (by decide)], rfl⟩)
    by_cases hs_116_1 : w = nI 1
    · refine g_swIn (pc := 116) (tgt := 169) X 1 dX9_count_116 hs_116_1 (by decide) rfl (by decide) rfl (by decide) ?_
      refine g_aload_n (pc := 169) X dX9_count_169 rfl rfl ?_
      refine gm_getI (pc := 170) (j := 7) X 9 dX9_count_170 rfl (by decide) rfl xu_9 (by decide) rfl xw_598 rfl ?_
      exact gm_iret (pc := 173) X hr hk dX9_count_173 (⟨by rw [if_neg hs_116_0, if_pos hs_116_1, eT 76 7 (by decide)], rfl⟩)
    by_cases hs_116_2 : w = nI 2
    · refine g_swIn (pc := 116) (tgt := 174) X 2 dX9_count_116 hs_116_2 (by decide) rfl (by decide) rfl (by decide) ?_
      refine g_aload_n (pc := 174) X dX9_count_174 rfl rfl ?_
      refine gm_getI (pc := 175) (j := 12) X 9 dX9_count_175 rfl (by decide) rfl xu_9 (by decide) rfl xw_603 rfl ?_
      exact gm_iret (pc := 178) X hr hk dX9_count_178 (⟨by rw [if_neg hs_116_0, if_neg hs_116_1, if_pos hs_116_2, eT 76 12 (by decide)], rfl⟩)
    by_cases hs_116_3 : w = nI 3
    · refine g_swIn (pc := 116) (tgt := 179) X 3 dX9_count_116 hs_116_3 (by decide) rfl (by decide) rfl (by decide) ?_
      refine g_aload_n (pc := 179) X dX9_count_179 rfl rfl ?_
      refine gm_getI (pc := 180) (j := 21) X 9 dX9_count_180 rfl (by decide) rfl xu_9 (by decide) rfl xw_612 rfl ?_
      exact gm_iret (pc := 183) X hr hk dX9_count_183 (⟨by rw [if_neg hs_116_0, if_neg hs_116_1, if_neg hs_116_2, if_pos hs_116_3, eT 76 21 (by decide)], rfl⟩)
    by_cases hs_116_4 : w = nI 4
    · refine g_swIn (pc := 116) (tgt := 184) X 4 dX9_count_116 hs_116_4 (by decide) rfl (by decide) rfl (by decide) ?_
      refine g_iload_n (pc := 184) X dX9_count_184 rfl rfl ?_
      exact gm_iret (pc := 185) X hr hk dX9_count_185 (⟨by rw [if_neg hs_116_0, if_neg hs_116_1, if_neg hs_116_2, if_neg hs_116_3, if_pos hs_116_4], rfl⟩)
    by_cases hs_116_5 : w = nI 5
    · refine g_swIn (pc := 116) (tgt := 186) X 5 dX9_count_116 hs_116_5 (by decide) rfl (by decide) rfl (by decide) ?_
      refine g_iload_n (pc := 186) X dX9_count_186 rfl rfl ?_
      exact gm_iret (pc := 187) X hr hk dX9_count_187 (⟨by rw [if_neg hs_116_0, if_neg hs_116_1, if_neg hs_116_2, if_neg hs_116_3, if_neg hs_116_4, if_pos hs_116_5], rfl⟩)
    by_cases hs_116_6 : w = nI 6
    · refine g_swIn (pc := 116) (tgt := 188) X 6 dX9_count_116 hs_116_6 (by decide) rfl (by decide) rfl (by decide) ?_
      refine g_iload (pc := 188) X dX9_count_188 rfl ?_
      exact gm_iret (pc := 190) X hr hk dX9_count_190 (⟨by rw [if_neg hs_116_0, if_neg hs_116_1, if_neg hs_116_2, if_neg hs_116_3, if_neg hs_116_4, if_neg hs_116_5, if_pos hs_116_6], rfl⟩)
    by_cases hs_116_7 : w = nI 7
    · refine g_swIn (pc := 116) (tgt := 191) X 7 dX9_count_116 hs_116_7 (by decide) rfl (by decide) rfl (by decide) ?_
      refine g_iload (pc := 191) X dX9_count_191 rfl ?_
      exact gm_iret (pc := 193) X hr hk dX9_count_193 (⟨by rw [if_neg hs_116_0, if_neg hs_116_1, if_neg hs_116_2, if_neg hs_116_3, if_neg hs_116_4, if_neg hs_116_5, if_neg hs_116_6, if_pos hs_116_7], rfl⟩)
    refine g_swOut (pc := 116) (tgt := 194) X 7 dX9_count_116 rfl rfl (by decide) (fun k hk => match k, hk with | 0, _ => hs_116_0 | 1, _ => hs_116_1 | 2, _ => hs_116_2 | 3, _ => hs_116_3 | 4, _ => hs_116_4 | 5, _ => hs_116_5 | 6, _ => hs_116_6 | 7, _ => hs_116_7 | k + 8, h => absurd h (by omega)) (by decide) ?_
    refine g_iconst (pc := 194) (v := (-1)) X dX9_count_194 (by decide) ?_
    exact gm_iret (pc := 195) X hr hk dX9_count_195 (⟨by rw [if_neg hs_116_0, if_neg hs_116_1, if_neg hs_116_2, if_neg hs_116_3, if_neg hs_116_4, if_neg hs_116_5, if_neg hs_116_6, if_neg hs_116_7], rfl⟩)
  have loop2 : ∀ (z9 : Nat) (k : Nat) (xk : Int32) (x3 : Int32) (x4 : Int32) (x5 : Int32), nj - k < z9 → xk = nI k → x3 = sm (fun k => if lstM (gapM t k) = -1 then 1 else 0) k → x4 = sm (fun k => bi (brkM t k)) k → x5 = sm (fun k => if 0 < lstM (gapM t k) then lstM (gapM t k) else 0) k → k ≤ nj - 1 → gm p l e rmX9_count s m args below meth c 8 G O (xmQ below G O (xi (fun v t' => v = (if w = nI 0 then t 76 4 else if w = nI 1 then t 76 7 else if w = nI 2 then t 76 12 else if w = nI 3 then t 76 21 else if w = nI 4 then sm (fun k => t 88 k) nj else if w = nI 5 then sm (fun k => if lstM (gapM t k) = -1 then 1 else 0) (nj - 1) else if w = nI 6 then sm (fun k => bi (brkM t k)) (nj - 1) else if w = nI 7 then sm (fun k => if 0 < lstM (gapM t k) then lstM (gapM t k) else 0) (nj - 1) else -1) ∧ t' = T)) args s) (T) [some (.ref (O.size + 76)), some (.int (w)), some (.int (sm (fun k => t 88 k) nj)), some (.int (x3)), some (.int (x4)), some (.int (x5)), some (.int (xk)), none] 46 [] := by
    intro z9
    induction z9 with
    | zero => intro k xk x3 x4 x5 h9; exact absurd h9 (Nat.not_lt_zero _)
    | succ z9 ih =>
      intro k xk x3 x4 x5 h9 hxk h3 h4 h5 hkn
      subst hxk
      refine g_iload (pc := 46) X dX9_count_46 rfl ?_
      refine g_iconst (pc := 48) (v := 1) X dX9_count_48 (by decide) ?_
      refine g_iadd (pc := 49) X dX9_count_49 ?_
      refine g_aload_n (pc := 50) X dX9_count_50 rfl rfl ?_
      refine gm_getI (pc := 51) (j := 21) X 9 dX9_count_51 rfl (by decide) rfl xu_9 (by decide) rfl xw_612 rfl ?_
      refine g_icmp_ge (pc := 54) (tgt := 115) X dX9_count_54 (by decide) (fun hc_54 => ?_) (fun hc_54 => ?_)
      · have hk9 : k = nj - 1 := by rw [nI_1, e21] at hc_54; have := n_ge hc_54; omega
        subst hk9
        subst h3
        subst h4
        subst h5
        exact fin _
      · have hk2 : k + 1 < nj := by rw [nI_1, e21] at hc_54; exact n_gt hc_54
        refine g_aload_n (pc := 57) X dX9_count_57 rfl rfl ?_
        refine g_iload (pc := 58) X dX9_count_58 rfl ?_
        refine gm_Vi (pc := 60) X 9 xc_X9_171 (m_lostBehind l G O _ nj k hnj eo hk2) dX9_count_60 rfl (by decide) rfl rfl rfl rfl (Nat.le_of_ble_eq_true rfl) (fun v_60 t_60 hp => ?_)
        obtain ⟨rfl, hq9⟩ := hp
        have hq9 := hq9.symm
        subst hq9
        rw [eg]
        refine g_istore (pc := 63) X dX9_count_63 (by decide) ?_
        refine g_iload_n (pc := 65) X dX9_count_65 rfl rfl ?_
        refine g_iload (pc := 66) X dX9_count_66 rfl ?_
        refine g_iconst (pc := 68) (v := (-1)) X dX9_count_68 (by decide) ?_
        refine g_icmp_ne (pc := 69) (tgt := 76) X dX9_count_69 (by decide) (fun hc_69 => ?_) (fun hc_69 => ?_)
        · refine g_iconst (pc := 76) (v := 0) X dX9_count_76 (by decide) ?_
          refine g_iadd (pc := 77) X dX9_count_77 ?_
          refine g_istore_n (pc := 78) X dX9_count_78 rfl (by decide) ?_
          refine g_iload (pc := 79) X dX9_count_79 rfl ?_
          refine g_iconst (pc := 81) (v := 0) X dX9_count_81 (by decide) ?_
          refine g_iload (pc := 82) X dX9_count_82 rfl ?_
          refine g_max (pc := 84) X dX9_count_84 xw_747 xw_374 xw_44 xw_375 (by decide) (Nat.le_of_ble_eq_true rfl) (Nat.zero_le _) (Nat.zero_le _) ?_
          refine g_iadd (pc := 87) X dX9_count_87 ?_
          refine g_istore (pc := 88) X dX9_count_88 (by decide) ?_
          refine g_iload (pc := 90) X dX9_count_90 rfl ?_
          refine g_aload_n (pc := 92) X dX9_count_92 rfl rfl ?_
          refine g_iload (pc := 93) X dX9_count_93 rfl ?_
          refine gm_Vi (pc := 95) X 9 xc_X9_174 (m_breaks l G O _ nj k hnj eo es hk2) dX9_count_95 rfl (by decide) rfl rfl rfl rfl (Nat.le_of_ble_eq_true rfl) (fun v_95 t_95 hp => ?_)
          obtain ⟨rfl, hq9⟩ := hp
          have hq9 := hq9.symm
          subst hq9
          refine g_if_eq (pc := 98) (tgt := 105) X dX9_count_98 (by decide) (fun hc_98 => ?_) (fun hc_98 => ?_)
          · refine g_iconst (pc := 105) (v := 0) X dX9_count_105 (by decide) ?_
            refine g_iadd (pc := 106) X dX9_count_106 ?_
            refine g_istore (pc := 107) X dX9_count_107 (by decide) ?_
            refine g_inc (pc := 109) (kv := 1) X dX9_count_109 (by decide) rfl (by decide) ?_
            refine g_goto (pc := 112) (tgt := 46) X dX9_count_112 (by decide) ?_
            refine g_wk 7 ?_
            exact ih (k + 1) _ _ _ _ (by omega) (nI_1 k) (by rw [h3, sm.eq_2, if_neg hc_69]) (by rw [h4, sm.eq_2, bi_f (fun q => bi_0 hc_98 ((ebk k).mpr q))]) (by rw [h5, sm.eq_2]) (by omega)
          · refine g_iconst (pc := 101) (v := 1) X dX9_count_101 (by decide) ?_
            refine g_goto (pc := 102) (tgt := 106) X dX9_count_102 (by decide) ?_
            refine g_iadd (pc := 106) X dX9_count_106 ?_
            refine g_istore (pc := 107) X dX9_count_107 (by decide) ?_
            refine g_inc (pc := 109) (kv := 1) X dX9_count_109 (by decide) rfl (by decide) ?_
            refine g_goto (pc := 112) (tgt := 46) X dX9_count_112 (by decide) ?_
            refine g_wk 7 ?_
            exact ih (k + 1) _ _ _ _ (by omega) (nI_1 k) (by rw [h3, sm.eq_2, if_neg hc_69]) (by rw [h4, sm.eq_2, bi_t ((ebk k).mp (bi_1 hc_98))]) (by rw [h5, sm.eq_2]) (by omega)
        · refine g_iconst (pc := 72) (v := 1) X dX9_count_72 (by decide) ?_
          refine g_goto (pc := 73) (tgt := 77) X dX9_count_73 (by decide) ?_
          refine g_iadd (pc := 77) X dX9_count_77 ?_
          refine g_istore_n (pc := 78) X dX9_count_78 rfl (by decide) ?_
          refine g_iload (pc := 79) X dX9_count_79 rfl ?_
          refine g_iconst (pc := 81) (v := 0) X dX9_count_81 (by decide) ?_
          refine g_iload (pc := 82) X dX9_count_82 rfl ?_
          refine g_max (pc := 84) X dX9_count_84 xw_747 xw_374 xw_44 xw_375 (by decide) (Nat.le_of_ble_eq_true rfl) (Nat.zero_le _) (Nat.zero_le _) ?_
          refine g_iadd (pc := 87) X dX9_count_87 ?_
          refine g_istore (pc := 88) X dX9_count_88 (by decide) ?_
          refine g_iload (pc := 90) X dX9_count_90 rfl ?_
          refine g_aload_n (pc := 92) X dX9_count_92 rfl rfl ?_
          refine g_iload (pc := 93) X dX9_count_93 rfl ?_
          refine gm_Vi (pc := 95) X 9 xc_X9_174 (m_breaks l G O _ nj k hnj eo es hk2) dX9_count_95 rfl (by decide) rfl rfl rfl rfl (Nat.le_of_ble_eq_true rfl) (fun v_95 t_95 hp => ?_)
          obtain ⟨rfl, hq9⟩ := hp
          have hq9 := hq9.symm
          subst hq9
          refine g_if_eq (pc := 98) (tgt := 105) X dX9_count_98 (by decide) (fun hc_98 => ?_) (fun hc_98 => ?_)
          · refine g_iconst (pc := 105) (v := 0) X dX9_count_105 (by decide) ?_
            refine g_iadd (pc := 106) X dX9_count_106 ?_
            refine g_istore (pc := 107) X dX9_count_107 (by decide) ?_
            refine g_inc (pc := 109) (kv := 1) X dX9_count_109 (by decide) rfl (by decide) ?_
            refine g_goto (pc := 112) (tgt := 46) X dX9_count_112 (by decide) ?_
            refine g_wk 7 ?_
            exact ih (k + 1) _ _ _ _ (by omega) (nI_1 k) (by rw [h3, sm.eq_2, if_pos hc_69]) (by rw [h4, sm.eq_2, bi_f (fun q => bi_0 hc_98 ((ebk k).mpr q))]) (by rw [h5, sm.eq_2]) (by omega)
          · refine g_iconst (pc := 101) (v := 1) X dX9_count_101 (by decide) ?_
            refine g_goto (pc := 102) (tgt := 106) X dX9_count_102 (by decide) ?_
            refine g_iadd (pc := 106) X dX9_count_106 ?_
            refine g_istore (pc := 107) X dX9_count_107 (by decide) ?_
            refine g_inc (pc := 109) (kv := 1) X dX9_count_109 (by decide) rfl (by decide) ?_
            refine g_goto (pc := 112) (tgt := 46) X dX9_count_112 (by decide) ?_
            refine g_wk 7 ?_
            exact ih (k + 1) _ _ _ _ (by omega) (nI_1 k) (by rw [h3, sm.eq_2, if_pos hc_69]) (by rw [h4, sm.eq_2, bi_t ((ebk k).mp (bi_1 hc_98))]) (by rw [h5, sm.eq_2]) (by omega)
  have loop1 : ∀ (z9 : Nat) (k : Nat) (xk : Int32) (x2 : Int32), nj - k < z9 → xk = nI k → x2 = sm (fun k => t 88 k) k → k ≤ nj → gm p l e rmX9_count s m args below meth c 8 G O (xmQ below G O (xi (fun v t' => v = (if w = nI 0 then t 76 4 else if w = nI 1 then t 76 7 else if w = nI 2 then t 76 12 else if w = nI 3 then t 76 21 else if w = nI 4 then sm (fun k => t 88 k) nj else if w = nI 5 then sm (fun k => if lstM (gapM t k) = -1 then 1 else 0) (nj - 1) else if w = nI 6 then sm (fun k => bi (brkM t k)) (nj - 1) else if w = nI 7 then sm (fun k => if 0 < lstM (gapM t k) then lstM (gapM t k) else 0) (nj - 1) else -1) ∧ t' = T)) args s) (T) [some (.ref (O.size + 76)), some (.int (w)), some (.int (x2)), some (.int (0)), some (.int (0)), some (.int (0)), some (.int (xk)), none] 18 [] := by
    intro z9
    induction z9 with
    | zero => intro k xk x2 h9; exact absurd h9 (Nat.not_lt_zero _)
    | succ z9 ih =>
      intro k xk x2 h9 hxk h2 hkn
      subst hxk
      refine g_iload (pc := 18) X dX9_count_18 rfl ?_
      refine g_aload_n (pc := 20) X dX9_count_20 rfl rfl ?_
      refine gm_getI (pc := 21) (j := 21) X 9 dX9_count_21 rfl (by decide) rfl xu_9 (by decide) rfl xw_612 rfl ?_
      refine g_icmp_ge (pc := 24) (tgt := 43) X dX9_count_24 (by decide) (fun hc_24 => ?_) (fun hc_24 => ?_)
      · refine g_iconst (pc := 43) (v := 0) X dX9_count_43 (by decide) ?_
        refine g_istore (pc := 44) X dX9_count_44 (by decide) ?_
        have hk9 : k = nj := by rw [e21] at hc_24; have := n_ge hc_24; omega
        subst hk9
        subst h2
        exact loop2 (k + 1) 0 _ _ _ _ (by omega) nI_0.symm rfl rfl rfl (Nat.zero_le _)
      · have hkl : k < nj := by rw [e21] at hc_24; exact n_gt hc_24
        refine g_iload_n (pc := 27) X dX9_count_27 rfl rfl ?_
        refine g_aload_n (pc := 28) X dX9_count_28 rfl rfl ?_
        refine gm_getR (k' := 88) (pc := 29) (j := 25) X 9 dX9_count_29 rfl (by decide) rfl xu_9 (by decide) rfl xw_616 rfl rfl ?_
        refine g_iload (pc := 32) X dX9_count_32 rfl ?_
        refine gm_iald (pc := 34) X (k) dX9_count_34 rfl rfl (show k < 8 from by omega) (by decide) ?_
        refine g_iadd (pc := 35) X dX9_count_35 ?_
        refine g_istore_n (pc := 36) X dX9_count_36 rfl (by decide) ?_
        refine g_inc (pc := 37) (kv := 1) X dX9_count_37 (by decide) rfl (by decide) ?_
        refine g_goto (pc := 40) (tgt := 18) X dX9_count_40 (by decide) ?_
        exact ih (k + 1) _ _ (by omega) (nI_1 k) (by rw [h2, sm.eq_2, eT 88 k (Or.inl (by decide))]) (by omega)
  refine g_iconst (pc := 5) (v := 0) X dX9_count_5 (by decide) ?_
  refine g_istore_n (pc := 6) X dX9_count_6 rfl (by decide) ?_
  refine g_iconst (pc := 7) (v := 0) X dX9_count_7 (by decide) ?_
  refine g_istore_n (pc := 8) X dX9_count_8 rfl (by decide) ?_
  refine g_iconst (pc := 9) (v := 0) X dX9_count_9 (by decide) ?_
  refine g_istore (pc := 10) X dX9_count_10 (by decide) ?_
  refine g_iconst (pc := 12) (v := 0) X dX9_count_12 (by decide) ?_
  refine g_istore (pc := 13) X dX9_count_13 (by decide) ?_
  refine g_iconst (pc := 15) (v := 0) X dX9_count_15 (by decide) ?_
  refine g_istore (pc := 16) X dX9_count_16 (by decide) ?_
  exact loop1 (nj + 1) 0 _ _ (by omega) nI_0.symm rfl (Nat.zero_le _)

theorem ltb_iff (b : Int32) : ltb b = true ↔ ¬ b < 97 ∧ ¬ 112 < b := by
  unfold ltb
  rw [decide_eq_true_eq, i_le, i_le, i_lt, i_lt, Int32.toInt_sub]
  have h1 : (97 : Int32).toInt = 97 := rfl
  have h2 : (112 : Int32).toInt = 112 := rfl
  have h3 : (15 : Int32).toInt = 15 := rfl
  have h4 := Int32.le_toInt b
  have h5 := Int32.toInt_lt b
  rw [h1, h2, h3, i_0]
  have hb : b.toInt - 97 < 2147483648 ∧ -2147483745 ≤ b.toInt - 97 := by omega
  by_cases q : -2147483648 ≤ b.toInt - 97
  · rw [Int.bmod_eq_of_le (by omega) (by omega)]; omega
  · have e : (b.toInt - 97).bmod (2 ^ 32) = b.toInt - 97 + 4294967296 := by
      rw [← Int.add_bmod_right, Int.bmod_eq_of_le (by omega) (by omega)]; rfl
    rw [e]; omega
theorem blank_not {b : Int32} (h : b = 10 ∨ b = 32) : ¬ ltb b = true := by
  rcases h with rfl | rfl <;> decide
set_option maxRecDepth 100000 in
set_option maxHeartbeats 4000000 in
theorem m_work (l : Launch) (G : xg_G) (O : Heap) (t : xT) (nt : Nat) (n : Int32) (hnt : nt ≤ 400) (h2 : t 76 2 = nI nt) : xm l yX9_work cX9_work 5 (some .int) rmX9_work G O t [.ref (O.size + 76), .int n] (xi (fun v t' => (¬ (0 ≤ n ∧ n ≤ nI nt) → v = -2 ∧ t' = xt t 76 0 0) ∧ ∀ k, k ≤ nt → n = nI k → (¬ (sfr (t 77) k).1 = 0 → v = -1 ∧ t' 76 2 = 0 ∧ t' 76 5 = (sfr (t 77) k).1 ∧ t' 76 6 = (sfr (t 77) k).2 ∧ ∀ x y, ¬ (x = 76 ∧ (y = 0 ∨ y = 2 ∨ y = 5 ∨ y = 6)) → ¬ (x = 78 ∧ 160 ≤ y) → t' x y = t x y) ∧ ((sfr (t 77) k).1 = 0 → v = nI (ctb (t 77) k) ∧ t' 76 4 = nI (ctb (t 77) k) ∧ t' 76 5 = 0 ∧ t' 76 6 = -1 ∧ (∀ j, j < k → ltb (t 77 j) = true → t' 78 (ctb (t 77) j) = t 77 j - 97) ∧ t' 76 2 = 0 ∧ t' 76 21 = 0 ∧ t' 76 20 = 0 ∧ ∀ x y, ¬ (x = 76 ∧ (y = 0 ∨ y = 2 ∨ y = 4 ∨ y = 5 ∨ y = 6 ∨ y = 20 ∨ y = 21)) → x ≠ 78 → t' x y = t x y))) := by
  refine xm_enter (by decide) 3 rfl rfl ?_
  intro p e s m args below meth c X hr hk
  refine g_eq (L2 := [some (.ref (O.size + 76)), some (.int n), none, none, none]) rfl rfl rfl ?_
  refine g_aload_n (pc := 0) X dX9_work_0 rfl rfl ?_
  refine g_iconst (pc := 1) (v := 0) X dX9_work_1 (by decide) ?_
  refine gm_putI (pc := 2) (j := 0) X 9 tyX9 dX9_work_2 rfl (by decide) rfl xu_9 tyX9_ok nmX9 (by decide) rfl xw_591 rfl rfl (Or.inl rfl) ?_
  refine g_iload_n (pc := 5) X dX9_work_5 rfl rfl ?_
  refine g_if_lt (pc := 6) (tgt := 17) X dX9_work_6 (by decide) (fun hc_6 => ?_) (fun hc_6 => ?_)
  · refine g_bipush (pc := 17) (v := (-2)) X dX9_work_17 (by decide) ?_
    exact gm_iret (pc := 19) X hr hk dX9_work_19 (⟨fun _ => ⟨rfl, rfl⟩, fun k hk e9 => absurd hc_6 (by rw [e9]; exact nI_pos (by omega))⟩)
  · refine g_iload_n (pc := 9) X dX9_work_9 rfl rfl ?_
    refine g_aload_n (pc := 10) X dX9_work_10 rfl rfl ?_
    refine gm_getI (pc := 11) (j := 2) X 9 dX9_work_11 rfl (by decide) rfl xu_9 (by decide) rfl xw_593 rfl ?_
    refine g_icmp_le (pc := 14) (tgt := 20) X dX9_work_14 (by decide) (fun hc_14 => ?_) (fun hc_14 => ?_)
    · rw [xt_ne _ _ (Or.inr (by decide)), h2] at hc_14
      obtain ⟨kn, hkm, rfl⟩ := nI_of (x := n) hc_6
      have hkn : kn ≤ nt := n_ge hc_14
      have loop2 : ∀ (z9 : Nat) (j0 : Nat) (xj0 : Int32) (t1 : xT), ctb (t 77) kn - j0 < z9 → xj0 = nI j0 → j0 ≤ ctb (t 77) kn → (sfr (t 77) kn).1 = 0 → t1 76 2 = 0 → t1 76 4 = nI (ctb (t 77) kn) → t1 76 5 = 0 → t1 76 6 = -1 → (∀ j, j < kn → ltb (t 77 j) = true → t1 78 (160 + ctb (t 77) j) = t 77 j - 97) → (∀ j, j < kn → ltb (t 77 j) = true → ctb (t 77) j < j0 → t1 78 (ctb (t 77) j) = t 77 j - 97) → (∀ x y, ¬ (x = 76 ∧ (y = 0 ∨ y = 2 ∨ y = 4 ∨ y = 5 ∨ y = 6)) → x ≠ 78 → t1 x y = t x y) → gm p l e rmX9_work s m args below meth c 5 G O (xmQ below G O (xi (fun v t' => (¬ (0 ≤ nI kn ∧ nI kn ≤ nI nt) → v = -2 ∧ t' = xt t 76 0 0) ∧ ∀ k, k ≤ nt → (nI kn) = nI k → (¬ (sfr (t 77) k).1 = 0 → v = -1 ∧ t' 76 2 = 0 ∧ t' 76 5 = (sfr (t 77) k).1 ∧ t' 76 6 = (sfr (t 77) k).2 ∧ ∀ x y, ¬ (x = 76 ∧ (y = 0 ∨ y = 2 ∨ y = 5 ∨ y = 6)) → ¬ (x = 78 ∧ 160 ≤ y) → t' x y = t x y) ∧ ((sfr (t 77) k).1 = 0 → v = nI (ctb (t 77) k) ∧ t' 76 4 = nI (ctb (t 77) k) ∧ t' 76 5 = 0 ∧ t' 76 6 = -1 ∧ (∀ j, j < k → ltb (t 77 j) = true → t' 78 (ctb (t 77) j) = t 77 j - 97) ∧ t' 76 2 = 0 ∧ t' 76 21 = 0 ∧ t' 76 20 = 0 ∧ ∀ x y, ¬ (x = 76 ∧ (y = 0 ∨ y = 2 ∨ y = 4 ∨ y = 5 ∨ y = 6 ∨ y = 20 ∨ y = 21)) → x ≠ 78 → t' x y = t x y))) args s) (t1) [some (.ref (O.size + 76)), some (.int (nI kn)), some (.int (nI (ctb (t 77) kn))), some (.int (xj0)), none] 148 [] := by
        intro z9
        induction z9 with
        | zero => intro j0 xj0 t1 h9; exact absurd h9 (Nat.not_lt_zero _)
        | succ z9 ih =>
          intro j0 xj0 t1 h9 hxj0 hj0 hok f2 f4 f5 f6 fl fc fo
          subst hxj0
          have hc160 := (sfr_ok hok).2
          refine g_iload_n (pc := 148) X dX9_work_148 rfl rfl ?_
          refine g_iload_n (pc := 149) X dX9_work_149 rfl rfl ?_
          refine g_icmp_ge (pc := 150) (tgt := 175) X dX9_work_150 (by decide) (fun hc_150 => ?_) (fun hc_150 => ?_)
          · have hj9 : j0 = ctb (t 77) kn := by have := n_ge hc_150; omega
            subst hj9
            refine g_aload_n (pc := 175) X dX9_work_175 rfl rfl ?_
            refine g_iconst (pc := 176) (v := 0) X dX9_work_176 (by decide) ?_
            refine gm_putI (pc := 177) (j := 21) X 9 tyX9 dX9_work_177 rfl (by decide) rfl xu_9 tyX9_ok nmX9 (by decide) rfl xw_612 rfl rfl (Or.inl rfl) ?_
            refine g_aload_n (pc := 180) X dX9_work_180 rfl rfl ?_
            refine g_iconst (pc := 181) (v := 0) X dX9_work_181 (by decide) ?_
            refine gm_putI (pc := 182) (j := 20) X 9 tyX9 dX9_work_182 rfl (by decide) rfl xu_9 tyX9_ok nmX9 (by decide) rfl xw_611 rfl rfl (Or.inr ⟨rfl, (Or.inl rfl)⟩) ?_
            refine g_aload_n (pc := 185) X dX9_work_185 rfl rfl ?_
            refine gm_getI (pc := 186) (j := 4) X 9 dX9_work_186 rfl (by decide) rfl xu_9 (by decide) rfl xw_595 rfl ?_
            exact gm_iret (pc := 189) X hr hk dX9_work_189 (⟨fun q => absurd ⟨nI_pos' (by omega), nI_le hkn (by omega)⟩ q, fun k2 hk2 e9 => by
                have := (nI_eq (by omega) (by omega)).mp e9
                subst this
                exact ⟨fun q => absurd hok q, fun _ => ⟨by rw [xt_ne _ _ (Or.inr (by decide)), xt_ne _ _ (Or.inr (by decide))]; exact f4, by rw [xt_ne _ _ (Or.inr (by decide)), xt_ne _ _ (Or.inr (by decide))]; exact f4, by rw [xt_ne _ _ (Or.inr (by decide)), xt_ne _ _ (Or.inr (by decide))]; exact f5, by rw [xt_ne _ _ (Or.inr (by decide)), xt_ne _ _ (Or.inr (by decide))]; exact f6, fun j hj hl => by rw [xt_nk _ _ _ _ (by decide), xt_nk _ _ _ _ (by decide)]; exact fc j hj hl (by have h3 := ctb_mono (t 77) (i := j + 1) (d := kn - (j + 1)); rw [ctb_t hl, show j + 1 + (kn - (j + 1)) = kn by omega] at h3; omega), by rw [xt_ne _ _ (Or.inr (by decide)), xt_ne _ _ (Or.inr (by decide))]; exact f2, by rw [xt_ne _ _ (Or.inr (by decide)), xt_same], xt_same _ _ _ _, fun x y q1 q2 => by rw [xt_ne _ _ (by omega), xt_ne _ _ (by omega)]; exact fo x y (by omega) q2⟩⟩⟩)
          · have hjl : j0 < ctb (t 77) kn := n_gt hc_150
            refine g_aload_n (pc := 153) X dX9_work_153 rfl rfl ?_
            refine gm_getR (k' := 78) (pc := 154) (j := 3) X 9 dX9_work_154 rfl (by decide) rfl xu_9 (by decide) rfl xw_594 rfl rfl ?_
            refine g_iload_n (pc := 157) X dX9_work_157 rfl rfl ?_
            refine g_aload_n (pc := 158) X dX9_work_158 rfl rfl ?_
            refine gm_getR (k' := 78) (pc := 159) (j := 3) X 9 dX9_work_159 rfl (by decide) rfl xu_9 (by decide) rfl xw_594 rfl rfl ?_
            refine g_sipush (pc := 162) (v := 160) X dX9_work_162 (by decide) ?_
            refine g_iload_n (pc := 165) X dX9_work_165 rfl rfl ?_
            refine g_iadd (pc := 166) X dX9_work_166 ?_
            refine gm_iald (pc := 167) X (160 + j0) dX9_work_167 rfl (nI_add 160 j0) (show 160 + j0 < 320 from by omega) (by decide) ?_
            refine gm_iast (pc := 168) X (j0) dX9_work_168 rfl rfl (show j0 < 320 from by omega) (by decide) ?_
            refine g_inc (pc := 169) (kv := 1) X dX9_work_169 (by decide) rfl (by decide) ?_
            refine g_goto (pc := 172) (tgt := 148) X dX9_work_172 (by decide) ?_
            exact ih (j0 + 1) _ _ (by omega) (nI_1 j0) (by omega) hok (by rw [xt_nk _ _ _ _ (by decide)]; exact f2) (by rw [xt_nk _ _ _ _ (by decide)]; exact f4) (by rw [xt_nk _ _ _ _ (by decide)]; exact f5) (by rw [xt_nk _ _ _ _ (by decide)]; exact f6) (fun j hj hl => by rw [xt_ne _ _ (Or.inr (by omega))]; exact fl j hj hl) (fun j hj hl hlt => by
              by_cases q : ctb (t 77) j = j0
              · rw [q, xt_same, ← q]; exact fl j hj hl
              · rw [xt_ne _ _ (Or.inr q)]; exact fc j hj hl (by omega)) (fun x y q1 q2 => by rw [xt_nk _ _ _ _ q2]; exact fo x y q1 q2)
      have loop1 : ∀ (z9 : Nat) (k : Nat) (xk : Int32) (xm : Int32) (t1 : xT), kn - k < z9 → xk = nI k → k ≤ kn → (sfr (t 77) k).1 = 0 → xm = nI (ctb (t 77) k) → t1 76 2 = 0 → t1 76 5 = 0 → t1 76 6 = -1 → (∀ j, j < k → ltb (t 77 j) = true → t1 78 (160 + ctb (t 77) j) = t 77 j - 97) → (∀ x y, ¬ (x = 76 ∧ (y = 0 ∨ y = 2 ∨ y = 5 ∨ y = 6)) → ¬ (x = 78 ∧ 160 ≤ y) → t1 x y = t x y) → gm p l e rmX9_work s m args below meth c 5 G O (xmQ below G O (xi (fun v t' => (¬ (0 ≤ nI kn ∧ nI kn ≤ nI nt) → v = -2 ∧ t' = xt t 76 0 0) ∧ ∀ k, k ≤ nt → (nI kn) = nI k → (¬ (sfr (t 77) k).1 = 0 → v = -1 ∧ t' 76 2 = 0 ∧ t' 76 5 = (sfr (t 77) k).1 ∧ t' 76 6 = (sfr (t 77) k).2 ∧ ∀ x y, ¬ (x = 76 ∧ (y = 0 ∨ y = 2 ∨ y = 5 ∨ y = 6)) → ¬ (x = 78 ∧ 160 ≤ y) → t' x y = t x y) ∧ ((sfr (t 77) k).1 = 0 → v = nI (ctb (t 77) k) ∧ t' 76 4 = nI (ctb (t 77) k) ∧ t' 76 5 = 0 ∧ t' 76 6 = -1 ∧ (∀ j, j < k → ltb (t 77 j) = true → t' 78 (ctb (t 77) j) = t 77 j - 97) ∧ t' 76 2 = 0 ∧ t' 76 21 = 0 ∧ t' 76 20 = 0 ∧ ∀ x y, ¬ (x = 76 ∧ (y = 0 ∨ y = 2 ∨ y = 4 ∨ y = 5 ∨ y = 6 ∨ y = 20 ∨ y = 21)) → x ≠ 78 → t' x y = t x y))) args s) (t1) [some (.ref (O.size + 76)), some (.int (nI kn)), some (.int (xm)), some (.int (xk)), none] 39 [] := by
        intro z9
        induction z9 with
        | zero => intro k xk xm t1 h9; exact absurd h9 (Nat.not_lt_zero _)
        | succ z9 ih =>
          intro k xk xm t1 h9 hxk hkk hok hxm f2 f5 f6 fl fo
          subst hxk
          subst hxm
          have hc160 := (sfr_ok hok).2
          refine g_iload_n (pc := 39) X dX9_work_39 rfl rfl ?_
          refine g_iload_n (pc := 40) X dX9_work_40 rfl rfl ?_
          refine g_icmp_ge (pc := 41) (tgt := 141) X dX9_work_41 (by decide) (fun hc_41 => ?_) (fun hc_41 => ?_)
          · refine g_aload_n (pc := 141) X dX9_work_141 rfl rfl ?_
            refine g_iload_n (pc := 142) X dX9_work_142 rfl rfl ?_
            refine gm_putI (pc := 143) (j := 4) X 9 tyX9 dX9_work_143 rfl (by decide) rfl xu_9 tyX9_ok nmX9 (by decide) rfl xw_595 rfl rfl (Or.inl rfl) ?_
            refine g_iconst (pc := 146) (v := 0) X dX9_work_146 (by decide) ?_
            refine g_istore_n (pc := 147) X dX9_work_147 rfl (by decide) ?_
            have hk9 : k = kn := by have := n_ge hc_41; omega
            subst hk9
            exact loop2 (ctb (t 77) k + 1) 0 _ _ (by omega) nI_0.symm (Nat.zero_le _) hok (by rw [xt_ne _ _ (Or.inr (by decide))]; exact f2) (xt_same _ _ _ _) (by rw [xt_ne _ _ (Or.inr (by decide))]; exact f5) (by rw [xt_ne _ _ (Or.inr (by decide))]; exact f6) (fun j hj hl => by rw [xt_nk _ _ _ _ (by decide)]; exact fl j hj hl) (fun j hj hl q => absurd q (Nat.not_lt_zero _)) (fun x y q1 q2 => by rw [xt_ne _ _ (by omega)]; exact fo x y (by omega) (by omega))
          · have hkl : k < kn := n_gt hc_41
            have step : ∀ F : Int32, F = kbb (t 77) k → ¬ (t 77 k = 10 ∨ t 77 k = 32) → gm p l e rmX9_work s m args below meth c 5 G O (xmQ below G O (xi (fun v t' => (¬ (0 ≤ nI kn ∧ nI kn ≤ nI nt) → v = -2 ∧ t' = xt t 76 0 0) ∧ ∀ k, k ≤ nt → (nI kn) = nI k → (¬ (sfr (t 77) k).1 = 0 → v = -1 ∧ t' 76 2 = 0 ∧ t' 76 5 = (sfr (t 77) k).1 ∧ t' 76 6 = (sfr (t 77) k).2 ∧ ∀ x y, ¬ (x = 76 ∧ (y = 0 ∨ y = 2 ∨ y = 5 ∨ y = 6)) → ¬ (x = 78 ∧ 160 ≤ y) → t' x y = t x y) ∧ ((sfr (t 77) k).1 = 0 → v = nI (ctb (t 77) k) ∧ t' 76 4 = nI (ctb (t 77) k) ∧ t' 76 5 = 0 ∧ t' 76 6 = -1 ∧ (∀ j, j < k → ltb (t 77 j) = true → t' 78 (ctb (t 77) j) = t 77 j - 97) ∧ t' 76 2 = 0 ∧ t' 76 21 = 0 ∧ t' 76 20 = 0 ∧ ∀ x y, ¬ (x = 76 ∧ (y = 0 ∨ y = 2 ∨ y = 4 ∨ y = 5 ∨ y = 6 ∨ y = 20 ∨ y = 21)) → x ≠ 78 → t' x y = t x y))) args s) (t1) [some (.ref (O.size + 76)), some (.int (nI kn)), some (.int (nI (ctb (t 77) k))), some (.int (nI k)), some (.int (t 77 k))] 100 [.int F, .ref (O.size + 76)] := by
              intro F hF hnb
              refine gm_putI (pc := 100) (j := 5) X 9 tyX9 dX9_work_100 rfl (by decide) rfl xu_9 tyX9_ok nmX9 (by decide) rfl xw_596 rfl rfl (Or.inl rfl) ?_
              refine g_aload_n (pc := 103) X dX9_work_103 rfl rfl ?_
              refine gm_getI (pc := 104) (j := 5) X 9 dX9_work_104 rfl (by decide) rfl xu_9 (by decide) rfl xw_596 rfl ?_
              rw [xt_same]
              refine g_if_eq (pc := 107) (tgt := 117) X dX9_work_107 (by decide) (fun hc_107 => ?_) (fun hc_107 => ?_)
              · have hk0 : kbb (t 77) k = 0 := by rw [← hF]; exact hc_107
                have hyl : ltb (t 77 k) = true := by by_cases q : ltb (t 77 k) = true; exact q; rw [kbb_b q (fun z => hnb (Or.inl z)) (fun z => hnb (Or.inr z))] at hk0; exact absurd hk0 (by decide)
                have hok1 : (sfr (t 77) (k + 1)).1 = 0 := by rw [sfr.eq_2, if_pos hok, if_pos hk0]
                have hc1 := (sfr_ok hok1).2
                rw [ctb_t hyl] at hc1
                refine g_aload_n (pc := 117) X dX9_work_117 rfl rfl ?_
                refine gm_getR (k' := 78) (pc := 118) (j := 3) X 9 dX9_work_118 rfl (by decide) rfl xu_9 (by decide) rfl xw_594 rfl rfl ?_
                refine g_sipush (pc := 121) (v := 160) X dX9_work_121 (by decide) ?_
                refine g_iload_n (pc := 124) X dX9_work_124 rfl rfl ?_
                refine g_iadd (pc := 125) X dX9_work_125 ?_
                refine g_iload (pc := 126) X dX9_work_126 rfl ?_
                refine g_bipush (pc := 128) (v := 97) X dX9_work_128 (by decide) ?_
                refine g_isub (pc := 130) X dX9_work_130 ?_
                refine gm_iast (pc := 131) X (160 + ctb (t 77) k) dX9_work_131 rfl (nI_add 160 _) (show 160 + ctb (t 77) k < 320 from by omega) (by decide) ?_
                refine g_inc (pc := 132) (kv := 1) X dX9_work_132 (by decide) rfl (by decide) ?_
                refine g_inc (pc := 135) (kv := 1) X dX9_work_135 (by decide) rfl (by decide) ?_
                refine g_goto (pc := 138) (tgt := 39) X dX9_work_138 (by decide) ?_
                refine g_wk 4 ?_
                exact ih (k + 1) _ _ _ (by omega) (nI_1 k) (by omega) hok1 (by rw [ctb_t hyl, nI_1]) (by rw [xt_nk _ _ _ _ (by decide), xt_ne _ _ (Or.inr (by decide))]; exact f2) (by rw [xt_nk _ _ _ _ (by decide), xt_same]; exact hc_107) (by rw [xt_nk _ _ _ _ (by decide), xt_ne _ _ (Or.inr (by decide))]; exact f6) (fun j hj hl => by
                  by_cases q : j = k
                  · subst q; rw [xt_same]
                  · have h3 := ctb_mono (t 77) (i := j + 1) (d := k - (j + 1))
                    rw [ctb_t hl, show j + 1 + (k - (j + 1)) = k by omega] at h3
                    rw [xt_ne _ _ (Or.inr (by omega)), xt_nk _ _ _ _ (by decide)]; exact fl j (by omega) hl) (fun x y q1 q2 => by rw [xt_ne _ _ (by omega), xt_ne _ _ (by omega)]; exact fo x y q1 q2)
              · have hsf : sfr (t 77) kn = (kbb (t 77) k, nI k) := by rw [show kn = k + 1 + (kn - (k + 1)) by omega, sfr_stay (by rw [sfr.eq_2, if_pos hok, if_neg (by rw [← hF]; exact hc_107)]; rw [← hF]; exact hc_107), sfr.eq_2, if_pos hok, if_neg (by rw [← hF]; exact hc_107)]
                refine g_aload_n (pc := 110) X dX9_work_110 rfl rfl ?_
                refine g_iload_n (pc := 111) X dX9_work_111 rfl rfl ?_
                refine gm_putI (pc := 112) (j := 6) X 9 tyX9 dX9_work_112 rfl (by decide) rfl xu_9 tyX9_ok nmX9 (by decide) rfl xw_597 rfl rfl (Or.inl rfl) ?_
                refine g_iconst (pc := 115) (v := (-1)) X dX9_work_115 (by decide) ?_
                exact gm_iret (pc := 116) X hr hk dX9_work_116 (⟨fun q => absurd ⟨nI_pos' (by omega), nI_le hkn (by omega)⟩ q, fun k2 hk2 e9 => by
                    have := (nI_eq (by omega) (by omega)).mp e9
                    subst this
                    exact ⟨fun _ => ⟨rfl, by rw [xt_ne _ _ (Or.inr (by decide)), xt_ne _ _ (Or.inr (by decide))]; exact f2, by rw [xt_ne _ _ (Or.inr (by decide)), xt_same, hsf, hF], by rw [xt_same, hsf], fun x y q1 q2 => by rw [xt_ne _ _ (by omega), xt_ne _ _ (by omega)]; exact fo x y q1 q2⟩, fun q => absurd q (by rw [hsf, ← hF]; exact hc_107)⟩⟩)
            refine g_aload_n (pc := 44) X dX9_work_44 rfl rfl ?_
            refine gm_getR (k' := 77) (pc := 45) (j := 1) X 9 dX9_work_45 rfl (by decide) rfl xu_9 (by decide) rfl xw_592 rfl rfl ?_
            refine g_iload_n (pc := 48) X dX9_work_48 rfl rfl ?_
            refine gm_iald (pc := 49) X (k) dX9_work_49 rfl rfl (show k < 400 from by omega) (by decide) ?_
            rw [fo 77 k (by omega) (by omega)]
            refine g_istore (pc := 50) X dX9_work_50 (by decide) ?_
            refine g_iload (pc := 52) X dX9_work_52 rfl ?_
            refine g_bipush (pc := 54) (v := 10) X dX9_work_54 (by decide) ?_
            refine g_icmp_eq (pc := 56) (tgt := 135) X dX9_work_56 (by decide) (fun hc_56 => ?_) (fun hc_56 => ?_)
            · refine g_inc (pc := 135) (kv := 1) X dX9_work_135 (by decide) rfl (by decide) ?_
              refine g_goto (pc := 138) (tgt := 39) X dX9_work_138 (by decide) ?_
              refine g_wk 4 ?_
              exact ih (k + 1) _ _ _ (by omega) (nI_1 k) (by omega) (by rw [sfr.eq_2, if_pos hok, if_pos (kbb_a (blank_not (Or.inl hc_56)) (Or.inl hc_56))]) (by rw [ctb_f (blank_not (Or.inl hc_56))]) f2 f5 f6 (fun j hj hl => by rcases Nat.lt_or_ge j k with q | q; exact fl j q hl; rw [show j = k by omega] at hl; exact absurd hl (blank_not (Or.inl hc_56))) fo
            · refine g_iload (pc := 59) X dX9_work_59 rfl ?_
              refine g_bipush (pc := 61) (v := 32) X dX9_work_61 (by decide) ?_
              refine g_icmp_ne (pc := 63) (tgt := 69) X dX9_work_63 (by decide) (fun hc_63 => ?_) (fun hc_63 => ?_)
              · refine g_aload_n (pc := 69) X dX9_work_69 rfl rfl ?_
                refine g_iload (pc := 70) X dX9_work_70 rfl ?_
                refine g_bipush (pc := 72) (v := 97) X dX9_work_72 (by decide) ?_
                refine g_icmp_lt (pc := 74) (tgt := 84) X dX9_work_74 (by decide) (fun hc_74 => ?_) (fun hc_74 => ?_)
                · refine g_iconst (pc := 84) (v := 1) X dX9_work_84 (by decide) ?_
                  refine g_goto (pc := 85) (tgt := 100) X dX9_work_85 (by decide) ?_
                  exact step 1 (by rw [kbb_b (fun q => ((ltb_iff _).mp q).1 hc_74) hc_56 hc_63]) (by rintro (q | q); exact hc_56 q; exact hc_63 q)
                · refine g_iload (pc := 77) X dX9_work_77 rfl ?_
                  refine g_bipush (pc := 79) (v := 112) X dX9_work_79 (by decide) ?_
                  refine g_icmp_le (pc := 81) (tgt := 88) X dX9_work_81 (by decide) (fun hc_81 => ?_) (fun hc_81 => ?_)
                  · refine g_iload_n (pc := 88) X dX9_work_88 rfl rfl ?_
                    refine g_sipush (pc := 89) (v := 160) X dX9_work_89 (by decide) ?_
                    refine g_icmp_ne (pc := 92) (tgt := 99) X dX9_work_92 (by decide) (fun hc_92 => ?_) (fun hc_92 => ?_)
                    · refine g_iconst (pc := 99) (v := 0) X dX9_work_99 (by decide) ?_
                      exact step 0 (by rw [kbb_c ((ltb_iff _).mpr ⟨hc_74, k2_nlt hc_81⟩), if_neg (fun q => hc_92 (by rw [q]; rfl))]) (by rintro (q | q); exact hc_56 q; exact hc_63 q)
                    · refine g_iconst (pc := 95) (v := 2) X dX9_work_95 (by decide) ?_
                      refine g_goto (pc := 96) (tgt := 100) X dX9_work_96 (by decide) ?_
                      exact step 2 (by rw [kbb_c ((ltb_iff _).mpr ⟨hc_74, k2_nlt hc_81⟩), if_pos ((nI_eq (b := 160) (by omega) (by omega)).mp hc_92)]) (by rintro (q | q); exact hc_56 q; exact hc_63 q)
                  · refine g_iconst (pc := 84) (v := 1) X dX9_work_84 (by decide) ?_
                    refine g_goto (pc := 85) (tgt := 100) X dX9_work_85 (by decide) ?_
                    exact step 1 (by rw [kbb_b (fun q => ((ltb_iff _).mp q).2 (k2_lt hc_81)) hc_56 hc_63]) (by rintro (q | q); exact hc_56 q; exact hc_63 q)
              · refine g_goto (pc := 66) (tgt := 135) X dX9_work_66 (by decide) ?_
                refine g_inc (pc := 135) (kv := 1) X dX9_work_135 (by decide) rfl (by decide) ?_
                refine g_goto (pc := 138) (tgt := 39) X dX9_work_138 (by decide) ?_
                refine g_wk 4 ?_
                exact ih (k + 1) _ _ _ (by omega) (nI_1 k) (by omega) (by rw [sfr.eq_2, if_pos hok, if_pos (kbb_a (blank_not (Or.inr hc_63)) (Or.inr hc_63))]) (by rw [ctb_f (blank_not (Or.inr hc_63))]) f2 f5 f6 (fun j hj hl => by rcases Nat.lt_or_ge j k with q | q; exact fl j q hl; rw [show j = k by omega] at hl; exact absurd hl (blank_not (Or.inr hc_63))) fo
      refine g_aload_n (pc := 20) X dX9_work_20 rfl rfl ?_
      refine g_iconst (pc := 21) (v := 0) X dX9_work_21 (by decide) ?_
      refine gm_putI (pc := 22) (j := 2) X 9 tyX9 dX9_work_22 rfl (by decide) rfl xu_9 tyX9_ok nmX9 (by decide) rfl xw_593 rfl rfl (Or.inl rfl) ?_
      refine g_aload_n (pc := 25) X dX9_work_25 rfl rfl ?_
      refine g_iconst (pc := 26) (v := 0) X dX9_work_26 (by decide) ?_
      refine gm_putI (pc := 27) (j := 5) X 9 tyX9 dX9_work_27 rfl (by decide) rfl xu_9 tyX9_ok nmX9 (by decide) rfl xw_596 rfl rfl (Or.inl rfl) ?_
      refine g_aload_n (pc := 30) X dX9_work_30 rfl rfl ?_
      refine g_iconst (pc := 31) (v := (-1)) X dX9_work_31 (by decide) ?_
      refine gm_putI (pc := 32) (j := 6) X 9 tyX9 dX9_work_32 rfl (by decide) rfl xu_9 tyX9_ok nmX9 (by decide) rfl xw_597 rfl rfl (Or.inl rfl) ?_
      refine g_iconst (pc := 35) (v := 0) X dX9_work_35 (by decide) ?_
      refine g_istore_n (pc := 36) X dX9_work_36 rfl (by decide) ?_
      refine g_iconst (pc := 37) (v := 0) X dX9_work_37 (by decide) ?_
      refine g_istore_n (pc := 38) X dX9_work_38 rfl (by decide) ?_
      exact loop1 (kn + 1) 0 _ _ _ (by omega) nI_0.symm (Nat.zero_le _) rfl nI_0.symm (by rw [xt_ne _ _ (Or.inr (by decide)), xt_ne _ _ (Or.inr (by decide)), xt_same]) (by rw [xt_ne _ _ (Or.inr (by decide)), xt_same]) (xt_same _ _ _ _) (fun j hj => absurd hj (Nat.not_lt_zero j)) (fun x y q1 q2 => by rw [xt_ne _ _ (by omega), xt_ne _ _ (by omega), xt_ne _ _ (by omega), xt_ne _ _ (by omega)])
    · refine g_bipush (pc := 17) (v := (-2)) X dX9_work_17 (by decide) ?_
      exact gm_iret (pc := 19) X hr hk dX9_work_19 (⟨fun _ => ⟨rfl, rfl⟩, fun k hk e9 => absurd (by rw [e9, xt_ne _ _ (Or.inr (by decide)), h2]; exact nI_le hk (by omega)) hc_14⟩)

