/-! 08a: the reference: small methods, the best of a leaf -/
abbrev lsM (t : xT) : Nat → Nat → Int32 := fun k s => t 82 (16 * k + s)
theorem plM_toInt {nl : Nat} (h : nl ≤ 160) : (nI nl - 31).toInt = (nl : Int) - 31 := by
  have e : ∀ n : Nat, n < 161 → (nI n - 31).toInt = (n : Int) - 31 := by decide +kernel
  exact e nl (by omega)
theorem plM_le {nl y : Nat} (h : nl ≤ 160) (hy : y < 2 ^ 30) : nI nl - 31 ≤ nI y ↔ nl - 31 ≤ y := by
  rw [i_le, plM_toInt h, nI_toInt (by omega)]; omega
theorem plM_lt {nl y : Nat} (h : nl ≤ 160) (hy : y < 2 ^ 30) : nI y < nI nl - 31 ↔ y < nl - 31 := by
  rw [i_lt, plM_toInt h, nI_toInt (by omega)]; omega
theorem ml_parts : ∀ q, q < 2 → ∀ s, s < 16 → (16 : Int32) * (nI s / 8) = nI (16 * (s / 8)) ∧ (8 : Int32) * nI q = nI (8 * q) ∧ nI s - nI s / 8 * 8 = nI (s % 8) := by decide
theorem ml_eq (p : Nat) {q s : Nat} (hq : q < 2) (hs : s < 16) : nI p + 16 * (nI s / 8) + 8 * nI q + (nI s - nI s / 8 * 8) = nI (p + la q s) := by
  obtain ⟨e1, e2, e3⟩ := ml_parts q hq s hs
  rw [e1, e2, e3, nI_add, nI_add, nI_add]
  congr 1
  unfold la
  omega
theorem idx16 (k s : Nat) : (16 : Int32) * nI k + nI s = nI (16 * k + s) := by
  rw [show (16 : Int32) = nI 16 from rfl, pk_mul, nI_add]
set_option maxRecDepth 100000 in
set_option maxHeartbeats 4000000 in
theorem m_isHalf (l : Launch) (G : xg_G) (O : Heap) (t : xT) (nh : Nat) (h : Int32) (hnh : nh ≤ 8) (h7 : t 76 7 = nI nh) : xm l yX9_isHalf cX9_isHalf 2 (some .boolean) rmX9_isHalf G O t [.ref (O.size + 76), .int h] (xi (fun v t' => v = bi (0 ≤ h ∧ h < nI nh) ∧ t' = t)) := by
  refine xm_enter (by decide) 0 rfl rfl ?_
  intro p e s m args below meth c X hr hk
  refine g_eq (L2 := [some (.ref (O.size + 76)), some (.int h)]) rfl rfl rfl ?_
  refine g_iload_n (pc := 0) X dX9_isHalf_0 rfl rfl ?_
  refine g_if_lt (pc := 1) (tgt := 16) X dX9_isHalf_1 (by decide) (fun hc_1 => ?_) (fun hc_1 => ?_)
  · refine g_iconst (pc := 16) (v := 0) X dX9_isHalf_16 (by decide) ?_
    exact gm_zret (pc := 17) X hr hk dX9_isHalf_17 (by first | exact Or.inl rfl | exact Or.inr rfl) (⟨(bi_f (fun q => absurd q.1 (k2_nle hc_1))).symm, rfl⟩)
  · refine g_iload_n (pc := 4) X dX9_isHalf_4 rfl rfl ?_
    refine g_aload_n (pc := 5) X dX9_isHalf_5 rfl rfl ?_
    refine gm_getI (pc := 6) (j := 7) X 9 dX9_isHalf_6 rfl (by decide) rfl xu_9 (by decide) rfl xw_598 rfl ?_
    refine g_icmp_ge (pc := 9) (tgt := 16) X dX9_isHalf_9 (by decide) (fun hc_9 => ?_) (fun hc_9 => ?_)
    · refine g_iconst (pc := 16) (v := 0) X dX9_isHalf_16 (by decide) ?_
      exact gm_zret (pc := 17) X hr hk dX9_isHalf_17 (by first | exact Or.inl rfl | exact Or.inr rfl) (⟨(bi_f (fun q => absurd q.2 (k2_nlt (by rw [← h7]; exact hc_9)))).symm, rfl⟩)
    · refine g_iconst (pc := 12) (v := 1) X dX9_isHalf_12 (by decide) ?_
      refine g_goto (pc := 13) (tgt := 17) X dX9_isHalf_13 (by decide) ?_
      exact gm_zret (pc := 17) X hr hk dX9_isHalf_17 (by first | exact Or.inl rfl | exact Or.inr rfl) (⟨(bi_t ⟨k2_le hc_1, k2_lt (by rw [← h7]; exact hc_9)⟩).symm, rfl⟩)

theorem sp_neg {nh : Nat} {h f s : Int32} : ((f < 0 ∨ 1 < f) ∨ (s < 0 ∨ 7 < s)) → ¬ spP nh h f s := by
  intro q r
  rcases q with (q | q) | (q | q)
  · exact k2_nle q r.2.1.1
  · exact k2_nle q r.2.1.2
  · exact k2_nle q r.2.2.1
  · exact k2_nle q r.2.2.2
theorem idx168 (k a b : Nat) : (16 : Int32) * nI k + 8 * nI a + nI b = nI (16 * k + (8 * a + b)) := by
  rw [show (16 : Int32) = nI 16 from rfl, show (8 : Int32) = nI 8 from rfl, pk_mul, pk_mul, nI_add, nI_add, Nat.add_assoc]
set_option maxRecDepth 100000 in
set_option maxHeartbeats 4000000 in
theorem m_spotAt (l : Launch) (G : xg_G) (O : Heap) (t : xT) (nh : Nat) (h f s0 : Int32) (hnh : nh ≤ 8) (h7 : t 76 7 = nI nh) : xm l yX9_spotAt cX9_spotAt 4 (some .int) rmX9_spotAt G O t [.ref (O.size + 76), .int h, .int f, .int s0] (xi (fun v t' => v = (if spP nh h f s0 then nI (16 * h.toNatClampNeg + spI f s0) else -1) ∧ t' = t)) := by
  refine xm_enter (by decide) 0 rfl rfl ?_
  intro p e s m args below meth c X hr hk
  refine g_eq (L2 := [some (.ref (O.size + 76)), some (.int h), some (.int f), some (.int s0)]) rfl rfl rfl ?_
  refine g_aload_n (pc := 0) X dX9_spotAt_0 rfl rfl ?_
  refine g_iload_n (pc := 1) X dX9_spotAt_1 rfl rfl ?_
  refine gm_Vi (pc := 2) X 9 xc_X9_92 (m_isHalf l G O _ nh h hnh h7) dX9_spotAt_2 rfl (by decide) rfl rfl rfl rfl (Nat.le_of_ble_eq_true rfl) (fun v_2 t_2 hp => ?_)
  obtain ⟨rfl, hq9⟩ := hp
  have hq9 := hq9.symm
  subst hq9
  refine g_if_eq (pc := 5) (tgt := 41) X dX9_spotAt_5 (by decide) (fun hc_5 => ?_) (fun hc_5 => ?_)
  · refine g_iconst (pc := 41) (v := (-1)) X dX9_spotAt_41 (by decide) ?_
    exact gm_iret (pc := 42) X hr hk dX9_spotAt_42 (⟨(if_neg (fun q => bi_0 hc_5 q.1)).symm, rfl⟩)
  · refine g_iload_n (pc := 8) X dX9_spotAt_8 rfl rfl ?_
    refine g_if_lt (pc := 9) (tgt := 41) X dX9_spotAt_9 (by decide) (fun hc_9 => ?_) (fun hc_9 => ?_)
    · refine g_iconst (pc := 41) (v := (-1)) X dX9_spotAt_41 (by decide) ?_
      exact gm_iret (pc := 42) X hr hk dX9_spotAt_42 (⟨(if_neg (sp_neg (Or.inl (Or.inl hc_9)))).symm, rfl⟩)
    · refine g_iload_n (pc := 12) X dX9_spotAt_12 rfl rfl ?_
      refine g_iconst (pc := 13) (v := 1) X dX9_spotAt_13 (by decide) ?_
      refine g_icmp_gt (pc := 14) (tgt := 41) X dX9_spotAt_14 (by decide) (fun hc_14 => ?_) (fun hc_14 => ?_)
      · refine g_iconst (pc := 41) (v := (-1)) X dX9_spotAt_41 (by decide) ?_
        exact gm_iret (pc := 42) X hr hk dX9_spotAt_42 (⟨(if_neg (sp_neg (Or.inl (Or.inr hc_14)))).symm, rfl⟩)
      · refine g_iload_n (pc := 17) X dX9_spotAt_17 rfl rfl ?_
        refine g_if_lt (pc := 18) (tgt := 41) X dX9_spotAt_18 (by decide) (fun hc_18 => ?_) (fun hc_18 => ?_)
        · refine g_iconst (pc := 41) (v := (-1)) X dX9_spotAt_41 (by decide) ?_
          exact gm_iret (pc := 42) X hr hk dX9_spotAt_42 (⟨(if_neg (sp_neg (Or.inr (Or.inl hc_18)))).symm, rfl⟩)
        · refine g_iload_n (pc := 21) X dX9_spotAt_21 rfl rfl ?_
          refine g_bipush (pc := 22) (v := 7) X dX9_spotAt_22 (by decide) ?_
          refine g_icmp_gt (pc := 24) (tgt := 41) X dX9_spotAt_24 (by decide) (fun hc_24 => ?_) (fun hc_24 => ?_)
          · refine g_iconst (pc := 41) (v := (-1)) X dX9_spotAt_41 (by decide) ?_
            exact gm_iret (pc := 42) X hr hk dX9_spotAt_42 (⟨(if_neg (sp_neg (Or.inr (Or.inr hc_24)))).symm, rfl⟩)
          · have hsp : spP nh h f s0 := ⟨bi_1 hc_5, ⟨k2_le hc_9, k2_le hc_14⟩, ⟨k2_le hc_18, k2_le hc_24⟩⟩
            refine g_bipush (pc := 27) (v := 16) X dX9_spotAt_27 (by decide) ?_
            refine g_iload_n (pc := 29) X dX9_spotAt_29 rfl rfl ?_
            refine g_imul (pc := 30) X dX9_spotAt_30 ?_
            refine g_bipush (pc := 31) (v := 8) X dX9_spotAt_31 (by decide) ?_
            refine g_iload_n (pc := 33) X dX9_spotAt_33 rfl rfl ?_
            refine g_imul (pc := 34) X dX9_spotAt_34 ?_
            refine g_iadd (pc := 35) X dX9_spotAt_35 ?_
            refine g_iload_n (pc := 36) X dX9_spotAt_36 rfl rfl ?_
            refine g_iadd (pc := 37) X dX9_spotAt_37 ?_
            refine g_goto (pc := 38) (tgt := 42) X dX9_spotAt_38 (by decide) ?_
            exact gm_iret (pc := 42) X hr hk dX9_spotAt_42 (⟨by rw [if_pos hsp]; obtain ⟨k, a, b, hk1, ha, hb1, rfl, rfl, rfl⟩ := sp_of hnh hsp; rw [idx168]; show _ = nI (16 * (nI k).toNatClampNeg + (8 * (nI a).toNatClampNeg + (nI b).toNatClampNeg)); rw [nI_clamp (by omega), nI_clamp (by omega), nI_clamp (by omega)], rfl⟩)

set_option maxRecDepth 100000 in
set_option maxHeartbeats 4000000 in
theorem m_places (l : Launch) (G : xg_G) (O : Heap) (t : xT) (nl : Nat) (h4 : t 76 4 = nI nl) : xm l yX9_places cX9_places 1 (some .int) rmX9_places G O t [.ref (O.size + 76)] (xi (fun v t' => v = nI nl - 31 ∧ t' = t)) := by
  refine xm_enter (by decide) 0 rfl rfl ?_
  intro p e s m args below meth c X hr hk
  refine g_eq (L2 := [some (.ref (O.size + 76))]) rfl rfl rfl ?_
  refine g_aload_n (pc := 0) X dX9_places_0 rfl rfl ?_
  refine gm_getI (pc := 1) (j := 4) X 9 dX9_places_1 rfl (by decide) rfl xu_9 (by decide) rfl xw_595 rfl ?_
  refine g_bipush (pc := 4) (v := 31) X dX9_places_4 (by decide) ?_
  refine g_isub (pc := 6) X dX9_places_6 ?_
  exact gm_iret (pc := 7) X hr hk dX9_places_7 (⟨by rw [h4], rfl⟩)

set_option maxRecDepth 100000 in
set_option maxHeartbeats 4000000 in
theorem m_letterAt (l : Launch) (G : xg_G) (O : Heap) (t : xT) (q p0 s0 : Nat) (hq : q < 2) (hs : s0 < 16) (hp : p0 < 160) : xm l yX9_letterAt cX9_letterAt 4 (some .int) rmX9_letterAt G O t [.ref (O.size + 76), .int (nI q), .int (nI p0), .int (nI s0)] (xi (fun v t' => v = t 78 (p0 + la q s0) ∧ t' = t)) := by
  refine xm_enter (by decide) 0 rfl rfl ?_
  intro p e s m args below meth c X hr hk
  refine g_eq (L2 := [some (.ref (O.size + 76)), some (.int (nI q)), some (.int (nI p0)), some (.int (nI s0))]) rfl rfl rfl ?_
  refine g_aload_n (pc := 0) X dX9_letterAt_0 rfl rfl ?_
  refine gm_getR (k' := 78) (pc := 1) (j := 3) X 9 dX9_letterAt_1 rfl (by decide) rfl xu_9 (by decide) rfl xw_594 rfl rfl ?_
  refine g_iload_n (pc := 4) X dX9_letterAt_4 rfl rfl ?_
  refine g_bipush (pc := 5) (v := 16) X dX9_letterAt_5 (by decide) ?_
  refine g_iload_n (pc := 7) X dX9_letterAt_7 rfl rfl ?_
  refine g_bipush (pc := 8) (v := 8) X dX9_letterAt_8 (by decide) ?_
  refine g_idiv (pc := 10) X dX9_letterAt_10 (by decide) ?_
  refine g_imul (pc := 11) X dX9_letterAt_11 ?_
  refine g_iadd (pc := 12) X dX9_letterAt_12 ?_
  refine g_bipush (pc := 13) (v := 8) X dX9_letterAt_13 (by decide) ?_
  refine g_iload_n (pc := 15) X dX9_letterAt_15 rfl rfl ?_
  refine g_imul (pc := 16) X dX9_letterAt_16 ?_
  refine g_iadd (pc := 17) X dX9_letterAt_17 ?_
  refine g_iload_n (pc := 18) X dX9_letterAt_18 rfl rfl ?_
  refine g_bipush (pc := 19) (v := 8) X dX9_letterAt_19 (by decide) ?_
  refine g_irem (pc := 21) X dX9_letterAt_21 (by decide) ?_
  refine g_iadd (pc := 22) X dX9_letterAt_22 ?_
  refine gm_iald (pc := 23) X (p0 + la q s0) dX9_letterAt_23 rfl (ml_eq p0 hq hs) (show p0 + la q s0 < 320 from by have := la_lt q hq s0 hs; omega) (by decide) ?_
  exact gm_iret (pc := 24) X hr hk dX9_letterAt_24 (⟨rfl, rfl⟩)

set_option maxRecDepth 100000 in
set_option maxHeartbeats 4000000 in
theorem m_quarrelsOf (l : Launch) (G : xg_G) (O : Heap) (t : xT) (k q p0 : Nat) (hk8 : k < 8) (hq : q < 2) (hp : p0 < 160) : xm l yX9_quarrelsOf cX9_quarrelsOf 6 (some .int) rmX9_quarrelsOf G O t [.ref (O.size + 76), .int (nI k), .int (nI q), .int (nI p0)] (xi (fun v t' => v = nI (qn (lsM t k) (t 78) q p0 16) ∧ t' = t)) := by
  refine xm_enter (by decide) 2 rfl rfl ?_
  intro p e s m args below meth c X hr hk
  refine g_eq (L2 := [some (.ref (O.size + 76)), some (.int (nI k)), some (.int (nI q)), some (.int (nI p0)), none, none]) rfl rfl rfl ?_
  have loop : ∀ (z9 : Nat) (a : Nat) (xa : Int32) (xs : Int32), 16 - a < z9 → xa = nI a → xs = nI (qn (lsM t k) (t 78) q p0 a) → a ≤ 16 → gm p l e rmX9_quarrelsOf s m args below meth c 6 G O (xmQ below G O (xi (fun v t' => v = nI (qn (lsM t k) (t 78) q p0 16) ∧ t' = t)) args s) (t) [some (.ref (O.size + 76)), some (.int (nI k)), some (.int (nI q)), some (.int (nI p0)), some (.int (xs)), some (.int (xa))] 6 [] := by
    intro z9
    induction z9 with
    | zero => intro a xa xs h9; exact absurd h9 (Nat.not_lt_zero _)
    | succ z9 ih =>
      intro a xa xs h9 hxa hxs ha
      subst hxa
      refine g_iload (pc := 6) X dX9_quarrelsOf_6 rfl ?_
      refine g_bipush (pc := 8) (v := 16) X dX9_quarrelsOf_8 (by decide) ?_
      refine g_icmp_ge (pc := 10) (tgt := 56) X dX9_quarrelsOf_10 (by decide) (fun hc_10 => ?_) (fun hc_10 => ?_)
      · refine g_iload (pc := 56) X dX9_quarrelsOf_56 rfl ?_
        exact gm_iret (pc := 58) X hr hk dX9_quarrelsOf_58 (⟨by rw [hxs, show a = 16 by have := n_ge (a := 16) (b := a) hc_10; omega], rfl⟩)
      · have ha16 : a < 16 := n_gt (a := 16) (b := a) hc_10
        refine g_iload (pc := 13) X dX9_quarrelsOf_13 rfl ?_
        refine g_aload_n (pc := 15) X dX9_quarrelsOf_15 rfl rfl ?_
        refine gm_getR (k' := 82) (pc := 16) (j := 11) X 9 dX9_quarrelsOf_16 rfl (by decide) rfl xu_9 (by decide) rfl xw_602 rfl rfl ?_
        refine g_bipush (pc := 19) (v := 16) X dX9_quarrelsOf_19 (by decide) ?_
        refine g_iload_n (pc := 21) X dX9_quarrelsOf_21 rfl rfl ?_
        refine g_imul (pc := 22) X dX9_quarrelsOf_22 ?_
        refine g_iload (pc := 23) X dX9_quarrelsOf_23 rfl ?_
        refine g_iadd (pc := 25) X dX9_quarrelsOf_25 ?_
        refine gm_iald (pc := 26) X (16 * k + a) dX9_quarrelsOf_26 rfl (idx16 k a) (show 16 * k + a < 128 from by omega) (by decide) ?_
        refine g_aload_n (pc := 27) X dX9_quarrelsOf_27 rfl rfl ?_
        refine g_iload_n (pc := 28) X dX9_quarrelsOf_28 rfl rfl ?_
        refine g_iload_n (pc := 29) X dX9_quarrelsOf_29 rfl rfl ?_
        refine g_iload (pc := 30) X dX9_quarrelsOf_30 rfl ?_
        refine gm_Vi (pc := 32) X 9 xc_X9_103 (m_letterAt l G O _ q p0 a hq ha16 hp) dX9_quarrelsOf_32 rfl (by decide) rfl rfl rfl rfl (Nat.le_of_ble_eq_true rfl) (fun v_32 t_32 hp => ?_)
        obtain ⟨rfl, hq9⟩ := hp
        have hq9 := hq9.symm
        subst hq9
        refine g_ishr (pc := 35) X dX9_quarrelsOf_35 ?_
        refine g_iconst (pc := 36) (v := 1) X dX9_quarrelsOf_36 (by decide) ?_
        refine g_iand (pc := 37) X dX9_quarrelsOf_37 ?_
        refine g_iconst (pc := 38) (v := 1) X dX9_quarrelsOf_38 (by decide) ?_
        refine g_icmp_ne (pc := 39) (tgt := 46) X dX9_quarrelsOf_39 (by decide) (fun hc_39 => ?_) (fun hc_39 => ?_)
        · refine g_iconst (pc := 46) (v := 1) X dX9_quarrelsOf_46 (by decide) ?_
          refine g_iadd (pc := 47) X dX9_quarrelsOf_47 ?_
          refine g_istore (pc := 48) X dX9_quarrelsOf_48 (by decide) ?_
          refine g_inc (pc := 50) (kv := 1) X dX9_quarrelsOf_50 (by decide) rfl (by decide) ?_
          refine g_goto (pc := 53) (tgt := 6) X dX9_quarrelsOf_53 (by decide) ?_
          exact ih (a + 1) _ _ (by omega) (nI_1 a) (by rw [hxs, qn.eq_2, if_neg (by simpa [hb] using hc_39)]; exact nI_1 _) (by omega)
        · refine g_iconst (pc := 42) (v := 0) X dX9_quarrelsOf_42 (by decide) ?_
          refine g_goto (pc := 43) (tgt := 47) X dX9_quarrelsOf_43 (by decide) ?_
          refine g_iadd (pc := 47) X dX9_quarrelsOf_47 ?_
          refine g_istore (pc := 48) X dX9_quarrelsOf_48 (by decide) ?_
          refine g_inc (pc := 50) (kv := 1) X dX9_quarrelsOf_50 (by decide) rfl (by decide) ?_
          refine g_goto (pc := 53) (tgt := 6) X dX9_quarrelsOf_53 (by decide) ?_
          exact ih (a + 1) _ _ (by omega) (nI_1 a) (by rw [hxs, qn.eq_2, if_pos (by simpa [hb] using hc_39)]; exact Int32.add_zero _) (by omega)
  refine g_iconst (pc := 0) (v := 0) X dX9_quarrelsOf_0 (by decide) ?_
  refine g_istore (pc := 1) X dX9_quarrelsOf_1 (by decide) ?_
  refine g_iconst (pc := 3) (v := 0) X dX9_quarrelsOf_3 (by decide) ?_
  refine g_istore (pc := 4) X dX9_quarrelsOf_4 (by decide) ?_
  exact loop 17 0 _ _ (by omega) nI_0.symm nI_0.symm (by omega)

set_option maxRecDepth 100000 in
set_option maxHeartbeats 4000000 in
theorem m_quarrels (l : Launch) (G : xg_G) (O : Heap) (t : xT) (nl nh : Nat) (h q y : Int32) (hnl : nl ≤ 160) (h4 : t 76 4 = nI nl) (hnh : nh ≤ 8) (h7 : t 76 7 = nI nh) : xm l yX9_quarrels cX9_quarrels 4 (some .int) rmX9_quarrels G O t [.ref (O.size + 76), .int h, .int q, .int y] (xi (fun v t' => v = (if qrP nl nh h q y then nI (qn (lsM t h.toNatClampNeg) (t 78) q.toNatClampNeg y.toNatClampNeg 16) else -1) ∧ t' = xt t 76 0 0)) := by
  refine xm_enter (by decide) 0 rfl rfl ?_
  intro p e s m args below meth c X hr hk
  refine g_eq (L2 := [some (.ref (O.size + 76)), some (.int h), some (.int q), some (.int y)]) rfl rfl rfl ?_
  refine g_aload_n (pc := 0) X dX9_quarrels_0 rfl rfl ?_
  refine g_iconst (pc := 1) (v := 0) X dX9_quarrels_1 (by decide) ?_
  refine gm_putI (pc := 2) (j := 0) X 9 tyX9 dX9_quarrels_2 rfl (by decide) rfl xu_9 tyX9_ok nmX9 (by decide) rfl xw_591 rfl rfl (Or.inl rfl) ?_
  refine g_aload_n (pc := 5) X dX9_quarrels_5 rfl rfl ?_
  refine g_iload_n (pc := 6) X dX9_quarrels_6 rfl rfl ?_
  refine gm_Vi (pc := 7) X 9 xc_X9_92 (m_isHalf l G O _ nh h hnh (by rw [xt_ne _ _ (Or.inr (by decide))]; exact h7)) dX9_quarrels_7 rfl (by decide) rfl rfl rfl rfl (Nat.le_of_ble_eq_true rfl) (fun v_7 t_7 hp => ?_)
  obtain ⟨rfl, hq9⟩ := hp
  have hq9 := hq9.symm
  subst hq9
  refine g_if_eq (pc := 10) (tgt := 34) X dX9_quarrels_10 (by decide) (fun hc_10 => ?_) (fun hc_10 => ?_)
  · refine g_iconst (pc := 34) (v := (-1)) X dX9_quarrels_34 (by decide) ?_
    refine g_goto (pc := 35) (tgt := 45) X dX9_quarrels_35 (by decide) ?_
    exact gm_iret (pc := 45) X hr hk dX9_quarrels_45 (⟨(if_neg (fun q9 => bi_0 hc_10 q9.1)).symm, rfl⟩)
  · refine g_iload_n (pc := 13) X dX9_quarrels_13 rfl rfl ?_
    refine g_if_lt (pc := 14) (tgt := 34) X dX9_quarrels_14 (by decide) (fun hc_14 => ?_) (fun hc_14 => ?_)
    · refine g_iconst (pc := 34) (v := (-1)) X dX9_quarrels_34 (by decide) ?_
      refine g_goto (pc := 35) (tgt := 45) X dX9_quarrels_35 (by decide) ?_
      exact gm_iret (pc := 45) X hr hk dX9_quarrels_45 (⟨(if_neg (fun q9 => k2_nle hc_14 q9.2.1.1)).symm, rfl⟩)
    · refine g_iload_n (pc := 17) X dX9_quarrels_17 rfl rfl ?_
      refine g_iconst (pc := 18) (v := 1) X dX9_quarrels_18 (by decide) ?_
      refine g_icmp_gt (pc := 19) (tgt := 34) X dX9_quarrels_19 (by decide) (fun hc_19 => ?_) (fun hc_19 => ?_)
      · refine g_iconst (pc := 34) (v := (-1)) X dX9_quarrels_34 (by decide) ?_
        refine g_goto (pc := 35) (tgt := 45) X dX9_quarrels_35 (by decide) ?_
        exact gm_iret (pc := 45) X hr hk dX9_quarrels_45 (⟨(if_neg (fun q9 => k2_nle hc_19 q9.2.1.2)).symm, rfl⟩)
      · refine g_iload_n (pc := 22) X dX9_quarrels_22 rfl rfl ?_
        refine g_if_lt (pc := 23) (tgt := 34) X dX9_quarrels_23 (by decide) (fun hc_23 => ?_) (fun hc_23 => ?_)
        · refine g_iconst (pc := 34) (v := (-1)) X dX9_quarrels_34 (by decide) ?_
          refine g_goto (pc := 35) (tgt := 45) X dX9_quarrels_35 (by decide) ?_
          exact gm_iret (pc := 45) X hr hk dX9_quarrels_45 (⟨(if_neg (fun q9 => k2_nle hc_23 q9.2.2.1)).symm, rfl⟩)
        · refine g_iload_n (pc := 26) X dX9_quarrels_26 rfl rfl ?_
          refine g_aload_n (pc := 27) X dX9_quarrels_27 rfl rfl ?_
          refine gm_Vi (pc := 28) X 9 xc_X9_106 (m_places l G O _ nl (by rw [xt_ne _ _ (Or.inr (by decide))]; exact h4)) dX9_quarrels_28 rfl (by decide) rfl rfl rfl rfl (Nat.le_of_ble_eq_true rfl) (fun v_28 t_28 hp => ?_)
          obtain ⟨rfl, hq9⟩ := hp
          have hq9 := hq9.symm
          subst hq9
          refine g_icmp_lt (pc := 31) (tgt := 38) X dX9_quarrels_31 (by decide) (fun hc_31 => ?_) (fun hc_31 => ?_)
          · obtain ⟨y1, hy0, rfl⟩ := nI_of (x := y) hc_23
            have hy1 : y1 < nl - 31 := by have h9 := (i_lt _ _).mp hc_31; rw [plM_toInt hnl, nI_toInt hy0] at h9; omega
            have hqr : qrP nl nh h q (nI y1) := ⟨bi_1 hc_10, ⟨k2_le hc_14, k2_le hc_19⟩, nI_pos' hy0, nI_lt hy1 (by omega)⟩
            obtain ⟨k, hk1, rfl⟩ := (i_in (by omega)).mp hqr.1
            obtain ⟨q1, hq1, rfl⟩ := nI_of2 (M := 1) (n := 1) rfl hc_14 (k2_le hc_19)
            refine g_aload_n (pc := 38) X dX9_quarrels_38 rfl rfl ?_
            refine g_iload_n (pc := 39) X dX9_quarrels_39 rfl rfl ?_
            refine g_iload_n (pc := 40) X dX9_quarrels_40 rfl rfl ?_
            refine g_iload_n (pc := 41) X dX9_quarrels_41 rfl rfl ?_
            refine gm_Vi (pc := 42) X 9 xc_X9_110 (m_quarrelsOf l G O _ k q1 y1 (by omega) (by omega) (by omega)) dX9_quarrels_42 rfl (by decide) rfl rfl rfl rfl (Nat.le_of_ble_eq_true rfl) (fun v_42 t_42 hp => ?_)
            obtain ⟨rfl, hq9⟩ := hp
            have hq9 := hq9.symm
            subst hq9
            exact gm_iret (pc := 45) X hr hk dX9_quarrels_45 (⟨by rw [if_pos hqr, nI_clamp (by omega), nI_clamp (by omega), nI_clamp (by omega)]; rw [show lsM (xt t 76 0 0) k = lsM t k from funext fun s => xt_nk _ _ _ _ (by decide), show xt t 76 0 0 78 = t 78 from funext fun s => xt_nk _ _ _ _ (by decide)], rfl⟩)
          · refine g_iconst (pc := 34) (v := (-1)) X dX9_quarrels_34 (by decide) ?_
            refine g_goto (pc := 35) (tgt := 45) X dX9_quarrels_35 (by decide) ?_
            exact gm_iret (pc := 45) X hr hk dX9_quarrels_45 (⟨(if_neg (fun q9 => hc_31 (by obtain ⟨j, hj, e9⟩ := (i_in (by omega)).mp q9.2.2; rw [e9]; exact (plM_lt hnl (by omega)).mpr hj))).symm, rfl⟩)

set_option maxRecDepth 100000 in
set_option maxHeartbeats 4000000 in
theorem m_canBe (l : Launch) (G : xg_G) (O : Heap) (t : xT) (k : Nat) (q : Int32) (hk8 : k < 8) : xm l yX9_canBe cX9_canBe 3 (some .boolean) rmX9_canBe G O t [.ref (O.size + 76), .int (nI k), .int q] (xi (fun v t' => v = bi (mayb (t 79) (some k) q = true) ∧ t' = t)) := by
  refine xm_enter (by decide) 0 rfl rfl ?_
  intro p e s m args below meth c X hr hk
  refine g_eq (L2 := [some (.ref (O.size + 76)), some (.int (nI k)), some (.int q)]) rfl rfl rfl ?_
  refine g_aload_n (pc := 0) X dX9_canBe_0 rfl rfl ?_
  refine gm_getR (k' := 79) (pc := 1) (j := 8) X 9 dX9_canBe_1 rfl (by decide) rfl xu_9 (by decide) rfl xw_599 rfl rfl ?_
  refine g_iload_n (pc := 4) X dX9_canBe_4 rfl rfl ?_
  refine gm_iald (pc := 5) X (k) dX9_canBe_5 rfl rfl (show k < 8 from by omega) (by decide) ?_
  refine g_iconst (pc := 6) (v := 2) X dX9_canBe_6 (by decide) ?_
  refine g_icmp_eq (pc := 7) (tgt := 20) X dX9_canBe_7 (by decide) (fun hc_7 => ?_) (fun hc_7 => ?_)
  · refine g_iconst (pc := 20) (v := 1) X dX9_canBe_20 (by decide) ?_
    refine g_goto (pc := 21) (tgt := 25) X dX9_canBe_21 (by decide) ?_
    exact gm_zret (pc := 25) X hr hk dX9_canBe_25 (by first | exact Or.inl rfl | exact Or.inr rfl) (⟨(bi_t (show mayb (t 79) (some k) q = true from decide_eq_true (Or.inr hc_7))).symm, rfl⟩)
  · refine g_aload_n (pc := 10) X dX9_canBe_10 rfl rfl ?_
    refine gm_getR (k' := 79) (pc := 11) (j := 8) X 9 dX9_canBe_11 rfl (by decide) rfl xu_9 (by decide) rfl xw_599 rfl rfl ?_
    refine g_iload_n (pc := 14) X dX9_canBe_14 rfl rfl ?_
    refine gm_iald (pc := 15) X (k) dX9_canBe_15 rfl rfl (show k < 8 from by omega) (by decide) ?_
    refine g_iload_n (pc := 16) X dX9_canBe_16 rfl rfl ?_
    refine g_icmp_ne (pc := 17) (tgt := 24) X dX9_canBe_17 (by decide) (fun hc_17 => ?_) (fun hc_17 => ?_)
    · refine g_iconst (pc := 24) (v := 0) X dX9_canBe_24 (by decide) ?_
      exact gm_zret (pc := 25) X hr hk dX9_canBe_25 (by first | exact Or.inl rfl | exact Or.inr rfl) (⟨(bi_f (fun z => by have z2 : t 79 k = q ∨ t 79 k = 2 := of_decide_eq_true z; rcases z2 with z2 | z2; exact hc_17 z2; exact hc_7 z2)).symm, rfl⟩)
    · refine g_iconst (pc := 20) (v := 1) X dX9_canBe_20 (by decide) ?_
      refine g_goto (pc := 21) (tgt := 25) X dX9_canBe_21 (by decide) ?_
      exact gm_zret (pc := 25) X hr hk dX9_canBe_25 (by first | exact Or.inl rfl | exact Or.inr rfl) (⟨(bi_t (show mayb (t 79) (some k) q = true from decide_eq_true (Or.inl hc_17))).symm, rfl⟩)

theorem ov_none {u : Option Nat} (hu : ∀ k, u = some k → k < 8) : ov u = -1 ↔ u = none := by
  cases u with
  | none => exact ⟨fun _ => rfl, fun _ => rfl⟩
  | some k => exact ⟨fun q => absurd q (nI_nm1 k (hu k rfl)), fun q => by cases q⟩
set_option maxRecDepth 100000 in
set_option maxHeartbeats 4000000 in
theorem m_both (l : Launch) (G : xg_G) (O : Heap) (t : xT) (p0 : Nat) (u v : Option Nat) (hu : ∀ k, u = some k → k < 8) (hv : ∀ k, v = some k → k < 8) (hp : p0 < 160) : xm l yX9_both cX9_both 4 (some .int) rmX9_both G O t [.ref (O.size + 76), .int (ov u), .int (ov v), .int (nI p0)] (xi (fun r t' => r = fQ (lsM t) (t 78) u v p0 ∧ t' = t)) := by
  refine xm_enter (by decide) 0 rfl rfl ?_
  intro p e s m args below meth c X hr hk
  refine g_eq (L2 := [some (.ref (O.size + 76)), some (.int (ov u)), some (.int (ov v)), some (.int (nI p0))]) rfl rfl rfl ?_
  cases u with
  | none =>
    cases v with
    | none =>
      refine g_iload_n (pc := 0) X dX9_both_0 rfl rfl ?_
      refine g_iconst (pc := 1) (v := (-1)) X dX9_both_1 (by decide) ?_
      refine g_icmp_ne (pc := 2) (tgt := 9) X dX9_both_2 (by decide) (fun hc_2 => ?_) (fun hc_2 => ?_)
      · exact absurd rfl hc_2
      · refine g_iconst (pc := 5) (v := 0) X dX9_both_5 (by decide) ?_
        refine g_goto (pc := 6) (tgt := 16) X dX9_both_6 (by decide) ?_
        refine g_iload_n (pc := 16) X dX9_both_16 rfl rfl ?_
        refine g_iconst (pc := 17) (v := (-1)) X dX9_both_17 (by decide) ?_
        refine g_icmp_ne (pc := 18) (tgt := 25) X dX9_both_18 (by decide) (fun hc_18 => ?_) (fun hc_18 => ?_)
        · exact absurd rfl hc_18
        · refine g_iconst (pc := 21) (v := 0) X dX9_both_21 (by decide) ?_
          refine g_goto (pc := 22) (tgt := 32) X dX9_both_22 (by decide) ?_
          refine g_iadd (pc := 32) X dX9_both_32 ?_
          exact gm_iret (pc := 33) X hr hk dX9_both_33 (⟨rfl, rfl⟩)
    | some b =>
      refine g_iload_n (pc := 0) X dX9_both_0 rfl rfl ?_
      refine g_iconst (pc := 1) (v := (-1)) X dX9_both_1 (by decide) ?_
      refine g_icmp_ne (pc := 2) (tgt := 9) X dX9_both_2 (by decide) (fun hc_2 => ?_) (fun hc_2 => ?_)
      · exact absurd rfl hc_2
      · refine g_iconst (pc := 5) (v := 0) X dX9_both_5 (by decide) ?_
        refine g_goto (pc := 6) (tgt := 16) X dX9_both_6 (by decide) ?_
        refine g_iload_n (pc := 16) X dX9_both_16 rfl rfl ?_
        refine g_iconst (pc := 17) (v := (-1)) X dX9_both_17 (by decide) ?_
        refine g_icmp_ne (pc := 18) (tgt := 25) X dX9_both_18 (by decide) (fun hc_18 => ?_) (fun hc_18 => ?_)
        · refine g_aload_n (pc := 25) X dX9_both_25 rfl rfl ?_
          refine g_iload_n (pc := 26) X dX9_both_26 rfl rfl ?_
          refine g_iconst (pc := 27) (v := 1) X dX9_both_27 (by decide) ?_
          refine g_iload_n (pc := 28) X dX9_both_28 rfl rfl ?_
          refine gm_Vi (pc := 29) X 9 xc_X9_110 (m_quarrelsOf l G O _ b 1 p0 (hv b rfl) (by decide) hp) dX9_both_29 rfl (by decide) rfl rfl rfl rfl (Nat.le_of_ble_eq_true rfl) (fun v_29 t_29 hp => ?_)
          obtain ⟨rfl, hq9⟩ := hp
          have hq9 := hq9.symm
          subst hq9
          refine g_iadd (pc := 32) X dX9_both_32 ?_
          exact gm_iret (pc := 33) X hr hk dX9_both_33 (⟨rfl, rfl⟩)
        · exact absurd hc_18 (nI_nm1 b (hv b rfl))
  | some a =>
    cases v with
    | none =>
      refine g_iload_n (pc := 0) X dX9_both_0 rfl rfl ?_
      refine g_iconst (pc := 1) (v := (-1)) X dX9_both_1 (by decide) ?_
      refine g_icmp_ne (pc := 2) (tgt := 9) X dX9_both_2 (by decide) (fun hc_2 => ?_) (fun hc_2 => ?_)
      · refine g_aload_n (pc := 9) X dX9_both_9 rfl rfl ?_
        refine g_iload_n (pc := 10) X dX9_both_10 rfl rfl ?_
        refine g_iconst (pc := 11) (v := 0) X dX9_both_11 (by decide) ?_
        refine g_iload_n (pc := 12) X dX9_both_12 rfl rfl ?_
        refine gm_Vi (pc := 13) X 9 xc_X9_110 (m_quarrelsOf l G O _ a 0 p0 (hu a rfl) (by decide) hp) dX9_both_13 rfl (by decide) rfl rfl rfl rfl (Nat.le_of_ble_eq_true rfl) (fun v_13 t_13 hp => ?_)
        obtain ⟨rfl, hq9⟩ := hp
        have hq9 := hq9.symm
        subst hq9
        refine g_iload_n (pc := 16) X dX9_both_16 rfl rfl ?_
        refine g_iconst (pc := 17) (v := (-1)) X dX9_both_17 (by decide) ?_
        refine g_icmp_ne (pc := 18) (tgt := 25) X dX9_both_18 (by decide) (fun hc_18 => ?_) (fun hc_18 => ?_)
        · exact absurd rfl hc_18
        · refine g_iconst (pc := 21) (v := 0) X dX9_both_21 (by decide) ?_
          refine g_goto (pc := 22) (tgt := 32) X dX9_both_22 (by decide) ?_
          refine g_iadd (pc := 32) X dX9_both_32 ?_
          exact gm_iret (pc := 33) X hr hk dX9_both_33 (⟨rfl, rfl⟩)
      · exact absurd hc_2 (nI_nm1 a (hu a rfl))
    | some b =>
      refine g_iload_n (pc := 0) X dX9_both_0 rfl rfl ?_
      refine g_iconst (pc := 1) (v := (-1)) X dX9_both_1 (by decide) ?_
      refine g_icmp_ne (pc := 2) (tgt := 9) X dX9_both_2 (by decide) (fun hc_2 => ?_) (fun hc_2 => ?_)
      · refine g_aload_n (pc := 9) X dX9_both_9 rfl rfl ?_
        refine g_iload_n (pc := 10) X dX9_both_10 rfl rfl ?_
        refine g_iconst (pc := 11) (v := 0) X dX9_both_11 (by decide) ?_
        refine g_iload_n (pc := 12) X dX9_both_12 rfl rfl ?_
        refine gm_Vi (pc := 13) X 9 xc_X9_110 (m_quarrelsOf l G O _ a 0 p0 (hu a rfl) (by decide) hp) dX9_both_13 rfl (by decide) rfl rfl rfl rfl (Nat.le_of_ble_eq_true rfl) (fun v_13 t_13 hp => ?_)
        obtain ⟨rfl, hq9⟩ := hp
        have hq9 := hq9.symm
        subst hq9
        refine g_iload_n (pc := 16) X dX9_both_16 rfl rfl ?_
        refine g_iconst (pc := 17) (v := (-1)) X dX9_both_17 (by decide) ?_
        refine g_icmp_ne (pc := 18) (tgt := 25) X dX9_both_18 (by decide) (fun hc_18 => ?_) (fun hc_18 => ?_)
        · refine g_aload_n (pc := 25) X dX9_both_25 rfl rfl ?_
          refine g_iload_n (pc := 26) X dX9_both_26 rfl rfl ?_
          refine g_iconst (pc := 27) (v := 1) X dX9_both_27 (by decide) ?_
          refine g_iload_n (pc := 28) X dX9_both_28 rfl rfl ?_
          refine gm_Vi (pc := 29) X 9 xc_X9_110 (m_quarrelsOf l G O _ b 1 p0 (hv b rfl) (by decide) hp) dX9_both_29 rfl (by decide) rfl rfl rfl rfl (Nat.le_of_ble_eq_true rfl) (fun v_29 t_29 hp => ?_)
          obtain ⟨rfl, hq9⟩ := hp
          have hq9 := hq9.symm
          subst hq9
          refine g_iadd (pc := 32) X dX9_both_32 ?_
          exact gm_iret (pc := 33) X hr hk dX9_both_33 (⟨rfl, rfl⟩)
        · exact absurd hc_18 (nI_nm1 b (hv b rfl))
      · exact absurd hc_2 (nI_nm1 a (hu a rfl))

def getM (t : xT) : B4 := (t 76 15, t 76 16, t 76 14, t 76 13)
def setM (t : xT) (b : B4) : xT := xt (xt (xt (xt t 76 13 b.2.2.2) 76 14 b.2.2.1) 76 15 b.1) 76 16 b.2.1
theorem setM_ne (t : xT) (b : B4) {x : Nat} (y : Nat) (h : x ≠ 76) : setM t b x y = t x y := by simp [setM, xt, h]
theorem setM_ne1 (t : xT) (b : B4) {x : Nat} (h : x ≠ 76) : setM t b x = t x := funext fun y => setM_ne t b y h
theorem setM_nf (t : xT) (b : B4) {y : Nat} (h : y < 13 ∨ 16 < y) : setM t b 76 y = t 76 y := by
  simp [setM, xt, show y ≠ 13 by omega, show y ≠ 14 by omega, show y ≠ 15 by omega, show y ≠ 16 by omega]
theorem setM_eta (t : xT) (b : B4) (f : xT) (h : ∀ x y, (x ≠ 76 ∨ y < 13 ∨ 16 < y) → f x y = t x y) (h2 : f 76 13 = b.2.2.2 ∧ f 76 14 = b.2.2.1 ∧ f 76 15 = b.1 ∧ f 76 16 = b.2.1) : f = setM t b := by
  funext x y
  by_cases hx : x = 76
  · subst hx
    by_cases hy : y < 13 ∨ 16 < y
    · rw [h 76 y (Or.inr hy), setM_nf t b hy]
    · rcases (show y = 13 ∨ y = 14 ∨ y = 15 ∨ y = 16 by omega) with rfl | rfl | rfl | rfl
      · rw [h2.1]; simp [setM, xt]
      · rw [h2.2.1]; simp [setM, xt]
      · rw [h2.2.2.1]; simp [setM, xt]
      · rw [h2.2.2.2]; simp [setM, xt]
  · rw [h x y (Or.inl hx), setM_ne t b y hx]
theorem setM_get (t : xT) : setM t (getM t) = t := (setM_eta t (getM t) t (fun _ _ _ => rfl) ⟨rfl, rfl, rfl, rfl⟩).symm
theorem setM_v (t : xT) (b : B4) : setM t b 76 13 = b.2.2.2 ∧ setM t b 76 14 = b.2.2.1 ∧ setM t b 76 15 = b.1 ∧ setM t b 76 16 = b.2.1 := by simp [setM, xt]
theorem setM_set (t : xT) (b c : B4) : setM (setM t b) c = setM t c := by
  refine setM_eta t c _ (fun x y h => ?_) (setM_v _ c)
  rcases h with h | h
  · rw [setM_ne _ _ _ h, setM_ne _ _ _ h]
  · by_cases hx : x = 76
    · subst hx; rw [setM_nf _ _ h, setM_nf _ _ h]
    · rw [setM_ne _ _ _ hx, setM_ne _ _ _ hx]
theorem getM_set (t : xT) (b : B4) : getM (setM t b) = b := by
  obtain ⟨h1, h2, h3, h4⟩ := setM_v t b
  unfold getM
  rw [h1, h2, h3, h4]
theorem setM_4 (t : xT) (b : B4) (q p u v : Int32) : xt (xt (xt (xt (setM t b) 76 13 q) 76 14 p) 76 15 u) 76 16 v = setM t (u, v, p, q) := setM_set t b (u, v, p, q)
abbrev fM (t : xT) : Option Nat → Option Nat → Nat → Int32 := fQ (lsM t) (t 78)
theorem fM_set (t : xT) (b : B4) : fM (setM t b) = fM t := by
  have e1 : lsM (setM t b) = lsM t := by funext k s; exact setM_ne t b _ (by decide)
  show fQ (lsM (setM t b)) (setM t b 78) = _
  rw [e1, setM_ne1 t b (by decide)]
set_option maxRecDepth 100000 in
set_option maxHeartbeats 4000000 in
theorem m_tries (l : Launch) (G : xg_G) (O : Heap) (t : xT) (nl : Nat) (u v : Option Nat) (hnl : nl ≤ 160) (h4 : t 76 4 = nI nl) (hu : ∀ k, u = some k → k < 8) (hv : ∀ k, v = some k → k < 8) : xm l yX9_tries cX9_tries 5 none rmX9_tries G O t [.ref (O.size + 76), .int (ov u), .int (ov v)] (xv (fun t' => t' = setM t (trg (t 79) (fM t) (nl - 31) u v (getM t)))) := by
  refine xm_enter (by decide) 2 rfl rfl ?_
  intro p e s m args below meth c X hr hk
  refine g_eq (L2 := [some (.ref (O.size + 76)), some (.int (ov u)), some (.int (ov v)), none, none]) rfl rfl rfl ?_
  have loop : ∀ (z9 : Nat) (y : Nat) (xy : Int32) (t1 : xT), nl - 31 - y < z9 → xy = nI y → t1 = setM t (tw (ov u) (ov v) (fM t u v) y (getM t)) → y ≤ nl - 31 → (mayb (t 79) u 0 && mayb (t 79) v 1) = true → gm p l e rmX9_tries s m args below meth c 5 G O (xmQ below G O (xv (fun t' => t' = setM t (trg (t 79) (fM t) (nl - 31) u v (getM t)))) args s) (t1) [some (.ref (O.size + 76)), some (.int (ov u)), some (.int (ov v)), some (.int (xy)), none] 31 [] := by
    intro z9
    induction z9 with
    | zero => intro y xy t1 h9; exact absurd h9 (Nat.not_lt_zero _)
    | succ z9 ih =>
      intro y xy t1 h9 hxy ht1 hy hok
      subst hxy
      subst ht1
      refine g_iload_n (pc := 31) X dX9_tries_31 rfl rfl ?_
      refine g_aload_n (pc := 32) X dX9_tries_32 rfl rfl ?_
      refine gm_Vi (pc := 33) X 9 xc_X9_106 (m_places l G O _ nl (by rw [setM_nf _ _ (by decide)]; exact h4)) dX9_tries_33 rfl (by decide) rfl rfl rfl rfl (Nat.le_of_ble_eq_true rfl) (fun v_33 t_33 hp => ?_)
      obtain ⟨rfl, hq9⟩ := hp
      have hq9 := hq9.symm
      subst hq9
      refine g_icmp_ge (pc := 36) (tgt := 95) X dX9_tries_36 (by decide) (fun hc_36 => ?_) (fun hc_36 => ?_)
      · exact gm_vret (pc := 95) X hr hk dX9_tries_95 (by rw [show trg (t 79) (fM t) (nl - 31) u v (getM t) = tw (ov u) (ov v) (fM t u v) (nl - 31) (getM t) from if_pos hok, show y = nl - 31 by have := (plM_le hnl (by omega)).mp hc_36; omega])
      · have hyl : y < nl - 31 := by rcases Nat.lt_or_ge y (nl - 31) with q | q; exact q; exact absurd ((plM_le hnl (by omega)).mpr q) hc_36
        refine g_aload_n (pc := 39) X dX9_tries_39 rfl rfl ?_
        refine g_iload_n (pc := 40) X dX9_tries_40 rfl rfl ?_
        refine g_iload_n (pc := 41) X dX9_tries_41 rfl rfl ?_
        refine g_iload_n (pc := 42) X dX9_tries_42 rfl rfl ?_
        refine gm_Vi (pc := 43) X 9 xc_X9_117 (m_both l G O _ y u v hu hv (by omega)) dX9_tries_43 rfl (by decide) rfl rfl rfl rfl (Nat.le_of_ble_eq_true rfl) (fun v_43 t_43 hp => ?_)
        obtain ⟨hv43, hq9⟩ := hp
        have hq9 := hq9.symm
        subst hq9
        have hv43 : v_43 = fM (setM t (tw (ov u) (ov v) (fM t u v) y (getM t))) u v y := hv43
        rw [fM_set] at hv43
        subst hv43
        refine g_istore (pc := 46) X dX9_tries_46 (by decide) ?_
        refine g_aload_n (pc := 48) X dX9_tries_48 rfl rfl ?_
        refine gm_getI (pc := 49) (j := 13) X 9 dX9_tries_49 rfl (by decide) rfl xu_9 (by decide) rfl xw_604 rfl ?_
        refine g_iconst (pc := 52) (v := (-1)) X dX9_tries_52 (by decide) ?_
        refine g_icmp_eq (pc := 53) (tgt := 68) X dX9_tries_53 (by decide) (fun hc_53 => ?_) (fun hc_53 => ?_)
        · refine g_aload_n (pc := 68) X dX9_tries_68 rfl rfl ?_
          refine g_iload (pc := 69) X dX9_tries_69 rfl ?_
          refine gm_putI (pc := 71) (j := 13) X 9 tyX9 dX9_tries_71 rfl (by decide) rfl xu_9 tyX9_ok nmX9 (by decide) rfl xw_604 rfl rfl (Or.inl rfl) ?_
          refine g_aload_n (pc := 74) X dX9_tries_74 rfl rfl ?_
          refine g_iload_n (pc := 75) X dX9_tries_75 rfl rfl ?_
          refine gm_putI (pc := 76) (j := 14) X 9 tyX9 dX9_tries_76 rfl (by decide) rfl xu_9 tyX9_ok nmX9 (by decide) rfl xw_605 rfl rfl (Or.inl rfl) ?_
          refine g_aload_n (pc := 79) X dX9_tries_79 rfl rfl ?_
          refine g_iload_n (pc := 80) X dX9_tries_80 rfl rfl ?_
          refine gm_putI (pc := 81) (j := 15) X 9 tyX9 dX9_tries_81 rfl (by decide) rfl xu_9 tyX9_ok nmX9 (by decide) rfl xw_606 rfl rfl (Or.inl rfl) ?_
          refine g_aload_n (pc := 84) X dX9_tries_84 rfl rfl ?_
          refine g_iload_n (pc := 85) X dX9_tries_85 rfl rfl ?_
          refine gm_putI (pc := 86) (j := 16) X 9 tyX9 dX9_tries_86 rfl (by decide) rfl xu_9 tyX9_ok nmX9 (by decide) rfl xw_607 rfl rfl (Or.inl rfl) ?_
          refine g_inc (pc := 89) (kv := 1) X dX9_tries_89 (by decide) rfl (by decide) ?_
          refine g_goto (pc := 92) (tgt := 31) X dX9_tries_92 (by decide) ?_
          refine g_wk 4 ?_
          exact ih (y + 1) _ _ (by omega) (nI_1 y) (by rw [(setM_v _ _).1] at hc_53; rw [setM_4, ← tw_t (Or.inl hc_53)]) (by omega) hok
        · refine g_iload (pc := 56) X dX9_tries_56 rfl ?_
          refine g_aload_n (pc := 58) X dX9_tries_58 rfl rfl ?_
          refine gm_getI (pc := 59) (j := 13) X 9 dX9_tries_59 rfl (by decide) rfl xu_9 (by decide) rfl xw_604 rfl ?_
          refine g_icmp_lt (pc := 62) (tgt := 68) X dX9_tries_62 (by decide) (fun hc_62 => ?_) (fun hc_62 => ?_)
          · refine g_aload_n (pc := 68) X dX9_tries_68 rfl rfl ?_
            refine g_iload (pc := 69) X dX9_tries_69 rfl ?_
            refine gm_putI (pc := 71) (j := 13) X 9 tyX9 dX9_tries_71 rfl (by decide) rfl xu_9 tyX9_ok nmX9 (by decide) rfl xw_604 rfl rfl (Or.inl rfl) ?_
            refine g_aload_n (pc := 74) X dX9_tries_74 rfl rfl ?_
            refine g_iload_n (pc := 75) X dX9_tries_75 rfl rfl ?_
            refine gm_putI (pc := 76) (j := 14) X 9 tyX9 dX9_tries_76 rfl (by decide) rfl xu_9 tyX9_ok nmX9 (by decide) rfl xw_605 rfl rfl (Or.inl rfl) ?_
            refine g_aload_n (pc := 79) X dX9_tries_79 rfl rfl ?_
            refine g_iload_n (pc := 80) X dX9_tries_80 rfl rfl ?_
            refine gm_putI (pc := 81) (j := 15) X 9 tyX9 dX9_tries_81 rfl (by decide) rfl xu_9 tyX9_ok nmX9 (by decide) rfl xw_606 rfl rfl (Or.inl rfl) ?_
            refine g_aload_n (pc := 84) X dX9_tries_84 rfl rfl ?_
            refine g_iload_n (pc := 85) X dX9_tries_85 rfl rfl ?_
            refine gm_putI (pc := 86) (j := 16) X 9 tyX9 dX9_tries_86 rfl (by decide) rfl xu_9 tyX9_ok nmX9 (by decide) rfl xw_607 rfl rfl (Or.inl rfl) ?_
            refine g_inc (pc := 89) (kv := 1) X dX9_tries_89 (by decide) rfl (by decide) ?_
            refine g_goto (pc := 92) (tgt := 31) X dX9_tries_92 (by decide) ?_
            refine g_wk 4 ?_
            exact ih (y + 1) _ _ (by omega) (nI_1 y) (by rw [(setM_v _ _).1] at hc_62; rw [setM_4, ← tw_t (Or.inr hc_62)]) (by omega) hok
          · refine g_goto (pc := 65) (tgt := 89) X dX9_tries_65 (by decide) ?_
            refine g_inc (pc := 89) (kv := 1) X dX9_tries_89 (by decide) rfl (by decide) ?_
            refine g_goto (pc := 92) (tgt := 31) X dX9_tries_92 (by decide) ?_
            refine g_wk 4 ?_
            exact ih (y + 1) _ _ (by omega) (nI_1 y) (by rw [(setM_v _ _).1] at hc_53 hc_62; rw [← tw_f (by rintro (q | q); exact hc_53 q; exact hc_62 q)]) (by omega) hok
  have out : ¬ (mayb (t 79) u 0 && mayb (t 79) v 1) = true → t = setM t (trg (t 79) (fM t) (nl - 31) u v (getM t)) := by
    intro q
    rw [show trg (t 79) (fM t) (nl - 31) u v (getM t) = getM t from if_neg q, setM_get]
  cases u with
  | none =>
    cases v with
    | none =>
      refine g_iload_n (pc := 0) X dX9_tries_0 rfl rfl ?_
      refine g_iconst (pc := 1) (v := (-1)) X dX9_tries_1 (by decide) ?_
      refine g_icmp_eq (pc := 2) (tgt := 14) X dX9_tries_2 (by decide) (fun hc_2 => ?_) (fun hc_2 => ?_)
      · refine g_iload_n (pc := 14) X dX9_tries_14 rfl rfl ?_
        refine g_iconst (pc := 15) (v := (-1)) X dX9_tries_15 (by decide) ?_
        refine g_icmp_eq (pc := 16) (tgt := 29) X dX9_tries_16 (by decide) (fun hc_16 => ?_) (fun hc_16 => ?_)
        · refine g_iconst (pc := 29) (v := 0) X dX9_tries_29 (by decide) ?_
          refine g_istore_n (pc := 30) X dX9_tries_30 rfl (by decide) ?_
          have hok : (mayb (t 79) none 0 && mayb (t 79) none 1) = true := by rw [Bool.and_eq_true]; exact ⟨rfl, rfl⟩
          exact loop (nl - 31 + 1) 0 _ _ (by omega) nI_0.symm (setM_get t).symm (Nat.zero_le _) hok
        · exact absurd rfl hc_16
      · exact absurd rfl hc_2
    | some b =>
      refine g_iload_n (pc := 0) X dX9_tries_0 rfl rfl ?_
      refine g_iconst (pc := 1) (v := (-1)) X dX9_tries_1 (by decide) ?_
      refine g_icmp_eq (pc := 2) (tgt := 14) X dX9_tries_2 (by decide) (fun hc_2 => ?_) (fun hc_2 => ?_)
      · refine g_iload_n (pc := 14) X dX9_tries_14 rfl rfl ?_
        refine g_iconst (pc := 15) (v := (-1)) X dX9_tries_15 (by decide) ?_
        refine g_icmp_eq (pc := 16) (tgt := 29) X dX9_tries_16 (by decide) (fun hc_16 => ?_) (fun hc_16 => ?_)
        · exact absurd hc_16 (nI_nm1 b (hv b rfl))
        · refine g_aload_n (pc := 19) X dX9_tries_19 rfl rfl ?_
          refine g_iload_n (pc := 20) X dX9_tries_20 rfl rfl ?_
          refine g_iconst (pc := 21) (v := 1) X dX9_tries_21 (by decide) ?_
          refine gm_Vi (pc := 22) X 9 xc_X9_113 (m_canBe l G O _ b 1 (hv b rfl)) dX9_tries_22 rfl (by decide) rfl rfl rfl rfl (Nat.le_of_ble_eq_true rfl) (fun v_22 t_22 hp => ?_)
          obtain ⟨rfl, hq9⟩ := hp
          have hq9 := hq9.symm
          subst hq9
          refine g_if_ne (pc := 25) (tgt := 29) X dX9_tries_25 (by decide) (fun hc_25 => ?_) (fun hc_25 => ?_)
          · refine g_iconst (pc := 29) (v := 0) X dX9_tries_29 (by decide) ?_
            refine g_istore_n (pc := 30) X dX9_tries_30 rfl (by decide) ?_
            have hok : (mayb (t 79) none 0 && mayb (t 79) (some b) 1) = true := by rw [Bool.and_eq_true]; exact ⟨rfl, bi_1 hc_25⟩
            exact loop (nl - 31 + 1) 0 _ _ (by omega) nI_0.symm (setM_get t).symm (Nat.zero_le _) hok
          · exact gm_vret (pc := 28) X hr hk dX9_tries_28 (by exact out (fun q => by rw [Bool.and_eq_true] at q; exact bi_0 hc_25 q.2))
      · exact absurd rfl hc_2
  | some a =>
    cases v with
    | none =>
      refine g_iload_n (pc := 0) X dX9_tries_0 rfl rfl ?_
      refine g_iconst (pc := 1) (v := (-1)) X dX9_tries_1 (by decide) ?_
      refine g_icmp_eq (pc := 2) (tgt := 14) X dX9_tries_2 (by decide) (fun hc_2 => ?_) (fun hc_2 => ?_)
      · exact absurd hc_2 (nI_nm1 a (hu a rfl))
      · refine g_aload_n (pc := 5) X dX9_tries_5 rfl rfl ?_
        refine g_iload_n (pc := 6) X dX9_tries_6 rfl rfl ?_
        refine g_iconst (pc := 7) (v := 0) X dX9_tries_7 (by decide) ?_
        refine gm_Vi (pc := 8) X 9 xc_X9_113 (m_canBe l G O _ a 0 (hu a rfl)) dX9_tries_8 rfl (by decide) rfl rfl rfl rfl (Nat.le_of_ble_eq_true rfl) (fun v_8 t_8 hp => ?_)
        obtain ⟨rfl, hq9⟩ := hp
        have hq9 := hq9.symm
        subst hq9
        refine g_if_eq (pc := 11) (tgt := 28) X dX9_tries_11 (by decide) (fun hc_11 => ?_) (fun hc_11 => ?_)
        · exact gm_vret (pc := 28) X hr hk dX9_tries_28 (by exact out (fun q => by rw [Bool.and_eq_true] at q; exact bi_0 hc_11 q.1))
        · refine g_iload_n (pc := 14) X dX9_tries_14 rfl rfl ?_
          refine g_iconst (pc := 15) (v := (-1)) X dX9_tries_15 (by decide) ?_
          refine g_icmp_eq (pc := 16) (tgt := 29) X dX9_tries_16 (by decide) (fun hc_16 => ?_) (fun hc_16 => ?_)
          · refine g_iconst (pc := 29) (v := 0) X dX9_tries_29 (by decide) ?_
            refine g_istore_n (pc := 30) X dX9_tries_30 rfl (by decide) ?_
            have hok : (mayb (t 79) (some a) 0 && mayb (t 79) none 1) = true := by rw [Bool.and_eq_true]; exact ⟨bi_1 hc_11, rfl⟩
            exact loop (nl - 31 + 1) 0 _ _ (by omega) nI_0.symm (setM_get t).symm (Nat.zero_le _) hok
          · exact absurd rfl hc_16
    | some b =>
      refine g_iload_n (pc := 0) X dX9_tries_0 rfl rfl ?_
      refine g_iconst (pc := 1) (v := (-1)) X dX9_tries_1 (by decide) ?_
      refine g_icmp_eq (pc := 2) (tgt := 14) X dX9_tries_2 (by decide) (fun hc_2 => ?_) (fun hc_2 => ?_)
      · exact absurd hc_2 (nI_nm1 a (hu a rfl))
      · refine g_aload_n (pc := 5) X dX9_tries_5 rfl rfl ?_
        refine g_iload_n (pc := 6) X dX9_tries_6 rfl rfl ?_
        refine g_iconst (pc := 7) (v := 0) X dX9_tries_7 (by decide) ?_
        refine gm_Vi (pc := 8) X 9 xc_X9_113 (m_canBe l G O _ a 0 (hu a rfl)) dX9_tries_8 rfl (by decide) rfl rfl rfl rfl (Nat.le_of_ble_eq_true rfl) (fun v_8 t_8 hp => ?_)
        obtain ⟨rfl, hq9⟩ := hp
        have hq9 := hq9.symm
        subst hq9
        refine g_if_eq (pc := 11) (tgt := 28) X dX9_tries_11 (by decide) (fun hc_11 => ?_) (fun hc_11 => ?_)
        · exact gm_vret (pc := 28) X hr hk dX9_tries_28 (by exact out (fun q => by rw [Bool.and_eq_true] at q; exact bi_0 hc_11 q.1))
        · refine g_iload_n (pc := 14) X dX9_tries_14 rfl rfl ?_
          refine g_iconst (pc := 15) (v := (-1)) X dX9_tries_15 (by decide) ?_
          refine g_icmp_eq (pc := 16) (tgt := 29) X dX9_tries_16 (by decide) (fun hc_16 => ?_) (fun hc_16 => ?_)
          · exact absurd hc_16 (nI_nm1 b (hv b rfl))
          · refine g_aload_n (pc := 19) X dX9_tries_19 rfl rfl ?_
            refine g_iload_n (pc := 20) X dX9_tries_20 rfl rfl ?_
            refine g_iconst (pc := 21) (v := 1) X dX9_tries_21 (by decide) ?_
            refine gm_Vi (pc := 22) X 9 xc_X9_113 (m_canBe l G O _ b 1 (hv b rfl)) dX9_tries_22 rfl (by decide) rfl rfl rfl rfl (Nat.le_of_ble_eq_true rfl) (fun v_22 t_22 hp => ?_)
            obtain ⟨rfl, hq9⟩ := hp
            have hq9 := hq9.symm
            subst hq9
            refine g_if_ne (pc := 25) (tgt := 29) X dX9_tries_25 (by decide) (fun hc_25 => ?_) (fun hc_25 => ?_)
            · refine g_iconst (pc := 29) (v := 0) X dX9_tries_29 (by decide) ?_
              refine g_istore_n (pc := 30) X dX9_tries_30 rfl (by decide) ?_
              have hok : (mayb (t 79) (some a) 0 && mayb (t 79) (some b) 1) = true := by rw [Bool.and_eq_true]; exact ⟨bi_1 hc_11, bi_1 hc_25⟩
              exact loop (nl - 31 + 1) 0 _ _ (by omega) nI_0.symm (setM_get t).symm (Nat.zero_le _) hok
            · exact gm_vret (pc := 28) X hr hk dX9_tries_28 (by exact out (fun q => by rw [Bool.and_eq_true] at q; exact bi_0 hc_25 q.2))

abbrev bsM (t : xT) (pl a b : Nat) : B4 := bsg (t 79) (t 80) (t 81) (fM t) pl (min a b) (max a b) (t 76 15, t 76 16, t 76 14, -1)
set_option maxRecDepth 100000 in
set_option maxHeartbeats 4000000 in
theorem m_bests (l : Launch) (G : xg_G) (O : Heap) (t : xT) (nl a b : Nat) (hnl : nl ≤ 160) (h4 : t 76 4 = nI nl) (ha : a < 8) (hb1 : b < 8) : xm l yX9_bests cX9_bests 5 (some .boolean) rmX9_bests G O t [.ref (O.size + 76), .int (nI a), .int (nI b)] (xi (fun v t' => v = bi (¬ (bsM t (nl - 31) a b).2.2.2 = -1) ∧ t' = setM t (bsM t (nl - 31) a b))) := by
  refine xm_enter (by decide) 2 rfl rfl ?_
  intro p e s m args below meth c X hr hk
  refine g_eq (L2 := [some (.ref (O.size + 76)), some (.int (nI a)), some (.int (nI b)), none, none]) rfl rfl rfl ?_
  have hx8 : min a b < 8 := by omega
  have hy8 : max a b < 8 := by omega
  unfold bsM
  generalize hxe : min a b = x at *
  generalize hye : max a b = y at *
  have hsx : ∀ k, some x = some k → k < 8 := fun k h => by cases h; exact hx8
  have hsy : ∀ k, some y = some k → k < 8 := fun k h => by cases h; exact hy8
  have hnn : ∀ k, (none : Option Nat) = some k → k < 8 := fun k h => by cases h
  have e4 : ∀ b : B4, setM t b 76 4 = nI nl := fun b => by rw [setM_nf _ _ (by decide)]; exact h4
  have fin : ∀ B : B4, bsg (t 79) (t 80) (t 81) (fM t) (nl - 31) x y (t 76 15, t 76 16, t 76 14, -1) = B → gm p l e rmX9_bests s m args below meth c 5 G O (xmQ below G O (xi (fun v t' => v = bi (¬ (bsg (t 79) (t 80) (t 81) (fM t) (nl - 31) x y (t 76 15, t 76 16, t 76 14, -1)).2.2.2 = -1) ∧ t' = setM t (bsg (t 79) (t 80) (t 81) (fM t) (nl - 31) x y (t 76 15, t 76 16, t 76 14, -1)))) args s) (setM t B) [some (.ref (O.size + 76)), some (.int (nI a)), some (.int (nI b)), some (.int (nI x)), some (.int (nI y))] 85 [] := by
    intro B hB
    refine g_aload_n (pc := 85) X dX9_bests_85 rfl rfl ?_
    refine gm_getI (pc := 86) (j := 13) X 9 dX9_bests_86 rfl (by decide) rfl xu_9 (by decide) rfl xw_604 rfl ?_
    refine g_iconst (pc := 89) (v := (-1)) X dX9_bests_89 (by decide) ?_
    refine g_icmp_eq (pc := 90) (tgt := 97) X dX9_bests_90 (by decide) (fun hc_90 => ?_) (fun hc_90 => ?_)
    · refine g_iconst (pc := 97) (v := 0) X dX9_bests_97 (by decide) ?_
      exact gm_zret (pc := 98) X hr hk dX9_bests_98 (by first | exact Or.inl rfl | exact Or.inr rfl) (⟨by rw [hB, bi_f]; rw [(setM_v _ _).1] at hc_90; exact fun q => q hc_90, by rw [hB]⟩)
    · refine g_iconst (pc := 93) (v := 1) X dX9_bests_93 (by decide) ?_
      refine g_goto (pc := 94) (tgt := 98) X dX9_bests_94 (by decide) ?_
      exact gm_zret (pc := 98) X hr hk dX9_bests_98 (by first | exact Or.inl rfl | exact Or.inr rfl) (⟨by rw [hB, bi_t]; rw [(setM_v _ _).1] at hc_90; exact hc_90, by rw [hB]⟩)
  refine g_iload_n (pc := 0) X dX9_bests_0 rfl rfl ?_
  refine g_iload_n (pc := 1) X dX9_bests_1 rfl rfl ?_
  refine g_min (pc := 2) X dX9_bests_2 xw_746 xw_424 xw_44 xw_425 (by decide) (Nat.le_of_ble_eq_true rfl) (Nat.zero_le _) (Nat.zero_le _) ?_
  rw [min_nI (by omega) (by omega), hxe]
  refine g_istore_n (pc := 5) X dX9_bests_5 rfl (by decide) ?_
  refine g_iload_n (pc := 6) X dX9_bests_6 rfl rfl ?_
  refine g_iload_n (pc := 7) X dX9_bests_7 rfl rfl ?_
  refine g_max (pc := 8) X dX9_bests_8 xw_747 xw_374 xw_44 xw_375 (by decide) (Nat.le_of_ble_eq_true rfl) (Nat.zero_le _) (Nat.zero_le _) ?_
  rw [max_nI (by omega) (by omega), hye]
  refine g_istore (pc := 11) X dX9_bests_11 (by decide) ?_
  refine g_aload_n (pc := 13) X dX9_bests_13 rfl rfl ?_
  refine g_iconst (pc := 14) (v := (-1)) X dX9_bests_14 (by decide) ?_
  refine gm_putI (pc := 15) (j := 13) X 9 tyX9 dX9_bests_15 rfl (by decide) rfl xu_9 tyX9_ok nmX9 (by decide) rfl xw_604 rfl rfl (Or.inl rfl) ?_
  refine gm_st (t2 := setM t (t 76 15, t 76 16, t 76 14, -1)) (setM_eta t (t 76 15, t 76 16, t 76 14, -1) _ (fun x y h => by rcases h with h | h; exact xt_nk _ _ _ _ h; exact xt_ne _ _ (Or.inr (by omega))) ⟨xt_same _ _ _ _, xt_ne _ _ (Or.inr (by decide)), xt_ne _ _ (Or.inr (by decide)), xt_ne _ _ (Or.inr (by decide))⟩) rfl ?_
  refine g_iload_n (pc := 18) X dX9_bests_18 rfl rfl ?_
  refine g_iload (pc := 19) X dX9_bests_19 rfl ?_
  refine g_icmp_ne (pc := 21) (tgt := 39) X dX9_bests_21 (by decide) (fun hc_21 => ?_) (fun hc_21 => ?_)
  · refine g_aload_n (pc := 39) X dX9_bests_39 rfl rfl ?_
    refine gm_getR (k' := 81) (pc := 40) (j := 10) X 9 dX9_bests_40 rfl (by decide) rfl xu_9 (by decide) rfl xw_601 rfl rfl ?_
    refine g_iload_n (pc := 43) X dX9_bests_43 rfl rfl ?_
    refine gm_iald (pc := 44) X (x) dX9_bests_44 rfl rfl (show x < 8 from by omega) (by decide) ?_
    refine g_aload_n (pc := 45) X dX9_bests_45 rfl rfl ?_
    refine gm_getR (k' := 81) (pc := 46) (j := 10) X 9 dX9_bests_46 rfl (by decide) rfl xu_9 (by decide) rfl xw_601 rfl rfl ?_
    refine g_iload (pc := 49) X dX9_bests_49 rfl ?_
    refine gm_iald (pc := 51) X (y) dX9_bests_51 rfl rfl (show y < 8 from by omega) (by decide) ?_
    refine g_icmp_ne (pc := 52) (tgt := 85) X dX9_bests_52 (by decide) (fun hc_52 => ?_) (fun hc_52 => ?_)
    · exact fin _ (by unfold bsg; rw [if_neg (fun q => hc_21 (by rw [q])), if_neg (fun q => hc_52 (by rw [setM_ne _ _ _ (by decide), setM_ne _ _ _ (by decide)]; exact q.2))])
    · refine g_aload_n (pc := 55) X dX9_bests_55 rfl rfl ?_
      refine gm_getR (k' := 80) (pc := 56) (j := 9) X 9 dX9_bests_56 rfl (by decide) rfl xu_9 (by decide) rfl xw_600 rfl rfl ?_
      refine g_iload_n (pc := 59) X dX9_bests_59 rfl rfl ?_
      refine gm_iald (pc := 60) X (x) dX9_bests_60 rfl rfl (show x < 8 from by omega) (by decide) ?_
      refine g_aload_n (pc := 61) X dX9_bests_61 rfl rfl ?_
      refine gm_getR (k' := 80) (pc := 62) (j := 9) X 9 dX9_bests_62 rfl (by decide) rfl xu_9 (by decide) rfl xw_600 rfl rfl ?_
      refine g_iload (pc := 65) X dX9_bests_65 rfl ?_
      refine gm_iald (pc := 67) X (y) dX9_bests_67 rfl rfl (show y < 8 from by omega) (by decide) ?_
      refine g_icmp_ne (pc := 68) (tgt := 85) X dX9_bests_68 (by decide) (fun hc_68 => ?_) (fun hc_68 => ?_)
      · exact fin _ (by unfold bsg; rw [if_neg (fun q => hc_21 (by rw [q])), if_neg (fun q => hc_68 (by rw [setM_ne _ _ _ (by decide), setM_ne _ _ _ (by decide)]; exact q.1))])
      · refine g_aload_n (pc := 71) X dX9_bests_71 rfl rfl ?_
        refine g_iload_n (pc := 72) X dX9_bests_72 rfl rfl ?_
        refine g_iload (pc := 73) X dX9_bests_73 rfl ?_
        refine gm_Vv (pc := 75) X 9 xc_X9_141 (m_tries l G O _ nl (some x) (some y) hnl (e4 _) hsx hsy) dX9_bests_75 rfl (by decide) rfl rfl rfl rfl (Nat.le_of_ble_eq_true rfl) (fun t_75 hp => ?_)
        refine gm_st (t2 := setM t (trg (t 79) (fM t) (nl - 31) (some x) (some y) ((t 76 15, t 76 16, t 76 14, -1)))) (by rw [hp, fM_set, setM_ne1 t _ (by decide), getM_set, setM_set]) rfl ?_
        clear hp
        refine g_aload_n (pc := 78) X dX9_bests_78 rfl rfl ?_
        refine g_iload (pc := 79) X dX9_bests_79 rfl ?_
        refine g_iload_n (pc := 81) X dX9_bests_81 rfl rfl ?_
        refine gm_Vv (pc := 82) X 9 xc_X9_141 (m_tries l G O _ nl (some y) (some x) hnl (e4 _) hsy hsx) dX9_bests_82 rfl (by decide) rfl rfl rfl rfl (Nat.le_of_ble_eq_true rfl) (fun t_82 hp => ?_)
        refine gm_st (t2 := setM t (trg (t 79) (fM t) (nl - 31) (some y) (some x) (trg (t 79) (fM t) (nl - 31) (some x) (some y) (t 76 15, t 76 16, t 76 14, -1)))) (by rw [hp, fM_set, setM_ne1 t _ (by decide), getM_set, setM_set]) rfl ?_
        clear hp
        exact fin _ (by rw [setM_ne _ _ _ (by decide), setM_ne _ _ _ (by decide)] at hc_52 hc_68; unfold bsg; rw [if_neg (fun q => hc_21 (by rw [q])), if_pos ⟨hc_68, hc_52⟩])
  · refine g_aload_n (pc := 24) X dX9_bests_24 rfl rfl ?_
    refine g_iload_n (pc := 25) X dX9_bests_25 rfl rfl ?_
    refine g_iconst (pc := 26) (v := (-1)) X dX9_bests_26 (by decide) ?_
    refine gm_Vv (pc := 27) X 9 xc_X9_141 (m_tries l G O _ nl (some x) none hnl (e4 _) hsx hnn) dX9_bests_27 rfl (by decide) rfl rfl rfl rfl (Nat.le_of_ble_eq_true rfl) (fun t_27 hp => ?_)
    refine gm_st (t2 := setM t (trg (t 79) (fM t) (nl - 31) (some x) none ((t 76 15, t 76 16, t 76 14, -1)))) (by rw [hp, fM_set, setM_ne1 t _ (by decide), getM_set, setM_set]) rfl ?_
    clear hp
    refine g_aload_n (pc := 30) X dX9_bests_30 rfl rfl ?_
    refine g_iconst (pc := 31) (v := (-1)) X dX9_bests_31 (by decide) ?_
    refine g_iload_n (pc := 32) X dX9_bests_32 rfl rfl ?_
    refine gm_Vv (pc := 33) X 9 xc_X9_141 (m_tries l G O _ nl none (some x) hnl (e4 _) hnn hsx) dX9_bests_33 rfl (by decide) rfl rfl rfl rfl (Nat.le_of_ble_eq_true rfl) (fun t_33 hp => ?_)
    refine gm_st (t2 := setM t (trg (t 79) (fM t) (nl - 31) none (some x) (trg (t 79) (fM t) (nl - 31) (some x) none (t 76 15, t 76 16, t 76 14, -1)))) (by rw [hp, fM_set, setM_ne1 t _ (by decide), getM_set, setM_set]) rfl ?_
    clear hp
    refine g_goto (pc := 36) (tgt := 85) X dX9_bests_36 (by decide) ?_
    exact fin _ (by unfold bsg; rw [if_pos ((nI_eq (by omega) (by omega)).mp hc_21)])

