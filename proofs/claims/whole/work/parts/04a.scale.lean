/-! 04a: Scale, first part -/
set_option maxRecDepth 100000 in
set_option maxHeartbeats 4000000 in
theorem c_mayLie (l : Launch) (G : xg_G) (O : Heap) (t : xT) (nh : Nat) (u : Option Nat) (q : Int32) (hnh : nh ≤ 8) (h1 : t 6 1 = nI nh) (hu : ∀ k, u = some k → k < nh) : xm l yX5_mayLie cX5_mayLie 3 (some .boolean) rmX5_mayLie G O t [.ref (O.size + 3), .int (ov u), .int q] (xi (fun v t' => v = bi (mayb (fun k => t (8 + 2 * k) 0) u q = true) ∧ t' = t)) := by
  refine xm_enter (by decide) 0 rfl rfl ?_
  intro p e s m args below meth c X hr hk
  refine g_eq (L2 := [some (.ref (O.size + 3)), some (.int (ov u)), some (.int q)]) rfl rfl rfl ?_
  cases u with
  | none =>
    refine g_aload_n (pc := 0) X dX5_mayLie_0 rfl rfl ?_
    refine gm_getR (k' := 6) (pc := 1) (j := 1) X 5 dX5_mayLie_1 rfl (by decide) rfl xu_5 (by decide) rfl xw_193 rfl rfl ?_
    refine g_iload_n (pc := 4) X dX5_mayLie_4 rfl rfl ?_
    refine gm_Vi (pc := 5) X 2 xc_X5_49 (c_has l G O t nh (ov none) hnh h1) dX5_mayLie_5 rfl (by decide) rfl rfl rfl rfl (Nat.le_of_ble_eq_true rfl) (fun v_5 t_5 hp => ?_)
    obtain ⟨rfl, hq9⟩ := hp
    have hq9 := hq9.symm
    subst hq9
    refine g_if_eq (pc := 8) (tgt := 27) X dX5_mayLie_8 (by decide) (fun hc_8 => ?_) (fun hc_8 => ?_)
    · refine g_iconst (pc := 27) (v := 1) X dX5_mayLie_27 (by decide) ?_
      refine g_goto (pc := 28) (tgt := 32) X dX5_mayLie_28 (by decide) ?_
      exact gm_zret (pc := 32) X hr hk dX5_mayLie_32 (by first | exact Or.inl rfl | exact Or.inr rfl) (⟨(bi_t rfl).symm, rfl⟩)
    · exact absurd (bi_1 hc_8).1 (by decide)
  | some k =>
    have hk8 : k < 8 := by have := hu k rfl; omega
    refine g_aload_n (pc := 0) X dX5_mayLie_0 rfl rfl ?_
    refine gm_getR (k' := 6) (pc := 1) (j := 1) X 5 dX5_mayLie_1 rfl (by decide) rfl xu_5 (by decide) rfl xw_193 rfl rfl ?_
    refine g_iload_n (pc := 4) X dX5_mayLie_4 rfl rfl ?_
    refine gm_Vi (pc := 5) X 2 xc_X5_49 (c_has l G O t nh (nI k) hnh h1) dX5_mayLie_5 rfl (by decide) rfl rfl rfl rfl (Nat.le_of_ble_eq_true rfl) (fun v_5 t_5 hp => ?_)
    obtain ⟨rfl, hq9⟩ := hp
    have hq9 := hq9.symm
    subst hq9
    refine g_if_eq (pc := 8) (tgt := 27) X dX5_mayLie_8 (by decide) (fun hc_8 => ?_) (fun hc_8 => ?_)
    · exact absurd ⟨nI_pos' (by omega), nI_lt (hu k rfl) (by omega)⟩ (bi_0 hc_8)
    · refine g_aload_n (pc := 11) X dX5_mayLie_11 rfl rfl ?_
      refine gm_getR (k' := 6) (pc := 12) (j := 1) X 5 dX5_mayLie_12 rfl (by decide) rfl xu_5 (by decide) rfl xw_193 rfl rfl ?_
      refine gm_getR (k' := 7) (pc := 15) (j := 0) X 2 dX5_mayLie_15 rfl (by decide) rfl xu_2 (by decide) rfl xw_132 rfl rfl ?_
      refine g_iload_n (pc := 18) X dX5_mayLie_18 rfl rfl ?_
      refine gm_aald (pc := 19) (k' := (8 + 2 * k)) X 12 (k) (.object "UnderText$Half") dX5_mayLie_19 rfl (by decide) (by decide) rfl rfl rfl (show k < 8 from by omega) (by decide) (kd_half k hk8).2.1 ?_
      refine g_iload_n (pc := 20) X dX5_mayLie_20 rfl rfl ?_
      refine gm_Vi (pc := 21) X 1 xc_X5_126 (c_mayLieAs l G O t k q hk8) dX5_mayLie_21 (kd_half k hk8).1 (by decide) rfl rfl rfl rfl (Nat.le_of_ble_eq_true rfl) (fun v_21 t_21 hp => ?_)
      obtain ⟨rfl, hq9⟩ := hp
      have hq9 := hq9.symm
      subst hq9
      refine g_if_eq (pc := 24) (tgt := 31) X dX5_mayLie_24 (by decide) (fun hc_24 => ?_) (fun hc_24 => ?_)
      · refine g_iconst (pc := 31) (v := 0) X dX5_mayLie_31 (by decide) ?_
        exact gm_zret (pc := 32) X hr hk dX5_mayLie_32 (by first | exact Or.inl rfl | exact Or.inr rfl) (⟨(bi_f (by simpa [mayb] using bi_0 hc_24)).symm, rfl⟩)
      · refine g_iconst (pc := 27) (v := 1) X dX5_mayLie_27 (by decide) ?_
        refine g_goto (pc := 28) (tgt := 32) X dX5_mayLie_28 (by decide) ?_
        exact gm_zret (pc := 32) X hr hk dX5_mayLie_32 (by first | exact Or.inl rfl | exact Or.inr rfl) (⟨(bi_t (by simpa [mayb] using bi_1 hc_24)).symm, rfl⟩)

set_option maxRecDepth 100000 in
set_option maxHeartbeats 4000000 in
theorem c_rowOf (l : Launch) (G : xg_G) (O : Heap) (t : xT) (nh : Nat) (u : Option Nat) (q : Nat) (hnh : nh ≤ 8) (h1 : t 6 1 = nI nh) (hu : ∀ k, u = some k → k < nh) (hq : q < 2) : xm l yX5_rowOf cX5_rowOf 3 (some (.array .int)) rmX5_rowOf G O t [.ref (O.size + 3), .int (ov u), .int (nI q)] (xa O (fun k' t' => k' = rcell u q ∧ t' = t)) := by
  refine xm_enter (by decide) 0 rfl rfl ?_
  intro p e s m args below meth c X hr hk
  refine g_eq (L2 := [some (.ref (O.size + 3)), some (.int (ov u)), some (.int (nI q))]) rfl rfl rfl ?_
  cases u with
  | none =>
    refine g_aload_n (pc := 0) X dX5_rowOf_0 rfl rfl ?_
    refine gm_getR (k' := 6) (pc := 1) (j := 1) X 5 dX5_rowOf_1 rfl (by decide) rfl xu_5 (by decide) rfl xw_193 rfl rfl ?_
    refine g_iload_n (pc := 4) X dX5_rowOf_4 rfl rfl ?_
    refine gm_Vi (pc := 5) X 2 xc_X5_49 (c_has l G O t nh (ov none) hnh h1) dX5_rowOf_5 rfl (by decide) rfl rfl rfl rfl (Nat.le_of_ble_eq_true rfl) (fun v_5 t_5 hp => ?_)
    obtain ⟨rfl, hq9⟩ := hp
    have hq9 := hq9.symm
    subst hq9
    refine g_if_eq (pc := 8) (tgt := 32) X dX5_rowOf_8 (by decide) (fun hc_8 => ?_) (fun hc_8 => ?_)
    · refine g_aload_n (pc := 32) X dX5_rowOf_32 rfl rfl ?_
      refine gm_getR (k' := 42) (pc := 33) (j := 4) X 5 dX5_rowOf_33 rfl (by decide) rfl xu_5 (by decide) rfl xw_199 rfl rfl ?_
      exact gm_aret (pc := 36) X hr hk dX5_rowOf_36 (⟨rfl, rfl⟩)
    · exact absurd (bi_1 hc_8).1 (by decide)
  | some k =>
    have hkn := hu k rfl
    refine g_aload_n (pc := 0) X dX5_rowOf_0 rfl rfl ?_
    refine gm_getR (k' := 6) (pc := 1) (j := 1) X 5 dX5_rowOf_1 rfl (by decide) rfl xu_5 (by decide) rfl xw_193 rfl rfl ?_
    refine g_iload_n (pc := 4) X dX5_rowOf_4 rfl rfl ?_
    refine gm_Vi (pc := 5) X 2 xc_X5_49 (c_has l G O t nh (nI k) hnh h1) dX5_rowOf_5 rfl (by decide) rfl rfl rfl rfl (Nat.le_of_ble_eq_true rfl) (fun v_5 t_5 hp => ?_)
    obtain ⟨rfl, hq9⟩ := hp
    have hq9 := hq9.symm
    subst hq9
    refine g_if_eq (pc := 8) (tgt := 32) X dX5_rowOf_8 (by decide) (fun hc_8 => ?_) (fun hc_8 => ?_)
    · exact absurd ⟨nI_pos' (by omega), nI_lt hkn (by omega)⟩ (bi_0 hc_8)
    · refine g_iload_n (pc := 11) X dX5_rowOf_11 rfl rfl ?_
      refine g_iconst (pc := 12) (v := 1) X dX5_rowOf_12 (by decide) ?_
      refine gm_SNi (pc := 13) X xc_X5_97 (c_isWithin l G O t (nI q) 1) dX5_rowOf_13 rfl rfl rfl (Nat.le_of_ble_eq_true rfl) (fun v_13 t_13 hp => ?_)
      obtain ⟨rfl, hq9⟩ := hp
      have hq9 := hq9.symm
      subst hq9
      refine g_if_eq (pc := 16) (tgt := 32) X dX5_rowOf_16 (by decide) (fun hc_16 => ?_) (fun hc_16 => ?_)
      · exact absurd ⟨nI_pos' (by omega), nI_le (a := q) (b := 1) (by omega) (by omega)⟩ (bi_0 hc_16)
      · refine g_aload_n (pc := 19) X dX5_rowOf_19 rfl rfl ?_
        refine gm_getR (k' := 25) (pc := 20) (j := 3) X 5 dX5_rowOf_20 rfl (by decide) rfl xu_5 (by decide) rfl xw_198 rfl rfl ?_
        refine g_iconst (pc := 23) (v := 2) X dX5_rowOf_23 (by decide) ?_
        refine g_iload_n (pc := 24) X dX5_rowOf_24 rfl rfl ?_
        refine g_imul (pc := 25) X dX5_rowOf_25 ?_
        refine g_iload_n (pc := 26) X dX5_rowOf_26 rfl rfl ?_
        refine g_iadd (pc := 27) X dX5_rowOf_27 ?_
        refine gm_aald (pc := 28) (k' := (26 + (2 * k + q))) X 11 (2 * k + q) (.array .int) dX5_rowOf_28 rfl (by decide) (by decide) rfl rfl (idx_row k q) (show 2 * k + q < 16 from by omega) (by decide) (kd_row (2 * k + q) (by omega)).1 ?_
        refine g_goto (pc := 29) (tgt := 36) X dX5_rowOf_29 (by decide) ?_
        exact gm_aret (pc := 36) X hr hk dX5_rowOf_36 (⟨rfl, rfl⟩)

set_option maxRecDepth 100000 in
set_option maxHeartbeats 4000000 in
theorem c_addSpot (l : Launch) (G : xg_G) (O : Heap) (t : xT) (nl k a : Nat) (li : Int32) (hnl : nl ≤ 160) (h4 : t 4 1 = nI nl) (hlet : ∀ i, i < nl → ∃ c, c < 16 ∧ t 5 i = nI c) (hkd : kd k = 10) (hln : ln k = 129) (hk26 : 26 ≤ k) (ha : a < 32) : xm l yX5_addSpot cX5_addSpot 6 none rmX5_addSpot G O t [.ref (O.size + 3), .ref (O.size + k), .int li, .int (nI a)] (xv (fun t' => t' = xadd t k (nl - 31) (fun y => if hb li (t 5 (y + a)) = true then 0 else 1))) := by
  refine xm_enter (by decide) 2 rfl rfl ?_
  intro p e s m args below meth c X hr hk
  refine g_eq (L2 := [some (.ref (O.size + 3)), some (.ref (O.size + k)), some (.int li), some (.int (nI a)), none, none]) rfl rfl rfl ?_
  have loop : ∀ (z9 : Nat) (y : Nat) (xy : Int32) (t1 : xT), nl - 31 - y < z9 → xy = nI y → t1 = xadd t k y (fun y => if hb li (t 5 (y + a)) = true then 0 else 1) → y ≤ nl - 31 → gm p l e rmX5_addSpot s m args below meth c 6 G O (xmQ below G O (xv (fun t' => t' = xadd t k (nl - 31) (fun y => if hb li (t 5 (y + a)) = true then 0 else 1))) args s) (t1) [some (.ref (O.size + 3)), some (.ref (O.size + k)), some (.int (li)), some (.int (nI a)), some (.int (nI (nl - 31))), some (.int (xy))] 12 [] := by
    intro z9
    induction z9 with
    | zero => intro y xy t1 h9; exact absurd h9 (Nat.not_lt_zero _)
    | succ z9 ih =>
      intro y xy t1 h9 hxy ht1 hy
      subst hxy
      subst ht1
      refine g_iload (pc := 12) X dX5_addSpot_12 rfl ?_
      refine g_iload (pc := 14) X dX5_addSpot_14 rfl ?_
      refine g_icmp_ge (pc := 16) (tgt := 58) X dX5_addSpot_16 (by decide) (fun hc_16 => ?_) (fun hc_16 => ?_)
      · exact gm_vret (pc := 58) X hr hk dX5_addSpot_58 (by rw [show y = nl - 31 by have := (nI_leI (a := nl - 31) (b := y) (by omega) (by omega)).mp hc_16; omega])
      · refine g_iload (pc := 19) X dX5_addSpot_19 rfl ?_
        refine g_aload_n (pc := 21) X dX5_addSpot_21 rfl rfl ?_
        refine gm_alen (pc := 22) X dX5_addSpot_22 hkd (by rw [hln]) ?_
        refine g_icmp_ge (pc := 23) (tgt := 58) X dX5_addSpot_23 (by decide) (fun hc_23 => ?_) (fun hc_23 => ?_)
        · exact absurd ((nI_leI (a := 129) (b := y) (by omega) (by omega)).mp hc_23) (by have := n_gt (a := nl - 31) (b := y) hc_16; omega)
        · have hyl : y < nl - 31 := by have := n_gt (a := nl - 31) (b := y) hc_16; omega
          refine g_iload_n (pc := 26) X dX5_addSpot_26 rfl rfl ?_
          refine g_aload_n (pc := 27) X dX5_addSpot_27 rfl rfl ?_
          refine gm_getR (k' := 4) (pc := 28) (j := 0) X 5 dX5_addSpot_28 rfl (by decide) rfl xu_5 (by decide) rfl xw_191 rfl rfl ?_
          refine g_iload (pc := 31) X dX5_addSpot_31 rfl ?_
          refine g_iload_n (pc := 33) X dX5_addSpot_33 rfl rfl ?_
          refine g_iadd (pc := 34) X dX5_addSpot_34 ?_
          rw [nI_add]
          refine gm_Vi (pc := 35) X 7 xc_X5_89 (c_letterAt l G O _ nl (y + a) hnl (by rw [xadd_ne t _ 1 (by omega)]; exact h4) (by omega)) dX5_addSpot_35 rfl (by decide) rfl rfl rfl rfl (Nat.le_of_ble_eq_true rfl) (fun v_35 t_35 hp => ?_)
          obtain ⟨rfl, hq9⟩ := hp
          have hq9 := hq9.symm
          subst hq9
          refine gm_SNi (pc := 38) X xc_X5_93 (c_hasLetter l G O _ li _) dX5_addSpot_38 rfl rfl rfl (Nat.le_of_ble_eq_true rfl) (fun v_38 t_38 hp => ?_)
          obtain ⟨rfl, hq9⟩ := hp
          have hq9 := hq9.symm
          subst hq9
          rw [xadd_ne t _ (y + a) (by omega : (5 : Nat) ≠ k)]
          obtain ⟨cc0, hcc0, ecc0⟩ := hlet (y + a) (by omega)
          refine g_if_ne (pc := 41) (tgt := 52) X dX5_addSpot_41 (by decide) (fun hc_41 => ?_) (fun hc_41 => ?_)
          · refine g_inc (pc := 52) (kv := 1) X dX5_addSpot_52 (by decide) rfl (by decide) ?_
            refine g_goto (pc := 55) (tgt := 12) X dX5_addSpot_55 (by decide) ?_
            exact ih (y + 1) _ _ (by omega) (nI_1 y) (xadd_s0 t k y _ (if_pos (by simpa [hb] using (bi_1 hc_41).2))) (by omega)
          · refine g_aload_n (pc := 44) X dX5_addSpot_44 rfl rfl ?_
            refine g_iload (pc := 45) X dX5_addSpot_45 rfl ?_
            refine g_dup2 (pc := 47) X dX5_addSpot_47 rfl rfl ?_
            refine gm_iald (pc := 48) X (y) dX5_addSpot_48 hkd rfl (by rw [hln]; omega) (by rw [hln]; decide) ?_
            refine g_iconst (pc := 49) (v := 1) X dX5_addSpot_49 (by decide) ?_
            refine g_iadd (pc := 50) X dX5_addSpot_50 ?_
            refine gm_iast (pc := 51) X (y) dX5_addSpot_51 hkd rfl (by rw [hln]; omega) (by rw [hln]; decide) ?_
            refine g_inc (pc := 52) (kv := 1) X dX5_addSpot_52 (by decide) rfl (by decide) ?_
            refine g_goto (pc := 55) (tgt := 12) X dX5_addSpot_55 (by decide) ?_
            exact ih (y + 1) _ _ (by omega) (nI_1 y) (xadd_s1 t k y _ (if_neg (fun q => bi_0 hc_41 ⟨by rw [ecc0]; exact ⟨nI_pos' (by omega), nI_le (a := cc0) (b := 15) (by omega) (by omega)⟩, by simpa [hb] using q⟩))) (by omega)
  refine g_aload_n (pc := 0) X dX5_addSpot_0 rfl rfl ?_
  refine gm_getR (k' := 4) (pc := 1) (j := 0) X 5 dX5_addSpot_1 rfl (by decide) rfl xu_5 (by decide) rfl xw_191 rfl rfl ?_
  refine gm_Vi (pc := 4) X 7 xc_X5_85 (c_places l G O t nl hnl h4) dX5_addSpot_4 rfl (by decide) rfl rfl rfl rfl (Nat.le_of_ble_eq_true rfl) (fun v_4 t_4 hp => ?_)
  obtain ⟨rfl, hq9⟩ := hp
  have hq9 := hq9.symm
  subst hq9
  refine g_istore (pc := 7) X dX5_addSpot_7 (by decide) ?_
  refine g_iconst (pc := 9) (v := 0) X dX5_addSpot_9 (by decide) ?_
  refine g_istore (pc := 10) X dX5_addSpot_10 (by decide) ?_
  exact loop (nl - 31 + 1) 0 _ _ (by omega) nI_0.symm (xadd_0 _ _ _).symm (Nat.zero_le _)

set_option maxRecDepth 100000 in
set_option maxHeartbeats 4000000 in
theorem c_fillRow (l : Launch) (G : xg_G) (O : Heap) (t : xT) (nl k g q : Nat) (hnl : nl ≤ 160) (h4 : t 4 1 = nI nl) (hlet : ∀ i, i < nl → ∃ c, c < 16 ∧ t 5 i = nI c) (hkd : kd k = 10) (hln : ln k = 129) (hk26 : 26 ≤ k) (hg : g < 8) (hq : q < 2) : xm l yX5_fillRow cX5_fillRow 5 none rmX5_fillRow G O t [.ref (O.size + 3), .ref (O.size + k), .ref (O.size + (8 + 2 * g)), .int (nI q)] (xv (fun t' => t' = xrow t k (nl - 31) (t (9 + 2 * g)) (t 5) q 16)) := by
  refine xm_enter (by decide) 1 rfl rfl ?_
  intro p e s m args below meth c X hr hk
  refine g_eq (L2 := [some (.ref (O.size + 3)), some (.ref (O.size + k)), some (.ref (O.size + (8 + 2 * g))), some (.int (nI q)), none]) rfl rfl rfl ?_
  have loop : ∀ (z9 : Nat) (a : Nat) (xa : Int32) (t1 : xT), 16 - a < z9 → xa = nI a → t1 = xrow t k (nl - 31) (t (9 + 2 * g)) (t 5) q a → a ≤ 16 → gm p l e rmX5_fillRow s m args below meth c 5 G O (xmQ below G O (xv (fun t' => t' = xrow t k (nl - 31) (t (9 + 2 * g)) (t 5) q 16)) args s) (t1) [some (.ref (O.size + 3)), some (.ref (O.size + k)), some (.ref (O.size + (8 + 2 * g))), some (.int (nI q)), some (.int (xa))] 8 [] := by
    intro z9
    induction z9 with
    | zero => intro a xa t1 h9; exact absurd h9 (Nat.not_lt_zero _)
    | succ z9 ih =>
      intro a xa t1 h9 hxa ht1 ha
      subst hxa
      subst ht1
      refine g_iload (pc := 8) X dX5_fillRow_8 rfl ?_
      refine g_bipush (pc := 10) (v := 16) X dX5_fillRow_10 (by decide) ?_
      refine g_icmp_ge (pc := 12) (tgt := 51) X dX5_fillRow_12 (by decide) (fun hc_12 => ?_) (fun hc_12 => ?_)
      · exact gm_vret (pc := 51) X hr hk dX5_fillRow_51 (by rw [show a = 16 by have := n_ge (a := 16) (b := a) hc_12; omega])
      · have ha16 : a < 16 := n_gt (a := 16) (b := a) hc_12
        refine g_aload_n (pc := 15) X dX5_fillRow_15 rfl rfl ?_
        refine gm_getR (k' := (9 + 2 * g)) (pc := 16) (j := 3) X 1 dX5_fillRow_16 (kd_half g hg).1 (by decide) rfl xu_1 (by decide) rfl xw_119 rfl (kd_half g hg).2.2.1 ?_
        refine g_iload (pc := 19) X dX5_fillRow_19 rfl ?_
        refine gm_iald (pc := 21) X (a) dX5_fillRow_21 (kd_half g hg).2.2.2.1 rfl (by rw [(kd_half g hg).2.2.2.2]; omega) (by rw [(kd_half g hg).2.2.2.2]; decide) ?_
        refine g_ldc (pc := 22) X dX5_fillRow_22 xw_391 ?_
        refine g_icmp_eq (pc := 24) (tgt := 45) X dX5_fillRow_24 (by decide) (fun hc_24 => ?_) (fun hc_24 => ?_)
        · refine g_inc (pc := 45) (kv := 1) X dX5_fillRow_45 (by decide) rfl (by decide) ?_
          refine g_goto (pc := 48) (tgt := 8) X dX5_fillRow_48 (by decide) ?_
          rw [xrow_ne _ _ _ _ _ _ _ (by omega)] at hc_24
          exact ih (a + 1) _ _ (by omega) (nI_1 a) (xrow_skip _ _ _ _ _ _ _ (fun y hy => by obtain ⟨c1, hc1, e1⟩ := hlet (y + la q a) (by have := la_lt q hq a ha16; omega); rw [hc_24, e1]; exact hb_all c1 hc1)) (by omega)
        · refine g_aload_n (pc := 27) X dX5_fillRow_27 rfl rfl ?_
          refine g_aload_n (pc := 28) X dX5_fillRow_28 rfl rfl ?_
          refine g_aload_n (pc := 29) X dX5_fillRow_29 rfl rfl ?_
          refine gm_getR (k' := (9 + 2 * g)) (pc := 30) (j := 3) X 1 dX5_fillRow_30 (kd_half g hg).1 (by decide) rfl xu_1 (by decide) rfl xw_119 rfl (kd_half g hg).2.2.1 ?_
          refine g_iload (pc := 33) X dX5_fillRow_33 rfl ?_
          refine gm_iald (pc := 35) X (a) dX5_fillRow_35 (kd_half g hg).2.2.2.1 rfl (by rw [(kd_half g hg).2.2.2.2]; omega) (by rw [(kd_half g hg).2.2.2.2]; decide) ?_
          refine g_iload_n (pc := 36) X dX5_fillRow_36 rfl rfl ?_
          refine g_iload (pc := 37) X dX5_fillRow_37 rfl ?_
          refine gm_SNi (pc := 39) X xc_X5_77 (c_lettersAhead l G O _ q a hq ha16) dX5_fillRow_39 rfl rfl rfl (Nat.le_of_ble_eq_true rfl) (fun v_39 t_39 hp => ?_)
          obtain ⟨rfl, hq9⟩ := hp
          have hq9 := hq9.symm
          subst hq9
          refine gm_Vv (pc := 42) X 5 xc_X5_81 (c_addSpot l G O _ nl k (la q a) _ hnl (by rw [xrow_ne _ _ _ _ _ _ _ (by omega)]; exact h4) (fun i hi => by rw [xrow_ne _ _ _ _ _ _ _ (by omega)]; exact hlet i hi) hkd hln hk26 (la_lt q hq a ha16)) dX5_fillRow_42 rfl (by decide) rfl rfl rfl rfl (Nat.le_of_ble_eq_true rfl) (fun t_42 hp => ?_)
          subst hp
          refine g_inc (pc := 45) (kv := 1) X dX5_fillRow_45 (by decide) rfl (by decide) ?_
          refine g_goto (pc := 48) (tgt := 8) X dX5_fillRow_48 (by decide) ?_
          exact ih (a + 1) _ _ (by omega) (nI_1 a) (by rw [xrow_ne1 t _ _ _ _ _ (by omega : 9 + 2 * g ≠ k), xrow_ne1 t _ _ _ _ _ (by omega : 5 ≠ k), xrow_add _ _ _ _ _ _ _ (by omega)]) (by omega)
  refine g_aload_n (pc := 0) X dX5_fillRow_0 rfl rfl ?_
  refine g_iconst (pc := 1) (v := 0) X dX5_fillRow_1 (by decide) ?_
  refine gm_Sv (pc := 2) X xc_X5_65 (c_fill l G O t k 0 hkd (by rw [hln]; decide)) dX5_fillRow_2 rfl rfl rfl (Nat.le_of_ble_eq_true rfl) (fun t_2 hp => ?_)
  subst hp
  refine g_iconst (pc := 5) (v := 0) X dX5_fillRow_5 (by decide) ?_
  refine g_istore (pc := 6) X dX5_fillRow_6 (by decide) ?_
  exact loop 17 0 _ _ (by omega) nI_0.symm (by rw [hln, xrow_0 t k (nl - 31) (t (9 + 2 * g)) (t 5) q]) (by omega)

