/-! 07b: Work.read, Halves.add, isSpot, bitCount -/
set_option maxRecDepth 100000 in
set_option maxHeartbeats 4000000 in
theorem c_read (l : Launch) (G : xg_G) (O : Heap) (t : xT) (nt n : Nat) (hnt : nt ≤ 400) (h1 : t 1 1 = nI nt) (hn : n ≤ nt) : xm l yX7_read cX7_read 5 (some .boolean) rmX7_read G O t [.ref (O.size + 4), .ref (O.size + 1), .int (nI n)] (xi (fun v t' => v = bi ((sfr (t 2) n).1 = 0) ∧ (¬ (sfr (t 2) n).1 = 0 → t' = set4 t (sfr (t 2) n)) ∧ ((sfr (t 2) n).1 = 0 → t' 4 1 = nI (ctb (t 2) n) ∧ t' 4 2 = 0 ∧ t' 4 3 = -1 ∧ (∀ j, j < n → ltb (t 2 j) = true → t' 5 (ctb (t 2) j) = t 2 j - 97) ∧ ∀ x y, x ≠ 4 → x ≠ 5 → t' x y = t x y))) := by
  refine xm_enter (by decide) 2 rfl rfl ?_
  intro p e s m args below meth c X hr hk
  refine g_eq (L2 := [some (.ref (O.size + 4)), some (.ref (O.size + 1)), some (.int (nI n)), none, none]) rfl rfl rfl ?_
  have loop : ∀ (z9 : Nat) (k : Nat) (xk : Int32) (t1 : xT), n - k < z9 → xk = nI k → k ≤ n → (sfr (t 2) n).1 = 0 → t1 4 1 = nI (ctb (t 2) k) → t1 4 2 = 0 → t1 4 3 = -1 → (∀ j, j < k → ltb (t 2 j) = true → t1 5 (ctb (t 2) j) = t 2 j - 97) → (∀ x y, x ≠ 4 → x ≠ 5 → t1 x y = t x y) → gm p l e rmX7_read s m args below meth c 5 G O (xmQ below G O (xi (fun v t' => v = bi ((sfr (t 2) n).1 = 0) ∧ (¬ (sfr (t 2) n).1 = 0 → t' = set4 t (sfr (t 2) n)) ∧ ((sfr (t 2) n).1 = 0 → t' 4 1 = nI (ctb (t 2) n) ∧ t' 4 2 = 0 ∧ t' 4 3 = -1 ∧ (∀ j, j < n → ltb (t 2 j) = true → t' 5 (ctb (t 2) j) = t 2 j - 97) ∧ ∀ x y, x ≠ 4 → x ≠ 5 → t' x y = t x y))) args s) (t1) [some (.ref (O.size + 4)), some (.ref (O.size + 1)), some (.int (nI n)), some (.int (xk)), none] 22 [] := by
    intro z9
    induction z9 with
    | zero => intro k xk t1 h9; exact absurd h9 (Nat.not_lt_zero _)
    | succ z9 ih =>
      intro k xk t1 h9 hxk hkn hok e1 e2 e3 e4 e5
      subst hxk
      refine g_iload_n (pc := 22) X dX7_read_22 rfl rfl ?_
      refine g_iload_n (pc := 23) X dX7_read_23 rfl rfl ?_
      refine g_icmp_ge (pc := 24) (tgt := 82) X dX7_read_24 (by decide) (fun hc_24 => ?_) (fun hc_24 => ?_)
      · refine g_iconst (pc := 82) (v := 1) X dX7_read_82 (by decide) ?_
        exact gm_zret (pc := 83) X hr hk dX7_read_83 (by first | exact Or.inl rfl | exact Or.inr rfl) (⟨(bi_t hok).symm, fun q => absurd hok q, fun _ => by rw [show k = n by have := n_ge hc_24; omega] at e1 e4; exact ⟨e1, e2, e3, e4, e5⟩⟩)
      · have hkl : k < n := n_gt hc_24
        have hs1 := sfr_back hok (show k + 1 ≤ n by omega)
        have hc1 := (sfr_ok hs1).2
        have hc0 := (sfr_ok (sfr_back hok (show k ≤ n by omega))).2
        refine g_aload_n (pc := 27) X dX7_read_27 rfl rfl ?_
        refine g_iload_n (pc := 28) X dX7_read_28 rfl rfl ?_
        refine gm_Vi (pc := 29) X 6 xc_X7_29 (c_byteAt l G O _ nt k hnt (by rw [e5 1 1 (by decide) (by decide)]; exact h1) (by omega)) dX7_read_29 rfl (by decide) rfl rfl rfl rfl (Nat.le_of_ble_eq_true rfl) (fun v_29 t_29 hp => ?_)
        obtain ⟨hv29, hq9⟩ := hp
        have hq9 := hq9.symm
        subst hq9
        rw [e5 2 k (by decide) (by decide)] at hv29
        subst hv29
        refine g_istore (pc := 32) X dX7_read_32 (by decide) ?_
        refine g_iload (pc := 34) X dX7_read_34 rfl ?_
        refine gm_Si (pc := 36) X xc_X7_35 (c_isLetter l G O _ _) dX7_read_36 rfl rfl rfl (Nat.le_of_ble_eq_true rfl) (fun v_36 t_36 hp => ?_)
        obtain ⟨rfl, hq9⟩ := hp
        have hq9 := hq9.symm
        subst hq9
        refine g_if_eq (pc := 39) (tgt := 76) X dX7_read_39 (by decide) (fun hc_39 => ?_) (fun hc_39 => ?_)
        · refine g_inc (pc := 76) (kv := 1) X dX7_read_76 (by decide) rfl (by decide) ?_
          refine g_goto (pc := 79) (tgt := 22) X dX7_read_79 (by decide) ?_
          refine g_wk 4 ?_
          have hnl : ¬ ltb (t 2 k) = true := by simpa [ltb] using bi_0 hc_39
          exact ih (k + 1) _ _ (by omega) (nI_1 k) (by omega) hok (by rw [ctb_f hnl]; exact e1) e2 e3 (fun j hj q => by rcases Nat.lt_or_ge j k with r | r; exact e4 j r q; rw [show j = k by omega] at q; exact absurd q hnl) e5
        · have hyl : ltb (t 2 k) = true := by simpa [ltb] using bi_1 hc_39
          rw [ctb_t hyl] at hc1
          refine g_aload_n (pc := 42) X dX7_read_42 rfl rfl ?_
          refine gm_getI (pc := 43) (j := 1) X 7 dX7_read_43 rfl (by decide) rfl xu_7 (by decide) rfl xw_82 rfl ?_
          refine g_sipush (pc := 46) (v := 160) X dX7_read_46 (by decide) ?_
          refine g_icmp_ge (pc := 49) (tgt := 76) X dX7_read_49 (by decide) (fun hc_49 => ?_) (fun hc_49 => ?_)
          · rw [e1] at hc_49
            exact absurd (n_ge (a := 160) (b := ctb (t 2) k) hc_49) (by omega)
          · refine g_aload_n (pc := 52) X dX7_read_52 rfl rfl ?_
            refine gm_getR (k' := 5) (pc := 53) (j := 0) X 7 dX7_read_53 rfl (by decide) rfl xu_7 (by decide) rfl xw_81 rfl rfl ?_
            refine g_aload_n (pc := 56) X dX7_read_56 rfl rfl ?_
            refine gm_getI (pc := 57) (j := 1) X 7 dX7_read_57 rfl (by decide) rfl xu_7 (by decide) rfl xw_82 rfl ?_
            refine g_iload (pc := 60) X dX7_read_60 rfl ?_
            refine g_bipush (pc := 62) (v := 97) X dX7_read_62 (by decide) ?_
            refine g_isub (pc := 64) X dX7_read_64 ?_
            refine gm_iast (pc := 65) X (ctb (t 2) k) dX7_read_65 rfl e1 (show ctb (t 2) k < 160 from by omega) (by decide) ?_
            refine g_aload_n (pc := 66) X dX7_read_66 rfl rfl ?_
            refine g_dup (pc := 67) X dX7_read_67 rfl ?_
            refine gm_getI (pc := 68) (j := 1) X 7 dX7_read_68 rfl (by decide) rfl xu_7 (by decide) rfl xw_82 rfl ?_
            refine g_iconst (pc := 71) (v := 1) X dX7_read_71 (by decide) ?_
            refine g_iadd (pc := 72) X dX7_read_72 ?_
            refine gm_putI (pc := 73) (j := 1) X 7 tyX7 dX7_read_73 rfl (by decide) rfl xu_7 tyX7_ok nmX7 (by decide) rfl xw_82 rfl rfl (Or.inl rfl) ?_
            refine g_inc (pc := 76) (kv := 1) X dX7_read_76 (by decide) rfl (by decide) ?_
            refine g_goto (pc := 79) (tgt := 22) X dX7_read_79 (by decide) ?_
            refine g_wk 4 ?_
            exact ih (k + 1) _ _ (by omega) (nI_1 k) (by omega) hok (by rw [xt_same, xt_nk _ _ _ _ (by decide), e1, nI_1, ctb_t hyl]) (by rw [xt_ne _ _ (Or.inr (by decide)), xt_nk _ _ _ _ (by decide)]; exact e2) (by rw [xt_ne _ _ (Or.inr (by decide)), xt_nk _ _ _ _ (by decide)]; exact e3)
              (fun j hj q => by
                rw [xt_nk _ _ _ _ (by decide)]
                by_cases r : j = k
                · subst r; rw [xt_same]
                · have hlt : ctb (t 2) j < ctb (t 2) k := by
                    have h2 := ctb_mono (t 2) (i := j + 1) (d := k - (j + 1))
                    rw [ctb_t q, show j + 1 + (k - (j + 1)) = k by omega] at h2
                    omega
                  rw [xt_ne _ _ (Or.inr (by omega))]; exact e4 j (by omega) q)
              (fun x y q1 q2 => by rw [xt_nk _ _ _ _ q1, xt_nk _ _ _ _ q2]; exact e5 x y q1 q2)
  refine g_aload_n (pc := 0) X dX7_read_0 rfl rfl ?_
  refine g_aload_n (pc := 1) X dX7_read_1 rfl rfl ?_
  refine g_iload_n (pc := 2) X dX7_read_2 rfl rfl ?_
  refine gm_Vv (pc := 3) X 7 xc_X7_25 (c_seekFault l G O _ nt n hnt h1 hn) dX7_read_3 rfl (by decide) rfl rfl rfl rfl (Nat.le_of_ble_eq_true rfl) (fun t_3 hp => ?_)
  subst hp
  refine g_aload_n (pc := 6) X dX7_read_6 rfl rfl ?_
  refine gm_getI (pc := 7) (j := 2) X 7 dX7_read_7 rfl (by decide) rfl xu_7 (by decide) rfl xw_84 rfl ?_
  refine g_if_eq (pc := 10) (tgt := 15) X dX7_read_10 (by decide) (fun hc_10 => ?_) (fun hc_10 => ?_)
  · refine g_aload_n (pc := 15) X dX7_read_15 rfl rfl ?_
    refine g_iconst (pc := 16) (v := 0) X dX7_read_16 (by decide) ?_
    refine gm_putI (pc := 17) (j := 1) X 7 tyX7 dX7_read_17 rfl (by decide) rfl xu_7 tyX7_ok nmX7 (by decide) rfl xw_82 rfl rfl (Or.inl rfl) ?_
    refine g_iconst (pc := 20) (v := 0) X dX7_read_20 (by decide) ?_
    refine g_istore_n (pc := 21) X dX7_read_21 rfl (by decide) ?_
    rw [set4_2] at hc_10
    exact loop (n + 1) 0 _ _ (by omega) nI_0.symm (Nat.zero_le _) hc_10 (by rw [xt_same]; exact nI_0.symm) (by rw [xt_ne _ _ (Or.inr (by decide)), set4_2]; exact hc_10) (by rw [xt_ne _ _ (Or.inr (by decide)), show ∀ b, set4 t b 4 3 = b.2 from fun b => by simp [set4, xt]]; exact (sfr_ok hc_10).1) (fun j hj => absurd hj (Nat.not_lt_zero j)) (fun x y q1 q2 => by rw [xt_nk _ _ _ _ q1, set4_ne _ _ _ q1])
  · refine g_iconst (pc := 13) (v := 0) X dX7_read_13 (by decide) ?_
    exact gm_zret (pc := 14) X hr hk dX7_read_14 (by first | exact Or.inl rfl | exact Or.inr rfl) (by rw [set4_2] at hc_10; exact ⟨(bi_f hc_10).symm, fun _ => rfl, fun q => absurd q hc_10⟩)

def hfS (t : xT) (nh : Nat) (p s r : Int32) : xT := xt (xf (xt (xt (xt t (8 + 2 * nh) 0 p) (8 + 2 * nh) 1 s) (8 + 2 * nh) 2 r) (9 + 2 * nh) 16 65535) 6 1 (nI (nh + 1))
set_option maxRecDepth 100000 in
set_option maxHeartbeats 4000000 in
theorem c_add (l : Launch) (G : xg_G) (O : Heap) (t : xT) (nh : Nat) (q s0 r : Int32) (hnh : nh ≤ 8) (h1 : t 6 1 = nI nh) : xm l yX2_add cX2_add 5 (some .int) rmX2_add G O t [.ref (O.size + 6), .int q, .int s0, .int r] (xi (fun v t' => v = (if nh < 8 then nI nh else -1) ∧ t' = (if nh < 8 then hfS t nh q s0 r else t))) := by
  refine xm_enter (by decide) 1 rfl rfl ?_
  intro p e s m args below meth c X hr hk
  refine g_eq (L2 := [some (.ref (O.size + 6)), some (.int q), some (.int s0), some (.int r), none]) rfl rfl rfl ?_
  refine g_aload_n (pc := 0) X dX2_add_0 rfl rfl ?_
  refine gm_getI (pc := 1) (j := 1) X 2 dX2_add_1 rfl (by decide) rfl xu_2 (by decide) rfl xw_135 rfl ?_
  refine g_bipush (pc := 4) (v := 8) X dX2_add_4 (by decide) ?_
  refine g_icmp_lt (pc := 6) (tgt := 11) X dX2_add_6 (by decide) (fun hc_6 => ?_) (fun hc_6 => ?_)
  · have hlt : nh < 8 := by rw [h1] at hc_6; exact n_l (a := nh) (b := 8) hc_6
    rw [if_pos hlt, if_pos hlt]
    refine g_aload_n (pc := 11) X dX2_add_11 rfl rfl ?_
    refine gm_getR (k' := 7) (pc := 12) (j := 0) X 2 dX2_add_12 rfl (by decide) rfl xu_2 (by decide) rfl xw_131 rfl rfl ?_
    refine g_aload_n (pc := 15) X dX2_add_15 rfl rfl ?_
    refine gm_getI (pc := 16) (j := 1) X 2 dX2_add_16 rfl (by decide) rfl xu_2 (by decide) rfl xw_135 rfl ?_
    refine gm_aald (pc := 19) (k' := (8 + 2 * nh)) X 12 (nh) (.object "UnderText$Half") dX2_add_19 rfl (by decide) (by decide) rfl rfl h1 (show nh < 8 from by omega) (by decide) (kd_half nh hlt).2.1 ?_
    refine g_astore (pc := 20) X dX2_add_20 (by decide) ?_
    refine g_aload (pc := 22) X dX2_add_22 rfl ?_
    refine g_iload_n (pc := 24) X dX2_add_24 rfl rfl ?_
    refine gm_putI (pc := 25) (j := 0) X 1 tyX1 dX2_add_25 (kd_half nh (show nh < 8 from hlt)).1 (by decide) rfl xu_1 tyX1_ok nmX1 (by decide) rfl xw_111 rfl rfl (Or.inl rfl) ?_
    refine g_aload (pc := 28) X dX2_add_28 rfl ?_
    refine g_iload_n (pc := 30) X dX2_add_30 rfl rfl ?_
    refine gm_putI (pc := 31) (j := 1) X 1 tyX1 dX2_add_31 (kd_half nh (show nh < 8 from hlt)).1 (by decide) rfl xu_1 tyX1_ok nmX1 (by decide) rfl xw_113 rfl rfl (Or.inl rfl) ?_
    refine g_aload (pc := 34) X dX2_add_34 rfl ?_
    refine g_iload_n (pc := 36) X dX2_add_36 rfl rfl ?_
    refine gm_putI (pc := 37) (j := 2) X 1 tyX1 dX2_add_37 (kd_half nh (show nh < 8 from hlt)).1 (by decide) rfl xu_1 tyX1_ok nmX1 (by decide) rfl xw_116 rfl rfl (Or.inl rfl) ?_
    refine g_aload (pc := 40) X dX2_add_40 rfl ?_
    refine gm_getR (k' := (9 + 2 * nh)) (pc := 42) (j := 3) X 1 dX2_add_42 (kd_half nh (show nh < 8 from hlt)).1 (by decide) rfl xu_1 (by decide) rfl xw_118 rfl (kd_half nh hlt).2.2.1 ?_
    refine g_ldc (pc := 45) X dX2_add_45 xw_337 ?_
    refine gm_Sv (pc := 47) X xc_X2_36 (c_fill l G O _ (9 + 2 * nh) 65535 (kd_half nh hlt).2.2.2.1 (by rw [(kd_half nh hlt).2.2.2.2]; decide)) dX2_add_47 rfl rfl rfl (Nat.le_of_ble_eq_true rfl) (fun t_47 hp => ?_)
    rw [(kd_half nh hlt).2.2.2.2] at hp
    subst hp
    have e6 : xf (xt (xt (xt t (8 + 2 * nh) 0 q) (8 + 2 * nh) 1 s0) (8 + 2 * nh) 2 r) (9 + 2 * nh) 16 65535 6 1 = nI nh := by rw [show ∀ T : xT, xf T (9 + 2 * nh) 16 65535 6 1 = T 6 1 from fun T => by unfold xf; rw [if_neg (by omega)], xt_nk _ _ _ _ (by omega), xt_nk _ _ _ _ (by omega), xt_nk _ _ _ _ (by omega)]; exact h1
    refine g_aload_n (pc := 50) X dX2_add_50 rfl rfl ?_
    refine g_dup (pc := 51) X dX2_add_51 rfl ?_
    refine gm_getI (pc := 52) (j := 1) X 2 dX2_add_52 rfl (by decide) rfl xu_2 (by decide) rfl xw_135 rfl ?_
    rw [e6]
    refine g_iconst (pc := 55) (v := 1) X dX2_add_55 (by decide) ?_
    refine g_iadd (pc := 56) X dX2_add_56 ?_
    rw [nI_1]
    refine gm_putI (pc := 57) (j := 1) X 2 tyX2 dX2_add_57 rfl (by decide) rfl xu_2 tyX2_ok nmX2 (by decide) rfl xw_135 rfl rfl (Or.inl rfl) ?_
    refine g_aload_n (pc := 60) X dX2_add_60 rfl rfl ?_
    refine gm_getI (pc := 61) (j := 1) X 2 dX2_add_61 rfl (by decide) rfl xu_2 (by decide) rfl xw_135 rfl ?_
    refine g_iconst (pc := 64) (v := 1) X dX2_add_64 (by decide) ?_
    refine g_isub (pc := 65) X dX2_add_65 ?_
    exact gm_iret (pc := 66) X hr hk dX2_add_66 (⟨by rw [xt_same]; exact nI_pred nh, rfl⟩)
  · refine g_iconst (pc := 9) (v := (-1)) X dX2_add_9 (by decide) ?_
    exact gm_iret (pc := 10) X hr hk dX2_add_10 (⟨by rw [h1] at hc_6; rw [if_neg (by have := n_nl (a := nh) (b := 8) hc_6; omega)], by rw [h1] at hc_6; rw [if_neg (by have := n_nl (a := nh) (b := 8) hc_6; omega)]⟩)

abbrev spP (nh : Nat) (h f s : Int32) : Prop := (0 ≤ h ∧ h < nI nh) ∧ (0 ≤ f ∧ f ≤ 1) ∧ (0 ≤ s ∧ s ≤ 7)
theorem sp_of {nh : Nat} {h f s : Int32} (hnh : nh ≤ 8) (hs : spP nh h f s) : ∃ k a b, k < nh ∧ a < 2 ∧ b < 8 ∧ h = nI k ∧ f = nI a ∧ s = nI b := by
  obtain ⟨h1, h2, h3⟩ := hs
  obtain ⟨k, hk, e1⟩ := (i_in (by omega)).mp h1
  obtain ⟨a, ha, e2⟩ := nI_of2 (M := 1) (n := 1) rfl (fun q => absurd h2.1 (k2_nle q)) h2.2
  obtain ⟨b, hb, e3⟩ := nI_of2 (M := 7) (n := 7) rfl (fun q => absurd h3.1 (k2_nle q)) h3.2
  exact ⟨k, a, b, hk, by omega, by omega, e1, e2, e3⟩
set_option maxRecDepth 100000 in
set_option maxHeartbeats 4000000 in
theorem c_isSpot (l : Launch) (G : xg_G) (O : Heap) (t : xT) (nh : Nat) (h f s0 : Int32) (hnh : nh ≤ 8) (h1 : t 6 1 = nI nh) : xm l yX8_isSpot cX8_isSpot 4 (some .boolean) rmX8_isSpot G O t [.ref (O.size + 0), .int h, .int f, .int s0] (xi (fun v t' => v = bi (spP nh h f s0) ∧ t' = t)) := by
  refine xm_enter (by decide) 0 rfl rfl ?_
  intro p e s m args below meth c X hr hk
  refine g_eq (L2 := [some (.ref (O.size + 0)), some (.int h), some (.int f), some (.int s0)]) rfl rfl rfl ?_
  refine g_aload_n (pc := 0) X dX8_isSpot_0 rfl rfl ?_
  refine gm_getR (k' := 6) (pc := 1) (j := 3) X 8 dX8_isSpot_1 rfl (by decide) rfl xu_8 (by decide) rfl xw_268 rfl rfl ?_
  refine g_iload_n (pc := 4) X dX8_isSpot_4 rfl rfl ?_
  refine gm_Vi (pc := 5) X 2 xc_X8_114 (c_has l G O _ nh h hnh h1) dX8_isSpot_5 rfl (by decide) rfl rfl rfl rfl (Nat.le_of_ble_eq_true rfl) (fun v_5 t_5 hp => ?_)
  obtain ⟨rfl, hq9⟩ := hp
  have hq9 := hq9.symm
  subst hq9
  refine g_if_eq (pc := 8) (tgt := 32) X dX8_isSpot_8 (by decide) (fun hc_8 => ?_) (fun hc_8 => ?_)
  · refine g_iconst (pc := 32) (v := 0) X dX8_isSpot_32 (by decide) ?_
    exact gm_zret (pc := 33) X hr hk dX8_isSpot_33 (by first | exact Or.inl rfl | exact Or.inr rfl) (⟨(bi_f (fun q => bi_0 hc_8 q.1)).symm, rfl⟩)
  · refine g_iload_n (pc := 11) X dX8_isSpot_11 rfl rfl ?_
    refine g_iconst (pc := 12) (v := 1) X dX8_isSpot_12 (by decide) ?_
    refine gm_Si (pc := 13) X xc_X8_79 (c_isWithin l G O _ f 1) dX8_isSpot_13 rfl rfl rfl (Nat.le_of_ble_eq_true rfl) (fun v_13 t_13 hp => ?_)
    obtain ⟨rfl, hq9⟩ := hp
    have hq9 := hq9.symm
    subst hq9
    refine g_if_eq (pc := 16) (tgt := 32) X dX8_isSpot_16 (by decide) (fun hc_16 => ?_) (fun hc_16 => ?_)
    · refine g_iconst (pc := 32) (v := 0) X dX8_isSpot_32 (by decide) ?_
      exact gm_zret (pc := 33) X hr hk dX8_isSpot_33 (by first | exact Or.inl rfl | exact Or.inr rfl) (⟨(bi_f (fun q => bi_0 hc_16 q.2.1)).symm, rfl⟩)
    · refine g_iload_n (pc := 19) X dX8_isSpot_19 rfl rfl ?_
      refine g_bipush (pc := 20) (v := 7) X dX8_isSpot_20 (by decide) ?_
      refine gm_Si (pc := 22) X xc_X8_79 (c_isWithin l G O _ s0 7) dX8_isSpot_22 rfl rfl rfl (Nat.le_of_ble_eq_true rfl) (fun v_22 t_22 hp => ?_)
      obtain ⟨rfl, hq9⟩ := hp
      have hq9 := hq9.symm
      subst hq9
      refine g_if_eq (pc := 25) (tgt := 32) X dX8_isSpot_25 (by decide) (fun hc_25 => ?_) (fun hc_25 => ?_)
      · refine g_iconst (pc := 32) (v := 0) X dX8_isSpot_32 (by decide) ?_
        exact gm_zret (pc := 33) X hr hk dX8_isSpot_33 (by first | exact Or.inl rfl | exact Or.inr rfl) (⟨(bi_f (fun q => bi_0 hc_25 q.2.2)).symm, rfl⟩)
      · refine g_iconst (pc := 28) (v := 1) X dX8_isSpot_28 (by decide) ?_
        refine g_goto (pc := 29) (tgt := 33) X dX8_isSpot_29 (by decide) ?_
        exact gm_zret (pc := 33) X hr hk dX8_isSpot_33 (by first | exact Or.inl rfl | exact Or.inr rfl) (⟨(bi_t ⟨bi_1 hc_8, bi_1 hc_16, bi_1 hc_25⟩).symm, rfl⟩)

def us (x : Int32) (k : Int32) : Int32 := (x.toUInt32 >>> (k.toUInt32 &&& Int32.toUInt32 31)).toInt32
def bc1 (x : Int32) : Int32 := x - (us x 1 &&& 1431655765)
def bc2 (x : Int32) : Int32 := (x &&& 858993459) + (us x 2 &&& 858993459)
def bc3 (x : Int32) : Int32 := (x + us x 4) &&& 252645135
def bc4 (x : Int32) : Int32 := x + us x 8
def bc5 (x : Int32) : Int32 := x + us x 16
def bcj (x : Int32) : Int32 := bc5 (bc4 (bc3 (bc2 (bc1 x)))) &&& 63
set_option maxRecDepth 100000 in
set_option maxHeartbeats 4000000 in
theorem c_bitCount (l : Launch) (G : xg_G) (O : Heap) (t : xT) (x : Int32)  : xm l yJ6_bitCount_0f7a4 cJ6_bitCount_0f7a4 1 (some .int) rmJ6_bitCount_0f7a4 G O t [.int x] (xi (fun v t' => v = bcj x ∧ t' = t)) := by
  refine xm_enter (by decide) 0 rfl rfl ?_
  intro p e s m args below meth c X hr hk
  refine g_eq (L2 := [some (.int x)]) rfl rfl rfl ?_
  refine g_iload_n (pc := 0) X dJ6_bitCount_0f7a4_0 rfl rfl ?_
  refine g_iload_n (pc := 1) X dJ6_bitCount_0f7a4_1 rfl rfl ?_
  refine g_iconst (pc := 2) (v := 1) X dJ6_bitCount_0f7a4_2 (by decide) ?_
  refine g_iushr (pc := 3) X dJ6_bitCount_0f7a4_3 rfl ?_
  refine g_ldcw (pc := 4) X dJ6_bitCount_0f7a4_4 xw_358 ?_
  refine g_iand (pc := 7) X dJ6_bitCount_0f7a4_7 ?_
  refine g_isub (pc := 8) X dJ6_bitCount_0f7a4_8 ?_
  refine g_istore_n (pc := 9) X dJ6_bitCount_0f7a4_9 rfl (by decide) ?_
  refine g_iload_n (pc := 10) X dJ6_bitCount_0f7a4_10 rfl rfl ?_
  refine g_ldcw (pc := 11) X dJ6_bitCount_0f7a4_11 xw_359 ?_
  refine g_iand (pc := 14) X dJ6_bitCount_0f7a4_14 ?_
  refine g_iload_n (pc := 15) X dJ6_bitCount_0f7a4_15 rfl rfl ?_
  refine g_iconst (pc := 16) (v := 2) X dJ6_bitCount_0f7a4_16 (by decide) ?_
  refine g_iushr (pc := 17) X dJ6_bitCount_0f7a4_17 rfl ?_
  refine g_ldcw (pc := 18) X dJ6_bitCount_0f7a4_18 xw_359 ?_
  refine g_iand (pc := 21) X dJ6_bitCount_0f7a4_21 ?_
  refine g_iadd (pc := 22) X dJ6_bitCount_0f7a4_22 ?_
  refine g_istore_n (pc := 23) X dJ6_bitCount_0f7a4_23 rfl (by decide) ?_
  refine g_iload_n (pc := 24) X dJ6_bitCount_0f7a4_24 rfl rfl ?_
  refine g_iload_n (pc := 25) X dJ6_bitCount_0f7a4_25 rfl rfl ?_
  refine g_iconst (pc := 26) (v := 4) X dJ6_bitCount_0f7a4_26 (by decide) ?_
  refine g_iushr (pc := 27) X dJ6_bitCount_0f7a4_27 rfl ?_
  refine g_iadd (pc := 28) X dJ6_bitCount_0f7a4_28 ?_
  refine g_ldcw (pc := 29) X dJ6_bitCount_0f7a4_29 xw_360 ?_
  refine g_iand (pc := 32) X dJ6_bitCount_0f7a4_32 ?_
  refine g_istore_n (pc := 33) X dJ6_bitCount_0f7a4_33 rfl (by decide) ?_
  refine g_iload_n (pc := 34) X dJ6_bitCount_0f7a4_34 rfl rfl ?_
  refine g_iload_n (pc := 35) X dJ6_bitCount_0f7a4_35 rfl rfl ?_
  refine g_bipush (pc := 36) (v := 8) X dJ6_bitCount_0f7a4_36 (by decide) ?_
  refine g_iushr (pc := 38) X dJ6_bitCount_0f7a4_38 rfl ?_
  refine g_iadd (pc := 39) X dJ6_bitCount_0f7a4_39 ?_
  refine g_istore_n (pc := 40) X dJ6_bitCount_0f7a4_40 rfl (by decide) ?_
  refine g_iload_n (pc := 41) X dJ6_bitCount_0f7a4_41 rfl rfl ?_
  refine g_iload_n (pc := 42) X dJ6_bitCount_0f7a4_42 rfl rfl ?_
  refine g_bipush (pc := 43) (v := 16) X dJ6_bitCount_0f7a4_43 (by decide) ?_
  refine g_iushr (pc := 45) X dJ6_bitCount_0f7a4_45 rfl ?_
  refine g_iadd (pc := 46) X dJ6_bitCount_0f7a4_46 ?_
  refine g_istore_n (pc := 47) X dJ6_bitCount_0f7a4_47 rfl (by decide) ?_
  refine g_iload_n (pc := 48) X dJ6_bitCount_0f7a4_48 rfl rfl ?_
  refine g_bipush (pc := 49) (v := 63) X dJ6_bitCount_0f7a4_49 (by decide) ?_
  refine g_iand (pc := 51) X dJ6_bitCount_0f7a4_51 ?_
  exact gm_iret (pc := 52) X hr hk dJ6_bitCount_0f7a4_52 (⟨rfl, rfl⟩)

