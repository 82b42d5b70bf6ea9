/-! 08b: the reference's public methods -/
def bytM (v : Int32) (i : Nat) : Int32 := (v >>> (shf i &&& 31)) &&& 255
theorem sh_eq : ∀ k, k < 20 → (24 : Int32) - 8 * (nI k - nI k / 4 * 4) = shf (k % 4) := by decide
set_option maxRecDepth 100000 in
set_option maxHeartbeats 4000000 in
theorem m_feed (l : Launch) (G : xg_G) (O : Heap) (t : xT) (nt : Nat) (a1 a2 a3 a4 a5 : Int32) (hnt : nt ≤ 400) (h2 : t 76 2 = nI nt) : xm l yX9_feed cX9_feed 8 (some .int) rmX9_feed G O t [.ref (O.size + 76), .int a1, .int a2, .int a3, .int a4, .int a5] (xi (fun v t' => (nt + 20 ≤ 400 → v = nI (nt + 20) ∧ t' 76 2 = nI (nt + 20) ∧ (∀ j, j < 20 → t' 77 (nt + j) = bytM (ag a1 a2 a3 a4 a5 j) (j % 4)) ∧ ∀ x y, ¬ (x = 76 ∧ (y = 0 ∨ y = 2)) → ¬ (x = 77 ∧ nt ≤ y) → t' x y = t x y) ∧ (¬ nt + 20 ≤ 400 → v = -1 ∧ t' = xt t 76 0 0))) := by
  refine xm_enter (by decide) 2 rfl rfl ?_
  intro p e s m args below meth c X hr hk
  refine g_eq (L2 := [some (.ref (O.size + 76)), some (.int a1), some (.int a2), some (.int a3), some (.int a4), some (.int a5), none, none]) rfl rfl rfl ?_
  have loop : ∀ (z9 : Nat) (k : Nat) (xk : Int32) (t1 : xT), 20 - k < z9 → xk = nI k → k ≤ 20 → nt + 20 ≤ 400 → t1 76 2 = nI nt → (∀ j, j < k → t1 77 (nt + j) = bytM (ag a1 a2 a3 a4 a5 j) (j % 4)) → (∀ x y, ¬ (x = 76 ∧ y = 0) → ¬ (x = 77 ∧ nt ≤ y) → t1 x y = t x y) → gm p l e rmX9_feed s m args below meth c 8 G O (xmQ below G O (xi (fun v t' => (nt + 20 ≤ 400 → v = nI (nt + 20) ∧ t' 76 2 = nI (nt + 20) ∧ (∀ j, j < 20 → t' 77 (nt + j) = bytM (ag a1 a2 a3 a4 a5 j) (j % 4)) ∧ ∀ x y, ¬ (x = 76 ∧ (y = 0 ∨ y = 2)) → ¬ (x = 77 ∧ nt ≤ y) → t' x y = t x y) ∧ (¬ nt + 20 ≤ 400 → v = -1 ∧ t' = xt t 76 0 0))) args s) (t1) [some (.ref (O.size + 76)), some (.int (a1)), some (.int (a2)), some (.int (a3)), some (.int (a4)), some (.int (a5)), some (.int (xk)), none] 20 [] := by
    intro z9
    induction z9 with
    | zero => intro k xk t1 h9; exact absurd h9 (Nat.not_lt_zero _)
    | succ z9 ih =>
      intro k xk t1 h9 hxk hk20 hle e2 eb eo
      subst hxk
      refine g_iload (pc := 20) X dX9_feed_20 rfl ?_
      refine g_bipush (pc := 22) (v := 20) X dX9_feed_22 (by decide) ?_
      refine g_icmp_ge (pc := 24) (tgt := 110) X dX9_feed_24 (by decide) (fun hc_24 => ?_) (fun hc_24 => ?_)
      · have hk9 : k = 20 := by have := n_ge (a := 20) (b := k) hc_24; omega
        subst hk9
        refine g_aload_n (pc := 110) X dX9_feed_110 rfl rfl ?_
        refine g_dup (pc := 111) X dX9_feed_111 rfl ?_
        refine gm_getI (pc := 112) (j := 2) X 9 dX9_feed_112 rfl (by decide) rfl xu_9 (by decide) rfl xw_593 rfl ?_
        rw [e2]
        refine g_bipush (pc := 115) (v := 20) X dX9_feed_115 (by decide) ?_
        refine g_iadd (pc := 117) X dX9_feed_117 ?_
        rw [show (20 : Int32) = nI 20 from rfl, nI_add]
        refine gm_putI (pc := 118) (j := 2) X 9 tyX9 dX9_feed_118 rfl (by decide) rfl xu_9 tyX9_ok nmX9 (by decide) rfl xw_593 rfl rfl (Or.inl rfl) ?_
        refine g_aload_n (pc := 121) X dX9_feed_121 rfl rfl ?_
        refine gm_getI (pc := 122) (j := 2) X 9 dX9_feed_122 rfl (by decide) rfl xu_9 (by decide) rfl xw_593 rfl ?_
        exact gm_iret (pc := 125) X hr hk dX9_feed_125 (⟨fun _ => ⟨xt_same _ _ _ _, xt_same _ _ _ _, fun j hj => by rw [xt_nk _ _ _ _ (by decide)]; exact eb j hj, fun x y q1 q2 => by rw [xt_ne _ _ (by omega)]; exact eo x y (by omega) q2⟩, fun q => absurd hle q⟩)
      · have hkl : k < 20 := n_gt (a := 20) (b := k) hc_24
        have step : ∀ v : Int32, v = ag a1 a2 a3 a4 a5 k → gm p l e rmX9_feed s m args below meth c 8 G O (xmQ below G O (xi (fun v t' => (nt + 20 ≤ 400 → v = nI (nt + 20) ∧ t' 76 2 = nI (nt + 20) ∧ (∀ j, j < 20 → t' 77 (nt + j) = bytM (ag a1 a2 a3 a4 a5 j) (j % 4)) ∧ ∀ x y, ¬ (x = 76 ∧ (y = 0 ∨ y = 2)) → ¬ (x = 77 ∧ nt ≤ y) → t' x y = t x y) ∧ (¬ nt + 20 ≤ 400 → v = -1 ∧ t' = xt t 76 0 0))) args s) (t1) [some (.ref (O.size + 76)), some (.int (a1)), some (.int (a2)), some (.int (a3)), some (.int (a4)), some (.int (a5)), some (.int (nI k)), none] 73 [.int v] := by
          intro v hv
          refine g_istore (pc := 73) X dX9_feed_73 (by decide) ?_
          refine g_aload_n (pc := 75) X dX9_feed_75 rfl rfl ?_
          refine gm_getR (k' := 77) (pc := 76) (j := 1) X 9 dX9_feed_76 rfl (by decide) rfl xu_9 (by decide) rfl xw_592 rfl rfl ?_
          refine g_aload_n (pc := 79) X dX9_feed_79 rfl rfl ?_
          refine gm_getI (pc := 80) (j := 2) X 9 dX9_feed_80 rfl (by decide) rfl xu_9 (by decide) rfl xw_593 rfl ?_
          rw [e2]
          refine g_iload (pc := 83) X dX9_feed_83 rfl ?_
          refine g_iadd (pc := 85) X dX9_feed_85 ?_
          refine g_iload (pc := 86) X dX9_feed_86 rfl ?_
          refine g_bipush (pc := 88) (v := 24) X dX9_feed_88 (by decide) ?_
          refine g_bipush (pc := 90) (v := 8) X dX9_feed_90 (by decide) ?_
          refine g_iload (pc := 92) X dX9_feed_92 rfl ?_
          refine g_iconst (pc := 94) (v := 4) X dX9_feed_94 (by decide) ?_
          refine g_irem (pc := 95) X dX9_feed_95 (by decide) ?_
          refine g_imul (pc := 96) X dX9_feed_96 ?_
          refine g_isub (pc := 97) X dX9_feed_97 ?_
          rw [sh_eq k hkl, hv]
          refine g_ishr (pc := 98) X dX9_feed_98 ?_
          refine g_sipush (pc := 99) (v := 255) X dX9_feed_99 (by decide) ?_
          refine g_iand (pc := 102) X dX9_feed_102 ?_
          refine gm_iast (pc := 103) X (nt + k) dX9_feed_103 rfl (nI_add nt k) (show nt + k < 400 from by omega) (by decide) ?_
          refine g_inc (pc := 104) (kv := 1) X dX9_feed_104 (by decide) rfl (by decide) ?_
          refine g_goto (pc := 107) (tgt := 20) X dX9_feed_107 (by decide) ?_
          refine g_wk 7 ?_
          exact ih (k + 1) _ _ (by omega) (nI_1 k) (by omega) hle (by rw [xt_nk _ _ _ _ (by decide)]; exact e2) (fun j hj => by
            by_cases q : j = k
            · subst q; rw [xt_same]; rfl
            · rw [xt_ne _ _ (Or.inr (by omega))]; exact eb j (by omega)) (fun x y q1 q2 => by rw [xt_ne _ _ (by omega)]; exact eo x y q1 q2)
        refine g_iload (pc := 27) X dX9_feed_27 rfl ?_
        refine g_iconst (pc := 29) (v := 4) X dX9_feed_29 (by decide) ?_
        refine g_icmp_ge (pc := 30) (tgt := 37) X dX9_feed_30 (by decide) (fun hc_30 => ?_) (fun hc_30 => ?_)
        · refine g_iload (pc := 37) X dX9_feed_37 rfl ?_
          refine g_bipush (pc := 39) (v := 8) X dX9_feed_39 (by decide) ?_
          refine g_icmp_ge (pc := 41) (tgt := 48) X dX9_feed_41 (by decide) (fun hc_41 => ?_) (fun hc_41 => ?_)
          · refine g_iload (pc := 48) X dX9_feed_48 rfl ?_
            refine g_bipush (pc := 50) (v := 12) X dX9_feed_50 (by decide) ?_
            refine g_icmp_ge (pc := 52) (tgt := 59) X dX9_feed_52 (by decide) (fun hc_52 => ?_) (fun hc_52 => ?_)
            · refine g_iload (pc := 59) X dX9_feed_59 rfl ?_
              refine g_bipush (pc := 61) (v := 16) X dX9_feed_61 (by decide) ?_
              refine g_icmp_ge (pc := 63) (tgt := 71) X dX9_feed_63 (by decide) (fun hc_63 => ?_) (fun hc_63 => ?_)
              · refine g_iload (pc := 71) X dX9_feed_71 rfl ?_
                exact step _ (by unfold ag; have g4 := n_ge (a := 4) (b := k) hc_30; have g8 := n_ge (a := 8) (b := k) hc_41; have g12 := n_ge (a := 12) (b := k) hc_52; have g16 := n_ge (a := 16) (b := k) hc_63; rw [if_neg (by omega), if_neg (by omega), if_neg (by omega), if_neg (by omega)])
              · refine g_iload (pc := 66) X dX9_feed_66 rfl ?_
                refine g_goto (pc := 68) (tgt := 73) X dX9_feed_68 (by decide) ?_
                exact step _ (by unfold ag; have g4 := n_ge (a := 4) (b := k) hc_30; have g8 := n_ge (a := 8) (b := k) hc_41; have g12 := n_ge (a := 12) (b := k) hc_52; have l16 := n_gt (a := 16) (b := k) hc_63; rw [if_neg (by omega), if_neg (by omega), if_neg (by omega), if_pos (by omega)])
            · refine g_iload_n (pc := 55) X dX9_feed_55 rfl rfl ?_
              refine g_goto (pc := 56) (tgt := 73) X dX9_feed_56 (by decide) ?_
              exact step _ (by unfold ag; have g4 := n_ge (a := 4) (b := k) hc_30; have g8 := n_ge (a := 8) (b := k) hc_41; have l12 := n_gt (a := 12) (b := k) hc_52; rw [if_neg (by omega), if_neg (by omega), if_pos (by omega)])
          · refine g_iload_n (pc := 44) X dX9_feed_44 rfl rfl ?_
            refine g_goto (pc := 45) (tgt := 73) X dX9_feed_45 (by decide) ?_
            exact step _ (by unfold ag; have g4 := n_ge (a := 4) (b := k) hc_30; have l8 := n_gt (a := 8) (b := k) hc_41; rw [if_neg (by omega), if_pos (by omega)])
        · refine g_iload_n (pc := 33) X dX9_feed_33 rfl rfl ?_
          refine g_goto (pc := 34) (tgt := 73) X dX9_feed_34 (by decide) ?_
          exact step _ (by unfold ag; have l4 := n_gt (a := 4) (b := k) hc_30; rw [if_pos (by omega)])
  refine g_aload_n (pc := 0) X dX9_feed_0 rfl rfl ?_
  refine g_iconst (pc := 1) (v := 0) X dX9_feed_1 (by decide) ?_
  refine gm_putI (pc := 2) (j := 0) X 9 tyX9 dX9_feed_2 rfl (by decide) rfl xu_9 tyX9_ok nmX9 (by decide) rfl xw_591 rfl rfl (Or.inl rfl) ?_
  refine g_aload_n (pc := 5) X dX9_feed_5 rfl rfl ?_
  refine gm_getI (pc := 6) (j := 2) X 9 dX9_feed_6 rfl (by decide) rfl xu_9 (by decide) rfl xw_593 rfl ?_
  refine g_sipush (pc := 9) (v := 380) X dX9_feed_9 (by decide) ?_
  refine g_icmp_le (pc := 12) (tgt := 17) X dX9_feed_12 (by decide) (fun hc_12 => ?_) (fun hc_12 => ?_)
  · refine g_iconst (pc := 17) (v := 0) X dX9_feed_17 (by decide) ?_
    refine g_istore (pc := 18) X dX9_feed_18 (by decide) ?_
    exact loop 21 0 _ _ (by omega) nI_0.symm (by omega) (by rw [xt_ne _ _ (Or.inr (by decide)), h2] at hc_12; have := n_ge (a := nt) (b := 380) hc_12; omega) (by rw [xt_ne _ _ (Or.inr (by decide))]; exact h2) (fun j hj => absurd hj (Nat.not_lt_zero j)) (fun x y q1 q2 => xt_ne _ _ (by omega))
  · refine g_iconst (pc := 15) (v := (-1)) X dX9_feed_15 (by decide) ?_
    exact gm_iret (pc := 16) X hr hk dX9_feed_16 (⟨fun q => absurd (by rw [xt_ne _ _ (Or.inr (by decide)), h2]; exact nI_le (a := nt) (b := 380) (by omega) (by omega)) hc_12, fun _ => ⟨rfl, rfl⟩⟩)

set_option maxRecDepth 100000 in
set_option maxHeartbeats 4000000 in
theorem m_fault (l : Launch) (G : xg_G) (O : Heap) (t : xT) (n : Int32)  : xm l yX9_fault cX9_fault 2 (some .int) rmX9_fault G O t [.ref (O.size + 76), .int n] (xi (fun v t' => v = (if n = 0 then t 76 5 else if n = 1 then t 76 6 else -1) ∧ t' = xt t 76 0 0)) := by
  refine xm_enter (by decide) 0 rfl rfl ?_
  intro p e s m args below meth c X hr hk
  refine g_eq (L2 := [some (.ref (O.size + 76)), some (.int n)]) rfl rfl rfl ?_
  refine g_aload_n (pc := 0) X dX9_fault_0 rfl rfl ?_
  refine g_iconst (pc := 1) (v := 0) X dX9_fault_1 (by decide) ?_
  refine gm_putI (pc := 2) (j := 0) X 9 tyX9 dX9_fault_2 rfl (by decide) rfl xu_9 tyX9_ok nmX9 (by decide) rfl xw_591 rfl rfl (Or.inl rfl) ?_
  refine g_iload_n (pc := 5) X dX9_fault_5 rfl rfl ?_
  refine g_if_ne (pc := 6) (tgt := 16) X dX9_fault_6 (by decide) (fun hc_6 => ?_) (fun hc_6 => ?_)
  · refine g_iload_n (pc := 16) X dX9_fault_16 rfl rfl ?_
    refine g_iconst (pc := 17) (v := 1) X dX9_fault_17 (by decide) ?_
    refine g_icmp_ne (pc := 18) (tgt := 28) X dX9_fault_18 (by decide) (fun hc_18 => ?_) (fun hc_18 => ?_)
    · refine g_iconst (pc := 28) (v := (-1)) X dX9_fault_28 (by decide) ?_
      exact gm_iret (pc := 29) X hr hk dX9_fault_29 (⟨by rw [if_neg hc_6, if_neg hc_18], rfl⟩)
    · refine g_aload_n (pc := 21) X dX9_fault_21 rfl rfl ?_
      refine gm_getI (pc := 22) (j := 6) X 9 dX9_fault_22 rfl (by decide) rfl xu_9 (by decide) rfl xw_597 rfl ?_
      refine g_goto (pc := 25) (tgt := 29) X dX9_fault_25 (by decide) ?_
      exact gm_iret (pc := 29) X hr hk dX9_fault_29 (⟨by rw [if_neg hc_6, if_pos hc_18, xt_ne _ _ (Or.inr (by decide))], rfl⟩)
  · refine g_aload_n (pc := 9) X dX9_fault_9 rfl rfl ?_
    refine gm_getI (pc := 10) (j := 5) X 9 dX9_fault_10 rfl (by decide) rfl xu_9 (by decide) rfl xw_596 rfl ?_
    refine g_goto (pc := 13) (tgt := 29) X dX9_fault_13 (by decide) ?_
    exact gm_iret (pc := 29) X hr hk dX9_fault_29 (⟨by rw [if_pos hc_6, xt_ne _ _ (Or.inr (by decide))], rfl⟩)

def xfr (t : xT) (k a n : Nat) (v : Int32) : xT := fun x y => if x = k ∧ a ≤ y ∧ y < a + n then v else t x y
theorem xfr_0 (t : xT) (k a : Nat) (v : Int32) : xfr t k a 0 v = t := by
  funext x y; unfold xfr; rw [if_neg (by omega)]
theorem xfr_s (t : xT) (k a n : Nat) (v : Int32) : xt (xfr t k a n v) k (a + n) v = xfr t k a (n + 1) v := by
  funext x y
  unfold xt xfr
  by_cases h : x = k ∧ y = a + n
  · rw [if_pos h, if_pos (by omega)]
  · rw [if_neg h]
    by_cases q : x = k ∧ a ≤ y ∧ y < a + n
    · rw [if_pos q, if_pos (by omega)]
    · rw [if_neg q, if_neg (by omega)]
def hfM (t : xT) (nh : Nat) (q s r : Int32) : xT := xt (xfr (xt (xt (xt t 79 nh q) 80 nh s) 81 nh r) 82 (16 * nh) 16 65535) 76 7 (nI (nh + 1))
set_option maxRecDepth 100000 in
set_option maxHeartbeats 4000000 in
theorem m_half (l : Launch) (G : xg_G) (O : Heap) (t : xT) (nh : Nat) (q s0 r : Int32) (hnh : nh ≤ 8) (h7 : t 76 7 = nI nh) : xm l yX9_half cX9_half 5 (some .int) rmX9_half G O t [.ref (O.size + 76), .int q, .int s0, .int r] (xi (fun v t' => v = (if hfP nh q s0 r then nI nh else -1) ∧ t' = (if hfP nh q s0 r then hfM (xt t 76 0 0) nh q s0 r else xt t 76 0 0))) := by
  refine xm_enter (by decide) 1 rfl rfl ?_
  intro p e s m args below meth c X hr hk
  refine g_eq (L2 := [some (.ref (O.size + 76)), some (.int q), some (.int s0), some (.int r), none]) rfl rfl rfl ?_
  refine g_aload_n (pc := 0) X dX9_half_0 rfl rfl ?_
  refine g_iconst (pc := 1) (v := 0) X dX9_half_1 (by decide) ?_
  refine gm_putI (pc := 2) (j := 0) X 9 tyX9 dX9_half_2 rfl (by decide) rfl xu_9 tyX9_ok nmX9 (by decide) rfl xw_591 rfl rfl (Or.inl rfl) ?_
  generalize hTe : xt t 76 0 0 = T at *
  have eT : ∀ x y, x ≠ 76 ∨ y ≠ 0 → T x y = t x y := fun x y q => by rw [← hTe]; exact xt_ne _ _ q
  have e7 : T 76 7 = nI nh := by rw [eT 76 7 (by decide)]; exact h7
  refine g_iload_n (pc := 5) X dX9_half_5 rfl rfl ?_
  refine g_if_lt (pc := 6) (tgt := 42) X dX9_half_6 (by decide) (fun hc_6 => ?_) (fun hc_6 => ?_)
  · refine g_iconst (pc := 42) (v := (-1)) X dX9_half_42 (by decide) ?_
    exact gm_iret (pc := 43) X hr hk dX9_half_43 (⟨by rw [if_neg (fun q9 => k2_nle hc_6 q9.1.1)], by rw [if_neg (fun q9 => k2_nle hc_6 q9.1.1)]⟩)
  · refine g_iload_n (pc := 9) X dX9_half_9 rfl rfl ?_
    refine g_iconst (pc := 10) (v := 2) X dX9_half_10 (by decide) ?_
    refine g_icmp_gt (pc := 11) (tgt := 42) X dX9_half_11 (by decide) (fun hc_11 => ?_) (fun hc_11 => ?_)
    · refine g_iconst (pc := 42) (v := (-1)) X dX9_half_42 (by decide) ?_
      exact gm_iret (pc := 43) X hr hk dX9_half_43 (⟨by rw [if_neg (fun q9 => k2_nle hc_11 q9.1.2)], by rw [if_neg (fun q9 => k2_nle hc_11 q9.1.2)]⟩)
    · refine g_iload_n (pc := 14) X dX9_half_14 rfl rfl ?_
      refine g_if_lt (pc := 15) (tgt := 42) X dX9_half_15 (by decide) (fun hc_15 => ?_) (fun hc_15 => ?_)
      · refine g_iconst (pc := 42) (v := (-1)) X dX9_half_42 (by decide) ?_
        exact gm_iret (pc := 43) X hr hk dX9_half_43 (⟨by rw [if_neg (fun q9 => k2_nle hc_15 q9.2.1.1)], by rw [if_neg (fun q9 => k2_nle hc_15 q9.2.1.1)]⟩)
      · refine g_iload_n (pc := 18) X dX9_half_18 rfl rfl ?_
        refine g_iconst (pc := 19) (v := 1) X dX9_half_19 (by decide) ?_
        refine g_icmp_gt (pc := 20) (tgt := 42) X dX9_half_20 (by decide) (fun hc_20 => ?_) (fun hc_20 => ?_)
        · refine g_iconst (pc := 42) (v := (-1)) X dX9_half_42 (by decide) ?_
          exact gm_iret (pc := 43) X hr hk dX9_half_43 (⟨by rw [if_neg (fun q9 => k2_nle hc_20 q9.2.1.2)], by rw [if_neg (fun q9 => k2_nle hc_20 q9.2.1.2)]⟩)
        · refine g_iload_n (pc := 23) X dX9_half_23 rfl rfl ?_
          refine g_if_lt (pc := 24) (tgt := 42) X dX9_half_24 (by decide) (fun hc_24 => ?_) (fun hc_24 => ?_)
          · refine g_iconst (pc := 42) (v := (-1)) X dX9_half_42 (by decide) ?_
            exact gm_iret (pc := 43) X hr hk dX9_half_43 (⟨by rw [if_neg (fun q9 => k2_nle hc_24 q9.2.2.1.1)], by rw [if_neg (fun q9 => k2_nle hc_24 q9.2.2.1.1)]⟩)
          · refine g_iload_n (pc := 27) X dX9_half_27 rfl rfl ?_
            refine g_bipush (pc := 28) (v := 9) X dX9_half_28 (by decide) ?_
            refine g_icmp_gt (pc := 30) (tgt := 42) X dX9_half_30 (by decide) (fun hc_30 => ?_) (fun hc_30 => ?_)
            · refine g_iconst (pc := 42) (v := (-1)) X dX9_half_42 (by decide) ?_
              exact gm_iret (pc := 43) X hr hk dX9_half_43 (⟨by rw [if_neg (fun q9 => k2_nle hc_30 q9.2.2.1.2)], by rw [if_neg (fun q9 => k2_nle hc_30 q9.2.2.1.2)]⟩)
            · refine g_aload_n (pc := 33) X dX9_half_33 rfl rfl ?_
              refine gm_getI (pc := 34) (j := 7) X 9 dX9_half_34 rfl (by decide) rfl xu_9 (by decide) rfl xw_598 rfl ?_
              refine g_bipush (pc := 37) (v := 8) X dX9_half_37 (by decide) ?_
              refine g_icmp_ne (pc := 39) (tgt := 44) X dX9_half_39 (by decide) (fun hc_39 => ?_) (fun hc_39 => ?_)
              · have hlt : nh < 8 := by rcases Nat.lt_or_ge nh 8 with z | z; exact z; exact absurd (by rw [e7, show nh = 8 by omega]; rfl) hc_39
                have hP : hfP nh q s0 r := ⟨⟨k2_le hc_6, k2_le hc_11⟩, ⟨k2_le hc_15, k2_le hc_20⟩, ⟨k2_le hc_24, k2_le hc_30⟩, hlt⟩
                rw [if_pos hP, if_pos hP]
                have loop : ∀ (z9 : Nat) (k : Nat) (xk : Int32) (t1 : xT), 16 - k < z9 → xk = nI k → t1 = xfr (xt (xt (xt T 79 nh q) 80 nh s0) 81 nh r) 82 (16 * nh) k 65535 → k ≤ 16 → gm p l e rmX9_half s m args below meth c 5 G O (xmQ below G O (xi (fun v t' => v = nI nh ∧ t' = hfM T nh q s0 r)) args s) (t1) [some (.ref (O.size + 76)), some (.int (q)), some (.int (s0)), some (.int (r)), some (.int (xk))] 77 [] := by
                  intro z9
                  induction z9 with
                  | zero => intro k xk t1 h9; exact absurd h9 (Nat.not_lt_zero _)
                  | succ z9 ih =>
                    intro k xk t1 h9 hxk ht1 hk16
                    subst hxk
                    subst ht1
                    have e77 : xfr (xt (xt (xt T 79 nh q) 80 nh s0) 81 nh r) 82 (16 * nh) k 65535 76 7 = nI nh := by rw [show ∀ U : xT, xfr U 82 (16 * nh) k 65535 76 7 = U 76 7 from fun U => by unfold xfr; rw [if_neg (by omega)], xt_nk _ _ _ _ (by decide), xt_nk _ _ _ _ (by decide), xt_nk _ _ _ _ (by decide)]; exact e7
                    refine g_iload (pc := 77) X dX9_half_77 rfl ?_
                    refine g_bipush (pc := 79) (v := 16) X dX9_half_79 (by decide) ?_
                    refine g_icmp_ge (pc := 81) (tgt := 107) X dX9_half_81 (by decide) (fun hc_81 => ?_) (fun hc_81 => ?_)
                    · have hk9 : k = 16 := by have := n_ge (a := 16) (b := k) hc_81; omega
                      subst hk9
                      refine g_aload_n (pc := 107) X dX9_half_107 rfl rfl ?_
                      refine g_dup (pc := 108) X dX9_half_108 rfl ?_
                      refine gm_getI (pc := 109) (j := 7) X 9 dX9_half_109 rfl (by decide) rfl xu_9 (by decide) rfl xw_598 rfl ?_
                      rw [e77]
                      refine g_iconst (pc := 112) (v := 1) X dX9_half_112 (by decide) ?_
                      refine g_iadd (pc := 113) X dX9_half_113 ?_
                      rw [nI_1]
                      refine gm_putI (pc := 114) (j := 7) X 9 tyX9 dX9_half_114 rfl (by decide) rfl xu_9 tyX9_ok nmX9 (by decide) rfl xw_598 rfl rfl (Or.inl rfl) ?_
                      refine g_aload_n (pc := 117) X dX9_half_117 rfl rfl ?_
                      refine gm_getI (pc := 118) (j := 7) X 9 dX9_half_118 rfl (by decide) rfl xu_9 (by decide) rfl xw_598 rfl ?_
                      refine g_iconst (pc := 121) (v := 1) X dX9_half_121 (by decide) ?_
                      refine g_isub (pc := 122) X dX9_half_122 ?_
                      exact gm_iret (pc := 123) X hr hk dX9_half_123 (⟨by rw [xt_same]; exact nI_pred nh, rfl⟩)
                    · have hkl : k < 16 := n_gt (a := 16) (b := k) hc_81
                      refine g_aload_n (pc := 84) X dX9_half_84 rfl rfl ?_
                      refine gm_getR (k' := 82) (pc := 85) (j := 11) X 9 dX9_half_85 rfl (by decide) rfl xu_9 (by decide) rfl xw_602 rfl rfl ?_
                      refine g_bipush (pc := 88) (v := 16) X dX9_half_88 (by decide) ?_
                      refine g_aload_n (pc := 90) X dX9_half_90 rfl rfl ?_
                      refine gm_getI (pc := 91) (j := 7) X 9 dX9_half_91 rfl (by decide) rfl xu_9 (by decide) rfl xw_598 rfl ?_
                      rw [e77]
                      refine g_imul (pc := 94) X dX9_half_94 ?_
                      refine g_iload (pc := 95) X dX9_half_95 rfl ?_
                      refine g_iadd (pc := 97) X dX9_half_97 ?_
                      refine g_ldc (pc := 98) X dX9_half_98 xw_705 ?_
                      refine gm_iast (pc := 100) X (16 * nh + k) dX9_half_100 rfl (idx16 nh k) (show 16 * nh + k < 128 from by omega) (by decide) ?_
                      refine g_inc (pc := 101) (kv := 1) X dX9_half_101 (by decide) rfl (by decide) ?_
                      refine g_goto (pc := 104) (tgt := 77) X dX9_half_104 (by decide) ?_
                      exact ih (k + 1) _ _ (by omega) (nI_1 k) (xfr_s _ _ _ _ _) (by omega)
                refine g_aload_n (pc := 44) X dX9_half_44 rfl rfl ?_
                refine gm_getR (k' := 79) (pc := 45) (j := 8) X 9 dX9_half_45 rfl (by decide) rfl xu_9 (by decide) rfl xw_599 rfl rfl ?_
                refine g_aload_n (pc := 48) X dX9_half_48 rfl rfl ?_
                refine gm_getI (pc := 49) (j := 7) X 9 dX9_half_49 rfl (by decide) rfl xu_9 (by decide) rfl xw_598 rfl ?_
                refine g_iload_n (pc := 52) X dX9_half_52 rfl rfl ?_
                refine gm_iast (pc := 53) X (nh) dX9_half_53 rfl e7 (show nh < 8 from by omega) (by decide) ?_
                refine g_aload_n (pc := 54) X dX9_half_54 rfl rfl ?_
                refine gm_getR (k' := 80) (pc := 55) (j := 9) X 9 dX9_half_55 rfl (by decide) rfl xu_9 (by decide) rfl xw_600 rfl rfl ?_
                refine g_aload_n (pc := 58) X dX9_half_58 rfl rfl ?_
                refine gm_getI (pc := 59) (j := 7) X 9 dX9_half_59 rfl (by decide) rfl xu_9 (by decide) rfl xw_598 rfl ?_
                refine g_iload_n (pc := 62) X dX9_half_62 rfl rfl ?_
                refine gm_iast (pc := 63) X (nh) dX9_half_63 rfl (by rw [xt_nk _ _ _ _ (by decide)]; exact e7) (show nh < 8 from by omega) (by decide) ?_
                refine g_aload_n (pc := 64) X dX9_half_64 rfl rfl ?_
                refine gm_getR (k' := 81) (pc := 65) (j := 10) X 9 dX9_half_65 rfl (by decide) rfl xu_9 (by decide) rfl xw_601 rfl rfl ?_
                refine g_aload_n (pc := 68) X dX9_half_68 rfl rfl ?_
                refine gm_getI (pc := 69) (j := 7) X 9 dX9_half_69 rfl (by decide) rfl xu_9 (by decide) rfl xw_598 rfl ?_
                refine g_iload_n (pc := 72) X dX9_half_72 rfl rfl ?_
                refine gm_iast (pc := 73) X (nh) dX9_half_73 rfl (by rw [xt_nk _ _ _ _ (by decide), xt_nk _ _ _ _ (by decide)]; exact e7) (show nh < 8 from by omega) (by decide) ?_
                refine g_iconst (pc := 74) (v := 0) X dX9_half_74 (by decide) ?_
                refine g_istore (pc := 75) X dX9_half_75 (by decide) ?_
                exact loop 17 0 _ _ (by omega) nI_0.symm (xfr_0 _ _ _ _).symm (by omega)
              · refine g_iconst (pc := 42) (v := (-1)) X dX9_half_42 (by decide) ?_
                exact gm_iret (pc := 43) X hr hk dX9_half_43 (⟨by rw [if_neg (fun q9 => absurd q9.2.2.2 (by rw [e7] at hc_39; have := (nI_eq (b := 8) (by omega) (by omega)).mp hc_39; omega))], by rw [if_neg (fun q9 => absurd q9.2.2.2 (by rw [e7] at hc_39; have := (nI_eq (b := 8) (by omega) (by omega)).mp hc_39; omega))]⟩)

set_option maxRecDepth 100000 in
set_option maxHeartbeats 4000000 in
theorem m_list (l : Launch) (G : xg_G) (O : Heap) (t : xT) (nh : Nat) (h f s0 : Int32) (hnh : nh ≤ 8) (h7 : t 76 7 = nI nh) : xm l yX9_list cX9_list 5 (some .int) rmX9_list G O t [.ref (O.size + 76), .int h, .int f, .int s0] (xi (fun v t' => v = (if spP nh h f s0 then t 82 (16 * h.toNatClampNeg + spI f s0) else -1) ∧ t' = xt t 76 0 0)) := by
  refine xm_enter (by decide) 1 rfl rfl ?_
  intro p e s m args below meth c X hr hk
  refine g_eq (L2 := [some (.ref (O.size + 76)), some (.int h), some (.int f), some (.int s0), none]) rfl rfl rfl ?_
  refine g_aload_n (pc := 0) X dX9_list_0 rfl rfl ?_
  refine g_iconst (pc := 1) (v := 0) X dX9_list_1 (by decide) ?_
  refine gm_putI (pc := 2) (j := 0) X 9 tyX9 dX9_list_2 rfl (by decide) rfl xu_9 tyX9_ok nmX9 (by decide) rfl xw_591 rfl rfl (Or.inl rfl) ?_
  generalize hTe : xt t 76 0 0 = T at *
  have eT : ∀ x y, x ≠ 76 ∨ y ≠ 0 → T x y = t x y := fun x y q => by rw [← hTe]; exact xt_ne _ _ q
  have e7 : T 76 7 = nI nh := by rw [eT 76 7 (by decide)]; exact h7
  refine g_aload_n (pc := 5) X dX9_list_5 rfl rfl ?_
  refine g_iload_n (pc := 6) X dX9_list_6 rfl rfl ?_
  refine g_iload_n (pc := 7) X dX9_list_7 rfl rfl ?_
  refine g_iload_n (pc := 8) X dX9_list_8 rfl rfl ?_
  refine gm_Vi (pc := 9) X 9 xc_X9_96 (m_spotAt l G O _ nh h f s0 hnh e7) dX9_list_9 rfl (by decide) rfl rfl rfl rfl (Nat.le_of_ble_eq_true rfl) (fun v_9 t_9 hp => ?_)
  obtain ⟨hvs, hq9⟩ := hp
  have hq9 := hq9.symm
  subst hq9
  refine g_istore (pc := 12) X dX9_list_12 (by decide) ?_
  refine g_iload (pc := 14) X dX9_list_14 rfl ?_
  refine g_iconst (pc := 16) (v := (-1)) X dX9_list_16 (by decide) ?_
  refine g_icmp_ne (pc := 17) (tgt := 24) X dX9_list_17 (by decide) (fun hc_17 => ?_) (fun hc_17 => ?_)
  · have hsp : spP nh h f s0 := by by_cases q : spP nh h f s0; exact q; rw [if_neg q] at hvs; exact absurd hvs hc_17
    rw [if_pos hsp] at hvs ⊢
    subst hvs
    obtain ⟨k, a, b, hk1, ha, hb1, rfl, rfl, rfl⟩ := sp_of hnh hsp
    have eI : 16 * (nI k).toNatClampNeg + spI (nI a) (nI b) = 16 * k + (8 * a + b) := by show 16 * (nI k).toNatClampNeg + (8 * (nI a).toNatClampNeg + (nI b).toNatClampNeg) = _; rw [nI_clamp (by omega), nI_clamp (by omega), nI_clamp (by omega)]
    rw [eI]
    refine g_aload_n (pc := 24) X dX9_list_24 rfl rfl ?_
    refine gm_getR (k' := 82) (pc := 25) (j := 11) X 9 dX9_list_25 rfl (by decide) rfl xu_9 (by decide) rfl xw_602 rfl rfl ?_
    refine g_iload (pc := 28) X dX9_list_28 rfl ?_
    refine gm_iald (pc := 30) X (16 * k + (8 * a + b)) dX9_list_30 rfl rfl (show 16 * k + (8 * a + b) < 128 from by omega) (by decide) ?_
    exact gm_iret (pc := 31) X hr hk dX9_list_31 (⟨by rw [eT 82 _ (Or.inl (by decide))], rfl⟩)
  · refine g_iconst (pc := 20) (v := (-1)) X dX9_list_20 (by decide) ?_
    refine g_goto (pc := 21) (tgt := 31) X dX9_list_21 (by decide) ?_
    exact gm_iret (pc := 31) X hr hk dX9_list_31 (⟨(if_neg (fun q => by rw [if_pos q] at hvs; rw [hc_17] at hvs; exact nm1 (k := 16 * h.toNatClampNeg + spI f s0) (by obtain ⟨k, a, b, hk1, ha, hb1, rfl, rfl, rfl⟩ := sp_of hnh q; show 16 * (nI k).toNatClampNeg + (8 * (nI a).toNatClampNeg + (nI b).toNatClampNeg) < _; rw [nI_clamp (by omega), nI_clamp (by omega), nI_clamp (by omega)]; omega) hvs.symm)).symm, rfl⟩)

theorem sp_lt {nh : Nat} {h f s : Int32} (hnh : nh ≤ 8) (q : spP nh h f s) : 16 * h.toNatClampNeg + spI f s < 128 := by
  obtain ⟨k, a, b, hk1, ha, hb1, rfl, rfl, rfl⟩ := sp_of hnh q
  show 16 * (nI k).toNatClampNeg + (8 * (nI a).toNatClampNeg + (nI b).toNatClampNeg) < 128
  rw [nI_clamp (by omega), nI_clamp (by omega), nI_clamp (by omega)]; omega
def bcm (x : Int32) : Nat → Int32
  | 0 => 0
  | n + 1 => bcm x n + ((x >>> (nI n &&& 31)) &&& 1)
abbrev lgM (t : xT) (h f s x : Int32) : Int32 := t 82 (16 * h.toNatClampNeg + spI f s) &&& x
set_option maxRecDepth 100000 in
set_option maxHeartbeats 4000000 in
theorem m_light (l : Launch) (G : xg_G) (O : Heap) (t : xT) (nh : Nat) (h f s0 x : Int32) (hnh : nh ≤ 8) (h7 : t 76 7 = nI nh) : xm l yX9_light cX9_light 9 (some .int) rmX9_light G O t [.ref (O.size + 76), .int h, .int f, .int s0, .int x] (xi (fun v t' => (¬ lgP nh h f s0 x → v = -1 ∧ t' = xt t 76 0 0) ∧ (lgP nh h f s0 x → lgM t h f s0 x = 0 → v = -2 ∧ t' = xt (xt t 76 0 0) 76 12 (t 76 12 + 1)) ∧ (lgP nh h f s0 x → ¬ lgM t h f s0 x = 0 → v = bcm (lgM t h f s0 x) 16 ∧ t' = xt (xt t 76 0 0) 82 (16 * h.toNatClampNeg + spI f s0) (lgM t h f s0 x)))) := by
  refine xm_enter (by decide) 4 rfl rfl ?_
  intro p e s m args below meth c X hr hk
  refine g_eq (L2 := [some (.ref (O.size + 76)), some (.int h), some (.int f), some (.int s0), some (.int x), none, none, none, none]) rfl rfl rfl ?_
  refine g_aload_n (pc := 0) X dX9_light_0 rfl rfl ?_
  refine g_iconst (pc := 1) (v := 0) X dX9_light_1 (by decide) ?_
  refine gm_putI (pc := 2) (j := 0) X 9 tyX9 dX9_light_2 rfl (by decide) rfl xu_9 tyX9_ok nmX9 (by decide) rfl xw_591 rfl rfl (Or.inl rfl) ?_
  generalize hTe : xt t 76 0 0 = T at *
  have eT : ∀ x y, x ≠ 76 ∨ y ≠ 0 → T x y = t x y := fun x y q => by rw [← hTe]; exact xt_ne _ _ q
  have e7 : T 76 7 = nI nh := by rw [eT 76 7 (by decide)]; exact h7
  refine g_aload_n (pc := 5) X dX9_light_5 rfl rfl ?_
  refine g_iload_n (pc := 6) X dX9_light_6 rfl rfl ?_
  refine g_iload_n (pc := 7) X dX9_light_7 rfl rfl ?_
  refine g_iload_n (pc := 8) X dX9_light_8 rfl rfl ?_
  refine gm_Vi (pc := 9) X 9 xc_X9_96 (m_spotAt l G O _ nh h f s0 hnh e7) dX9_light_9 rfl (by decide) rfl rfl rfl rfl (Nat.le_of_ble_eq_true rfl) (fun v_9 t_9 hp => ?_)
  obtain ⟨hvs, hq9⟩ := hp
  have hq9 := hq9.symm
  subst hq9
  refine g_istore (pc := 12) X dX9_light_12 (by decide) ?_
  refine g_iload (pc := 14) X dX9_light_14 rfl ?_
  refine g_iconst (pc := 16) (v := (-1)) X dX9_light_16 (by decide) ?_
  refine g_icmp_eq (pc := 17) (tgt := 33) X dX9_light_17 (by decide) (fun hc_17 => ?_) (fun hc_17 => ?_)
  · refine g_iconst (pc := 33) (v := (-1)) X dX9_light_33 (by decide) ?_
    exact gm_iret (pc := 34) X hr hk dX9_light_34 (⟨fun _ => ⟨rfl, rfl⟩, fun q => absurd q (fun q8 => by rw [if_pos q8.1, hc_17] at hvs; exact nm1 (by have := sp_lt hnh q8.1; omega) hvs.symm), fun q => absurd q (fun q8 => by rw [if_pos q8.1, hc_17] at hvs; exact nm1 (by have := sp_lt hnh q8.1; omega) hvs.symm)⟩)
  · refine g_iload (pc := 20) X dX9_light_20 rfl ?_
    refine g_iconst (pc := 22) (v := 1) X dX9_light_22 (by decide) ?_
    refine g_icmp_lt (pc := 23) (tgt := 33) X dX9_light_23 (by decide) (fun hc_23 => ?_) (fun hc_23 => ?_)
    · refine g_iconst (pc := 33) (v := (-1)) X dX9_light_33 (by decide) ?_
      exact gm_iret (pc := 34) X hr hk dX9_light_34 (⟨fun _ => ⟨rfl, rfl⟩, fun q => absurd q (fun q8 => absurd q8.2.1 (k2_nle hc_23)), fun q => absurd q (fun q8 => absurd q8.2.1 (k2_nle hc_23))⟩)
    · refine g_iload (pc := 26) X dX9_light_26 rfl ?_
      refine g_ldc (pc := 28) X dX9_light_28 xw_705 ?_
      refine g_icmp_le (pc := 30) (tgt := 35) X dX9_light_30 (by decide) (fun hc_30 => ?_) (fun hc_30 => ?_)
      · have hsp : spP nh h f s0 := by by_cases q : spP nh h f s0; exact q; rw [if_neg q] at hvs; exact absurd hvs hc_17
        have hlg : lgP nh h f s0 x := ⟨hsp, k2_le hc_23, hc_30⟩
        rw [if_pos hsp] at hvs
        subst hvs
        have hlt := sp_lt hnh hsp
        have eL : T 82 (16 * h.toNatClampNeg + spI f s0) &&& x = lgM t h f s0 x := by rw [eT 82 _ (Or.inl (by decide))]
        refine g_aload_n (pc := 35) X dX9_light_35 rfl rfl ?_
        refine gm_getR (k' := 82) (pc := 36) (j := 11) X 9 dX9_light_36 rfl (by decide) rfl xu_9 (by decide) rfl xw_602 rfl rfl ?_
        refine g_iload (pc := 39) X dX9_light_39 rfl ?_
        refine gm_iald (pc := 41) X (16 * h.toNatClampNeg + spI f s0) dX9_light_41 rfl rfl (show 16 * h.toNatClampNeg + spI f s0 < 128 from by omega) (by decide) ?_
        refine g_iload (pc := 42) X dX9_light_42 rfl ?_
        refine g_iand (pc := 44) X dX9_light_44 ?_
        rw [eL]
        refine g_istore (pc := 45) X dX9_light_45 (by decide) ?_
        refine g_iload (pc := 47) X dX9_light_47 rfl ?_
        refine g_if_ne (pc := 49) (tgt := 65) X dX9_light_49 (by decide) (fun hc_49 => ?_) (fun hc_49 => ?_)
        · refine g_aload_n (pc := 65) X dX9_light_65 rfl rfl ?_
          refine gm_getR (k' := 82) (pc := 66) (j := 11) X 9 dX9_light_66 rfl (by decide) rfl xu_9 (by decide) rfl xw_602 rfl rfl ?_
          refine g_iload (pc := 69) X dX9_light_69 rfl ?_
          refine g_iload (pc := 71) X dX9_light_71 rfl ?_
          refine gm_iast (pc := 73) X (16 * h.toNatClampNeg + spI f s0) dX9_light_73 rfl rfl (show 16 * h.toNatClampNeg + spI f s0 < 128 from by omega) (by decide) ?_
          refine g_iconst (pc := 74) (v := 0) X dX9_light_74 (by decide) ?_
          refine g_istore (pc := 75) X dX9_light_75 (by decide) ?_
          refine g_iconst (pc := 77) (v := 0) X dX9_light_77 (by decide) ?_
          refine g_istore (pc := 78) X dX9_light_78 (by decide) ?_
          have loop : ∀ (z9 : Nat) (k : Nat) (xk : Int32) (xs : Int32), 16 - k < z9 → xk = nI k → xs = bcm (lgM t h f s0 x) k → k ≤ 16 → gm p l e rmX9_light s m args below meth c 9 G O (xmQ below G O (xi (fun v t' => (¬ lgP nh h f s0 x → v = -1 ∧ t' = T) ∧ (lgP nh h f s0 x → lgM t h f s0 x = 0 → v = -2 ∧ t' = xt (T) 76 12 (t 76 12 + 1)) ∧ (lgP nh h f s0 x → ¬ lgM t h f s0 x = 0 → v = bcm (lgM t h f s0 x) 16 ∧ t' = xt (T) 82 (16 * h.toNatClampNeg + spI f s0) (lgM t h f s0 x)))) args s) (xt T 82 (16 * h.toNatClampNeg + spI f s0) (lgM t h f s0 x)) [some (.ref (O.size + 76)), some (.int (h)), some (.int (f)), some (.int (s0)), some (.int (x)), some (.int (nI (16 * h.toNatClampNeg + spI f s0))), some (.int (lgM t h f s0 x)), some (.int (xs)), some (.int (xk))] 80 [] := by
            intro z9
            induction z9 with
            | zero => intro k xk xs h9; exact absurd h9 (Nat.not_lt_zero _)
            | succ z9 ih =>
              intro k xk xs h9 hxk hxs hk16
              subst hxk
              refine g_iload (pc := 80) X dX9_light_80 rfl ?_
              refine g_bipush (pc := 82) (v := 16) X dX9_light_82 (by decide) ?_
              refine g_icmp_ge (pc := 84) (tgt := 105) X dX9_light_84 (by decide) (fun hc_84 => ?_) (fun hc_84 => ?_)
              · refine g_iload (pc := 105) X dX9_light_105 rfl ?_
                exact gm_iret (pc := 107) X hr hk dX9_light_107 (⟨fun q => absurd hlg q, fun _ q => absurd q hc_49, fun _ _ => ⟨by rw [hxs, show k = 16 by have := n_ge (a := 16) (b := k) hc_84; omega], rfl⟩⟩)
              · refine g_iload (pc := 87) X dX9_light_87 rfl ?_
                refine g_iload (pc := 89) X dX9_light_89 rfl ?_
                refine g_iload (pc := 91) X dX9_light_91 rfl ?_
                refine g_ishr (pc := 93) X dX9_light_93 ?_
                refine g_iconst (pc := 94) (v := 1) X dX9_light_94 (by decide) ?_
                refine g_iand (pc := 95) X dX9_light_95 ?_
                refine g_iadd (pc := 96) X dX9_light_96 ?_
                refine g_istore (pc := 97) X dX9_light_97 (by decide) ?_
                refine g_inc (pc := 99) (kv := 1) X dX9_light_99 (by decide) rfl (by decide) ?_
                refine g_goto (pc := 102) (tgt := 80) X dX9_light_102 (by decide) ?_
                exact ih (k + 1) _ _ (by have := n_gt (a := 16) (b := k) hc_84; omega) (nI_1 k) (by rw [hxs, bcm.eq_2]) (by have := n_gt (a := 16) (b := k) hc_84; omega)
          exact loop 17 0 _ _ (by omega) nI_0.symm rfl (by omega)
        · refine g_aload_n (pc := 52) X dX9_light_52 rfl rfl ?_
          refine g_dup (pc := 53) X dX9_light_53 rfl ?_
          refine gm_getI (pc := 54) (j := 12) X 9 dX9_light_54 rfl (by decide) rfl xu_9 (by decide) rfl xw_603 rfl ?_
          refine g_iconst (pc := 57) (v := 1) X dX9_light_57 (by decide) ?_
          refine g_iadd (pc := 58) X dX9_light_58 ?_
          refine gm_putI (pc := 59) (j := 12) X 9 tyX9 dX9_light_59 rfl (by decide) rfl xu_9 tyX9_ok nmX9 (by decide) rfl xw_603 rfl rfl (Or.inl rfl) ?_
          refine g_bipush (pc := 62) (v := (-2)) X dX9_light_62 (by decide) ?_
          exact gm_iret (pc := 64) X hr hk dX9_light_64 (⟨fun q => absurd hlg q, fun _ _ => ⟨rfl, by rw [eT 76 12 (by decide)]⟩, fun _ q => absurd hc_49 q⟩)
      · refine g_iconst (pc := 33) (v := (-1)) X dX9_light_33 (by decide) ?_
        exact gm_iret (pc := 34) X hr hk dX9_light_34 (⟨fun _ => ⟨rfl, rfl⟩, fun q => absurd q (fun q8 => hc_30 q8.2.2), fun q => absurd q (fun q8 => hc_30 q8.2.2)⟩)

set_option maxRecDepth 100000 in
set_option maxHeartbeats 4000000 in
theorem m_price (l : Launch) (G : xg_G) (O : Heap) (t : xT) (n : Int32)  : xm l yX9_price cX9_price 2 (some .boolean) rmX9_price G O t [.ref (O.size + 76), .int n] (xi (fun v t' => v = bi (0 ≤ n ∧ n ≤ 99) ∧ t' = (if 0 ≤ n ∧ n ≤ 99 then xt (xt t 76 0 0) 76 17 n else xt t 76 0 0))) := by
  refine xm_enter (by decide) 0 rfl rfl ?_
  intro p e s m args below meth c X hr hk
  refine g_eq (L2 := [some (.ref (O.size + 76)), some (.int n)]) rfl rfl rfl ?_
  refine g_aload_n (pc := 0) X dX9_price_0 rfl rfl ?_
  refine g_iconst (pc := 1) (v := 0) X dX9_price_1 (by decide) ?_
  refine gm_putI (pc := 2) (j := 0) X 9 tyX9 dX9_price_2 rfl (by decide) rfl xu_9 tyX9_ok nmX9 (by decide) rfl xw_591 rfl rfl (Or.inl rfl) ?_
  refine g_iload_n (pc := 5) X dX9_price_5 rfl rfl ?_
  refine g_if_lt (pc := 6) (tgt := 15) X dX9_price_6 (by decide) (fun hc_6 => ?_) (fun hc_6 => ?_)
  · refine g_iconst (pc := 15) (v := 0) X dX9_price_15 (by decide) ?_
    exact gm_zret (pc := 16) X hr hk dX9_price_16 (by first | exact Or.inl rfl | exact Or.inr rfl) (⟨(bi_f (fun q => k2_nle hc_6 q.1)).symm, (if_neg (fun q => k2_nle hc_6 q.1)).symm⟩)
  · refine g_iload_n (pc := 9) X dX9_price_9 rfl rfl ?_
    refine g_bipush (pc := 10) (v := 99) X dX9_price_10 (by decide) ?_
    refine g_icmp_le (pc := 12) (tgt := 17) X dX9_price_12 (by decide) (fun hc_12 => ?_) (fun hc_12 => ?_)
    · refine g_aload_n (pc := 17) X dX9_price_17 rfl rfl ?_
      refine g_iload_n (pc := 18) X dX9_price_18 rfl rfl ?_
      refine gm_putI (pc := 19) (j := 17) X 9 tyX9 dX9_price_19 rfl (by decide) rfl xu_9 tyX9_ok nmX9 (by decide) rfl xw_608 rfl rfl (Or.inl rfl) ?_
      refine g_iconst (pc := 22) (v := 1) X dX9_price_22 (by decide) ?_
      exact gm_zret (pc := 23) X hr hk dX9_price_23 (by first | exact Or.inl rfl | exact Or.inr rfl) (⟨(bi_t ⟨k2_le hc_6, hc_12⟩).symm, (if_pos ⟨k2_le hc_6, hc_12⟩).symm⟩)
    · refine g_iconst (pc := 15) (v := 0) X dX9_price_15 (by decide) ?_
      exact gm_zret (pc := 16) X hr hk dX9_price_16 (by first | exact Or.inl rfl | exact Or.inr rfl) (⟨(bi_f (fun q => hc_12 q.2)).symm, (if_neg (fun q => hc_12 q.2)).symm⟩)

/-- starts that differ in a best that is none give the same best -/
def eqv (a b : B4) : Prop := a.2.2.2 = b.2.2.2 ∧ (¬ a.2.2.2 = -1 → a = b)
theorem tw_eqv {u l : Int32} {f : Nat → Int32} {a b : B4} (h : eqv a b) : ∀ {n : Nat}, eqv (tw u l f n a) (tw u l f n b)
  | 0 => h
  | n + 1 => by
    have ih := tw_eqv (u := u) (l := l) (f := f) h (n := n)
    rw [tw.eq_2, tw.eq_2, ← ih.1]
    split
    · exact ⟨rfl, fun _ => rfl⟩
    · exact ih
theorem trg_eqv {pt : Nat → Int32} {F : Option Nat → Option Nat → Nat → Int32} {pl : Nat} {u v : Option Nat} {a b : B4} (h : eqv a b) : eqv (trg pt F pl u v a) (trg pt F pl u v b) := by
  unfold trg
  split
  · exact tw_eqv h
  · exact h
theorem bsg_eqv {pt sd rl : Nat → Int32} {F : Option Nat → Option Nat → Nat → Int32} {pl x y : Nat} {a b : B4} (h : eqv a b) : eqv (bsg pt sd rl F pl x y a) (bsg pt sd rl F pl x y b) := by
  unfold bsg
  split
  · exact trg_eqv (trg_eqv h)
  · split
    · exact trg_eqv (trg_eqv h)
    · exact h
abbrev bsN (t : xT) (pl a b : Nat) : B4 := bsg (t 79) (t 80) (t 81) (fM t) pl (min a b) (max a b) (-1, -1, -1, -1)
theorem bsM_N (t : xT) (pl a b : Nat) : eqv (bsM t pl a b) (bsN t pl a b) := bsg_eqv ⟨rfl, fun h => absurd rfl h⟩
set_option maxRecDepth 100000 in
set_option maxHeartbeats 4000000 in
theorem m_best (l : Launch) (G : xg_G) (O : Heap) (t : xT) (nl nh : Nat) (a b w : Int32) (hnl : nl ≤ 160) (h4 : t 76 4 = nI nl) (hnh : nh ≤ 8) (h7 : t 76 7 = nI nh) : xm l yX9_best cX9_best 4 (some .int) rmX9_best G O t [.ref (O.size + 76), .int a, .int b, .int w] (xi (fun v t' => v = (if (0 ≤ a ∧ a < nI nh) ∧ (0 ≤ b ∧ b < nI nh) ∧ ¬ (bsN t (nl - 31) a.toNatClampNeg b.toNatClampNeg).2.2.2 = -1 then (if w = nI 0 then (bsN t (nl - 31) a.toNatClampNeg b.toNatClampNeg).2.2.2 else if w = nI 1 then (bsN t (nl - 31) a.toNatClampNeg b.toNatClampNeg).2.2.1 else if w = nI 2 then (bsN t (nl - 31) a.toNatClampNeg b.toNatClampNeg).1 else -1) else -1) ∧ ∀ x y, ¬ (x = 76 ∧ (y = 0 ∨ (13 ≤ y ∧ y ≤ 16))) → t' x y = t x y)) := by
  refine xm_enter (by decide) 0 rfl rfl ?_
  intro p e s m args below meth c X hr hk
  refine g_eq (L2 := [some (.ref (O.size + 76)), some (.int a), some (.int b), some (.int w)]) rfl rfl rfl ?_
  refine g_aload_n (pc := 0) X dX9_best_0 rfl rfl ?_
  refine g_iconst (pc := 1) (v := 0) X dX9_best_1 (by decide) ?_
  refine gm_putI (pc := 2) (j := 0) X 9 tyX9 dX9_best_2 rfl (by decide) rfl xu_9 tyX9_ok nmX9 (by decide) rfl xw_591 rfl rfl (Or.inl rfl) ?_
  generalize hTe : xt t 76 0 0 = T at *
  have eT : ∀ x y, x ≠ 76 ∨ y ≠ 0 → T x y = t x y := fun x y q => by rw [← hTe]; exact xt_ne _ _ q
  have e7 : T 76 7 = nI nh := by rw [eT 76 7 (by decide)]; exact h7
  have e4 : T 76 4 = nI nl := by rw [eT 76 4 (by decide)]; exact h4
  refine g_aload_n (pc := 5) X dX9_best_5 rfl rfl ?_
  refine g_iload_n (pc := 6) X dX9_best_6 rfl rfl ?_
  refine gm_Vi (pc := 7) X 9 xc_X9_92 (m_isHalf l G O _ nh a hnh e7) dX9_best_7 rfl (by decide) rfl rfl rfl rfl (Nat.le_of_ble_eq_true rfl) (fun v_7 t_7 hp => ?_)
  obtain ⟨rfl, hq9⟩ := hp
  have hq9 := hq9.symm
  subst hq9
  refine g_if_eq (pc := 10) (tgt := 30) X dX9_best_10 (by decide) (fun hc_10 => ?_) (fun hc_10 => ?_)
  · refine g_iconst (pc := 30) (v := (-1)) X dX9_best_30 (by decide) ?_
    exact gm_iret (pc := 31) X hr hk dX9_best_31 (⟨(if_neg (fun q9 => bi_0 hc_10 q9.1)).symm, fun x y q => eT x y (by omega)⟩)
  · refine g_aload_n (pc := 13) X dX9_best_13 rfl rfl ?_
    refine g_iload_n (pc := 14) X dX9_best_14 rfl rfl ?_
    refine gm_Vi (pc := 15) X 9 xc_X9_92 (m_isHalf l G O _ nh b hnh e7) dX9_best_15 rfl (by decide) rfl rfl rfl rfl (Nat.le_of_ble_eq_true rfl) (fun v_15 t_15 hp => ?_)
    obtain ⟨rfl, hq9⟩ := hp
    have hq9 := hq9.symm
    subst hq9
    refine g_if_eq (pc := 18) (tgt := 30) X dX9_best_18 (by decide) (fun hc_18 => ?_) (fun hc_18 => ?_)
    · refine g_iconst (pc := 30) (v := (-1)) X dX9_best_30 (by decide) ?_
      exact gm_iret (pc := 31) X hr hk dX9_best_31 (⟨(if_neg (fun q9 => bi_0 hc_18 q9.2.1)).symm, fun x y q => eT x y (by omega)⟩)
    · have ha1 := bi_1 hc_10
      have hb1 := bi_1 hc_18
      obtain ⟨i1, hi1, rfl⟩ := (i_in (by omega)).mp ha1
      obtain ⟨j1, hj1, rfl⟩ := (i_in (by omega)).mp hb1
      rw [nI_clamp (show i1 < 2 ^ 31 by omega), nI_clamp (show j1 < 2 ^ 31 by omega)]
      have eN : bsN T (nl - 31) i1 j1 = bsN t (nl - 31) i1 j1 := by
        have e1 : ∀ x, x ≠ 76 → T x = t x := fun x hx => funext fun y => eT x y (Or.inl hx)
        show bsg (T 79) (T 80) (T 81) (fQ (fun k s => T 82 (16 * k + s)) (T 78)) _ _ _ _ = bsg (t 79) (t 80) (t 81) (fQ (fun k s => t 82 (16 * k + s)) (t 78)) _ _ _ _
        rw [e1 79 (by decide), e1 80 (by decide), e1 81 (by decide), e1 82 (by decide), e1 78 (by decide)]
      refine g_aload_n (pc := 21) X dX9_best_21 rfl rfl ?_
      refine g_iload_n (pc := 22) X dX9_best_22 rfl rfl ?_
      refine g_iload_n (pc := 23) X dX9_best_23 rfl rfl ?_
      refine gm_Vi (pc := 24) X 9 xc_X9_145 (m_bests l G O _ nl i1 j1 hnl e4 (by omega) (by omega)) dX9_best_24 rfl (by decide) rfl rfl rfl rfl (Nat.le_of_ble_eq_true rfl) (fun v_24 t_24 hp => ?_)
      obtain ⟨hv24, ht24⟩ := hp
      obtain ⟨q1, q2⟩ := bsM_N T (nl - 31) i1 j1
      rw [eN] at q1 q2
      subst hv24
      subst ht24
      generalize bsM T (nl - 31) i1 j1 = RM at *
      generalize hRe : bsN t (nl - 31) i1 j1 = R at *
      have hoff : ∀ x y, ¬ (x = 76 ∧ (y = 0 ∨ (13 ≤ y ∧ y ≤ 16))) → setM T RM x y = t x y := fun x y q => by
        by_cases hx : x = 76
        · subst hx; rw [setM_nf _ _ (by omega), eT 76 y (by omega)]
        · rw [setM_ne _ _ _ hx, eT x y (Or.inl hx)]
      refine g_if_ne (pc := 27) (tgt := 32) X dX9_best_27 (by decide) (fun hc_27 => ?_) (fun hc_27 => ?_)
      · have hne := bi_1 hc_27
        have hRR := q2 hne
        subst hRR
        have hall : (0 ≤ nI i1 ∧ nI i1 < nI nh) ∧ (0 ≤ nI j1 ∧ nI j1 < nI nh) ∧ ¬ RM.2.2.2 = -1 := ⟨ha1, hb1, hne⟩
        refine g_iload_n (pc := 32) X dX9_best_32 rfl rfl ?_
        refine g_if_ne (pc := 33) (tgt := 43) X dX9_best_33 (by decide) (fun hc_33 => ?_) (fun hc_33 => ?_)
        · refine g_iload_n (pc := 43) X dX9_best_43 rfl rfl ?_
          refine g_iconst (pc := 44) (v := 1) X dX9_best_44 (by decide) ?_
          refine g_icmp_ne (pc := 45) (tgt := 55) X dX9_best_45 (by decide) (fun hc_45 => ?_) (fun hc_45 => ?_)
          · refine g_iload_n (pc := 55) X dX9_best_55 rfl rfl ?_
            refine g_iconst (pc := 56) (v := 2) X dX9_best_56 (by decide) ?_
            refine g_icmp_ne (pc := 57) (tgt := 67) X dX9_best_57 (by decide) (fun hc_57 => ?_) (fun hc_57 => ?_)
            · refine g_iconst (pc := 67) (v := (-1)) X dX9_best_67 (by decide) ?_
              exact gm_iret (pc := 68) X hr hk dX9_best_68 (⟨by rw [if_pos hall, if_neg (show ¬ w = nI 0 from hc_33), if_neg (show ¬ w = nI 1 from hc_45), if_neg (show ¬ w = nI 2 from hc_57)], hoff⟩)
            · refine g_aload_n (pc := 60) X dX9_best_60 rfl rfl ?_
              refine gm_getI (pc := 61) (j := 15) X 9 dX9_best_61 rfl (by decide) rfl xu_9 (by decide) rfl xw_606 rfl ?_
              refine g_goto (pc := 64) (tgt := 68) X dX9_best_64 (by decide) ?_
              exact gm_iret (pc := 68) X hr hk dX9_best_68 (⟨by rw [(setM_v _ _).2.2.1, if_pos hall, if_neg (show ¬ w = nI 0 from hc_33), if_neg (show ¬ w = nI 1 from hc_45), if_pos (show w = nI 2 from hc_57)], hoff⟩)
          · refine g_aload_n (pc := 48) X dX9_best_48 rfl rfl ?_
            refine gm_getI (pc := 49) (j := 14) X 9 dX9_best_49 rfl (by decide) rfl xu_9 (by decide) rfl xw_605 rfl ?_
            refine g_goto (pc := 52) (tgt := 68) X dX9_best_52 (by decide) ?_
            exact gm_iret (pc := 68) X hr hk dX9_best_68 (⟨by rw [(setM_v _ _).2.1, if_pos hall, if_neg (show ¬ w = nI 0 from hc_33), if_pos (show w = nI 1 from hc_45)], hoff⟩)
        · refine g_aload_n (pc := 36) X dX9_best_36 rfl rfl ?_
          refine gm_getI (pc := 37) (j := 13) X 9 dX9_best_37 rfl (by decide) rfl xu_9 (by decide) rfl xw_604 rfl ?_
          refine g_goto (pc := 40) (tgt := 68) X dX9_best_40 (by decide) ?_
          exact gm_iret (pc := 68) X hr hk dX9_best_68 (⟨by rw [(setM_v _ _).1, if_pos hall, if_pos (show w = nI 0 from hc_33)], hoff⟩)
      · refine g_iconst (pc := 30) (v := (-1)) X dX9_best_30 (by decide) ?_
        exact gm_iret (pc := 31) X hr hk dX9_best_31 (⟨(if_neg (fun q9 => q9.2.2 (by rw [← q1]; exact Decidable.not_not.mp (bi_0 hc_27)))).symm, hoff⟩)

