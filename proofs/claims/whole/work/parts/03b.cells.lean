/-! 03b: small methods of the class that read or write a few cells -/
/-- t but v at the places below n of the cell k -/
def xf (t : xT) (k n : Nat) (v : Int32) : xT := fun a b => if a = k ∧ b < n then v else t a b
theorem xf_0 (t : xT) (k : Nat) (v : Int32) : xf t k 0 v = t := by funext a b; simp [xf]
theorem xf_s (t : xT) (k n : Nat) (v : Int32) : xt (xf t k n v) k n v = xf t k (n + 1) v := by
  funext a b
  unfold xt xf
  by_cases h1 : a = k
  · subst h1
    by_cases h2 : b = n
    · subst h2; simp
    · by_cases h3 : b < n
      · simp [h2, h3, Nat.lt_succ_of_lt h3]
      · simp [h2, h3, show ¬ b < n + 1 by omega]
  · simp [h1]
theorem i_lt (a b : Int32) : a < b ↔ a.toInt < b.toInt := Int32.lt_iff_toInt_lt
theorem i_le (a b : Int32) : a ≤ b ↔ a.toInt ≤ b.toInt := Int32.le_iff_toInt_le
theorem i_eq (a b : Int32) : a = b ↔ a.toInt = b.toInt := Int32.toInt_inj.symm
theorem i_0 : (0 : Int32).toInt = 0 := rfl
theorem i_1 : (1 : Int32).toInt = 1 := rfl
theorem i_m1 : (-1 : Int32).toInt = -1 := rfl
theorem i_8 : (8 : Int32).toInt = 8 := rfl
/-- an int between 0 and n is a number below n -/
theorem i_in {x : Int32} {n : Nat} (hn : n < 2 ^ 31) : (0 ≤ x ∧ x < nI n) ↔ ∃ k, k < n ∧ x = nI k := by
  constructor
  · intro h
    obtain ⟨j, hj, e⟩ := nI_of (x := x) (fun q => by rw [i_lt, i_0] at q; have := (i_le _ _).mp h.1; rw [i_0] at this; omega)
    refine ⟨j, ?_, e⟩
    rw [e] at h
    exact (nI_ltI hj hn).mp h.2
  · rintro ⟨k, hk, rfl⟩
    exact ⟨nI_pos' (by omega), nI_lt hk hn⟩
set_option maxRecDepth 100000 in
set_option maxHeartbeats 4000000 in
theorem c_fill (l : Launch) (G : xg_G) (O : Heap) (t : xT) (k : Nat) (v : Int32) (hkd : kd k = 10) (hln : ln k ≤ 400) : xm l yJ7_fill_53178 cJ7_fill_53178 4 none rmJ7_fill_53178 G O t [.ref (O.size + k), .int v] (xv (fun t' => t' = xf t k (ln k) v)) := by
  refine xm_enter (by decide) 2 rfl rfl ?_
  intro p e s m args below meth c X hr hk
  refine g_eq (L2 := [some (.ref (O.size + k)), some (.int v), none, none]) rfl rfl rfl ?_
  have loop : ∀ (z9 : Nat) (i : Nat), ln k - i < z9 → i ≤ ln k → gm p l e rmJ7_fill_53178 s m args below meth c 4 G O (xmQ below G O (xv (fun t' => t' = xf t k (ln k) v)) args s) (xf t k i v) [some (.ref (O.size + k)), some (.int (v)), some (.int (nI i)), some (.int (nI (ln k)))] 5 [] := by
    intro z9
    induction z9 with
    | zero => intro i h9; exact absurd h9 (Nat.not_lt_zero _)
    | succ z9 ih =>
      intro i h9 hi
      refine g_iload_n (pc := 5) X dJ7_fill_53178_5 rfl rfl ?_
      refine g_iload_n (pc := 6) X dJ7_fill_53178_6 rfl rfl ?_
      refine g_icmp_ge (pc := 7) (tgt := 20) X dJ7_fill_53178_7 (by decide) (fun hc_7 => ?_) (fun hc_7 => ?_)
      · exact gm_vret (pc := 20) X hr hk dJ7_fill_53178_20 (by have := (nI_leI (a := ln k) (b := i) (by omega) (by omega)).mp hc_7; rw [show i = ln k by omega])
      · refine g_aload_n (pc := 10) X dJ7_fill_53178_10 rfl rfl ?_
        refine g_iload_n (pc := 11) X dJ7_fill_53178_11 rfl rfl ?_
        refine g_iload_n (pc := 12) X dJ7_fill_53178_12 rfl rfl ?_
        refine gm_iast (pc := 13) X (i) dJ7_fill_53178_13 hkd rfl (by have := hc_7; rw [nI_leI (by omega) (by omega)] at this; omega) hln ?_
        refine g_inc (pc := 14) (kv := 1) X dJ7_fill_53178_14 (by decide) rfl (by decide) ?_
        refine g_goto (pc := 17) (tgt := 5) X dJ7_fill_53178_17 (by decide) ?_
        rw [xf_s, nI_1]
        exact ih (i + 1) (by have := hc_7; rw [nI_leI (by omega) (by omega)] at this; omega) (by have := hc_7; rw [nI_leI (by omega) (by omega)] at this; omega)
  refine g_iconst (pc := 0) (v := 0) X dJ7_fill_53178_0 (by decide) ?_
  refine g_istore_n (pc := 1) X dJ7_fill_53178_1 rfl (by decide) ?_
  refine g_aload_n (pc := 2) X dJ7_fill_53178_2 rfl rfl ?_
  refine gm_alen (pc := 3) X dJ7_fill_53178_3 hkd rfl ?_
  refine g_istore_n (pc := 4) X dJ7_fill_53178_4 rfl (by decide) ?_
  have h0 := loop (ln k + 1) 0 (by omega) (Nat.zero_le _)
  rw [xf_0] at h0
  exact h0

set_option maxRecDepth 100000 in
set_option maxHeartbeats 4000000 in
theorem c_byteAt (l : Launch) (G : xg_G) (O : Heap) (t : xT) (nt j : Nat) (hnt : nt ≤ 400) (h1 : t 1 1 = nI nt) (hj : j < nt) : xm l yX6_byteAt cX6_byteAt 2 (some .int) rmX6_byteAt G O t [.ref (O.size + 1), .int (nI j)] (xi (fun v t' => v = t 2 j ∧ t' = t)) := by
  refine xm_enter (by decide) 0 rfl rfl ?_
  intro p e s m args below meth c X hr hk
  refine g_eq (L2 := [some (.ref (O.size + 1)), some (.int (nI j))]) rfl rfl rfl ?_
  refine g_iload_n (pc := 0) X dX6_byteAt_0 rfl rfl ?_
  refine g_if_lt (pc := 1) (tgt := 21) X dX6_byteAt_1 (by decide) (fun hc_1 => ?_) (fun hc_1 => ?_)
  · exact absurd hc_1 (nI_pos (by omega))
  · refine g_iload_n (pc := 4) X dX6_byteAt_4 rfl rfl ?_
    refine g_aload_n (pc := 5) X dX6_byteAt_5 rfl rfl ?_
    refine gm_getI (pc := 6) (j := 1) X 6 dX6_byteAt_6 rfl (by decide) rfl xu_6 (by decide) rfl xw_61 rfl ?_
    refine g_icmp_ge (pc := 9) (tgt := 21) X dX6_byteAt_9 (by decide) (fun hc_9 => ?_) (fun hc_9 => ?_)
    · rw [h1, nI_leI (by omega) (by omega)] at hc_9
      exact absurd hc_9 (by omega)
    · refine g_aload_n (pc := 12) X dX6_byteAt_12 rfl rfl ?_
      refine gm_getR (k' := 2) (pc := 13) (j := 0) X 6 dX6_byteAt_13 rfl (by decide) rfl xu_6 (by decide) rfl xw_60 rfl rfl ?_
      refine g_iload_n (pc := 16) X dX6_byteAt_16 rfl rfl ?_
      refine gm_iald (pc := 17) X (j) dX6_byteAt_17 rfl rfl (show j < 400 from by omega) (by decide) ?_
      refine g_goto (pc := 18) (tgt := 22) X dX6_byteAt_18 (by decide) ?_
      exact gm_iret (pc := 22) X hr hk dX6_byteAt_22 (⟨rfl, rfl⟩)

set_option maxRecDepth 100000 in
set_option maxHeartbeats 4000000 in
theorem c_isLetter (l : Launch) (G : xg_G) (O : Heap) (t : xT) (b : Int32)  : xm l yX7_isLetter cX7_isLetter 1 (some .boolean) rmX7_isLetter G O t [.int b] (xi (fun v t' => v = bi (0 ≤ b - 97 ∧ b - 97 ≤ 15) ∧ t' = t)) := by
  refine xm_enter (by decide) 0 rfl rfl ?_
  intro p e s m args below meth c X hr hk
  refine g_eq (L2 := [some (.int b)]) rfl rfl rfl ?_
  refine g_iload_n (pc := 0) X dX7_isLetter_0 rfl rfl ?_
  refine g_bipush (pc := 1) (v := 97) X dX7_isLetter_1 (by decide) ?_
  refine g_isub (pc := 3) X dX7_isLetter_3 ?_
  refine g_bipush (pc := 4) (v := 15) X dX7_isLetter_4 (by decide) ?_
  refine gm_SNi (pc := 6) X xc_X7_39 (c_isWithin l G O t (b - 97) 15) dX7_isLetter_6 rfl rfl rfl (Nat.le_of_ble_eq_true rfl) (fun v_6 t_6 hp => ?_)
  obtain ⟨rfl, hq9⟩ := hp
  have hq9 := hq9.symm
  subst hq9
  exact gm_zret (pc := 9) X hr hk dX7_isLetter_9 (bi_01 _) (⟨rfl, rfl⟩)

set_option maxRecDepth 100000 in
set_option maxHeartbeats 4000000 in
theorem c_letterAt (l : Launch) (G : xg_G) (O : Heap) (t : xT) (nl j : Nat) (hnl : nl ≤ 160) (h1 : t 4 1 = nI nl) (hj : j < nl) : xm l yX7_letterAt cX7_letterAt 2 (some .int) rmX7_letterAt G O t [.ref (O.size + 4), .int (nI j)] (xi (fun v t' => v = t 5 j ∧ t' = t)) := by
  refine xm_enter (by decide) 0 rfl rfl ?_
  intro p e s m args below meth c X hr hk
  refine g_eq (L2 := [some (.ref (O.size + 4)), some (.int (nI j))]) rfl rfl rfl ?_
  refine g_iload_n (pc := 0) X dX7_letterAt_0 rfl rfl ?_
  refine g_if_lt (pc := 1) (tgt := 21) X dX7_letterAt_1 (by decide) (fun hc_1 => ?_) (fun hc_1 => ?_)
  · exact absurd hc_1 (nI_pos (by omega))
  · refine g_iload_n (pc := 4) X dX7_letterAt_4 rfl rfl ?_
    refine g_aload_n (pc := 5) X dX7_letterAt_5 rfl rfl ?_
    refine gm_getI (pc := 6) (j := 1) X 7 dX7_letterAt_6 rfl (by decide) rfl xu_7 (by decide) rfl xw_82 rfl ?_
    refine g_icmp_ge (pc := 9) (tgt := 21) X dX7_letterAt_9 (by decide) (fun hc_9 => ?_) (fun hc_9 => ?_)
    · rw [h1, nI_leI (by omega) (by omega)] at hc_9
      exact absurd hc_9 (by omega)
    · refine g_aload_n (pc := 12) X dX7_letterAt_12 rfl rfl ?_
      refine gm_getR (k' := 5) (pc := 13) (j := 0) X 7 dX7_letterAt_13 rfl (by decide) rfl xu_7 (by decide) rfl xw_81 rfl rfl ?_
      refine g_iload_n (pc := 16) X dX7_letterAt_16 rfl rfl ?_
      refine gm_iald (pc := 17) X (j) dX7_letterAt_17 rfl rfl (show j < 160 from by omega) (by decide) ?_
      refine g_goto (pc := 18) (tgt := 22) X dX7_letterAt_18 (by decide) ?_
      exact gm_iret (pc := 22) X hr hk dX7_letterAt_22 (⟨rfl, rfl⟩)

theorem places_eq {n : Nat} (h : n ≤ 160) : (if (0 : Int32) < nI n - 32 + 1 then nI n - 32 + 1 else 0) = nI (n - 31) := by
  have e : ∀ n : Nat, n < 161 → (if (0 : Int32) < nI n - 32 + 1 then nI n - 32 + 1 else 0) = nI (n - 31) := by decide +kernel
  exact e n (by omega)
set_option maxRecDepth 100000 in
set_option maxHeartbeats 4000000 in
theorem c_places (l : Launch) (G : xg_G) (O : Heap) (t : xT) (nl : Nat) (hnl : nl ≤ 160) (h1 : t 4 1 = nI nl) : xm l yX7_places cX7_places 1 (some .int) rmX7_places G O t [.ref (O.size + 4)] (xi (fun v t' => v = nI (nl - 31) ∧ t' = t)) := by
  refine xm_enter (by decide) 0 rfl rfl ?_
  intro p e s m args below meth c X hr hk
  refine g_eq (L2 := [some (.ref (O.size + 4))]) rfl rfl rfl ?_
  refine g_iconst (pc := 0) (v := 0) X dX7_places_0 (by decide) ?_
  refine g_aload_n (pc := 1) X dX7_places_1 rfl rfl ?_
  refine gm_getI (pc := 2) (j := 1) X 7 dX7_places_2 rfl (by decide) rfl xu_7 (by decide) rfl xw_82 rfl ?_
  refine g_bipush (pc := 5) (v := 32) X dX7_places_5 (by decide) ?_
  refine g_isub (pc := 7) X dX7_places_7 ?_
  refine g_iconst (pc := 8) (v := 1) X dX7_places_8 (by decide) ?_
  refine g_iadd (pc := 9) X dX7_places_9 ?_
  refine g_max (pc := 10) X dX7_places_10 xw_373 xw_374 xw_44 xw_375 (by decide) (Nat.le_of_ble_eq_true rfl) (Nat.zero_le _) (Nat.zero_le _) ?_
  exact gm_iret (pc := 13) X hr hk dX7_places_13 (⟨by rw [h1]; exact places_eq hnl, rfl⟩)

set_option maxRecDepth 100000 in
set_option maxHeartbeats 4000000 in
theorem c_has (l : Launch) (G : xg_G) (O : Heap) (t : xT) (nh : Nat) (h : Int32) (hnh : nh ≤ 8) (h1 : t 6 1 = nI nh) : xm l yX2_has cX2_has 2 (some .boolean) rmX2_has G O t [.ref (O.size + 6), .int h] (xi (fun v t' => v = bi (0 ≤ h ∧ h < nI nh) ∧ t' = t)) := by
  refine xm_enter (by decide) 0 rfl rfl ?_
  intro p e s m args below meth c X hr hk
  refine g_eq (L2 := [some (.ref (O.size + 6)), some (.int h)]) rfl rfl rfl ?_
  refine g_iload_n (pc := 0) X dX2_has_0 rfl rfl ?_
  refine g_if_lt (pc := 1) (tgt := 22) X dX2_has_1 (by decide) (fun hc_1 => ?_) (fun hc_1 => ?_)
  · refine g_iconst (pc := 22) (v := 0) X dX2_has_22 (by decide) ?_
    exact gm_zret (pc := 23) X hr hk dX2_has_23 (by first | exact Or.inl rfl | exact Or.inr rfl) (⟨(bi_f (by simp only [i_le, i_lt, i_0, i_8, nI_toInt (show nh < 2 ^ 31 by omega)] at *; omega)).symm, rfl⟩)
  · refine g_iload_n (pc := 4) X dX2_has_4 rfl rfl ?_
    refine g_aload_n (pc := 5) X dX2_has_5 rfl rfl ?_
    refine gm_getI (pc := 6) (j := 1) X 2 dX2_has_6 rfl (by decide) rfl xu_2 (by decide) rfl xw_135 rfl ?_
    refine g_icmp_ge (pc := 9) (tgt := 22) X dX2_has_9 (by decide) (fun hc_9 => ?_) (fun hc_9 => ?_)
    · refine g_iconst (pc := 22) (v := 0) X dX2_has_22 (by decide) ?_
      exact gm_zret (pc := 23) X hr hk dX2_has_23 (by first | exact Or.inl rfl | exact Or.inr rfl) (⟨(bi_f (by rw [h1] at hc_9; simp only [i_le, i_lt, i_0, i_8, nI_toInt (show nh < 2 ^ 31 by omega)] at *; omega)).symm, rfl⟩)
    · refine g_iload_n (pc := 12) X dX2_has_12 rfl rfl ?_
      refine g_bipush (pc := 13) (v := 8) X dX2_has_13 (by decide) ?_
      refine g_icmp_ge (pc := 15) (tgt := 22) X dX2_has_15 (by decide) (fun hc_15 => ?_) (fun hc_15 => ?_)
      · refine g_iconst (pc := 22) (v := 0) X dX2_has_22 (by decide) ?_
        exact gm_zret (pc := 23) X hr hk dX2_has_23 (by first | exact Or.inl rfl | exact Or.inr rfl) (⟨(bi_f (by rw [h1] at hc_9; simp only [i_le, i_lt, i_0, i_8, nI_toInt (show nh < 2 ^ 31 by omega)] at *; omega)).symm, rfl⟩)
      · refine g_iconst (pc := 18) (v := 1) X dX2_has_18 (by decide) ?_
        refine g_goto (pc := 19) (tgt := 23) X dX2_has_19 (by decide) ?_
        exact gm_zret (pc := 23) X hr hk dX2_has_23 (by first | exact Or.inl rfl | exact Or.inr rfl) (⟨(bi_t (by rw [h1] at hc_9; simp only [i_le, i_lt, i_0, i_8, nI_toInt (show nh < 2 ^ 31 by omega)] at *; omega)).symm, rfl⟩)

set_option maxRecDepth 100000 in
set_option maxHeartbeats 4000000 in
theorem c_mayLieAs (l : Launch) (G : xg_G) (O : Heap) (t : xT) (h : Nat) (q : Int32) (hh : h < 8) : xm l yX1_mayLieAs cX1_mayLieAs 2 (some .boolean) rmX1_mayLieAs G O t [.ref (O.size + (8 + 2 * h)), .int q] (xi (fun v t' => v = bi (t (8 + 2 * h) 0 = q ∨ t (8 + 2 * h) 0 = 2) ∧ t' = t)) := by
  refine xm_enter (by decide) 0 rfl rfl ?_
  intro p e s m args below meth c X hr hk
  refine g_eq (L2 := [some (.ref (O.size + (8 + 2 * h))), some (.int q)]) rfl rfl rfl ?_
  refine g_aload_n (pc := 0) X dX1_mayLieAs_0 rfl rfl ?_
  refine gm_getI (pc := 1) (j := 0) X 1 dX1_mayLieAs_1 (kd_half h hh).1 (by decide) rfl xu_1 (by decide) rfl xw_110 rfl ?_
  refine g_iload_n (pc := 4) X dX1_mayLieAs_4 rfl rfl ?_
  refine g_icmp_eq (pc := 5) (tgt := 16) X dX1_mayLieAs_5 (by decide) (fun hc_5 => ?_) (fun hc_5 => ?_)
  · refine g_iconst (pc := 16) (v := 1) X dX1_mayLieAs_16 (by decide) ?_
    refine g_goto (pc := 17) (tgt := 21) X dX1_mayLieAs_17 (by decide) ?_
    exact gm_zret (pc := 21) X hr hk dX1_mayLieAs_21 (by first | exact Or.inl rfl | exact Or.inr rfl) (⟨(bi_t (Or.inl hc_5)).symm, rfl⟩)
  · refine g_aload_n (pc := 8) X dX1_mayLieAs_8 rfl rfl ?_
    refine gm_getI (pc := 9) (j := 0) X 1 dX1_mayLieAs_9 (kd_half h hh).1 (by decide) rfl xu_1 (by decide) rfl xw_110 rfl ?_
    refine g_iconst (pc := 12) (v := 2) X dX1_mayLieAs_12 (by decide) ?_
    refine g_icmp_ne (pc := 13) (tgt := 20) X dX1_mayLieAs_13 (by decide) (fun hc_13 => ?_) (fun hc_13 => ?_)
    · refine g_iconst (pc := 20) (v := 0) X dX1_mayLieAs_20 (by decide) ?_
      exact gm_zret (pc := 21) X hr hk dX1_mayLieAs_21 (by first | exact Or.inl rfl | exact Or.inr rfl) (⟨(bi_f (by rintro (q | q); exact hc_5 q; exact hc_13 q)).symm, rfl⟩)
    · refine g_iconst (pc := 16) (v := 1) X dX1_mayLieAs_16 (by decide) ?_
      refine g_goto (pc := 17) (tgt := 21) X dX1_mayLieAs_17 (by decide) ?_
      exact gm_zret (pc := 21) X hr hk dX1_mayLieAs_21 (by first | exact Or.inl rfl | exact Or.inr rfl) (⟨(bi_t (Or.inr hc_13)).symm, rfl⟩)

set_option maxRecDepth 100000 in
set_option maxHeartbeats 4000000 in
theorem c_isLike (l : Launch) (G : xg_G) (O : Heap) (t : xT) (h g : Nat) (hh : h < 8) (hg : g < 8) : xm l yX1_isLike cX1_isLike 2 (some .boolean) rmX1_isLike G O t [.ref (O.size + (8 + 2 * h)), .ref (O.size + (8 + 2 * g))] (xi (fun v t' => v = bi (t (8 + 2 * h) 1 = t (8 + 2 * g) 1 ∧ t (8 + 2 * h) 2 = t (8 + 2 * g) 2) ∧ t' = t)) := by
  refine xm_enter (by decide) 0 rfl rfl ?_
  intro p e s m args below meth c X hr hk
  refine g_eq (L2 := [some (.ref (O.size + (8 + 2 * h))), some (.ref (O.size + (8 + 2 * g)))]) rfl rfl rfl ?_
  refine g_aload_n (pc := 0) X dX1_isLike_0 rfl rfl ?_
  refine gm_getI (pc := 1) (j := 1) X 1 dX1_isLike_1 (kd_half h hh).1 (by decide) rfl xu_1 (by decide) rfl xw_112 rfl ?_
  refine g_aload_n (pc := 4) X dX1_isLike_4 rfl rfl ?_
  refine gm_getI (pc := 5) (j := 1) X 1 dX1_isLike_5 (kd_half g hg).1 (by decide) rfl xu_1 (by decide) rfl xw_112 rfl ?_
  refine g_icmp_ne (pc := 8) (tgt := 26) X dX1_isLike_8 (by decide) (fun hc_8 => ?_) (fun hc_8 => ?_)
  · refine g_iconst (pc := 26) (v := 0) X dX1_isLike_26 (by decide) ?_
    exact gm_zret (pc := 27) X hr hk dX1_isLike_27 (by first | exact Or.inl rfl | exact Or.inr rfl) (⟨(bi_f (fun q => hc_8 q.1)).symm, rfl⟩)
  · refine g_aload_n (pc := 11) X dX1_isLike_11 rfl rfl ?_
    refine gm_getI (pc := 12) (j := 2) X 1 dX1_isLike_12 (kd_half h hh).1 (by decide) rfl xu_1 (by decide) rfl xw_115 rfl ?_
    refine g_aload_n (pc := 15) X dX1_isLike_15 rfl rfl ?_
    refine gm_getI (pc := 16) (j := 2) X 1 dX1_isLike_16 (kd_half g hg).1 (by decide) rfl xu_1 (by decide) rfl xw_115 rfl ?_
    refine g_icmp_ne (pc := 19) (tgt := 26) X dX1_isLike_19 (by decide) (fun hc_19 => ?_) (fun hc_19 => ?_)
    · refine g_iconst (pc := 26) (v := 0) X dX1_isLike_26 (by decide) ?_
      exact gm_zret (pc := 27) X hr hk dX1_isLike_27 (by first | exact Or.inl rfl | exact Or.inr rfl) (⟨(bi_f (fun q => hc_19 q.2)).symm, rfl⟩)
    · refine g_iconst (pc := 22) (v := 1) X dX1_isLike_22 (by decide) ?_
      refine g_goto (pc := 23) (tgt := 27) X dX1_isLike_23 (by decide) ?_
      exact gm_zret (pc := 27) X hr hk dX1_isLike_27 (by first | exact Or.inl rfl | exact Or.inr rfl) (⟨(bi_t ⟨hc_8, hc_19⟩).symm, rfl⟩)

set_option maxRecDepth 100000 in
set_option maxHeartbeats 4000000 in
theorem c_lie (l : Launch) (G : xg_G) (O : Heap) (t : xT) (k : Nat) (a b c d : Int32) (hkd : kd k = 3) : xm l yX3_lie cX3_lie 5 none rmX3_lie G O t [.ref (O.size + k), .int a, .int b, .int c, .int d] (xv (fun t' => t' = xt (xt (xt (xt t k 0 a) k 1 b) k 2 c) k 3 d)) := by
  refine xm_enter (by decide) 0 rfl rfl ?_
  intro p e s m args below meth c0 X hr hk
  refine g_eq (L2 := [some (.ref (O.size + k)), some (.int a), some (.int b), some (.int c), some (.int d)]) rfl rfl rfl ?_
  refine g_aload_n (pc := 0) X dX3_lie_0 rfl rfl ?_
  refine g_iload_n (pc := 1) X dX3_lie_1 rfl rfl ?_
  refine gm_putI (pc := 2) (j := 0) X 3 tyX3 dX3_lie_2 hkd (by decide) rfl xu_3 tyX3_ok nmX3 (by decide) rfl xw_150 rfl rfl (Or.inl rfl) ?_
  refine g_aload_n (pc := 5) X dX3_lie_5 rfl rfl ?_
  refine g_iload_n (pc := 6) X dX3_lie_6 rfl rfl ?_
  refine gm_putI (pc := 7) (j := 1) X 3 tyX3 dX3_lie_7 hkd (by decide) rfl xu_3 tyX3_ok nmX3 (by decide) rfl xw_153 rfl rfl (Or.inl rfl) ?_
  refine g_aload_n (pc := 10) X dX3_lie_10 rfl rfl ?_
  refine g_iload_n (pc := 11) X dX3_lie_11 rfl rfl ?_
  refine gm_putI (pc := 12) (j := 2) X 3 tyX3 dX3_lie_12 hkd (by decide) rfl xu_3 tyX3_ok nmX3 (by decide) rfl xw_156 rfl rfl (Or.inl rfl) ?_
  refine g_aload_n (pc := 15) X dX3_lie_15 rfl rfl ?_
  refine g_iload (pc := 16) X dX3_lie_16 rfl ?_
  refine gm_putI (pc := 18) (j := 3) X 3 tyX3 dX3_lie_18 hkd (by decide) rfl xu_3 tyX3_ok nmX3 (by decide) rfl xw_160 rfl rfl (Or.inl rfl) ?_
  exact gm_vret (pc := 21) X hr hk dX3_lie_21 (rfl)

set_option maxRecDepth 100000 in
set_option maxHeartbeats 4000000 in
theorem c_partOf (l : Launch) (G : xg_G) (O : Heap) (t : xT) (k : Nat) (h : Int32) (hkd : kd k = 3) : xm l yX3_partOf cX3_partOf 2 (some .int) rmX3_partOf G O t [.ref (O.size + k), .int h] (xi (fun v t' => v = (if h = t k 0 then 0 else 1) ∧ t' = t)) := by
  refine xm_enter (by decide) 0 rfl rfl ?_
  intro p e s m args below meth c X hr hk
  refine g_eq (L2 := [some (.ref (O.size + k)), some (.int h)]) rfl rfl rfl ?_
  refine g_iload_n (pc := 0) X dX3_partOf_0 rfl rfl ?_
  refine g_aload_n (pc := 1) X dX3_partOf_1 rfl rfl ?_
  refine gm_getI (pc := 2) (j := 0) X 3 dX3_partOf_2 hkd (by decide) rfl xu_3 (by decide) rfl xw_150 rfl ?_
  refine g_icmp_ne (pc := 5) (tgt := 12) X dX3_partOf_5 (by decide) (fun hc_5 => ?_) (fun hc_5 => ?_)
  · refine g_iconst (pc := 12) (v := 1) X dX3_partOf_12 (by decide) ?_
    exact gm_iret (pc := 13) X hr hk dX3_partOf_13 (⟨(if_neg hc_5).symm, rfl⟩)
  · refine g_iconst (pc := 8) (v := 0) X dX3_partOf_8 (by decide) ?_
    refine g_goto (pc := 9) (tgt := 13) X dX3_partOf_9 (by decide) ?_
    exact gm_iret (pc := 13) X hr hk dX3_partOf_13 (⟨(if_pos hc_5).symm, rfl⟩)

