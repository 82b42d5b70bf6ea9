/-! 03: small methods of the class -/
set_option maxRecDepth 100000 in
set_option maxHeartbeats 4000000 in
theorem c_isWithin (l : Launch) (G : xg_G) (O : Heap) (t : xT) (a b : Int32)  : xm l yX8_isWithin cX8_isWithin 2 (some .boolean) rmX8_isWithin G O t [.int a, .int b] (xi (fun v t' => v = bi (0 ≤ a ∧ a ≤ b) ∧ t' = t)) := by
  refine xm_enter (by decide) 0 rfl rfl ?_
  intro p e s m args below meth c X hr hk
  refine g_eq (L2 := [some (.int a), some (.int b)]) rfl rfl rfl ?_
  refine g_iload_n (pc := 0) X dX8_isWithin_0 rfl rfl ?_
  refine g_if_lt (pc := 1) (tgt := 13) X dX8_isWithin_1 (by decide) (fun hc_1 => ?_) (fun hc_1 => ?_)
  · refine g_iconst (pc := 13) (v := 0) X dX8_isWithin_13 (by decide) ?_
    exact gm_zret (pc := 14) X hr hk dX8_isWithin_14 (by first | exact Or.inl rfl | exact Or.inr rfl) (⟨(bi_f (by simp only [Int32.le_iff_toInt_le, Int32.lt_iff_toInt_lt, Int32.reduceToInt] at *; omega)).symm, rfl⟩)
  · refine g_iload_n (pc := 4) X dX8_isWithin_4 rfl rfl ?_
    refine g_iload_n (pc := 5) X dX8_isWithin_5 rfl rfl ?_
    refine g_icmp_gt (pc := 6) (tgt := 13) X dX8_isWithin_6 (by decide) (fun hc_6 => ?_) (fun hc_6 => ?_)
    · refine g_iconst (pc := 13) (v := 0) X dX8_isWithin_13 (by decide) ?_
      exact gm_zret (pc := 14) X hr hk dX8_isWithin_14 (by first | exact Or.inl rfl | exact Or.inr rfl) (⟨(bi_f (by simp only [Int32.le_iff_toInt_le, Int32.lt_iff_toInt_lt, Int32.reduceToInt] at *; omega)).symm, rfl⟩)
    · refine g_iconst (pc := 9) (v := 1) X dX8_isWithin_9 (by decide) ?_
      refine g_goto (pc := 10) (tgt := 14) X dX8_isWithin_10 (by decide) ?_
      exact gm_zret (pc := 14) X hr hk dX8_isWithin_14 (by first | exact Or.inl rfl | exact Or.inr rfl) (⟨(bi_t (by simp only [Int32.le_iff_toInt_le, Int32.lt_iff_toInt_lt, Int32.reduceToInt] at *; omega)).symm, rfl⟩)
set_option maxRecDepth 100000 in
set_option maxHeartbeats 4000000 in
theorem c_spotIndex (l : Launch) (G : xg_G) (O : Heap) (t : xT) (a b : Int32)  : xm l yX8_spotIndex cX8_spotIndex 2 (some .int) rmX8_spotIndex G O t [.int a, .int b] (xi (fun v t' => v = a * 8 + b ∧ t' = t)) := by
  refine xm_enter (by decide) 0 rfl rfl ?_
  intro p e s m args below meth c X hr hk
  refine g_eq (L2 := [some (.int a), some (.int b)]) rfl rfl rfl ?_
  refine g_iload_n (pc := 0) X dX8_spotIndex_0 rfl rfl ?_
  refine g_bipush (pc := 1) (v := 8) X dX8_spotIndex_1 (by decide) ?_
  refine g_imul (pc := 3) X dX8_spotIndex_3 ?_
  refine g_iload_n (pc := 4) X dX8_spotIndex_4 rfl rfl ?_
  refine g_iadd (pc := 5) X dX8_spotIndex_5 ?_
  exact gm_iret (pc := 6) X hr hk dX8_spotIndex_6 (⟨rfl, rfl⟩)
set_option maxRecDepth 100000 in
set_option maxHeartbeats 4000000 in
theorem c_hasLetter (l : Launch) (G : xg_G) (O : Heap) (t : xT) (a b : Int32)  : xm l yX8_hasLetter cX8_hasLetter 2 (some .boolean) rmX8_hasLetter G O t [.int a, .int b] (xi (fun v t' => v = bi ((0 ≤ b ∧ b ≤ 15) ∧ (a >>> (b &&& 31)) &&& 1 = 1) ∧ t' = t)) := by
  refine xm_enter (by decide) 0 rfl rfl ?_
  intro p e s m args below meth c X hr hk
  refine g_eq (L2 := [some (.int a), some (.int b)]) rfl rfl rfl ?_
  refine g_iload_n (pc := 0) X dX8_hasLetter_0 rfl rfl ?_
  refine g_bipush (pc := 1) (v := 15) X dX8_hasLetter_1 (by decide) ?_
  refine gm_Si (pc := 3) X xc_X8_79 (c_isWithin l G O t b 15) dX8_hasLetter_3 rfl rfl rfl (Nat.le_of_ble_eq_true rfl) (fun v_3 t_3 hp => ?_)
  obtain ⟨rfl, rfl⟩ := hp
  refine g_if_eq (pc := 6) (tgt := 22) X dX8_hasLetter_6 (by decide) (fun hc_6 => ?_) (fun hc_6 => ?_)
  · refine g_iconst (pc := 22) (v := 0) X dX8_hasLetter_22 (by decide) ?_
    exact gm_zret (pc := 23) X hr hk dX8_hasLetter_23 (by first | exact Or.inl rfl | exact Or.inr rfl) (⟨(bi_f (fun h => bi_0 hc_6 h.1)).symm, rfl⟩)
  · refine g_iload_n (pc := 9) X dX8_hasLetter_9 rfl rfl ?_
    refine g_iload_n (pc := 10) X dX8_hasLetter_10 rfl rfl ?_
    refine g_ishr (pc := 11) X dX8_hasLetter_11 ?_
    refine g_iconst (pc := 12) (v := 1) X dX8_hasLetter_12 (by decide) ?_
    refine g_iand (pc := 13) X dX8_hasLetter_13 ?_
    refine g_iconst (pc := 14) (v := 1) X dX8_hasLetter_14 (by decide) ?_
    refine g_icmp_ne (pc := 15) (tgt := 22) X dX8_hasLetter_15 (by decide) (fun hc_15 => ?_) (fun hc_15 => ?_)
    · refine g_iconst (pc := 22) (v := 0) X dX8_hasLetter_22 (by decide) ?_
      exact gm_zret (pc := 23) X hr hk dX8_hasLetter_23 (by first | exact Or.inl rfl | exact Or.inr rfl) (⟨(bi_f (fun h => hc_15 h.2)).symm, rfl⟩)
    · refine g_iconst (pc := 18) (v := 1) X dX8_hasLetter_18 (by decide) ?_
      refine g_goto (pc := 19) (tgt := 23) X dX8_hasLetter_19 (by decide) ?_
      exact gm_zret (pc := 23) X hr hk dX8_hasLetter_23 (by first | exact Or.inl rfl | exact Or.inr rfl) (⟨(bi_t ⟨bi_1 hc_6, hc_15⟩).symm, rfl⟩)
def la (q s : Nat) : Nat := (s / 8 * 2 + q) * 8 + s % 8
theorem la_eq : ∀ q, q < 2 → ∀ s, s < 16 → (nI s / 8 * 2 + nI q) * 8 + (nI s - nI s / 8 * 8) = nI (la q s) := by decide
theorem la_lt : ∀ q, q < 2 → ∀ s, s < 16 → la q s < 32 := by decide
set_option maxRecDepth 100000 in
set_option maxHeartbeats 4000000 in
theorem c_lettersAhead (l : Launch) (G : xg_G) (O : Heap) (t : xT) (q s : Nat) (hq : q < 2) (hs : s < 16) : xm l yX8_lettersAhead cX8_lettersAhead 4 (some .int) rmX8_lettersAhead G O t [.int (nI q), .int (nI s)] (xi (fun v t' => v = nI (la q s) ∧ t' = t)) := by
  refine xm_enter (by decide) 2 rfl rfl ?_
  intro p e s0 m args below meth c X hr hk
  refine g_eq (L2 := [some (.int (nI q)), some (.int (nI s)), none, none]) rfl rfl rfl ?_
  refine g_iload_n (pc := 0) X dX8_lettersAhead_0 rfl rfl ?_
  refine g_bipush (pc := 1) (v := 8) X dX8_lettersAhead_1 (by decide) ?_
  refine g_idiv (pc := 3) X dX8_lettersAhead_3 (by decide) ?_
  refine g_istore_n (pc := 4) X dX8_lettersAhead_4 rfl (by decide) ?_
  refine g_iload_n (pc := 5) X dX8_lettersAhead_5 rfl rfl ?_
  refine g_iconst (pc := 6) (v := 2) X dX8_lettersAhead_6 (by decide) ?_
  refine g_imul (pc := 7) X dX8_lettersAhead_7 ?_
  refine g_iload_n (pc := 8) X dX8_lettersAhead_8 rfl rfl ?_
  refine g_iadd (pc := 9) X dX8_lettersAhead_9 ?_
  refine g_istore_n (pc := 10) X dX8_lettersAhead_10 rfl (by decide) ?_
  refine g_iload_n (pc := 11) X dX8_lettersAhead_11 rfl rfl ?_
  refine g_bipush (pc := 12) (v := 8) X dX8_lettersAhead_12 (by decide) ?_
  refine g_imul (pc := 14) X dX8_lettersAhead_14 ?_
  refine g_iload_n (pc := 15) X dX8_lettersAhead_15 rfl rfl ?_
  refine g_bipush (pc := 16) (v := 8) X dX8_lettersAhead_16 (by decide) ?_
  refine g_irem (pc := 18) X dX8_lettersAhead_18 (by decide) ?_
  refine g_iadd (pc := 19) X dX8_lettersAhead_19 ?_
  exact gm_iret (pc := 20) X hr hk dX8_lettersAhead_20 (⟨la_eq q hq s hs, rfl⟩)
