/-! 05a: Pairing: sets of halves -/
theorem bit_in : ∀ s, s < 256 → ∀ j, j < 8 → (((nI s >>> (nI j &&& 31)) &&& 1 = 1) ↔ s.testBit j = true) := by decide +kernel
def wo (s a b : Nat) : Nat := s &&& (255 - 2 ^ a) &&& (255 - 2 ^ b)
theorem wo_eq : ∀ s, s < 256 → ∀ a, a < 8 → ∀ b, b < 8 → (nI s &&& (((1 : Int32) <<< (nI a &&& 31)) ^^^ (-1))) &&& (((1 : Int32) <<< (nI b &&& 31)) ^^^ (-1)) = nI (wo s a b) := by decide +kernel
theorem mk_bit : ∀ a, a < 8 → ∀ j, j < 8 → (255 - 2 ^ a).testBit j = decide (j ≠ a) := by decide
theorem wo_bit {s a b j : Nat} (ha : a < 8) (hb : b < 8) (hj : j < 8) : (wo s a b).testBit j = (s.testBit j && decide (j ≠ a) && decide (j ≠ b)) := by
  unfold wo; rw [Nat.testBit_and, Nat.testBit_and, mk_bit a ha j hj, mk_bit b hb j hj]
theorem wo_le (s a b : Nat) : wo s a b ≤ s := by
  unfold wo
  exact Nat.le_trans Nat.and_le_left Nat.and_le_left
theorem wo_lt {s a b : Nat} (ha : a < 8) (hb : b < 8) (h : s.testBit a = true) : wo s a b < s := by
  rcases Nat.lt_or_ge (wo s a b) s with q | q
  · exact q
  · have e : wo s a b = s := Nat.le_antisymm (wo_le s a b) q
    have h2 := wo_bit (s := s) ha hb (j := a) ha
    rw [e, h] at h2
    simp at h2
/-- the first half of a set -/
def fsb (s : Nat) : Nat := ((List.range 8).find? (fun j => s.testBit j)).getD 8
theorem fsb_of : ∀ s, s < 256 → ∀ h, h < 8 → s.testBit h = true → (∀ j, j < h → s.testBit j = false) → fsb s = h := by decide +kernel
theorem fsb_ok : ∀ s, s < 256 → s ≠ 0 → fsb s < 8 ∧ s.testBit (fsb s) = true ∧ ∀ j, j < fsb s → s.testBit j = false := by decide +kernel
set_option maxRecDepth 100000 in
set_option maxHeartbeats 4000000 in
theorem c_isIn (l : Launch) (G : xg_G) (O : Heap) (t : xT) (s j : Nat) (hs : s < 256) (hj : j < 8) : xm l yX4_isIn cX4_isIn 2 (some .boolean) rmX4_isIn G O t [.int (nI s), .int (nI j)] (xi (fun v t' => v = bi (s.testBit j = true) ∧ t' = t)) := by
  refine xm_enter (by decide) 0 rfl rfl ?_
  intro p e s0 m args below meth c X hr hk
  refine g_eq (L2 := [some (.int (nI s)), some (.int (nI j))]) rfl rfl rfl ?_
  refine g_iload_n (pc := 0) X dX4_isIn_0 rfl rfl ?_
  refine g_iload_n (pc := 1) X dX4_isIn_1 rfl rfl ?_
  refine g_ishr (pc := 2) X dX4_isIn_2 ?_
  refine g_iconst (pc := 3) (v := 1) X dX4_isIn_3 (by decide) ?_
  refine g_iand (pc := 4) X dX4_isIn_4 ?_
  refine g_iconst (pc := 5) (v := 1) X dX4_isIn_5 (by decide) ?_
  refine g_icmp_ne (pc := 6) (tgt := 13) X dX4_isIn_6 (by decide) (fun hc_6 => ?_) (fun hc_6 => ?_)
  · refine g_iconst (pc := 13) (v := 0) X dX4_isIn_13 (by decide) ?_
    exact gm_zret (pc := 14) X hr hk dX4_isIn_14 (by first | exact Or.inl rfl | exact Or.inr rfl) (⟨(bi_f (fun q => hc_6 ((bit_in s hs j hj).mpr q))).symm, rfl⟩)
  · refine g_iconst (pc := 9) (v := 1) X dX4_isIn_9 (by decide) ?_
    refine g_goto (pc := 10) (tgt := 14) X dX4_isIn_10 (by decide) ?_
    exact gm_zret (pc := 14) X hr hk dX4_isIn_14 (by first | exact Or.inl rfl | exact Or.inr rfl) (⟨(bi_t ((bit_in s hs j hj).mp hc_6)).symm, rfl⟩)

set_option maxRecDepth 100000 in
set_option maxHeartbeats 4000000 in
theorem c_without (l : Launch) (G : xg_G) (O : Heap) (t : xT) (s a b : Nat) (hs : s < 256) (ha : a < 8) (hb : b < 8) : xm l yX4_without cX4_without 3 (some .int) rmX4_without G O t [.int (nI s), .int (nI a), .int (nI b)] (xi (fun v t' => v = nI (wo s a b) ∧ t' = t)) := by
  refine xm_enter (by decide) 0 rfl rfl ?_
  intro p e s0 m args below meth c X hr hk
  refine g_eq (L2 := [some (.int (nI s)), some (.int (nI a)), some (.int (nI b))]) rfl rfl rfl ?_
  refine g_iload_n (pc := 0) X dX4_without_0 rfl rfl ?_
  refine g_iconst (pc := 1) (v := 1) X dX4_without_1 (by decide) ?_
  refine g_iload_n (pc := 2) X dX4_without_2 rfl rfl ?_
  refine g_ishl (pc := 3) X dX4_without_3 ?_
  refine g_iconst (pc := 4) (v := (-1)) X dX4_without_4 (by decide) ?_
  refine g_ixor (pc := 5) X dX4_without_5 ?_
  refine g_iand (pc := 6) X dX4_without_6 ?_
  refine g_iconst (pc := 7) (v := 1) X dX4_without_7 (by decide) ?_
  refine g_iload_n (pc := 8) X dX4_without_8 rfl rfl ?_
  refine g_ishl (pc := 9) X dX4_without_9 ?_
  refine g_iconst (pc := 10) (v := (-1)) X dX4_without_10 (by decide) ?_
  refine g_ixor (pc := 11) X dX4_without_11 ?_
  refine g_iand (pc := 12) X dX4_without_12 ?_
  exact gm_iret (pc := 13) X hr hk dX4_without_13 (⟨wo_eq s hs a ha b hb, rfl⟩)

set_option maxRecDepth 100000 in
set_option maxHeartbeats 4000000 in
theorem c_firstOf (l : Launch) (G : xg_G) (O : Heap) (t : xT) (s : Nat) (hs : s < 256) (hs0 : s ≠ 0) : xm l yX4_firstOf cX4_firstOf 2 (some .int) rmX4_firstOf G O t [.int (nI s)] (xi (fun v t' => v = nI (fsb s) ∧ t' = t)) := by
  refine xm_enter (by decide) 1 rfl rfl ?_
  intro p e s0 m args below meth c X hr hk
  refine g_eq (L2 := [some (.int (nI s)), none]) rfl rfl rfl ?_
  have loop : ∀ (z9 : Nat) (h : Nat) (xh : Int32), 8 - h < z9 → xh = nI h → h ≤ fsb s → gm p l e rmX4_firstOf s0 m args below meth c 2 G O (xmQ below G O (xi (fun v t' => v = nI (fsb s) ∧ t' = t)) args s0) (t) [some (.int (nI s)), some (.int (xh))] 2 [] := by
    intro z9
    induction z9 with
    | zero => intro h xh h9; exact absurd h9 (Nat.not_lt_zero _)
    | succ z9 ih =>
      intro h xh h9 hxh hh
      subst hxh
      have hf := fsb_ok s hs hs0
      refine g_iload_n (pc := 2) X dX4_firstOf_2 rfl rfl ?_
      refine g_bipush (pc := 3) (v := 8) X dX4_firstOf_3 (by decide) ?_
      refine g_icmp_ge (pc := 5) (tgt := 24) X dX4_firstOf_5 (by decide) (fun hc_5 => ?_) (fun hc_5 => ?_)
      · exact absurd (n_ge (a := 8) (b := h) hc_5) (by omega)
      · refine g_iload_n (pc := 8) X dX4_firstOf_8 rfl rfl ?_
        refine g_iload_n (pc := 9) X dX4_firstOf_9 rfl rfl ?_
        refine gm_Si (pc := 10) X xc_X4_56 (c_isIn l G O _ s h hs (n_gt (a := 8) (b := h) hc_5)) dX4_firstOf_10 rfl rfl rfl (Nat.le_of_ble_eq_true rfl) (fun v_10 t_10 hp => ?_)
        obtain ⟨rfl, hq9⟩ := hp
        have hq9 := hq9.symm
        subst hq9
        refine g_if_eq (pc := 13) (tgt := 18) X dX4_firstOf_13 (by decide) (fun hc_13 => ?_) (fun hc_13 => ?_)
        · refine g_inc (pc := 18) (kv := 1) X dX4_firstOf_18 (by decide) rfl (by decide) ?_
          refine g_goto (pc := 21) (tgt := 2) X dX4_firstOf_21 (by decide) ?_
          exact ih (h + 1) _ (by omega) (nI_1 h) (by rcases Nat.lt_or_ge h (fsb s) with q | q; exact q; exact absurd (by rw [show h = fsb s by omega]; exact hf.2.1) (bi_0 hc_13))
        · refine g_iload_n (pc := 16) X dX4_firstOf_16 rfl rfl ?_
          exact gm_iret (pc := 17) X hr hk dX4_firstOf_17 (⟨by rw [fsb_of s hs h (n_gt (a := 8) (b := h) hc_5) (bi_1 hc_13) (fun j hj => hf.2.2 j (by omega))], rfl⟩)
  refine g_iconst (pc := 0) (v := 0) X dX4_firstOf_0 (by decide) ?_
  refine g_istore_n (pc := 1) X dX4_firstOf_1 rfl (by decide) ?_
  exact loop 9 0 _ (by omega) nI_0.symm (Nat.zero_le _)

set_option maxRecDepth 100000 in
set_option maxHeartbeats 4000000 in
theorem c_wholeSet (l : Launch) (G : xg_G) (O : Heap) (t : xT)  : xm l yX4_wholeSet cX4_wholeSet 1 (some .int) rmX4_wholeSet G O t [.ref (O.size + 43)] (xi (fun v t' => v = t 43 3 ∧ t' = t)) := by
  refine xm_enter (by decide) 0 rfl rfl ?_
  intro p e s m args below meth c X hr hk
  refine g_eq (L2 := [some (.ref (O.size + 43))]) rfl rfl rfl ?_
  refine g_aload_n (pc := 0) X dX4_wholeSet_0 rfl rfl ?_
  refine gm_getI (pc := 1) (j := 3) X 4 dX4_wholeSet_1 rfl (by decide) rfl xu_4 (by decide) rfl xw_221 rfl ?_
  exact gm_iret (pc := 4) X hr hk dX4_wholeSet_4 (⟨rfl, rfl⟩)

set_option maxRecDepth 100000 in
set_option maxHeartbeats 4000000 in
theorem c_sum (l : Launch) (G : xg_G) (O : Heap) (t : xT) (s : Nat) (hs : s < 256) (hw : t 43 3 = nI s) : xm l yX4_sum cX4_sum 1 (some .int) rmX4_sum G O t [.ref (O.size + 43)] (xi (fun v t' => v = t 53 s ∧ t' = t)) := by
  refine xm_enter (by decide) 0 rfl rfl ?_
  intro p e s0 m args below meth c X hr hk
  refine g_eq (L2 := [some (.ref (O.size + 43))]) rfl rfl rfl ?_
  refine g_aload_n (pc := 0) X dX4_sum_0 rfl rfl ?_
  refine gm_getR (k' := 53) (pc := 1) (j := 1) X 4 dX4_sum_1 rfl (by decide) rfl xu_4 (by decide) rfl xw_219 rfl rfl ?_
  refine g_aload_n (pc := 4) X dX4_sum_4 rfl rfl ?_
  refine gm_getI (pc := 5) (j := 3) X 4 dX4_sum_5 rfl (by decide) rfl xu_4 (by decide) rfl xw_221 rfl ?_
  refine gm_iald (pc := 8) X (s) dX4_sum_8 rfl hw (show s < 256 from by omega) (by decide) ?_
  exact gm_iret (pc := 9) X hr hk dX4_sum_9 (⟨rfl, rfl⟩)

set_option maxRecDepth 100000 in
set_option maxHeartbeats 4000000 in
theorem c_mateOfFirst (l : Launch) (G : xg_G) (O : Heap) (t : xT) (s w : Nat) (hw : t 43 3 = nI w) (hw2 : w < 256) (hs : s ≤ w) : xm l yX4_mateOfFirst cX4_mateOfFirst 2 (some .int) rmX4_mateOfFirst G O t [.ref (O.size + 43), .int (nI s)] (xi (fun v t' => v = t 54 s ∧ t' = t)) := by
  refine xm_enter (by decide) 0 rfl rfl ?_
  intro p e s0 m args below meth c X hr hk
  refine g_eq (L2 := [some (.ref (O.size + 43)), some (.int (nI s))]) rfl rfl rfl ?_
  refine g_iload_n (pc := 0) X dX4_mateOfFirst_0 rfl rfl ?_
  refine g_aload_n (pc := 1) X dX4_mateOfFirst_1 rfl rfl ?_
  refine gm_getI (pc := 2) (j := 3) X 4 dX4_mateOfFirst_2 rfl (by decide) rfl xu_4 (by decide) rfl xw_221 rfl ?_
  refine gm_SNi (pc := 5) X xc_X4_63 (c_isWithin l G O _ (nI s) _) dX4_mateOfFirst_5 rfl rfl rfl (Nat.le_of_ble_eq_true rfl) (fun v_5 t_5 hp => ?_)
  obtain ⟨rfl, hq9⟩ := hp
  have hq9 := hq9.symm
  subst hq9
  refine g_if_eq (pc := 8) (tgt := 20) X dX4_mateOfFirst_8 (by decide) (fun hc_8 => ?_) (fun hc_8 => ?_)
  · exact absurd ⟨nI_pos' (by omega), by rw [hw]; exact nI_le hs (by omega)⟩ (bi_0 hc_8)
  · refine g_aload_n (pc := 11) X dX4_mateOfFirst_11 rfl rfl ?_
    refine gm_getR (k' := 54) (pc := 12) (j := 2) X 4 dX4_mateOfFirst_12 rfl (by decide) rfl xu_4 (by decide) rfl xw_220 rfl rfl ?_
    refine g_iload_n (pc := 15) X dX4_mateOfFirst_15 rfl rfl ?_
    refine gm_iald (pc := 16) X (s) dX4_mateOfFirst_16 rfl rfl (show s < 256 from by omega) (by decide) ?_
    refine g_goto (pc := 17) (tgt := 21) X dX4_mateOfFirst_17 (by decide) ?_
    exact gm_iret (pc := 21) X hr hk dX4_mateOfFirst_21 (⟨rfl, rfl⟩)

/-- the least sum and its mate, over the mates below n: C the costs with the first half f, T the least sums of lesser sets -/
def sst (C T : Nat → Int32) (s f : Nat) : Nat → Int32 × Int32 → Int32 × Int32
  | 0, b => b
  | j + 1, b => if f ≤ j ∧ s.testBit j = true ∧ ¬ C j = -1 then
      (if (sst C T s f j b).1 = -1 ∨ C j + T (wo s f j) < (sst C T s f j b).1 then (C j + T (wo s f j), nI j) else sst C T s f j b)
    else sst C T s f j b
theorem sst_low {C T : Nat → Int32} {s f : Nat} {b : Int32 × Int32} : ∀ {j : Nat}, j ≤ f → sst C T s f j b = b
  | 0, _ => rfl
  | j + 1, h => by rw [sst.eq_2, if_neg (by omega)]; exact sst_low (by omega)
theorem sst_no {C T : Nat → Int32} {s f j : Nat} {b : Int32 × Int32} (h : ¬ (f ≤ j ∧ s.testBit j = true ∧ ¬ C j = -1)) : sst C T s f j b = sst C T s f (j + 1) b := by
  rw [sst.eq_2, if_neg h]
theorem sst_keep {C T : Nat → Int32} {s f j : Nat} {b : Int32 × Int32} (h : ¬ ((sst C T s f j b).1 = -1 ∨ C j + T (wo s f j) < (sst C T s f j b).1)) : sst C T s f j b = sst C T s f (j + 1) b := by
  rw [sst.eq_2]; split
  · first | rfl | rw [if_neg h]
  · rfl
theorem sst_take {C T : Nat → Int32} {s f j : Nat} {b : Int32 × Int32} (h1 : f ≤ j ∧ s.testBit j = true ∧ ¬ C j = -1) (h : (sst C T s f j b).1 = -1 ∨ C j + T (wo s f j) < (sst C T s f j b).1) : (C j + T (wo s f j), nI j) = sst C T s f (j + 1) b := by
  rw [sst.eq_2, if_pos h1, if_pos h]
theorem sst_cong {C C2 T T2 : Nat → Int32} {s f : Nat} {b : Int32 × Int32} : ∀ {n : Nat}, (∀ j, f ≤ j → j < n → C j = C2 j) → (∀ j, f ≤ j → j < n → s.testBit j = true → T (wo s f j) = T2 (wo s f j)) → sst C T s f n b = sst C2 T2 s f n b
  | 0, _, _ => rfl
  | n + 1, h1, h2 => by
    rw [sst.eq_2, sst.eq_2, sst_cong (n := n) (fun j a b => h1 j a (by omega)) (fun j a b => h2 j a (by omega))]
    by_cases q : f ≤ n
    · rw [h1 n q (by omega)]
      by_cases q2 : s.testBit n = true
      · rw [h2 n q (by omega) q2]
      · simp [q2]
    · simp [q]
def set2 (t : xT) (s : Nat) (b : Int32 × Int32) : xT := xt (xt t 53 s b.1) 54 s b.2
theorem set2_ne (t : xT) (s : Nat) (b : Int32 × Int32) {x : Nat} (y : Nat) (h1 : x ≠ 53) (h2 : x ≠ 54) : set2 t s b x y = t x y := by simp [set2, xt, h1, h2]
theorem set2_53 (t : xT) (s : Nat) (b : Int32 × Int32) {y : Nat} (h : y ≠ s) : set2 t s b 53 y = t 53 y := by simp [set2, xt, h]
theorem set2_1 (t : xT) (s : Nat) (b : Int32 × Int32) : set2 t s b 53 s = b.1 := by simp [set2, xt]
theorem set2_new (t : xT) (s : Nat) (b : Int32 × Int32) (x y : Int32) : xt (xt (set2 t s b) 53 s x) 54 s y = set2 t s (x, y) := by
  funext a c
  simp only [set2, xt]
  by_cases h1 : a = 53
  · subst h1
    by_cases h2 : c = s
    · subst h2; simp
    · simp [h2]
  · by_cases h3 : a = 54
    · subst h3
      by_cases h2 : c = s
      · subst h2; simp
      · simp [h2]
    · simp [h1, h3]
theorem set2_ini (t : xT) (s : Nat) (x : Int32) : xt t 53 s x = set2 t s (x, t 54 s) := by
  funext a c
  simp only [set2, xt]
  by_cases h3 : a = 54 ∧ c = s
  · obtain ⟨rfl, rfl⟩ := h3; simp
  · simp [h3]
set_option maxRecDepth 100000 in
set_option maxHeartbeats 4000000 in
theorem c_settleSet (l : Launch) (G : xg_G) (O : Heap) (t : xT) (s n : Nat) (hs : s < 256) (hs0 : s ≠ 0) (hn : n ≤ 8) : xm l yX4_settleSet cX4_settleSet 6 none rmX4_settleSet G O t [.ref (O.size + 43), .int (nI s), .int (nI n)] (xv (fun t' => t' = set2 t s (sst (t (45 + fsb s)) (t 53) s (fsb s) n (-1, t 54 s)))) := by
  refine xm_enter (by decide) 3 rfl rfl ?_
  intro p e s0 m args below meth c X hr hk
  refine g_eq (L2 := [some (.ref (O.size + 43)), some (.int (nI s)), some (.int (nI n)), none, none, none]) rfl rfl rfl ?_
  have hf := fsb_ok s hs hs0
  generalize hfe : fsb s = f at *
  have hf8 : f < 8 := hf.1
  have loop : ∀ (z9 : Nat) (j : Nat) (xj : Int32) (t1 : xT), 8 - j < z9 → xj = nI j → t1 = set2 t s (sst (t (45 + f)) (t 53) s (f) j (-1, t 54 s)) → f ≤ j → j ≤ max f n → gm p l e rmX4_settleSet s0 m args below meth c 6 G O (xmQ below G O (xv (fun t' => t' = set2 t s (sst (t (45 + f)) (t 53) s (f) n (-1, t 54 s)))) args s0) (t1) [some (.ref (O.size + 43)), some (.int (nI s)), some (.int (nI n)), some (.int (nI f)), some (.int (xj)), none] 15 [] := by
    intro z9
    induction z9 with
    | zero => intro j xj t1 h9; exact absurd h9 (Nat.not_lt_zero _)
    | succ z9 ih =>
      intro j xj t1 h9 hxj ht1 hfj hjn
      subst hxj
      subst ht1
      refine g_iload (pc := 15) X dX4_settleSet_15 rfl ?_
      refine g_iload_n (pc := 17) X dX4_settleSet_17 rfl rfl ?_
      refine g_icmp_ge (pc := 18) (tgt := 113) X dX4_settleSet_18 (by decide) (fun hc_18 => ?_) (fun hc_18 => ?_)
      · exact gm_vret (pc := 113) X hr hk dX4_settleSet_113 (by rw [show sst (t (45 + f)) (t 53) s f j (-1, t 54 s) = sst (t (45 + f)) (t 53) s f n (-1, t 54 s) by have := n_ge hc_18; rcases Nat.le_total f n with q | q; rw [show j = n by omega]; rw [sst_low (by omega), sst_low q]])
      · have hjl : j < n := n_gt hc_18
        refine g_iload_n (pc := 21) X dX4_settleSet_21 rfl rfl ?_
        refine g_iload (pc := 22) X dX4_settleSet_22 rfl ?_
        refine gm_Si (pc := 24) X xc_X4_56 (c_isIn l G O _ s j hs (by omega)) dX4_settleSet_24 rfl rfl rfl (Nat.le_of_ble_eq_true rfl) (fun v_24 t_24 hp => ?_)
        obtain ⟨rfl, hq9⟩ := hp
        have hq9 := hq9.symm
        subst hq9
        refine g_if_eq (pc := 27) (tgt := 107) X dX4_settleSet_27 (by decide) (fun hc_27 => ?_) (fun hc_27 => ?_)
        · refine g_inc (pc := 107) (kv := 1) X dX4_settleSet_107 (by decide) rfl (by decide) ?_
          refine g_goto (pc := 110) (tgt := 15) X dX4_settleSet_110 (by decide) ?_
          refine g_wk 5 ?_
          exact ih (j + 1) _ _ (by omega) (nI_1 j) (by rw [← sst_no (fun q => bi_0 hc_27 q.2.1)]) (by omega) (by omega)
        · refine g_aload_n (pc := 30) X dX4_settleSet_30 rfl rfl ?_
          refine gm_getR (k' := 44) (pc := 31) (j := 0) X 4 dX4_settleSet_31 rfl (by decide) rfl xu_4 (by decide) rfl xw_218 rfl rfl ?_
          refine g_iload_n (pc := 34) X dX4_settleSet_34 rfl rfl ?_
          refine gm_aald (pc := 35) (k' := (45 + f)) X 11 (f) (.array .int) dX4_settleSet_35 rfl (by decide) (by decide) rfl rfl rfl (show f < 8 from by omega) (by decide) (kd_cost f hf8).1 ?_
          refine g_iload (pc := 36) X dX4_settleSet_36 rfl ?_
          refine gm_iald (pc := 38) X (j) dX4_settleSet_38 (kd_cost f hf8).2.1 rfl (by rw [(kd_cost f hf8).2.2]; omega) (by rw [(kd_cost f hf8).2.2]; decide) ?_
          refine g_iconst (pc := 39) (v := (-1)) X dX4_settleSet_39 (by decide) ?_
          refine g_icmp_ne (pc := 40) (tgt := 46) X dX4_settleSet_40 (by decide) (fun hc_40 => ?_) (fun hc_40 => ?_)
          · rw [set2_ne t s _ j (by omega) (by omega)] at hc_40
            have htk : f ≤ j ∧ s.testBit j = true ∧ ¬ t (45 + f) j = -1 := ⟨hfj, bi_1 hc_27, hc_40⟩
            refine g_aload_n (pc := 46) X dX4_settleSet_46 rfl rfl ?_
            refine gm_getR (k' := 44) (pc := 47) (j := 0) X 4 dX4_settleSet_47 rfl (by decide) rfl xu_4 (by decide) rfl xw_218 rfl rfl ?_
            refine g_iload_n (pc := 50) X dX4_settleSet_50 rfl rfl ?_
            refine gm_aald (pc := 51) (k' := (45 + f)) X 11 (f) (.array .int) dX4_settleSet_51 rfl (by decide) (by decide) rfl rfl rfl (show f < 8 from by omega) (by decide) (kd_cost f hf8).1 ?_
            refine g_iload (pc := 52) X dX4_settleSet_52 rfl ?_
            refine gm_iald (pc := 54) X (j) dX4_settleSet_54 (kd_cost f hf8).2.1 rfl (by rw [(kd_cost f hf8).2.2]; omega) (by rw [(kd_cost f hf8).2.2]; decide) ?_
            refine g_aload_n (pc := 55) X dX4_settleSet_55 rfl rfl ?_
            refine gm_getR (k' := 53) (pc := 56) (j := 1) X 4 dX4_settleSet_56 rfl (by decide) rfl xu_4 (by decide) rfl xw_219 rfl rfl ?_
            refine g_iload_n (pc := 59) X dX4_settleSet_59 rfl rfl ?_
            refine g_iload_n (pc := 60) X dX4_settleSet_60 rfl rfl ?_
            refine g_iload (pc := 61) X dX4_settleSet_61 rfl ?_
            refine gm_Si (pc := 63) X xc_X4_59 (c_without l G O _ s f j hs (by omega) (by omega)) dX4_settleSet_63 rfl rfl rfl (Nat.le_of_ble_eq_true rfl) (fun v_63 t_63 hp => ?_)
            obtain ⟨rfl, hq9⟩ := hp
            have hq9 := hq9.symm
            subst hq9
            refine gm_iald (pc := 66) X (wo s f j) dX4_settleSet_66 rfl rfl (show wo s f j < 256 from by have := wo_le s f j; omega) (by decide) ?_
            refine g_iadd (pc := 67) X dX4_settleSet_67 ?_
            rw [set2_ne t s _ j (by omega) (by omega), set2_53 t s _ (Nat.ne_of_lt (wo_lt (by omega) (by omega) hf.2.1))]
            refine g_istore (pc := 68) X dX4_settleSet_68 (by decide) ?_
            refine g_aload_n (pc := 70) X dX4_settleSet_70 rfl rfl ?_
            refine gm_getR (k' := 53) (pc := 71) (j := 1) X 4 dX4_settleSet_71 rfl (by decide) rfl xu_4 (by decide) rfl xw_219 rfl rfl ?_
            refine g_iload_n (pc := 74) X dX4_settleSet_74 rfl rfl ?_
            refine gm_iald (pc := 75) X (s) dX4_settleSet_75 rfl rfl (show s < 256 from by omega) (by decide) ?_
            refine g_iconst (pc := 76) (v := (-1)) X dX4_settleSet_76 (by decide) ?_
            refine g_icmp_eq (pc := 77) (tgt := 91) X dX4_settleSet_77 (by decide) (fun hc_77 => ?_) (fun hc_77 => ?_)
            · refine g_aload_n (pc := 91) X dX4_settleSet_91 rfl rfl ?_
              refine gm_getR (k' := 53) (pc := 92) (j := 1) X 4 dX4_settleSet_92 rfl (by decide) rfl xu_4 (by decide) rfl xw_219 rfl rfl ?_
              refine g_iload_n (pc := 95) X dX4_settleSet_95 rfl rfl ?_
              refine g_iload (pc := 96) X dX4_settleSet_96 rfl ?_
              refine gm_iast (pc := 98) X (s) dX4_settleSet_98 rfl rfl (show s < 256 from by omega) (by decide) ?_
              refine g_aload_n (pc := 99) X dX4_settleSet_99 rfl rfl ?_
              refine gm_getR (k' := 54) (pc := 100) (j := 2) X 4 dX4_settleSet_100 rfl (by decide) rfl xu_4 (by decide) rfl xw_220 rfl rfl ?_
              refine g_iload_n (pc := 103) X dX4_settleSet_103 rfl rfl ?_
              refine g_iload (pc := 104) X dX4_settleSet_104 rfl ?_
              refine gm_iast (pc := 106) X (s) dX4_settleSet_106 rfl rfl (show s < 256 from by omega) (by decide) ?_
              refine g_inc (pc := 107) (kv := 1) X dX4_settleSet_107 (by decide) rfl (by decide) ?_
              refine g_goto (pc := 110) (tgt := 15) X dX4_settleSet_110 (by decide) ?_
              refine g_wk 5 ?_
              exact ih (j + 1) _ _ (by omega) (nI_1 j) (by rw [set2_1] at hc_77; rw [set2_new, ← sst_take htk (Or.inl hc_77)]) (by omega) (by omega)
            · refine g_iload (pc := 80) X dX4_settleSet_80 rfl ?_
              refine g_aload_n (pc := 82) X dX4_settleSet_82 rfl rfl ?_
              refine gm_getR (k' := 53) (pc := 83) (j := 1) X 4 dX4_settleSet_83 rfl (by decide) rfl xu_4 (by decide) rfl xw_219 rfl rfl ?_
              refine g_iload_n (pc := 86) X dX4_settleSet_86 rfl rfl ?_
              refine gm_iald (pc := 87) X (s) dX4_settleSet_87 rfl rfl (show s < 256 from by omega) (by decide) ?_
              refine g_icmp_ge (pc := 88) (tgt := 107) X dX4_settleSet_88 (by decide) (fun hc_88 => ?_) (fun hc_88 => ?_)
              · refine g_inc (pc := 107) (kv := 1) X dX4_settleSet_107 (by decide) rfl (by decide) ?_
                refine g_goto (pc := 110) (tgt := 15) X dX4_settleSet_110 (by decide) ?_
                refine g_wk 5 ?_
                exact ih (j + 1) _ _ (by omega) (nI_1 j) (by rw [set2_1] at hc_77 hc_88; rw [← sst_keep (by rintro (q | q); exact hc_77 q; exact k2_nlt hc_88 q)]) (by omega) (by omega)
              · refine g_aload_n (pc := 91) X dX4_settleSet_91 rfl rfl ?_
                refine gm_getR (k' := 53) (pc := 92) (j := 1) X 4 dX4_settleSet_92 rfl (by decide) rfl xu_4 (by decide) rfl xw_219 rfl rfl ?_
                refine g_iload_n (pc := 95) X dX4_settleSet_95 rfl rfl ?_
                refine g_iload (pc := 96) X dX4_settleSet_96 rfl ?_
                refine gm_iast (pc := 98) X (s) dX4_settleSet_98 rfl rfl (show s < 256 from by omega) (by decide) ?_
                refine g_aload_n (pc := 99) X dX4_settleSet_99 rfl rfl ?_
                refine gm_getR (k' := 54) (pc := 100) (j := 2) X 4 dX4_settleSet_100 rfl (by decide) rfl xu_4 (by decide) rfl xw_220 rfl rfl ?_
                refine g_iload_n (pc := 103) X dX4_settleSet_103 rfl rfl ?_
                refine g_iload (pc := 104) X dX4_settleSet_104 rfl ?_
                refine gm_iast (pc := 106) X (s) dX4_settleSet_106 rfl rfl (show s < 256 from by omega) (by decide) ?_
                refine g_inc (pc := 107) (kv := 1) X dX4_settleSet_107 (by decide) rfl (by decide) ?_
                refine g_goto (pc := 110) (tgt := 15) X dX4_settleSet_110 (by decide) ?_
                refine g_wk 5 ?_
                exact ih (j + 1) _ _ (by omega) (nI_1 j) (by rw [set2_1] at hc_88; rw [set2_new, ← sst_take htk (Or.inr (k2_lt hc_88))]) (by omega) (by omega)
          · refine g_goto (pc := 43) (tgt := 107) X dX4_settleSet_43 (by decide) ?_
            refine g_inc (pc := 107) (kv := 1) X dX4_settleSet_107 (by decide) rfl (by decide) ?_
            refine g_goto (pc := 110) (tgt := 15) X dX4_settleSet_110 (by decide) ?_
            refine g_wk 5 ?_
            exact ih (j + 1) _ _ (by omega) (nI_1 j) (by rw [set2_ne t s _ j (by omega) (by omega)] at hc_40; rw [← sst_no (fun q => q.2.2 hc_40)]) (by omega) (by omega)
  refine g_iload_n (pc := 0) X dX4_settleSet_0 rfl rfl ?_
  refine gm_Si (pc := 1) X xc_X4_52 (c_firstOf l G O _ s hs hs0) dX4_settleSet_1 rfl rfl rfl (Nat.le_of_ble_eq_true rfl) (fun v_1 t_1 hp => ?_)
  obtain ⟨rfl, hq9⟩ := hp
  have hq9 := hq9.symm
  subst hq9
  rw [hfe]
  refine g_istore_n (pc := 4) X dX4_settleSet_4 rfl (by decide) ?_
  refine g_aload_n (pc := 5) X dX4_settleSet_5 rfl rfl ?_
  refine gm_getR (k' := 53) (pc := 6) (j := 1) X 4 dX4_settleSet_6 rfl (by decide) rfl xu_4 (by decide) rfl xw_219 rfl rfl ?_
  refine g_iload_n (pc := 9) X dX4_settleSet_9 rfl rfl ?_
  refine g_iconst (pc := 10) (v := (-1)) X dX4_settleSet_10 (by decide) ?_
  refine gm_iast (pc := 11) X (s) dX4_settleSet_11 rfl rfl (show s < 256 from by omega) (by decide) ?_
  refine g_iload_n (pc := 12) X dX4_settleSet_12 rfl rfl ?_
  refine g_istore (pc := 13) X dX4_settleSet_13 (by decide) ?_
  exact loop 9 f _ _ (by omega) rfl (by rw [sst_low (Nat.le_refl f)]; exact set2_ini t s (-1)) (Nat.le_refl f) (by omega)

