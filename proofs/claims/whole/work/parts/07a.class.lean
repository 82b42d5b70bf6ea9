/-! 07a: Tape.put, Work.seekFault, read, Halves.add, isSpot, bitCount -/
def shf : Nat → Int32
  | 0 => 24
  | 1 => 16
  | 2 => 8
  | 3 => 0
  | _ => -8
theorem shf_s : ∀ i, i < 4 → shf i + (-8) = shf (i + 1) ∧ ¬ shf i < 0 := by decide
def byt (v : Int32) (i : Nat) : Int32 := (v.toUInt32 >>> ((shf i).toUInt32 &&& Int32.toUInt32 31)).toInt32 &&& 255
set_option maxRecDepth 100000 in
set_option maxHeartbeats 4000000 in
theorem c_put (l : Launch) (G : xg_G) (O : Heap) (t : xT) (n : Nat) (v : Int32) (hn : n + 4 ≤ 400) (h1 : t 1 1 = nI n) : xm l yX6_put cX6_put 3 none rmX6_put G O t [.ref (O.size + 1), .int v] (xv (fun t' => t' 1 1 = nI (n + 4) ∧ (∀ j, j < 4 → t' 2 (n + j) = byt v j) ∧ ∀ x y, x ≠ 1 → ¬ (x = 2 ∧ n ≤ y) → t' x y = t x y)) := by
  refine xm_enter (by decide) 1 rfl rfl ?_
  intro p e s m args below meth c X hr hk
  refine g_eq (L2 := [some (.ref (O.size + 1)), some (.int v), none]) rfl rfl rfl ?_
  have loop : ∀ (z9 : Nat) (i : Nat) (xs : Int32) (t1 : xT), 4 - i < z9 → xs = shf i → i ≤ 4 → t1 1 1 = nI (n + i) → (∀ j, j < i → t1 2 (n + j) = byt v j) → (∀ x y, x ≠ 1 → ¬ (x = 2 ∧ n ≤ y) → t1 x y = t x y) → gm p l e rmX6_put s m args below meth c 3 G O (xmQ below G O (xv (fun t' => t' 1 1 = nI (n + 4) ∧ (∀ j, j < 4 → t' 2 (n + j) = byt v j) ∧ ∀ x y, x ≠ 1 → ¬ (x = 2 ∧ n ≤ y) → t' x y = t x y)) args s) (t1) [some (.ref (O.size + 1)), some (.int (v)), some (.int (xs))] 16 [] := by
    intro z9
    induction z9 with
    | zero => intro i xs t1 h9; exact absurd h9 (Nat.not_lt_zero _)
    | succ z9 ih =>
      intro i xs t1 h9 hxs hi e1 e2 e3
      subst hxs
      refine g_iload_n (pc := 16) X dX6_put_16 rfl rfl ?_
      refine g_if_lt (pc := 17) (tgt := 52) X dX6_put_17 (by decide) (fun hc_17 => ?_) (fun hc_17 => ?_)
      · exact gm_vret (pc := 52) X hr hk dX6_put_52 (by have hi4 : i = 4 := by { rcases Nat.lt_or_ge i 4 with q | q; exact absurd hc_17 (shf_s i q).2; omega }; subst hi4; exact ⟨e1, e2, e3⟩)
      · have hi4 : i < 4 := by rcases Nat.lt_or_ge i 4 with q | q; exact q; rw [show i = 4 by omega] at hc_17; exact absurd (by decide) hc_17
        refine g_aload_n (pc := 20) X dX6_put_20 rfl rfl ?_
        refine gm_getR (k' := 2) (pc := 21) (j := 0) X 6 dX6_put_21 rfl (by decide) rfl xu_6 (by decide) rfl xw_60 rfl rfl ?_
        refine g_aload_n (pc := 24) X dX6_put_24 rfl rfl ?_
        refine gm_getI (pc := 25) (j := 1) X 6 dX6_put_25 rfl (by decide) rfl xu_6 (by decide) rfl xw_61 rfl ?_
        refine g_iload_n (pc := 28) X dX6_put_28 rfl rfl ?_
        refine g_iload_n (pc := 29) X dX6_put_29 rfl rfl ?_
        refine g_iushr (pc := 30) X dX6_put_30 rfl ?_
        refine g_sipush (pc := 31) (v := 255) X dX6_put_31 (by decide) ?_
        refine g_iand (pc := 34) X dX6_put_34 ?_
        refine gm_iast (pc := 35) X (n + i) dX6_put_35 rfl e1 (show n + i < 400 from by omega) (by decide) ?_
        refine g_aload_n (pc := 36) X dX6_put_36 rfl rfl ?_
        refine g_dup (pc := 37) X dX6_put_37 rfl ?_
        refine gm_getI (pc := 38) (j := 1) X 6 dX6_put_38 rfl (by decide) rfl xu_6 (by decide) rfl xw_61 rfl ?_
        refine g_iconst (pc := 41) (v := 1) X dX6_put_41 (by decide) ?_
        refine g_iadd (pc := 42) X dX6_put_42 ?_
        refine gm_putI (pc := 43) (j := 1) X 6 tyX6 dX6_put_43 rfl (by decide) rfl xu_6 tyX6_ok nmX6 (by decide) rfl xw_61 rfl rfl (Or.inl rfl) ?_
        refine g_inc (pc := 46) (kv := (-8)) X dX6_put_46 (by decide) rfl (by decide) ?_
        refine g_goto (pc := 49) (tgt := 16) X dX6_put_49 (by decide) ?_
        exact ih (i + 1) _ _ (by omega) (shf_s i hi4).1 (by omega) (by rw [xt_same, xt_nk _ _ _ _ (by decide), e1, nI_1]; rfl) (fun j hj => by
          rw [xt_nk _ _ _ _ (by decide)]
          by_cases q : j = i
          · subst q; rw [xt_same]; rfl
          · rw [xt_ne _ _ (Or.inr (by omega))]; exact e2 j (by omega)) (fun x y q1 q2 => by rw [xt_nk _ _ _ _ q1, xt_ne _ _ (by omega)]; exact e3 x y q1 q2)
  refine g_aload_n (pc := 0) X dX6_put_0 rfl rfl ?_
  refine gm_getI (pc := 1) (j := 1) X 6 dX6_put_1 rfl (by decide) rfl xu_6 (by decide) rfl xw_61 rfl ?_
  refine g_iconst (pc := 4) (v := 4) X dX6_put_4 (by decide) ?_
  refine g_iadd (pc := 5) X dX6_put_5 ?_
  refine g_sipush (pc := 6) (v := 400) X dX6_put_6 (by decide) ?_
  refine g_icmp_le (pc := 9) (tgt := 13) X dX6_put_9 (by decide) (fun hc_9 => ?_) (fun hc_9 => ?_)
  · refine g_bipush (pc := 13) (v := 24) X dX6_put_13 (by decide) ?_
    refine g_istore_n (pc := 15) X dX6_put_15 rfl (by decide) ?_
    exact loop 5 0 _ _ (by omega) rfl (by omega) h1 (fun j hj => absurd hj (Nat.not_lt_zero j)) (fun _ _ _ _ => rfl)
  · rw [h1, show (4 : Int32) = nI 4 from rfl, nI_add] at hc_9
    exact absurd (nI_le (a := n + 4) (b := 400) hn (by omega)) hc_9

/-- a letter's byte -/
def ltb (b : Int32) : Bool := decide (0 ≤ b - 97 ∧ b - 97 ≤ 15)
def ctb (f : Nat → Int32) : Nat → Nat
  | 0 => 0
  | n + 1 => ctb f n + (if ltb (f n) = true then 1 else 0)
def kbb (f : Nat → Int32) (i : Nat) : Int32 := if ltb (f i) = true then (if ctb f i = 160 then 2 else 0) else if f i = 10 ∨ f i = 32 then 0 else 1
/-- fault and its place of the first n bytes -/
def sfr (f : Nat → Int32) : Nat → Int32 × Int32
  | 0 => (0, -1)
  | n + 1 => if (sfr f n).1 = 0 then (if kbb f n = 0 then (0, -1) else (kbb f n, nI n)) else sfr f n
theorem ctb_le (f : Nat → Int32) : ∀ n, ctb f n ≤ n
  | 0 => Nat.le_refl 0
  | n + 1 => by
    have := ctb_le f n
    rw [ctb.eq_2]; split <;> omega
theorem ctb_t {f : Nat → Int32} {n : Nat} (h : ltb (f n) = true) : ctb f (n + 1) = ctb f n + 1 := by rw [ctb.eq_2, if_pos h]
theorem ctb_f {f : Nat → Int32} {n : Nat} (h : ¬ ltb (f n) = true) : ctb f (n + 1) = ctb f n := by rw [ctb.eq_2, if_neg h]; rfl
theorem ctb_mono (f : Nat → Int32) {i : Nat} : ∀ {d : Nat}, ctb f i ≤ ctb f (i + d)
  | 0 => Nat.le_refl _
  | d + 1 => by
    have := ctb_mono f (i := i) (d := d)
    show ctb f i ≤ ctb f (i + d + 1)
    rw [ctb.eq_2]; omega
theorem sfr_ok {f : Nat → Int32} : ∀ {n : Nat}, (sfr f n).1 = 0 → (sfr f n).2 = -1 ∧ ctb f n ≤ 160
  | 0, _ => ⟨rfl, by show 0 ≤ 160; omega⟩
  | n + 1, h => by
    rw [sfr.eq_2] at h ⊢
    by_cases q : (sfr f n).1 = 0
    · rw [if_pos q] at h ⊢
      by_cases q2 : kbb f n = 0
      · rw [if_pos q2]
        refine ⟨rfl, ?_⟩
        have ih := (sfr_ok q).2
        by_cases q3 : ltb (f n) = true
        · unfold kbb at q2
          rw [if_pos q3] at q2
          have : ¬ ctb f n = 160 := fun e => by rw [if_pos e] at q2; exact absurd q2 (by decide)
          rw [ctb_t q3]; omega
        · rw [ctb_f q3]; exact ih
      · rw [if_neg q2] at h; exact absurd h q2
    · rw [if_neg q] at h; exact absurd h q
theorem sfr_stay {f : Nat → Int32} {i : Nat} (h : ¬ (sfr f i).1 = 0) : ∀ {d : Nat}, sfr f (i + d) = sfr f i
  | 0 => rfl
  | d + 1 => by
    show sfr f (i + d + 1) = _
    rw [sfr.eq_2, sfr_stay h (d := d), if_neg h]
theorem sfr_back {f : Nat → Int32} {i n : Nat} (h : (sfr f n).1 = 0) (hi : i ≤ n) : (sfr f i).1 = 0 := by
  by_cases q : (sfr f i).1 = 0
  · exact q
  · rw [show n = i + (n - i) by omega, sfr_stay q] at h; exact h
def set4 (t : xT) (b : Int32 × Int32) : xT := xt (xt t 4 2 b.1) 4 3 b.2
theorem set4_ne (t : xT) (b : Int32 × Int32) {x : Nat} (y : Nat) (h : x ≠ 4) : set4 t b x y = t x y := by simp [set4, xt, h]
theorem set4_1 (t : xT) (b : Int32 × Int32) : set4 t b 4 1 = t 4 1 := by simp [set4, xt]
theorem set4_2 (t : xT) (b : Int32 × Int32) : set4 t b 4 2 = b.1 := by simp [set4, xt]
theorem set4_set (t : xT) (b : Int32 × Int32) (x y : Int32) : xt (xt (set4 t b) 4 2 x) 4 3 y = set4 t (x, y) := by
  funext a c
  simp only [set4, xt]
  by_cases h1 : a = 4
  · subst h1
    by_cases h2 : c = 2
    · subst h2; simp
    · by_cases h3 : c = 3
      · subst h3; simp
      · simp [h2, h3]
  · simp [h1]
theorem set4_3 (t : xT) (b : Int32 × Int32) (y : Int32) : xt (set4 t b) 4 3 y = set4 t (b.1, y) := by
  funext a c
  simp only [set4, xt]
  by_cases h1 : a = 4
  · subst h1
    by_cases h3 : c = 3
    · subst h3; simp
    · simp [h3]
  · simp [h1]
theorem n160 {n : Nat} (hn : n ≤ 400) : nI n = 160 ↔ n = 160 := nI_eq (b := 160) (by omega) (by decide)
theorem kbb_a {f : Nat → Int32} {k : Nat} (h : ¬ ltb (f k) = true) (h2 : f k = 10 ∨ f k = 32) : kbb f k = 0 := by unfold kbb; rw [if_neg h, if_pos h2]
theorem kbb_b {f : Nat → Int32} {k : Nat} (h : ¬ ltb (f k) = true) (h2 : ¬ f k = 10) (h3 : ¬ f k = 32) : kbb f k = 1 := by unfold kbb; rw [if_neg h, if_neg (by rintro (q | q); exact h2 q; exact h3 q)]
theorem kbb_c {f : Nat → Int32} {k : Nat} (h : ltb (f k) = true) : kbb f k = if ctb f k = 160 then 2 else 0 := by unfold kbb; rw [if_pos h]
theorem set4_self (t : xT) (b : Int32 × Int32) : xt (set4 t b) 4 2 b.1 = set4 t b := by
  funext a c
  simp only [set4, xt]
  by_cases h1 : a = 4
  · subst h1
    by_cases h2 : c = 2
    · subst h2; simp
    · simp [h2]
  · simp [h1]
set_option maxRecDepth 100000 in
set_option maxHeartbeats 4000000 in
theorem c_seekFault (l : Launch) (G : xg_G) (O : Heap) (t : xT) (nt n : Nat) (hnt : nt ≤ 400) (h1 : t 1 1 = nI nt) (hn : n ≤ nt) : xm l yX7_seekFault cX7_seekFault 6 none rmX7_seekFault G O t [.ref (O.size + 4), .ref (O.size + 1), .int (nI n)] (xv (fun t' => t' = set4 t (sfr (t 2) n))) := by
  refine xm_enter (by decide) 3 rfl rfl ?_
  intro p e s m args below meth c X hr hk
  refine g_eq (L2 := [some (.ref (O.size + 4)), some (.ref (O.size + 1)), some (.int (nI n)), none, none, none]) rfl rfl rfl ?_
  have loop : ∀ (z9 : Nat) (k : Nat) (xk : Int32) (xs : Int32) (t1 : xT), n - k < z9 → xk = nI k → t1 = set4 t (sfr (t 2) k) → ((sfr (t 2) k).1 = 0 → xs = nI (ctb (t 2) k)) → k ≤ n → gm p l e rmX7_seekFault s m args below meth c 6 G O (xmQ below G O (xv (fun t' => t' = set4 t (sfr (t 2) n))) args s) (t1) [some (.ref (O.size + 4)), some (.ref (O.size + 1)), some (.int (nI n)), some (.int (xs)), some (.int (xk)), none] 15 [] := by
    intro z9
    induction z9 with
    | zero => intro k xk xs t1 h9; exact absurd h9 (Nat.not_lt_zero _)
    | succ z9 ih =>
      intro k xk xs t1 h9 hxk ht1 hxs hkn
      subst hxk
      subst ht1
      refine g_iload (pc := 15) X dX7_seekFault_15 rfl ?_
      refine g_iload_n (pc := 17) X dX7_seekFault_17 rfl rfl ?_
      refine g_icmp_ge (pc := 18) (tgt := 108) X dX7_seekFault_18 (by decide) (fun hc_18 => ?_) (fun hc_18 => ?_)
      · exact gm_vret (pc := 108) X hr hk dX7_seekFault_108 (by rw [show k = n by have := n_ge hc_18; omega])
      · refine g_aload_n (pc := 21) X dX7_seekFault_21 rfl rfl ?_
        refine gm_getI (pc := 22) (j := 2) X 7 dX7_seekFault_22 rfl (by decide) rfl xu_7 (by decide) rfl xw_84 rfl ?_
        refine g_if_ne (pc := 25) (tgt := 108) X dX7_seekFault_25 (by decide) (fun hc_25 => ?_) (fun hc_25 => ?_)
        · exact gm_vret (pc := 108) X hr hk dX7_seekFault_108 (by rw [set4_2] at hc_25; rw [show n = k + (n - k) by omega, sfr_stay hc_25])
        · have hkl : k < n := n_gt hc_18
          rw [set4_2] at hc_25
          have hxs := hxs hc_25
          subst hxs
          have hso := sfr_ok hc_25
          have step2 : ∀ (x3 F : Int32), F = kbb (t 2) k → (F = 0 → x3 = nI (ctb (t 2) (k + 1))) → gm p l e rmX7_seekFault s m args below meth c 6 G O (xmQ below G O (xv (fun t' => t' = set4 t (sfr (t 2) n))) args s) (xt (set4 t (sfr (t 2) k)) 4 2 F) [some (.ref (O.size + 4)), some (.ref (O.size + 1)), some (.int (nI n)), some (.int (x3)), some (.int (nI k)), some (.int (t 2 k))] 85 [] := by
            intro x3 F hF hx3
            refine g_aload_n (pc := 85) X dX7_seekFault_85 rfl rfl ?_
            refine g_aload_n (pc := 86) X dX7_seekFault_86 rfl rfl ?_
            refine gm_getI (pc := 87) (j := 2) X 7 dX7_seekFault_87 rfl (by decide) rfl xu_7 (by decide) rfl xw_84 rfl ?_
            refine g_if_ne (pc := 90) (tgt := 97) X dX7_seekFault_90 (by decide) (fun hc_90 => ?_) (fun hc_90 => ?_)
            · refine g_iload (pc := 97) X dX7_seekFault_97 rfl ?_
              refine gm_putI (pc := 99) (j := 3) X 7 tyX7 dX7_seekFault_99 rfl (by decide) rfl xu_7 tyX7_ok nmX7 (by decide) rfl xw_86 rfl rfl (Or.inl rfl) ?_
              refine g_inc (pc := 102) (kv := 1) X dX7_seekFault_102 (by decide) rfl (by decide) ?_
              refine g_goto (pc := 105) (tgt := 15) X dX7_seekFault_105 (by decide) ?_
              refine g_wk 5 ?_
              rw [xt_same] at hc_90
              exact ih (k + 1) _ _ _ (by omega) (nI_1 k) (by rw [set4_set, sfr.eq_2, if_pos hc_25, if_neg (by rw [← hF]; exact hc_90), hF]) (fun q => absurd q (by rw [sfr.eq_2, if_pos hc_25, if_neg (by rw [← hF]; exact hc_90), ← hF]; exact hc_90)) (by omega)
            · refine g_iconst (pc := 93) (v := (-1)) X dX7_seekFault_93 (by decide) ?_
              refine g_goto (pc := 94) (tgt := 99) X dX7_seekFault_94 (by decide) ?_
              refine gm_putI (pc := 99) (j := 3) X 7 tyX7 dX7_seekFault_99 rfl (by decide) rfl xu_7 tyX7_ok nmX7 (by decide) rfl xw_86 rfl rfl (Or.inl rfl) ?_
              refine g_inc (pc := 102) (kv := 1) X dX7_seekFault_102 (by decide) rfl (by decide) ?_
              refine g_goto (pc := 105) (tgt := 15) X dX7_seekFault_105 (by decide) ?_
              refine g_wk 5 ?_
              rw [xt_same] at hc_90
              exact ih (k + 1) _ _ _ (by omega) (nI_1 k) (by rw [set4_set, sfr.eq_2, if_pos hc_25, if_pos (by rw [← hF]; exact hc_90), hc_90]) (fun _ => hx3 hc_90) (by omega)
          have step : ∀ (x3 F : Int32), F = kbb (t 2) k → (F = 0 → x3 = nI (ctb (t 2) (k + 1))) → F = 0 → gm p l e rmX7_seekFault s m args below meth c 6 G O (xmQ below G O (xv (fun t' => t' = set4 t (sfr (t 2) n))) args s) (set4 t (sfr (t 2) k)) [some (.ref (O.size + 4)), some (.ref (O.size + 1)), some (.int (nI n)), some (.int (x3)), some (.int (nI k)), some (.int (t 2 k))] 85 [] := by
            intro x3 F hF hx3 hF0
            exact gm_st (by rw [hF0, ← hc_25]; exact (set4_self t _).symm) rfl (step2 x3 F hF hx3)
          refine g_aload_n (pc := 28) X dX7_seekFault_28 rfl rfl ?_
          refine g_iload (pc := 29) X dX7_seekFault_29 rfl ?_
          refine gm_Vi (pc := 31) X 6 xc_X7_29 (c_byteAt l G O _ nt k hnt (by rw [set4_ne t _ 1 (by decide)]; exact h1) (by omega)) dX7_seekFault_31 rfl (by decide) rfl rfl rfl rfl (Nat.le_of_ble_eq_true rfl) (fun v_31 t_31 hp => ?_)
          obtain ⟨hv31, hq9⟩ := hp
          have hq9 := hq9.symm
          subst hq9
          rw [set4_ne t _ k (by decide)] at hv31
          subst hv31
          refine g_istore (pc := 34) X dX7_seekFault_34 (by decide) ?_
          refine g_iload (pc := 36) X dX7_seekFault_36 rfl ?_
          refine gm_Si (pc := 38) X xc_X7_35 (c_isLetter l G O _ _) dX7_seekFault_38 rfl rfl rfl (Nat.le_of_ble_eq_true rfl) (fun v_38 t_38 hp => ?_)
          obtain ⟨rfl, hq9⟩ := hp
          have hq9 := hq9.symm
          subst hq9
          refine g_if_eq (pc := 41) (tgt := 66) X dX7_seekFault_41 (by decide) (fun hc_41 => ?_) (fun hc_41 => ?_)
          · have hnl : ¬ ltb (t 2 k) = true := by simpa [ltb] using bi_0 hc_41
            refine g_iload (pc := 66) X dX7_seekFault_66 rfl ?_
            refine g_bipush (pc := 68) (v := 10) X dX7_seekFault_68 (by decide) ?_
            refine g_icmp_eq (pc := 70) (tgt := 85) X dX7_seekFault_70 (by decide) (fun hc_70 => ?_) (fun hc_70 => ?_)
            · exact step _ 0 (by rw [kbb_a hnl (Or.inl hc_70)]) (fun _ => by rw [ctb_f hnl]) rfl
            · refine g_iload (pc := 73) X dX7_seekFault_73 rfl ?_
              refine g_bipush (pc := 75) (v := 32) X dX7_seekFault_75 (by decide) ?_
              refine g_icmp_eq (pc := 77) (tgt := 85) X dX7_seekFault_77 (by decide) (fun hc_77 => ?_) (fun hc_77 => ?_)
              · exact step _ 0 (by rw [kbb_a hnl (Or.inr hc_77)]) (fun _ => by rw [ctb_f hnl]) rfl
              · refine g_aload_n (pc := 80) X dX7_seekFault_80 rfl rfl ?_
                refine g_iconst (pc := 81) (v := 1) X dX7_seekFault_81 (by decide) ?_
                refine gm_putI (pc := 82) (j := 2) X 7 tyX7 dX7_seekFault_82 rfl (by decide) rfl xu_7 tyX7_ok nmX7 (by decide) rfl xw_84 rfl rfl (Or.inl rfl) ?_
                exact step2 _ 1 (by rw [kbb_b hnl hc_70 hc_77]) (fun q => absurd q (by decide))
          · have hyl : ltb (t 2 k) = true := by simpa [ltb] using bi_1 hc_41
            refine g_inc (pc := 44) (kv := 1) X dX7_seekFault_44 (by decide) rfl (by decide) ?_
            refine g_aload_n (pc := 47) X dX7_seekFault_47 rfl rfl ?_
            refine g_iload_n (pc := 48) X dX7_seekFault_48 rfl rfl ?_
            refine g_sipush (pc := 49) (v := 160) X dX7_seekFault_49 (by decide) ?_
            refine g_icmp_le (pc := 52) (tgt := 59) X dX7_seekFault_52 (by decide) (fun hc_52 => ?_) (fun hc_52 => ?_)
            · refine g_iconst (pc := 59) (v := 0) X dX7_seekFault_59 (by decide) ?_
              refine gm_putI (pc := 60) (j := 2) X 7 tyX7 dX7_seekFault_60 rfl (by decide) rfl xu_7 tyX7_ok nmX7 (by decide) rfl xw_84 rfl rfl (Or.inl rfl) ?_
              refine g_goto (pc := 63) (tgt := 85) X dX7_seekFault_63 (by decide) ?_
              rw [nI_1] at hc_52
              exact step2 _ 0 (by rw [kbb_c hyl]; have := n_ge (a := ctb (t 2) k + 1) (b := 160) hc_52; rw [if_neg (by omega)]) (fun _ => by rw [ctb_t hyl, nI_1])
            · refine g_iconst (pc := 55) (v := 2) X dX7_seekFault_55 (by decide) ?_
              refine g_goto (pc := 56) (tgt := 60) X dX7_seekFault_56 (by decide) ?_
              refine gm_putI (pc := 60) (j := 2) X 7 tyX7 dX7_seekFault_60 rfl (by decide) rfl xu_7 tyX7_ok nmX7 (by decide) rfl xw_84 rfl rfl (Or.inl rfl) ?_
              refine g_goto (pc := 63) (tgt := 85) X dX7_seekFault_63 (by decide) ?_
              rw [nI_1] at hc_52
              exact step2 _ 2 (by rw [kbb_c hyl]; have := n_gt (a := ctb (t 2) k + 1) (b := 160) hc_52; rw [if_pos (by omega)]) (fun q => absurd q (by decide))
  refine g_aload_n (pc := 0) X dX7_seekFault_0 rfl rfl ?_
  refine g_iconst (pc := 1) (v := 0) X dX7_seekFault_1 (by decide) ?_
  refine gm_putI (pc := 2) (j := 2) X 7 tyX7 dX7_seekFault_2 rfl (by decide) rfl xu_7 tyX7_ok nmX7 (by decide) rfl xw_84 rfl rfl (Or.inl rfl) ?_
  refine g_aload_n (pc := 5) X dX7_seekFault_5 rfl rfl ?_
  refine g_iconst (pc := 6) (v := (-1)) X dX7_seekFault_6 (by decide) ?_
  refine gm_putI (pc := 7) (j := 3) X 7 tyX7 dX7_seekFault_7 rfl (by decide) rfl xu_7 tyX7_ok nmX7 (by decide) rfl xw_86 rfl rfl (Or.inl rfl) ?_
  refine g_iconst (pc := 10) (v := 0) X dX7_seekFault_10 (by decide) ?_
  refine g_istore_n (pc := 11) X dX7_seekFault_11 rfl (by decide) ?_
  refine g_iconst (pc := 12) (v := 0) X dX7_seekFault_12 (by decide) ?_
  refine g_istore (pc := 13) X dX7_seekFault_13 (by decide) ?_
  exact loop (n + 1) 0 _ _ _ (by omega) nI_0.symm rfl (fun _ => nI_0.symm) (Nat.zero_le _)

