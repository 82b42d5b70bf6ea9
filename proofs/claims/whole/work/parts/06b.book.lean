/-! 06b: Book: lists kept, order, leaves -/
def xkl (t : xT) (n : Nat) : xT := fun x y => if 60 ≤ x ∧ x < 60 + n ∧ y < 16 then t (9 + 2 * (x - 60)) y else t x y
theorem xkl_0 (t : xT) : xkl t 0 = t := by
  funext x y; unfold xkl; rw [if_neg (by omega)]
theorem xkl_ne (t : xT) {n x : Nat} (y : Nat) (h : x < 60 ∨ 60 + n ≤ x) : xkl t n x y = t x y := by
  unfold xkl; rw [if_neg (by omega)]
theorem xkl_s (t : xT) {n : Nat} (hn : n < 8) : xcp (xkl t n) (9 + 2 * n) (60 + n) 16 = xkl t (n + 1) := by
  funext x y
  unfold xcp
  by_cases h : x = 60 + n ∧ y < 16
  · rw [if_pos h, xkl_ne t y (by omega)]
    obtain ⟨rfl, hy⟩ := h
    unfold xkl
    rw [if_pos (by omega), show 60 + n - 60 = n by omega]
  · rw [if_neg h]
    unfold xkl
    by_cases q : 60 ≤ x ∧ x < 60 + n ∧ y < 16
    · rw [if_pos q, if_pos (by omega)]
    · rw [if_neg q, if_neg (by omega)]
set_option maxRecDepth 100000 in
set_option maxHeartbeats 4000000 in
theorem c_keepLists (l : Launch) (G : xg_G) (O : Heap) (t : xT) (nh : Nat) (hnh : nh ≤ 8) (h1 : t 6 1 = nI nh) : xm l yX0_keepLists cX0_keepLists 3 none rmX0_keepLists G O t [.ref (O.size + 55), .ref (O.size + 6)] (xv (fun t' => t' = xkl t nh)) := by
  refine xm_enter (by decide) 1 rfl rfl ?_
  intro p e s m args below meth c X hr hk
  refine g_eq (L2 := [some (.ref (O.size + 55)), some (.ref (O.size + 6)), none]) rfl rfl rfl ?_
  have loop : ∀ (z9 : Nat) (h : Nat) (xh : Int32) (t1 : xT), nh - h < z9 → xh = nI h → t1 = xkl t h → h ≤ nh → gm p l e rmX0_keepLists s m args below meth c 3 G O (xmQ below G O (xv (fun t' => t' = xkl t nh)) args s) (t1) [some (.ref (O.size + 55)), some (.ref (O.size + 6)), some (.int (xh))] 2 [] := by
    intro z9
    induction z9 with
    | zero => intro h xh t1 h9; exact absurd h9 (Nat.not_lt_zero _)
    | succ z9 ih =>
      intro h xh t1 h9 hxh ht1 hh
      subst hxh
      subst ht1
      have e6 : xkl t h 6 1 = nI nh := by rw [xkl_ne t 1 (by omega)]; exact h1
      refine g_iload_n (pc := 2) X dX0_keepLists_2 rfl rfl ?_
      refine g_aload_n (pc := 3) X dX0_keepLists_3 rfl rfl ?_
      refine gm_getI (pc := 4) (j := 1) X 2 dX0_keepLists_4 rfl (by decide) rfl xu_2 (by decide) rfl xw_137 rfl ?_
      refine g_icmp_ge (pc := 7) (tgt := 38) X dX0_keepLists_7 (by decide) (fun hc_7 => ?_) (fun hc_7 => ?_)
      · exact gm_vret (pc := 38) X hr hk dX0_keepLists_38 (by rw [e6] at hc_7; rw [show h = nh by have := n_ge hc_7; omega])
      · have hl : h < nh := by rw [e6] at hc_7; exact n_gt hc_7
        refine g_aload_n (pc := 10) X dX0_keepLists_10 rfl rfl ?_
        refine gm_getR (k' := 7) (pc := 11) (j := 0) X 2 dX0_keepLists_11 rfl (by decide) rfl xu_2 (by decide) rfl xw_133 rfl rfl ?_
        refine g_iload_n (pc := 14) X dX0_keepLists_14 rfl rfl ?_
        refine gm_aald (pc := 15) (k' := (8 + 2 * h)) X 12 (h) (.object "UnderText$Half") dX0_keepLists_15 rfl (by decide) (by decide) rfl rfl rfl (show h < 8 from by omega) (by decide) (kd_half h (by omega)).2.1 ?_
        refine gm_getR (k' := (9 + 2 * h)) (pc := 16) (j := 3) X 1 dX0_keepLists_16 (kd_half h (show h < 8 by omega)).1 (by decide) rfl xu_1 (by decide) rfl xw_120 rfl (kd_half h (by omega)).2.2.1 ?_
        refine g_iconst (pc := 19) (v := 0) X dX0_keepLists_19 (by decide) ?_
        refine g_aload_n (pc := 20) X dX0_keepLists_20 rfl rfl ?_
        refine gm_getR (k' := 59) (pc := 21) (j := 3) X 0 dX0_keepLists_21 rfl (by decide) rfl xu_0 (by decide) rfl xw_250 rfl rfl ?_
        refine g_iload_n (pc := 24) X dX0_keepLists_24 rfl rfl ?_
        refine gm_aald (pc := 25) (k' := (60 + h)) X 11 (h) (.array .int) dX0_keepLists_25 rfl (by decide) (by decide) rfl rfl rfl (show h < 8 from by omega) (by decide) (kd_was h (by omega)).1 ?_
        refine g_iconst (pc := 26) (v := 0) X dX0_keepLists_26 (by decide) ?_
        refine g_bipush (pc := 27) (v := 16) X dX0_keepLists_27 (by decide) ?_
        refine gm_copy (pc := 29) X 16 dX0_keepLists_29 xw_508 xw_510 xw_509 xw_45 (kd_half h (by omega)).2.2.2.1 (kd_was h (by omega)).2.1 rfl (by rw [(kd_half h (by omega)).2.2.2.2]; decide) (by rw [(kd_was h (by omega)).2.2]; decide) (by rw [(kd_half h (by omega)).2.2.2.2]; decide) (by decide) (Nat.le_of_ble_eq_true rfl) ?_
        refine g_inc (pc := 32) (kv := 1) X dX0_keepLists_32 (by decide) rfl (by decide) ?_
        refine g_goto (pc := 35) (tgt := 2) X dX0_keepLists_35 (by decide) ?_
        exact ih (h + 1) _ _ (by omega) (nI_1 h) (xkl_s t (by omega)) (by omega)
  refine g_iconst (pc := 0) (v := 0) X dX0_keepLists_0 (by decide) ?_
  refine g_istore_n (pc := 1) X dX0_keepLists_1 rfl (by decide) ?_
  exact loop (nh + 1) 0 _ _ (by omega) nI_0.symm (xkl_0 t).symm (Nat.zero_le _)

/-- leaf number k put to its place among the first at ones -/
def ins (P : Int32 → Int32) (k : Nat) : Nat → (Nat → Int32) → (Nat → Int32)
  | 0, o => upd o 0 (nI k)
  | at1 + 1, o => if P (nI k) < P (o at1) then ins P k at1 (upd o (at1 + 1) (o at1)) else upd o (at1 + 1) (nI k)
def oi (P : Int32 → Int32) : Nat → (Nat → Int32) → (Nat → Int32)
  | 0, o => o
  | k + 1, o => ins P k k (oi P k o)
theorem ins_rng {P : Int32 → Int32} {k n : Nat} (hk : k < n) : ∀ {a : Nat} {o : Nat → Int32}, a ≤ k → (∀ i, i ≤ k → i ≠ a → ∃ j, j < n ∧ o i = nI j) → ∀ i, i ≤ k → ∃ j, j < n ∧ ins P k a o i = nI j
  | 0, o, _, h, i, hi => by
    unfold ins upd
    by_cases e : i = 0
    · exact ⟨k, hk, by rw [if_pos e]⟩
    · rw [if_neg e]; exact h i hi e
  | a + 1, o, ha, h, i, hi => by
    unfold ins
    split
    · refine ins_rng hk (by omega) (fun j hj1 hj2 => ?_) i hi
      unfold upd
      by_cases e : j = a + 1
      · rw [if_pos e]; exact h a (by omega) (by omega)
      · rw [if_neg e]; exact h j hj1 e
    · unfold upd
      by_cases e : i = a + 1
      · exact ⟨k, hk, by rw [if_pos e]⟩
      · rw [if_neg e]; exact h i hi e
theorem oi_rng {P : Int32 → Int32} {o : Nat → Int32} : ∀ {k : Nat} (i : Nat), i < k → ∃ j, j < k ∧ oi P k o i = nI j
  | 0, i, h => absurd h (Nat.not_lt_zero i)
  | k + 1, i, h => by
    unfold oi
    refine ins_rng (n := k + 1) (by omega) (Nat.le_refl k) (fun j hj1 hj2 => ?_) i (by omega)
    obtain ⟨q, hq, e⟩ := oi_rng (P := P) (o := o) (k := k) j (by omega)
    exact ⟨q, by omega, e⟩
theorem ins_cong {P Q : Int32 → Int32} {k : Nat} (hk : P (nI k) = Q (nI k)) : ∀ {a : Nat} {o o2 : Nat → Int32}, a ≤ k → (∀ i, i ≤ k → i ≠ a → o i = o2 i) → (∀ i, i < a → P (o i) = Q (o i)) → ∀ i, i ≤ k → ins P k a o i = ins Q k a o2 i
  | 0, o, o2, _, h, _, i, hi => by
    unfold ins upd
    by_cases e : i = 0
    · rw [if_pos e, if_pos e]
    · rw [if_neg e, if_neg e]; exact h i hi e
  | a + 1, o, o2, ha, h, hP, i, hi => by
    unfold ins
    rw [hk, hP a (by omega), h a (by omega) (by omega)]
    split
    · refine ins_cong hk (by omega) (fun j hj1 hj2 => ?_) (fun j hj => ?_) i hi
      · unfold upd
        by_cases e : j = a + 1
        · rw [if_pos e, if_pos e]
        · rw [if_neg e, if_neg e]; exact h j hj1 e
      · unfold upd
        rw [if_neg (by omega)]; exact hP j (by omega)
    · unfold upd
      by_cases e : i = a + 1
      · rw [if_pos e, if_pos e]
      · rw [if_neg e, if_neg e]; exact h i hi e
theorem oi_cong {P Q : Int32 → Int32} {o o2 : Nat → Int32} : ∀ {k : Nat}, (∀ j, j < k → P (nI j) = Q (nI j)) → ∀ i, i < k → oi P k o i = oi Q k o2 i
  | 0, _, i, h => absurd h (Nat.not_lt_zero i)
  | k + 1, hP, i, h => by
    unfold oi
    have ih := oi_cong (P := P) (Q := Q) (o := o) (o2 := o2) (k := k) (fun j hj => hP j (by omega))
    refine ins_cong (hP k (by omega)) (Nat.le_refl k) (fun j hj1 hj2 => ih j (by omega)) (fun j hj => ?_) i (by omega)
    obtain ⟨q, hq, e⟩ := oi_rng (P := P) (o := o) (k := k) j hj
    rw [e]; exact hP q (by omega)
def xo (t : xT) (c : Nat) (f : Nat → Int32) : xT := fun x y => if x = c then f y else t x y
theorem xo_self (t : xT) (c : Nat) : xo t c (t c) = t := by
  funext x y; unfold xo; split
  · rename_i h; rw [h]
  · rfl
theorem xo_ne (t : xT) {c x : Nat} (f : Nat → Int32) (y : Nat) (h : x ≠ c) : xo t c f x y = t x y := if_neg h
theorem xo_at (t : xT) (c : Nat) (f : Nat → Int32) (y : Nat) : xo t c f c y = f y := if_pos rfl
theorem xo_xt (t : xT) (c : Nat) (f : Nat → Int32) (j : Nat) (v : Int32) : xt (xo t c f) c j v = xo t c (upd f j v) := by
  funext x y
  unfold xt xo upd
  by_cases h : x = c
  · subst h; simp
  · simp [h]
abbrev plI (t : xT) : Int32 → Int32 := fun v => t (68 + v.toNatClampNeg) 2
set_option maxRecDepth 100000 in
set_option maxHeartbeats 4000000 in
theorem c_putInOrder (l : Launch) (G : xg_G) (O : Heap) (t : xT) (nj : Nat) (hnj : nj ≤ 8) (h5 : t 55 4 = nI nj) : xm l yX0_putInOrder cX0_putInOrder 3 none rmX0_putInOrder G O t [.ref (O.size + 55)] (xv (fun t' => t' = xo t 57 (oi (plI t) nj (t 57)))) := by
  refine xm_enter (by decide) 2 rfl rfl ?_
  intro p e s m args below meth c X hr hk
  refine g_eq (L2 := [some (.ref (O.size + 55)), none, none]) rfl rfl rfl ?_
  have loop : ∀ (z9 : Nat) (k : Nat) (xk : Int32) (t1 : xT), nj - k < z9 → xk = nI k → t1 = xo t 57 (oi (plI t) k (t 57)) → k ≤ nj → gm p l e rmX0_putInOrder s m args below meth c 3 G O (xmQ below G O (xv (fun t' => t' = xo t 57 (oi (plI t) nj (t 57)))) args s) (t1) [some (.ref (O.size + 55)), some (.int (xk)), none] 2 [] := by
    intro z9
    induction z9 with
    | zero => intro k xk t1 h9; exact absurd h9 (Nat.not_lt_zero _)
    | succ z9 ih =>
      intro k xk t1 h9 hxk ht1 hkn
      subst hxk
      subst ht1
      have e5 : ∀ f, xo t 57 f 55 4 = nI nj := fun f => by rw [xo_ne t f 4 (by decide)]; exact h5
      refine g_iload_n (pc := 2) X dX0_putInOrder_2 rfl rfl ?_
      refine g_aload_n (pc := 3) X dX0_putInOrder_3 rfl rfl ?_
      refine gm_getI (pc := 4) (j := 4) X 0 dX0_putInOrder_4 rfl (by decide) rfl xu_0 (by decide) rfl xw_252 rfl ?_
      refine g_icmp_ge (pc := 7) (tgt := 77) X dX0_putInOrder_7 (by decide) (fun hc_7 => ?_) (fun hc_7 => ?_)
      · exact gm_vret (pc := 77) X hr hk dX0_putInOrder_77 (by rw [e5] at hc_7; rw [show k = nj by have := n_ge hc_7; omega])
      · have hkl : k < nj := by rw [e5] at hc_7; exact n_gt hc_7
        refine g_iload_n (pc := 10) X dX0_putInOrder_10 rfl rfl ?_
        refine g_istore_n (pc := 11) X dX0_putInOrder_11 rfl (by decide) ?_
        have inner : ∀ (z9 : Nat) (a : Nat) (xa : Int32) (o1 : Nat → Int32) (t1 : xT), a < z9 → xa = nI a → a ≤ k → (∀ i, i < a → ∃ j, j < nj ∧ o1 i = nI j) → ins (plI t) k a o1 = oi (plI t) (k + 1) (t 57) → t1 = xo t 57 o1 → gm p l e rmX0_putInOrder s m args below meth c 3 G O (xmQ below G O (xv (fun t' => t' = xo t 57 (oi (plI t) nj (t 57)))) args s) (t1) [some (.ref (O.size + 55)), some (.int (nI k)), some (.int (xa))] 12 [] := by
          intro z9
          induction z9 with
          | zero => intro a xa o1 t1 h9; exact absurd h9 (Nat.not_lt_zero _)
          | succ z9 ih2 =>
            intro a xa o1 t1 h9 hxa hak hrng hins ht1
            subst hxa
            subst ht1
            refine g_iload_n (pc := 12) X dX0_putInOrder_12 rfl rfl ?_
            refine g_if_le (pc := 13) (tgt := 64) X dX0_putInOrder_13 (by decide) (fun hc_13 => ?_) (fun hc_13 => ?_)
            · refine g_aload_n (pc := 64) X dX0_putInOrder_64 rfl rfl ?_
              refine gm_getR (k' := 57) (pc := 65) (j := 1) X 0 dX0_putInOrder_65 rfl (by decide) rfl xu_0 (by decide) rfl xw_246 rfl rfl ?_
              refine g_iload_n (pc := 68) X dX0_putInOrder_68 rfl rfl ?_
              refine g_iload_n (pc := 69) X dX0_putInOrder_69 rfl rfl ?_
              refine gm_iast (pc := 70) X (a) dX0_putInOrder_70 rfl rfl (show a < 8 from by omega) (by decide) ?_
              refine g_inc (pc := 71) (kv := 1) X dX0_putInOrder_71 (by decide) rfl (by decide) ?_
              refine g_goto (pc := 74) (tgt := 2) X dX0_putInOrder_74 (by decide) ?_
              refine g_wk 2 ?_
              exact ih (k + 1) _ _ (by omega) (nI_1 k) (by rw [xo_xt, ← hins]; rw [show a = 0 by rcases Nat.eq_zero_or_pos a with q | q; exact q; exact absurd hc_13 (nI_nle q (by omega))]; rfl) (by omega)
            · have ha0 : 0 < a := by rcases Nat.eq_zero_or_pos a with q | q; rw [q, nI_0] at hc_13; exact absurd (by decide) hc_13; exact q
              have ea : nI a - 1 = nI (a - 1) := by have := nI_pred (a - 1); rwa [show a - 1 + 1 = a by omega] at this
              obtain ⟨j1, hj1, ej⟩ := hrng (a - 1) (by omega)
              have hj8 : j1 < 8 := by omega
              refine g_aload_n (pc := 16) X dX0_putInOrder_16 rfl rfl ?_
              refine gm_getR (k' := 56) (pc := 17) (j := 0) X 0 dX0_putInOrder_17 rfl (by decide) rfl xu_0 (by decide) rfl xw_244 rfl rfl ?_
              refine g_aload_n (pc := 20) X dX0_putInOrder_20 rfl rfl ?_
              refine gm_getR (k' := 57) (pc := 21) (j := 1) X 0 dX0_putInOrder_21 rfl (by decide) rfl xu_0 (by decide) rfl xw_246 rfl rfl ?_
              refine g_iload_n (pc := 24) X dX0_putInOrder_24 rfl rfl ?_
              refine g_iconst (pc := 25) (v := 1) X dX0_putInOrder_25 (by decide) ?_
              refine g_isub (pc := 26) X dX0_putInOrder_26 ?_
              refine gm_iald (pc := 27) X (a - 1) dX0_putInOrder_27 rfl ea (show a - 1 < 8 from by omega) (by decide) ?_
              rw [xo_at, ej]
              refine gm_aald (pc := 28) (k' := (68 + j1)) X 13 (j1) (.object "UnderText$Leaf") dX0_putInOrder_28 rfl (by decide) (by decide) rfl rfl rfl (show j1 < 8 from by omega) (by decide) (kd_leaf j1 hj8).1 ?_
              refine gm_getI (pc := 29) (j := 2) X 3 dX0_putInOrder_29 (kd_leaf j1 hj8).2 (by decide) rfl xu_3 (by decide) rfl xw_157 rfl ?_
              refine g_aload_n (pc := 32) X dX0_putInOrder_32 rfl rfl ?_
              refine gm_getR (k' := 56) (pc := 33) (j := 0) X 0 dX0_putInOrder_33 rfl (by decide) rfl xu_0 (by decide) rfl xw_244 rfl rfl ?_
              refine g_iload_n (pc := 36) X dX0_putInOrder_36 rfl rfl ?_
              refine gm_aald (pc := 37) (k' := (68 + k)) X 13 (k) (.object "UnderText$Leaf") dX0_putInOrder_37 rfl (by decide) (by decide) rfl rfl rfl (show k < 8 from by omega) (by decide) (kd_leaf k (by omega)).1 ?_
              refine gm_getI (pc := 38) (j := 2) X 3 dX0_putInOrder_38 (kd_leaf k (show k < 8 by omega)).2 (by decide) rfl xu_3 (by decide) rfl xw_157 rfl ?_
              refine g_icmp_le (pc := 41) (tgt := 64) X dX0_putInOrder_41 (by decide) (fun hc_41 => ?_) (fun hc_41 => ?_)
              · refine g_aload_n (pc := 64) X dX0_putInOrder_64 rfl rfl ?_
                refine gm_getR (k' := 57) (pc := 65) (j := 1) X 0 dX0_putInOrder_65 rfl (by decide) rfl xu_0 (by decide) rfl xw_246 rfl rfl ?_
                refine g_iload_n (pc := 68) X dX0_putInOrder_68 rfl rfl ?_
                refine g_iload_n (pc := 69) X dX0_putInOrder_69 rfl rfl ?_
                refine gm_iast (pc := 70) X (a) dX0_putInOrder_70 rfl rfl (show a < 8 from by omega) (by decide) ?_
                refine g_inc (pc := 71) (kv := 1) X dX0_putInOrder_71 (by decide) rfl (by decide) ?_
                refine g_goto (pc := 74) (tgt := 2) X dX0_putInOrder_74 (by decide) ?_
                refine g_wk 2 ?_
                exact ih (k + 1) _ _ (by omega) (nI_1 k) (by
                  rw [xo_ne _ _ _ (by omega), xo_ne _ _ _ (by omega)] at hc_41
                  rw [xo_xt, ← hins]
                  obtain ⟨a1, rfl⟩ : ∃ a1, a = a1 + 1 := ⟨a - 1, by omega⟩
                  show _ = xo t 57 (ins (plI t) k (a1 + 1) o1)
                  rw [ins.eq_2, if_neg (by
                    rw [show o1 a1 = nI j1 from ej]
                    show ¬ t (68 + (nI k).toNatClampNeg) 2 < t (68 + (nI j1).toNatClampNeg) 2
                    rw [nI_clamp (by omega), nI_clamp (by omega)]
                    exact k2_nlt hc_41)]) (by omega)
              · refine g_aload_n (pc := 44) X dX0_putInOrder_44 rfl rfl ?_
                refine gm_getR (k' := 57) (pc := 45) (j := 1) X 0 dX0_putInOrder_45 rfl (by decide) rfl xu_0 (by decide) rfl xw_246 rfl rfl ?_
                refine g_iload_n (pc := 48) X dX0_putInOrder_48 rfl rfl ?_
                refine g_aload_n (pc := 49) X dX0_putInOrder_49 rfl rfl ?_
                refine gm_getR (k' := 57) (pc := 50) (j := 1) X 0 dX0_putInOrder_50 rfl (by decide) rfl xu_0 (by decide) rfl xw_246 rfl rfl ?_
                refine g_iload_n (pc := 53) X dX0_putInOrder_53 rfl rfl ?_
                refine g_iconst (pc := 54) (v := 1) X dX0_putInOrder_54 (by decide) ?_
                refine g_isub (pc := 55) X dX0_putInOrder_55 ?_
                refine gm_iald (pc := 56) X (a - 1) dX0_putInOrder_56 rfl ea (show a - 1 < 8 from by omega) (by decide) ?_
                refine gm_iast (pc := 57) X (a) dX0_putInOrder_57 rfl rfl (show a < 8 from by omega) (by decide) ?_
                refine g_inc (pc := 58) (kv := (-1)) X dX0_putInOrder_58 (by decide) rfl (by decide) ?_
                refine g_goto (pc := 61) (tgt := 12) X dX0_putInOrder_61 (by decide) ?_
                rw [xo_ne _ _ _ (by omega), xo_ne _ _ _ (by omega)] at hc_41
                obtain ⟨a1, rfl⟩ : ∃ a1, a = a1 + 1 := ⟨a - 1, by omega⟩
                exact ih2 a1 _ (upd o1 (a1 + 1) (o1 a1)) _ (by omega) (by rw [pk_m1]) (by omega) (fun i hi => by unfold upd; rw [if_neg (by omega)]; exact hrng i (by omega)) (by
                  rw [← hins, ins.eq_2, if_pos (by
                    rw [show o1 a1 = nI j1 from ej]
                    show t (68 + (nI k).toNatClampNeg) 2 < t (68 + (nI j1).toNatClampNeg) 2
                    rw [nI_clamp (by omega), nI_clamp (by omega)]
                    exact k2_lt (fun q => hc_41 q))]) (by rw [xo_at, xo_xt]; rfl)
        exact inner (k + 1) k _ _ _ (by omega) rfl (Nat.le_refl k) (fun i hi => by obtain ⟨j, hj, e⟩ := oi_rng (P := plI t) (o := t 57) i hi; exact ⟨j, by omega, e⟩) rfl rfl
  refine g_iconst (pc := 0) (v := 0) X dX0_putInOrder_0 (by decide) ?_
  refine g_istore_n (pc := 1) X dX0_putInOrder_1 rfl (by decide) ?_
  exact loop (nj + 1) 0 _ _ (by omega) nI_0.symm (xo_self t 57).symm (Nat.zero_le _)

