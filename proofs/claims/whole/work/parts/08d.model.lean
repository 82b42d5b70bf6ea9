/-! 08d: the reference: first, orders, comes -/
theorem bit_in0 : ∀ s, s < 256 → ∀ j, j < 8 → (((nI s >>> (nI j &&& 31)) &&& 1 = 0) ↔ s.testBit j = false) := by decide +kernel
set_option maxRecDepth 100000 in
set_option maxHeartbeats 4000000 in
theorem m_first (l : Launch) (G : xg_G) (O : Heap) (t : xT) (s : Nat) (hs : s < 256) (hs0 : s ≠ 0) : xm l yX9_first cX9_first 2 (some .int) rmX9_first G O t [.int (nI s)] (xi (fun v t' => v = nI (fsb s) ∧ t' = t)) := by
  refine xm_enter (by decide) 1 rfl rfl ?_
  intro p e s0 m args below meth c X hr hk
  refine g_eq (L2 := [some (.int (nI s)), none]) rfl rfl rfl ?_
  have loop : ∀ (z9 : Nat) (h : Nat) (xh : Int32), 8 - h < z9 → xh = nI h → h ≤ fsb s → gm p l e rmX9_first s0 m args below meth c 2 G O (xmQ below G O (xi (fun v t' => v = nI (fsb s) ∧ t' = t)) args s0) (t) [some (.int (nI s)), some (.int (xh))] 2 [] := by
    intro z9
    induction z9 with
    | zero => intro h xh h9; exact absurd h9 (Nat.not_lt_zero _)
    | succ z9 ih =>
      intro h xh h9 hxh hh
      subst hxh
      have hf := fsb_ok s hs hs0
      refine g_iload_n (pc := 2) X dX9_first_2 rfl rfl ?_
      refine g_iload_n (pc := 3) X dX9_first_3 rfl rfl ?_
      refine g_ishr (pc := 4) X dX9_first_4 ?_
      refine g_iconst (pc := 5) (v := 1) X dX9_first_5 (by decide) ?_
      refine g_iand (pc := 6) X dX9_first_6 ?_
      refine g_if_ne (pc := 7) (tgt := 16) X dX9_first_7 (by decide) (fun hc_7 => ?_) (fun hc_7 => ?_)
      · refine g_iload_n (pc := 16) X dX9_first_16 rfl rfl ?_
        exact gm_iret (pc := 17) X hr hk dX9_first_17 (⟨by rw [show h = fsb s by rcases Nat.lt_or_ge h (fsb s) with q | q; exact absurd ((bit_in0 s hs h (by omega)).mpr (hf.2.2 h q)) hc_7; omega], rfl⟩)
      · refine g_inc (pc := 10) (kv := 1) X dX9_first_10 (by decide) rfl (by decide) ?_
        refine g_goto (pc := 13) (tgt := 2) X dX9_first_13 (by decide) ?_
        exact ih (h + 1) _ (by omega) (nI_1 h) (by rcases Nat.lt_or_ge h (fsb s) with q | q; exact q; have := (bit_in0 s hs h (by omega)).mp hc_7; rw [show h = fsb s by omega, hf.2.1] at this; exact absurd this (by decide))
  refine g_iconst (pc := 0) (v := 0) X dX9_first_0 (by decide) ?_
  refine g_istore_n (pc := 1) X dX9_first_1 rfl (by decide) ?_
  exact loop 9 0 _ (by omega) nI_0.symm (Nat.zero_le _)

abbrev plN (t : xT) : Int32 → Int32 := fun v => t 87 v.toNatClampNeg
set_option maxRecDepth 100000 in
set_option maxHeartbeats 4000000 in
theorem m_orders (l : Launch) (G : xg_G) (O : Heap) (t : xT) (nj : Nat) (hnj : nj ≤ 8) (h21 : t 76 21 = nI nj) : xm l yX9_orders cX9_orders 3 none rmX9_orders G O t [.ref (O.size + 76)] (xv (fun t' => t' = xo t 93 (oi (plN t) nj (t 93)))) := by
  refine xm_enter (by decide) 2 rfl rfl ?_
  intro p e s m args below meth c X hr hk
  refine g_eq (L2 := [some (.ref (O.size + 76)), none, none]) rfl rfl rfl ?_
  have loop : ∀ (z9 : Nat) (k : Nat) (xk : Int32) (t1 : xT), nj - k < z9 → xk = nI k → t1 = xo t 93 (oi (plN t) k (t 93)) → k ≤ nj → gm p l e rmX9_orders s m args below meth c 3 G O (xmQ below G O (xv (fun t' => t' = xo t 93 (oi (plN t) nj (t 93)))) args s) (t1) [some (.ref (O.size + 76)), some (.int (xk)), none] 2 [] := by
    intro z9
    induction z9 with
    | zero => intro k xk t1 h9; exact absurd h9 (Nat.not_lt_zero _)
    | succ z9 ih =>
      intro k xk t1 h9 hxk ht1 hkn
      subst hxk
      subst ht1
      have e5 : ∀ f, xo t 93 f 76 21 = nI nj := fun f => by rw [xo_ne t f 21 (by decide)]; exact h21
      refine g_iload_n (pc := 2) X dX9_orders_2 rfl rfl ?_
      refine g_aload_n (pc := 3) X dX9_orders_3 rfl rfl ?_
      refine gm_getI (pc := 4) (j := 21) X 9 dX9_orders_4 rfl (by decide) rfl xu_9 (by decide) rfl xw_612 rfl ?_
      refine g_icmp_ge (pc := 7) (tgt := 71) X dX9_orders_7 (by decide) (fun hc_7 => ?_) (fun hc_7 => ?_)
      · exact gm_vret (pc := 71) X hr hk dX9_orders_71 (by rw [e5] at hc_7; rw [show k = nj by have := n_ge hc_7; omega])
      · have hkl : k < nj := by rw [e5] at hc_7; exact n_gt hc_7
        refine g_iload_n (pc := 10) X dX9_orders_10 rfl rfl ?_
        refine g_istore_n (pc := 11) X dX9_orders_11 rfl (by decide) ?_
        have inner : ∀ (z9 : Nat) (a : Nat) (xa : Int32) (o1 : Nat → Int32) (t1 : xT), a < z9 → xa = nI a → a ≤ k → (∀ i, i < a → ∃ j, j < nj ∧ o1 i = nI j) → ins (plN t) k a o1 = oi (plN t) (k + 1) (t 93) → t1 = xo t 93 o1 → gm p l e rmX9_orders s m args below meth c 3 G O (xmQ below G O (xv (fun t' => t' = xo t 93 (oi (plN t) nj (t 93)))) args s) (t1) [some (.ref (O.size + 76)), some (.int (nI k)), some (.int (xa))] 12 [] := by
          intro z9
          induction z9 with
          | zero => intro a xa o1 t1 h9; exact absurd h9 (Nat.not_lt_zero _)
          | succ z9 ih2 =>
            intro a xa o1 t1 h9 hxa hak hrng hins ht1
            subst hxa
            subst ht1
            refine g_iload_n (pc := 12) X dX9_orders_12 rfl rfl ?_
            refine g_if_le (pc := 13) (tgt := 58) X dX9_orders_13 (by decide) (fun hc_13 => ?_) (fun hc_13 => ?_)
            · refine g_aload_n (pc := 58) X dX9_orders_58 rfl rfl ?_
              refine gm_getR (k' := 93) (pc := 59) (j := 31) X 9 dX9_orders_59 rfl (by decide) rfl xu_9 (by decide) rfl xw_622 rfl rfl ?_
              refine g_iload_n (pc := 62) X dX9_orders_62 rfl rfl ?_
              refine g_iload_n (pc := 63) X dX9_orders_63 rfl rfl ?_
              refine gm_iast (pc := 64) X (a) dX9_orders_64 rfl rfl (show a < 8 from by omega) (by decide) ?_
              refine g_inc (pc := 65) (kv := 1) X dX9_orders_65 (by decide) rfl (by decide) ?_
              refine g_goto (pc := 68) (tgt := 2) X dX9_orders_68 (by decide) ?_
              refine g_wk 2 ?_
              exact ih (k + 1) _ _ (by omega) (nI_1 k) (by rw [xo_xt, ← hins]; rw [show a = 0 by rcases Nat.eq_zero_or_pos a with q | q; exact q; exact absurd hc_13 (nI_nle q (by omega))]; rfl) (by omega)
            · have ha0 : 0 < a := by rcases Nat.eq_zero_or_pos a with q | q; rw [q, nI_0] at hc_13; exact absurd (by decide) hc_13; exact q
              have ea : nI a - 1 = nI (a - 1) := by have := nI_pred (a - 1); rwa [show a - 1 + 1 = a by omega] at this
              obtain ⟨j1, hj1, ej⟩ := hrng (a - 1) (by omega)
              have hj8 : j1 < 8 := by omega
              refine g_aload_n (pc := 16) X dX9_orders_16 rfl rfl ?_
              refine gm_getR (k' := 87) (pc := 17) (j := 24) X 9 dX9_orders_17 rfl (by decide) rfl xu_9 (by decide) rfl xw_615 rfl rfl ?_
              refine g_aload_n (pc := 20) X dX9_orders_20 rfl rfl ?_
              refine gm_getR (k' := 93) (pc := 21) (j := 31) X 9 dX9_orders_21 rfl (by decide) rfl xu_9 (by decide) rfl xw_622 rfl rfl ?_
              refine g_iload_n (pc := 24) X dX9_orders_24 rfl rfl ?_
              refine g_iconst (pc := 25) (v := 1) X dX9_orders_25 (by decide) ?_
              refine g_isub (pc := 26) X dX9_orders_26 ?_
              refine gm_iald (pc := 27) X (a - 1) dX9_orders_27 rfl ea (show a - 1 < 8 from by omega) (by decide) ?_
              rw [xo_at, ej]
              refine gm_iald (pc := 28) X (j1) dX9_orders_28 rfl rfl (show j1 < 8 from by omega) (by decide) ?_
              refine g_aload_n (pc := 29) X dX9_orders_29 rfl rfl ?_
              refine gm_getR (k' := 87) (pc := 30) (j := 24) X 9 dX9_orders_30 rfl (by decide) rfl xu_9 (by decide) rfl xw_615 rfl rfl ?_
              refine g_iload_n (pc := 33) X dX9_orders_33 rfl rfl ?_
              refine gm_iald (pc := 34) X (k) dX9_orders_34 rfl rfl (show k < 8 from by omega) (by decide) ?_
              refine g_icmp_le (pc := 35) (tgt := 58) X dX9_orders_35 (by decide) (fun hc_35 => ?_) (fun hc_35 => ?_)
              · refine g_aload_n (pc := 58) X dX9_orders_58 rfl rfl ?_
                refine gm_getR (k' := 93) (pc := 59) (j := 31) X 9 dX9_orders_59 rfl (by decide) rfl xu_9 (by decide) rfl xw_622 rfl rfl ?_
                refine g_iload_n (pc := 62) X dX9_orders_62 rfl rfl ?_
                refine g_iload_n (pc := 63) X dX9_orders_63 rfl rfl ?_
                refine gm_iast (pc := 64) X (a) dX9_orders_64 rfl rfl (show a < 8 from by omega) (by decide) ?_
                refine g_inc (pc := 65) (kv := 1) X dX9_orders_65 (by decide) rfl (by decide) ?_
                refine g_goto (pc := 68) (tgt := 2) X dX9_orders_68 (by decide) ?_
                refine g_wk 2 ?_
                exact ih (k + 1) _ _ (by omega) (nI_1 k) (by
                  rw [xo_ne _ _ _ (by omega), xo_ne _ _ _ (by omega)] at hc_35
                  rw [xo_xt, ← hins]
                  obtain ⟨a1, rfl⟩ : ∃ a1, a = a1 + 1 := ⟨a - 1, by omega⟩
                  show _ = xo t 93 (ins (plN t) k (a1 + 1) o1)
                  rw [ins.eq_2, if_neg (by
                    rw [show o1 a1 = nI j1 from ej]
                    show ¬ t 87 (nI k).toNatClampNeg < t 87 (nI j1).toNatClampNeg
                    rw [nI_clamp (by omega), nI_clamp (by omega)]
                    exact k2_nlt hc_35)]) (by omega)
              · refine g_aload_n (pc := 38) X dX9_orders_38 rfl rfl ?_
                refine gm_getR (k' := 93) (pc := 39) (j := 31) X 9 dX9_orders_39 rfl (by decide) rfl xu_9 (by decide) rfl xw_622 rfl rfl ?_
                refine g_iload_n (pc := 42) X dX9_orders_42 rfl rfl ?_
                refine g_aload_n (pc := 43) X dX9_orders_43 rfl rfl ?_
                refine gm_getR (k' := 93) (pc := 44) (j := 31) X 9 dX9_orders_44 rfl (by decide) rfl xu_9 (by decide) rfl xw_622 rfl rfl ?_
                refine g_iload_n (pc := 47) X dX9_orders_47 rfl rfl ?_
                refine g_iconst (pc := 48) (v := 1) X dX9_orders_48 (by decide) ?_
                refine g_isub (pc := 49) X dX9_orders_49 ?_
                refine gm_iald (pc := 50) X (a - 1) dX9_orders_50 rfl ea (show a - 1 < 8 from by omega) (by decide) ?_
                refine gm_iast (pc := 51) X (a) dX9_orders_51 rfl rfl (show a < 8 from by omega) (by decide) ?_
                refine g_inc (pc := 52) (kv := (-1)) X dX9_orders_52 (by decide) rfl (by decide) ?_
                refine g_goto (pc := 55) (tgt := 12) X dX9_orders_55 (by decide) ?_
                rw [xo_ne _ _ _ (by omega), xo_ne _ _ _ (by omega)] at hc_35
                obtain ⟨a1, rfl⟩ : ∃ a1, a = a1 + 1 := ⟨a - 1, by omega⟩
                exact ih2 a1 _ (upd o1 (a1 + 1) (o1 a1)) _ (by omega) (by rw [pk_m1]) (by omega) (fun i hi => by unfold upd; rw [if_neg (by omega)]; exact hrng i (by omega)) (by
                  rw [← hins, ins.eq_2, if_pos (by
                    rw [show o1 a1 = nI j1 from ej]
                    show t 87 (nI k).toNatClampNeg < t 87 (nI j1).toNatClampNeg
                    rw [nI_clamp (by omega), nI_clamp (by omega)]
                    exact k2_lt (fun q => hc_35 q))]) (by rw [xo_at, xo_xt]; rfl)
        exact inner (k + 1) k _ _ _ (by omega) rfl (Nat.le_refl k) (fun i hi => by obtain ⟨j, hj, e⟩ := oi_rng (P := plN t) (o := t 93) i hi; exact ⟨j, by omega, e⟩) rfl rfl
  refine g_iconst (pc := 0) (v := 0) X dX9_orders_0 (by decide) ?_
  refine g_istore_n (pc := 1) X dX9_orders_1 rfl (by decide) ?_
  exact loop (nj + 1) 0 _ _ (by omega) nI_0.symm (xo_self t 93).symm (Nat.zero_le _)

theorem xt_xt (t : xT) (k j : Nat) (v w : Int32) : xt (xt t k j v) k j w = xt t k j w := by
  funext x y
  unfold xt
  split <;> rfl
theorem fM_cong {t t1 : xT} (h : ∀ y, t1 82 y = t 82 y) (h2 : ∀ y, t1 78 y = t 78 y) : fM t1 = fM t := by
  have e1 : lsM t1 = lsM t := by funext k s; exact h _
  have e2 : t1 78 = t 78 := funext h2
  show fQ (lsM t1) (t1 78) = _
  rw [e1, e2]
def B4s (t : xT) (j : Nat) (u v : Option Nat) (p0 : Nat) (q : Int32) : xT := xt (xt (xt (xt t 85 j (ov u)) 86 j (ov v)) 87 j (nI p0)) 88 j q
theorem B4s_ne (t : xT) (j : Nat) (u v : Option Nat) (p0 : Nat) (q : Int32) {x : Nat} (y : Nat) (h : ¬ (85 ≤ x ∧ x ≤ 88 ∧ y = j)) : B4s t j u v p0 q x y = t x y := by
  unfold B4s
  rw [xt_ne _ _ (by omega), xt_ne _ _ (by omega), xt_ne _ _ (by omega), xt_ne _ _ (by omega)]
/-- what comes leaves -/
def cmE (t t1 : xT) (j : Nat) (u v : Option Nat) (p0 : Nat) (q : Int32) (pl : Nat) : Prop :=
  t1 85 j = ov u ∧ t1 86 j = ov v ∧ t1 87 j = nI p0 ∧ t1 88 j = q ∧ t1 89 j = nI (cn (fM t u v) q pl) ∧ t1 76 21 = nI (j + 1) ∧ (∀ a, u = some a → ∀ s, s < 16 → t1 91 (16 * a + s) = t 78 (p0 + la 0 s)) ∧ (∀ b, v = some b → ∀ s, s < 16 → t1 91 (16 * b + s) = t 78 (p0 + la 1 s)) ∧
  (∀ y, (∀ a, u = some a → y / 16 ≠ a) → (∀ b, v = some b → y / 16 ≠ b) → t1 91 y = t 91 y) ∧ ∀ x y, ¬ (x = 76 ∧ y = 21) → ¬ (85 ≤ x ∧ x ≤ 89 ∧ y = j) → x ≠ 91 → t1 x y = t x y
set_option maxRecDepth 100000 in
set_option maxHeartbeats 4000000 in
theorem m_comes (l : Launch) (G : xg_G) (O : Heap) (t : xT) (nl j p0 : Nat) (u v : Option Nat) (q : Int32) (hnl : nl ≤ 160) (h4 : t 76 4 = nI nl) (hj : j < 8) (h21 : t 76 21 = nI j) (h15 : t 76 15 = ov u) (h16 : t 76 16 = ov v) (h14 : t 76 14 = nI p0) (h13 : t 76 13 = q) (hu : ∀ k, u = some k → k < 8) (hv : ∀ k, v = some k → k < 8) (huv : ∀ a b, u = some a → v = some b → a ≠ b) (hp0 : p0 < 160) : xm l yX9_comes cX9_comes 2 none rmX9_comes G O t [.ref (O.size + 76)] (xv (fun t' => cmE t t' j u v p0 q (nl - 31))) := by
  refine xm_enter (by decide) 1 rfl rfl ?_
  intro p e s m args below meth c X hr hk
  refine g_eq (L2 := [some (.ref (O.size + 76)), none]) rfl rfl rfl ?_
  have loopB : ∀ (z9 : Nat) (k : Nat) (xk : Int32) (t1 : xT), 16 - k < z9 → xk = nI k → k ≤ 16 → (∀ x z, x ≠ 91 → t1 x z = xt (B4s t j u v p0 q) 89 j (nI (cn (fM t u v) q (nl - 31))) x z) → (∀ a, u = some a → ∀ s, s < k → t1 91 (16 * a + s) = t 78 (p0 + la 0 s)) → (∀ b, v = some b → ∀ s, s < k → t1 91 (16 * b + s) = t 78 (p0 + la 1 s)) → (∀ y, (∀ a, u = some a → y / 16 ≠ a) → (∀ b, v = some b → y / 16 ≠ b) → t1 91 y = t 91 y) → gm p l e rmX9_comes s m args below meth c 2 G O (xmQ below G O (xv (fun t' => cmE t t' j u v p0 q (nl - 31))) args s) (t1) [some (.ref (O.size + 76)), some (.int (xk))] 117 [] := by
    intro z9
    induction z9 with
    | zero => intro k xk t1 h9; exact absurd h9 (Nat.not_lt_zero _)
    | succ z9 ih =>
      intro k xk t1 h9 hxk hk16 n1 n2 n3 n4
      subst hxk
      have g76 : ∀ z, t1 76 z = t 76 z := fun z => by rw [n1 76 z (by decide), xt_nk _ _ _ _ (by decide), B4s_ne _ _ _ _ _ _ _ (by omega)]
      have g78 : ∀ z, t1 78 z = t 78 z := fun z => by rw [n1 78 z (by decide), xt_nk _ _ _ _ (by decide), B4s_ne _ _ _ _ _ _ _ (by omega)]
      refine g_iload_n (pc := 117) X dX9_comes_117 rfl rfl ?_
      refine g_bipush (pc := 118) (v := 16) X dX9_comes_118 (by decide) ?_
      refine g_icmp_ge (pc := 120) (tgt := 193) X dX9_comes_120 (by decide) (fun hc_120 => ?_) (fun hc_120 => ?_)
      · have hk9 : k = 16 := by have := n_ge (a := 16) (b := k) hc_120; omega
        subst hk9
        refine g_aload_n (pc := 193) X dX9_comes_193 rfl rfl ?_
        refine g_dup (pc := 194) X dX9_comes_194 rfl ?_
        refine gm_getI (pc := 195) (j := 21) X 9 dX9_comes_195 rfl (by decide) rfl xu_9 (by decide) rfl xw_612 rfl ?_
        rw [g76, h21]
        refine g_iconst (pc := 198) (v := 1) X dX9_comes_198 (by decide) ?_
        refine g_iadd (pc := 199) X dX9_comes_199 ?_
        rw [nI_1]
        refine gm_putI (pc := 200) (j := 21) X 9 tyX9 dX9_comes_200 rfl (by decide) rfl xu_9 tyX9_ok nmX9 (by decide) rfl xw_612 rfl rfl (Or.inl rfl) ?_
        exact gm_vret (pc := 203) X hr hk dX9_comes_203 (by
            have gg : ∀ x z, x ≠ 91 → ¬ (x = 76 ∧ z = 21) → xt t1 76 21 (nI (j + 1)) x z = xt (B4s t j u v p0 q) 89 j (nI (cn (fM t u v) q (nl - 31))) x z := fun x z q1 q2 => by rw [xt_ne _ _ (by omega)]; exact n1 x z q1
            refine ⟨?_, ?_, ?_, ?_, ?_, xt_same _ _ _ _, fun a ha s hs => ?_, fun b hb1 s hs => ?_, fun y q1 q2 => ?_, fun x y q1 q2 q3 => ?_⟩
            · rw [gg 85 j (by decide) (by omega)]; simp [B4s, xt]
            · rw [gg 86 j (by decide) (by omega)]; simp [B4s, xt]
            · rw [gg 87 j (by decide) (by omega)]; simp [B4s, xt]
            · rw [gg 88 j (by decide) (by omega)]; simp [B4s, xt]
            · rw [gg 89 j (by decide) (by omega)]; simp [xt]
            · rw [xt_nk _ _ _ _ (by decide)]; exact n2 a ha s hs
            · rw [xt_nk _ _ _ _ (by decide)]; exact n3 b hb1 s hs
            · rw [xt_nk _ _ _ _ (by decide)]; exact n4 y q1 q2
            · rw [gg x y q3 q1, xt_ne _ _ (by omega), B4s_ne _ _ _ _ _ _ _ (by omega)])
      · have hk9 : k < 16 := n_gt (a := 16) (b := k) hc_120
        have step2 : ∀ t2 : xT, (∀ x z, x ≠ 91 → t2 x z = t1 x z) → (∀ a, u = some a → t2 91 (16 * a + k) = t 78 (p0 + la 0 k)) → (∀ y, (∀ a, u = some a → y ≠ 16 * a + k) → t2 91 y = t1 91 y) → gm p l e rmX9_comes s m args below meth c 2 G O (xmQ below G O (xv (fun t' => cmE t t' j u v p0 q (nl - 31))) args s) (t2) [some (.ref (O.size + 76)), some (.int (nI k))] 155 [] := by
          intro t2 s1 s2 s3
          refine g_aload_n (pc := 155) X dX9_comes_155 rfl rfl ?_
          refine gm_getI (pc := 156) (j := 16) X 9 dX9_comes_156 rfl (by decide) rfl xu_9 (by decide) rfl xw_607 rfl ?_
          rw [s1 76 16 (by decide), g76, h16]
          refine g_iconst (pc := 159) (v := (-1)) X dX9_comes_159 (by decide) ?_
          refine g_icmp_eq (pc := 160) (tgt := 187) X dX9_comes_160 (by decide) (fun hc_160 => ?_) (fun hc_160 => ?_)
          · refine g_inc (pc := 187) (kv := 1) X dX9_comes_187 (by decide) rfl (by decide) ?_
            refine g_goto (pc := 190) (tgt := 117) X dX9_comes_190 (by decide) ?_
            exact ih (k + 1) _ _ (by omega) (nI_1 k) (by omega) (fun x z hx => by rw [s1 x z hx]; exact n1 x z hx) (fun a ha s hs => by
              skip
              by_cases e : s = k
              · subst e; exact s2 a ha
              · rw [s3 _ (fun a2 ha2 => by rw [ha] at ha2; cases ha2; omega)]; exact n2 a ha s (by omega)) (fun b hb1 s hs => by
              have := (ov_none hv).mp hc_160; rw [this] at hb1; cases hb1) (fun y q1 q2 => by
              skip
              rw [s3 y (fun a ha e => q1 a ha (by omega))]; exact n4 y q1 q2)
          · obtain ⟨b1, hb1⟩ : ∃ b, v = some b := by cases hv9 : v with | none => exact absurd (by rw [hv9]; rfl) hc_160 | some b => exact ⟨b, rfl⟩
            have hb8 := hv b1 hb1
            refine g_aload_n (pc := 163) X dX9_comes_163 rfl rfl ?_
            refine gm_getR (k' := 91) (pc := 164) (j := 29) X 9 dX9_comes_164 rfl (by decide) rfl xu_9 (by decide) rfl xw_620 rfl rfl ?_
            refine g_bipush (pc := 167) (v := 16) X dX9_comes_167 (by decide) ?_
            refine g_aload_n (pc := 169) X dX9_comes_169 rfl rfl ?_
            refine gm_getI (pc := 170) (j := 16) X 9 dX9_comes_170 rfl (by decide) rfl xu_9 (by decide) rfl xw_607 rfl ?_
            rw [s1 76 16 (by decide), g76, h16]
            refine g_imul (pc := 173) X dX9_comes_173 ?_
            refine g_iload_n (pc := 174) X dX9_comes_174 rfl rfl ?_
            refine g_iadd (pc := 175) X dX9_comes_175 ?_
            refine g_aload_n (pc := 176) X dX9_comes_176 rfl rfl ?_
            refine g_iconst (pc := 177) (v := 1) X dX9_comes_177 (by decide) ?_
            refine g_aload_n (pc := 178) X dX9_comes_178 rfl rfl ?_
            refine gm_getI (pc := 179) (j := 14) X 9 dX9_comes_179 rfl (by decide) rfl xu_9 (by decide) rfl xw_605 rfl ?_
            rw [s1 76 14 (by decide), g76, h14]
            refine g_iload_n (pc := 182) X dX9_comes_182 rfl rfl ?_
            refine gm_Vi (pc := 183) X 9 xc_X9_103 (m_letterAt l G O _ 1 p0 k (by decide) hk9 hp0) dX9_comes_183 rfl (by decide) rfl rfl rfl rfl (Nat.le_of_ble_eq_true rfl) (fun v_183 t_183 hp => ?_)
            obtain ⟨rfl, hq9⟩ := hp
            have hq9 := hq9.symm
            subst hq9
            refine gm_iast (pc := 186) X (16 * b1 + k) dX9_comes_186 rfl (by rw [hb1]; exact idx16 b1 k) (show 16 * b1 + k < 128 from by omega) (by decide) ?_
            refine g_inc (pc := 187) (kv := 1) X dX9_comes_187 (by decide) rfl (by decide) ?_
            refine g_goto (pc := 190) (tgt := 117) X dX9_comes_190 (by decide) ?_
            exact ih (k + 1) _ _ (by omega) (nI_1 k) (by omega) (fun x z hx => by rw [xt_nk _ _ _ _ hx, s1 x z hx]; exact n1 x z hx) (fun a ha s hs => by
              rw [xt_ne _ _ (Or.inr (by have := huv a b1 ha hb1; omega))]
              by_cases e : s = k
              · subst e; exact s2 a ha
              · rw [s3 _ (fun a2 ha2 => by rw [ha] at ha2; cases ha2; omega)]; exact n2 a ha s (by omega)) (fun b hb9 s hs => by
              have hb8' := hb9
              rw [hb1] at hb8'
              cases hb8'
              by_cases e : s = k
              · subst e; rw [xt_same, s1 78 _ (by decide), g78]
              · rw [xt_ne _ _ (Or.inr (by omega)), s3 _ (fun a2 ha2 => by have := huv a2 b1 ha2 hb1; omega)]; exact n3 b1 hb1 s (by omega)) (fun y q1 q2 => by
              rw [xt_ne _ _ (Or.inr (by have := q2 b1 hb1; omega))]
              rw [s3 y (fun a ha e => q1 a ha (by omega))]; exact n4 y q1 q2)
        refine g_aload_n (pc := 123) X dX9_comes_123 rfl rfl ?_
        refine gm_getI (pc := 124) (j := 15) X 9 dX9_comes_124 rfl (by decide) rfl xu_9 (by decide) rfl xw_606 rfl ?_
        rw [g76, h15]
        refine g_iconst (pc := 127) (v := (-1)) X dX9_comes_127 (by decide) ?_
        refine g_icmp_eq (pc := 128) (tgt := 155) X dX9_comes_128 (by decide) (fun hc_128 => ?_) (fun hc_128 => ?_)
        · exact step2 t1 (fun _ _ _ => rfl) (fun a ha => by have := (ov_none hu).mp hc_128; rw [this] at ha; cases ha) (fun _ _ => rfl)
        · obtain ⟨a1, ha1⟩ : ∃ a, u = some a := by cases hu9 : u with | none => exact absurd (by rw [hu9]; rfl) hc_128 | some a => exact ⟨a, rfl⟩
          have ha8 := hu a1 ha1
          refine g_aload_n (pc := 131) X dX9_comes_131 rfl rfl ?_
          refine gm_getR (k' := 91) (pc := 132) (j := 29) X 9 dX9_comes_132 rfl (by decide) rfl xu_9 (by decide) rfl xw_620 rfl rfl ?_
          refine g_bipush (pc := 135) (v := 16) X dX9_comes_135 (by decide) ?_
          refine g_aload_n (pc := 137) X dX9_comes_137 rfl rfl ?_
          refine gm_getI (pc := 138) (j := 15) X 9 dX9_comes_138 rfl (by decide) rfl xu_9 (by decide) rfl xw_606 rfl ?_
          rw [g76, h15]
          refine g_imul (pc := 141) X dX9_comes_141 ?_
          refine g_iload_n (pc := 142) X dX9_comes_142 rfl rfl ?_
          refine g_iadd (pc := 143) X dX9_comes_143 ?_
          refine g_aload_n (pc := 144) X dX9_comes_144 rfl rfl ?_
          refine g_iconst (pc := 145) (v := 0) X dX9_comes_145 (by decide) ?_
          refine g_aload_n (pc := 146) X dX9_comes_146 rfl rfl ?_
          refine gm_getI (pc := 147) (j := 14) X 9 dX9_comes_147 rfl (by decide) rfl xu_9 (by decide) rfl xw_605 rfl ?_
          rw [g76, h14]
          refine g_iload_n (pc := 150) X dX9_comes_150 rfl rfl ?_
          refine gm_Vi (pc := 151) X 9 xc_X9_103 (m_letterAt l G O _ 0 p0 k (by decide) hk9 hp0) dX9_comes_151 rfl (by decide) rfl rfl rfl rfl (Nat.le_of_ble_eq_true rfl) (fun v_151 t_151 hp => ?_)
          obtain ⟨rfl, hq9⟩ := hp
          have hq9 := hq9.symm
          subst hq9
          refine gm_iast (pc := 154) X (16 * a1 + k) dX9_comes_154 rfl (by rw [ha1]; exact idx16 a1 k) (show 16 * a1 + k < 128 from by omega) (by decide) ?_
          exact step2 _ (fun x z hx => xt_nk _ _ _ _ hx) (fun a ha => by rw [ha1] at ha; cases ha; rw [xt_same, g78]) (fun y hy => xt_ne _ _ (Or.inr (hy a1 ha1)))
  have loopA : ∀ (z9 : Nat) (y : Nat) (xy : Int32) (t1 : xT), nl - 31 - y < z9 → xy = nI y → t1 = xt (B4s t j u v p0 q) 89 j (nI (cn (fM t u v) q y)) → y ≤ nl - 31 → gm p l e rmX9_comes s m args below meth c 2 G O (xmQ below G O (xv (fun t' => cmE t t' j u v p0 q (nl - 31))) args s) (t1) [some (.ref (O.size + 76)), some (.int (xy))] 64 [] := by
    intro z9
    induction z9 with
    | zero => intro y xy t1 h9; exact absurd h9 (Nat.not_lt_zero _)
    | succ z9 ih =>
      intro y xy t1 h9 hxy ht1 hy
      subst hxy
      subst ht1
      have g76 : ∀ z, xt (B4s t j u v p0 q) 89 j (nI (cn (fM t u v) q y)) 76 z = t 76 z := fun z => by rw [xt_nk _ _ _ _ (by decide), B4s_ne _ _ _ _ _ _ _ (by omega)]
      have gF : fM (xt (B4s t j u v p0 q) 89 j (nI (cn (fM t u v) q y))) = fM t := fM_cong (fun z => by rw [xt_nk _ _ _ _ (by decide), B4s_ne _ _ _ _ _ _ _ (by omega)]) (fun z => by rw [xt_nk _ _ _ _ (by decide), B4s_ne _ _ _ _ _ _ _ (by omega)])
      refine g_iload_n (pc := 64) X dX9_comes_64 rfl rfl ?_
      refine g_aload_n (pc := 65) X dX9_comes_65 rfl rfl ?_
      refine gm_Vi (pc := 66) X 9 xc_X9_106 (m_places l G O _ nl (by rw [g76]; exact h4)) dX9_comes_66 rfl (by decide) rfl rfl rfl rfl (Nat.le_of_ble_eq_true rfl) (fun v_66 t_66 hp => ?_)
      obtain ⟨rfl, hq9⟩ := hp
      have hq9 := hq9.symm
      subst hq9
      refine g_icmp_ge (pc := 69) (tgt := 115) X dX9_comes_69 (by decide) (fun hc_69 => ?_) (fun hc_69 => ?_)
      · refine g_iconst (pc := 115) (v := 0) X dX9_comes_115 (by decide) ?_
        refine g_istore_n (pc := 116) X dX9_comes_116 rfl (by decide) ?_
        have hy9 : y = nl - 31 := by have := (plM_le hnl (by omega)).mp hc_69; omega
        subst hy9
        exact loopB 17 0 _ _ (by omega) nI_0.symm (by omega) (fun _ _ _ => rfl) (fun a ha s hs => absurd hs (Nat.not_lt_zero s)) (fun b hb1 s hs => absurd hs (Nat.not_lt_zero s)) (fun z _ _ => by rw [xt_nk _ _ _ _ (by decide), B4s_ne _ _ _ _ _ _ _ (by omega)])
      · have hyl : y < nl - 31 := by rcases Nat.lt_or_ge y (nl - 31) with z | z; exact z; exact absurd ((plM_le hnl (by omega)).mpr z) hc_69
        refine g_aload_n (pc := 72) X dX9_comes_72 rfl rfl ?_
        refine gm_getR (k' := 89) (pc := 73) (j := 26) X 9 dX9_comes_73 rfl (by decide) rfl xu_9 (by decide) rfl xw_617 rfl rfl ?_
        refine g_aload_n (pc := 76) X dX9_comes_76 rfl rfl ?_
        refine gm_getI (pc := 77) (j := 21) X 9 dX9_comes_77 rfl (by decide) rfl xu_9 (by decide) rfl xw_612 rfl ?_
        rw [g76, h21]
        refine g_dup2 (pc := 80) X dX9_comes_80 rfl rfl ?_
        refine gm_iald (pc := 81) X (j) dX9_comes_81 rfl rfl (show j < 8 from by omega) (by decide) ?_
        rw [xt_same]
        refine g_aload_n (pc := 82) X dX9_comes_82 rfl rfl ?_
        refine g_aload_n (pc := 83) X dX9_comes_83 rfl rfl ?_
        refine gm_getI (pc := 84) (j := 15) X 9 dX9_comes_84 rfl (by decide) rfl xu_9 (by decide) rfl xw_606 rfl ?_
        refine g_aload_n (pc := 87) X dX9_comes_87 rfl rfl ?_
        refine gm_getI (pc := 88) (j := 16) X 9 dX9_comes_88 rfl (by decide) rfl xu_9 (by decide) rfl xw_607 rfl ?_
        rw [g76, g76, h15, h16]
        refine g_iload_n (pc := 91) X dX9_comes_91 rfl rfl ?_
        refine gm_Vi (pc := 92) X 9 xc_X9_117 (m_both l G O _ y u v hu hv (by omega)) dX9_comes_92 rfl (by decide) rfl rfl rfl rfl (Nat.le_of_ble_eq_true rfl) (fun v_92 t_92 hp => ?_)
        obtain ⟨hv92, hq9⟩ := hp
        have hq9 := hq9.symm
        subst hq9
        have hv92 : v_92 = fM _ u v y := hv92
        rw [gF] at hv92
        subst hv92
        refine g_aload_n (pc := 95) X dX9_comes_95 rfl rfl ?_
        refine gm_getI (pc := 96) (j := 13) X 9 dX9_comes_96 rfl (by decide) rfl xu_9 (by decide) rfl xw_604 rfl ?_
        rw [g76, h13]
        refine g_icmp_gt (pc := 99) (tgt := 106) X dX9_comes_99 (by decide) (fun hc_99 => ?_) (fun hc_99 => ?_)
        · refine g_iconst (pc := 106) (v := 0) X dX9_comes_106 (by decide) ?_
          refine g_iadd (pc := 107) X dX9_comes_107 ?_
          refine gm_iast (pc := 108) X (j) dX9_comes_108 rfl rfl (show j < 8 from by omega) (by decide) ?_
          refine g_inc (pc := 109) (kv := 1) X dX9_comes_109 (by decide) rfl (by decide) ?_
          refine g_goto (pc := 112) (tgt := 64) X dX9_comes_112 (by decide) ?_
          exact ih (y + 1) _ _ (by omega) (nI_1 y) (by rw [xt_xt, cn_f (k2_nle hc_99) rfl]) (by omega)
        · refine g_iconst (pc := 102) (v := 1) X dX9_comes_102 (by decide) ?_
          refine g_goto (pc := 103) (tgt := 107) X dX9_comes_103 (by decide) ?_
          refine g_iadd (pc := 107) X dX9_comes_107 ?_
          refine gm_iast (pc := 108) X (j) dX9_comes_108 rfl rfl (show j < 8 from by omega) (by decide) ?_
          refine g_inc (pc := 109) (kv := 1) X dX9_comes_109 (by decide) rfl (by decide) ?_
          refine g_goto (pc := 112) (tgt := 64) X dX9_comes_112 (by decide) ?_
          exact ih (y + 1) _ _ (by omega) (nI_1 y) (by rw [xt_xt, cn_t (k2_le hc_99) rfl]) (by omega)
  refine g_aload_n (pc := 0) X dX9_comes_0 rfl rfl ?_
  refine gm_getR (k' := 85) (pc := 1) (j := 22) X 9 dX9_comes_1 rfl (by decide) rfl xu_9 (by decide) rfl xw_613 rfl rfl ?_
  refine g_aload_n (pc := 4) X dX9_comes_4 rfl rfl ?_
  refine gm_getI (pc := 5) (j := 21) X 9 dX9_comes_5 rfl (by decide) rfl xu_9 (by decide) rfl xw_612 rfl ?_
  refine g_aload_n (pc := 8) X dX9_comes_8 rfl rfl ?_
  refine gm_getI (pc := 9) (j := 15) X 9 dX9_comes_9 rfl (by decide) rfl xu_9 (by decide) rfl xw_606 rfl ?_
  rw [h21, h15]
  refine gm_iast (pc := 12) X (j) dX9_comes_12 rfl rfl (show j < 8 from by omega) (by decide) ?_
  refine g_aload_n (pc := 13) X dX9_comes_13 rfl rfl ?_
  refine gm_getR (k' := 86) (pc := 14) (j := 23) X 9 dX9_comes_14 rfl (by decide) rfl xu_9 (by decide) rfl xw_614 rfl rfl ?_
  refine g_aload_n (pc := 17) X dX9_comes_17 rfl rfl ?_
  refine gm_getI (pc := 18) (j := 21) X 9 dX9_comes_18 rfl (by decide) rfl xu_9 (by decide) rfl xw_612 rfl ?_
  refine g_aload_n (pc := 21) X dX9_comes_21 rfl rfl ?_
  refine gm_getI (pc := 22) (j := 16) X 9 dX9_comes_22 rfl (by decide) rfl xu_9 (by decide) rfl xw_607 rfl ?_
  rw [xt_nk _ _ _ _ (by decide), xt_nk _ _ _ _ (by decide), h21, h16]
  refine gm_iast (pc := 25) X (j) dX9_comes_25 rfl rfl (show j < 8 from by omega) (by decide) ?_
  refine g_aload_n (pc := 26) X dX9_comes_26 rfl rfl ?_
  refine gm_getR (k' := 87) (pc := 27) (j := 24) X 9 dX9_comes_27 rfl (by decide) rfl xu_9 (by decide) rfl xw_615 rfl rfl ?_
  refine g_aload_n (pc := 30) X dX9_comes_30 rfl rfl ?_
  refine gm_getI (pc := 31) (j := 21) X 9 dX9_comes_31 rfl (by decide) rfl xu_9 (by decide) rfl xw_612 rfl ?_
  refine g_aload_n (pc := 34) X dX9_comes_34 rfl rfl ?_
  refine gm_getI (pc := 35) (j := 14) X 9 dX9_comes_35 rfl (by decide) rfl xu_9 (by decide) rfl xw_605 rfl ?_
  rw [xt_nk _ _ _ _ (by decide), xt_nk _ _ _ _ (by decide), xt_nk _ _ _ _ (by decide), xt_nk _ _ _ _ (by decide), h21, h14]
  refine gm_iast (pc := 38) X (j) dX9_comes_38 rfl rfl (show j < 8 from by omega) (by decide) ?_
  refine g_aload_n (pc := 39) X dX9_comes_39 rfl rfl ?_
  refine gm_getR (k' := 88) (pc := 40) (j := 25) X 9 dX9_comes_40 rfl (by decide) rfl xu_9 (by decide) rfl xw_616 rfl rfl ?_
  refine g_aload_n (pc := 43) X dX9_comes_43 rfl rfl ?_
  refine gm_getI (pc := 44) (j := 21) X 9 dX9_comes_44 rfl (by decide) rfl xu_9 (by decide) rfl xw_612 rfl ?_
  refine g_aload_n (pc := 47) X dX9_comes_47 rfl rfl ?_
  refine gm_getI (pc := 48) (j := 13) X 9 dX9_comes_48 rfl (by decide) rfl xu_9 (by decide) rfl xw_604 rfl ?_
  refine gm_iast (pc := 51) X (j) dX9_comes_51 rfl (by rw [xt_nk _ _ _ _ (by decide), xt_nk _ _ _ _ (by decide), xt_nk _ _ _ _ (by decide)]; exact h21) (show j < 8 from by omega) (by decide) ?_
  refine g_aload_n (pc := 52) X dX9_comes_52 rfl rfl ?_
  refine gm_getR (k' := 89) (pc := 53) (j := 26) X 9 dX9_comes_53 rfl (by decide) rfl xu_9 (by decide) rfl xw_617 rfl rfl ?_
  refine g_aload_n (pc := 56) X dX9_comes_56 rfl rfl ?_
  refine gm_getI (pc := 57) (j := 21) X 9 dX9_comes_57 rfl (by decide) rfl xu_9 (by decide) rfl xw_612 rfl ?_
  refine g_iconst (pc := 60) (v := 0) X dX9_comes_60 (by decide) ?_
  refine gm_iast (pc := 61) X (j) dX9_comes_61 rfl (by rw [xt_nk _ _ _ _ (by decide), xt_nk _ _ _ _ (by decide), xt_nk _ _ _ _ (by decide), xt_nk _ _ _ _ (by decide)]; exact h21) (show j < 8 from by omega) (by decide) ?_
  refine g_iconst (pc := 62) (v := 0) X dX9_comes_62 (by decide) ?_
  refine g_istore_n (pc := 63) X dX9_comes_63 rfl (by decide) ?_
  exact loopA (nl - 31 + 1) 0 _ _ (by omega) nI_0.symm (by unfold B4s; rw [show xt (xt (xt t 85 j (ov u)) 86 j (ov v)) 87 j (nI p0) 76 13 = q by rw [xt_nk _ _ _ _ (by decide), xt_nk _ _ _ _ (by decide), xt_nk _ _ _ _ (by decide)]; exact h13]; rfl) (Nat.zero_le _)

