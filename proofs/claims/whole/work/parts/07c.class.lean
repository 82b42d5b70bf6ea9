/-! 07c: the class's public methods, first part -/
section XE3
variable {z : Prop} {p : Program} {l : Launch} {e : Env} {R : Room} {s : State} {m : MethodId} {args : Array Value} {below : List Frame} {meth : Method} {c : Code} {nL : Nat} {G : xg_G} {O : Heap} {cells slots : Nat} {Q : State → Prop} {n : Nat} {w : Nat → va_E} {L : List (Option Value)} {pc : Nat} {rest : List Value} {cc : ByteArray} {own : String}
theorem g_lookup (X : xg_X p m c cc nL s args own G) {dflt : Int} {ps : Array (Int × Int)} {len : Nat} {x : Int32} {off : Int} {tgt : Nat} (hd : decode cc pc = .ok (.lookupswitch dflt ps, len)) (hp : (ps.toList.zip (ps.toList.drop 1)).all (fun (a, next) => a.1 < next.1) = true) (ho : Op.lookupswitch.offset ps.toList dflt x.toInt = off) (ht : (pc : Int) + off = (tgt : Int)) (kk : gv z p l e R s m args below meth c nL G O cells slots Q n w L tgt rest) : gv z p l e R s m args below meth c nL G O cells slots Q n w L pc (.int x :: rest) :=
  fun H ls locs hl hh hz hq => lv_lookup X.1.1 X.1.2.1 hd hp ho ht (kk H ls locs hl hh hz hq)
end XE3
def ag (a b c d e : Int32) (j : Nat) : Int32 := if j < 4 then a else if j < 8 then b else if j < 12 then c else if j < 16 then d else e
theorem put_chain {t t1 : xT} {n m : Nat} {g : Nat → Int32} {v : Int32} (hb : ∀ j, j < m → t 2 (n + j) = byt (g j) (j % 4)) (hm : m % 4 = 0) (h2 : ∀ j, j < 4 → t1 2 (n + m + j) = byt v j) (h3 : ∀ x y, x ≠ 1 → ¬ (x = 2 ∧ n + m ≤ y) → t1 x y = t x y) (hg : ∀ j, m ≤ j → j < m + 4 → g j = v) : ∀ j, j < m + 4 → t1 2 (n + j) = byt (g j) (j % 4) := by
  intro j hj
  rcases Nat.lt_or_ge j m with q | q
  · rw [h3 2 (n + j) (by decide) (by omega)]; exact hb j q
  · have := h2 (j - m) (by omega)
    rw [show n + m + (j - m) = n + j by omega] at this
    rw [this, hg j q hj, show j % 4 = j - m by omega]
set_option maxRecDepth 100000 in
set_option maxHeartbeats 4000000 in
theorem c_feed (l : Launch) (G : xg_G) (O : Heap) (t : xT) (nt : Nat) (a1 a2 a3 a4 a5 : Int32) (hnt : nt ≤ 400) (h1 : t 1 1 = nI nt) : xm l yX8_feed cX8_feed 6 (some .int) rmX8_feed G O t [.ref (O.size + 0), .int a1, .int a2, .int a3, .int a4, .int a5] (xi (fun v t' => (nt + 20 ≤ 400 → v = nI (nt + 20) ∧ t' 1 1 = nI (nt + 20) ∧ (∀ j, j < 20 → t' 2 (nt + j) = byt (ag a1 a2 a3 a4 a5 j) (j % 4)) ∧ ∀ x y, x ≠ 1 → ¬ (x = 2 ∧ nt ≤ y) → t' x y = t x y) ∧ (¬ nt + 20 ≤ 400 → v = -1 ∧ t' = t))) := by
  refine xm_enter (by decide) 0 rfl rfl ?_
  intro p e s m args below meth c X hr hk
  refine g_eq (L2 := [some (.ref (O.size + 0)), some (.int a1), some (.int a2), some (.int a3), some (.int a4), some (.int a5)]) rfl rfl rfl ?_
  refine g_aload_n (pc := 0) X dX8_feed_0 rfl rfl ?_
  refine gm_getR (k' := 1) (pc := 1) (j := 0) X 8 dX8_feed_1 rfl (by decide) rfl xu_8 (by decide) rfl xw_265 rfl rfl ?_
  refine gm_getI (pc := 4) (j := 1) X 6 dX8_feed_4 rfl (by decide) rfl xu_6 (by decide) rfl xw_62 rfl ?_
  refine g_bipush (pc := 7) (v := 20) X dX8_feed_7 (by decide) ?_
  refine g_iadd (pc := 9) X dX8_feed_9 ?_
  refine g_sipush (pc := 10) (v := 400) X dX8_feed_10 (by decide) ?_
  refine g_icmp_le (pc := 13) (tgt := 18) X dX8_feed_13 (by decide) (fun hc_13 => ?_) (fun hc_13 => ?_)
  · have hle : nt + 20 ≤ 400 := by rw [h1, show (20 : Int32) = nI 20 from rfl, nI_add] at hc_13; exact n_ge (a := nt + 20) (b := 400) hc_13
    refine g_aload_n (pc := 18) X dX8_feed_18 rfl rfl ?_
    refine gm_getR (k' := 1) (pc := 19) (j := 0) X 8 dX8_feed_19 rfl (by decide) rfl xu_8 (by decide) rfl xw_265 rfl rfl ?_
    refine g_iload_n (pc := 22) X dX8_feed_22 rfl rfl ?_
    refine gm_Vv (pc := 23) X 6 xc_X8_59 (c_put l G O _ (nt + 0) a1 (by omega) h1) dX8_feed_23 rfl (by decide) rfl rfl rfl rfl (Nat.le_of_ble_eq_true rfl) (fun t_23 hp => ?_)
    obtain ⟨e0, f0, g0⟩ := hp
    have e0 : t_23 1 1 = nI (nt + 4) := e0
    have b0 := put_chain (t := t) (t1 := t_23) (n := nt) (m := 0) (g := ag a1 a2 a3 a4 a5) (fun j hj => absurd hj (Nat.not_lt_zero j)) rfl f0 g0 (fun j q1 q2 => by unfold ag; simp [show j < 4 by omega])
    refine g_aload_n (pc := 26) X dX8_feed_26 rfl rfl ?_
    refine gm_getR (k' := 1) (pc := 27) (j := 0) X 8 dX8_feed_27 rfl (by decide) rfl xu_8 (by decide) rfl xw_265 rfl rfl ?_
    refine g_iload_n (pc := 30) X dX8_feed_30 rfl rfl ?_
    refine gm_Vv (pc := 31) X 6 xc_X8_59 (c_put l G O _ (nt + 4) a2 (by omega) e0) dX8_feed_31 rfl (by decide) rfl rfl rfl rfl (Nat.le_of_ble_eq_true rfl) (fun t_31 hp => ?_)
    obtain ⟨e1, f1, g1⟩ := hp
    have e1 : t_31 1 1 = nI (nt + 8) := e1
    have b1 := put_chain (t := t_23) (t1 := t_31) (n := nt) (m := 4) (g := ag a1 a2 a3 a4 a5) b0 rfl f1 g1 (fun j q1 q2 => by unfold ag; simp [show ¬ j < 4 ∧ j < 8 by omega])
    refine g_aload_n (pc := 34) X dX8_feed_34 rfl rfl ?_
    refine gm_getR (k' := 1) (pc := 35) (j := 0) X 8 dX8_feed_35 rfl (by decide) rfl xu_8 (by decide) rfl xw_265 rfl rfl ?_
    refine g_iload_n (pc := 38) X dX8_feed_38 rfl rfl ?_
    refine gm_Vv (pc := 39) X 6 xc_X8_59 (c_put l G O _ (nt + 8) a3 (by omega) e1) dX8_feed_39 rfl (by decide) rfl rfl rfl rfl (Nat.le_of_ble_eq_true rfl) (fun t_39 hp => ?_)
    obtain ⟨e2, f2, g2⟩ := hp
    have e2 : t_39 1 1 = nI (nt + 12) := e2
    have b2 := put_chain (t := t_31) (t1 := t_39) (n := nt) (m := 8) (g := ag a1 a2 a3 a4 a5) b1 rfl f2 g2 (fun j q1 q2 => by unfold ag; simp [show ¬ j < 4 ∧ ¬ j < 8 ∧ j < 12 by omega])
    refine g_aload_n (pc := 42) X dX8_feed_42 rfl rfl ?_
    refine gm_getR (k' := 1) (pc := 43) (j := 0) X 8 dX8_feed_43 rfl (by decide) rfl xu_8 (by decide) rfl xw_265 rfl rfl ?_
    refine g_iload (pc := 46) X dX8_feed_46 rfl ?_
    refine gm_Vv (pc := 48) X 6 xc_X8_59 (c_put l G O _ (nt + 12) a4 (by omega) e2) dX8_feed_48 rfl (by decide) rfl rfl rfl rfl (Nat.le_of_ble_eq_true rfl) (fun t_48 hp => ?_)
    obtain ⟨e3, f3, g3⟩ := hp
    have e3 : t_48 1 1 = nI (nt + 16) := e3
    have b3 := put_chain (t := t_39) (t1 := t_48) (n := nt) (m := 12) (g := ag a1 a2 a3 a4 a5) b2 rfl f3 g3 (fun j q1 q2 => by unfold ag; simp [show ¬ j < 4 ∧ ¬ j < 8 ∧ ¬ j < 12 ∧ j < 16 by omega])
    refine g_aload_n (pc := 51) X dX8_feed_51 rfl rfl ?_
    refine gm_getR (k' := 1) (pc := 52) (j := 0) X 8 dX8_feed_52 rfl (by decide) rfl xu_8 (by decide) rfl xw_265 rfl rfl ?_
    refine g_iload (pc := 55) X dX8_feed_55 rfl ?_
    refine gm_Vv (pc := 57) X 6 xc_X8_59 (c_put l G O _ (nt + 16) a5 (by omega) e3) dX8_feed_57 rfl (by decide) rfl rfl rfl rfl (Nat.le_of_ble_eq_true rfl) (fun t_57 hp => ?_)
    obtain ⟨e4, f4, g4⟩ := hp
    have e4 : t_57 1 1 = nI (nt + 20) := e4
    have b4 := put_chain (t := t_48) (t1 := t_57) (n := nt) (m := 16) (g := ag a1 a2 a3 a4 a5) b3 rfl f4 g4 (fun j q1 q2 => by unfold ag; simp [show ¬ j < 4 ∧ ¬ j < 8 ∧ ¬ j < 12 ∧ ¬ j < 16 by omega])
    refine g_aload_n (pc := 60) X dX8_feed_60 rfl rfl ?_
    refine gm_getR (k' := 1) (pc := 61) (j := 0) X 8 dX8_feed_61 rfl (by decide) rfl xu_8 (by decide) rfl xw_265 rfl rfl ?_
    refine gm_getI (pc := 64) (j := 1) X 6 dX8_feed_64 rfl (by decide) rfl xu_6 (by decide) rfl xw_62 rfl ?_
    exact gm_iret (pc := 67) X hr hk dX8_feed_67 (⟨fun _ => ⟨e4, e4, b4, fun x y q1 q2 => by rw [g4 x y q1 (by omega), g3 x y q1 (by omega), g2 x y q1 (by omega), g1 x y q1 (by omega), g0 x y q1 (by omega)]⟩, fun q => absurd hle q⟩)
  · refine g_iconst (pc := 16) (v := (-1)) X dX8_feed_16 (by decide) ?_
    exact gm_iret (pc := 17) X hr hk dX8_feed_17 (⟨fun q => absurd (by rw [h1, show (20 : Int32) = nI 20 from rfl, nI_add]; exact nI_le (a := nt + 20) (b := 400) q (by omega)) hc_13, fun _ => ⟨rfl, rfl⟩⟩)

set_option maxRecDepth 100000 in
set_option maxHeartbeats 4000000 in
theorem c_work (l : Launch) (G : xg_G) (O : Heap) (t : xT) (nt : Nat) (n : Int32) (hnt : nt ≤ 400) (h1 : t 1 1 = nI nt) : xm l yX8_work cX8_work 3 (some .int) rmX8_work G O t [.ref (O.size + 0), .int n] (xi (fun v t' => (¬ (0 ≤ n ∧ n ≤ nI nt) → v = -2 ∧ t' = t) ∧ ∀ k, k ≤ nt → n = nI k → (¬ (sfr (t 2) k).1 = 0 → v = -1 ∧ t' = xt (set4 t (sfr (t 2) k)) 1 1 0) ∧ ((sfr (t 2) k).1 = 0 → v = nI (ctb (t 2) k) ∧ t' 4 1 = nI (ctb (t 2) k) ∧ t' 4 2 = 0 ∧ t' 4 3 = -1 ∧ (∀ j, j < k → ltb (t 2 j) = true → t' 5 (ctb (t 2) j) = t 2 j - 97) ∧ t' 1 1 = 0 ∧ t' 55 4 = 0 ∧ (∀ h, h < 8 → t' 58 h = -1) ∧ ∀ x y, x ≠ 1 → x ≠ 4 → x ≠ 5 → x ≠ 55 → x ≠ 58 → t' x y = t x y))) := by
  refine xm_enter (by decide) 1 rfl rfl ?_
  intro p e s m args below meth c X hr hk
  refine g_eq (L2 := [some (.ref (O.size + 0)), some (.int n), none]) rfl rfl rfl ?_
  refine g_iload_n (pc := 0) X dX8_work_0 rfl rfl ?_
  refine g_if_lt (pc := 1) (tgt := 15) X dX8_work_1 (by decide) (fun hc_1 => ?_) (fun hc_1 => ?_)
  · refine g_bipush (pc := 15) (v := (-2)) X dX8_work_15 (by decide) ?_
    exact gm_iret (pc := 17) X hr hk dX8_work_17 (⟨fun _ => ⟨rfl, rfl⟩, fun k hk e9 => absurd hc_1 (by rw [e9]; exact nI_pos (by omega))⟩)
  · refine g_iload_n (pc := 4) X dX8_work_4 rfl rfl ?_
    refine g_aload_n (pc := 5) X dX8_work_5 rfl rfl ?_
    refine gm_getR (k' := 1) (pc := 6) (j := 0) X 8 dX8_work_6 rfl (by decide) rfl xu_8 (by decide) rfl xw_265 rfl rfl ?_
    refine gm_getI (pc := 9) (j := 1) X 6 dX8_work_9 rfl (by decide) rfl xu_6 (by decide) rfl xw_62 rfl ?_
    refine g_icmp_le (pc := 12) (tgt := 18) X dX8_work_12 (by decide) (fun hc_12 => ?_) (fun hc_12 => ?_)
    · obtain ⟨k, hkm, rfl⟩ := nI_of (x := n) hc_1
      rw [h1] at hc_12
      have hkn : k ≤ nt := n_ge hc_12
      refine g_aload_n (pc := 18) X dX8_work_18 rfl rfl ?_
      refine gm_getR (k' := 4) (pc := 19) (j := 2) X 8 dX8_work_19 rfl (by decide) rfl xu_8 (by decide) rfl xw_267 rfl rfl ?_
      refine g_aload_n (pc := 22) X dX8_work_22 rfl rfl ?_
      refine gm_getR (k' := 1) (pc := 23) (j := 0) X 8 dX8_work_23 rfl (by decide) rfl xu_8 (by decide) rfl xw_265 rfl rfl ?_
      refine g_iload_n (pc := 26) X dX8_work_26 rfl rfl ?_
      refine gm_Vi (pc := 27) X 7 xc_X8_63 (c_read l G O _ nt k hnt h1 hkn) dX8_work_27 rfl (by decide) rfl rfl rfl rfl (Nat.le_of_ble_eq_true rfl) (fun v_27 t_27 hp => ?_)
      obtain ⟨hv27, r1, r2⟩ := hp
      subst hv27
      refine g_istore_n (pc := 30) X dX8_work_30 rfl (by decide) ?_
      refine g_aload_n (pc := 31) X dX8_work_31 rfl rfl ?_
      refine gm_getR (k' := 1) (pc := 32) (j := 0) X 8 dX8_work_32 rfl (by decide) rfl xu_8 (by decide) rfl xw_265 rfl rfl ?_
      refine g_iconst (pc := 35) (v := 0) X dX8_work_35 (by decide) ?_
      refine gm_putI (pc := 36) (j := 1) X 6 tyX6 dX8_work_36 rfl (by decide) rfl xu_6 tyX6_ok nmX6 (by decide) rfl xw_62 rfl rfl (Or.inl rfl) ?_
      refine g_iload_n (pc := 39) X dX8_work_39 rfl rfl ?_
      refine g_if_ne (pc := 40) (tgt := 45) X dX8_work_40 (by decide) (fun hc_40 => ?_) (fun hc_40 => ?_)
      · refine g_aload_n (pc := 45) X dX8_work_45 rfl rfl ?_
        refine gm_getR (k' := 55) (pc := 46) (j := 5) X 8 dX8_work_46 rfl (by decide) rfl xu_8 (by decide) rfl xw_270 rfl rfl ?_
        refine gm_Vv (pc := 49) X 0 xc_X8_69 (c_clear l G O _) dX8_work_49 rfl (by decide) rfl rfl rfl rfl (Nat.le_of_ble_eq_true rfl) (fun t_49 hp => ?_)
        subst hp
        refine g_aload_n (pc := 52) X dX8_work_52 rfl rfl ?_
        refine gm_getR (k' := 4) (pc := 53) (j := 2) X 8 dX8_work_53 rfl (by decide) rfl xu_8 (by decide) rfl xw_267 rfl rfl ?_
        refine gm_getI (pc := 56) (j := 1) X 7 dX8_work_56 rfl (by decide) rfl xu_7 (by decide) rfl xw_83 rfl ?_
        exact gm_iret (pc := 59) X hr hk dX8_work_59 (⟨fun q => absurd ⟨nI_pos' (by omega), nI_le hkn (by omega)⟩ q, fun k2 hk2 e9 => by
            have := (nI_eq (by omega) (by omega)).mp e9
            subst this
            refine ⟨fun q => absurd (bi_1 hc_40) q, fun q => ?_⟩
            obtain ⟨s1, s2, s3, s4, s5⟩ := r2 q
            have ex : ∀ x y, x ≠ 55 → x ≠ 58 → xf (xt (xt t_27 1 1 0) 55 4 0) 58 8 (-1) x y = xt t_27 1 1 0 x y := fun x y q1 q2 => by rw [show xf (xt (xt t_27 1 1 0) 55 4 0) 58 8 (-1) x y = xt (xt t_27 1 1 0) 55 4 0 x y by simp [xf, q2], xt_nk _ _ _ _ q1]
            refine ⟨?_, ?_, ?_, ?_, fun j hj hl => ?_, ?_, ?_, fun h hh => ?_, fun x y q1 q2 q3 q4 q5 => ?_⟩
            · rw [ex 4 1 (by decide) (by decide), xt_nk _ _ _ _ (by decide)]; exact s1
            · rw [ex 4 1 (by decide) (by decide), xt_nk _ _ _ _ (by decide)]; exact s1
            · rw [ex 4 2 (by decide) (by decide), xt_nk _ _ _ _ (by decide)]; exact s2
            · rw [ex 4 3 (by decide) (by decide), xt_nk _ _ _ _ (by decide)]; exact s3
            · rw [ex 5 _ (by decide) (by decide), xt_nk _ _ _ _ (by decide)]; exact s4 j hj hl
            · rw [ex 1 1 (by decide) (by decide), xt_same]
            · simp [xf, xt]
            · simp [xf, hh]
            · rw [ex x y q4 q5, xt_nk _ _ _ _ q1]; exact s5 x y q2 q3⟩)
      · refine g_iconst (pc := 43) (v := (-1)) X dX8_work_43 (by decide) ?_
        exact gm_iret (pc := 44) X hr hk dX8_work_44 (⟨fun q => absurd ⟨nI_pos' (by omega), nI_le hkn (by omega)⟩ q, fun k2 hk2 e9 => by
            have := (nI_eq (by omega) (by omega)).mp e9
            subst this
            exact ⟨fun q => ⟨rfl, by rw [r1 q]⟩, fun q => absurd q (bi_0 hc_40)⟩⟩)
    · refine g_bipush (pc := 15) (v := (-2)) X dX8_work_15 (by decide) ?_
      exact gm_iret (pc := 17) X hr hk dX8_work_17 (⟨fun _ => ⟨rfl, rfl⟩, fun k hk e9 => absurd (by rw [e9, h1]; exact nI_le hk (by omega)) hc_12⟩)

set_option maxRecDepth 100000 in
set_option maxHeartbeats 4000000 in
theorem c_fault (l : Launch) (G : xg_G) (O : Heap) (t : xT) (n : Int32)  : xm l yX8_fault cX8_fault 2 (some .int) rmX8_fault G O t [.ref (O.size + 0), .int n] (xi (fun v t' => v = (if n = 0 then t 4 2 else if n = 1 then t 4 3 else -1) ∧ t' = t)) := by
  refine xm_enter (by decide) 0 rfl rfl ?_
  intro p e s m args below meth c X hr hk
  refine g_eq (L2 := [some (.ref (O.size + 0)), some (.int n)]) rfl rfl rfl ?_
  refine g_iload_n (pc := 0) X dX8_fault_0 rfl rfl ?_
  by_cases hn0 : n = 0
  · refine g_lookup (pc := 1) (tgt := 28) X dX8_fault_1 (by decide) (off := 27) (by subst hn0; decide) (by decide) ?_
    refine g_aload_n (pc := 28) X dX8_fault_28 rfl rfl ?_
    refine gm_getR (k' := 4) (pc := 29) (j := 2) X 8 dX8_fault_29 rfl (by decide) rfl xu_8 (by decide) rfl xw_267 rfl rfl ?_
    refine gm_getI (pc := 32) (j := 2) X 7 dX8_fault_32 rfl (by decide) rfl xu_7 (by decide) rfl xw_85 rfl ?_
    exact gm_iret (pc := 35) X hr hk dX8_fault_35 (⟨(if_pos hn0).symm, rfl⟩)
  by_cases hn1 : n = 1
  · refine g_lookup (pc := 1) (tgt := 36) X dX8_fault_1 (by decide) (off := 35) (by subst hn1; decide) (by decide) ?_
    refine g_aload_n (pc := 36) X dX8_fault_36 rfl rfl ?_
    refine gm_getR (k' := 4) (pc := 37) (j := 2) X 8 dX8_fault_37 rfl (by decide) rfl xu_8 (by decide) rfl xw_267 rfl rfl ?_
    refine gm_getI (pc := 40) (j := 3) X 7 dX8_fault_40 rfl (by decide) rfl xu_7 (by decide) rfl xw_87 rfl ?_
    exact gm_iret (pc := 43) X hr hk dX8_fault_43 (⟨by rw [if_neg hn0, if_pos hn1], rfl⟩)
  refine g_lookup (pc := 1) (tgt := 44) X dX8_fault_1 (by decide) (off := 43) (by rw [show (#[((0 : Int), (27 : Int)), (1, 35)]).toList = [(0, 27), (1, 35)] from rfl, lv_osw (a := 0) hn0 rfl, lv_osw (a := 1) hn1 rfl]; rfl) (by decide) ?_
  refine g_iconst (pc := 44) (v := (-1)) X dX8_fault_44 (by decide) ?_
  exact gm_iret (pc := 45) X hr hk dX8_fault_45 (⟨by rw [if_neg hn0, if_neg hn1], rfl⟩)
  

abbrev hfP (nh : Nat) (q s r : Int32) : Prop := (0 ≤ q ∧ q ≤ 2) ∧ (0 ≤ s ∧ s ≤ 1) ∧ (0 ≤ r ∧ r ≤ 9) ∧ nh < 8
set_option maxRecDepth 100000 in
set_option maxHeartbeats 4000000 in
theorem c_half (l : Launch) (G : xg_G) (O : Heap) (t : xT) (nh : Nat) (q s0 r : Int32) (hnh : nh ≤ 8) (h6 : t 6 1 = nI nh) : xm l yX8_half cX8_half 5 (some .int) rmX8_half G O t [.ref (O.size + 0), .int q, .int s0, .int r] (xi (fun v t' => v = (if hfP nh q s0 r then nI nh else -1) ∧ t' = (if hfP nh q s0 r then hfS t nh q s0 r else t))) := by
  refine xm_enter (by decide) 1 rfl rfl ?_
  intro p e s m args below meth c X hr hk
  refine g_eq (L2 := [some (.ref (O.size + 0)), some (.int q), some (.int s0), some (.int r), none]) rfl rfl rfl ?_
  refine g_iload_n (pc := 0) X dX8_half_0 rfl rfl ?_
  refine g_iconst (pc := 1) (v := 2) X dX8_half_1 (by decide) ?_
  refine gm_Si (pc := 2) X xc_X8_79 (c_isWithin l G O _ q 2) dX8_half_2 rfl rfl rfl (Nat.le_of_ble_eq_true rfl) (fun v_2 t_2 hp => ?_)
  obtain ⟨rfl, hq9⟩ := hp
  have hq9 := hq9.symm
  subst hq9
  refine g_if_eq (pc := 5) (tgt := 29) X dX8_half_5 (by decide) (fun hc_5 => ?_) (fun hc_5 => ?_)
  · refine g_iconst (pc := 29) (v := 0) X dX8_half_29 (by decide) ?_
    refine g_istore (pc := 30) X dX8_half_30 (by decide) ?_
    refine g_iload (pc := 32) X dX8_half_32 rfl ?_
    refine g_if_eq (pc := 34) (tgt := 50) X dX8_half_34 (by decide) (fun hc_34 => ?_) (fun hc_34 => ?_)
    · refine g_iconst (pc := 50) (v := (-1)) X dX8_half_50 (by decide) ?_
      exact gm_iret (pc := 51) X hr hk dX8_half_51 (⟨by rw [if_neg (fun q9 => bi_0 hc_5 q9.1)], by rw [if_neg (fun q9 => bi_0 hc_5 q9.1)]⟩)
    · exact absurd rfl hc_34
  · refine g_iload_n (pc := 8) X dX8_half_8 rfl rfl ?_
    refine g_iconst (pc := 9) (v := 1) X dX8_half_9 (by decide) ?_
    refine gm_Si (pc := 10) X xc_X8_79 (c_isWithin l G O _ s0 1) dX8_half_10 rfl rfl rfl (Nat.le_of_ble_eq_true rfl) (fun v_10 t_10 hp => ?_)
    obtain ⟨rfl, hq9⟩ := hp
    have hq9 := hq9.symm
    subst hq9
    refine g_if_eq (pc := 13) (tgt := 29) X dX8_half_13 (by decide) (fun hc_13 => ?_) (fun hc_13 => ?_)
    · refine g_iconst (pc := 29) (v := 0) X dX8_half_29 (by decide) ?_
      refine g_istore (pc := 30) X dX8_half_30 (by decide) ?_
      refine g_iload (pc := 32) X dX8_half_32 rfl ?_
      refine g_if_eq (pc := 34) (tgt := 50) X dX8_half_34 (by decide) (fun hc_34 => ?_) (fun hc_34 => ?_)
      · refine g_iconst (pc := 50) (v := (-1)) X dX8_half_50 (by decide) ?_
        exact gm_iret (pc := 51) X hr hk dX8_half_51 (⟨by rw [if_neg (fun q9 => bi_0 hc_13 q9.2.1)], by rw [if_neg (fun q9 => bi_0 hc_13 q9.2.1)]⟩)
      · exact absurd rfl hc_34
    · refine g_iload_n (pc := 16) X dX8_half_16 rfl rfl ?_
      refine g_bipush (pc := 17) (v := 9) X dX8_half_17 (by decide) ?_
      refine gm_Si (pc := 19) X xc_X8_79 (c_isWithin l G O _ r 9) dX8_half_19 rfl rfl rfl (Nat.le_of_ble_eq_true rfl) (fun v_19 t_19 hp => ?_)
      obtain ⟨rfl, hq9⟩ := hp
      have hq9 := hq9.symm
      subst hq9
      refine g_if_eq (pc := 22) (tgt := 29) X dX8_half_22 (by decide) (fun hc_22 => ?_) (fun hc_22 => ?_)
      · refine g_iconst (pc := 29) (v := 0) X dX8_half_29 (by decide) ?_
        refine g_istore (pc := 30) X dX8_half_30 (by decide) ?_
        refine g_iload (pc := 32) X dX8_half_32 rfl ?_
        refine g_if_eq (pc := 34) (tgt := 50) X dX8_half_34 (by decide) (fun hc_34 => ?_) (fun hc_34 => ?_)
        · refine g_iconst (pc := 50) (v := (-1)) X dX8_half_50 (by decide) ?_
          exact gm_iret (pc := 51) X hr hk dX8_half_51 (⟨by rw [if_neg (fun q9 => bi_0 hc_22 q9.2.2.1)], by rw [if_neg (fun q9 => bi_0 hc_22 q9.2.2.1)]⟩)
        · exact absurd rfl hc_34
      · refine g_iconst (pc := 25) (v := 1) X dX8_half_25 (by decide) ?_
        refine g_goto (pc := 26) (tgt := 30) X dX8_half_26 (by decide) ?_
        refine g_istore (pc := 30) X dX8_half_30 (by decide) ?_
        refine g_iload (pc := 32) X dX8_half_32 rfl ?_
        refine g_if_eq (pc := 34) (tgt := 50) X dX8_half_34 (by decide) (fun hc_34 => ?_) (fun hc_34 => ?_)
        · exact absurd hc_34 (by decide)
        · refine g_aload_n (pc := 37) X dX8_half_37 rfl rfl ?_
          refine gm_getR (k' := 6) (pc := 38) (j := 3) X 8 dX8_half_38 rfl (by decide) rfl xu_8 (by decide) rfl xw_268 rfl rfl ?_
          refine g_iload_n (pc := 41) X dX8_half_41 rfl rfl ?_
          refine g_iload_n (pc := 42) X dX8_half_42 rfl rfl ?_
          refine g_iload_n (pc := 43) X dX8_half_43 rfl rfl ?_
          refine gm_Vi (pc := 44) X 2 xc_X8_83 (c_add l G O _ nh q s0 r hnh h6) dX8_half_44 rfl (by decide) rfl rfl rfl rfl (Nat.le_of_ble_eq_true rfl) (fun v_44 t_44 hp => ?_)
          obtain ⟨hv44, ht44⟩ := hp
          subst hv44
          subst ht44
          refine g_goto (pc := 47) (tgt := 51) X dX8_half_47 (by decide) ?_
          exact gm_iret (pc := 51) X hr hk dX8_half_51 (⟨by by_cases q9 : nh < 8; rw [if_pos q9, if_pos ⟨bi_1 hc_5, bi_1 hc_13, bi_1 hc_22, q9⟩]; rw [if_neg q9, if_neg (fun q8 => q9 q8.2.2.2)], by by_cases q9 : nh < 8; rw [if_pos q9, if_pos ⟨bi_1 hc_5, bi_1 hc_13, bi_1 hc_22, q9⟩]; rw [if_neg q9, if_neg (fun q8 => q9 q8.2.2.2)]⟩)

theorem idx8 (a b : Nat) : nI a * 8 + nI b = nI (8 * a + b) := by
  rw [show (8 : Int32) = nI 8 from rfl, pk_mul, nI_add, Nat.mul_comm]
abbrev spI (f s : Int32) : Nat := 8 * f.toNatClampNeg + s.toNatClampNeg
abbrev lgP (nh : Nat) (h f s x : Int32) : Prop := spP nh h f s ∧ 1 ≤ x ∧ x ≤ 65535
abbrev lgL (t : xT) (h f s x : Int32) : Int32 := t (9 + 2 * h.toNatClampNeg) (spI f s) &&& x
set_option maxRecDepth 100000 in
set_option maxHeartbeats 4000000 in
theorem c_list (l : Launch) (G : xg_G) (O : Heap) (t : xT) (nh : Nat) (h f s0 : Int32) (hnh : nh ≤ 8) (h6 : t 6 1 = nI nh) : xm l yX8_list cX8_list 4 (some .int) rmX8_list G O t [.ref (O.size + 0), .int h, .int f, .int s0] (xi (fun v t' => v = (if spP nh h f s0 then t (9 + 2 * h.toNatClampNeg) (spI f s0) else -1) ∧ t' = t)) := by
  refine xm_enter (by decide) 0 rfl rfl ?_
  intro p e s m args below meth c X hr hk
  refine g_eq (L2 := [some (.ref (O.size + 0)), some (.int h), some (.int f), some (.int s0)]) rfl rfl rfl ?_
  refine g_aload_n (pc := 0) X dX8_list_0 rfl rfl ?_
  refine g_iload_n (pc := 1) X dX8_list_1 rfl rfl ?_
  refine g_iload_n (pc := 2) X dX8_list_2 rfl rfl ?_
  refine g_iload_n (pc := 3) X dX8_list_3 rfl rfl ?_
  refine gm_Vi (pc := 4) X 8 xc_X8_89 (c_isSpot l G O _ nh h f s0 hnh h6) dX8_list_4 rfl (by decide) rfl rfl rfl rfl (Nat.le_of_ble_eq_true rfl) (fun v_4 t_4 hp => ?_)
  obtain ⟨rfl, hq9⟩ := hp
  have hq9 := hq9.symm
  subst hq9
  refine g_if_eq (pc := 7) (tgt := 31) X dX8_list_7 (by decide) (fun hc_7 => ?_) (fun hc_7 => ?_)
  · refine g_iconst (pc := 31) (v := (-1)) X dX8_list_31 (by decide) ?_
    exact gm_iret (pc := 32) X hr hk dX8_list_32 (⟨by rw [if_neg (bi_0 hc_7)], rfl⟩)
  · have hsp := bi_1 hc_7
    rw [if_pos hsp]
    obtain ⟨k, a, b, hk1, ha, hb, rfl, rfl, rfl⟩ := sp_of hnh hsp
    refine g_aload_n (pc := 10) X dX8_list_10 rfl rfl ?_
    refine gm_getR (k' := 6) (pc := 11) (j := 3) X 8 dX8_list_11 rfl (by decide) rfl xu_8 (by decide) rfl xw_268 rfl rfl ?_
    refine gm_getR (k' := 7) (pc := 14) (j := 0) X 2 dX8_list_14 rfl (by decide) rfl xu_2 (by decide) rfl xw_134 rfl rfl ?_
    refine g_iload_n (pc := 17) X dX8_list_17 rfl rfl ?_
    refine gm_aald (pc := 18) (k' := (8 + 2 * k)) X 12 (k) (.object "UnderText$Half") dX8_list_18 rfl (by decide) (by decide) rfl rfl rfl (show k < 8 from by omega) (by decide) (kd_half k (show k < 8 by omega)).2.1 ?_
    refine gm_getR (k' := (9 + 2 * k)) (pc := 19) (j := 3) X 1 dX8_list_19 (kd_half k (show k < 8 by omega)).1 (by decide) rfl xu_1 (by decide) rfl xw_121 rfl (kd_half k (show k < 8 by omega)).2.2.1 ?_
    refine g_iload_n (pc := 22) X dX8_list_22 rfl rfl ?_
    refine g_iload_n (pc := 23) X dX8_list_23 rfl rfl ?_
    refine gm_Si (pc := 24) X xc_X8_104 (c_spotIndex l G O _ _ _) dX8_list_24 rfl rfl rfl (Nat.le_of_ble_eq_true rfl) (fun v_24 t_24 hp => ?_)
    obtain ⟨rfl, hq9⟩ := hp
    have hq9 := hq9.symm
    subst hq9
    refine gm_iald (pc := 27) X (8 * a + b) dX8_list_27 (kd_half k (show k < 8 by omega)).2.2.2.1 (idx8 a b) (by rw [(kd_half k (show k < 8 by omega)).2.2.2.2]; omega) (by rw [(kd_half k (show k < 8 by omega)).2.2.2.2]; decide) ?_
    refine g_goto (pc := 28) (tgt := 32) X dX8_list_28 (by decide) ?_
    exact gm_iret (pc := 32) X hr hk dX8_list_32 (⟨by show _ = t (9 + 2 * (nI k).toNatClampNeg) (8 * (nI a).toNatClampNeg + (nI b).toNatClampNeg); rw [nI_clamp (by omega), nI_clamp (by omega), nI_clamp (by omega)], rfl⟩)

set_option maxRecDepth 100000 in
set_option maxHeartbeats 4000000 in
theorem c_light (l : Launch) (G : xg_G) (O : Heap) (t : xT) (nh : Nat) (h f s0 x : Int32) (hnh : nh ≤ 8) (h6 : t 6 1 = nI nh) : xm l yX8_light cX8_light 8 (some .int) rmX8_light G O t [.ref (O.size + 0), .int h, .int f, .int s0, .int x] (xi (fun v t' => (¬ lgP nh h f s0 x → v = -1 ∧ t' = t) ∧ (lgP nh h f s0 x → lgL t h f s0 x = 0 → v = -2 ∧ t' = xt t 0 6 (t 0 6 + 1)) ∧ (lgP nh h f s0 x → ¬ lgL t h f s0 x = 0 → v = bcj (lgL t h f s0 x) ∧ t' = xt t (9 + 2 * h.toNatClampNeg) (spI f s0) (lgL t h f s0 x)))) := by
  refine xm_enter (by decide) 3 rfl rfl ?_
  intro p e s m args below meth c X hr hk
  refine g_eq (L2 := [some (.ref (O.size + 0)), some (.int h), some (.int f), some (.int s0), some (.int x), none, none, none]) rfl rfl rfl ?_
  refine g_aload_n (pc := 0) X dX8_light_0 rfl rfl ?_
  refine g_iload_n (pc := 1) X dX8_light_1 rfl rfl ?_
  refine g_iload_n (pc := 2) X dX8_light_2 rfl rfl ?_
  refine g_iload_n (pc := 3) X dX8_light_3 rfl rfl ?_
  refine gm_Vi (pc := 4) X 8 xc_X8_89 (c_isSpot l G O _ nh h f s0 hnh h6) dX8_light_4 rfl (by decide) rfl rfl rfl rfl (Nat.le_of_ble_eq_true rfl) (fun v_4 t_4 hp => ?_)
  obtain ⟨rfl, hq9⟩ := hp
  have hq9 := hq9.symm
  subst hq9
  refine g_if_eq (pc := 7) (tgt := 23) X dX8_light_7 (by decide) (fun hc_7 => ?_) (fun hc_7 => ?_)
  · refine g_iconst (pc := 23) (v := (-1)) X dX8_light_23 (by decide) ?_
    exact gm_iret (pc := 24) X hr hk dX8_light_24 (⟨fun _ => ⟨rfl, rfl⟩, fun q => absurd q (fun q8 => bi_0 hc_7 q8.1), fun q => absurd q (fun q8 => bi_0 hc_7 q8.1)⟩)
  · refine g_iload (pc := 10) X dX8_light_10 rfl ?_
    refine g_iconst (pc := 12) (v := 1) X dX8_light_12 (by decide) ?_
    refine g_icmp_lt (pc := 13) (tgt := 23) X dX8_light_13 (by decide) (fun hc_13 => ?_) (fun hc_13 => ?_)
    · refine g_iconst (pc := 23) (v := (-1)) X dX8_light_23 (by decide) ?_
      exact gm_iret (pc := 24) X hr hk dX8_light_24 (⟨fun _ => ⟨rfl, rfl⟩, fun q => absurd q (fun q8 => absurd q8.2.1 (k2_nle hc_13)), fun q => absurd q (fun q8 => absurd q8.2.1 (k2_nle hc_13))⟩)
    · refine g_iload (pc := 16) X dX8_light_16 rfl ?_
      refine g_ldc (pc := 18) X dX8_light_18 xw_351 ?_
      refine g_icmp_le (pc := 20) (tgt := 25) X dX8_light_20 (by decide) (fun hc_20 => ?_) (fun hc_20 => ?_)
      · have hsp := bi_1 hc_7
        have hlg : lgP nh h f s0 x := ⟨hsp, k2_le hc_13, hc_20⟩
        obtain ⟨k, a, b, hk1, ha, hb, rfl, rfl, rfl⟩ := sp_of hnh hsp
        have eL : lgL t (nI k) (nI a) (nI b) x = t (9 + 2 * k) (8 * a + b) &&& x := by show t (9 + 2 * (nI k).toNatClampNeg) (8 * (nI a).toNatClampNeg + (nI b).toNatClampNeg) &&& x = _; rw [nI_clamp (by omega), nI_clamp (by omega), nI_clamp (by omega)]
        refine g_aload_n (pc := 25) X dX8_light_25 rfl rfl ?_
        refine gm_getR (k' := 6) (pc := 26) (j := 3) X 8 dX8_light_26 rfl (by decide) rfl xu_8 (by decide) rfl xw_268 rfl rfl ?_
        refine gm_getR (k' := 7) (pc := 29) (j := 0) X 2 dX8_light_29 rfl (by decide) rfl xu_2 (by decide) rfl xw_134 rfl rfl ?_
        refine g_iload_n (pc := 32) X dX8_light_32 rfl rfl ?_
        refine gm_aald (pc := 33) (k' := (8 + 2 * k)) X 12 (k) (.object "UnderText$Half") dX8_light_33 rfl (by decide) (by decide) rfl rfl rfl (show k < 8 from by omega) (by decide) (kd_half k (show k < 8 by omega)).2.1 ?_
        refine gm_getR (k' := (9 + 2 * k)) (pc := 34) (j := 3) X 1 dX8_light_34 (kd_half k (show k < 8 by omega)).1 (by decide) rfl xu_1 (by decide) rfl xw_121 rfl (kd_half k (show k < 8 by omega)).2.2.1 ?_
        refine g_astore (pc := 37) X dX8_light_37 (by decide) ?_
        refine g_iload_n (pc := 39) X dX8_light_39 rfl rfl ?_
        refine g_iload_n (pc := 40) X dX8_light_40 rfl rfl ?_
        refine gm_Si (pc := 41) X xc_X8_104 (c_spotIndex l G O _ _ _) dX8_light_41 rfl rfl rfl (Nat.le_of_ble_eq_true rfl) (fun v_41 t_41 hp => ?_)
        obtain ⟨rfl, hq9⟩ := hp
        have hq9 := hq9.symm
        subst hq9
        refine g_istore (pc := 44) X dX8_light_44 (by decide) ?_
        refine g_aload (pc := 46) X dX8_light_46 rfl ?_
        refine g_iload (pc := 48) X dX8_light_48 rfl ?_
        refine gm_iald (pc := 50) X (8 * a + b) dX8_light_50 (kd_half k (show k < 8 by omega)).2.2.2.1 (idx8 a b) (by rw [(kd_half k (show k < 8 by omega)).2.2.2.2]; omega) (by rw [(kd_half k (show k < 8 by omega)).2.2.2.2]; decide) ?_
        refine g_iload (pc := 51) X dX8_light_51 rfl ?_
        refine g_iand (pc := 53) X dX8_light_53 ?_
        refine g_istore (pc := 54) X dX8_light_54 (by decide) ?_
        refine g_iload (pc := 56) X dX8_light_56 rfl ?_
        refine g_if_ne (pc := 58) (tgt := 74) X dX8_light_58 (by decide) (fun hc_58 => ?_) (fun hc_58 => ?_)
        · refine g_aload (pc := 74) X dX8_light_74 rfl ?_
          refine g_iload (pc := 76) X dX8_light_76 rfl ?_
          refine g_iload (pc := 78) X dX8_light_78 rfl ?_
          refine gm_iast (pc := 80) X (8 * a + b) dX8_light_80 (kd_half k (show k < 8 by omega)).2.2.2.1 (idx8 a b) (by rw [(kd_half k (show k < 8 by omega)).2.2.2.2]; omega) (by rw [(kd_half k (show k < 8 by omega)).2.2.2.2]; decide) ?_
          refine g_iload (pc := 81) X dX8_light_81 rfl ?_
          refine gm_Si (pc := 83) X xc_X8_108 (c_bitCount l G O _ _) dX8_light_83 rfl rfl rfl (Nat.le_of_ble_eq_true rfl) (fun v_83 t_83 hp => ?_)
          obtain ⟨rfl, hq9⟩ := hp
          have hq9 := hq9.symm
          subst hq9
          exact gm_iret (pc := 86) X hr hk dX8_light_86 (⟨fun q => absurd hlg q, fun _ q => absurd (by rw [← eL]; exact q) hc_58, fun _ _ => ⟨by rw [eL], by rw [eL, nI_clamp (show k < 2 ^ 31 by omega), show spI (nI a) (nI b) = 8 * a + b by show 8 * (nI a).toNatClampNeg + (nI b).toNatClampNeg = _; rw [nI_clamp (by omega), nI_clamp (by omega)]]⟩⟩)
        · refine g_aload_n (pc := 61) X dX8_light_61 rfl rfl ?_
          refine g_dup (pc := 62) X dX8_light_62 rfl ?_
          refine gm_getI (pc := 63) (j := 6) X 8 dX8_light_63 rfl (by decide) rfl xu_8 (by decide) rfl xw_271 rfl ?_
          refine g_iconst (pc := 66) (v := 1) X dX8_light_66 (by decide) ?_
          refine g_iadd (pc := 67) X dX8_light_67 ?_
          refine gm_putI (pc := 68) (j := 6) X 8 tyX8 dX8_light_68 rfl (by decide) rfl xu_8 tyX8_ok nmX8 (by decide) rfl xw_271 rfl rfl (Or.inl rfl) ?_
          refine g_bipush (pc := 71) (v := (-2)) X dX8_light_71 (by decide) ?_
          exact gm_iret (pc := 73) X hr hk dX8_light_73 (⟨fun q => absurd hlg q, fun _ _ => ⟨rfl, rfl⟩, fun _ q => absurd (by rw [eL]; exact hc_58) q⟩)
      · refine g_iconst (pc := 23) (v := (-1)) X dX8_light_23 (by decide) ?_
        exact gm_iret (pc := 24) X hr hk dX8_light_24 (⟨fun _ => ⟨rfl, rfl⟩, fun q => absurd q (fun q8 => hc_20 q8.2.2), fun q => absurd q (fun q8 => hc_20 q8.2.2)⟩)

set_option maxRecDepth 100000 in
set_option maxHeartbeats 4000000 in
theorem c_price (l : Launch) (G : xg_G) (O : Heap) (t : xT) (n : Int32)  : xm l yX8_price cX8_price 2 (some .boolean) rmX8_price G O t [.ref (O.size + 0), .int n] (xi (fun v t' => v = bi (0 ≤ n ∧ n ≤ 99) ∧ t' = (if 0 ≤ n ∧ n ≤ 99 then xt t 0 7 n else t))) := by
  refine xm_enter (by decide) 0 rfl rfl ?_
  intro p e s m args below meth c X hr hk
  refine g_eq (L2 := [some (.ref (O.size + 0)), some (.int n)]) rfl rfl rfl ?_
  refine g_iload_n (pc := 0) X dX8_price_0 rfl rfl ?_
  refine g_bipush (pc := 1) (v := 99) X dX8_price_1 (by decide) ?_
  refine gm_Si (pc := 3) X xc_X8_79 (c_isWithin l G O _ n 99) dX8_price_3 rfl rfl rfl (Nat.le_of_ble_eq_true rfl) (fun v_3 t_3 hp => ?_)
  obtain ⟨rfl, hq9⟩ := hp
  have hq9 := hq9.symm
  subst hq9
  refine g_if_ne (pc := 6) (tgt := 11) X dX8_price_6 (by decide) (fun hc_6 => ?_) (fun hc_6 => ?_)
  · refine g_aload_n (pc := 11) X dX8_price_11 rfl rfl ?_
    refine g_iload_n (pc := 12) X dX8_price_12 rfl rfl ?_
    refine gm_putI (pc := 13) (j := 7) X 8 tyX8 dX8_price_13 rfl (by decide) rfl xu_8 tyX8_ok nmX8 (by decide) rfl xw_272 rfl rfl (Or.inl rfl) ?_
    refine g_iconst (pc := 16) (v := 1) X dX8_price_16 (by decide) ?_
    exact gm_zret (pc := 17) X hr hk dX8_price_17 (by first | exact Or.inl rfl | exact Or.inr rfl) (⟨(bi_t (bi_1 hc_6)).symm, (if_pos (bi_1 hc_6)).symm⟩)
  · refine g_iconst (pc := 9) (v := 0) X dX8_price_9 (by decide) ?_
    exact gm_zret (pc := 10) X hr hk dX8_price_10 (by first | exact Or.inl rfl | exact Or.inr rfl) (⟨(bi_f (bi_0 hc_6)).symm, (if_neg (bi_0 hc_6)).symm⟩)

set_option maxRecDepth 100000 in
set_option maxHeartbeats 4000000 in
theorem c_leaf (l : Launch) (G : xg_G) (O : Heap) (t : xT) (nj : Nat) (n w : Int32) (hnj : nj ≤ 8) (h5 : t 55 4 = nI nj) : xm l yX8_leaf cX8_leaf 4 (some .int) rmX8_leaf G O t [.ref (O.size + 0), .int n, .int w] (xi (fun v t' => v = (if (0 ≤ n ∧ n < nI nj) ∧ (0 ≤ w ∧ w < nI 6) then t (68 + n.toNatClampNeg) w.toNatClampNeg else -1) ∧ t' = t)) := by
  refine xm_enter (by decide) 1 rfl rfl ?_
  intro p e s m args below meth c X hr hk
  refine g_eq (L2 := [some (.ref (O.size + 0)), some (.int n), some (.int w), none]) rfl rfl rfl ?_
  refine g_aload_n (pc := 0) X dX8_leaf_0 rfl rfl ?_
  refine gm_getR (k' := 55) (pc := 1) (j := 5) X 8 dX8_leaf_1 rfl (by decide) rfl xu_8 (by decide) rfl xw_270 rfl rfl ?_
  refine g_iload_n (pc := 4) X dX8_leaf_4 rfl rfl ?_
  refine gm_Vi (pc := 5) X 0 xc_X8_161 (c_bhas l G O _ nj n hnj h5) dX8_leaf_5 rfl (by decide) rfl rfl rfl rfl (Nat.le_of_ble_eq_true rfl) (fun v_5 t_5 hp => ?_)
  obtain ⟨rfl, hq9⟩ := hp
  have hq9 := hq9.symm
  subst hq9
  refine g_if_ne (pc := 8) (tgt := 13) X dX8_leaf_8 (by decide) (fun hc_8 => ?_) (fun hc_8 => ?_)
  · have hin := bi_1 hc_8
    obtain ⟨k, hk1, rfl⟩ := (i_in (by omega)).mp hin
    refine g_aload_n (pc := 13) X dX8_leaf_13 rfl rfl ?_
    refine gm_getR (k' := 55) (pc := 14) (j := 5) X 8 dX8_leaf_14 rfl (by decide) rfl xu_8 (by decide) rfl xw_270 rfl rfl ?_
    refine gm_getR (k' := 56) (pc := 17) (j := 0) X 0 dX8_leaf_17 rfl (by decide) rfl xu_0 (by decide) rfl xw_245 rfl rfl ?_
    refine g_iload_n (pc := 20) X dX8_leaf_20 rfl rfl ?_
    refine gm_aald (pc := 21) (k' := (68 + k)) X 13 (k) (.object "UnderText$Leaf") dX8_leaf_21 rfl (by decide) (by decide) rfl rfl rfl (show k < 8 from by omega) (by decide) (kd_leaf k (show k < 8 by omega)).1 ?_
    refine g_astore_n (pc := 22) X dX8_leaf_22 rfl (by decide) ?_
    refine g_iload_n (pc := 23) X dX8_leaf_23 rfl rfl ?_
    by_cases hs_24_0 : w = nI 0
    · refine g_swIn (pc := 24) (tgt := 64) X 0 dX8_leaf_24 hs_24_0 (by decide) rfl (by decide) rfl (by decide) ?_
      refine g_aload_n (pc := 64) X dX8_leaf_64 rfl rfl ?_
      refine gm_getI (pc := 65) (j := 0) X 3 dX8_leaf_65 (kd_leaf k (show k < 8 by omega)).2 (by decide) rfl xu_3 (by decide) rfl xw_151 rfl ?_
      exact gm_iret (pc := 68) X hr hk dX8_leaf_68 (⟨by rw [hs_24_0, if_pos ⟨hin, nI_pos' (by omega), nI_lt (by omega) (by omega)⟩, nI_clamp (by omega), nI_clamp (by omega)], rfl⟩)
    by_cases hs_24_1 : w = nI 1
    · refine g_swIn (pc := 24) (tgt := 69) X 1 dX8_leaf_24 hs_24_1 (by decide) rfl (by decide) rfl (by decide) ?_
      refine g_aload_n (pc := 69) X dX8_leaf_69 rfl rfl ?_
      refine gm_getI (pc := 70) (j := 1) X 3 dX8_leaf_70 (kd_leaf k (show k < 8 by omega)).2 (by decide) rfl xu_3 (by decide) rfl xw_155 rfl ?_
      exact gm_iret (pc := 73) X hr hk dX8_leaf_73 (⟨by rw [hs_24_1, if_pos ⟨hin, nI_pos' (by omega), nI_lt (by omega) (by omega)⟩, nI_clamp (by omega), nI_clamp (by omega)], rfl⟩)
    by_cases hs_24_2 : w = nI 2
    · refine g_swIn (pc := 24) (tgt := 74) X 2 dX8_leaf_24 hs_24_2 (by decide) rfl (by decide) rfl (by decide) ?_
      refine g_aload_n (pc := 74) X dX8_leaf_74 rfl rfl ?_
      refine gm_getI (pc := 75) (j := 2) X 3 dX8_leaf_75 (kd_leaf k (show k < 8 by omega)).2 (by decide) rfl xu_3 (by decide) rfl xw_158 rfl ?_
      exact gm_iret (pc := 78) X hr hk dX8_leaf_78 (⟨by rw [hs_24_2, if_pos ⟨hin, nI_pos' (by omega), nI_lt (by omega) (by omega)⟩, nI_clamp (by omega), nI_clamp (by omega)], rfl⟩)
    by_cases hs_24_3 : w = nI 3
    · refine g_swIn (pc := 24) (tgt := 79) X 3 dX8_leaf_24 hs_24_3 (by decide) rfl (by decide) rfl (by decide) ?_
      refine g_aload_n (pc := 79) X dX8_leaf_79 rfl rfl ?_
      refine gm_getI (pc := 80) (j := 3) X 3 dX8_leaf_80 (kd_leaf k (show k < 8 by omega)).2 (by decide) rfl xu_3 (by decide) rfl xw_163 rfl ?_
      exact gm_iret (pc := 83) X hr hk dX8_leaf_83 (⟨by rw [hs_24_3, if_pos ⟨hin, nI_pos' (by omega), nI_lt (by omega) (by omega)⟩, nI_clamp (by omega), nI_clamp (by omega)], rfl⟩)
    by_cases hs_24_4 : w = nI 4
    · refine g_swIn (pc := 24) (tgt := 84) X 4 dX8_leaf_24 hs_24_4 (by decide) rfl (by decide) rfl (by decide) ?_
      refine g_aload_n (pc := 84) X dX8_leaf_84 rfl rfl ?_
      refine gm_getI (pc := 85) (j := 4) X 3 dX8_leaf_85 (kd_leaf k (show k < 8 by omega)).2 (by decide) rfl xu_3 (by decide) rfl xw_167 rfl ?_
      exact gm_iret (pc := 88) X hr hk dX8_leaf_88 (⟨by rw [hs_24_4, if_pos ⟨hin, nI_pos' (by omega), nI_lt (by omega) (by omega)⟩, nI_clamp (by omega), nI_clamp (by omega)], rfl⟩)
    by_cases hs_24_5 : w = nI 5
    · refine g_swIn (pc := 24) (tgt := 89) X 5 dX8_leaf_24 hs_24_5 (by decide) rfl (by decide) rfl (by decide) ?_
      refine g_aload_n (pc := 89) X dX8_leaf_89 rfl rfl ?_
      refine gm_getI (pc := 90) (j := 5) X 3 dX8_leaf_90 (kd_leaf k (show k < 8 by omega)).2 (by decide) rfl xu_3 (by decide) rfl xw_170 rfl ?_
      exact gm_iret (pc := 93) X hr hk dX8_leaf_93 (⟨by rw [hs_24_5, if_pos ⟨hin, nI_pos' (by omega), nI_lt (by omega) (by omega)⟩, nI_clamp (by omega), nI_clamp (by omega)], rfl⟩)
    refine g_swOut (pc := 24) (tgt := 94) X 5 dX8_leaf_24 rfl rfl (by decide) (fun k hk => match k, hk with | 0, _ => hs_24_0 | 1, _ => hs_24_1 | 2, _ => hs_24_2 | 3, _ => hs_24_3 | 4, _ => hs_24_4 | 5, _ => hs_24_5 | k + 6, h => absurd h (by omega)) (by decide) ?_
    refine g_iconst (pc := 94) (v := (-1)) X dX8_leaf_94 (by decide) ?_
    exact gm_iret (pc := 95) X hr hk dX8_leaf_95 (⟨(if_neg (fun q => by obtain ⟨j, hj, e9⟩ := (i_in (n := 6) (by omega)).mp q.2; match j, hj, e9 with | 0, _, e9 => exact hs_24_0 e9 | 1, _, e9 => exact hs_24_1 e9 | 2, _, e9 => exact hs_24_2 e9 | 3, _, e9 => exact hs_24_3 e9 | 4, _, e9 => exact hs_24_4 e9 | 5, _, e9 => exact hs_24_5 e9 | j + 6, hj, _ => omega)).symm, rfl⟩)
  · refine g_iconst (pc := 11) (v := (-1)) X dX8_leaf_11 (by decide) ?_
    exact gm_iret (pc := 12) X hr hk dX8_leaf_12 (⟨(if_neg (fun q => bi_0 hc_8 q.1)).symm, rfl⟩)

set_option maxRecDepth 100000 in
set_option maxHeartbeats 4000000 in
theorem c_book (l : Launch) (G : xg_G) (O : Heap) (t : xT) (nj : Nat) (n w : Int32) (hnj : nj ≤ 8) (h5 : t 55 4 = nI nj) (ho : ∀ k, k < nj → ∃ j, j < nj ∧ t 57 k = nI j) : xm l yX8_book cX8_book 3 (some .int) rmX8_book G O t [.ref (O.size + 0), .int n, .int w] (xi (fun v t' => v = (if 0 ≤ n ∧ n < nI nj then (if w = nI 0 then t 57 n.toNatClampNeg else if w = nI 1 then lstV t nj n.toNatClampNeg else if w = nI 2 then bi (brkP t nj n.toNatClampNeg) else -1) else -1) ∧ t' = t)) := by
  refine xm_enter (by decide) 0 rfl rfl ?_
  intro p e s m args below meth c X hr hk
  refine g_eq (L2 := [some (.ref (O.size + 0)), some (.int n), some (.int w)]) rfl rfl rfl ?_
  refine g_aload_n (pc := 0) X dX8_book_0 rfl rfl ?_
  refine gm_getR (k' := 55) (pc := 1) (j := 5) X 8 dX8_book_1 rfl (by decide) rfl xu_8 (by decide) rfl xw_270 rfl rfl ?_
  refine g_iload_n (pc := 4) X dX8_book_4 rfl rfl ?_
  refine gm_Vi (pc := 5) X 0 xc_X8_161 (c_bhas l G O _ nj n hnj h5) dX8_book_5 rfl (by decide) rfl rfl rfl rfl (Nat.le_of_ble_eq_true rfl) (fun v_5 t_5 hp => ?_)
  obtain ⟨rfl, hq9⟩ := hp
  have hq9 := hq9.symm
  subst hq9
  refine g_if_ne (pc := 8) (tgt := 13) X dX8_book_8 (by decide) (fun hc_8 => ?_) (fun hc_8 => ?_)
  · have hin := bi_1 hc_8
    obtain ⟨k, hk1, rfl⟩ := (i_in (by omega)).mp hin
    refine g_iload_n (pc := 13) X dX8_book_13 rfl rfl ?_
    by_cases hs_14_0 : w = nI 0
    · refine g_swIn (pc := 14) (tgt := 40) X 0 dX8_book_14 hs_14_0 (by decide) rfl (by decide) rfl (by decide) ?_
      refine g_aload_n (pc := 40) X dX8_book_40 rfl rfl ?_
      refine gm_getR (k' := 55) (pc := 41) (j := 5) X 8 dX8_book_41 rfl (by decide) rfl xu_8 (by decide) rfl xw_270 rfl rfl ?_
      refine gm_getR (k' := 57) (pc := 44) (j := 1) X 0 dX8_book_44 rfl (by decide) rfl xu_0 (by decide) rfl xw_247 rfl rfl ?_
      refine g_iload_n (pc := 47) X dX8_book_47 rfl rfl ?_
      refine gm_iald (pc := 48) X (k) dX8_book_48 rfl rfl (show k < 8 from by omega) (by decide) ?_
      exact gm_iret (pc := 49) X hr hk dX8_book_49 (⟨by rw [if_pos hin, nI_clamp (by omega), if_pos hs_14_0], rfl⟩)
    by_cases hs_14_1 : w = nI 1
    · refine g_swIn (pc := 14) (tgt := 50) X 1 dX8_book_14 hs_14_1 (by decide) rfl (by decide) rfl (by decide) ?_
      refine g_aload_n (pc := 50) X dX8_book_50 rfl rfl ?_
      refine gm_getR (k' := 55) (pc := 51) (j := 5) X 8 dX8_book_51 rfl (by decide) rfl xu_8 (by decide) rfl xw_270 rfl rfl ?_
      refine g_iload_n (pc := 54) X dX8_book_54 rfl rfl ?_
      refine gm_Vi (pc := 55) X 0 xc_X8_177 (c_lostBehind l G O _ nj k hnj h5 ho (by omega)) dX8_book_55 rfl (by decide) rfl rfl rfl rfl (Nat.le_of_ble_eq_true rfl) (fun v_55 t_55 hp => ?_)
      obtain ⟨rfl, hq9⟩ := hp
      have hq9 := hq9.symm
      subst hq9
      exact gm_iret (pc := 58) X hr hk dX8_book_58 (⟨by rw [if_pos hin, nI_clamp (by omega), if_neg hs_14_0, if_pos hs_14_1], rfl⟩)
    by_cases hs_14_2 : w = nI 2
    · refine g_swIn (pc := 14) (tgt := 59) X 2 dX8_book_14 hs_14_2 (by decide) rfl (by decide) rfl (by decide) ?_
      refine g_aload_n (pc := 59) X dX8_book_59 rfl rfl ?_
      refine gm_getR (k' := 55) (pc := 60) (j := 5) X 8 dX8_book_60 rfl (by decide) rfl xu_8 (by decide) rfl xw_270 rfl rfl ?_
      refine g_iload_n (pc := 63) X dX8_book_63 rfl rfl ?_
      refine gm_Vi (pc := 64) X 0 xc_X8_180 (c_breaksBehind l G O _ nj k hnj h5 ho (by omega)) dX8_book_64 rfl (by decide) rfl rfl rfl rfl (Nat.le_of_ble_eq_true rfl) (fun v_64 t_64 hp => ?_)
      obtain ⟨rfl, hq9⟩ := hp
      have hq9 := hq9.symm
      subst hq9
      refine g_if_eq (pc := 67) (tgt := 74) X dX8_book_67 (by decide) (fun hc_67 => ?_) (fun hc_67 => ?_)
      · refine g_iconst (pc := 74) (v := 0) X dX8_book_74 (by decide) ?_
        exact gm_iret (pc := 75) X hr hk dX8_book_75 (⟨by rw [if_pos hin, nI_clamp (by omega), if_neg hs_14_0, if_neg hs_14_1, if_pos hs_14_2, bi_f (bi_0 hc_67)], rfl⟩)
      · refine g_iconst (pc := 70) (v := 1) X dX8_book_70 (by decide) ?_
        refine g_goto (pc := 71) (tgt := 75) X dX8_book_71 (by decide) ?_
        exact gm_iret (pc := 75) X hr hk dX8_book_75 (⟨by rw [if_pos hin, nI_clamp (by omega), if_neg hs_14_0, if_neg hs_14_1, if_pos hs_14_2, bi_t (bi_1 hc_67)], rfl⟩)
    refine g_swOut (pc := 14) (tgt := 76) X 2 dX8_book_14 rfl rfl (by decide) (fun k hk => match k, hk with | 0, _ => hs_14_0 | 1, _ => hs_14_1 | 2, _ => hs_14_2 | k + 3, h => absurd h (by omega)) (by decide) ?_
    refine g_iconst (pc := 76) (v := (-1)) X dX8_book_76 (by decide) ?_
    exact gm_iret (pc := 77) X hr hk dX8_book_77 (⟨by rw [if_pos hin, if_neg hs_14_0, if_neg hs_14_1, if_neg hs_14_2], rfl⟩)
  · refine g_iconst (pc := 11) (v := (-1)) X dX8_book_11 (by decide) ?_
    exact gm_iret (pc := 12) X hr hk dX8_book_12 (⟨(if_neg (bi_0 hc_8)).symm, rfl⟩)

set_option maxRecDepth 100000 in
set_option maxHeartbeats 4000000 in
theorem c_count (l : Launch) (G : xg_G) (O : Heap) (t : xT) (nj : Nat) (w : Int32) (hnj : nj ≤ 8) (h5 : t 55 4 = nI nj) (ho : ∀ k, k < nj → ∃ j, j < nj ∧ t 57 k = nI j) : xm l yX8_count cX8_count 2 (some .int) rmX8_count G O t [.ref (O.size + 0), .int w] (xi (fun v t' => v = (if w = nI 0 then t 4 1 else if w = nI 1 then t 6 1 else if w = nI 2 then t 0 6 else if w = nI 3 then t 55 4 else if w = nI 4 then sm (fun k => t (68 + k) 3) nj else if w = nI 5 then sm (fun k => bi (clsP t nj k)) nj else if w = nI 6 then sm (fun k => bi (brkP t nj k)) nj else if w = nI 7 then sm (fun k => if 0 < lstV t nj k then lstV t nj k else 0) nj else -1) ∧ t' = t)) := by
  refine xm_enter (by decide) 0 rfl rfl ?_
  intro p e s m args below meth c X hr hk
  refine g_eq (L2 := [some (.ref (O.size + 0)), some (.int w)]) rfl rfl rfl ?_
  refine g_iload_n (pc := 0) X dX8_count_0 rfl rfl ?_
  by_cases hs_1_0 : w = nI 0
  · refine g_swIn (pc := 1) (tgt := 48) X 0 dX8_count_1 hs_1_0 (by decide) rfl (by decide) rfl (by decide) ?_
    refine g_aload_n (pc := 48) X dX8_count_48 rfl rfl ?_
    refine gm_getR (k' := 4) (pc := 49) (j := 2) X 8 dX8_count_49 rfl (by decide) rfl xu_8 (by decide) rfl xw_267 rfl rfl ?_
    refine gm_getI (pc := 52) (j := 1) X 7 dX8_count_52 rfl (by decide) rfl xu_7 (by decide) rfl xw_83 rfl ?_
    exact gm_iret (pc := 55) X hr hk dX8_count_55 (⟨by rw [if_pos hs_1_0], rfl⟩)
  by_cases hs_1_1 : w = nI 1
  · refine g_swIn (pc := 1) (tgt := 56) X 1 dX8_count_1 hs_1_1 (by decide) rfl (by decide) rfl (by decide) ?_
    refine g_aload_n (pc := 56) X dX8_count_56 rfl rfl ?_
    refine gm_getR (k' := 6) (pc := 57) (j := 3) X 8 dX8_count_57 rfl (by decide) rfl xu_8 (by decide) rfl xw_268 rfl rfl ?_
    refine gm_getI (pc := 60) (j := 1) X 2 dX8_count_60 rfl (by decide) rfl xu_2 (by decide) rfl xw_138 rfl ?_
    exact gm_iret (pc := 63) X hr hk dX8_count_63 (⟨by rw [if_neg hs_1_0, if_pos hs_1_1], rfl⟩)
  by_cases hs_1_2 : w = nI 2
  · refine g_swIn (pc := 1) (tgt := 64) X 2 dX8_count_1 hs_1_2 (by decide) rfl (by decide) rfl (by decide) ?_
    refine g_aload_n (pc := 64) X dX8_count_64 rfl rfl ?_
    refine gm_getI (pc := 65) (j := 6) X 8 dX8_count_65 rfl (by decide) rfl xu_8 (by decide) rfl xw_271 rfl ?_
    exact gm_iret (pc := 68) X hr hk dX8_count_68 (⟨by rw [if_neg hs_1_0, if_neg hs_1_1, if_pos hs_1_2], rfl⟩)
  by_cases hs_1_3 : w = nI 3
  · refine g_swIn (pc := 1) (tgt := 69) X 3 dX8_count_1 hs_1_3 (by decide) rfl (by decide) rfl (by decide) ?_
    refine g_aload_n (pc := 69) X dX8_count_69 rfl rfl ?_
    refine gm_getR (k' := 55) (pc := 70) (j := 5) X 8 dX8_count_70 rfl (by decide) rfl xu_8 (by decide) rfl xw_270 rfl rfl ?_
    refine gm_getI (pc := 73) (j := 4) X 0 dX8_count_73 rfl (by decide) rfl xu_0 (by decide) rfl xw_253 rfl ?_
    exact gm_iret (pc := 76) X hr hk dX8_count_76 (⟨by rw [if_neg hs_1_0, if_neg hs_1_1, if_neg hs_1_2, if_pos hs_1_3], rfl⟩)
  by_cases hs_1_4 : w = nI 4
  · refine g_swIn (pc := 1) (tgt := 77) X 4 dX8_count_1 hs_1_4 (by decide) rfl (by decide) rfl (by decide) ?_
    refine g_aload_n (pc := 77) X dX8_count_77 rfl rfl ?_
    refine gm_getR (k' := 55) (pc := 78) (j := 5) X 8 dX8_count_78 rfl (by decide) rfl xu_8 (by decide) rfl xw_270 rfl rfl ?_
    refine gm_Vi (pc := 81) X 0 xc_X8_202 (c_allQuarrels l G O _ nj hnj h5) dX8_count_81 rfl (by decide) rfl rfl rfl rfl (Nat.le_of_ble_eq_true rfl) (fun v_81 t_81 hp => ?_)
    obtain ⟨rfl, hq9⟩ := hp
    have hq9 := hq9.symm
    subst hq9
    exact gm_iret (pc := 84) X hr hk dX8_count_84 (⟨by rw [if_neg hs_1_0, if_neg hs_1_1, if_neg hs_1_2, if_neg hs_1_3, if_pos hs_1_4], rfl⟩)
  by_cases hs_1_5 : w = nI 5
  · refine g_swIn (pc := 1) (tgt := 85) X 5 dX8_count_1 hs_1_5 (by decide) rfl (by decide) rfl (by decide) ?_
    refine g_aload_n (pc := 85) X dX8_count_85 rfl rfl ?_
    refine gm_getR (k' := 55) (pc := 86) (j := 5) X 8 dX8_count_86 rfl (by decide) rfl xu_8 (by decide) rfl xw_270 rfl rfl ?_
    refine gm_Vi (pc := 89) X 0 xc_X8_205 (c_clashes l G O _ nj hnj h5 ho) dX8_count_89 rfl (by decide) rfl rfl rfl rfl (Nat.le_of_ble_eq_true rfl) (fun v_89 t_89 hp => ?_)
    obtain ⟨rfl, hq9⟩ := hp
    have hq9 := hq9.symm
    subst hq9
    exact gm_iret (pc := 92) X hr hk dX8_count_92 (⟨by rw [if_neg hs_1_0, if_neg hs_1_1, if_neg hs_1_2, if_neg hs_1_3, if_neg hs_1_4, if_pos hs_1_5], rfl⟩)
  by_cases hs_1_6 : w = nI 6
  · refine g_swIn (pc := 1) (tgt := 93) X 6 dX8_count_1 hs_1_6 (by decide) rfl (by decide) rfl (by decide) ?_
    refine g_aload_n (pc := 93) X dX8_count_93 rfl rfl ?_
    refine gm_getR (k' := 55) (pc := 94) (j := 5) X 8 dX8_count_94 rfl (by decide) rfl xu_8 (by decide) rfl xw_270 rfl rfl ?_
    refine gm_Vi (pc := 97) X 0 xc_X8_208 (c_breaks l G O _ nj hnj h5 ho) dX8_count_97 rfl (by decide) rfl rfl rfl rfl (Nat.le_of_ble_eq_true rfl) (fun v_97 t_97 hp => ?_)
    obtain ⟨rfl, hq9⟩ := hp
    have hq9 := hq9.symm
    subst hq9
    exact gm_iret (pc := 100) X hr hk dX8_count_100 (⟨by rw [if_neg hs_1_0, if_neg hs_1_1, if_neg hs_1_2, if_neg hs_1_3, if_neg hs_1_4, if_neg hs_1_5, if_pos hs_1_6], rfl⟩)
  by_cases hs_1_7 : w = nI 7
  · refine g_swIn (pc := 1) (tgt := 101) X 7 dX8_count_1 hs_1_7 (by decide) rfl (by decide) rfl (by decide) ?_
    refine g_aload_n (pc := 101) X dX8_count_101 rfl rfl ?_
    refine gm_getR (k' := 55) (pc := 102) (j := 5) X 8 dX8_count_102 rfl (by decide) rfl xu_8 (by decide) rfl xw_270 rfl rfl ?_
    refine gm_Vi (pc := 105) X 0 xc_X8_211 (c_allLost l G O _ nj hnj h5 ho) dX8_count_105 rfl (by decide) rfl rfl rfl rfl (Nat.le_of_ble_eq_true rfl) (fun v_105 t_105 hp => ?_)
    obtain ⟨rfl, hq9⟩ := hp
    have hq9 := hq9.symm
    subst hq9
    exact gm_iret (pc := 108) X hr hk dX8_count_108 (⟨by rw [if_neg hs_1_0, if_neg hs_1_1, if_neg hs_1_2, if_neg hs_1_3, if_neg hs_1_4, if_neg hs_1_5, if_neg hs_1_6, if_pos hs_1_7], rfl⟩)
  refine g_swOut (pc := 1) (tgt := 109) X 7 dX8_count_1 rfl rfl (by decide) (fun k hk => match k, hk with | 0, _ => hs_1_0 | 1, _ => hs_1_1 | 2, _ => hs_1_2 | 3, _ => hs_1_3 | 4, _ => hs_1_4 | 5, _ => hs_1_5 | 6, _ => hs_1_6 | 7, _ => hs_1_7 | k + 8, h => absurd h (by omega)) (by decide) ?_
  refine g_iconst (pc := 109) (v := (-1)) X dX8_count_109 (by decide) ?_
  exact gm_iret (pc := 110) X hr hk dX8_count_110 (⟨by rw [if_neg hs_1_0, if_neg hs_1_1, if_neg hs_1_2, if_neg hs_1_3, if_neg hs_1_4, if_neg hs_1_5, if_neg hs_1_6, if_neg hs_1_7], rfl⟩)

