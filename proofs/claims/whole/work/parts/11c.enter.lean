/-! 11c: the law from its entry: both objects are made, then its loop -/
set_option maxRecDepth 100000 in
set_option maxHeartbeats 4000000 in
theorem lw_enter {p : Program} {l : Launch} {e : Env} {s : State} {m : MethodId} {args : Array Value} {below : List Frame} {meth : Method} {c : Code} {G : xg_G} {O : Heap} {Q : State → Prop} {w : Nat → va_E} {b Ls : Nat} {xs : Nat → Int32} (X : xg_X p m c cL_law 4 s args RL G) (hX : va_X b Ls xs s O) (hbl : b < O.size) (hL : Ls ≤ 3072) (kE : ∀ (t : xT) (L : List (Option Value)), gl p l e s m args below meth c G O Q t L 612 []) : gv True p l e room_1 s m args below meth c 4 G O 0 0 Q 0 w [some (.ref b), none, none, none] 0 [] := by
  refine g_new (pc := 0) (ci := 8) (fs := [.null, .null, .null, .null, .null, .null, .int 0, .int 0]) X tyX8 dL_law_0 xw_46 xw_47 xw_32 rfl xu_8 tyX8_ok (fun j hj => match j, hj with | 0, _ => rfl | 1, _ => rfl | 2, _ => rfl | 3, _ => rfl | 4, _ => rfl | 5, _ => rfl | 6, _ => rfl | 7, _ => rfl | j + 8, h => absurd h (by omega)) (by decide) ?_
  refine g_dup (pc := 3) X dL_law_3 rfl ?_
  refine g_callI (pc := 4) (as := []) (rest := [.ref (O.size + 0)]) X xc_L_9 (k_X8_0 l G O _ rfl) dL_law_4 rfl rfl (by decide) (Nat.le_of_ble_eq_true rfl) (fun r w2 hp => ?_)
  obtain ⟨rfl, rfl⟩ := hp
  rw [xk_0]
  refine g_eq (st2 := [.ref (O.size + 0)]) rfl rfl rfl ?_
  refine g_astore_n (pc := 7) X dL_law_7 rfl (by decide) ?_
  refine g_new (pc := 8) (ci := 9) (fs := [.int 0, .null, .int 0, .null, .int 0, .int 0, .int 0, .int 0, .null, .null, .null, .null, .int 0, .int 0, .int 0, .int 0, .int 0, .int 0, .null, .null, .int 0, .int 0, .null, .null, .null, .null, .null, .int 0, .null, .null, .null, .null]) X tyX9 dL_law_8 xw_585 xw_586 xw_42 rfl xu_9 tyX9_ok (fun j hj => match j, hj with | 0, _ => rfl | 1, _ => rfl | 2, _ => rfl | 3, _ => rfl | 4, _ => rfl | 5, _ => rfl | 6, _ => rfl | 7, _ => rfl | 8, _ => rfl | 9, _ => rfl | 10, _ => rfl | 11, _ => rfl | 12, _ => rfl | 13, _ => rfl | 14, _ => rfl | 15, _ => rfl | 16, _ => rfl | 17, _ => rfl | 18, _ => rfl | 19, _ => rfl | 20, _ => rfl | 21, _ => rfl | 22, _ => rfl | 23, _ => rfl | 24, _ => rfl | 25, _ => rfl | 26, _ => rfl | 27, _ => rfl | 28, _ => rfl | 29, _ => rfl | 30, _ => rfl | 31, _ => rfl | j + 32, h => absurd h (by omega)) (by decide) ?_
  refine g_dup (pc := 11) X dL_law_11 rfl ?_
  refine g_callI (pc := 12) (as := []) (rest := [.ref (O.size + 76)]) X xc_L_12 (k_X9_76 l G O _ rfl) dL_law_12 rfl rfl (by decide) (Nat.le_of_ble_eq_true rfl) (fun r w2 hp => ?_)
  obtain ⟨rfl, rfl⟩ := hp
  refine g_eq (st2 := [.ref (O.size + 76)]) (w2 := xd G O t0) rfl rfl ?_ ?_
  · funext j
    unfold xk xg_up
    by_cases h : j < 76
    · rw [if_pos h, if_neg (by omega)]
    · rw [if_neg h]
  refine g_astore_n (pc := 15) X dL_law_15 rfl (by decide) ?_
  refine g_iconst (pc := 16) (v := 0) X dL_law_16 (by decide) ?_
  refine g_istore_n (pc := 17) X dL_law_17 rfl (by decide) ?_
  refine g_forz ?_
  refine g_widen (k := 94) (k2 := 5310) (by decide) (by decide) ?_
  exact lw_loop X hX hbl hL kE (Ls + 1) 0 t0 (by omega) (by omega) ⟨0, 0, 0, 0, 3, Rel_t0⟩
