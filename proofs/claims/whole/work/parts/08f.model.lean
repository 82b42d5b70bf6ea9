/-! 08f: the reference: join -/
abbrev CN (t : xT) (pl pr : Nat) : Nat → Nat → Int32 := fun a b => cst (bsN t pl a b) (nI pr)
theorem CN_ok {t : xT} {pl pr n : Nat} (hpr : pr ≤ 99) (hpl : 0 < pl) (hpt : ∀ a, a < n → t 79 a = 0 ∨ t 79 a = 1 ∨ t 79 a = 2) : costOK (CN t pl pr) n ∧ ∀ a b, ¬ CN t pl pr a b = -1 → ¬ (bsN t pl a b).2.2.2 = -1 := by
  refine ⟨⟨fun a b _ _ => ?_, fun a ha => ?_⟩, fun a b h => ?_⟩
  · rcases cst_val (b := bsN t pl a b) hpr bsg_q with h | ⟨c, hc, e, -⟩
    · exact Or.inl h.1
    · exact Or.inr ⟨c, hc, e⟩
  · rcases cst_val (b := bsN t pl a a) hpr bsg_q with h | ⟨c, hc, e, -⟩
    · exact absurd h.2 (bs_one hpl (hpt a ha))
    · rw [show CN t pl pr a a = nI c from e]; exact nm1 (by omega)
  · rcases cst_val (b := bsN t pl a b) hpr bsg_q with q | ⟨c, hc, e, q⟩
    · exact absurd q.1 h
    · exact q
theorem pow_eq : ∀ n, n ≤ 8 → ((1 : Int32) <<< (nI n &&& 31)) = nI (2 ^ n) := by decide
def mxv (x : Int32) : Int32 := if x = -1 then 1000000 else x
theorem mxv_n {n : Nat} (h : n < 2 ^ 31) : mxv (nI n) = nI n := if_neg (nm1 h)
theorem mxv_step {x : Int32} {n : Nat} (hn : n < 1000000) (hx : x = -1 ∨ ∃ m, m < 1000000 ∧ x = nI m) : (if nI n < mxv x then nI n else mxv x) = mxv (if x = -1 ∨ nI n < x then nI n else x) := by
  rcases hx with rfl | ⟨m, hm, rfl⟩
  · rw [if_pos (Or.inl rfl), mxv_n (by omega)]
    unfold mxv
    rw [if_pos rfl, if_pos (show nI n < (1000000 : Int32) from nI_lt (b := 1000000) hn (by omega))]
  · rw [mxv_n (by omega)]
    by_cases q : nI n < nI m
    · rw [if_pos q, if_pos (Or.inr q), mxv_n (by omega)]
    · rw [if_neg q, if_neg (by rintro (r | r); exact nm1 (by omega) r; exact q r), mxv_n (by omega)]
/-- what join leaves of the reference -/
def jnM (t t1 : xT) (pl nh : Nat) (mt : Nat → Nat) (w k : Nat) : Prop :=
  t1 76 20 = 1 ∧ t1 76 21 = nI k ∧ t1 76 27 = nI pl ∧ (∀ j, j < k → lfN t t1 pl j (lvN t pl mt w j)) ∧ (∀ i, i < k → t1 93 i = oi (fun v => (lvN t pl mt w v.toNatClampNeg).2.2.1) k (fun _ => 0) i) ∧ (∀ y, y < 128 → t1 90 y = t 82 y) ∧ (∀ h, h < 8 → t1 92 h = bi (h < nh)) ∧ ∀ x y, ¬ (x = 76 ∧ (y = 0 ∨ (13 ≤ y ∧ y ≤ 16) ∨ y = 20 ∨ y = 21 ∨ y = 27)) → ¬ (83 ≤ x ∧ x ≤ 93) → t1 x y = t x y
theorem jn_of {t t1 t2 : xT} {pl nh : Nat} {mt : Nat → Nat} {w k : Nat} (h : ∀ x y, ¬ (x = 76 ∧ (y = 0 ∨ (13 ≤ y ∧ y ≤ 16))) → x ≠ 83 → x ≠ 84 → t1 x y = t x y) (e : lvE t1 t2 pl nh mt w k) : jnM t t2 pl nh mt w k := by
  obtain ⟨p1, p2, p3, p4, p5, p6, p7, p8⟩ := e
  have hv : ∀ j, lvN t1 pl mt w j = lvN t pl mt w j := fun j => bsN_cong (fun x y hx => h x y (by omega) (by omega) (by omega)) pl _ _
  have hF : fM t1 = fM t := fM_cong (fun y => h 82 y (by omega) (by omega) (by omega)) (fun y => h 78 y (by omega) (by omega) (by omega))
  refine ⟨p1, p2, p3, fun j hj => ?_, fun i hi => ?_, fun y hy => ?_, p7, fun x y q1 q2 => ?_⟩
  · have a := p4 j hj
    rw [hv] at a
    unfold lfN at a ⊢
    rw [hF] at a
    refine ⟨a.1, a.2.1, a.2.2.1, a.2.2.2.1, a.2.2.2.2.1, fun i hi s hs => ?_, fun i hi s hs => ?_⟩
    · rw [a.2.2.2.2.2.1 i hi s hs]; exact h 78 _ (by omega) (by omega) (by omega)
    · rw [a.2.2.2.2.2.2 i hi s hs]; exact h 78 _ (by omega) (by omega) (by omega)
  · rw [p5 i hi]
    exact oi_cong (fun j hj => by show (lvN t1 pl mt w _).2.2.1 = (lvN t pl mt w _).2.2.1; rw [hv]) i hi
  · rw [p6 y hy]; exact h 82 y (by omega) (by omega) (by omega)
  · rw [p8 x y (by omega) (by omega)]; exact h x y (by omega) (by omega) (by omega)
set_option maxRecDepth 100000 in
set_option maxHeartbeats 4000000 in
theorem m_join (l : Launch) (G : xg_G) (O : Heap) (t : xT) (nl nh pr : Nat) (hnl : nl ≤ 160) (h4 : t 76 4 = nI nl) (hnh : nh ≤ 8) (h7 : t 76 7 = nI nh) (hpr : pr ≤ 99) (h17 : t 76 17 = nI pr) (hpt : ∀ a, a < nh → t 79 a = 0 ∨ t 79 a = 1 ∨ t 79 a = 2) : xm l yX9_join cX9_join 4 (some .int) rmX9_join G O t [.ref (O.size + 76)] (xi (fun v t' => (¬ (nh ≠ 0 ∧ 32 ≤ nl) → v = -1 ∧ t' = xt t 76 0 0) ∧ (nh ≠ 0 → 32 ≤ nl → v = dp (CN t (nl - 31) pr) nh (2 ^ nh - 1) ∧ ∃ k, k ≤ 8 ∧ lfs (mtf (CN t (nl - 31) pr) nh) (2 ^ nh - 1) k = 0 ∧ (∀ j, j < k → lfs (mtf (CN t (nl - 31) pr) nh) (2 ^ nh - 1) j ≠ 0) ∧ jnM t t' (nl - 31) nh (mtf (CN t (nl - 31) pr) nh) (2 ^ nh - 1) k))) := by
  refine xm_enter (by decide) 3 rfl rfl ?_
  intro p e s m args below meth c X hr hk
  refine g_eq (L2 := [some (.ref (O.size + 76)), none, none, none]) rfl rfl rfl ?_
  refine g_aload_n (pc := 0) X dX9_join_0 rfl rfl ?_
  refine g_iconst (pc := 1) (v := 0) X dX9_join_1 (by decide) ?_
  refine gm_putI (pc := 2) (j := 0) X 9 tyX9 dX9_join_2 rfl (by decide) rfl xu_9 tyX9_ok nmX9 (by decide) rfl xw_591 rfl rfl (Or.inl rfl) ?_
  generalize hTe : xt t 76 0 0 = T at *
  have eT : ∀ x y, x ≠ 76 ∨ y ≠ 0 → T x y = t x y := fun x y q => by rw [← hTe]; exact xt_ne _ _ q
  have e7 : T 76 7 = nI nh := by rw [eT 76 7 (by decide)]; exact h7
  have e4 : T 76 4 = nI nl := by rw [eT 76 4 (by decide)]; exact h4
  refine g_aload_n (pc := 5) X dX9_join_5 rfl rfl ?_
  refine gm_getI (pc := 6) (j := 7) X 9 dX9_join_6 rfl (by decide) rfl xu_9 (by decide) rfl xw_598 rfl ?_
  refine g_if_eq (pc := 9) (tgt := 20) X dX9_join_9 (by decide) (fun hc_9 => ?_) (fun hc_9 => ?_)
  · refine g_iconst (pc := 20) (v := (-1)) X dX9_join_20 (by decide) ?_
    exact gm_iret (pc := 21) X hr hk dX9_join_21 (⟨fun _ => ⟨rfl, rfl⟩, fun q => absurd (by rw [e7] at hc_9; rcases Nat.eq_zero_or_pos nh with z | z; exact z; exact absurd hc_9 (nI_ne0 z (by omega))) q⟩)
  · refine g_aload_n (pc := 12) X dX9_join_12 rfl rfl ?_
    refine gm_Vi (pc := 13) X 9 xc_X9_106 (m_places l G O _ nl e4) dX9_join_13 rfl (by decide) rfl rfl rfl rfl (Nat.le_of_ble_eq_true rfl) (fun v_13 t_13 hp => ?_)
    obtain ⟨rfl, hq9⟩ := hp
    have hq9 := hq9.symm
    subst hq9
    refine g_iconst (pc := 16) (v := 1) X dX9_join_16 (by decide) ?_
    refine g_icmp_ge (pc := 17) (tgt := 22) X dX9_join_17 (by decide) (fun hc_17 => ?_) (fun hc_17 => ?_)
    · have hn0 : nh ≠ 0 := fun q => hc_9 (by rw [e7, q, nI_0])
      have hl32 : 32 ≤ nl := by rw [i_le, i_1, plM_toInt hnl] at hc_17; omega
      have hpw := pow_le nh hnh
      obtain ⟨hC, hCq⟩ := CN_ok (t := t) (pl := nl - 31) (pr := pr) (n := nh) hpr (by omega) hpt
      have hall := dp_all hnh hC
      have fin : ∀ (t1 : xT) (x1 : Int32), (∀ x y, ¬ (x = 76 ∧ (y = 0 ∨ (13 ≤ y ∧ y ≤ 16))) → x ≠ 83 → x ≠ 84 → t1 x y = t x y) → (∀ a b, a ≤ b → b < nh → t1 84 (8 * a + b) = (CN t (nl - 31) pr) a b) → (∀ x, x < 2 ^ nh → t1 83 x = dp (CN t (nl - 31) pr) nh x) → gm p l e rmX9_join s m args below meth c 4 G O (xmQ below G O (xi (fun v t' => (¬ (nh ≠ 0 ∧ 32 ≤ nl) → v = -1 ∧ t' = T) ∧ (nh ≠ 0 → 32 ≤ nl → v = dp (CN t (nl - 31) pr) nh (2 ^ nh - 1) ∧ ∃ k, k ≤ 8 ∧ lfs (mtf (CN t (nl - 31) pr) nh) (2 ^ nh - 1) k = 0 ∧ (∀ j, j < k → lfs (mtf (CN t (nl - 31) pr) nh) (2 ^ nh - 1) j ≠ 0) ∧ jnM t t' (nl - 31) nh (mtf (CN t (nl - 31) pr) nh) (2 ^ nh - 1) k))) args s) (t1) [some (.ref (O.size + 76)), some (.int (x1)), none, none] 210 [] := by
        intro t1 x1 hoff hc hD
        have g7 : t1 76 7 = nI nh := by rw [hoff 76 7 (by omega) (by omega) (by omega)]; exact h7
        have g4 : t1 76 4 = nI nl := by rw [hoff 76 4 (by omega) (by omega) (by omega)]; exact h4
        have g17 : t1 76 17 = nI pr := by rw [hoff 76 17 (by omega) (by omega) (by omega)]; exact h17
        refine g_aload_n (pc := 210) X dX9_join_210 rfl rfl ?_
        refine gm_Vv (pc := 211) X 9 xc_X9_153 (m_leaves l G O _ nl nh (CN t (nl - 31) pr) hnl g4 hnh g7 hl32 hC (fun a b _ _ q => by rw [bsN_cong (t := t) (fun x y hx => hoff x y (by omega) (by omega) (by omega))]; exact hCq a b q) hc hD) dX9_join_211 rfl (by decide) rfl rfl rfl rfl (Nat.le_of_ble_eq_true rfl) (fun t_211 hp => ?_)
        obtain ⟨k, hk8, hz, h0, hE⟩ := hp
        have hJ := jn_of hoff hE
        refine g_aload_n (pc := 214) X dX9_join_214 rfl rfl ?_
        refine gm_getR (k' := 83) (pc := 215) (j := 18) X 9 dX9_join_215 rfl (by decide) rfl xu_9 (by decide) rfl xw_609 rfl rfl ?_
        refine g_iconst (pc := 218) (v := 1) X dX9_join_218 (by decide) ?_
        refine g_aload_n (pc := 219) X dX9_join_219 rfl rfl ?_
        refine gm_getI (pc := 220) (j := 7) X 9 dX9_join_220 rfl (by decide) rfl xu_9 (by decide) rfl xw_598 rfl ?_
        rw [hE.2.2.2.2.2.2.2 76 7 (by omega) (by omega), g7]
        refine g_ishl (pc := 223) X dX9_join_223 ?_
        refine g_iconst (pc := 224) (v := 1) X dX9_join_224 (by decide) ?_
        refine g_isub (pc := 225) X dX9_join_225 ?_
        rw [whole_eq nh hnh]
        refine gm_iald (pc := 226) X (2 ^ nh - 1) dX9_join_226 rfl rfl (show 2 ^ nh - 1 < 256 from by omega) (by decide) ?_
        exact gm_iret (pc := 227) X hr hk dX9_join_227 (⟨fun q => absurd ⟨hn0, hl32⟩ q, fun _ _ => ⟨by rw [hE.2.2.2.2.2.2.2 83 _ (by omega) (by omega)]; exact hD _ (by omega), k, hk8, hz, h0, hJ⟩⟩)
      have loop3 : ∀ (z9 : Nat) (s0 : Nat) (xs0 : Int32) (t1 : xT), 256 - s0 < z9 → xs0 = nI s0 → (∀ x y, ¬ (x = 76 ∧ (y = 0 ∨ (13 ≤ y ∧ y ≤ 16))) → x ≠ 83 → x ≠ 84 → t1 x y = t x y) → (∀ a b, a ≤ b → b < nh → t1 84 (8 * a + b) = (CN t (nl - 31) pr) a b) → (∀ x, x < s0 → t1 83 x = dp (CN t (nl - 31) pr) nh x) → 0 < s0 → s0 ≤ 2 ^ nh → gm p l e rmX9_join s m args below meth c 4 G O (xmQ below G O (xi (fun v t' => (¬ (nh ≠ 0 ∧ 32 ≤ nl) → v = -1 ∧ t' = T) ∧ (nh ≠ 0 → 32 ≤ nl → v = dp (CN t (nl - 31) pr) nh (2 ^ nh - 1) ∧ ∃ k, k ≤ 8 ∧ lfs (mtf (CN t (nl - 31) pr) nh) (2 ^ nh - 1) k = 0 ∧ (∀ j, j < k → lfs (mtf (CN t (nl - 31) pr) nh) (2 ^ nh - 1) j ≠ 0) ∧ jnM t t' (nl - 31) nh (mtf (CN t (nl - 31) pr) nh) (2 ^ nh - 1) k))) args s) (t1) [some (.ref (O.size + 76)), some (.int (xs0)), none, none] 96 [] := by
        intro z9
        induction z9 with
        | zero => intro s0 xs0 t1 h9; exact absurd h9 (Nat.not_lt_zero _)
        | succ z9 ih =>
          intro s0 xs0 t1 h9 hxs0 hoff hc hD hs1 hs2
          subst hxs0
          have g7 : t1 76 7 = nI nh := by rw [hoff 76 7 (by omega) (by omega) (by omega)]; exact h7
          have g4 : t1 76 4 = nI nl := by rw [hoff 76 4 (by omega) (by omega) (by omega)]; exact h4
          have g17 : t1 76 17 = nI pr := by rw [hoff 76 17 (by omega) (by omega) (by omega)]; exact h17
          refine g_iload_n (pc := 96) X dX9_join_96 rfl rfl ?_
          refine g_iconst (pc := 97) (v := 1) X dX9_join_97 (by decide) ?_
          refine g_aload_n (pc := 98) X dX9_join_98 rfl rfl ?_
          refine gm_getI (pc := 99) (j := 7) X 9 dX9_join_99 rfl (by decide) rfl xu_9 (by decide) rfl xw_598 rfl ?_
          rw [g7]
          refine g_ishl (pc := 102) X dX9_join_102 ?_
          rw [pow_eq nh hnh]
          refine g_icmp_ge (pc := 103) (tgt := 210) X dX9_join_103 (by decide) (fun hc_103 => ?_) (fun hc_103 => ?_)
          · exact fin t1 _ hoff hc (fun x hx => hD x (by have := n_ge hc_103; omega))
          · have hsl : s0 < 2 ^ nh := n_gt hc_103
            have hs256 : s0 < 256 := by omega
            have hf := fsb_ok s0 hs256 (by omega)
            have hfn := fsb_lt hnh (show s0 ≠ 0 by omega) hsl
            generalize hfe : fsb s0 = f at *
            have sstv : ∀ b, b ≤ nh → (sst ((CN t (nl - 31) pr) f) (dp (CN t (nl - 31) pr) nh) s0 f b (-1, -1)).1 = -1 ∨ ∃ m, m < 1000000 ∧ (sst ((CN t (nl - 31) pr) f) (dp (CN t (nl - 31) pr) nh) s0 f b (-1, -1)).1 = nI m := fun b hb => by
              have hv : ∀ j, f ≤ j → j < nh → s0.testBit j = true → ¬ (CN t (nl - 31) pr) f j = -1 → ∃ m, m < 1000000 ∧ (CN t (nl - 31) pr) f j + dp (CN t (nl - 31) pr) nh (wo s0 f j) = nI m := fun j q1 q2 q3 q4 => by
                have hwo := wo_lt (s := s0) (b := j) hf.1 (by omega) hf.2.1
                obtain ⟨⟨d1, hd1, ed⟩, -⟩ := hall (wo s0 f j) (by omega)
                rcases hC.1 f j q1 q2 with z | ⟨c1, hc1, ec⟩
                · exact absurd z q4
                · exact ⟨c1 + d1, by omega, by rw [ec, ed, nI_add]⟩
              rcases sst_inv (C := (CN t (nl - 31) pr) f) (T := dp (CN t (nl - 31) pr) nh) (s := s0) (f := f) (m := b) (fun j q1 q2 q3 q4 => by obtain ⟨m1, hm1, e1⟩ := hv j q1 (by omega) q3 q4; rw [e1]; exact nm1 (by omega)) with ⟨e1, -⟩ | ⟨b1, q1, q2, q3, q4, e1, -, -⟩
              · rw [e1]; exact Or.inl rfl
              · rw [e1]; exact Or.inr (hv b1 q1 (by omega) q3 q4)
            have nxt : ∀ (t2 : xT) (xb : Int32), (∀ x y, ¬ (x = 76 ∧ (y = 0 ∨ (13 ≤ y ∧ y ≤ 16))) → x ≠ 83 → x ≠ 84 → t2 x y = t x y) → (∀ a b, a ≤ b → b < nh → t2 84 (8 * a + b) = (CN t (nl - 31) pr) a b) → (∀ x, x < s0 → t2 83 x = dp (CN t (nl - 31) pr) nh x) → t2 83 s0 = mxv (sst ((CN t (nl - 31) pr) f) (dp (CN t (nl - 31) pr) nh) s0 f nh (-1, -1)).1 → gm p l e rmX9_join s m args below meth c 4 G O (xmQ below G O (xi (fun v t' => (¬ (nh ≠ 0 ∧ 32 ≤ nl) → v = -1 ∧ t' = T) ∧ (nh ≠ 0 → 32 ≤ nl → v = dp (CN t (nl - 31) pr) nh (2 ^ nh - 1) ∧ ∃ k, k ≤ 8 ∧ lfs (mtf (CN t (nl - 31) pr) nh) (2 ^ nh - 1) k = 0 ∧ (∀ j, j < k → lfs (mtf (CN t (nl - 31) pr) nh) (2 ^ nh - 1) j ≠ 0) ∧ jnM t t' (nl - 31) nh (mtf (CN t (nl - 31) pr) nh) (2 ^ nh - 1) k))) args s) (t2) [some (.ref (O.size + 76)), some (.int (nI s0)), some (.int (nI f)), some (.int (xb))] 204 [] := by
              intro t2 xb k1 k2 k3 k4
              refine g_inc (pc := 204) (kv := 1) X dX9_join_204 (by decide) rfl (by decide) ?_
              refine g_goto (pc := 207) (tgt := 96) X dX9_join_207 (by decide) ?_
              refine g_wk 3 ?_
              refine g_wk 2 ?_
              exact ih (s0 + 1) _ _ (by omega) (nI_1 s0) k1 k2 (fun x hx => by
                by_cases e9 : x = s0
                · subst e9
                  obtain ⟨⟨d, hd, ed⟩, -⟩ := hall x (by omega)
                  have e8 : (sst ((CN t (nl - 31) pr) f) (dp (CN t (nl - 31) pr) nh) x f nh (-1, -1)).1 = dp (CN t (nl - 31) pr) nh x := by rw [dp_dm _ hs256 (by omega) hnh]; unfold dm; rw [hfe]
                  rw [k4, e8, ed, mxv_n (by omega)]
                · exact k3 x (by omega)) (by omega) (by omega)
            have loopI : ∀ (z9 : Nat) (b : Nat) (xb : Int32) (t2 : xT), 8 - b < z9 → xb = nI b → (∀ x y, ¬ (x = 76 ∧ (y = 0 ∨ (13 ≤ y ∧ y ≤ 16))) → x ≠ 83 → x ≠ 84 → t2 x y = t x y) → (∀ a b, a ≤ b → b < nh → t2 84 (8 * a + b) = (CN t (nl - 31) pr) a b) → (∀ x, x < s0 → t2 83 x = dp (CN t (nl - 31) pr) nh x) → t2 83 s0 = mxv (sst ((CN t (nl - 31) pr) f) (dp (CN t (nl - 31) pr) nh) s0 f b (-1, -1)).1 → f ≤ b → b ≤ nh → gm p l e rmX9_join s m args below meth c 4 G O (xmQ below G O (xi (fun v t' => (¬ (nh ≠ 0 ∧ 32 ≤ nl) → v = -1 ∧ t' = T) ∧ (nh ≠ 0 → 32 ≤ nl → v = dp (CN t (nl - 31) pr) nh (2 ^ nh - 1) ∧ ∃ k, k ≤ 8 ∧ lfs (mtf (CN t (nl - 31) pr) nh) (2 ^ nh - 1) k = 0 ∧ (∀ j, j < k → lfs (mtf (CN t (nl - 31) pr) nh) (2 ^ nh - 1) j ≠ 0) ∧ jnM t t' (nl - 31) nh (mtf (CN t (nl - 31) pr) nh) (2 ^ nh - 1) k))) args s) (t2) [some (.ref (O.size + 76)), some (.int (nI s0)), some (.int (nI f)), some (.int (xb))] 121 [] := by
              intro z9
              induction z9 with
              | zero => intro b xb t2 h9; exact absurd h9 (Nat.not_lt_zero _)
              | succ z9 ih =>
                intro b xb t2 h9 hxb hoff2 hc2 hD2 hv2 hfb hbn
                subst hxb
                have stp : b < nh → ∀ t3 : xT, (∀ x y, ¬ (x = 76 ∧ (y = 0 ∨ (13 ≤ y ∧ y ≤ 16))) → x ≠ 83 → x ≠ 84 → t3 x y = t x y) → (∀ a b, a ≤ b → b < nh → t3 84 (8 * a + b) = (CN t (nl - 31) pr) a b) → (∀ x, x < s0 → t3 83 x = dp (CN t (nl - 31) pr) nh x) → t3 83 s0 = mxv (sst ((CN t (nl - 31) pr) f) (dp (CN t (nl - 31) pr) nh) s0 f (b + 1) (-1, -1)).1 → gm p l e rmX9_join s m args below meth c 4 G O (xmQ below G O (xi (fun v t' => (¬ (nh ≠ 0 ∧ 32 ≤ nl) → v = -1 ∧ t' = T) ∧ (nh ≠ 0 → 32 ≤ nl → v = dp (CN t (nl - 31) pr) nh (2 ^ nh - 1) ∧ ∃ k, k ≤ 8 ∧ lfs (mtf (CN t (nl - 31) pr) nh) (2 ^ nh - 1) k = 0 ∧ (∀ j, j < k → lfs (mtf (CN t (nl - 31) pr) nh) (2 ^ nh - 1) j ≠ 0) ∧ jnM t t' (nl - 31) nh (mtf (CN t (nl - 31) pr) nh) (2 ^ nh - 1) k))) args s) (t3) [some (.ref (O.size + 76)), some (.int (nI s0)), some (.int (nI f)), some (.int (nI b))] 198 [] := by
                  intro hbl t3 k1 k2 k3 k4
                  refine g_inc (pc := 198) (kv := 1) X dX9_join_198 (by decide) rfl (by decide) ?_
                  refine g_goto (pc := 201) (tgt := 121) X dX9_join_201 (by decide) ?_
                  exact ih (b + 1) _ _ (by omega) (nI_1 b) k1 k2 k3 k4 (by omega) (by omega)
                have g7 : t2 76 7 = nI nh := by rw [hoff2 76 7 (by omega) (by omega) (by omega)]; exact h7
                refine g_iload_n (pc := 121) X dX9_join_121 rfl rfl ?_
                refine g_aload_n (pc := 122) X dX9_join_122 rfl rfl ?_
                refine gm_getI (pc := 123) (j := 7) X 9 dX9_join_123 rfl (by decide) rfl xu_9 (by decide) rfl xw_598 rfl ?_
                refine g_icmp_ge (pc := 126) (tgt := 204) X dX9_join_126 (by decide) (fun hc_126 => ?_) (fun hc_126 => ?_)
                · exact nxt t2 _ hoff2 hc2 hD2 (by rw [hv2, show b = nh by rw [g7] at hc_126; have := n_ge hc_126; omega])
                · have hbl : b < nh := by rw [g7] at hc_126; exact n_gt hc_126
                  refine g_iload_n (pc := 129) X dX9_join_129 rfl rfl ?_
                  refine g_iload_n (pc := 130) X dX9_join_130 rfl rfl ?_
                  refine g_ishr (pc := 131) X dX9_join_131 ?_
                  refine g_iconst (pc := 132) (v := 1) X dX9_join_132 (by decide) ?_
                  refine g_iand (pc := 133) X dX9_join_133 ?_
                  refine g_iconst (pc := 134) (v := 1) X dX9_join_134 (by decide) ?_
                  refine g_icmp_ne (pc := 135) (tgt := 198) X dX9_join_135 (by decide) (fun hc_135 => ?_) (fun hc_135 => ?_)
                  · exact stp hbl t2 hoff2 hc2 hD2 (by rw [hv2, sst_no (fun q => absurd ((bit_in s0 hs256 b (by omega)).mpr q.2.1) hc_135)])
                  · have hbit : s0.testBit b = true := (bit_in s0 hs256 b (by omega)).mp hc_135
                    refine g_aload_n (pc := 138) X dX9_join_138 rfl rfl ?_
                    refine gm_getR (k' := 84) (pc := 139) (j := 19) X 9 dX9_join_139 rfl (by decide) rfl xu_9 (by decide) rfl xw_610 rfl rfl ?_
                    refine g_bipush (pc := 142) (v := 8) X dX9_join_142 (by decide) ?_
                    refine g_iload_n (pc := 144) X dX9_join_144 rfl rfl ?_
                    refine g_imul (pc := 145) X dX9_join_145 ?_
                    refine g_iload_n (pc := 146) X dX9_join_146 rfl rfl ?_
                    refine g_iadd (pc := 147) X dX9_join_147 ?_
                    refine gm_iald (pc := 148) X (8 * f + b) dX9_join_148 rfl (idx8b f b) (show 8 * f + b < 64 from by omega) (by decide) ?_
                    rw [hc2 f b hfb hbl]
                    refine g_iconst (pc := 149) (v := (-1)) X dX9_join_149 (by decide) ?_
                    refine g_icmp_eq (pc := 150) (tgt := 198) X dX9_join_150 (by decide) (fun hc_150 => ?_) (fun hc_150 => ?_)
                    · exact stp hbl t2 hoff2 hc2 hD2 (by rw [hv2, sst_no (fun q => q.2.2 hc_150)])
                    · have hwo := wo_lt (s := s0) (b := b) hf.1 (by omega) hf.2.1
                      obtain ⟨c1, hc1, ec⟩ : ∃ c, c ≤ 131 ∧ (CN t (nl - 31) pr) f b = nI c := by
                        rcases hC.1 f b hfb hbl with z | z
                        · exact absurd z hc_150
                        · exact z
                      obtain ⟨⟨d1, hd1, ed⟩, -⟩ := hall (wo s0 f b) (by omega)
                      refine g_aload_n (pc := 153) X dX9_join_153 rfl rfl ?_
                      refine gm_getR (k' := 83) (pc := 154) (j := 18) X 9 dX9_join_154 rfl (by decide) rfl xu_9 (by decide) rfl xw_609 rfl rfl ?_
                      refine g_iload_n (pc := 157) X dX9_join_157 rfl rfl ?_
                      refine g_aload_n (pc := 158) X dX9_join_158 rfl rfl ?_
                      refine gm_getR (k' := 83) (pc := 159) (j := 18) X 9 dX9_join_159 rfl (by decide) rfl xu_9 (by decide) rfl xw_609 rfl rfl ?_
                      refine g_iload_n (pc := 162) X dX9_join_162 rfl rfl ?_
                      refine gm_iald (pc := 163) X (s0) dX9_join_163 rfl rfl (show s0 < 256 from by omega) (by decide) ?_
                      refine g_aload_n (pc := 164) X dX9_join_164 rfl rfl ?_
                      refine gm_getR (k' := 84) (pc := 165) (j := 19) X 9 dX9_join_165 rfl (by decide) rfl xu_9 (by decide) rfl xw_610 rfl rfl ?_
                      refine g_bipush (pc := 168) (v := 8) X dX9_join_168 (by decide) ?_
                      refine g_iload_n (pc := 170) X dX9_join_170 rfl rfl ?_
                      refine g_imul (pc := 171) X dX9_join_171 ?_
                      refine g_iload_n (pc := 172) X dX9_join_172 rfl rfl ?_
                      refine g_iadd (pc := 173) X dX9_join_173 ?_
                      refine gm_iald (pc := 174) X (8 * f + b) dX9_join_174 rfl (idx8b f b) (show 8 * f + b < 64 from by omega) (by decide) ?_
                      refine g_aload_n (pc := 175) X dX9_join_175 rfl rfl ?_
                      refine gm_getR (k' := 83) (pc := 176) (j := 18) X 9 dX9_join_176 rfl (by decide) rfl xu_9 (by decide) rfl xw_609 rfl rfl ?_
                      refine g_iload_n (pc := 179) X dX9_join_179 rfl rfl ?_
                      refine g_iconst (pc := 180) (v := 1) X dX9_join_180 (by decide) ?_
                      refine g_iload_n (pc := 181) X dX9_join_181 rfl rfl ?_
                      refine g_ishl (pc := 182) X dX9_join_182 ?_
                      refine g_iconst (pc := 183) (v := (-1)) X dX9_join_183 (by decide) ?_
                      refine g_ixor (pc := 184) X dX9_join_184 ?_
                      refine g_iand (pc := 185) X dX9_join_185 ?_
                      refine g_iconst (pc := 186) (v := 1) X dX9_join_186 (by decide) ?_
                      refine g_iload_n (pc := 187) X dX9_join_187 rfl rfl ?_
                      refine g_ishl (pc := 188) X dX9_join_188 ?_
                      refine g_iconst (pc := 189) (v := (-1)) X dX9_join_189 (by decide) ?_
                      refine g_ixor (pc := 190) X dX9_join_190 ?_
                      refine g_iand (pc := 191) X dX9_join_191 ?_
                      refine gm_iald (pc := 192) X (wo s0 f b) dX9_join_192 rfl (wo_eq s0 hs256 f (by omega) b (by omega)) (show wo s0 f b < 256 from by omega) (by decide) ?_
                      refine g_iadd (pc := 193) X dX9_join_193 ?_
                      rw [hc2 f b hfb hbl, hD2 _ hwo, hv2, ec, ed, nI_add]
                      refine g_min (pc := 194) X dX9_join_194 xw_746 xw_424 xw_44 xw_425 (by decide) (Nat.le_of_ble_eq_true rfl) (Nat.zero_le _) (Nat.zero_le _) ?_
                      refine gm_iast (pc := 197) X (s0) dX9_join_197 rfl rfl (show s0 < 256 from by omega) (by decide) ?_
                      exact stp hbl _ (fun x y q1 q2 q3 => by rw [xt_nk _ _ _ _ q2]; exact hoff2 x y q1 q2 q3) (fun a b1 q1 q2 => by rw [xt_nk _ _ _ _ (by decide)]; exact hc2 a b1 q1 q2) (fun x hx => by rw [xt_ne _ _ (Or.inr (by omega))]; exact hD2 x hx) (by
                        rw [xt_same, mxv_step (by omega) (sstv b (by omega)), sst.eq_2, if_pos (show f ≤ b ∧ s0.testBit b = true ∧ ¬ (CN t (nl - 31) pr) f b = -1 from ⟨hfb, hbit, hc_150⟩), ec, ed, nI_add]
                        split <;> rfl)
            refine g_iload_n (pc := 106) X dX9_join_106 rfl rfl ?_
            refine gm_Si (pc := 107) X xc_X9_148 (m_first l G O _ s0 hs256 (by omega)) dX9_join_107 rfl rfl rfl (Nat.le_of_ble_eq_true rfl) (fun v_107 t_107 hp => ?_)
            obtain ⟨rfl, hq9⟩ := hp
            have hq9 := hq9.symm
            subst hq9
            rw [hfe]
            refine g_istore_n (pc := 110) X dX9_join_110 rfl (by decide) ?_
            refine g_aload_n (pc := 111) X dX9_join_111 rfl rfl ?_
            refine gm_getR (k' := 83) (pc := 112) (j := 18) X 9 dX9_join_112 rfl (by decide) rfl xu_9 (by decide) rfl xw_609 rfl rfl ?_
            refine g_iload_n (pc := 115) X dX9_join_115 rfl rfl ?_
            refine g_ldc (pc := 116) X dX9_join_116 xw_771 ?_
            refine gm_iast (pc := 118) X (s0) dX9_join_118 rfl rfl (show s0 < 256 from by omega) (by decide) ?_
            refine g_iload_n (pc := 119) X dX9_join_119 rfl rfl ?_
            refine g_istore_n (pc := 120) X dX9_join_120 rfl (by decide) ?_
            exact loopI 9 f _ _ (by omega) rfl (fun x y q1 q2 q3 => by rw [xt_nk _ _ _ _ q2]; exact hoff x y q1 q2 q3) (fun a b q1 q2 => by rw [xt_nk _ _ _ _ (by decide)]; exact hc a b q1 q2) (fun x hx => by rw [xt_ne _ _ (Or.inr (by omega))]; exact hD x hx) (by rw [xt_same, sst_low (Nat.le_refl f)]; rfl) (Nat.le_refl f) (by omega)
      have loopA : ∀ (z9 : Nat) (a : Nat) (xa : Int32) (t1 : xT), 8 - a < z9 → xa = nI a → (∀ x y, ¬ (x = 76 ∧ (y = 0 ∨ (13 ≤ y ∧ y ≤ 16))) → x ≠ 83 → x ≠ 84 → t1 x y = t x y) → (∀ a' b', a' < a → a' ≤ b' → b' < nh → t1 84 (8 * a' + b') = (CN t (nl - 31) pr) a' b') → a ≤ nh → gm p l e rmX9_join s m args below meth c 4 G O (xmQ below G O (xi (fun v t' => (¬ (nh ≠ 0 ∧ 32 ≤ nl) → v = -1 ∧ t' = T) ∧ (nh ≠ 0 → 32 ≤ nl → v = dp (CN t (nl - 31) pr) nh (2 ^ nh - 1) ∧ ∃ k, k ≤ 8 ∧ lfs (mtf (CN t (nl - 31) pr) nh) (2 ^ nh - 1) k = 0 ∧ (∀ j, j < k → lfs (mtf (CN t (nl - 31) pr) nh) (2 ^ nh - 1) j ≠ 0) ∧ jnM t t' (nl - 31) nh (mtf (CN t (nl - 31) pr) nh) (2 ^ nh - 1) k))) args s) (t1) [some (.ref (O.size + 76)), some (.int (xa)), none, none] 24 [] := by
        intro z9
        induction z9 with
        | zero => intro a xa t1 h9; exact absurd h9 (Nat.not_lt_zero _)
        | succ z9 ihA =>
          intro a xa t1 h9 hxa hoff hc han
          subst hxa
          have g7 : t1 76 7 = nI nh := by rw [hoff 76 7 (by omega) (by omega) (by omega)]; exact h7
          have g4 : t1 76 4 = nI nl := by rw [hoff 76 4 (by omega) (by omega) (by omega)]; exact h4
          have g17 : t1 76 17 = nI pr := by rw [hoff 76 17 (by omega) (by omega) (by omega)]; exact h17
          refine g_iload_n (pc := 24) X dX9_join_24 rfl rfl ?_
          refine g_aload_n (pc := 25) X dX9_join_25 rfl rfl ?_
          refine gm_getI (pc := 26) (j := 7) X 9 dX9_join_26 rfl (by decide) rfl xu_9 (by decide) rfl xw_598 rfl ?_
          refine g_icmp_ge (pc := 29) (tgt := 87) X dX9_join_29 (by decide) (fun hc_29 => ?_) (fun hc_29 => ?_)
          · refine g_aload_n (pc := 87) X dX9_join_87 rfl rfl ?_
            refine gm_getR (k' := 83) (pc := 88) (j := 18) X 9 dX9_join_88 rfl (by decide) rfl xu_9 (by decide) rfl xw_609 rfl rfl ?_
            refine g_iconst (pc := 91) (v := 0) X dX9_join_91 (by decide) ?_
            refine g_iconst (pc := 92) (v := 0) X dX9_join_92 (by decide) ?_
            refine gm_iast (pc := 93) X (0) dX9_join_93 rfl nI_0.symm (show 0 < 256 from by decide) (by decide) ?_
            refine g_iconst (pc := 94) (v := 1) X dX9_join_94 (by decide) ?_
            refine g_istore_n (pc := 95) X dX9_join_95 rfl (by decide) ?_
            exact loop3 257 1 _ _ (by omega) rfl (fun x y q1 q2 q3 => by rw [xt_nk _ _ _ _ q2]; exact hoff x y q1 q2 q3) (fun a' b' q1 q2 => by rw [xt_nk _ _ _ _ (by decide)]; exact hc a' b' (by rw [g7] at hc_29; have := n_ge hc_29; omega) q1 q2) (fun x hx => by rw [show x = 0 by omega, xt_same, dp_0]) (by omega) hpw.2
          · have hal : a < nh := by rw [g7] at hc_29; exact n_gt hc_29
            refine g_iload_n (pc := 32) X dX9_join_32 rfl rfl ?_
            refine g_istore_n (pc := 33) X dX9_join_33 rfl (by decide) ?_
            have loopC : ∀ (z9 : Nat) (b : Nat) (xb : Int32) (t2 : xT), 8 - b < z9 → xb = nI b → (∀ x y, ¬ (x = 76 ∧ (y = 0 ∨ (13 ≤ y ∧ y ≤ 16))) → x ≠ 83 → x ≠ 84 → t2 x y = t x y) → (∀ a' b', (a' < a ∨ (a' = a ∧ b' < b)) → a' ≤ b' → b' < nh → t2 84 (8 * a' + b') = (CN t (nl - 31) pr) a' b') → a ≤ b → b ≤ nh → gm p l e rmX9_join s m args below meth c 4 G O (xmQ below G O (xi (fun v t' => (¬ (nh ≠ 0 ∧ 32 ≤ nl) → v = -1 ∧ t' = T) ∧ (nh ≠ 0 → 32 ≤ nl → v = dp (CN t (nl - 31) pr) nh (2 ^ nh - 1) ∧ ∃ k, k ≤ 8 ∧ lfs (mtf (CN t (nl - 31) pr) nh) (2 ^ nh - 1) k = 0 ∧ (∀ j, j < k → lfs (mtf (CN t (nl - 31) pr) nh) (2 ^ nh - 1) j ≠ 0) ∧ jnM t t' (nl - 31) nh (mtf (CN t (nl - 31) pr) nh) (2 ^ nh - 1) k))) args s) (t2) [some (.ref (O.size + 76)), some (.int (nI a)), some (.int (xb)), none] 34 [] := by
              intro z9
              induction z9 with
              | zero => intro b xb t2 h9; exact absurd h9 (Nat.not_lt_zero _)
              | succ z9 ih =>
                intro b xb t2 h9 hxb hoff2 hc2 hab hbn
                subst hxb
                have g7 : t2 76 7 = nI nh := by rw [hoff2 76 7 (by omega) (by omega) (by omega)]; exact h7
                have g4 : t2 76 4 = nI nl := by rw [hoff2 76 4 (by omega) (by omega) (by omega)]; exact h4
                have g17 : t2 76 17 = nI pr := by rw [hoff2 76 17 (by omega) (by omega) (by omega)]; exact h17
                refine g_iload_n (pc := 34) X dX9_join_34 rfl rfl ?_
                refine g_aload_n (pc := 35) X dX9_join_35 rfl rfl ?_
                refine gm_getI (pc := 36) (j := 7) X 9 dX9_join_36 rfl (by decide) rfl xu_9 (by decide) rfl xw_598 rfl ?_
                refine g_icmp_ge (pc := 39) (tgt := 81) X dX9_join_39 (by decide) (fun hc_39 => ?_) (fun hc_39 => ?_)
                · refine g_inc (pc := 81) (kv := 1) X dX9_join_81 (by decide) rfl (by decide) ?_
                  refine g_goto (pc := 84) (tgt := 24) X dX9_join_84 (by decide) ?_
                  refine g_wk 2 ?_
                  exact ihA (a + 1) _ _ (by omega) (nI_1 a) hoff2 (fun a' b' q1 q2 q3 => hc2 a' b' (by rw [g7] at hc_39; have := n_ge hc_39; omega) q2 q3) (by omega)
                · have hbl : b < nh := by rw [g7] at hc_39; exact n_gt hc_39
                  have eN : bsN t2 (nl - 31) a b = bsN t (nl - 31) a b := bsN_cong (fun x y hx => hoff2 x y (by omega) (by omega) (by omega)) _ _ _
                  obtain ⟨z1, -⟩ := bsM_N t2 (nl - 31) a b
                  rw [eN] at z1
                  have fin2 : ∀ v : Int32, v = (CN t (nl - 31) pr) a b → gm p l e rmX9_join s m args below meth c 4 G O (xmQ below G O (xi (fun v t' => (¬ (nh ≠ 0 ∧ 32 ≤ nl) → v = -1 ∧ t' = T) ∧ (nh ≠ 0 → 32 ≤ nl → v = dp (CN t (nl - 31) pr) nh (2 ^ nh - 1) ∧ ∃ k, k ≤ 8 ∧ lfs (mtf (CN t (nl - 31) pr) nh) (2 ^ nh - 1) k = 0 ∧ (∀ j, j < k → lfs (mtf (CN t (nl - 31) pr) nh) (2 ^ nh - 1) j ≠ 0) ∧ jnM t t' (nl - 31) nh (mtf (CN t (nl - 31) pr) nh) (2 ^ nh - 1) k))) args s) (xt (setM t2 (bsM t2 (nl - 31) a b)) 84 (8 * a + b) v) [some (.ref (O.size + 76)), some (.int (nI a)), some (.int (nI b + 1)), none] 34 [] := by
                    intro v hv
                    exact ih (b + 1) _ _ (by omega) (nI_1 b) (fun x y q1 q2 q3 => by
                        rw [xt_nk _ _ _ _ q3]
                        by_cases e9 : x = 76
                        · subst e9; rw [setM_nf _ _ (by omega)]; exact hoff2 76 y q1 q2 q3
                        · rw [setM_ne _ _ _ e9]; exact hoff2 x y q1 q2 q3)
                      (fun a' b' q1 q2 q3 => by
                        by_cases q : a' = a ∧ b' = b
                        · obtain ⟨rfl, rfl⟩ := q; rw [xt_same]; exact hv
                        · rw [xt_ne _ _ (Or.inr (by omega)), setM_ne _ _ _ (by decide)]; exact hc2 a' b' (by omega) q2 q3) (by omega) (by omega)
                  refine g_aload_n (pc := 42) X dX9_join_42 rfl rfl ?_
                  refine gm_getR (k' := 84) (pc := 43) (j := 19) X 9 dX9_join_43 rfl (by decide) rfl xu_9 (by decide) rfl xw_610 rfl rfl ?_
                  refine g_bipush (pc := 46) (v := 8) X dX9_join_46 (by decide) ?_
                  refine g_iload_n (pc := 48) X dX9_join_48 rfl rfl ?_
                  refine g_imul (pc := 49) X dX9_join_49 ?_
                  refine g_iload_n (pc := 50) X dX9_join_50 rfl rfl ?_
                  refine g_iadd (pc := 51) X dX9_join_51 ?_
                  refine g_aload_n (pc := 52) X dX9_join_52 rfl rfl ?_
                  refine g_iload_n (pc := 53) X dX9_join_53 rfl rfl ?_
                  refine g_iload_n (pc := 54) X dX9_join_54 rfl rfl ?_
                  refine gm_Vi (pc := 55) X 9 xc_X9_145 (m_bests l G O _ nl a b hnl g4 (by omega) (by omega)) dX9_join_55 rfl (by decide) rfl rfl rfl rfl (Nat.le_of_ble_eq_true rfl) (fun v_55 t_55 hp => ?_)
                  obtain ⟨hv55, ht55⟩ := hp
                  subst hv55
                  subst ht55
                  refine g_if_eq (pc := 58) (tgt := 73) X dX9_join_58 (by decide) (fun hc_58 => ?_) (fun hc_58 => ?_)
                  · refine g_iconst (pc := 73) (v := (-1)) X dX9_join_73 (by decide) ?_
                    refine gm_iast (pc := 74) X (8 * a + b) dX9_join_74 rfl (idx8b a b) (show 8 * a + b < 64 from by omega) (by decide) ?_
                    refine g_inc (pc := 75) (kv := 1) X dX9_join_75 (by decide) rfl (by decide) ?_
                    refine g_goto (pc := 78) (tgt := 34) X dX9_join_78 (by decide) ?_
                    exact fin2 _ (by show _ = cst _ _; unfold cst; rw [if_pos (by rw [← z1]; exact Decidable.not_not.mp (bi_0 hc_58))])
                  · refine g_aload_n (pc := 61) X dX9_join_61 rfl rfl ?_
                    refine gm_getI (pc := 62) (j := 13) X 9 dX9_join_62 rfl (by decide) rfl xu_9 (by decide) rfl xw_604 rfl ?_
                    refine g_aload_n (pc := 65) X dX9_join_65 rfl rfl ?_
                    refine gm_getI (pc := 66) (j := 17) X 9 dX9_join_66 rfl (by decide) rfl xu_9 (by decide) rfl xw_608 rfl ?_
                    rw [(setM_v _ _).1, setM_nf _ _ (by decide), g17]
                    refine g_iadd (pc := 69) X dX9_join_69 ?_
                    refine g_goto (pc := 70) (tgt := 74) X dX9_join_70 (by decide) ?_
                    refine gm_iast (pc := 74) X (8 * a + b) dX9_join_74 rfl (idx8b a b) (show 8 * a + b < 64 from by omega) (by decide) ?_
                    refine g_inc (pc := 75) (kv := 1) X dX9_join_75 (by decide) rfl (by decide) ?_
                    refine g_goto (pc := 78) (tgt := 34) X dX9_join_78 (by decide) ?_
                    exact fin2 _ (by show _ = cst _ _; unfold cst; rw [if_neg (by rw [← z1]; exact bi_1 hc_58), z1])
            exact loopC 9 a _ _ (by omega) rfl hoff (fun a' b' q1 q2 q3 => hc a' b' (by omega) q2 q3) (Nat.le_refl a) (by omega)
      refine g_iconst (pc := 22) (v := 0) X dX9_join_22 (by decide) ?_
      refine g_istore_n (pc := 23) X dX9_join_23 rfl (by decide) ?_
      exact loopA 9 0 _ _ (by omega) nI_0.symm (fun x y q1 q2 q3 => eT x y (by omega)) (fun a' b' q => absurd q (Nat.not_lt_zero _)) (Nat.zero_le _)
    · refine g_iconst (pc := 20) (v := (-1)) X dX9_join_20 (by decide) ?_
      exact gm_iret (pc := 21) X hr hk dX9_join_21 (⟨fun _ => ⟨rfl, rfl⟩, fun _ q => absurd (by rw [i_le, i_1, plM_toInt hnl]; omega) hc_17⟩)

