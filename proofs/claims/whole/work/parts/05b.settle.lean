/-! 05b: Pairing.settle -/
abbrev bsC (t : xT) (pl a b : Nat) : B4 := bsg (ptC t) (sdC t) (rlC t) (fC t) pl (min a b) (max a b) (-1, -1, -1, -1)
theorem mayb_cong {f g : Nat → Int32} {u : Option Nat} {q : Int32} (h : ∀ k, u = some k → f k = g k) : mayb f u q = mayb g u q := by
  cases u with
  | none => rfl
  | some k => show decide (f k = q ∨ f k = 2) = decide (g k = q ∨ g k = 2); rw [h k rfl]
theorem trg_cong {f g : Nat → Int32} {F F2 : Option Nat → Option Nat → Nat → Int32} {pl : Nat} {u v : Option Nat} {b : B4} (hu : ∀ k, u = some k → f k = g k) (hv : ∀ k, v = some k → f k = g k) (hF : ∀ p, p < pl → F u v p = F2 u v p) : trg f F pl u v b = trg g F2 pl u v b := by
  unfold trg
  rw [mayb_cong hu, mayb_cong hv, tw_cong hF]
theorem bsg_cong {p1 p2 s1 s2 r1 r2 : Nat → Int32} {F F2 : Option Nat → Option Nat → Nat → Int32} {pl x y : Nat} {b : B4} (hp : p1 x = p2 x ∧ p1 y = p2 y) (hs : s1 x = s2 x ∧ s1 y = s2 y) (hr : r1 x = r2 x ∧ r1 y = r2 y)
    (hF : ∀ u v : Option Nat, (∀ k, u = some k → k = x ∨ k = y) → (∀ k, v = some k → k = x ∨ k = y) → ∀ p, p < pl → F u v p = F2 u v p) : bsg p1 s1 r1 F pl x y b = bsg p2 s2 r2 F2 pl x y b := by
  have e : ∀ k, k = x ∨ k = y → p1 k = p2 k := fun k h => by rcases h with rfl | rfl; exact hp.1; exact hp.2
  have nn : ∀ k, (none : Option Nat) = some k → k = x ∨ k = y := fun k h => by cases h
  have nx : ∀ k, some x = some k → k = x ∨ k = y := fun k h => by cases h; exact Or.inl rfl
  have ny : ∀ k, some y = some k → k = x ∨ k = y := fun k h => by cases h; exact Or.inr rfl
  have tc : ∀ (u v : Option Nat) (b : B4), (∀ k, u = some k → k = x ∨ k = y) → (∀ k, v = some k → k = x ∨ k = y) → trg p1 F pl u v b = trg p2 F2 pl u v b := fun u v b hu hv => trg_cong (fun k h => e k (hu k h)) (fun k h => e k (hv k h)) (hF u v hu hv)
  unfold bsg
  rw [tc none (some x) _ nn nx, tc (some x) none _ nx nn, tc (some y) (some x) _ ny nx, tc (some x) (some y) _ nx ny, hs.1, hs.2, hr.1, hr.2]
theorem bsC_cong {t t1 : xT} (h : ∀ x y, (8 ≤ x ∧ x < 24) ∨ (26 ≤ x ∧ x < 43) → t1 x y = t x y) {pl a b : Nat} (ha : a < 8) (hb : b < 8) : bsC t1 pl a b = bsC t pl a b := by
  have hx : min a b < 8 := by omega
  have hy : max a b < 8 := by omega
  refine bsg_cong ⟨h _ _ (Or.inl ⟨by omega, by omega⟩), h _ _ (Or.inl ⟨by omega, by omega⟩)⟩ ⟨h _ _ (Or.inl ⟨by omega, by omega⟩), h _ _ (Or.inl ⟨by omega, by omega⟩)⟩ ⟨h _ _ (Or.inl ⟨by omega, by omega⟩), h _ _ (Or.inl ⟨by omega, by omega⟩)⟩ ?_
  intro u v hu hv p hp
  have r0 := rcell_ok (u := u) (q := 0) (fun k hk => by rcases hu k hk with rfl | rfl <;> assumption) (by decide)
  have r1 := rcell_ok (u := v) (q := 1) (fun k hk => by rcases hv k hk with rfl | rfl <;> assumption) (by decide)
  show t1 (rcell u 0) p + t1 (rcell v 1) p = t (rcell u 0) p + t (rcell v 1) p
  rw [h _ p (Or.inr r0.2.2), h _ p (Or.inr r1.2.2)]
/-- what two halves cost as a leaf -/
def cst (b : B4) (pv : Int32) : Int32 := if b.2.2.2 = -1 then -1 else b.2.2.2 + pv
def dp (C : Nat → Nat → Int32) (n : Nat) (s : Nat) : Int32 :=
  if s = 0 then 0 else (sst (C (fsb s)) (fun x => if h : x < s then dp C n x else 0) s (fsb s) n (-1, -1)).1
termination_by s
decreasing_by exact h
/-- the best sum of a set and its first half's mate -/
def dm (C : Nat → Nat → Int32) (n : Nat) (s : Nat) : Int32 × Int32 := sst (C (fsb s)) (dp C n) s (fsb s) n (-1, -1)
theorem sst_ini {C T : Nat → Int32} {s f : Nat} {a b : Int32} : ∀ {n : Nat}, (sst C T s f n (-1, a)).1 = (sst C T s f n (-1, b)).1 ∧ (¬ (sst C T s f n (-1, a)).1 = -1 → sst C T s f n (-1, a) = sst C T s f n (-1, b))
  | 0 => ⟨rfl, fun h => absurd rfl h⟩
  | n + 1 => by
    obtain ⟨h1, h2⟩ := sst_ini (C := C) (T := T) (s := s) (f := f) (a := a) (b := b) (n := n)
    rw [sst.eq_2, sst.eq_2]
    by_cases q : f ≤ n ∧ s.testBit n = true ∧ ¬ C n = -1
    · rw [if_pos q, if_pos q, ← h1]
      by_cases q2 : (sst C T s f n (-1, a)).1 = -1 ∨ C n + T (wo s f n) < (sst C T s f n (-1, a)).1
      · rw [if_pos q2, if_pos q2]; exact ⟨rfl, fun _ => rfl⟩
      · rw [if_neg q2, if_neg q2]; exact ⟨h1, h2⟩
    · rw [if_neg q, if_neg q]; exact ⟨h1, h2⟩
theorem dp_0 (C : Nat → Nat → Int32) (n : Nat) : dp C n 0 = 0 := by rw [dp, if_pos rfl]
theorem dp_dm (C : Nat → Nat → Int32) {n s : Nat} (hs : s < 256) (hs0 : s ≠ 0) (hn : n ≤ 8) : dp C n s = (dm C n s).1 := by
  have hf := fsb_ok s hs hs0
  rw [dp, if_neg hs0]
  unfold dm
  rw [sst_cong (C2 := C (fsb s)) (T2 := dp C n) (fun _ _ _ => rfl) (fun j _ hj _ => dif_pos (wo_lt hf.1 (by omega) hf.2.1))]
theorem dm_of {C : Nat → Nat → Int32} {n s : Nat} {c T : Nat → Int32} {a : Int32} (hs : s < 256) (hs0 : s ≠ 0) (hn : n ≤ 8) (hc : ∀ j, fsb s ≤ j → j < n → c j = C (fsb s) j) (hT : ∀ x, x < s → T x = dp C n x) : (sst c T s (fsb s) n (-1, a)).1 = dp C n s ∧ (¬ dp C n s = -1 → (sst c T s (fsb s) n (-1, a)).2 = (dm C n s).2) := by
  have hf := fsb_ok s hs hs0
  have e : sst c T s (fsb s) n (-1, a) = sst (C (fsb s)) (dp C n) s (fsb s) n (-1, a) := sst_cong hc (fun j _ hj _ => hT _ (wo_lt hf.1 (by omega) hf.2.1))
  obtain ⟨h1, h2⟩ := sst_ini (C := C (fsb s)) (T := dp C n) (s := s) (f := fsb s) (a := a) (b := -1) (n := n)
  rw [e, dp_dm C hs hs0 hn]
  refine ⟨h1, fun h => ?_⟩
  rw [h2 (by rw [h1]; exact h)]; rfl
theorem whole_eq : ∀ n, n ≤ 8 → ((1 : Int32) <<< (nI n &&& 31)) - 1 = nI (2 ^ n - 1) := by decide
theorem pow_le : ∀ n, n ≤ 8 → 2 ^ n ≤ 256 ∧ 0 < 2 ^ n := by decide
abbrev CC (t : xT) (pl : Nat) (pv : Int32) : Nat → Nat → Int32 := fun a b => cst (bsC t pl a b) pv
set_option maxRecDepth 100000 in
set_option maxHeartbeats 4000000 in
theorem c_settle (l : Launch) (G : xg_G) (O : Heap) (t : xT) (nl nh : Nat) (pv : Int32) (hnl : nl ≤ 160) (h4 : t 4 1 = nI nl) (hnh : nh ≤ 8) (h1 : t 6 1 = nI nh) : xm l yX4_settle cX4_settle 7 none rmX4_settle G O t [.ref (O.size + 43), .ref (O.size + 3), .int (nI nh), .int pv] (xv (fun t' => t' 43 3 = nI (2 ^ nh - 1) ∧ (∀ s, s < 2 ^ nh → t' 53 s = dp (CC t (nl - 31) pv) nh s) ∧ (∀ s, 0 < s → s < 2 ^ nh → ¬ dp (CC t (nl - 31) pv) nh s = -1 → t' 54 s = (dm (CC t (nl - 31) pv) nh s).2) ∧ ∀ x y, x ≠ 24 → x ≠ 43 → ¬ (45 ≤ x ∧ x ≤ 54) → t' x y = t x y)) := by
  refine xm_enter (by decide) 3 rfl rfl ?_
  intro p e s m args below meth c X hr hk
  refine g_eq (L2 := [some (.ref (O.size + 43)), some (.ref (O.size + 3)), some (.int (nI nh)), some (.int pv), none, none, none]) rfl rfl rfl ?_
  have hpw := pow_le nh hnh
  have loop3 : ∀ (z9 : Nat) (s0 : Nat) (xs0 : Int32) (t1 : xT), 256 - s0 < z9 → xs0 = nI s0 → (∀ x y, x ≠ 24 → x ≠ 43 → ¬ (45 ≤ x ∧ x ≤ 54) → t1 x y = t x y) → t1 43 3 = nI (2 ^ nh - 1) → (∀ a b, a ≤ b → b < nh → t1 (45 + a) b = CC t (nl - 31) pv a b) → (∀ x, x < s0 → t1 53 x = dp (CC t (nl - 31) pv) nh x) → (∀ x, 0 < x → x < s0 → ¬ dp (CC t (nl - 31) pv) nh x = -1 → t1 54 x = (dm (CC t (nl - 31) pv) nh x).2) → 0 < s0 → s0 ≤ 2 ^ nh → gm p l e rmX4_settle s m args below meth c 7 G O (xmQ below G O (xv (fun t' => t' 43 3 = nI (2 ^ nh - 1) ∧ (∀ s, s < 2 ^ nh → t' 53 s = dp (CC t (nl - 31) pv) nh s) ∧ (∀ s, 0 < s → s < 2 ^ nh → ¬ dp (CC t (nl - 31) pv) nh s = -1 → t' 54 s = (dm (CC t (nl - 31) pv) nh s).2) ∧ ∀ x y, x ≠ 24 → x ≠ 43 → ¬ (45 ≤ x ∧ x ≤ 54) → t' x y = t x y)) args s) (t1) [some (.ref (O.size + 43)), some (.ref (O.size + 3)), some (.int (nI nh)), some (.int (pv)), some (.int (nI nh)), some (.int (xs0)), none] 95 [] := by
    intro z9
    induction z9 with
    | zero => intro s0 xs0 t1 h9; exact absurd h9 (Nat.not_lt_zero _)
    | succ z9 ih =>
      intro s0 xs0 t1 h9 hxs0 hoff hw hc hD hM hs1 hs2
      subst hxs0
      refine g_iload (pc := 95) X dX4_settle_95 rfl ?_
      refine g_aload_n (pc := 97) X dX4_settle_97 rfl rfl ?_
      refine gm_getI (pc := 98) (j := 3) X 4 dX4_settle_98 rfl (by decide) rfl xu_4 (by decide) rfl xw_221 rfl ?_
      refine g_icmp_gt (pc := 101) (tgt := 118) X dX4_settle_101 (by decide) (fun hc_101 => ?_) (fun hc_101 => ?_)
      · exact gm_vret (pc := 118) X hr hk dX4_settle_118 (⟨hw, fun x hx => hD x (by rw [hw] at hc_101; have := n_l hc_101; omega), fun x h0 hx => hM x h0 (by rw [hw] at hc_101; have := n_l hc_101; omega), hoff⟩)
      · have hsl : s0 < 2 ^ nh := by rw [hw] at hc_101; have := n_nl hc_101; omega
        have hs256 : s0 < 256 := by omega
        obtain ⟨r1, r2⟩ := dm_of (C := CC t (nl - 31) pv) (n := nh) (s := s0) (c := t1 (45 + fsb s0)) (T := t1 53) (a := t1 54 s0) hs256 (by omega) hnh (fun j hj1 hj2 => hc _ j hj1 hj2) hD
        refine g_aload_n (pc := 104) X dX4_settle_104 rfl rfl ?_
        refine g_iload (pc := 105) X dX4_settle_105 rfl ?_
        refine g_iload (pc := 107) X dX4_settle_107 rfl ?_
        refine gm_Vv (pc := 109) X 4 xc_X4_48 (c_settleSet l G O _ s0 nh hs256 (by omega) hnh) dX4_settle_109 rfl (by decide) rfl rfl rfl rfl (Nat.le_of_ble_eq_true rfl) (fun t_109 hp => ?_)
        subst hp
        refine g_inc (pc := 112) (kv := 1) X dX4_settle_112 (by decide) rfl (by decide) ?_
        refine g_goto (pc := 115) (tgt := 95) X dX4_settle_115 (by decide) ?_
        exact ih (s0 + 1) _ _ (by omega) (nI_1 s0) (fun x y a b c => by rw [set2_ne _ _ _ _ (by omega) (by omega)]; exact hoff x y a b c) (by rw [set2_ne _ _ _ _ (by omega) (by omega)]; exact hw) (fun a b h1 h2 => by rw [set2_ne _ _ _ _ (by omega) (by omega)]; exact hc a b h1 h2)
          (fun x hx => by
            by_cases q : x = s0
            · subst q; rw [set2_1]; exact r1
            · rw [set2_53 _ _ _ q]; exact hD x (by omega))
          (fun x h0 hx hne => by
            by_cases q : x = s0
            · subst q; show set2 _ _ _ 54 _ = _; rw [show ∀ b, set2 t1 x b 54 x = b.2 from fun b => by simp [set2, xt]]; exact r2 hne
            · rw [show ∀ b, set2 t1 s0 b 54 x = t1 54 x from fun b => by simp [set2, xt, q]]; exact hM x h0 (by omega) hne)
          (by omega) (by omega)
  have loop1 : ∀ (z9 : Nat) (a : Nat) (xa : Int32) (t1 : xT), 8 - a < z9 → xa = nI a → (∀ x y, x ≠ 24 → x ≠ 43 → ¬ (45 ≤ x ∧ x ≤ 52) → t1 x y = t x y) → t1 43 3 = nI (2 ^ nh - 1) → (∀ a' b', a' < a → a' ≤ b' → b' < nh → t1 (45 + a') b' = CC t (nl - 31) pv a' b') → a ≤ nh → gm p l e rmX4_settle s m args below meth c 7 G O (xmQ below G O (xv (fun t' => t' 43 3 = nI (2 ^ nh - 1) ∧ (∀ s, s < 2 ^ nh → t' 53 s = dp (CC t (nl - 31) pv) nh s) ∧ (∀ s, 0 < s → s < 2 ^ nh → ¬ dp (CC t (nl - 31) pv) nh s = -1 → t' 54 s = (dm (CC t (nl - 31) pv) nh s).2) ∧ ∀ x y, x ≠ 24 → x ≠ 43 → ¬ (45 ≤ x ∧ x ≤ 54) → t' x y = t x y)) args s) (t1) [some (.ref (O.size + 43)), some (.ref (O.size + 3)), some (.int (nI nh)), some (.int (pv)), some (.int (nI nh)), some (.int (xa)), none] 21 [] := by
    intro z9
    induction z9 with
    | zero => intro a xa t1 h9; exact absurd h9 (Nat.not_lt_zero _)
    | succ z9 ih =>
      intro a xa t1 h9 hxa hoff hw hc han
      subst hxa
      refine g_iload (pc := 21) X dX4_settle_21 rfl ?_
      refine g_iload (pc := 23) X dX4_settle_23 rfl ?_
      refine g_icmp_ge (pc := 25) (tgt := 85) X dX4_settle_25 (by decide) (fun hc_25 => ?_) (fun hc_25 => ?_)
      · refine g_aload_n (pc := 85) X dX4_settle_85 rfl rfl ?_
        refine gm_getR (k' := 53) (pc := 86) (j := 1) X 4 dX4_settle_86 rfl (by decide) rfl xu_4 (by decide) rfl xw_219 rfl rfl ?_
        refine g_iconst (pc := 89) (v := 0) X dX4_settle_89 (by decide) ?_
        refine g_iconst (pc := 90) (v := 0) X dX4_settle_90 (by decide) ?_
        refine gm_iast (pc := 91) X (0) dX4_settle_91 rfl nI_0.symm (show 0 < 256 from by decide) (by decide) ?_
        refine g_iconst (pc := 92) (v := 1) X dX4_settle_92 (by decide) ?_
        refine g_istore (pc := 93) X dX4_settle_93 (by decide) ?_
        refine g_wk 6 ?_
        exact loop3 257 1 _ _ (by omega) rfl (fun x y a b c => by rw [xt_nk _ _ _ _ (by omega)]; exact hoff x y a b (by omega)) (by rw [xt_nk _ _ _ _ (by omega)]; exact hw) (fun a' b' h1 h2 => by rw [xt_nk _ _ _ _ (by omega)]; exact hc a' b' (by have := n_ge hc_25; omega) h1 h2) (fun x hx => by rw [show x = 0 by omega, xt_same, dp_0]) (fun x h0 hx => by omega) (by omega) hpw.2
      · have hal : a < nh := n_gt hc_25
        refine g_iload (pc := 28) X dX4_settle_28 rfl ?_
        refine g_istore (pc := 30) X dX4_settle_30 (by decide) ?_
        have loop2 : ∀ (z9 : Nat) (b : Nat) (xb : Int32) (t2 : xT), 8 - b < z9 → xb = nI b → (∀ x y, x ≠ 24 → x ≠ 43 → ¬ (45 ≤ x ∧ x ≤ 52) → t2 x y = t x y) → t2 43 3 = nI (2 ^ nh - 1) → (∀ a' b', (a' < a ∨ (a' = a ∧ b' < b)) → a' ≤ b' → b' < nh → t2 (45 + a') b' = CC t (nl - 31) pv a' b') → a ≤ b → b ≤ nh → gm p l e rmX4_settle s m args below meth c 7 G O (xmQ below G O (xv (fun t' => t' 43 3 = nI (2 ^ nh - 1) ∧ (∀ s, s < 2 ^ nh → t' 53 s = dp (CC t (nl - 31) pv) nh s) ∧ (∀ s, 0 < s → s < 2 ^ nh → ¬ dp (CC t (nl - 31) pv) nh s = -1 → t' 54 s = (dm (CC t (nl - 31) pv) nh s).2) ∧ ∀ x y, x ≠ 24 → x ≠ 43 → ¬ (45 ≤ x ∧ x ≤ 54) → t' x y = t x y)) args s) (t2) [some (.ref (O.size + 43)), some (.ref (O.size + 3)), some (.int (nI nh)), some (.int (pv)), some (.int (nI nh)), some (.int (nI a)), some (.int (xb))] 32 [] := by
          intro z9
          induction z9 with
          | zero => intro b xb t2 h9; exact absurd h9 (Nat.not_lt_zero _)
          | succ z9 ih2 =>
            intro b xb t2 h9 hxb hoff2 hw2 hc2 hab hbn
            subst hxb
            refine g_iload (pc := 32) X dX4_settle_32 rfl ?_
            refine g_iload (pc := 34) X dX4_settle_34 rfl ?_
            refine g_icmp_ge (pc := 36) (tgt := 79) X dX4_settle_36 (by decide) (fun hc_36 => ?_) (fun hc_36 => ?_)
            · refine g_inc (pc := 79) (kv := 1) X dX4_settle_79 (by decide) rfl (by decide) ?_
              refine g_goto (pc := 82) (tgt := 21) X dX4_settle_82 (by decide) ?_
              refine g_wk 6 ?_
              exact ih (a + 1) _ _ (by omega) (nI_1 a) hoff2 hw2 (fun a' b' q1 q2 q3 => hc2 a' b' (by have := n_ge hc_36; omega) q2 q3) (by omega)
            · have hbl : b < nh := n_gt hc_36
              have ebs : bsC t2 (nl - 31) a b = bsC t (nl - 31) a b := bsC_cong (fun x y hxy => hoff2 x y (by omega) (by omega) (by omega)) (by omega) (by omega)
              have fin2 : ∀ v : Int32, v = CC t (nl - 31) pv a b → gm p l e rmX4_settle s m args below meth c 7 G O (xmQ below G O (xv (fun t' => t' 43 3 = nI (2 ^ nh - 1) ∧ (∀ s, s < 2 ^ nh → t' 53 s = dp (CC t (nl - 31) pv) nh s) ∧ (∀ s, 0 < s → s < 2 ^ nh → ¬ dp (CC t (nl - 31) pv) nh s = -1 → t' 54 s = (dm (CC t (nl - 31) pv) nh s).2) ∧ ∀ x y, x ≠ 24 → x ≠ 43 → ¬ (45 ≤ x ∧ x ≤ 54) → t' x y = t x y)) args s) (xt (setB t2 (bsC t (nl - 31) a b)) (45 + a) b v) [some (.ref (O.size + 43)), some (.ref (O.size + 3)), some (.int (nI nh)), some (.int (pv)), some (.int (nI nh)), some (.int (nI a)), some (.int (nI b + 1))] 32 [] := by
                intro v hv
                have hb2 : b < nh := n_gt hc_36
                exact ih2 (b + 1) _ _ (by omega) (nI_1 b) (fun x y q1 q2 q3 => by rw [xt_nk _ _ _ _ (by omega), setB_ne _ _ _ q1]; exact hoff2 x y q1 q2 q3) (by rw [xt_nk _ _ _ _ (by omega), setB_ne _ _ _ (by omega)]; exact hw2)
                  (fun a' b' q1 q2 q3 => by
                    by_cases q : a' = a ∧ b' = b
                    · obtain ⟨rfl, rfl⟩ := q; rw [xt_same]; exact hv
                    · rw [xt_ne _ _ (by omega), setB_ne _ _ _ (by omega)]; exact hc2 a' b' (by omega) q2 q3) (by omega) (by omega)
              refine g_aload_n (pc := 39) X dX4_settle_39 rfl rfl ?_
              refine gm_getR (k' := 44) (pc := 40) (j := 0) X 4 dX4_settle_40 rfl (by decide) rfl xu_4 (by decide) rfl xw_218 rfl rfl ?_
              refine g_iload (pc := 43) X dX4_settle_43 rfl ?_
              refine gm_aald (pc := 45) (k' := (45 + a)) X 11 (a) (.array .int) dX4_settle_45 rfl (by decide) (by decide) rfl rfl rfl (show a < 8 from by omega) (by decide) (kd_cost a (by omega)).1 ?_
              refine g_iload (pc := 46) X dX4_settle_46 rfl ?_
              refine g_aload_n (pc := 48) X dX4_settle_48 rfl rfl ?_
              refine g_iload (pc := 49) X dX4_settle_49 rfl ?_
              refine g_iload (pc := 51) X dX4_settle_51 rfl ?_
              refine gm_Vi (pc := 53) X 5 xc_X4_33 (c_seekBest l G O _ nl nh a b hnl (by rw [hoff2 4 1 (by decide) (by decide) (by decide)]; exact h4) hnh (by rw [hoff2 6 1 (by decide) (by decide) (by decide)]; exact h1) hal hbl) dX4_settle_53 rfl (by decide) rfl rfl rfl rfl (Nat.le_of_ble_eq_true rfl) (fun v_53 t_53 hp => ?_)
              obtain ⟨hv53, ht53⟩ := hp
              have ev : v_53 = bi (¬ (bsC t2 (nl - 31) a b).2.2.2 = -1) := hv53
              have et : t_53 = setB t2 (bsC t2 (nl - 31) a b) := ht53
              rw [ebs] at ev et
              subst ev
              subst et
              clear hv53 ht53
              refine g_if_eq (pc := 56) (tgt := 71) X dX4_settle_56 (by decide) (fun hc_56 => ?_) (fun hc_56 => ?_)
              · refine g_iconst (pc := 71) (v := (-1)) X dX4_settle_71 (by decide) ?_
                refine gm_iast (pc := 72) X (b) dX4_settle_72 (kd_cost a (show a < 8 by omega)).2.1 rfl (by rw [(kd_cost a (show a < 8 by omega)).2.2]; omega) (by rw [(kd_cost a (show a < 8 by omega)).2.2]; decide) ?_
                refine g_inc (pc := 73) (kv := 1) X dX4_settle_73 (by decide) rfl (by decide) ?_
                refine g_goto (pc := 76) (tgt := 32) X dX4_settle_76 (by decide) ?_
                exact fin2 _ (by show _ = cst _ _; unfold cst; rw [if_pos (Decidable.not_not.mp (bi_0 hc_56))])
              · refine g_aload_n (pc := 59) X dX4_settle_59 rfl rfl ?_
                refine gm_getR (k' := 24) (pc := 60) (j := 2) X 5 dX4_settle_60 rfl (by decide) rfl xu_5 (by decide) rfl xw_196 rfl rfl ?_
                refine gm_getI (pc := 63) (j := 3) X 3 dX4_settle_63 rfl (by decide) rfl xu_3 (by decide) rfl xw_161 rfl ?_
                rw [setB_q]
                refine g_iload_n (pc := 66) X dX4_settle_66 rfl rfl ?_
                refine g_iadd (pc := 67) X dX4_settle_67 ?_
                refine g_goto (pc := 68) (tgt := 72) X dX4_settle_68 (by decide) ?_
                refine gm_iast (pc := 72) X (b) dX4_settle_72 (kd_cost a (show a < 8 by omega)).2.1 rfl (by rw [(kd_cost a (show a < 8 by omega)).2.2]; omega) (by rw [(kd_cost a (show a < 8 by omega)).2.2]; decide) ?_
                refine g_inc (pc := 73) (kv := 1) X dX4_settle_73 (by decide) rfl (by decide) ?_
                refine g_goto (pc := 76) (tgt := 32) X dX4_settle_76 (by decide) ?_
                exact fin2 _ (by show _ = cst _ _; unfold cst; rw [if_neg (bi_1 hc_56)])
        exact loop2 9 a _ _ (by omega) rfl hoff hw (fun a' b' q1 q2 q3 => hc a' b' (by omega) q2 q3) (Nat.le_refl a) (by omega)
  refine g_iload_n (pc := 0) X dX4_settle_0 rfl rfl ?_
  refine g_bipush (pc := 1) (v := 8) X dX4_settle_1 (by decide) ?_
  refine g_min (pc := 3) X dX4_settle_3 xw_460 xw_424 xw_44 xw_425 (by decide) (Nat.le_of_ble_eq_true rfl) (Nat.zero_le _) (Nat.zero_le _) ?_
  rw [show (8 : Int32) = nI 8 from rfl, min_nI (by omega) (by omega), Nat.min_eq_left hnh]
  refine g_istore (pc := 6) X dX4_settle_6 (by decide) ?_
  refine g_aload_n (pc := 8) X dX4_settle_8 rfl rfl ?_
  refine g_iconst (pc := 9) (v := 1) X dX4_settle_9 (by decide) ?_
  refine g_iload (pc := 10) X dX4_settle_10 rfl ?_
  refine g_ishl (pc := 12) X dX4_settle_12 ?_
  refine g_iconst (pc := 13) (v := 1) X dX4_settle_13 (by decide) ?_
  refine g_isub (pc := 14) X dX4_settle_14 ?_
  rw [whole_eq nh hnh]
  refine gm_putI (pc := 15) (j := 3) X 4 tyX4 dX4_settle_15 rfl (by decide) rfl xu_4 tyX4_ok nmX4 (by decide) rfl xw_221 rfl rfl (Or.inl rfl) ?_
  refine g_iconst (pc := 18) (v := 0) X dX4_settle_18 (by decide) ?_
  refine g_istore (pc := 19) X dX4_settle_19 (by decide) ?_
  exact loop1 9 0 _ _ (by omega) nI_0.symm (fun x y a b c => xt_nk _ _ _ _ b) (xt_same _ _ _ _) (fun a' b' q => absurd q (Nat.not_lt_zero _)) (Nat.zero_le _)

