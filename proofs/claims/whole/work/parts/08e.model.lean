/-! 08e: the reference: leaves -/
theorem wo_eq2 : ∀ s, s < 256 → ∀ a, a < 8 → ∀ b, b < 8 → nI s &&& ((((1 : Int32) <<< (nI a &&& 31)) ^^^ (-1)) &&& (((1 : Int32) <<< (nI b &&& 31)) ^^^ (-1))) = nI (wo s a b) := by decide +kernel
theorem idx8b (a b : Nat) : (8 : Int32) * nI a + nI b = nI (8 * a + b) := by
  rw [show (8 : Int32) = nI 8 from rfl, pk_mul, nI_add]
/-- the halves of a best: they are the two, each lies in it, apart, of like sides -/
theorem bs_uv2 {pt sd rl : Nat → Int32} {F : Option Nat → Option Nat → Nat → Int32} {pl a b : Nat} {c : B4} (hb : c.2.2.2 = -1) (h : ¬ (bsg pt sd rl F pl (min a b) (max a b) c).2.2.2 = -1) : ∃ u v p, p < pl ∧ bsg pt sd rl F pl (min a b) (max a b) c = (ov u, ov v, nI p, F u v p) ∧ (∀ k, u = some k → k = a ∨ k = b) ∧ (∀ k, v = some k → k = a ∨ k = b) ∧ (u ≠ none ∨ v ≠ none) ∧ (∀ x y, u = some x → v = some y → x ≠ y ∧ sd x = sd y) ∧ (u = some a ∨ v = some a) ∧ (u = some b ∨ v = some b) := by
  obtain ⟨u, v, p, hp, e, w⟩ := bsg_form hb h
  refine ⟨u, v, p, hp, e, ?_⟩
  rcases w with ⟨e1, ⟨rfl, rfl⟩ | ⟨rfl, rfl⟩⟩ | ⟨e1, e2, ⟨rfl, rfl⟩ | ⟨rfl, rfl⟩⟩
  · have hab : a = b := by omega
    subst hab
    rw [Nat.min_self]
    exact ⟨fun k hk => by cases hk; exact Or.inl rfl, fun k hk => (by cases hk), Or.inl (by simp), fun x y _ hy => (by cases hy), Or.inl rfl, Or.inl rfl⟩
  · have hab : a = b := by omega
    subst hab
    rw [Nat.min_self]
    exact ⟨fun k hk => (by cases hk), fun k hk => by cases hk; exact Or.inl rfl, Or.inr (by simp), fun x y hx => (by cases hx), Or.inr rfl, Or.inr rfl⟩
  · refine ⟨fun k hk => by cases hk; omega, fun k hk => by cases hk; omega, Or.inl (by simp), fun x y hx hy => by cases hx; cases hy; exact ⟨e1, e2⟩, ?_, ?_⟩
    · rcases Nat.le_total a b with q | q
      · exact Or.inl (by rw [Nat.min_eq_left q])
      · exact Or.inr (by rw [Nat.max_eq_left q])
    · rcases Nat.le_total a b with q | q
      · exact Or.inr (by rw [Nat.max_eq_right q])
      · exact Or.inl (by rw [Nat.min_eq_right q])
  · refine ⟨fun k hk => by cases hk; omega, fun k hk => by cases hk; omega, Or.inl (by simp), fun x y hx hy => by cases hx; cases hy; exact ⟨fun z => e1 z.symm, e2.symm⟩, ?_, ?_⟩
    · rcases Nat.le_total a b with q | q
      · exact Or.inr (by rw [Nat.min_eq_left q])
      · exact Or.inl (by rw [Nat.max_eq_left q])
    · rcases Nat.le_total a b with q | q
      · exact Or.inl (by rw [Nat.max_eq_right q])
      · exact Or.inr (by rw [Nat.min_eq_right q])
abbrev lvN (t : xT) (pl : Nat) (mt : Nat → Nat) (w j : Nat) : B4 := bsN t pl (fsb (lfs mt w j)) (mt (lfs mt w j))
def lfN (t t1 : xT) (pl j : Nat) (R : B4) : Prop :=
  t1 85 j = R.1 ∧ t1 86 j = R.2.1 ∧ t1 87 j = R.2.2.1 ∧ t1 88 j = R.2.2.2 ∧ t1 89 j = nI (cn (fM t (uo R.1) (uo R.2.1)) R.2.2.2 pl) ∧ (∀ a, uo R.1 = some a → ∀ s, s < 16 → t1 91 (16 * a + s) = t 78 (R.2.2.1.toNatClampNeg + la 0 s)) ∧ ∀ b, uo R.2.1 = some b → ∀ s, s < 16 → t1 91 (16 * b + s) = t 78 (R.2.2.1.toNatClampNeg + la 1 s)
def kpN (t T t1 : xT) (pl : Nat) (mt : Nat → Nat) (w k : Nat) : Prop :=
  t1 76 21 = nI k ∧ (∀ j, j < k → lfN t t1 pl j (lvN t pl mt w j)) ∧ ∀ x y, ¬ (x = 76 ∧ ((13 ≤ y ∧ y ≤ 16) ∨ y = 21)) → ¬ (85 ≤ x ∧ x ≤ 89) → x ≠ 91 → t1 x y = T x y
def lvE (t t1 : xT) (pl nh : Nat) (mt : Nat → Nat) (w k : Nat) : Prop :=
  t1 76 20 = 1 ∧ t1 76 21 = nI k ∧ t1 76 27 = nI pl ∧ (∀ j, j < k → lfN t t1 pl j (lvN t pl mt w j)) ∧ (∀ i, i < k → t1 93 i = oi (fun v => (lvN t pl mt w v.toNatClampNeg).2.2.1) k (fun _ => 0) i) ∧ (∀ y, y < 128 → t1 90 y = t 82 y) ∧ (∀ h, h < 8 → t1 92 h = bi (h < nh)) ∧ ∀ x y, ¬ (x = 76 ∧ ((13 ≤ y ∧ y ≤ 16) ∨ y = 20 ∨ y = 21 ∨ y = 27)) → ¬ (85 ≤ x ∧ x ≤ 93) → t1 x y = t x y
theorem bsN_cong {t t1 : xT} (h : ∀ x y, 78 ≤ x ∧ x ≤ 82 → t1 x y = t x y) (pl a b : Nat) : bsN t1 pl a b = bsN t pl a b := by
  have e : ∀ x, 78 ≤ x ∧ x ≤ 82 → t1 x = t x := fun x hx => funext fun y => h x y hx
  show bsg (t1 79) (t1 80) (t1 81) (fM t1) _ _ _ _ = bsg (t 79) (t 80) (t 81) (fM t) _ _ _ _
  rw [e 79 (by decide), e 80 (by decide), e 81 (by decide), fM_cong (fun y => h 82 y (by decide)) (fun y => h 78 y (by decide))]
/-- one more leaf -/
theorem kn_step {t T t1 t2 t3 : xT} {pl : Nat} {mt : Nat → Nat} {w n W k p0 : Nat} {u v : Option Nat} (hW : w < W) (hw : W ≤ 256) (hn : n ≤ 8) (hm : mtOK mt n W) (hk : k < 8) (h0 : ∀ j, j ≤ k → lfs mt w j ≠ 0) (hT : ∀ x y, 78 ≤ x ∧ x ≤ 82 → T x y = t x y) (h : kpN t T t1 pl mt w k)
    (h2 : ∀ x y, ¬ (x = 76 ∧ 13 ≤ y ∧ y ≤ 16) → t2 x y = t1 x y) (hp0 : p0 < 160) (eR : lvN t pl mt w k = (ov u, ov v, nI p0, fM t u v p0)) (hu : ∀ i, u = some i → i = fsb (lfs mt w k) ∨ i = mt (lfs mt w k)) (hv : ∀ i, v = some i → i = fsb (lfs mt w k) ∨ i = mt (lfs mt w k)) (hnp : ∀ j, j < k → ¬ (lvN t pl mt w j).2.2.2 = -1) (h3 : cmE t2 t3 k u v p0 (fM t u v p0) pl) : kpN t T t3 pl mt w (k + 1) := by
  obtain ⟨p1, p2, p3⟩ := h
  obtain ⟨c1, c2, c3, c4, c5, c6, c7, c8, c9, c10⟩ := h3
  have hle := lfs_le mt w k
  have hf := fsb_ok (lfs mt w k) (by omega) (h0 k (Nat.le_refl k))
  have hmm := hm (lfs mt w k) (Nat.pos_of_ne_zero (h0 k (Nat.le_refl k))) (by omega)
  have hu8 : ∀ i, u = some i → i < 8 ∧ (lfs mt w k).testBit i = true := fun i hi => by
    rcases hu i hi with rfl | rfl
    · exact ⟨hf.1, hf.2.1⟩
    · exact ⟨by omega, hmm.2⟩
  have hv8 : ∀ i, v = some i → i < 8 ∧ (lfs mt w k).testBit i = true := fun i hi => by
    rcases hv i hi with rfl | rfl
    · exact ⟨hf.1, hf.2.1⟩
    · exact ⟨by omega, hmm.2⟩
  have e78 : ∀ y, t2 78 y = t 78 y := fun y => by rw [h2 78 y (by omega), p3 78 y (by omega) (by omega) (by omega), hT 78 y (by decide)]
  have eF : fM t2 = fM t := fM_cong (fun y => by rw [h2 82 y (by omega), p3 82 y (by omega) (by omega) (by omega), hT 82 y (by decide)]) e78
  have uu : uo (ov u) = u := uo_ov (fun i hi => (hu8 i hi).1)
  have vv : uo (ov v) = v := uo_ov (fun i hi => (hv8 i hi).1)
  refine ⟨c6, fun j hj => ?_, fun x y q1 q2 q3 => ?_⟩
  · by_cases e : j = k
    · subst e
      rw [eR]
      unfold lfN
      simp only [uu, vv]
      refine ⟨c1, c2, c3, c4, by rw [c5, eF], fun a ha s hs => ?_, fun b hb s hs => ?_⟩
      · rw [c7 a ha s hs, e78, nI_clamp (by omega)]
      · rw [c8 b hb s hs, e78, nI_clamp (by omega)]
    · have a := p2 j (by omega)
      have hjk : j < k := by omega
      have g : ∀ x, 85 ≤ x ∧ x ≤ 89 → t3 x j = t1 x j := fun x hx => by rw [c10 x j (by omega) (by omega) (by omega), h2 x j (by omega)]
      have hlj := lfs_le mt w j
      obtain ⟨u2, v2, pp, hpp, eR2, hu2, hv2, -, -, -, -⟩ := bs_uv2 (c := (-1, -1, -1, -1)) rfl (hnp j hjk)
      have hfj := fsb_ok (lfs mt w j) (by omega) (h0 j (by omega))
      have hmj := hm (lfs mt w j) (Nat.pos_of_ne_zero (h0 j (by omega))) (by omega)
      have hu28 : ∀ i, u2 = some i → i < 8 := fun i hi => by rcases hu2 i hi with rfl | rfl; exact hfj.1; omega
      have hv28 : ∀ i, v2 = some i → i < 8 := fun i hi => by rcases hv2 i hi with rfl | rfl; exact hfj.1; omega
      have eR3 : lvN t pl mt w j = (ov u2, ov v2, nI pp, fM t u2 v2 pp) := eR2
      have old : ∀ i, i = fsb (lfs mt w j) ∨ i = mt (lfs mt w j) → ∀ s, s < 16 → t3 91 (16 * i + s) = t1 91 (16 * i + s) := fun i hi s hs => by
        rw [c9 (16 * i + s) (fun a ha => ?_) (fun b hb => ?_), h2 91 _ (by omega)]
        · have nw := lfs_new hW hw hn hm hjk (fun z hz => h0 z (by omega)) (hu8 a ha).1 (hu8 a ha).2
          omega
        · have nw := lfs_new hW hw hn hm hjk (fun z hz => h0 z (by omega)) (hv8 b hb).1 (hv8 b hb).2
          omega
      unfold lfN at a ⊢
      rw [g 85 (by decide), g 86 (by decide), g 87 (by decide), g 88 (by decide), g 89 (by decide)]
      refine ⟨a.1, a.2.1, a.2.2.1, a.2.2.2.1, a.2.2.2.2.1, fun i hi s hs => ?_, fun i hi s hs => ?_⟩
      · rw [old i (hu2 i (by rw [eR3] at hi; rw [← uo_ov hu28]; exact hi)) s hs]; exact a.2.2.2.2.2.1 i hi s hs
      · rw [old i (hv2 i (by rw [eR3] at hi; rw [← uo_ov hv28]; exact hi)) s hs]; exact a.2.2.2.2.2.2 i hi s hs
  · rw [c10 x y (by omega) (by omega) q3, h2 x y (by omega)]; exact p3 x y q1 q2 q3
theorem kn_end {t T t1 : xT} {pl nh : Nat} {mt : Nat → Nat} {w k : Nat} (hk : k ≤ 8) (h20 : T 76 20 = 1) (h27 : T 76 27 = nI pl) (h90 : ∀ y, y < 128 → T 90 y = t 82 y) (h92 : ∀ h, h < 8 → T 92 h = bi (h < nh)) (hT : ∀ x y, ¬ (x = 76 ∧ (y = 20 ∨ y = 21 ∨ y = 27)) → x ≠ 90 → x ≠ 92 → T x y = t x y) (h : kpN t T t1 pl mt w k) : lvE t (xo t1 93 (oi (plN t1) k (t1 93))) pl nh mt w k := by
  obtain ⟨p1, p2, p3⟩ := h
  refine ⟨?_, ?_, ?_, fun j hj => ?_, fun i hi => ?_, fun y hy => ?_, fun h hh => ?_, fun x y q1 q2 => ?_⟩
  · rw [xo_ne _ _ _ (by decide), p3 76 20 (by omega) (by omega) (by omega)]; exact h20
  · rw [xo_ne _ _ _ (by decide)]; exact p1
  · rw [xo_ne _ _ _ (by decide), p3 76 27 (by omega) (by omega) (by omega)]; exact h27
  · have a := p2 j hj
    unfold lfN at a ⊢
    simp only [xo_ne _ _ _ (show (85 : Nat) ≠ 93 by decide), xo_ne _ _ _ (show (86 : Nat) ≠ 93 by decide), xo_ne _ _ _ (show (87 : Nat) ≠ 93 by decide), xo_ne _ _ _ (show (88 : Nat) ≠ 93 by decide), xo_ne _ _ _ (show (89 : Nat) ≠ 93 by decide), xo_ne _ _ _ (show (91 : Nat) ≠ 93 by decide)]
    exact a
  · rw [xo_at]
    refine oi_cong (fun j hj => ?_) i hi
    show t1 87 (nI j).toNatClampNeg = (lvN t pl mt w (nI j).toNatClampNeg).2.2.1
    rw [nI_clamp (by omega)]
    exact (p2 j hj).2.2.1
  · rw [xo_ne _ _ _ (by decide), p3 90 y (by omega) (by omega) (by omega)]; exact h90 y hy
  · rw [xo_ne _ _ _ (by decide), p3 92 h (by omega) (by omega) (by omega)]; exact h92 h hh
  · rw [xo_ne _ _ _ (by omega), p3 x y (by omega) (by omega) (by omega)]; exact hT x y (by omega) (by omega) (by omega)
def xin (t : xT) (nh n : Nat) : xT := fun x y => if x = 92 ∧ y < n then bi (y < nh) else t x y
theorem xin_0 (t : xT) (nh : Nat) : xin t nh 0 = t := by funext x y; unfold xin; rw [if_neg (by omega)]
theorem xin_s (t : xT) (nh n : Nat) : xt (xin t nh n) 92 n (bi (n < nh)) = xin t nh (n + 1) := by
  funext x y
  unfold xt xin
  by_cases h : x = 92 ∧ y = n
  · rw [if_pos h, if_pos (by omega), h.2]
  · rw [if_neg h]
    by_cases q : x = 92 ∧ y < n
    · rw [if_pos q, if_pos (by omega)]
    · rw [if_neg q, if_neg (by omega)]
theorem xcp_s (t : xT) {k0 k1 n : Nat} (h : k0 ≠ k1) : xt (xcp t k0 k1 n) k1 n (xcp t k0 k1 n k0 n) = xcp t k0 k1 (n + 1) := by
  funext x y
  unfold xt xcp
  by_cases q : x = k1 ∧ y = n
  · rw [if_pos q, if_neg (show ¬ (k0 = k1 ∧ n < n) by omega), if_pos (show x = k1 ∧ y < n + 1 by omega), q.2]
  · rw [if_neg q]
    by_cases r : x = k1 ∧ y < n
    · rw [if_pos r, if_pos (by omega)]
    · rw [if_neg r, if_neg (by omega)]
theorem xcp_0 (t : xT) (k0 k1 : Nat) : xcp t k0 k1 0 = t := by funext x y; unfold xcp; rw [if_neg (by omega)]
set_option maxRecDepth 100000 in
set_option maxHeartbeats 4000000 in
theorem m_leaves (l : Launch) (G : xg_G) (O : Heap) (t : xT) (nl nh : Nat) (C : Nat → Nat → Int32) (hnl : nl ≤ 160) (h4 : t 76 4 = nI nl) (hnh : nh ≤ 8) (h7 : t 76 7 = nI nh) (hl32 : 32 ≤ nl) (hC : costOK C nh) (hCq : ∀ a b, a ≤ b → b < nh → ¬ C a b = -1 → ¬ (bsN t (nl - 31) a b).2.2.2 = -1) (hpair : ∀ a b, a ≤ b → b < nh → t 84 (8 * a + b) = C a b) (hrest : ∀ s, s < 2 ^ nh → t 83 s = dp C nh s) : xm l yX9_leaves cX9_leaves 4 none rmX9_leaves G O t [.ref (O.size + 76)] (xv (fun t' => ∃ k, k ≤ 8 ∧ lfs (mtf C nh) (2 ^ nh - 1) k = 0 ∧ (∀ j, j < k → lfs (mtf C nh) (2 ^ nh - 1) j ≠ 0) ∧ lvE t t' (nl - 31) nh (mtf C nh) (2 ^ nh - 1) k)) := by
  refine xm_enter (by decide) 3 rfl rfl ?_
  intro p e sS m args below meth c X hr hk
  refine g_eq (L2 := [some (.ref (O.size + 76)), none, none, none]) rfl rfl rfl ?_
  have hpw := pow_le nh hnh
  have hall := dp_all hnh hC
  have hm : mtOK (mtf C nh) nh (2 ^ nh) := fun s h0 h1 => by
    have := (hall s h1).2 (by omega)
    exact ⟨this.2.2.1, this.2.2.2.1⟩
  generalize hwe : 2 ^ nh - 1 = w at *
  have hW : w < 2 ^ nh := by omega
  generalize hme : mtf C nh = mt at *
  have loop2 : ∀ (z9 : Nat) (h : Nat) (xh : Int32) (t1 : xT), 8 - h < z9 → xh = nI h → t1 = xin (xcp (xt (xt (xt t 76 20 1) 76 21 0) 76 27 (nI (nl - 31))) 82 90 128) nh h → h ≤ 8 → gm p l e rmX9_leaves sS m args below meth c 4 G O (xmQ below G O (xv (fun t' => ∃ k, k ≤ 8 ∧ lfs (mt) (w) k = 0 ∧ (∀ j, j < k → lfs (mt) (w) j ≠ 0) ∧ lvE t t' (nl - 31) nh (mt) (w) k)) args sS) (t1) [some (.ref (O.size + 76)), some (.int (nI w)), some (.int (xh)), none] 56 [] := by
    intro z9
    induction z9 with
    | zero => intro h xh t1 h9; exact absurd h9 (Nat.not_lt_zero _)
    | succ z9 ih =>
      intro h xh t1 h9 hxh ht1 hh
      subst hxh
      subst ht1
      have e7 : xin (xcp (xt (xt (xt t 76 20 1) 76 21 0) 76 27 (nI (nl - 31))) 82 90 128) nh h 76 7 = nI nh := by rw [show xin (xcp (xt (xt (xt t 76 20 1) 76 21 0) 76 27 (nI (nl - 31))) 82 90 128) nh h 76 7 = t 76 7 by simp [xin, xcp, xt]]; exact h7
      refine g_iload_n (pc := 56) X dX9_leaves_56 rfl rfl ?_
      refine g_bipush (pc := 57) (v := 8) X dX9_leaves_57 (by decide) ?_
      refine g_icmp_ge (pc := 59) (tgt := 87) X dX9_leaves_59 (by decide) (fun hc_59 => ?_) (fun hc_59 => ?_)
      · have hh9 : h = 8 := by have := n_ge (a := 8) (b := h) hc_59; omega
        subst hh9
        generalize hTe : xin (xcp (xt (xt (xt t 76 20 1) 76 21 0) 76 27 (nI (nl - 31))) 82 90 128) nh 8 = T at *
        have eT : ∀ x y, ¬ (x = 76 ∧ (y = 20 ∨ y = 21 ∨ y = 27)) → x ≠ 90 → x ≠ 92 → T x y = t x y := fun x y q1 q2 q3 => by
          rw [← hTe]; unfold xin xcp; rw [if_neg (by omega), if_neg (by omega), xt_ne _ _ (by omega), xt_ne _ _ (by omega), xt_ne _ _ (by omega)]
        have e20 : T 76 20 = 1 := by rw [← hTe]; simp [xin, xcp, xt]
        have e21 : T 76 21 = 0 := by rw [← hTe]; simp [xin, xcp, xt]
        have e27 : T 76 27 = nI (nl - 31) := by rw [← hTe]; simp [xin, xcp, xt]
        have e90 : ∀ y, y < 128 → T 90 y = t 82 y := fun y hy => by rw [← hTe]; simp [xin, xcp, xt, hy]
        have e92 : ∀ h, h < 8 → T 92 h = bi (h < nh) := fun h hh => by rw [← hTe]; simp [xin, hh]
        have fin : ∀ (k : Nat) (t1 : xT), lfs mt w k = 0 → k ≤ 8 → (∀ j, j < k → lfs mt w j ≠ 0) → kpN t T t1 (nl - 31) mt w k → gm p l e rmX9_leaves sS m args below meth c 4 G O (xmQ below G O (xv (fun t' => ∃ k, k ≤ 8 ∧ lfs (mt) (w) k = 0 ∧ (∀ j, j < k → lfs (mt) (w) j ≠ 0) ∧ lvE t t' (nl - 31) nh (mt) (w) k)) args sS) (t1) [some (.ref (O.size + 76)), some (.int (nI (lfs mt w k))), none, none] 194 [] := by
          intro k t1 hz hk8 h0 hkp
          refine g_aload_n (pc := 194) X dX9_leaves_194 rfl rfl ?_
          refine gm_Vv (pc := 195) X 9 xc_X9_162 (m_orders l G O _ k hk8 hkp.1) dX9_leaves_195 rfl (by decide) rfl rfl rfl rfl (Nat.le_of_ble_eq_true rfl) (fun t_195 hp => ?_)
          subst hp
          exact gm_vret (pc := 198) X hr hk dX9_leaves_198 (⟨k, hk8, hz, h0, kn_end hk8 e20 e27 e90 e92 eT hkp⟩)
        have loopW : ∀ (z9 : Nat) (k : Nat) (xl : Int32) (t1 : xT), 9 - k < z9 → xl = nI (lfs mt w k) → k ≤ 8 → (∀ j, j < k → lfs mt w j ≠ 0) → kpN t T t1 (nl - 31) mt w k → gm p l e rmX9_leaves sS m args below meth c 4 G O (xmQ below G O (xv (fun t' => ∃ k, k ≤ 8 ∧ lfs (mt) (w) k = 0 ∧ (∀ j, j < k → lfs (mt) (w) j ≠ 0) ∧ lvE t t' (nl - 31) nh (mt) (w) k)) args sS) (t1) [some (.ref (O.size + 76)), some (.int (xl)), none, none] 87 [] := by
          intro z9
          induction z9 with
          | zero => intro k xl t1 h9; exact absurd h9 (Nat.not_lt_zero _)
          | succ z9 ih =>
            intro k xl t1 h9 hxl hk8 h0 hkp
            subst hxl
            refine g_iload_n (pc := 87) X dX9_leaves_87 rfl rfl ?_
            refine g_if_eq (pc := 88) (tgt := 194) X dX9_leaves_88 (by decide) (fun hc_88 => ?_) (fun hc_88 => ?_)
            · exact fin k t1 (by rcases Nat.eq_zero_or_pos (lfs mt w k) with q | q; exact q; exact absurd hc_88 (nI_ne0 q (by have := lfs_le mt w k; omega))) hk8 h0 hkp
            · have hnp : ∀ j, j < k → ¬ (lvN t (nl - 31) mt w j).2.2.2 = -1 := fun j hj => by
                have hlj := lfs_le mt w j
                have hj0 := h0 j hj
                have hdj := (hall (lfs mt w j) (by omega)).2 hj0
                exact hCq _ _ hdj.2.1 hdj.2.2.1 hdj.2.2.2.2.1
              have hne : lfs mt w k ≠ 0 := fun q => hc_88 (by rw [q, nI_0])
              have hk9 : k < 8 := by
                rcases Nat.lt_or_ge k 8 with q | q
                · exact q
                · exact absurd (by rw [show k = 8 by omega]; exact lfs_end hW hpw.1 hnh hm (fun j hj => h0 j (by omega))) hne
              have hle := lfs_le mt w k
              have h0k : ∀ j, j ≤ k → lfs mt w j ≠ 0 := fun j hj => by
                rcases Nat.lt_or_ge j k with q | q
                · exact h0 j q
                · rw [show j = k by omega]; exact hne
              have hf := fsb_ok (lfs mt w k) (by omega) hne
              have hfn := fsb_lt hnh hne (show lfs mt w k < 2 ^ nh by omega)
              have hd := (hall (lfs mt w k) (by omega)).2 hne
              obtain ⟨d1, d2, d3, d4, d5, d6, d7, d8⟩ := hd
              have g : ∀ x y, ¬ (x = 76 ∧ ((13 ≤ y ∧ y ≤ 16) ∨ y = 20 ∨ y = 21 ∨ y = 27)) → ¬ (85 ≤ x ∧ x ≤ 92) → t1 x y = t x y := fun x y q1 q2 => by rw [hkp.2.2 x y (by omega) (by omega) (by omega)]; exact eT x y (by omega) (by omega) (by omega)
              have g84 : ∀ a b, a ≤ b → b < nh → t1 84 (8 * a + b) = C a b := fun a b q1 q2 => by rw [g 84 _ (by omega) (by omega)]; exact hpair a b q1 q2
              have g83 : ∀ s, s < 2 ^ nh → t1 83 s = dp C nh s := fun s q => by rw [g 83 _ (by omega) (by omega)]; exact hrest s q
              generalize hse : lfs mt w k = s at *
              generalize hae : fsb s = a at *
              have found : gm p l e rmX9_leaves sS m args below meth c 4 G O (xmQ below G O (xv (fun t' => ∃ k, k ≤ 8 ∧ lfs (mt) (w) k = 0 ∧ (∀ j, j < k → lfs (mt) (w) j ≠ 0) ∧ lvE t t' (nl - 31) nh (mt) (w) k)) args sS) (t1) [some (.ref (O.size + 76)), some (.int (nI s)), some (.int (nI a)), some (.int (nI (mt s)))] 166 [] := by
                refine g_aload_n (pc := 166) X dX9_leaves_166 rfl rfl ?_
                refine g_iload_n (pc := 167) X dX9_leaves_167 rfl rfl ?_
                refine g_iload_n (pc := 168) X dX9_leaves_168 rfl rfl ?_
                refine gm_Vi (pc := 169) X 9 xc_X9_145 (m_bests l G O _ nl a (mt s) hnl (by rw [g 76 4 (by omega) (by omega)]; exact h4) (by omega) (by omega)) dX9_leaves_169 rfl (by decide) rfl rfl rfl rfl (Nat.le_of_ble_eq_true rfl) (fun v_169 t_169 hp => ?_)
                obtain ⟨hv169, ht169⟩ := hp
                have hq : ¬ (bsN t (nl - 31) a (mt s)).2.2.2 = -1 := hCq a (mt s) d2 d3 d5
                obtain ⟨z1, z2⟩ := bsM_N t1 (nl - 31) a (mt s)
                rw [bsN_cong (t := t) (fun x y hx => g x y (by omega) (by omega))] at z1 z2
                have hRR := z2 (by rw [z1]; exact hq)
                rw [hRR] at ht169
                subst ht169
                obtain ⟨u, v, p0, hp0, eR, hu, hv, hun, huv, -, -⟩ := bs_uv2 (c := (-1, -1, -1, -1)) rfl hq
                have eR2 : bsN t (nl - 31) a (mt s) = (ov u, ov v, nI p0, fM t u v p0) := eR
                have hu8 : ∀ i, u = some i → i < 8 := fun i hi => by rcases hu i hi with rfl | rfl <;> omega
                have hv8 : ∀ i, v = some i → i < 8 := fun i hi => by rcases hv i hi with rfl | rfl <;> omega
                obtain ⟨w1, w2, w3, w4⟩ := setM_v t1 (bsN t (nl - 31) a (mt s))
                refine g_pop (pc := 172) X dX9_leaves_172 rfl ?_
                refine g_aload_n (pc := 173) X dX9_leaves_173 rfl rfl ?_
                refine gm_Vv (pc := 174) X 9 xc_X9_159 (m_comes l G O _ nl k p0 u v (fM t u v p0) hnl (by rw [setM_nf _ _ (by decide), g 76 4 (by omega) (by omega)]; exact h4) hk9 (by rw [setM_nf _ _ (by decide)]; exact hkp.1) (by rw [w3, eR2]) (by rw [w4, eR2]) (by rw [w2, eR2]) (by rw [w1, eR2]) hu8 hv8 (fun x y hx hy => (huv x y hx hy).1) (by omega)) dX9_leaves_174 rfl (by decide) rfl rfl rfl rfl (Nat.le_of_ble_eq_true rfl) (fun t_174 hp => ?_)
                refine g_iload_n (pc := 177) X dX9_leaves_177 rfl rfl ?_
                refine g_iconst (pc := 178) (v := 1) X dX9_leaves_178 (by decide) ?_
                refine g_iload_n (pc := 179) X dX9_leaves_179 rfl rfl ?_
                refine g_ishl (pc := 180) X dX9_leaves_180 ?_
                refine g_iconst (pc := 181) (v := (-1)) X dX9_leaves_181 (by decide) ?_
                refine g_ixor (pc := 182) X dX9_leaves_182 ?_
                refine g_iconst (pc := 183) (v := 1) X dX9_leaves_183 (by decide) ?_
                refine g_iload_n (pc := 184) X dX9_leaves_184 rfl rfl ?_
                refine g_ishl (pc := 185) X dX9_leaves_185 ?_
                refine g_iconst (pc := 186) (v := (-1)) X dX9_leaves_186 (by decide) ?_
                refine g_ixor (pc := 187) X dX9_leaves_187 ?_
                refine g_iand (pc := 188) X dX9_leaves_188 ?_
                refine g_iand (pc := 189) X dX9_leaves_189 ?_
                rw [wo_eq2 s (by omega) a (by omega) (mt s) (by omega)]
                refine g_istore_n (pc := 190) X dX9_leaves_190 rfl (by decide) ?_
                refine g_goto (pc := 191) (tgt := 87) X dX9_leaves_191 (by decide) ?_
                refine g_wk 3 ?_
                refine g_wk 2 ?_
                exact ih (k + 1) _ _ (by omega) (by show nI (wo s a (mt s)) = nI (wo (lfs mt w k) (fsb (lfs mt w k)) (mt (lfs mt w k))); rw [hse, hae]) (by omega) (fun j hj => h0k j (by omega)) (kn_step hW hpw.1 hnh hm hk9 h0k (fun x y hx => eT x y (by omega) (by omega) (by omega)) hkp (fun x y hx => by
                  by_cases e : x = 76
                  · subst e; rw [setM_nf _ _ (by omega)]
                  · rw [setM_ne _ _ _ e]) (by omega) (by show bsN t (nl - 31) (fsb (lfs mt w k)) (mt (lfs mt w k)) = _; rw [hse, hae]; exact eR2) (by rw [hse, hae]; exact hu) (by rw [hse, hae]; exact hv) (fun j hj => hnp j hj) hp)
              have nxt : ∀ b, a ≤ b → b ≤ mt s → b ≠ mt s → (b + 1 ≤ mt s → gm p l e rmX9_leaves sS m args below meth c 4 G O (xmQ below G O (xv (fun t' => ∃ k, k ≤ 8 ∧ lfs (mt) (w) k = 0 ∧ (∀ j, j < k → lfs (mt) (w) j ≠ 0) ∧ lvE t t' (nl - 31) nh (mt) (w) k)) args sS) (t1) [some (.ref (O.size + 76)), some (.int (nI s)), some (.int (nI a)), some (.int (nI b + 1))] 98 []) → gm p l e rmX9_leaves sS m args below meth c 4 G O (xmQ below G O (xv (fun t' => ∃ k, k ≤ 8 ∧ lfs (mt) (w) k = 0 ∧ (∀ j, j < k → lfs (mt) (w) j ≠ 0) ∧ lvE t t' (nl - 31) nh (mt) (w) k)) args sS) (t1) [some (.ref (O.size + 76)), some (.int (nI s)), some (.int (nI a)), some (.int (nI b))] 160 [] := by
                intro b hab hbm hne2 hgo
                refine g_inc (pc := 160) (kv := 1) X dX9_leaves_160 (by decide) rfl (by decide) ?_
                refine g_goto (pc := 163) (tgt := 98) X dX9_leaves_163 (by decide) ?_
                exact hgo (by omega)
              have loopB : ∀ (z9 : Nat) (b : Nat) (xb : Int32), 8 - b < z9 → xb = nI b → a ≤ b → b ≤ mt s → gm p l e rmX9_leaves sS m args below meth c 4 G O (xmQ below G O (xv (fun t' => ∃ k, k ≤ 8 ∧ lfs (mt) (w) k = 0 ∧ (∀ j, j < k → lfs (mt) (w) j ≠ 0) ∧ lvE t t' (nl - 31) nh (mt) (w) k)) args sS) (t1) [some (.ref (O.size + 76)), some (.int (nI s)), some (.int (nI a)), some (.int (xb))] 98 [] := by
                intro z9
                induction z9 with
                | zero => intro b xb h9; exact absurd h9 (Nat.not_lt_zero _)
                | succ z9 ih =>
                  intro b xb h9 hxb hab hbm
                  subst hxb
                  refine g_iload_n (pc := 98) X dX9_leaves_98 rfl rfl ?_
                  refine g_iload_n (pc := 99) X dX9_leaves_99 rfl rfl ?_
                  refine g_ishr (pc := 100) X dX9_leaves_100 ?_
                  refine g_iconst (pc := 101) (v := 1) X dX9_leaves_101 (by decide) ?_
                  refine g_iand (pc := 102) X dX9_leaves_102 ?_
                  refine g_if_eq (pc := 103) (tgt := 160) X dX9_leaves_103 (by decide) (fun hc_103 => ?_) (fun hc_103 => ?_)
                  · exact nxt b hab hbm (fun q => by have := (bit_in0 s (by omega) b (by omega)).mp hc_103; rw [q, d4] at this; exact absurd this (by decide)) (fun h => ih (b + 1) _ (by omega) (nI_1 b) (by omega) h)
                  · have hbit : s.testBit b = true := by by_cases q : s.testBit b = true; exact q; exact absurd ((bit_in0 s (by omega) b (by omega)).mpr (by simpa using q)) hc_103
                    refine g_aload_n (pc := 106) X dX9_leaves_106 rfl rfl ?_
                    refine gm_getR (k' := 84) (pc := 107) (j := 19) X 9 dX9_leaves_107 rfl (by decide) rfl xu_9 (by decide) rfl xw_610 rfl rfl ?_
                    refine g_bipush (pc := 110) (v := 8) X dX9_leaves_110 (by decide) ?_
                    refine g_iload_n (pc := 112) X dX9_leaves_112 rfl rfl ?_
                    refine g_imul (pc := 113) X dX9_leaves_113 ?_
                    refine g_iload_n (pc := 114) X dX9_leaves_114 rfl rfl ?_
                    refine g_iadd (pc := 115) X dX9_leaves_115 ?_
                    refine gm_iald (pc := 116) X (8 * a + b) dX9_leaves_116 rfl (idx8b a b) (show 8 * a + b < 64 from by omega) (by decide) ?_
                    rw [g84 a b hab (by omega)]
                    refine g_iconst (pc := 117) (v := (-1)) X dX9_leaves_117 (by decide) ?_
                    refine g_icmp_eq (pc := 118) (tgt := 160) X dX9_leaves_118 (by decide) (fun hc_118 => ?_) (fun hc_118 => ?_)
                    · exact nxt b hab hbm (fun q => d5 (by rw [← q]; exact hc_118)) (fun h => ih (b + 1) _ (by omega) (nI_1 b) (by omega) h)
                    · refine g_aload_n (pc := 121) X dX9_leaves_121 rfl rfl ?_
                      refine gm_getR (k' := 84) (pc := 122) (j := 19) X 9 dX9_leaves_122 rfl (by decide) rfl xu_9 (by decide) rfl xw_610 rfl rfl ?_
                      refine g_bipush (pc := 125) (v := 8) X dX9_leaves_125 (by decide) ?_
                      refine g_iload_n (pc := 127) X dX9_leaves_127 rfl rfl ?_
                      refine g_imul (pc := 128) X dX9_leaves_128 ?_
                      refine g_iload_n (pc := 129) X dX9_leaves_129 rfl rfl ?_
                      refine g_iadd (pc := 130) X dX9_leaves_130 ?_
                      refine gm_iald (pc := 131) X (8 * a + b) dX9_leaves_131 rfl (idx8b a b) (show 8 * a + b < 64 from by omega) (by decide) ?_
                      refine g_aload_n (pc := 132) X dX9_leaves_132 rfl rfl ?_
                      refine gm_getR (k' := 83) (pc := 133) (j := 18) X 9 dX9_leaves_133 rfl (by decide) rfl xu_9 (by decide) rfl xw_609 rfl rfl ?_
                      refine g_iload_n (pc := 136) X dX9_leaves_136 rfl rfl ?_
                      refine g_iconst (pc := 137) (v := 1) X dX9_leaves_137 (by decide) ?_
                      refine g_iload_n (pc := 138) X dX9_leaves_138 rfl rfl ?_
                      refine g_ishl (pc := 139) X dX9_leaves_139 ?_
                      refine g_iconst (pc := 140) (v := (-1)) X dX9_leaves_140 (by decide) ?_
                      refine g_ixor (pc := 141) X dX9_leaves_141 ?_
                      refine g_iand (pc := 142) X dX9_leaves_142 ?_
                      refine g_iconst (pc := 143) (v := 1) X dX9_leaves_143 (by decide) ?_
                      refine g_iload_n (pc := 144) X dX9_leaves_144 rfl rfl ?_
                      refine g_ishl (pc := 145) X dX9_leaves_145 ?_
                      refine g_iconst (pc := 146) (v := (-1)) X dX9_leaves_146 (by decide) ?_
                      refine g_ixor (pc := 147) X dX9_leaves_147 ?_
                      refine g_iand (pc := 148) X dX9_leaves_148 ?_
                      refine gm_iald (pc := 149) X (wo s a b) dX9_leaves_149 rfl (wo_eq s (by omega) a (by omega) b (by omega)) (show wo s a b < 256 from by have := wo_le s a b; omega) (by decide) ?_
                      refine g_iadd (pc := 150) X dX9_leaves_150 ?_
                      rw [g84 a b hab (by omega), g83 _ (by have := wo_le s a b; omega)]
                      refine g_aload_n (pc := 151) X dX9_leaves_151 rfl rfl ?_
                      refine gm_getR (k' := 83) (pc := 152) (j := 18) X 9 dX9_leaves_152 rfl (by decide) rfl xu_9 (by decide) rfl xw_609 rfl rfl ?_
                      refine g_iload_n (pc := 155) X dX9_leaves_155 rfl rfl ?_
                      refine gm_iald (pc := 156) X (s) dX9_leaves_156 rfl rfl (show s < 256 from by omega) (by decide) ?_
                      rw [g83 s (by omega)]
                      refine g_icmp_eq (pc := 157) (tgt := 166) X dX9_leaves_157 (by decide) (fun hc_157 => ?_) (fun hc_157 => ?_)
                      · have hbe : b = mt s := by
                          rcases Nat.lt_or_ge b (mt s) with q | q
                          · have := d8 b hab q hbit hc_118; rw [hc_157] at this; exact (Int32.lt_irrefl this).elim
                          · omega
                        subst hbe
                        exact found
                      · exact nxt b hab hbm (fun q => hc_157 (by rw [q]; exact d6.symm)) (fun h => ih (b + 1) _ (by omega) (nI_1 b) (by omega) h)
              refine g_iload_n (pc := 91) X dX9_leaves_91 rfl rfl ?_
              refine gm_Si (pc := 92) X xc_X9_148 (m_first l G O _ s (by omega) hne) dX9_leaves_92 rfl rfl rfl (Nat.le_of_ble_eq_true rfl) (fun v_92 t_92 hp => ?_)
              obtain ⟨rfl, hq9⟩ := hp
              have hq9 := hq9.symm
              subst hq9
              rw [hae]
              refine g_istore_n (pc := 95) X dX9_leaves_95 rfl (by decide) ?_
              refine g_iload_n (pc := 96) X dX9_leaves_96 rfl rfl ?_
              refine g_istore_n (pc := 97) X dX9_leaves_97 rfl (by decide) ?_
              exact loopB 9 a _ (by omega) rfl (Nat.le_refl a) d2
        refine g_wk 2 ?_
        exact loopW 10 0 _ _ (by omega) rfl (by omega) (fun j hj => absurd hj (Nat.not_lt_zero j)) ⟨by rw [e21, nI_0], fun j hj => absurd hj (Nat.not_lt_zero j), fun _ _ _ _ _ => rfl⟩
      · have hh8 : h < 8 := n_gt (a := 8) (b := h) hc_59
        refine g_aload_n (pc := 62) X dX9_leaves_62 rfl rfl ?_
        refine gm_getR (k' := 92) (pc := 63) (j := 30) X 9 dX9_leaves_63 rfl (by decide) rfl xu_9 (by decide) rfl xw_621 rfl rfl ?_
        refine g_iload_n (pc := 66) X dX9_leaves_66 rfl rfl ?_
        refine g_iload_n (pc := 67) X dX9_leaves_67 rfl rfl ?_
        refine g_aload_n (pc := 68) X dX9_leaves_68 rfl rfl ?_
        refine gm_getI (pc := 69) (j := 7) X 9 dX9_leaves_69 rfl (by decide) rfl xu_9 (by decide) rfl xw_598 rfl ?_
        refine g_icmp_ge (pc := 72) (tgt := 79) X dX9_leaves_72 (by decide) (fun hc_72 => ?_) (fun hc_72 => ?_)
        · refine g_iconst (pc := 79) (v := 0) X dX9_leaves_79 (by decide) ?_
          refine gm_zast (pc := 80) X (h) dX9_leaves_80 rfl rfl (show h < 8 from by omega) (by decide) (Or.inl rfl) ?_
          refine g_inc (pc := 81) (kv := 1) X dX9_leaves_81 (by decide) rfl (by decide) ?_
          refine g_goto (pc := 84) (tgt := 56) X dX9_leaves_84 (by decide) ?_
          exact ih (h + 1) _ _ (by omega) (nI_1 h) (by rw [← xin_s, bi_f (by rw [e7] at hc_72; have := n_ge hc_72; omega)]) (by omega)
        · refine g_iconst (pc := 75) (v := 1) X dX9_leaves_75 (by decide) ?_
          refine g_goto (pc := 76) (tgt := 80) X dX9_leaves_76 (by decide) ?_
          refine gm_zast (pc := 80) X (h) dX9_leaves_80 rfl rfl (show h < 8 from by omega) (by decide) (Or.inr rfl) ?_
          refine g_inc (pc := 81) (kv := 1) X dX9_leaves_81 (by decide) rfl (by decide) ?_
          refine g_goto (pc := 84) (tgt := 56) X dX9_leaves_84 (by decide) ?_
          exact ih (h + 1) _ _ (by omega) (nI_1 h) (by rw [← xin_s, bi_t (by rw [e7] at hc_72; exact n_gt hc_72)]) (by omega)
  have loop1 : ∀ (z9 : Nat) (y : Nat) (xy : Int32) (t1 : xT), 128 - y < z9 → xy = nI y → t1 = xcp (xt (xt (xt t 76 20 1) 76 21 0) 76 27 (nI (nl - 31))) 82 90 y → y ≤ 128 → gm p l e rmX9_leaves sS m args below meth c 4 G O (xmQ below G O (xv (fun t' => ∃ k, k ≤ 8 ∧ lfs (mt) (w) k = 0 ∧ (∀ j, j < k → lfs (mt) (w) j ≠ 0) ∧ lvE t t' (nl - 31) nh (mt) (w) k)) args sS) (t1) [some (.ref (O.size + 76)), some (.int (nI w)), some (.int (xy)), none] 29 [] := by
    intro z9
    induction z9 with
    | zero => intro y xy t1 h9; exact absurd h9 (Nat.not_lt_zero _)
    | succ z9 ih =>
      intro y xy t1 h9 hxy ht1 hy
      subst hxy
      subst ht1
      refine g_iload_n (pc := 29) X dX9_leaves_29 rfl rfl ?_
      refine g_sipush (pc := 30) (v := 128) X dX9_leaves_30 (by decide) ?_
      refine g_icmp_ge (pc := 33) (tgt := 54) X dX9_leaves_33 (by decide) (fun hc_33 => ?_) (fun hc_33 => ?_)
      · refine g_iconst (pc := 54) (v := 0) X dX9_leaves_54 (by decide) ?_
        refine g_istore_n (pc := 55) X dX9_leaves_55 rfl (by decide) ?_
        have hy9 : y = 128 := by have := n_ge (a := 128) (b := y) hc_33; omega
        subst hy9
        exact loop2 9 0 _ _ (by omega) nI_0.symm (xin_0 _ _).symm (by omega)
      · refine g_aload_n (pc := 36) X dX9_leaves_36 rfl rfl ?_
        refine gm_getR (k' := 90) (pc := 37) (j := 28) X 9 dX9_leaves_37 rfl (by decide) rfl xu_9 (by decide) rfl xw_619 rfl rfl ?_
        refine g_iload_n (pc := 40) X dX9_leaves_40 rfl rfl ?_
        refine g_aload_n (pc := 41) X dX9_leaves_41 rfl rfl ?_
        refine gm_getR (k' := 82) (pc := 42) (j := 11) X 9 dX9_leaves_42 rfl (by decide) rfl xu_9 (by decide) rfl xw_602 rfl rfl ?_
        refine g_iload_n (pc := 45) X dX9_leaves_45 rfl rfl ?_
        refine gm_iald (pc := 46) X (y) dX9_leaves_46 rfl rfl (show y < 128 from by have := n_gt (a := 128) (b := y) hc_33; omega) (by decide) ?_
        refine gm_iast (pc := 47) X (y) dX9_leaves_47 rfl rfl (show y < 128 from by have := n_gt (a := 128) (b := y) hc_33; omega) (by decide) ?_
        refine g_inc (pc := 48) (kv := 1) X dX9_leaves_48 (by decide) rfl (by decide) ?_
        refine g_goto (pc := 51) (tgt := 29) X dX9_leaves_51 (by decide) ?_
        exact ih (y + 1) _ _ (by have := n_gt (a := 128) (b := y) hc_33; omega) (nI_1 y) (xcp_s _ (by decide)) (by have := n_gt (a := 128) (b := y) hc_33; omega)
  refine g_iconst (pc := 0) (v := 1) X dX9_leaves_0 (by decide) ?_
  refine g_aload_n (pc := 1) X dX9_leaves_1 rfl rfl ?_
  refine gm_getI (pc := 2) (j := 7) X 9 dX9_leaves_2 rfl (by decide) rfl xu_9 (by decide) rfl xw_598 rfl ?_
  rw [h7]
  refine g_ishl (pc := 5) X dX9_leaves_5 ?_
  refine g_iconst (pc := 6) (v := 1) X dX9_leaves_6 (by decide) ?_
  refine g_isub (pc := 7) X dX9_leaves_7 ?_
  rw [whole_eq nh hnh, hwe]
  refine g_istore_n (pc := 8) X dX9_leaves_8 rfl (by decide) ?_
  refine g_aload_n (pc := 9) X dX9_leaves_9 rfl rfl ?_
  refine g_iconst (pc := 10) (v := 1) X dX9_leaves_10 (by decide) ?_
  refine gm_putI (pc := 11) (j := 20) X 9 tyX9 dX9_leaves_11 rfl (by decide) rfl xu_9 tyX9_ok nmX9 (by decide) rfl xw_611 rfl rfl (Or.inr ⟨rfl, (Or.inr rfl)⟩) ?_
  refine g_aload_n (pc := 14) X dX9_leaves_14 rfl rfl ?_
  refine g_iconst (pc := 15) (v := 0) X dX9_leaves_15 (by decide) ?_
  refine gm_putI (pc := 16) (j := 21) X 9 tyX9 dX9_leaves_16 rfl (by decide) rfl xu_9 tyX9_ok nmX9 (by decide) rfl xw_612 rfl rfl (Or.inl rfl) ?_
  refine g_aload_n (pc := 19) X dX9_leaves_19 rfl rfl ?_
  refine g_aload_n (pc := 20) X dX9_leaves_20 rfl rfl ?_
  refine gm_Vi (pc := 21) X 9 xc_X9_106 (m_places l G O _ nl (by rw [xt_ne _ _ (Or.inr (by decide)), xt_ne _ _ (Or.inr (by decide))]; exact h4)) dX9_leaves_21 rfl (by decide) rfl rfl rfl rfl (Nat.le_of_ble_eq_true rfl) (fun v_21 t_21 hp => ?_)
  obtain ⟨rfl, hq9⟩ := hp
  have hq9 := hq9.symm
  subst hq9
  rw [show nI nl - 31 = nI (nl - 31) from pk_sub (a := nl) (b := 31) (by omega)]
  refine gm_putI (pc := 24) (j := 27) X 9 tyX9 dX9_leaves_24 rfl (by decide) rfl xu_9 tyX9_ok nmX9 (by decide) rfl xw_618 rfl rfl (Or.inl rfl) ?_
  refine g_iconst (pc := 27) (v := 0) X dX9_leaves_27 (by decide) ?_
  refine g_istore_n (pc := 28) X dX9_leaves_28 rfl (by decide) ?_
  exact loop1 129 0 _ _ (by omega) nI_0.symm (xcp_0 _ _ _).symm (by omega)

