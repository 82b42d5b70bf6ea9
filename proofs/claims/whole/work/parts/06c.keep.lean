/-! 06c: Book.addLeaf and keep -/
def uo (x : Int32) : Option Nat := if x = -1 then none else some x.toNatClampNeg
theorem nI_nm1 : ∀ k, k < 8 → ¬ nI k = -1 := by decide
theorem uo_ov {u : Option Nat} (hu : ∀ k, u = some k → k < 8) : uo (ov u) = u := by
  cases u with
  | none => rfl
  | some k =>
    have := hu k rfl
    unfold uo ov
    rw [if_neg (nI_nm1 k this), nI_clamp (by omega)]
theorem tw_form {u l : Int32} {f : Nat → Int32} {b : B4} : ∀ {n : Nat}, tw u l f n b = b ∨ ∃ p, p < n ∧ tw u l f n b = (u, l, nI p, f p)
  | 0 => Or.inl rfl
  | n + 1 => by
    rw [tw.eq_2]
    split
    · exact Or.inr ⟨n, by omega, rfl⟩
    · rcases tw_form (u := u) (l := l) (f := f) (b := b) (n := n) with h | ⟨p, hp, h⟩
      · exact Or.inl h
      · exact Or.inr ⟨p, by omega, h⟩
theorem trg_form {pt : Nat → Int32} {F : Option Nat → Option Nat → Nat → Int32} {pl : Nat} {u v : Option Nat} {b : B4} : trg pt F pl u v b = b ∨ ∃ p, p < pl ∧ trg pt F pl u v b = (ov u, ov v, nI p, F u v p) := by
  unfold trg
  split
  · exact tw_form
  · exact Or.inl rfl
theorem bsg_form {pt sd rl : Nat → Int32} {F : Option Nat → Option Nat → Nat → Int32} {pl x y : Nat} {b : B4} (hb : b.2.2.2 = -1) (h : ¬ (bsg pt sd rl F pl x y b).2.2.2 = -1) : ∃ u v p, p < pl ∧ bsg pt sd rl F pl x y b = (ov u, ov v, nI p, F u v p) ∧ ((x = y ∧ ((u = some x ∧ v = none) ∨ (u = none ∧ v = some x))) ∨ (x ≠ y ∧ sd x = sd y ∧ ((u = some x ∧ v = some y) ∨ (u = some y ∧ v = some x)))) := by
  unfold bsg at h ⊢
  split at h
  · rename_i e
    rw [if_pos e]
    rcases trg_form (pt := pt) (F := F) (pl := pl) (u := none) (v := some x) (b := trg pt F pl (some x) none b) with q | ⟨p, hp, q⟩
    · rcases trg_form (pt := pt) (F := F) (pl := pl) (u := some x) (v := none) (b := b) with q2 | ⟨p, hp, q2⟩
      · rw [q, q2] at h; exact absurd hb h
      · exact ⟨some x, none, p, hp, by rw [q, q2], Or.inl ⟨e, Or.inl ⟨rfl, rfl⟩⟩⟩
    · exact ⟨none, some x, p, hp, q, Or.inl ⟨e, Or.inr ⟨rfl, rfl⟩⟩⟩
  · rename_i e
    rw [if_neg e]
    split at h
    · rename_i e2
      rw [if_pos e2]
      rcases trg_form (pt := pt) (F := F) (pl := pl) (u := some y) (v := some x) (b := trg pt F pl (some x) (some y) b) with q | ⟨p, hp, q⟩
      · rcases trg_form (pt := pt) (F := F) (pl := pl) (u := some x) (v := some y) (b := b) with q2 | ⟨p, hp, q2⟩
        · rw [q, q2] at h; exact absurd hb h
        · exact ⟨some x, some y, p, hp, by rw [q, q2], Or.inr ⟨e, e2.1, Or.inl ⟨rfl, rfl⟩⟩⟩
      · exact ⟨some y, some x, p, hp, q, Or.inr ⟨e, e2.1, Or.inr ⟨rfl, rfl⟩⟩⟩
    · exact absurd hb h
/-- the halves of a best, as they lie -/
theorem bs_uv {pt sd rl : Nat → Int32} {F : Option Nat → Option Nat → Nat → Int32} {pl a b n : Nat} {c : B4} (hb : c.2.2.2 = -1) (ha : a < n) (hbn : b < n) (hn : n ≤ 8) (h : ¬ (bsg pt sd rl F pl (min a b) (max a b) c).2.2.2 = -1) : ∃ u v p, p < pl ∧ bsg pt sd rl F pl (min a b) (max a b) c = (ov u, ov v, nI p, F u v p) ∧ (∀ k, u = some k → k < n) ∧ (∀ k, v = some k → k < n) ∧ (u ≠ none ∨ v ≠ none) := by
  obtain ⟨u, v, p, hp, e, w⟩ := bsg_form hb h
  have hx : min a b < n := by omega
  have hy : max a b < n := by omega
  refine ⟨u, v, p, hp, e, ?_, ?_, ?_⟩
  · intro k hk
    rcases w with ⟨-, ⟨rfl, -⟩ | ⟨rfl, -⟩⟩ | ⟨-, -, ⟨rfl, -⟩ | ⟨rfl, -⟩⟩ <;> cases hk <;> assumption
  · intro k hk
    rcases w with ⟨-, ⟨-, rfl⟩ | ⟨-, rfl⟩⟩ | ⟨-, -, ⟨-, rfl⟩ | ⟨-, rfl⟩⟩ <;> cases hk <;> assumption
  · rcases w with ⟨-, ⟨rfl, -⟩ | ⟨-, rfl⟩⟩ | ⟨-, -, ⟨rfl, -⟩ | ⟨rfl, -⟩⟩
    · exact Or.inl (by simp)
    · exact Or.inr (by simp)
    · exact Or.inl (by simp)
    · exact Or.inl (by simp)
abbrev manyC (t : xT) (pl : Nat) (R : B4) : Int32 := nI (cn (fC t (uo R.1) (uo R.2.1)) R.2.2.2 pl)
abbrev frtC (t : xT) (R : B4) : Int32 := t (8 + 2 * mx (uo R.1) (uo R.2.1)) 1
def lfS (t : xT) (k pl : Nat) (R : B4) : xT := xt (xt (xt (setL (setB t R) k R) k 5 (nI pl)) k 4 (manyC t pl R)) k 6 (frtC t R)
theorem lfS_ne (t : xT) {k x : Nat} (pl : Nat) (R : B4) (y : Nat) (h : x ≠ k) (h2 : x ≠ 24) : lfS t k pl R x y = t x y := by
  unfold lfS
  rw [xt_nk _ _ _ _ h, xt_nk _ _ _ _ h, xt_nk _ _ _ _ h, setL_ne _ _ _ h, setB_ne _ _ _ h2]
set_option maxRecDepth 100000 in
set_option maxHeartbeats 4000000 in
theorem c_addLeaf (l : Launch) (G : xg_G) (O : Heap) (t : xT) (nl nh j a b : Nat) (hnl : nl ≤ 160) (h4 : t 4 1 = nI nl) (hnh : nh ≤ 8) (h1 : t 6 1 = nI nh) (ha : a < nh) (hb : b < nh) (hj : j < 8) (h5 : t 55 4 = nI j) (hq : ¬ (bsC t (nl - 31) a b).2.2.2 = -1) : xm l yX0_addLeaf cX0_addLeaf 4 none rmX0_addLeaf G O t [.ref (O.size + 55), .ref (O.size + 3), .int (nI a), .int (nI b)] (xv (fun t' => t' = xt (xt (xt (lfS t (68 + j) (nl - 31) (bsC t (nl - 31) a b)) 58 a (nI j)) 58 b (nI j)) 55 4 (nI (j + 1)))) := by
  refine xm_enter (by decide) 0 rfl rfl ?_
  intro p e s m args below meth c X hr hk
  refine g_eq (L2 := [some (.ref (O.size + 55)), some (.ref (O.size + 3)), some (.int (nI a)), some (.int (nI b))]) rfl rfl rfl ?_
  obtain ⟨u, v, pp, hpp, eR, hu, hv, huv⟩ := bs_uv (c := (-1, -1, -1, -1)) rfl ha hb hnh hq
  have hu8 : ∀ k, u = some k → k < 8 := fun k h => by have := hu k h; omega
  have hv8 : ∀ k, v = some k → k < 8 := fun k h => by have := hv k h; omega
  have eR : bsC t (nl - 31) a b = (ov u, ov v, nI pp, fC t u v pp) := eR
  generalize hRe : bsC t (nl - 31) a b = R at *
  have eu : R.1 = ov u := by rw [eR]
  have ev : R.2.1 = ov v := by rw [eR]
  have uu : uo R.1 = u := by rw [eu]; exact uo_ov hu8
  have vv : uo R.2.1 = v := by rw [ev]; exact uo_ov hv8
  have hmx : mx u v < 8 := by
    have := (ov_max hu8 hv8 huv).2
    rcases this with q | q
    · exact hu8 _ q
    · exact hv8 _ q
  refine g_aload_n (pc := 0) X dX0_addLeaf_0 rfl rfl ?_
  refine gm_getI (pc := 1) (j := 4) X 0 dX0_addLeaf_1 rfl (by decide) rfl xu_0 (by decide) rfl xw_252 rfl ?_
  refine g_bipush (pc := 4) (v := 8) X dX0_addLeaf_4 (by decide) ?_
  refine g_icmp_ge (pc := 6) (tgt := 61) X dX0_addLeaf_6 (by decide) (fun hc_6 => ?_) (fun hc_6 => ?_)
  · rw [h5] at hc_6
    exact absurd (n_ge (a := 8) (b := j) hc_6) (by omega)
  · refine g_aload_n (pc := 9) X dX0_addLeaf_9 rfl rfl ?_
    refine g_iload_n (pc := 10) X dX0_addLeaf_10 rfl rfl ?_
    refine g_iload_n (pc := 11) X dX0_addLeaf_11 rfl rfl ?_
    refine gm_Vi (pc := 12) X 5 xc_X0_71 (c_seekBest l G O _ nl nh a b hnl h4 hnh h1 ha hb) dX0_addLeaf_12 rfl (by decide) rfl rfl rfl rfl (Nat.le_of_ble_eq_true rfl) (fun v_12 t_12 hp => ?_)
    obtain ⟨hv12, ht12⟩ := hp
    have ev12 : v_12 = bi (¬ (bsC t (nl - 31) a b).2.2.2 = -1) := hv12
    have et12 : t_12 = setB t (bsC t (nl - 31) a b) := ht12
    rw [hRe] at ev12 et12
    subst ev12
    subst et12
    clear hv12 ht12
    refine g_if_eq (pc := 15) (tgt := 61) X dX0_addLeaf_15 (by decide) (fun hc_15 => ?_) (fun hc_15 => ?_)
    · exact absurd hq (bi_0 hc_15)
    · refine g_aload_n (pc := 18) X dX0_addLeaf_18 rfl rfl ?_
      refine g_aload_n (pc := 19) X dX0_addLeaf_19 rfl rfl ?_
      refine gm_getR (k' := 56) (pc := 20) (j := 0) X 0 dX0_addLeaf_20 rfl (by decide) rfl xu_0 (by decide) rfl xw_244 rfl rfl ?_
      refine g_aload_n (pc := 23) X dX0_addLeaf_23 rfl rfl ?_
      refine gm_getI (pc := 24) (j := 4) X 0 dX0_addLeaf_24 rfl (by decide) rfl xu_0 (by decide) rfl xw_252 rfl ?_
      rw [setB_ne t R 4 (by decide), h5]
      refine gm_aald (pc := 27) (k' := (68 + j)) X 13 (j) (.object "UnderText$Leaf") dX0_addLeaf_27 rfl (by decide) (by decide) rfl rfl rfl (show j < 8 from by omega) (by decide) (kd_leaf j hj).1 ?_
      refine gm_Vv (pc := 28) X 5 xc_X0_77 (c_copyFoundTo l G O _ nl nh (68 + j) u v hnl (by rw [setB_ne t R _ (by decide)]; exact h4) hnh (by rw [setB_ne t R _ (by decide)]; exact h1) hu hv (kd_leaf j hj).2 (by omega) (by rw [show setB t R 24 0 = R.1 by simp [setB, xt]]; exact eu) (by rw [show setB t R 24 1 = R.2.1 by simp [setB, xt]]; exact ev) huv) dX0_addLeaf_28 rfl (by decide) rfl rfl rfl rfl (Nat.le_of_ble_eq_true rfl) (fun t_28 hp => ?_)
      refine gm_st (t2 := lfS t (68 + j) (nl - 31) R) (by rw [hp, getB_set, fC_set, setB_q, setB_ne t R (x := 8 + 2 * mx u v) 1 (by omega)]; unfold lfS; rw [show manyC t (nl - 31) R = nI (cn (fC t u v) R.2.2.2 (nl - 31)) by show nI (cn (fC t (uo R.1) (uo R.2.1)) _ _) = _; rw [uu, vv], show frtC t R = t (8 + 2 * mx u v) 1 by show t (8 + 2 * mx (uo R.1) (uo R.2.1)) 1 = _; rw [uu, vv]]) rfl ?_
      clear hp
      have e5 : lfS t (68 + j) (nl - 31) R 55 4 = nI j := by rw [lfS_ne t _ R 4 (by omega) (by decide)]; exact h5
      refine g_aload_n (pc := 31) X dX0_addLeaf_31 rfl rfl ?_
      refine gm_getR (k' := 58) (pc := 32) (j := 2) X 0 dX0_addLeaf_32 rfl (by decide) rfl xu_0 (by decide) rfl xw_248 rfl rfl ?_
      refine g_iload_n (pc := 35) X dX0_addLeaf_35 rfl rfl ?_
      refine g_aload_n (pc := 36) X dX0_addLeaf_36 rfl rfl ?_
      refine gm_getI (pc := 37) (j := 4) X 0 dX0_addLeaf_37 rfl (by decide) rfl xu_0 (by decide) rfl xw_252 rfl ?_
      rw [e5]
      refine gm_iast (pc := 40) X (a) dX0_addLeaf_40 rfl rfl (show a < 8 from by omega) (by decide) ?_
      refine g_aload_n (pc := 41) X dX0_addLeaf_41 rfl rfl ?_
      refine gm_getR (k' := 58) (pc := 42) (j := 2) X 0 dX0_addLeaf_42 rfl (by decide) rfl xu_0 (by decide) rfl xw_248 rfl rfl ?_
      refine g_iload_n (pc := 45) X dX0_addLeaf_45 rfl rfl ?_
      refine g_aload_n (pc := 46) X dX0_addLeaf_46 rfl rfl ?_
      refine gm_getI (pc := 47) (j := 4) X 0 dX0_addLeaf_47 rfl (by decide) rfl xu_0 (by decide) rfl xw_252 rfl ?_
      rw [xt_nk _ _ _ _ (by decide), e5]
      refine gm_iast (pc := 50) X (b) dX0_addLeaf_50 rfl rfl (show b < 8 from by omega) (by decide) ?_
      refine g_aload_n (pc := 51) X dX0_addLeaf_51 rfl rfl ?_
      refine g_dup (pc := 52) X dX0_addLeaf_52 rfl ?_
      refine gm_getI (pc := 53) (j := 4) X 0 dX0_addLeaf_53 rfl (by decide) rfl xu_0 (by decide) rfl xw_252 rfl ?_
      rw [xt_nk _ _ _ _ (by decide), xt_nk _ _ _ _ (by decide), e5]
      refine g_iconst (pc := 56) (v := 1) X dX0_addLeaf_56 (by decide) ?_
      refine g_iadd (pc := 57) X dX0_addLeaf_57 ?_
      rw [nI_1]
      refine gm_putI (pc := 58) (j := 4) X 0 tyX0 dX0_addLeaf_58 rfl (by decide) rfl xu_0 tyX0_ok nmX0 (by decide) rfl xw_252 rfl rfl (Or.inl rfl) ?_
      exact gm_vret (pc := 61) X hr hk dX0_addLeaf_61 (rfl)

def lfs (mt : Nat → Nat) (w : Nat) : Nat → Nat
  | 0 => w
  | k + 1 => wo (lfs mt w k) (fsb (lfs mt w k)) (mt (lfs mt w k))
abbrev lvR (t : xT) (pl : Nat) (mt : Nat → Nat) (w j : Nat) : B4 := bsC t pl (fsb (lfs mt w j)) (mt (lfs mt w j))
theorem lfs_le (mt : Nat → Nat) (w : Nat) : ∀ k, lfs mt w k ≤ w
  | 0 => Nat.le_refl w
  | k + 1 => Nat.le_trans (wo_le _ _ _) (lfs_le mt w k)
/-- what holds of the mates of the sets below W -/
def mtOK (mt : Nat → Nat) (n W : Nat) : Prop := ∀ s, 0 < s → s < W → mt s < n ∧ s.testBit (mt s) = true
theorem lfs_step {mt : Nat → Nat} {w n W k : Nat} (hW : w < W) (hw : W ≤ 256) (hn : n ≤ 8) (hm : mtOK mt n W) (h0 : lfs mt w k ≠ 0) : ∀ j, j < 8 → (lfs mt w (k + 1)).testBit j = ((lfs mt w k).testBit j && decide (j ≠ fsb (lfs mt w k)) && decide (j ≠ mt (lfs mt w k))) := by
  intro j hj
  have h1 := lfs_le mt w k
  have hf := fsb_ok (lfs mt w k) (by omega) h0
  have hm2 := hm (lfs mt w k) (by omega) (by omega)
  exact wo_bit hf.1 (by omega) hj
theorem lfs_sub {mt : Nat → Nat} {w n W : Nat} (hW : w < W) (hw : W ≤ 256) (hn : n ≤ 8) (hm : mtOK mt n W) {j : Nat} (hj : j < 8) : ∀ {d k : Nat}, (∀ i, i < k + d → lfs mt w i ≠ 0) → (lfs mt w (k + d)).testBit j = true → (lfs mt w k).testBit j = true
  | 0, k, _, h => h
  | d + 1, k, h0, h => by
    have h2 : (lfs mt w (k + d + 1)).testBit j = true := h
    rw [lfs_step hW hw hn hm (h0 (k + d) (by omega)) j hj] at h2
    simp only [Bool.and_eq_true] at h2
    exact lfs_sub hW hw hn hm hj (d := d) (fun i hi => h0 i (by omega)) h2.1.1
/-- the halves of later leaves are others -/
theorem lfs_new {mt : Nat → Nat} {w n W : Nat} (hW : w < W) (hw : W ≤ 256) (hn : n ≤ 8) (hm : mtOK mt n W) {i k h : Nat} (hik : i < k) (h0 : ∀ j, j < k → lfs mt w j ≠ 0) (hh : h < 8) (hb : (lfs mt w k).testBit h = true) : h ≠ fsb (lfs mt w i) ∧ h ≠ mt (lfs mt w i) := by
  have h1 : (lfs mt w (i + 1)).testBit h = true := lfs_sub hW hw hn hm hh (d := k - (i + 1)) (k := i + 1) (fun j hj => h0 j (by omega)) (by rw [show i + 1 + (k - (i + 1)) = k by omega]; exact hb)
  rw [lfs_step hW hw hn hm (h0 i hik) h hh] at h1
  simp only [Bool.and_eq_true, decide_eq_true_eq] at h1
  exact ⟨h1.1.2, h1.2⟩
theorem lfs_low {mt : Nat → Nat} {w n W : Nat} (hW : w < W) (hw : W ≤ 256) (hn : n ≤ 8) (hm : mtOK mt n W) : ∀ {k : Nat}, k ≤ 8 → (∀ j, j < k → lfs mt w j ≠ 0) → ∀ j, j < k → (lfs mt w k).testBit j = false
  | 0, _, _, j, hj => absurd hj (Nat.not_lt_zero j)
  | k + 1, h8, h0, j, hj => by
    have ih := lfs_low hW hw hn hm (k := k) (by omega) (fun j hj => h0 j (by omega))
    have hk0 := h0 k (by omega)
    have hle := lfs_le mt w k
    have hf := fsb_ok (lfs mt w k) (by omega) hk0
    rw [lfs_step hW hw hn hm hk0 j (by omega)]
    by_cases e : j = k
    · subst e
      by_cases q : fsb (lfs mt w j) = j
      · rw [show decide (j ≠ fsb (lfs mt w j)) = false by rw [q]; simp]; simp
      · have : j < fsb (lfs mt w j) := by
          rcases Nat.lt_or_ge j (fsb (lfs mt w j)) with r | r
          · exact r
          · exact absurd (ih (fsb (lfs mt w j)) (by omega)) (by rw [hf.2.1]; decide)
        rw [hf.2.2 j this]; rfl
    · rw [ih j (by omega)]; rfl
theorem lfs_end {mt : Nat → Nat} {w n W : Nat} (hW : w < W) (hw : W ≤ 256) (hn : n ≤ 8) (hm : mtOK mt n W) (h0 : ∀ j, j < 8 → lfs mt w j ≠ 0) : lfs mt w 8 = 0 := by
  rcases Nat.eq_zero_or_pos (lfs mt w 8) with q | q
  · exact q
  · have hle := lfs_le mt w 8
    have hf := fsb_ok (lfs mt w 8) (by omega) (by omega)
    have := lfs_low hW hw hn hm (k := 8) (Nat.le_refl 8) h0 (fsb (lfs mt w 8)) hf.1
    rw [hf.2.1] at this; exact absurd this (by decide)
def lfAt (t t1 : xT) (pl j : Nat) (R : B4) : Prop := t1 (68 + j) 0 = R.1 ∧ t1 (68 + j) 1 = R.2.1 ∧ t1 (68 + j) 2 = R.2.2.1 ∧ t1 (68 + j) 3 = R.2.2.2 ∧ t1 (68 + j) 4 = manyC t pl R ∧ t1 (68 + j) 5 = nI pl ∧ t1 (68 + j) 6 = frtC t R
theorem lfS_at (t : xT) {j : Nat} (pl : Nat) (R : B4) : lfAt t (lfS t (68 + j) pl R) pl j R := by
  unfold lfAt lfS setL
  simp [xt]
/-- the leaves kept so far -/
def kpI (t t1 : xT) (pl : Nat) (mt : Nat → Nat) (w k : Nat) : Prop :=
  t1 55 4 = nI k ∧ (∀ j, j < k → lfAt t t1 pl j (lvR t pl mt w j)) ∧ (∀ j, j < k → t1 58 (fsb (lfs mt w j)) = nI j ∧ t1 58 (mt (lfs mt w j)) = nI j) ∧
  (∀ h, h < 8 → (∀ j, j < k → h ≠ fsb (lfs mt w j) ∧ h ≠ mt (lfs mt w j)) → t1 58 h = -1) ∧ ∀ x y, x ≠ 24 → x ≠ 55 → x ≠ 58 → ¬ (68 ≤ x ∧ x ≤ 75) → t1 x y = t x y
theorem fC_cong {t t1 : xT} (h : ∀ x y, 26 ≤ x ∧ x < 43 → t1 x y = t x y) {u v : Option Nat} (hu : ∀ k, u = some k → k < 8) (hv : ∀ k, v = some k → k < 8) : fC t1 u v = fC t u v := by
  funext p
  have r0 := rcell_ok (q := 0) hu (by decide)
  have r1 := rcell_ok (q := 1) hv (by decide)
  show t1 (rcell u 0) p + t1 (rcell v 1) p = t (rcell u 0) p + t (rcell v 1) p
  rw [h _ p r0.2.2, h _ p r1.2.2]
theorem kp_step {t t1 : xT} {pl : Nat} {mt : Nat → Nat} {w n W k : Nat} (hW : w < W) (hw : W ≤ 256) (hn : n ≤ 8) (hm : mtOK mt n W) (hk : k < 8) (h0 : ∀ j, j ≤ k → lfs mt w j ≠ 0) (h : kpI t t1 pl mt w k) (hq : ¬ (lvR t pl mt w k).2.2.2 = -1) :
    kpI t (xt (xt (xt (lfS t1 (68 + k) pl (lvR t pl mt w k)) 58 (fsb (lfs mt w k)) (nI k)) 58 (mt (lfs mt w k)) (nI k)) 55 4 (nI (k + 1))) pl mt w (k + 1) := by
  obtain ⟨p1, p2, p3, p4, p5⟩ := h
  have hle := lfs_le mt w k
  have hf := fsb_ok (lfs mt w k) (by omega) (h0 k (Nat.le_refl k))
  have hmm := hm (lfs mt w k) (Nat.pos_of_ne_zero (h0 k (Nat.le_refl k))) (by omega)
  obtain ⟨u, v, pp, hpp, eR, hu, hv, huv⟩ := bs_uv (c := (-1, -1, -1, -1)) rfl hf.1 (show mt (lfs mt w k) < 8 by omega) (Nat.le_refl 8) hq
  have e58 : ∀ i, i ≠ fsb (lfs mt w k) → i ≠ mt (lfs mt w k) → xt (xt (xt (lfS t1 (68 + k) pl (lvR t pl mt w k)) 58 (fsb (lfs mt w k)) (nI k)) 58 (mt (lfs mt w k)) (nI k)) 55 4 (nI (k + 1)) 58 i = t1 58 i := fun i q1 q2 => by
    rw [xt_nk _ _ _ _ (by decide), xt_ne _ _ (Or.inr q2), xt_ne _ _ (Or.inr q1), lfS_ne _ _ _ _ (by omega) (by decide)]
  have eR2 : lvR t pl mt w k = (ov u, ov v, nI pp, fC t u v pp) := eR
  refine ⟨xt_same _ _ _ _, fun j hj => ?_, fun j hj => ?_, fun h hh hno => ?_, fun x y q1 q2 q3 q4 => ?_⟩
  · have e : ∀ i, xt (xt (xt (lfS t1 (68 + k) pl (lvR t pl mt w k)) 58 (fsb (lfs mt w k)) (nI k)) 58 (mt (lfs mt w k)) (nI k)) 55 4 (nI (k + 1)) (68 + j) i = lfS t1 (68 + k) pl (lvR t pl mt w k) (68 + j) i := fun i => by
      rw [xt_nk _ _ _ _ (by omega), xt_nk _ _ _ _ (by omega), xt_nk _ _ _ _ (by omega)]
    by_cases q : j = k
    · subst q
      have a := lfS_at t1 (j := j) pl (lvR t pl mt w j)
      have f1 : manyC t1 pl (lvR t pl mt w j) = manyC t pl (lvR t pl mt w j) := by
        show nI (cn (fC t1 (uo _) (uo _)) _ _) = nI (cn (fC t (uo _) (uo _)) _ _)
        rw [show (lvR t pl mt w j).1 = ov u by rw [eR2], show (lvR t pl mt w j).2.1 = ov v by rw [eR2], uo_ov hu, uo_ov hv, fC_cong (fun x y hxy => p5 x y (by omega) (by omega) (by omega) (by omega)) hu hv]
      have f2 : frtC t1 (lvR t pl mt w j) = frtC t (lvR t pl mt w j) := by
        show t1 (8 + 2 * mx (uo _) (uo _)) 1 = t (8 + 2 * mx (uo _) (uo _)) 1
        have hmx : mx u v < 8 := by
          rcases (ov_max hu hv huv).2 with q | q
          · exact hu _ q
          · exact hv _ q
        rw [show (lvR t pl mt w j).1 = ov u by rw [eR2], show (lvR t pl mt w j).2.1 = ov v by rw [eR2], uo_ov hu, uo_ov hv, p5 _ _ (by omega) (by omega) (by omega) (by omega)]
      unfold lfAt at a ⊢
      simp only [e]
      rw [← f1, ← f2]
      exact a
    · have a := p2 j (by omega)
      unfold lfAt at a ⊢
      simp only [e]
      rw [lfS_ne _ _ _ _ (by omega) (by omega), lfS_ne _ _ _ _ (by omega) (by omega), lfS_ne _ _ _ _ (by omega) (by omega), lfS_ne _ _ _ _ (by omega) (by omega), lfS_ne _ _ _ _ (by omega) (by omega), lfS_ne _ _ _ _ (by omega) (by omega), lfS_ne _ _ _ _ (by omega) (by omega)]
      exact a
  · by_cases q : j = k
    · subst q
      refine ⟨?_, ?_⟩
      · rw [xt_nk _ _ _ _ (by decide)]
        by_cases q2 : fsb (lfs mt w j) = mt (lfs mt w j)
        · rw [q2, xt_same]
        · rw [xt_ne _ _ (Or.inr q2), xt_same]
      · rw [xt_nk _ _ _ _ (by decide), xt_same]
    · have a := p3 j (by omega)
      have n1 := lfs_new hW hw hn hm (i := j) (k := k) (by omega) (fun i hi => h0 i (by omega)) hf.1 hf.2.1
      have n2 := lfs_new hW hw hn hm (i := j) (k := k) (by omega) (fun i hi => h0 i (by omega)) (show mt (lfs mt w k) < 8 by omega) hmm.2
      exact ⟨(e58 _ (Ne.symm n1.1) (Ne.symm n2.1)).trans a.1, (e58 _ (Ne.symm n1.2) (Ne.symm n2.2)).trans a.2⟩
  · have a := hno k (by omega)
    rw [e58 h a.1 a.2]
    exact p4 h hh (fun j hj => hno j (by omega))
  · rw [xt_nk _ _ _ _ q2, xt_nk _ _ _ _ q3, xt_nk _ _ _ _ q3, lfS_ne _ _ _ _ (by omega) q1]
    exact p5 x y q1 q2 q3 q4
/-- what keep leaves -/
def kpE (t t1 : xT) (pl nh : Nat) (mt : Nat → Nat) (w k : Nat) : Prop :=
  t1 55 4 = nI k ∧ (∀ j, j < k → lfAt t t1 pl j (lvR t pl mt w j)) ∧ (∀ j, j < k → t1 58 (fsb (lfs mt w j)) = nI j ∧ t1 58 (mt (lfs mt w j)) = nI j) ∧
  (∀ h, h < 8 → (∀ j, j < k → h ≠ fsb (lfs mt w j) ∧ h ≠ mt (lfs mt w j)) → t1 58 h = -1) ∧ (∀ i, i < k → t1 57 i = oi (fun v => (lvR t pl mt w v.toNatClampNeg).2.2.1) k (fun _ => 0) i) ∧
  (∀ h, h < nh → ∀ y, y < 16 → t1 (60 + h) y = t (9 + 2 * h) y) ∧ ∀ x y, x ≠ 24 → x ≠ 55 → x ≠ 57 → x ≠ 58 → ¬ (60 ≤ x ∧ x ≤ 75) → t1 x y = t x y
theorem kp_end {t t1 : xT} {pl nh : Nat} {mt : Nat → Nat} {w k : Nat} (hk : k ≤ 8) (hnh : nh ≤ 8) (h : kpI t t1 pl mt w k) : kpE t (xo (xkl t1 nh) 57 (oi (plI (xkl t1 nh)) k (xkl t1 nh 57))) pl nh mt w k := by
  obtain ⟨p1, p2, p3, p4, p5⟩ := h
  refine ⟨?_, fun j hj => ?_, fun j hj => ?_, fun h hh hno => ?_, fun i hi => ?_, fun h hh y hy => ?_, fun x y q1 q2 q3 q4 q5 => ?_⟩
  · rw [xo_ne _ _ _ (by decide), xkl_ne _ _ (by omega)]; exact p1
  · have a := p2 j hj
    unfold lfAt at a ⊢
    have e : ∀ i, xo (xkl t1 nh) 57 (oi (plI (xkl t1 nh)) k (xkl t1 nh 57)) (68 + j) i = t1 (68 + j) i := fun i => by rw [xo_ne _ _ _ (by omega), xkl_ne _ _ (by omega)]
    simp only [e]; exact a
  · rw [xo_ne _ _ _ (by decide), xo_ne _ _ _ (by decide), xkl_ne _ _ (by omega), xkl_ne _ _ (by omega)]; exact p3 j hj
  · rw [xo_ne _ _ _ (by decide), xkl_ne _ _ (by omega)]; exact p4 h hh hno
  · rw [xo_at]
    refine oi_cong (fun j hj => ?_) i hi
    show xkl t1 nh (68 + (nI j).toNatClampNeg) 2 = (lvR t pl mt w (nI j).toNatClampNeg).2.2.1
    rw [nI_clamp (by omega), xkl_ne _ _ (by omega)]
    exact (p2 j hj).2.2.1
  · rw [xo_ne _ _ _ (by omega)]
    unfold xkl
    rw [if_pos (by omega), show 60 + h - 60 = h by omega]
    exact p5 _ _ (by omega) (by omega) (by omega) (by omega)
  · rw [xo_ne _ _ _ q3, xkl_ne _ _ (by omega)]
    exact p5 x y q1 q2 q4 (by omega)
set_option maxRecDepth 100000 in
set_option maxHeartbeats 4000000 in
theorem c_keep (l : Launch) (G : xg_G) (O : Heap) (t : xT) (nl nh : Nat) (mt : Nat → Nat) (hnl : nl ≤ 160) (h4 : t 4 1 = nI nl) (hnh : nh ≤ 8) (h1 : t 6 1 = nI nh) (hw : t 43 3 = nI (2 ^ nh - 1)) (hm : mtOK mt nh (2 ^ nh)) (hmt : ∀ s, 0 < s → s < 2 ^ nh → t 54 s = nI (mt s) ∧ ¬ (bsC t (nl - 31) (fsb s) (mt s)).2.2.2 = -1) : xm l yX0_keep cX0_keep 8 none rmX0_keep G O t [.ref (O.size + 55), .ref (O.size + 3), .ref (O.size + 43), .ref (O.size + 6)] (xv (fun t' => ∃ k, k ≤ 8 ∧ lfs mt (2 ^ nh - 1) k = 0 ∧ (∀ j, j < k → lfs mt (2 ^ nh - 1) j ≠ 0) ∧ kpE t t' (nl - 31) nh mt (2 ^ nh - 1) k)) := by
  refine xm_enter (by decide) 4 rfl rfl ?_
  intro p e s m args below meth c X hr hk
  refine g_eq (L2 := [some (.ref (O.size + 55)), some (.ref (O.size + 3)), some (.ref (O.size + 43)), some (.ref (O.size + 6)), none, none, none, none]) rfl rfl rfl ?_
  have hpw := pow_le nh hnh
  generalize hwe : 2 ^ nh - 1 = w at *
  have hW : w < 2 ^ nh := by omega
  have fin : ∀ (k : Nat) (t1 : xT) (xl xk : Int32), lfs mt w k = 0 → k ≤ 8 → (∀ j, j < k → lfs mt w j ≠ 0) → kpI t t1 (nl - 31) mt w k → gm p l e rmX0_keep s m args below meth c 8 G O (xmQ below G O (xv (fun t' => ∃ k, k ≤ 8 ∧ lfs mt (w) k = 0 ∧ (∀ j, j < k → lfs mt (w) j ≠ 0) ∧ kpE t t' (nl - 31) nh mt (w) k)) args s) (t1) [some (.ref (O.size + 55)), some (.ref (O.size + 3)), some (.ref (O.size + 43)), some (.ref (O.size + 6)), some (.int (xl)), some (.int (xk)), none, none] 66 [] := by
    intro k t1 xl xk hz hk8 h0 hkp
    obtain ⟨p1, p2, p3, p4, p5⟩ := id hkp
    have e4 : t1 4 1 = nI nl := by rw [p5 4 1 (by decide) (by decide) (by decide) (by decide)]; exact h4
    have e6 : t1 6 1 = nI nh := by rw [p5 6 1 (by decide) (by decide) (by decide) (by decide)]; exact h1
    have ew : t1 43 3 = nI w := by rw [p5 43 3 (by decide) (by decide) (by decide) (by decide)]; exact hw
    have hle := lfs_le mt w k
    refine g_aload_n (pc := 66) X dX0_keep_66 rfl rfl ?_
    refine g_aload_n (pc := 67) X dX0_keep_67 rfl rfl ?_
    refine gm_Vv (pc := 68) X 0 xc_X0_64 (c_keepLists l G O _ nh hnh e6) dX0_keep_68 rfl (by decide) rfl rfl rfl rfl (Nat.le_of_ble_eq_true rfl) (fun t_68 hp => ?_)
    subst hp
    refine g_aload_n (pc := 71) X dX0_keep_71 rfl rfl ?_
    refine gm_Vv (pc := 72) X 0 xc_X0_68 (c_putInOrder l G O _ k hk8 (by rw [xkl_ne _ _ (by omega)]; exact p1)) dX0_keep_72 rfl (by decide) rfl rfl rfl rfl (Nat.le_of_ble_eq_true rfl) (fun t_72 hp => ?_)
    subst hp
    exact gm_vret (pc := 75) X hr hk dX0_keep_75 (⟨k, hk8, hz, h0, kp_end hk8 hnh hkp⟩)
  have loop : ∀ (z9 : Nat) (k : Nat) (xk : Int32) (xl : Int32) (t1 : xT), 8 - k < z9 → xk = nI k → xl = nI (lfs mt w k) → k ≤ 8 → (∀ j, j < k → lfs mt w j ≠ 0) → kpI t t1 (nl - 31) mt w k → gm p l e rmX0_keep s m args below meth c 8 G O (xmQ below G O (xv (fun t' => ∃ k, k ≤ 8 ∧ lfs mt (w) k = 0 ∧ (∀ j, j < k → lfs mt (w) j ≠ 0) ∧ kpE t t' (nl - 31) nh mt (w) k)) args s) (t1) [some (.ref (O.size + 55)), some (.ref (O.size + 3)), some (.ref (O.size + 43)), some (.ref (O.size + 6)), some (.int (xl)), some (.int (xk)), none, none] 13 [] := by
    intro z9
    induction z9 with
    | zero => intro k xk xl t1 h9; exact absurd h9 (Nat.not_lt_zero _)
    | succ z9 ih =>
      intro k xk xl t1 h9 hxk hxl hk8 h0 hkp
      subst hxk
      subst hxl
      obtain ⟨p1, p2, p3, p4, p5⟩ := id hkp
      have e4 : t1 4 1 = nI nl := by rw [p5 4 1 (by decide) (by decide) (by decide) (by decide)]; exact h4
      have e6 : t1 6 1 = nI nh := by rw [p5 6 1 (by decide) (by decide) (by decide) (by decide)]; exact h1
      have ew : t1 43 3 = nI w := by rw [p5 43 3 (by decide) (by decide) (by decide) (by decide)]; exact hw
      have hle := lfs_le mt w k
      refine g_iload (pc := 13) X dX0_keep_13 rfl ?_
      refine g_bipush (pc := 15) (v := 8) X dX0_keep_15 (by decide) ?_
      refine g_icmp_ge (pc := 17) (tgt := 66) X dX0_keep_17 (by decide) (fun hc_17 => ?_) (fun hc_17 => ?_)
      · exact fin k t1 _ _ (by have := n_ge (a := 8) (b := k) hc_17; rw [show k = 8 by omega]; exact lfs_end hW hpw.1 hnh hm (fun j hj => h0 j (by omega))) hk8 h0 hkp
      · refine g_iload (pc := 20) X dX0_keep_20 rfl ?_
        refine g_if_eq (pc := 22) (tgt := 66) X dX0_keep_22 (by decide) (fun hc_22 => ?_) (fun hc_22 => ?_)
        · exact fin k t1 _ _ (by rcases Nat.eq_zero_or_pos (lfs mt w k) with q | q; exact q; exact absurd hc_22 (nI_ne0 q (by omega))) hk8 h0 hkp
        · have hkl : k < 8 := n_gt (a := 8) (b := k) hc_17
          have hne : lfs mt w k ≠ 0 := fun q => hc_22 (by rw [q, nI_0])
          have hf := fsb_ok (lfs mt w k) (by omega) hne
          obtain ⟨mt1, mt2⟩ := hmt (lfs mt w k) (Nat.pos_of_ne_zero hne) (by omega)
          have hmm := hm (lfs mt w k) (Nat.pos_of_ne_zero hne) (by omega)
          have hfn : fsb (lfs mt w k) < nh := by
            rcases Nat.lt_or_ge (fsb (lfs mt w k)) nh with q | q
            · exact q
            · exact absurd hf.2.1 (by rw [Nat.testBit_lt_two_pow (Nat.lt_of_lt_of_le (show lfs mt w k < 2 ^ nh by omega) (Nat.pow_le_pow_right (by decide) q))]; decide)
          have ebs : bsC t1 (nl - 31) (fsb (lfs mt w k)) (mt (lfs mt w k)) = lvR t (nl - 31) mt w k := bsC_cong (fun x y hxy => p5 x y (by omega) (by omega) (by omega) (by omega)) hf.1 (by omega)
          refine g_iload (pc := 25) X dX0_keep_25 rfl ?_
          refine gm_Si (pc := 27) X xc_X0_49 (c_firstOf l G O _ (lfs mt w k) (by omega) hne) dX0_keep_27 rfl rfl rfl (Nat.le_of_ble_eq_true rfl) (fun v_27 t_27 hp => ?_)
          obtain ⟨rfl, hq9⟩ := hp
          have hq9 := hq9.symm
          subst hq9
          refine g_istore (pc := 30) X dX0_keep_30 (by decide) ?_
          refine g_aload_n (pc := 32) X dX0_keep_32 rfl rfl ?_
          refine g_iload (pc := 33) X dX0_keep_33 rfl ?_
          refine gm_Vi (pc := 35) X 4 xc_X0_53 (c_mateOfFirst l G O _ (lfs mt w k) w ew (by omega) hle) dX0_keep_35 rfl (by decide) rfl rfl rfl rfl (Nat.le_of_ble_eq_true rfl) (fun v_35 t_35 hp => ?_)
          obtain ⟨hv35, hq9⟩ := hp
          have hq9 := hq9.symm
          subst hq9
          rw [p5 54 _ (by decide) (by decide) (by decide) (by decide), mt1] at hv35
          subst hv35
          refine g_istore (pc := 38) X dX0_keep_38 (by decide) ?_
          refine g_aload_n (pc := 40) X dX0_keep_40 rfl rfl ?_
          refine g_aload_n (pc := 41) X dX0_keep_41 rfl rfl ?_
          refine g_iload (pc := 42) X dX0_keep_42 rfl ?_
          refine g_iload (pc := 44) X dX0_keep_44 rfl ?_
          refine gm_Vv (pc := 46) X 0 xc_X0_56 (c_addLeaf l G O _ nl nh k (fsb (lfs mt w k)) (mt (lfs mt w k)) hnl e4 hnh e6 hfn hmm.1 hkl p1 (by rw [ebs]; exact mt2)) dX0_keep_46 rfl (by decide) rfl rfl rfl rfl (Nat.le_of_ble_eq_true rfl) (fun t_46 hp => ?_)
          rw [ebs] at hp
          subst hp
          refine g_iload (pc := 49) X dX0_keep_49 rfl ?_
          refine g_iload (pc := 51) X dX0_keep_51 rfl ?_
          refine g_iload (pc := 53) X dX0_keep_53 rfl ?_
          refine gm_Si (pc := 55) X xc_X0_60 (c_without l G O _ (lfs mt w k) (fsb (lfs mt w k)) (mt (lfs mt w k)) (by omega) hf.1 (by omega)) dX0_keep_55 rfl rfl rfl (Nat.le_of_ble_eq_true rfl) (fun v_55 t_55 hp => ?_)
          obtain ⟨rfl, hq9⟩ := hp
          have hq9 := hq9.symm
          subst hq9
          refine g_istore (pc := 58) X dX0_keep_58 (by decide) ?_
          refine g_inc (pc := 60) (kv := 1) X dX0_keep_60 (by decide) rfl (by decide) ?_
          refine g_goto (pc := 63) (tgt := 13) X dX0_keep_63 (by decide) ?_
          refine g_wk 7 ?_
          refine g_wk 6 ?_
          exact ih (k + 1) _ _ _ (by omega) (nI_1 k) rfl (by omega) (fun j hj => by rcases Nat.lt_or_ge j k with q | q; exact h0 j q; rw [show j = k by omega]; exact hne) (kp_step hW hpw.1 hnh hm hkl (fun j hj => by rcases Nat.lt_or_ge j k with q | q; exact h0 j q; rw [show j = k by omega]; exact hne) hkp mt2)
  refine g_aload_n (pc := 0) X dX0_keep_0 rfl rfl ?_
  refine gm_Vv (pc := 1) X 0 xc_X0_40 (c_clear l G O _) dX0_keep_1 rfl (by decide) rfl rfl rfl rfl (Nat.le_of_ble_eq_true rfl) (fun t_1 hp => ?_)
  subst hp
  refine g_aload_n (pc := 4) X dX0_keep_4 rfl rfl ?_
  refine gm_Vi (pc := 5) X 4 xc_X0_43 (c_wholeSet l G O _) dX0_keep_5 rfl (by decide) rfl rfl rfl rfl (Nat.le_of_ble_eq_true rfl) (fun v_5 t_5 hp => ?_)
  obtain ⟨hw0, hq9⟩ := hp
  have hq9 := hq9.symm
  subst hq9
  rw [show ∀ v, xf (xt t 55 4 0) 58 8 v 43 3 = t 43 3 from fun v => by simp [xf, xt], hw] at hw0
  refine g_istore (pc := 8) X dX0_keep_8 (by decide) ?_
  refine g_iconst (pc := 10) (v := 0) X dX0_keep_10 (by decide) ?_
  refine g_istore (pc := 11) X dX0_keep_11 (by decide) ?_
  exact loop 9 0 _ _ _ (by omega) nI_0.symm (show _ = nI (lfs mt w 0) from hw0) (by omega) (fun j hj => absurd hj (Nat.not_lt_zero j)) ⟨by rw [show ∀ v, xf (xt t 55 4 0) 58 8 v 55 4 = xt t 55 4 0 55 4 from fun v => by simp [xf], xt_same, nI_0], fun j hj => absurd hj (Nat.not_lt_zero j), fun j hj => absurd hj (Nat.not_lt_zero j), fun h hh _ => by simp [xf, hh], fun x y q1 q2 q3 q4 => by rw [show xf (xt t 55 4 0) 58 8 (-1) x y = xt t 55 4 0 x y by simp [xf, q3], xt_nk _ _ _ _ q2]⟩

