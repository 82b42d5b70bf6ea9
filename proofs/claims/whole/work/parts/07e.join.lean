/-! 07e: costs, least sums, join -/
theorem nm1 {k : Nat} (h : k < 2 ^ 31) : ¬ nI k = -1 := by
  rw [i_eq, nI_toInt h, i_m1]; omega
theorem qo_val (F : Nat → Nat → Int32) (g : Nat → Int32) (u : Option Nat) (q p : Nat) : ∃ x, x ≤ 16 ∧ qo F g u q p = nI x := by
  cases u with
  | none => exact ⟨0, by omega, nI_0.symm⟩
  | some k => exact ⟨_, qn_le _ _ _ _ 16, rfl⟩
theorem fQ_val (F : Nat → Nat → Int32) (g : Nat → Int32) (u v : Option Nat) (p : Nat) : ∃ x, x ≤ 32 ∧ fQ F g u v p = nI x := by
  obtain ⟨x, hx, ex⟩ := qo_val F g u 0 p
  obtain ⟨y, hy, ey⟩ := qo_val F g v 1 p
  exact ⟨x + y, by omega, by unfold fQ; rw [ex, ey, nI_add]⟩
/-- the quarrels of a best: none, or a small number -/
theorem bsg_q {pt sd rl : Nat → Int32} {F : Nat → Nat → Int32} {g : Nat → Int32} {pl x y : Nat} : (bsg pt sd rl (fQ F g) pl x y (-1, -1, -1, -1)).2.2.2 = -1 ∨ ∃ n, n ≤ 32 ∧ (bsg pt sd rl (fQ F g) pl x y (-1, -1, -1, -1)).2.2.2 = nI n := by
  by_cases h : (bsg pt sd rl (fQ F g) pl x y (-1, -1, -1, -1)).2.2.2 = -1
  · exact Or.inl h
  · obtain ⟨u, v, p, hp, e, -⟩ := bsg_form rfl h
    rw [e]
    exact Or.inr (fQ_val F g u v p)
theorem cst_val {b : B4} {pr : Nat} (hpr : pr ≤ 99) (h : b.2.2.2 = -1 ∨ ∃ n, n ≤ 32 ∧ b.2.2.2 = nI n) : (cst b (nI pr) = -1 ∧ b.2.2.2 = -1) ∨ ∃ c, c ≤ 131 ∧ cst b (nI pr) = nI c ∧ ¬ b.2.2.2 = -1 := by
  unfold cst
  rcases h with h | ⟨n, hn, h⟩
  · exact Or.inl ⟨if_pos h, h⟩
  · have : ¬ b.2.2.2 = -1 := by rw [h]; exact nm1 (by omega)
    exact Or.inr ⟨n + pr, by omega, by rw [if_neg this, h, nI_add], this⟩
theorem tw_some {u l : Int32} {f : Nat → Int32} {b : B4} : ∀ {n : Nat}, 0 < n → (∀ p, p < n → ¬ f p = -1) → ¬ (tw u l f n b).2.2.2 = -1
  | 0, h, _ => absurd h (Nat.lt_irrefl 0)
  | n + 1, _, hf => by
    rw [tw.eq_2]
    split
    · exact hf n (by omega)
    · rename_i q
      exact fun e => q (Or.inl e)
theorem tw_keep {u l : Int32} {f : Nat → Int32} {b : B4} (hb : ¬ b.2.2.2 = -1) : ∀ {n : Nat}, (∀ p, p < n → ¬ f p = -1) → ¬ (tw u l f n b).2.2.2 = -1
  | 0, _ => hb
  | n + 1, hf => tw_some (by omega) hf
/-- a half alone can always be a leaf -/
theorem bs_one {pt sd rl : Nat → Int32} {F : Nat → Nat → Int32} {g : Nat → Int32} {pl a : Nat} (hpl : 0 < pl) (hp : pt a = 0 ∨ pt a = 1 ∨ pt a = 2) : ¬ (bsg pt sd rl (fQ F g) pl (min a a) (max a a) (-1, -1, -1, -1)).2.2.2 = -1 := by
  have hf : ∀ u v : Option Nat, ∀ p, p < pl → ¬ fQ F g u v p = -1 := fun u v p _ => by
    obtain ⟨x, hx, e⟩ := fQ_val F g u v p
    rw [e]; exact nm1 (by omega)
  rw [Nat.min_self, Nat.max_self]
  unfold bsg
  rw [if_pos rfl]
  by_cases h1 : mayb pt (some a) 1 = true
  · unfold trg
    rw [if_pos (show (mayb pt none 0 && mayb pt (some a) 1) = true by rw [h1]; rfl)]
    exact tw_some hpl (hf _ _)
  · have h0 : mayb pt (some a) 0 = true := by
      unfold mayb at h1 ⊢
      rw [decide_eq_true_eq] at h1 ⊢
      rcases hp with e | e | e
      · exact Or.inl e
      · exact absurd (Or.inl e) h1
      · exact Or.inr e
    have e1 : ∀ b, trg pt (fQ F g) pl none (some a) b = b := fun b => by
      unfold trg
      rw [if_neg (show ¬ (mayb pt none 0 && mayb pt (some a) 1) = true by intro q; rw [Bool.and_eq_true] at q; exact h1 q.2)]
    rw [e1]
    unfold trg
    rw [if_pos (show (mayb pt (some a) 0 && mayb pt none 1) = true by rw [h0]; rfl)]
    exact tw_some hpl (hf _ _)
theorem fsb_lt {s n : Nat} (hn : n ≤ 8) (h0 : s ≠ 0) (hs : s < 2 ^ n) : fsb s < n := by
  have hp := pow_le n hn
  have hf := fsb_ok s (by omega) h0
  rcases Nat.lt_or_ge (fsb s) n with q | q
  · exact q
  · exact absurd hf.2.1 (by rw [Nat.testBit_lt_two_pow (Nat.lt_of_lt_of_le hs (Nat.pow_le_pow_right (by decide) q))]; decide)
/-- where the least sum stands: none can be, or the first mate of the least -/
theorem sst_inv {C T : Nat → Int32} {s f : Nat} : ∀ {m : Nat}, (∀ j, f ≤ j → j < m → s.testBit j = true → ¬ C j = -1 → ¬ C j + T (wo s f j) = -1) →
    (sst C T s f m (-1, -1) = (-1, -1) ∧ ∀ j, f ≤ j → j < m → s.testBit j = true → C j = -1) ∨
    ∃ b, f ≤ b ∧ b < m ∧ s.testBit b = true ∧ ¬ C b = -1 ∧ sst C T s f m (-1, -1) = (C b + T (wo s f b), nI b) ∧ (∀ j, f ≤ j → j < m → s.testBit j = true → ¬ C j = -1 → C b + T (wo s f b) ≤ C j + T (wo s f j)) ∧ (∀ j, f ≤ j → j < b → s.testBit j = true → ¬ C j = -1 → C b + T (wo s f b) < C j + T (wo s f j))
  | 0, _ => Or.inl ⟨rfl, fun j _ h => absurd h (Nat.not_lt_zero j)⟩
  | m + 1, hS => by
    have ih := sst_inv (C := C) (T := T) (s := s) (f := f) (m := m) (fun j a b => hS j a (by omega))
    rw [sst.eq_2]
    by_cases q : f ≤ m ∧ s.testBit m = true ∧ ¬ C m = -1
    · rw [if_pos q]
      rcases ih with ⟨e, hno⟩ | ⟨b, hb1, hb2, hb3, hb4, e, hle, hlt⟩
      · rw [e, if_pos (Or.inl rfl)]
        refine Or.inr ⟨m, q.1, by omega, q.2.1, q.2.2, rfl, fun j a c d e2 => ?_, fun j a c d e2 => absurd (hno j a c d) e2⟩
        by_cases r : j = m
        · rw [r]; exact Int32.le_refl _
        · exact absurd (hno j a (by omega) d) e2
      · rw [e]
        by_cases q2 : C m + T (wo s f m) < C b + T (wo s f b)
        · rw [if_pos (Or.inr q2)]
          refine Or.inr ⟨m, q.1, by omega, q.2.1, q.2.2, rfl, fun j a c d e2 => ?_, fun j a c d e2 => ?_⟩
          · by_cases r : j = m
            · rw [r]; exact Int32.le_refl _
            · have := hle j a (by omega) d e2
              rw [i_le] at this ⊢; rw [i_lt] at q2; omega
          · have := hle j a c d e2
            rw [i_le] at this; rw [i_lt] at q2 ⊢; omega
        · rw [if_neg (by rintro (r | r); exact hS b hb1 (by omega) hb3 hb4 r; exact q2 r)]
          refine Or.inr ⟨b, hb1, by omega, hb3, hb4, rfl, fun j a c d e2 => ?_, hlt⟩
          by_cases r : j = m
          · rw [r]; exact k2_le q2
          · exact hle j a (by omega) d e2
    · rw [if_neg q]
      rcases ih with ⟨e, hno⟩ | ⟨b, hb1, hb2, hb3, hb4, e, hle, hlt⟩
      · refine Or.inl ⟨e, fun j a c d => ?_⟩
        by_cases r : j = m
        · subst r
          by_cases z : C j = -1
          · exact z
          · exact absurd ⟨a, d, z⟩ q
        · exact hno j a (by omega) d
      · refine Or.inr ⟨b, hb1, by omega, hb3, hb4, e, fun j a c d e2 => ?_, hlt⟩
        by_cases r : j = m
        · subst r; exact absurd ⟨a, d, e2⟩ q
        · exact hle j a (by omega) d e2
def costOK (C : Nat → Nat → Int32) (n : Nat) : Prop := (∀ a b, a ≤ b → b < n → C a b = -1 ∨ ∃ c, c ≤ 131 ∧ C a b = nI c) ∧ ∀ a, a < n → ¬ C a a = -1
/-- the mate of the first half of a set -/
def mtf (C : Nat → Nat → Int32) (n s : Nat) : Nat := (dm C n s).2.toNatClampNeg
/-- least sums are small numbers; mates -/
theorem dp_all {C : Nat → Nat → Int32} {n : Nat} (hn : n ≤ 8) (hC : costOK C n) : ∀ s, s < 2 ^ n → (∃ d, d ≤ 131 * s ∧ dp C n s = nI d) ∧ (s ≠ 0 → (dm C n s).2 = nI (mtf C n s) ∧ fsb s ≤ mtf C n s ∧ mtf C n s < n ∧ s.testBit (mtf C n s) = true ∧ ¬ C (fsb s) (mtf C n s) = -1 ∧ dp C n s = C (fsb s) (mtf C n s) + dp C n (wo s (fsb s) (mtf C n s)) ∧
    (∀ j, fsb s ≤ j → j < n → s.testBit j = true → ¬ C (fsb s) j = -1 → dp C n s ≤ C (fsb s) j + dp C n (wo s (fsb s) j)) ∧ (∀ j, fsb s ≤ j → j < mtf C n s → s.testBit j = true → ¬ C (fsb s) j = -1 → dp C n s < C (fsb s) j + dp C n (wo s (fsb s) j))) := by
  have hp := pow_le n hn
  intro s
  induction s using Nat.strongRecOn with
  | _ s ih =>
    intro hs
    by_cases h0 : s = 0
    · subst h0
      exact ⟨⟨0, by omega, by rw [dp_0, nI_0]⟩, fun q => absurd rfl q⟩
    · have hf := fsb_ok s (by omega) h0
      have hfn := fsb_lt hn h0 hs
      have hval : ∀ j, fsb s ≤ j → j < n → s.testBit j = true → ¬ C (fsb s) j = -1 → ∃ c d, c ≤ 131 ∧ d ≤ 131 * (s - 1) ∧ C (fsb s) j = nI c ∧ dp C n (wo s (fsb s) j) = nI d := by
        intro j h1 h2 h3 h4
        have hlt := wo_lt (s := s) (b := j) hf.1 (by omega) hf.2.1
        obtain ⟨⟨d, hd, ed⟩, -⟩ := ih _ hlt (by omega)
        rcases hC.1 (fsb s) j h1 h2 with q | ⟨c, hc, ec⟩
        · exact absurd q h4
        · exact ⟨c, d, hc, by omega, ec, ed⟩
      have hne : ∀ j, fsb s ≤ j → j < n → s.testBit j = true → ¬ C (fsb s) j = -1 → ¬ C (fsb s) j + dp C n (wo s (fsb s) j) = -1 := by
        intro j h1 h2 h3 h4
        obtain ⟨c, d, hc, hd, ec, ed⟩ := hval j h1 h2 h3 h4
        rw [ec, ed, nI_add]; exact nm1 (by omega)
      rcases sst_inv (C := C (fsb s)) (T := dp C n) (s := s) (f := fsb s) (m := n) hne with ⟨-, hno⟩ | ⟨b, hb1, hb2, hb3, hb4, e, hle, hlt⟩
      · exact absurd (hno (fsb s) (Nat.le_refl _) hfn hf.2.1) (hC.2 _ hfn)
      · have e2 : dm C n s = (C (fsb s) b + dp C n (wo s (fsb s) b), nI b) := e
        have em : mtf C n s = b := by unfold mtf; rw [e2]; exact nI_clamp (by omega)
        have e1 : dp C n s = C (fsb s) b + dp C n (wo s (fsb s) b) := by rw [dp_dm C (by omega) h0 hn, e2]
        obtain ⟨c, d, hc, hd, ec, ed⟩ := hval b hb1 hb2 hb3 hb4
        refine ⟨⟨c + d, by omega, by rw [e1, ec, ed, nI_add]⟩, fun _ => ?_⟩
        rw [em]
        exact ⟨by rw [e2], hb1, hb2, hb3, hb4, e1, fun j a b1 c1 d1 => by rw [e1]; exact hle j a b1 c1 d1, fun j a b1 c1 d1 => by rw [e1]; exact hlt j a b1 c1 d1⟩
theorem dp_cong {C D : Nat → Nat → Int32} {n : Nat} (hn : n ≤ 8) (h : ∀ a b, a ≤ b → b < n → C a b = D a b) : ∀ s, s < 2 ^ n → dp C n s = dp D n s ∧ dm C n s = dm D n s := by
  have hp := pow_le n hn
  intro s
  induction s using Nat.strongRecOn with
  | _ s ih =>
    intro hs
    by_cases h0 : s = 0
    · subst h0
      refine ⟨by rw [dp_0, dp_0], ?_⟩
      have e : fsb 0 = 8 := by decide
      unfold dm
      rw [e, sst_low (by omega), sst_low (by omega)]
    · have hf := fsb_ok s (by omega) h0
      have e : dm C n s = dm D n s := sst_cong (fun j a b => h _ j a b) (fun j a b c => (ih _ (wo_lt hf.1 (by omega) hf.2.1) (by have := wo_le s (fsb s) j; omega)).1)
      exact ⟨by rw [dp_dm C (by omega) h0 hn, dp_dm D (by omega) h0 hn, e], e⟩
/-- costs of the halves of a state -/
abbrev CQ (t : xT) (pl pr : Nat) : Nat → Nat → Int32 := fun a b => cst (bsQ t pl a b) (nI pr)
theorem CQ_ok {t : xT} {pl pr n : Nat} (hpr : pr ≤ 99) (hpl : 0 < pl) (hpt : ∀ a, a < n → t (8 + 2 * a) 0 = 0 ∨ t (8 + 2 * a) 0 = 1 ∨ t (8 + 2 * a) 0 = 2) : costOK (CQ t pl pr) n ∧ ∀ a b, ¬ CQ t pl pr a b = -1 → ¬ (bsQ t pl a b).2.2.2 = -1 := by
  refine ⟨⟨fun a b _ _ => ?_, fun a ha => ?_⟩, fun a b h => ?_⟩
  · rcases cst_val (b := bsQ t pl a b) hpr bsg_q with h | ⟨c, hc, e, -⟩
    · exact Or.inl h.1
    · exact Or.inr ⟨c, hc, e⟩
  · rcases cst_val (b := bsQ t pl a a) hpr bsg_q with h | ⟨c, hc, e, -⟩
    · exact absurd h.2 (bs_one hpl (hpt a ha))
    · rw [show CQ t pl pr a a = nI c from e]; exact nm1 (by omega)
  · rcases cst_val (b := bsQ t pl a b) hpr bsg_q with q | ⟨c, hc, e, q⟩
    · exact absurd q.1 h
    · exact q
abbrev manyQ (t : xT) (pl : Nat) (R : B4) : Int32 := nI (cn (fQ (lsC t) (t 5) (uo R.1) (uo R.2.1)) R.2.2.2 pl)
def lfQ (t t1 : xT) (pl j : Nat) (R : B4) : Prop := t1 (68 + j) 0 = R.1 ∧ t1 (68 + j) 1 = R.2.1 ∧ t1 (68 + j) 2 = R.2.2.1 ∧ t1 (68 + j) 3 = R.2.2.2 ∧ t1 (68 + j) 4 = manyQ t pl R ∧ t1 (68 + j) 5 = nI pl ∧ t1 (68 + j) 6 = frtC t R
abbrev lvQ (t : xT) (pl : Nat) (mt : Nat → Nat) (w j : Nat) : B4 := bsQ t pl (fsb (lfs mt w j)) (mt (lfs mt w j))
/-- what join leaves of the class -/
def jnE (t t1 : xT) (pl nh : Nat) (mt : Nat → Nat) (w k : Nat) : Prop :=
  t1 55 4 = nI k ∧ (∀ j, j < k → lfQ t t1 pl j (lvQ t pl mt w j)) ∧ (∀ j, j < k → t1 58 (fsb (lfs mt w j)) = nI j ∧ t1 58 (mt (lfs mt w j)) = nI j) ∧
  (∀ h, h < 8 → (∀ j, j < k → h ≠ fsb (lfs mt w j) ∧ h ≠ mt (lfs mt w j)) → t1 58 h = -1) ∧ (∀ i, i < k → t1 57 i = oi (fun v => (lvQ t pl mt w v.toNatClampNeg).2.2.1) k (fun _ => 0) i) ∧
  (∀ h, h < nh → ∀ y, y < 16 → t1 (60 + h) y = t (9 + 2 * h) y) ∧ ∀ x y, (x < 24 ∨ x = 42 ∨ 76 ≤ x) → t1 x y = t x y
set_option maxRecDepth 100000 in
set_option maxHeartbeats 4000000 in
theorem c_join (l : Launch) (G : xg_G) (O : Heap) (t : xT) (nl nh pr : Nat) (hnl : nl ≤ 160) (h4 : t 4 1 = nI nl) (hlet : ∀ i, i < nl → ∃ c, c < 16 ∧ t 5 i = nI c) (hnh : nh ≤ 8) (h6 : t 6 1 = nI nh) (h42 : ∀ p, p < 129 → t 42 p = 0) (hpr : pr ≤ 99) (h7 : t 0 7 = nI pr) (hpt : ∀ a, a < nh → t (8 + 2 * a) 0 = 0 ∨ t (8 + 2 * a) 0 = 1 ∨ t (8 + 2 * a) 0 = 2) : xm l yX8_join cX8_join 1 (some .int) rmX8_join G O t [.ref (O.size + 0)] (xi (fun v t' => (¬ (nh ≠ 0 ∧ 32 ≤ nl) → v = -1 ∧ t' = t) ∧ (nh ≠ 0 → 32 ≤ nl → v = dp (CQ t (nl - 31) pr) nh (2 ^ nh - 1) ∧ ∃ k, k ≤ 8 ∧ lfs (mtf (CQ t (nl - 31) pr) nh) (2 ^ nh - 1) k = 0 ∧ (∀ j, j < k → lfs (mtf (CQ t (nl - 31) pr) nh) (2 ^ nh - 1) j ≠ 0) ∧ jnE t t' (nl - 31) nh (mtf (CQ t (nl - 31) pr) nh) (2 ^ nh - 1) k))) := by
  refine xm_enter (by decide) 0 rfl rfl ?_
  intro p e s m args below meth c X hr hk
  refine g_eq (L2 := [some (.ref (O.size + 0))]) rfl rfl rfl ?_
  refine g_aload_n (pc := 0) X dX8_join_0 rfl rfl ?_
  refine gm_getR (k' := 6) (pc := 1) (j := 3) X 8 dX8_join_1 rfl (by decide) rfl xu_8 (by decide) rfl xw_268 rfl rfl ?_
  refine gm_getI (pc := 4) (j := 1) X 2 dX8_join_4 rfl (by decide) rfl xu_2 (by decide) rfl xw_138 rfl ?_
  refine g_if_eq (pc := 7) (tgt := 20) X dX8_join_7 (by decide) (fun hc_7 => ?_) (fun hc_7 => ?_)
  · refine g_iconst (pc := 20) (v := (-1)) X dX8_join_20 (by decide) ?_
    exact gm_iret (pc := 21) X hr hk dX8_join_21 (⟨fun _ => ⟨rfl, rfl⟩, fun q => absurd (by rw [h6] at hc_7; rcases Nat.eq_zero_or_pos nh with z | z; exact z; exact absurd hc_7 (nI_ne0 z (by omega))) q⟩)
  · refine g_aload_n (pc := 10) X dX8_join_10 rfl rfl ?_
    refine gm_getR (k' := 4) (pc := 11) (j := 2) X 8 dX8_join_11 rfl (by decide) rfl xu_8 (by decide) rfl xw_267 rfl rfl ?_
    refine gm_Vi (pc := 14) X 7 xc_X8_118 (c_places l G O _ nl hnl h4) dX8_join_14 rfl (by decide) rfl rfl rfl rfl (Nat.le_of_ble_eq_true rfl) (fun v_14 t_14 hp => ?_)
    obtain ⟨rfl, hq9⟩ := hp
    have hq9 := hq9.symm
    subst hq9
    refine g_if_ne (pc := 17) (tgt := 22) X dX8_join_17 (by decide) (fun hc_17 => ?_) (fun hc_17 => ?_)
    · have hn0 : nh ≠ 0 := fun q => hc_7 (by rw [h6, q, nI_0])
      have hl32 : 32 ≤ nl := by rcases Nat.lt_or_ge nl 32 with q | q; exact absurd (by rw [show nl - 31 = 0 by omega, nI_0]) hc_17; exact q
      have hpw := pow_le nh hnh
      obtain ⟨hC, hCq⟩ := CQ_ok (t := t) (pl := nl - 31) (pr := pr) (n := nh) hpr (by omega) hpt
      have hall := dp_all hnh hC
      generalize hTe : xwa t (nl - 31) nh = T
      have eT : ∀ x y, (x < 26 ∨ 42 ≤ x) → T x y = t x y := fun x y q => by rw [← hTe, xwa_ne t (by omega)]
      have eR : ∀ k, k < nh → ∀ q, q < 2 → ∀ p, p < nl - 31 → T (26 + (2 * k + q)) p = nI (qn (t (9 + 2 * k)) (t 5) q p 16) := fun k hk1 q hq p hp1 => by rw [← hTe]; exact xwa_row t hq (by omega) hp1 hk1 hnh
      have eB : ∀ a b, a < nh → b < nh → bsC T (nl - 31) a b = bsQ t (nl - 31) a b := fun a b ha hb => bsC_Q (fun x y q => eT x y (by omega)) (fun p hp1 => by rw [eT 42 p (by omega)]; exact h42 p (by omega)) (by omega) (by omega) (fun k hk1 => eR k (by omega))
      have eD := dp_cong (C := CC T (nl - 31) (nI pr)) (D := CQ t (nl - 31) pr) hnh (fun a b h1 h2 => by show cst (bsC T (nl - 31) a b) (nI pr) = cst (bsQ t (nl - 31) a b) (nI pr); rw [eB a b (by omega) h2])
      refine g_aload_n (pc := 22) X dX8_join_22 rfl rfl ?_
      refine gm_getR (k' := 3) (pc := 23) (j := 1) X 8 dX8_join_23 rfl (by decide) rfl xu_8 (by decide) rfl xw_266 rfl rfl ?_
      refine gm_Vv (pc := 26) X 5 xc_X8_147 (c_weighAll l G O _ nl nh hnl h4 hlet hnh h6) dX8_join_26 rfl (by decide) rfl rfl rfl rfl (Nat.le_of_ble_eq_true rfl) (fun t_26 hp => ?_)
      rw [hTe] at hp
      have hp := hp.symm
      subst hp
      refine g_aload_n (pc := 29) X dX8_join_29 rfl rfl ?_
      refine gm_getR (k' := 43) (pc := 30) (j := 4) X 8 dX8_join_30 rfl (by decide) rfl xu_8 (by decide) rfl xw_269 rfl rfl ?_
      refine g_aload_n (pc := 33) X dX8_join_33 rfl rfl ?_
      refine gm_getR (k' := 3) (pc := 34) (j := 1) X 8 dX8_join_34 rfl (by decide) rfl xu_8 (by decide) rfl xw_266 rfl rfl ?_
      refine g_aload_n (pc := 37) X dX8_join_37 rfl rfl ?_
      refine gm_getR (k' := 6) (pc := 38) (j := 3) X 8 dX8_join_38 rfl (by decide) rfl xu_8 (by decide) rfl xw_268 rfl rfl ?_
      refine gm_getI (pc := 41) (j := 1) X 2 dX8_join_41 rfl (by decide) rfl xu_2 (by decide) rfl xw_138 rfl ?_
      refine g_aload_n (pc := 44) X dX8_join_44 rfl rfl ?_
      refine gm_getI (pc := 45) (j := 7) X 8 dX8_join_45 rfl (by decide) rfl xu_8 (by decide) rfl xw_272 rfl ?_
      rw [eT 6 1 (by omega), h6, eT 0 7 (by omega), h7]
      refine gm_Vv (pc := 48) X 4 xc_X8_150 (c_settle l G O _ nl nh (nI pr) hnl (by rw [eT 4 1 (by omega)]; exact h4) hnh (by rw [eT 6 1 (by omega)]; exact h6)) dX8_join_48 rfl (by decide) rfl rfl rfl rfl (Nat.le_of_ble_eq_true rfl) (fun t_48 hp => ?_)
      obtain ⟨s1, s2, s3, s4⟩ := hp
      generalize t_48 = T1 at *
      have sB : ∀ a b, a < nh → b < nh → bsC T1 (nl - 31) a b = bsQ t (nl - 31) a b := fun a b ha hb => by rw [bsC_cong (t := T) (fun x y q => s4 x y (by omega) (by omega) (by omega)) (by omega) (by omega)]; exact eB a b ha hb
      have hm : mtOK (mtf (CQ t (nl - 31) pr) nh) nh (2 ^ nh) := fun s h0 h1 => by
        obtain ⟨-, q2⟩ := hall s h1
        have := q2 (by omega)
        exact ⟨this.2.2.1, this.2.2.2.1⟩
      have hmt : ∀ s, 0 < s → s < 2 ^ nh → T1 54 s = nI (mtf (CQ t (nl - 31) pr) nh s) ∧ ¬ (bsC T1 (nl - 31) (fsb s) (mtf (CQ t (nl - 31) pr) nh s)).2.2.2 = -1 := fun s h0 h1 => by
        obtain ⟨⟨d, hd, ed⟩, q2⟩ := hall s h1
        have q2 := q2 (by omega)
        have e1 := eD s h1
        refine ⟨?_, ?_⟩
        · rw [s3 s h0 h1 (by rw [e1.1, ed]; exact nm1 (by omega)), e1.2]; exact q2.1
        · rw [sB _ _ (fsb_lt hnh (by omega) h1) q2.2.2.1]; exact hCq _ _ q2.2.2.2.2.1
      refine g_aload_n (pc := 51) X dX8_join_51 rfl rfl ?_
      refine gm_getR (k' := 55) (pc := 52) (j := 5) X 8 dX8_join_52 rfl (by decide) rfl xu_8 (by decide) rfl xw_270 rfl rfl ?_
      refine g_aload_n (pc := 55) X dX8_join_55 rfl rfl ?_
      refine gm_getR (k' := 3) (pc := 56) (j := 1) X 8 dX8_join_56 rfl (by decide) rfl xu_8 (by decide) rfl xw_266 rfl rfl ?_
      refine g_aload_n (pc := 59) X dX8_join_59 rfl rfl ?_
      refine gm_getR (k' := 43) (pc := 60) (j := 4) X 8 dX8_join_60 rfl (by decide) rfl xu_8 (by decide) rfl xw_269 rfl rfl ?_
      refine g_aload_n (pc := 63) X dX8_join_63 rfl rfl ?_
      refine gm_getR (k' := 6) (pc := 64) (j := 3) X 8 dX8_join_64 rfl (by decide) rfl xu_8 (by decide) rfl xw_268 rfl rfl ?_
      refine gm_Vv (pc := 67) X 0 xc_X8_154 (c_keep l G O _ nl nh (mtf (CQ t (nl - 31) pr) nh) hnl (by rw [s4 4 1 (by decide) (by decide) (by decide), eT 4 1 (by omega)]; exact h4) hnh (by rw [s4 6 1 (by decide) (by decide) (by decide), eT 6 1 (by omega)]; exact h6) s1 hm hmt) dX8_join_67 rfl (by decide) rfl rfl rfl rfl (Nat.le_of_ble_eq_true rfl) (fun t_67 hp => ?_)
      obtain ⟨k, hk8, hz, h0, p1, p2, p3, p4, p5, p6, p7⟩ := hp
      generalize t_67 = T2 at *
      refine g_aload_n (pc := 70) X dX8_join_70 rfl rfl ?_
      refine gm_getR (k' := 43) (pc := 71) (j := 4) X 8 dX8_join_71 rfl (by decide) rfl xu_8 (by decide) rfl xw_269 rfl rfl ?_
      refine gm_Vi (pc := 74) X 4 xc_X8_158 (c_sum l G O _ (2 ^ nh - 1) (by omega) (by rw [p7 43 3 (by decide) (by decide) (by decide) (by decide) (by decide)]; exact s1)) dX8_join_74 rfl (by decide) rfl rfl rfl rfl (Nat.le_of_ble_eq_true rfl) (fun v_74 t_74 hp => ?_)
      obtain ⟨rfl, hq9⟩ := hp
      have hq9 := hq9.symm
      subst hq9
      refine gm_iret (pc := 77) X hr hk dX8_join_77 (⟨fun q => absurd ⟨hn0, hl32⟩ q, fun _ _ => ⟨by rw [p7 53 _ (by decide) (by decide) (by decide) (by decide) (by decide), s2 _ (by omega), (eD _ (by omega)).1], k, hk8, hz, h0, ?_⟩⟩)
      have hle := lfs_le (mtf (CQ t (nl - 31) pr) nh) (2 ^ nh - 1)
      have hfj : ∀ j, j < k → fsb (lfs (mtf (CQ t (nl - 31) pr) nh) (2 ^ nh - 1) j) < nh ∧ mtf (CQ t (nl - 31) pr) nh (lfs (mtf (CQ t (nl - 31) pr) nh) (2 ^ nh - 1) j) < nh := fun j hj => by
        have := hle j
        exact ⟨fsb_lt hnh (h0 j hj) (by omega), (hm _ (Nat.pos_of_ne_zero (h0 j hj)) (by omega)).1⟩
      have eV : ∀ j, j < k → lvR T1 (nl - 31) (mtf (CQ t (nl - 31) pr) nh) (2 ^ nh - 1) j = lvQ t (nl - 31) (mtf (CQ t (nl - 31) pr) nh) (2 ^ nh - 1) j := fun j hj => sB _ _ (hfj j hj).1 (hfj j hj).2
      refine ⟨p1, fun j hj => ?_, p3, p4, fun i hi => ?_, fun h hh y hy => ?_, fun x y hx => ?_⟩
      · have a := p2 j hj
        rw [eV j hj] at a
        have hne : ¬ (lvQ t (nl - 31) (mtf (CQ t (nl - 31) pr) nh) (2 ^ nh - 1) j).2.2.2 = -1 := by
          have := hle j
          rw [← eV j hj]; exact (hmt _ (Nat.pos_of_ne_zero (h0 j hj)) (by omega)).2
        obtain ⟨u, v, pp, hpp, eRR, hu, hv, huv⟩ := bs_uv (c := (-1, -1, -1, -1)) rfl (hfj j hj).1 (hfj j hj).2 hnh hne
        have eR2 : lvQ t (nl - 31) (mtf (CQ t (nl - 31) pr) nh) (2 ^ nh - 1) j = (ov u, ov v, nI pp, fQ (lsC t) (t 5) u v pp) := eRR
        have hu8 : ∀ k, u = some k → k < 8 := fun k h => by have := hu k h; omega
        have hv8 : ∀ k, v = some k → k < 8 := fun k h => by have := hv k h; omega
        unfold lfAt at a
        unfold lfQ
        generalize lvQ t (nl - 31) (mtf (CQ t (nl - 31) pr) nh) (2 ^ nh - 1) j = R at *
        have uu : uo R.1 = u := by rw [eR2]; exact uo_ov hu8
        have vv : uo R.2.1 = v := by rw [eR2]; exact uo_ov hv8
        have hmx : mx u v < 8 := by
          rcases (ov_max hu8 hv8 huv).2 with q | q
          · exact hu8 _ q
          · exact hv8 _ q
        have f1 : manyC T1 (nl - 31) R = manyQ t (nl - 31) R := by
          show nI (cn (fC T1 (uo R.1) (uo R.2.1)) _ _) = nI (cn (fQ (lsC t) (t 5) (uo R.1) (uo R.2.1)) _ _)
          rw [uu, vv]
          refine congrArg nI (cn_cong (fun p hp1 => ?_))
          rw [fC_cong (t := T) (fun x y q => s4 x y (by omega) (by omega) (by omega)) hu8 hv8]
          have e1 : ∀ (w : Option Nat) (q : Nat), q < 2 → (∀ k, w = some k → k < nh) → T (rcell w q) p = qo (lsC t) (t 5) w q p := by
            intro w q hq hw
            cases w with
            | none => show T 42 p = 0; rw [eT 42 p (by omega)]; exact h42 p (by omega)
            | some k => exact eR k (hw k rfl) q hq p hp1
          show T (rcell u 0) p + T (rcell v 1) p = _
          rw [e1 u 0 (by decide) hu, e1 v 1 (by decide) hv]; rfl
        have f2 : frtC T1 R = frtC t R := by
          show T1 (8 + 2 * mx (uo R.1) (uo R.2.1)) 1 = t (8 + 2 * mx (uo R.1) (uo R.2.1)) 1
          rw [uu, vv, s4 _ _ (by omega) (by omega) (by omega), eT _ _ (by omega)]
        rw [f1, f2] at a
        exact a
      · rw [p5 i hi]
        refine oi_cong (fun j hj => ?_) i hi
        show (lvR T1 _ _ _ (nI j).toNatClampNeg).2.2.1 = (lvQ t _ _ _ (nI j).toNatClampNeg).2.2.1
        rw [nI_clamp (by omega), eV j hj]
      · rw [p6 h hh y hy, s4 _ _ (by omega) (by omega) (by omega), eT _ _ (by omega)]
      · rw [p7 x y (by omega) (by omega) (by omega) (by omega) (by omega), s4 x y (by omega) (by omega) (by omega), eT x y (by omega)]
    · refine g_iconst (pc := 20) (v := (-1)) X dX8_join_20 (by decide) ?_
      exact gm_iret (pc := 21) X hr hk dX8_join_21 (⟨fun _ => ⟨rfl, rfl⟩, fun _ q => absurd hc_17 (nI_ne0 (by omega) (by omega))⟩)

