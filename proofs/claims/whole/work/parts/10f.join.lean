/-! 10f: pairs of calls: join -/
theorem lfs_cong {m1 m2 : Nat → Nat} {w : Nat} (h : ∀ s, s ≤ w → m1 s = m2 s) : ∀ k, lfs m1 w k = lfs m2 w k
  | 0 => rfl
  | k + 1 => by
    rw [lfs.eq_2, lfs.eq_2, lfs_cong h k, h _ (lfs_le m2 w k)]
theorem lfs_cover {mt : Nat → Nat} {w n W h : Nat} (hW : w < W) (hw : W ≤ 256) (hn : n ≤ 8) (hm : mtOK mt n W) (hh : h < 8) (hb : w.testBit h = true) : ∀ {k : Nat}, (∀ j, j < k → lfs mt w j ≠ 0) → (∀ j, j < k → h ≠ fsb (lfs mt w j) ∧ h ≠ mt (lfs mt w j)) → (lfs mt w k).testBit h = true
  | 0, _, _ => hb
  | k + 1, h0, h1 => by
    have ih := lfs_cover hW hw hn hm hh hb (k := k) (fun j hj => h0 j (by omega)) (fun j hj => h1 j (by omega))
    have h2 := h1 k (by omega)
    rw [lfs_step hW hw hn hm (h0 k (by omega)) h hh, ih]
    simp [h2.1, h2.2]
theorem all_bits : ∀ n, n ≤ 8 → ∀ h, h < n → (2 ^ n - 1).testBit h = true := by decide
theorem join_J {t t1 t2 : xT} {nl nh j : Nat} {a b : Nat} {R : B4} (W : relW t nl) (H : relH t nh) (e76 : ∀ x y, 76 ≤ x → t1 x y = t x y) (ha : a < nh) (hb : b < nh) (eR : bsQ t (nl - 31) a b = R) (hR : ¬ R.2.2.2 = -1) (h1 : lfQ t t1 (nl - 31) j R) (h2 : lfN t1 t2 (nl - 31) j R) (ex : ∀ x y, x < 76 → t2 x y = t1 x y) (e80 : ∀ y, t2 80 y = t 80 y) (e5 : ∀ y, t2 5 y = t 5 y) (e27 : t2 76 27 = nI (nl - 31)) (hj : j < 8) :
    t2 85 j = t2 (68 + j) 0 ∧ t2 86 j = t2 (68 + j) 1 ∧ t2 87 j = t2 (68 + j) 2 ∧ t2 88 j = t2 (68 + j) 3 ∧ t2 89 j = t2 (68 + j) 4 ∧ t2 76 27 = t2 (68 + j) 5 ∧ (∃ h, h < nh ∧ (if t2 85 j = -1 then t2 86 j else t2 85 j) = nI h ∧ t2 (68 + j) 6 = t2 80 h) ∧
    ∃ p, p + 32 ≤ nl ∧ t2 (68 + j) 2 = nI p ∧ ∀ h, h = a ∨ h = b → ∀ s, s < 16 → t2 91 (16 * h + s) = t2 5 (p + la (if nI h = t2 (68 + j) 0 then 0 else 1) s) := by
  subst eR
  have hle := H.le
  have hlw := W.le
  obtain ⟨u, v, p, hp, e, hu, hv, hn0, huv, ua, ub⟩ := bs_uv2 (pt := ptC t) (sd := sdC t) (rl := rlC t) (F := fQ (lsC t) (t 5)) (pl := nl - 31) (a := a) (b := b) (c := (-1, -1, -1, -1)) rfl hR
  have hu' : ∀ i, u = some i → i < nh := fun i hi => by rcases hu i hi with rfl | rfl <;> assumption
  have hv' : ∀ i, v = some i → i < nh := fun i hi => by rcases hv i hi with rfl | rfl <;> assumption
  have e' : bsQ t (nl - 31) a b = (ov u, ov v, nI p, fQ (lsC t) (t 5) u v p) := e
  rw [e'] at h1 h2
  obtain ⟨c0, c1, c2, c3, c4, c5, c6⟩ := h1
  obtain ⟨m0, m1, m2, m3, m4, m5, m6⟩ := h2
  have uu : uo (ov u) = u := uo_ov (fun i hi => by have := hu' i hi; omega)
  have vv : uo (ov v) = v := uo_ov (fun i hi => by have := hv' i hi; omega)
  have c4' : t1 (68 + j) 4 = nI (cn (fQ (lsC t) (t 5) (uo (ov u)) (uo (ov v))) (fQ (lsC t) (t 5) u v p) (nl - 31)) := c4
  have c6' : t1 (68 + j) 6 = t (8 + 2 * mx (uo (ov u)) (uo (ov v))) 1 := c6
  rw [uu, vv] at c4' c6'
  simp only [uu, vv] at m4 m5 m6
  have eL : ∀ q s, q < 2 → s < 16 → t1 78 ((nI p).toNatClampNeg + la q s) = t2 5 (p + la q s) := fun q s hq hs => by
    have := la_lt q hq s hs
    rw [nI_clamp (by omega), e76 _ _ (by omega), W.e _ (by omega), e5]
  refine ⟨?_, ?_, ?_, ?_, ?_, ?_, ?_, p, by omega, ?_, ?_⟩
  · rw [m0, ex _ _ (by omega), c0]
  · rw [m1, ex _ _ (by omega), c1]
  · rw [m2, ex _ _ (by omega), c2]
  · rw [m3, ex _ _ (by omega), c3]
  · rw [m4, ex _ _ (by omega), c4']
    exact congrArg nI (cn_cong (fun p hp => (fQ_rel W H e76 hu' hv' hp).symm))
  · rw [e27, ex _ _ (by omega), c5]
  · rw [m0, m1, ex _ _ (by omega), c6']
    show ∃ h, h < nh ∧ (if ov u = -1 then ov v else ov u) = nI h ∧ _
    cases hue : u with
    | none =>
      cases hve : v with
      | none => rw [hue, hve] at hn0; rcases hn0 with z | z <;> exact absurd rfl z
      | some y =>
        have hy := hv' y hve
        refine ⟨y, hy, if_pos rfl, ?_⟩
        rw [e80, H.s y hy]; rfl
    | some x =>
      have hx := hu' x hue
      refine ⟨x, hx, if_neg (nI_nm1 x (by omega)), ?_⟩
      rw [e80, H.s x hx]
      cases hve : v with
      | none => rfl
      | some y =>
        have hxy := (huv x y hue hve).2
        show t (8 + 2 * max x y) 1 = t (8 + 2 * x) 1
        rcases Nat.le_total x y with z | z
        · rw [Nat.max_eq_right z]; exact hxy.symm
        · rw [Nat.max_eq_left z]
  · rw [ex _ _ (by omega), c2]
  · intro h hab s hs
    have hh : h < nh := by rcases hab with rfl | rfl <;> assumption
    have huh : u = some h ∨ v = some h := by rcases hab with rfl | rfl; exact ua; exact ub
    rw [ex (68 + j) 0 (by omega), c0]
    show _ = t2 5 (p + la (if nI h = ov u then 0 else 1) s)
    by_cases q : u = some h
    · rw [if_pos (show nI h = ov u by rw [q]; rfl), m5 h q s hs]
      exact eL 0 s (by decide) hs
    · have q2 : v = some h := by rcases huh with z | z; exact absurd z q; exact z
      have q3 : ¬ nI h = ov u := fun z => by
        cases hue : u with
        | none => rw [hue] at z; exact nI_nm1 h (by omega) z
        | some x =>
          have hx := hu' x hue
          rw [hue] at z
          have : h = x := (nI_eq (by omega) (by omega)).mp z
          rw [hue, this] at q; exact q rfl
      rw [if_neg q3, m6 h q2 s hs]
      exact eL 1 s (by decide) hs
theorem f_join {t t1 : xT} {v1 : Int32} {nt nl nh nj pr : Nat}  (h1 : (fun v t' => (¬ (nh ≠ 0 ∧ 32 ≤ nl) → v = -1 ∧ t' = t) ∧ (nh ≠ 0 → 32 ≤ nl → v = dp (CQ t (nl - 31) pr) nh (2 ^ nh - 1) ∧ ∃ k, k ≤ 8 ∧ lfs (mtf (CQ t (nl - 31) pr) nh) (2 ^ nh - 1) k = 0 ∧ (∀ j, j < k → lfs (mtf (CQ t (nl - 31) pr) nh) (2 ^ nh - 1) j ≠ 0) ∧ jnE t t' (nl - 31) nh (mtf (CQ t (nl - 31) pr) nh) (2 ^ nh - 1) k)) v1 t1) : ∀ x y, 76 ≤ x → t1 x y = t x y := by
  intro x y hx
  by_cases q : nh ≠ 0 ∧ 32 ≤ nl
  · obtain ⟨-, k, -, -, -, E⟩ := h1.2 q.1 q.2
    exact E.2.2.2.2.2.2 x y (by omega)
  · rw [(h1.1 q).2]
theorem s_join {t t1 t2 : xT} {v1 v2 : Int32} {nt nl nh nj pr : Nat}  (R : Rel t nt nl nh nj pr) (h1 : (fun v t' => (¬ (nh ≠ 0 ∧ 32 ≤ nl) → v = -1 ∧ t' = t) ∧ (nh ≠ 0 → 32 ≤ nl → v = dp (CQ t (nl - 31) pr) nh (2 ^ nh - 1) ∧ ∃ k, k ≤ 8 ∧ lfs (mtf (CQ t (nl - 31) pr) nh) (2 ^ nh - 1) k = 0 ∧ (∀ j, j < k → lfs (mtf (CQ t (nl - 31) pr) nh) (2 ^ nh - 1) j ≠ 0) ∧ jnE t t' (nl - 31) nh (mtf (CQ t (nl - 31) pr) nh) (2 ^ nh - 1) k)) v1 t1) (h2 : (fun v t' => (¬ (nh ≠ 0 ∧ 32 ≤ nl) → v = -1 ∧ t' = xt t1 76 0 0) ∧ (nh ≠ 0 → 32 ≤ nl → v = dp (CN t1 (nl - 31) pr) nh (2 ^ nh - 1) ∧ ∃ k, k ≤ 8 ∧ lfs (mtf (CN t1 (nl - 31) pr) nh) (2 ^ nh - 1) k = 0 ∧ (∀ j, j < k → lfs (mtf (CN t1 (nl - 31) pr) nh) (2 ^ nh - 1) j ≠ 0) ∧ jnM t1 t' (nl - 31) nh (mtf (CN t1 (nl - 31) pr) nh) (2 ^ nh - 1) k)) v2 t2) : v1 = v2 ∧ okR t2 := by
  by_cases q : nh ≠ 0 ∧ 32 ≤ nl
  · have hle := R.H.le
    have hlw := R.W.le
    have e76 : ∀ x y, 76 ≤ x → t1 x y = t x y := f_join (nt := nt) (nj := nj) h1
    obtain ⟨a1, k, hk8, hk0, hkn, E⟩ := h1.2 q.1 q.2
    obtain ⟨b1, k2, hk82, hk02, hkn2, M⟩ := h2.2 q.1 q.2
    have hC : ∀ a b, a ≤ b → b < nh → CQ t (nl - 31) pr a b = CN t1 (nl - 31) pr a b := fun a b h1 h2 => by
      show cst (bsQ t (nl - 31) a b) (nI pr) = cst (bsN t1 (nl - 31) a b) (nI pr)
      rw [bs_rel R.W R.H e76 (by omega) h2]
    have hdc := dp_cong hle hC
    have hpw := pow_le nh hle
    have hp1 : 0 < 2 ^ nh := Nat.pos_of_ne_zero (by simp)
    have hmt : ∀ s, s ≤ 2 ^ nh - 1 → mtf (CN t1 (nl - 31) pr) nh s = mtf (CQ t (nl - 31) pr) nh s := fun s hs => by
      unfold mtf; rw [(hdc s (by omega)).2]
    have hlf := lfs_cong (w := 2 ^ nh - 1) hmt
    have hok := CQ_ok (t := t) (pl := nl - 31) R.P.le (by omega) R.H.pr
    have hall := dp_all hle hok.1
    generalize hmte : mtf (CQ t (nl - 31) pr) nh = mt at *
    generalize hmt2e : mtf (CN t1 (nl - 31) pr) nh = mt2 at *
    have hkk : k2 = k := by
      rcases Nat.lt_trichotomy k2 k with z | z | z
      · exact absurd (by rw [← hlf]; exact hk02) (hkn k2 z)
      · exact z
      · exact absurd (by rw [hlf]; exact hk0) (hkn2 k z)
    subst hkk
    have hm : mtOK mt nh (2 ^ nh) := fun s h0 h1 => by
      have := (hall s h1).2 (by omega)
      exact ⟨this.2.2.1, this.2.2.2.1⟩
    have hs : ∀ j, j < k2 → lfs mt (2 ^ nh - 1) j < 2 ^ nh ∧ lfs mt (2 ^ nh - 1) j ≠ 0 := fun j hj => ⟨by have := lfs_le mt (2 ^ nh - 1) j; omega, hkn j hj⟩
    have hab : ∀ j, j < k2 → fsb (lfs mt (2 ^ nh - 1) j) < nh ∧ mt (lfs mt (2 ^ nh - 1) j) < nh := fun j hj => ⟨fsb_lt hle (hs j hj).2 (hs j hj).1, (hm _ (Nat.pos_of_ne_zero (hs j hj).2) (hs j hj).1).1⟩
    have hne : ∀ j, j < k2 → ¬ (lvQ t (nl - 31) mt (2 ^ nh - 1) j).2.2.2 = -1 := fun j hj => by
      have := (hall _ (hs j hj).1).2 (hs j hj).2
      exact hok.2 _ _ this.2.2.2.2.1
    have hlv : ∀ j, j < k2 → lvN t1 (nl - 31) mt2 (2 ^ nh - 1) j = lvQ t (nl - 31) mt (2 ^ nh - 1) j := fun j hj => by
      show bsN t1 (nl - 31) (fsb (lfs mt2 (2 ^ nh - 1) j)) (mt2 (lfs mt2 (2 ^ nh - 1) j)) = _
      rw [hlf, hmt _ (lfs_le _ _ _)]
      exact (bs_rel R.W R.H e76 (hab j hj).1 (hab j hj).2).symm
    obtain ⟨E1, E2, E3, E4, E5, E6, E7⟩ := E
    obtain ⟨M1, M2, M3, M4, M5, M6, M7, M8⟩ := M
    have ex : ∀ x y, x < 76 → t2 x y = t1 x y := fun x y h => M8 x y (by omega) (by omega)
    have e : ∀ x y, (x < 24 ∨ x = 42 ∨ (76 ≤ x ∧ ¬ (x = 76 ∧ (y = 0 ∨ (13 ≤ y ∧ y ≤ 16) ∨ y = 20 ∨ y = 21 ∨ y = 27)) ∧ ¬ (83 ≤ x ∧ x ≤ 93))) → t2 x y = t x y := fun x y h => by rw [M8 x y (by omega) (by omega), E7 x y (by omega)]
    have hJ := fun j (hj : j < k2) => join_J (j := j) R.W R.H e76 (hab j hj).1 (hab j hj).2 rfl (hne j hj) (E2 j hj) (by have := M4 j hj; rw [hlv j hj] at this; exact this) ex (fun y => e 80 y (by omega)) (fun y => e 5 y (by omega)) M3 (by omega)
    refine ⟨by rw [a1, b1]; exact (hdc _ (by omega)).1, nt, nl, nh, k2, pr, R.T.fr (fun x y h => e x y (by omega)), R.W.fr (fun x y h => e x y (by omega)), R.H.fr (fun x y h => e x y (by omega)), ?_, R.P.fr (fun x y h => e x y (by omega)), fun p hp => ?_, ⟨hk8, ?_, M2, fun j hj => (hJ j hj).1, fun j hj => (hJ j hj).2.1, fun j hj => (hJ j hj).2.2.1, fun j hj => (hJ j hj).2.2.2.1, fun j hj => (hJ j hj).2.2.2.2.1, fun j hj => (hJ j hj).2.2.2.2.2.1, fun j hj => ?_, fun j hj => (hJ j hj).2.2.2.2.2.2.1, fun i hi => ?_, fun i hi => ?_⟩, fun h hh => ?_⟩
    · rw [e 76 12 (by omega), e 0 6 (by omega)]; exact R.O
    · rw [e 42 p (by omega)]; exact R.Z p hp
    · rw [ex 55 4 (by omega)]; exact E1
    · obtain ⟨p, h1, h2, -⟩ := (hJ j hj).2.2.2.2.2.2.2
      exact ⟨p, h1, h2⟩
    · rw [M5 i hi, ex 57 i (by omega), E5 i hi]
      exact oi_cong (fun j hj => by
        show (lvN t1 (nl - 31) mt2 (2 ^ nh - 1) (nI j).toNatClampNeg).2.2.1 = (lvQ t (nl - 31) mt (2 ^ nh - 1) (nI j).toNatClampNeg).2.2.1
        rw [nI_clamp (by omega), hlv j hj]) i hi
    · rw [ex 57 i (by omega), E5 i hi]; exact oi_rng i hi
    · by_cases z : h < nh
      · have hcv : ∃ j, j < k2 ∧ (h = fsb (lfs mt (2 ^ nh - 1) j) ∨ h = mt (lfs mt (2 ^ nh - 1) j)) := by
          apply Classical.byContradiction
          intro hno
          have := lfs_cover (W := 2 ^ nh) (by omega) (by omega) hle hm hh (all_bits nh hle h z) hkn (fun j hj => ⟨fun w => hno ⟨j, hj, Or.inl w⟩, fun w => hno ⟨j, hj, Or.inr w⟩⟩)
          rw [hk0] at this
          simp at this
        obtain ⟨j, hj, hjh⟩ := hcv
        obtain ⟨p, h1, h2, h3⟩ := (hJ j hj).2.2.2.2.2.2.2
        refine Or.inr ⟨by rw [M1]; decide, by rw [M7 h hh, bi_t z]; decide, j, p, hj, ?_, h2, h1, fun s hs2 => ⟨?_, h3 h hjh s hs2⟩⟩
        · rw [ex 58 h (by omega)]
          rcases hjh with w | w
          · rw [w]; exact (E3 j hj).1
          · rw [w]; exact (E3 j hj).2
        · rw [ex _ _ (by omega), E6 h z s hs2, M6 _ (by omega), e76 82 _ (by omega)]
          exact (R.H.l h z s hs2).symm
      · refine Or.inl ⟨?_, Or.inr (by rw [M7 h hh, bi_f z])⟩
        rw [ex 58 h (by omega)]
        exact E4 h hh (fun j hj => by have := hab j hj; omega)
  · obtain ⟨e1, e2⟩ := h1.1 q
    obtain ⟨g1, g2⟩ := h2.1 q
    subst e2
    subst g2
    exact ⟨by rw [e1, g1], nt, nl, nh, nj, pr, R.k0 0⟩
