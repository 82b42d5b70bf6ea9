/-! 10d: pairs of calls keep what holds, and answer alike: the simple ones -/
theorem in_nat {x : Int32} {n : Nat} (hn : n < 2 ^ 31) (h : 0 ≤ x ∧ x < nI n) : ∃ k, k < n ∧ x = nI k := (i_in hn).mp h
theorem le_nat {x : Int32} {n : Nat} (hn : n < 2 ^ 31) (h : 0 ≤ x ∧ x ≤ nI n) : ∃ k, k ≤ n ∧ x = nI k := nI_of2 (nI_toInt hn) (fun q => by rw [i_lt, i_0] at q; have := (i_le _ _).mp h.1; rw [i_0] at this; omega) h.2
def okR (t : xT) : Prop := ∃ nt nl nh nj pr, Rel t nt nl nh nj pr
theorem ag_M (a b c d e : Int32) (j : Nat) : byt (ag a b c d e j) (j % 4) = bytM (ag a b c d e j) (j % 4) := byt_M _ _ (by omega)
theorem spk {nh : Nat} {h f s : Int32} (hn : nh ≤ 8) (p : spP nh h f s) : ∃ k, k < nh ∧ h = nI k ∧ h.toNatClampNeg = k ∧ spI f s < 16 := by
  obtain ⟨k, hk, rfl⟩ := in_nat (by omega) p.1
  obtain ⟨a, ha, rfl⟩ := le_nat (n := 1) (by omega) p.2.1
  obtain ⟨b, hb, rfl⟩ := le_nat (n := 7) (by omega) p.2.2
  refine ⟨k, hk, rfl, nI_clamp (by omega), ?_⟩
  show 8 * (nI a).toNatClampNeg + (nI b).toNatClampNeg < 16
  rw [nI_clamp (by omega), nI_clamp (by omega)]; omega
theorem f_feed {t t1 : xT} {v1 : Int32} {nt nl nh nj pr : Nat} (a1 a2 a3 a4 a5 : Int32) (h1 : (fun v t' => (nt + 20 ≤ 400 → v = nI (nt + 20) ∧ t' 1 1 = nI (nt + 20) ∧ (∀ j, j < 20 → t' 2 (nt + j) = byt (ag a1 a2 a3 a4 a5 j) (j % 4)) ∧ ∀ x y, x ≠ 1 → ¬ (x = 2 ∧ nt ≤ y) → t' x y = t x y) ∧ (¬ nt + 20 ≤ 400 → v = -1 ∧ t' = t)) v1 t1) : ∀ x y, 76 ≤ x → t1 x y = t x y := by
  by_cases q : nt + 20 ≤ 400
  · exact fun x y h => (h1.1 q).2.2.2 x y (by omega) (by omega)
  · rw [(h1.2 q).2]; exact fun _ _ _ => rfl
theorem s_feed {t t1 t2 : xT} {v1 v2 : Int32} {nt nl nh nj pr : Nat} (a1 a2 a3 a4 a5 : Int32) (R : Rel t nt nl nh nj pr) (h1 : (fun v t' => (nt + 20 ≤ 400 → v = nI (nt + 20) ∧ t' 1 1 = nI (nt + 20) ∧ (∀ j, j < 20 → t' 2 (nt + j) = byt (ag a1 a2 a3 a4 a5 j) (j % 4)) ∧ ∀ x y, x ≠ 1 → ¬ (x = 2 ∧ nt ≤ y) → t' x y = t x y) ∧ (¬ nt + 20 ≤ 400 → v = -1 ∧ t' = t)) v1 t1) (h2 : (fun v t' => (nt + 20 ≤ 400 → v = nI (nt + 20) ∧ t' 76 2 = nI (nt + 20) ∧ (∀ j, j < 20 → t' 77 (nt + j) = bytM (ag a1 a2 a3 a4 a5 j) (j % 4)) ∧ ∀ x y, ¬ (x = 76 ∧ (y = 0 ∨ y = 2)) → ¬ (x = 77 ∧ nt ≤ y) → t' x y = t1 x y) ∧ (¬ nt + 20 ≤ 400 → v = -1 ∧ t' = xt t1 76 0 0)) v2 t2) : v1 = v2 ∧ okR t2 := by
  by_cases q : nt + 20 ≤ 400
  · obtain ⟨e1, e2, e3, e4⟩ := h1.1 q
    obtain ⟨g1, g2, g3, g4⟩ := h2.1 q
    have e : ∀ x y, x ≠ 1 → x ≠ 2 → x ≠ 77 → ¬ (x = 76 ∧ (y = 0 ∨ y = 2)) → t2 x y = t x y := fun x y k1 k2 k3 k4 => by rw [g4 x y (by omega) (by omega), e4 x y (by omega) (by omega)]
    refine ⟨by rw [e1, g1], nt + 20, nl, nh, nj, pr, ⟨q, ?_, g2, fun j hj => ?_⟩, R.W.fr (fun x y h => e x y (by omega) (by omega) (by omega) (by omega)), R.H.fr (fun x y h => e x y (by omega) (by omega) (by omega) (by omega)), ?_, R.P.fr (fun x y h => e x y (by omega) (by omega) (by omega) (by omega)), fun p hp => ?_, R.J.fr (Nat.le_refl _) (fun x y h => e x y (by omega) (by omega) (by omega) (by omega)), R.L.fr R.J.le (fun x y h => e x y (by omega) (by omega) (by omega) (by omega))⟩
    · rw [g4 _ _ (by omega) (by omega)]; exact e2
    · rw [g4 2 j (by omega) (by omega)]
      by_cases k : j < nt
      · rw [g4 77 j (by omega) (by omega), e4 77 j (by omega) (by omega), e4 2 j (by omega) (by omega)]
        exact R.T.b j k
      · have k1 := g3 (j - nt) (by omega)
        have k2 := e3 (j - nt) (by omega)
        rw [show nt + (j - nt) = j by omega] at k1 k2
        rw [k1, k2, ag_M]
    · rw [e 76 12 (by omega) (by omega) (by omega) (by omega), e 0 6 (by omega) (by omega) (by omega) (by omega)]; exact R.O
    · rw [e 42 p (by omega) (by omega) (by omega) (by omega)]; exact R.Z p hp
  · obtain ⟨e1, e2⟩ := h1.2 q
    obtain ⟨g1, g2⟩ := h2.2 q
    subst e2
    subst g2
    exact ⟨by rw [e1, g1], nt, nl, nh, nj, pr, R.k0 0⟩
theorem f_fault {t t1 : xT} {v1 : Int32} {nt nl nh nj pr : Nat} (n : Int32) (h1 : (fun v t' => v = (if n = 0 then t 4 2 else if n = 1 then t 4 3 else -1) ∧ t' = t) v1 t1) : ∀ x y, 76 ≤ x → t1 x y = t x y := by
  rw [h1.2]; exact fun _ _ _ => rfl
theorem s_fault {t t1 t2 : xT} {v1 v2 : Int32} {nt nl nh nj pr : Nat} (n : Int32) (R : Rel t nt nl nh nj pr) (h1 : (fun v t' => v = (if n = 0 then t 4 2 else if n = 1 then t 4 3 else -1) ∧ t' = t) v1 t1) (h2 : (fun v t' => v = (if n = 0 then t1 76 5 else if n = 1 then t1 76 6 else -1) ∧ t' = xt t1 76 0 0) v2 t2) : v1 = v2 ∧ okR t2 := by
  obtain ⟨e1, e2⟩ := h1
  obtain ⟨g1, g2⟩ := h2
  subst e2
  subst g2
  exact ⟨by rw [e1, g1, R.W.f, R.W.g], nt, nl, nh, nj, pr, R.k0 0⟩
theorem f_price {t t1 : xT} {v1 : Int32} {nt nl nh nj pr : Nat} (n : Int32) (h1 : (fun v t' => v = bi (0 ≤ n ∧ n ≤ 99) ∧ t' = (if 0 ≤ n ∧ n ≤ 99 then xt t 0 7 n else t)) v1 t1) : ∀ x y, 76 ≤ x → t1 x y = t x y := by
  rw [h1.2]
  intro x y hx
  split
  · exact xt_ne _ _ (by omega)
  · rfl
theorem s_price {t t1 t2 : xT} {v1 v2 : Int32} {nt nl nh nj pr : Nat} (n : Int32) (R : Rel t nt nl nh nj pr) (h1 : (fun v t' => v = bi (0 ≤ n ∧ n ≤ 99) ∧ t' = (if 0 ≤ n ∧ n ≤ 99 then xt t 0 7 n else t)) v1 t1) (h2 : (fun v t' => v = bi (0 ≤ n ∧ n ≤ 99) ∧ t' = (if 0 ≤ n ∧ n ≤ 99 then xt (xt t1 76 0 0) 76 17 n else xt t1 76 0 0)) v2 t2) : v1 = v2 ∧ okR t2 := by
  obtain ⟨e1, e2⟩ := h1
  obtain ⟨g1, g2⟩ := h2
  refine ⟨by rw [e1, g1], ?_⟩
  by_cases q : 0 ≤ n ∧ n ≤ 99
  · rw [if_pos q] at e2 g2
    obtain ⟨k, hk, rfl⟩ := le_nat (n := 99) (by omega) q
    have e : ∀ x y, ¬ (x = 0 ∧ y = 7) → ¬ (x = 76 ∧ (y = 0 ∨ y = 17)) → t2 x y = t x y := fun x y k1 k2 => by rw [g2, xt_ne _ _ (by omega), xt_ne _ _ (by omega), e2, xt_ne _ _ (by omega)]
    refine ⟨nt, nl, nh, nj, k, R.T.fr (fun x y h => e x y (by omega) (by omega)), R.W.fr (fun x y h => e x y (by omega) (by omega)), R.H.fr (fun x y h => e x y (by omega) (by omega)), ?_, ⟨hk, ?_, ?_⟩, fun p hp => ?_, R.J.fr (Nat.le_refl _) (fun x y h => e x y (by omega) (by omega)), R.L.fr R.J.le (fun x y h => e x y (by omega) (by omega))⟩
    · rw [e 76 12 (by omega) (by omega), e 0 6 (by omega) (by omega)]; exact R.O
    · rw [g2, xt_ne _ _ (by omega), xt_ne _ _ (by omega), e2, xt_same]
    · rw [g2, xt_same]
    · rw [e 42 p (by omega) (by omega)]; exact R.Z p hp
  · rw [if_neg q] at e2 g2
    subst e2
    subst g2
    exact ⟨nt, nl, nh, nj, pr, R.k0 0⟩
theorem f_list {t t1 : xT} {v1 : Int32} {nt nl nh nj pr : Nat} (h f s0 : Int32) (h1 : (fun v t' => v = (if spP nh h f s0 then t (9 + 2 * h.toNatClampNeg) (spI f s0) else -1) ∧ t' = t) v1 t1) : ∀ x y, 76 ≤ x → t1 x y = t x y := by
  rw [h1.2]; exact fun _ _ _ => rfl
theorem s_list {t t1 t2 : xT} {v1 v2 : Int32} {nt nl nh nj pr : Nat} (h f s0 : Int32) (R : Rel t nt nl nh nj pr) (h1 : (fun v t' => v = (if spP nh h f s0 then t (9 + 2 * h.toNatClampNeg) (spI f s0) else -1) ∧ t' = t) v1 t1) (h2 : (fun v t' => v = (if spP nh h f s0 then t1 82 (16 * h.toNatClampNeg + spI f s0) else -1) ∧ t' = xt t1 76 0 0) v2 t2) : v1 = v2 ∧ okR t2 := by
  obtain ⟨e1, e2⟩ := h1
  obtain ⟨g1, g2⟩ := h2
  subst e2
  subst g2
  refine ⟨?_, nt, nl, nh, nj, pr, R.k0 0⟩
  rw [e1, g1]
  by_cases q : spP nh h f s0
  · obtain ⟨k, hk, -, ek, h16⟩ := spk R.H.le q
    rw [if_pos q, if_pos q, ek]
    exact (R.H.l k hk _ h16).symm
  · rw [if_neg q, if_neg q]
theorem f_light {t t1 : xT} {v1 : Int32} {nt nl nh nj pr : Nat} (h f s0 x : Int32) (hn8 : nh ≤ 8) (h1 : (fun v t' => (¬ lgP nh h f s0 x → v = -1 ∧ t' = t) ∧ (lgP nh h f s0 x → lgL t h f s0 x = 0 → v = -2 ∧ t' = xt t 0 6 (t 0 6 + 1)) ∧ (lgP nh h f s0 x → ¬ lgL t h f s0 x = 0 → v = bcj (lgL t h f s0 x) ∧ t' = xt t (9 + 2 * h.toNatClampNeg) (spI f s0) (lgL t h f s0 x))) v1 t1) : ∀ x y, 76 ≤ x → t1 x y = t x y := by
  intro a b hx
  by_cases q : lgP nh h f s0 x
  · by_cases z : lgL t h f s0 x = 0
    · rw [(h1.2.1 q z).2, xt_ne _ _ (by omega)]
    · obtain ⟨k, hk, -, ek, h16⟩ := spk hn8 q.1
      rw [(h1.2.2 q z).2, ek, xt_ne _ _ (by omega)]
  · rw [(h1.1 q).2]
theorem s_light {t t1 t2 : xT} {v1 v2 : Int32} {nt nl nh nj pr : Nat} (h f s0 x : Int32) (R : Rel t nt nl nh nj pr) (h1 : (fun v t' => (¬ lgP nh h f s0 x → v = -1 ∧ t' = t) ∧ (lgP nh h f s0 x → lgL t h f s0 x = 0 → v = -2 ∧ t' = xt t 0 6 (t 0 6 + 1)) ∧ (lgP nh h f s0 x → ¬ lgL t h f s0 x = 0 → v = bcj (lgL t h f s0 x) ∧ t' = xt t (9 + 2 * h.toNatClampNeg) (spI f s0) (lgL t h f s0 x))) v1 t1) (h2 : (fun v t' => (¬ lgP nh h f s0 x → v = -1 ∧ t' = xt t1 76 0 0) ∧ (lgP nh h f s0 x → lgM t1 h f s0 x = 0 → v = -2 ∧ t' = xt (xt t1 76 0 0) 76 12 (t1 76 12 + 1)) ∧ (lgP nh h f s0 x → ¬ lgM t1 h f s0 x = 0 → v = bcm (lgM t1 h f s0 x) 16 ∧ t' = xt (xt t1 76 0 0) 82 (16 * h.toNatClampNeg + spI f s0) (lgM t1 h f s0 x))) v2 t2) : v1 = v2 ∧ okR t2 := by
  by_cases q : lgP nh h f s0 x
  · obtain ⟨k, hk, -, ek, h16⟩ := spk R.H.le q.1
    have e14 : ∀ y, t1 82 y = t 82 y := fun y => by
      by_cases z : lgL t h f s0 x = 0
      · rw [(h1.2.1 q z).2, xt_ne _ _ (by omega)]
      · rw [(h1.2.2 q z).2, ek, xt_ne _ _ (by have := R.H.le; omega)]
    have eq : lgM t1 h f s0 x = lgL t h f s0 x := by
      show t1 82 (16 * h.toNatClampNeg + spI f s0) &&& x = t (9 + 2 * h.toNatClampNeg) (spI f s0) &&& x
      rw [e14, ek, R.H.l k hk _ h16]
    rw [eq] at h2
    by_cases z : lgL t h f s0 x = 0
    · obtain ⟨e1, e2⟩ := h1.2.1 q z
      obtain ⟨g1, g2⟩ := h2.2.1 q z
      refine ⟨by rw [e1, g1], ?_⟩
      have e : ∀ x y, ¬ (x = 0 ∧ y = 6) → ¬ (x = 76 ∧ (y = 0 ∨ y = 12)) → t2 x y = t x y := fun x y k1 k2 => by rw [g2, xt_ne _ _ (by omega), xt_ne _ _ (by omega), e2, xt_ne _ _ (by omega)]
      refine ⟨nt, nl, nh, nj, pr, R.T.fr (fun x y h => e x y (by omega) (by omega)), R.W.fr (fun x y h => e x y (by omega) (by omega)), R.H.fr (fun x y h => e x y (by omega) (by omega)), ?_, R.P.fr (fun x y h => e x y (by omega) (by omega)), fun p hp => ?_, R.J.fr (Nat.le_refl _) (fun x y h => e x y (by omega) (by omega)), R.L.fr R.J.le (fun x y h => e x y (by omega) (by omega))⟩
      · rw [g2, xt_same, xt_ne _ _ (by omega), xt_ne _ _ (by omega), e2, xt_same, xt_ne _ _ (by omega), R.O]
      · rw [e 42 p (by omega) (by omega)]; exact R.Z p hp
    · obtain ⟨e1, e2⟩ := h1.2.2 q z
      obtain ⟨g1, g2⟩ := h2.2.2 q z
      refine ⟨by rw [e1, g1]; exact bc_and q.2.1 q.2.2, ?_⟩
      rw [ek] at e2 g2
      have hle := R.H.le
      have e : ∀ x y, ¬ (x = 9 + 2 * k ∧ y = spI f s0) → ¬ (x = 76 ∧ y = 0) → ¬ (x = 82 ∧ y = 16 * k + spI f s0) → t2 x y = t x y := fun x y k1 k2 k3 => by rw [g2, xt_ne _ _ (by omega), xt_ne _ _ (by omega), e2, xt_ne _ _ (by omega)]
      have w1 : t2 (9 + 2 * k) (spI f s0) = lgL t h f s0 x := by rw [g2, xt_ne _ _ (by omega), xt_ne _ _ (by omega), e2, xt_same]
      have w2 : t2 82 (16 * k + spI f s0) = lgL t h f s0 x := by rw [g2, xt_same]
      refine ⟨nt, nl, nh, nj, pr, R.T.fr (fun x y h => e x y (by omega) (by omega) (by omega)), R.W.fr (fun x y h => e x y (by omega) (by omega) (by omega)), ⟨hle, ?_, ?_, fun a ha => ?_, fun a ha => ?_, fun a ha => ?_, fun a ha => ?_, fun a ha => ?_, fun a ha s hs => ?_⟩, ?_, R.P.fr (fun x y h => e x y (by omega) (by omega) (by omega)), fun p hp => ?_, R.J.fr (Nat.le_refl _) (fun x y h => e x y (by omega) (by omega) (by omega)), R.L.fr R.J.le (fun x y h => e x y (by omega) (by omega) (by omega))⟩
      · rw [e 6 1 (by omega) (by omega) (by omega)]; exact R.H.c
      · rw [e 76 7 (by omega) (by omega) (by omega)]; exact R.H.m
      · rw [e 79 a (by omega) (by omega) (by omega), e (8 + 2 * a) 0 (by omega) (by omega) (by omega)]; exact R.H.p a ha
      · rw [e 80 a (by omega) (by omega) (by omega), e (8 + 2 * a) 1 (by omega) (by omega) (by omega)]; exact R.H.s a ha
      · rw [e 81 a (by omega) (by omega) (by omega), e (8 + 2 * a) 2 (by omega) (by omega) (by omega)]; exact R.H.r a ha
      · rw [e (8 + 2 * a) 0 (by omega) (by omega) (by omega)]; exact R.H.pr a ha
      · rw [e (8 + 2 * a) 1 (by omega) (by omega) (by omega)]; exact R.H.sr a ha
      · by_cases c : a = k ∧ s = spI f s0
        · rw [c.1, c.2, w1, w2]
        · rw [e 82 _ (by omega) (by omega) (by omega), e (9 + 2 * a) s (by omega) (by omega) (by omega)]; exact R.H.l a ha s hs
      · rw [e 76 12 (by omega) (by omega) (by omega), e 0 6 (by omega) (by omega) (by omega)]; exact R.O
      · rw [e 42 p (by omega) (by omega) (by omega)]; exact R.Z p hp
  · obtain ⟨e1, e2⟩ := h1.1 q
    obtain ⟨g1, g2⟩ := h2.1 q
    subst e2
    subst g2
    exact ⟨by rw [e1, g1], nt, nl, nh, nj, pr, R.k0 0⟩
theorem h_in {q : Int32} (h : 0 ≤ q ∧ q ≤ 2) : q = 0 ∨ q = 1 ∨ q = 2 := by
  obtain ⟨k, hk, rfl⟩ := le_nat (n := 2) (by omega) h
  match k, hk with
  | 0, _ => exact Or.inl rfl
  | 1, _ => exact Or.inr (Or.inl rfl)
  | 2, _ => exact Or.inr (Or.inr rfl)
theorem h_in1 {q : Int32} (h : 0 ≤ q ∧ q ≤ 1) : q = 0 ∨ q = 1 := by
  obtain ⟨k, hk, rfl⟩ := le_nat (n := 1) (by omega) h
  match k, hk with
  | 0, _ => exact Or.inl rfl
  | 1, _ => exact Or.inr rfl
theorem f_half {t t1 : xT} {v1 : Int32} {nt nl nh nj pr : Nat} (q s0 r : Int32) (h1 : (fun v t' => v = (if hfP nh q s0 r then nI nh else -1) ∧ t' = (if hfP nh q s0 r then hfS t nh q s0 r else t)) v1 t1) : ∀ x y, 76 ≤ x → t1 x y = t x y := by
  rw [h1.2]
  intro x y hx
  split
  · rename_i c
    have : nh < 8 := c.2.2.2
    simp only [hfS, xt, xf]
    rw [if_neg (by omega), if_neg (by omega), if_neg (by omega), if_neg (by omega), if_neg (by omega)]
  · rfl
theorem s_half {t t1 t2 : xT} {v1 v2 : Int32} {nt nl nh nj pr : Nat} (q s0 r : Int32) (R : Rel t nt nl nh nj pr) (h1 : (fun v t' => v = (if hfP nh q s0 r then nI nh else -1) ∧ t' = (if hfP nh q s0 r then hfS t nh q s0 r else t)) v1 t1) (h2 : (fun v t' => v = (if hfP nh q s0 r then nI nh else -1) ∧ t' = (if hfP nh q s0 r then hfM (xt t1 76 0 0) nh q s0 r else xt t1 76 0 0)) v2 t2) : v1 = v2 ∧ okR t2 := by
  obtain ⟨e1, e2⟩ := h1
  obtain ⟨g1, g2⟩ := h2
  refine ⟨by rw [e1, g1], ?_⟩
  by_cases c : hfP nh q s0 r
  · rw [if_pos c] at e2 g2
    have hlt : nh < 8 := c.2.2.2
    have e : ∀ x y, ¬ (x = 6 ∧ y = 1) → ¬ (x = 8 + 2 * nh ∧ y < 3) → ¬ (x = 9 + 2 * nh ∧ y < 16) → ¬ (x = 76 ∧ (y = 0 ∨ y = 7)) → ¬ (79 ≤ x ∧ x ≤ 81 ∧ y = nh) → ¬ (x = 82 ∧ 16 * nh ≤ y ∧ y < 16 * nh + 16) → t2 x y = t x y := fun x y k1 k2 k3 k4 k5 k6 => by
      rw [g2, e2]
      simp only [hfM, hfS, xt, xf, xfr]
      rw [if_neg (by omega), if_neg (by omega), if_neg (by omega), if_neg (by omega), if_neg (by omega), if_neg (by omega), if_neg (by omega), if_neg (by omega), if_neg (by omega), if_neg (by omega), if_neg (by omega)]
    have k6 : t2 6 1 = nI (nh + 1) := by rw [g2, e2]; simp only [hfM, hfS, xt, xf, xfr]; simp
    have k7 : t2 76 7 = nI (nh + 1) := by rw [g2, e2]; simp only [hfM, hfS, xt, xf, xfr]; simp
    have kx : ∀ x y, x < 76 → t2 x y = hfS t nh q s0 r x y := fun x y hx => by
      rw [g2, e2]
      simp only [hfM, xt, xfr]
      rw [if_neg (by omega), if_neg (by omega), if_neg (by omega), if_neg (by omega), if_neg (by omega), if_neg (by omega)]
    have a0 : t2 (8 + 2 * nh) 0 = q := by rw [kx _ _ (by omega), hfS, xt_ne _ _ (by omega), xf, if_neg (by omega), xt_ne _ _ (by omega), xt_ne _ _ (by omega), xt_same]
    have a1 : t2 (8 + 2 * nh) 1 = s0 := by rw [kx _ _ (by omega), hfS, xt_ne _ _ (by omega), xf, if_neg (by omega), xt_ne _ _ (by omega), xt_same]
    have a2 : t2 (8 + 2 * nh) 2 = r := by rw [kx _ _ (by omega), hfS, xt_ne _ _ (by omega), xf, if_neg (by omega), xt_same]
    have a3 : ∀ s, s < 16 → t2 (9 + 2 * nh) s = 65535 := fun s hs => by rw [kx _ _ (by omega), hfS, xt_ne _ _ (by omega), xf, if_pos (by omega)]
    have b0 : t2 79 nh = q := by rw [g2, hfM, xt_ne _ _ (by omega), xfr, if_neg (by omega), xt_ne _ _ (by omega), xt_ne _ _ (by omega), xt_same]
    have b1 : t2 80 nh = s0 := by rw [g2, hfM, xt_ne _ _ (by omega), xfr, if_neg (by omega), xt_ne _ _ (by omega), xt_same]
    have b2 : t2 81 nh = r := by rw [g2, hfM, xt_ne _ _ (by omega), xfr, if_neg (by omega), xt_same]
    have b3 : ∀ s, s < 16 → t2 82 (16 * nh + s) = 65535 := fun s hs => by rw [g2, hfM, xt_ne _ _ (by omega), xfr, if_pos (by omega)]
    have e' : ∀ x y, (x ≠ 6 ∧ ¬ (8 ≤ x ∧ x < 24) ∧ ¬ (79 ≤ x ∧ x ≤ 82) ∧ ¬ (x = 76 ∧ (y = 0 ∨ y = 7))) → t2 x y = t x y := fun x y h => e x y (by omega) (by omega) (by omega) (by omega) (by omega) (by omega)
    have eh : ∀ a, a < nh → (∀ y, t2 (8 + 2 * a) y = t (8 + 2 * a) y) ∧ (∀ y, t2 (9 + 2 * a) y = t (9 + 2 * a) y) ∧ t2 79 a = t 79 a ∧ t2 80 a = t 80 a ∧ t2 81 a = t 81 a ∧ ∀ s, s < 16 → t2 82 (16 * a + s) = t 82 (16 * a + s) := fun a ha =>
      ⟨fun y => e _ _ (by omega) (by omega) (by omega) (by omega) (by omega) (by omega), fun y => e _ _ (by omega) (by omega) (by omega) (by omega) (by omega) (by omega), e _ _ (by omega) (by omega) (by omega) (by omega) (by omega) (by omega), e _ _ (by omega) (by omega) (by omega) (by omega) (by omega) (by omega), e _ _ (by omega) (by omega) (by omega) (by omega) (by omega) (by omega), fun s hs => e _ _ (by omega) (by omega) (by omega) (by omega) (by omega) (by omega)⟩
    refine ⟨nt, nl, nh + 1, nj, pr, R.T.fr (fun x y h => e' x y (by omega)), R.W.fr (fun x y h => e' x y (by omega)), ⟨by omega, k6, k7, fun a ha => ?_, fun a ha => ?_, fun a ha => ?_, fun a ha => ?_, fun a ha => ?_, fun a ha s hs => ?_⟩, ?_, R.P.fr (fun x y h => e' x y (by omega)), fun p hp => ?_, R.J.fr (by omega) (fun x y h => ?_), R.L.fr R.J.le (fun x y h => e' x y (by omega))⟩
    · by_cases z : a = nh
      · rw [z, a0, b0]
      · have w := eh a (by omega)
        rw [w.1, w.2.2.1]; exact R.H.p a (by omega)
    · by_cases z : a = nh
      · rw [z, a1, b1]
      · have w := eh a (by omega)
        rw [w.1, w.2.2.2.1]; exact R.H.s a (by omega)
    · by_cases z : a = nh
      · rw [z, a2, b2]
      · have w := eh a (by omega)
        rw [w.1, w.2.2.2.2.1]; exact R.H.r a (by omega)
    · by_cases z : a = nh
      · rw [z, a0]; exact h_in c.1
      · rw [(eh a (by omega)).1]; exact R.H.pr a (by omega)
    · by_cases z : a = nh
      · rw [z, a1]; exact h_in1 c.2.1
      · rw [(eh a (by omega)).1]; exact R.H.sr a (by omega)
    · by_cases z : a = nh
      · rw [z, a3 s hs, b3 s hs]
      · have w := eh a (by omega)
        rw [w.2.1, w.2.2.2.2.2 s hs]; exact R.H.l a (by omega) s hs
    · rw [e' 76 12 (by omega), e' 0 6 (by omega)]; exact R.O
    · rw [e' 42 p (by omega)]; exact R.Z p hp
    · exact e x y (by omega) (by omega) (by omega) (by omega) (by omega) (by omega)
  · rw [if_neg c] at e2 g2
    subst e2
    subst g2
    exact ⟨nt, nl, nh, nj, pr, R.k0 0⟩
theorem f_leaf {t t1 : xT} {v1 : Int32} {nt nl nh nj pr : Nat} (n w : Int32) (h1 : (fun v t' => v = (if (0 ≤ n ∧ n < nI nj) ∧ (0 ≤ w ∧ w < nI 6) then t (68 + n.toNatClampNeg) w.toNatClampNeg else -1) ∧ t' = t) v1 t1) : ∀ x y, 76 ≤ x → t1 x y = t x y := by
  rw [h1.2]; exact fun _ _ _ => rfl
theorem s_leaf {t t1 t2 : xT} {v1 v2 : Int32} {nt nl nh nj pr : Nat} (n w : Int32) (R : Rel t nt nl nh nj pr) (h1 : (fun v t' => v = (if (0 ≤ n ∧ n < nI nj) ∧ (0 ≤ w ∧ w < nI 6) then t (68 + n.toNatClampNeg) w.toNatClampNeg else -1) ∧ t' = t) v1 t1) (h2 : (fun v t' => v = (if (0 ≤ n ∧ n < nI nj) ∧ (0 ≤ w ∧ w < nI 6) then lfV t1 n.toNatClampNeg w.toNatClampNeg else -1) ∧ t' = xt t1 76 0 0) v2 t2) : v1 = v2 ∧ okR t2 := by
  obtain ⟨e1, e2⟩ := h1
  obtain ⟨g1, g2⟩ := h2
  subst e2
  subst g2
  refine ⟨?_, nt, nl, nh, nj, pr, R.k0 0⟩
  rw [e1, g1]
  by_cases q : (0 ≤ n ∧ n < nI nj) ∧ (0 ≤ w ∧ w < nI 6)
  · rw [if_pos q, if_pos q]
    have hle := R.J.le
    obtain ⟨k, hk, rfl⟩ := in_nat (by omega) q.1
    obtain ⟨a, ha, rfl⟩ := in_nat (by omega) q.2
    rw [nI_clamp (by omega), nI_clamp (by omega)]
    show _ = (if a = 5 then t1 76 27 else t1 (85 + a) k)
    match a, ha with
    | 0, _ => exact (R.J.f0 k hk).symm
    | 1, _ => exact (R.J.f1 k hk).symm
    | 2, _ => exact (R.J.f2 k hk).symm
    | 3, _ => exact (R.J.f3 k hk).symm
    | 4, _ => exact (R.J.f4 k hk).symm
    | 5, _ => exact (R.J.f5 k hk).symm
  · rw [if_neg q, if_neg q]
theorem f_quarrels {t t1 : xT} {v1 : Int32} {nt nl nh nj pr : Nat} (h q y : Int32) (h1 : (fun v t' => v = (if qrP nl nh h q y then nI (qn (t (9 + 2 * h.toNatClampNeg)) (t 5) q.toNatClampNeg y.toNatClampNeg 16) else -1) ∧ ∀ x y, (x < 26 ∨ 42 ≤ x) → t' x y = t x y) v1 t1) : ∀ x y, 76 ≤ x → t1 x y = t x y := by
  exact fun x z h => h1.2 x z (by omega)
theorem s_quarrels {t t1 t2 : xT} {v1 v2 : Int32} {nt nl nh nj pr : Nat} (h q y : Int32) (R : Rel t nt nl nh nj pr) (h1 : (fun v t' => v = (if qrP nl nh h q y then nI (qn (t (9 + 2 * h.toNatClampNeg)) (t 5) q.toNatClampNeg y.toNatClampNeg 16) else -1) ∧ ∀ x y, (x < 26 ∨ 42 ≤ x) → t' x y = t x y) v1 t1) (h2 : (fun v t' => v = (if qrP nl nh h q y then nI (qn (lsM t1 h.toNatClampNeg) (t1 78) q.toNatClampNeg y.toNatClampNeg 16) else -1) ∧ t' = xt t1 76 0 0) v2 t2) : v1 = v2 ∧ okR t2 := by
  obtain ⟨e1, e2⟩ := h1
  obtain ⟨g1, g2⟩ := h2
  refine ⟨?_, nt, nl, nh, nj, pr, R.keep (fun x z k1 k2 k3 => by rw [g2, xt_0 _ _ k1, e2 x z (by omega)])⟩
  rw [e1, g1]
  by_cases c : qrP nl nh h q y
  · rw [if_pos c, if_pos c]
    have hle := R.H.le
    have hlw := R.W.le
    obtain ⟨k, hk, rfl⟩ := in_nat (by omega) c.1
    obtain ⟨a, ha, rfl⟩ := le_nat (n := 1) (by omega) c.2.1
    obtain ⟨p, hp, rfl⟩ := in_nat (by omega) c.2.2
    rw [nI_clamp (by omega), nI_clamp (by omega), nI_clamp (by omega)]
    refine congrArg nI (qn_cong (fun s hs => ?_) (fun s hs => ?_))
    · show t (9 + 2 * k) s = t1 82 (16 * k + s)
      rw [e2 82 _ (by omega)]; exact (R.H.l k hk s hs).symm
    · have := la_lt a (by omega) s hs
      rw [e2 78 _ (by omega)]; exact (R.W.e _ (by omega)).symm
  · rw [if_neg c, if_neg c]
/-- quarrels of class and reference are the same -/
theorem fQ_rel {t t1 : xT} {nl nh : Nat} (W : relW t nl) (H : relH t nh) (e : ∀ x y, 76 ≤ x → t1 x y = t x y) {u v : Option Nat} (hu : ∀ k, u = some k → k < nh) (hv : ∀ k, v = some k → k < nh) {p : Nat} (hp : p < nl - 31) : fQ (lsC t) (t 5) u v p = fM t1 u v p := by
  have q1 : ∀ (w : Option Nat) (q : Nat), q < 2 → (∀ k, w = some k → k < nh) → qo (lsC t) (t 5) w q p = qo (lsM t1) (t1 78) w q p := by
    intro w q hq hw
    cases w with
    | none => rfl
    | some k =>
      refine congrArg nI (qn_cong (fun s hs => ?_) (fun s hs => ?_))
      · show t (9 + 2 * k) s = t1 82 (16 * k + s)
        rw [e 82 _ (by omega)]; exact (H.l k (hw k rfl) s hs).symm
      · have := la_lt q hq s hs
        rw [e 78 _ (by omega)]; exact (W.e _ (by omega)).symm
  show qo _ _ _ _ _ + qo _ _ _ _ _ = qo _ _ _ _ _ + qo _ _ _ _ _
  rw [q1 u 0 (by decide) hu, q1 v 1 (by decide) hv]
theorem bs_rel {t t1 : xT} {nl nh : Nat} (W : relW t nl) (H : relH t nh) (e : ∀ x y, 76 ≤ x → t1 x y = t x y) {a b : Nat} (ha : a < nh) (hb : b < nh) : bsQ t (nl - 31) a b = bsN t1 (nl - 31) a b := by
  have hx : min a b < nh := by omega
  have hy : max a b < nh := by omega
  refine bsg_cong ⟨?_, ?_⟩ ⟨?_, ?_⟩ ⟨?_, ?_⟩ (fun u v hu hv p hp => fQ_rel W H e (fun k hk => ?_) (fun k hk => ?_) hp)
  · show t (8 + 2 * min a b) 0 = t1 79 (min a b); rw [e _ _ (by omega)]; exact (H.p _ hx).symm
  · show t (8 + 2 * max a b) 0 = t1 79 (max a b); rw [e _ _ (by omega)]; exact (H.p _ hy).symm
  · show t (8 + 2 * min a b) 1 = t1 80 (min a b); rw [e _ _ (by omega)]; exact (H.s _ hx).symm
  · show t (8 + 2 * max a b) 1 = t1 80 (max a b); rw [e _ _ (by omega)]; exact (H.s _ hy).symm
  · show t (8 + 2 * min a b) 2 = t1 81 (min a b); rw [e _ _ (by omega)]; exact (H.r _ hx).symm
  · show t (8 + 2 * max a b) 2 = t1 81 (max a b); rw [e _ _ (by omega)]; exact (H.r _ hy).symm
  · rcases hu k hk with rfl | rfl <;> assumption
  · rcases hv k hk with rfl | rfl <;> assumption
theorem f_best {t t1 : xT} {v1 : Int32} {nt nl nh nj pr : Nat} (a b w : Int32) (h1 : (fun v t' => v = (if (0 ≤ a ∧ a < nI nh) ∧ (0 ≤ b ∧ b < nI nh) ∧ ¬ (bsQ t (nl - 31) a.toNatClampNeg b.toNatClampNeg).2.2.2 = -1 then (if w = nI 0 then (bsQ t (nl - 31) a.toNatClampNeg b.toNatClampNeg).2.2.2 else if w = nI 1 then (bsQ t (nl - 31) a.toNatClampNeg b.toNatClampNeg).2.2.1 else if w = nI 2 then (bsQ t (nl - 31) a.toNatClampNeg b.toNatClampNeg).1 else -1) else -1) ∧ ∀ x y, x ≠ 24 → (x < 26 ∨ 42 ≤ x) → t' x y = t x y) v1 t1) : ∀ x y, 76 ≤ x → t1 x y = t x y := by
  exact fun x z h => h1.2 x z (by omega) (by omega)
theorem s_best {t t1 t2 : xT} {v1 v2 : Int32} {nt nl nh nj pr : Nat} (a b w : Int32) (R : Rel t nt nl nh nj pr) (h1 : (fun v t' => v = (if (0 ≤ a ∧ a < nI nh) ∧ (0 ≤ b ∧ b < nI nh) ∧ ¬ (bsQ t (nl - 31) a.toNatClampNeg b.toNatClampNeg).2.2.2 = -1 then (if w = nI 0 then (bsQ t (nl - 31) a.toNatClampNeg b.toNatClampNeg).2.2.2 else if w = nI 1 then (bsQ t (nl - 31) a.toNatClampNeg b.toNatClampNeg).2.2.1 else if w = nI 2 then (bsQ t (nl - 31) a.toNatClampNeg b.toNatClampNeg).1 else -1) else -1) ∧ ∀ x y, x ≠ 24 → (x < 26 ∨ 42 ≤ x) → t' x y = t x y) v1 t1) (h2 : (fun v t' => v = (if (0 ≤ a ∧ a < nI nh) ∧ (0 ≤ b ∧ b < nI nh) ∧ ¬ (bsN t1 (nl - 31) a.toNatClampNeg b.toNatClampNeg).2.2.2 = -1 then (if w = nI 0 then (bsN t1 (nl - 31) a.toNatClampNeg b.toNatClampNeg).2.2.2 else if w = nI 1 then (bsN t1 (nl - 31) a.toNatClampNeg b.toNatClampNeg).2.2.1 else if w = nI 2 then (bsN t1 (nl - 31) a.toNatClampNeg b.toNatClampNeg).1 else -1) else -1) ∧ ∀ x y, ¬ (x = 76 ∧ (y = 0 ∨ (13 ≤ y ∧ y ≤ 16))) → t' x y = t1 x y) v2 t2) : v1 = v2 ∧ okR t2 := by
  obtain ⟨e1, e2⟩ := h1
  obtain ⟨g1, g2⟩ := h2
  refine ⟨?_, nt, nl, nh, nj, pr, R.keep (fun x z k1 k2 k3 => by rw [g2 x z k1, e2 x z k2 (by omega)])⟩
  rw [e1, g1]
  have hle := R.H.le
  by_cases c : (0 ≤ a ∧ a < nI nh) ∧ (0 ≤ b ∧ b < nI nh)
  · obtain ⟨k, hk, rfl⟩ := in_nat (by omega) c.1
    obtain ⟨j, hj, rfl⟩ := in_nat (by omega) c.2
    rw [nI_clamp (by omega), nI_clamp (by omega), bs_rel R.W R.H (fun x y h => e2 x y (by omega) (by omega)) hk hj]
  · rw [if_neg (fun z => c ⟨z.1, z.2.1⟩), if_neg (fun z => c ⟨z.1, z.2.1⟩)]
theorem f_led {t t1 : xT} {v1 : Int32} {nt nl nh nj pr : Nat} (h f s0 : Int32) (h1 : (fun v t' => v = (if spP nh h f s0 ∧ ¬ t 58 h.toNatClampNeg = -1 then (if hb (t (60 + h.toNatClampNeg) (spI f s0)) (ldL t h f s0) = true then ldL t h f s0 else -1) else -1) ∧ t' = t) v1 t1) : ∀ x y, 76 ≤ x → t1 x y = t x y := by
  rw [h1.2]; exact fun _ _ _ => rfl
theorem s_led {t t1 t2 : xT} {v1 v2 : Int32} {nt nl nh nj pr : Nat} (h f s0 : Int32) (R : Rel t nt nl nh nj pr) (h1 : (fun v t' => v = (if spP nh h f s0 ∧ ¬ t 58 h.toNatClampNeg = -1 then (if hb (t (60 + h.toNatClampNeg) (spI f s0)) (ldL t h f s0) = true then ldL t h f s0 else -1) else -1) ∧ t' = t) v1 t1) (h2 : (fun v t' => v = (if spP nh h f s0 ∧ ¬ t1 76 20 = 0 ∧ ¬ t1 92 h.toNatClampNeg = 0 then (if hb (t1 90 (16 * h.toNatClampNeg + spI f s0)) (t1 91 (16 * h.toNatClampNeg + spI f s0)) = true then t1 91 (16 * h.toNatClampNeg + spI f s0) else -1) else -1) ∧ t' = xt t1 76 0 0) v2 t2) : v1 = v2 ∧ okR t2 := by
  obtain ⟨e1, e2⟩ := h1
  obtain ⟨g1, g2⟩ := h2
  subst e2
  subst g2
  refine ⟨?_, nt, nl, nh, nj, pr, R.k0 0⟩
  rw [e1, g1]
  by_cases q : spP nh h f s0
  · have hle := R.H.le
    have hjl := R.J.le
    have hlw := R.W.le
    obtain ⟨k, hk, ek0, ek, h16⟩ := spk R.H.le q
    rw [ek]
    rcases R.L k (by omega) with ⟨a, b⟩ | ⟨a, b, j, p, h1, h2, h3, h4, h5⟩
    · rw [if_neg (fun z => z.2 a), if_neg (fun z => by rcases b with b | b; exact z.2.1 b; exact z.2.2 b)]
    · obtain ⟨w1, w2⟩ := h5 _ h16
      have hL : ldL t1 h f s0 = t1 91 (16 * k + spI f s0) := by
        rw [w2]
        show t1 5 ((t1 (68 + (t1 58 h.toNatClampNeg).toNatClampNeg) 2).toNatClampNeg + la (if h = t1 (68 + (t1 58 h.toNatClampNeg).toNatClampNeg) 0 then 0 else 1) (spI f s0)) = _
        rw [ek, h2, nI_clamp (show j < 2 ^ 31 by omega), h3, nI_clamp (show p < 2 ^ 31 by omega), ek0]
      rw [if_pos (show spP nh h f s0 ∧ ¬ t1 76 20 = 0 ∧ ¬ t1 92 k = 0 from ⟨q, a, b⟩), if_pos (show spP nh h f s0 ∧ ¬ t1 58 k = -1 from ⟨q, by rw [h2]; exact nI_nm1 j (by omega)⟩), hL, w1]
  · rw [if_neg (fun z => q z.1), if_neg (fun z => q z.1)]
