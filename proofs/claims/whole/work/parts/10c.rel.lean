/-! 10c: what holds between the cells of the class and those of the reference -/
def relT (t : xT) (nt : Nat) : Prop := (nt ≤ 400) ∧ (t 1 1 = nI nt) ∧ (t 76 2 = nI nt) ∧ (∀ j, j < nt → t 77 j = t 2 j)
theorem relT.le {t : xT} {nt : Nat} (R : relT t nt) : nt ≤ 400 := R.1
theorem relT.c {t : xT} {nt : Nat} (R : relT t nt) : t 1 1 = nI nt := R.2.1
theorem relT.m {t : xT} {nt : Nat} (R : relT t nt) : t 76 2 = nI nt := R.2.2.1
theorem relT.b {t : xT} {nt : Nat} (R : relT t nt) : ∀ j, j < nt → t 77 j = t 2 j := R.2.2.2
def relW (t : xT) (nl : Nat) : Prop := (nl ≤ 160) ∧ (t 4 1 = nI nl) ∧ (t 76 4 = nI nl) ∧ (t 76 5 = t 4 2) ∧ (t 76 6 = t 4 3) ∧ (∀ i, i < nl → t 78 i = t 5 i) ∧ (∀ i, i < nl → ∃ c, c < 16 ∧ t 5 i = nI c)
theorem relW.le {t : xT} {nl : Nat} (R : relW t nl) : nl ≤ 160 := R.1
theorem relW.c {t : xT} {nl : Nat} (R : relW t nl) : t 4 1 = nI nl := R.2.1
theorem relW.m {t : xT} {nl : Nat} (R : relW t nl) : t 76 4 = nI nl := R.2.2.1
theorem relW.f {t : xT} {nl : Nat} (R : relW t nl) : t 76 5 = t 4 2 := R.2.2.2.1
theorem relW.g {t : xT} {nl : Nat} (R : relW t nl) : t 76 6 = t 4 3 := R.2.2.2.2.1
theorem relW.e {t : xT} {nl : Nat} (R : relW t nl) : ∀ i, i < nl → t 78 i = t 5 i := R.2.2.2.2.2.1
theorem relW.r {t : xT} {nl : Nat} (R : relW t nl) : ∀ i, i < nl → ∃ c, c < 16 ∧ t 5 i = nI c := R.2.2.2.2.2.2
def relH (t : xT) (nh : Nat) : Prop := (nh ≤ 8) ∧ (t 6 1 = nI nh) ∧ (t 76 7 = nI nh) ∧ (∀ h, h < nh → t 79 h = t (8 + 2 * h) 0) ∧ (∀ h, h < nh → t 80 h = t (8 + 2 * h) 1) ∧ (∀ h, h < nh → t 81 h = t (8 + 2 * h) 2) ∧ (∀ h, h < nh → t (8 + 2 * h) 0 = 0 ∨ t (8 + 2 * h) 0 = 1 ∨ t (8 + 2 * h) 0 = 2) ∧ (∀ h, h < nh → t (8 + 2 * h) 1 = 0 ∨ t (8 + 2 * h) 1 = 1) ∧ (∀ h, h < nh → ∀ s, s < 16 → t 82 (16 * h + s) = t (9 + 2 * h) s)
theorem relH.le {t : xT} {nh : Nat} (R : relH t nh) : nh ≤ 8 := R.1
theorem relH.c {t : xT} {nh : Nat} (R : relH t nh) : t 6 1 = nI nh := R.2.1
theorem relH.m {t : xT} {nh : Nat} (R : relH t nh) : t 76 7 = nI nh := R.2.2.1
theorem relH.p {t : xT} {nh : Nat} (R : relH t nh) : ∀ h, h < nh → t 79 h = t (8 + 2 * h) 0 := R.2.2.2.1
theorem relH.s {t : xT} {nh : Nat} (R : relH t nh) : ∀ h, h < nh → t 80 h = t (8 + 2 * h) 1 := R.2.2.2.2.1
theorem relH.r {t : xT} {nh : Nat} (R : relH t nh) : ∀ h, h < nh → t 81 h = t (8 + 2 * h) 2 := R.2.2.2.2.2.1
theorem relH.pr {t : xT} {nh : Nat} (R : relH t nh) : ∀ h, h < nh → t (8 + 2 * h) 0 = 0 ∨ t (8 + 2 * h) 0 = 1 ∨ t (8 + 2 * h) 0 = 2 := R.2.2.2.2.2.2.1
theorem relH.sr {t : xT} {nh : Nat} (R : relH t nh) : ∀ h, h < nh → t (8 + 2 * h) 1 = 0 ∨ t (8 + 2 * h) 1 = 1 := R.2.2.2.2.2.2.2.1
theorem relH.l {t : xT} {nh : Nat} (R : relH t nh) : ∀ h, h < nh → ∀ s, s < 16 → t 82 (16 * h + s) = t (9 + 2 * h) s := R.2.2.2.2.2.2.2.2
def relP (t : xT) (pr : Nat) : Prop := (pr ≤ 99) ∧ (t 0 7 = nI pr) ∧ (t 76 17 = nI pr)
theorem relP.le {t : xT} {pr : Nat} (R : relP t pr) : pr ≤ 99 := R.1
theorem relP.c {t : xT} {pr : Nat} (R : relP t pr) : t 0 7 = nI pr := R.2.1
theorem relP.m {t : xT} {pr : Nat} (R : relP t pr) : t 76 17 = nI pr := R.2.2
def relJ (t : xT) (nl nh nj : Nat) : Prop := (nj ≤ 8) ∧ (t 55 4 = nI nj) ∧ (t 76 21 = nI nj) ∧ (∀ j, j < nj → t 85 j = t (68 + j) 0) ∧ (∀ j, j < nj → t 86 j = t (68 + j) 1) ∧ (∀ j, j < nj → t 87 j = t (68 + j) 2) ∧ (∀ j, j < nj → t 88 j = t (68 + j) 3) ∧ (∀ j, j < nj → t 89 j = t (68 + j) 4) ∧ (∀ j, j < nj → t 76 27 = t (68 + j) 5) ∧ (∀ j, j < nj → ∃ p, p + 32 ≤ nl ∧ t (68 + j) 2 = nI p) ∧ (∀ j, j < nj → ∃ h, h < nh ∧ (if t 85 j = -1 then t 86 j else t 85 j) = nI h ∧ t (68 + j) 6 = t 80 h) ∧ (∀ k, k < nj → t 93 k = t 57 k) ∧ (∀ k, k < nj → ∃ j, j < nj ∧ t 57 k = nI j)
theorem relJ.le {t : xT} {nl nh nj : Nat} (R : relJ t nl nh nj) : nj ≤ 8 := R.1
theorem relJ.c {t : xT} {nl nh nj : Nat} (R : relJ t nl nh nj) : t 55 4 = nI nj := R.2.1
theorem relJ.m {t : xT} {nl nh nj : Nat} (R : relJ t nl nh nj) : t 76 21 = nI nj := R.2.2.1
theorem relJ.f0 {t : xT} {nl nh nj : Nat} (R : relJ t nl nh nj) : ∀ j, j < nj → t 85 j = t (68 + j) 0 := R.2.2.2.1
theorem relJ.f1 {t : xT} {nl nh nj : Nat} (R : relJ t nl nh nj) : ∀ j, j < nj → t 86 j = t (68 + j) 1 := R.2.2.2.2.1
theorem relJ.f2 {t : xT} {nl nh nj : Nat} (R : relJ t nl nh nj) : ∀ j, j < nj → t 87 j = t (68 + j) 2 := R.2.2.2.2.2.1
theorem relJ.f3 {t : xT} {nl nh nj : Nat} (R : relJ t nl nh nj) : ∀ j, j < nj → t 88 j = t (68 + j) 3 := R.2.2.2.2.2.2.1
theorem relJ.f4 {t : xT} {nl nh nj : Nat} (R : relJ t nl nh nj) : ∀ j, j < nj → t 89 j = t (68 + j) 4 := R.2.2.2.2.2.2.2.1
theorem relJ.f5 {t : xT} {nl nh nj : Nat} (R : relJ t nl nh nj) : ∀ j, j < nj → t 76 27 = t (68 + j) 5 := R.2.2.2.2.2.2.2.2.1
theorem relJ.pl {t : xT} {nl nh nj : Nat} (R : relJ t nl nh nj) : ∀ j, j < nj → ∃ p, p + 32 ≤ nl ∧ t (68 + j) 2 = nI p := R.2.2.2.2.2.2.2.2.2.1
theorem relJ.sd {t : xT} {nl nh nj : Nat} (R : relJ t nl nh nj) : ∀ j, j < nj → ∃ h, h < nh ∧ (if t 85 j = -1 then t 86 j else t 85 j) = nI h ∧ t (68 + j) 6 = t 80 h := R.2.2.2.2.2.2.2.2.2.2.1
theorem relJ.o {t : xT} {nl nh nj : Nat} (R : relJ t nl nh nj) : ∀ k, k < nj → t 93 k = t 57 k := R.2.2.2.2.2.2.2.2.2.2.2.1
theorem relJ.r {t : xT} {nl nh nj : Nat} (R : relJ t nl nh nj) : ∀ k, k < nj → ∃ j, j < nj ∧ t 57 k = nI j := R.2.2.2.2.2.2.2.2.2.2.2.2
def relL (t : xT) (nl nj : Nat) : Prop := ∀ h, h < 8 → (t 58 h = -1 ∧ (t 76 20 = 0 ∨ t 92 h = 0)) ∨ (¬ t 76 20 = 0 ∧ ¬ t 92 h = 0 ∧ ∃ j p, j < nj ∧ t 58 h = nI j ∧ t (68 + j) 2 = nI p ∧ p + 32 ≤ nl ∧ ∀ s, s < 16 → t (60 + h) s = t 90 (16 * h + s) ∧ t 91 (16 * h + s) = t 5 (p + la (if nI h = t (68 + j) 0 then 0 else 1) s))
def Rel (t : xT) (nt nl nh nj pr : Nat) : Prop := (relT t nt) ∧ (relW t nl) ∧ (relH t nh) ∧ (t 76 12 = t 0 6) ∧ (relP t pr) ∧ (∀ p, p < 129 → t 42 p = 0) ∧ (relJ t nl nh nj) ∧ (relL t nl nj)
theorem Rel.T {t : xT} {nt nl nh nj pr : Nat} (R : Rel t nt nl nh nj pr) : relT t nt := R.1
theorem Rel.W {t : xT} {nt nl nh nj pr : Nat} (R : Rel t nt nl nh nj pr) : relW t nl := R.2.1
theorem Rel.H {t : xT} {nt nl nh nj pr : Nat} (R : Rel t nt nl nh nj pr) : relH t nh := R.2.2.1
theorem Rel.O {t : xT} {nt nl nh nj pr : Nat} (R : Rel t nt nl nh nj pr) : t 76 12 = t 0 6 := R.2.2.2.1
theorem Rel.P {t : xT} {nt nl nh nj pr : Nat} (R : Rel t nt nl nh nj pr) : relP t pr := R.2.2.2.2.1
theorem Rel.Z {t : xT} {nt nl nh nj pr : Nat} (R : Rel t nt nl nh nj pr) : ∀ p, p < 129 → t 42 p = 0 := R.2.2.2.2.2.1
theorem Rel.J {t : xT} {nt nl nh nj pr : Nat} (R : Rel t nt nl nh nj pr) : relJ t nl nh nj := R.2.2.2.2.2.2.1
theorem Rel.L {t : xT} {nt nl nh nj pr : Nat} (R : Rel t nt nl nh nj pr) : relL t nl nj := R.2.2.2.2.2.2.2
theorem relT.fr {t u : xT} {nt : Nat} (R : relT t nt) (e : ∀ x y, (x = 1 ∨ x = 2 ∨ x = 77 ∨ (x = 76 ∧ y = 2)) → u x y = t x y) : relT u nt :=
  ⟨R.le, by rw [e _ _ (by omega)]; exact R.c, by rw [e _ _ (by omega)]; exact R.m, fun j hj => by rw [e _ _ (by omega), e _ _ (by omega)]; exact R.b j hj⟩
theorem relW.fr {t u : xT} {nl : Nat} (R : relW t nl) (e : ∀ x y, (x = 4 ∨ x = 5 ∨ x = 78 ∨ (x = 76 ∧ (y = 4 ∨ y = 5 ∨ y = 6))) → u x y = t x y) : relW u nl :=
  ⟨R.le, by rw [e _ _ (by omega)]; exact R.c, by rw [e _ _ (by omega)]; exact R.m, by rw [e _ _ (by omega), e _ _ (by omega)]; exact R.f, by rw [e _ _ (by omega), e _ _ (by omega)]; exact R.g, fun j hj => by rw [e _ _ (by omega), e _ _ (by omega)]; exact R.e j hj, fun j hj => by rw [e _ _ (by omega)]; exact R.r j hj⟩
theorem relH.fr {t u : xT} {nh : Nat} (R : relH t nh) (e : ∀ x y, (x = 6 ∨ (8 ≤ x ∧ x < 24) ∨ (79 ≤ x ∧ x ≤ 82) ∨ (x = 76 ∧ y = 7)) → u x y = t x y) : relH u nh := by
  have hl := R.le
  exact ⟨R.le, by rw [e _ _ (by omega)]; exact R.c, by rw [e _ _ (by omega)]; exact R.m, fun j hj => by rw [e _ _ (by omega), e _ _ (by omega)]; exact R.p j hj, fun j hj => by rw [e _ _ (by omega), e _ _ (by omega)]; exact R.s j hj, fun j hj => by rw [e _ _ (by omega), e _ _ (by omega)]; exact R.r j hj, fun j hj => by rw [e _ _ (by omega)]; exact R.pr j hj, fun j hj => by rw [e _ _ (by omega)]; exact R.sr j hj, fun j hj s hs => by rw [e _ _ (by omega), e _ _ (by omega)]; exact R.l j hj s hs⟩
theorem relP.fr {t u : xT} {pr : Nat} (R : relP t pr) (e : ∀ x y, ((x = 0 ∧ y = 7) ∨ (x = 76 ∧ y = 17)) → u x y = t x y) : relP u pr :=
  ⟨R.le, by rw [e _ _ (by omega)]; exact R.c, by rw [e _ _ (by omega)]; exact R.m⟩
theorem relJ.fr {t u : xT} {nl nh nh2 nj : Nat} (R : relJ t nl nh nj) (hn : nh ≤ nh2) (e : ∀ x y, (x = 55 ∨ x = 57 ∨ (68 ≤ x ∧ x < 76) ∨ (85 ≤ x ∧ x ≤ 89) ∨ x = 93 ∨ (x = 76 ∧ (y = 21 ∨ y = 27)) ∨ (x = 80 ∧ y < nh)) → u x y = t x y) : relJ u nl nh2 nj := by
  have hl := R.le
  refine ⟨R.le, by rw [e _ _ (by omega)]; exact R.c, by rw [e _ _ (by omega)]; exact R.m, fun j hj => by rw [e _ _ (by omega), e _ _ (by omega)]; exact R.f0 j hj, fun j hj => by rw [e _ _ (by omega), e _ _ (by omega)]; exact R.f1 j hj, fun j hj => by rw [e _ _ (by omega), e _ _ (by omega)]; exact R.f2 j hj, fun j hj => by rw [e _ _ (by omega), e _ _ (by omega)]; exact R.f3 j hj, fun j hj => by rw [e _ _ (by omega), e _ _ (by omega)]; exact R.f4 j hj, fun j hj => by rw [e _ _ (by omega), e _ _ (by omega)]; exact R.f5 j hj, fun j hj => by rw [e _ _ (by omega)]; exact R.pl j hj, fun j hj => ?_, fun j hj => by rw [e _ _ (by omega), e _ _ (by omega)]; exact R.o j hj, fun j hj => by rw [e _ _ (by omega)]; exact R.r j hj⟩
  obtain ⟨h, h1, h2, h3⟩ := R.sd j hj
  refine ⟨h, by omega, ?_, ?_⟩
  · rw [e 85 _ (by omega), e 86 _ (by omega)]; exact h2
  · rw [e _ _ (by omega), e _ _ (by omega)]; exact h3
theorem relL.fr {t u : xT} {nl nj : Nat} (R : relL t nl nj) (hj8 : nj ≤ 8) (e : ∀ x y, (x = 5 ∨ x = 58 ∨ (60 ≤ x ∧ x < 76) ∨ (90 ≤ x ∧ x ≤ 92) ∨ (x = 76 ∧ y = 20)) → u x y = t x y) : relL u nl nj := by
  intro h hh
  rcases R h hh with ⟨a, b⟩ | ⟨a, b, j, p, h1, h2, h3, h4, h5⟩
  · refine Or.inl ⟨by rw [e _ _ (by omega)]; exact a, ?_⟩
    rw [e 76 _ (by omega), e 92 _ (by omega)]; exact b
  · refine Or.inr ⟨by rw [e _ _ (by omega)]; exact a, by rw [e _ _ (by omega)]; exact b, j, p, h1, by rw [e _ _ (by omega)]; exact h2, by rw [e _ _ (by omega)]; exact h3, h4, fun s hs => ?_⟩
    rw [e (60 + h) _ (by omega), e 90 _ (by omega), e 91 _ (by omega), e (68 + j) _ (by omega), e 5 _ (by omega)]
    exact h5 s hs
/-- the cells that stand between calls for nothing -/
theorem Rel.keep {t u : xT} {nt nl nh nj pr : Nat} (R : Rel t nt nl nh nj pr) (e : ∀ x y, ¬ (x = 76 ∧ (y = 0 ∨ (13 ≤ y ∧ y ≤ 16))) → x ≠ 24 → ¬ (26 ≤ x ∧ x < 42) → u x y = t x y) : Rel u nt nl nh nj pr :=
  ⟨R.T.fr (fun x y h => e x y (by omega) (by omega) (by omega)), R.W.fr (fun x y h => e x y (by omega) (by omega) (by omega)), R.H.fr (fun x y h => e x y (by omega) (by omega) (by omega)), by rw [e _ _ (by omega) (by omega) (by omega), e _ _ (by omega) (by omega) (by omega)]; exact R.O, R.P.fr (fun x y h => e x y (by omega) (by omega) (by omega)), fun p hp => by rw [e _ _ (by omega) (by omega) (by omega)]; exact R.Z p hp, R.J.fr (Nat.le_refl _) (fun x y h => e x y (by omega) (by omega) (by omega)), R.L.fr R.J.le (fun x y h => e x y (by omega) (by omega) (by omega))⟩
theorem xt_0 (t : xT) {x y : Nat} (v : Int32) (h : ¬ (x = 76 ∧ (y = 0 ∨ (13 ≤ y ∧ y ≤ 16)))) : xt t 76 0 v x y = t x y := xt_ne t v (by omega)
theorem Rel.k0 {t : xT} {nt nl nh nj pr : Nat} (R : Rel t nt nl nh nj pr) (v : Int32) : Rel (xt t 76 0 v) nt nl nh nj pr := R.keep (fun _ _ h _ _ => xt_0 t v h)
/-- at first -/
theorem Rel_t0 : Rel t0 0 0 0 0 3 := by
  refine ⟨⟨by decide, rfl, rfl, fun j hj => absurd hj (by omega)⟩, ⟨by decide, rfl, rfl, rfl, rfl, fun j hj => absurd hj (by omega), fun j hj => absurd hj (by omega)⟩, ⟨by decide, rfl, rfl, fun j hj => absurd hj (by omega), fun j hj => absurd hj (by omega), fun j hj => absurd hj (by omega), fun j hj => absurd hj (by omega), fun j hj => absurd hj (by omega), fun j hj => absurd hj (by omega)⟩, rfl, ⟨by decide, rfl, rfl⟩, fun p _ => rfl, ⟨by decide, rfl, rfl, fun j hj => absurd hj (by omega), fun j hj => absurd hj (by omega), fun j hj => absurd hj (by omega), fun j hj => absurd hj (by omega), fun j hj => absurd hj (by omega), fun j hj => absurd hj (by omega), fun j hj => absurd hj (by omega), fun j hj => absurd hj (by omega), fun j hj => absurd hj (by omega), fun j hj => absurd hj (by omega)⟩, fun h hh => Or.inl ⟨?_, Or.inl rfl⟩⟩
  have e : ∀ h, h < 8 → t0 58 h = -1 := by decide
  exact e h hh
