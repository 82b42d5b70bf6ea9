/-! 03c: pure words: bits of a list, quarrels, rows, the best of a leaf -/
def hb (a b : Int32) : Bool := decide ((a >>> (b &&& 31)) &&& 1 = 1)
def qn (f g : Nat → Int32) (q p : Nat) : Nat → Nat
  | 0 => 0
  | n + 1 => qn f g q p n + (if hb (f n) (g (p + la q n)) = true then 0 else 1)
theorem qn_le (f g : Nat → Int32) (q p : Nat) : ∀ n, qn f g q p n ≤ n
  | 0 => Nat.le_refl 0
  | n + 1 => by
    have := qn_le f g q p n
    unfold qn
    split <;> omega
theorem qn_cong {f f2 g g2 : Nat → Int32} {q p : Nat} : ∀ {n : Nat}, (∀ s, s < n → f s = f2 s) → (∀ s, s < n → g (p + la q s) = g2 (p + la q s)) → qn f g q p n = qn f2 g2 q p n
  | 0, _, _ => rfl
  | n + 1, h1, h2 => by
    unfold qn
    rw [qn_cong (fun s hs => h1 s (by omega)) (fun s hs => h2 s (by omega)), h1 n (by omega), h2 n (by omega)]
theorem hb_all : ∀ c, c < 16 → hb 65535 (nI c) = true := by decide
def ov : Option Nat → Int32
  | none => -1
  | some k => nI k
def rcell : Option Nat → Nat → Nat
  | none, _ => 42
  | some k, q => 26 + (2 * k + q)
theorem rcell_ok {u : Option Nat} {q : Nat} (hu : ∀ k, u = some k → k < 8) (hq : q < 2) : kd (rcell u q) = 10 ∧ ln (rcell u q) = 129 ∧ 26 ≤ rcell u q ∧ rcell u q < 43 := by
  cases u with
  | none => exact ⟨rfl, rfl, by show 26 ≤ 42; omega, by show 42 < 43; omega⟩
  | some k =>
    have h := hu k rfl
    have h2 := kd_row (2 * k + q) (by omega)
    exact ⟨h2.2.1, h2.2.2, by show 26 ≤ 26 + (2 * k + q); omega, by show 26 + (2 * k + q) < 43; omega⟩
def mayb (pt : Nat → Int32) : Option Nat → Int32 → Bool
  | none, _ => true
  | some k, q => decide (pt k = q ∨ pt k = 2)
theorem idx_row (k q : Nat) : (2 : Int32) * nI k + nI q = nI (2 * k + q) := by
  rw [show (2 : Int32) = nI 2 from rfl, pk_mul, nI_add]
/-- t but f y more at the places y below n of the cell k -/
def xadd (t : xT) (k n : Nat) (f : Nat → Int32) : xT := fun x y => if x = k ∧ y < n then t x y + f y else t x y
theorem xadd_0 (t : xT) (k : Nat) (f : Nat → Int32) : xadd t k 0 f = t := by funext x y; simp [xadd]
theorem xadd_ne (t : xT) {k n x : Nat} (f : Nat → Int32) (y : Nat) (h : x ≠ k) : xadd t k n f x y = t x y := by simp [xadd, h]
theorem xadd_same (t : xT) {k n : Nat} (f : Nat → Int32) : xadd t k n f k n = t k n := by simp [xadd]
theorem xadd_s0 (t : xT) (k n : Nat) (f : Nat → Int32) (h : f n = 0) : xadd t k n f = xadd t k (n + 1) f := by
  funext x y
  unfold xadd
  by_cases h1 : x = k
  · subst h1
    by_cases h2 : y = n
    · subst h2; simp [h]
    · by_cases h3 : y < n
      · simp [h3, Nat.lt_succ_of_lt h3]
      · simp [h3, show ¬ y < n + 1 by omega]
  · simp [h1]
theorem xadd_s (t : xT) (k n : Nat) (f : Nat → Int32) : xt (xadd t k n f) k n (t k n + f n) = xadd t k (n + 1) f := by
  funext x y
  unfold xt xadd
  by_cases h1 : x = k
  · subst h1
    by_cases h2 : y = n
    · subst h2; simp
    · by_cases h3 : y < n
      · simp [h2, h3, Nat.lt_succ_of_lt h3]
      · simp [h2, h3, show ¬ y < n + 1 by omega]
  · simp [h1]
/-- the row k of quarrels: the first n spots counted -/
def xrow (t : xT) (k pl : Nat) (f g : Nat → Int32) (q n : Nat) : xT := fun x y => if x = k ∧ y < 129 then (if y < pl then nI (qn f g q y n) else 0) else t x y
theorem xrow_0 (t : xT) (k pl : Nat) (f g : Nat → Int32) (q : Nat) : xf t k 129 0 = xrow t k pl f g q 0 := by
  funext x y
  unfold xf xrow qn
  split
  · split <;> rfl
  · rfl
theorem xrow_ne (t : xT) {k x : Nat} (pl : Nat) (f g : Nat → Int32) (q n y : Nat) (h : x ≠ k) : xrow t k pl f g q n x y = t x y := by simp [xrow, h]
theorem xrow_ne1 (t : xT) {k x : Nat} (pl : Nat) (f g : Nat → Int32) (q n : Nat) (h : x ≠ k) : xrow t k pl f g q n x = t x := funext fun y => xrow_ne t pl f g q n y h
theorem xrow_skip (t : xT) (k pl : Nat) (f g : Nat → Int32) (q n : Nat) (h : ∀ y, y < pl → hb (f n) (g (y + la q n)) = true) : xrow t k pl f g q n = xrow t k pl f g q (n + 1) := by
  funext x y
  unfold xrow
  split
  · split
    · rename_i h1
      show _ = nI (qn f g q y n + _)
      rw [if_pos (h y h1)]; rfl
    · rfl
  · rfl
theorem xrow_add (t : xT) (k pl : Nat) (f g : Nat → Int32) (q n : Nat) (hp : pl ≤ 129) : xadd (xrow t k pl f g q n) k pl (fun y => if hb (f n) (g (y + la q n)) = true then 0 else 1) = xrow t k pl f g q (n + 1) := by
  funext x y
  unfold xadd xrow
  by_cases h1 : x = k
  · subst h1
    by_cases h3 : y < pl
    · have h4 : y < 129 := by omega
      simp only [h3, h4, and_self, if_true]
      show nI _ + _ = nI (qn f g q y n + _)
      split
      · exact Int32.add_zero _
      · exact nI_1 _
    · simp [h3]
  · simp [h1]
abbrev B4 : Type := Int32 × Int32 × Int32 × Int32
def getB (t : xT) : B4 := (t 24 0, t 24 1, t 24 2, t 24 3)
def setB (t : xT) (b : B4) : xT := xt (xt (xt (xt t 24 0 b.1) 24 1 b.2.1) 24 2 b.2.2.1) 24 3 b.2.2.2
theorem setB_ne (t : xT) (b : B4) {x : Nat} (y : Nat) (h : x ≠ 24) : setB t b x y = t x y := by simp [setB, xt, h]
theorem setB_ne1 (t : xT) (b : B4) {x : Nat} (h : x ≠ 24) : setB t b x = t x := funext fun y => setB_ne t b y h
theorem setB_get (t : xT) : setB t (getB t) = t := by
  funext x y
  unfold setB getB xt
  by_cases h : x = 24
  · subst h
    by_cases h0 : y = 0
    · subst h0; simp
    · by_cases h1 : y = 1
      · subst h1; simp
      · by_cases h2 : y = 2
        · subst h2; simp
        · by_cases h3 : y = 3
          · subst h3; simp
          · simp [h0, h1, h2, h3]
  · simp [h]
theorem setB_set (t : xT) (b c : B4) : setB (setB t b) c = setB t c := by
  funext x y
  unfold setB xt
  by_cases h : x = 24
  · subst h
    by_cases h0 : y = 0
    · subst h0; simp
    · by_cases h1 : y = 1
      · subst h1; simp
      · by_cases h2 : y = 2
        · subst h2; simp
        · by_cases h3 : y = 3
          · subst h3; simp
          · simp [h0, h1, h2, h3]
  · simp [h]
theorem getB_set (t : xT) (b : B4) : getB (setB t b) = b := by
  obtain ⟨b0, b1, b2, b3⟩ := b
  simp [getB, setB, xt]
theorem setB_q (t : xT) (b : B4) : setB t b 24 3 = b.2.2.2 := by simp [setB, xt]
def tw (u l : Int32) (f : Nat → Int32) : Nat → B4 → B4
  | 0, b => b
  | n + 1, b => if (tw u l f n b).2.2.2 = -1 ∨ f n < (tw u l f n b).2.2.2 then (u, l, nI n, f n) else tw u l f n b
theorem tw_cong {u l : Int32} {f g : Nat → Int32} {b : B4} : ∀ {n : Nat}, (∀ p, p < n → f p = g p) → tw u l f n b = tw u l g n b
  | 0, _ => rfl
  | n + 1, h => by
    unfold tw
    rw [tw_cong (n := n) (fun p hp => h p (by omega)), h n (by omega)]
def trg (pt : Nat → Int32) (f : Option Nat → Option Nat → Nat → Int32) (pl : Nat) (u l : Option Nat) (b : B4) : B4 := if (mayb pt u 0 && mayb pt l 1) = true then tw (ov u) (ov l) (f u l) pl b else b
def bsg (pt sd rl : Nat → Int32) (f : Option Nat → Option Nat → Nat → Int32) (pl x y : Nat) (b0 : B4) : B4 :=
  if x = y then trg pt f pl none (some x) (trg pt f pl (some x) none b0) else if sd x = sd y ∧ rl x = rl y then trg pt f pl (some y) (some x) (trg pt f pl (some x) (some y) b0) else b0
theorem min_nI {a b : Nat} (ha : a < 2 ^ 31) (hb : b < 2 ^ 31) : (if nI b < nI a then nI b else nI a) = nI (min a b) := by
  by_cases h : b < a
  · rw [if_pos ((nI_ltI hb ha).mpr h), Nat.min_eq_right (by omega)]
  · rw [if_neg (fun q => h ((nI_ltI hb ha).mp q)), Nat.min_eq_left (by omega)]
theorem max_nI {a b : Nat} (ha : a < 2 ^ 31) (hb : b < 2 ^ 31) : (if nI a < nI b then nI b else nI a) = nI (max a b) := by
  by_cases h : a < b
  · rw [if_pos ((nI_ltI ha hb).mpr h), Nat.max_eq_right (by omega)]
  · rw [if_neg (fun q => h ((nI_ltI ha hb).mp q)), Nat.max_eq_left (by omega)]
theorem n_gt {a b : Nat} (h : ¬ nI a ≤ nI b) (ha : a < 2 ^ 31 := by omega) (hb : b < 2 ^ 31 := by omega) : b < a := by
  have : ¬ a ≤ b := fun q => h ((nI_leI ha hb).mpr q)
  omega
theorem n_ge {a b : Nat} (h : nI a ≤ nI b) (ha : a < 2 ^ 31 := by omega) (hb : b < 2 ^ 31 := by omega) : a ≤ b := (nI_leI ha hb).mp h
theorem n_l {a b : Nat} (h : nI a < nI b) (ha : a < 2 ^ 31 := by omega) (hb : b < 2 ^ 31 := by omega) : a < b := (nI_ltI ha hb).mp h
theorem n_nl {a b : Nat} (h : ¬ nI a < nI b) (ha : a < 2 ^ 31 := by omega) (hb : b < 2 ^ 31 := by omega) : b ≤ a := by
  have : ¬ a < b := fun q => h ((nI_ltI ha hb).mpr q)
  omega
theorem xadd_s1 (t : xT) (k n : Nat) (f : Nat → Int32) (h : f n = 1) : xt (xadd t k n f) k n (xadd t k n f k n + 1) = xadd t k (n + 1) f := by
  rw [xadd_same, ← h, xadd_s]
