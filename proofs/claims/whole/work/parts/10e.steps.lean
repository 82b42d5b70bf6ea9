/-! 10e: pairs of calls: book, count, work -/
theorem sub_add32 (a b c : Int32) : a - (b + c) = a - b - c := by
  apply Int32.toBitVec_inj.mp
  rw [Int32.toBitVec_sub, Int32.toBitVec_sub, Int32.toBitVec_sub, Int32.toBitVec_add]
  apply BitVec.eq_of_toNat_eq
  simp only [BitVec.toNat_sub, BitVec.toNat_add]
  omega
theorem J_at {t : xT} {nl nh nj k : Nat} (J : relJ t nl nh nj) (hk : k < nj) : ∃ j, j < nj ∧ (t 57 k).toNatClampNeg = j ∧ (t 93 k).toNatClampNeg = j := by
  obtain ⟨j, hj, e⟩ := J.r k hk
  have hle := J.le
  exact ⟨j, hj, by rw [e]; exact nI_clamp (by omega), by rw [J.o k hk, e]; exact nI_clamp (by omega)⟩
theorem gap_rel {t : xT} {nl nh nj k : Nat} (J : relJ t nl nh nj) (hk : k + 1 < nj) : gapC t k = gapM t k := by
  obtain ⟨a, ha, e1, e2⟩ := J_at J (show k < nj by omega)
  obtain ⟨b, hb, e3, e4⟩ := J_at J hk
  show t (68 + (t 57 (k + 1)).toNatClampNeg) 2 - (t (68 + (t 57 k).toNatClampNeg) 2 + 32) = t 87 (t 93 (k + 1)).toNatClampNeg - t 87 (t 93 k).toNatClampNeg - 32
  rw [e1, e2, e3, e4, J.f2 a ha, J.f2 b hb, sub_add32]
theorem lst_rel {t : xT} {nl nh nj k : Nat} (J : relJ t nl nh nj) (hk : k < nj) : lstV t nj k = if k + 1 < nj then lstM (gapM t k) else -1 := by
  by_cases q : k + 1 < nj
  · rw [if_pos q]
    have e := gap_rel J q
    show (if k + 1 < nj ∧ ¬ (k + 1 < nj ∧ (gapC t k < 0 ∨ ¬ gapC t k - gapC t k / 32 * 32 = 0)) then gapC t k / 32 else -1) = if gapM t k < 0 ∨ ¬ gapM t k - gapM t k / 32 * 32 = 0 then -1 else gapM t k / 32
    rw [e]
    by_cases c : gapM t k < 0 ∨ ¬ gapM t k - gapM t k / 32 * 32 = 0
    · rw [if_neg (fun z => z.2 ⟨q, c⟩), if_pos c]
    · rw [if_pos ⟨q, fun z => c z.2⟩, if_neg c]
  · rw [if_neg q]
    exact if_neg (fun z => q z.1)
theorem lstM_0 {g : Int32} : lstM g = 0 ↔ g = 0 := by
  constructor
  · intro h
    have h' : (if g < 0 ∨ ¬ g - g / 32 * 32 = 0 then (-1 : Int32) else g / 32) = 0 := h
    by_cases c : g < 0 ∨ ¬ g - g / 32 * 32 = 0
    · rw [if_pos c] at h'; exact absurd h' (by decide)
    · rw [if_neg c] at h'
      have c2 : g - g / 32 * 32 = 0 := Decidable.byContradiction fun z => c (Or.inr z)
      rw [h', show (0 : Int32) * 32 = 0 from rfl] at c2
      rw [← c2]
      apply Int32.toBitVec_inj.mp
      rw [Int32.toBitVec_sub]
      show g.toBitVec = g.toBitVec - 0#32
      rw [BitVec.sub_zero]
  · rintro rfl; decide
theorem side_rel {t : xT} {nl nh nj k : Nat} (H : relH t nh) (J : relJ t nl nh nj) (hk : k < nj) : fsC t k = sdM t (t 93 k).toNatClampNeg ∧ (fsC t k = 0 ∨ fsC t k = 1) := by
  obtain ⟨a, ha, e1, e2⟩ := J_at J hk
  obtain ⟨h, h1, h2, h3⟩ := J.sd a ha
  have hle := H.le
  have e : fsC t k = t 80 h := by show t (68 + (t 57 k).toNatClampNeg) 6 = _; rw [e1, h3]
  constructor
  · rw [e, e2]
    show _ = t 80 (if t 85 a = -1 then t 86 a else t 85 a).toNatClampNeg
    rw [h2, nI_clamp (by omega)]
  · rw [e, H.s h h1]; exact H.sr h h1
theorem brk_rel {t : xT} {nl nh nj k : Nat} (H : relH t nh) (J : relJ t nl nh nj) (hk : k < nj) : brkP t nj k ↔ (k + 1 < nj ∧ brkM t k) := by
  show (lstV t nj k = 0 ∧ fsC t k = fsC t (k + 1)) ↔ _
  rw [lst_rel J hk]
  by_cases q : k + 1 < nj
  · rw [if_pos q, lstM_0]
    obtain ⟨e1, s1⟩ := side_rel H J hk
    obtain ⟨e2, s2⟩ := side_rel H J q
    show (gapM t k = 0 ∧ _) ↔ (_ ∧ gapM t k = 0 ∧ ¬ 1 - sdM t (t 93 k).toNatClampNeg = sdM t (t 93 (k + 1)).toNatClampNeg)
    rw [← e1, ← e2]
    have d : fsC t k = fsC t (k + 1) ↔ ¬ 1 - fsC t k = fsC t (k + 1) := by
      rcases s1 with s1 | s1 <;> rcases s2 with s2 | s2 <;> rw [s1, s2] <;> decide
    rw [d]
    exact ⟨fun z => ⟨q, z⟩, fun z => z.2⟩
  · rw [if_neg q]
    exact ⟨fun z => absurd z.1 (by decide), fun z => absurd z.1 q⟩
theorem bi_iff {a b : Prop} [Decidable a] [Decidable b] (h : a ↔ b) : bi a = bi b := by
  by_cases q : a
  · rw [bi_t q, bi_t (h.mp q)]
  · rw [bi_f q, bi_f (fun z => q (h.mpr z))]
theorem lstM_m1 {t : xT} {nl nh nj k : Nat} (hnl : nl ≤ 160) (J : relJ t nl nh nj) (hk : k + 1 < nj) : lstM (gapM t k) = -1 ↔ (gapM t k < 0 ∨ ¬ gapM t k - gapM t k / 32 * 32 = 0) := by
  constructor
  · intro h
    by_cases c : gapM t k < 0 ∨ ¬ gapM t k - gapM t k / 32 * 32 = 0
    · exact c
    · have h' : (if gapM t k < 0 ∨ ¬ gapM t k - gapM t k / 32 * 32 = 0 then (-1 : Int32) else gapM t k / 32) = -1 := h
      rw [if_neg c] at h'
      exfalso
      obtain ⟨a, ha, -, e2⟩ := J_at J (show k < nj by omega)
      obtain ⟨b, hb, -, e4⟩ := J_at J hk
      obtain ⟨p, hp, ep⟩ := J.pl a ha
      obtain ⟨r, hr, er⟩ := J.pl b hb
      have eg : gapM t k = nI r - nI p - 32 := by
        show t 87 (t 93 (k + 1)).toNatClampNeg - t 87 (t 93 k).toNatClampNeg - 32 = _
        rw [e2, e4, J.f2 a ha, J.f2 b hb, ep, er]
      obtain ⟨m, hm, em⟩ := nI_of (x := gapM t k) (fun z => c (Or.inl z))
      have hm2 : m < 200 := by
        have e5 : nI m + nI (p + 32) = nI r := by
          rw [← em, eg, ← nI_add p 32, show nI 32 = (32 : Int32) from rfl, ← sub_add32]
          apply Int32.toBitVec_inj.mp
          rw [Int32.toBitVec_add, Int32.toBitVec_sub, BitVec.sub_add_cancel]
        rw [nI_add] at e5
        rcases Nat.lt_or_ge (m + (p + 32)) (2 ^ 31) with z | z
        · have := (nI_eq z (by omega)).mp e5; omega
        · exfalso
          have e6 : (nI (m + (p + 32))).toInt = (r : Int) := by rw [e5]; exact nI_toInt (by omega)
          have e7 : (nI (m + (p + 32))).toInt < 0 := by
            show (Int32.ofNat (m + (p + 32))).toInt < 0
            rw [Int32.toInt_ofNat']
            have e8 : (Int32.size : Int) = 4294967296 := rfl
            simp only [Int.bmod, e8]
            split <;> omega
          omega
      have d : ∀ m, m < 200 → ¬ nI m / 32 = -1 := by decide +kernel
      rw [em] at h'
      exact d m hm2 h'
  · intro h; exact if_pos h
theorem cls_rel {t : xT} {nl nh nj k : Nat} (hnl : nl ≤ 160) (J : relJ t nl nh nj) (hk : k + 1 < nj) : bi (clsP t nj k) = if lstM (gapM t k) = -1 then 1 else 0 := by
  have e := gap_rel J hk
  by_cases c : gapM t k < 0 ∨ ¬ gapM t k - gapM t k / 32 * 32 = 0
  · rw [if_pos ((lstM_m1 hnl J hk).mpr c), bi_t]
    show k + 1 < nj ∧ (gapC t k < 0 ∨ ¬ gapC t k - gapC t k / 32 * 32 = 0)
    rw [e]; exact ⟨hk, c⟩
  · rw [if_neg (fun z => c ((lstM_m1 hnl J hk).mp z)), bi_f]
    intro z
    have z2 : gapC t k < 0 ∨ ¬ gapC t k - gapC t k / 32 * 32 = 0 := z.2
    rw [e] at z2; exact c z2
/-- a sum whose last part is nothing -/
theorem sm_last {f g : Nat → Int32} {n : Nat} (h : ∀ k, k + 1 < n → f k = g k) (hl : ∀ k, k + 1 = n → f k = 0) : sm f n = sm g (n - 1) := by
  cases n with
  | zero => rfl
  | succ n =>
    rw [sm.eq_2, hl n rfl, Nat.add_sub_cancel, sm_cong (g := g) (fun k hk => h k (by omega))]
    apply Int32.toBitVec_inj.mp
    rw [Int32.toBitVec_add]
    exact BitVec.add_zero _
theorem f_book {t t1 : xT} {v1 : Int32} {nt nl nh nj pr : Nat} (n w : Int32) (h1 : (fun v t' => v = (if 0 ≤ n ∧ n < nI nj then (if w = nI 0 then t 57 n.toNatClampNeg else if w = nI 1 then lstV t nj n.toNatClampNeg else if w = nI 2 then bi (brkP t nj n.toNatClampNeg) else -1) else -1) ∧ t' = t) v1 t1) : ∀ x y, 76 ≤ x → t1 x y = t x y := by
  rw [h1.2]; exact fun _ _ _ => rfl
theorem s_book {t t1 t2 : xT} {v1 v2 : Int32} {nt nl nh nj pr : Nat} (n w : Int32) (R : Rel t nt nl nh nj pr) (h1 : (fun v t' => v = (if 0 ≤ n ∧ n < nI nj then (if w = nI 0 then t 57 n.toNatClampNeg else if w = nI 1 then lstV t nj n.toNatClampNeg else if w = nI 2 then bi (brkP t nj n.toNatClampNeg) else -1) else -1) ∧ t' = t) v1 t1) (h2 : (fun v t' => v = (if 0 ≤ n ∧ n < nI nj then (if w = nI 0 then t1 93 n.toNatClampNeg else if w = nI 1 then (if n.toNatClampNeg + 1 < nj then lstM (gapM t1 n.toNatClampNeg) else -1) else if w = nI 2 then bi (n.toNatClampNeg + 1 < nj ∧ brkM t1 n.toNatClampNeg) else -1) else -1) ∧ t' = xt t1 76 0 0) v2 t2) : v1 = v2 ∧ okR t2 := by
  obtain ⟨e1, e2⟩ := h1
  obtain ⟨g1, g2⟩ := h2
  subst e2
  subst g2
  refine ⟨?_, nt, nl, nh, nj, pr, R.k0 0⟩
  rw [e1, g1]
  have hle := R.J.le
  by_cases q : 0 ≤ n ∧ n < nI nj
  · obtain ⟨k, hk, rfl⟩ := in_nat (by omega) q
    rw [if_pos q, if_pos q, nI_clamp (by omega)]
    by_cases w0 : w = nI 0
    · rw [if_pos w0, if_pos w0]; exact (R.J.o k hk).symm
    · rw [if_neg w0, if_neg w0]
      by_cases w1 : w = nI 1
      · rw [if_pos w1, if_pos w1]; exact lst_rel R.J hk
      · rw [if_neg w1, if_neg w1]
        by_cases w2 : w = nI 2
        · rw [if_pos w2, if_pos w2]; exact bi_iff (brk_rel R.H R.J hk)
        · rw [if_neg w2, if_neg w2]
  · rw [if_neg q, if_neg q]
theorem f_count {t t1 : xT} {v1 : Int32} {nt nl nh nj pr : Nat} (w : Int32) (h1 : (fun v t' => v = (if w = nI 0 then t 4 1 else if w = nI 1 then t 6 1 else if w = nI 2 then t 0 6 else if w = nI 3 then t 55 4 else if w = nI 4 then sm (fun k => t (68 + k) 3) nj else if w = nI 5 then sm (fun k => bi (clsP t nj k)) nj else if w = nI 6 then sm (fun k => bi (brkP t nj k)) nj else if w = nI 7 then sm (fun k => if 0 < lstV t nj k then lstV t nj k else 0) nj else -1) ∧ t' = t) v1 t1) : ∀ x y, 76 ≤ x → t1 x y = t x y := by
  rw [h1.2]; exact fun _ _ _ => rfl
theorem s_count {t t1 t2 : xT} {v1 v2 : Int32} {nt nl nh nj pr : Nat} (w : Int32) (R : Rel t nt nl nh nj pr) (h1 : (fun v t' => v = (if w = nI 0 then t 4 1 else if w = nI 1 then t 6 1 else if w = nI 2 then t 0 6 else if w = nI 3 then t 55 4 else if w = nI 4 then sm (fun k => t (68 + k) 3) nj else if w = nI 5 then sm (fun k => bi (clsP t nj k)) nj else if w = nI 6 then sm (fun k => bi (brkP t nj k)) nj else if w = nI 7 then sm (fun k => if 0 < lstV t nj k then lstV t nj k else 0) nj else -1) ∧ t' = t) v1 t1) (h2 : (fun v t' => v = (if w = nI 0 then t1 76 4 else if w = nI 1 then t1 76 7 else if w = nI 2 then t1 76 12 else if w = nI 3 then t1 76 21 else if w = nI 4 then sm (fun k => t1 88 k) nj else if w = nI 5 then sm (fun k => if lstM (gapM t1 k) = -1 then 1 else 0) (nj - 1) else if w = nI 6 then sm (fun k => bi (brkM t1 k)) (nj - 1) else if w = nI 7 then sm (fun k => if 0 < lstM (gapM t1 k) then lstM (gapM t1 k) else 0) (nj - 1) else -1) ∧ t' = xt t1 76 0 0) v2 t2) : v1 = v2 ∧ okR t2 := by
  obtain ⟨e1, e2⟩ := h1
  obtain ⟨g1, g2⟩ := h2
  subst e2
  subst g2
  refine ⟨?_, nt, nl, nh, nj, pr, R.k0 0⟩
  have s4 : sm (fun k => t1 (68 + k) 3) nj = sm (fun k => t1 88 k) nj := sm_cong (fun k hk => (R.J.f3 k hk).symm)
  have s5 : sm (fun k => bi (clsP t1 nj k)) nj = sm (fun k => if lstM (gapM t1 k) = -1 then 1 else 0) (nj - 1) := sm_last (fun k hk => cls_rel R.W.le R.J hk) (fun k hk => bi_f (fun z => by have := z.1; omega))
  have s6 : sm (fun k => bi (brkP t1 nj k)) nj = sm (fun k => bi (brkM t1 k)) (nj - 1) := sm_last (fun k hk => bi_iff ((brk_rel R.H R.J (by omega)).trans ⟨fun z => z.2, fun z => ⟨hk, z⟩⟩)) (fun k hk => bi_f (fun z => by have := ((brk_rel R.H R.J (by omega)).mp z).1; omega))
  have s7 : sm (fun k => if 0 < lstV t1 nj k then lstV t1 nj k else 0) nj = sm (fun k => if 0 < lstM (gapM t1 k) then lstM (gapM t1 k) else 0) (nj - 1) := sm_last (fun k hk => by
    show (if 0 < lstV t1 nj k then lstV t1 nj k else 0) = _
    rw [lst_rel R.J (by omega), if_pos hk]) (fun k hk => by
    show (if 0 < lstV t1 nj k then lstV t1 nj k else 0) = _
    rw [lst_rel R.J (by omega), if_neg (show ¬ k + 1 < nj by omega)]; rfl)
  rw [e1, g1]
  by_cases w0 : w = nI 0
  · rw [if_pos w0, if_pos w0]; exact (R.W.c.trans R.W.m.symm)
  · rw [if_neg w0, if_neg w0]
    by_cases w1 : w = nI 1
    · rw [if_pos w1, if_pos w1]; exact (R.H.c.trans R.H.m.symm)
    · rw [if_neg w1, if_neg w1]
      by_cases w2 : w = nI 2
      · rw [if_pos w2, if_pos w2]; exact R.O.symm
      · rw [if_neg w2, if_neg w2]
        by_cases w3 : w = nI 3
        · rw [if_pos w3, if_pos w3]; exact (R.J.c.trans R.J.m.symm)
        · rw [if_neg w3, if_neg w3]
          by_cases w4 : w = nI 4
          · rw [if_pos w4, if_pos w4]; exact s4
          · rw [if_neg w4, if_neg w4]
            by_cases w5 : w = nI 5
            · rw [if_pos w5, if_pos w5]; exact s5
            · rw [if_neg w5, if_neg w5]
              by_cases w6 : w = nI 6
              · rw [if_pos w6, if_pos w6]; exact s6
              · rw [if_neg w6, if_neg w6]
                by_cases w7 : w = nI 7
                · rw [if_pos w7, if_pos w7]; exact s7
                · rw [if_neg w7, if_neg w7]
theorem ctb_cong {f g : Nat → Int32} : ∀ {n : Nat}, (∀ j, j < n → f j = g j) → ctb f n = ctb g n
  | 0, _ => rfl
  | n + 1, h => by rw [ctb.eq_2, ctb.eq_2, ctb_cong (n := n) (fun j hj => h j (by omega)), h n (by omega)]
theorem sfr_cong {f g : Nat → Int32} : ∀ {n : Nat}, (∀ j, j < n → f j = g j) → sfr f n = sfr g n
  | 0, _ => rfl
  | n + 1, h => by
    have e : kbb f n = kbb g n := by unfold kbb; rw [h n (by omega), ctb_cong (n := n) (fun j hj => h j (by omega))]
    rw [sfr.eq_2, sfr.eq_2, sfr_cong (n := n) (fun j hj => h j (by omega)), e]
theorem ctb_onto {f : Nat → Int32} : ∀ {n i : Nat}, i < ctb f n → ∃ j, j < n ∧ ltb (f j) = true ∧ ctb f j = i
  | 0, i, h => absurd h (Nat.not_lt_zero i)
  | n + 1, i, h => by
    by_cases q : ltb (f n) = true
    · rw [ctb_t q] at h
      by_cases z : i = ctb f n
      · exact ⟨n, by omega, q, z.symm⟩
      · obtain ⟨j, h1, h2, h3⟩ := ctb_onto (f := f) (n := n) (i := i) (by omega)
        exact ⟨j, by omega, h2, h3⟩
    · rw [ctb_f q] at h
      obtain ⟨j, h1, h2, h3⟩ := ctb_onto (n := n) (i := i) h
      exact ⟨j, by omega, h2, h3⟩
theorem f_work {t t1 : xT} {v1 : Int32} {nt nl nh nj pr : Nat} (n : Int32) (hnt : nt ≤ 400) (h1 : (fun v t' => (¬ (0 ≤ n ∧ n ≤ nI nt) → v = -2 ∧ t' = t) ∧ ∀ k, k ≤ nt → n = nI k → (¬ (sfr (t 2) k).1 = 0 → v = -1 ∧ t' = xt (set4 t (sfr (t 2) k)) 1 1 0) ∧ ((sfr (t 2) k).1 = 0 → v = nI (ctb (t 2) k) ∧ t' 4 1 = nI (ctb (t 2) k) ∧ t' 4 2 = 0 ∧ t' 4 3 = -1 ∧ (∀ j, j < k → ltb (t 2 j) = true → t' 5 (ctb (t 2) j) = t 2 j - 97) ∧ t' 1 1 = 0 ∧ t' 55 4 = 0 ∧ (∀ h, h < 8 → t' 58 h = -1) ∧ ∀ x y, x ≠ 1 → x ≠ 4 → x ≠ 5 → x ≠ 55 → x ≠ 58 → t' x y = t x y)) v1 t1) : ∀ x y, 76 ≤ x → t1 x y = t x y := by
  intro x y hx
  by_cases q : 0 ≤ n ∧ n ≤ nI nt
  · obtain ⟨k, hk, rfl⟩ := le_nat (by omega) q
    have h1' := h1.2 k hk rfl
    by_cases z : (sfr (t 2) k).1 = 0
    · exact (h1'.2 z).2.2.2.2.2.2.2.2 x y (by omega) (by omega) (by omega) (by omega) (by omega)
    · rw [(h1'.1 z).2, xt_ne _ _ (by omega), set4_ne _ _ _ (by omega)]
  · rw [(h1.1 q).2]
theorem s_work {t t1 t2 : xT} {v1 v2 : Int32} {nt nl nh nj pr : Nat} (n : Int32) (R : Rel t nt nl nh nj pr) (h1 : (fun v t' => (¬ (0 ≤ n ∧ n ≤ nI nt) → v = -2 ∧ t' = t) ∧ ∀ k, k ≤ nt → n = nI k → (¬ (sfr (t 2) k).1 = 0 → v = -1 ∧ t' = xt (set4 t (sfr (t 2) k)) 1 1 0) ∧ ((sfr (t 2) k).1 = 0 → v = nI (ctb (t 2) k) ∧ t' 4 1 = nI (ctb (t 2) k) ∧ t' 4 2 = 0 ∧ t' 4 3 = -1 ∧ (∀ j, j < k → ltb (t 2 j) = true → t' 5 (ctb (t 2) j) = t 2 j - 97) ∧ t' 1 1 = 0 ∧ t' 55 4 = 0 ∧ (∀ h, h < 8 → t' 58 h = -1) ∧ ∀ x y, x ≠ 1 → x ≠ 4 → x ≠ 5 → x ≠ 55 → x ≠ 58 → t' x y = t x y)) v1 t1) (h2 : (fun v t' => (¬ (0 ≤ n ∧ n ≤ nI nt) → v = -2 ∧ t' = xt t1 76 0 0) ∧ ∀ k, k ≤ nt → n = nI k → (¬ (sfr (t1 77) k).1 = 0 → v = -1 ∧ t' 76 2 = 0 ∧ t' 76 5 = (sfr (t1 77) k).1 ∧ t' 76 6 = (sfr (t1 77) k).2 ∧ ∀ x y, ¬ (x = 76 ∧ (y = 0 ∨ y = 2 ∨ y = 5 ∨ y = 6)) → ¬ (x = 78 ∧ 160 ≤ y) → t' x y = t1 x y) ∧ ((sfr (t1 77) k).1 = 0 → v = nI (ctb (t1 77) k) ∧ t' 76 4 = nI (ctb (t1 77) k) ∧ t' 76 5 = 0 ∧ t' 76 6 = -1 ∧ (∀ j, j < k → ltb (t1 77 j) = true → t' 78 (ctb (t1 77) j) = t1 77 j - 97) ∧ t' 76 2 = 0 ∧ t' 76 21 = 0 ∧ t' 76 20 = 0 ∧ ∀ x y, ¬ (x = 76 ∧ (y = 0 ∨ y = 2 ∨ y = 4 ∨ y = 5 ∨ y = 6 ∨ y = 20 ∨ y = 21)) → x ≠ 78 → t' x y = t1 x y)) v2 t2) : v1 = v2 ∧ okR t2 := by
  by_cases q : 0 ≤ n ∧ n ≤ nI nt
  · have hle := R.T.le
    obtain ⟨k, hk, rfl⟩ := le_nat (by omega) q
    have h1' := h1.2 k hk rfl
    have h2' := h2.2 k hk rfl
    have e76 : ∀ x y, 76 ≤ x → t1 x y = t x y := f_work (nl := nl) (nh := nh) (nj := nj) (pr := pr) (nI k) hle h1
    have ef : ∀ j, j < k → t1 77 j = t 2 j := fun j hj => by rw [e76 77 j (by omega)]; exact R.T.b j (by omega)
    have es : sfr (t1 77) k = sfr (t 2) k := sfr_cong ef
    rw [es] at h2'
    by_cases z : (sfr (t 2) k).1 = 0
    · obtain ⟨a1, a2, a3, a4, a5, a6, a7, a8, a9⟩ := h1'.2 z
      obtain ⟨b1, b2, b3, b4, b5, b6, b7, b8, b9⟩ := h2'.2 z
      have ec : ctb (t1 77) k = ctb (t 2) k := ctb_cong ef
      rw [ec] at b1 b2
      refine ⟨by rw [a1, b1], 0, ctb (t 2) k, nh, 0, pr, ⟨by omega, ?_, b6, fun j hj => absurd hj (by omega)⟩, ⟨(sfr_ok z).2, ?_, b2, ?_, ?_, fun i hi => ?_, fun i hi => ?_⟩, R.H.fr (fun x y h => ?_), ?_, R.P.fr (fun x y h => ?_), fun p hp => ?_, ⟨by omega, ?_, b7, fun j hj => absurd hj (by omega), fun j hj => absurd hj (by omega), fun j hj => absurd hj (by omega), fun j hj => absurd hj (by omega), fun j hj => absurd hj (by omega), fun j hj => absurd hj (by omega), fun j hj => absurd hj (by omega), fun j hj => absurd hj (by omega), fun j hj => absurd hj (by omega), fun j hj => absurd hj (by omega)⟩, fun h hh => Or.inl ⟨?_, Or.inl b8⟩⟩
      · rw [b9 1 1 (by omega) (by omega)]; exact a6
      · rw [b9 4 1 (by omega) (by omega)]; exact a2
      · rw [b9 4 2 (by omega) (by omega), b3, a3]
      · rw [b9 4 3 (by omega) (by omega), b4, a4]
      · obtain ⟨j, hj, lj, cj⟩ := ctb_onto hi
        have w1 := a5 j hj lj
        have w2 := b5 j hj (by rw [ef j hj]; exact lj)
        rw [ctb_cong (g := t 2) (fun i hi => ef i (by omega)), cj, ef j hj] at w2
        rw [cj] at w1
        rw [w2, b9 5 i (by omega) (by omega), w1]
      · obtain ⟨j, hj, lj, cj⟩ := ctb_onto hi
        have w1 := a5 j hj lj
        rw [cj] at w1
        rw [b9 5 i (by omega) (by omega), w1]
        unfold ltb at lj
        obtain ⟨c, hc, e⟩ := le_nat (n := 15) (by omega) (of_decide_eq_true lj)
        exact ⟨c, by omega, e⟩
      · rw [b9 x y (by omega) (by omega), a9 x y (by omega) (by omega) (by omega) (by omega) (by omega)]
      · rw [b9 76 12 (by omega) (by omega), b9 0 6 (by omega) (by omega), a9 76 12 (by omega) (by omega) (by omega) (by omega) (by omega), a9 0 6 (by omega) (by omega) (by omega) (by omega) (by omega)]; exact R.O
      · rw [b9 x y (by omega) (by omega), a9 x y (by omega) (by omega) (by omega) (by omega) (by omega)]
      · rw [b9 42 p (by omega) (by omega), a9 42 p (by omega) (by omega) (by omega) (by omega) (by omega)]; exact R.Z p hp
      · rw [b9 55 4 (by omega) (by omega)]; exact a7
      · rw [b9 58 h (by omega) (by omega)]; exact a8 h hh
    · obtain ⟨a1, a2⟩ := h1'.1 z
      obtain ⟨b1, b2, b3, b4, b5⟩ := h2'.1 z
      have e1 : ∀ x y, x ≠ 1 → x ≠ 4 → t1 x y = t x y := fun x y k1 k2 => by rw [a2, xt_ne _ _ (by omega), set4_ne _ _ _ k2]
      have e : ∀ x y, x ≠ 1 → x ≠ 4 → ¬ (x = 76 ∧ (y = 0 ∨ y = 2 ∨ y = 5 ∨ y = 6)) → ¬ (x = 78 ∧ 160 ≤ y) → t2 x y = t x y := fun x y k1 k2 k3 k4 => by rw [b5 x y k3 k4, e1 x y k1 k2]
      have hlw := R.W.le
      refine ⟨by rw [a1, b1], 0, nl, nh, nj, pr, ⟨by omega, ?_, b2, fun j hj => absurd hj (by omega)⟩, ⟨hlw, ?_, ?_, ?_, ?_, fun i hi => ?_, fun i hi => ?_⟩, R.H.fr (fun x y h => e x y (by omega) (by omega) (by omega) (by omega)), ?_, R.P.fr (fun x y h => e x y (by omega) (by omega) (by omega) (by omega)), fun p hp => ?_, R.J.fr (Nat.le_refl _) (fun x y h => e x y (by omega) (by omega) (by omega) (by omega)), R.L.fr R.J.le (fun x y h => e x y (by omega) (by omega) (by omega) (by omega))⟩
      · rw [b5 1 1 (by omega) (by omega), a2, xt_same]; rfl
      · rw [b5 4 1 (by omega) (by omega), a2, xt_ne _ _ (by omega), set4_1]; exact R.W.c
      · rw [e 76 4 (by omega) (by omega) (by omega) (by omega)]; exact R.W.m
      · rw [b3, b5 4 2 (by omega) (by omega), a2, xt_ne _ _ (by omega), set4_2]
      · rw [b4, b5 4 3 (by omega) (by omega), a2, xt_ne _ _ (by omega)]; simp [set4, xt]
      · rw [e 78 i (by omega) (by omega) (by omega) (by omega), e 5 i (by omega) (by omega) (by omega) (by omega)]; exact R.W.e i hi
      · rw [e 5 i (by omega) (by omega) (by omega) (by omega)]; exact R.W.r i hi
      · rw [e 76 12 (by omega) (by omega) (by omega) (by omega), e 0 6 (by omega) (by omega) (by omega) (by omega)]; exact R.O
      · rw [e 42 p (by omega) (by omega) (by omega) (by omega)]; exact R.Z p hp
  · obtain ⟨e1, e2⟩ := h1.1 q
    obtain ⟨g1, g2⟩ := h2.1 q
    subst e2
    subst g2
    exact ⟨by rw [e1, g1], nt, nl, nh, nj, pr, R.k0 0⟩
