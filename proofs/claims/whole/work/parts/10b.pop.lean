/-! 10b: bits of ints as bits of numbers -/
theorem nI_and (a b : Nat) : nI a &&& nI b = nI (Nat.land a b) := by
  apply Int32.toBitVec_inj.mp
  rw [Int32.toBitVec_and]
  show BitVec.ofNat 32 a &&& BitVec.ofNat 32 b = BitVec.ofNat 32 (a &&& b)
  rw [BitVec.ofNat_and]
theorem nI_us {a n : Nat} {k : Int32} (ha : a < 2 ^ 31) (hk : (k.toUInt32 &&& Int32.toUInt32 31).toBitVec.toNat % 32 = n) : us (nI a) k = nI (Nat.shiftRight a n) := by
  apply Int32.toBitVec_inj.mp
  show ((nI a).toUInt32 >>> (k.toUInt32 &&& Int32.toUInt32 31)).toBitVec = BitVec.ofNat 32 (a >>> n)
  rw [UInt32.toBitVec_shiftRight, BitVec.ushiftRight_eq', BitVec.toNat_umod]
  show BitVec.ofNat 32 a >>> ((k.toUInt32 &&& Int32.toUInt32 31).toBitVec.toNat % 32) = _
  rw [hk]
  apply BitVec.eq_of_toNat_eq
  rw [BitVec.toNat_ushiftRight, BitVec.toNat_ofNat, BitVec.toNat_ofNat, Nat.mod_eq_of_lt (by omega), Nat.mod_eq_of_lt (Nat.lt_of_le_of_lt (Nat.shiftRight_le a n) (by omega))]
theorem nI_sub {a b : Nat} (h : b ≤ a) : nI a - nI b = nI (Nat.sub a b) := by
  have e : nI (a - b) + nI b = nI a := by rw [nI_add]; congr 1; omega
  show _ = nI (a - b)
  rw [← e]
  apply Int32.toBitVec_inj.mp
  rw [Int32.toBitVec_sub, Int32.toBitVec_add, BitVec.add_sub_cancel]
theorem nI_sr {a n : Nat} {k : Int32} (ha : a < 2 ^ 31) (hn : n < 32) (hk : (k &&& 31).toBitVec.smod 32 = BitVec.ofNat 32 n) : nI a >>> (k &&& 31) = nI (Nat.shiftRight a n) := by
  apply Int32.toBitVec_inj.mp
  rw [Int32.toBitVec_shiftRight, hk, BitVec.sshiftRight_eq', BitVec.toNat_ofNat, Nat.mod_eq_of_lt (show n < 2 ^ 32 by omega)]
  show (BitVec.ofNat 32 a).sshiftRight n = BitVec.ofNat 32 (a >>> n)
  have hm : (BitVec.ofNat 32 a).msb = false := by
    rw [BitVec.msb_eq_decide, BitVec.toNat_ofNat, Nat.mod_eq_of_lt (by omega)]
    simp; omega
  rw [BitVec.sshiftRight_eq_of_msb_false hm]
  apply BitVec.eq_of_toNat_eq
  rw [BitVec.toNat_ushiftRight, BitVec.toNat_ofNat, BitVec.toNat_ofNat, Nat.mod_eq_of_lt (by omega), Nat.mod_eq_of_lt (Nat.lt_of_le_of_lt (Nat.shiftRight_le a n) (by omega))]
theorem st1 {x : Nat} (h : x < 65536) : bc1 (nI x) = nI (p1 x) ∧ p1 x < 65536 := by
  have l1 : Nat.land (Nat.shiftRight x 1) 1431655765 ≤ x := Nat.le_trans Nat.and_le_left (Nat.shiftRight_le x 1)
  refine ⟨?_, Nat.lt_of_le_of_lt (Nat.sub_le _ _) h⟩
  unfold bc1 p1
  rw [nI_us (n := 1) (by omega) (by decide), show (1431655765 : Int32) = nI 1431655765 from rfl, nI_and, nI_sub l1]
theorem st2 {x : Nat} (h : x < 65536) : bc2 (nI x) = nI (p2 x) ∧ p2 x < 131072 := by
  constructor
  · unfold bc2 p2
    rw [nI_us (n := 2) (by omega) (by decide), show (858993459 : Int32) = nI 858993459 from rfl, nI_and, nI_and, nI_add]
    rfl
  · have q1 : Nat.land x 858993459 ≤ x := Nat.and_le_left
    have q2 : Nat.land (Nat.shiftRight x 2) 858993459 ≤ x := Nat.le_trans Nat.and_le_left (Nat.shiftRight_le x 2)
    show Nat.land x 858993459 + Nat.land (Nat.shiftRight x 2) 858993459 < _
    omega
theorem st3 {x : Nat} (h : x < 131072) : bc3 (nI x) = nI (p3 x) ∧ p3 x < 262144 := by
  constructor
  · unfold bc3 p3
    rw [nI_us (n := 4) (by omega) (by decide), show (252645135 : Int32) = nI 252645135 from rfl, nI_add, nI_and]
    rfl
  · have q1 : Nat.land (Nat.add x (Nat.shiftRight x 4)) 252645135 ≤ Nat.add x (Nat.shiftRight x 4) := Nat.and_le_left
    have q2 : Nat.shiftRight x 4 ≤ x := Nat.shiftRight_le x 4
    have q3 : Nat.add x (Nat.shiftRight x 4) = x + Nat.shiftRight x 4 := rfl
    show Nat.land (Nat.add x (Nat.shiftRight x 4)) 252645135 < _
    omega
theorem st4 {x : Nat} (h : x < 262144) : bc4 (nI x) = nI (p4 x) ∧ p4 x < 524288 := by
  constructor
  · unfold bc4 p4
    rw [nI_us (n := 8) (by omega) (by decide), nI_add]
    rfl
  · have q2 : Nat.shiftRight x 8 ≤ x := Nat.shiftRight_le x 8
    show x + Nat.shiftRight x 8 < _
    omega
theorem st5 {x : Nat} (h : x < 524288) : bc5 (nI x) = nI (p5 x) := by
  unfold bc5 p5
  rw [nI_us (n := 16) (by omega) (by decide), nI_add]
  rfl
theorem bcj_N {k : Nat} (hk : k < 65536) : bcj (nI k) = nI (pN k) := by
  have h1 := st1 hk
  have h2 := st2 h1.2
  have h3 := st3 h2.2
  have h4 := st4 h3.2
  unfold bcj pN
  rw [h1.1, h2.1, h3.1, h4.1, st5 h4.2, show (63 : Int32) = nI 63 from rfl, nI_and]
theorem bcm_N {k : Nat} (hk : k < 65536) : bcm (nI k) 16 = nI (sN k) := by
  have e : ∀ n, n < 16 → (nI k >>> (nI n &&& 31)) &&& 1 = nI (bt k n) := by
    intro n hn
    have h2 : ∀ n, n < 16 → (nI n &&& 31).toBitVec.smod 32 = BitVec.ofNat 32 n := by decide
    rw [nI_sr (n := n) (by omega) (by omega) (h2 n hn), show (1 : Int32) = nI 1 from rfl, nI_and]
    rfl
  simp only [bcm]
  rw [e 0 (by decide), e 1 (by decide), e 2 (by decide), e 3 (by decide), e 4 (by decide), e 5 (by decide), e 6 (by decide), e 7 (by decide), e 8 (by decide), e 9 (by decide), e 10 (by decide), e 11 (by decide), e 12 (by decide), e 13 (by decide), e 14 (by decide), e 15 (by decide)]
  rw [show (0 : Int32) = nI 0 from rfl]
  simp only [nI_add]
  congr 1
  show _ = ((((bt k 0 + bt k 1) + (bt k 2 + bt k 3)) + ((bt k 4 + bt k 5) + (bt k 6 + bt k 7))) + (((bt k 8 + bt k 9) + (bt k 10 + bt k 11)) + ((bt k 12 + bt k 13) + (bt k 14 + bt k 15))))
  omega
theorem bc_eq {k : Nat} (hk : k < 65536) : bcj (nI k) = bcm (nI k) 16 := by
  rw [bcj_N hk, bcm_N hk]
  have h := lo1_all (lo1_all bc_t (k / 256) (by omega)) (k % 256) (by omega)
  have e : Nat.add (Nat.mul 256 (k / 256)) (k % 256) = k := Nat.div_add_mod k 256
  rw [e] at h
  exact congrArg nI (Nat.eq_of_beq_eq_true h)
/-- a list of letters narrowed by what was seen -/
theorem bc_and {y x : Int32} (h1 : 1 ≤ x) (h2 : x ≤ 65535) : bcj (y &&& x) = bcm (y &&& x) 16 := by
  obtain ⟨b, hb, rfl⟩ := nI_of2 (x := x) (M := 65535) (n := 65535) rfl (fun q => by rw [i_lt, i_0] at q; rw [i_le, i_1] at h1; omega) h2
  have e : ∃ a : Nat, a ≤ b ∧ y &&& nI b = nI a := by
    refine ⟨Nat.land y.toBitVec.toNat b, Nat.and_le_right, ?_⟩
    rw [← nI_and]
    congr 1
    apply Int32.toBitVec_inj.mp
    show _ = BitVec.ofNat 32 y.toBitVec.toNat
    rw [BitVec.ofNat_toNat, BitVec.setWidth_eq]
  obtain ⟨a, ha, e⟩ := e
  rw [e]
  exact bc_eq (by omega)
