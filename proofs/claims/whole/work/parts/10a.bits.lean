/-! 10a: bytes and bits -/
theorem byt_M (v : Int32) : ∀ i, i < 4 → byt v i = bytM v i := by
  intro i hi
  have e : ∀ (k : Int32) (n : Nat), (k.toUInt32 &&& Int32.toUInt32 31).toBitVec.toNat % 32 = n → (k &&& 31).toBitVec.smod 32 = BitVec.ofNat 32 n → n ≤ 24 → (v.toUInt32 >>> (k.toUInt32 &&& Int32.toUInt32 31)).toInt32 &&& 255 = (v >>> (k &&& 31)) &&& 255 := by
    intro k n h1 h2 h3
    apply Int32.toBitVec_inj.mp
    rw [Int32.toBitVec_and, Int32.toBitVec_and, Int32.toBitVec_shiftRight, h2]
    have h4 : (v.toUInt32 >>> (k.toUInt32 &&& Int32.toUInt32 31)).toInt32.toBitVec = v.toBitVec >>> n := by
      show (v.toUInt32 >>> (k.toUInt32 &&& Int32.toUInt32 31)).toBitVec = _
      rw [UInt32.toBitVec_shiftRight, BitVec.ushiftRight_eq', BitVec.toNat_umod]
      show v.toBitVec >>> ((k.toUInt32 &&& Int32.toUInt32 31).toBitVec.toNat % 32) = _
      rw [h1]
    rw [h4]
    apply BitVec.eq_of_getLsbD_eq
    intro j hj
    rw [BitVec.getLsbD_and, BitVec.getLsbD_and, BitVec.getLsbD_ushiftRight, BitVec.sshiftRight_eq', BitVec.getLsbD_sshiftRight, BitVec.toNat_ofNat, Nat.mod_eq_of_lt (show n < 2 ^ 32 by omega)]
    by_cases h8 : j < 8
    · rw [if_pos (show n + j < 32 by omega)]
      simp [show ¬ 32 ≤ j by omega]
    · have : (255 : Int32).toBitVec.getLsbD j = false := by
        have e : ∀ q, q < 32 → 8 ≤ q → (255 : Int32).toBitVec.getLsbD q = false := by decide
        exact e j hj (by omega)
      rw [this, Bool.and_false, Bool.and_false]
  unfold byt bytM
  match i, hi with
  | 0, _ => exact e (shf 0) 24 (by decide) (by decide) (by decide)
  | 1, _ => exact e (shf 1) 16 (by decide) (by decide) (by decide)
  | 2, _ => exact e (shf 2) 8 (by decide) (by decide) (by decide)
  | 3, _ => exact e (shf 3) 0 (by decide) (by decide) (by decide)
def p1 (x : Nat) : Nat := Nat.sub x (Nat.land (Nat.shiftRight x 1) 1431655765)
def p2 (x : Nat) : Nat := Nat.add (Nat.land x 858993459) (Nat.land (Nat.shiftRight x 2) 858993459)
def p3 (x : Nat) : Nat := Nat.land (Nat.add x (Nat.shiftRight x 4)) 252645135
def p4 (x : Nat) : Nat := Nat.add x (Nat.shiftRight x 8)
def p5 (x : Nat) : Nat := Nat.add x (Nat.shiftRight x 16)
def pN (x : Nat) : Nat := Nat.land (p5 (p4 (p3 (p2 (p1 x))))) 63
def bt (x n : Nat) : Nat := Nat.land (Nat.shiftRight x n) 1
def sN (x : Nat) : Nat := Nat.add (Nat.add (Nat.add (Nat.add (bt x 0) (bt x 1)) (Nat.add (bt x 2) (bt x 3))) (Nat.add (Nat.add (bt x 4) (bt x 5)) (Nat.add (bt x 6) (bt x 7)))) (Nat.add (Nat.add (Nat.add (bt x 8) (bt x 9)) (Nat.add (bt x 10) (bt x 11))) (Nat.add (Nat.add (bt x 12) (bt x 13)) (Nat.add (bt x 14) (bt x 15))))
noncomputable def lo1 (f : Nat → Bool) (n : Nat) : Bool := Nat.rec (motive := fun _ => Bool) true (fun k r => Bool.rec (motive := fun _ => Bool) false r (f k)) n
theorem lo1_all {f : Nat → Bool} : ∀ {n : Nat}, lo1 f n = true → ∀ k, k < n → f k = true
  | 0, _, k, hk => absurd hk (Nat.not_lt_zero k)
  | n + 1, h, k, hk => by
    have h1 : Bool.rec (motive := fun _ => Bool) false (lo1 f n) (f n) = true := h
    cases e : f n with
    | false => rw [e] at h1; cases h1
    | true =>
      rw [e] at h1
      by_cases q : k = n
      · rw [q]; exact e
      · exact lo1_all (n := n) h1 k (by omega)
def bcA (x : Nat) : Bool := Nat.beq (pN x) (sN x)
theorem bc_t : lo1 (fun a => lo1 (fun b => bcA (Nat.add (Nat.mul 256 a) b)) 256) 256 = true := by decide +kernel
