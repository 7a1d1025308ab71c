/-! Sets of coats: bits of a long. -/
def qN (n : Nat) : Int64 := Int64.ofNat n
theorem qN_bv (n : Nat) : (qN n).toBitVec = BitVec.ofNat 64 n := rfl
theorem qN_ext {a b : Nat} (h : BitVec.ofNat 64 a = BitVec.ofNat 64 b) : qN a = qN b := Int64.toBitVec_inj.mp h
theorem qN_and (a b : Nat) : qN a &&& qN b = qN (a &&& b) := by
  apply Int64.toBitVec_inj.mp
  rw [Int64.toBitVec_and, qN_bv, qN_bv, qN_bv, BitVec.ofNat_and]
theorem qN_or (a b : Nat) : qN a ||| qN b = qN (a ||| b) := by
  apply Int64.toBitVec_inj.mp
  rw [Int64.toBitVec_or, qN_bv, qN_bv, qN_bv, BitVec.ofNat_or]
theorem qN_xor (a b : Nat) : qN a ^^^ qN b = qN (a ^^^ b) := by
  apply Int64.toBitVec_inj.mp
  rw [Int64.toBitVec_xor, qN_bv, qN_bv, qN_bv, BitVec.ofNat_xor]
theorem qN_add (a b : Nat) : qN a + qN b = qN (a + b) := by
  apply Int64.toBitVec_inj.mp
  rw [Int64.toBitVec_add, qN_bv, qN_bv, qN_bv, BitVec.ofNat_add]
theorem qN_sub {a b : Nat} (h : b ≤ a) : qN a - qN b = qN (a - b) := by
  have e : qN a = qN (a - b) + qN b := by rw [qN_add, Nat.sub_add_cancel h]
  rw [e, Int64.add_sub_cancel]
theorem qN_neg {a : Nat} (h : a ≤ 18446744073709551616) : - qN a = qN (18446744073709551616 - a) := by
  have e : qN (18446744073709551616 - a) + qN a = 0 := by
    rw [qN_add, Nat.sub_add_cancel h]; rfl
  have : - qN a = qN (18446744073709551616 - a) + qN a + - qN a := by rw [e, Int64.zero_add]
  rw [this, Int64.add_neg_eq_sub, Int64.add_sub_cancel]
theorem qN_eq {a b : Nat} (ha : a < 18446744073709551616) (hb : b < 18446744073709551616) : qN a = qN b ↔ a = b := by
  constructor
  · intro h
    have := congrArg (fun z => z.toBitVec.toNat) h
    simpa [qN_bv, BitVec.toNat_ofNat, Nat.mod_eq_of_lt ha, Nat.mod_eq_of_lt hb] using this
  · intro h; rw [h]
theorem qN_0 {a : Nat} (ha : a < 18446744073709551616) : qN a = 0 ↔ a = 0 := qN_eq (b := 0) ha (by decide)
theorem qN_m1 : (-1 : Int64) = qN 18446744073709551615 := by decide +kernel
theorem lsh40 : ∀ k, k < 40 → (1 : Int64) <<< ((nI k).toInt64 &&& 63) = qN (2 ^ k) := by decide +kernel
theorem qN_ushr {x k : Nat} (hx : x < 18446744073709551616) (hk : k < 64) (c : Int32) (hc : (c.toInt64.toUInt64 &&& Int64.toUInt64 63).toNat = k) : ((qN x).toUInt64 >>> (c.toInt64.toUInt64 &&& Int64.toUInt64 63)).toInt64 = qN (x / 2 ^ k) := by
  apply Int64.toBitVec_inj.mp
  show ((qN x).toUInt64 >>> (c.toInt64.toUInt64 &&& Int64.toUInt64 63)).toBitVec = _
  apply BitVec.eq_of_toNat_eq
  show ((qN x).toUInt64 >>> (c.toInt64.toUInt64 &&& Int64.toUInt64 63)).toNat = _
  rw [UInt64.toNat_shiftRight, hc, Nat.mod_eq_of_lt hk, qN_bv, BitVec.toNat_ofNat, Nat.mod_eq_of_lt (Nat.lt_of_le_of_lt (Nat.div_le_self _ _) hx), Nat.shiftRight_eq_div_pow]
  congr 1
  show (BitVec.ofNat 64 x).toNat = x
  rw [BitVec.toNat_ofNat, Nat.mod_eq_of_lt hx]
theorem qN_l2i (x : Nat) : (qN x).toInt32 = nI x := by
  apply Int32.toBitVec_inj.mp
  apply BitVec.eq_of_toNat_eq
  rw [Int64.toBitVec_toInt32, qN_bv]
  show _ = (BitVec.ofNat 32 x).toNat
  rw [BitVec.signExtend_eq_setWidth_of_le _ (by decide), BitVec.toNat_setWidth, BitVec.toNat_ofNat, BitVec.toNat_ofNat, Nat.mod_mod_of_dvd _ (by decide)]
def bc1 (q : Int64) : Int64 := q - ((q.toUInt64 >>> ((1 : Int32).toInt64.toUInt64 &&& Int64.toUInt64 63)).toInt64 &&& 6148914691236517205)
def bc2 (q : Int64) : Int64 := (q &&& 3689348814741910323) + ((q.toUInt64 >>> ((2 : Int32).toInt64.toUInt64 &&& Int64.toUInt64 63)).toInt64 &&& 3689348814741910323)
def bc3 (q : Int64) : Int64 := (q + (q.toUInt64 >>> ((4 : Int32).toInt64.toUInt64 &&& Int64.toUInt64 63)).toInt64) &&& 1085102592571150095
def bc4 (q : Int64) : Int64 := q + (q.toUInt64 >>> ((8 : Int32).toInt64.toUInt64 &&& Int64.toUInt64 63)).toInt64
def bc5 (q : Int64) : Int64 := q + (q.toUInt64 >>> ((16 : Int32).toInt64.toUInt64 &&& Int64.toUInt64 63)).toInt64
def bc6 (q : Int64) : Int64 := q + (q.toUInt64 >>> ((32 : Int32).toInt64.toUInt64 &&& Int64.toUInt64 63)).toInt64
def bcL (q : Int64) : Int32 := (bc6 (bc5 (bc4 (bc3 (bc2 (bc1 q)))))).toInt32 &&& 127
def bcI (q : Int32) : Int32 :=
  let a := q - ((q.toUInt32 >>> ((1 : Int32).toUInt32 &&& Int32.toUInt32 31)).toInt32 &&& 1431655765)
  let b := (a &&& 858993459) + ((a.toUInt32 >>> ((2 : Int32).toUInt32 &&& Int32.toUInt32 31)).toInt32 &&& 858993459)
  let c := (b + (b.toUInt32 >>> ((4 : Int32).toUInt32 &&& Int32.toUInt32 31)).toInt32) &&& 252645135
  let d := c + (c.toUInt32 >>> ((8 : Int32).toUInt32 &&& Int32.toUInt32 31)).toInt32
  let e := d + (d.toUInt32 >>> ((16 : Int32).toUInt32 &&& Int32.toUInt32 31)).toInt32
  e &&& 63
theorem bcI_P8 : ∀ P, P < 256 → bcI (nI P) = nI (P8 P) := by decide +kernel
theorem nI_127 (x : Nat) : nI x &&& 127 = nI (x % 128) := by
  rw [show (127 : Int32) = nI 127 from rfl, fa_and]
  congr 1
  exact Nat.and_two_pow_sub_one_eq_mod x 7
theorem bcL_pop {x : Nat} (hx : x < 2 ^ 40) : ∃ m, bcL (qN x) = nI m ∧ (m : Int) = py_b one x 40 := by
  have big : (2 : Nat) ^ 40 < 18446744073709551616 := by decide
  have hx' : x < 18446744073709551616 := Nat.lt_trans hx big
  obtain ⟨a, ha⟩ : ∃ a, a = x - (x / 2 &&& 6148914691236517205) := ⟨_, rfl⟩
  obtain ⟨b, hb⟩ : ∃ b, b = (a &&& 3689348814741910323) + (a / 4 &&& 3689348814741910323) := ⟨_, rfl⟩
  obtain ⟨c, hc⟩ : ∃ c, c = (b + b / 16) &&& 1085102592571150095 := ⟨_, rfl⟩
  obtain ⟨d, hd⟩ : ∃ d, d = c + c / 256 := ⟨_, rfl⟩
  obtain ⟨e, he⟩ : ∃ e, e = d + d / 65536 := ⟨_, rfl⟩
  obtain ⟨f, hf⟩ : ∃ f, f = e + e / 4294967296 := ⟨_, rfl⟩
  obtain ⟨r1, r2⟩ := pop40 hx ha hb hc hd he hf
  have b1 : (2 : Nat) ^ 60 < 18446744073709551616 := by decide
  have e1 : e < 18446744073709551616 := by omega
  have d1 : d < 18446744073709551616 := by omega
  have c1 : c < 18446744073709551616 := by omega
  have a1 : a < 18446744073709551616 := by omega
  have bb : b < 18446744073709551616 := by
    have := @Nat.and_le_right a 3689348814741910323
    have := @Nat.and_le_right (a / 4) 3689348814741910323
    omega
  have le : (x / 2 &&& 6148914691236517205) ≤ x := Nat.le_trans Nat.and_le_left (Nat.div_le_self _ _)
  refine ⟨f % 128, ?_, r1⟩
  have s1 : bc1 (qN x) = qN a := by
    unfold bc1
    rw [qN_ushr (k := 1) hx' (by decide) 1 (by decide), show (6148914691236517205 : Int64) = qN 6148914691236517205 from rfl, qN_and, qN_sub (by exact le), ha]
  have s2 : bc2 (qN a) = qN b := by
    unfold bc2
    rw [qN_ushr (k := 2) a1 (by decide) 2 (by decide), show (3689348814741910323 : Int64) = qN 3689348814741910323 from rfl, qN_and, qN_and, qN_add, hb]
  have s3 : bc3 (qN b) = qN c := by
    unfold bc3
    rw [qN_ushr (k := 4) bb (by decide) 4 (by decide), show (1085102592571150095 : Int64) = qN 1085102592571150095 from rfl, qN_add, qN_and, hc]
  have s4 : bc4 (qN c) = qN d := by
    unfold bc4
    rw [qN_ushr (k := 8) c1 (by decide) 8 (by decide), qN_add, hd]
  have s5 : bc5 (qN d) = qN e := by
    unfold bc5
    rw [qN_ushr (k := 16) d1 (by decide) 16 (by decide), qN_add, he]
  have s6 : bc6 (qN e) = qN f := by
    unfold bc6
    rw [qN_ushr (k := 32) e1 (by decide) 32 (by decide), qN_add, hf]
  unfold bcL
  rw [s1, s2, s3, s4, s5, s6, qN_l2i, nI_127]

