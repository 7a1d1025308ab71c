/-! How many bits: what Long.bitCount computes, for numbers below 2 ^ 40. -/
def P8 (b : Nat) : Nat := b % 2 + b / 2 % 2 + b / 4 % 2 + b / 8 % 2 + b / 16 % 2 + b / 32 % 2 + b / 64 % 2 + b / 128 % 2
theorem P8_le (b : Nat) : P8 b ≤ 8 := by unfold P8; omega
theorem and_spl {a c m d : Nat} (hc : c < 256) (hd : d < 256) : (256 * a + c) &&& (256 * m + d) = 256 * (a &&& m) + (c &&& d) := by
  have hcd : c &&& d < 2 ^ 8 := Nat.lt_of_le_of_lt Nat.and_le_left hc
  apply Nat.eq_of_testBit_eq
  intro j
  rw [Nat.testBit_and, show (256 : Nat) = 2 ^ 8 from rfl, Nat.testBit_two_pow_mul_add _ hc, Nat.testBit_two_pow_mul_add _ hd, Nat.testBit_two_pow_mul_add _ hcd]
  split
  · rw [Nat.testBit_and]
  · rw [Nat.testBit_and]
def m55 : Nat → Nat
  | 0 => 0
  | k + 1 => 256 * m55 k + 85
def m33 : Nat → Nat
  | 0 => 0
  | k + 1 => 256 * m33 k + 51
def m0f : Nat → Nat
  | 0 => 0
  | k + 1 => 256 * m0f k + 15
def s1 (k x : Nat) : Nat := x - (x / 2 &&& m55 k)
def s2 (k x : Nat) : Nat := (x &&& m33 k) + (x / 4 &&& m33 k)
def s3 (k x : Nat) : Nat := (x + x / 16) &&& m0f k
def t1_ (b : Nat) : Nat := b - (b / 2 &&& 85)
def t2_ (b : Nat) : Nat := (b &&& 51) + (b / 4 &&& 51)
theorem lo_55 : ∀ r, r < 2 → ∀ c, c < 128 → (128 * r + c) &&& 85 = c &&& 85 := by decide +kernel
theorem lo_33 : ∀ r, r < 4 → ∀ c, c < 64 → (64 * r + c) &&& 51 = c &&& 51 := by decide +kernel
theorem lo_0f : ∀ b, b < 256 → ∀ r, r < 5 → (t2_ (t1_ b) + 16 * r + t2_ (t1_ b) / 16) &&& 15 = P8 b := by decide +kernel
theorem t12_b : ∀ b, b < 256 → t2_ (t1_ b) ≤ 68 ∧ t2_ (t1_ b) % 16 ≤ 4 ∧ t1_ b < 256 := by decide +kernel
theorem s1_s {k y b : Nat} (hb : b < 256) : s1 (k + 1) (256 * y + b) = 256 * s1 k y + t1_ b := by
  unfold s1 t1_
  have e : (256 * y + b) / 2 = 256 * (y / 2) + (128 * (y % 2) + b / 2) := by omega
  show 256 * y + b - ((256 * y + b) / 2 &&& (256 * m55 k + 85)) = _
  rw [e, and_spl (by omega) (by decide), lo_55 _ (by omega) _ (by omega)]
  have h1 : y / 2 &&& m55 k ≤ y / 2 := Nat.and_le_left
  have h2 : b / 2 &&& 85 ≤ b / 2 := Nat.and_le_left
  omega
theorem s2_s {k y b : Nat} (hb : b < 256) : s2 (k + 1) (256 * y + b) = 256 * s2 k y + t2_ b := by
  unfold s2 t2_
  have e : (256 * y + b) / 4 = 256 * (y / 4) + (64 * (y % 4) + b / 4) := by omega
  show ((256 * y + b) &&& (256 * m33 k + 51)) + ((256 * y + b) / 4 &&& (256 * m33 k + 51)) = _
  rw [e, and_spl hb (by decide), and_spl (by omega) (by decide), lo_33 _ (by omega) _ (by omega)]
  omega
def hs : Nat → Nat → Nat
  | 0, _ => 0
  | k + 1, x => 256 * hs k (x / 256) + P8 (x % 256)
theorem q_s (k x : Nat) : s2 (k + 1) (s1 (k + 1) x) = 256 * s2 k (s1 k (x / 256)) + t2_ (t1_ (x % 256)) := by
  have hb : x % 256 < 256 := Nat.mod_lt _ (by decide)
  have e : x = 256 * (x / 256) + x % 256 := by omega
  have h := s1_s (k := k) (y := x / 256) (b := x % 256) hb
  rw [← e] at h
  rw [h, s2_s (t12_b _ hb).2.2]
theorem q_lo : ∀ (k x : Nat), s2 k (s1 k x) % 16 ≤ 4
  | 0, x => by
    show ((x - (x / 2 &&& 0) &&& 0) + ((x - (x / 2 &&& 0)) / 4 &&& 0)) % 16 ≤ 4
    rw [Nat.and_zero, Nat.and_zero]; decide
  | k + 1, x => by
    have hb : x % 256 < 256 := Nat.mod_lt _ (by decide)
    have h := (t12_b _ hb).2.1
    rw [q_s]; omega
theorem g_s : ∀ (k x : Nat), s3 k (s2 k (s1 k x)) = hs k x
  | 0, x => by
    show (_ &&& 0) = 0
    rw [Nat.and_zero]
  | k + 1, x => by
    have hb : x % 256 < 256 := Nat.mod_lt _ (by decide)
    have ih := g_s k (x / 256)
    have h1 := q_lo k (x / 256)
    have h2 := t12_b _ hb
    rw [q_s]
    unfold s3 at ih ⊢
    generalize s2 k (s1 k (x / 256)) = Y at ih h1 ⊢
    have h3 := lo_0f _ hb (Y % 16) (by omega)
    generalize t2_ (t1_ (x % 256)) = B at h2 h3 ⊢
    have e : 256 * Y + B + (256 * Y + B) / 16 = 256 * (Y + Y / 16) + (B + 16 * (Y % 16) + B / 16) := by omega
    show (256 * Y + B + (256 * Y + B) / 16) &&& (256 * m0f k + 15) = 256 * hs k (x / 256) + P8 (x % 256)
    rw [e, and_spl (by omega) (by decide), ih, h3]
theorem hs_0 : ∀ k, hs k 0 = 0
  | 0 => rfl
  | k + 1 => by show 256 * hs k 0 + P8 0 = 0; rw [hs_0 k]; rfl
theorem fin5 {z p0 p1 p2 p3 p4 : Nat} (h : z = 256 * (256 * (256 * (256 * p4 + p3) + p2) + p1) + p0) (h0 : p0 ≤ 8) (h1 : p1 ≤ 8) (h2 : p2 ≤ 8) (h3 : p3 ≤ 8) (h4 : p4 ≤ 8) {d e f : Nat} (hd : d = z + z / 256) (he : e = d + d / 65536) (hf : f = e + e / 4294967296) : f % 128 = p0 + p1 + p2 + p3 + p4 ∧ f < 2 ^ 60 := by
  subst h
  have a : d = p0 + p1 + 256 * (p1 + p2) + 65536 * (p2 + p3) + 16777216 * (p3 + p4) + 4294967296 * p4 := by omega
  have b : e = p0 + p1 + p2 + p3 + 256 * (p1 + p2 + p3 + p4) + 65536 * (p2 + p3 + p4) + 16777216 * (p3 + p4) + 4294967296 * p4 := by omega
  have c : f = p0 + p1 + p2 + p3 + p4 + 256 * (p1 + p2 + p3 + p4) + 65536 * (p2 + p3 + p4) + 16777216 * (p3 + p4) + 4294967296 * p4 := by omega
  omega
theorem hs5 {x : Nat} (hx : x < 2 ^ 40) : hs 8 x = 256 * (256 * (256 * (256 * P8 (x / 256 / 256 / 256 / 256 % 256) + P8 (x / 256 / 256 / 256 % 256)) + P8 (x / 256 / 256 % 256)) + P8 (x / 256 % 256)) + P8 (x % 256) := by
  have e : x / 256 / 256 / 256 / 256 / 256 = 0 := by omega
  show 256 * (256 * (256 * (256 * (256 * hs 3 (x / 256 / 256 / 256 / 256 / 256) + P8 (x / 256 / 256 / 256 / 256 % 256)) + P8 (x / 256 / 256 / 256 % 256)) + P8 (x / 256 / 256 % 256)) + P8 (x / 256 % 256)) + P8 (x % 256) = _
  rw [e, hs_0]; omega
theorem bit_mod (x k : Nat) : (if x.testBit k = true then (1 : Int) else 0) = ((x / 2 ^ k % 2 : Nat) : Int) := by
  rw [Nat.testBit_eq_decide_div_mod_eq]
  by_cases q : x / 2 ^ k % 2 = 1
  · rw [if_pos (decide_eq_true q), q]; rfl
  · rw [if_neg (fun z => q (of_decide_eq_true z)), show x / 2 ^ k % 2 = 0 by omega]; rfl
theorem py_8 (x m : Nat) : py_b one x (m + 8) = py_b one x m + (P8 (x / 2 ^ m % 256) : Nat) := by
  have d : ∀ i, x / 2 ^ (m + i) = x / 2 ^ m / 2 ^ i := fun i => by rw [Nat.pow_add, Nat.div_div_eq_div_mul]
  rw [show m + 8 = m + 7 + 1 by omega, py_b_s, bit_mod, show m + 7 = m + 6 + 1 by omega, py_b_s, bit_mod, show m + 6 = m + 5 + 1 by omega, py_b_s, bit_mod, show m + 5 = m + 4 + 1 by omega, py_b_s, bit_mod, show m + 4 = m + 3 + 1 by omega, py_b_s, bit_mod, show m + 3 = m + 2 + 1 by omega, py_b_s, bit_mod, show m + 2 = m + 1 + 1 by omega, py_b_s, bit_mod, py_b_s, bit_mod]
  rw [show m + 1 + 1 + 1 + 1 + 1 + 1 + 1 = m + 7 by omega, show m + 1 + 1 + 1 + 1 + 1 + 1 = m + 6 by omega, show m + 1 + 1 + 1 + 1 + 1 = m + 5 by omega, show m + 1 + 1 + 1 + 1 = m + 4 by omega, show m + 1 + 1 + 1 = m + 3 by omega, show m + 1 + 1 = m + 2 by omega, d 7, d 6, d 5, d 4, d 3, d 2, d 1]
  generalize x / 2 ^ m = y
  unfold P8
  omega
theorem py_40 {x : Nat} : py_b one x 40 = ((P8 (x % 256) + P8 (x / 256 % 256) + P8 (x / 256 / 256 % 256) + P8 (x / 256 / 256 / 256 % 256) + P8 (x / 256 / 256 / 256 / 256 % 256) : Nat) : Int) := by
  rw [py_8 x 32, py_8 x 24, py_8 x 16, py_8 x 8, py_8 x 0]
  rw [show x / 2 ^ 32 = x / 256 / 256 / 256 / 256 by omega, show x / 2 ^ 24 = x / 256 / 256 / 256 by omega, show x / 2 ^ 16 = x / 256 / 256 by omega, show x / 2 ^ 8 = x / 256 by omega, show x / 2 ^ 0 = x by omega, show py_b one x 0 = 0 from rfl]
  omega
/-- the whole of it -/
theorem pop40 {x a b c d e f : Nat} (hx : x < 2 ^ 40) (ha : a = x - (x / 2 &&& 6148914691236517205)) (hb : b = (a &&& 3689348814741910323) + (a / 4 &&& 3689348814741910323)) (hc : c = (b + b / 16) &&& 1085102592571150095) (hd : d = c + c / 256) (he : e = d + d / 65536) (hf : f = e + e / 4294967296) : ((f % 128 : Nat) : Int) = py_b one x 40 ∧ f < 2 ^ 60 := by
  have e1 : (6148914691236517205 : Nat) = m55 8 := by decide
  have e2 : (3689348814741910323 : Nat) = m33 8 := by decide
  have e3 : (1085102592571150095 : Nat) = m0f 8 := by decide
  rw [e1] at ha
  rw [e2] at hb
  rw [e3] at hc
  have hz : c = hs 8 x := by
    rw [← g_s 8 x]
    show c = (s2 8 (s1 8 x) + s2 8 (s1 8 x) / 16) &&& m0f 8
    rw [hc, hb, ha]; rfl
  rw [hs5 hx] at hz
  have := fin5 hz (P8_le _) (P8_le _) (P8_le _) (P8_le _) (P8_le _) hd he hf
  rw [py_40]
  refine ⟨?_, this.2⟩
  rw [this.1]

