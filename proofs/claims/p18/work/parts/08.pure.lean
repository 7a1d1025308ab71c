/-! Pure rows: counters, switches, the start's contents. -/
abbrev cyc0 : Nat → Int32 := upd (fun _ => 0) 0 2
theorem upd_zero (k : Nat) : upd (fun _ => (0 : Int32)) k 0 = fun _ => 0 := by
  funext j
  unfold upd
  split <;> rfl
theorem ax_add (a k : Nat) : nI a + Int32.ofNat k = nI (a + k) := nI_add a k
theorem lp_inc {i B : Int32} (c : ¬ B ≤ i) : (i + 1).toInt = i.toInt + 1 := by
  have h : i.toInt < B.toInt := Int.not_le.mp (fun q => c (Int32.le_iff_toInt_le.mpr q))
  have h2 : B.toInt < 2147483648 := Int32.toInt_lt B
  have h3 : (-2147483648 : Int) ≤ i.toInt := Int32.le_toInt i
  rw [Int32.toInt_add]
  have : (1 : Int32).toInt = 1 := by decide
  rw [this]
  exact Int.bmod_eq_of_le (by omega) (by omega)
theorem lp_dec {i B : Int32} {n : Nat} (hn : (Int32.toInt B - i.toInt).toNat < n + 1) (c : ¬ B ≤ i) : (Int32.toInt B - (i + 1).toInt).toNat < n := by
  have h : i.toInt < B.toInt := Int.not_le.mp (fun q => c (Int32.le_iff_toInt_le.mpr q))
  rw [lp_inc c]
  omega
theorem lp_in {i B : Int32} {n : Nat} (hlo : 0 ≤ i.toInt) (c : ¬ B ≤ i) (hB : B.toInt ≤ n) : vp_in i n := by
  have h : i.toInt < B.toInt := Int.not_le.mp (fun q => c (Int32.le_iff_toInt_le.mpr q))
  exact vp_in_iff.mpr ⟨hlo, by omega⟩
theorem sw_toInt {x : Int32} {k : Int} (h : x ≠ Int32.ofInt k) (h1 : -2147483648 ≤ k) (h2 : k < 2147483648) : x.toInt ≠ k := by
  intro e
  apply h
  rw [← e]
  exact (Int32.ofInt_toInt x).symm
theorem sw_lk2 {x : Int32} {a b d : Int} (h0 : ¬ x = 0) (h1 : ¬ x = 1) : Op.lookupswitch.offset [(0, a), (1, b)] d x.toInt = d := by
  have e0 := sw_toInt (k := 0) h0 (by decide) (by decide)
  have e1 := sw_toInt (k := 1) h1 (by decide) (by decide)
  simp [Op.lookupswitch.offset, e0, e1, Ne.symm e0, Ne.symm e1]
theorem sw_out4 {x : Int32} (h0 : ¬ x = 0) (h1 : ¬ x = 1) (h2 : ¬ x = 2) (h3 : ¬ x = 3) : x.toInt < 0 ∨ 3 < x.toInt := by
  have e0 := sw_toInt (k := 0) h0 (by decide) (by decide)
  have e1 := sw_toInt (k := 1) h1 (by decide) (by decide)
  have e2 := sw_toInt (k := 2) h2 (by decide) (by decide)
  have e3 := sw_toInt (k := 3) h3 (by decide) (by decide)
  omega
theorem sw_out8 {x : Int32} (h0 : ¬ x = 0) (h1 : ¬ x = 1) (h2 : ¬ x = 2) (h3 : ¬ x = 3) (h4 : ¬ x = 4) (h5 : ¬ x = 5) (h6 : ¬ x = 6) (h7 : ¬ x = 7) : x.toInt < 0 ∨ 7 < x.toInt := by
  have e0 := sw_toInt (k := 0) h0 (by decide) (by decide)
  have e1 := sw_toInt (k := 1) h1 (by decide) (by decide)
  have e2 := sw_toInt (k := 2) h2 (by decide) (by decide)
  have e3 := sw_toInt (k := 3) h3 (by decide) (by decide)
  have e4 := sw_toInt (k := 4) h4 (by decide) (by decide)
  have e5 := sw_toInt (k := 5) h5 (by decide) (by decide)
  have e6 := sw_toInt (k := 6) h6 (by decide) (by decide)
  have e7 := sw_toInt (k := 7) h7 (by decide) (by decide)
  omega
theorem i_le64 {e : Int32} : (64 : Int32) ≤ e ↔ 63 < e := by
  rw [Int32.le_iff_toInt_le, Int32.lt_iff_toInt_lt]
  have h1 : (64 : Int32).toInt = 64 := by decide
  have h2 : (63 : Int32).toInt = 63 := by decide
  rw [h1, h2]; omega
theorem i_lt64 {e : Int32} (h : e < 64) : ¬ 63 < e := fun q => absurd h (Int32.not_lt.mpr (i_le64.mpr q))
theorem i_ge64 {e : Int32} (h : ¬ e < 64) : 63 < e := i_le64.mp (Int32.not_lt.mp h)
theorem i_le6 {e : Int32} : (6 : Int32) ≤ e ↔ 5 < e := by
  rw [Int32.le_iff_toInt_le, Int32.lt_iff_toInt_lt]
  have h1 : (6 : Int32).toInt = 6 := by decide
  have h2 : (5 : Int32).toInt = 5 := by decide
  rw [h1, h2]; omega
theorem i_in6 {e : Int32} (h0 : ¬ e < 0) (h : ¬ (6 : Int32) ≤ e) : vp_in e 6 := by
  refine vp_in_iff.mpr ⟨?_, ?_⟩
  · exact Int.not_lt.mp (fun q => h0 (Int32.lt_iff_toInt_lt.mpr q))
  · exact Int.not_le.mp (fun q => h (Int32.le_iff_toInt_le.mpr q))
abbrev okC (a n s g : Int32) : Prop := ¬ a < 0 ∧ ¬ 20 < a ∧ ¬ n < 0 ∧ ¬ 99 < n ∧ ¬ s < 10 ∧ ¬ 60 < s ∧ ¬ g < 0 ∧ ¬ 4 < g
abbrev okL (n e : Int32) : Prop := ¬ n < 0 ∧ ¬ 9999 < n ∧ ¬ e < 0 ∧ ¬ 63 < e
abbrev okN (e n : Int32) : Prop := ¬ e < 0 ∧ ¬ 5 < e ∧ ¬ n < 0 ∧ ¬ 9999 < n
abbrev okK (k : Int32) : Prop := ¬ k < 0 ∧ ¬ 5 < k
def sFault (p : Int32) : Int32 := if p = 0 then 0 else -1
def sStat (n : Int32) : Int32 := if n = 0 then 0 else -2
def sCount (w : Int32) : Int32 := if w = 6 then 2 else if w = 0 ∨ w = 1 ∨ w = 2 ∨ w = 3 ∨ w = 4 ∨ w = 5 ∨ w = 7 then 0 else -1
def sOwed (w k : Int32) : Int32 := if w = 0 then (if okK k then 0 else -1) else if w = 2 ∨ w = 3 then 0 else -1
theorem i_zero {n : Int32} (h1 : ¬ n < 0) (h2 : ¬ 0 < n) : n = 0 := Int32.le_antisymm (Int32.not_lt.mp h2) (Int32.not_lt.mp h1)
theorem i_zero' {n : Int32} (h1 : ¬ n < 0) (h2 : n ≤ 0) : n = 0 := Int32.le_antisymm h2 (Int32.not_lt.mp h1)
theorem nI_or (a b : Nat) : nI a ||| nI b = nI (a ||| b) := by
  apply Int32.toBitVec_inj.1
  show BitVec.ofNat 32 a ||| BitVec.ofNat 32 b = BitVec.ofNat 32 (a ||| b)
  apply BitVec.eq_of_getLsbD_eq
  intro i hi
  simp [hi]
theorem i_or64 {x y : Int32} (hx : vp_in x 64) (hy : vp_in y 64) : vp_in (x ||| y) 64 := by
  obtain ⟨a, ha, rfl⟩ := vp_in_of hx (by decide)
  obtain ⟨b, hb, rfl⟩ := vp_in_of hy (by decide)
  rw [nI_or]
  exact vp_in_nI (Nat.or_lt_two_pow (n := 6) ha hb) (by decide)
theorem sOwed0 {k : Int32} : sOwed 0 k = if okK k then 0 else -1 := by unfold sOwed; rw [if_pos rfl]
theorem sOwed1 {k : Int32} : sOwed 1 k = -1 := by unfold sOwed; rw [if_neg (by decide), if_neg (by decide)]
theorem sOwed2 {k : Int32} : sOwed 2 k = 0 := by unfold sOwed; rw [if_neg (by decide), if_pos (by decide)]
theorem sOwed3 {k : Int32} : sOwed 3 k = 0 := by unfold sOwed; rw [if_neg (by decide), if_pos (by decide)]
theorem sOwed9 {w k : Int32} (h0 : ¬ w = 0) (h2 : ¬ w = 2) (h3 : ¬ w = 3) : sOwed w k = -1 := by unfold sOwed; rw [if_neg h0, if_neg (fun h => h.elim h2 h3)]
theorem i_in6' {e : Int32} (h0 : ¬ e < 0) (h : ¬ (5 : Int32) < e) : vp_in e 6 := i_in6 h0 (fun q => h (i_le6.mp q))
theorem i_23 {q : Int32} (h1 : ¬ q < 2) (h2 : q ≤ 3) : q = 2 ∨ q = 3 := by
  have h1 : (2 : Int32).toInt ≤ q.toInt := Int.not_lt.mp (fun z => h1 (Int32.lt_iff_toInt_lt.mpr z))
  have h2 : q.toInt ≤ (3 : Int32).toInt := Int32.le_iff_toInt_le.mp h2
  have e2 : (2 : Int32).toInt = 2 := by decide
  have e3 : (3 : Int32).toInt = 3 := by decide
  rw [e2] at h1
  rw [e3] at h2
  by_cases h : q.toInt = 2
  · exact Or.inl (Int32.toInt_inj.mp (h.trans e2.symm))
  · exact Or.inr (Int32.toInt_inj.mp ((show q.toInt = 3 by omega).trans e3.symm))
theorem sOwedA {q k : Int32} (h : q = 0) : sOwed q k = if okK k then 0 else -1 := by subst h; exact sOwed0
theorem sOwedB {q k : Int32} (h : q = 1) : sOwed q k = -1 := by subst h; exact sOwed1
theorem sOwedC {q k : Int32} (h1 : ¬ q < 2) (h2 : q ≤ 3) : sOwed q k = 0 := by
  rcases i_23 h1 h2 with rfl | rfl
  · exact sOwed2
  · exact sOwed3
theorem sOwedD {q k : Int32} (h0 : ¬ q = 0) (h : q < 2) : sOwed q k = -1 := sOwed9 h0 (fun e => by subst e; exact absurd h (by decide)) (fun e => by subst e; exact absurd h (by decide))
theorem sOwedE {q k : Int32} (h0 : ¬ q = 0) (h : ¬ q ≤ 3) : sOwed q k = -1 := sOwed9 h0 (fun e => by subst e; exact absurd (by decide) h) (fun e => by subst e; exact absurd (by decide) h)
theorem sFault0 {q : Int32} (h : q = 0) : 0 = sFault q := by subst h; rfl
theorem sFaultN {q : Int32} (h : ¬ q = 0) : -1 = sFault q := by unfold sFault; rw [if_neg h]
theorem sStat_n {n : Int32} (h : ¬ n = 0) : -2 = sStat n := by unfold sStat; rw [if_neg h]
theorem i_nz1 {n : Int32} (h : n < 0) : ¬ n = 0 := fun e => by subst e; exact absurd h (by decide)
theorem i_nz2 {n : Int32} (h : 0 < n) : ¬ n = 0 := fun e => by subst e; exact absurd h (by decide)
theorem nwX0 : ∀ j, j < 9 → defaultValue (tyX0 j) = vp_V [.null, .null, .null, .int 0, .int 0, .int 0, .null, .null, .null] j := fun j hj => by rcases (show j = 0 ∨ j = 1 ∨ j = 2 ∨ j = 3 ∨ j = 4 ∨ j = 5 ∨ j = 6 ∨ j = 7 ∨ j = 8 by omega) with rfl | rfl | rfl | rfl | rfl | rfl | rfl | rfl | rfl <;> rfl
theorem nwX1 : ∀ j, j < 7 → defaultValue (tyX1 j) = vp_V [.null, .null, .null, .null, .null, .null, .int 0] j := fun j hj => by rcases (show j = 0 ∨ j = 1 ∨ j = 2 ∨ j = 3 ∨ j = 4 ∨ j = 5 ∨ j = 6 by omega) with rfl | rfl | rfl | rfl | rfl | rfl | rfl <;> rfl
theorem nwX2 : ∀ j, j < 6 → defaultValue (tyX2 j) = vp_V [.null, .null, .int 0, .null, .null, .int 0] j := fun j hj => by rcases (show j = 0 ∨ j = 1 ∨ j = 2 ∨ j = 3 ∨ j = 4 ∨ j = 5 by omega) with rfl | rfl | rfl | rfl | rfl | rfl <;> rfl
theorem nwX3 : ∀ j, j < 4 → defaultValue (tyX3 j) = vp_V [.null, .null, .int 0, .int 0] j := fun j hj => by rcases (show j = 0 ∨ j = 1 ∨ j = 2 ∨ j = 3 by omega) with rfl | rfl | rfl | rfl <;> rfl
theorem nwX4 : ∀ j, j < 11 → defaultValue (tyX4 j) = vp_V [.null, .int 0, .int 0, .int 0, .null, .int 0, .int 0, .int 0, .int 0, .int 0, .int 0] j := fun j hj => by rcases (show j = 0 ∨ j = 1 ∨ j = 2 ∨ j = 3 ∨ j = 4 ∨ j = 5 ∨ j = 6 ∨ j = 7 ∨ j = 8 ∨ j = 9 ∨ j = 10 by omega) with rfl | rfl | rfl | rfl | rfl | rfl | rfl | rfl | rfl | rfl | rfl <;> rfl
theorem nwX5 : ∀ j, j < 9 → defaultValue (tyX5 j) = vp_V [.null, .int 0, .int 0, .int 0, .int 0, .int 0, .int 0, .int 0, .int 0] j := fun j hj => by rcases (show j = 0 ∨ j = 1 ∨ j = 2 ∨ j = 3 ∨ j = 4 ∨ j = 5 ∨ j = 6 ∨ j = 7 ∨ j = 8 by omega) with rfl | rfl | rfl | rfl | rfl | rfl | rfl | rfl | rfl <;> rfl
theorem nwX6 : ∀ j, j < 5 → defaultValue (tyX6 j) = vp_V [.null, .null, .null, .null, .int 0] j := fun j hj => by rcases (show j = 0 ∨ j = 1 ∨ j = 2 ∨ j = 3 ∨ j = 4 by omega) with rfl | rfl | rfl | rfl | rfl <;> rfl
theorem nwX7 : ∀ j, j < 8 → defaultValue (tyX7 j) = vp_V [.null, .null, .null, .null, .null, .null, .null, .int 0] j := fun j hj => by rcases (show j = 0 ∨ j = 1 ∨ j = 2 ∨ j = 3 ∨ j = 4 ∨ j = 5 ∨ j = 6 ∨ j = 7 by omega) with rfl | rfl | rfl | rfl | rfl | rfl | rfl | rfl <;> rfl
theorem nwX8 : ∀ j, j < 52 → defaultValue (tyX8 j) = vp_V [.null, .int 0, .int 0, .null, .int 0, .int 0, .int 0, .int 0, .int 0, .int 0, .int 0, .int 0, .int 0, .int 0, .int 0, .null, .null, .int 0, .int 0, .null, .null, .null, .null, .null, .int 0, .null, .null, .null, .null, .int 0, .int 0, .null, .null, .null, .null, .int 0, .int 0, .int 0, .int 0, .int 0, .int 0, .null, .null, .int 0, .int 0, .null, .int 0, .null, .null, .null, .null, .null] j := by
  intro j hj
  match j, hj with
  | 0, _ => rfl
  | 1, _ => rfl
  | 2, _ => rfl
  | 3, _ => rfl
  | 4, _ => rfl
  | 5, _ => rfl
  | 6, _ => rfl
  | 7, _ => rfl
  | 8, _ => rfl
  | 9, _ => rfl
  | 10, _ => rfl
  | 11, _ => rfl
  | 12, _ => rfl
  | 13, _ => rfl
  | 14, _ => rfl
  | 15, _ => rfl
  | 16, _ => rfl
  | 17, _ => rfl
  | 18, _ => rfl
  | 19, _ => rfl
  | 20, _ => rfl
  | 21, _ => rfl
  | 22, _ => rfl
  | 23, _ => rfl
  | 24, _ => rfl
  | 25, _ => rfl
  | 26, _ => rfl
  | 27, _ => rfl
  | 28, _ => rfl
  | 29, _ => rfl
  | 30, _ => rfl
  | 31, _ => rfl
  | 32, _ => rfl
  | 33, _ => rfl
  | 34, _ => rfl
  | 35, _ => rfl
  | 36, _ => rfl
  | 37, _ => rfl
  | 38, _ => rfl
  | 39, _ => rfl
  | 40, _ => rfl
  | 41, _ => rfl
  | 42, _ => rfl
  | 43, _ => rfl
  | 44, _ => rfl
  | 45, _ => rfl
  | 46, _ => rfl
  | 47, _ => rfl
  | 48, _ => rfl
  | 49, _ => rfl
  | 50, _ => rfl
  | 51, _ => rfl
  | k + 52, hj => exact absurd hj (by omega)

