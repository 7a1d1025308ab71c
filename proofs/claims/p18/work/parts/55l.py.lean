/-! Paying: the greedy way over a submodular function. -/
def py_b (g : Nat → Int) (S : Nat) : Nat → Int
  | 0 => 0
  | k + 1 => py_b g S k + (if S.testBit k = true then g k else 0)
def py_p (g : Nat → Int) : Nat → Int
  | 0 => 0
  | k + 1 => py_p g k + g k
def py_c (co : Nat → Int) (en : Nat → Nat) (S : Nat) : Nat → Int
  | 0 => 0
  | k + 1 => py_c co en S k + (if en k &&& S = 0 then 0 else co k)
def py_u (en : Nat → Nat) (L : Nat) : Nat → Nat
  | 0 => 0
  | k + 1 => py_u en L k ||| (if L.testBit k = true then en k else 0)
theorem py_b_s (g : Nat → Int) (S k : Nat) : py_b g S (k + 1) = py_b g S k + (if S.testBit k = true then g k else 0) := rfl
theorem py_p_s (g : Nat → Int) (k : Nat) : py_p g (k + 1) = py_p g k + g k := rfl
theorem py_c_s (co : Nat → Int) (en : Nat → Nat) (S k : Nat) : py_c co en S (k + 1) = py_c co en S k + (if en k &&& S = 0 then 0 else co k) := rfl
theorem py_u_s (en : Nat → Nat) (L k : Nat) : py_u en L (k + 1) = py_u en L k ||| (if L.testBit k = true then en k else 0) := rfl
theorem py_b_t {g : Nat → Int} {S k : Nat} (h : S.testBit k = true) : py_b g S (k + 1) = py_b g S k + g k := by rw [py_b_s, if_pos h]
theorem py_b_f {g : Nat → Int} {S k : Nat} (h : S.testBit k = false) : py_b g S (k + 1) = py_b g S k := by rw [py_b_s, if_neg (by rw [h]; decide), Int.add_zero]
theorem py_c_y {co : Nat → Int} {en : Nat → Nat} {S k : Nat} (h : ¬ en k &&& S = 0) : py_c co en S (k + 1) = py_c co en S k + co k := by rw [py_c_s, if_neg h]
theorem py_c_n {co : Nat → Int} {en : Nat → Nat} {S k : Nat} (h : en k &&& S = 0) : py_c co en S (k + 1) = py_c co en S k := by rw [py_c_s, if_pos h, Int.add_zero]
theorem py_b_mod (g : Nat → Int) (S T : Nat) : ∀ m, py_b g (S ||| T) m + py_b g (S &&& T) m = py_b g S m + py_b g T m
  | 0 => rfl
  | k + 1 => by
    have ih := py_b_mod g S T k
    have ho := Nat.testBit_or S T k
    have ha := Nat.testBit_and S T k
    cases hs : S.testBit k <;> cases ht : T.testBit k <;> rw [hs, ht] at ho ha
    · rw [py_b_f ho, py_b_f ha, py_b_f hs, py_b_f ht]; exact ih
    · rw [py_b_t ho, py_b_f ha, py_b_f hs, py_b_t ht]; omega
    · rw [py_b_t ho, py_b_f ha, py_b_t hs, py_b_f ht]; omega
    · rw [py_b_t ho, py_b_t ha, py_b_t hs, py_b_t ht]; omega
theorem py_b_cong {g : Nat → Int} {S T : Nat} : ∀ {m : Nat}, (∀ k, k < m → S.testBit k = T.testBit k) → py_b g S m = py_b g T m
  | 0, _ => rfl
  | k + 1, h => by
    rw [py_b_s, py_b_s, h k (Nat.lt_succ_self k), py_b_cong (fun j hj => h j (Nat.lt_succ_of_lt hj))]
theorem py_b_congf {g g' : Nat → Int} {S : Nat} : ∀ {m : Nat}, (∀ k, k < m → g k = g' k) → py_b g S m = py_b g' S m
  | 0, _ => rfl
  | k + 1, h => by
    rw [py_b_s, py_b_s, h k (Nat.lt_succ_self k), py_b_congf (fun j hj => h j (Nat.lt_succ_of_lt hj))]
theorem py_p_congf {g g' : Nat → Int} : ∀ {m : Nat}, (∀ k, k < m → g k = g' k) → py_p g m = py_p g' m
  | 0, _ => rfl
  | k + 1, h => by
    rw [py_p_s, py_p_s, h k (Nat.lt_succ_self k), py_p_congf (fun j hj => h j (Nat.lt_succ_of_lt hj))]
theorem py_c_congf {co co' : Nat → Int} {en en' : Nat → Nat} {S : Nat} : ∀ {m : Nat}, (∀ k, k < m → co k = co' k ∧ en k = en' k) → py_c co en S m = py_c co' en' S m
  | 0, _ => rfl
  | k + 1, h => by
    rw [py_c_s, py_c_s, (h k (Nat.lt_succ_self k)).1, (h k (Nat.lt_succ_self k)).2, py_c_congf (fun j hj => h j (Nat.lt_succ_of_lt hj))]
theorem tb_hi {S e : Nat} (h1 : 2 ^ e ≤ S) (h2 : S < 2 ^ (e + 1)) : S.testBit e = true := by
  rw [Nat.pow_succ] at h2
  rw [Nat.testBit_eq_decide_div_mod_eq, Nat.div_eq_of_lt_le (k := 1) (by omega) (by omega)]
  decide
theorem tb_no {S e : Nat} (h : S < 2 ^ e) {k : Nat} (hk : e ≤ k) : S.testBit k = false := Nat.testBit_lt_two_pow (Nat.lt_of_lt_of_le h (Nat.pow_le_pow_right (by decide) hk))
theorem py_b_ge {g : Nat → Int} {S n : Nat} (hS : S < 2 ^ n) : ∀ {m : Nat}, n ≤ m → py_b g S m = py_b g S n := by
  intro m h
  induction m with
  | zero => rw [Nat.le_zero.mp h]
  | succ m ih =>
    by_cases e : n = m + 1
    · rw [e]
    · rw [py_b_f (tb_no hS (by omega)), ih (by omega)]
theorem py_b_nn {g : Nat → Int} {S : Nat} : ∀ {m : Nat}, (∀ k, k < m → 0 ≤ g k) → 0 ≤ py_b g S m
  | 0, _ => Int.le_refl 0
  | k + 1, h => by
    have ih := py_b_nn (S := S) (fun j hj => h j (Nat.lt_succ_of_lt hj))
    have h1 := h k (Nat.lt_succ_self k)
    rw [py_b_s]
    split <;> omega
theorem py_b_mono {g : Nat → Int} {S T : Nat} (hs : sub_ S T) : ∀ {m : Nat}, (∀ k, k < m → 0 ≤ g k) → py_b g S m ≤ py_b g T m
  | 0, _ => Int.le_refl 0
  | k + 1, h => by
    have ih := py_b_mono hs (fun j hj => h j (Nat.lt_succ_of_lt hj))
    have h1 := h k (Nat.lt_succ_self k)
    cases q : S.testBit k
    · rw [py_b_f q, py_b_s]
      split <;> omega
    · rw [py_b_t q, py_b_t (hs k q)]; omega
theorem py_b_zero (g : Nat → Int) : ∀ m, py_b g 0 m = 0
  | 0 => rfl
  | k + 1 => by rw [py_b_f (Nat.zero_testBit k), py_b_zero g k]
theorem py_b_full {g : Nat → Int} {S : Nat} : ∀ {m : Nat}, (∀ k, k < m → S.testBit k = true) → py_b g S m = py_p g m
  | 0, _ => rfl
  | k + 1, h => by
    rw [py_b_t (h k (Nat.lt_succ_self k)), py_p_s, py_b_full (fun j hj => h j (Nat.lt_succ_of_lt hj))]
theorem py_b_comp {g : Nat → Int} {S U : Nat} : ∀ {m : Nat}, (∀ k, k < m → S.testBit k = !U.testBit k) → py_b g S m + py_b g U m = py_p g m
  | 0, _ => rfl
  | k + 1, h => by
    have ih := py_b_comp (g := g) (fun j hj => h j (Nat.lt_succ_of_lt hj))
    have h1 := h k (Nat.lt_succ_self k)
    cases q : U.testBit k <;> rw [q] at h1
    · rw [py_b_t h1, py_b_f q, py_p_s]; omega
    · rw [py_b_f h1, py_b_t q, py_p_s]; omega
theorem py_b_one {g : Nat → Int} {e : Nat} : ∀ m, py_b g (2 ^ e) m = if e < m then g e else 0
  | 0 => rfl
  | k + 1 => by
    have ih := py_b_one (g := g) (e := e) k
    by_cases q : e = k
    · subst q
      rw [py_b_t (by rw [Nat.testBit_two_pow]; simp), ih, if_neg (Nat.lt_irrefl e), if_pos (Nat.lt_succ_self e), Int.zero_add]
    · rw [py_b_f (by rw [Nat.testBit_two_pow]; simp [q]), ih]
      by_cases z : e < k
      · rw [if_pos z, if_pos (by omega)]
      · rw [if_neg z, if_neg (by omega)]
theorem py_and0 {e o : Nat} (ho : o < 2 ^ e) : 2 ^ e &&& o = 0 := by
  apply Nat.eq_of_testBit_eq
  intro j
  rw [Nat.testBit_and, Nat.testBit_two_pow, Nat.zero_testBit]
  by_cases q : e = j
  · subst q; rw [tb_no ho (Nat.le_refl e)]; simp
  · simp [q]
theorem py_b_add {g : Nat → Int} {e o m : Nat} (ho : o < 2 ^ e) (he : e < m) : py_b g (2 ^ e ||| o) m = py_b g o m + g e := by
  have h := py_b_mod g (2 ^ e) o m
  rw [py_and0 ho, py_b_zero, py_b_one, if_pos he] at h
  omega
theorem py_or {e o : Nat} (ho : o < 2 ^ e) : 2 ^ e ||| o = 2 ^ e + o := by
  have := Nat.two_pow_add_eq_or_of_lt ho 1
  rw [Nat.mul_one] at this
  exact this.symm
theorem py_b_bd {g : Nat → Int} {S : Nat} {B : Int} (hB : 0 ≤ B) : ∀ {m : Nat}, (∀ k, k < m → -B ≤ g k ∧ g k ≤ B) → -(B * m) ≤ py_b g S m ∧ py_b g S m ≤ B * m
  | 0, _ => by rw [show py_b g S 0 = 0 from rfl]; simp
  | k + 1, h => by
    have ih := py_b_bd (S := S) hB (fun j hj => h j (Nat.lt_succ_of_lt hj))
    have h1 := h k (Nat.lt_succ_self k)
    have h2 : B * ((k + 1 : Nat) : Int) = B * (k : Int) + B := by
      rw [Int.natCast_add, Int.mul_add]; simp
    rw [py_b_s, h2]
    split <;> omega
theorem py_p_bd {g : Nat → Int} {B : Int} (hB : 0 ≤ B) : ∀ {m : Nat}, (∀ k, k < m → -B ≤ g k ∧ g k ≤ B) → -(B * m) ≤ py_p g m ∧ py_p g m ≤ B * m
  | 0, _ => by rw [show py_p g 0 = 0 from rfl]; simp
  | k + 1, h => by
    have ih := py_p_bd hB (fun j hj => h j (Nat.lt_succ_of_lt hj))
    have h1 := h k (Nat.lt_succ_self k)
    have h2 : B * ((k + 1 : Nat) : Int) = B * (k : Int) + B := by
      rw [Int.natCast_add, Int.mul_add]; simp
    rw [py_p_s, h2]
    omega
theorem py_c_bd {co : Nat → Int} {en : Nat → Nat} {S : Nat} {B : Int} (hB : 0 ≤ B) : ∀ {m : Nat}, (∀ k, k < m → 0 ≤ co k ∧ co k ≤ B) → 0 ≤ py_c co en S m ∧ py_c co en S m ≤ B * m
  | 0, _ => by rw [show py_c co en S 0 = 0 from rfl]; simp
  | k + 1, h => by
    have ih := py_c_bd (en := en) (S := S) hB (fun j hj => h j (Nat.lt_succ_of_lt hj))
    have h1 := h k (Nat.lt_succ_self k)
    have h2 : B * ((k + 1 : Nat) : Int) = B * (k : Int) + B := by
      rw [Int.natCast_add, Int.mul_add]; simp
    rw [py_c_s, h2]
    split <;> omega
/-! hits -/
theorem hit_or {E S T : Nat} : E &&& (S ||| T) = 0 ↔ (E &&& S = 0 ∧ E &&& T = 0) := by
  rw [Nat.and_or_distrib_left]
  constructor
  · intro h
    have h1 : E &&& S ≤ (E &&& S) ||| (E &&& T) := Nat.left_le_or
    have h2 : E &&& T ≤ (E &&& S) ||| (E &&& T) := Nat.right_le_or
    omega
  · intro h; rw [h.1, h.2]; rfl
theorem hit_and {E S : Nat} (T : Nat) (h : E &&& S = 0) : E &&& (S &&& T) = 0 := by rw [← Nat.and_assoc, h, Nat.zero_and]
theorem hit_and' {E T : Nat} (S : Nat) (h : E &&& T = 0) : E &&& (S &&& T) = 0 := by rw [Nat.and_comm S T]; exact hit_and S h
theorem sub_and {S T : Nat} (h : sub_ S T) : T &&& S = S := by
  apply Nat.eq_of_testBit_eq
  intro j
  rw [Nat.testBit_and]
  cases q : S.testBit j
  · simp
  · rw [h j q]; rfl
theorem hit_mono {E S T : Nat} (hs : sub_ S T) (h : E &&& T = 0) : E &&& S = 0 := by
  rw [← sub_and hs]; exact hit_and S h
theorem py_c_sub {co : Nat → Int} {en : Nat → Nat} (S T : Nat) : ∀ {m : Nat}, (∀ k, k < m → 0 ≤ co k) → py_c co en (S ||| T) m + py_c co en (S &&& T) m ≤ py_c co en S m + py_c co en T m
  | 0, _ => Int.le_refl _
  | k + 1, h => by
    have ih := py_c_sub (en := en) S T (fun j hj => h j (Nat.lt_succ_of_lt hj))
    have h1 := h k (Nat.lt_succ_self k)
    by_cases hs : en k &&& S = 0 <;> by_cases ht : en k &&& T = 0
    · rw [py_c_n (hit_or.mpr ⟨hs, ht⟩), py_c_n (hit_and T hs), py_c_n hs, py_c_n ht]; exact ih
    · rw [py_c_y (fun q => ht (hit_or.mp q).2), py_c_n (hit_and T hs), py_c_n hs, py_c_y ht]; omega
    · rw [py_c_y (fun q => hs (hit_or.mp q).1), py_c_n (hit_and' S ht), py_c_y hs, py_c_n ht]; omega
    · rw [py_c_y (fun q => hs (hit_or.mp q).1), py_c_y hs, py_c_y ht, py_c_s]
      split <;> omega
theorem py_c_mono {co : Nat → Int} {en : Nat → Nat} {S T : Nat} (hs : sub_ S T) : ∀ {m : Nat}, (∀ k, k < m → 0 ≤ co k) → py_c co en S m ≤ py_c co en T m
  | 0, _ => Int.le_refl _
  | k + 1, h => by
    have ih := py_c_mono (en := en) hs (fun j hj => h j (Nat.lt_succ_of_lt hj))
    have h1 := h k (Nat.lt_succ_self k)
    by_cases ht : en k &&& T = 0
    · rw [py_c_n ht, py_c_n (hit_mono hs ht)]; exact ih
    · rw [py_c_y ht, py_c_s]
      split <;> omega
theorem py_c_zero (co : Nat → Int) (en : Nat → Nat) : ∀ m, py_c co en 0 m = 0
  | 0 => rfl
  | k + 1 => by rw [py_c_n (Nat.and_zero (en k)), py_c_zero co en k]
/-! the union of the ends of a set of legacies -/
theorem py_u_bit {en : Nat → Nat} {L j : Nat} : ∀ {m : Nat}, (py_u en L m).testBit j = true ↔ ∃ k, k < m ∧ L.testBit k = true ∧ (en k).testBit j = true
  | 0 => by
    rw [show py_u en L 0 = 0 from rfl, Nat.zero_testBit]
    exact ⟨fun h => absurd h (by decide), fun ⟨k, h, _⟩ => absurd h (Nat.not_lt_zero k)⟩
  | m + 1 => by
    have ih := py_u_bit (en := en) (L := L) (j := j) (m := m)
    rw [py_u_s, Nat.testBit_or, Bool.or_eq_true, ih]
    constructor
    · rintro (⟨k, h1, h2, h3⟩ | h)
      · exact ⟨k, by omega, h2, h3⟩
      · split at h
        · rename_i q; exact ⟨m, by omega, q, h⟩
        · rw [Nat.zero_testBit] at h; exact absurd h (by decide)
    · rintro ⟨k, h1, h2, h3⟩
      by_cases q : k = m
      · subst q; right; rw [if_pos h2]; exact h3
      · exact Or.inl ⟨k, by omega, h2, h3⟩
theorem py_u_lt {en : Nat → Nat} {L : Nat} : ∀ {m : Nat}, (∀ k, k < m → en k < 64) → py_u en L m < 64
  | 0, _ => by show 0 < 64; decide
  | k + 1, h => by
    rw [py_u_s]
    refine Nat.or_lt_two_pow (n := 6) (py_u_lt (fun j hj => h j (Nat.lt_succ_of_lt hj))) ?_
    split
    · exact h k (Nat.lt_succ_self k)
    · decide
theorem py_u_ge {en : Nat → Nat} {L n : Nat} (hL : L < 2 ^ n) : ∀ {m : Nat}, n ≤ m → py_u en L m = py_u en L n := by
  intro m h
  induction m with
  | zero => rw [Nat.le_zero.mp h]
  | succ m ih =>
    by_cases e : n = m + 1
    · rw [e]
    · rw [py_u_s, tb_no hL (by omega), if_neg (by decide), Nat.or_zero, ih (by omega)]
theorem bool_iff {a b : Bool} (h : a = true ↔ b = true) : a = b := by
  cases a <;> cases b
  · rfl
  · exact absurd (h.mpr rfl) (by decide)
  · exact absurd (h.mp rfl) (by decide)
  · rfl
theorem py_u_or {en : Nat → Nat} {L K m : Nat} : py_u en (L ||| K) m = py_u en L m ||| py_u en K m := by
  apply Nat.eq_of_testBit_eq
  intro j
  apply bool_iff
  rw [Nat.testBit_or, Bool.or_eq_true, py_u_bit, py_u_bit, py_u_bit]
  constructor
  · rintro ⟨k, h1, h2, h3⟩
    rw [Nat.testBit_or, Bool.or_eq_true] at h2
    exact h2.elim (fun q => Or.inl ⟨k, h1, q, h3⟩) (fun q => Or.inr ⟨k, h1, q, h3⟩)
  · rintro (⟨k, h1, h2, h3⟩ | ⟨k, h1, h2, h3⟩)
    · exact ⟨k, h1, by rw [Nat.testBit_or, h2]; rfl, h3⟩
    · exact ⟨k, h1, by rw [Nat.testBit_or, h2, Bool.or_true], h3⟩
theorem py_u_mono {en : Nat → Nat} {L K m : Nat} (h : sub_ L K) : sub_ (py_u en L m) (py_u en K m) := by
  intro j hj
  obtain ⟨k, h1, h2, h3⟩ := py_u_bit.mp hj
  exact py_u_bit.mpr ⟨k, h1, h k h2, h3⟩
theorem sub_andL (S T : Nat) : sub_ (S &&& T) S := fun j hj => by
  rw [Nat.testBit_and, Bool.and_eq_true] at hj; exact hj.1
theorem sub_andR (S T : Nat) : sub_ (S &&& T) T := fun j hj => by
  rw [Nat.testBit_and, Bool.and_eq_true] at hj; exact hj.2
theorem sub_and2 {R S T : Nat} (h1 : sub_ R S) (h2 : sub_ R T) : sub_ R (S &&& T) := fun j hj => by
  rw [Nat.testBit_and, h1 j hj, h2 j hj]; rfl
/-! the greedy way -/
def gdF (f : Nat → Int) : Prop := f 0 = 0 ∧ (∀ S T, sub_ S T → f S ≤ f T) ∧ (∀ S T, f (S ||| T) + f (S &&& T) ≤ f S + f T)
theorem gd_c {co : Nat → Int} {en : Nat → Nat} {n : Nat} (h : ∀ k, k < n → 0 ≤ co k) : gdF (fun S => py_c co en S n) :=
  ⟨py_c_zero co en n, fun _ _ q => py_c_mono q h, fun S T => py_c_sub S T h⟩
theorem gd_u {g : Nat → Int} {en : Nat → Nat} {n m : Nat} (h : ∀ k, k < m → 0 ≤ g k) : gdF (fun L => py_b g (py_u en L n) m) := by
  refine ⟨?_, fun S T q => py_b_mono (py_u_mono q) h, fun S T => ?_⟩
  · have : py_u en 0 n = 0 := by
      apply Nat.eq_of_testBit_eq
      intro j
      apply bool_iff
      rw [py_u_bit, Nat.zero_testBit]
      exact ⟨fun ⟨k, _, h2, _⟩ => by rw [Nat.zero_testBit] at h2; exact h2, fun q => absurd q (by decide)⟩
    show py_b g (py_u en 0 n) m = 0
    rw [this, py_b_zero]
  · have h1 := py_b_mod g (py_u en S n) (py_u en T n) m
    have h2 : py_b g (py_u en (S &&& T) n) m ≤ py_b g (py_u en S n &&& py_u en T n) m := py_b_mono (sub_and2 (py_u_mono (sub_andL S T)) (py_u_mono (sub_andR S T))) h
    show py_b g (py_u en (S ||| T) n) m + py_b g (py_u en (S &&& T) n) m ≤ py_b g (py_u en S n) m + py_b g (py_u en T n) m
    rw [py_u_or]; omega
def mnP (f : Nat → Int) (a : Int) (lo hi : Nat) (m : Int) : Prop := m ≤ a ∧ (∀ S, lo ≤ S → S < hi → m ≤ f S) ∧ (m = a ∨ ∃ S, lo ≤ S ∧ S < hi ∧ m = f S)
theorem mnP_0 {f : Nat → Int} {a : Int} {lo : Nat} : mnP f a lo lo a := ⟨Int.le_refl a, fun S h1 h2 => by omega, Or.inl rfl⟩
theorem mnP_y {f : Nat → Int} {a m x : Int} {lo i : Nat} (h : mnP f a lo i m) (hi : lo ≤ i) (hx : x = f i) (c : x < m) : mnP f a lo (i + 1) x := by
  obtain ⟨h1, h2, h3⟩ := h
  refine ⟨by omega, fun S a1 a2 => ?_, Or.inr ⟨i, hi, Nat.lt_succ_self i, hx⟩⟩
  by_cases q : S = i
  · rw [q, hx]; exact Int.le_refl _
  · have := h2 S a1 (by omega); omega
theorem mnP_n {f : Nat → Int} {a m x : Int} {lo i : Nat} (h : mnP f a lo i m) (hx : x = f i) (c : ¬ x < m) : mnP f a lo (i + 1) m := by
  obtain ⟨h1, h2, h3⟩ := h
  refine ⟨h1, fun S a1 a2 => ?_, h3.imp (fun q => q) (fun ⟨S, b1, b2, b3⟩ => ⟨S, b1, by omega, b3⟩)⟩
  by_cases q : S = i
  · rw [q, ← hx]; omega
  · exact h2 S a1 (by omega)
def grP (f a g : Nat → Int) (m : Nat) : Prop := ∀ e, e < m → mnP (fun S => f S - py_b g S e) (a e) (2 ^ e) (2 ^ (e + 1)) (g e)
theorem gr_le {f a g : Nat → Int} {m : Nat} (hf : gdF f) (hg : grP f a g m) : ∀ e, e ≤ m → ∀ S, S < 2 ^ e → py_b g S e ≤ f S := by
  intro e
  induction e with
  | zero =>
    intro _ S hS
    have h0 : S = 0 := by simpa using hS
    rw [h0, hf.1]; exact Int.le_refl _
  | succ e ih =>
    intro he S hS
    by_cases q : S < 2 ^ e
    · rw [py_b_f (tb_no q (Nat.le_refl e))]; exact ih (by omega) S q
    · rw [py_b_t (tb_hi (by omega) hS)]
      have : g e ≤ f S - py_b g S e := (hg e (by omega)).2.1 S (by omega) hS
      omega
theorem gr_nn {f a g : Nat → Int} {m : Nat} (hf : gdF f) (ha : ∀ k, k < m → 0 ≤ a k) (hg : grP f a g m) : ∀ e, e < m → 0 ≤ g e ∧ g e ≤ a e := by
  intro e he
  obtain ⟨h1, h2, h3⟩ := hg e he
  refine ⟨?_, h1⟩
  rcases h3 with h3 | ⟨S, s1, s2, s3⟩
  · rw [h3]; exact ha e he
  · have hT : S % 2 ^ e < 2 ^ e := Nat.mod_lt _ (Nat.pow_pos (by decide))
    have hb : py_b g (S % 2 ^ e) e = py_b g S e := py_b_cong (fun k hk => by rw [Nat.testBit_mod_two_pow, decide_eq_true hk]; rfl)
    have hs : sub_ (S % 2 ^ e) S := fun j hj => by
      rw [Nat.testBit_mod_two_pow, Bool.and_eq_true] at hj; exact hj.2
    have l1 := gr_le hf hg e (by omega) _ hT
    have l2 := hf.2.1 _ _ hs
    rw [s3]
    show 0 ≤ f S - py_b g S e
    omega
theorem gr_tight {f a g : Nat → Int} {m : Nat} (hf : gdF f) (hg : grP f a g m) : ∀ e, e ≤ m → ∃ S, S < 2 ^ e ∧ f S ≤ py_b g S e ∧ ∀ k, k < e → S.testBit k = false → g k = a k := by
  intro e
  induction e with
  | zero => intro _; exact ⟨0, by decide, by rw [hf.1]; exact Int.le_refl _, fun k h => absurd h (Nat.not_lt_zero k)⟩
  | succ e ih =>
    intro he
    obtain ⟨T, t1, t2, t3⟩ := ih (by omega)
    have hp : 2 ^ e < 2 ^ (e + 1) := by rw [Nat.pow_succ]; have := Nat.pow_pos (n := e) (show 0 < 2 by decide); omega
    have hT := tb_no t1 (Nat.le_refl e)
    rcases (hg e (by omega)).2.2 with q | ⟨S, s1, s2, s3⟩
    · refine ⟨T, by omega, by rw [py_b_f hT]; exact t2, fun k hk hb => ?_⟩
      by_cases z : k = e
      · rw [z]; exact q
      · exact t3 k (by omega) hb
    · have hS := tb_hi s1 s2
      have s3 : g e = f S - py_b g S e := s3
      refine ⟨T ||| S, Nat.or_lt_two_pow (by omega) s2, ?_, fun k hk hb => ?_⟩
      · have m1 := py_b_mod g T S (e + 1)
        have m2 := gr_le hf hg (e + 1) he (T &&& S) (Nat.lt_of_le_of_lt Nat.and_le_right s2)
        have m3 := hf.2.2 T S
        have m4 := py_b_f (g := g) hT
        have m5 := py_b_t (g := g) hS
        omega
      · rw [Nat.testBit_or, Bool.or_eq_false_iff] at hb
        by_cases z : k = e
        · rw [z, hS] at hb; exact absurd hb.2 (by decide)
        · exact t3 k (by omega) hb.1
theorem pb_le {g a : Nat → Int} {S : Nat} : ∀ {e : Nat}, (∀ k, k < e → g k ≤ a k) → py_p g e - py_b g S e ≤ py_p a e - py_b a S e
  | 0, _ => Int.le_refl _
  | k + 1, h => by
    have ih := pb_le (S := S) (fun j hj => h j (Nat.lt_succ_of_lt hj))
    have h1 := h k (Nat.lt_succ_self k)
    rw [py_p_s, py_p_s]
    cases q : S.testBit k
    · rw [py_b_f q, py_b_f q]; omega
    · rw [py_b_t q, py_b_t q]; omega
theorem pb_eq {g a : Nat → Int} {S : Nat} : ∀ {e : Nat}, (∀ k, k < e → S.testBit k = false → g k = a k) → py_p g e - py_b g S e = py_p a e - py_b a S e
  | 0, _ => rfl
  | k + 1, h => by
    have ih := pb_eq (S := S) (fun j hj => h j (Nat.lt_succ_of_lt hj))
    have h1 := h k (Nat.lt_succ_self k)
    rw [py_p_s, py_p_s]
    cases q : S.testBit k
    · rw [py_b_f q, py_b_f q, h1 q]; omega
    · rw [py_b_t q, py_b_t q]; omega
def mxP (v : Nat → Int) (hi : Nat) (M : Int) : Prop := (∀ S, S < hi → v S ≤ M) ∧ ∃ S, S < hi ∧ v S = M
theorem mx_un {v : Nat → Int} {hi : Nat} {M M' : Int} (h : mxP v hi M) (h' : mxP v hi M') : M = M' := by
  obtain ⟨S, s1, s2⟩ := h.2
  obtain ⟨T, t1, t2⟩ := h'.2
  have a := h.1 T t1
  have b := h'.1 S s1
  omega
theorem mx_cong {v w : Nat → Int} {hi : Nat} {M : Int} (h : mxP v hi M) (e : ∀ S, S < hi → v S = w S) : mxP w hi M :=
  ⟨fun S hS => by rw [← e S hS]; exact h.1 S hS, h.2.elim (fun S q => ⟨S, q.1, by rw [← e S q.1]; exact q.2⟩)⟩
theorem gr_mx {f a g : Nat → Int} {m : Nat} (hf : gdF f) (ha : ∀ k, k < m → 0 ≤ a k) (hg : grP f a g m) : ∀ e, e ≤ m → mxP (fun S => py_b a S e - f S) (2 ^ e) (py_p a e - py_p g e) := by
  intro e he
  refine ⟨fun S hS => ?_, ?_⟩
  · have h1 := gr_le hf hg e he S hS
    have h2 := pb_le (S := S) (e := e) (fun k hk => (gr_nn hf ha hg k (by omega)).2)
    show py_b a S e - f S ≤ _
    omega
  · obtain ⟨S, s1, s2, s3⟩ := gr_tight hf hg e he
    have h1 := gr_le hf hg e he S s1
    have h2 := pb_eq (S := S) (e := e) s3
    refine ⟨S, s1, ?_⟩
    show py_b a S e - f S = _
    omega
/-- what the ends get, told twice, is the same -/
theorem py_ends {f a g t : Nat → Int} {m : Nat} (hf : gdF f) (ha : ∀ k, k < m → 0 ≤ a k) (hg : grP f a g m) (ht : ∀ j, j ≤ m → mxP (fun S => py_b a S m - f S) (2 ^ j) (py_p a j - py_p t j)) : ∀ j, j < m → t j = g j := by
  have key : ∀ j, j ≤ m → py_p t j = py_p g j := by
    intro j hj
    have h1 := gr_mx hf ha hg j hj
    have h2 := mx_cong (ht j hj) (w := fun S => py_b a S j - f S) (fun S hS => by show py_b a S m - f S = py_b a S j - f S; rw [py_b_ge hS hj])
    have := mx_un h1 h2
    omega
  intro j hj
  have h1 := key j (by omega)
  have h2 := key (j + 1) hj
  rw [py_p_s, py_p_s] at h2
  omega
/-- those of the first m whose ends miss S -/
def py_l (en : Nat → Nat) (S : Nat) : Nat → Nat
  | 0 => 0
  | k + 1 => if en k &&& S = 0 then 2 ^ k ||| py_l en S k else py_l en S k
theorem py_l_lt (en : Nat → Nat) (S : Nat) : ∀ m, py_l en S m < 2 ^ m
  | 0 => by show 0 < 1; decide
  | k + 1 => by
    have ih := py_l_lt en S k
    have hp : 2 ^ (k + 1) = 2 ^ k + 2 ^ k := by rw [Nat.pow_succ]; omega
    show (if en k &&& S = 0 then 2 ^ k ||| py_l en S k else py_l en S k) < _
    split
    · rw [py_or ih]; omega
    · omega
theorem py_l_bit {en : Nat → Nat} {S : Nat} : ∀ {m k : Nat}, k < m → ((py_l en S m).testBit k = true ↔ en k &&& S = 0)
  | 0, k, h => absurd h (Nat.not_lt_zero k)
  | m + 1, k, h => by
    have hl := py_l_lt en S m
    show ((if en m &&& S = 0 then 2 ^ m ||| py_l en S m else py_l en S m).testBit k = true ↔ _)
    by_cases q : k = m
    · subst q
      split
      · rename_i z; rw [Nat.testBit_or, Nat.testBit_two_pow]; simp [z]
      · rename_i z; rw [tb_no hl (Nat.le_refl k)]; exact ⟨fun y => absurd y (by decide), fun y => absurd y z⟩
    · have ih := py_l_bit (en := en) (S := S) (m := m) (k := k) (by omega)
      have e2 : (2 ^ m).testBit k = false := by rw [Nat.testBit_two_pow]; exact decide_eq_false (fun z => q z.symm)
      split
      · rw [Nat.testBit_or, e2, Bool.false_or]; exact ih
      · exact ih
theorem py_c_comp {co : Nat → Int} {en : Nat → Nat} {S L : Nat} : ∀ {i : Nat}, (∀ k, k < i → (L.testBit k = true ↔ en k &&& S = 0)) → py_p co i - py_b co L i = py_c co en S i
  | 0, _ => rfl
  | k + 1, h => by
    have ih := py_c_comp (co := co) (fun j hj => h j (Nat.lt_succ_of_lt hj))
    have h1 := h k (Nat.lt_succ_self k)
    cases q : L.testBit k
    · rw [py_b_f q, py_p_s, py_c_y (fun z => by rw [h1.mpr z] at q; exact absurd q (by decide))]; omega
    · rw [py_b_t q, py_p_s, py_c_n (h1.mp q)]; omega
theorem py_c_half {co : Nat → Int} {en : Nat → Nat} {S L : Nat} : ∀ {i : Nat}, (∀ k, k < i → 0 ≤ co k) → (∀ k, k < i → L.testBit k = true → en k &&& S = 0) → py_c co en S i ≤ py_p co i - py_b co L i
  | 0, _, _ => Int.le_refl _
  | k + 1, hc, h => by
    have ih := py_c_half (co := co) (fun j hj => hc j (Nat.lt_succ_of_lt hj)) (fun j hj => h j (Nat.lt_succ_of_lt hj))
    have h1 := h k (Nat.lt_succ_self k)
    have h2 := hc k (Nat.lt_succ_self k)
    cases q : L.testBit k
    · rw [py_b_f q, py_p_s, py_c_s]
      split <;> omega
    · rw [py_b_t q, py_p_s, py_c_n (h1 q)]; omega
/-- what the legacies pay -/
theorem py_leg {g co p : Nat → Int} {en : Nat → Nat} {n : Nat} (hg : ∀ k, k < 6 → 0 ≤ g k) (hc : ∀ k, k < n → 0 ≤ co k) (he : ∀ k, k < n → en k < 64) (hp : grP (fun L => py_b g (py_u en L n) 6) co p n) : ∀ i, i ≤ n → mxP (fun S => py_b g S 6 - py_c co en S i) 64 (py_p g 6 - py_p p i) := by
  intro i hi
  have hf : gdF (fun L => py_b g (py_u en L n) 6) := gd_u hg
  have hnn := gr_nn hf hc hp
  have up : ∀ S, S < 64 → py_b g S 6 - py_c co en S i ≤ py_p g 6 - py_p p i := by
    intro S hS
    have hl := py_l_lt en S i
    have h1 := pb_le (g := p) (a := co) (S := py_l en S i) (e := i) (fun k hk => (hnn k (by omega)).2)
    have h2 := py_c_comp (co := co) (i := i) (fun k hk => py_l_bit (en := en) (S := S) hk)
    have h3 : py_b p (py_l en S i) i ≤ py_b g (py_u en (py_l en S i) n) 6 := gr_le hf hp i hi _ hl
    have hd : py_u en (py_l en S i) n &&& S = 0 := by
      apply Nat.eq_of_testBit_eq
      intro j
      rw [Nat.zero_testBit]
      cases q : (py_u en (py_l en S i) n &&& S).testBit j
      · rfl
      · exfalso
        rw [Nat.testBit_and, Bool.and_eq_true] at q
        obtain ⟨k, k1, k2, k3⟩ := py_u_bit.mp q.1
        have ki : k < i := Nat.lt_of_not_le (fun z => by rw [tb_no hl z] at k2; exact absurd k2 (by decide))
        have hz := (py_l_bit (en := en) (S := S) ki).mp k2
        have : (en k &&& S).testBit j = true := by rw [Nat.testBit_and, k3, q.2]; rfl
        rw [hz, Nat.zero_testBit] at this
        exact absurd this (by decide)
    have h4 := py_b_mod g (py_u en (py_l en S i) n) S 6
    rw [hd, py_b_zero] at h4
    have h5 : py_b g (py_u en (py_l en S i) n ||| S) 6 ≤ py_b g 63 6 := by
      rw [show py_b g (py_u en (py_l en S i) n ||| S) 6 = py_b g ((py_u en (py_l en S i) n ||| S) &&& 63) 6 from py_b_cong (fun k hk => by
        rw [Nat.testBit_and, show (63 : Nat) = 2 ^ 6 - 1 from rfl, Nat.testBit_two_pow_sub_one, decide_eq_true hk, Bool.and_true])]
      exact py_b_mono (sub_andR _ _) hg
    have h6 : py_b g 63 6 = py_p g 6 := py_b_full (fun k hk => by
      rw [show (63 : Nat) = 2 ^ 6 - 1 from rfl, Nat.testBit_two_pow_sub_one, decide_eq_true hk])
    omega
  refine ⟨up, ?_⟩
  obtain ⟨L, l1, l2, l3⟩ := gr_tight hf hp i hi
  have l2 : py_b g (py_u en L n) 6 ≤ py_b p L i := l2
  have hU : py_u en L n < 64 := py_u_lt he
  have hS : 63 ^^^ py_u en L n < 64 := Nat.xor_lt_two_pow (n := 6) (by decide) hU
  have hb : ∀ k, k < 6 → (63 ^^^ py_u en L n).testBit k = !(py_u en L n).testBit k := by
    intro k hk
    rw [Nat.testBit_xor, show (63 : Nat) = 2 ^ 6 - 1 from rfl, Nat.testBit_two_pow_sub_one, decide_eq_true hk]
    cases (py_u en L n).testBit k <;> rfl
  have h1 := py_b_comp (g := g) hb
  have h2 := pb_eq (S := L) (e := i) l3
  have h3 : py_c co en (63 ^^^ py_u en L n) i ≤ py_p co i - py_b co L i := py_c_half (fun k hk => hc k (by omega)) (fun k hk hLk => by
    apply Nat.eq_of_testBit_eq
    intro j
    rw [Nat.zero_testBit, Nat.testBit_and]
    cases q : (en k).testBit j
    · rfl
    · have hj : j < 6 := tb_lt (n := 6) (he k (by omega)) q
      rw [hb j hj, py_u_bit.mpr ⟨k, by omega, hLk, q⟩]; rfl)
  refine ⟨63 ^^^ py_u en L n, hS, ?_⟩
  have h4 := up _ hS
  show py_b g (63 ^^^ py_u en L n) 6 - py_c co en (63 ^^^ py_u en L n) i = _
  omega
/-- what the legacies pay, told twice, is the same -/
theorem py_legs {g co p q : Nat → Int} {en : Nat → Nat} {n : Nat} (hg : ∀ k, k < 6 → 0 ≤ g k) (hc : ∀ k, k < n → 0 ≤ co k) (he : ∀ k, k < n → en k < 64) (hp : grP (fun L => py_b g (py_u en L n) 6) co p n) (hq : ∀ i, 0 < i → i ≤ n → mxP (fun S => py_b g S 6 - py_c co en S i) 64 (py_p g 6 - py_p q i)) : ∀ j, j < n → q j = p j := by
  have key : ∀ j, j ≤ n → py_p q j = py_p p j := by
    intro j hj
    by_cases z : j = 0
    · subst z; rfl
    · have := mx_un (py_leg hg hc he hp j hj) (hq j (by omega) hj)
      omega
  intro j hj
  have h1 := key j (by omega)
  have h2 := key (j + 1) hj
  rw [py_p_s, py_p_s] at h2
  omega
/-- the greatest, with the least set that has it -/
def mxL (v : Nat → Int) (hi : Nat) (M : Int) (P : Nat) : Prop := P < hi ∧ v P = M ∧ (∀ S, S < hi → v S ≤ M) ∧ ∀ S, S < P → v S < M
theorem mxL.mx {v : Nat → Int} {hi P : Nat} {M : Int} (h : mxL v hi M P) : mxP v hi M := ⟨h.2.2.1, P, h.1, h.2.1⟩
theorem mxL_0 {v : Nat → Int} (h : v 0 = 0) : mxL v 1 0 0 := ⟨by decide, h, fun S hS => by rw [show S = 0 by omega, h]; exact Int.le_refl _, fun S hS => absurd hS (Nat.not_lt_zero S)⟩
theorem mxL_y {v : Nat → Int} {i P : Nat} {M x : Int} (h : mxL v i M P) (hx : x = v i) (c : M < x) : mxL v (i + 1) x i :=
  ⟨Nat.lt_succ_self i, hx.symm, fun S hS => by
    by_cases q : S = i
    · rw [q, hx]; exact Int.le_refl _
    · have := h.2.2.1 S (by omega); omega, fun S hS => by have := h.2.2.1 S hS; omega⟩
theorem mxL_n {v : Nat → Int} {i P : Nat} {M x : Int} (h : mxL v i M P) (hx : x = v i) (c : ¬ M < x) : mxL v (i + 1) M P :=
  ⟨Nat.lt_succ_of_lt h.1, h.2.1, fun S hS => by
    by_cases q : S = i
    · rw [q, ← hx]; omega
    · exact h.2.2.1 S (by omega), h.2.2.2⟩
theorem mxL_un {v : Nat → Int} {hi P P' : Nat} {M M' : Int} (h : mxL v hi M P) (h' : mxL v hi M' P') : M = M' ∧ P = P' := by
  have e := mx_un h.mx h'.mx
  refine ⟨e, ?_⟩
  rcases Nat.lt_trichotomy P P' with q | q | q
  · have := h'.2.2.2 P q; rw [h.2.1] at this; omega
  · exact q
  · have := h.2.2.2 P' q; rw [h'.2.1] at this; omega
theorem mxL_cong {v w : Nat → Int} {hi P : Nat} {M : Int} (h : mxL v hi M P) (e : ∀ S, S < hi → v S = w S) : mxL w hi M P :=
  ⟨h.1, by rw [← e P h.1]; exact h.2.1, fun S hS => by rw [← e S hS]; exact h.2.2.1 S hS, fun S hS => by rw [← e S (Nat.lt_trans hS h.1)]; exact h.2.2.2 S hS⟩

