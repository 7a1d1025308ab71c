/-! The set that the greatest first finds is the best one. -/
def mkS (p : Nat → Bool) : Nat → Nat
  | 0 => 0
  | k + 1 => if p k = true then 2 ^ k ||| mkS p k else mkS p k
theorem mk_lt (p : Nat → Bool) : ∀ m, mkS p m < 2 ^ m
  | 0 => by show 0 < 1; decide
  | k + 1 => by
    have ih := mk_lt p k
    have hp : 2 ^ (k + 1) = 2 ^ k + 2 ^ k := by rw [Nat.pow_succ]; omega
    show (if p k = true then 2 ^ k ||| mkS p k else mkS p k) < _
    split
    · rw [py_or ih]; omega
    · omega
theorem mk_bit {p : Nat → Bool} : ∀ {m k : Nat}, k < m → ((mkS p m).testBit k = true ↔ p k = true)
  | 0, k, h => absurd h (Nat.not_lt_zero k)
  | m + 1, k, h => by
    have hl := mk_lt p m
    show ((if p m = true then 2 ^ m ||| mkS p m else mkS p m).testBit k = true ↔ _)
    by_cases q : k = m
    · subst q
      split
      · rename_i z; rw [Nat.testBit_or, Nat.testBit_two_pow]; simp [z]
      · rename_i z; rw [tb_no hl (Nat.le_refl k)]; exact ⟨fun y => absurd y (by decide), fun y => absurd y z⟩
    · have ih := mk_bit (p := p) (m := m) (k := k) (by omega)
      have e2 : (2 ^ m).testBit k = false := by rw [Nat.testBit_two_pow]; exact decide_eq_false (fun z => q z.symm)
      split
      · rw [Nat.testBit_or, e2, Bool.false_or]; exact ih
      · exact ih
theorem mk_is {p : Nat → Bool} {m k : Nat} (h : (mkS p m).testBit k = true) : k < m ∧ p k = true := by
  have hk := tb_lt (mk_lt p m) h
  exact ⟨hk, (mk_bit hk).mp h⟩
theorem py_b_addf {a b : Nat → Int} {S : Nat} : ∀ m, py_b (fun i => a i + b i) S m = py_b a S m + py_b b S m
  | 0 => rfl
  | k + 1 => by
    have ih := py_b_addf (a := a) (b := b) (S := S) k
    cases q : S.testBit k
    · rw [py_b_f q, py_b_f q, py_b_f q]; exact ih
    · rw [py_b_t q, py_b_t q, py_b_t q]; omega
theorem py_b_and (S U : Nat) : ∀ m, py_b one (S &&& U) m = py_b (fun i => if U.testBit i = true then 1 else 0) S m
  | 0 => rfl
  | k + 1 => by
    have ih := py_b_and S U k
    have e := Nat.testBit_and S U k
    cases q : S.testBit k <;> cases z : U.testBit k <;> rw [q, z] at e
    · rw [py_b_f e, py_b_f q]; exact ih
    · rw [py_b_f e, py_b_f q]; exact ih
    · rw [py_b_f e, py_b_t q, z, if_neg (by decide), Int.add_zero]; exact ih
    · rw [py_b_t e, py_b_t q, z, if_pos rfl, one_1, ih]
theorem pc_and {S U g : Nat} (hU : U < 2 ^ g) (hg : g ≤ 16) : pc (S &&& U) = py_b (fun i => if U.testBit i = true then 1 else 0) S g := by
  unfold pc
  rw [py_b_ge (Nat.lt_of_le_of_lt Nat.and_le_right hU) hg, py_b_and]
def szV (sz : Nat → Int) (V : Nat) : Nat → Int := fun i => if sz i ≤ V then sz i else V
def inV (sz : Nat → Int) (V : Nat) : Nat → Int := fun i => if (V : Int) ≤ sz i then 1 else 0
theorem szV_s (sz : Nat → Int) (V i : Nat) : szV sz (V + 1) i = szV sz V i + inV sz (V + 1) i := by
  unfold szV inV
  by_cases h1 : sz i ≤ V
  · rw [if_pos h1, if_pos (by omega), if_neg (by omega)]; omega
  · rw [if_neg h1, if_pos (show ((V + 1 : Nat) : Int) ≤ sz i by omega)]
    by_cases h2 : sz i ≤ ((V + 1 : Nat) : Int)
    · rw [if_pos h2]; omega
    · rw [if_neg h2]; omega
def uV (sz : Nat → Int) (V g : Nat) : Nat := mkS (fun i => decide ((V : Int) ≤ sz i)) g
theorem uV_dc {sz : Nat → Int} {V g : Nat} : dcP sz g (uV sz V g) := by
  intro i hi j hj hb
  obtain ⟨h1, h2⟩ := mk_is hi
  have h2 := of_decide_eq_true h2
  refine (mk_bit hj).mpr (decide_eq_true ?_)
  rcases hb with hb | ⟨hb, _⟩ <;> omega
theorem inV_pc {sz : Nat → Int} {V g S : Nat} (hg : g ≤ 16) : py_b (inV sz V) S g = pc (S &&& uV sz V g) := by
  show py_b (inV sz V) S g = pc (S &&& mkS (fun i => decide ((V : Int) ≤ sz i)) g)
  rw [pc_and (mk_lt _ g) hg]
  apply py_b_congf
  intro k hk
  unfold inV
  by_cases q : (V : Int) ≤ sz k
  · rw [if_pos q, if_pos ((mk_bit hk).mpr (decide_eq_true q))]
  · rw [if_neg q, if_neg (fun z => q (of_decide_eq_true ((mk_bit hk).mp z)))]
section OP
variable {sz : Nat → Int} {g S D : Nat}
theorem opV_s (hg : g ≤ 16) (V : Nat) : py_b (szV sz (V + 1)) S g = py_b (szV sz V) S g + pc (S &&& uV sz (V + 1) g) := by
  rw [← inV_pc hg, ← py_b_addf]
  exact py_b_congf (fun k _ => szV_s sz V k)
theorem op_le (hg : g ≤ 16) (h0 : ∀ i, i < g → 0 ≤ sz i) (ht : ∀ U, dcP sz g U → U < 2 ^ g → pc (S &&& U) ≤ pc (D &&& U)) : ∀ V, py_b (szV sz V) S g ≤ py_b (szV sz V) D g
  | 0 => by
    have z : ∀ X, py_b (szV sz 0) X g = 0 := fun X => by
      rw [py_b_congf (g' := fun _ => 0) (fun k hk => by
        unfold szV
        have := h0 k hk
        by_cases q : sz k ≤ ((0 : Nat) : Int)
        · rw [if_pos q]; omega
        · rw [if_neg q]; rfl)]
      have : ∀ m, py_b (fun _ => 0) X m = 0 := by
        intro m
        induction m with
        | zero => rfl
        | succ m ih => rw [py_b_s, ih]; split <;> rfl
      exact this g
    rw [z, z]; exact Int.le_refl 0
  | V + 1 => by
    have ih := op_le hg h0 ht V
    rw [opV_s hg, opV_s hg]
    have := ht (uV sz (V + 1) g) uV_dc (mk_lt _ g)
    omega
theorem op_dif (hg : g ≤ 16) (ht : ∀ U, dcP sz g U → U < 2 ^ g → pc (S &&& U) ≤ pc (D &&& U)) (V : Nat) : ∀ k, py_b (szV sz V) D g - py_b (szV sz V) S g ≤ py_b (szV sz (V + k)) D g - py_b (szV sz (V + k)) S g
  | 0 => Int.le_refl _
  | k + 1 => by
    have ih := op_dif hg ht V k
    rw [show V + (k + 1) = (V + k) + 1 by omega, opV_s hg, opV_s hg]
    have := ht (uV sz (V + k + 1) g) uV_dc (mk_lt _ g)
    omega
theorem op_99 (hs : ∀ i, i < g → sz i ≤ 99) : py_b (szV sz 99) S g = py_b sz S g := py_b_congf (fun k hk => by unfold szV; rw [if_pos (show sz k ≤ ((99 : Nat) : Int) from hs k hk)])
theorem op_eq (hg : g ≤ 16) (h0 : ∀ i, i < g → 0 ≤ sz i) (hs : ∀ i, i < g → sz i ≤ 99) (ht : ∀ U, dcP sz g U → U < 2 ^ g → pc (S &&& U) ≤ pc (D &&& U)) (he : py_b sz S g = py_b sz D g) (V : Nat) : py_b (inV sz (V + 1)) S g = py_b (inV sz (V + 1)) D g := by
  rw [inV_pc hg, inV_pc hg]
  by_cases hV : V + 1 ≤ 99
  · have a := op_le hg h0 ht V
    have b := op_dif hg ht (V + 1) (99 - (V + 1))
    rw [show V + 1 + (99 - (V + 1)) = 99 by omega, op_99 hs, op_99 hs] at b
    have c := ht (uV sz (V + 1) g) uV_dc (mk_lt _ g)
    rw [opV_s hg, opV_s hg] at b
    omega
  · have e : uV sz (V + 1) g = 0 := by
      apply Nat.eq_of_testBit_eq
      intro j
      rw [Nat.zero_testBit]
      cases q : (uV sz (V + 1) g).testBit j
      · rfl
      · obtain ⟨h1, h2⟩ := mk_is q
        have h2 := of_decide_eq_true h2
        have := hs j h1
        omega
    rw [e, Nat.and_zero, Nat.and_zero]
theorem op_first {i : Nat} (hg : g ≤ 16) (hi : i < g) (h0 : ∀ i, i < g → 0 ≤ sz i) (hs : ∀ i, i < g → sz i ≤ 99) (ht : ∀ U, dcP sz g U → U < 2 ^ g → pc (S &&& U) ≤ pc (D &&& U)) (he : py_b sz S g = py_b sz D g) (hb : ∀ j, j < i → S.testBit j = D.testBit j) (hS : S.testBit i = true) : D.testBit i = true := by
  cases hD : D.testBit i
  · exfalso
    have hU : dcP sz g (mkS (fun j => decide (sz i < sz j ∨ (sz j = sz i ∧ j ≤ i))) g) := by
      intro k hk j hj hbf
      obtain ⟨h1, h2⟩ := mk_is hk
      have h2 := of_decide_eq_true h2
      refine (mk_bit hj).mpr (decide_eq_true ?_)
      rcases h2 with h2 | ⟨h2, h3⟩ <;> rcases hbf with h4 | ⟨h4, h5⟩ <;> omega
    have a := ht _ hU (mk_lt _ g)
    rw [pc_and (mk_lt _ g) hg, pc_and (mk_lt _ g) hg] at a
    obtain ⟨v, hv⟩ : ∃ v : Nat, sz i = v := ⟨(sz i).toNat, by have := h0 i hi; omega⟩
    have spl : ∀ X, py_b (fun j => if (mkS (fun j => decide (sz i < sz j ∨ (sz j = sz i ∧ j ≤ i))) g).testBit j = true then 1 else 0) X g = py_b (inV sz (v + 1)) X g + py_b (fun j => if sz j = sz i ∧ j ≤ i then 1 else 0) X g := fun X => by
      rw [← py_b_addf]
      apply py_b_congf
      intro k hk
      unfold inV
      by_cases q : sz i < sz k
      · rw [if_pos ((mk_bit hk).mpr (decide_eq_true (Or.inl q))), if_pos (show ((v + 1 : Nat) : Int) ≤ sz k by omega), if_neg (fun z => by omega)]; rfl
      · by_cases z : sz k = sz i ∧ k ≤ i
        · rw [if_pos ((mk_bit hk).mpr (decide_eq_true (Or.inr z))), if_neg (show ¬ ((v + 1 : Nat) : Int) ≤ sz k by omega), if_pos z]; rfl
        · rw [if_neg (fun y => by
            rcases of_decide_eq_true ((mk_bit hk).mp y) with y | y
            · exact q y
            · exact z y), if_neg (show ¬ ((v + 1 : Nat) : Int) ≤ sz k by omega), if_neg z]; rfl
    rw [spl, spl] at a
    have b := op_eq hg h0 hs ht he v
    have c : ∀ m, py_b (fun j => if sz j = sz i ∧ j ≤ i then 1 else 0) S m = py_b (fun j => if sz j = sz i ∧ j ≤ i then 1 else 0) D m + (if i < m then 1 else 0) := by
      intro m
      induction m with
      | zero => rfl
      | succ m ih =>
        rcases Nat.lt_trichotomy m i with q | q | q
        · rw [if_neg (by omega)] at ih
          rw [if_neg (by omega)]
          have e := hb m q
          cases y : D.testBit m
          · rw [py_b_f (e.trans y), py_b_f y]; exact ih
          · rw [py_b_t (e.trans y), py_b_t y]; omega
        · subst q
          rw [if_neg (Nat.lt_irrefl m)] at ih
          rw [if_pos (Nat.lt_succ_self m), py_b_t hS, py_b_f hD, if_pos ⟨rfl, Nat.le_refl m⟩]; omega
        · rw [if_pos q] at ih
          rw [if_pos (by omega), py_b_s, py_b_s, if_neg (show ¬ (sz m = sz i ∧ m ≤ i) by omega)]
          split <;> split <;> omega
    have d := c g
    rw [if_pos hi] at d
    omega
  · rfl
/-- the set D is better than every other that can be dressed -/
theorem op_best (hg : g ≤ 16) (h0 : ∀ i, i < g → 0 ≤ sz i) (hs : ∀ i, i < g → sz i ≤ 99) (ht : ∀ U, dcP sz g U → U < 2 ^ g → pc (S &&& U) ≤ pc (D &&& U)) (hSg : S < 2 ^ g) (hDg : D < 2 ^ g) (hne : ¬ S = D) : py_b sz S g < py_b sz D g ∨ (py_b sz S g = py_b sz D g ∧ ∃ i, i < g ∧ (∀ j, j < i → S.testBit j = D.testBit j) ∧ D.testBit i = true ∧ S.testBit i = false) := by
  have a := op_le hg h0 ht 99
  rw [op_99 hs, op_99 hs] at a
  by_cases q : py_b sz S g = py_b sz D g
  · refine Or.inr ⟨q, ?_⟩
    have hx : ∃ i, ¬ S.testBit i = D.testBit i := by
      apply Classical.byContradiction
      intro z
      exact hne (Nat.eq_of_testBit_eq (fun i => Classical.byContradiction (fun y => z ⟨i, y⟩)))
    obtain ⟨i, i1, i2⟩ := min_ex hx
    have hb : ∀ j, j < i → S.testBit j = D.testBit j := fun j hj => Classical.byContradiction (fun z => by have := i2 j z; omega)
    have hi : i < g := Nat.lt_of_not_le (fun z => i1 (by rw [tb_no hSg z, tb_no hDg z]))
    cases y : S.testBit i
    · refine ⟨i, hi, hb, ?_, y⟩
      cases w : D.testBit i
      · exact absurd (y.trans w.symm) i1
      · rfl
    · have := op_first hg hi h0 hs ht q hb y
      exact absurd (y.trans this.symm) i1
  · exact Or.inl (by omega)
end OP
/-! Coats that the others can't spare. -/
theorem fN_rm {e : Nat → Nat} {k P : Nat} : ∀ {n : Nat}, fN (fun c => if c = k then 0 else e c) n P = fN e n P - (if k < n then (if e k &&& P = 0 then 0 else 1) else 0)
  | 0 => rfl
  | n + 1 => by
    have ih := fN_rm (e := e) (k := k) (P := P) (n := n)
    rw [fN_s, fN_s, ih]
    by_cases q : n = k
    · subst q
      rw [if_neg (Nat.lt_irrefl n), if_pos rfl, Nat.zero_and, if_pos rfl, if_pos (Nat.lt_succ_self n)]
      omega
    · rw [if_neg q]
      by_cases z : k < n
      · rw [if_pos z, if_pos (show k < n + 1 by omega)]; omega
      · rw [if_neg z, if_neg (show ¬ k < n + 1 by omega)]; omega
theorem need_iff {e : Nat → Nat} {n k B : Nat} (h : HL e n B) (hk : k < n) : HL (fun c => if c = k then 0 else e c) n B ↔ ¬ ∃ P, sub_ P B ∧ fN e n P ≤ pc P ∧ ¬ e k &&& P = 0 := by
  constructor
  · rintro h1 ⟨P, p1, p2, p3⟩
    have a := h1 P p1
    rw [fN_rm, if_pos hk, if_neg p3] at a
    omega
  · intro h1 P hP
    have a := h P hP
    rw [fN_rm, if_pos hk]
    by_cases q : e k &&& P = 0
    · rw [if_pos q]; omega
    · rw [if_neg q]
      have : ¬ fN e n P ≤ pc P := fun z => h1 ⟨P, hP, z, q⟩
      omega

