/-! Dressing: what the class' tables hold. -/
def ftB (cs gn : Nat → Int32) (z sp : Int32) (c : Nat) : Bool := decide (gn c = 0 ∧ ¬ cs c < z ∧ cs c ≤ z + sp)
def ftS (cs gn : Nat → Int32) (z sp : Int32) (n : Nat) : Nat := mkS (ftB cs gn z sp) n
theorem mk_y {f : Nat → Bool} {k : Nat} (h : f k = true) : mkS f (k + 1) = 2 ^ k ||| mkS f k := by show (if f k = true then 2 ^ k ||| mkS f k else mkS f k) = _; rw [if_pos h]
theorem mk_n {f : Nat → Bool} {k : Nat} (h : ¬ f k = true) : mkS f (k + 1) = mkS f k := by show (if f k = true then 2 ^ k ||| mkS f k else mkS f k) = _; rw [if_neg h]
theorem mk_y2 {f : Nat → Bool} {k : Nat} (h : f k = true) : mkS f (k + 1) = mkS f k ||| 2 ^ k := by rw [mk_y h, Nat.or_comm]
theorem fz_n {cs gn : Nat → Int32} {z sp : Int32} {q : Int64} {i : Nat} (h : q = qN (ftS cs gn z sp i)) (hn : ¬ (gn i = 0 ∧ ¬ cs i < z ∧ cs i ≤ z + sp)) : q = qN (ftS cs gn z sp (i + 1)) := by
  rw [h]; unfold ftS
  rw [mk_n (fun y => hn (of_decide_eq_true y))]
theorem fz_y {cs gn : Nat → Int32} {z sp : Int32} {q : Int64} {i : Nat} (h : q = qN (ftS cs gn z sp i)) (hi : i < 40) (hn : gn i = 0 ∧ ¬ cs i < z ∧ cs i ≤ z + sp) : q ||| ((1 : Int64) <<< ((nI i).toInt64 &&& 63)) = qN (ftS cs gn z sp (i + 1)) := by
  rw [h, lsh40 i hi, qN_or]; unfold ftS
  rw [mk_y2 (decide_eq_true hn)]
/-- the guests whom coat c fits -/
def enG (cs gn sz : Nat → Int32) (sp : Int32) (g : Nat) : Nat → Nat := fun c => mkS (fun i => ftB cs gn (sz i) sp c) g
def fS (en : Nat → Nat) (n P : Nat) : Nat := mkS (fun c => decide (¬ en c &&& P = 0)) n
theorem and_bit {a b : Nat} (h : ¬ a &&& b = 0) : ∃ i, a.testBit i = true ∧ b.testBit i = true := by
  apply Classical.byContradiction
  intro z
  apply h
  apply Nat.eq_of_testBit_eq
  intro i
  rw [Nat.zero_testBit, Nat.testBit_and]
  cases x : a.testBit i
  · rfl
  · cases y : b.testBit i
    · rfl
    · exact absurd ⟨i, x, y⟩ z
theorem tb_and {a b i : Nat} (x : a.testBit i = true) (y : b.testBit i = true) : ¬ a &&& b = 0 := fun z => by
  have := Nat.testBit_and a b i
  rw [z, x, y, Nat.zero_testBit] at this
  exact absurd this (by decide)
theorem and_or0 {a b c : Nat} : a &&& (b ||| c) = 0 ↔ a &&& b = 0 ∧ a &&& c = 0 := by
  constructor
  · intro h
    refine ⟨Classical.byContradiction (fun z => ?_), Classical.byContradiction (fun z => ?_)⟩
    · obtain ⟨i, x, y⟩ := and_bit z
      exact tb_and x (by rw [Nat.testBit_or, y]; rfl) h
    · obtain ⟨i, x, y⟩ := and_bit z
      exact tb_and x (by rw [Nat.testBit_or, y]; exact Bool.or_true _) h
  · rintro ⟨h1, h2⟩
    apply Classical.byContradiction
    intro z
    obtain ⟨i, x, y⟩ := and_bit z
    rw [Nat.testBit_or, Bool.or_eq_true] at y
    rcases y with y | y
    · exact tb_and x y h1
    · exact tb_and x y h2
theorem and_pow {a i : Nat} : a &&& 2 ^ i = 0 ↔ a.testBit i = false := by
  constructor
  · intro h
    cases x : a.testBit i
    · rfl
    · exact absurd h (tb_and x (bit_one.mpr rfl))
  · intro h
    apply Classical.byContradiction
    intro z
    obtain ⟨j, x, y⟩ := and_bit z
    rw [bit_one.mp y, h] at x
    exact absurd x (by decide)
theorem fS_lt (en : Nat → Nat) (n P : Nat) : fS en n P < 2 ^ n := mk_lt _ n
theorem fS_0 (en : Nat → Nat) : ∀ n, fS en n 0 = 0
  | 0 => rfl
  | n + 1 => by
    show mkS _ (n + 1) = 0
    rw [mk_n (by rw [Nat.and_zero]; decide)]; exact fS_0 en n
theorem fS_or {en : Nat → Nat} {n P i : Nat} {cs gn sz : Nat → Int32} {sp : Int32} {g : Nat} (he : en = enG cs gn sz sp g) (hi : i < g) : fS en n P ||| ftS cs gn (sz i) sp n = fS en n (P ||| 2 ^ i) := by
  apply Nat.eq_of_testBit_eq
  intro c
  rw [Nat.testBit_or]
  by_cases hc : c < n
  · apply Bool.eq_iff_iff.mpr
    rw [Bool.or_eq_true]
    unfold fS ftS
    rw [mk_bit hc, mk_bit hc, mk_bit hc, decide_eq_true_iff, decide_eq_true_iff, and_or0, and_pow]
    have : (en c).testBit i = ftB cs gn (sz i) sp c := by
      rw [he]
      apply Bool.eq_iff_iff.mpr
      exact mk_bit hi
    rw [this]
    cases x : ftB cs gn (sz i) sp c <;> simp
  · rw [tb_no (fS_lt en n P) (by omega), tb_no (fS_lt en n _) (by omega), tb_no (show ftS cs gn (sz i) sp n < 2 ^ n from mk_lt _ n) (by omega)]; rfl
theorem fS_pc {en : Nat → Nat} {n P : Nat} : ∀ {m : Nat}, m ≤ n → py_b one (fS en n P) m = fN en m P
  | 0, _ => rfl
  | m + 1, h => by
    have ih := fS_pc (en := en) (n := n) (P := P) (m := m) (by omega)
    rw [fN_s, py_b_s, ih, one_1]
    by_cases q : en m &&& P = 0
    · rw [if_pos q, if_neg (fun y => by have := (mk_bit (by omega)).mp y; exact of_decide_eq_true this q)]
    · rw [if_neg q, if_pos (show (fS en n P).testBit m = true from (mk_bit (p := fun c => decide (¬ en c &&& P = 0)) h).mpr (decide_eq_true q))]
theorem fS_40 {en : Nat → Nat} {n P : Nat} (hn : n ≤ 40) : py_b one (fS en n P) 40 = fN en n P := by
  rw [py_b_ge (fS_lt en n P) hn, fS_pc (Nat.le_refl n)]
theorem pow_le40 {n : Nat} (hn : n ≤ 40) : (2 : Nat) ^ n ≤ 2 ^ 40 := Nat.pow_le_pow_right (by decide) hn
theorem bL_fN {en : Nat → Nat} {n P : Nat} (hn : n ≤ 40) : ∃ m, bcL (qN (fS en n P)) = nI m ∧ (m : Int) = fN en n P := by
  obtain ⟨m, h1, h2⟩ := bcL_pop (Nat.lt_of_lt_of_le (fS_lt en n P) (pow_le40 hn))
  exact ⟨m, h1, h2.trans (fS_40 hn)⟩
theorem pc_8 {P : Nat} (h : P < 256) : ((P8 P : Nat) : Int) = pc P := by
  unfold pc
  rw [py_b_ge (n := 8) (by simpa using h) (by decide)]
  have := py_8 P 0
  rw [Nat.zero_add] at this
  rw [this, Nat.pow_zero, Nat.div_one, Nat.mod_eq_of_lt h]
  show _ = (0 : Int) + _
  omega
theorem fN_le (en : Nat → Nat) (P : Nat) : ∀ n, fN en n P ≤ n
  | 0 => Int.le_refl 0
  | n + 1 => by
    have := fN_le en P n
    rw [fN_s]; split <;> omega
theorem fN_nn (en : Nat → Nat) : ∀ (n P : Nat), 0 ≤ fN en n P
  | 0, _ => Int.le_refl 0
  | n + 1, P => by
    have := fN_nn en n P
    rw [fN_s]; split <;> omega
/-- how the class compares coats and guests -/
theorem bc_lt {en : Nat → Nat} {n P : Nat} (hn : n ≤ 40) (hP : P < 256) : bcL (qN (fS en n P)) < bcI (nI P) ↔ fN en n P < pc P := by
  obtain ⟨m, h1, h2⟩ := bL_fN (en := en) (P := P) hn
  have h3 := fN_le en P n
  have h4 := P8_le P
  rw [h1, bcI_P8 P hP, nI_ltI (by omega) (by omega), ← h2, ← pc_8 hP]
  omega
theorem bc_le {en : Nat → Nat} {n P : Nat} (hn : n ≤ 40) (hP : P < 256) : bcL (qN (fS en n P)) ≤ bcI (nI P) ↔ fN en n P ≤ pc P := by
  obtain ⟨m, h1, h2⟩ := bL_fN (en := en) (P := P) hn
  have h3 := fN_le en P n
  have h4 := P8_le P
  rw [h1, bcI_P8 P hP, nI_leI (by omega) (by omega), ← h2, ← pc_8 hP]
  omega
def enF (en : Nat → Nat) (fr : Nat) : Nat → Nat := fun c => if fr.testBit c = true then en c else 0
theorem fS_fr {en : Nat → Nat} {n P fr : Nat} : fS en n P &&& fr = fS (enF en fr) n P := by
  apply Nat.eq_of_testBit_eq
  intro c
  rw [Nat.testBit_and]
  by_cases hc : c < n
  · apply Bool.eq_iff_iff.mpr
    rw [Bool.and_eq_true]
    unfold fS
    rw [mk_bit hc, mk_bit hc, decide_eq_true_iff, decide_eq_true_iff]
    unfold enF
    cases x : fr.testBit c
    · simp
    · simp
  · rw [tb_no (fS_lt en n P) (by omega), tb_no (fS_lt _ n _) (by omega)]; rfl
/-- the fitting table -/
def fitT (F : Nat → Int64) (en : Nat → Nat) (n m : Nat) : Prop := ∀ P, P < m → F P = qN (fS en n P)
/-- every part of S below i is well off -/
def hlI (en : Nat → Nat) (n S i : Nat) : Prop := ∀ P, P < i → sub_ P S → pc P ≤ fN en n P
theorem hl_0 {en : Nat → Nat} {n S : Nat} : hlI en n S 1 := fun P hP _ => by
  have : P = 0 := by omega
  rw [this, pc_0]
  exact fN_nn en n 0
theorem hl_s {en : Nat → Nat} {n S i : Nat} (h : hlI en n S i) (hn : sub_ i S → pc i ≤ fN en n i) : hlI en n S (i + 1) := fun P hP hs => by
  by_cases q : P = i
  · subst q; exact hn hs
  · exact h P (by omega) hs
theorem hl_e {en : Nat → Nat} {n S g : Nat} (h : hlI en n S (2 ^ g)) (hS : S < 2 ^ g) : HL en n S := fun P hP => h P (Nat.lt_of_le_of_lt (sub_le hP) hS) hP
/-- the coats that tight parts of S below i need -/
def ndI (q : Int64) (en : Nat → Nat) (n S i : Nat) : Prop := ∃ N, q = qN N ∧ N < 2 ^ n ∧ ∀ c, c < n → (N.testBit c = true ↔ ∃ P, P < i ∧ 1 ≤ P ∧ sub_ P S ∧ fN en n P ≤ pc P ∧ ¬ en c &&& P = 0)
theorem nd_0 {en : Nat → Nat} {n S : Nat} : ndI 0 en n S 1 := ⟨0, rfl, pow_pos2 n, fun c _ => by
  rw [Nat.zero_testBit]
  constructor
  · intro h; exact absurd h (by decide)
  · rintro ⟨P, h1, h2, -⟩; omega⟩
theorem nd_n {q : Int64} {en : Nat → Nat} {n S i : Nat} (h : ndI q en n S i) (hn : ¬ (sub_ i S ∧ fN en n i ≤ pc i)) : ndI q en n S (i + 1) := by
  obtain ⟨N, h1, h2, h3⟩ := h
  refine ⟨N, h1, h2, fun c hc => (h3 c hc).trans ⟨?_, ?_⟩⟩
  · rintro ⟨P, a1, a2⟩; exact ⟨P, by omega, a2⟩
  · rintro ⟨P, a1, a2, a3, a4, a5⟩
    refine ⟨P, ?_, a2, a3, a4, a5⟩
    rcases Nat.lt_or_ge P i with z | z
    · exact z
    · have : P = i := by omega
      subst this; exact absurd ⟨a3, a4⟩ hn
theorem nd_y {q : Int64} {en : Nat → Nat} {n S i : Nat} (h : ndI q en n S i) (hi : 1 ≤ i) (hn : sub_ i S ∧ fN en n i ≤ pc i) : ndI (q ||| qN (fS en n i)) en n S (i + 1) := by
  obtain ⟨N, h1, h2, h3⟩ := h
  refine ⟨N ||| fS en n i, by rw [h1, qN_or], Nat.or_lt_two_pow h2 (fS_lt en n i), fun c hc => ?_⟩
  rw [Nat.testBit_or, Bool.or_eq_true, h3 c hc]
  unfold fS
  rw [mk_bit hc, decide_eq_true_iff]
  constructor
  · rintro (⟨P, a1, a2⟩ | a)
    · exact ⟨P, by omega, a2⟩
    · exact ⟨i, by omega, hi, hn.1, hn.2, a⟩
  · rintro ⟨P, a1, a2, a3, a4, a5⟩
    rcases Nat.lt_or_ge P i with z | z
    · exact Or.inl ⟨P, z, a2, a3, a4, a5⟩
    · have : P = i := by omega
      subst this; exact Or.inr a5
/-- the greatest that isn't seen, of those below i -/
def grI (sz : Nat → Int) (seen i b : Nat) (z : Int) : Prop := (z = -1 ∧ b = 0 ∧ ∀ j, j < i → seen.testBit j = true) ∨ (b < i ∧ z = sz b ∧ seen.testBit b = false ∧ ∀ j, j < i → seen.testBit j = false → j = b ∨ befP sz b j)
theorem gb_0 {sz : Nat → Int} {seen : Nat} : grI sz seen 0 0 (-1) := Or.inl ⟨rfl, rfl, fun j h => absurd h (Nat.not_lt_zero j)⟩
theorem gb_seen {sz : Nat → Int} {seen i b : Nat} {z : Int} (h : grI sz seen i b z) (hs : seen.testBit i = true) : grI sz seen (i + 1) b z := by
  rcases h with ⟨h1, h2, h3⟩ | ⟨h1, h2, h3, h4⟩
  · refine Or.inl ⟨h1, h2, fun j hj => ?_⟩
    by_cases q : j = i
    · rw [q]; exact hs
    · exact h3 j (by omega)
  · refine Or.inr ⟨by omega, h2, h3, fun j hj hn => ?_⟩
    by_cases q : j = i
    · rw [q, hs] at hn; exact absurd hn (by decide)
    · exact h4 j (by omega) hn
theorem gb_less {sz : Nat → Int} {seen i b : Nat} {z : Int} (h : grI sz seen i b z) (h0 : 0 ≤ sz i) (hz : ¬ z < sz i) : grI sz seen (i + 1) b z := by
  rcases h with ⟨h1, h2, h3⟩ | ⟨h1, h2, h3, h4⟩
  · omega
  · refine Or.inr ⟨by omega, h2, h3, fun j hj hn => ?_⟩
    by_cases q : j = i
    · rw [q]; unfold befP; right; omega
    · exact h4 j (by omega) hn
theorem gb_new {sz : Nat → Int} {seen i b : Nat} {z : Int} (h : grI sz seen i b z) (hs : seen.testBit i = false) (hz : z < sz i) : grI sz seen (i + 1) i (sz i) := by
  refine Or.inr ⟨by omega, rfl, hs, fun j hj hn => ?_⟩
  by_cases q : j = i
  · exact Or.inl q
  · right
    rcases h with ⟨h1, h2, h3⟩ | ⟨h1, h2, h3, h4⟩
    · rw [h3 j (by omega)] at hn; exact absurd hn (by decide)
    · unfold befP
      rcases h4 j (by omega) hn with y | y
      · left; rw [y]; omega
      · unfold befP at y; left; omega

