/-! The reference's search for the best set ends with D. -/
def btW (w : Nat → Int) (g A B : Nat) : Prop := py_b w B g < py_b w A g ∨ (py_b w B g = py_b w A g ∧ ∃ i, i < g ∧ (∀ j, j < i → A.testBit j = B.testBit j) ∧ A.testBit i = true ∧ B.testBit i = false)
theorem btW_as {w : Nat → Int} {g A B : Nat} (h : btW w g A B) (h' : btW w g B A) : False := by
  rcases h with h | ⟨h, i, i1, i2, i3, i4⟩ <;> rcases h' with h' | ⟨h', j, j1, j2, j3, j4⟩
  · omega
  · omega
  · omega
  · rcases Nat.lt_trichotomy i j with z | z | z
    · have := j2 i z; rw [i3, i4] at this; exact absurd this (by decide)
    · rw [z, j4] at i3; exact absurd i3 (by decide)
    · have := i2 j z; rw [j3, j4] at this; exact absurd this (by decide)
/-- D is the best of those that can be dressed -/
def beP (en : Nat → Nat) (n : Nat) (w : Nat → Int) (g D : Nat) : Prop := D < 2 ^ g ∧ HL en n D ∧ ∀ S, S < 2 ^ g → HL en n S → ¬ S = D → btW w g D S
theorem dr_be {en : Nat → Nat} {n g D : Nat} {w : Nat → Int} (h : drP en n w g D) (hg : g ≤ 16) (h0 : ∀ i, i < g → 0 ≤ w i) (h9 : ∀ i, i < g → w i ≤ 99) : beP en n w g D := by
  obtain ⟨h1, h2, h3⟩ := h
  refine ⟨h1, h2, fun S hS hH hne => ?_⟩
  rcases op_best hg h0 h9 (fun U hU hUg => h3 S U hH hU hUg) hS h1 hne with z | ⟨z, i, a, b, c, d⟩
  · exact Or.inl z
  · exact Or.inr ⟨z, i, a, fun j hj => (b j hj).symm, c, d⟩
def bsI (en : Nat → Nat) (n g D b i : Nat) : Prop := b < 2 ^ g ∧ HL en n b ∧ (D < i → b = D)
theorem bz_0 {en : Nat → Nat} {n g D : Nat} : bsI en n g D 0 1 := ⟨pow_pos2 g, fun P hP => by rw [sub_0 hP, pc_0]; exact fN_nn en n 0, fun h => by omega⟩
theorem bz_no {en : Nat → Nat} {n g D b i : Nat} {w : Nat → Int} (h : bsI en n g D b i) (hD : beP en n w g D) (c : ¬ HL en n i) : bsI en n g D b (i + 1) := by
  refine ⟨h.1, h.2.1, fun z => h.2.2 ?_⟩
  rcases Nat.lt_or_ge D i with y | y
  · exact y
  · have : D = i := by omega
    rw [← this] at c; exact absurd hD.2.1 c
theorem bz_keep {en : Nat → Nat} {n g D b i : Nat} {w : Nat → Int} (h : bsI en n g D b i) (hD : beP en n w g D) (c : ¬ btW w g i b) : bsI en n g D b (i + 1) := by
  refine ⟨h.1, h.2.1, fun z => ?_⟩
  rcases Nat.lt_or_ge D i with y | y
  · exact h.2.2 y
  · have : D = i := by omega
    subst this
    exact Classical.byContradiction (fun q => c (hD.2.2 b h.1 h.2.1 q))
theorem bz_take {en : Nat → Nat} {n g D b i : Nat} {w : Nat → Int} (h : bsI en n g D b i) (hD : beP en n w g D) (hi : i < 2 ^ g) (hH : HL en n i) (c : btW w g i b) : bsI en n g D i (i + 1) := by
  refine ⟨hi, hH, fun z => ?_⟩
  rcases Nat.lt_or_ge D i with y | y
  · have e := h.2.2 y
    rw [e] at c
    exact absurd (hD.2.2 i hi hH (by omega)) (fun q => btW_as q c)
  · omega
theorem bz_e {en : Nat → Nat} {n g D b : Nat} {w : Nat → Int} (h : bsI en n g D b (2 ^ g)) (hD : beP en n w g D) : b = D := h.2.2 hD.1
/-- what the two answers say -/
theorem btW_gt {w : Nat → Int} {g A B : Nat} (h : py_b w B g < py_b w A g) : btW w g A B := Or.inl h
theorem btW_f1 {w : Nat → Int} {g A B : Nat} {r : Int32} (h : py_b w A g = py_b w B g) (hr : fsP r A B g) (c : ¬ r = 0) : btW w g A B := by
  rcases hr with ⟨-, i, a, b, d, e⟩ | ⟨z, -⟩
  · exact Or.inr ⟨h.symm, i, a, b, d, e⟩
  · exact absurd z c
theorem btW_f0 {w : Nat → Int} {g A B : Nat} {r : Int32} (h : py_b w A g = py_b w B g) (hr : fsP r A B g) (c : r = 0) : ¬ btW w g A B := by
  rcases hr with ⟨z, -⟩ | ⟨-, ⟨i, a, b, d, e⟩ | z⟩
  · rw [c] at z; exact absurd z (by decide)
  · intro q
    exact btW_as q (Or.inr ⟨h, i, a, fun j hj => (b j hj).symm, e, d⟩)
  · rintro (q | ⟨-, i, a, b, d, e⟩)
    · omega
    · have := z i a; rw [d, e] at this; exact absurd this (by decide)
theorem btW_less {w : Nat → Int} {g A B : Nat} (h : py_b w A g < py_b w B g) : ¬ btW w g A B := fun q => btW_as q (Or.inl h)

