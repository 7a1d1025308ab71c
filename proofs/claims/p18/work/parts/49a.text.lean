/-! The text: tokens, told of a row of signs t, its length n and a place p. -/
def rn (P : Nat → Bool) : Nat → Nat → Nat
  | 0, p => p
  | f + 1, p => if P p = true then rn P f (p + 1) else p
theorem rn_un {P : Nat → Bool} : ∀ {f p q : Nat}, p ≤ q → q ≤ p + f → (∀ j, p ≤ j → j < q → P j = true) → P q = false → rn P f p = q
  | 0, p, q, h1, h2, _, _ => by show p = q; omega
  | f + 1, p, q, h1, h2, h3, h4 => by
    show (if P p = true then rn P f (p + 1) else p) = q
    by_cases e : p = q
    · subst e; rw [if_neg (by rw [h4]; decide)]
    · rw [if_pos (h3 p (Nat.le_refl p) (by omega))]
      exact rn_un (by omega) (by omega) (fun j a b => h3 j (by omega) b) h4
theorem rn_ge {P : Nat → Bool} : ∀ {f p : Nat}, p ≤ rn P f p
  | 0, p => Nat.le_refl p
  | f + 1, p => by
    show p ≤ (if P p = true then rn P f (p + 1) else p)
    split
    · have := rn_ge (P := P) (f := f) (p := p + 1); omega
    · exact Nat.le_refl p
theorem rn_all {P : Nat → Bool} : ∀ {f p j : Nat}, p ≤ j → j < rn P f p → P j = true
  | 0, p, j, h1, h2 => by
    have h2 : j < p := h2
    omega
  | f + 1, p, j, h1, h2 => by
    have h2 : j < (if P p = true then rn P f (p + 1) else p) := h2
    split at h2
    · rename_i c
      by_cases e : j = p
      · rw [e]; exact c
      · exact rn_all (by omega) h2
    · omega
theorem rn_le {P : Nat → Bool} {n : Nat} (hP : ∀ j, n ≤ j → P j = false) {f p : Nat} (hp : p ≤ n) : rn P f p ≤ n := by
  apply Nat.le_of_not_lt
  intro q
  have := rn_all (P := P) (f := f) hp q
  rw [hP n (Nat.le_refl n)] at this
  exact absurd this (by decide)
theorem rn_end {P : Nat → Bool} {n : Nat} (hP : ∀ j, n ≤ j → P j = false) : ∀ {f p : Nat}, n ≤ p + f → P (rn P f p) = false
  | 0, p, h => hP p h
  | f + 1, p, h => by
    show P (if P p = true then rn P f (p + 1) else p) = false
    split
    · exact rn_end hP (by omega)
    · rename_i c; exact Bool.eq_false_iff.mpr c
abbrev blQ (t : Nat → Int32) (j : Nat) : Prop := t j = 10 ∨ t j = 32
abbrev smQ (t : Nat → Int32) (j : Nat) : Prop := 97 ≤ t j ∧ t j ≤ 122
abbrev dgQ (t : Nat → Int32) (j : Nat) : Prop := 48 ≤ t j ∧ t j ≤ 57
def blB (t : Nat → Int32) (n j : Nat) : Bool := decide (j < n ∧ blQ t j)
def smB (t : Nat → Int32) (n j : Nat) : Bool := decide (j < n ∧ smQ t j)
def dgB (t : Nat → Int32) (n j : Nat) : Bool := decide (j < n ∧ dgQ t j)
theorem bl_y {t : Nat → Int32} {n j : Nat} : blB t n j = true ↔ (j < n ∧ blQ t j) := decide_eq_true_iff
theorem sm_y {t : Nat → Int32} {n j : Nat} : smB t n j = true ↔ (j < n ∧ smQ t j) := decide_eq_true_iff
theorem dg_y {t : Nat → Int32} {n j : Nat} : dgB t n j = true ↔ (j < n ∧ dgQ t j) := decide_eq_true_iff
theorem bl_f {t : Nat → Int32} {n j : Nat} (h : ¬ (j < n ∧ blQ t j)) : blB t n j = false := decide_eq_false h
theorem sm_f {t : Nat → Int32} {n j : Nat} (h : ¬ (j < n ∧ smQ t j)) : smB t n j = false := decide_eq_false h
theorem dg_f {t : Nat → Int32} {n j : Nat} (h : ¬ (j < n ∧ dgQ t j)) : dgB t n j = false := decide_eq_false h
theorem bl_n {t : Nat → Int32} {n : Nat} : ∀ j, n ≤ j → blB t n j = false := fun j h => bl_f (fun q => by omega)
theorem sm_n {t : Nat → Int32} {n : Nat} : ∀ j, n ≤ j → smB t n j = false := fun j h => sm_f (fun q => by omega)
theorem dg_n {t : Nat → Int32} {n : Nat} : ∀ j, n ≤ j → dgB t n j = false := fun j h => dg_f (fun q => by omega)
def tS (t : Nat → Int32) (n p : Nat) : Nat := rn (blB t n) n p
def tK (t : Nat → Int32) (n p : Nat) : Nat := if n ≤ tS t n p then 0 else if smB t n (tS t n p) = true then 1 else if dgB t n (tS t n p) = true then 2 else if t (tS t n p) = 59 then 3 else 4
def tE (t : Nat → Int32) (n p : Nat) : Nat := if tK t n p = 0 then tS t n p else if tK t n p = 1 then rn (smB t n) n (tS t n p) else if tK t n p = 2 then rn (dgB t n) n (tS t n p) else tS t n p + 1
def dv (t : Nat → Int32) (s : Nat) : Nat → Nat
  | 0 => 0
  | k + 1 => 10 * dv t s k + ((t (s + k)).toNatClampNeg - 48)
def tV (t : Nat → Int32) (n p : Nat) : Nat := dv t (tS t n p) (tE t n p - tS t n p)
section TK
variable {t : Nat → Int32} {n p : Nat}
theorem tS_ge : p ≤ tS t n p := rn_ge
theorem tS_le (h : p ≤ n) : tS t n p ≤ n := rn_le bl_n h
theorem tK_0 (h : n ≤ tS t n p) : tK t n p = 0 := if_pos h
theorem tK_1 (h : smB t n (tS t n p) = true) : tK t n p = 1 := by
  unfold tK
  rw [if_neg (by have := (sm_y.mp h).1; omega), if_pos h]
theorem tK_2 (h1 : ¬ n ≤ tS t n p) (h2 : ¬ smB t n (tS t n p) = true) (h : dgB t n (tS t n p) = true) : tK t n p = 2 := by
  unfold tK
  rw [if_neg h1, if_neg h2, if_pos h]
theorem tK_3 (h1 : ¬ n ≤ tS t n p) (h2 : ¬ smB t n (tS t n p) = true) (h3 : ¬ dgB t n (tS t n p) = true) (h : t (tS t n p) = 59) : tK t n p = 3 := by
  unfold tK
  rw [if_neg h1, if_neg h2, if_neg h3, if_pos h]
theorem tK_4 (h1 : ¬ n ≤ tS t n p) (h2 : ¬ smB t n (tS t n p) = true) (h3 : ¬ dgB t n (tS t n p) = true) (h : ¬ t (tS t n p) = 59) : tK t n p = 4 := by
  unfold tK
  rw [if_neg h1, if_neg h2, if_neg h3, if_neg h]
theorem tK_lt (h : ¬ tK t n p = 0) : tS t n p < n := Nat.lt_of_not_le (fun q => h (tK_0 q))
theorem tK_le : tK t n p ≤ 4 := by
  unfold tK
  split
  · decide
  · split
    · decide
    · split
      · decide
      · split <;> decide
theorem tE_0 (h : tK t n p = 0) : tE t n p = tS t n p := if_pos h
theorem tE_1 (h : tK t n p = 1) : tE t n p = rn (smB t n) n (tS t n p) := by
  unfold tE; rw [if_neg (by omega), if_pos h]
theorem tE_2 (h : tK t n p = 2) : tE t n p = rn (dgB t n) n (tS t n p) := by
  unfold tE; rw [if_neg (by omega), if_neg (by omega), if_pos h]
theorem tE_3 (h : tK t n p = 3 ∨ tK t n p = 4) : tE t n p = tS t n p + 1 := by
  unfold tE; rw [if_neg (by omega), if_neg (by omega), if_neg (by omega)]
theorem tK_is1 (h : tK t n p = 1) : smB t n (tS t n p) = true := by
  unfold tK at h
  split at h
  · omega
  · split at h
    · rename_i q; exact q
    · split at h
      · omega
      · split at h <;> omega
theorem tK_is2 (h : tK t n p = 2) : dgB t n (tS t n p) = true := by
  unfold tK at h
  split at h
  · omega
  · split at h
    · omega
    · split at h
      · rename_i q; exact q
      · split at h <;> omega
theorem tE_gt (h : ¬ tK t n p = 0) : tS t n p < tE t n p := by
  have hl := tK_lt h
  by_cases h1 : tK t n p = 1
  · rw [tE_1 h1]
    apply Nat.lt_of_not_le
    intro q
    have e : rn (smB t n) n (tS t n p) = tS t n p := Nat.le_antisymm q rn_ge
    have := rn_end (P := smB t n) (n := n) sm_n (f := n) (p := tS t n p) (by omega)
    rw [e, tK_is1 h1] at this
    exact absurd this (by decide)
  · by_cases h2 : tK t n p = 2
    · rw [tE_2 h2]
      apply Nat.lt_of_not_le
      intro q
      have e : rn (dgB t n) n (tS t n p) = tS t n p := Nat.le_antisymm q rn_ge
      have := rn_end (P := dgB t n) (n := n) dg_n (f := n) (p := tS t n p) (by omega)
      rw [e, tK_is2 h2] at this
      exact absurd this (by decide)
    · have := tK_le (t := t) (n := n) (p := p)
      rw [tE_3 (by omega)]; omega
theorem tE_le (h : p ≤ n) : tE t n p ≤ n := by
  have hs := tS_le (t := t) h
  by_cases h0 : tK t n p = 0
  · rw [tE_0 h0]; exact hs
  · have hl := tK_lt h0
    by_cases h1 : tK t n p = 1
    · rw [tE_1 h1]; exact rn_le sm_n hs
    · by_cases h2 : tK t n p = 2
      · rw [tE_2 h2]; exact rn_le dg_n hs
      · have := tK_le (t := t) (n := n) (p := p)
        rw [tE_3 (by omega)]; omega
theorem tE_ge : tS t n p ≤ tE t n p := by
  by_cases h : tK t n p = 0
  · rw [tE_0 h]; exact Nat.le_refl _
  · exact Nat.le_of_lt (tE_gt h)
end TK
/-! words -/
def wch : Nat → List Int32
  | 0 => [116, 117, 114, 110]
  | 1 => [118, 111, 116, 101]
  | 2 => [110, 101, 101, 100]
  | 3 => [99, 121, 99, 108, 101]
  | 4 => [97, 103, 101]
  | 5 => [119, 101, 97, 114]
  | 6 => [115, 112, 97, 114, 101]
  | 7 => [112, 108, 97, 99, 101, 115]
  | _ => []
def wln (i : Nat) : Nat := (wch i).length
def wcf (i : Nat) : Nat → Int32 := fun j => (wch i).getD j 0
abbrev wdP (t : Nat → Int32) (s e i : Nat) : Prop := e = s + wln i ∧ ∀ j, j < wln i → t (s + j) = wcf i j
def tX (t : Nat → Int32) (s e : Nat) : Nat := if wdP t s e 0 then 0 else if wdP t s e 1 then 1 else if wdP t s e 2 then 2 else if wdP t s e 3 then 3 else if wdP t s e 4 then 4 else if wdP t s e 5 then 5 else if wdP t s e 6 then 6 else if wdP t s e 7 then 7 else 8
theorem wd_1 {t : Nat → Int32} {s e i : Nat} (h : wdP t s e i) (hi : i < 8) : t s = wcf i 0 := by
  have : 0 < wln i := (by decide : ∀ i, i < 8 → 0 < wln i) i hi
  exact h.2 0 this
theorem wd_un {t : Nat → Int32} {s e i j : Nat} (hi : i < 8) (hj : j < 8) (h : wdP t s e i) (g : wdP t s e j) : i = j := by
  have e1 := (wd_1 h hi).symm.trans (wd_1 g hj)
  have key : ∀ i, i < 8 → ∀ j, j < 8 → wcf i 0 = wcf j 0 → i = j := by decide
  exact key i hi j hj e1
theorem tX_y {t : Nat → Int32} {s e i : Nat} (hi : i < 8) (h : wdP t s e i) : tX t s e = i := by
  unfold tX
  split
  · rename_i q; exact wd_un (by decide) hi q h
  · split
    · rename_i q; exact wd_un (by decide) hi q h
    · split
      · rename_i q; exact wd_un (by decide) hi q h
      · split
        · rename_i q; exact wd_un (by decide) hi q h
        · split
          · rename_i q; exact wd_un (by decide) hi q h
          · split
            · rename_i q; exact wd_un (by decide) hi q h
            · split
              · rename_i q; exact wd_un (by decide) hi q h
              · split
                · rename_i q; exact wd_un (by decide) hi q h
                · rename_i a0 a1 a2 a3 a4 a5 a6 a7
                  exfalso
                  match i, hi, h with
                  | 0, _, h => exact a0 h
                  | 1, _, h => exact a1 h
                  | 2, _, h => exact a2 h
                  | 3, _, h => exact a3 h
                  | 4, _, h => exact a4 h
                  | 5, _, h => exact a5 h
                  | 6, _, h => exact a6 h
                  | 7, _, h => exact a7 h
                  | k + 8, hk, _ => omega
theorem tX_n {t : Nat → Int32} {s e : Nat} (h : ∀ i, i < 8 → ¬ wdP t s e i) : tX t s e = 8 := by
  unfold tX
  rw [if_neg (h 0 (by decide)), if_neg (h 1 (by decide)), if_neg (h 2 (by decide)), if_neg (h 3 (by decide)), if_neg (h 4 (by decide)), if_neg (h 5 (by decide)), if_neg (h 6 (by decide)), if_neg (h 7 (by decide))]
theorem tX_is {t : Nat → Int32} {s e i : Nat} (hi : i < 8) (h : tX t s e = i) : wdP t s e i := by
  apply Classical.byContradiction
  intro q
  by_cases z : ∃ k, k < 8 ∧ wdP t s e k
  · obtain ⟨k, k1, k2⟩ := z
    have := tX_y k1 k2
    rw [h] at this
    rw [this] at q
    exact q k2
  · have := tX_n (t := t) (s := s) (e := e) (fun k hk hw => z ⟨k, hk, hw⟩)
    omega
theorem tX_le {t : Nat → Int32} {s e : Nat} : tX t s e ≤ 8 := by
  by_cases z : ∃ k, k < 8 ∧ wdP t s e k
  · obtain ⟨k, k1, k2⟩ := z
    rw [tX_y k1 k2]; omega
  · rw [tX_n (fun k hk hw => z ⟨k, hk, hw⟩)]; exact Nat.le_refl 8
/-- which word stands at p; 8: none of the eight -/
def tW (t : Nat → Int32) (n p : Nat) : Nat := if tK t n p = 1 then tX t (tS t n p) (tE t n p) else 8
theorem tW_le {t : Nat → Int32} {n p : Nat} : tW t n p ≤ 8 := by
  unfold tW
  split
  · exact tX_le
  · exact Nat.le_refl 8
theorem tW_lt {t : Nat → Int32} {n p : Nat} (h : tW t n p < 8) : tK t n p = 1 := by
  unfold tW at h
  split at h
  · rename_i q; exact q
  · omega
theorem tW_0 {t : Nat → Int32} {n p : Nat} (h : tW t n p < 8) : ¬ tK t n p = 0 := by rw [tW_lt h]; decide
/-! lines -/
abbrev lw (w : Nat) : Prop := w = 1 ∨ w = 3 ∨ w = 4 ∨ w = 5 ∨ w = 6 ∨ w = 7
def wp (t : Nat → Int32) (n p : Nat) : Nat → Nat
  | 0 => p
  | j + 1 => tE t n (wp t n p j)
/-- how many ways stand from p on, 8 at most -/
def cmP (t : Nat → Int32) (n p m : Nat) : Prop := m ≤ 8 ∧ (∀ j, j < m → tW t n (wp t n p j) ≤ 2) ∧ (m < 8 → ¬ tW t n (wp t n p m) ≤ 2)
theorem cm_un {t : Nat → Int32} {n p m m' : Nat} (h : cmP t n p m) (h' : cmP t n p m') : m = m' := by
  obtain ⟨a1, a2, a3⟩ := h
  obtain ⟨b1, b2, b3⟩ := h'
  rcases Nat.lt_trichotomy m m' with q | q | q
  · exact absurd (b2 m q) (a3 (by omega))
  · exact q
  · exact absurd (a2 m' q) (b3 (by omega))
/-- a line's end at p: fault, its place or the place behind -/
def enP (t : Nat → Int32) (n p f q : Nat) : Prop := (tK t n p = 3 ∧ f = 0 ∧ q = tE t n p) ∨ (¬ tK t n p = 3 ∧ f = 1 ∧ q = tS t n p)
/-- a number at p -/
def nmP (t : Nat → Int32) (n p lo hi f : Nat) : Prop := (¬ tK t n p = 2 ∧ f = 1) ∨ (tK t n p = 2 ∧ (tV t n p < lo ∨ hi < tV t n p) ∧ f = 2) ∨ (tK t n p = 2 ∧ lo ≤ tV t n p ∧ tV t n p ≤ hi ∧ f = 0)
theorem nm_un {t : Nat → Int32} {n p lo hi f f' : Nat} (h : nmP t n p lo hi f) (h' : nmP t n p lo hi f') : f = f' := by
  rcases h with ⟨a1, a2⟩ | ⟨a1, a2, a3⟩ | ⟨a1, a2, a3, a4⟩ <;> rcases h' with ⟨b1, b2⟩ | ⟨b1, b2, b3⟩ | ⟨b1, b2, b3, b4⟩ <;> omega
def loW (w : Nat) : Nat := if w = 6 then 0 else 1
def hiW (w : Nat) : Nat := if w = 1 then 9999 else if w = 7 then 8 else 9
def cyD (t : Nat → Int32) (n p m : Nat) (d : Nat → Int32) : Nat → Int32 := fun k => if k = 3 then nI m else if 8 ≤ k ∧ k < 8 + m then nI (tW t n (wp t n p (k - 8))) else d k
/-- the rest of a line that begins with the word w, from p on, up to its end, with the draft d: fault and place, or the place where its end must stand; new draft -/
def rsP (t : Nat → Int32) (n w p : Nat) (d : Nat → Int32) (f q : Nat) (d' : Nat → Int32) : Prop :=
  (w = 3 ∧ ∃ m, cmP t n p m ∧ ((m = 0 ∧ f = 1 ∧ q = tS t n p) ∨ (0 < m ∧ tW t n (wp t n p m) ≤ 2 ∧ f = 2 ∧ q = tS t n (wp t n p m)) ∨ (0 < m ∧ ¬ tW t n (wp t n p m) ≤ 2 ∧ f = 0 ∧ q = wp t n p m ∧ d' = cyD t n p m d))) ∨
  (w = 4 ∧ ∃ f1, nmP t n p 0 20 f1 ∧ ((¬ f1 = 0 ∧ f = f1 ∧ q = tS t n p) ∨ (f1 = 0 ∧ ∃ f2, nmP t n (tE t n p) (tV t n p) 20 f2 ∧ ((¬ f2 = 0 ∧ f = f2 ∧ q = tS t n (tE t n p)) ∨ (f2 = 0 ∧ f = 0 ∧ q = tE t n (tE t n p) ∧ d' = upd (upd d 4 (nI (tV t n p))) 2 (nI (tV t n (tE t n p)))))))) ∨
  (¬ w = 3 ∧ ¬ w = 4 ∧ ∃ f1, nmP t n p (loW w) (hiW w) f1 ∧ ((¬ f1 = 0 ∧ f = f1 ∧ q = tS t n p) ∨ (f1 = 0 ∧ f = 0 ∧ q = tE t n p ∧ d' = upd d w (nI (tV t n p)))))
def reP (t : Nat → Int32) (n w p : Nat) (d : Nat → Int32) (f q : Nat) (d' : Nat → Int32) : Prop := ∃ f1 q1, rsP t n w p d f1 q1 d' ∧ ((¬ f1 = 0 ∧ f = f1 ∧ q = q1) ∨ (f1 = 0 ∧ enP t n q1 f q))
def lnP (t : Nat → Int32) (n p : Nat) (T : Nat → Prop) (d : Nat → Int32) (f q : Nat) (d' : Nat → Int32) : Prop :=
  (¬ lw (tW t n p) ∧ f = 1 ∧ q = tS t n p) ∨ (lw (tW t n p) ∧ T (tW t n p) ∧ f = 3 ∧ q = tS t n p) ∨ (lw (tW t n p) ∧ ¬ T (tW t n p) ∧ reP t n (tW t n p) (tE t n p) d f q d')
theorem en_un {t : Nat → Int32} {n p f q f' q' : Nat} (h : enP t n p f q) (h' : enP t n p f' q') : f = f' ∧ q = q' := by
  rcases h with ⟨a1, a2, a3⟩ | ⟨a1, a2, a3⟩ <;> rcases h' with ⟨b1, b2, b3⟩ | ⟨b1, b2, b3⟩
  · exact ⟨a2.trans b2.symm, a3.trans b3.symm⟩
  · exact absurd a1 b1
  · exact absurd b1 a1
  · exact ⟨a2.trans b2.symm, a3.trans b3.symm⟩
theorem rs_un {t : Nat → Int32} {n w p f q f' q' : Nat} {d d1 d2 : Nat → Int32} (h : rsP t n w p d f q d1) (h' : rsP t n w p d f' q' d2) : f = f' ∧ q = q' ∧ (f = 0 → d1 = d2) := by
  rcases h with ⟨a1, m, a2, a3⟩ | ⟨a1, f1, a2, a3⟩ | ⟨a1, a0, f1, a2, a3⟩
  · rcases h' with ⟨b1, m', b2, b3⟩ | ⟨b1, -⟩ | ⟨b1, -⟩
    · have e := cm_un a2 b2
      subst e
      rcases a3 with ⟨x1, x2, x3⟩ | ⟨x1, x2, x3, x4⟩ | ⟨x1, x2, x3, x4, x5⟩ <;> rcases b3 with ⟨y1, y2, y3⟩ | ⟨y1, y2, y3, y4⟩ | ⟨y1, y2, y3, y4, y5⟩
      · exact ⟨x2.trans y2.symm, x3.trans y3.symm, fun z => by omega⟩
      · omega
      · omega
      · omega
      · exact ⟨x3.trans y3.symm, x4.trans y4.symm, fun z => by omega⟩
      · exact absurd x2 y2
      · omega
      · exact absurd y2 x2
      · exact ⟨x3.trans y3.symm, x4.trans y4.symm, fun _ => x5.trans y5.symm⟩
    · omega
    · omega
  · rcases h' with ⟨b1, -⟩ | ⟨b1, g1, b2, b3⟩ | ⟨b1, b0, -⟩
    · omega
    · have e := nm_un a2 b2
      subst e
      rcases a3 with ⟨x1, x2, x3⟩ | ⟨x1, f2, x2, x3⟩ <;> rcases b3 with ⟨y1, y2, y3⟩ | ⟨y1, g2, y2, y3⟩
      · exact ⟨x2.trans y2.symm, x3.trans y3.symm, fun z => by omega⟩
      · omega
      · omega
      · have e2 := nm_un x2 y2
        subst e2
        rcases x3 with ⟨u1, u2, u3⟩ | ⟨u1, u2, u3, u4⟩ <;> rcases y3 with ⟨v1, v2, v3⟩ | ⟨v1, v2, v3, v4⟩
        · exact ⟨u2.trans v2.symm, u3.trans v3.symm, fun z => by omega⟩
        · omega
        · omega
        · exact ⟨u2.trans v2.symm, u3.trans v3.symm, fun _ => u4.trans v4.symm⟩
    · omega
  · rcases h' with ⟨b1, -⟩ | ⟨b1, -⟩ | ⟨b1, b0, g1, b2, b3⟩
    · omega
    · omega
    · have e := nm_un a2 b2
      subst e
      rcases a3 with ⟨x1, x2, x3⟩ | ⟨x1, x2, x3, x4⟩ <;> rcases b3 with ⟨y1, y2, y3⟩ | ⟨y1, y2, y3, y4⟩
      · exact ⟨x2.trans y2.symm, x3.trans y3.symm, fun z => by omega⟩
      · omega
      · omega
      · exact ⟨x2.trans y2.symm, x3.trans y3.symm, fun _ => x4.trans y4.symm⟩
theorem re_un {t : Nat → Int32} {n w p f q f' q' : Nat} {d d1 d2 : Nat → Int32} (h : reP t n w p d f q d1) (h' : reP t n w p d f' q' d2) : f = f' ∧ q = q' ∧ (f = 0 → d1 = d2) := by
  obtain ⟨f1, q1, a1, a2⟩ := h
  obtain ⟨g1, r1, b1, b2⟩ := h'
  obtain ⟨u1, u2, u3⟩ := rs_un a1 b1
  subst u1; subst u2
  rcases a2 with ⟨x1, x2, x3⟩ | ⟨x1, x2⟩ <;> rcases b2 with ⟨y1, y2, y3⟩ | ⟨y1, y2⟩
  · exact ⟨x2.trans y2.symm, x3.trans y3.symm, fun z => by omega⟩
  · exact absurd y1 x1
  · exact absurd x1 y1
  · exact ⟨(en_un x2 y2).1, (en_un x2 y2).2, fun _ => u3 x1⟩
theorem ln_un {t : Nat → Int32} {n p f q f' q' : Nat} {T : Nat → Prop} {d d1 d2 : Nat → Int32} (h : lnP t n p T d f q d1) (h' : lnP t n p T d f' q' d2) : f = f' ∧ q = q' ∧ (f = 0 → d1 = d2) := by
  rcases h with ⟨a1, a2, a3⟩ | ⟨a1, a2, a3, a4⟩ | ⟨a1, a2, a3⟩ <;> rcases h' with ⟨b1, b2, b3⟩ | ⟨b1, b2, b3, b4⟩ | ⟨b1, b2, b3⟩
  · exact ⟨a2.trans b2.symm, a3.trans b3.symm, fun z => by omega⟩
  · exact absurd b1 a1
  · exact absurd b1 a1
  · exact absurd a1 b1
  · exact ⟨a3.trans b3.symm, a4.trans b4.symm, fun z => by omega⟩
  · exact absurd a2 b2
  · exact absurd a1 b1
  · exact absurd b2 a2
  · exact re_un a3 b3
/-- told: T with w -/
def tdU (T : Nat → Prop) (w : Nat) : Nat → Prop := fun x => T x ∨ x = w
/-- the text from p on, L lines told before: fault, place, lines, draft -/
def prP (t : Nat → Int32) (n : Nat) : Nat → Nat → Nat → (Nat → Prop) → (Nat → Int32) → Nat → Nat → Nat → (Nat → Int32) → Prop
  | 0, _, _, _, _, _, _, _, _ => False
  | F + 1, p, L, T, d, f, q, M, d' => (tK t n p = 0 ∧ f = 0 ∧ M = L ∧ d' = d) ∨ (¬ tK t n p = 0 ∧ ∃ f1 q1 d1, lnP t n p T d f1 q1 d1 ∧ ((¬ f1 = 0 ∧ f = f1 ∧ q = q1) ∨ (f1 = 0 ∧ prP t n F q1 (L + 1) (tdU T (tW t n p)) d1 f q M d')))
def prE (t : Nat → Int32) (n p L : Nat) (T : Nat → Prop) (d : Nat → Int32) (f q M : Nat) (d' : Nat → Int32) : Prop := ∃ F, prP t n F p L T d f q M d'
theorem pr_un {t : Nat → Int32} {n : Nat} : ∀ {F G p L : Nat} {T : Nat → Prop} {d : Nat → Int32} {f q M f' q' M' : Nat} {d1 d2 : Nat → Int32}, prP t n F p L T d f q M d1 → prP t n G p L T d f' q' M' d2 → f = f' ∧ (¬ f = 0 → q = q') ∧ (f = 0 → M = M' ∧ d1 = d2)
  | 0, _, _, _, _, _, _, _, _, _, _, _, _, _, h, _ => h.elim
  | _ + 1, 0, _, _, _, _, _, _, _, _, _, _, _, _, _, h => h.elim
  | F + 1, G + 1, p, L, T, d, f, q, M, f', q', M', d1, d2, h, h' => by
    rcases h with ⟨a1, a2, a3, a4⟩ | ⟨a1, f1, q1, e1, a2, a3⟩ <;> rcases h' with ⟨b1, b2, b3, b4⟩ | ⟨b1, g1, r1, e2, b2, b3⟩
    · exact ⟨a2.trans b2.symm, fun z => absurd a2 z, fun _ => ⟨a3.trans b3.symm, a4.trans b4.symm⟩⟩
    · exact absurd a1 b1
    · exact absurd b1 a1
    · obtain ⟨u1, u2, u3⟩ := ln_un a2 b2
      subst u1; subst u2
      rcases a3 with ⟨x1, x2, x3⟩ | ⟨x1, x2⟩ <;> rcases b3 with ⟨y1, y2, y3⟩ | ⟨y1, y2⟩
      · exact ⟨x2.trans y2.symm, fun _ => x3.trans y3.symm, fun z => by omega⟩
      · exact absurd y1 x1
      · exact absurd x1 y1
      · rw [u3 x1] at x2
        exact pr_un x2 y2
theorem prE_un {t : Nat → Int32} {n p L : Nat} {T : Nat → Prop} {d : Nat → Int32} {f q M f' q' M' : Nat} {d1 d2 : Nat → Int32} (h : prE t n p L T d f q M d1) (h' : prE t n p L T d f' q' M' d2) : f = f' ∧ (¬ f = 0 → q = q') ∧ (f = 0 → M = M' ∧ d1 = d2) :=
  h.elim (fun _ a => h'.elim (fun _ b => pr_un a b))
/-- what is read from p on is what is read from the start on -/
def goT (t : Nat → Int32) (n : Nat) (d0 : Nat → Int32) (p L : Nat) (T : Nat → Prop) (d : Nat → Int32) : Prop := ∀ f q M d', prE t n p L T d f q M d' → prE t n 0 0 (fun _ => False) d0 f q M d'
theorem go_0 {t : Nat → Int32} {n : Nat} {d0 : Nat → Int32} : goT t n d0 0 0 (fun _ => False) d0 := fun _ _ _ _ h => h
theorem go_end {t : Nat → Int32} {n p L : Nat} {d0 d : Nat → Int32} {T : Nat → Prop} (h : goT t n d0 p L T d) (hk : tK t n p = 0) : prE t n 0 0 (fun _ => False) d0 0 0 L d := h 0 0 L d ⟨1, Or.inl ⟨hk, rfl, rfl, rfl⟩⟩
theorem go_bad {t : Nat → Int32} {n p L f q : Nat} {d0 d d1 : Nat → Int32} {T : Nat → Prop} (h : goT t n d0 p L T d) (hk : ¬ tK t n p = 0) (hl : lnP t n p T d f q d1) (hf : ¬ f = 0) : prE t n 0 0 (fun _ => False) d0 f q 0 d0 := h f q 0 d0 ⟨1, Or.inr ⟨hk, f, q, d1, hl, Or.inl ⟨hf, rfl, rfl⟩⟩⟩
theorem go_on {t : Nat → Int32} {n p L q : Nat} {d0 d d1 : Nat → Int32} {T : Nat → Prop} (h : goT t n d0 p L T d) (hk : ¬ tK t n p = 0) (hl : lnP t n p T d 0 q d1) : goT t n d0 q (L + 1) (tdU T (tW t n p)) d1 :=
  fun f r M d' z => h f r M d' (z.elim (fun F a => ⟨F + 1, Or.inr ⟨hk, 0, q, d1, hl, Or.inr ⟨rfl, a⟩⟩⟩))

