/-! Pure rows for the general contracts. -/
theorem in_yes {g : Int32} {a : Nat} (ha : a < 2147483648) (h1 : ¬ g < 0) (h2 : ¬ nI a ≤ g) : vp_in g a := by
  refine vp_in_iff.mpr ⟨Int.not_lt.mp (fun q => h1 (Int32.lt_iff_toInt_lt.mpr q)), ?_⟩
  have := Int.not_le.mp (fun q => h2 (Int32.le_iff_toInt_le.mpr q))
  rw [nI_toInt ha] at this
  exact this
theorem in_no1 {g : Int32} {a : Nat} (h : g < 0) : ¬ vp_in g a := fun q => q (Or.inl h)
theorem in_no2 {g : Int32} {a : Nat} (ha : a < 2147483648) (h : nI a ≤ g) : ¬ vp_in g a := by
  intro q
  have h1 := (vp_in_iff.mp q).2
  have h2 := Int32.le_iff_toInt_le.mp h
  rw [nI_toInt ha] at h2
  omega
theorem in_up {g : Int32} {a b : Nat} (h : vp_in g a) (hab : a ≤ b) : vp_in g b := by
  have := vp_in_iff.mp h
  exact vp_in_iff.mpr ⟨this.1, by omega⟩
theorem lp_inN {i : Int32} {b n : Nat} (hlo : 0 ≤ i.toInt) (c : ¬ nI b ≤ i) (hb : b ≤ n) (hn : n < 2147483648) : vp_in i n := by
  have := Int.not_le.mp (fun q => c (Int32.le_iff_toInt_le.mpr q))
  rw [nI_toInt (by omega)] at this
  exact vp_in_iff.mpr ⟨hlo, by omega⟩
theorem lt_of_nI {a n : Nat} (ha : a < 2147483648) (hn : n < 2147483648) (h : nI a < nI n) : a < n := (nI_ltI ha hn).mp h
theorem has_in {r g : Int32} {a : Nat} (h : (r = 1 ∧ vp_in g a) ∨ (r = 0 ∧ ¬ vp_in g a)) (c : ¬ r = 0) : vp_in g a := h.elim (fun q => q.2) (fun q => absurd q.1 c)
theorem has_out {r g : Int32} {a : Nat} (h : (r = 1 ∧ vp_in g a) ∨ (r = 0 ∧ ¬ vp_in g a)) (c : r = 0) : ¬ vp_in g a := h.elim (fun q => absurd (q.1.symm.trans c) (by decide)) (fun q => q.2)
theorem nI_ltc {a : Nat} (k : Nat) (ha : a < 2147483648) (hk : k < 2147483648) (h : nI a < Int32.ofNat k) : a < k := (nI_ltI ha hk).mp h
theorem nI_gec {a : Nat} (k : Nat) (ha : a < 2147483648) (hk : k < 2147483648) (h : ¬ nI a < Int32.ofNat k) : k ≤ a := Nat.not_lt.mp (fun q => h ((nI_ltI ha hk).mpr q))
theorem nI_ltg {a : Nat} (k : Nat) (ha : a < 2147483648) (hk : k < 2147483648) (h : ¬ Int32.ofNat k ≤ nI a) : a < k := Nat.not_le.mp (fun q => h ((nI_leI hk ha).mpr q))
theorem nI_geg {a : Nat} (k : Nat) (ha : a < 2147483648) (hk : k < 2147483648) (h : Int32.ofNat k ≤ nI a) : k ≤ a := (nI_leI hk ha).mp h
theorem nI_sub1 (a : Nat) : nI (a + 1) - 1 = nI a := nI_pred a
theorem zb_nar {v : Int32} (h : v = 0 ∨ v = 1) : narrow .boolean (.int v) = .int v := by rcases h with rfl | rfl <;> rfl
theorem zb_upd {f : Nat → Int32} (h : ∀ k, f k = 0 ∨ f k = 1) (j : Nat) {x : Int32} (hx : x = 0 ∨ x = 1) : ∀ k, upd f j (vp_nar .boolean x) k = 0 ∨ upd f j (vp_nar .boolean x) k = 1 := by
  intro k
  have e : vp_nar .boolean x = x := by rcases hx with rfl | rfl <;> rfl
  rw [e]
  unfold upd
  split
  · exact hx
  · exact h k
theorem lpD_dec {i : Int32} {n : Nat} (hn : i.toInt.toNat < n + 1) (c : ¬ i ≤ 0) : (i + (-1)).toInt.toNat < n := by
  have h : (0 : Int32).toInt < i.toInt := Int.not_le.mp (fun q => c (Int32.le_iff_toInt_le.mpr q))
  have h0 : (0 : Int32).toInt = 0 := by decide
  have h1 : (-1 : Int32).toInt = -1 := by decide
  have h2 : i.toInt < 2147483648 := Int32.toInt_lt i
  rw [h0] at h
  rw [Int32.toInt_add, h1, Int.bmod_eq_of_le (by omega) (by omega)]
  omega

