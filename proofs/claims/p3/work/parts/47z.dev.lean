theorem lt3 {i B : Nat} (hB : B < 2147483648) (hle : i ≤ B) (c : ¬ nI B ≤ nI i) : i < B := Nat.not_le.mp (fun q => c (nI_le q (by omega)))
theorem ge3 {i B : Nat} (hB : B < 2147483648) (hle : i ≤ B) (c : nI B ≤ nI i) : B ≤ i := (nI_leI hB (by omega)).mp c
theorem gt3 {i B : Nat} (hB : B < 2147483648) (hi : i < 2147483648) (c : ¬ nI B < nI i) : i ≤ B := Nat.not_lt.mp (fun q => c (nI_lt q hi))
theorem gt3' {i B : Nat} (hB : B < 2147483648) (hi : i < 2147483648) (c : nI B < nI i) : B < i := (nI_ltI hB hi).mp c
theorem pos3 {s : Nat} (c : ¬ nI s ≤ 0) : 0 < s := Nat.pos_of_ne_zero (fun q => c (by rw [q]; decide))
theorem zero3 {s : Nat} (hs : s < 2147483648) (c : nI s ≤ 0) : s = 0 := by
  have := (nI_leI (b := 0) hs (by decide)).mp c
  omega
theorem in_yes2 {g : Int32} {a : Nat} (ha : a < 2147483648) (h1 : ¬ g < 0) (h2 : g < nI a) : vp_in g a := in_yes ha h1 (Int32.not_le.mpr h2)
def wsg : List Int32 := [116, 117, 114, 110, 32, 118, 111, 116, 101, 32, 110, 101, 101, 100, 32, 99, 121, 99, 108, 101, 32, 97, 103, 101, 32, 119, 101, 97, 114, 32, 115, 112, 97, 114, 101, 32, 112, 108, 97, 99, 101, 115, 32]
def wOK (f : Nat → Int32) : Prop := ∀ j, j < 43 → f j = wsg.getD j 0
theorem in_no3 {g : Int32} {a : Nat} (ha : a < 2147483647) (h : ¬ g ≤ nI a) : ¬ vp_in g (a + 1) := by
  intro q
  have h1 := (vp_in_iff.mp q).2
  apply h
  apply Int32.le_iff_toInt_le.mpr
  rw [nI_toInt (by omega)]
  omega

