def wsg : List Int32 := [116, 117, 114, 110, 32, 118, 111, 116, 101, 32, 110, 101, 101, 100, 32, 99, 121, 99, 108, 101, 32, 97, 103, 101, 32, 119, 101, 97, 114, 32, 115, 112, 97, 114, 101, 32, 112, 108, 97, 99, 101, 115, 32]
def wOK (f : Nat → Int32) : Prop := ∀ j, j < 43 → f j = wsg.getD j 0
theorem in_no3 {g : Int32} {a : Nat} (ha : a < 2147483647) (h : ¬ g ≤ nI a) : ¬ vp_in g (a + 1) := by
  intro q
  have h1 := (vp_in_iff.mp q).2
  apply h
  apply Int32.le_iff_toInt_le.mpr
  rw [nI_toInt (by omega)]
  omega


