theorem lt3 {i B : Nat} (hB : B < 2147483648) (hle : i ≤ B) (c : ¬ nI B ≤ nI i) : i < B := Nat.not_le.mp (fun q => c (nI_le q (by omega)))
theorem ge3 {i B : Nat} (hB : B < 2147483648) (hle : i ≤ B) (c : nI B ≤ nI i) : B ≤ i := (nI_leI hB (by omega)).mp c
theorem gt3 {i B : Nat} (hB : B < 2147483648) (hi : i < 2147483648) (c : ¬ nI B < nI i) : i ≤ B := Nat.not_lt.mp (fun q => c (nI_lt q hi))
theorem gt3' {i B : Nat} (hB : B < 2147483648) (hi : i < 2147483648) (c : nI B < nI i) : B < i := (nI_ltI hB hi).mp c
theorem pos3 {s : Nat} (c : ¬ nI s ≤ 0) : 0 < s := Nat.pos_of_ne_zero (fun q => c (by rw [q]; decide))
theorem zero3 {s : Nat} (hs : s < 2147483648) (c : nI s ≤ 0) : s = 0 := by
  have := (nI_leI (b := 0) hs (by decide)).mp c
  omega
theorem in_yes2 {g : Int32} {a : Nat} (ha : a < 2147483648) (h1 : ¬ g < 0) (h2 : g < nI a) : vp_in g a := in_yes ha h1 (Int32.not_le.mpr h2)
theorem sw_out6 {x : Int32} (h0 : ¬ x = 0) (h1 : ¬ x = 1) (h2 : ¬ x = 2) (h3 : ¬ x = 3) (h4 : ¬ x = 4) (h5 : ¬ x = 5) : x.toInt < 0 ∨ 5 < x.toInt := by
  have e0 := sw_toInt (k := 0) h0 (by decide) (by decide)
  have e1 := sw_toInt (k := 1) h1 (by decide) (by decide)
  have e2 := sw_toInt (k := 2) h2 (by decide) (by decide)
  have e3 := sw_toInt (k := 3) h3 (by decide) (by decide)
  have e4 := sw_toInt (k := 4) h4 (by decide) (by decide)
  have e5 := sw_toInt (k := 5) h5 (by decide) (by decide)
  omega

theorem nI_lec {a : Nat} (k : Nat) (ha : a < 2147483648) (hk : k < 2147483648) (h : nI a ≤ Int32.ofNat k) : a ≤ k := (nI_leI ha hk).mp h
theorem nI_gtc {a : Nat} (k : Nat) (ha : a < 2147483648) (hk : k < 2147483648) (h : ¬ nI a ≤ Int32.ofNat k) : k < a := Nat.not_le.mp (fun q => h ((nI_leI ha hk).mpr q))

