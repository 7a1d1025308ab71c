theorem nI_m1n {j : Nat} (h : j < 2147483648) : ¬ nI j = -1 := fun z => by
  have : (nI j).toInt = (-1 : Int32).toInt := by rw [z]
  rw [nI_toInt (by omega), show (-1 : Int32).toInt = -1 by decide] at this
  omega
theorem nI_injZ {a b : Nat} (ha : a < 2147483648) (hb : b < 2147483648) (h : nI a = nI b) : a = b := (nI_eq (by omega) (by omega)).mp h
theorem hi_co {wa ca i : Nat} {we co we' co' : Nat → Int32} (h : coW wa ca we co) (hi : i < wa) (hwa : wa ≤ 40) (hca : ca ≤ 16) (p : hiP (nI i) wa ca we co we' co') : coW wa ca we' co' ∧ we' = upd we i (-1) := by
  rcases p with ⟨a, -⟩ | ⟨-, a, b⟩
  · exact absurd (vp_in_nI hi (by omega)) a
  · rw [nI_clamp (by omega)] at a b
    refine ⟨?_, a⟩
    rcases h.1 i hi with z | ⟨j, j1, j2, j3⟩
    · rcases b with ⟨b1, -⟩ | ⟨-, b2⟩
      · rw [z] at b1; exact absurd (vp_in_iff.mp b1).1 (by decide)
      · rw [a, b2, fa_upd_same z]; exact h
    · rcases b with ⟨-, b2⟩ | ⟨b1, -⟩
      · rw [j2, nI_clamp (by omega)] at b2
        rw [a, b2]
        refine ⟨fun k hk => ?_, fun m hm => ?_⟩
        · by_cases q : k = i
          · rw [q, pk_us]; exact Or.inl rfl
          · rw [pk_un q]
            rcases h.1 k hk with y | ⟨m, m1, m2, m3⟩
            · exact Or.inl y
            · refine Or.inr ⟨m, m1, m2, ?_⟩
              rw [pk_un (fun e => q (nI_injZ (by omega) (by omega) (by rw [← m3, e, j3])))]; exact m3
        · by_cases q : m = j
          · rw [q, pk_us]; exact Or.inl rfl
          · rw [pk_un q]
            rcases h.2 m hm with y | ⟨k, k1, k2, k3⟩
            · exact Or.inl y
            · refine Or.inr ⟨k, k1, k2, ?_⟩
              rw [pk_un (fun e => q (nI_injZ (by omega) (by omega) (by rw [← k3, e, j2])))]; exact k3
      · rw [j2] at b1; exact absurd (vp_in_nI j1 (by omega)) b1
/-- the coat of a child who gets one, none having it -/
theorem ho_co {wa ca k j : Nat} {we co : Nat → Int32} (h : coW wa ca we co) (hk : k < wa) (hj : j < ca) (hwa : wa ≤ 40) (hca : ca ≤ 16) (e1 : we k = -1) (e2 : co j = -1) : coW wa ca (upd we k (nI j)) (upd co j (nI k)) := by
  refine ⟨fun k' hk' => ?_, fun j' hj' => ?_⟩
  · by_cases q : k' = k
    · rw [q, pk_us]; exact Or.inr ⟨j, hj, rfl, pk_us⟩
    · rw [pk_un q]
      rcases h.1 k' hk' with y | ⟨m, m1, m2, m3⟩
      · exact Or.inl y
      · refine Or.inr ⟨m, m1, m2, ?_⟩
        rw [pk_un (fun e => nI_m1n (j := k') (by omega) (by rw [← m3, e, e2]))]; exact m3
  · by_cases q : j' = j
    · rw [q, pk_us]; exact Or.inr ⟨k, hk, rfl, pk_us⟩
    · rw [pk_un q]
      rcases h.2 j' hj' with y | ⟨m, m1, m2, m3⟩
      · exact Or.inl y
      · refine Or.inr ⟨m, m1, m2, ?_⟩
        rw [pk_un (fun e => nI_m1n (j := j') (by omega) (by rw [← m3, e, e1]))]; exact m3

