/-! Who can be dressed: Hall's theorem over bits (the sums py_b, py_c are the paying's). -/
abbrev one : Nat → Int := fun _ => 1
theorem one_nn (k : Nat) : 0 ≤ one k := by show (0 : Int) ≤ 1; decide
theorem one_1 (k : Nat) : one k = 1 := rfl
def mE (en : Nat → Nat) : Nat → Nat → Prop
  | 0, S => S = 0
  | k + 1, S => mE en k S ∨ ∃ i, S.testBit i = true ∧ (en k).testBit i = true ∧ mE en k (clr S i)
def pc (S : Nat) : Int := py_b one S 16
def fN (en : Nat → Nat) (k P : Nat) : Int := py_c one en P k
def HL (en : Nat → Nat) (k S : Nat) : Prop := ∀ P, sub_ P S → pc P ≤ fN en k P
theorem sub_tr {A B C : Nat} (h : sub_ A B) (g : sub_ B C) : sub_ A C := fun j hj => g j (h j hj)
theorem sub_0 {P : Nat} (h : sub_ P 0) : P = 0 := by
  apply Nat.eq_of_testBit_eq
  intro j
  rw [Nat.zero_testBit]
  cases q : P.testBit j
  · rfl
  · have := h j q; rw [Nat.zero_testBit] at this; exact absurd this (by decide)
theorem sub_le {A B : Nat} (h : sub_ A B) : A ≤ B := by
  have := sub_and h
  rw [← this]; exact Nat.and_le_left
theorem sub_lt16 {A B : Nat} (h : sub_ A B) (hB : B < 65536) : A < 65536 := Nat.lt_of_le_of_lt (sub_le h) hB
theorem sub_eq {A B : Nat} (h : sub_ A B) (g : sub_ B A) : A = B := Nat.le_antisymm (sub_le h) (sub_le g)
theorem fN_s (en : Nat → Nat) (k P : Nat) : fN en (k + 1) P = fN en k P + (if en k &&& P = 0 then 0 else 1) := py_c_s one en P k
theorem fN_mono {en : Nat → Nat} {k P Q : Nat} (h : sub_ P Q) : fN en k P ≤ fN en k Q := py_c_mono h (fun k _ => one_nn k)
theorem fN_sub (en : Nat → Nat) (k P Q : Nat) : fN en k (P ||| Q) + fN en k (P &&& Q) ≤ fN en k P + fN en k Q := py_c_sub P Q (fun k _ => one_nn k)
theorem pc_mod (P Q : Nat) : pc (P ||| Q) + pc (P &&& Q) = pc P + pc Q := py_b_mod one P Q 16
theorem pc_mono {P Q : Nat} (h : sub_ P Q) : pc P ≤ pc Q := py_b_mono h (fun k _ => one_nn k)
theorem pc_0 : pc 0 = 0 := py_b_zero one 16
theorem pc_one {i : Nat} (h : i < 16) : pc (2 ^ i) = 1 := by unfold pc; rw [py_b_one, if_pos h]
theorem bit_one {i j : Nat} : (2 ^ i).testBit j = true ↔ j = i := by
  rw [Nat.testBit_two_pow, decide_eq_true_iff]; exact eq_comm
theorem clr_or {P i : Nat} (hP : P < 65536) (h : P.testBit i = true) : clr P i ||| 2 ^ i = P := by
  apply Nat.eq_of_testBit_eq
  intro j
  rw [Nat.testBit_or, clr_bit hP, Nat.testBit_two_pow]
  by_cases q : i = j
  · subst q; rw [h]; simp
  · simp [q]
theorem clr_an {P i : Nat} (hP : P < 65536) : clr P i &&& 2 ^ i = 0 := by
  apply Nat.eq_of_testBit_eq
  intro j
  rw [Nat.testBit_and, clr_bit hP, Nat.testBit_two_pow, Nat.zero_testBit]
  by_cases q : i = j
  · subst q; simp
  · simp [q]
theorem pc_clr {P i : Nat} (hP : P < 65536) (h : P.testBit i = true) : pc P = pc (clr P i) + 1 := by
  have m := pc_mod (clr P i) (2 ^ i)
  rw [clr_or hP h, clr_an hP, pc_0, pc_one (tb_lt (n := 16) hP h)] at m
  omega
theorem sub_clr2 {P S i : Nat} (hP : P < 65536) (hS : S < 65536) (h : sub_ P S) : sub_ (clr P i) (clr S i) := fun j hj => by
  rw [clr_bit hP, Bool.and_eq_true] at hj
  rw [clr_bit hS, h j hj.1, hj.2]; rfl
theorem sub_clr3 {P S i : Nat} (hS : S < 65536) (h : sub_ P S) (hi : ¬ P.testBit i = true) : sub_ P (clr S i) := fun j hj => by
  rw [clr_bit hS, h j hj]
  have : ¬ i = j := fun q => hi (by rw [q]; exact hj)
  simp [this]
theorem clr_no {S i : Nat} (hS : S < 65536) : ¬ (clr S i).testBit i = true := by rw [clr_bit hS]; simp
theorem sub_clrS {S i : Nat} (hS : S < 65536) : sub_ (clr S i) S := fun j hj => by
  rw [clr_bit hS, Bool.and_eq_true] at hj; exact hj.1
theorem hit_i9 {E P i : Nat} (h1 : E.testBit i = true) (h2 : P.testBit i = true) : ¬ E &&& P = 0 := fun q => by
  have : (E &&& P).testBit i = true := by rw [Nat.testBit_and, h1, h2]; rfl
  rw [q, Nat.zero_testBit] at this
  exact absurd this (by decide)
theorem hit_e9 {E P : Nat} (h : ¬ E &&& P = 0) : ∃ i, E.testBit i = true ∧ P.testBit i = true := by
  apply Classical.byContradiction
  intro q
  apply h
  apply Nat.eq_of_testBit_eq
  intro j
  rw [Nat.zero_testBit, Nat.testBit_and]
  cases a : E.testBit j
  · rfl
  · cases b : P.testBit j
    · rfl
    · exact absurd ⟨j, a, b⟩ q
theorem min_ex {p : Nat → Prop} (h : ∃ n, p n) : ∃ n, p n ∧ ∀ m, p m → n ≤ m := by
  obtain ⟨n, hn⟩ := h
  induction n using Nat.strongRecOn with
  | _ n ih =>
    by_cases q : ∃ m, m < n ∧ p m
    · obtain ⟨m, h1, h2⟩ := q
      exact ih m h1 h2
    · exact ⟨n, hn, fun m hm => Nat.le_of_not_lt (fun z => q ⟨m, z, hm⟩)⟩
theorem hall_1 {en : Nat → Nat} : ∀ {k S : Nat}, S < 65536 → mE en k S → HL en k S
  | 0, S, _, h => by
    have h : S = 0 := h
    intro P hP
    rw [h] at hP
    rw [sub_0 hP, pc_0]; exact Int.le_refl 0
  | k + 1, S, hS, h => by
    intro P hP
    have hP16 := sub_lt16 hP hS
    have hs := fN_s en k P
    rcases h with h | ⟨i, h1, h2, h3⟩
    · have := hall_1 hS h P hP
      split at hs <;> omega
    · have ih := hall_1 (Nat.lt_of_le_of_lt (clr_le S i) hS) h3
      by_cases q : P.testBit i = true
      · have a := ih (clr P i) (sub_clr2 hP16 hS hP)
        have b := fN_mono (en := en) (k := k) (sub_clrS (i := i) hP16)
        have c := pc_clr hP16 q
        rw [if_neg (hit_i9 h2 q)] at hs
        omega
      · have a := ih P (sub_clr3 hS hP q)
        split at hs <;> omega
theorem hall_2 {en : Nat → Nat} : ∀ {k S : Nat}, S < 65536 → HL en k S → mE en k S
  | 0, S, hS, h => by
    show S = 0
    apply Classical.byContradiction
    intro q
    obtain ⟨i, -, hi⟩ := hit_e9 (E := S) (P := S) (by rw [Nat.and_self]; exact q)
    have a := h S (sub_rf S)
    have b : fN en 0 S = 0 := rfl
    have c := pc_clr hS hi
    have d : 0 ≤ pc (clr S i) := py_b_nn (fun k _ => one_nn k)
    omega
  | k + 1, S, hS, h => by
    by_cases hk : HL en k S
    · exact Or.inl (hall_2 hS hk)
    · have hv : ∃ P, sub_ P S ∧ fN en k P < pc P := by
        apply Classical.byContradiction
        intro q
        exact hk (fun P hP => Int.not_lt.mp (fun z => q ⟨P, hP, z⟩))
      obtain ⟨P0, ⟨p1, p2⟩, p3⟩ := min_ex hv
      have up : ∀ P, sub_ P S → pc P ≤ fN en k P + 1 := fun P hP => by
        have a := h P hP
        have b := fN_s en k P
        split at b <;> omega
      have cl : ∀ P, sub_ P S → fN en k P < pc P → sub_ P0 P := fun P hP hq => by
        have a := fN_sub en k P P0
        have b := pc_mod P P0
        have c := up (P ||| P0) (fun j hj => by
          rw [Nat.testBit_or, Bool.or_eq_true] at hj
          exact hj.elim (hP j) (p1 j))
        have d : fN en k (P &&& P0) < pc (P &&& P0) := by omega
        have e := p3 (P &&& P0) ⟨sub_tr (sub_andR P P0) p1, d⟩
        have f : P &&& P0 = P0 := Nat.le_antisymm Nat.and_le_right e
        rw [← f]; exact sub_andL P P0
      have h0 := h P0 p1
      have hs := fN_s en k P0
      have hh : ¬ en k &&& P0 = 0 := fun q => by rw [if_pos q] at hs; omega
      obtain ⟨i, i1, i2⟩ := hit_e9 hh
      refine Or.inr ⟨i, p1 i i2, i1, hall_2 (Nat.lt_of_le_of_lt (clr_le S i) hS) (fun P hP => ?_)⟩
      apply Int.not_lt.mp
      intro z
      have a := cl P (sub_tr hP (sub_clrS hS)) z
      exact clr_no hS (hP i (a i i2))
theorem hall {en : Nat → Nat} {k S : Nat} (hS : S < 65536) : mE en k S ↔ HL en k S := ⟨hall_1 hS, hall_2 hS⟩
/-- the reference's row of sets counts the same -/
theorem mM_mE {av : Nat → Prop} {su : Nat → Nat → Prop} {en : Nat → Nat} : ∀ {k S : Nat}, S < 65536 → (∀ c, c < k → ∀ i, S.testBit i = true → ((en c).testBit i = true ↔ (av c ∧ su c i))) → (mM av su k S ↔ mE en k S)
  | 0, _, _, _ => Iff.rfl
  | k + 1, S, hS, h => by
    have ih := mM_mE (k := k) (S := S) hS (fun c hc => h c (by omega))
    have ih2 : ∀ i, mM av su k (clr S i) ↔ mE en k (clr S i) := fun i => mM_mE (Nat.lt_of_le_of_lt (clr_le S i) hS) (fun c hc j hj => h c (by omega) j (sub_clrS hS j hj))
    constructor
    · rintro (a | ⟨a, i, b, c, d⟩)
      · exact Or.inl (ih.mp a)
      · exact Or.inr ⟨i, b, (h k (by omega) i b).mpr ⟨a, c⟩, (ih2 i).mp d⟩
    · rintro (a | ⟨i, b, c, d⟩)
      · exact Or.inl (ih.mpr a)
      · obtain ⟨e, f⟩ := (h k (by omega) i b).mp c
        exact Or.inr ⟨e, i, b, f, (ih2 i).mpr d⟩
theorem HL_sub {en : Nat → Nat} {k S P : Nat} (h : HL en k S) (hp : sub_ P S) : HL en k P := fun Q hQ => h Q (sub_tr hQ hp)
/-! The greatest first. -/
def befP (sz : Nat → Int) (j i : Nat) : Prop := sz i < sz j ∨ (sz j = sz i ∧ j < i)
def dcP (sz : Nat → Int) (g U : Nat) : Prop := ∀ i, U.testBit i = true → ∀ j, j < g → befP sz j i → U.testBit j = true
/-- what holds of those seen and those dressed -/
def grD (en : Nat → Nat) (n : Nat) (sz : Nat → Int) (g seen D : Nat) : Prop := sub_ D seen ∧ HL en n D ∧ dcP sz g seen ∧ ∀ U, dcP sz g U → sub_ U seen → ∃ T, sub_ T U ∧ fN en n T ≤ pc (D &&& T) ∧ ∀ j, U.testBit j = true → ¬ T.testBit j = true → D.testBit j = true
theorem gd_0 {en : Nat → Nat} {n g : Nat} {sz : Nat → Int} : grD en n sz g 0 0 := by
  refine ⟨sub_rf 0, fun P hP => by rw [sub_0 hP, pc_0]; show (0 : Int) ≤ py_c one en 0 n; rw [py_c_zero]; exact Int.le_refl 0, fun i hi => by rw [Nat.zero_testBit] at hi; exact absurd hi (by decide), fun U _ hU => ⟨0, fun j hj => by rw [Nat.zero_testBit] at hj; exact absurd hj (by decide), ?_, fun j hj => by rw [sub_0 hU, Nat.zero_testBit] at hj; exact absurd hj (by decide)⟩⟩
  show py_c one en 0 n ≤ pc (0 &&& 0)
  rw [py_c_zero, Nat.and_zero, pc_0]; exact Int.le_refl 0
theorem or_sub {A B C : Nat} (h : sub_ A C) (g : sub_ B C) : sub_ (A ||| B) C := fun j hj => by
  rw [Nat.testBit_or, Bool.or_eq_true] at hj; exact hj.elim (h j) (g j)
theorem sub_orL (A B : Nat) : sub_ A (A ||| B) := fun j hj => by rw [Nat.testBit_or, hj]; rfl
theorem sub_orR (A B : Nat) : sub_ B (A ||| B) := fun j hj => by rw [Nat.testBit_or, hj, Bool.or_true]
theorem or_one {A i j : Nat} (h : (A ||| 2 ^ i).testBit j = true) : A.testBit j = true ∨ j = i := by
  rw [Nat.testBit_or, Bool.or_eq_true] at h
  exact h.imp (fun z => z) (fun z => bit_one.mp z)
theorem one_bit {A i : Nat} : (A ||| 2 ^ i).testBit i = true := by rw [Nat.testBit_or, bit_one.mpr rfl, Bool.or_true]
section GD
variable {en : Nat → Nat} {n g seen D i : Nat} {sz : Nat → Int}
theorem dc_next (hi : i < g) (hs : ∀ j, j < g → (seen.testBit j = true ↔ befP sz j i)) (hd : dcP sz g seen) : dcP sz g (seen ||| 2 ^ i) := by
  intro k hk j hj hb
  rcases or_one hk with z | z
  · exact sub_orL _ _ j (hd k z j hj hb)
  · rw [z] at hb; exact sub_orL _ _ j ((hs j hj).mpr hb)
theorem gd_y (h : grD en n sz g seen D) (hi : i < g) (hg : g ≤ 16) (hn : ¬ seen.testBit i = true) (hs : ∀ j, j < g → (seen.testBit j = true ↔ befP sz j i)) (hsg : seen < 2 ^ g) (hc : HL en n (D ||| 2 ^ i)) : grD en n sz g (seen ||| 2 ^ i) (D ||| 2 ^ i) := by
  obtain ⟨h1, h2, h3, h4⟩ := h
  refine ⟨or_sub (sub_tr h1 (sub_orL _ _)) (sub_orR _ _), hc, dc_next hi hs h3, fun U hU hsub => ?_⟩
  by_cases q : U.testBit i = true
  · obtain ⟨T, t1, t2, t3⟩ := h4 seen h3 (sub_rf seen)
    have sU : sub_ seen U := fun j hj => hU i q j (tb_lt hsg hj) ((hs j (tb_lt hsg hj)).mp hj)
    refine ⟨T, sub_tr t1 sU, ?_, fun j hj hT => ?_⟩
    · have := pc_mono (P := D &&& T) (Q := (D ||| 2 ^ i) &&& T) (sub_and2 (sub_tr (sub_andL _ _) (sub_orL _ _)) (sub_andR _ _))
      omega
    · rcases or_one (hsub j hj) with z | z
      · exact sub_orL _ _ j (t3 j z hT)
      · rw [z]; exact one_bit
  · have sU : sub_ U seen := fun j hj => (or_one (hsub j hj)).resolve_right (fun z => q (by rw [← z]; exact hj))
    obtain ⟨T, t1, t2, t3⟩ := h4 U hU sU
    refine ⟨T, t1, ?_, fun j hj hT => sub_orL _ _ j (t3 j hj hT)⟩
    have := pc_mono (P := D &&& T) (Q := (D ||| 2 ^ i) &&& T) (sub_and2 (sub_tr (sub_andL _ _) (sub_orL _ _)) (sub_andR _ _))
    omega
theorem gd_n (h : grD en n sz g seen D) (hi : i < g) (hg : g ≤ 16) (hn : ¬ seen.testBit i = true) (hs : ∀ j, j < g → (seen.testBit j = true ↔ befP sz j i)) (hsg : seen < 2 ^ g) (hc : ¬ HL en n (D ||| 2 ^ i)) : grD en n sz g (seen ||| 2 ^ i) D := by
  obtain ⟨h1, h2, h3, h4⟩ := h
  refine ⟨sub_tr h1 (sub_orL _ _), h2, dc_next hi hs h3, fun U hU hsub => ?_⟩
  by_cases q : U.testBit i = true
  · obtain ⟨T, t1, t2, t3⟩ := h4 seen h3 (sub_rf seen)
    have sU : sub_ seen U := fun j hj => hU i q j (tb_lt hsg hj) ((hs j (tb_lt hsg hj)).mp hj)
    have hD16 : D < 65536 := Nat.lt_of_le_of_lt (sub_le h1) (Nat.lt_of_lt_of_le hsg (pow16 hg))
    obtain ⟨P, p1, p2⟩ : ∃ P, sub_ P (D ||| 2 ^ i) ∧ fN en n P < pc P := by
      apply Classical.byContradiction
      intro z
      exact hc (fun P hP => Int.not_lt.mp (fun y => z ⟨P, hP, y⟩))
    have hP16 : P < 65536 := sub_lt16 p1 (Nat.or_lt_two_pow (n := 16) hD16 (Nat.pow_lt_pow_right (by decide) (by omega)))
    have pi : P.testBit i = true := by
      cases z : P.testBit i
      · exfalso
        have a := h2 P (fun j hj => (or_one (p1 j hj)).resolve_right (fun y => by rw [y, z] at hj; exact absurd hj (by decide)))
        omega
      · rfl
    have pD : clr P i = D &&& P := by
      apply sub_eq
      · refine sub_and2 (fun j hj => ?_) (sub_clrS hP16)
        have b := sub_clrS hP16 j hj
        exact (or_one (p1 j b)).resolve_right (fun y => clr_no hP16 (by rw [y] at hj; exact hj))
      · refine sub_clr3 hP16 (sub_andR _ _) (fun y => hn (h1 i (sub_andL _ _ i y)))
    have c1 := pc_clr hP16 pi
    rw [pD] at c1
    have tD : sub_ (T &&& P) D := fun j hj => by
      have a := sub_andL _ _ j hj
      have b := sub_andR _ _ j hj
      exact (or_one (p1 j b)).resolve_right (fun y => hn (by rw [y] at a; exact t1 i a))
    have a1 := fN_sub en n T P
    have a2 := h2 (T &&& P) tD
    have a3 := pc_mod (D &&& T) (D &&& P)
    have e1 : (D &&& T) ||| (D &&& P) = D &&& (T ||| P) := by rw [Nat.and_or_distrib_left]
    have e2 : (D &&& T) &&& (D &&& P) = T &&& P := by
      apply sub_eq
      · exact sub_and2 (sub_tr (sub_andL _ _) (sub_andR _ _)) (sub_tr (sub_andR _ _) (sub_andR _ _))
      · exact sub_and2 (sub_and2 tD (sub_andL _ _)) (sub_and2 tD (sub_andR _ _))
    rw [e1, e2] at a3
    refine ⟨T ||| P, or_sub (sub_tr t1 sU) (fun j hj => ?_), by omega, fun j hj hT => ?_⟩
    · rcases or_one (p1 j hj) with y | y
      · exact sU j (h1 j y)
      · rw [y]; exact q
    · rcases or_one (hsub j hj) with y | y
      · exact t3 j y (fun w => hT (sub_orL _ _ j w))
      · exact absurd (by rw [y]; exact sub_orR _ _ i pi) hT
  · exact h4 U hU (fun j hj => (or_one (hsub j hj)).resolve_right (fun z => q (by rw [← z]; exact hj)))
/-- no set that can be dressed has more of the first ones -/
theorem gd_top (h : grD en n sz g seen D) (hall' : ∀ j, j < g → seen.testBit j = true) {S U : Nat} (hS : HL en n S) (hU : dcP sz g U) (hUg : U < 2 ^ g) : pc (S &&& U) ≤ pc (D &&& U) := by
  obtain ⟨h1, h2, h3, h4⟩ := h
  obtain ⟨T, t1, t2, t3⟩ := h4 U hU (fun j hj => hall' j (tb_lt hUg hj))
  have a := hS (S &&& T) (sub_andL S T)
  have b := fN_mono (en := en) (k := n) (sub_andR S T)
  have key : ∀ m, py_b one (S &&& U) m ≤ py_b one (S &&& T) m + py_b one (D &&& U) m - py_b one (D &&& T) m := by
    intro m
    induction m with
    | zero => show (0 : Int) ≤ 0 + 0 - 0; decide
    | succ m ih =>
      rw [py_b_s, py_b_s, py_b_s, py_b_s, one_1 m]
      have e1 := Nat.testBit_and S U m
      have e2 := Nat.testBit_and S T m
      have e3 := Nat.testBit_and D U m
      have e4 := Nat.testBit_and D T m
      have f1 := t1 m
      have f2 := t3 m
      rw [e1, e2, e3, e4]
      cases x1 : S.testBit m <;> cases x2 : U.testBit m <;> cases x3 : T.testBit m <;> cases x4 : D.testBit m <;> simp_all <;> omega
  have := key 16
  unfold pc at *
  omega
end GD

