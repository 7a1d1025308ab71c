/-! Which coat each gets. -/
theorem low_r {O k : Nat} (hk : O.testBit k = true) (hl : ∀ j, j < k → O.testBit j = false) : O % 2 ^ (k + 1) = 2 ^ k := by
  apply Nat.eq_of_testBit_eq
  intro j
  rw [Nat.testBit_mod_two_pow, Nat.testBit_two_pow]
  rcases Nat.lt_trichotomy j k with z | z | z
  · rw [hl j z, Bool.and_false, decide_eq_false (by omega)]
  · rw [z, hk, decide_eq_true (by omega), decide_eq_true rfl]; rfl
  · rw [decide_eq_false (by omega), decide_eq_false (by omega)]; rfl
theorem low_m {O k j : Nat} (hk : O.testBit k = true) (hl : ∀ j, j < k → O.testBit j = false) : (O - 1).testBit j = if j < k then true else if j = k then false else O.testBit j := by
  have e := low_r hk hl
  have d := Nat.div_add_mod O (2 ^ (k + 1))
  have pp := pow_pos2 k
  rw [e] at d
  have f : O - 1 = 2 ^ (k + 1) * (O / 2 ^ (k + 1)) + (2 ^ k - 1) := by omega
  have lt : 2 ^ k - 1 < 2 ^ (k + 1) := by rw [Nat.pow_succ]; omega
  have lt2 : 2 ^ k < 2 ^ (k + 1) := by rw [Nat.pow_succ]; omega
  rw [f, Nat.testBit_two_pow_mul_add _ lt]
  by_cases z : j < k
  · rw [if_pos (by omega), if_pos z, Nat.testBit_two_pow_sub_one, decide_eq_true z]
  · rw [if_neg z]
    by_cases y : j = k
    · rw [if_pos y, if_pos (by omega), Nat.testBit_two_pow_sub_one, decide_eq_false (by omega)]
    · rw [if_neg y, if_neg (by omega)]
      have g := Nat.testBit_two_pow_mul_add (O / 2 ^ (k + 1)) lt2 j
      rw [d, if_neg (by omega)] at g
      exact g.symm
theorem low_1 {O k : Nat} (hO : O < 2 ^ 64) (hk : O.testBit k = true) (hl : ∀ j, j < k → O.testBit j = false) : qN O &&& -(qN O) = qN (2 ^ k) := by
  have h0 : 0 < O := by
    rcases Nat.eq_zero_or_pos O with z | z
    · rw [z, Nat.zero_testBit] at hk; exact absurd hk (by decide)
    · exact z
  rw [qN_neg (Nat.le_of_lt hO), qN_and]
  congr 1
  apply Nat.eq_of_testBit_eq
  intro j
  have := Nat.testBit_two_pow_sub_succ (x := O - 1) (n := 64) (by omega) j
  rw [show O - 1 + 1 = O by omega, low_m hk hl] at this
  rw [Nat.testBit_and, show (18446744073709551616 : Nat) = 2 ^ 64 from rfl, this, Nat.testBit_two_pow]
  have k64 : k < 64 := tb_lt hO hk
  rcases Nat.lt_trichotomy j k with z | z | z
  · rw [hl j z, decide_eq_false (show ¬ k = j by omega)]; rfl
  · rw [if_neg (by omega), if_pos z, z, hk, decide_eq_true k64, decide_eq_true rfl]; rfl
  · rw [if_neg (by omega), if_neg (by omega), decide_eq_false (show ¬ k = j by omega)]
    cases O.testBit j <;> simp
theorem qN_clr {R X : Nat} : qN R &&& (qN X ^^^ (-1)) = qN (R &&& (X ^^^ 18446744073709551615)) := by
  rw [qN_m1, qN_xor, qN_and]
theorem nb_bit {R X c : Nat} (hc : c < 64) : (R &&& (X ^^^ 18446744073709551615)).testBit c = (R.testBit c && !X.testBit c) := by
  rw [Nat.testBit_and, Nat.testBit_xor, show (18446744073709551615 : Nat) = 2 ^ 64 - 1 from rfl, Nat.testBit_two_pow_sub_one, decide_eq_true hc]
  cases X.testBit c <;> rfl
theorem fN_cong {e e' : Nat → Nat} {P : Nat} : ∀ {n : Nat}, (∀ c, c < n → e c = e' c) → fN e n P = fN e' n P
  | 0, _ => rfl
  | n + 1, h => by
    have ih := fN_cong (e := e) (e' := e') (P := P) (n := n) (fun c hc => h c (by omega))
    rw [fN_s, fN_s, ih, h n (by omega)]
theorem HL_cong {e e' : Nat → Nat} {n S : Nat} (h : ∀ c, c < n → e c = e' c) : HL e n S ↔ HL e' n S := by
  unfold HL
  constructor
  · intro q P hP; rw [← fN_cong h]; exact q P hP
  · intro q P hP; rw [fN_cong h]; exact q P hP
def rmC (e : Nat → Nat) (k : Nat) : Nat → Nat := fun c => if c = k then 0 else e c
theorem mE_cong {e e' : Nat → Nat} : ∀ {n S : Nat}, (∀ c, c < n → e c = e' c) → mE e n S → mE e' n S
  | 0, _, _, h => h
  | n + 1, S, hc, h => by
    rcases h with h | ⟨i, h1, h2, h3⟩
    · exact Or.inl (mE_cong (fun c q => hc c (by omega)) h)
    · exact Or.inr ⟨i, h1, by rw [← hc n (by omega)]; exact h2, mE_cong (fun c q => hc c (by omega)) h3⟩
theorem mE_pick {e : Nat → Nat} {i : Nat} : ∀ {n S : Nat}, S < 65536 → mE e n S → S.testBit i = true → ∃ k, k < n ∧ (e k).testBit i = true ∧ mE (rmC e k) n (clr S i)
  | 0, S, _, h, hi => by
    have : S = 0 := h
    rw [this, Nat.zero_testBit] at hi
    exact absurd hi (by decide)
  | n + 1, S, hS, h, hi => by
    rcases h with h | ⟨j, h1, h2, h3⟩
    · obtain ⟨k, a1, a2, a3⟩ := mE_pick hS h hi
      exact ⟨k, by omega, a2, Or.inl a3⟩
    · by_cases q : j = i
      · subst q
        refine ⟨n, by omega, h2, Or.inl (mE_cong (fun c hc => ?_) h3)⟩
        unfold rmC; rw [if_neg (by omega)]
      · have hc : clr S j < 65536 := Nat.lt_of_le_of_lt (clr_le S j) hS
        obtain ⟨k, a1, a2, a3⟩ := mE_pick (S := clr S j) hc h3 (by rw [clr_bit hS, hi, decide_eq_false q]; rfl)
        refine ⟨k, by omega, a2, Or.inr ⟨j, by rw [clr_bit hS, h1, decide_eq_false (fun z => q z.symm)]; rfl, ?_, by rw [clr_comm]; exact a3⟩⟩
        unfold rmC; rw [if_neg (by omega)]; exact h2
/-- the coats given before guest i -/
def usd (gv : Nat → Int32) (D i c : Nat) : Prop := ∃ j, j < i ∧ D.testBit j = true ∧ gv j = nI c
def behD (D i : Nat) : Nat := D / 2 ^ (i + 1) * 2 ^ (i + 1)
theorem behI : ∀ i, i < 8 → ∀ D, D < 256 → nI D &&& -((2 : Int32) <<< (nI i &&& 31)) = nI (behD D i) := by decide +kernel
theorem beh_bit {D i j : Nat} : (behD D i).testBit j = (decide (i < j) && D.testBit j) := by
  unfold behD
  rw [Nat.mul_comm]
  have := Nat.testBit_two_pow_mul_add (D / 2 ^ (i + 1)) (pow_pos2 (i + 1)) j
  rw [Nat.add_zero] at this
  rw [this]
  by_cases q : j < i + 1
  · rw [if_pos q, Nat.zero_testBit, decide_eq_false (by omega)]; rfl
  · rw [if_neg q, decide_eq_true (show i < j by omega), Nat.testBit_div_two_pow, show j - (i + 1) + (i + 1) = j by omega]; rfl
def coatOk (en : Nat → Nat) (n D : Nat) (gv : Nat → Int32) (i k : Nat) : Prop := k < n ∧ ¬ usd gv D i k ∧ (en k).testBit i = true ∧ ∀ e : Nat → Nat, (∀ c, c < n → (c = k ∨ usd gv D i c → e c = 0) ∧ (¬ c = k → ¬ usd gv D i c → e c = en c)) → HL e n (behD D i)
def ptC (en : Nat → Nat) (n D : Nat) (gv : Nat → Int32) (i : Nat) : Prop := (D.testBit i = false → gv i = -1) ∧ (D.testBit i = true → ∃ k, gv i = nI k ∧ coatOk en n D gv i k ∧ ∀ j, j < k → ¬ coatOk en n D gv i j)
def chP (en : Nat → Nat) (n D g : Nat) (gv : Nat → Int32) : Prop := ∀ i, i < g → ptC en n D gv i
theorem us_c {gv gv' : Nat → Int32} {D i c : Nat} (h : ∀ j, j < i → gv j = gv' j) (q : usd gv D i c) : usd gv' D i c := by
  obtain ⟨j, a, b, e⟩ := q
  exact ⟨j, a, b, (h j a) ▸ e⟩
theorem ok_c {en : Nat → Nat} {n D : Nat} {gv gv' : Nat → Int32} {i k : Nat} (h : ∀ j, j < i → gv j = gv' j) (q : coatOk en n D gv i k) : coatOk en n D gv' i k := by
  obtain ⟨q1, q2, q3, q4⟩ := q
  have h' : ∀ j, j < i → gv' j = gv j := fun j hj => (h j hj).symm
  exact ⟨q1, fun z => q2 (us_c h' z), q3, fun e he => q4 e (fun c hc => ⟨fun z => (he c hc).1 (z.imp id (us_c h)), fun z1 z2 => (he c hc).2 z1 (fun w => z2 (us_c h' w))⟩)⟩
theorem pt_c {en : Nat → Nat} {n D : Nat} {gv gv' : Nat → Int32} {i : Nat} (h : ∀ j, j ≤ i → gv j = gv' j) (q : ptC en n D gv i) : ptC en n D gv' i := by
  have h1 : ∀ j, j < i → gv j = gv' j := fun j hj => h j (by omega)
  have h2 : ∀ j, j < i → gv' j = gv j := fun j hj => (h j (by omega)).symm
  refine ⟨fun z => by rw [← h i (Nat.le_refl i)]; exact q.1 z, fun z => ?_⟩
  obtain ⟨k, a, b, c⟩ := q.2 z
  exact ⟨k, by rw [← h i (Nat.le_refl i)]; exact a, ok_c h1 b, fun j hj w => c j hj (ok_c h2 w)⟩
theorem nI_inj {a b : Nat} (ha : a < 2147483648) (hb : b < 2147483648) (h : nI a = nI b) : a = b := (nI_eq (by omega) (by omega)).mp h
/-- two rows that say so are one -/
theorem ch_un {en : Nat → Nat} {n D g : Nat} {gv gv' : Nat → Int32} (hn : n ≤ 40) (h : chP en n D g gv) (h' : chP en n D g gv') : ∀ i, i < g → gv i = gv' i := by
  intro i
  induction i using Nat.strongRecOn with
  | ind i ih =>
    intro hi
    have e : ∀ j, j < i → gv j = gv' j := fun j hj => ih j hj (by omega)
    have e' : ∀ j, j < i → gv' j = gv j := fun j hj => (e j hj).symm
    cases q : D.testBit i
    · rw [(h i hi).1 q, (h' i hi).1 q]
    · obtain ⟨k, a1, a2, a3⟩ := (h i hi).2 q
      obtain ⟨k', b1, b2, b3⟩ := (h' i hi).2 q
      have : k = k' := by
        rcases Nat.lt_trichotomy k k' with z | z | z
        · exact absurd (ok_c e a2) (b3 k z)
        · exact z
        · exact absurd (ok_c e' b2) (a3 k' z)
      rw [a1, b1, this]
def geD (D i : Nat) : Nat := D / 2 ^ i * 2 ^ i
theorem beh_ge (D i : Nat) : behD D i = geD D (i + 1) := rfl
theorem ge_bit {D i j : Nat} : (geD D i).testBit j = (decide (i ≤ j) && D.testBit j) := by
  cases i with
  | zero => unfold geD; rw [Nat.pow_zero, Nat.div_one, Nat.mul_one, decide_eq_true (Nat.zero_le j)]; rfl
  | succ i => rw [← beh_ge, beh_bit]; congr 1
theorem ge_no {D i : Nat} (h : D.testBit i = false) : geD D (i + 1) = geD D i := by
  apply Nat.eq_of_testBit_eq
  intro j
  rw [ge_bit, ge_bit]
  by_cases q : j = i
  · rw [q, h, Bool.and_false, Bool.and_false]
  · congr 1; apply Bool.eq_iff_iff.mpr; rw [decide_eq_true_iff, decide_eq_true_iff]; omega
theorem ge_clr {D i : Nat} (hD : D < 65536) (h : D.testBit i = true) : clr (geD D i) i = geD D (i + 1) := by
  have lt : geD D i < 65536 := Nat.lt_of_le_of_lt (Nat.div_mul_le_self D (2 ^ i)) hD
  apply Nat.eq_of_testBit_eq
  intro j
  rw [clr_bit lt, ge_bit, ge_bit]
  by_cases q : i = j
  · rw [decide_eq_true q, decide_eq_false (show ¬ i + 1 ≤ j by omega)]
    simp
  · rw [decide_eq_false q]
    by_cases z : i ≤ j
    · rw [decide_eq_true z, decide_eq_true (show i + 1 ≤ j by omega)]; simp
    · rw [decide_eq_false z, decide_eq_false (show ¬ i + 1 ≤ j by omega)]; simp
def ccI (en : Nat → Nat) (n D : Nat) (gv : Nat → Int32) (R i : Nat) : Prop := R < 2 ^ n ∧ (∀ c, c < n → (R.testBit c = true ↔ (¬ en c = 0 ∧ ¬ usd gv D i c))) ∧ (∀ j, j < i → ptC en n D gv j) ∧ HL (enF en R) n (geD D i)
theorem cc_0 {en : Nat → Nat} {n D g : Nat} {gv : Nat → Int32} (he : ∀ c, c < n → en c < 2 ^ g) (h : HL en n D) : ccI en n D gv (fS en n (2 ^ g - 1)) 0 := by
  have b : ∀ c, c < n → ((fS en n (2 ^ g - 1)).testBit c = true ↔ ¬ en c = 0) := fun c hc => by
    unfold fS
    rw [mk_bit hc, decide_eq_true_iff, Nat.and_two_pow_sub_one_eq_mod, Nat.mod_eq_of_lt (he c hc)]
  refine ⟨fS_lt _ _ _, fun c hc => (b c hc).trans ⟨fun z => ⟨z, fun ⟨j, hj, _⟩ => absurd hj (Nat.not_lt_zero j)⟩, fun z => z.1⟩, fun j hj => absurd hj (Nat.not_lt_zero j), ?_⟩
  have e0 : geD D 0 = D := by unfold geD; rw [Nat.pow_zero, Nat.div_one, Nat.mul_one]
  rw [e0]
  refine (HL_cong (fun c hc => ?_)).mpr h
  unfold enF
  by_cases q : en c = 0
  · rw [q]; split <;> rfl
  · rw [if_pos ((b c hc).mpr q)]
theorem cc_no {en : Nat → Nat} {n D i R : Nat} {gv : Nat → Int32} (h : ccI en n D gv R i) (q : D.testBit i = false) : ccI en n D (upd gv i (-1)) R (i + 1) := by
  obtain ⟨h1, h2, h3, h4⟩ := h
  have e : ∀ j, j < i → gv j = upd gv i (-1) j := fun j hj => (pk_un (by omega)).symm
  have e' : ∀ j, j < i → upd gv i (-1) j = gv j := fun j hj => (e j hj).symm
  refine ⟨h1, fun c hc => (h2 c hc).trans (and_congr Iff.rfl (not_congr ⟨fun z => ?_, fun z => ?_⟩)), fun j hj => ?_, by rw [ge_no q]; exact h4⟩
  · obtain ⟨j, a, b⟩ := us_c e z
    exact ⟨j, by omega, b⟩
  · obtain ⟨j, a, b, d⟩ := z
    have : ¬ j = i := fun w => by rw [w, q] at b; exact absurd b (by decide)
    exact us_c e' ⟨j, by omega, b, d⟩
  · by_cases w : j = i
    · subst w
      exact ⟨fun _ => pk_us, fun z => by rw [q] at z; exact absurd z (by decide)⟩
    · exact pt_c (fun m hm => e m (by omega)) (h3 j (by omega))
/-- the coats that are open to guest i are those that may be given -/
theorem cc_open {en : Nat → Nat} {n D g i R N : Nat} {gv : Nat → Int32} {q : Int64} (h : ccI en n D gv R i) (hn : n ≤ 40) (hg : D < 2 ^ g) (hi : D.testBit i = true) (hq : ndI q (enF en R) n (behD D i) (2 ^ g)) (hN : q = qN N) (hN2 : N < 2 ^ n) {k : Nat} (hk : k < n) : ((fS en n (2 ^ i) &&& R) &&& (N ^^^ 18446744073709551615)).testBit k = true ↔ coatOk en n D gv i k := by
  obtain ⟨h1, h2, h3, h4⟩ := h
  obtain ⟨N', n1, n2, n3⟩ := hq
  have pn := pow_le40 hn
  have big : (2 : Nat) ^ 40 < 18446744073709551616 := by decide
  have eN : N = N' := (qN_eq (by omega) (by omega)).mp (hN.symm.trans n1)
  subst eN
  have hB : HL (enF en R) n (behD D i) := fun P hP => h4 P (fun j hj => by
    have := hP j hj
    rw [beh_bit, Bool.and_eq_true, decide_eq_true_iff] at this
    rw [ge_bit, this.2, decide_eq_true (show i ≤ j by omega)]; rfl)
  have nd := need_iff hB hk
  rw [nb_bit (by omega), Nat.testBit_and, Bool.and_eq_true, Bool.and_eq_true]
  have f1 : (fS en n (2 ^ i)).testBit k = true ↔ (en k).testBit i = true := by
    unfold fS
    rw [mk_bit hk, decide_eq_true_iff, and_pow]
    cases (en k).testBit i <;> simp
  have f2 : (!N.testBit k) = true ↔ HL (rmC (enF en R) k) n (behD D i) := by
    have : (!N.testBit k) = true ↔ ¬ N.testBit k = true := by cases N.testBit k <;> simp
    rw [this, n3 k hk]
    refine Iff.trans (not_congr ⟨?_, ?_⟩) nd.symm
    · rintro ⟨P, a1, a2, a3, a4, a5⟩; exact ⟨P, a3, a4, a5⟩
    · rintro ⟨P, a3, a4, a5⟩
      refine ⟨P, ?_, ?_, a3, a4, a5⟩
      · have b1 := sub_le a3
        have b2 : behD D i ≤ D := Nat.div_mul_le_self D (2 ^ (i + 1))
        omega
      · rcases Nat.eq_zero_or_pos P with z | z
        · rw [z, Nat.and_zero] at a5; exact absurd rfl a5
        · exact z
  have f3 : ∀ e : Nat → Nat, (∀ c, c < n → (c = k ∨ usd gv D i c → e c = 0) ∧ (¬ c = k → ¬ usd gv D i c → e c = en c)) → ∀ c, c < n → e c = rmC (enF en R) k c := fun e he c hc => by
    unfold rmC enF
    by_cases w : c = k
    · rw [if_pos w]; exact (he c hc).1 (Or.inl w)
    · rw [if_neg w]
      by_cases u : usd gv D i c
      · rw [if_neg (fun z => ((h2 c hc).mp z).2 u)]; exact (he c hc).1 (Or.inr u)
      · rw [(he c hc).2 w u]
        by_cases v : en c = 0
        · rw [v]; split <;> rfl
        · rw [if_pos ((h2 c hc).mpr ⟨v, u⟩)]
  rw [f1, f2]
  constructor
  · rintro ⟨⟨a1, a2⟩, a3⟩
    exact ⟨hk, ((h2 k hk).mp a2).2, a1, fun e he => (HL_cong (f3 e he)).mpr a3⟩
  · rintro ⟨-, a2, a1, a3⟩
    have ne : ¬ en k = 0 := fun z => by rw [z, Nat.zero_testBit] at a1; exact absurd a1 (by decide)
    refine ⟨⟨a1, (h2 k hk).mpr ⟨ne, a2⟩⟩, a3 _ (fun c hc => ⟨fun z => ?_, fun z1 z2 => ?_⟩)⟩
    · unfold rmC enF
      rcases z with z | z
      · rw [if_pos z]
      · split
        · rfl
        · rw [if_neg (fun y => ((h2 c hc).mp y).2 z)]
    · unfold rmC enF
      rw [if_neg z1]
      by_cases v : en c = 0
      · rw [v]; split <;> rfl
      · rw [if_pos ((h2 c hc).mpr ⟨v, z2⟩)]
/-- one is open -/
theorem cc_ex {en : Nat → Nat} {n D i R : Nat} {gv : Nat → Int32} (h : ccI en n D gv R i) (hD : D < 65536) (hi : D.testBit i = true) : ∃ k, coatOk en n D gv i k := by
  obtain ⟨h1, h2, h3, h4⟩ := h
  have lt : geD D i < 65536 := Nat.lt_of_le_of_lt (Nat.div_mul_le_self D (2 ^ i)) hD
  have gi : (geD D i).testBit i = true := by rw [ge_bit, hi, decide_eq_true (Nat.le_refl i)]; rfl
  obtain ⟨k, a1, a2, a3⟩ := mE_pick lt (hall_2 lt h4) gi
  rw [ge_clr hD hi] at a3
  have lt' : geD D (i + 1) < 65536 := Nat.lt_of_le_of_lt (Nat.div_mul_le_self D (2 ^ (i + 1))) hD
  have a4 := hall_1 lt' a3
  have rk : R.testBit k = true := by
    unfold enF at a2
    by_cases z : R.testBit k = true
    · exact z
    · rw [if_neg z, Nat.zero_testBit] at a2; exact absurd a2 (by decide)
  have ek : (en k).testBit i = true := by unfold enF at a2; rw [if_pos rk] at a2; exact a2
  refine ⟨k, a1, ((h2 k a1).mp rk).2, ek, fun e he => (HL_cong (fun c hc => ?_)).mpr a4⟩
  unfold rmC enF
  by_cases w : c = k
  · rw [if_pos w]; exact (he c hc).1 (Or.inl w)
  · rw [if_neg w]
    by_cases u : usd gv D i c
    · rw [if_neg (fun z => ((h2 c hc).mp z).2 u)]; exact (he c hc).1 (Or.inr u)
    · rw [(he c hc).2 w u]
      by_cases v : en c = 0
      · rw [v]; split <;> rfl
      · rw [if_pos ((h2 c hc).mpr ⟨v, u⟩)]
def opN (en : Nat → Nat) (n i R N : Nat) : Nat := (fS en n (2 ^ i) &&& R) &&& (N ^^^ 18446744073709551615)
theorem cc_yes {en : Nat → Nat} {n D g i R N : Nat} {gv : Nat → Int32} {q : Int64} {r : Int32} (h : ccI en n D gv R i) (hn : n ≤ 40) (hg : D < 2 ^ g) (hD : D < 65536) (hi : D.testBit i = true) (hq : ndI q (enF en R) n (behD D i) (2 ^ g)) (hN : q = qN N) (hN2 : N < 2 ^ n) (hr : lsP r (opN en n i R N)) : ∃ k, r = nI k ∧ qN (opN en n i R N) &&& -(qN (opN en n i R N)) = qN (2 ^ k) ∧ ccI en n D (upd gv i (nI k)) (R &&& (2 ^ k ^^^ 18446744073709551615)) (i + 1) := by
  have op := fun {k : Nat} (hk : k < n) => cc_open h hn hg hi hq hN hN2 hk
  have pn := pow_le40 hn
  have big : (2 : Nat) ^ 40 < 2 ^ 64 := by decide
  have lt : opN en n i R N < 2 ^ n := Nat.lt_of_le_of_lt (Nat.le_trans Nat.and_le_left Nat.and_le_right) h.1
  obtain ⟨k0, ok0⟩ := cc_ex h hD hi
  have b0 : (opN en n i R N).testBit k0 = true := (op ok0.1).mpr ok0
  rcases hr with ⟨k, k1, k2, k3, k4⟩ | ⟨-, z⟩
  · have kn : k < n := tb_lt lt k3
    have ok := (op kn).mp k3
    have e : ∀ j, j < i → gv j = upd gv i (nI k) j := fun j hj => (pk_un (by omega)).symm
    have e' : ∀ j, j < i → upd gv i (nI k) j = gv j := fun j hj => (e j hj).symm
    have rb : ∀ c, c < n → ((R &&& (2 ^ k ^^^ 18446744073709551615)).testBit c = true ↔ (R.testBit c = true ∧ ¬ c = k)) := fun c hc => by
      rw [nb_bit (by omega), Bool.and_eq_true, Nat.testBit_two_pow]
      refine and_congr Iff.rfl ?_
      by_cases w : k = c
      · rw [decide_eq_true w]; exact ⟨fun z => absurd z (by decide), fun z => absurd w.symm z⟩
      · rw [decide_eq_false w]; exact ⟨fun _ y => w y.symm, fun _ => rfl⟩
    have ub : ∀ c, c < n → (usd (upd gv i (nI k)) D (i + 1) c ↔ (usd gv D i c ∨ c = k)) := fun c hc => by
      constructor
      · rintro ⟨j, a, b, d⟩
        by_cases w : j = i
        · rw [w, pk_us] at d
          exact Or.inr (nI_inj (by omega) (by omega) d).symm
        · exact Or.inl (us_c e' ⟨j, by omega, b, d⟩)
      · rintro (z | z)
        · obtain ⟨j, a, b, d⟩ := us_c e z
          exact ⟨j, by omega, b, d⟩
        · exact ⟨i, by omega, hi, by rw [pk_us, z]⟩
    refine ⟨k, k2, low_1 (by omega) k3 k4, Nat.lt_of_le_of_lt Nat.and_le_left h.1, fun c hc => ?_, fun j hj => ?_, ?_⟩
    · rw [rb c hc, ub c hc, h.2.1 c hc]
      constructor
      · rintro ⟨⟨a, b⟩, d⟩; exact ⟨a, fun z => z.elim b d⟩
      · rintro ⟨a, b⟩; exact ⟨⟨a, fun z => b (Or.inl z)⟩, fun z => b (Or.inr z)⟩
    · by_cases w : j = i
      · subst w
        refine ⟨fun z => by rw [hi] at z; exact absurd z (by decide), fun _ => ⟨k, pk_us, ok_c e ok, fun m hm z => ?_⟩⟩
        have z' := ok_c e' z
        have := (op z'.1).mpr z'
        have k4' := k4 m hm
        unfold opN at k4'
        rw [k4'] at this
        exact absurd this (by decide)
      · exact pt_c (fun m hm => e m (by omega)) (h.2.2.1 j (by omega))
    · refine ok.2.2.2 _ (fun c hc => ⟨fun z => ?_, fun z1 z2 => ?_⟩)
      · unfold enF
        refine if_neg (fun y => ?_)
        obtain ⟨y1, y2⟩ := (rb c hc).mp y
        exact z.elim y2 ((h.2.1 c hc).mp y1).2
      · unfold enF
        by_cases v : en c = 0
        · rw [v]; split <;> rfl
        · exact if_pos ((rb c hc).mpr ⟨(h.2.1 c hc).mpr ⟨v, z2⟩, z1⟩)
  · rw [z k0 (by have := ok0.1; omega)] at b0
    exact absurd b0 (by decide)

set_option maxHeartbeats 4000000 in
set_option maxRecDepth 100000 in
theorem f_X2_coats (l : Launch) (D : va_G) (cB cI cJ cZ : ClassId) (sz : Nat) (h0 p0 p1 p3 p4 e9 D9 : Nat) (en : Nat → Nat) (n9 : Nat) (f1 : Nat → Int32) (f4 : Nat → Int64) (he : e9 ≤ 8) (hn9 : n9 ≤ 40) (hD9 : D9 < 2 ^ e9) (hF9 : fitT f4 en n9 (2 ^ e9)) (hen : ∀ c, c < n9 → en c < 2 ^ e9) (hH9 : HL en n9 D9) : Met l yX2_chooseCoats wsX2_chooseCoats ({ frames := 2, cells := 0, slots := 0, locals := 49 } : Room) (cPre D (aTy cB cI cJ cZ) [(h0, .inr (2, [.ref p0, .ref p1, .int (nI e9), .ref p3, .ref p4, .int (nI D9)])), (p1, .inl (cI, 8, .inl f1)), (p4, .inl (cJ, 256, .inr (.inl f4)))] sz [.ref h0]) (va_Qv (fun (u : (Nat → Int32)) => chP en n9 D9 e9 u) (cB_ D (aTy cB cI cJ cZ) (va_A [(h0, .inr (2, [.ref p0, .ref p1, .int (nI e9), .ref p3, .ref p4, .int (nI D9)])), (p1, .inl (cI, 8, .inl f1)), (p4, .inl (cJ, 256, .inr (.inl f4)))] sz) (fun u => [(h0, .inr (2, [.ref p0, .ref p1, .int (nI e9), .ref p3, .ref p4, .int (nI D9)])), (p1, .inl (cI, 8, .inl u)), (p4, .inl (cJ, 256, .inr (.inl f4)))])) (va_A [(h0, .inr (2, [.ref p0, .ref p1, .int (nI e9), .ref p3, .ref p4, .int (nI D9)])), (p1, .inl (cI, 8, .inl f1)), (p4, .inl (cJ, 256, .inr (.inl f4)))] sz)) 0 0 (va_A [(h0, .inr (2, [.ref p0, .ref p1, .int (nI e9), .ref p3, .ref p4, .int (nI D9)])), (p1, .inl (cI, 8, .inl f1)), (p4, .inl (cJ, 256, .inr (.inl f4)))] sz) := by
  refine Met.ofW (cc := cX2_chooseCoats) (maxL := 7) (ret := none) (by decide) rfl ?_
  intro p e s m args below meth c s₁ B hml hv
  obtain ⟨rfl, hsz, hP, hK, hD0⟩ := hv
  have hx := B.exec
  have hb := B.bytes
  have hr := B.returns
  have hts := atoms_spec (ws := wsX2_chooseCoats) B.pre
  have hown : s.vm.findClass RX2 = some m.cls := findClass_of_methodNamed B.named
  have hlocks := B.notSynchronized
  subst hsz
  have hD := hD0.self (sz := s.heap.size)
  generalize hAe : va_A [(h0, .inr (2, [.ref p0, .ref p1, .int (nI e9), .ref p3, .ref p4, .int (nI D9)])), (p1, .inl (cI, 8, .inl f1)), (p4, .inl (cJ, 256, .inr (.inl f4)))] s.heap.size = A at hD ⊢
  have hA : ∀ q : Nat, s.heap.size ≤ q → A q := fun q h => by rw [← hAe]; exact Or.inr h
  have hS : va_S A s.heap s.heap [] := va_S.rf
  have hP : va_P D vwCl [(h0, .inr (2, [.ref p0, .ref p1, .int (nI e9), .ref p3, .ref p4, .int (nI D9)])), (p1, .inl (cI, 8, .inl f1)), (p4, .inl (cJ, 256, .inr (.inl f4)))] s.heap := hP
  have h8 := pow8 he
  have hp := pow_pos2 e9
  have w_1 : ∀ w ∈ wsX20, w ∈ wsX2_chooseCoats := by decide +kernel
  have w_2 := hts (Cond.fieldLink RX2 21 "BlueCoats$Dressing" "fitting" "[J") (by decide +kernel)
  have w_3 := hts (Cond.fieldLink RX2 39 "BlueCoats$Dressing" "guests" "I") (by decide +kernel)
  have w_4 := hts (Cond.fieldLink RX2 15 "BlueCoats$Dressing" "given" "[I") (by decide +kernel)
  have w_5 := hts (Cond.fieldLink RX2 43 "BlueCoats$Dressing" "dressed" "I") (by decide +kernel)
  have w_6 := hts (Cond.constantLong RX2 82 (-1)) (by decide +kernel)
  have hl := lv_entry ([.ref h0]) (n := 7) (Nat.le_of_ble_eq_true rfl)
  rw [lg_entry_eq]
  generalize (lg_sl ([.ref h0]) ++ List.replicate (7 - (lg_sl ([.ref h0])).length) Slot.unset).toArray = ls at hl ⊢
  have hl : lv_has ls 7 [(0, .ref h0)] := hl
  generalize hQ : MQ below _ _ s _ _ _ = Q0
  refine lv_aload_n hx hb dX2_chooseCoats_0 rfl (lv_at hl 0 rfl) ?_
  refine va_get (D := D) (ci := 2) (v := .ref p4) (C := RX2) (T := TX2) (N := 6) hx hb hts w_1 hown hK hP 0 rfl rfl 4 (by decide) w_2 (fun _ h9 => h9) rfl dX2_chooseCoats_1 ?_
  refine lv_iconst (v := 1) hx hb dX2_chooseCoats_4 (by decide) ?_
  refine lv_aload_n hx hb dX2_chooseCoats_5 rfl (lv_at hl 0 rfl) ?_
  refine va_get (D := D) (ci := 2) (v := .int (nI e9)) (C := RX2) (T := TX2) (N := 6) hx hb hts w_1 hown hK hP 0 rfl rfl 2 (by decide) w_3 (fun _ h9 => h9) rfl dX2_chooseCoats_6 ?_
  refine sv_ishl (v := nI (2 ^ e9)) hx hb dX2_chooseCoats_9 (sh_8 he) ?_
  refine lv_iconst (v := 1) hx hb dX2_chooseCoats_10 (by decide) ?_
  refine sv_isub (v := nI (2 ^ e9 - 1)) hx hb dX2_chooseCoats_11 (nI_m1 (pow_pos2 e9)) ?_
  refine sv_lald (v := f4 (2 ^ e9 - 1)) hx hb hK hP 2 2 rfl rfl (vp_in_nI (by omega) (by decide)) (congrArg _ (nI_clamp (by omega))) dX2_chooseCoats_12 ?_
  refine lv_topl (fun v_a ev_a => ?_)
  have hv_a : v_a = qN (fS en n9 (2 ^ e9 - 1)) := by rw [ev_a]; exact hF9 _ (by omega)
  subst hv_a
  refine lv_lstore_n (lv' := [(1, .long (qN (fS en n9 (2 ^ e9 - 1)))), (0, .ref h0)]) hx hb dX2_chooseCoats_13 rfl hl (by decide) rfl (fun ls hl => ?_)
  refine lv_iconst (v := 0) hx hb dX2_chooseCoats_14 (by decide) ?_
  refine lv_istore_n (lv' := [(3, .int 0), (1, .long (qN (fS en n9 (2 ^ e9 - 1)))), (0, .ref h0)]) hx hb dX2_chooseCoats_15 rfl hl (by decide) rfl (fun ls hl => ?_)
  have L_1 : ∀ (n : Nat) (i_16 : Nat) (f_p1_16 : Nat → Int32) (l_1_16 : Int64) (H : Heap) (locs : List Loc) (ls : Array Slot), e9 - i_16 < n → (i_16 ≤ e9) → (∃ R, l_1_16 = qN R ∧ ccI en n9 D9 f_p1_16 R i_16) → va_P D vwCl [(h0, .inr (2, [.ref p0, .ref p1, .int (nI e9), .ref p3, .ref p4, .int (nI D9)])), (p1, .inl (cI, 8, .inl f_p1_16)), (p4, .inl (cJ, 256, .inr (.inl f4)))] H → va_D A [(h0, .inr (2, [.ref p0, .ref p1, .int (nI e9), .ref p3, .ref p4, .int (nI D9)])), (p1, .inl (cI, 8, .inl f_p1_16)), (p4, .inl (cJ, 256, .inr (.inl f4)))] → va_S A s.heap H locs → lv_has ls 7 [(0, .ref h0), (1, .long l_1_16), (3, .int (nI i_16))] → W p l e (headSpec wsX2_chooseCoats ({ frames := 2, cells := 0, slots := 0, locals := 49 } : Room)).room s m ([.ref h0] : List Value).toArray below meth c H locs 0 0 Q0 (F0 m 16 ls []) := by
    intro n
    induction n with
    | zero => intro i_16 f_p1_16 l_1_16 H locs ls hn_16 hle_16 hc_16 hP hD hS hl; exact absurd hn_16 (Nat.not_lt_zero _)
    | succ n ih_L_1 =>
      intro i_16 f_p1_16 l_1_16 H locs ls hn_16 hle_16 hc_16 hP hD hS hl
      refine lv_iload_n hx hb dX2_chooseCoats_16 rfl (lv_at hl 2 rfl) ?_
      refine lv_aload_n hx hb dX2_chooseCoats_17 rfl (lv_at hl 0 rfl) ?_
      refine va_get (D := D) (ci := 2) (v := .int (nI e9)) (C := RX2) (T := TX2) (N := 6) hx hb hts w_1 hown hK hP 0 rfl rfl 2 (by decide) w_3 (fun _ h9 => h9) rfl dX2_chooseCoats_18 ?_
      refine lv_icmp_ge (tgt := 107) hx hb dX2_chooseCoats_21 (by decide) (fun c_21 => ?_) (fun c_21 => ?_)
      ·
        rw [← hQ]
        have hP9 := hP.sub (ws' := [(h0, .inr (2, [.ref p0, .ref p1, .int (nI e9), .ref p3, .ref p4, .int (nI D9)])), (p1, .inl (cI, 8, .inl f_p1_16)), (p4, .inl (cJ, 256, .inr (.inl f4)))]) [0, 1, 2] rfl
        have hD9 := hD.sub (ws' := [(h0, .inr (2, [.ref p0, .ref p1, .int (nI e9), .ref p3, .ref p4, .int (nI D9)])), (p1, .inl (cI, 8, .inl f_p1_16)), (p4, .inl (cJ, 256, .inr (.inl f4)))]) [0, 1, 2] (by decide) rfl
        exact W.vret hx hb hr (fun t ht hW => ⟨⟨f_p1_16, rfl, by obtain ⟨R, -, h⟩ := hc_16; rw [(Nat.le_antisymm hle_16 (ge3 (by omega) hle_16 c_21))] at h; exact h.2.2.1, by rw [ht]; exact hP9, va_K.moved hW.alike hK, hD9⟩, hS.F ht⟩) hS.2.2 dX2_chooseCoats_107
      ·
        have hb_16 : i_16 < e9 := lt3 (by omega) hle_16 c_21
        obtain ⟨R_9, eR_9, hcc⟩ := hc_16
        subst eR_9
        refine lv_aload_n hx hb dX2_chooseCoats_24 rfl (lv_at hl 0 rfl) ?_
        refine va_get (D := D) (ci := 2) (v := .ref p1) (C := RX2) (T := TX2) (N := 6) hx hb hts w_1 hown hK hP 0 rfl rfl 1 (by decide) w_4 (fun _ h9 => h9) rfl dX2_chooseCoats_25 ?_
        refine lv_iload_n hx hb dX2_chooseCoats_28 rfl (lv_at hl 2 rfl) ?_
        refine lv_iconst (v := (-1)) hx hb dX2_chooseCoats_29 (by decide) ?_
        refine sv_iast hx hb hK hP hD hS 1 1 rfl rfl (vp_in_nI (by omega) (by decide)) dX2_chooseCoats_30 (fun g_2 H locs eg_2 hP hD hS => ?_)
        have eg_2 : g_2 = upd f_p1_16 i_16 (-1) := by rw [eg_2, nI_clamp (by omega)]
        subst eg_2
        have hP : va_P D vwCl [(h0, .inr (2, [.ref p0, .ref p1, .int (nI e9), .ref p3, .ref p4, .int (nI D9)])), (p1, .inl (cI, 8, .inl (upd f_p1_16 i_16 (-1)))), (p4, .inl (cJ, 256, .inr (.inl f4)))] H := hP
        have hD : va_D A [(h0, .inr (2, [.ref p0, .ref p1, .int (nI e9), .ref p3, .ref p4, .int (nI D9)])), (p1, .inl (cI, 8, .inl (upd f_p1_16 i_16 (-1)))), (p4, .inl (cJ, 256, .inr (.inl f4)))] := hD
        refine lv_aload_n hx hb dX2_chooseCoats_31 rfl (lv_at hl 0 rfl) ?_
        refine va_get (D := D) (ci := 2) (v := .int (nI D9)) (C := RX2) (T := TX2) (N := 6) hx hb hts w_1 hown hK hP 0 rfl rfl 5 (by decide) w_5 (fun _ h9 => h9) rfl dX2_chooseCoats_32 ?_
        refine lv_iconst (v := 1) hx hb dX2_chooseCoats_35 (by decide) ?_
        refine lv_iload_n hx hb dX2_chooseCoats_36 rfl (lv_at hl 2 rfl) ?_
        refine sv_ishl (v := (1 : Int32) <<< (nI i_16 &&& 31)) hx hb dX2_chooseCoats_37 rfl ?_
        refine sv_iand (v := (nI D9) &&& ((1 : Int32) <<< (nI i_16 &&& 31))) hx hb dX2_chooseCoats_38 rfl ?_
        refine lv_if_eq (tgt := 101) hx hb dX2_chooseCoats_39 (by decide) (fun c_39 => ?_) (fun c_39 => ?_)
        ·
          refine lv_iinc (v := nI (i_16 + 1)) (lv' := [(3, .int (nI (i_16 + 1))), (0, .ref h0), (1, .long (qN R_9))]) hx hb dX2_chooseCoats_101 hl (k := 2) rfl (ax_add _ 1) (by decide) rfl (fun ls hl => ?_)
          refine lv_goto (tgt := 16) hx hb dX2_chooseCoats_104 (by decide) ?_
          exact ih_L_1 (i_16 + 1) (upd f_p1_16 i_16 (-1)) (qN R_9) _ _ ls (by omega) (by omega) ⟨R_9, rfl, cc_no hcc ((bit_and (by omega)).mp c_39)⟩ hP hD hS (lv_sub hl [1, 2, 0] rfl)
        ·
          have hpi : 2 ^ i_16 < 2 ^ e9 := Nat.pow_lt_pow_right (by decide) hb_16
          have hbit : D9.testBit i_16 = true := by cases q : D9.testBit i_16; exact absurd ((bit_and (by omega)).mpr q) c_39; rfl
          refine lv_aload_n hx hb dX2_chooseCoats_42 rfl (lv_at hl 0 rfl) ?_
          refine va_get (D := D) (ci := 2) (v := .int (nI D9)) (C := RX2) (T := TX2) (N := 6) hx hb hts w_1 hown hK hP 0 rfl rfl 5 (by decide) w_5 (fun _ h9 => h9) rfl dX2_chooseCoats_43 ?_
          refine lv_iconst (v := 2) hx hb dX2_chooseCoats_46 (by decide) ?_
          refine lv_iload_n hx hb dX2_chooseCoats_47 rfl (lv_at hl 2 rfl) ?_
          refine sv_ishl (v := (2 : Int32) <<< (nI i_16 &&& 31)) hx hb dX2_chooseCoats_48 rfl ?_
          refine lv_ineg hx hb dX2_chooseCoats_49 ?_
          refine sv_iand (v := nI (behD D9 i_16)) hx hb dX2_chooseCoats_50 (behI _ (by omega) _ (by omega)) ?_
          refine lv_istore (lv' := [(4, .int (nI (behD D9 i_16))), (0, .ref h0), (1, .long (qN R_9)), (3, .int (nI i_16))]) hx hb dX2_chooseCoats_51 hl (by decide) rfl (fun ls hl => ?_)
          refine lv_aload_n hx hb dX2_chooseCoats_53 rfl (lv_at hl 1 rfl) ?_
          refine va_get (D := D) (ci := 2) (v := .ref p4) (C := RX2) (T := TX2) (N := 6) hx hb hts w_1 hown hK hP 0 rfl rfl 4 (by decide) w_2 (fun _ h9 => h9) rfl dX2_chooseCoats_54 ?_
          refine lv_iconst (v := 1) hx hb dX2_chooseCoats_57 (by decide) ?_
          refine lv_iload_n hx hb dX2_chooseCoats_58 rfl (lv_at hl 3 rfl) ?_
          refine sv_ishl (v := nI (2 ^ i_16)) hx hb dX2_chooseCoats_59 (sh_8 (by omega)) ?_
          refine sv_lald (v := f4 (2 ^ i_16)) hx hb hK hP 2 2 rfl rfl (vp_in_nI (by omega) (by decide)) (congrArg _ (nI_clamp (by omega))) dX2_chooseCoats_60 ?_
          refine lv_lload_n hx hb dX2_chooseCoats_61 rfl (lv_at hl 2 rfl) ?_
          refine lv_land hx hb dX2_chooseCoats_62 ?_
          refine lv_aload_n hx hb dX2_chooseCoats_63 rfl (lv_at hl 1 rfl) ?_
          refine lv_iload hx hb dX2_chooseCoats_64 (lv_at hl 0 rfl) ?_
          refine lv_lload_n hx hb dX2_chooseCoats_66 rfl (lv_at hl 2 rfl) ?_
          refine vp_callSl (va_Run.run (va_runV (As := [.int (nI (behD D9 i_16)), .long (qN R_9)]) (rest := [.long ((f4 (2 ^ i_16)) &&& (qN R_9))]) ⟨hx, hb, hml, hown, hts⟩ (f_X2_needed l D cB cI cJ cZ h0 p0 p1 p3 p4 e9 (nI D9) en n9 (behD D9 i_16) R_9 f4 he hn9 (Nat.lt_of_le_of_lt (Nat.div_mul_le_self _ _) hD9) hF9) (cwV 2 hts gX2_chooseCoats_X2_neededBy rfl rfl rfl (by decide +kernel) ⟨Nat.le_of_ble_eq_true rfl, Nat.le_of_ble_eq_true rfl⟩) (pre_VR (hP.sub (ws' := [(h0, .inr (2, [.ref p0, .ref p1, .int (nI e9), .ref p3, .ref p4, .int (nI D9)])), (p4, .inl (cJ, 256, .inr (.inl f4)))]) [0, 2] rfl) hK 0 rfl rfl rfl) rfl rfl hl.1 rfl (lv_room (Nat.le_of_ble_eq_true rfl)) dX2_chooseCoats_67 ⟨Nat.le_of_ble_eq_true rfl, Nat.le_of_ble_eq_true rfl⟩)) (fun r_3 hw_r_3 => ?_)
          have hnd := hw_r_3
          obtain ⟨N_9, eN_9, hN_9, -⟩ := hw_r_3
          subst eN_9
          refine lv_ldc2 hx hb hown w_6 dX2_chooseCoats_70 ?_
          refine lv_lxor hx hb dX2_chooseCoats_73 ?_
          refine lv_land hx hb dX2_chooseCoats_74 ?_
          refine lv_topl (fun v_o ev_o => ?_)
          have hv_o : v_o = qN (opN en n9 i_16 R_9 N_9) := by rw [ev_o, hF9 _ hpi, qN_and, qN_clr]; rfl
          subst hv_o
          have hopl : (opN en n9 i_16 R_9 N_9) < 2 ^ 40 := Nat.lt_of_lt_of_le (Nat.lt_of_le_of_lt (Nat.le_trans Nat.and_le_left Nat.and_le_right) hcc.1) (pow_le40 hn9)
          refine lv_lstore (lv' := [(5, .long (qN (opN en n9 i_16 R_9 N_9))), (4, .int (nI (behD D9 i_16))), (0, .ref h0), (1, .long (qN R_9)), (3, .int (nI i_16))]) hx hb dX2_chooseCoats_75 hl (by decide) rfl (fun ls hl => ?_)
          refine lv_aload_n hx hb dX2_chooseCoats_77 rfl (lv_at hl 2 rfl) ?_
          refine va_get (D := D) (ci := 2) (v := .ref p1) (C := RX2) (T := TX2) (N := 6) hx hb hts w_1 hown hK hP 0 rfl rfl 1 (by decide) w_4 (fun _ h9 => h9) rfl dX2_chooseCoats_78 ?_
          refine lv_iload_n hx hb dX2_chooseCoats_81 rfl (lv_at hl 4 rfl) ?_
          refine lv_lload hx hb dX2_chooseCoats_82 (lv_at hl 0 rfl) ?_
          refine vp_callSi (va_Run.run (va_runS (As := [.long (qN (opN en n9 i_16 R_9 N_9))]) (rest := [.int (nI i_16), .ref p1]) ⟨hx, hb, hml, hown, hts⟩ (f_X2_least l D cB cI cJ cZ (opN en n9 i_16 R_9 N_9) hopl) (va_cwS 1 hts gX2_chooseCoats_X2_leastOf rfl rfl rfl (by decide +kernel) ⟨Nat.le_of_ble_eq_true rfl, Nat.le_of_ble_eq_true rfl⟩) (pre_SR (hP.sub (ws' := []) [] rfl) hK) rfl rfl hl.1 rfl (lv_room (Nat.le_of_ble_eq_true rfl)) dX2_chooseCoats_84 ⟨Nat.le_of_ble_eq_true rfl, Nat.le_of_ble_eq_true rfl⟩)) (fun r_4 hw_r_4 => ?_)
          obtain ⟨k_9, ek_9, el_9, hcc2⟩ := cc_yes hcc hn9 hD9 (by omega) hbit hnd rfl hN_9 hw_r_4
          subst ek_9
          refine sv_iast hx hb hK hP hD hS 1 1 rfl rfl (vp_in_nI (by omega) (by decide)) dX2_chooseCoats_87 (fun g_5 H locs eg_5 hP hD hS => ?_)
          have eg_5 : g_5 = upd f_p1_16 i_16 (nI k_9) := by rw [eg_5, nI_clamp (by omega), fa_upd_twice]
          subst eg_5
          have hP : va_P D vwCl [(h0, .inr (2, [.ref p0, .ref p1, .int (nI e9), .ref p3, .ref p4, .int (nI D9)])), (p1, .inl (cI, 8, .inl (upd f_p1_16 i_16 (nI k_9)))), (p4, .inl (cJ, 256, .inr (.inl f4)))] H := hP
          have hD : va_D A [(h0, .inr (2, [.ref p0, .ref p1, .int (nI e9), .ref p3, .ref p4, .int (nI D9)])), (p1, .inl (cI, 8, .inl (upd f_p1_16 i_16 (nI k_9)))), (p4, .inl (cJ, 256, .inr (.inl f4)))] := hD
          refine lv_lload_n hx hb dX2_chooseCoats_88 rfl (lv_at hl 3 rfl) ?_
          refine lv_lload hx hb dX2_chooseCoats_89 (lv_at hl 0 rfl) ?_
          refine lv_lload hx hb dX2_chooseCoats_91 (lv_at hl 0 rfl) ?_
          refine lv_lneg hx hb dX2_chooseCoats_93 ?_
          refine lv_land hx hb dX2_chooseCoats_94 ?_
          refine lv_ldc2 hx hb hown w_6 dX2_chooseCoats_95 ?_
          refine lv_lxor hx hb dX2_chooseCoats_98 ?_
          refine lv_land hx hb dX2_chooseCoats_99 ?_
          refine lv_topl (fun v_f ev_f => ?_)
          have hv_f : v_f = qN (R_9 &&& (2 ^ k_9 ^^^ 18446744073709551615)) := by rw [ev_f, el_9, qN_clr]
          subst hv_f
          refine lv_lstore_n (lv' := [(1, .long (qN (R_9 &&& (2 ^ k_9 ^^^ 18446744073709551615)))), (5, .long (qN (opN en n9 i_16 R_9 N_9))), (4, .int (nI (behD D9 i_16))), (0, .ref h0), (3, .int (nI i_16))]) hx hb dX2_chooseCoats_100 rfl hl (by decide) rfl (fun ls hl => ?_)
          refine lv_iinc (v := nI (i_16 + 1)) (lv' := [(3, .int (nI (i_16 + 1))), (1, .long (qN (R_9 &&& (2 ^ k_9 ^^^ 18446744073709551615)))), (5, .long (qN (opN en n9 i_16 R_9 N_9))), (4, .int (nI (behD D9 i_16))), (0, .ref h0)]) hx hb dX2_chooseCoats_101 hl (k := 4) rfl (ax_add _ 1) (by decide) rfl (fun ls hl => ?_)
          refine lv_goto (tgt := 16) hx hb dX2_chooseCoats_104 (by decide) ?_
          exact ih_L_1 (i_16 + 1) (upd f_p1_16 i_16 (nI k_9)) (qN (R_9 &&& (2 ^ k_9 ^^^ 18446744073709551615))) _ _ ls (by omega) (by omega) ⟨_, rfl, hcc2⟩ hP hD hS (lv_sub hl [4, 1, 0] rfl)
  exact L_1 _ 0 f1 (qN (fS en n9 (2 ^ e9 - 1))) _ _ ls (Nat.lt_succ_self _) (by first | exact Nat.zero_le _ | omega) ⟨_, rfl, cc_0 hen hH9⟩ hP hD hS (lv_sub hl [2, 1, 0] rfl)

/-- what the plan tells -/
def plP (st sz cs gn : Nat → Int32) (sp : Int32) (n a g D : Nat) (f0 gv f3 : Nat → Int32) : Prop := g ≤ 8 ∧ gaI st sz f0 f3 g a ∧ drP (enG cs gn f3 sp g) n (fun j => (f3 j).toInt) g D ∧ chP (enG cs gn f3 sp g) n D g gv
theorem ga_nn {st sz f0 f3 : Nat → Int32} {g a : Nat} (h : gaI st sz f0 f3 g a) (hs : ∀ c, c < a → 0 ≤ (sz c).toInt) : ∀ i, i < g → 0 ≤ (f3 i).toInt := by
  have ex : ∀ m, m ≤ a → ∀ i, i < cntP st m → ∃ c, c < m ∧ st c = 1 ∧ cntP st c = i := by
    intro m
    induction m with
    | zero => intro _ i hi; exact absurd hi (Nat.not_lt_zero i)
    | succ m ih =>
      intro hm i hi
      by_cases q : st m = 1
      · rw [← cn_y rfl q] at hi
        by_cases w : i = cntP st m
        · exact ⟨m, by omega, q, w.symm⟩
        · obtain ⟨c, c1, c2⟩ := ih (by omega) i (by omega)
          exact ⟨c, by omega, c2⟩
      · rw [← cn_n rfl q] at hi
        obtain ⟨c, c1, c2⟩ := ih (by omega) i hi
        exact ⟨c, by omega, c2⟩
  intro i hi
  obtain ⟨c, c1, c2, c3⟩ := ex a (Nat.le_refl a) i (by rw [← h.1]; exact hi)
  rw [← c3, (h.2 c c1 c2).2]; exact hs c c1

set_option maxHeartbeats 4000000 in
set_option maxRecDepth 100000 in
theorem f_X2_plan (l : Launch) (D : va_G) (cB cI cJ cZ : ClassId) (sz : Nat) (h0 p0 p1 p3 p4 e9 : Nat) (b5 : Int32) (ch c0 c1 c2 c3 c4 c5 a : Nat) (wd w0 w1 w2 w3 aw : Nat) (f0 f1 f3 g2 g4 k0 k2 : Nat → Int32) (f4 : Nat → Int64) (sp : Int32) (ha : a ≤ 16) (haw : aw ≤ 40) (hz : ∀ k, k2 k = 0 ∨ k2 k = 1) (hc8 : cntP g4 a ≤ 8) (hsz : ∀ c, c < a → 0 ≤ (g2 c).toInt) : Met l yX2_plan wsX2_plan ({ frames := 3, cells := 0, slots := 0, locals := 75 } : Room) (cPre D (aTy cB cI cJ cZ) [(h0, .inr (2, [.ref p0, .ref p1, .int (nI e9), .ref p3, .ref p4, .int b5])), (p0, .inl (cI, 8, .inl f0)), (p1, .inl (cI, 8, .inl f1)), (p3, .inl (cI, 8, .inl f3)), (p4, .inl (cJ, 256, .inr (.inl f4))), (ch, .inr (1, [.ref c0, .ref c1, .ref c2, .ref c3, .ref c4, .ref c5, .int (nI a)])), (c2, .inl (cI, 16, .inl g2)), (c4, .inl (cI, 16, .inl g4)), (wd, .inr (6, [.ref w0, .ref w1, .ref w2, .ref w3, .int (nI aw)])), (w0, .inl (cI, 40, .inl k0)), (w2, .inl (cZ, 40, .inl k2))] sz [.ref h0, .ref ch, .ref wd, .int sp]) (va_Qv (fun (u : Nat × (Nat → Int32) × (Nat → Int32) × (Nat → Int32) × (Nat → Int64) × Nat) => plP g4 g2 k0 k2 sp aw a u.1 u.2.2.2.2.2 u.2.1 u.2.2.1 u.2.2.2.1) (cB_ D (aTy cB cI cJ cZ) (va_A [(h0, .inr (2, [.ref p0, .ref p1, .int (nI e9), .ref p3, .ref p4, .int b5])), (p0, .inl (cI, 8, .inl f0)), (p1, .inl (cI, 8, .inl f1)), (p3, .inl (cI, 8, .inl f3)), (p4, .inl (cJ, 256, .inr (.inl f4))), (ch, .inr (1, [.ref c0, .ref c1, .ref c2, .ref c3, .ref c4, .ref c5, .int (nI a)])), (c2, .inl (cI, 16, .inl g2)), (c4, .inl (cI, 16, .inl g4)), (wd, .inr (6, [.ref w0, .ref w1, .ref w2, .ref w3, .int (nI aw)])), (w0, .inl (cI, 40, .inl k0)), (w2, .inl (cZ, 40, .inl k2))] sz) (fun u => [(h0, .inr (2, [.ref p0, .ref p1, .int (nI (u.1)), .ref p3, .ref p4, .int (nI (u.2.2.2.2.2))])), (p0, .inl (cI, 8, .inl u.2.1)), (p1, .inl (cI, 8, .inl u.2.2.1)), (p3, .inl (cI, 8, .inl u.2.2.2.1)), (p4, .inl (cJ, 256, .inr (.inl u.2.2.2.2.1))), (ch, .inr (1, [.ref c0, .ref c1, .ref c2, .ref c3, .ref c4, .ref c5, .int (nI a)])), (c2, .inl (cI, 16, .inl g2)), (c4, .inl (cI, 16, .inl g4)), (wd, .inr (6, [.ref w0, .ref w1, .ref w2, .ref w3, .int (nI aw)])), (w0, .inl (cI, 40, .inl k0)), (w2, .inl (cZ, 40, .inl k2))])) (va_A [(h0, .inr (2, [.ref p0, .ref p1, .int (nI e9), .ref p3, .ref p4, .int b5])), (p0, .inl (cI, 8, .inl f0)), (p1, .inl (cI, 8, .inl f1)), (p3, .inl (cI, 8, .inl f3)), (p4, .inl (cJ, 256, .inr (.inl f4))), (ch, .inr (1, [.ref c0, .ref c1, .ref c2, .ref c3, .ref c4, .ref c5, .int (nI a)])), (c2, .inl (cI, 16, .inl g2)), (c4, .inl (cI, 16, .inl g4)), (wd, .inr (6, [.ref w0, .ref w1, .ref w2, .ref w3, .int (nI aw)])), (w0, .inl (cI, 40, .inl k0)), (w2, .inl (cZ, 40, .inl k2))] sz)) 0 0 (va_A [(h0, .inr (2, [.ref p0, .ref p1, .int (nI e9), .ref p3, .ref p4, .int b5])), (p0, .inl (cI, 8, .inl f0)), (p1, .inl (cI, 8, .inl f1)), (p3, .inl (cI, 8, .inl f3)), (p4, .inl (cJ, 256, .inr (.inl f4))), (ch, .inr (1, [.ref c0, .ref c1, .ref c2, .ref c3, .ref c4, .ref c5, .int (nI a)])), (c2, .inl (cI, 16, .inl g2)), (c4, .inl (cI, 16, .inl g4)), (wd, .inr (6, [.ref w0, .ref w1, .ref w2, .ref w3, .int (nI aw)])), (w0, .inl (cI, 40, .inl k0)), (w2, .inl (cZ, 40, .inl k2))] sz) := by
  refine Met.ofW (cc := cX2_plan) (maxL := 4) (ret := none) (by decide) rfl ?_
  intro p e s m args below meth c s₁ B hml hv
  obtain ⟨rfl, hsz, hP, hK, hD0⟩ := hv
  have hx := B.exec
  have hb := B.bytes
  have hr := B.returns
  have hts := atoms_spec (ws := wsX2_plan) B.pre
  have hown : s.vm.findClass RX2 = some m.cls := findClass_of_methodNamed B.named
  have hlocks := B.notSynchronized
  subst hsz
  have hD := hD0.self (sz := s.heap.size)
  generalize hAe : va_A [(h0, .inr (2, [.ref p0, .ref p1, .int (nI e9), .ref p3, .ref p4, .int b5])), (p0, .inl (cI, 8, .inl f0)), (p1, .inl (cI, 8, .inl f1)), (p3, .inl (cI, 8, .inl f3)), (p4, .inl (cJ, 256, .inr (.inl f4))), (ch, .inr (1, [.ref c0, .ref c1, .ref c2, .ref c3, .ref c4, .ref c5, .int (nI a)])), (c2, .inl (cI, 16, .inl g2)), (c4, .inl (cI, 16, .inl g4)), (wd, .inr (6, [.ref w0, .ref w1, .ref w2, .ref w3, .int (nI aw)])), (w0, .inl (cI, 40, .inl k0)), (w2, .inl (cZ, 40, .inl k2))] s.heap.size = A at hD ⊢
  have hA : ∀ q : Nat, s.heap.size ≤ q → A q := fun q h => by rw [← hAe]; exact Or.inr h
  have hS : va_S A s.heap s.heap [] := va_S.rf
  have hP : va_P D vwCl [(h0, .inr (2, [.ref p0, .ref p1, .int (nI e9), .ref p3, .ref p4, .int b5])), (p0, .inl (cI, 8, .inl f0)), (p1, .inl (cI, 8, .inl f1)), (p3, .inl (cI, 8, .inl f3)), (p4, .inl (cJ, 256, .inr (.inl f4))), (ch, .inr (1, [.ref c0, .ref c1, .ref c2, .ref c3, .ref c4, .ref c5, .int (nI a)])), (c2, .inl (cI, 16, .inl g2)), (c4, .inl (cI, 16, .inl g4)), (wd, .inr (6, [.ref w0, .ref w1, .ref w2, .ref w3, .int (nI aw)])), (w0, .inl (cI, 40, .inl k0)), (w2, .inl (cZ, 40, .inl k2))] s.heap := hP
  have hl := lv_entry ([.ref h0, .ref ch, .ref wd, .int sp]) (n := 4) (Nat.le_of_ble_eq_true rfl)
  rw [lg_entry_eq]
  generalize (lg_sl ([.ref h0, .ref ch, .ref wd, .int sp]) ++ List.replicate (4 - (lg_sl ([.ref h0, .ref ch, .ref wd, .int sp])).length) Slot.unset).toArray = ls at hl ⊢
  have hl : lv_has ls 4 [(0, .ref h0), (1, .ref ch), (2, .ref wd), (3, .int sp)] := hl
  refine lv_aload_n hx hb dX2_plan_0 rfl (lv_at hl 0 rfl) ?_
  refine lv_aload_n hx hb dX2_plan_1 rfl (lv_at hl 1 rfl) ?_
  refine cl_v (wc := [(h0, .inr (2, [.ref p0, .ref p1, .int (nI e9), .ref p3, .ref p4, .int b5])), (p0, .inl (cI, 8, .inl f0)), (p3, .inl (cI, 8, .inl f3)), (ch, .inr (1, [.ref c0, .ref c1, .ref c2, .ref c3, .ref c4, .ref c5, .int (nI a)])), (c2, .inl (cI, 16, .inl g2)), (c4, .inl (cI, 16, .inl g4))]) (wr := [(p1, .inl (cI, 8, .inl f1)), (p4, .inl (cJ, 256, .inr (.inl f4))), (wd, .inr (6, [.ref w0, .ref w1, .ref w2, .ref w3, .int (nI aw)])), (w0, .inl (cI, 40, .inl k0)), (w2, .inl (cZ, 40, .inl k2))]) (va_runV (As := [.ref ch]) (rest := []) ⟨hx, hb, hml, hown, hts⟩ (f_X2_gather l D cB cI cJ cZ s.heap.size h0 p0 p1 p3 p4 e9 b5 ch c0 c1 c2 c3 c4 c5 a f0 f3 g2 g4 ha hc8) (cwV 1 hts gX2_plan_X2_gather rfl rfl rfl (by decide +kernel) ⟨Nat.le_of_ble_eq_true rfl, Nat.le_of_ble_eq_true rfl⟩) (pre_V (hP.sub (ws' := [(h0, .inr (2, [.ref p0, .ref p1, .int (nI e9), .ref p3, .ref p4, .int b5])), (p0, .inl (cI, 8, .inl f0)), (p3, .inl (cI, 8, .inl f3)), (ch, .inr (1, [.ref c0, .ref c1, .ref c2, .ref c3, .ref c4, .ref c5, .int (nI a)])), (c2, .inl (cI, 16, .inl g2)), (c4, .inl (cI, 16, .inl g4))]) [0, 1, 3, 5, 6, 7] rfl) hK (hD.sub (ws' := [(h0, .inr (2, [.ref p0, .ref p1, .int (nI e9), .ref p3, .ref p4, .int b5])), (p0, .inl (cI, 8, .inl f0)), (p3, .inl (cI, 8, .inl f3)), (ch, .inr (1, [.ref c0, .ref c1, .ref c2, .ref c3, .ref c4, .ref c5, .int (nI a)])), (c2, .inl (cI, 16, .inl g2)), (c4, .inl (cI, 16, .inl g4))]) [0, 1, 3, 5, 6, 7] (by decide) rfl) 0 rfl rfl rfl) rfl rfl hl.1 rfl (lv_room (Nat.le_of_ble_eq_true rfl)) dX2_plan_2 ⟨Nat.le_of_ble_eq_true rfl, Nat.le_of_ble_eq_true rfl⟩) hP hD hS hA [0, 1, 3, 5, 6, 7] [2, 4, 8, 9, 10] rfl rfl (by decide) (by decide) 0 0 rfl rfl (fun u_2 H locs hw_u_2 hP hD hS => ?_)
  have hP : va_P D vwCl [(p1, .inl (cI, 8, .inl f1)), (p4, .inl (cJ, 256, .inr (.inl f4))), (wd, .inr (6, [.ref w0, .ref w1, .ref w2, .ref w3, .int (nI aw)])), (w0, .inl (cI, 40, .inl k0)), (w2, .inl (cZ, 40, .inl k2)), (h0, .inr (2, [.ref p0, .ref p1, .int (nI (u_2.1)), .ref p3, .ref p4, .int b5])), (p0, .inl (cI, 8, .inl u_2.2.1)), (p3, .inl (cI, 8, .inl u_2.2.2)), (ch, .inr (1, [.ref c0, .ref c1, .ref c2, .ref c3, .ref c4, .ref c5, .int (nI a)])), (c2, .inl (cI, 16, .inl g2)), (c4, .inl (cI, 16, .inl g4))] H := hP
  have hD : va_D A [(p1, .inl (cI, 8, .inl f1)), (p4, .inl (cJ, 256, .inr (.inl f4))), (wd, .inr (6, [.ref w0, .ref w1, .ref w2, .ref w3, .int (nI aw)])), (w0, .inl (cI, 40, .inl k0)), (w2, .inl (cZ, 40, .inl k2)), (h0, .inr (2, [.ref p0, .ref p1, .int (nI (u_2.1)), .ref p3, .ref p4, .int b5])), (p0, .inl (cI, 8, .inl u_2.2.1)), (p3, .inl (cI, 8, .inl u_2.2.2)), (ch, .inr (1, [.ref c0, .ref c1, .ref c2, .ref c3, .ref c4, .ref c5, .int (nI a)])), (c2, .inl (cI, 16, .inl g2)), (c4, .inl (cI, 16, .inl g4))] := hD
  refine lv_aload_n hx hb dX2_plan_5 rfl (lv_at hl 0 rfl) ?_
  refine lv_aload_n hx hb dX2_plan_6 rfl (lv_at hl 2 rfl) ?_
  refine lv_iload_n hx hb dX2_plan_7 rfl (lv_at hl 3 rfl) ?_
  refine cl_v (wc := [(h0, .inr (2, [.ref p0, .ref p1, .int (nI (u_2.1)), .ref p3, .ref p4, .int b5])), (p3, .inl (cI, 8, .inl u_2.2.2)), (p4, .inl (cJ, 256, .inr (.inl f4))), (wd, .inr (6, [.ref w0, .ref w1, .ref w2, .ref w3, .int (nI aw)])), (w0, .inl (cI, 40, .inl k0)), (w2, .inl (cZ, 40, .inl k2))]) (wr := [(p1, .inl (cI, 8, .inl f1)), (p0, .inl (cI, 8, .inl u_2.2.1)), (ch, .inr (1, [.ref c0, .ref c1, .ref c2, .ref c3, .ref c4, .ref c5, .int (nI a)])), (c2, .inl (cI, 16, .inl g2)), (c4, .inl (cI, 16, .inl g4))]) (va_runV (As := [.ref wd, .int sp]) (rest := []) ⟨hx, hb, hml, hown, hts⟩ (f_X2_measure l D cB cI cJ cZ H.size h0 p0 p1 p3 p4 (u_2.1) b5 wd w0 w1 w2 w3 aw k0 k2 (enG k0 k2 u_2.2.2 sp u_2.1) sp u_2.2.2 f4 hw_u_2.1 haw hz rfl) (cwV 2 hts gX2_plan_X2_measure rfl rfl rfl (by decide +kernel) ⟨Nat.le_of_ble_eq_true rfl, Nat.le_of_ble_eq_true rfl⟩) (pre_V (hP.sub (ws' := [(h0, .inr (2, [.ref p0, .ref p1, .int (nI (u_2.1)), .ref p3, .ref p4, .int b5])), (p3, .inl (cI, 8, .inl u_2.2.2)), (p4, .inl (cJ, 256, .inr (.inl f4))), (wd, .inr (6, [.ref w0, .ref w1, .ref w2, .ref w3, .int (nI aw)])), (w0, .inl (cI, 40, .inl k0)), (w2, .inl (cZ, 40, .inl k2))]) [5, 7, 1, 2, 3, 4] rfl) hK (hD.sub (ws' := [(h0, .inr (2, [.ref p0, .ref p1, .int (nI (u_2.1)), .ref p3, .ref p4, .int b5])), (p3, .inl (cI, 8, .inl u_2.2.2)), (p4, .inl (cJ, 256, .inr (.inl f4))), (wd, .inr (6, [.ref w0, .ref w1, .ref w2, .ref w3, .int (nI aw)])), (w0, .inl (cI, 40, .inl k0)), (w2, .inl (cZ, 40, .inl k2))]) [5, 7, 1, 2, 3, 4] (by decide) rfl) 0 rfl rfl rfl) rfl rfl hl.1 rfl (lv_room (Nat.le_of_ble_eq_true rfl)) dX2_plan_8 ⟨Nat.le_of_ble_eq_true rfl, Nat.le_of_ble_eq_true rfl⟩) hP hD hS hA [5, 7, 1, 2, 3, 4] [0, 6, 8, 9, 10] rfl rfl (by decide) (by decide) 0 0 rfl rfl (fun u_4 H locs hw_u_4 hP hD hS => ?_)
  have hP : va_P D vwCl [(p1, .inl (cI, 8, .inl f1)), (p0, .inl (cI, 8, .inl u_2.2.1)), (ch, .inr (1, [.ref c0, .ref c1, .ref c2, .ref c3, .ref c4, .ref c5, .int (nI a)])), (c2, .inl (cI, 16, .inl g2)), (c4, .inl (cI, 16, .inl g4)), (h0, .inr (2, [.ref p0, .ref p1, .int (nI (u_2.1)), .ref p3, .ref p4, .int b5])), (p3, .inl (cI, 8, .inl u_2.2.2)), (p4, .inl (cJ, 256, .inr (.inl u_4))), (wd, .inr (6, [.ref w0, .ref w1, .ref w2, .ref w3, .int (nI aw)])), (w0, .inl (cI, 40, .inl k0)), (w2, .inl (cZ, 40, .inl k2))] H := hP
  have hD : va_D A [(p1, .inl (cI, 8, .inl f1)), (p0, .inl (cI, 8, .inl u_2.2.1)), (ch, .inr (1, [.ref c0, .ref c1, .ref c2, .ref c3, .ref c4, .ref c5, .int (nI a)])), (c2, .inl (cI, 16, .inl g2)), (c4, .inl (cI, 16, .inl g4)), (h0, .inr (2, [.ref p0, .ref p1, .int (nI (u_2.1)), .ref p3, .ref p4, .int b5])), (p3, .inl (cI, 8, .inl u_2.2.2)), (p4, .inl (cJ, 256, .inr (.inl u_4))), (wd, .inr (6, [.ref w0, .ref w1, .ref w2, .ref w3, .int (nI aw)])), (w0, .inl (cI, 40, .inl k0)), (w2, .inl (cZ, 40, .inl k2))] := hD
  refine lv_aload_n hx hb dX2_plan_11 rfl (lv_at hl 0 rfl) ?_
  refine cl_v (wc := [(h0, .inr (2, [.ref p0, .ref p1, .int (nI (u_2.1)), .ref p3, .ref p4, .int b5])), (p3, .inl (cI, 8, .inl u_2.2.2)), (p4, .inl (cJ, 256, .inr (.inl u_4)))]) (wr := [(p1, .inl (cI, 8, .inl f1)), (p0, .inl (cI, 8, .inl u_2.2.1)), (ch, .inr (1, [.ref c0, .ref c1, .ref c2, .ref c3, .ref c4, .ref c5, .int (nI a)])), (c2, .inl (cI, 16, .inl g2)), (c4, .inl (cI, 16, .inl g4)), (wd, .inr (6, [.ref w0, .ref w1, .ref w2, .ref w3, .int (nI aw)])), (w0, .inl (cI, 40, .inl k0)), (w2, .inl (cZ, 40, .inl k2))]) (va_runV (As := []) (rest := []) ⟨hx, hb, hml, hown, hts⟩ (f_X2_dressed l D cB cI cJ cZ H.size h0 p0 p1 p3 p4 (u_2.1) b5 (enG k0 k2 u_2.2.2 sp u_2.1) aw u_2.2.2 u_4 hw_u_2.1 haw hw_u_4 (ga_nn hw_u_2.2 hsz)) (cwV 0 hts gX2_plan_X2_chooseDressed rfl rfl rfl (by decide +kernel) ⟨Nat.le_of_ble_eq_true rfl, Nat.le_of_ble_eq_true rfl⟩) (pre_V (hP.sub (ws' := [(h0, .inr (2, [.ref p0, .ref p1, .int (nI (u_2.1)), .ref p3, .ref p4, .int b5])), (p3, .inl (cI, 8, .inl u_2.2.2)), (p4, .inl (cJ, 256, .inr (.inl u_4)))]) [5, 6, 7] rfl) hK (hD.sub (ws' := [(h0, .inr (2, [.ref p0, .ref p1, .int (nI (u_2.1)), .ref p3, .ref p4, .int b5])), (p3, .inl (cI, 8, .inl u_2.2.2)), (p4, .inl (cJ, 256, .inr (.inl u_4)))]) [5, 6, 7] (by decide) rfl) 0 rfl rfl rfl) rfl rfl hl.1 rfl (lv_room (Nat.le_of_ble_eq_true rfl)) dX2_plan_12 ⟨Nat.le_of_ble_eq_true rfl, Nat.le_of_ble_eq_true rfl⟩) hP hD hS hA [5, 6, 7] [0, 1, 2, 3, 4, 8, 9, 10] rfl rfl (by decide) (by decide) 0 0 rfl rfl (fun u_6 H locs hw_u_6 hP hD hS => ?_)
  have hP : va_P D vwCl [(p1, .inl (cI, 8, .inl f1)), (p0, .inl (cI, 8, .inl u_2.2.1)), (ch, .inr (1, [.ref c0, .ref c1, .ref c2, .ref c3, .ref c4, .ref c5, .int (nI a)])), (c2, .inl (cI, 16, .inl g2)), (c4, .inl (cI, 16, .inl g4)), (wd, .inr (6, [.ref w0, .ref w1, .ref w2, .ref w3, .int (nI aw)])), (w0, .inl (cI, 40, .inl k0)), (w2, .inl (cZ, 40, .inl k2)), (h0, .inr (2, [.ref p0, .ref p1, .int (nI (u_2.1)), .ref p3, .ref p4, .int (nI u_6)])), (p3, .inl (cI, 8, .inl u_2.2.2)), (p4, .inl (cJ, 256, .inr (.inl u_4)))] H := hP
  have hD : va_D A [(p1, .inl (cI, 8, .inl f1)), (p0, .inl (cI, 8, .inl u_2.2.1)), (ch, .inr (1, [.ref c0, .ref c1, .ref c2, .ref c3, .ref c4, .ref c5, .int (nI a)])), (c2, .inl (cI, 16, .inl g2)), (c4, .inl (cI, 16, .inl g4)), (wd, .inr (6, [.ref w0, .ref w1, .ref w2, .ref w3, .int (nI aw)])), (w0, .inl (cI, 40, .inl k0)), (w2, .inl (cZ, 40, .inl k2)), (h0, .inr (2, [.ref p0, .ref p1, .int (nI (u_2.1)), .ref p3, .ref p4, .int (nI u_6)])), (p3, .inl (cI, 8, .inl u_2.2.2)), (p4, .inl (cJ, 256, .inr (.inl u_4)))] := hD
  refine lv_aload_n hx hb dX2_plan_15 rfl (lv_at hl 0 rfl) ?_
  refine cl_v (wc := [(h0, .inr (2, [.ref p0, .ref p1, .int (nI (u_2.1)), .ref p3, .ref p4, .int (nI u_6)])), (p1, .inl (cI, 8, .inl f1)), (p4, .inl (cJ, 256, .inr (.inl u_4)))]) (wr := [(p0, .inl (cI, 8, .inl u_2.2.1)), (ch, .inr (1, [.ref c0, .ref c1, .ref c2, .ref c3, .ref c4, .ref c5, .int (nI a)])), (c2, .inl (cI, 16, .inl g2)), (c4, .inl (cI, 16, .inl g4)), (wd, .inr (6, [.ref w0, .ref w1, .ref w2, .ref w3, .int (nI aw)])), (w0, .inl (cI, 40, .inl k0)), (w2, .inl (cZ, 40, .inl k2)), (p3, .inl (cI, 8, .inl u_2.2.2))]) (va_runV (As := []) (rest := []) ⟨hx, hb, hml, hown, hts⟩ (f_X2_coats l D cB cI cJ cZ H.size h0 p0 p1 p3 p4 (u_2.1) u_6 (enG k0 k2 u_2.2.2 sp u_2.1) aw f1 u_4 hw_u_2.1 haw hw_u_6.1 hw_u_4 (fun c _ => mk_lt _ _) hw_u_6.2.1) (cwV 0 hts gX2_plan_X2_chooseCoats rfl rfl rfl (by decide +kernel) ⟨Nat.le_of_ble_eq_true rfl, Nat.le_of_ble_eq_true rfl⟩) (pre_V (hP.sub (ws' := [(h0, .inr (2, [.ref p0, .ref p1, .int (nI (u_2.1)), .ref p3, .ref p4, .int (nI u_6)])), (p1, .inl (cI, 8, .inl f1)), (p4, .inl (cJ, 256, .inr (.inl u_4)))]) [8, 0, 10] rfl) hK (hD.sub (ws' := [(h0, .inr (2, [.ref p0, .ref p1, .int (nI (u_2.1)), .ref p3, .ref p4, .int (nI u_6)])), (p1, .inl (cI, 8, .inl f1)), (p4, .inl (cJ, 256, .inr (.inl u_4)))]) [8, 0, 10] (by decide) rfl) 0 rfl rfl rfl) rfl rfl hl.1 rfl (lv_room (Nat.le_of_ble_eq_true rfl)) dX2_plan_16 ⟨Nat.le_of_ble_eq_true rfl, Nat.le_of_ble_eq_true rfl⟩) hP hD hS hA [8, 0, 10] [1, 2, 3, 4, 5, 6, 7, 9] rfl rfl (by decide) (by decide) 0 0 rfl rfl (fun u_8 H locs hw_u_8 hP hD hS => ?_)
  have hP : va_P D vwCl [(p0, .inl (cI, 8, .inl u_2.2.1)), (ch, .inr (1, [.ref c0, .ref c1, .ref c2, .ref c3, .ref c4, .ref c5, .int (nI a)])), (c2, .inl (cI, 16, .inl g2)), (c4, .inl (cI, 16, .inl g4)), (wd, .inr (6, [.ref w0, .ref w1, .ref w2, .ref w3, .int (nI aw)])), (w0, .inl (cI, 40, .inl k0)), (w2, .inl (cZ, 40, .inl k2)), (p3, .inl (cI, 8, .inl u_2.2.2)), (h0, .inr (2, [.ref p0, .ref p1, .int (nI (u_2.1)), .ref p3, .ref p4, .int (nI u_6)])), (p1, .inl (cI, 8, .inl u_8)), (p4, .inl (cJ, 256, .inr (.inl u_4)))] H := hP
  have hD : va_D A [(p0, .inl (cI, 8, .inl u_2.2.1)), (ch, .inr (1, [.ref c0, .ref c1, .ref c2, .ref c3, .ref c4, .ref c5, .int (nI a)])), (c2, .inl (cI, 16, .inl g2)), (c4, .inl (cI, 16, .inl g4)), (wd, .inr (6, [.ref w0, .ref w1, .ref w2, .ref w3, .int (nI aw)])), (w0, .inl (cI, 40, .inl k0)), (w2, .inl (cZ, 40, .inl k2)), (p3, .inl (cI, 8, .inl u_2.2.2)), (h0, .inr (2, [.ref p0, .ref p1, .int (nI (u_2.1)), .ref p3, .ref p4, .int (nI u_6)])), (p1, .inl (cI, 8, .inl u_8)), (p4, .inl (cJ, 256, .inr (.inl u_4)))] := hD
  have hP9 := hP.sub (ws' := [(h0, .inr (2, [.ref p0, .ref p1, .int (nI (u_2.1)), .ref p3, .ref p4, .int (nI u_6)])), (p0, .inl (cI, 8, .inl u_2.2.1)), (p1, .inl (cI, 8, .inl u_8)), (p3, .inl (cI, 8, .inl u_2.2.2)), (p4, .inl (cJ, 256, .inr (.inl u_4))), (ch, .inr (1, [.ref c0, .ref c1, .ref c2, .ref c3, .ref c4, .ref c5, .int (nI a)])), (c2, .inl (cI, 16, .inl g2)), (c4, .inl (cI, 16, .inl g4)), (wd, .inr (6, [.ref w0, .ref w1, .ref w2, .ref w3, .int (nI aw)])), (w0, .inl (cI, 40, .inl k0)), (w2, .inl (cZ, 40, .inl k2))]) [8, 0, 9, 7, 10, 1, 2, 3, 4, 5, 6] rfl
  have hD9 := hD.sub (ws' := [(h0, .inr (2, [.ref p0, .ref p1, .int (nI (u_2.1)), .ref p3, .ref p4, .int (nI u_6)])), (p0, .inl (cI, 8, .inl u_2.2.1)), (p1, .inl (cI, 8, .inl u_8)), (p3, .inl (cI, 8, .inl u_2.2.2)), (p4, .inl (cJ, 256, .inr (.inl u_4))), (ch, .inr (1, [.ref c0, .ref c1, .ref c2, .ref c3, .ref c4, .ref c5, .int (nI a)])), (c2, .inl (cI, 16, .inl g2)), (c4, .inl (cI, 16, .inl g4)), (wd, .inr (6, [.ref w0, .ref w1, .ref w2, .ref w3, .int (nI aw)])), (w0, .inl (cI, 40, .inl k0)), (w2, .inl (cZ, 40, .inl k2))]) [8, 0, 9, 7, 10, 1, 2, 3, 4, 5, 6] (by decide) rfl
  exact W.vret hx hb hr (fun t ht hW => ⟨⟨((u_2.1), u_2.2.1, u_8, u_2.2.2, u_4, u_6), rfl, ⟨hw_u_2.1, hw_u_2.2, hw_u_6, hw_u_8⟩, by rw [ht]; exact hP9, va_K.moved hW.alike hK, hD9⟩, hS.F ht⟩) hS.2.2 dX2_plan_19

set_option maxHeartbeats 4000000 in
set_option maxRecDepth 100000 in
theorem f_X2_new (l : Launch) (D : va_G) (cB cI cJ cZ : ClassId) (h0 p0 p1 p3 p4 e9 D9 : Nat) : Met l yX2_newCoats wsX2_newCoats ({ frames := 1, cells := 0, slots := 0, locals := 20 } : Room) (cRd D (aTy cB cI cJ cZ) [(h0, .inr (2, [.ref p0, .ref p1, .int (nI e9), .ref p3, .ref p4, .int (nI D9)]))] [.ref h0]) (vp_Si (fun r : Int32 => r = nI e9 - bcI (nI D9))) 0 0 (fun _ => False) := by
  refine Met.ofW (cc := cX2_newCoats) (maxL := 1) (ret := (some .int)) (by decide) rfl ?_
  intro p e s m args below meth c s₁ B hml hv
  obtain ⟨rfl, hP, hK⟩ := hv
  have hx := B.exec
  have hb := B.bytes
  have hr := B.returns
  have hts := atoms_spec (ws := wsX2_newCoats) B.pre
  have hown : s.vm.findClass RX2 = some m.cls := findClass_of_methodNamed B.named
  have hlocks := B.notSynchronized
  have hP : va_P D vwCl [(h0, .inr (2, [.ref p0, .ref p1, .int (nI e9), .ref p3, .ref p4, .int (nI D9)]))] s.heap := hP
  have w_1 : ∀ w ∈ wsX20, w ∈ wsX2_newCoats := by decide +kernel
  have w_2 := hts (Cond.fieldLink RX2 39 "BlueCoats$Dressing" "guests" "I") (by decide +kernel)
  have w_3 := hts (Cond.fieldLink RX2 43 "BlueCoats$Dressing" "dressed" "I") (by decide +kernel)
  have hl := lv_entry ([.ref h0]) (n := 1) (Nat.le_of_ble_eq_true rfl)
  rw [lg_entry_eq]
  generalize (lg_sl ([.ref h0]) ++ List.replicate (1 - (lg_sl ([.ref h0])).length) Slot.unset).toArray = ls at hl ⊢
  have hl : lv_has ls 1 [(0, .ref h0)] := hl
  refine lv_aload_n hx hb dX2_newCoats_0 rfl (lv_at hl 0 rfl) ?_
  refine va_get (D := D) (ci := 2) (v := .int (nI e9)) (C := RX2) (T := TX2) (N := 6) hx hb hts w_1 hown hK hP 0 rfl rfl 2 (by decide) w_2 (fun _ h9 => h9) rfl dX2_newCoats_1 ?_
  refine lv_aload_n hx hb dX2_newCoats_4 rfl (lv_at hl 0 rfl) ?_
  refine va_get (D := D) (ci := 2) (v := .int (nI D9)) (C := RX2) (T := TX2) (N := 6) hx hb hts w_1 hown hK hP 0 rfl rfl 5 (by decide) w_3 (fun _ h9 => h9) rfl dX2_newCoats_5 ?_
  refine vp_callSi (va_Run.run (va_runS (As := [.int (nI D9)]) (rest := [.int (nI e9)]) ⟨hx, hb, hml, hown, hts⟩ (f_bitI l D cB cI cJ cZ (nI D9)) (va_cwS 1 hts gX2_newCoats_J6_bitCount_0f7a4 rfl rfl rfl (by decide +kernel) ⟨Nat.le_of_ble_eq_true rfl, Nat.le_of_ble_eq_true rfl⟩) (pre_SR (hP.sub (ws' := []) [] rfl) hK) rfl rfl hl.1 rfl (lv_room (Nat.le_of_ble_eq_true rfl)) dX2_newCoats_8 ⟨Nat.le_of_ble_eq_true rfl, Nat.le_of_ble_eq_true rfl⟩)) (fun r_1 hw_r_1 => ?_)
  refine sv_isub (v := (nI e9) - r_1) hx hb dX2_newCoats_11 rfl ?_
  exact W.iret (v := (nI e9) - r_1) hx hb hr (fun t ht hW => ⟨_, rfl, by rw [hw_r_1], ht⟩) (fun q h => nomatch h) dX2_newCoats_12

