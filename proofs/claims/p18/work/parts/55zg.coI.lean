/-! What holds of coats between the calls. -/
def coI (wa ca : Nat) (k15 k16 w18 w19 w20 w21 : Nat → Int32) (mk : Nat) (mz mo mg mw : Nat → Int32) : Prop := (wa = mk ∧ w18 = mz ∧ w20 = mg ∧ w21 = mw) ∧ (∀ k, k < wa → w20 k = 0 → w19 k = mo k) ∧ (∀ k, k < wa → ¬ w20 k = 0 → w21 k = -1) ∧ coW wa ca w21 k16 ∧ cntP k15 ca ≤ 8
theorem co_i0 : coI 0 0 (fun _ => 0) (fun _ => 0) (fun _ => 0) (fun _ => 0) (fun _ => 0) (fun _ => 0) 0 (fun _ => 0) (fun _ => 0) (fun _ => 0) (fun _ => 0) := ⟨⟨rfl, rfl, rfl, rfl⟩, fun k h => absurd h (Nat.not_lt_zero k), fun k h => absurd h (Nat.not_lt_zero k), ⟨fun k h => absurd h (Nat.not_lt_zero k), fun k h => absurd h (Nat.not_lt_zero k)⟩, Nat.zero_le 8⟩
theorem cnt_le {st st' : Nat → Int32} : ∀ {n : Nat}, (∀ j, j < n → st' j = 1 → st j = 1) → cntP st' n ≤ cntP st n
  | 0, _ => Nat.le_refl 0
  | n + 1, h => by
    have ih := cnt_le (st := st) (st' := st') (n := n) (fun j hj => h j (by omega))
    show cntP st' n + (if st' n = 1 then 1 else 0) ≤ cntP st n + (if st n = 1 then 1 else 0)
    by_cases q : st' n = 1
    · rw [if_pos q, if_pos (h n (by omega) q)]; omega
    · rw [if_neg q]; omega
theorem cnt_ub {st : Nat → Int32} : ∀ n, cntP st n ≤ n
  | 0 => Nat.le_refl 0
  | n + 1 => by
    have ih := cnt_ub (st := st) n
    show cntP st n + (if st n = 1 then 1 else 0) ≤ n + 1
    split <;> omega
theorem cnt_up {st : Nat → Int32} {c : Nat} : ∀ n, cntP (upd st c 1) n ≤ cntP st n + (if c < n then 1 else 0)
  | 0 => Nat.zero_le _
  | n + 1 => by
    have ih := cnt_up (st := st) (c := c) n
    show cntP (upd st c 1) n + (if upd st c 1 n = 1 then 1 else 0) ≤ cntP st n + (if st n = 1 then 1 else 0) + (if c < n + 1 then 1 else 0)
    by_cases q : n = c
    · rw [if_neg (by omega)] at ih
      rw [if_pos (show c < n + 1 by omega)]
      have h1 : (if upd st c 1 n = 1 then 1 else 0) ≤ 1 := by split <;> omega
      omega
    · rw [pk_un q]
      by_cases z : c < n
      · rw [if_pos z] at ih
        rw [if_pos (show c < n + 1 by omega)]
        omega
      · rw [if_neg z] at ih
        rw [if_neg (show ¬ c < n + 1 by omega)]
        omega
section CO
variable {wa ca mk : Nat} {k11 k12 k13 k14 k15 k16 w18 w19 w20 w21 mz mo mg mw : Nat → Int32}
theorem co_child {c1 : Nat} {q0 q1 q2 q3 r : Int32} {l11 l12 l13 l14 l15 l16 : Nat → Int32} (h : coI wa ca k15 k16 w18 w19 w20 w21 mk mz mo mg mw) (h1 : chQ ca k11 k12 k13 k14 k15 q0 q1 q2 q3 r c1 l11 l12 l13 l14 l15) (h2 : (c1 = ca ∧ l16 = k16) ∨ (c1 = ca + 1 ∧ l16 = upd k16 ca (-1))) : coI wa c1 l15 l16 w18 w19 w20 w21 mk mz mo mg mw := by
  obtain ⟨a, b, c, d, e⟩ := h
  rcases h1 with ⟨-, z2, ⟨-, -, -, -, z7⟩, -⟩ | ⟨-, -, z3, -, -, -, -, -, z9⟩ <;> rcases h2 with ⟨y1, y2⟩ | ⟨y1, y2⟩
  · subst z2; subst z7; subst y2; exact ⟨a, b, c, d, e⟩
  · omega
  · omega
  · subst z3; subst z9; subst y2
    refine ⟨a, b, c, ⟨fun k hk => ?_, fun j hj => ?_⟩, ?_⟩
    · rcases d.1 k hk with z | ⟨j, j1, j2, j3⟩
      · exact Or.inl z
      · exact Or.inr ⟨j, by omega, j2, by rw [pk_un (by omega)]; exact j3⟩
    · by_cases q : j = ca
      · rw [q, pk_us]; exact Or.inl rfl
      · rw [pk_un q]; exact d.2 j (by omega)
    · have h1 : cntP (upd k15 ca 0) ca = cntP (upd k15 ca 0) (ca + 1) := cn_n rfl (by rw [pk_us]; decide)
      have h2 : cntP (upd k15 ca 0) ca ≤ cntP k15 ca := cnt_le (fun j hj z => by rw [pk_un (by omega)] at z; exact z)
      omega
theorem co_fill {ga x y m : Nat} {gv gs re l15 : Nat → Int32} {pr lo hi pl gx r gx1 e21 : Int32} (h : coI wa ca k15 k16 w18 w19 w20 w21 mk mz mo mg mw) (hca : ca ≤ 16) (hp : ∃ v, pl = nI v ∧ 1 ≤ v ∧ v ≤ 8) (h1 : fiP ga x ca y m gv gs k15 k11 k12 re pr lo hi pl gx r gx1 e21 l15) : coI wa ca l15 k16 w18 w19 w20 w21 mk mz mo mg mw := by
  obtain ⟨a, b, c, d, e⟩ := h
  refine ⟨a, b, c, d, ?_⟩
  rcases h1 with ⟨-, -, -, -, z⟩ | ⟨z0, -, ⟨-, -, z⟩ | ⟨-, -, z⟩⟩
  · rw [z]; exact e
  · rw [z]; exact e
  · obtain ⟨v, v1, v2, v3⟩ := hp
    have u := cnt_ub (st := k15) ca
    rw [v1, nI_ltI (by omega) (by omega)] at z0
    have w := cnt_up (st := k15) (c := r.toNatClampNeg) ca
    have t : (if r.toNatClampNeg < ca then 1 else 0) ≤ 1 := by split <;> omega
    rw [z]; omega
theorem yw_or {st ag we : Nat → Int32} {hi : Int32} {n : Nat} (k : Nat) : ∀ i, ywS st ag hi n we i k = -1 ∨ ywS st ag hi n we i k = we k
  | 0 => Or.inr rfl
  | i + 1 => by
    have ih := yw_or (st := st) (ag := ag) (we := we) (hi := hi) (n := n) k i
    by_cases q : st i = 1 ∧ hi ≤ gA (ag i)
    · rw [show ywS st ag hi n we (i + 1) = rmW (ywS st ag hi n we i) n (nI i) from if_pos q]
      by_cases z : k < n ∧ ywS st ag hi n we i k = nI i
      · exact Or.inl (if_pos z)
      · rw [show rmW (ywS st ag hi n we i) n (nI i) k = ywS st ag hi n we i k from if_neg z]; exact ih
    · rw [show ywS st ag hi n we (i + 1) = ywS st ag hi n we i from if_neg q]; exact ih
theorem co_year {mc : Nat} {mt ma l11 l13 l15 l16 l19 l20 l21 no ng nw : Nat → Int32} {hi mh we me : Int32} (h : coI wa ca k15 k16 w18 w19 w20 w21 mk mz mo mg mw) (F6 : k15 = mt) (F2 : k11 = ma) (E3 : ca = mc) (L5 : hi = mh) (L6 : we = me) (hz : ∀ k, w20 k = 0 ∨ w20 k = 1) (hy : yeP k15 k11 k13 k14 hi ca l15 l11 l13) (h1 : yoX w19 w20 (ywS k15 k11 hi wa w21 ca) we wa l19 l20 l21 ∧ coW wa ca l21 l16) (h2 : yoM mo mg (ywS mt ma mh mk mw mc) me mk no ng nw) : coI wa ca l15 l16 w18 l19 l20 l21 mk mz no ng nw := by
  obtain ⟨⟨a1, a2, a3, a4⟩, b, c, d, e⟩ := h
  subst F6; subst F2; subst E3; subst L5; subst L6; subst a1; subst a3; subst a4
  obtain ⟨x, xc⟩ := h1
  have gw : ∀ k, k < wa → ¬ w20 k = 0 → ywS k15 k11 hi wa w21 ca k = -1 := fun k hk hg => by
    rcases yw_or (st := k15) (ag := k11) (we := w21) (hi := hi) (n := wa) k ca with z | z
    · exact z
    · rw [z]; exact c k hk hg
  have key : ∀ k, l20 k = ng k ∧ l21 k = nw k ∧ (k < wa → l20 k = 0 → l19 k = no k) ∧ (k < wa → ¬ l20 k = 0 → l21 k = -1) := fun k => by
    by_cases hk : k < wa
    · obtain ⟨x1, x2, x3⟩ := x.1 k hk
      rcases hz k with g0 | g1
      · obtain ⟨y1, y2, y3⟩ := (h2.1 k hk).1 g0
        rw [← b k hk g0] at y1 y2 y3
        by_cases q : we ≤ w19 k + 1
        · rw [if_pos q] at x2 y2 y3
          rw [x2, if_neg (by decide)] at x3
          exact ⟨x2.trans y2.symm, x3.trans y3.symm, fun _ z => by rw [x2] at z; exact absurd z (by decide), fun _ _ => x3⟩
        · rw [if_neg q] at x2 y2 y3
          rw [g0] at x2
          rw [x2, if_pos rfl] at x3
          exact ⟨x2.trans y2.symm, x3.trans y3.symm, fun _ _ => x1.trans y1.symm, fun _ z => absurd x2 z⟩
      · have gn : ¬ w20 k = 0 := by rw [g1]; decide
        obtain ⟨y1, y2, y3⟩ := (h2.1 k hk).2 gn
        have x2' : l20 k = 1 := by
          rw [x2]
          split
          · rfl
          · exact g1
        rw [x2', if_neg (by decide)] at x3
        exact ⟨x2'.trans (y2.trans g1).symm, x3.trans (y3.trans (gw k hk gn)).symm, fun _ z => by rw [x2'] at z; exact absurd z (by decide), fun _ _ => x3⟩
    · obtain ⟨x1, x2, x3⟩ := x.2 k hk
      obtain ⟨y1, y2, y3⟩ := h2.2 k hk
      exact ⟨x2.trans y2.symm, x3.trans y3.symm, fun z => absurd z hk, fun z => absurd z hk⟩
  refine ⟨⟨rfl, a2, funext (fun k => (key k).1), funext (fun k => (key k).2.1)⟩, fun k => (key k).2.2.1, fun k => (key k).2.2.2, xc, Nat.le_trans (cnt_le (fun j _ z => ?_)) e⟩
  rw [hy.2.2 j] at z
  by_cases q : j < ca ∧ (k15 j = 1 ∧ hi ≤ gA (k11 j))
  · exact q.2.1
  · rw [if_neg q] at z; exact z
end CO
/-! two ways of handing out that differ in how long gone coats were worn -/
def hdR (s t : HD) : Prop := s.1 = t.1 ∧ s.2.1 = t.2.1 ∧ s.2.2.2 = t.2.2.2 ∧ ∀ k, k < s.1 → s.2.2.2.1 k = 0 → s.2.2.1 k = t.2.2.1 k
theorem hn_R {gs gv ks : Nat → Int32} {i : Nat} {a b : HD} (h : hdR a b) : hdR (hdN gs gv ks i a) (hdN gs gv ks i b) := by
  obtain ⟨n, zs, wo, go, we, cl⟩ := a
  obtain ⟨n', zs', wo', go', we', cl'⟩ := b
  obtain ⟨h1, h2, h3, h4⟩ := h
  have h1 : n = n' := h1
  have h2 : zs = zs' := h2
  have h3 : (go, we, cl) = (go', we', cl') := h3
  have h4 : ∀ k, k < n → go k = 0 → wo k = wo' k := h4
  cases h3; subst h1; subst h2
  unfold hdN
  by_cases c : gv i = -1
  · rw [if_pos c, if_pos c]
    refine ⟨rfl, rfl, rfl, fun k hk hg => ?_⟩
    have hk : k < n + 1 := hk
    have hg : upd go n 0 k = 0 := hg
    show upd wo n 0 k = upd wo' n 0 k
    by_cases q : k = n
    · rw [q, pk_us, pk_us]
    · rw [pk_un q] at hg
      rw [pk_un q, pk_un q]; exact h4 k (by omega) hg
  · rw [if_neg c, if_neg c]; exact ⟨rfl, rfl, rfl, h4⟩
theorem hd_R {gs gv ks : Nat → Int32} {s t : HD} (h : hdR s t) : ∀ g, hdR (hdS gs gv ks s g) (hdS gs gv ks t g)
  | 0 => h
  | g + 1 => hn_R (hd_R h g)
/-- a gone coat has no wearer -/
def hdG (wa : Nat) (gn : Nat → Int32) (t : HD) : Prop := wa ≤ t.1 ∧ (∀ k, k < wa → t.2.2.2.1 k = gn k) ∧ ∀ k, k < t.1 → ¬ t.2.2.2.1 k = 0 → t.2.2.2.2.1 k = -1
theorem hn_G {gs gv ks gn : Nat → Int32} {i wa : Nat} {a : HD} (hwa : wa ≤ 40) (h : hdG wa gn a) (hg : gv i = -1 ∨ ∃ k, gv i = nI k ∧ k < wa ∧ gn k = 0) : hdG wa gn (hdN gs gv ks i a) := by
  obtain ⟨n, zs, wo, go, we, cl⟩ := a
  obtain ⟨h1, h2, h3⟩ := h
  have h1 : wa ≤ n := h1
  have h2 : ∀ k, k < wa → go k = gn k := h2
  have h3 : ∀ k, k < n → ¬ go k = 0 → we k = -1 := h3
  unfold hdN
  rcases hg with c | ⟨k0, c1, c2, c3⟩
  · rw [if_pos c]
    refine ⟨show wa ≤ n + 1 by omega, fun k hk => ?_, fun k hk hz => ?_⟩
    · show upd go n 0 k = gn k
      rw [pk_un (by omega)]; exact h2 k hk
    · have hk : k < n + 1 := hk
      have hz : ¬ upd go n 0 k = 0 := hz
      show upd we n (gs i) k = -1
      by_cases q : k = n
      · rw [q, pk_us] at hz; exact absurd rfl hz
      · rw [pk_un q] at hz
        rw [pk_un q]; exact h3 k (by omega) hz
  · rw [if_neg (by rw [c1]; exact nI_m1n (by omega))]
    refine ⟨h1, h2, fun k hk hz => ?_⟩
    have hk : k < n := hk
    have hz : ¬ go k = 0 := hz
    show upd we (gv i).toNatClampNeg (gs i) k = -1
    rw [c1, nI_clamp (by omega), pk_un (fun q => hz (by rw [q, h2 k0 c2]; exact c3))]
    exact h3 k hk hz
theorem hd_G {gs gv ks gn : Nat → Int32} {wa : Nat} {s : HD} (hwa : wa ≤ 40) (h : hdG wa gn s) : ∀ g, (∀ i, i < g → gv i = -1 ∨ ∃ k, gv i = nI k ∧ k < wa ∧ gn k = 0) → hdG wa gn (hdS gs gv ks s g)
  | 0, _ => h
  | g + 1, hg => hn_G hwa (hd_G hwa h g (fun i hi => hg i (by omega))) (hg g (by omega))
theorem ch_gn {cs gn gz gv : Nat → Int32} {sp : Int32} {n D g i : Nat} (h : chP (enG cs gn gz sp g) n D g gv) (hi : i < g) : gv i = -1 ∨ ∃ k, gv i = nI k ∧ k < n ∧ gn k = 0 := by
  cases q : D.testBit i
  · exact Or.inl ((h i hi).1 q)
  · obtain ⟨k, k1, k2, -⟩ := (h i hi).2 q
    refine Or.inr ⟨k, k1, k2.1, ?_⟩
    have := k2.2.2.1
    unfold enG at this
    have := (mk_is this).2
    unfold ftB at this
    exact (of_decide_eq_true this).1
section FE
variable {wa ca mk : Nat} {k11 k12 k13 k14 k15 k16 w18 w19 w20 w21 mz mo mg mw : Nat → Int32}
theorem fe_ga {mc g D : Nat} {mt ms gs gv gz : Nat → Int32} {sp : Int32} (hp : plP k15 k13 w18 w20 sp wa ca g D gs gv gz) (F6 : k15 = mt) (F4 : k13 = ms) (E3 : ca = mc) : gaI mt ms gs gz g mc := by
  subst F6; subst F4; subst E3; exact hp.2.1
theorem fe_sz {g D : Nat} {gs gv gz : Nat → Int32} {sp : Int32} (hp : plP k15 k13 w18 w20 sp wa ca g D gs gv gz) (hca : ca ≤ 16) (hcb : chB ca k11 k12 k13 k14 k15) : ∀ j, j < g → 0 ≤ (gz j).toInt ∧ (gz j).toInt ≤ 99 := fun j hj => by
  obtain ⟨c, c1, -, c3, -⟩ := ga_at hp.2.1 hca hj
  rw [c3]
  have := (hcb c c1).2.2.1
  omega
theorem fe_be {g D : Nat} {gs gv gz : Nat → Int32} {sp ms : Int32} (h : coI wa ca k15 k16 w18 w19 w20 w21 mk mz mo mg mw) (L7 : sp = ms) (hp : plP k15 k13 w18 w20 sp wa ca g D gs gv gz) (hs : ∀ j, j < g → 0 ≤ (gz j).toInt ∧ (gz j).toInt ≤ 99) : beP (enG mz mg gz ms g) mk (fun j => (gz j).toInt) g D := by
  obtain ⟨⟨a1, a2, a3, a4⟩, -⟩ := h
  subst a1; subst a2; subst a3; subst L7
  exact dr_be hp.2.2.1 (by have := hp.1; omega) (fun i hi => (hs i hi).1) (fun i hi => (hs i hi).2)
theorem co_feast {wa1 mk1 g D : Nat} {gs gv gz ms l16 l18 l19 l20 l21 nz no ng nw : Nat → Int32} {sp sp' r1 r2 : Int32} (h : coI wa ca k15 k16 w18 w19 w20 w21 mk mz mo mg mw) (hwa : wa ≤ 40) (F4 : k13 = ms) (L7 : sp = sp') (hx : feX k15 k13 w18 w19 w20 w21 k16 sp wa ca r1 wa1 l18 l19 l20 l21 l16 g D gs gv gz) (hm : feM (enG mz mg gz sp' g) mk g D gs ms mz mo mg mw r2 mk1 nz no ng nw) : r1 = r2 ∧ coI wa1 ca k15 l16 l18 l19 l20 l21 mk1 nz no ng nw := by
  obtain ⟨⟨a1, a2, a3, a4⟩, b, c, d, e⟩ := h
  subst a1; subst a2; subst a3; subst a4; subst F4; subst L7
  obtain ⟨hp, hx⟩ := hx
  rcases hx with ⟨x0, x1, x2, x3, x4, x5, x6, x7⟩ | ⟨x0, x1, x2⟩ <;> rcases hm with ⟨y0, y1, y2, y3, y4, y5, y6⟩ | ⟨y0, gv', y1, y2⟩
  · subst x2; subst x3; subst x4; subst x5; subst x6; subst x7; subst y2; subst y3; subst y4; subst y5; subst y6
    exact ⟨x1.trans y1.symm, ⟨rfl, rfl, rfl, rfl⟩, b, c, d, e⟩
  · omega
  · omega
  · have un := ch_un hwa hp.2.2.2 y1
    rw [← hd_cong (gs := gs) (gv := gv) (ks := k13) (fun i hi => ⟨rfl, un i hi, rfl⟩)] at y2
    have R0 : hdR (wa, w18, w19, w20, nnW w21 wa, 0) (wa, w18, mo, w20, nnW w21 wa, 0) := ⟨rfl, rfl, rfl, b⟩
    have R := hd_R (gs := gs) (gv := gv) (ks := k13) R0 g
    have G0 : hdG wa w20 (wa, w18, w19, w20, nnW w21 wa, 0) := ⟨Nat.le_refl wa, fun _ _ => rfl, fun k hk _ => if_pos hk⟩
    have G := hd_G (gs := gs) (gv := gv) (ks := k13) hwa G0 g (fun i hi => ch_gn hp.2.2.2 hi)
    rw [← x1] at R G
    rw [← y2] at R
    obtain ⟨R1, R2, R3, R4⟩ := R
    have R3 : (l20, l21, r1) = (ng, nw, r2) := R3
    cases R3
    exact ⟨rfl, ⟨R1, R2, rfl, rfl⟩, R4, G.2.2, x2, e⟩
end FE

