/-! The reference's feast: whom it finds, what it computes. -/
def giI (st f : Nat → Int32) (g i : Nat) : Prop := g = cntP st i ∧ ∀ c, c < i → st c = 1 → f (cntP st c) = nI c
theorem gi_0 {st f : Nat → Int32} : giI st f 0 0 := ⟨rfl, fun c h => absurd h (Nat.not_lt_zero c)⟩
theorem gi_n {st f : Nat → Int32} {g i : Nat} (h : giI st f g i) (c : ¬ st i = 1) : giI st f g (i + 1) := ⟨cn_n h.1 c, fun k hk e => by
  by_cases q : k = i
  · rw [q] at e; exact absurd e c
  · exact h.2 k (by omega) e⟩
theorem gi_y {st f : Nat → Int32} {g i : Nat} (h : giI st f g i) (c : st i = 1) : giI st (upd f g (nI i)) (g + 1) (i + 1) := ⟨cn_y h.1 c, fun k hk e => by
  have hg := h.1
  by_cases q : k = i
  · subst q; rw [← hg, pk_us]
  · have := cnt_lt (show k < i by omega) e
    rw [pk_un (by omega)]; exact h.2 k (by omega) e⟩
theorem gi_ga {st sz f f0 f3 : Nat → Int32} {g g' i a : Nat} (h : giI st f g i) (e : i = a) (h' : gaI st sz f0 f3 g' a) (ha : a ≤ 16) : g = g' ∧ ∀ j, j < g → f j = f0 j ∧ f3 j = sz (f j).toNatClampNeg := by
  subst e
  refine ⟨h.1.trans h'.1.symm, fun j hj => ?_⟩
  obtain ⟨c, c1, c2, c3⟩ := ga_ex (st := st) (m := i) (i := j) (by rw [← h.1]; exact hj)
  have e1 := h.2 c c1 c2
  have e2 := h'.2 c c1 c2
  rw [c3] at e1 e2
  rw [e1, nI_clamp (by omega)]
  exact ⟨e2.1.symm, e2.2⟩
theorem us_61 {f : Nat → Int32} {i : Nat} (h : ∀ k, k < i → f k = 0) : ∀ k, k < i + 1 → upd f i 0 k = 0 := fun k hk => by
  by_cases q : k = i
  · rw [q, pk_us]
  · rw [pk_un q]; exact h k (by omega)
section MH
variable {cs sz ins gn us gz : Nat → Int32} {sp : Int32} {N n : Nat}
theorem en_su {c i : Nat} (hin : ∀ j, j < N → gz j = sz (ins j).toNatClampNeg) (hi : i < N) (hc : c < 2147483648) (hu : us c = 0) : (enG cs gn gz sp N c).testBit i = true ↔ (avP gn us c ∧ suP cs sz ins sp c i) := by
  unfold enG
  rw [mk_bit hi]
  unfold ftB suP suQ avP
  rw [decide_eq_true_iff, nI_clamp hc, hin i hi]
  constructor
  · rintro ⟨a, b, d⟩
    exact ⟨⟨a, hu⟩, Int32.not_lt.mp b, d⟩
  · rintro ⟨⟨a, -⟩, b, d⟩
    exact ⟨a, Int32.not_lt.mpr b, d⟩
theorem mM_HL {S : Nat} {e : Nat → Nat} (hN : N ≤ 16) (hS : S < 2 ^ N) (hn : n ≤ 40) (hin : ∀ j, j < N → gz j = sz (ins j).toNatClampNeg) (he : ∀ c, c < n → (us c = 0 → e c = enG cs gn gz sp N c) ∧ (¬ us c = 0 → e c = 0)) : mM (avP gn us) (suP cs sz ins sp) n S ↔ HL e n S := by
  have h16 : S < 65536 := Nat.lt_of_lt_of_le hS (pow16 hN)
  refine (mM_mE h16 (fun c hc i hi => ?_)).trans (hall h16)
  have hiN : i < N := tb_lt hS hi
  by_cases q : us c = 0
  · rw [(he c hc).1 q]; exact en_su hin hiN (by omega) q
  · rw [(he c hc).2 q, Nat.zero_testBit]
    exact ⟨fun z => absurd z (by decide), fun z => absurd z.1.2 q⟩
theorem beh_lf {lf b i : Nat} (hl : lf < 65536) (h : lfP lf b i) : clr lf i = behD b i := by
  apply Nat.eq_of_testBit_eq
  intro j
  rw [lfP_yes hl h j, beh_bit, Bool.and_comm]
  congr 1
/-- what the reference asks of a coat is what may be given -/
theorem okJ_iff {gv fu : Nat → Int32} {b i j T : Nat} (hN : N ≤ 16) (hb : b < 2 ^ N) (hn : n ≤ 40) (hin : ∀ j, j < N → gz j = sz (ins j).toNatClampNeg) (hU : ∀ c, c < n → (fu c = 0 ↔ ¬ usd gv b i c)) (hi : i < N) (hT : T = behD b i) (hj : j < n) : (avP gn fu j ∧ suP cs sz ins sp j i ∧ mM (avP gn (upd fu j 1)) (suP cs sz ins sp) n T) ↔ coatOk (enG cs gn gz sp N) n b gv i j := by
  have hTN : T < 2 ^ N := by rw [hT]; exact Nat.lt_of_le_of_lt (Nat.div_mul_le_self _ _) hb
  have hup : ∀ c, ¬ c = j → upd fu j 1 c = fu c := fun c q => pk_un q
  constructor
  · rintro ⟨⟨a1, a2⟩, s, m⟩
    refine ⟨hj, (hU j hj).mp a2, (en_su hin hi (by omega) a2).mpr ⟨⟨a1, a2⟩, s⟩, fun e he => ?_⟩
    rw [← hT]
    refine (mM_HL hN hTN hn hin (fun c hc => ?_)).mp m
    by_cases q : c = j
    · rw [q, pk_us]
      exact ⟨fun z => absurd z (by decide), fun _ => (he j hj).1 (Or.inl rfl)⟩
    · rw [hup c q]
      exact ⟨fun z => (he c hc).2 q ((hU c hc).mp z), fun z => (he c hc).1 (Or.inr (Classical.byContradiction (fun y => z ((hU c hc).mpr y))))⟩
  · rintro ⟨-, nu, eb, al⟩
    have a2 := (hU j hj).mpr nu
    obtain ⟨av, s⟩ := (en_su hin hi (by omega) a2).mp eb
    refine ⟨av, s, ?_⟩
    refine (mM_HL (e := fun c => if upd fu j 1 c = 0 then enG cs gn gz sp N c else 0) hN hTN hn hin (fun c hc => ⟨fun z => if_pos z, fun z => if_neg z⟩)).mpr ?_
    rw [hT]
    refine al _ (fun c hc => ⟨fun z => if_neg (fun y => ?_), fun z1 z2 => if_pos ?_⟩)
    · rcases z with z | z
      · rw [z, pk_us] at y; exact absurd y (by decide)
      · by_cases q : c = j
        · rw [q, pk_us] at y; exact absurd y (by decide)
        · rw [hup c q] at y; exact (hU c hc).mp y z
    · rw [hup c z1]; exact (hU c hc).mpr z2
end MH
/-- while a coat is looked for: none yet, or the first that may be given -/
def okJ (gn fu : Nat → Int32) (su : Nat → Nat → Prop) (c T i j : Nat) : Prop := avP gn fu j ∧ su j i ∧ mM (avP gn (upd fu j 1)) su c T
def fndY (g u : Nat → Int32) (i c : Nat) (fu gn : Nat → Int32) (su : Nat → Nat → Prop) (T : Nat) : Prop := ∃ k, k < c ∧ g i = nI k ∧ u = upd fu k 1 ∧ okJ gn fu su c T i k ∧ ∀ j, j < k → ¬ okJ gn fu su c T i j
def inY (g u : Nat → Int32) (i k c : Nat) (fu gn : Nat → Int32) (su : Nat → Nat → Prop) (T : Nat) : Prop := (g i = -1 ∧ u = fu ∧ ∀ j, j < k → ¬ okJ gn fu su c T i j) ∨ fndY g u i c fu gn su T
section IY
variable {g u fu gn : Nat → Int32} {i k c T lf : Nat} {su : Nat → Nat → Prop}
theorem iy_0 : inY (upd g i (-1)) fu i 0 c fu gn su T := Or.inl ⟨pk_us, rfl, fun _ h => absurd h (Nat.not_lt_zero _)⟩
theorem iy_open (h : inY g u i k c fu gn su T) (hc : c ≤ 40) (e : g i = -1) : u = fu ∧ ∀ j, j < k → ¬ okJ gn fu su c T i j := by
  rcases h with h | ⟨m, m1, m2, -⟩
  · exact h.2
  · exact absurd (m2.symm.trans e) (nI_m1n (by omega))
theorem iy_skip (h : inY g u i k c fu gn su T) (hc : c ≤ 40) (e : g i = -1) (hn : ¬ okJ gn u su c T i k) : inY g u i (k + 1) c fu gn su T := by
  obtain ⟨h1, h2⟩ := iy_open h hc e
  refine Or.inl ⟨e, h1, fun j hj => ?_⟩
  by_cases q : j = k
  · rw [q, ← h1]; exact hn
  · exact h2 j (by omega)
theorem iy_no (h : inY g u i k c fu gn su T) (hc : c ≤ 40) (e : g i = -1) (hu : u k = 0) (hn : ¬ mM (avP gn (upd u k 1)) su c T) : inY g (upd (upd u k 1) k 0) i (k + 1) c fu gn su T := by
  rw [fa_upd_twice, fa_upd_same hu]
  exact iy_skip h hc e (fun q => hn q.2.2)
theorem iy_yes (h : inY g u i k c fu gn su T) (hc : c ≤ 40) (hk : k < c) (e : g i = -1) (hn : okJ gn u su c T i k) : inY (upd g i (nI k)) (upd u k 1) i (k + 1) c fu gn su T := by
  obtain ⟨h1, h2⟩ := iy_open h hc e
  subst h1
  exact Or.inr ⟨k, hk, pk_us, rfl, hn, h2⟩
theorem iy_done (hl : lf < 65536) (h : inY g u i k c fu gn su (clr lf i)) (hm : mM (avP gn fu) su c lf) (hb : lf.testBit i = true) (hx : c ≤ k ∨ ¬ g i = -1) : fndY g u i c fu gn su (clr lf i) := by
  rcases h with h | h
  · rcases hx with hx | hx
    · obtain ⟨d, h1, h2, h3, h4⟩ := mM_pick c lf hl hm hb
      exact absurd ⟨h2, h3, (mM_cong c (fun j _ => av_upd) _).mpr h4⟩ (h.2.2 d (by omega))
    · exact absurd h.1 hx
  · exact h
theorem iy_m (h : fndY g u i c fu gn su T) : mM (avP gn u) su c T := by
  obtain ⟨k, -, -, e, o, -⟩ := h
  rw [e]; exact o.2.2
theorem iy_v (h : fndY g u i c fu gn su T) (hc : c ≤ 40) : vp_in (g i) c := by
  obtain ⟨k, k1, k2, -⟩ := h
  rw [k2]; exact vp_in_nI k1 (by omega)
end IY
/-- which coats are used, and that each before i has the right one -/
def cmI (en : Nat → Nat) (n b : Nat) (g us : Nat → Int32) (i : Nat) : Prop := (∀ c, c < n → (us c = 0 ↔ ¬ usd g b i c)) ∧ ∀ j, j < i → ptC en n b g j
theorem cq_0 {en : Nat → Nat} {n b : Nat} {g us : Nat → Int32} (h : ∀ c, c < n → us c = 0) : cmI en n b g us 0 := ⟨fun c hc => ⟨fun _ ⟨j, hj, _⟩ => absurd hj (Nat.not_lt_zero j), fun _ => h c hc⟩, fun j hj => absurd hj (Nat.not_lt_zero j)⟩
theorem cq_no {en : Nat → Nat} {n b i : Nat} {g us : Nat → Int32} (h : cmI en n b g us i) (q : bI b i = 0) : cmI en n b (upd g i (-1)) us (i + 1) := by
  have q := bI_0.mp q
  have e : ∀ j, j < i → g j = upd g i (-1) j := fun j hj => (pk_un (by omega)).symm
  have e' : ∀ j, j < i → upd g i (-1) j = g j := fun j hj => (e j hj).symm
  refine ⟨fun c hc => (h.1 c hc).trans (not_congr ⟨fun z => ?_, fun z => ?_⟩), fun j hj => ?_⟩
  · obtain ⟨j, a, b⟩ := us_c e z
    exact ⟨j, by omega, b⟩
  · obtain ⟨j, a, b, d⟩ := z
    have : ¬ j = i := fun w => by rw [w, q] at b; exact absurd b (by decide)
    exact us_c e' ⟨j, by omega, b, d⟩
  · by_cases w : j = i
    · subst w
      exact ⟨fun _ => pk_us, fun z => by rw [q] at z; exact absurd z (by decide)⟩
    · exact pt_c (fun m hm => e m (by omega)) (h.2 j (by omega))
theorem cq_yes {cs sz ins gn gz g g' us us' : Nat → Int32} {sp : Int32} {N n b i T : Nat} (h : cmI (enG cs gn gz sp N) n b g us i) (he : ∀ j, j < i → g' j = g j) (hN : N ≤ 16) (hb : b < 2 ^ N) (hn : n ≤ 40) (hin : ∀ j, j < N → gz j = sz (ins j).toNatClampNeg) (hi : i < N) (hT : T = behD b i) (hbi : ¬ bI b i = 0) (hf : fndY g' us' i n us gn (suP cs sz ins sp) T) : cmI (enG cs gn gz sp N) n b g' us' (i + 1) := by
  have bit : b.testBit i = true := by
    cases q : b.testBit i
    · exact absurd (bI_0.mpr q) hbi
    · rfl
  obtain ⟨k, k1, k2, k3, k4, k5⟩ := hf
  have he' : ∀ j, j < i → g j = g' j := fun j hj => (he j hj).symm
  have ok : ∀ j, j < n → (okJ gn us (suP cs sz ins sp) n T i j ↔ coatOk (enG cs gn gz sp N) n b g i j) := fun j hj => okJ_iff hN hb hn hin h.1 hi hT hj
  refine ⟨fun c hc => ?_, fun j hj => ?_⟩
  · rw [k3]
    by_cases q : c = k
    · rw [q, pk_us]
      exact ⟨fun z => absurd z (by decide), fun z => absurd ⟨i, by omega, bit, k2⟩ z⟩
    · rw [pk_un q, h.1 c hc]
      refine not_congr ⟨fun z => ?_, fun z => ?_⟩
      · obtain ⟨j, a, d⟩ := us_c he' z
        exact ⟨j, by omega, d⟩
      · obtain ⟨j, a, d, f⟩ := z
        have : ¬ j = i := fun w => by
          rw [w, k2] at f
          exact q (nI_injZ (by omega) (by omega) f).symm
        exact us_c he ⟨j, by omega, d, f⟩
  · by_cases w : j = i
    · subst w
      refine ⟨fun z => by rw [bit] at z; exact absurd z (by decide), fun _ => ⟨k, k2, ok_c he' ((ok k k1).mp k4), fun m hm z => ?_⟩⟩
      exact k5 m hm ((ok m (by omega)).mpr (ok_c he z))
    · exact pt_c (fun m hm => he' m (by omega)) (h.2 j (by omega))
/-! the cloth, in numbers -/
theorem cl_w {zs ins gz : Nat → Int32} {A N : Nat} {r : Int32} (hr : r = clS zs ins A N) (hN : N ≤ 16) (hin : ∀ j, j < N → gz j = zs (ins j).toNatClampNeg) (hz : ∀ j, j < N → 0 ≤ (gz j).toInt ∧ (gz j).toInt ≤ 99) : r.toInt = py_b (fun j => (gz j).toInt) A N := by
  rw [hr, (cl_int hN (fun i hi => by rw [← hin i hi]; exact hz i hi)).1]
  exact py_b_congf (fun k hk => by rw [hin k hk])
theorem bq_less {r1 r2 r3 r4 : Int32} {a b : Int} (c1 : ¬ r2 < r1) (c2 : ¬ r3 = r4) (e1 : r1.toInt = a) (e2 : r2.toInt = b) (e3 : r3.toInt = a) (e4 : r4.toInt = b) : a < b := by
  have h1 := Int.not_lt.mp (fun z => c1 (Int32.lt_iff_toInt_lt.mpr z))
  have h2 : ¬ r3.toInt = r4.toInt := fun z => c2 (Int32.toInt_inj.mp z)
  omega
theorem bq_eq {r3 r4 : Int32} {a b : Int} (c2 : r3 = r4) (e3 : r3.toInt = a) (e4 : r4.toInt = b) : a = b := by rw [← e3, ← e4, c2]
theorem bq_gt {r1 r2 : Int32} {a b : Int} (c1 : r2 < r1) (e1 : r1.toInt = a) (e2 : r2.toInt = b) : b < a := by
  have := Int32.lt_iff_toInt_lt.mp c1
  omega
theorem cz_sumN {b c n i : Nat} {l : Int32} (hc : c ≤ 40) (hn : n ≤ 16) (h : l = nI (cz b i)) (hi : i = n) (c2 : ¬ nI c + l ≤ 40) : 40 < c + cz b n := by
  rw [h, nI_add, hi] at c2
  have := cz_le b n
  exact Nat.not_le.mp (fun z => c2 ((nI_leI (b := 40) (by omega) (by decide)).mpr z))
/-! the last loop -/
theorem mr_y {gs gv ks zs wo go we g : Nat → Int32} {s : HD} {i n : Nat} {cl x : Int32} (h : (n, zs, wo, go, we, cl) = hdS gs gv ks s i) (e : g i = gv i) (e2 : x = gs i) (c : g i = -1) : (n + 1, upd zs n (ks x.toNatClampNeg), upd wo n 0, upd go n 0, upd we n x, cl + ks x.toNatClampNeg) = hdS gs gv ks s (i + 1) := by
  subst e2
  exact hr_y h (e.symm.trans c)
theorem mr_n {gs gv ks zs wo go we g : Nat → Int32} {s : HD} {i n : Nat} {cl x : Int32} (h : (n, zs, wo, go, we, cl) = hdS gs gv ks s i) (e : g i = gv i) (e2 : x = gs i) (c : ¬ g i = -1) : (n, zs, wo, go, upd we (g i).toNatClampNeg x, cl) = hdS gs gv ks s (i + 1) := by
  subst e2
  rw [e]
  exact hr_n h (fun z => c (e.trans z))
/-- what the reference's feast does -/
def feM (en : Nat → Nat) (n g D : Nat) (gs ks cs wo gn we : Nat → Int32) (r : Int32) (n' : Nat) (cs' wo' gn' we' : Nat → Int32) : Prop := (40 < n + cz D g ∧ r = -1 ∧ n' = n ∧ cs' = cs ∧ wo' = wo ∧ gn' = gn ∧ we' = we) ∨ (n + cz D g ≤ 40 ∧ ∃ gv, chP en n D g gv ∧ (n', cs', wo', gn', we', r) = hdS gs gv ks (n, cs, wo, gn, nnW we n, 0) g)
theorem fm_no {en : Nat → Nat} {n g D N b : Nat} {gs ks cs wo gn we : Nat → Int32} (hN : N = g) (hb : b = D) (h : 40 < n + cz b N) : feM en n g D gs ks cs wo gn we (-1) n cs wo gn we := by
  subst hN; subst hb
  exact Or.inl ⟨h, rfl, rfl, rfl, rfl, rfl, rfl⟩
theorem fm_yes {n g D N b n' : Nat} {sp r : Int32} {gs gz gv us ks cs wo gn we cs' wo' gn' we' : Nat → Int32} (hN : N = g) (hb : b = D) (h : n + cz b N ≤ 40) (hc : cmI (enG cs gn gz sp N) n b gv us N) (hd : (n', cs', wo', gn', we', r) = hdS gs gv ks (n, cs, wo, gn, nnW we n, 0) N) : feM (enG cs gn gz sp g) n g D gs ks cs wo gn we r n' cs' wo' gn' we' := by
  subst hN; subst hb
  exact Or.inr ⟨h, gv, hc.2, hd⟩

