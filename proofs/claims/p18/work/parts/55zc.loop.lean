/-! The class' last loop of the feast. -/
theorem cw_new {n ca : Nat} {we co : Nat → Int32} (h : coW n ca we co) : coW (n + 1) ca (upd we n (-1)) co := by
  refine ⟨fun k hk => ?_, fun j hj => ?_⟩
  · by_cases q : k = n
    · rw [q, pk_us]; exact Or.inl rfl
    · rw [pk_un q]; exact h.1 k (by omega)
  · rcases h.2 j hj with z | ⟨k, k1, k2, k3⟩
    · exact Or.inl z
    · exact Or.inr ⟨k, by omega, k2, by rw [pk_un (by omega)]; exact k3⟩
def nnW (we : Nat → Int32) (i : Nat) : Nat → Int32 := fun k => if k < i then -1 else we k
theorem nn_0 {we : Nat → Int32} : we = nnW we 0 := funext (fun k => (if_neg (Nat.not_lt_zero k)).symm)
theorem nn_s {we : Nat → Int32} {i : Nat} : upd (nnW we i) i (-1) = nnW we (i + 1) := funext (fun k => by
  by_cases q : k = i
  · rw [q, pk_us]; exact (if_pos (Nat.lt_succ_self i)).symm
  · rw [pk_un q]
    show (if k < i then -1 else we k) = if k < i + 1 then -1 else we k
    by_cases z : k < i
    · rw [if_pos z, if_pos (by omega)]
    · rw [if_neg z, if_neg (by omega)])
theorem ga_ex {st : Nat → Int32} : ∀ {m i : Nat}, i < cntP st m → ∃ c, c < m ∧ st c = 1 ∧ cntP st c = i
  | 0, i, hi => absurd hi (Nat.not_lt_zero i)
  | m + 1, i, hi => by
    by_cases q : st m = 1
    · rw [← cn_y rfl q] at hi
      by_cases w : i = cntP st m
      · exact ⟨m, by omega, q, w.symm⟩
      · obtain ⟨c, c1, c2⟩ := ga_ex (st := st) (m := m) (i := i) (by omega)
        exact ⟨c, by omega, c2⟩
    · rw [← cn_n rfl q] at hi
      obtain ⟨c, c1, c2⟩ := ga_ex (st := st) (m := m) (i := i) hi
      exact ⟨c, by omega, c2⟩
/-- guest i: a child, and none of those before -/
theorem ga_at {st sz f0 f3 : Nat → Int32} {g a i : Nat} (h : gaI st sz f0 f3 g a) (ha : a ≤ 16) (hi : i < g) : ∃ c, c < a ∧ f0 i = nI c ∧ f3 i = sz c ∧ ∀ j, j < i → ¬ f0 j = nI c := by
  obtain ⟨c, c1, c2, c3⟩ := ga_ex (st := st) (m := a) (i := i) (by rw [← h.1]; exact hi)
  have e := h.2 c c1 c2
  rw [c3] at e
  refine ⟨c, c1, e.1, e.2, fun j hj q => ?_⟩
  obtain ⟨d, d1, d2, d3⟩ := ga_ex (st := st) (m := a) (i := j) (by rw [← h.1]; omega)
  have e2 := (h.2 d d1 d2).1
  rw [d3, q] at e2
  have : c = d := nI_injZ (by omega) (by omega) e2
  rw [this] at c3
  omega
def hoI (gs gv : Nat → Int32) (D wa0 ca n : Nat) (we co : Nat → Int32) (i : Nat) : Prop := coW n ca we co ∧ wa0 ≤ n ∧ (∀ k, k < wa0 → ¬ usd gv D i k → we k = -1) ∧ ∀ j, j < ca → (∀ q, q < i → ¬ gs q = nI j) → co j = -1
theorem hj_0 {gs gv we co : Nat → Int32} {D wa ca : Nat} (h : coW wa ca (nnW we wa) co) (hc : ca ≤ 16) : hoI gs gv D wa ca wa (nnW we wa) co 0 := ⟨h, Nat.le_refl wa, fun _ hk _ => if_pos hk, fun j hj _ => cw_none h (fun _ hk => if_pos hk) hc j hj⟩
theorem us_s {gv : Nat → Int32} {D i k : Nat} (h : ¬ usd gv D (i + 1) k) : ¬ usd gv D i k := fun ⟨j, a, b⟩ => h ⟨j, by omega, b⟩
theorem hj_old {gs gv we co : Nat → Int32} {D wa0 ca n i c k : Nat} (h : hoI gs gv D wa0 ca n we co i) (eg : gs i = nI c) (hc : c < ca) (ev : gv i = nI k) (hk : k < wa0) (hb : D.testBit i = true) (hu : ¬ usd gv D i k) (hd : ∀ j, j < i → ¬ gs j = nI c) (hn : n ≤ 40) (hca : ca ≤ 16) : hoI gs gv D wa0 ca n (upd we k (nI c)) (upd co c (nI k)) (i + 1) := by
  obtain ⟨h1, h2, h3, h4⟩ := h
  refine ⟨ho_co h1 (by omega) hc hn hca (h3 k hk hu) (h4 c hc hd), h2, fun m hm hq => ?_, fun j hj hq => ?_⟩
  · rw [pk_un (fun e => hq ⟨i, by omega, hb, by rw [e]; exact ev⟩)]
    exact h3 m hm (us_s hq)
  · rw [pk_un (fun e => hq i (by omega) (by rw [e]; exact eg))]
    exact h4 j hj (fun q hqi => hq q (by omega))
theorem hj_new {gs gv we co : Nat → Int32} {D wa0 ca n i c : Nat} (h : hoI gs gv D wa0 ca n we co i) (eg : gs i = nI c) (hc : c < ca) (hd : ∀ j, j < i → ¬ gs j = nI c) (hn : n < 40) (hca : ca ≤ 16) : hoI gs gv D wa0 ca (n + 1) (upd we n (nI c)) (upd co c (nI n)) (i + 1) := by
  obtain ⟨h1, h2, h3, h4⟩ := h
  have z := ho_co (cw_new h1) (show n < n + 1 by omega) hc (by omega) hca pk_us (h4 c hc hd)
  rw [fa_upd_twice] at z
  refine ⟨z, by omega, fun m hm hq => ?_, fun j hj hq => ?_⟩
  · rw [pk_un (by omega)]
    exact h3 m hm (us_s hq)
  · rw [pk_un (fun e => hq i (by omega) (by rw [e]; exact eg))]
    exact h4 j hj (fun q hqi => hq q (by omega))
/-- what the class' last loop keeps -/
def fsI (gs gv ks : Nat → Int32) (s : HD) (D wa0 ca n : Nat) (zs wo go we : Nat → Int32) (cl : Int32) (co : Nat → Int32) (i : Nat) : Prop := (n, zs, wo, go, we, cl) = hdS gs gv ks s i ∧ hoI gs gv D wa0 ca n we co i ∧ n = wa0 + cz D i ∧ ∀ k, go k = 0 ∨ go k = 1
theorem ch_f {en : Nat → Nat} {n D g i : Nat} {gv : Nat → Int32} (h : chP en n D g gv) (hn : n ≤ 40) (hi : i < g) (c : gv i = -1) : D.testBit i = false := by
  cases q : D.testBit i
  · rfl
  · obtain ⟨k, k1, k2, -⟩ := (h i hi).2 q
    exact absurd (k1.symm.trans c) (nI_m1n (by have := k2.1; omega))
theorem ch_t {en : Nat → Nat} {n D g i : Nat} {gv : Nat → Int32} (h : chP en n D g gv) (hi : i < g) (c : ¬ gv i = -1) : D.testBit i = true ∧ ∃ k, gv i = nI k ∧ k < n ∧ ¬ usd gv D i k := by
  cases q : D.testBit i
  · exact absurd ((h i hi).1 q) c
  · obtain ⟨k, k1, k2, -⟩ := (h i hi).2 q
    exact ⟨rfl, k, k1, k2.1, k2.2.1⟩
theorem fs_n40 {gs gv ks zs wo go we co : Nat → Int32} {s : HD} {D wa0 ca G n i : Nat} {cl : Int32} {en : Nat → Nat} (h : fsI gs gv ks s D wa0 ca n zs wo go we cl co i) (hch : chP en wa0 D G gv) (hi : i < G) (h40 : wa0 + cz D G ≤ 40) (c : gv i = -1) : n < 40 := by
  have h9 := cz_f (ch_f hch (by omega) hi c)
  have h8 := cz_mono D (show i + 1 ≤ G by omega)
  have h7 := h.2.2.1
  omega
theorem fs_le {gs gv ks zs wo go we co : Nat → Int32} {s : HD} {D wa0 ca G n i : Nat} {cl : Int32} (h : fsI gs gv ks s D wa0 ca n zs wo go we cl co i) (hi : i ≤ G) (h40 : wa0 + cz D G ≤ 40) : n ≤ 40 := by
  have h8 := cz_mono D hi
  have h7 := h.2.2.1
  omega
theorem fs_new {gs gv ks zs wo go we co zs' wo' go' we' we2 co2 st sz gz : Nat → Int32} {s : HD} {D wa0 ca G n n' i : Nat} {cl q r : Int32} {en : Nat → Nat} (h : fsI gs gv ks s D wa0 ca n zs wo go we cl co i) (hch : chP en wa0 D G gv) (hga : gaI st sz gs gz G ca) (hca : ca ≤ 16) (hi : i < G) (h40 : wa0 + cz D G ≤ 40) (c : gv i = -1) (hq : q = ks (gs i).toNatClampNeg) (h1 : cuP n zs wo go we q r n' zs' wo' go' we') (h2 : hoP r (gs i) n' ca we' co we2 co2) : fsI gs gv ks s D wa0 ca n' zs' wo' go' we2 (cl + q) co2 (i + 1) := by
  have n40 := fs_n40 h hch hi h40 c
  obtain ⟨a1, a2, a3, a4⟩ := h
  have bit := ch_f hch (by omega) hi c
  obtain ⟨j, c1, c2, -, c4⟩ := ga_at hga hca hi
  rcases h1 with ⟨z, -⟩ | ⟨-, e1, e2, e3, e4, e5, e6⟩
  · omega
  · subst e1; subst e2; subst e3; subst e4; subst e5; subst e6
    rcases h2 with ⟨-, -, b3, b4⟩ | ⟨b1, -⟩
    · rw [nI_clamp (by omega), fa_upd_twice] at b3
      rw [c2, nI_clamp (by omega)] at b4
      subst b3; subst b4
      refine ⟨?_, ?_, ?_, fun k => ?_⟩
      · rw [hq]; exact hr_y a1 c
      · rw [c2]; exact hj_new a2 c2 c1 c4 n40 hca
      · rw [cz_f bit]; omega
      · by_cases w : k = n
        · rw [w, pk_us]; exact Or.inl rfl
        · rw [pk_un w]; exact a4 k
    · exact absurd ⟨vp_in_nI (by omega) (by omega), by rw [c2]; exact vp_in_nI c1 (by omega)⟩ b1
theorem fs_old {gs gv ks zs wo go we co we2 co2 st sz gz : Nat → Int32} {s : HD} {D wa0 ca G n i : Nat} {cl : Int32} {en : Nat → Nat} (h : fsI gs gv ks s D wa0 ca n zs wo go we cl co i) (hch : chP en wa0 D G gv) (hga : gaI st sz gs gz G ca) (hca : ca ≤ 16) (hi : i < G) (h40 : wa0 + cz D G ≤ 40) (c : ¬ gv i = -1) (h2 : hoP (gv i) (gs i) n ca we co we2 co2) : fsI gs gv ks s D wa0 ca n zs wo go we2 cl co2 (i + 1) := by
  have n40 := fs_le h (Nat.le_of_lt hi) h40
  obtain ⟨a1, a2, a3, a4⟩ := h
  obtain ⟨bit, k, k1, k2, k3⟩ := ch_t hch hi c
  obtain ⟨j, c1, c2, -, c4⟩ := ga_at hga hca hi
  rcases h2 with ⟨-, -, b3, b4⟩ | ⟨b1, -⟩
  · have a1' := hr_n a1 c
    rw [← b3] at a1'
    rw [k1, c2, nI_clamp (by omega)] at b3
    rw [k1, c2, nI_clamp (by omega)] at b4
    refine ⟨a1', ?_, by rw [cz_t bit]; exact a3, a4⟩
    rw [b3, b4]
    exact hj_old a2 c2 c1 k1 k2 bit k3 c4 n40 hca
  · exact absurd ⟨by rw [k1]; exact vp_in_nI (by have := a2.2.1; omega) (by omega), by rw [c2]; exact vp_in_nI c1 (by omega)⟩ b1
/-! how many new coats -/
theorem cz_int (D : Nat) : ∀ m, (cz D m : Int) + py_b one D m = m
  | 0 => rfl
  | m + 1 => by
    have ih := cz_int D m
    rw [py_b_s, one_1]
    by_cases q : D.testBit m = true
    · rw [cz_t q, if_pos q]; omega
    · rw [cz_f (by cases z : D.testBit m; rfl; exact absurd z q), if_neg q]; omega
theorem nw_cz {D g : Nat} (hg : g ≤ 8) (hD : D < 2 ^ g) : nI g - bcI (nI D) = nI (cz D g) := by
  have h8 := pow8 hg
  have h1 := cz_int D g
  have h2 : pc D = py_b one D g := py_b_ge hD (by omega)
  have h3 := pc_8 (P := D) (by omega)
  have h4 := P8_le D
  have h5 := cz_le D g
  rw [bcI_P8 D (by omega)]
  apply Int32.toInt_inj.mp
  rw [Int32.toInt_sub, nI_toInt (by omega), nI_toInt (by omega), nI_toInt (by omega), Int.bmod_eq_of_le (by omega) (by omega)]
  omega
/-- what the class' feast does -/
def feX (st sz cs wo gn we co : Nat → Int32) (sp : Int32) (wa ca : Nat) (r : Int32) (wa' : Nat) (cs' wo' gn' we' co' : Nat → Int32) (g D : Nat) (gs gv gz : Nat → Int32) : Prop := plP st sz cs gn sp wa ca g D gs gv gz ∧ ((40 < wa + cz D g ∧ r = -1 ∧ wa' = wa ∧ cs' = cs ∧ wo' = wo ∧ gn' = gn ∧ we' = we ∧ co' = co) ∨ (wa + cz D g ≤ 40 ∧ (wa', cs', wo', gn', we', r) = hdS gs gv sz (wa, cs, wo, gn, nnW we wa, 0) g ∧ coW wa' ca we' co'))
theorem fe_sum {wa n : Nat} {l : Int32} (hw : wa ≤ 40) (hn : n ≤ 16) (h : l = nI n) : (nI wa + l ≤ 40 ↔ wa + n ≤ 40) := by
  rw [h, nI_add]
  exact nI_leI (b := 40) (by omega) (by decide)
theorem fs_0 {gs gv ks zs wo go we we' co : Nat → Int32} {D wa ca : Nat} (hz : ∀ k, go k = 0 ∨ go k = 1) (hca : ca ≤ 16) (e : we' = nnW we wa) (h : coW wa ca we' co) : fsI gs gv ks (wa, zs, wo, go, nnW we wa, 0) D wa ca wa zs wo go we' 0 co 0 := by
  subst e
  exact ⟨rfl, hj_0 h hca, rfl, hz⟩
theorem fs_e {gs gv ks zs wo go we co : Nat → Int32} {s : HD} {D wa0 ca G n i : Nat} {cl : Int32} (h : fsI gs gv ks s D wa0 ca n zs wo go we cl co i) (e : i = G) : (n, zs, wo, go, we, cl) = hdS gs gv ks s G ∧ coW n ca we co := by
  subst e
  exact ⟨h.1, h.2.1.1⟩
theorem cu_le {a a' : Nat} {f0 f1 f2 f3 g0 g1 g2 g3 : Nat → Int32} {q r : Int32} (h : cuP a f0 f1 f2 f3 q r a' g0 g1 g2 g3) (ha : a ≤ 40) : a' ≤ 40 := by
  rcases h with ⟨_, _, z, _⟩ | ⟨z1, _, z2, _⟩ <;> omega
theorem ga_16 {st sz f0 f3 : Nat → Int32} {g a i : Nat} (h : gaI st sz f0 f3 g a) (ha : a ≤ 16) (hi : i < g) : vp_in (f0 i) 16 := by
  obtain ⟨c, c1, c2, -⟩ := ga_at h ha hi
  rw [c2]; exact vp_in_nI (by omega) (by decide)
/-! A year: who wears what, and how long. -/
def rmW (we : Nat → Int32) (j : Nat) (c : Int32) : Nat → Int32 := fun k => if k < j ∧ we k = c then -1 else we k
theorem rm_0 {we : Nat → Int32} {c : Int32} : we = rmW we 0 c := funext (fun k => (if_neg (fun z => Nat.not_lt_zero k z.1)).symm)
theorem rm_at {we : Nat → Int32} {c : Int32} {j : Nat} : rmW we j c j = we j := if_neg (fun z => Nat.lt_irrefl j z.1)
theorem rm_n {f we : Nat → Int32} {c : Int32} {j : Nat} (h : f = rmW we j c) (q : ¬ f j = c) : f = rmW we (j + 1) c := by
  subst h
  rw [rm_at] at q
  funext k
  show (if k < j ∧ we k = c then -1 else we k) = if k < j + 1 ∧ we k = c then -1 else we k
  by_cases z : k < j ∧ we k = c
  · rw [if_pos z, if_pos ⟨by omega, z.2⟩]
  · rw [if_neg z, if_neg (fun y => by
      by_cases w : k = j
      · rw [w] at y; exact q y.2
      · exact z ⟨by omega, y.2⟩)]
theorem rm_y {f we : Nat → Int32} {c : Int32} {j : Nat} (h : f = rmW we j c) (q : f j = c) : upd f j (-1) = rmW we (j + 1) c := by
  subst h
  rw [rm_at] at q
  funext k
  by_cases w : k = j
  · rw [w, pk_us]; exact (if_pos ⟨Nat.lt_succ_self j, q⟩).symm
  · rw [pk_un w]
    show (if k < j ∧ we k = c then -1 else we k) = if k < j + 1 ∧ we k = c then -1 else we k
    by_cases z : k < j ∧ we k = c
    · rw [if_pos z, if_pos ⟨by omega, z.2⟩]
    · rw [if_neg z, if_neg (fun y => z ⟨by omega, y.2⟩)]
def ywS (st ag : Nat → Int32) (hi : Int32) (wa : Nat) (we : Nat → Int32) : Nat → Nat → Int32
  | 0 => we
  | i + 1 => if st i = 1 ∧ hi ≤ gA (ag i) then rmW (ywS st ag hi wa we i) wa (nI i) else ywS st ag hi wa we i
section YW
variable {st ag sz gr st' ag' sz' we f f' : Nat → Int32} {hi x : Int32} {i wa : Nat}
theorem yw_n (h : yeP st ag sz gr hi i st' ag' sz') (hw : f = ywS st ag hi wa we i) (hx : x = gA (ag' i)) (c : ¬ (st' i = 1 ∧ hi ≤ x)) : f = ywS st ag hi wa we (i + 1) := by
  obtain ⟨e1, e2, e3⟩ := ye_ag h
  rw [e1] at hx; rw [e3, hx] at c
  rw [hw]; exact (if_neg c).symm
theorem yw_y (h : yeP st ag sz gr hi i st' ag' sz') (hw : f = ywS st ag hi wa we i) (hx : x = gA (ag' i)) (c : st' i = 1 ∧ hi ≤ x) (e : f' = rmW f wa (nI i)) : f' = ywS st ag hi wa we (i + 1) := by
  obtain ⟨e1, e2, e3⟩ := ye_ag h
  rw [e1] at hx; rw [e3, hx] at c
  rw [e, hw]; exact (if_pos c).symm
end YW
/-- a child's coat handed in: nobody's coat is that child's any more -/
theorem hi_rm {wa ca i : Nat} {we co we' co' : Nat → Int32} (h : coW wa ca we co) (hi : i < ca) (hwa : wa ≤ 40) (hca : ca ≤ 16) (p : hiP (co i) wa ca we co we' co') : coW wa ca we' co' ∧ we' = rmW we wa (nI i) := by
  rcases h.2 i hi with z | ⟨k, k1, k2, k3⟩
  · rw [z] at p
    rcases p with ⟨-, a, b⟩ | ⟨a, -⟩
    · rw [a, b]
      refine ⟨h, funext (fun m => (if_neg (fun y => ?_)).symm)⟩
      rcases h.1 m y.1 with w | ⟨j, j1, j2, j3⟩
      · exact nI_m1n (by omega) (y.2.symm.trans w)
      · have : j = i := nI_injZ (by omega) (by omega) (j2.symm.trans y.2)
        rw [this, z] at j3
        exact nI_m1n (by omega) j3.symm
    · exact absurd (vp_in_iff.mp a).1 (by decide)
  · rw [k2] at p
    obtain ⟨a, b⟩ := hi_co h k1 hwa hca p
    refine ⟨a, b.trans (funext (fun m => ?_))⟩
    show _ = if m < wa ∧ we m = nI i then -1 else we m
    by_cases q : m = k
    · rw [q, pk_us, if_pos ⟨k1, k3⟩]
    · rw [pk_un q, if_neg (fun y => ?_)]
      rcases h.1 m y.1 with w | ⟨j, j1, j2, j3⟩
      · exact nI_m1n (by omega) (y.2.symm.trans w)
      · have : j = i := nI_injZ (by omega) (by omega) (j2.symm.trans y.2)
        rw [this, k2] at j3
        exact q (nI_injZ (by omega) (by omega) j3).symm
/-- the class: the first i coats a year more worn -/
def yoX (wo gn we : Nat → Int32) (mo : Int32) (i : Nat) (wo' gn' we' : Nat → Int32) : Prop := (∀ k, k < i → wo' k = wo k + 1 ∧ gn' k = (if mo ≤ wo k + 1 then 1 else gn k) ∧ we' k = (if gn' k = 0 then we k else -1)) ∧ ∀ k, ¬ k < i → wo' k = wo k ∧ gn' k = gn k ∧ we' k = we k
theorem yx_0 {wo gn we : Nat → Int32} {mo : Int32} : yoX wo gn we mo 0 wo gn we := ⟨fun k h => absurd h (Nat.not_lt_zero k), fun _ _ => ⟨rfl, rfl, rfl⟩⟩
theorem wo_z {a : Nat} {f1 f2 g1 g2 : Nat → Int32} {q mo r : Int32} (p : woP a f1 f2 q mo r g1 g2) (hz : ∀ k, f2 k = 0 ∨ f2 k = 1) : ∀ k, g2 k = 0 ∨ g2 k = 1 := by
  rcases p with ⟨-, -, -, e⟩ | ⟨-, -, ⟨-, e, -⟩ | ⟨-, e, -⟩⟩
  · rw [e]; exact hz
  · intro k
    rw [e]
    by_cases w : k = q.toNatClampNeg
    · rw [w, pk_us]; exact Or.inr rfl
    · rw [pk_un w]; exact hz k
  · rw [e]; exact hz
section YO
variable {wo gn we f19 f20 f21 g19 g20 : Nat → Int32} {mo r : Int32} {i wa : Nat}
theorem yx_g (h : yoX wo gn we mo i f19 f20 f21) (hi : i < wa) (hwa : wa ≤ 40) (p : woP wa f19 f20 (nI i) mo r g19 g20) (hz : ∀ k, gn k = 0 ∨ gn k = 1) : g19 = upd f19 i (wo i + 1) ∧ (∀ k, ¬ k = i → g20 k = f20 k) ∧ g20 i = (if mo ≤ wo i + 1 then 1 else gn i) ∧ r = g20 i := by
  obtain ⟨b1, b2, b3⟩ := h.2 i (Nat.lt_irrefl i)
  rcases p with ⟨z, -⟩ | ⟨-, e1, e2⟩
  · exact absurd (vp_in_nI hi (by omega)) z
  · rw [nI_clamp (by omega), b1] at e1 e2
    refine ⟨e1, ?_⟩
    rcases e2 with ⟨x1, x2, x3⟩ | ⟨x1, x2, x3⟩
    · rw [x2, if_pos x1, x3]
      exact ⟨fun k hk => pk_un hk, pk_us, pk_us.symm⟩
    · rw [x2, if_neg x1, x3]
      exact ⟨fun k _ => rfl, b2, rfl⟩
theorem yx_s {w' : Nat → Int32} (h : yoX wo gn we mo i f19 f20 f21) (hi : i < wa) (hwa : wa ≤ 40) (p : woP wa f19 f20 (nI i) mo r g19 g20) (hz : ∀ k, gn k = 0 ∨ gn k = 1) (hw : ∀ k, ¬ k = i → w' k = f21 k) (hi' : w' i = (if g20 i = 0 then we i else -1)) : yoX wo gn we mo (i + 1) g19 g20 w' := by
  obtain ⟨a1, a2, a3, a4⟩ := yx_g h hi hwa p hz
  refine ⟨fun k hk => ?_, fun k hk => ?_⟩
  · by_cases q : k = i
    · subst q
      exact ⟨by rw [a1, pk_us], a3, hi'⟩
    · rw [a1, pk_un q, a2 k q, hw k q]; exact h.1 k (by omega)
  · have q : ¬ k = i := by omega
    rw [a1, pk_un q, a2 k q, hw k q]; exact h.2 k (by omega)
theorem yx_n (h : yoX wo gn we mo i f19 f20 f21) (hi : i < wa) (hwa : wa ≤ 40) (p : woP wa f19 f20 (nI i) mo r g19 g20) (hz : ∀ k, gn k = 0 ∨ gn k = 1) (c : r = 0) : yoX wo gn we mo (i + 1) g19 g20 f21 := by
  obtain ⟨a1, a2, a3, a4⟩ := yx_g h hi hwa p hz
  exact yx_s h hi hwa p hz (fun _ _ => rfl) (by rw [← a4, if_pos c]; exact (h.2 i (Nat.lt_irrefl i)).2.2)
theorem yx_y {w' : Nat → Int32} (h : yoX wo gn we mo i f19 f20 f21) (hi : i < wa) (hwa : wa ≤ 40) (p : woP wa f19 f20 (nI i) mo r g19 g20) (hz : ∀ k, gn k = 0 ∨ gn k = 1) (c : ¬ r = 0) (e : w' = upd f21 i (-1)) : yoX wo gn we mo (i + 1) g19 g20 w' := by
  obtain ⟨a1, a2, a3, a4⟩ := yx_g h hi hwa p hz
  exact yx_s h hi hwa p hz (fun k hk => by rw [e, pk_un hk]) (by rw [← a4, if_neg c, e, pk_us])
end YO
/-- the reference: those that are gone are passed over -/
def yoM (wo gn we : Nat → Int32) (mo : Int32) (i : Nat) (wo' gn' we' : Nat → Int32) : Prop := (∀ k, k < i → (gn k = 0 → wo' k = wo k + 1 ∧ gn' k = (if mo ≤ wo k + 1 then 1 else 0) ∧ we' k = (if mo ≤ wo k + 1 then -1 else we k)) ∧ (¬ gn k = 0 → wo' k = wo k ∧ gn' k = gn k ∧ we' k = we k)) ∧ ∀ k, ¬ k < i → wo' k = wo k ∧ gn' k = gn k ∧ we' k = we k
theorem ym_0 {wo gn we : Nat → Int32} {mo : Int32} : yoM wo gn we mo 0 wo gn we := ⟨fun k h => absurd h (Nat.not_lt_zero k), fun _ _ => ⟨rfl, rfl, rfl⟩⟩
section YM
variable {wo gn we f19 f20 f21 : Nat → Int32} {mo : Int32} {i : Nat}
theorem ym_g (h : yoM wo gn we mo i f19 f20 f21) (c : ¬ f20 i = 0) : yoM wo gn we mo (i + 1) f19 f20 f21 := by
  obtain ⟨b1, b2, b3⟩ := h.2 i (Nat.lt_irrefl i)
  refine ⟨fun k hk => ?_, fun k hk => h.2 k (by omega)⟩
  by_cases q : k = i
  · subst q
    exact ⟨fun z => absurd (b2.trans z) c, fun _ => ⟨b1, b2, b3⟩⟩
  · exact h.1 k (by omega)
theorem ym_n (h : yoM wo gn we mo i f19 f20 f21) (c : f20 i = 0) (d : ¬ mo ≤ f19 i + 1) : yoM wo gn we mo (i + 1) (upd f19 i (f19 i + 1)) f20 f21 := by
  obtain ⟨b1, b2, b3⟩ := h.2 i (Nat.lt_irrefl i)
  refine ⟨fun k hk => ?_, fun k hk => ?_⟩
  · by_cases q : k = i
    · subst q
      rw [b1] at d
      exact ⟨fun z => ⟨by rw [pk_us, b1], by rw [if_neg d]; exact c, by rw [if_neg d]; exact b3⟩, fun z => absurd (b2.symm.trans c) z⟩
    · rw [pk_un q]; exact h.1 k (by omega)
  · rw [pk_un (by omega)]; exact h.2 k (by omega)
theorem ym_y (h : yoM wo gn we mo i f19 f20 f21) (c : f20 i = 0) (d : mo ≤ f19 i + 1) : yoM wo gn we mo (i + 1) (upd f19 i (f19 i + 1)) (upd f20 i 1) (upd f21 i (-1)) := by
  obtain ⟨b1, b2, b3⟩ := h.2 i (Nat.lt_irrefl i)
  refine ⟨fun k hk => ?_, fun k hk => ?_⟩
  · by_cases q : k = i
    · subst q
      rw [b1] at d
      exact ⟨fun z => ⟨by rw [pk_us, b1], by rw [if_pos d, pk_us], by rw [if_pos d, pk_us]⟩, fun z => absurd (b2.symm.trans c) z⟩
    · rw [pk_un q, pk_un q, pk_un q]; exact h.1 k (by omega)
  · rw [pk_un (by omega), pk_un (by omega), pk_un (by omega)]; exact h.2 k (by omega)
end YM

