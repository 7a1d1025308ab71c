/-! Filling a place and a year: what both sides compute. -/
def cntP (st : Nat → Int32) : Nat → Nat
  | 0 => 0
  | k + 1 => cntP st k + (if st k = 1 then 1 else 0)
theorem cn_y {st : Nat → Int32} {b i : Nat} (h : b = cntP st i) (c : st i = 1) : b + 1 = cntP st (i + 1) := by
  show b + 1 = cntP st i + (if st i = 1 then 1 else 0)
  rw [if_pos c, h]
theorem cn_n {st : Nat → Int32} {b i : Nat} (h : b = cntP st i) (c : ¬ st i = 1) : b = cntP st (i + 1) := by
  show b = cntP st i + (if st i = 1 then 1 else 0)
  rw [if_neg c, h, Nat.add_zero]
def mcQ (st ag : Nat → Int32) (lo hi : Int32) (j : Nat) : Prop := st j = 0 ∧ ¬ ag j < lo ∧ ag j < hi
def mcI (ca : Nat) (st ag : Nat → Int32) (lo hi c : Int32) : Prop := vp_in c ca ∧ mcQ st ag lo hi c.toNatClampNeg
theorem mc_nI {ca : Nat} {st ag : Nat → Int32} {lo hi : Int32} {j : Nat} (hj : j < ca) (hc : ca ≤ 16) : mcI ca st ag lo hi (nI j) ↔ mcQ st ag lo hi j := by
  unfold mcI
  rw [nI_clamp (by omega)]
  exact ⟨fun h => h.2, fun h => ⟨vp_in_nI hj (by omega), h⟩⟩
def vtS (gv gs : Nat → Int32) (pr c : Int32) : Nat → Int32
  | 0 => 0
  | k + 1 => vtS gv gs pr c k + (if gs k = c then gv k / pr else 0)
theorem vt_y {gv gs : Nat → Int32} {pr c l : Int32} {i : Nat} (h : l = vtS gv gs pr c i) (e : gs i = c) : l + gv i / pr = vtS gv gs pr c (i + 1) := by
  show l + gv i / pr = vtS gv gs pr c i + (if gs i = c then gv i / pr else 0)
  rw [if_pos e, h]
theorem vt_n {gv gs : Nat → Int32} {pr c l : Int32} {i : Nat} (h : l = vtS gv gs pr c i) (e : ¬ gs i = c) : l = vtS gv gs pr c (i + 1) := by
  show l = vtS gv gs pr c i + (if gs i = c then gv i / pr else 0)
  rw [if_neg e, Int32.add_zero, h]
theorem vt_n0 {gv gs : Nat → Int32} {pr c l : Int32} {i : Nat} (h : l = vtS gv gs pr c i) (e : ¬ gs i = c) : l + 0 = vtS gv gs pr c (i + 1) := by
  rw [Int32.add_zero]; exact vt_n h e
def gvB (gv : Nat → Int32) (ga : Nat) : Prop := ∀ j, j < ga → 0 ≤ (gv j).toInt ∧ (gv j).toInt ≤ 99999
theorem dv_b {x : Int32} {v : Nat} (hx : 0 ≤ x.toInt ∧ x.toInt ≤ 99999) (hv : 1 ≤ v) (h9 : v ≤ 9999) : 0 ≤ (x / nI v).toInt ∧ (x / nI v).toInt ≤ 99999 := by
  obtain ⟨a, ha⟩ : ∃ a : Nat, x.toInt = a := ⟨x.toInt.toNat, by omega⟩
  have hxa : x = nI a := Int32.toInt_inj.mp (by rw [ha, nI_toInt (by omega)])
  have hle := Nat.div_le_self a v
  have hq : ((a : Int).tdiv (v : Int)) = ((a / v : Nat) : Int) := rfl
  have hd : (x / nI v).toInt = ((a / v : Nat) : Int) := by
    rw [Int32.toInt_div, ha, nI_toInt (by omega), hq]
    generalize a / v = q at hle ⊢
    exact Int.bmod_eq_of_le (by omega) (by omega)
  rw [hd]
  generalize a / v = q at hle ⊢
  omega
theorem vt_b {gv gs : Nat → Int32} {c : Int32} {v ga : Nat} (hg : gvB gv ga) (h1 : 1 ≤ v) (h9 : v ≤ 9999) (hga : ga ≤ 8) : ∀ {i : Nat}, i ≤ ga → 0 ≤ (vtS gv gs (nI v) c i).toInt ∧ (vtS gv gs (nI v) c i).toInt ≤ 99999 * i
  | 0, _ => by show 0 ≤ (0 : Int32).toInt ∧ (0 : Int32).toInt ≤ 99999 * ((0 : Nat) : Int); decide
  | i + 1, h => by
    have ih := vt_b (gs := gs) (c := c) hg h1 h9 hga (i := i) (by omega)
    show 0 ≤ (vtS gv gs (nI v) c i + (if gs i = c then gv i / nI v else 0)).toInt ∧ (vtS gv gs (nI v) c i + (if gs i = c then gv i / nI v else 0)).toInt ≤ 99999 * ((i + 1 : Nat) : Int)
    split
    · have hb := dv_b (hg i (by omega)) h1 h9
      rw [Int32.toInt_add, Int.bmod_eq_of_le (by omega) (by omega)]
      omega
    · rw [Int32.add_zero]; omega
theorem vt_nn {gv gs : Nat → Int32} {c : Int32} {v ga : Nat} (hg : gvB gv ga) (h1 : 1 ≤ v) (h9 : v ≤ 9999) (hga : ga ≤ 8) : 0 ≤ (vtS gv gs (nI v) c ga).toInt := (vt_b hg h1 h9 hga (Nat.le_refl ga)).1
/-! the best of the children, one after the other -/
def bsP (tk : Nat → Int32 → Prop) : Nat → Int32 → Prop
  | 0, b => b = -1
  | c + 1, b => ∃ b0, bsP tk c b0 ∧ ((tk c b0 ∧ b = nI c) ∨ (¬ tk c b0 ∧ b = b0))
theorem bs_y {tk : Nat → Int32 → Prop} {c : Nat} {b : Int32} (h : bsP tk c b) (ht : tk c b) : bsP tk (c + 1) (nI c) := ⟨b, h, Or.inl ⟨ht, rfl⟩⟩
theorem bs_n {tk : Nat → Int32 → Prop} {c : Nat} {b : Int32} (h : bsP tk c b) (ht : ¬ tk c b) : bsP tk (c + 1) b := ⟨b, h, Or.inr ⟨ht, rfl⟩⟩
theorem bs_e {tk : Nat → Int32 → Prop} {c n : Nat} {b : Int32} (h : bsP tk c b) (e : c = n) : bsP tk n b := e ▸ h
theorem bs_un {tk : Nat → Int32 → Prop} : ∀ {c : Nat} {b b' : Int32}, bsP tk c b → bsP tk c b' → b = b'
  | 0, _, _, h, h' => h.trans (Eq.symm h')
  | c + 1, b, b', ⟨b0, h1, h2⟩, ⟨b1, g1, g2⟩ => by
    have e := bs_un h1 g1
    subst e
    rcases h2 with ⟨x1, x2⟩ | ⟨x1, x2⟩ <;> rcases g2 with ⟨y1, y2⟩ | ⟨y1, y2⟩
    · exact x2.trans y2.symm
    · exact absurd x1 y1
    · exact absurd y1 x1
    · exact x2.trans y2.symm
theorem bs_in {tk : Nat → Int32 → Prop} : ∀ {c : Nat} {b : Int32}, c ≤ 16 → bsP tk c b → b = -1 ∨ vp_in b c
  | 0, _, _, h => Or.inl h
  | c + 1, b, hc, ⟨b0, h1, h2⟩ => by
    rcases h2 with ⟨_, x2⟩ | ⟨_, x2⟩
    · exact Or.inr (by rw [x2]; exact vp_in_nI (by omega) (by omega))
    · rw [x2]; exact (bs_in (by omega) h1).imp (fun z => z) (fun z => in_up z (by omega))
def tkV (mc : Nat → Prop) (v nd : Nat → Int32) (c : Nat) (b : Int32) : Prop := mc c ∧ ((b = -1 ∧ 0 < v c) ∨ (¬ b = -1 ∧ (v b.toNatClampNeg < v c ∨ (v b.toNatClampNeg = v c ∧ nd b.toNatClampNeg < nd c))))
def tkN (mc : Nat → Prop) (nd : Nat → Int32) (c : Nat) (b : Int32) : Prop := mc c ∧ (b = -1 ∨ (¬ b = -1 ∧ nd b.toNatClampNeg < nd c))
def moP (v : Nat → Int32) (b l : Int32) : Prop := (b = -1 ∧ l = 0) ∨ (¬ b = -1 ∧ l = v b.toNatClampNeg)
theorem mo_c {v : Nat → Int32} {c : Nat} {l : Int32} (hc : c < 16) (h : l = v c) : moP v (nI c) l := Or.inr ⟨fun z => by
    have a : (nI c).toInt = (-1 : Int32).toInt := by rw [z]
    rw [nI_toInt (by omega), show (-1 : Int32).toInt = -1 by decide] at a
    omega, by rw [nI_clamp (by omega)]; exact h⟩
section TK
variable {mc : Nat → Prop} {v nd : Nat → Int32} {c : Nat} {b l r : Int32}
theorem tv_no (h : ¬ mc c) : ¬ tkV mc v nd c b := fun z => h z.1
theorem tv_y1 (hm : mc c) (hM : moP v b l) (hv : r = v c) (c1 : l < r) : tkV mc v nd c b := by
  rcases hM with ⟨x1, x2⟩ | ⟨x1, x2⟩
  · exact ⟨hm, Or.inl ⟨x1, by rw [← hv, ← x2]; exact c1⟩⟩
  · exact ⟨hm, Or.inr ⟨x1, Or.inl (by rw [← hv, ← x2]; exact c1)⟩⟩
theorem tv_y2 (hm : mc c) (hM : moP v b l) (hv : r = v c) (c1 : ¬ b = -1) (c2 : r = l) (c3 : ¬ nd c ≤ nd b.toNatClampNeg) : tkV mc v nd c b := by
  rcases hM with ⟨x1, x2⟩ | ⟨x1, x2⟩
  · exact absurd x1 c1
  · exact ⟨hm, Or.inr ⟨x1, Or.inr ⟨by rw [← hv, ← x2]; exact c2.symm, Int32.not_le.mp c3⟩⟩⟩
theorem tv_n (hM : moP v b l) (hv : r = v c) (c1 : ¬ l < r) (hx : b = -1 ∨ ¬ r = l ∨ nd c ≤ nd b.toNatClampNeg) : ¬ tkV mc v nd c b := by
  rintro ⟨-, ⟨z1, z2⟩ | ⟨z1, z2⟩⟩
  · rcases hM with ⟨x1, x2⟩ | ⟨x1, x2⟩
    · exact c1 (by rw [x2, hv]; exact z2)
    · exact x1 z1
  · rcases hM with ⟨x1, x2⟩ | ⟨x1, x2⟩
    · exact z1 x1
    · rcases z2 with z2 | ⟨z2, z3⟩
      · exact c1 (by rw [x2, hv]; exact z2)
      · rcases hx with hx | hx | hx
        · exact z1 hx
        · exact hx (by rw [hv, x2]; exact z2.symm)
        · exact absurd z3 (Int32.not_lt.mpr hx)
theorem tn_y (hm : mc c) (h : b = -1 ∨ ¬ nd c ≤ nd b.toNatClampNeg) : tkN mc nd c b := by
  refine ⟨hm, ?_⟩
  by_cases q : b = -1
  · exact Or.inl q
  · exact Or.inr ⟨q, Int32.not_le.mp (h.resolve_left q)⟩
theorem tn_n1 (h : ¬ mc c) : ¬ tkN mc nd c b := fun z => h z.1
theorem tn_n2 (h1 : ¬ b = -1) (h2 : nd c ≤ nd b.toNatClampNeg) : ¬ tkN mc nd c b := fun z => z.2.elim h1 (fun y => absurd y.2 (Int32.not_lt.mpr h2))
end TK
theorem bs_pos {mc : Nat → Prop} {v nd : Nat → Int32} : ∀ {c : Nat} {b : Int32}, c ≤ 16 → bsP (tkV mc v nd) c b → b = -1 ∨ 0 < v b.toNatClampNeg
  | 0, _, _, h => Or.inl h
  | c + 1, b, hc, ⟨b0, h1, h2⟩ => by
    have ih := bs_pos (by omega) h1
    rcases h2 with ⟨x1, x2⟩ | ⟨_, x2⟩
    · right
      rw [x2, nI_clamp (by omega)]
      rcases x1.2 with ⟨_, z⟩ | ⟨z1, z2⟩
      · exact z
      · have i1 := Int32.lt_iff_toInt_lt.mp (ih.resolve_left z1)
        rcases z2 with z2 | ⟨z2, _⟩
        · exact Int32.lt_iff_toInt_lt.mpr (Int.lt_trans i1 (Int32.lt_iff_toInt_lt.mp z2))
        · rw [← z2]; exact ih.resolve_left z1
    · rw [x2]; exact ih
/-- what the reference's isAhead says -/
def ahV (v nd : Nat → Int32) (c : Nat) (b : Int32) : Prop := (¬ v c = v b.toNatClampNeg ∧ v b.toNatClampNeg < v c) ∨ (v c = v b.toNatClampNeg ∧ (nd b.toNatClampNeg < nd c ∨ (nd c = nd b.toNatClampNeg ∧ nI c < b)))
def ahN (nd : Nat → Int32) (c : Nat) (b : Int32) : Prop := nd b.toNatClampNeg < nd c ∨ (nd c = nd b.toNatClampNeg ∧ nI c < b)
section AH
variable {mc : Nat → Prop} {v nd : Nat → Int32} {c : Nat} {b r : Int32}
theorem lt_in {b : Int32} {c : Nat} (hc : c ≤ 16) (h : b = -1 ∨ vp_in b c) (h0 : ¬ b < 0) : ¬ b = -1 ∧ ¬ nI c < b := by
  have hb := h.resolve_left (fun z => h0 (by rw [z]; decide))
  refine ⟨fun z => h0 (by rw [z]; decide), fun z => ?_⟩
  have a := Int32.lt_iff_toInt_lt.mp z
  rw [nI_toInt (by omega)] at a
  have := (vp_in_iff.mp hb).2
  omega
theorem neg_in {b : Int32} {c : Nat} (h : b = -1 ∨ vp_in b c) (h0 : b < 0) : b = -1 := h.resolve_right (fun z => by
  have a := Int32.lt_iff_toInt_lt.mp h0
  have e : (0 : Int32).toInt = 0 := by decide
  have := (vp_in_iff.mp z).1
  omega)
theorem pos_of {x : Int32} (h : 0 ≤ x.toInt) (h0 : ¬ x = 0) : 0 < x := by
  apply Int32.lt_iff_toInt_lt.mpr
  have e : (0 : Int32).toInt = 0 := by decide
  have : ¬ x.toInt = 0 := fun z => h0 (Int32.toInt_inj.mp (by rw [z, e]))
  omega
theorem rv_y1 (hm : mc c) (hr : r = v c) (hn : 0 ≤ (v c).toInt) (h0 : ¬ r = 0) (hb : b = -1) : tkV mc v nd c b := ⟨hm, Or.inl ⟨hb, pos_of hn (by rw [← hr]; exact h0)⟩⟩
theorem rv_y2 (hc : c ≤ 16) (hm : mc c) (hb : b = -1 ∨ vp_in b c) (h0 : ¬ b < 0) (ha : ahV v nd c b) : tkV mc v nd c b := by
  obtain ⟨g1, g2⟩ := lt_in hc hb h0
  refine ⟨hm, Or.inr ⟨g1, ?_⟩⟩
  rcases ha with ⟨_, z⟩ | ⟨z1, z2 | ⟨_, z2⟩⟩
  · exact Or.inl z
  · exact Or.inr ⟨z1.symm, z2⟩
  · exact absurd z2 g2
theorem rv_n0 (hr : r = v c) (h0 : r = 0) (hp : b = -1 ∨ 0 < v b.toNatClampNeg) (hnb : ¬ b = -1 → 0 ≤ (v b.toNatClampNeg).toInt) : ¬ tkV mc v nd c b := by
  have e0 : (0 : Int32).toInt = 0 := by decide
  have hv : v c = 0 := by rw [← hr]; exact h0
  rintro ⟨-, ⟨_, z2⟩ | ⟨z1, z2 | ⟨z2, _⟩⟩⟩
  · rw [hv] at z2; exact absurd z2 (by decide)
  · rw [hv] at z2
    have a := Int32.lt_iff_toInt_lt.mp z2
    have := hnb z1
    omega
  · have := hp.resolve_left z1
    rw [z2, hv] at this
    exact absurd this (by decide)
theorem rv_n (hc : c ≤ 16) (hb : b = -1 ∨ vp_in b c) (h0 : ¬ b < 0) (ha : ¬ ahV v nd c b) : ¬ tkV mc v nd c b := by
  obtain ⟨g1, g2⟩ := lt_in hc hb h0
  rintro ⟨-, ⟨z1, _⟩ | ⟨_, z2 | ⟨z2, z3⟩⟩⟩
  · exact g1 z1
  · exact ha (Or.inl ⟨fun q => by rw [q] at z2; exact Int32.lt_irrefl z2, z2⟩)
  · exact ha (Or.inr ⟨z2.symm, Or.inl z3⟩)
theorem rn_y2 (hc : c ≤ 16) (hm : mc c) (hb : b = -1 ∨ vp_in b c) (h0 : ¬ b < 0) (ha : ahN nd c b) : tkN mc nd c b := by
  obtain ⟨g1, g2⟩ := lt_in hc hb h0
  exact ⟨hm, Or.inr ⟨g1, ha.resolve_right (fun z => g2 z.2)⟩⟩
theorem rn_n (hc : c ≤ 16) (hb : b = -1 ∨ vp_in b c) (h0 : ¬ b < 0) (ha : ¬ ahN nd c b) : ¬ tkN mc nd c b := by
  obtain ⟨g1, g2⟩ := lt_in hc hb h0
  rintro ⟨-, z | ⟨_, z⟩⟩
  · exact g1 z
  · exact ha (Or.inl z)
end AH
/-! turns -/
def tuP (ga x : Nat) (ok : Nat → Prop) (gs : Nat → Int32) (r gx : Int32) : Prop := (∃ k, k < ga ∧ ok ((x + k) % ga) ∧ (∀ j, j < k → ¬ ok ((x + j) % ga)) ∧ r = gs ((x + k) % ga) ∧ gx = nI (((x + k) % ga + 1) % ga)) ∨ ((∀ k, k < ga → ¬ ok ((x + k) % ga)) ∧ r = -1 ∧ gx = nI x)
theorem tu_un {ga x : Nat} {ok : Nat → Prop} {gs : Nat → Int32} {r gx r' gx' : Int32} (h : tuP ga x ok gs r gx) (h' : tuP ga x ok gs r' gx') : r = r' ∧ gx = gx' := by
  rcases h with ⟨k, a1, a2, a3, a4, a5⟩ | ⟨a1, a2, a3⟩ <;> rcases h' with ⟨k', b1, b2, b3, b4, b5⟩ | ⟨b1, b2, b3⟩
  · have e : k = k' := by
      rcases Nat.lt_trichotomy k k' with q | q | q
      · exact absurd a2 (b3 k q)
      · exact q
      · exact absurd b2 (a3 k' q)
    subst e
    exact ⟨a4.trans b4.symm, a5.trans b5.symm⟩
  · exact absurd a2 (b1 k a1)
  · exact absurd b2 (a1 k' b1)
  · exact ⟨a2.trans b2.symm, a3.trans b3.symm⟩
theorem tu_0 {ga x : Nat} (h : x < ga ∨ x = 0) : x = (x + 0) % ga := by
  rw [Nat.add_zero]
  rcases h with h | h
  · exact (Nat.mod_eq_of_lt h).symm
  · rw [h, Nat.zero_mod]
theorem tu_w {ga x i b : Nat} (hi : i < ga) (h : b = (x + i) % ga) (c : ga ≤ b + 1) : 0 = (x + (i + 1)) % ga := by
  have hb : b < ga := by rw [h]; exact Nat.mod_lt _ (by omega)
  rw [← Nat.add_assoc, Nat.add_mod, ← h]
  by_cases q : ga = 1
  · rw [q, Nat.mod_one]
  · rw [Nat.mod_eq_of_lt (show 1 < ga by omega), show b + 1 = ga by omega, Nat.mod_self]
theorem tu_s {ga x i b : Nat} (hi : i < ga) (h : b = (x + i) % ga) (c : b + 1 < ga) : b + 1 = (x + (i + 1)) % ga := by
  rw [← Nat.add_assoc, Nat.add_mod, ← h, Nat.mod_eq_of_lt (show 1 < ga by omega), Nat.mod_eq_of_lt c]
theorem tu_b {ga x i b : Nat} (hi : i < ga) (h : b = (x + i) % ga) : b < ga := by rw [h]; exact Nat.mod_lt _ (by omega)
/-! what is next -/
def goN (b1 b2 : Int32) : Int32 := if b1 ≤ b2 + 1 then 0 else b2 + 1
theorem go_m {y m : Nat} (hy : y < m) (hm : m ≤ 8) : goN (nI m) (nI y) = nI ((y + 1) % m) := by
  unfold goN
  rw [nI_1]
  by_cases q : m ≤ y + 1
  · rw [if_pos ((nI_leI (by omega) (by omega)).mpr q), show y + 1 = m by omega, Nat.mod_self]; rfl
  · rw [if_neg (fun z => q ((nI_leI (by omega) (by omega)).mp z)), Nat.mod_eq_of_lt (by omega)]
/-- who comes, by the way w -/
def cbP (ga x ca : Nat) (gv gs st ag nd : Nat → Int32) (pr lo hi gx w r gx' : Int32) : Prop :=
  (w = 0 ∧ tuP ga x (fun g => mcI ca st ag lo hi (gs g)) gs r gx') ∨ (w = 1 ∧ bsP (tkV (mcQ st ag lo hi) (fun c => vtS gv gs pr (nI c) ga) nd) ca r ∧ gx' = gx) ∨ (¬ w = 0 ∧ ¬ w = 1 ∧ bsP (tkN (mcQ st ag lo hi) nd) ca r ∧ gx' = gx)
theorem cb_un {ga x ca : Nat} {gv gs st ag nd : Nat → Int32} {pr lo hi gx w r gx' r2 gx2 : Int32} (h : cbP ga x ca gv gs st ag nd pr lo hi gx w r gx') (h' : cbP ga x ca gv gs st ag nd pr lo hi gx w r2 gx2) : r = r2 ∧ gx' = gx2 := by
  rcases h with ⟨a1, a2⟩ | ⟨a1, a2, a3⟩ | ⟨a1, a2, a3, a4⟩ <;> rcases h' with ⟨b1, b2⟩ | ⟨b1, b2, b3⟩ | ⟨b1, b2, b3, b4⟩
  · exact tu_un a2 b2
  · rw [a1] at b1; exact absurd b1 (by decide)
  · exact absurd a1 b1
  · rw [b1] at a1; exact absurd a1.symm (by decide)
  · exact ⟨bs_un a2 b2, a3.trans b3.symm⟩
  · exact absurd a1 b2
  · exact absurd b1 a1
  · exact absurd b1 a2
  · exact ⟨bs_un a3 b3, a4.trans b4.symm⟩
theorem cb_in {ga x ca : Nat} {gv gs st ag nd : Nat → Int32} {pr lo hi gx w r gx' : Int32} (hc : ca ≤ 16) (h : cbP ga x ca gv gs st ag nd pr lo hi gx w r gx') : r = -1 ∨ vp_in r ca := by
  rcases h with ⟨_, h | h⟩ | ⟨_, h, _⟩ | ⟨_, _, h, _⟩
  · obtain ⟨k, _, h2, _, h4, _⟩ := h
    rw [h4]; exact Or.inr h2.1
  · exact Or.inl h.2.1
  · exact bs_in hc h
  · exact bs_in hc h
/-- a place is filled -/
def fiP (ga x ca y m : Nat) (gv gs st ag nd cy : Nat → Int32) (pr lo hi pl gx r gx' e2' : Int32) (st' : Nat → Int32) : Prop :=
  (¬ nI (cntP st ca) < pl ∧ r = -1 ∧ gx' = gx ∧ e2' = nI y ∧ st' = st) ∨ (nI (cntP st ca) < pl ∧ cbP ga x ca gv gs st ag nd pr lo hi gx (cy y) r gx' ∧ ((r = -1 ∧ e2' = nI y ∧ st' = st) ∨ (¬ r = -1 ∧ e2' = nI ((y + 1) % m) ∧ st' = upd st r.toNatClampNeg 1)))
theorem fi_un {ga x ca y m : Nat} {gv gs st ag nd cy : Nat → Int32} {pr lo hi pl gx r gx' e2' r2 gx2 e22 : Int32} {st' st2 : Nat → Int32} (h : fiP ga x ca y m gv gs st ag nd cy pr lo hi pl gx r gx' e2' st') (h' : fiP ga x ca y m gv gs st ag nd cy pr lo hi pl gx r2 gx2 e22 st2) : r = r2 ∧ gx' = gx2 ∧ e2' = e22 ∧ st' = st2 := by
  rcases h with ⟨a1, a2, a3, a4, a5⟩ | ⟨a1, a2, a3⟩ <;> rcases h' with ⟨b1, b2, b3, b4, b5⟩ | ⟨b1, b2, b3⟩
  · exact ⟨a2.trans b2.symm, a3.trans b3.symm, a4.trans b4.symm, a5.trans b5.symm⟩
  · exact absurd b1 a1
  · exact absurd a1 b1
  · obtain ⟨e1, e2⟩ := cb_un a2 b2
    subst e1
    rcases a3 with ⟨x1, x2, x3⟩ | ⟨x1, x2, x3⟩ <;> rcases b3 with ⟨y1, y2, y3⟩ | ⟨y1, y2, y3⟩
    · exact ⟨rfl, e2, x2.trans y2.symm, x3.trans y3.symm⟩
    · exact absurd x1 y1
    · exact absurd y1 x1
    · exact ⟨rfl, e2, x2.trans y2.symm, x3.trans y3.symm⟩
/-! a year -/
def gA (a : Int32) : Int32 := if a + 1 < 99 then a + 1 else 99
def gS (s g : Int32) : Int32 := if s + g < 99 then s + g else 99
theorem gA_r {a : Int32} (h : 0 ≤ a.toInt ∧ a.toInt ≤ 99) : gA a = if 99 ≤ a then 99 else a + 1 := by
  have e99 : (99 : Int32).toInt = 99 := by decide
  have e1 : (1 : Int32).toInt = 1 := by decide
  have ha : (a + 1).toInt = a.toInt + 1 := by rw [Int32.toInt_add, e1, Int.bmod_eq_of_le (by omega) (by omega)]
  unfold gA
  by_cases q : a + 1 < 99
  · have z := Int32.lt_iff_toInt_lt.mp q
    rw [if_pos q, if_neg (fun y => by have := Int32.le_iff_toInt_le.mp y; omega)]
  · have z := Int.not_lt.mp (fun y => q (Int32.lt_iff_toInt_lt.mpr y))
    rw [if_neg q]
    by_cases w : 99 ≤ a
    · rw [if_pos w]
    · have y := Int.not_le.mp (fun y => w (Int32.le_iff_toInt_le.mpr y))
      rw [if_neg w]
      exact Int32.toInt_inj.mp (by omega)
theorem gS_r {s g : Int32} : gS s g = if s + g ≤ 99 then s + g else 99 := by
  unfold gS
  by_cases q : s + g < 99
  · rw [if_pos q, if_pos (Int32.le_of_lt q)]
  · rw [if_neg q]
    by_cases w : s + g ≤ 99
    · rw [if_pos w]
      have a := Int.not_lt.mp (fun y => q (Int32.lt_iff_toInt_lt.mpr y))
      have b := Int32.le_iff_toInt_le.mp w
      exact Int32.toInt_inj.mp (by omega)
    · rw [if_neg w]
def yeB (st ag : Nat → Int32) (hi : Int32) (j : Nat) : Prop := st j = 1 ∧ hi ≤ gA (ag j)
def ybC (st ag : Nat → Int32) (hi : Int32) : Nat → Nat
  | 0 => 0
  | k + 1 => ybC st ag hi k + (if st k = 1 ∧ hi ≤ gA (ag k) then 1 else 0)
/-- the first i children a year older -/
def yeP (st ag sz gr : Nat → Int32) (hi : Int32) (i : Nat) (st' ag' sz' : Nat → Int32) : Prop := (∀ j, ag' j = if j < i then gA (ag j) else ag j) ∧ (∀ j, sz' j = if j < i then gS (sz j) (gr j) else sz j) ∧ (∀ j, st' j = if j < i ∧ (st j = 1 ∧ hi ≤ gA (ag j)) then 2 else st j)
theorem ye_0 {st ag sz gr : Nat → Int32} {hi : Int32} : yeP st ag sz gr hi 0 st ag sz := ⟨fun j => by rw [if_neg (Nat.not_lt_zero j)], fun j => by rw [if_neg (Nat.not_lt_zero j)], fun j => by rw [if_neg (fun h => Nat.not_lt_zero j h.1)]⟩
theorem ye_un {st ag sz gr st1 ag1 sz1 st2 ag2 sz2 : Nat → Int32} {hi : Int32} {i : Nat} (h : yeP st ag sz gr hi i st1 ag1 sz1) (h' : yeP st ag sz gr hi i st2 ag2 sz2) : st1 = st2 ∧ ag1 = ag2 ∧ sz1 = sz2 :=
  ⟨funext (fun j => (h.2.2 j).trans (h'.2.2 j).symm), funext (fun j => (h.1 j).trans (h'.1 j).symm), funext (fun j => (h.2.1 j).trans (h'.2.1 j).symm)⟩
section YE
variable {st ag sz gr st' ag' sz' : Nat → Int32} {hi : Int32} {i b : Nat}
theorem ye_ag (h : yeP st ag sz gr hi i st' ag' sz') : ag' i = ag i ∧ sz' i = sz i ∧ st' i = st i := ⟨by rw [h.1 i, if_neg (Nat.lt_irrefl i)], by rw [h.2.1 i, if_neg (Nat.lt_irrefl i)], by rw [h.2.2 i, if_neg (fun z => Nat.lt_irrefl i z.1)]⟩
theorem ye_st {x y : Int32} (h : yeP st ag sz gr hi i st' ag' sz') (hx : x = gA (ag' i)) (hy : y = gS (sz' i) (gr i)) (c : ¬ (st' i = 1 ∧ hi ≤ x)) : yeP st ag sz gr hi (i + 1) st' (upd ag' i x) (upd sz' i y) := by
  obtain ⟨e1, e2, e3⟩ := ye_ag h
  rw [e1] at hx; rw [e2] at hy; rw [e3, hx] at c
  refine ⟨fun j => ?_, fun j => ?_, fun j => ?_⟩
  · by_cases q : j = i
    · rw [q, pk_us, if_pos (Nat.lt_succ_self i), hx]
    · rw [pk_un q, h.1 j]
      by_cases z : j < i
      · rw [if_pos z, if_pos (by omega)]
      · rw [if_neg z, if_neg (by omega)]
  · by_cases q : j = i
    · rw [q, pk_us, if_pos (Nat.lt_succ_self i), hy]
    · rw [pk_un q, h.2.1 j]
      by_cases z : j < i
      · rw [if_pos z, if_pos (by omega)]
      · rw [if_neg z, if_neg (by omega)]
  · rw [h.2.2 j]
    by_cases q : j = i
    · rw [q, if_neg (fun z => Nat.lt_irrefl i z.1), if_neg (fun z => c z.2)]
    · by_cases z : j < i ∧ (st j = 1 ∧ hi ≤ gA (ag j))
      · rw [if_pos z, if_pos ⟨by omega, z.2⟩]
      · rw [if_neg z, if_neg (fun y => z ⟨by omega, y.2⟩)]
theorem ye_bo {x y : Int32} (h : yeP st ag sz gr hi i st' ag' sz') (hx : x = gA (ag' i)) (hy : y = gS (sz' i) (gr i)) (c : st' i = 1 ∧ hi ≤ x) : yeP st ag sz gr hi (i + 1) (upd st' i 2) (upd ag' i x) (upd sz' i y) := by
  obtain ⟨e1, e2, e3⟩ := ye_ag h
  rw [e1] at hx; rw [e2] at hy; rw [e3, hx] at c
  refine ⟨fun j => ?_, fun j => ?_, fun j => ?_⟩
  · by_cases q : j = i
    · rw [q, pk_us, if_pos (Nat.lt_succ_self i), hx]
    · rw [pk_un q, h.1 j]
      by_cases z : j < i
      · rw [if_pos z, if_pos (by omega)]
      · rw [if_neg z, if_neg (by omega)]
  · by_cases q : j = i
    · rw [q, pk_us, if_pos (Nat.lt_succ_self i), hy]
    · rw [pk_un q, h.2.1 j]
      by_cases z : j < i
      · rw [if_pos z, if_pos (by omega)]
      · rw [if_neg z, if_neg (by omega)]
  · by_cases q : j = i
    · rw [q, pk_us, if_pos ⟨Nat.lt_succ_self i, c⟩]
    · rw [pk_un q, h.2.2 j]
      by_cases z : j < i ∧ (st j = 1 ∧ hi ≤ gA (ag j))
      · rw [if_pos z, if_pos ⟨by omega, z.2⟩]
      · rw [if_neg z, if_neg (fun y => z ⟨by omega, y.2⟩)]
theorem yb_y {x : Int32} (h : yeP st ag sz gr hi i st' ag' sz') (hb : b = ybC st ag hi i) (hx : x = gA (ag' i)) (c : st' i = 1 ∧ hi ≤ x) : b + 1 = ybC st ag hi (i + 1) := by
  obtain ⟨e1, e2, e3⟩ := ye_ag h
  rw [e1] at hx; rw [e3, hx] at c
  show b + 1 = ybC st ag hi i + (if st i = 1 ∧ hi ≤ gA (ag i) then 1 else 0)
  rw [if_pos c, hb]
theorem yb_n {x : Int32} (h : yeP st ag sz gr hi i st' ag' sz') (hb : b = ybC st ag hi i) (hx : x = gA (ag' i)) (c : ¬ (st' i = 1 ∧ hi ≤ x)) : b = ybC st ag hi (i + 1) := by
  obtain ⟨e1, e2, e3⟩ := ye_ag h
  rw [e1] at hx; rw [e3, hx] at c
  show b = ybC st ag hi i + (if st i = 1 ∧ hi ≤ gA (ag i) then 1 else 0)
  rw [if_neg c, hb, Nat.add_zero]
end YE

