theorem sh_8 {g : Nat} (h : g ≤ 8) : (1 : Int32) <<< (nI g &&& 31) = nI (2 ^ g) := sh16 (by omega)
theorem pow8 {g : Nat} (h : g ≤ 8) : 2 ^ g ≤ 256 := Nat.le_trans (Nat.pow_le_pow_right (by decide) h) (by decide)
theorem cd_no {F : Nat → Int64} {en : Nat → Nat} {n S i g : Nat} (hF : fitT F en n (2 ^ g)) (hn : n ≤ 40) (hg : g ≤ 8) (hi : i < 2 ^ g) (hS : S < 2 ^ g) (c1 : nI i &&& (nI S ^^^ (-1)) = 0) (c2 : bcL (F i) < bcI (nI i)) : ¬ HL en n S := fun h => by
  have h8 := pow8 hg
  have hs := (nI_and1 (by omega) (by omega)).mp c1
  rw [hF i hi, bc_lt hn (by omega)] at c2
  have := h i hs
  omega
theorem cd_s1 {en : Nat → Nat} {n S i g : Nat} (h : hlI en n S i) (hg : g ≤ 8) (hi : i < 2 ^ g) (hS : S < 2 ^ g) (c1 : ¬ nI i &&& (nI S ^^^ (-1)) = 0) : hlI en n S (i + 1) := by
  have h8 := pow8 hg
  exact hl_s h (fun z => absurd ((nI_and1 (by omega) (by omega)).mpr z) c1)
theorem cd_s2 {F : Nat → Int64} {en : Nat → Nat} {n S i g : Nat} (h : hlI en n S i) (hF : fitT F en n (2 ^ g)) (hn : n ≤ 40) (hg : g ≤ 8) (hi : i < 2 ^ g) (c2 : ¬ bcL (F i) < bcI (nI i)) : hlI en n S (i + 1) := by
  have h8 := pow8 hg
  rw [hF i hi, bc_lt hn (by omega)] at c2
  exact hl_s h (fun _ => by omega)
theorem gb_e {sz : Nat → Int} {seen : Nat} {z : Int} (h : z = -1) : grI sz seen 0 0 z := by rw [h]; exact gb_0
theorem gr_s {f : Nat → Int32} {seen i b : Nat} {z : Int} (h : grI (fun j => (f j).toInt) seen i b z) (hi : i < 31) (c : ¬ nI seen &&& ((1 : Int32) <<< (nI i &&& 31)) = 0) : grI (fun j => (f j).toInt) seen (i + 1) b z := gb_seen h (by
  cases q : seen.testBit i
  · exact absurd ((bit_and hi).mpr q) c
  · rfl)
theorem gr_l {f : Nat → Int32} {seen i b : Nat} {z : Int32} (h : grI (fun j => (f j).toInt) seen i b z.toInt) (h0 : 0 ≤ (f i).toInt) (c : f i ≤ z) : grI (fun j => (f j).toInt) seen (i + 1) b z.toInt := gb_less h h0 (by
  have := Int32.le_iff_toInt_le.mp c
  show ¬ z.toInt < (f i).toInt
  omega)
theorem gr_n {f : Nat → Int32} {seen i b : Nat} {z : Int32} (h : grI (fun j => (f j).toInt) seen i b z.toInt) (hi : i < 31) (c1 : nI seen &&& ((1 : Int32) <<< (nI i &&& 31)) = 0) (c : ¬ f i ≤ z) : grI (fun j => (f j).toInt) seen (i + 1) i (f i).toInt := gb_new h ((bit_and hi).mp c1) (by
  have := Int32.lt_iff_toInt_lt.mp (Int32.not_le.mp c)
  exact this)
theorem nb_1 {q : Int64} {en : Nat → Nat} {n S i g : Nat} (h : ndI q en n S i) (hg : g ≤ 8) (hi : i < 2 ^ g) (hS : S < 2 ^ g) (c1 : ¬ nI i &&& (nI S ^^^ (-1)) = 0) : ndI q en n S (i + 1) := by
  have h8 := pow8 hg
  exact nd_n h (fun z => absurd ((nI_and1 (by omega) (by omega)).mpr z.1) c1)
theorem nb_f {F : Nat → Int64} {en : Nat → Nat} {n i m R : Nat} (hF : fitT F en n m) (hi : i < m) : F i &&& qN R = qN (fS (enF en R) n i) := by
  rw [hF i hi, qN_and, fS_fr]
theorem nb_2 {q : Int64} {F : Nat → Int64} {en : Nat → Nat} {n S i g R : Nat} (h : ndI q (enF en R) n S i) (hF : fitT F en n (2 ^ g)) (hn : n ≤ 40) (hg : g ≤ 8) (hi : i < 2 ^ g) (c2 : ¬ bcL (F i &&& qN R) ≤ bcI (nI i)) : ndI q (enF en R) n S (i + 1) := by
  have h8 := pow8 hg
  rw [nb_f hF hi, bc_le hn (by omega)] at c2
  exact nd_n h (fun z => c2 z.2)
theorem nb_3 {q : Int64} {F : Nat → Int64} {en : Nat → Nat} {n S i g R : Nat} (h : ndI q (enF en R) n S i) (hF : fitT F en n (2 ^ g)) (hn : n ≤ 40) (hg : g ≤ 8) (h1 : 1 ≤ i) (hi : i < 2 ^ g) (hS : S < 2 ^ g) (c1 : nI i &&& (nI S ^^^ (-1)) = 0) (c2 : bcL (F i &&& qN R) ≤ bcI (nI i)) : ndI (q ||| (F i &&& qN R)) (enF en R) n S (i + 1) := by
  have h8 := pow8 hg
  rw [nb_f hF hi, bc_le hn (by omega)] at c2
  rw [nb_f hF hi]
  exact nd_y h h1 ⟨(nI_and1 (by omega) (by omega)).mp c1, c2⟩
/-! the least coat, and the order in which guests are taken -/
theorem lo_b {C i : Nat} (hC : C < 2 ^ 40) (hi : i < 40) : lg_cmp (qN C &&& ((1 : Int64) <<< ((nI i).toInt64 &&& 63))) 0 = 0 ↔ C.testBit i = false := by
  rw [lg_cmp_eq, lsh40 i hi, qN_and, qN_0 (Nat.lt_of_le_of_lt Nat.and_le_left (Nat.lt_trans hC (by decide))), and_pow]
def lsP (r : Int32) (C : Nat) : Prop := (∃ k, k < 40 ∧ r = nI k ∧ C.testBit k = true ∧ ∀ j, j < k → C.testBit j = false) ∨ (r = -1 ∧ ∀ j, j < 40 → C.testBit j = false)
def lsI (C i : Nat) : Prop := ∀ j, j < i → C.testBit j = false
theorem ls_0 {C : Nat} : lsI C 0 := fun j h => absurd h (Nat.not_lt_zero j)
theorem ls_s {C i : Nat} (h : lsI C i) (hn : C.testBit i = false) : lsI C (i + 1) := fun j hj => by
  by_cases q : j = i
  · rw [q]; exact hn
  · exact h j (by omega)
theorem or_bitI {a b : Nat} (h : b < 16) : nI a ||| ((1 : Int32) <<< (nI b &&& 31)) = nI (a ||| 2 ^ b) := by rw [sh16 (by omega), nI_or]
theorem bef_tot {sz : Nat → Int} {i j : Nat} (h : ¬ i = j) : befP sz i j ∨ befP sz j i := by unfold befP; omega
theorem bef_as {sz : Nat → Int} {i j : Nat} (h : befP sz i j) (g : befP sz j i) : False := by unfold befP at h g; omega
/-- as many are seen as turns are over -/
def turI (en : Nat → Nat) (n : Nat) (sz : Nat → Int) (g seen D i : Nat) : Prop := grD en n sz g seen D ∧ seen < 2 ^ g ∧ pc seen = i
theorem tu_r0 {en : Nat → Nat} {n g : Nat} {sz : Nat → Int} : turI en n sz g 0 0 0 := ⟨gd_0, pow_pos2 g, pc_0⟩
theorem pc_full {S g : Nat} (hg : g ≤ 16) (hS : S < 2 ^ g) (h : ∀ j, j < g → S.testBit j = true) : pc S = g := by
  unfold pc
  rw [py_b_ge hS hg]
  have : ∀ m, m ≤ g → py_b one S m = m := by
    intro m
    induction m with
    | zero => intro _; rfl
    | succ m ih =>
      intro hm
      rw [py_b_t (h m (by omega)), ih (by omega), one_1]; omega
  exact this g (Nat.le_refl g)
theorem pc_part {S g : Nat} (hg : g ≤ 16) (hS : S < 2 ^ g) (h : pc S = g) : ∀ j, j < g → S.testBit j = true := by
  unfold pc at h
  rw [py_b_ge hS hg] at h
  have up : ∀ m, py_b one S m ≤ m := by
    intro m
    induction m with
    | zero => exact Int.le_refl 0
    | succ m ih => rw [py_b_s, one_1]; split <;> omega
  have key : ∀ m, py_b one S m = m → ∀ j, j < m → S.testBit j = true := by
    intro m
    induction m with
    | zero => intro _ j hj; omega
    | succ m ih =>
      intro e j hj
      rw [py_b_s, one_1] at e
      have := up m
      by_cases q : S.testBit m = true
      · rw [if_pos q] at e
        by_cases z : j = m
        · rw [z]; exact q
        · exact ih (by omega) j (by omega)
      · rw [if_neg q] at e; omega
  exact key g h
theorem tu_next {en : Nat → Nat} {n g seen D i b : Nat} {sz : Nat → Int} {z : Int} (h : turI en n sz g seen D i) (hg : g ≤ 16) (hi : i < g) (hb : grI sz seen g b z) : b < g ∧ ¬ seen.testBit b = true ∧ ∀ j, j < g → (seen.testBit j = true ↔ befP sz j b) := by
  obtain ⟨⟨h1, h2, h3, h4⟩, h5, h6⟩ := h
  rcases hb with ⟨-, -, a3⟩ | ⟨a1, a2, a3, a4⟩
  · have := pc_full hg h5 a3
    omega
  · have nb : ¬ seen.testBit b = true := by rw [a3]; decide
    refine ⟨a1, nb, fun j hj => ⟨fun hs => ?_, fun hs => ?_⟩⟩
    · rcases bef_tot (sz := sz) (i := j) (j := b) (fun e => nb (e ▸ hs)) with y | y
      · exact y
      · exact absurd (h3 j hs b a1 y) nb
    · cases q : seen.testBit j
      · rcases a4 j hj q with y | y
        · rw [y] at hs; exact absurd hs (fun w => bef_as w w)
        · exact absurd hs (fun w => bef_as w y)
      · rfl
theorem pc_add {S b : Nat} (hb : b < 16) (h : ¬ S.testBit b = true) : pc (S ||| 2 ^ b) = pc S + 1 := by
  have := pc_mod S (2 ^ b)
  rw [pc_one hb, and_pow.mpr (by cases q : S.testBit b; rfl; exact absurd q h), pc_0] at this
  omega
theorem lt_bit {S b g : Nat} (hS : S < 2 ^ g) (hb : b < g) : S ||| 2 ^ b < 2 ^ g := Nat.or_lt_two_pow hS (Nat.pow_lt_pow_right (by decide) hb)
theorem tu_y {en : Nat → Nat} {n g seen D i b : Nat} {sz : Nat → Int} {z : Int} (h : turI en n sz g seen D i) (hg : g ≤ 16) (hi : i < g) (hb : grI sz seen g b z) (hc : HL en n (D ||| 2 ^ b)) : turI en n sz g (seen ||| 2 ^ b) (D ||| 2 ^ b) (i + 1) := by
  obtain ⟨h1, h2, h3⟩ := tu_next h hg hi hb
  exact ⟨gd_y h.1 h1 hg h2 h3 h.2.1 hc, lt_bit h.2.1 h1, by rw [pc_add (by omega) h2, h.2.2]; omega⟩
theorem tu_n {en : Nat → Nat} {n g seen D i b : Nat} {sz : Nat → Int} {z : Int} (h : turI en n sz g seen D i) (hg : g ≤ 16) (hi : i < g) (hb : grI sz seen g b z) (hc : ¬ HL en n (D ||| 2 ^ b)) : turI en n sz g (seen ||| 2 ^ b) D (i + 1) := by
  obtain ⟨h1, h2, h3⟩ := tu_next h hg hi hb
  exact ⟨gd_n h.1 h1 hg h2 h3 h.2.1 hc, lt_bit h.2.1 h1, by rw [pc_add (by omega) h2, h.2.2]; omega⟩
theorem tu_lt {en : Nat → Nat} {n g seen D i : Nat} {sz : Nat → Int} (h : turI en n sz g seen D i) : D < 2 ^ g := Nat.lt_of_le_of_lt (sub_le h.1.1) h.2.1
/-- the set that is dressed: no other has more of the first ones -/
def drP (en : Nat → Nat) (n : Nat) (sz : Nat → Int) (g D : Nat) : Prop := D < 2 ^ g ∧ HL en n D ∧ ∀ S U, HL en n S → dcP sz g U → U < 2 ^ g → pc (S &&& U) ≤ pc (D &&& U)
theorem tu_e {en : Nat → Nat} {n g seen D : Nat} {sz : Nat → Int} (h : turI en n sz g seen D g) (hg : g ≤ 16) : drP en n sz g D :=
  ⟨tu_lt h, h.1.2.1, fun S U hS hU hUg => gd_top h.1 (pc_part hg h.2.1 h.2.2) hS hU hUg⟩
/-! the fitting table, filled -/
theorem updL_s {f : Nat → Int64} {k : Nat} {x : Int64} : vp_updL f k x k = x := by unfold vp_updL; rw [if_pos rfl]
theorem updL_n {f : Nat → Int64} {k j : Nat} {x : Int64} (h : ¬ j = k) : vp_updL f k x j = f j := by unfold vp_updL; rw [if_neg h]
theorem fm_0 {F : Nat → Int64} {en : Nat → Nat} {n : Nat} (h : F 0 = 0) : fitT F en n (2 ^ 0) := fun P hP => by
  have : P = 0 := by simpa using hP
  rw [this, h, fS_0]; rfl
/-- the sets below 2 ^ i, and the first o of those with i -/
def fmI (F : Nat → Int64) (en : Nat → Nat) (n i o : Nat) : Prop := fitT F en n (2 ^ i) ∧ ∀ P, P < o → F (P ||| 2 ^ i) = qN (fS en n (P ||| 2 ^ i))
theorem fm_b {F : Nat → Int64} {en : Nat → Nat} {n i : Nat} (h : fitT F en n (2 ^ i)) : fmI F en n i 0 := ⟨h, fun P hP => absurd hP (Nat.not_lt_zero P)⟩
theorem or_pw2 {o i : Nat} (h : o < 2 ^ i) : o ||| 2 ^ i = 2 ^ i + o := by rw [Nat.or_comm, py_or h]
theorem fm_s {F : Nat → Int64} {en : Nat → Nat} {n i o g : Nat} {cs gn sz : Nat → Int32} {sp : Int32} {q : Int64} (h : fmI F en n i o) (ho : o < 2 ^ i) (he : en = enG cs gn sz sp g) (hi : i < g) (hq : q = qN (ftS cs gn (sz i) sp n)) : fmI (vp_updL F (o ||| 2 ^ i) (F o ||| q)) en n i (o + 1) := by
  obtain ⟨h1, h2⟩ := h
  refine ⟨fun P hP => ?_, fun P hP => ?_⟩
  · rw [updL_n (by rw [or_pw2 ho]; omega)]; exact h1 P hP
  · by_cases w : P = o
    · rw [w, updL_s, h1 o ho, hq, qN_or, fS_or he hi]
    · rw [updL_n (by rw [or_pw2 ho, or_pw2 (by omega)]; omega)]; exact h2 P (by omega)
theorem fm_e {F : Nat → Int64} {en : Nat → Nat} {n i : Nat} (h : fmI F en n i (2 ^ i)) : fitT F en n (2 ^ (i + 1)) := fun P hP => by
  rcases Nat.lt_or_ge P (2 ^ i) with z | z
  · exact h.1 P z
  · have e : P = (P - 2 ^ i) ||| 2 ^ i := by rw [or_pw2 (by rw [Nat.pow_succ] at hP; omega)]; omega
    rw [e]
    exact h.2 (P - 2 ^ i) (by rw [Nat.pow_succ] at hP; omega)
/-! the guests -/
def gaI (st sz : Nat → Int32) (f0 f3 : Nat → Int32) (g i : Nat) : Prop := g = cntP st i ∧ ∀ c, c < i → st c = 1 → f0 (cntP st c) = nI c ∧ f3 (cntP st c) = sz c
theorem ga_0 {st sz f0 f3 : Nat → Int32} : gaI st sz f0 f3 0 0 := ⟨rfl, fun c h => absurd h (Nat.not_lt_zero c)⟩
theorem ga_n {st sz f0 f3 : Nat → Int32} {g i : Nat} (h : gaI st sz f0 f3 g i) (c : ¬ st i = 1) : gaI st sz f0 f3 g (i + 1) := ⟨cn_n h.1 c, fun k hk e => by
  by_cases q : k = i
  · rw [q] at e; exact absurd e c
  · exact h.2 k (by omega) e⟩
theorem cnt_mono {st : Nat → Int32} {i : Nat} : ∀ k, cntP st i ≤ cntP st (i + k)
  | 0 => Nat.le_refl _
  | k + 1 => Nat.le_trans (cnt_mono k) (Nat.le_add_right _ _)
theorem cnt_lt {st : Nat → Int32} {c i : Nat} (h : c < i) (e : st c = 1) : cntP st c < cntP st i := by
  have a : cntP st (c + 1) = cntP st c + 1 := (cn_y rfl e).symm
  have b := cnt_mono (st := st) (i := c + 1) (i - (c + 1))
  rw [show c + 1 + (i - (c + 1)) = i by omega] at b
  omega
theorem ga_y {st sz f0 f3 : Nat → Int32} {g i : Nat} (h : gaI st sz f0 f3 g i) (c : st i = 1) : gaI st sz (upd f0 g (nI i)) (upd f3 g (sz i)) (g + 1) (i + 1) := ⟨cn_y h.1 c, fun k hk e => by
  have hg := h.1
  by_cases q : k = i
  · subst q; rw [← hg, pk_us, pk_us]; exact ⟨rfl, rfl⟩
  · have := cnt_lt (show k < i by omega) e
    rw [pk_un (by omega), pk_un (by omega)]; exact h.2 k (by omega) e⟩
theorem ga_8 {st sz f0 f3 : Nat → Int32} {g i n : Nat} (h : gaI st sz f0 f3 g i) (hi : i ≤ n) (h8 : cntP st n ≤ 8) (hg : 8 ≤ g) : gaI st sz f0 f3 g n := by
  have hg' := h.1
  have b := cnt_mono (st := st) (i := i) (n - i)
  rw [show i + (n - i) = n by omega] at b
  refine ⟨by omega, fun k hk e => ?_⟩
  rcases Nat.lt_or_ge k i with z | z
  · exact h.2 k z e
  · have := cnt_lt hk e
    have b2 := cnt_mono (st := st) (i := i) (k - i)
    rw [show i + (k - i) = k by omega] at b2
    omega
theorem or_lt256 {o i : Nat} (ho : o < 2 ^ i) (hi : i < 8) : o ||| 2 ^ i < 256 := by
  rw [or_pw2 ho]
  have := pow8 (show i + 1 ≤ 8 by omega)
  rw [Nat.pow_succ] at this
  omega

set_option maxHeartbeats 4000000 in
set_option maxRecDepth 100000 in
theorem f_bitI (l : Launch) (D : va_G) (cB cI cJ cZ : ClassId) (q : Int32) : Met l yJ6_bitCount_0f7a4 wsJ6_bitCount_0f7a4 ({ frames := 0, cells := 0, slots := 0, locals := 0 } : Room) (cRd D (aTy cB cI cJ cZ) [] [.int q]) (vp_Si (fun r : Int32 => r = bcI q)) 0 0 (fun _ => False) := by
  refine Met.ofW (cc := cJ6_bitCount_0f7a4) (maxL := 1) (ret := (some .int)) (by decide) rfl ?_
  intro p e s m args below meth c s₁ B hml hv
  obtain ⟨rfl, hP, hK⟩ := hv
  have hx := B.exec
  have hb := B.bytes
  have hr := B.returns
  have hts := atoms_spec (ws := wsJ6_bitCount_0f7a4) B.pre
  have hown : s.vm.findClass RJ6 = some m.cls := findClass_of_methodNamed B.named
  have hlocks := B.notSynchronized
  have hP : va_P D vwCl [] s.heap := hP
  have w_1 := hts (Cond.constant RJ6 265 (1431655765)) (by decide +kernel)
  have w_2 := hts (Cond.constant RJ6 266 (858993459)) (by decide +kernel)
  have w_3 := hts (Cond.constant RJ6 267 (252645135)) (by decide +kernel)
  have hl := lv_entry ([.int q]) (n := 1) (Nat.le_of_ble_eq_true rfl)
  rw [lg_entry_eq]
  generalize (lg_sl ([.int q]) ++ List.replicate (1 - (lg_sl ([.int q])).length) Slot.unset).toArray = ls at hl ⊢
  have hl : lv_has ls 1 [(0, .int q)] := hl
  refine lv_iload_n hx hb dJ6_bitCount_0f7a4_0 rfl (lv_at hl 0 rfl) ?_
  refine lv_iload_n hx hb dJ6_bitCount_0f7a4_1 rfl (lv_at hl 0 rfl) ?_
  refine lv_iconst (v := 1) hx hb dJ6_bitCount_0f7a4_2 (by decide) ?_
  refine lv_iushr (v := (q.toUInt32 >>> ((1 : Int32).toUInt32 &&& Int32.toUInt32 31)).toInt32) hx hb dJ6_bitCount_0f7a4_3 rfl ?_
  refine lv_topi (fun v_1 ev_1 => ?_)
  refine lv_ldcw hx hb hown (w_1) dJ6_bitCount_0f7a4_4 ?_
  refine sv_iand (v := v_1 &&& 1431655765) hx hb dJ6_bitCount_0f7a4_7 rfl ?_
  refine lv_topi (fun v_2 ev_2 => ?_)
  refine sv_isub (v := q - v_2) hx hb dJ6_bitCount_0f7a4_8 rfl ?_
  refine lv_topi (fun v_3 ev_3 => ?_)
  refine lv_istore_n (lv' := [(0, .int v_3)]) hx hb dJ6_bitCount_0f7a4_9 rfl hl (by decide) rfl (fun ls hl => ?_)
  refine lv_iload_n hx hb dJ6_bitCount_0f7a4_10 rfl (lv_at hl 0 rfl) ?_
  refine lv_ldcw hx hb hown (w_2) dJ6_bitCount_0f7a4_11 ?_
  refine sv_iand (v := v_3 &&& 858993459) hx hb dJ6_bitCount_0f7a4_14 rfl ?_
  refine lv_topi (fun v_4 ev_4 => ?_)
  refine lv_iload_n hx hb dJ6_bitCount_0f7a4_15 rfl (lv_at hl 0 rfl) ?_
  refine lv_iconst (v := 2) hx hb dJ6_bitCount_0f7a4_16 (by decide) ?_
  refine lv_iushr (v := (v_3.toUInt32 >>> ((2 : Int32).toUInt32 &&& Int32.toUInt32 31)).toInt32) hx hb dJ6_bitCount_0f7a4_17 rfl ?_
  refine lv_topi (fun v_5 ev_5 => ?_)
  refine lv_ldcw hx hb hown (w_2) dJ6_bitCount_0f7a4_18 ?_
  refine sv_iand (v := v_5 &&& 858993459) hx hb dJ6_bitCount_0f7a4_21 rfl ?_
  refine lv_topi (fun v_6 ev_6 => ?_)
  refine sv_iadd (v := v_4 + v_6) hx hb dJ6_bitCount_0f7a4_22 rfl ?_
  refine lv_topi (fun v_7 ev_7 => ?_)
  refine lv_istore_n (lv' := [(0, .int v_7)]) hx hb dJ6_bitCount_0f7a4_23 rfl hl (by decide) rfl (fun ls hl => ?_)
  refine lv_iload_n hx hb dJ6_bitCount_0f7a4_24 rfl (lv_at hl 0 rfl) ?_
  refine lv_iload_n hx hb dJ6_bitCount_0f7a4_25 rfl (lv_at hl 0 rfl) ?_
  refine lv_iconst (v := 4) hx hb dJ6_bitCount_0f7a4_26 (by decide) ?_
  refine lv_iushr (v := (v_7.toUInt32 >>> ((4 : Int32).toUInt32 &&& Int32.toUInt32 31)).toInt32) hx hb dJ6_bitCount_0f7a4_27 rfl ?_
  refine lv_topi (fun v_8 ev_8 => ?_)
  refine sv_iadd (v := v_7 + v_8) hx hb dJ6_bitCount_0f7a4_28 rfl ?_
  refine lv_topi (fun v_9 ev_9 => ?_)
  refine lv_ldcw hx hb hown (w_3) dJ6_bitCount_0f7a4_29 ?_
  refine sv_iand (v := v_9 &&& 252645135) hx hb dJ6_bitCount_0f7a4_32 rfl ?_
  refine lv_topi (fun v_10 ev_10 => ?_)
  refine lv_istore_n (lv' := [(0, .int v_10)]) hx hb dJ6_bitCount_0f7a4_33 rfl hl (by decide) rfl (fun ls hl => ?_)
  refine lv_iload_n hx hb dJ6_bitCount_0f7a4_34 rfl (lv_at hl 0 rfl) ?_
  refine lv_iload_n hx hb dJ6_bitCount_0f7a4_35 rfl (lv_at hl 0 rfl) ?_
  refine lv_bipush (v := 8) hx hb dJ6_bitCount_0f7a4_36 (by decide) ?_
  refine lv_iushr (v := (v_10.toUInt32 >>> ((8 : Int32).toUInt32 &&& Int32.toUInt32 31)).toInt32) hx hb dJ6_bitCount_0f7a4_38 rfl ?_
  refine lv_topi (fun v_11 ev_11 => ?_)
  refine sv_iadd (v := v_10 + v_11) hx hb dJ6_bitCount_0f7a4_39 rfl ?_
  refine lv_topi (fun v_12 ev_12 => ?_)
  refine lv_istore_n (lv' := [(0, .int v_12)]) hx hb dJ6_bitCount_0f7a4_40 rfl hl (by decide) rfl (fun ls hl => ?_)
  refine lv_iload_n hx hb dJ6_bitCount_0f7a4_41 rfl (lv_at hl 0 rfl) ?_
  refine lv_iload_n hx hb dJ6_bitCount_0f7a4_42 rfl (lv_at hl 0 rfl) ?_
  refine lv_bipush (v := 16) hx hb dJ6_bitCount_0f7a4_43 (by decide) ?_
  refine lv_iushr (v := (v_12.toUInt32 >>> ((16 : Int32).toUInt32 &&& Int32.toUInt32 31)).toInt32) hx hb dJ6_bitCount_0f7a4_45 rfl ?_
  refine lv_topi (fun v_13 ev_13 => ?_)
  refine sv_iadd (v := v_12 + v_13) hx hb dJ6_bitCount_0f7a4_46 rfl ?_
  refine lv_topi (fun v_14 ev_14 => ?_)
  refine lv_istore_n (lv' := [(0, .int v_14)]) hx hb dJ6_bitCount_0f7a4_47 rfl hl (by decide) rfl (fun ls hl => ?_)
  refine lv_iload_n hx hb dJ6_bitCount_0f7a4_48 rfl (lv_at hl 0 rfl) ?_
  refine lv_bipush (v := 63) hx hb dJ6_bitCount_0f7a4_49 (by decide) ?_
  refine sv_iand (v := v_14 &&& 63) hx hb dJ6_bitCount_0f7a4_51 rfl ?_
  refine lv_topi (fun v_15 ev_15 => ?_)
  exact W.iret (v := v_15) hx hb hr (fun t ht hW => ⟨_, rfl, by subst_vars; rfl, ht⟩) (fun q h => nomatch h) dJ6_bitCount_0f7a4_52

set_option maxHeartbeats 4000000 in
set_option maxRecDepth 100000 in
theorem f_bitL (l : Launch) (D : va_G) (cB cI cJ cZ : ClassId) (q : Int64) : Met l yJ13_bitCount_95d88 wsJ13_bitCount_95d88 ({ frames := 0, cells := 0, slots := 0, locals := 0 } : Room) (cRd D (aTy cB cI cJ cZ) [] [.long q]) (vp_Si (fun r : Int32 => r = bcL q)) 0 0 (fun _ => False) := by
  refine Met.ofW (cc := cJ13_bitCount_95d88) (maxL := 2) (ret := (some .int)) (by decide) rfl ?_
  intro p e s m args below meth c s₁ B hml hv
  obtain ⟨rfl, hP, hK⟩ := hv
  have hx := B.exec
  have hb := B.bytes
  have hr := B.returns
  have hts := atoms_spec (ws := wsJ13_bitCount_95d88) B.pre
  have hown : s.vm.findClass RJ13 = some m.cls := findClass_of_methodNamed B.named
  have hlocks := B.notSynchronized
  have hP : va_P D vwCl [] s.heap := hP
  have w_1 := hts (Cond.constantLong RJ13 314 (6148914691236517205)) (by decide +kernel)
  have w_2 := hts (Cond.constantLong RJ13 316 (3689348814741910323)) (by decide +kernel)
  have w_3 := hts (Cond.constantLong RJ13 318 (1085102592571150095)) (by decide +kernel)
  have hl := lv_entry ([.long q]) (n := 2) (Nat.le_of_ble_eq_true rfl)
  rw [lg_entry_eq]
  generalize (lg_sl ([.long q]) ++ List.replicate (2 - (lg_sl ([.long q])).length) Slot.unset).toArray = ls at hl ⊢
  have hl : lv_has ls 2 [(0, .long q)] := hl
  refine lv_lload_n hx hb dJ13_bitCount_95d88_0 rfl (lv_at hl 0 rfl) ?_
  refine lv_lload_n hx hb dJ13_bitCount_95d88_1 rfl (lv_at hl 0 rfl) ?_
  refine lv_iconst (v := 1) hx hb dJ13_bitCount_95d88_2 (by decide) ?_
  refine lv_lushr (v := (q.toUInt64 >>> ((1 : Int32).toInt64.toUInt64 &&& Int64.toUInt64 63)).toInt64) hx hb dJ13_bitCount_95d88_3 rfl ?_
  refine lv_topl (fun v_1 ev_1 => ?_)
  refine lv_ldc2 hx hb hown w_1 dJ13_bitCount_95d88_4 ?_
  refine lv_land hx hb dJ13_bitCount_95d88_7 ?_
  refine lv_topl (fun v_2 ev_2 => ?_)
  refine lv_lsub hx hb dJ13_bitCount_95d88_8 ?_
  refine lv_topl (fun v_3 ev_3 => ?_)
  refine lv_lstore_n (lv' := [(0, .long v_3)]) hx hb dJ13_bitCount_95d88_9 rfl hl (by decide) rfl (fun ls hl => ?_)
  refine lv_lload_n hx hb dJ13_bitCount_95d88_10 rfl (lv_at hl 0 rfl) ?_
  refine lv_ldc2 hx hb hown w_2 dJ13_bitCount_95d88_11 ?_
  refine lv_land hx hb dJ13_bitCount_95d88_14 ?_
  refine lv_topl (fun v_4 ev_4 => ?_)
  refine lv_lload_n hx hb dJ13_bitCount_95d88_15 rfl (lv_at hl 0 rfl) ?_
  refine lv_iconst (v := 2) hx hb dJ13_bitCount_95d88_16 (by decide) ?_
  refine lv_lushr (v := (v_3.toUInt64 >>> ((2 : Int32).toInt64.toUInt64 &&& Int64.toUInt64 63)).toInt64) hx hb dJ13_bitCount_95d88_17 rfl ?_
  refine lv_topl (fun v_5 ev_5 => ?_)
  refine lv_ldc2 hx hb hown w_2 dJ13_bitCount_95d88_18 ?_
  refine lv_land hx hb dJ13_bitCount_95d88_21 ?_
  refine lv_topl (fun v_6 ev_6 => ?_)
  refine lv_ladd hx hb dJ13_bitCount_95d88_22 ?_
  refine lv_topl (fun v_7 ev_7 => ?_)
  refine lv_lstore_n (lv' := [(0, .long v_7)]) hx hb dJ13_bitCount_95d88_23 rfl hl (by decide) rfl (fun ls hl => ?_)
  refine lv_lload_n hx hb dJ13_bitCount_95d88_24 rfl (lv_at hl 0 rfl) ?_
  refine lv_lload_n hx hb dJ13_bitCount_95d88_25 rfl (lv_at hl 0 rfl) ?_
  refine lv_iconst (v := 4) hx hb dJ13_bitCount_95d88_26 (by decide) ?_
  refine lv_lushr (v := (v_7.toUInt64 >>> ((4 : Int32).toInt64.toUInt64 &&& Int64.toUInt64 63)).toInt64) hx hb dJ13_bitCount_95d88_27 rfl ?_
  refine lv_topl (fun v_8 ev_8 => ?_)
  refine lv_ladd hx hb dJ13_bitCount_95d88_28 ?_
  refine lv_topl (fun v_9 ev_9 => ?_)
  refine lv_ldc2 hx hb hown w_3 dJ13_bitCount_95d88_29 ?_
  refine lv_land hx hb dJ13_bitCount_95d88_32 ?_
  refine lv_topl (fun v_10 ev_10 => ?_)
  refine lv_lstore_n (lv' := [(0, .long v_10)]) hx hb dJ13_bitCount_95d88_33 rfl hl (by decide) rfl (fun ls hl => ?_)
  refine lv_lload_n hx hb dJ13_bitCount_95d88_34 rfl (lv_at hl 0 rfl) ?_
  refine lv_lload_n hx hb dJ13_bitCount_95d88_35 rfl (lv_at hl 0 rfl) ?_
  refine lv_bipush (v := 8) hx hb dJ13_bitCount_95d88_36 (by decide) ?_
  refine lv_lushr (v := (v_10.toUInt64 >>> ((8 : Int32).toInt64.toUInt64 &&& Int64.toUInt64 63)).toInt64) hx hb dJ13_bitCount_95d88_38 rfl ?_
  refine lv_topl (fun v_11 ev_11 => ?_)
  refine lv_ladd hx hb dJ13_bitCount_95d88_39 ?_
  refine lv_topl (fun v_12 ev_12 => ?_)
  refine lv_lstore_n (lv' := [(0, .long v_12)]) hx hb dJ13_bitCount_95d88_40 rfl hl (by decide) rfl (fun ls hl => ?_)
  refine lv_lload_n hx hb dJ13_bitCount_95d88_41 rfl (lv_at hl 0 rfl) ?_
  refine lv_lload_n hx hb dJ13_bitCount_95d88_42 rfl (lv_at hl 0 rfl) ?_
  refine lv_bipush (v := 16) hx hb dJ13_bitCount_95d88_43 (by decide) ?_
  refine lv_lushr (v := (v_12.toUInt64 >>> ((16 : Int32).toInt64.toUInt64 &&& Int64.toUInt64 63)).toInt64) hx hb dJ13_bitCount_95d88_45 rfl ?_
  refine lv_topl (fun v_13 ev_13 => ?_)
  refine lv_ladd hx hb dJ13_bitCount_95d88_46 ?_
  refine lv_topl (fun v_14 ev_14 => ?_)
  refine lv_lstore_n (lv' := [(0, .long v_14)]) hx hb dJ13_bitCount_95d88_47 rfl hl (by decide) rfl (fun ls hl => ?_)
  refine lv_lload_n hx hb dJ13_bitCount_95d88_48 rfl (lv_at hl 0 rfl) ?_
  refine lv_lload_n hx hb dJ13_bitCount_95d88_49 rfl (lv_at hl 0 rfl) ?_
  refine lv_bipush (v := 32) hx hb dJ13_bitCount_95d88_50 (by decide) ?_
  refine lv_lushr (v := (v_14.toUInt64 >>> ((32 : Int32).toInt64.toUInt64 &&& Int64.toUInt64 63)).toInt64) hx hb dJ13_bitCount_95d88_52 rfl ?_
  refine lv_topl (fun v_15 ev_15 => ?_)
  refine lv_ladd hx hb dJ13_bitCount_95d88_53 ?_
  refine lv_topl (fun v_16 ev_16 => ?_)
  refine lv_lstore_n (lv' := [(0, .long v_16)]) hx hb dJ13_bitCount_95d88_54 rfl hl (by decide) rfl (fun ls hl => ?_)
  refine lv_lload_n hx hb dJ13_bitCount_95d88_55 rfl (lv_at hl 0 rfl) ?_
  refine lv_l2i (v := v_16.toInt32) hx hb dJ13_bitCount_95d88_56 rfl ?_
  refine lv_topi (fun v_17 ev_17 => ?_)
  refine lv_bipush (v := 127) hx hb dJ13_bitCount_95d88_57 (by decide) ?_
  refine sv_iand (v := v_17 &&& 127) hx hb dJ13_bitCount_95d88_59 rfl ?_
  refine lv_topi (fun v_18 ev_18 => ?_)
  exact W.iret (v := v_18) hx hb hr (fun t ht hW => ⟨_, rfl, by subst_vars; rfl, ht⟩) (fun q h => nomatch h) dJ13_bitCount_95d88_60

set_option maxHeartbeats 4000000 in
set_option maxRecDepth 100000 in
theorem f_X6_fit (l : Launch) (D : va_G) (cB cI cJ cZ : ClassId) (h0 p0 p1 p2 p3 a : Nat) (f0 f1 f2 f3 : Nat → Int32) (q sp : Int32) (ha : a ≤ 40) (hz : ∀ k, f2 k = 0 ∨ f2 k = 1) : Met l yX6_fitting wsX6_fitting ({ frames := 0, cells := 0, slots := 0, locals := 0 } : Room) (cRd D (aTy cB cI cJ cZ) [(h0, .inr (6, [.ref p0, .ref p1, .ref p2, .ref p3, .int (nI a)])), (p0, .inl (cI, 40, .inl f0)), (p2, .inl (cZ, 40, .inl f2))] [.ref h0, .int q, .int sp]) (vp_Sl (fun r : Int64 => r = qN (ftS f0 f2 q sp a))) 0 0 (fun _ => False) := by
  refine Met.ofW (cc := cX6_fitting) (maxL := 6) (ret := (some .long)) (by decide) rfl ?_
  intro p e s m args below meth c s₁ B hml hv
  obtain ⟨rfl, hP, hK⟩ := hv
  have hx := B.exec
  have hb := B.bytes
  have hr := B.returns
  have hts := atoms_spec (ws := wsX6_fitting) B.pre
  have hown : s.vm.findClass RX6 = some m.cls := findClass_of_methodNamed B.named
  have hlocks := B.notSynchronized
  have hP : va_P D vwCl [(h0, .inr (6, [.ref p0, .ref p1, .ref p2, .ref p3, .int (nI a)])), (p0, .inl (cI, 40, .inl f0)), (p2, .inl (cZ, 40, .inl f2))] s.heap := hP
  have w_1 : ∀ w ∈ wsX60, w ∈ wsX6_fitting := by decide +kernel
  have w_2 := hts (Cond.fieldLink RX6 25 "BlueCoats$Wardrobe" "number" "I") (by decide +kernel)
  have w_3 := hts (Cond.fieldLink RX6 18 "BlueCoats$Wardrobe" "gone" "[Z") (by decide +kernel)
  have w_4 := hts (Cond.fieldLink RX6 11 "BlueCoats$Wardrobe" "size" "[I") (by decide +kernel)
  have hl := lv_entry ([.ref h0, .int q, .int sp]) (n := 6) (Nat.le_of_ble_eq_true rfl)
  rw [lg_entry_eq]
  generalize (lg_sl ([.ref h0, .int q, .int sp]) ++ List.replicate (6 - (lg_sl ([.ref h0, .int q, .int sp])).length) Slot.unset).toArray = ls at hl ⊢
  have hl : lv_has ls 6 [(0, .ref h0), (1, .int q), (2, .int sp)] := hl
  generalize hQ : MQ below _ _ s _ _ _ = Q0
  refine lv_lconst (v := 0) hx hb dX6_fitting_0 (by decide) ?_
  refine lv_lstore_n (lv' := [(3, .long 0), (0, .ref h0), (1, .int q), (2, .int sp)]) hx hb dX6_fitting_1 rfl hl (by decide) rfl (fun ls hl => ?_)
  refine lv_iconst (v := 0) hx hb dX6_fitting_2 (by decide) ?_
  refine lv_istore (lv' := [(5, .int 0), (3, .long 0), (0, .ref h0), (1, .int q), (2, .int sp)]) hx hb dX6_fitting_3 hl (by decide) rfl (fun ls hl => ?_)
  have L_1 : ∀ (n : Nat) (i_5 : Nat) (l_3_5 : Int64) (ls : Array Slot), a - i_5 < n → (i_5 ≤ a) → (l_3_5 = qN (ftS f0 f2 q sp i_5)) → va_P D vwCl [(h0, .inr (6, [.ref p0, .ref p1, .ref p2, .ref p3, .int (nI a)])), (p0, .inl (cI, 40, .inl f0)), (p2, .inl (cZ, 40, .inl f2))] s.heap → lv_has ls 6 [(0, .ref h0), (1, .int q), (2, .int sp), (3, .long l_3_5), (5, .int (nI i_5))] → W p l e (headSpec wsX6_fitting ({ frames := 0, cells := 0, slots := 0, locals := 0 } : Room)).room s m ([.ref h0, .int q, .int sp] : List Value).toArray below meth c s.heap [] 0 0 Q0 (F0 m 5 ls []) := by
    intro n
    induction n with
    | zero => intro i_5 l_3_5 ls hn_5 hle_5 hf_5 hP hl; exact absurd hn_5 (Nat.not_lt_zero _)
    | succ n ih_L_1 =>
      intro i_5 l_3_5 ls hn_5 hle_5 hf_5 hP hl
      refine lv_iload hx hb dX6_fitting_5 (lv_at hl 4 rfl) ?_
      refine lv_aload_n hx hb dX6_fitting_7 rfl (lv_at hl 0 rfl) ?_
      refine va_get (D := D) (ci := 6) (v := .int (nI a)) (C := RX6) (T := TX6) (N := 5) hx hb hts w_1 hown hK hP 0 rfl rfl 4 (by decide) w_2 (fun _ h9 => h9) rfl dX6_fitting_8 ?_
      refine lv_icmp_ge (tgt := 61) hx hb dX6_fitting_11 (by decide) (fun c_11 => ?_) (fun c_11 => ?_)
      ·
        refine lv_lload_n hx hb dX6_fitting_61 rfl (lv_at hl 3 rfl) ?_
        rw [← hQ]
        exact W.lret (v := l_3_5) hx hb hr (fun t ht hW => ⟨_, rfl, by rw [hf_5, (Nat.le_antisymm hle_5 (ge3 (by omega) hle_5 c_11))], ht⟩) (fun q h => nomatch h) dX6_fitting_62
      ·
        have hb_5 : i_5 < a := lt3 (by omega) hle_5 c_11
        refine lv_aload_n hx hb dX6_fitting_14 rfl (lv_at hl 0 rfl) ?_
        refine va_get (D := D) (ci := 6) (v := .ref p2) (C := RX6) (T := TX6) (N := 5) hx hb hts w_1 hown hK hP 0 rfl rfl 2 (by decide) w_3 (fun _ h9 => h9) rfl dX6_fitting_15 ?_
        refine lv_iload hx hb dX6_fitting_18 (lv_at hl 4 rfl) ?_
        refine sv_zald (v := f2 i_5) hx hb hK hP 2 3 rfl rfl (vp_in_nI (by omega) (by decide)) (congrArg _ (nI_clamp (by omega))) dX6_fitting_20 ?_
        refine lv_if_ne (tgt := 55) hx hb dX6_fitting_21 (by decide) (fun c_21 => ?_) (fun c_21 => ?_)
        ·
          refine lv_iinc (v := nI (i_5 + 1)) (lv' := [(5, .int (nI (i_5 + 1))), (0, .ref h0), (1, .int q), (2, .int sp), (3, .long l_3_5)]) hx hb dX6_fitting_55 hl (k := 4) rfl (ax_add _ 1) (by decide) rfl (fun ls hl => ?_)
          refine lv_goto (tgt := 5) hx hb dX6_fitting_58 (by decide) ?_
          exact ih_L_1 (i_5 + 1) l_3_5 ls (by omega) (by omega) (fz_n hf_5 (fun h => c_21 h.1)) hP (lv_sub hl [1, 2, 3, 4, 0] rfl)
        ·
          refine lv_aload_n hx hb dX6_fitting_24 rfl (lv_at hl 0 rfl) ?_
          refine va_get (D := D) (ci := 6) (v := .ref p0) (C := RX6) (T := TX6) (N := 5) hx hb hts w_1 hown hK hP 0 rfl rfl 0 (by decide) w_4 (fun _ h9 => h9) rfl dX6_fitting_25 ?_
          refine lv_iload hx hb dX6_fitting_28 (lv_at hl 4 rfl) ?_
          refine sv_iald (v := f0 i_5) hx hb hK hP 1 1 rfl rfl (vp_in_nI (by omega) (by decide)) (congrArg _ (nI_clamp (by omega))) dX6_fitting_30 ?_
          refine lv_iload_n hx hb dX6_fitting_31 rfl (lv_at hl 1 rfl) ?_
          refine lv_icmp_lt (tgt := 55) hx hb dX6_fitting_32 (by decide) (fun c_32 => ?_) (fun c_32 => ?_)
          ·
            refine lv_iinc (v := nI (i_5 + 1)) (lv' := [(5, .int (nI (i_5 + 1))), (0, .ref h0), (1, .int q), (2, .int sp), (3, .long l_3_5)]) hx hb dX6_fitting_55 hl (k := 4) rfl (ax_add _ 1) (by decide) rfl (fun ls hl => ?_)
            refine lv_goto (tgt := 5) hx hb dX6_fitting_58 (by decide) ?_
            exact ih_L_1 (i_5 + 1) l_3_5 ls (by omega) (by omega) (fz_n hf_5 (fun h => h.2.1 c_32)) hP (lv_sub hl [1, 2, 3, 4, 0] rfl)
          ·
            refine lv_aload_n hx hb dX6_fitting_35 rfl (lv_at hl 0 rfl) ?_
            refine va_get (D := D) (ci := 6) (v := .ref p0) (C := RX6) (T := TX6) (N := 5) hx hb hts w_1 hown hK hP 0 rfl rfl 0 (by decide) w_4 (fun _ h9 => h9) rfl dX6_fitting_36 ?_
            refine lv_iload hx hb dX6_fitting_39 (lv_at hl 4 rfl) ?_
            refine sv_iald (v := f0 i_5) hx hb hK hP 1 1 rfl rfl (vp_in_nI (by omega) (by decide)) (congrArg _ (nI_clamp (by omega))) dX6_fitting_41 ?_
            refine lv_iload_n hx hb dX6_fitting_42 rfl (lv_at hl 1 rfl) ?_
            refine lv_iload_n hx hb dX6_fitting_43 rfl (lv_at hl 2 rfl) ?_
            refine sv_iadd (v := q + sp) hx hb dX6_fitting_44 rfl ?_
            refine lv_icmp_gt (tgt := 55) hx hb dX6_fitting_45 (by decide) (fun c_45 => ?_) (fun c_45 => ?_)
            ·
              refine lv_iinc (v := nI (i_5 + 1)) (lv' := [(5, .int (nI (i_5 + 1))), (0, .ref h0), (1, .int q), (2, .int sp), (3, .long l_3_5)]) hx hb dX6_fitting_55 hl (k := 4) rfl (ax_add _ 1) (by decide) rfl (fun ls hl => ?_)
              refine lv_goto (tgt := 5) hx hb dX6_fitting_58 (by decide) ?_
              exact ih_L_1 (i_5 + 1) l_3_5 ls (by omega) (by omega) (fz_n hf_5 (fun h => Int32.not_le.mpr c_45 h.2.2)) hP (lv_sub hl [1, 2, 3, 4, 0] rfl)
            ·
              refine lv_lload_n hx hb dX6_fitting_48 rfl (lv_at hl 3 rfl) ?_
              refine lv_lconst (v := 1) hx hb dX6_fitting_49 (by decide) ?_
              refine lv_iload hx hb dX6_fitting_50 (lv_at hl 4 rfl) ?_
              refine lv_lshl (v := (1 : Int64) <<< ((nI i_5).toInt64 &&& 63)) hx hb dX6_fitting_52 rfl ?_
              refine lv_lor hx hb dX6_fitting_53 ?_
              refine lv_lstore_n (lv' := [(3, .long (l_3_5 ||| ((1 : Int64) <<< ((nI i_5).toInt64 &&& 63)))), (0, .ref h0), (1, .int q), (2, .int sp), (5, .int (nI i_5))]) hx hb dX6_fitting_54 rfl hl (by decide) rfl (fun ls hl => ?_)
              refine lv_iinc (v := nI (i_5 + 1)) (lv' := [(5, .int (nI (i_5 + 1))), (3, .long (l_3_5 ||| ((1 : Int64) <<< ((nI i_5).toInt64 &&& 63)))), (0, .ref h0), (1, .int q), (2, .int sp)]) hx hb dX6_fitting_55 hl (k := 4) rfl (ax_add _ 1) (by decide) rfl (fun ls hl => ?_)
              refine lv_goto (tgt := 5) hx hb dX6_fitting_58 (by decide) ?_
              exact ih_L_1 (i_5 + 1) (l_3_5 ||| ((1 : Int64) <<< ((nI i_5).toInt64 &&& 63))) ls (by omega) (by omega) (fz_y hf_5 (by omega) ⟨c_21, c_32, Int32.not_lt.mp c_45⟩) hP (lv_sub hl [2, 3, 4, 1, 0] rfl)
  exact L_1 _ 0 0 ls (Nat.lt_succ_self _) (by first | exact Nat.zero_le _ | omega) rfl hP (lv_sub hl [2, 3, 4, 1, 0] rfl)

set_option maxHeartbeats 4000000 in
set_option maxRecDepth 100000 in
theorem f_X2_can (l : Launch) (D : va_G) (cB cI cJ cZ : ClassId) (h0 p0 p1 p3 p4 e9 : Nat) (b5 : Int32) (en : Nat → Nat) (n9 S9 : Nat) (f4 : Nat → Int64) (he : e9 ≤ 8) (hn9 : n9 ≤ 40) (hS9 : S9 < 2 ^ e9) (hF9 : fitT f4 en n9 (2 ^ e9)) : Met l yX2_canDress wsX2_canDress ({ frames := 1, cells := 0, slots := 0, locals := 21 } : Room) (cRd D (aTy cB cI cJ cZ) [(h0, .inr (2, [.ref p0, .ref p1, .int (nI e9), .ref p3, .ref p4, .int b5])), (p4, .inl (cJ, 256, .inr (.inl f4)))] [.ref h0, .int (nI S9)]) (vp_Si (fun r : Int32 => isB r (HL en n9 S9))) 0 0 (fun _ => False) := by
  refine Met.ofW (cc := cX2_canDress) (maxL := 3) (ret := (some .boolean)) (by decide) rfl ?_
  intro p e s m args below meth c s₁ B hml hv
  obtain ⟨rfl, hP, hK⟩ := hv
  have hx := B.exec
  have hb := B.bytes
  have hr := B.returns
  have hts := atoms_spec (ws := wsX2_canDress) B.pre
  have hown : s.vm.findClass RX2 = some m.cls := findClass_of_methodNamed B.named
  have hlocks := B.notSynchronized
  have hP : va_P D vwCl [(h0, .inr (2, [.ref p0, .ref p1, .int (nI e9), .ref p3, .ref p4, .int b5])), (p4, .inl (cJ, 256, .inr (.inl f4)))] s.heap := hP
  have h8 := pow8 he
  have w_1 : ∀ w ∈ wsX20, w ∈ wsX2_canDress := by decide +kernel
  have w_2 := hts (Cond.fieldLink RX2 39 "BlueCoats$Dressing" "guests" "I") (by decide +kernel)
  have w_3 := hts (Cond.fieldLink RX2 21 "BlueCoats$Dressing" "fitting" "[J") (by decide +kernel)
  have hl := lv_entry ([.ref h0, .int (nI S9)]) (n := 3) (Nat.le_of_ble_eq_true rfl)
  rw [lg_entry_eq]
  generalize (lg_sl ([.ref h0, .int (nI S9)]) ++ List.replicate (3 - (lg_sl ([.ref h0, .int (nI S9)])).length) Slot.unset).toArray = ls at hl ⊢
  have hl : lv_has ls 3 [(0, .ref h0), (1, .int (nI S9))] := hl
  generalize hQ : MQ below _ _ s _ _ _ = Q0
  refine lv_iconst (v := 1) hx hb dX2_canDress_0 (by decide) ?_
  refine lv_istore_n (lv' := [(2, .int 1), (0, .ref h0), (1, .int (nI S9))]) hx hb dX2_canDress_1 rfl hl (by decide) rfl (fun ls hl => ?_)
  have L_1 : ∀ (n : Nat) (i_2 : Nat)  (ls : Array Slot), (2 ^ e9) - i_2 < n → (i_2 ≤ 2 ^ e9) → (hlI en n9 S9 i_2) → (1 ≤ i_2) → va_P D vwCl [(h0, .inr (2, [.ref p0, .ref p1, .int (nI e9), .ref p3, .ref p4, .int b5])), (p4, .inl (cJ, 256, .inr (.inl f4)))] s.heap → lv_has ls 3 [(0, .ref h0), (1, .int (nI S9)), (2, .int (nI i_2))] → W p l e (headSpec wsX2_canDress ({ frames := 1, cells := 0, slots := 0, locals := 21 } : Room)).room s m ([.ref h0, .int (nI S9)] : List Value).toArray below meth c s.heap [] 0 0 Q0 (F0 m 2 ls []) := by
    intro n
    induction n with
    | zero => intro i_2 ls hn_2 hle_2 hl_2 h1_2 hP hl; exact absurd hn_2 (Nat.not_lt_zero _)
    | succ n ih_L_1 =>
      intro i_2 ls hn_2 hle_2 hl_2 h1_2 hP hl
      refine lv_iload_n hx hb dX2_canDress_2 rfl (lv_at hl 2 rfl) ?_
      refine lv_iconst (v := 1) hx hb dX2_canDress_3 (by decide) ?_
      refine lv_aload_n hx hb dX2_canDress_4 rfl (lv_at hl 0 rfl) ?_
      refine va_get (D := D) (ci := 2) (v := .int (nI e9)) (C := RX2) (T := TX2) (N := 6) hx hb hts w_1 hown hK hP 0 rfl rfl 2 (by decide) w_2 (fun _ h9 => h9) rfl dX2_canDress_5 ?_
      refine sv_ishl (v := nI (2 ^ e9)) hx hb dX2_canDress_8 (sh_8 he) ?_
      refine lv_icmp_ge (tgt := 44) hx hb dX2_canDress_9 (by decide) (fun c_9 => ?_) (fun c_9 => ?_)
      ·
        refine lv_iconst (v := 1) hx hb dX2_canDress_44 (by decide) ?_
        rw [← hQ]
        exact W.zret (v := 1) hx hb hr rfl (fun t ht hW => ⟨_, rfl, Or.inl ⟨rfl, hl_e (by rw [← (Nat.le_antisymm hle_2 (ge3 (by omega) hle_2 c_9))]; exact hl_2) hS9⟩, ht⟩) (fun q h => nomatch h) dX2_canDress_45
      ·
        have hb_2 : i_2 < 2 ^ e9 := lt3 (by omega) hle_2 c_9
        refine lv_iload_n hx hb dX2_canDress_12 rfl (lv_at hl 2 rfl) ?_
        refine lv_iload_n hx hb dX2_canDress_13 rfl (lv_at hl 1 rfl) ?_
        refine lv_iconst (v := (-1)) hx hb dX2_canDress_14 (by decide) ?_
        refine sv_ixor (v := (nI S9) ^^^ (-1)) hx hb dX2_canDress_15 rfl ?_
        refine sv_iand (v := (nI i_2) &&& ((nI S9) ^^^ (-1))) hx hb dX2_canDress_16 rfl ?_
        refine lv_if_ne (tgt := 38) hx hb dX2_canDress_17 (by decide) (fun c_17 => ?_) (fun c_17 => ?_)
        ·
          refine lv_iinc (v := nI (i_2 + 1)) (lv' := [(2, .int (nI (i_2 + 1))), (0, .ref h0), (1, .int (nI S9))]) hx hb dX2_canDress_38 hl (k := 2) rfl (ax_add _ 1) (by decide) rfl (fun ls hl => ?_)
          refine lv_goto (tgt := 2) hx hb dX2_canDress_41 (by decide) ?_
          exact ih_L_1 (i_2 + 1) ls (by omega) (by omega) (cd_s1 hl_2 he hb_2 hS9 c_17) (by omega) hP (lv_sub hl [1, 2, 0] rfl)
        ·
          refine lv_aload_n hx hb dX2_canDress_20 rfl (lv_at hl 0 rfl) ?_
          refine va_get (D := D) (ci := 2) (v := .ref p4) (C := RX2) (T := TX2) (N := 6) hx hb hts w_1 hown hK hP 0 rfl rfl 4 (by decide) w_3 (fun _ h9 => h9) rfl dX2_canDress_21 ?_
          refine lv_iload_n hx hb dX2_canDress_24 rfl (lv_at hl 2 rfl) ?_
          refine sv_lald (v := f4 i_2) hx hb hK hP 1 2 rfl rfl (vp_in_nI (by omega) (by decide)) (congrArg _ (nI_clamp (by omega))) dX2_canDress_25 ?_
          refine vp_callSi (va_Run.run (va_runS (As := [.long (f4 i_2)]) (rest := []) ⟨hx, hb, hml, hown, hts⟩ (f_bitL l D cB cI cJ cZ (f4 i_2)) (va_cwS 1 hts gX2_canDress_J13_bitCount_95d88 rfl rfl rfl (by decide +kernel) ⟨Nat.le_of_ble_eq_true rfl, Nat.le_of_ble_eq_true rfl⟩) (pre_SR (hP.sub (ws' := []) [] rfl) hK) rfl rfl hl.1 rfl (lv_room (Nat.le_of_ble_eq_true rfl)) dX2_canDress_26 ⟨Nat.le_of_ble_eq_true rfl, Nat.le_of_ble_eq_true rfl⟩)) (fun r_2 hw_r_2 => ?_)
          refine lv_iload_n hx hb dX2_canDress_29 rfl (lv_at hl 2 rfl) ?_
          refine vp_callSi (va_Run.run (va_runS (As := [.int (nI i_2)]) (rest := [.int r_2]) ⟨hx, hb, hml, hown, hts⟩ (f_bitI l D cB cI cJ cZ (nI i_2)) (va_cwS 1 hts gX2_canDress_J6_bitCount_0f7a4 rfl rfl rfl (by decide +kernel) ⟨Nat.le_of_ble_eq_true rfl, Nat.le_of_ble_eq_true rfl⟩) (pre_SR (hP.sub (ws' := []) [] rfl) hK) rfl rfl hl.1 rfl (lv_room (Nat.le_of_ble_eq_true rfl)) dX2_canDress_30 ⟨Nat.le_of_ble_eq_true rfl, Nat.le_of_ble_eq_true rfl⟩)) (fun r_3 hw_r_3 => ?_)
          refine lv_icmp_ge (tgt := 38) hx hb dX2_canDress_33 (by decide) (fun c_33 => ?_) (fun c_33 => ?_)
          ·
            refine lv_iinc (v := nI (i_2 + 1)) (lv' := [(2, .int (nI (i_2 + 1))), (0, .ref h0), (1, .int (nI S9))]) hx hb dX2_canDress_38 hl (k := 2) rfl (ax_add _ 1) (by decide) rfl (fun ls hl => ?_)
            refine lv_goto (tgt := 2) hx hb dX2_canDress_41 (by decide) ?_
            exact ih_L_1 (i_2 + 1) ls (by omega) (by omega) (cd_s2 hl_2 hF9 hn9 he hb_2 (by rw [hw_r_2, hw_r_3] at c_33; exact Int32.not_lt.mpr c_33)) (by omega) hP (lv_sub hl [1, 2, 0] rfl)
          ·
            refine lv_iconst (v := 0) hx hb dX2_canDress_36 (by decide) ?_
            rw [← hQ]
            exact W.zret (v := 0) hx hb hr rfl (fun t ht hW => ⟨_, rfl, Or.inr ⟨rfl, cd_no hF9 hn9 he hb_2 hS9 c_17 (by rw [hw_r_2, hw_r_3] at c_33; exact Int32.not_le.mp c_33)⟩, ht⟩) (fun q h => nomatch h) dX2_canDress_37
  exact L_1 _ 1 ls (Nat.lt_succ_self _) (by first | exact Nat.zero_le _ | omega) hl_0 (Nat.le_refl 1) hP (lv_sub hl [1, 2, 0] rfl)

set_option maxHeartbeats 4000000 in
set_option maxRecDepth 100000 in
theorem f_X2_great (l : Launch) (D : va_G) (cB cI cJ cZ : ClassId) (h0 p0 p1 p3 p4 e9 : Nat) (b5 : Int32) (f3 : Nat → Int32) (S9 : Nat) (he : e9 ≤ 8) (hs0 : ∀ i, i < e9 → 0 ≤ (f3 i).toInt) : Met l yX2_greatestBut wsX2_greatestBut ({ frames := 0, cells := 0, slots := 0, locals := 0 } : Room) (cRd D (aTy cB cI cJ cZ) [(h0, .inr (2, [.ref p0, .ref p1, .int (nI e9), .ref p3, .ref p4, .int b5])), (p3, .inl (cI, 8, .inl f3))] [.ref h0, .int (nI S9)]) (vp_Si (fun r : Int32 => ∃ b z, r = nI b ∧ grI (fun j => (f3 j).toInt) S9 e9 b z)) 0 0 (fun _ => False) := by
  refine Met.ofW (cc := cX2_greatestBut) (maxL := 5) (ret := (some .int)) (by decide) rfl ?_
  intro p e s m args below meth c s₁ B hml hv
  obtain ⟨rfl, hP, hK⟩ := hv
  have hx := B.exec
  have hb := B.bytes
  have hr := B.returns
  have hts := atoms_spec (ws := wsX2_greatestBut) B.pre
  have hown : s.vm.findClass RX2 = some m.cls := findClass_of_methodNamed B.named
  have hlocks := B.notSynchronized
  have hP : va_P D vwCl [(h0, .inr (2, [.ref p0, .ref p1, .int (nI e9), .ref p3, .ref p4, .int b5])), (p3, .inl (cI, 8, .inl f3))] s.heap := hP
  have w_1 : ∀ w ∈ wsX20, w ∈ wsX2_greatestBut := by decide +kernel
  have w_2 := hts (Cond.fieldLink RX2 39 "BlueCoats$Dressing" "guests" "I") (by decide +kernel)
  have w_3 := hts (Cond.fieldLink RX2 18 "BlueCoats$Dressing" "size" "[I") (by decide +kernel)
  have hl := lv_entry ([.ref h0, .int (nI S9)]) (n := 5) (Nat.le_of_ble_eq_true rfl)
  rw [lg_entry_eq]
  generalize (lg_sl ([.ref h0, .int (nI S9)]) ++ List.replicate (5 - (lg_sl ([.ref h0, .int (nI S9)])).length) Slot.unset).toArray = ls at hl ⊢
  have hl : lv_has ls 5 [(0, .ref h0), (1, .int (nI S9))] := hl
  generalize hQ : MQ below _ _ s _ _ _ = Q0
  refine lv_iconst (v := 0) hx hb dX2_greatestBut_0 (by decide) ?_
  refine lv_istore_n (lv' := [(2, .int 0), (0, .ref h0), (1, .int (nI S9))]) hx hb dX2_greatestBut_1 rfl hl (by decide) rfl (fun ls hl => ?_)
  refine lv_iconst (v := (-1)) hx hb dX2_greatestBut_2 (by decide) ?_
  refine lv_istore_n (lv' := [(3, .int (-1)), (2, .int 0), (0, .ref h0), (1, .int (nI S9))]) hx hb dX2_greatestBut_3 rfl hl (by decide) rfl (fun ls hl => ?_)
  refine lv_iconst (v := 0) hx hb dX2_greatestBut_4 (by decide) ?_
  refine lv_istore (lv' := [(4, .int 0), (3, .int (-1)), (2, .int 0), (0, .ref h0), (1, .int (nI S9))]) hx hb dX2_greatestBut_5 hl (by decide) rfl (fun ls hl => ?_)
  have L_1 : ∀ (n : Nat) (i_7 : Nat) (l_3_7 : Int32) (b_2_7 : Nat) (ls : Array Slot), e9 - i_7 < n → (i_7 ≤ e9) → (grI (fun j => (f3 j).toInt) S9 i_7 b_2_7 (l_3_7).toInt) → va_P D vwCl [(h0, .inr (2, [.ref p0, .ref p1, .int (nI e9), .ref p3, .ref p4, .int b5])), (p3, .inl (cI, 8, .inl f3))] s.heap → lv_has ls 5 [(0, .ref h0), (1, .int (nI S9)), (2, .int (nI b_2_7)), (3, .int l_3_7), (4, .int (nI i_7))] → W p l e (headSpec wsX2_greatestBut ({ frames := 0, cells := 0, slots := 0, locals := 0 } : Room)).room s m ([.ref h0, .int (nI S9)] : List Value).toArray below meth c s.heap [] 0 0 Q0 (F0 m 7 ls []) := by
    intro n
    induction n with
    | zero => intro i_7 l_3_7 b_2_7 ls hn_7 hle_7 hg_7 hP hl; exact absurd hn_7 (Nat.not_lt_zero _)
    | succ n ih_L_1 =>
      intro i_7 l_3_7 b_2_7 ls hn_7 hle_7 hg_7 hP hl
      refine lv_iload hx hb dX2_greatestBut_7 (lv_at hl 4 rfl) ?_
      refine lv_aload_n hx hb dX2_greatestBut_9 rfl (lv_at hl 0 rfl) ?_
      refine va_get (D := D) (ci := 2) (v := .int (nI e9)) (C := RX2) (T := TX2) (N := 6) hx hb hts w_1 hown hK hP 0 rfl rfl 2 (by decide) w_2 (fun _ h9 => h9) rfl dX2_greatestBut_10 ?_
      refine lv_icmp_ge (tgt := 53) hx hb dX2_greatestBut_13 (by decide) (fun c_13 => ?_) (fun c_13 => ?_)
      ·
        refine lv_iload_n hx hb dX2_greatestBut_53 rfl (lv_at hl 2 rfl) ?_
        rw [← hQ]
        exact W.iret (v := nI b_2_7) hx hb hr (fun t ht hW => ⟨_, rfl, ⟨_, _, rfl, by rw [← (Nat.le_antisymm hle_7 (ge3 (by omega) hle_7 c_13))]; exact hg_7⟩, ht⟩) (fun q h => nomatch h) dX2_greatestBut_54
      ·
        have hb_7 : i_7 < e9 := lt3 (by omega) hle_7 c_13
        refine lv_iload_n hx hb dX2_greatestBut_16 rfl (lv_at hl 1 rfl) ?_
        refine lv_iconst (v := 1) hx hb dX2_greatestBut_17 (by decide) ?_
        refine lv_iload hx hb dX2_greatestBut_18 (lv_at hl 4 rfl) ?_
        refine sv_ishl (v := 1 <<< (nI i_7 &&& 31)) hx hb dX2_greatestBut_20 rfl ?_
        refine sv_iand (v := (nI S9) &&& (1 <<< (nI i_7 &&& 31))) hx hb dX2_greatestBut_21 rfl ?_
        refine lv_if_ne (tgt := 47) hx hb dX2_greatestBut_22 (by decide) (fun c_22 => ?_) (fun c_22 => ?_)
        ·
          refine lv_iinc (v := nI (i_7 + 1)) (lv' := [(4, .int (nI (i_7 + 1))), (0, .ref h0), (1, .int (nI S9)), (2, .int (nI b_2_7)), (3, .int l_3_7)]) hx hb dX2_greatestBut_47 hl (k := 4) rfl (ax_add _ 1) (by decide) rfl (fun ls hl => ?_)
          refine lv_goto (tgt := 7) hx hb dX2_greatestBut_50 (by decide) ?_
          exact ih_L_1 (i_7 + 1) l_3_7 b_2_7 ls (by omega) (by omega) (gr_s hg_7 (by omega) c_22) hP (lv_sub hl [1, 2, 3, 4, 0] rfl)
        ·
          refine lv_aload_n hx hb dX2_greatestBut_25 rfl (lv_at hl 0 rfl) ?_
          refine va_get (D := D) (ci := 2) (v := .ref p3) (C := RX2) (T := TX2) (N := 6) hx hb hts w_1 hown hK hP 0 rfl rfl 3 (by decide) w_3 (fun _ h9 => h9) rfl dX2_greatestBut_26 ?_
          refine lv_iload hx hb dX2_greatestBut_29 (lv_at hl 4 rfl) ?_
          refine sv_iald (v := f3 i_7) hx hb hK hP 1 1 rfl rfl (vp_in_nI (by omega) (by decide)) (congrArg _ (nI_clamp (by omega))) dX2_greatestBut_31 ?_
          refine lv_iload_n hx hb dX2_greatestBut_32 rfl (lv_at hl 3 rfl) ?_
          refine lv_icmp_le (tgt := 47) hx hb dX2_greatestBut_33 (by decide) (fun c_33 => ?_) (fun c_33 => ?_)
          ·
            refine lv_iinc (v := nI (i_7 + 1)) (lv' := [(4, .int (nI (i_7 + 1))), (0, .ref h0), (1, .int (nI S9)), (2, .int (nI b_2_7)), (3, .int l_3_7)]) hx hb dX2_greatestBut_47 hl (k := 4) rfl (ax_add _ 1) (by decide) rfl (fun ls hl => ?_)
            refine lv_goto (tgt := 7) hx hb dX2_greatestBut_50 (by decide) ?_
            exact ih_L_1 (i_7 + 1) l_3_7 b_2_7 ls (by omega) (by omega) (gr_l hg_7 (hs0 _ (by omega)) c_33) hP (lv_sub hl [1, 2, 3, 4, 0] rfl)
          ·
            refine lv_iload hx hb dX2_greatestBut_36 (lv_at hl 4 rfl) ?_
            refine lv_istore_n (lv' := [(2, .int (nI i_7)), (0, .ref h0), (1, .int (nI S9)), (3, .int l_3_7), (4, .int (nI i_7))]) hx hb dX2_greatestBut_38 rfl hl (by decide) rfl (fun ls hl => ?_)
            refine lv_aload_n hx hb dX2_greatestBut_39 rfl (lv_at hl 1 rfl) ?_
            refine va_get (D := D) (ci := 2) (v := .ref p3) (C := RX2) (T := TX2) (N := 6) hx hb hts w_1 hown hK hP 0 rfl rfl 3 (by decide) w_3 (fun _ h9 => h9) rfl dX2_greatestBut_40 ?_
            refine lv_iload hx hb dX2_greatestBut_43 (lv_at hl 4 rfl) ?_
            refine sv_iald (v := f3 i_7) hx hb hK hP 1 1 rfl rfl (vp_in_nI (by omega) (by decide)) (congrArg _ (nI_clamp (by omega))) dX2_greatestBut_45 ?_
            refine lv_istore_n (lv' := [(3, .int (f3 i_7)), (2, .int (nI i_7)), (0, .ref h0), (1, .int (nI S9)), (4, .int (nI i_7))]) hx hb dX2_greatestBut_46 rfl hl (by decide) rfl (fun ls hl => ?_)
            refine lv_iinc (v := nI (i_7 + 1)) (lv' := [(4, .int (nI (i_7 + 1))), (3, .int (f3 i_7)), (2, .int (nI i_7)), (0, .ref h0), (1, .int (nI S9))]) hx hb dX2_greatestBut_47 hl (k := 4) rfl (ax_add _ 1) (by decide) rfl (fun ls hl => ?_)
            refine lv_goto (tgt := 7) hx hb dX2_greatestBut_50 (by decide) ?_
            exact ih_L_1 (i_7 + 1) (f3 i_7) i_7 ls (by omega) (by omega) (gr_n hg_7 (by omega) c_22 c_33) hP (lv_sub hl [3, 4, 2, 1, 0] rfl)
  exact L_1 _ 0 (-1) 0 ls (Nat.lt_succ_self _) (by first | exact Nat.zero_le _ | omega) (gb_e (by decide)) hP (lv_sub hl [3, 4, 2, 1, 0] rfl)

set_option maxHeartbeats 4000000 in
set_option maxRecDepth 100000 in
theorem f_X2_needed (l : Launch) (D : va_G) (cB cI cJ cZ : ClassId) (h0 p0 p1 p3 p4 e9 : Nat) (b5 : Int32) (en : Nat → Nat) (n9 S9 : Nat) (R9 : Nat) (f4 : Nat → Int64) (he : e9 ≤ 8) (hn9 : n9 ≤ 40) (hS9 : S9 < 2 ^ e9) (hF9 : fitT f4 en n9 (2 ^ e9)) : Met l yX2_neededBy wsX2_neededBy ({ frames := 1, cells := 0, slots := 0, locals := 21 } : Room) (cRd D (aTy cB cI cJ cZ) [(h0, .inr (2, [.ref p0, .ref p1, .int (nI e9), .ref p3, .ref p4, .int b5])), (p4, .inl (cJ, 256, .inr (.inl f4)))] [.ref h0, .int (nI S9), .long (qN R9)]) (vp_Sl (fun r : Int64 => ndI r (enF en R9) n9 S9 (2 ^ e9))) 0 0 (fun _ => False) := by
  refine Met.ofW (cc := cX2_neededBy) (maxL := 9) (ret := (some .long)) (by decide) rfl ?_
  intro p e s m args below meth c s₁ B hml hv
  obtain ⟨rfl, hP, hK⟩ := hv
  have hx := B.exec
  have hb := B.bytes
  have hr := B.returns
  have hts := atoms_spec (ws := wsX2_neededBy) B.pre
  have hown : s.vm.findClass RX2 = some m.cls := findClass_of_methodNamed B.named
  have hlocks := B.notSynchronized
  have hP : va_P D vwCl [(h0, .inr (2, [.ref p0, .ref p1, .int (nI e9), .ref p3, .ref p4, .int b5])), (p4, .inl (cJ, 256, .inr (.inl f4)))] s.heap := hP
  have h8 := pow8 he
  have w_1 : ∀ w ∈ wsX20, w ∈ wsX2_neededBy := by decide +kernel
  have w_2 := hts (Cond.fieldLink RX2 39 "BlueCoats$Dressing" "guests" "I") (by decide +kernel)
  have w_3 := hts (Cond.fieldLink RX2 21 "BlueCoats$Dressing" "fitting" "[J") (by decide +kernel)
  have hl := lv_entry ([.ref h0, .int (nI S9), .long (qN R9)]) (n := 9) (Nat.le_of_ble_eq_true rfl)
  rw [lg_entry_eq]
  generalize (lg_sl ([.ref h0, .int (nI S9), .long (qN R9)]) ++ List.replicate (9 - (lg_sl ([.ref h0, .int (nI S9), .long (qN R9)])).length) Slot.unset).toArray = ls at hl ⊢
  have hl : lv_has ls 9 [(0, .ref h0), (1, .int (nI S9)), (2, .long (qN R9))] := hl
  generalize hQ : MQ below _ _ s _ _ _ = Q0
  refine lv_lconst (v := 0) hx hb dX2_neededBy_0 (by decide) ?_
  refine lv_lstore (lv' := [(4, .long 0), (0, .ref h0), (1, .int (nI S9)), (2, .long (qN R9))]) hx hb dX2_neededBy_1 hl (by decide) rfl (fun ls hl => ?_)
  refine lv_iconst (v := 1) hx hb dX2_neededBy_3 (by decide) ?_
  refine lv_istore (lv' := [(6, .int 1), (4, .long 0), (0, .ref h0), (1, .int (nI S9)), (2, .long (qN R9))]) hx hb dX2_neededBy_4 hl (by decide) rfl (fun ls hl => ?_)
  have L_1 : ∀ (n : Nat) (i_6 : Nat) (l_4_6 : Int64) (ls : Array Slot), (2 ^ e9) - i_6 < n → (i_6 ≤ 2 ^ e9) → (ndI l_4_6 (enF en R9) n9 S9 i_6) → (1 ≤ i_6) → va_P D vwCl [(h0, .inr (2, [.ref p0, .ref p1, .int (nI e9), .ref p3, .ref p4, .int b5])), (p4, .inl (cJ, 256, .inr (.inl f4)))] s.heap → lv_has ls 9 [(0, .ref h0), (1, .int (nI S9)), (2, .long (qN R9)), (4, .long l_4_6), (6, .int (nI i_6))] → W p l e (headSpec wsX2_neededBy ({ frames := 1, cells := 0, slots := 0, locals := 21 } : Room)).room s m ([.ref h0, .int (nI S9), .long (qN R9)] : List Value).toArray below meth c s.heap [] 0 0 Q0 (F0 m 6 ls []) := by
    intro n
    induction n with
    | zero => intro i_6 l_4_6 ls hn_6 hle_6 hd_6 h1_6 hP hl; exact absurd hn_6 (Nat.not_lt_zero _)
    | succ n ih_L_1 =>
      intro i_6 l_4_6 ls hn_6 hle_6 hd_6 h1_6 hP hl
      refine lv_iload hx hb dX2_neededBy_6 (lv_at hl 4 rfl) ?_
      refine lv_iconst (v := 1) hx hb dX2_neededBy_8 (by decide) ?_
      refine lv_aload_n hx hb dX2_neededBy_9 rfl (lv_at hl 0 rfl) ?_
      refine va_get (D := D) (ci := 2) (v := .int (nI e9)) (C := RX2) (T := TX2) (N := 6) hx hb hts w_1 hown hK hP 0 rfl rfl 2 (by decide) w_2 (fun _ h9 => h9) rfl dX2_neededBy_10 ?_
      refine sv_ishl (v := nI (2 ^ e9)) hx hb dX2_neededBy_13 (sh_8 he) ?_
      refine lv_icmp_ge (tgt := 63) hx hb dX2_neededBy_14 (by decide) (fun c_14 => ?_) (fun c_14 => ?_)
      ·
        refine lv_lload hx hb dX2_neededBy_63 (lv_at hl 3 rfl) ?_
        rw [← hQ]
        exact W.lret (v := l_4_6) hx hb hr (fun t ht hW => ⟨_, rfl, by rw [← (Nat.le_antisymm hle_6 (ge3 (by omega) hle_6 c_14))]; exact hd_6, ht⟩) (fun q h => nomatch h) dX2_neededBy_65
      ·
        have hb_6 : i_6 < 2 ^ e9 := lt3 (by omega) hle_6 c_14
        refine lv_aload_n hx hb dX2_neededBy_17 rfl (lv_at hl 0 rfl) ?_
        refine va_get (D := D) (ci := 2) (v := .ref p4) (C := RX2) (T := TX2) (N := 6) hx hb hts w_1 hown hK hP 0 rfl rfl 4 (by decide) w_3 (fun _ h9 => h9) rfl dX2_neededBy_18 ?_
        refine lv_iload hx hb dX2_neededBy_21 (lv_at hl 4 rfl) ?_
        refine sv_lald (v := f4 i_6) hx hb hK hP 1 2 rfl rfl (vp_in_nI (by omega) (by decide)) (congrArg _ (nI_clamp (by omega))) dX2_neededBy_23 ?_
        refine lv_lload_n hx hb dX2_neededBy_24 rfl (lv_at hl 2 rfl) ?_
        refine lv_land hx hb dX2_neededBy_25 ?_
        refine lv_lstore (lv' := [(7, .long ((f4 i_6) &&& (qN R9))), (0, .ref h0), (1, .int (nI S9)), (2, .long (qN R9)), (4, .long l_4_6), (6, .int (nI i_6))]) hx hb dX2_neededBy_26 hl (by decide) rfl (fun ls hl => ?_)
        refine lv_iload hx hb dX2_neededBy_28 (lv_at hl 5 rfl) ?_
        refine lv_iload_n hx hb dX2_neededBy_30 rfl (lv_at hl 2 rfl) ?_
        refine lv_iconst (v := (-1)) hx hb dX2_neededBy_31 (by decide) ?_
        refine sv_ixor (v := (nI S9) ^^^ (-1)) hx hb dX2_neededBy_32 rfl ?_
        refine sv_iand (v := (nI i_6) &&& ((nI S9) ^^^ (-1))) hx hb dX2_neededBy_33 rfl ?_
        refine lv_if_ne (tgt := 57) hx hb dX2_neededBy_34 (by decide) (fun c_34 => ?_) (fun c_34 => ?_)
        ·
          refine lv_iinc (v := nI (i_6 + 1)) (lv' := [(6, .int (nI (i_6 + 1))), (7, .long ((f4 i_6) &&& (qN R9))), (0, .ref h0), (1, .int (nI S9)), (2, .long (qN R9)), (4, .long l_4_6)]) hx hb dX2_neededBy_57 hl (k := 5) rfl (ax_add _ 1) (by decide) rfl (fun ls hl => ?_)
          refine lv_goto (tgt := 6) hx hb dX2_neededBy_60 (by decide) ?_
          exact ih_L_1 (i_6 + 1) l_4_6 ls (by omega) (by omega) (nb_1 hd_6 he hb_6 hS9 c_34) (by omega) hP (lv_sub hl [2, 3, 4, 5, 0] rfl)
        ·
          refine lv_lload hx hb dX2_neededBy_37 (lv_at hl 0 rfl) ?_
          refine vp_callSi (va_Run.run (va_runS (As := [.long ((f4 i_6) &&& (qN R9))]) (rest := []) ⟨hx, hb, hml, hown, hts⟩ (f_bitL l D cB cI cJ cZ ((f4 i_6) &&& (qN R9))) (va_cwS 1 hts gX2_neededBy_J13_bitCount_95d88 rfl rfl rfl (by decide +kernel) ⟨Nat.le_of_ble_eq_true rfl, Nat.le_of_ble_eq_true rfl⟩) (pre_SR (hP.sub (ws' := []) [] rfl) hK) rfl rfl hl.1 rfl (lv_room (Nat.le_of_ble_eq_true rfl)) dX2_neededBy_39 ⟨Nat.le_of_ble_eq_true rfl, Nat.le_of_ble_eq_true rfl⟩)) (fun r_2 hw_r_2 => ?_)
          refine lv_iload hx hb dX2_neededBy_42 (lv_at hl 5 rfl) ?_
          refine vp_callSi (va_Run.run (va_runS (As := [.int (nI i_6)]) (rest := [.int r_2]) ⟨hx, hb, hml, hown, hts⟩ (f_bitI l D cB cI cJ cZ (nI i_6)) (va_cwS 1 hts gX2_neededBy_J6_bitCount_0f7a4 rfl rfl rfl (by decide +kernel) ⟨Nat.le_of_ble_eq_true rfl, Nat.le_of_ble_eq_true rfl⟩) (pre_SR (hP.sub (ws' := []) [] rfl) hK) rfl rfl hl.1 rfl (lv_room (Nat.le_of_ble_eq_true rfl)) dX2_neededBy_44 ⟨Nat.le_of_ble_eq_true rfl, Nat.le_of_ble_eq_true rfl⟩)) (fun r_3 hw_r_3 => ?_)
          refine lv_icmp_gt (tgt := 57) hx hb dX2_neededBy_47 (by decide) (fun c_47 => ?_) (fun c_47 => ?_)
          ·
            refine lv_iinc (v := nI (i_6 + 1)) (lv' := [(6, .int (nI (i_6 + 1))), (7, .long ((f4 i_6) &&& (qN R9))), (0, .ref h0), (1, .int (nI S9)), (2, .long (qN R9)), (4, .long l_4_6)]) hx hb dX2_neededBy_57 hl (k := 5) rfl (ax_add _ 1) (by decide) rfl (fun ls hl => ?_)
            refine lv_goto (tgt := 6) hx hb dX2_neededBy_60 (by decide) ?_
            exact ih_L_1 (i_6 + 1) l_4_6 ls (by omega) (by omega) (nb_2 hd_6 hF9 hn9 he hb_6 (by rw [hw_r_2, hw_r_3] at c_47; exact Int32.not_le.mpr c_47)) (by omega) hP (lv_sub hl [2, 3, 4, 5, 0] rfl)
          ·
            refine lv_lload hx hb dX2_neededBy_50 (lv_at hl 4 rfl) ?_
            refine lv_lload hx hb dX2_neededBy_52 (lv_at hl 0 rfl) ?_
            refine lv_lor hx hb dX2_neededBy_54 ?_
            refine lv_lstore (lv' := [(4, .long (l_4_6 ||| ((f4 i_6) &&& (qN R9)))), (7, .long ((f4 i_6) &&& (qN R9))), (0, .ref h0), (1, .int (nI S9)), (2, .long (qN R9)), (6, .int (nI i_6))]) hx hb dX2_neededBy_55 hl (by decide) rfl (fun ls hl => ?_)
            refine lv_iinc (v := nI (i_6 + 1)) (lv' := [(6, .int (nI (i_6 + 1))), (4, .long (l_4_6 ||| ((f4 i_6) &&& (qN R9)))), (7, .long ((f4 i_6) &&& (qN R9))), (0, .ref h0), (1, .int (nI S9)), (2, .long (qN R9))]) hx hb dX2_neededBy_57 hl (k := 5) rfl (ax_add _ 1) (by decide) rfl (fun ls hl => ?_)
            refine lv_goto (tgt := 6) hx hb dX2_neededBy_60 (by decide) ?_
            exact ih_L_1 (i_6 + 1) (l_4_6 ||| ((f4 i_6) &&& (qN R9))) ls (by omega) (by omega) (nb_3 hd_6 hF9 hn9 he h1_6 hb_6 hS9 c_34 (by rw [hw_r_2, hw_r_3] at c_47; exact Int32.not_lt.mp c_47)) (by omega) hP (lv_sub hl [3, 4, 5, 1, 0] rfl)
  exact L_1 _ 1 0 ls (Nat.lt_succ_self _) (by first | exact Nat.zero_le _ | omega) nd_0 (Nat.le_refl 1) hP (lv_sub hl [2, 3, 4, 1, 0] rfl)

set_option maxHeartbeats 4000000 in
set_option maxRecDepth 100000 in
theorem f_X2_least (l : Launch) (D : va_G) (cB cI cJ cZ : ClassId) (C9 : Nat) (hC9 : C9 < 2 ^ 40) : Met l yX2_leastOf wsX2_leastOf ({ frames := 0, cells := 0, slots := 0, locals := 0 } : Room) (cRd D (aTy cB cI cJ cZ) [] [.long (qN C9)]) (vp_Si (fun r : Int32 => lsP r C9)) 0 0 (fun _ => False) := by
  refine Met.ofW (cc := cX2_leastOf) (maxL := 3) (ret := (some .int)) (by decide) rfl ?_
  intro p e s m args below meth c s₁ B hml hv
  obtain ⟨rfl, hP, hK⟩ := hv
  have hx := B.exec
  have hb := B.bytes
  have hr := B.returns
  have hts := atoms_spec (ws := wsX2_leastOf) B.pre
  have hown : s.vm.findClass RX2 = some m.cls := findClass_of_methodNamed B.named
  have hlocks := B.notSynchronized
  have hP : va_P D vwCl [] s.heap := hP
  have hl := lv_entry ([.long (qN C9)]) (n := 3) (Nat.le_of_ble_eq_true rfl)
  rw [lg_entry_eq]
  generalize (lg_sl ([.long (qN C9)]) ++ List.replicate (3 - (lg_sl ([.long (qN C9)])).length) Slot.unset).toArray = ls at hl ⊢
  have hl : lv_has ls 3 [(0, .long (qN C9))] := hl
  generalize hQ : MQ below _ _ s _ _ _ = Q0
  refine lv_iconst (v := 0) hx hb dX2_leastOf_0 (by decide) ?_
  refine lv_istore_n (lv' := [(2, .int 0), (0, .long (qN C9))]) hx hb dX2_leastOf_1 rfl hl (by decide) rfl (fun ls hl => ?_)
  have L_1 : ∀ (n : Nat) (i_2 : Nat)  (ls : Array Slot), 40 - i_2 < n → (i_2 ≤ 40) → (lsI C9 i_2) → va_P D vwCl [] s.heap → lv_has ls 3 [(0, .long (qN C9)), (2, .int (nI i_2))] → W p l e (headSpec wsX2_leastOf ({ frames := 0, cells := 0, slots := 0, locals := 0 } : Room)).room s m ([.long (qN C9)] : List Value).toArray below meth c s.heap [] 0 0 Q0 (F0 m 2 ls []) := by
    intro n
    induction n with
    | zero => intro i_2 ls hn_2 hle_2 hl_2 hP hl; exact absurd hn_2 (Nat.not_lt_zero _)
    | succ n ih_L_1 =>
      intro i_2 ls hn_2 hle_2 hl_2 hP hl
      refine lv_iload_n hx hb dX2_leastOf_2 rfl (lv_at hl 1 rfl) ?_
      refine lv_bipush (v := 40) hx hb dX2_leastOf_3 (by decide) ?_
      refine lv_icmp_ge (tgt := 26) hx hb dX2_leastOf_5 (by decide) (fun c_5 => ?_) (fun c_5 => ?_)
      ·
        refine lv_iconst (v := (-1)) hx hb dX2_leastOf_26 (by decide) ?_
        rw [← hQ]
        exact W.iret (v := (-1)) hx hb hr (fun t ht hW => ⟨_, rfl, Or.inr ⟨rfl, by have h := hl_2; rw [(Nat.le_antisymm hle_2 (ge3 (by omega) hle_2 c_5))] at h; exact h⟩, ht⟩) (fun q h => nomatch h) dX2_leastOf_27
      ·
        have hb_2 : i_2 < 40 := lt3 (by omega) hle_2 c_5
        refine lv_lload_n hx hb dX2_leastOf_8 rfl (lv_at hl 0 rfl) ?_
        refine lv_lconst (v := 1) hx hb dX2_leastOf_9 (by decide) ?_
        refine lv_iload_n hx hb dX2_leastOf_10 rfl (lv_at hl 1 rfl) ?_
        refine lv_lshl (v := (1 : Int64) <<< ((nI i_2).toInt64 &&& 63)) hx hb dX2_leastOf_11 rfl ?_
        refine lv_land hx hb dX2_leastOf_12 ?_
        refine lv_lconst (v := 0) hx hb dX2_leastOf_13 (by decide) ?_
        refine W.lcmp hx hb dX2_leastOf_14 ?_
        refine lv_if_eq (tgt := 20) hx hb dX2_leastOf_15 (by decide) (fun c_15 => ?_) (fun c_15 => ?_)
        ·
          refine lv_iinc (v := nI (i_2 + 1)) (lv' := [(2, .int (nI (i_2 + 1))), (0, .long (qN C9))]) hx hb dX2_leastOf_20 hl (k := 1) rfl (ax_add _ 1) (by decide) rfl (fun ls hl => ?_)
          refine lv_goto (tgt := 2) hx hb dX2_leastOf_23 (by decide) ?_
          exact ih_L_1 (i_2 + 1) ls (by omega) (by omega) (ls_s hl_2 ((lo_b hC9 (by omega)).mp c_15)) hP (lv_sub hl [1, 0] rfl)
        ·
          refine lv_iload_n hx hb dX2_leastOf_18 rfl (lv_at hl 1 rfl) ?_
          rw [← hQ]
          exact W.iret (v := nI i_2) hx hb hr (fun t ht hW => ⟨_, rfl, Or.inl ⟨i_2, hb_2, rfl, by cases q : C9.testBit i_2; exact absurd ((lo_b hC9 (by omega)).mpr q) c_15; rfl, hl_2⟩, ht⟩) (fun q h => nomatch h) dX2_leastOf_19
  exact L_1 _ 0 ls (Nat.lt_succ_self _) (by first | exact Nat.zero_le _ | omega) ls_0 hP (lv_sub hl [1, 0] rfl)

set_option maxHeartbeats 4000000 in
set_option maxRecDepth 100000 in
theorem f_X2_dressed (l : Launch) (D : va_G) (cB cI cJ cZ : ClassId) (sz : Nat) (h0 p0 p1 p3 p4 e9 : Nat) (b5 : Int32) (en : Nat → Nat) (n9 : Nat) (f3 : Nat → Int32) (f4 : Nat → Int64) (he : e9 ≤ 8) (hn9 : n9 ≤ 40) (hF9 : fitT f4 en n9 (2 ^ e9)) (hs0 : ∀ i, i < e9 → 0 ≤ (f3 i).toInt) : Met l yX2_chooseDressed wsX2_chooseDressed ({ frames := 2, cells := 0, slots := 0, locals := 43 } : Room) (cPre D (aTy cB cI cJ cZ) [(h0, .inr (2, [.ref p0, .ref p1, .int (nI e9), .ref p3, .ref p4, .int b5])), (p3, .inl (cI, 8, .inl f3)), (p4, .inl (cJ, 256, .inr (.inl f4)))] sz [.ref h0]) (va_Qv (fun (u : Nat) => drP en n9 (fun j => (f3 j).toInt) e9 u) (cB_ D (aTy cB cI cJ cZ) (va_A [(h0, .inr (2, [.ref p0, .ref p1, .int (nI e9), .ref p3, .ref p4, .int b5])), (p3, .inl (cI, 8, .inl f3)), (p4, .inl (cJ, 256, .inr (.inl f4)))] sz) (fun u => [(h0, .inr (2, [.ref p0, .ref p1, .int (nI e9), .ref p3, .ref p4, .int (nI (u))])), (p3, .inl (cI, 8, .inl f3)), (p4, .inl (cJ, 256, .inr (.inl f4)))])) (va_A [(h0, .inr (2, [.ref p0, .ref p1, .int (nI e9), .ref p3, .ref p4, .int b5])), (p3, .inl (cI, 8, .inl f3)), (p4, .inl (cJ, 256, .inr (.inl f4)))] sz)) 0 0 (va_A [(h0, .inr (2, [.ref p0, .ref p1, .int (nI e9), .ref p3, .ref p4, .int b5])), (p3, .inl (cI, 8, .inl f3)), (p4, .inl (cJ, 256, .inr (.inl f4)))] sz) := by
  refine Met.ofW (cc := cX2_chooseDressed) (maxL := 4) (ret := none) (by decide) rfl ?_
  intro p e s m args below meth c s₁ B hml hv
  obtain ⟨rfl, hsz, hP, hK, hD0⟩ := hv
  have hx := B.exec
  have hb := B.bytes
  have hr := B.returns
  have hts := atoms_spec (ws := wsX2_chooseDressed) B.pre
  have hown : s.vm.findClass RX2 = some m.cls := findClass_of_methodNamed B.named
  have hlocks := B.notSynchronized
  subst hsz
  have hD := hD0.self (sz := s.heap.size)
  generalize hAe : va_A [(h0, .inr (2, [.ref p0, .ref p1, .int (nI e9), .ref p3, .ref p4, .int b5])), (p3, .inl (cI, 8, .inl f3)), (p4, .inl (cJ, 256, .inr (.inl f4)))] s.heap.size = A at hD ⊢
  have hA : ∀ q : Nat, s.heap.size ≤ q → A q := fun q h => by rw [← hAe]; exact Or.inr h
  have hS : va_S A s.heap s.heap [] := va_S.rf
  have hP : va_P D vwCl [(h0, .inr (2, [.ref p0, .ref p1, .int (nI e9), .ref p3, .ref p4, .int b5])), (p3, .inl (cI, 8, .inl f3)), (p4, .inl (cJ, 256, .inr (.inl f4)))] s.heap := hP
  have w_1 : ∀ w ∈ wsX20, w ∈ wsX2_chooseDressed := by decide +kernel
  have w_2 := hts (Cond.fieldLink RX2 43 "BlueCoats$Dressing" "dressed" "I") (by decide +kernel)
  have w_3 := hts (Cond.fieldLink RX2 39 "BlueCoats$Dressing" "guests" "I") (by decide +kernel)
  have hl := lv_entry ([.ref h0]) (n := 4) (Nat.le_of_ble_eq_true rfl)
  rw [lg_entry_eq]
  generalize (lg_sl ([.ref h0]) ++ List.replicate (4 - (lg_sl ([.ref h0])).length) Slot.unset).toArray = ls at hl ⊢
  have hl : lv_has ls 4 [(0, .ref h0)] := hl
  generalize hQ : MQ below _ _ s _ _ _ = Q0
  refine lv_aload_n hx hb dX2_chooseDressed_0 rfl (lv_at hl 0 rfl) ?_
  refine lv_iconst (v := 0) hx hb dX2_chooseDressed_1 (by decide) ?_
  refine va_put (D := D) (ci := 2) (v := .int 0) (ty := .int) (C := RX2) (T := TX2) (N := 6) hx hb hts w_1 tyX2 tyX2_ok nmX2 hown hK hP hD hS 0 rfl rfl 5 (by decide) w_2 (fun _ h9 => h9) rfl (by decide +kernel) rfl rfl (Nat.le_of_ble_eq_true rfl) dX2_chooseDressed_2 (fun H locs hP hD hS => ?_)
  have hP : va_P D vwCl [(h0, .inr (2, [.ref p0, .ref p1, .int (nI e9), .ref p3, .ref p4, .int 0])), (p3, .inl (cI, 8, .inl f3)), (p4, .inl (cJ, 256, .inr (.inl f4)))] H := hP
  have hD : va_D A [(h0, .inr (2, [.ref p0, .ref p1, .int (nI e9), .ref p3, .ref p4, .int 0])), (p3, .inl (cI, 8, .inl f3)), (p4, .inl (cJ, 256, .inr (.inl f4)))] := hD
  refine lv_iconst (v := 0) hx hb dX2_chooseDressed_5 (by decide) ?_
  refine lv_istore_n (lv' := [(1, .int 0), (0, .ref h0)]) hx hb dX2_chooseDressed_6 rfl hl (by decide) rfl (fun ls hl => ?_)
  refine lv_iconst (v := 0) hx hb dX2_chooseDressed_7 (by decide) ?_
  refine lv_istore_n (lv' := [(2, .int 0), (1, .int 0), (0, .ref h0)]) hx hb dX2_chooseDressed_8 rfl hl (by decide) rfl (fun ls hl => ?_)
  have L_1 : ∀ (n : Nat) (i_9 : Nat) (n_h0_5_9 : Nat) (b_1_9 : Nat) (H : Heap) (locs : List Loc) (ls : Array Slot), e9 - i_9 < n → (i_9 ≤ e9) → (turI en n9 (fun j => (f3 j).toInt) e9 b_1_9 n_h0_5_9 i_9) → va_P D vwCl [(h0, .inr (2, [.ref p0, .ref p1, .int (nI e9), .ref p3, .ref p4, .int (nI n_h0_5_9)])), (p3, .inl (cI, 8, .inl f3)), (p4, .inl (cJ, 256, .inr (.inl f4)))] H → va_D A [(h0, .inr (2, [.ref p0, .ref p1, .int (nI e9), .ref p3, .ref p4, .int (nI n_h0_5_9)])), (p3, .inl (cI, 8, .inl f3)), (p4, .inl (cJ, 256, .inr (.inl f4)))] → va_S A s.heap H locs → lv_has ls 4 [(0, .ref h0), (1, .int (nI b_1_9)), (2, .int (nI i_9))] → W p l e (headSpec wsX2_chooseDressed ({ frames := 2, cells := 0, slots := 0, locals := 43 } : Room)).room s m ([.ref h0] : List Value).toArray below meth c H locs 0 0 Q0 (F0 m 9 ls []) := by
    intro n
    induction n with
    | zero => intro i_9 n_h0_5_9 b_1_9 H locs ls hn_9 hle_9 ht_9 hP hD hS hl; exact absurd hn_9 (Nat.not_lt_zero _)
    | succ n ih_L_1 =>
      intro i_9 n_h0_5_9 b_1_9 H locs ls hn_9 hle_9 ht_9 hP hD hS hl
      refine lv_iload_n hx hb dX2_chooseDressed_9 rfl (lv_at hl 2 rfl) ?_
      refine lv_aload_n hx hb dX2_chooseDressed_10 rfl (lv_at hl 0 rfl) ?_
      refine va_get (D := D) (ci := 2) (v := .int (nI e9)) (C := RX2) (T := TX2) (N := 6) hx hb hts w_1 hown hK hP 0 rfl rfl 2 (by decide) w_3 (fun _ h9 => h9) rfl dX2_chooseDressed_11 ?_
      refine lv_icmp_ge (tgt := 62) hx hb dX2_chooseDressed_14 (by decide) (fun c_14 => ?_) (fun c_14 => ?_)
      ·
        rw [← hQ]
        have hP9 := hP.sub (ws' := [(h0, .inr (2, [.ref p0, .ref p1, .int (nI e9), .ref p3, .ref p4, .int (nI n_h0_5_9)])), (p3, .inl (cI, 8, .inl f3)), (p4, .inl (cJ, 256, .inr (.inl f4)))]) [0, 1, 2] rfl
        have hD9 := hD.sub (ws' := [(h0, .inr (2, [.ref p0, .ref p1, .int (nI e9), .ref p3, .ref p4, .int (nI n_h0_5_9)])), (p3, .inl (cI, 8, .inl f3)), (p4, .inl (cJ, 256, .inr (.inl f4)))]) [0, 1, 2] (by decide) rfl
        exact W.vret hx hb hr (fun t ht hW => ⟨⟨n_h0_5_9, rfl, tu_e (by have h := ht_9; rw [(Nat.le_antisymm hle_9 (ge3 (by omega) hle_9 c_14))] at h; exact h) (by omega), by rw [ht]; exact hP9, va_K.moved hW.alike hK, hD9⟩, hS.F ht⟩) hS.2.2 dX2_chooseDressed_62
      ·
        have hb_9 : i_9 < e9 := lt3 (by omega) hle_9 c_14
        refine lv_aload_n hx hb dX2_chooseDressed_17 rfl (lv_at hl 0 rfl) ?_
        refine lv_iload_n hx hb dX2_chooseDressed_18 rfl (lv_at hl 1 rfl) ?_
        refine vp_callSi (va_Run.run (va_runV (As := [.int (nI b_1_9)]) (rest := []) ⟨hx, hb, hml, hown, hts⟩ (f_X2_great l D cB cI cJ cZ h0 p0 p1 p3 p4 e9 (nI n_h0_5_9) f3 b_1_9 he hs0) (cwV 1 hts gX2_chooseDressed_X2_greatestBut rfl rfl rfl (by decide +kernel) ⟨Nat.le_of_ble_eq_true rfl, Nat.le_of_ble_eq_true rfl⟩) (pre_VR (hP.sub (ws' := [(h0, .inr (2, [.ref p0, .ref p1, .int (nI e9), .ref p3, .ref p4, .int (nI n_h0_5_9)])), (p3, .inl (cI, 8, .inl f3))]) [0, 1] rfl) hK 0 rfl rfl rfl) rfl rfl hl.1 rfl (lv_room (Nat.le_of_ble_eq_true rfl)) dX2_chooseDressed_19 ⟨Nat.le_of_ble_eq_true rfl, Nat.le_of_ble_eq_true rfl⟩)) (fun r_2 hw_r_2 => ?_)
        obtain ⟨b_9, z_9, e_9, hg_9⟩ := hw_r_2
        subst e_9
        refine lv_istore_n (lv' := [(3, .int (nI b_9)), (0, .ref h0), (1, .int (nI b_1_9)), (2, .int (nI i_9))]) hx hb dX2_chooseDressed_22 rfl hl (by decide) rfl (fun ls hl => ?_)
        refine lv_iload_n hx hb dX2_chooseDressed_23 rfl (lv_at hl 2 rfl) ?_
        refine lv_iconst (v := 1) hx hb dX2_chooseDressed_24 (by decide) ?_
        refine lv_iload_n hx hb dX2_chooseDressed_25 rfl (lv_at hl 0 rfl) ?_
        refine sv_ishl (v := 1 <<< (nI b_9 &&& 31)) hx hb dX2_chooseDressed_26 rfl ?_
        refine sv_ior (v := nI (b_1_9 ||| 2 ^ b_9)) hx hb dX2_chooseDressed_27 (or_bitI (by have := (tu_next ht_9 (by omega) hb_9 hg_9).1; omega)) ?_
        refine lv_istore_n (lv' := [(1, .int (nI (b_1_9 ||| 2 ^ b_9))), (3, .int (nI b_9)), (0, .ref h0), (2, .int (nI i_9))]) hx hb dX2_chooseDressed_28 rfl hl (by decide) rfl (fun ls hl => ?_)
        refine lv_aload_n hx hb dX2_chooseDressed_29 rfl (lv_at hl 2 rfl) ?_
        refine lv_aload_n hx hb dX2_chooseDressed_30 rfl (lv_at hl 2 rfl) ?_
        refine va_get (D := D) (ci := 2) (v := .int (nI n_h0_5_9)) (C := RX2) (T := TX2) (N := 6) hx hb hts w_1 hown hK hP 0 rfl rfl 5 (by decide) w_2 (fun _ h9 => h9) rfl dX2_chooseDressed_31 ?_
        refine lv_iconst (v := 1) hx hb dX2_chooseDressed_34 (by decide) ?_
        refine lv_iload_n hx hb dX2_chooseDressed_35 rfl (lv_at hl 1 rfl) ?_
        refine sv_ishl (v := 1 <<< (nI b_9 &&& 31)) hx hb dX2_chooseDressed_36 rfl ?_
        refine sv_ior (v := nI (n_h0_5_9 ||| 2 ^ b_9)) hx hb dX2_chooseDressed_37 (or_bitI (by have := (tu_next ht_9 (by omega) hb_9 hg_9).1; omega)) ?_
        refine vp_callSi (va_Run.run (va_runV (As := [.int (nI (n_h0_5_9 ||| 2 ^ b_9))]) (rest := []) ⟨hx, hb, hml, hown, hts⟩ (f_X2_can l D cB cI cJ cZ h0 p0 p1 p3 p4 e9 (nI n_h0_5_9) en n9 (n_h0_5_9 ||| 2 ^ b_9) f4 he hn9 (lt_bit (tu_lt ht_9) (tu_next ht_9 (by omega) hb_9 hg_9).1) hF9) (cwV 1 hts gX2_chooseDressed_X2_canDress rfl rfl rfl (by decide +kernel) ⟨Nat.le_of_ble_eq_true rfl, Nat.le_of_ble_eq_true rfl⟩) (pre_VR (hP.sub (ws' := [(h0, .inr (2, [.ref p0, .ref p1, .int (nI e9), .ref p3, .ref p4, .int (nI n_h0_5_9)])), (p4, .inl (cJ, 256, .inr (.inl f4)))]) [0, 2] rfl) hK 0 rfl rfl rfl) rfl rfl hl.1 rfl (lv_room (Nat.le_of_ble_eq_true rfl)) dX2_chooseDressed_38 ⟨Nat.le_of_ble_eq_true rfl, Nat.le_of_ble_eq_true rfl⟩)) (fun r_3 hw_r_3 => ?_)
        refine lv_if_eq (tgt := 56) hx hb dX2_chooseDressed_41 (by decide) (fun c_41 => ?_) (fun c_41 => ?_)
        ·
          refine lv_iinc (v := nI (i_9 + 1)) (lv' := [(2, .int (nI (i_9 + 1))), (1, .int (nI (b_1_9 ||| 2 ^ b_9))), (3, .int (nI b_9)), (0, .ref h0)]) hx hb dX2_chooseDressed_56 hl (k := 3) rfl (ax_add _ 1) (by decide) rfl (fun ls hl => ?_)
          refine lv_goto (tgt := 9) hx hb dX2_chooseDressed_59 (by decide) ?_
          exact ih_L_1 (i_9 + 1) n_h0_5_9 (b_1_9 ||| 2 ^ b_9) _ _ ls (by omega) (by omega) (tu_n ht_9 (by omega) hb_9 hg_9 (hw_r_3.eq c_41)) hP hD hS (lv_sub hl [3, 1, 0] rfl)
        ·
          refine lv_aload_n hx hb dX2_chooseDressed_44 rfl (lv_at hl 2 rfl) ?_
          refine lv_dup hx hb dX2_chooseDressed_45 rfl ?_
          refine va_get (D := D) (ci := 2) (v := .int (nI n_h0_5_9)) (C := RX2) (T := TX2) (N := 6) hx hb hts w_1 hown hK hP 0 rfl rfl 5 (by decide) w_2 (fun _ h9 => h9) rfl dX2_chooseDressed_46 ?_
          refine lv_iconst (v := 1) hx hb dX2_chooseDressed_49 (by decide) ?_
          refine lv_iload_n hx hb dX2_chooseDressed_50 rfl (lv_at hl 1 rfl) ?_
          refine sv_ishl (v := 1 <<< (nI b_9 &&& 31)) hx hb dX2_chooseDressed_51 rfl ?_
          refine sv_ior (v := nI (n_h0_5_9 ||| 2 ^ b_9)) hx hb dX2_chooseDressed_52 (or_bitI (by have := (tu_next ht_9 (by omega) hb_9 hg_9).1; omega)) ?_
          refine va_put (D := D) (ci := 2) (v := .int (nI (n_h0_5_9 ||| 2 ^ b_9))) (ty := .int) (C := RX2) (T := TX2) (N := 6) hx hb hts w_1 tyX2 tyX2_ok nmX2 hown hK hP hD hS 0 rfl rfl 5 (by decide) w_2 (fun _ h9 => h9) rfl (by decide +kernel) rfl rfl (Nat.le_of_ble_eq_true rfl) dX2_chooseDressed_53 (fun H locs hP hD hS => ?_)
          have hP : va_P D vwCl [(h0, .inr (2, [.ref p0, .ref p1, .int (nI e9), .ref p3, .ref p4, .int (nI (n_h0_5_9 ||| 2 ^ b_9))])), (p3, .inl (cI, 8, .inl f3)), (p4, .inl (cJ, 256, .inr (.inl f4)))] H := hP
          have hD : va_D A [(h0, .inr (2, [.ref p0, .ref p1, .int (nI e9), .ref p3, .ref p4, .int (nI (n_h0_5_9 ||| 2 ^ b_9))])), (p3, .inl (cI, 8, .inl f3)), (p4, .inl (cJ, 256, .inr (.inl f4)))] := hD
          refine lv_iinc (v := nI (i_9 + 1)) (lv' := [(2, .int (nI (i_9 + 1))), (1, .int (nI (b_1_9 ||| 2 ^ b_9))), (3, .int (nI b_9)), (0, .ref h0)]) hx hb dX2_chooseDressed_56 hl (k := 3) rfl (ax_add _ 1) (by decide) rfl (fun ls hl => ?_)
          refine lv_goto (tgt := 9) hx hb dX2_chooseDressed_59 (by decide) ?_
          exact ih_L_1 (i_9 + 1) (n_h0_5_9 ||| 2 ^ b_9) (b_1_9 ||| 2 ^ b_9) _ _ ls (by omega) (by omega) (tu_y ht_9 (by omega) hb_9 hg_9 (hw_r_3.ne c_41)) hP hD hS (lv_sub hl [3, 1, 0] rfl)
  exact L_1 _ 0 0 0 _ _ ls (Nat.lt_succ_self _) (by first | exact Nat.zero_le _ | omega) tu_r0 hP hD hS (lv_sub hl [2, 1, 0] rfl)

set_option maxHeartbeats 4000000 in
set_option maxRecDepth 100000 in
theorem f_X2_gather (l : Launch) (D : va_G) (cB cI cJ cZ : ClassId) (sz : Nat) (h0 p0 p1 p3 p4 e9 : Nat) (b5 : Int32) (ch c0 c1 c2 c3 c4 c5 a : Nat) (f0 f3 g2 g4 : Nat → Int32) (ha : a ≤ 16) (hc8 : cntP g4 a ≤ 8) : Met l yX2_gather wsX2_gather ({ frames := 0, cells := 0, slots := 0, locals := 0 } : Room) (cPre D (aTy cB cI cJ cZ) [(h0, .inr (2, [.ref p0, .ref p1, .int (nI e9), .ref p3, .ref p4, .int b5])), (p0, .inl (cI, 8, .inl f0)), (p3, .inl (cI, 8, .inl f3)), (ch, .inr (1, [.ref c0, .ref c1, .ref c2, .ref c3, .ref c4, .ref c5, .int (nI a)])), (c2, .inl (cI, 16, .inl g2)), (c4, .inl (cI, 16, .inl g4))] sz [.ref h0, .ref ch]) (va_Qv (fun (u : Nat × (Nat → Int32) × (Nat → Int32)) => u.1 ≤ 8 ∧ gaI g4 g2 u.2.1 u.2.2 u.1 a) (cB_ D (aTy cB cI cJ cZ) (va_A [(h0, .inr (2, [.ref p0, .ref p1, .int (nI e9), .ref p3, .ref p4, .int b5])), (p0, .inl (cI, 8, .inl f0)), (p3, .inl (cI, 8, .inl f3)), (ch, .inr (1, [.ref c0, .ref c1, .ref c2, .ref c3, .ref c4, .ref c5, .int (nI a)])), (c2, .inl (cI, 16, .inl g2)), (c4, .inl (cI, 16, .inl g4))] sz) (fun u => [(h0, .inr (2, [.ref p0, .ref p1, .int (nI (u.1)), .ref p3, .ref p4, .int b5])), (p0, .inl (cI, 8, .inl u.2.1)), (p3, .inl (cI, 8, .inl u.2.2)), (ch, .inr (1, [.ref c0, .ref c1, .ref c2, .ref c3, .ref c4, .ref c5, .int (nI a)])), (c2, .inl (cI, 16, .inl g2)), (c4, .inl (cI, 16, .inl g4))])) (va_A [(h0, .inr (2, [.ref p0, .ref p1, .int (nI e9), .ref p3, .ref p4, .int b5])), (p0, .inl (cI, 8, .inl f0)), (p3, .inl (cI, 8, .inl f3)), (ch, .inr (1, [.ref c0, .ref c1, .ref c2, .ref c3, .ref c4, .ref c5, .int (nI a)])), (c2, .inl (cI, 16, .inl g2)), (c4, .inl (cI, 16, .inl g4))] sz)) 0 0 (va_A [(h0, .inr (2, [.ref p0, .ref p1, .int (nI e9), .ref p3, .ref p4, .int b5])), (p0, .inl (cI, 8, .inl f0)), (p3, .inl (cI, 8, .inl f3)), (ch, .inr (1, [.ref c0, .ref c1, .ref c2, .ref c3, .ref c4, .ref c5, .int (nI a)])), (c2, .inl (cI, 16, .inl g2)), (c4, .inl (cI, 16, .inl g4))] sz) := by
  refine Met.ofW (cc := cX2_gather) (maxL := 3) (ret := none) (by decide) rfl ?_
  intro p e s m args below meth c s₁ B hml hv
  obtain ⟨rfl, hsz, hP, hK, hD0⟩ := hv
  have hx := B.exec
  have hb := B.bytes
  have hr := B.returns
  have hts := atoms_spec (ws := wsX2_gather) B.pre
  have hown : s.vm.findClass RX2 = some m.cls := findClass_of_methodNamed B.named
  have hlocks := B.notSynchronized
  subst hsz
  have hD := hD0.self (sz := s.heap.size)
  generalize hAe : va_A [(h0, .inr (2, [.ref p0, .ref p1, .int (nI e9), .ref p3, .ref p4, .int b5])), (p0, .inl (cI, 8, .inl f0)), (p3, .inl (cI, 8, .inl f3)), (ch, .inr (1, [.ref c0, .ref c1, .ref c2, .ref c3, .ref c4, .ref c5, .int (nI a)])), (c2, .inl (cI, 16, .inl g2)), (c4, .inl (cI, 16, .inl g4))] s.heap.size = A at hD ⊢
  have hA : ∀ q : Nat, s.heap.size ≤ q → A q := fun q h => by rw [← hAe]; exact Or.inr h
  have hS : va_S A s.heap s.heap [] := va_S.rf
  have hP : va_P D vwCl [(h0, .inr (2, [.ref p0, .ref p1, .int (nI e9), .ref p3, .ref p4, .int b5])), (p0, .inl (cI, 8, .inl f0)), (p3, .inl (cI, 8, .inl f3)), (ch, .inr (1, [.ref c0, .ref c1, .ref c2, .ref c3, .ref c4, .ref c5, .int (nI a)])), (c2, .inl (cI, 16, .inl g2)), (c4, .inl (cI, 16, .inl g4))] s.heap := hP
  have w_1 : ∀ w ∈ wsX20, w ∈ wsX2_gather := by decide +kernel
  have w_2 := hts (Cond.fieldLink RX2 39 "BlueCoats$Dressing" "guests" "I") (by decide +kernel)
  have w_3 : ∀ w ∈ wsX10, w ∈ wsX2_gather := by decide +kernel
  have w_4 := hts (Cond.fieldLink RX2 52 "BlueCoats$Children" "number" "I") (by decide +kernel)
  have w_5 := hts (Cond.fieldLink RX2 57 "BlueCoats$Children" "state" "[I") (by decide +kernel)
  have w_6 := hts (Cond.fieldLink RX2 11 "BlueCoats$Dressing" "guest" "[I") (by decide +kernel)
  have w_7 := hts (Cond.fieldLink RX2 18 "BlueCoats$Dressing" "size" "[I") (by decide +kernel)
  have w_8 := hts (Cond.fieldLink RX2 60 "BlueCoats$Children" "size" "[I") (by decide +kernel)
  have hl := lv_entry ([.ref h0, .ref ch]) (n := 3) (Nat.le_of_ble_eq_true rfl)
  rw [lg_entry_eq]
  generalize (lg_sl ([.ref h0, .ref ch]) ++ List.replicate (3 - (lg_sl ([.ref h0, .ref ch])).length) Slot.unset).toArray = ls at hl ⊢
  have hl : lv_has ls 3 [(0, .ref h0), (1, .ref ch)] := hl
  generalize hQ : MQ below _ _ s _ _ _ = Q0
  refine lv_aload_n hx hb dX2_gather_0 rfl (lv_at hl 0 rfl) ?_
  refine lv_iconst (v := 0) hx hb dX2_gather_1 (by decide) ?_
  refine va_put (D := D) (ci := 2) (v := .int 0) (ty := .int) (C := RX2) (T := TX2) (N := 6) hx hb hts w_1 tyX2 tyX2_ok nmX2 hown hK hP hD hS 0 rfl rfl 2 (by decide) w_2 (fun _ h9 => h9) rfl (by decide +kernel) rfl rfl (Nat.le_of_ble_eq_true rfl) dX2_gather_2 (fun H locs hP hD hS => ?_)
  have hP : va_P D vwCl [(h0, .inr (2, [.ref p0, .ref p1, .int 0, .ref p3, .ref p4, .int b5])), (p0, .inl (cI, 8, .inl f0)), (p3, .inl (cI, 8, .inl f3)), (ch, .inr (1, [.ref c0, .ref c1, .ref c2, .ref c3, .ref c4, .ref c5, .int (nI a)])), (c2, .inl (cI, 16, .inl g2)), (c4, .inl (cI, 16, .inl g4))] H := hP
  have hD : va_D A [(h0, .inr (2, [.ref p0, .ref p1, .int 0, .ref p3, .ref p4, .int b5])), (p0, .inl (cI, 8, .inl f0)), (p3, .inl (cI, 8, .inl f3)), (ch, .inr (1, [.ref c0, .ref c1, .ref c2, .ref c3, .ref c4, .ref c5, .int (nI a)])), (c2, .inl (cI, 16, .inl g2)), (c4, .inl (cI, 16, .inl g4))] := hD
  refine lv_iconst (v := 0) hx hb dX2_gather_5 (by decide) ?_
  refine lv_istore_n (lv' := [(2, .int 0), (0, .ref h0), (1, .ref ch)]) hx hb dX2_gather_6 rfl hl (by decide) rfl (fun ls hl => ?_)
  have L_1 : ∀ (n : Nat) (i_7 : Nat) (f_p0_7 : Nat → Int32) (f_p3_7 : Nat → Int32) (n_h0_2_7 : Nat) (H : Heap) (locs : List Loc) (ls : Array Slot), a - i_7 < n → (i_7 ≤ a) → (n_h0_2_7 ≤ 8) → (gaI g4 g2 f_p0_7 f_p3_7 n_h0_2_7 i_7) → va_P D vwCl [(h0, .inr (2, [.ref p0, .ref p1, .int (nI n_h0_2_7), .ref p3, .ref p4, .int b5])), (p0, .inl (cI, 8, .inl f_p0_7)), (p3, .inl (cI, 8, .inl f_p3_7)), (ch, .inr (1, [.ref c0, .ref c1, .ref c2, .ref c3, .ref c4, .ref c5, .int (nI a)])), (c2, .inl (cI, 16, .inl g2)), (c4, .inl (cI, 16, .inl g4))] H → va_D A [(h0, .inr (2, [.ref p0, .ref p1, .int (nI n_h0_2_7), .ref p3, .ref p4, .int b5])), (p0, .inl (cI, 8, .inl f_p0_7)), (p3, .inl (cI, 8, .inl f_p3_7)), (ch, .inr (1, [.ref c0, .ref c1, .ref c2, .ref c3, .ref c4, .ref c5, .int (nI a)])), (c2, .inl (cI, 16, .inl g2)), (c4, .inl (cI, 16, .inl g4))] → va_S A s.heap H locs → lv_has ls 3 [(0, .ref h0), (1, .ref ch), (2, .int (nI i_7))] → W p l e (headSpec wsX2_gather ({ frames := 0, cells := 0, slots := 0, locals := 0 } : Room)).room s m ([.ref h0, .ref ch] : List Value).toArray below meth c H locs 0 0 Q0 (F0 m 7 ls []) := by
    intro n
    induction n with
    | zero => intro i_7 f_p0_7 f_p3_7 n_h0_2_7 H locs ls hn_7 hle_7 hg_7 hG_7 hP hD hS hl; exact absurd hn_7 (Nat.not_lt_zero _)
    | succ n ih_L_1 =>
      intro i_7 f_p0_7 f_p3_7 n_h0_2_7 H locs ls hn_7 hle_7 hg_7 hG_7 hP hD hS hl
      refine lv_iload_n hx hb dX2_gather_7 rfl (lv_at hl 2 rfl) ?_
      refine lv_aload_n hx hb dX2_gather_8 rfl (lv_at hl 1 rfl) ?_
      refine va_get (D := D) (ci := 1) (v := .int (nI a)) (C := RX1) (T := TX1) (N := 7) hx hb hts w_3 hown hK hP 3 rfl rfl 6 (by decide) w_4 (fun _ h9 => h9) rfl dX2_gather_9 ?_
      refine lv_icmp_ge (tgt := 75) hx hb dX2_gather_12 (by decide) (fun c_12 => ?_) (fun c_12 => ?_)
      ·
        rw [← hQ]
        have hP9 := hP.sub (ws' := [(h0, .inr (2, [.ref p0, .ref p1, .int (nI n_h0_2_7), .ref p3, .ref p4, .int b5])), (p0, .inl (cI, 8, .inl f_p0_7)), (p3, .inl (cI, 8, .inl f_p3_7)), (ch, .inr (1, [.ref c0, .ref c1, .ref c2, .ref c3, .ref c4, .ref c5, .int (nI a)])), (c2, .inl (cI, 16, .inl g2)), (c4, .inl (cI, 16, .inl g4))]) [0, 1, 2, 3, 4, 5] rfl
        have hD9 := hD.sub (ws' := [(h0, .inr (2, [.ref p0, .ref p1, .int (nI n_h0_2_7), .ref p3, .ref p4, .int b5])), (p0, .inl (cI, 8, .inl f_p0_7)), (p3, .inl (cI, 8, .inl f_p3_7)), (ch, .inr (1, [.ref c0, .ref c1, .ref c2, .ref c3, .ref c4, .ref c5, .int (nI a)])), (c2, .inl (cI, 16, .inl g2)), (c4, .inl (cI, 16, .inl g4))]) [0, 1, 2, 3, 4, 5] (by decide) rfl
        exact W.vret hx hb hr (fun t ht hW => ⟨⟨(n_h0_2_7, f_p0_7, f_p3_7), rfl, ⟨hg_7, by have h := hG_7; rw [(Nat.le_antisymm hle_7 (ge3 (by omega) hle_7 c_12))] at h; exact h⟩, by rw [ht]; exact hP9, va_K.moved hW.alike hK, hD9⟩, hS.F ht⟩) hS.2.2 dX2_gather_75
      ·
        have hb_7 : i_7 < a := lt3 (by omega) hle_7 c_12
        refine lv_aload_n hx hb dX2_gather_15 rfl (lv_at hl 0 rfl) ?_
        refine va_get (D := D) (ci := 2) (v := .int (nI n_h0_2_7)) (C := RX2) (T := TX2) (N := 6) hx hb hts w_1 hown hK hP 0 rfl rfl 2 (by decide) w_2 (fun _ h9 => h9) rfl dX2_gather_16 ?_
        refine lv_bipush (v := 8) hx hb dX2_gather_19 (by decide) ?_
        refine lv_icmp_ge (tgt := 75) hx hb dX2_gather_21 (by decide) (fun c_21 => ?_) (fun c_21 => ?_)
        ·
          rw [← hQ]
          have hP9 := hP.sub (ws' := [(h0, .inr (2, [.ref p0, .ref p1, .int (nI n_h0_2_7), .ref p3, .ref p4, .int b5])), (p0, .inl (cI, 8, .inl f_p0_7)), (p3, .inl (cI, 8, .inl f_p3_7)), (ch, .inr (1, [.ref c0, .ref c1, .ref c2, .ref c3, .ref c4, .ref c5, .int (nI a)])), (c2, .inl (cI, 16, .inl g2)), (c4, .inl (cI, 16, .inl g4))]) [0, 1, 2, 3, 4, 5] rfl
          have hD9 := hD.sub (ws' := [(h0, .inr (2, [.ref p0, .ref p1, .int (nI n_h0_2_7), .ref p3, .ref p4, .int b5])), (p0, .inl (cI, 8, .inl f_p0_7)), (p3, .inl (cI, 8, .inl f_p3_7)), (ch, .inr (1, [.ref c0, .ref c1, .ref c2, .ref c3, .ref c4, .ref c5, .int (nI a)])), (c2, .inl (cI, 16, .inl g2)), (c4, .inl (cI, 16, .inl g4))]) [0, 1, 2, 3, 4, 5] (by decide) rfl
          exact W.vret hx hb hr (fun t ht hW => ⟨⟨(n_h0_2_7, f_p0_7, f_p3_7), rfl, ⟨hg_7, ga_8 hG_7 hle_7 hc8 ((nI_leI (by decide) (by omega)).mp c_21)⟩, by rw [ht]; exact hP9, va_K.moved hW.alike hK, hD9⟩, hS.F ht⟩) hS.2.2 dX2_gather_75
        ·
          have h21 : n_h0_2_7 < 8 := nI_ltg 8 (by omega) (by decide) c_21
          refine lv_aload_n hx hb dX2_gather_24 rfl (lv_at hl 1 rfl) ?_
          refine va_get (D := D) (ci := 1) (v := .ref c4) (C := RX1) (T := TX1) (N := 7) hx hb hts w_3 hown hK hP 3 rfl rfl 4 (by decide) w_5 (fun _ h9 => h9) rfl dX2_gather_25 ?_
          refine lv_iload_n hx hb dX2_gather_28 rfl (lv_at hl 2 rfl) ?_
          refine sv_iald (v := g4 i_7) hx hb hK hP 5 1 rfl rfl (vp_in_nI (by omega) (by decide)) (congrArg _ (nI_clamp (by omega))) dX2_gather_29 ?_
          refine lv_iconst (v := 1) hx hb dX2_gather_30 (by decide) ?_
          refine lv_icmp_ne (tgt := 69) hx hb dX2_gather_31 (by decide) (fun c_31 => ?_) (fun c_31 => ?_)
          ·
            refine lv_iinc (v := nI (i_7 + 1)) (lv' := [(2, .int (nI (i_7 + 1))), (0, .ref h0), (1, .ref ch)]) hx hb dX2_gather_69 hl (k := 2) rfl (ax_add _ 1) (by decide) rfl (fun ls hl => ?_)
            refine lv_goto (tgt := 7) hx hb dX2_gather_72 (by decide) ?_
            exact ih_L_1 (i_7 + 1) f_p0_7 f_p3_7 n_h0_2_7 _ _ ls (by omega) (by omega) hg_7 (ga_n hG_7 c_31) hP hD hS (lv_sub hl [1, 2, 0] rfl)
          ·
            refine lv_aload_n hx hb dX2_gather_34 rfl (lv_at hl 0 rfl) ?_
            refine va_get (D := D) (ci := 2) (v := .ref p0) (C := RX2) (T := TX2) (N := 6) hx hb hts w_1 hown hK hP 0 rfl rfl 0 (by decide) w_6 (fun _ h9 => h9) rfl dX2_gather_35 ?_
            refine lv_aload_n hx hb dX2_gather_38 rfl (lv_at hl 0 rfl) ?_
            refine va_get (D := D) (ci := 2) (v := .int (nI n_h0_2_7)) (C := RX2) (T := TX2) (N := 6) hx hb hts w_1 hown hK hP 0 rfl rfl 2 (by decide) w_2 (fun _ h9 => h9) rfl dX2_gather_39 ?_
            refine lv_iload_n hx hb dX2_gather_42 rfl (lv_at hl 2 rfl) ?_
            refine sv_iast hx hb hK hP hD hS 1 1 rfl rfl (vp_in_nI h21 (by decide)) dX2_gather_43 (fun g_2 H locs eg_2 hP hD hS => ?_)
            have eg_2 : g_2 = upd f_p0_7 n_h0_2_7 (nI i_7) := by rw [eg_2, nI_clamp (by omega)]
            subst eg_2
            have hP : va_P D vwCl [(h0, .inr (2, [.ref p0, .ref p1, .int (nI n_h0_2_7), .ref p3, .ref p4, .int b5])), (p0, .inl (cI, 8, .inl (upd f_p0_7 n_h0_2_7 (nI i_7)))), (p3, .inl (cI, 8, .inl f_p3_7)), (ch, .inr (1, [.ref c0, .ref c1, .ref c2, .ref c3, .ref c4, .ref c5, .int (nI a)])), (c2, .inl (cI, 16, .inl g2)), (c4, .inl (cI, 16, .inl g4))] H := hP
            have hD : va_D A [(h0, .inr (2, [.ref p0, .ref p1, .int (nI n_h0_2_7), .ref p3, .ref p4, .int b5])), (p0, .inl (cI, 8, .inl (upd f_p0_7 n_h0_2_7 (nI i_7)))), (p3, .inl (cI, 8, .inl f_p3_7)), (ch, .inr (1, [.ref c0, .ref c1, .ref c2, .ref c3, .ref c4, .ref c5, .int (nI a)])), (c2, .inl (cI, 16, .inl g2)), (c4, .inl (cI, 16, .inl g4))] := hD
            refine lv_aload_n hx hb dX2_gather_44 rfl (lv_at hl 0 rfl) ?_
            refine va_get (D := D) (ci := 2) (v := .ref p3) (C := RX2) (T := TX2) (N := 6) hx hb hts w_1 hown hK hP 0 rfl rfl 3 (by decide) w_7 (fun _ h9 => h9) rfl dX2_gather_45 ?_
            refine lv_aload_n hx hb dX2_gather_48 rfl (lv_at hl 0 rfl) ?_
            refine va_get (D := D) (ci := 2) (v := .int (nI n_h0_2_7)) (C := RX2) (T := TX2) (N := 6) hx hb hts w_1 hown hK hP 0 rfl rfl 2 (by decide) w_2 (fun _ h9 => h9) rfl dX2_gather_49 ?_
            refine lv_aload_n hx hb dX2_gather_52 rfl (lv_at hl 1 rfl) ?_
            refine va_get (D := D) (ci := 1) (v := .ref c2) (C := RX1) (T := TX1) (N := 7) hx hb hts w_3 hown hK hP 3 rfl rfl 2 (by decide) w_8 (fun _ h9 => h9) rfl dX2_gather_53 ?_
            refine lv_iload_n hx hb dX2_gather_56 rfl (lv_at hl 2 rfl) ?_
            refine sv_iald (v := g2 i_7) hx hb hK hP 4 1 rfl rfl (vp_in_nI (by omega) (by decide)) (congrArg _ (nI_clamp (by omega))) dX2_gather_57 ?_
            refine sv_iast hx hb hK hP hD hS 2 1 rfl rfl (vp_in_nI h21 (by decide)) dX2_gather_58 (fun g_3 H locs eg_3 hP hD hS => ?_)
            have eg_3 : g_3 = upd f_p3_7 n_h0_2_7 (g2 i_7) := by rw [eg_3, nI_clamp (by omega)]
            subst eg_3
            have hP : va_P D vwCl [(h0, .inr (2, [.ref p0, .ref p1, .int (nI n_h0_2_7), .ref p3, .ref p4, .int b5])), (p0, .inl (cI, 8, .inl (upd f_p0_7 n_h0_2_7 (nI i_7)))), (p3, .inl (cI, 8, .inl (upd f_p3_7 n_h0_2_7 (g2 i_7)))), (ch, .inr (1, [.ref c0, .ref c1, .ref c2, .ref c3, .ref c4, .ref c5, .int (nI a)])), (c2, .inl (cI, 16, .inl g2)), (c4, .inl (cI, 16, .inl g4))] H := hP
            have hD : va_D A [(h0, .inr (2, [.ref p0, .ref p1, .int (nI n_h0_2_7), .ref p3, .ref p4, .int b5])), (p0, .inl (cI, 8, .inl (upd f_p0_7 n_h0_2_7 (nI i_7)))), (p3, .inl (cI, 8, .inl (upd f_p3_7 n_h0_2_7 (g2 i_7)))), (ch, .inr (1, [.ref c0, .ref c1, .ref c2, .ref c3, .ref c4, .ref c5, .int (nI a)])), (c2, .inl (cI, 16, .inl g2)), (c4, .inl (cI, 16, .inl g4))] := hD
            refine lv_aload_n hx hb dX2_gather_59 rfl (lv_at hl 0 rfl) ?_
            refine lv_dup hx hb dX2_gather_60 rfl ?_
            refine va_get (D := D) (ci := 2) (v := .int (nI n_h0_2_7)) (C := RX2) (T := TX2) (N := 6) hx hb hts w_1 hown hK hP 0 rfl rfl 2 (by decide) w_2 (fun _ h9 => h9) rfl dX2_gather_61 ?_
            refine lv_iconst (v := 1) hx hb dX2_gather_64 (by decide) ?_
            refine sv_iadd (v := nI (n_h0_2_7 + 1)) hx hb dX2_gather_65 (ax_add _ 1) ?_
            refine va_put (D := D) (ci := 2) (v := .int (nI (n_h0_2_7 + 1))) (ty := .int) (C := RX2) (T := TX2) (N := 6) hx hb hts w_1 tyX2 tyX2_ok nmX2 hown hK hP hD hS 0 rfl rfl 2 (by decide) w_2 (fun _ h9 => h9) rfl (by decide +kernel) rfl rfl (Nat.le_of_ble_eq_true rfl) dX2_gather_66 (fun H locs hP hD hS => ?_)
            have hP : va_P D vwCl [(h0, .inr (2, [.ref p0, .ref p1, .int (nI (n_h0_2_7 + 1)), .ref p3, .ref p4, .int b5])), (p0, .inl (cI, 8, .inl (upd f_p0_7 n_h0_2_7 (nI i_7)))), (p3, .inl (cI, 8, .inl (upd f_p3_7 n_h0_2_7 (g2 i_7)))), (ch, .inr (1, [.ref c0, .ref c1, .ref c2, .ref c3, .ref c4, .ref c5, .int (nI a)])), (c2, .inl (cI, 16, .inl g2)), (c4, .inl (cI, 16, .inl g4))] H := hP
            have hD : va_D A [(h0, .inr (2, [.ref p0, .ref p1, .int (nI (n_h0_2_7 + 1)), .ref p3, .ref p4, .int b5])), (p0, .inl (cI, 8, .inl (upd f_p0_7 n_h0_2_7 (nI i_7)))), (p3, .inl (cI, 8, .inl (upd f_p3_7 n_h0_2_7 (g2 i_7)))), (ch, .inr (1, [.ref c0, .ref c1, .ref c2, .ref c3, .ref c4, .ref c5, .int (nI a)])), (c2, .inl (cI, 16, .inl g2)), (c4, .inl (cI, 16, .inl g4))] := hD
            refine lv_iinc (v := nI (i_7 + 1)) (lv' := [(2, .int (nI (i_7 + 1))), (0, .ref h0), (1, .ref ch)]) hx hb dX2_gather_69 hl (k := 2) rfl (ax_add _ 1) (by decide) rfl (fun ls hl => ?_)
            refine lv_goto (tgt := 7) hx hb dX2_gather_72 (by decide) ?_
            exact ih_L_1 (i_7 + 1) (upd f_p0_7 n_h0_2_7 (nI i_7)) (upd f_p3_7 n_h0_2_7 (g2 i_7)) (n_h0_2_7 + 1) _ _ ls (by omega) (by omega) h21 (ga_y hG_7 c_31) hP hD hS (lv_sub hl [1, 2, 0] rfl)
  exact L_1 _ 0 f0 f3 0 _ _ ls (Nat.lt_succ_self _) (by first | exact Nat.zero_le _ | omega) (by decide) ga_0 hP hD hS (lv_sub hl [1, 2, 0] rfl)

set_option maxHeartbeats 4000000 in
set_option maxRecDepth 100000 in
theorem f_X2_measure (l : Launch) (D : va_G) (cB cI cJ cZ : ClassId) (sz : Nat) (h0 p0 p1 p3 p4 e9 : Nat) (b5 : Int32) (wd w0 w1 w2 w3 a : Nat) (g0 g2 : Nat → Int32) (en : Nat → Nat) (sp : Int32) (f3 : Nat → Int32) (f4 : Nat → Int64) (he : e9 ≤ 8) (ha : a ≤ 40) (hz : ∀ k, g2 k = 0 ∨ g2 k = 1) (he9 : en = enG g0 g2 f3 sp e9) : Met l yX2_measure wsX2_measure ({ frames := 1, cells := 0, slots := 0, locals := 25 } : Room) (cPre D (aTy cB cI cJ cZ) [(h0, .inr (2, [.ref p0, .ref p1, .int (nI e9), .ref p3, .ref p4, .int b5])), (p3, .inl (cI, 8, .inl f3)), (p4, .inl (cJ, 256, .inr (.inl f4))), (wd, .inr (6, [.ref w0, .ref w1, .ref w2, .ref w3, .int (nI a)])), (w0, .inl (cI, 40, .inl g0)), (w2, .inl (cZ, 40, .inl g2))] sz [.ref h0, .ref wd, .int sp]) (va_Qv (fun (u : (Nat → Int64)) => fitT u en a (2 ^ e9)) (cB_ D (aTy cB cI cJ cZ) (va_A [(h0, .inr (2, [.ref p0, .ref p1, .int (nI e9), .ref p3, .ref p4, .int b5])), (p3, .inl (cI, 8, .inl f3)), (p4, .inl (cJ, 256, .inr (.inl f4))), (wd, .inr (6, [.ref w0, .ref w1, .ref w2, .ref w3, .int (nI a)])), (w0, .inl (cI, 40, .inl g0)), (w2, .inl (cZ, 40, .inl g2))] sz) (fun u => [(h0, .inr (2, [.ref p0, .ref p1, .int (nI e9), .ref p3, .ref p4, .int b5])), (p3, .inl (cI, 8, .inl f3)), (p4, .inl (cJ, 256, .inr (.inl u))), (wd, .inr (6, [.ref w0, .ref w1, .ref w2, .ref w3, .int (nI a)])), (w0, .inl (cI, 40, .inl g0)), (w2, .inl (cZ, 40, .inl g2))])) (va_A [(h0, .inr (2, [.ref p0, .ref p1, .int (nI e9), .ref p3, .ref p4, .int b5])), (p3, .inl (cI, 8, .inl f3)), (p4, .inl (cJ, 256, .inr (.inl f4))), (wd, .inr (6, [.ref w0, .ref w1, .ref w2, .ref w3, .int (nI a)])), (w0, .inl (cI, 40, .inl g0)), (w2, .inl (cZ, 40, .inl g2))] sz)) 0 0 (va_A [(h0, .inr (2, [.ref p0, .ref p1, .int (nI e9), .ref p3, .ref p4, .int b5])), (p3, .inl (cI, 8, .inl f3)), (p4, .inl (cJ, 256, .inr (.inl f4))), (wd, .inr (6, [.ref w0, .ref w1, .ref w2, .ref w3, .int (nI a)])), (w0, .inl (cI, 40, .inl g0)), (w2, .inl (cZ, 40, .inl g2))] sz) := by
  refine Met.ofW (cc := cX2_measure) (maxL := 7) (ret := none) (by decide) rfl ?_
  intro p e s m args below meth c s₁ B hml hv
  obtain ⟨rfl, hsz, hP, hK, hD0⟩ := hv
  have hx := B.exec
  have hb := B.bytes
  have hr := B.returns
  have hts := atoms_spec (ws := wsX2_measure) B.pre
  have hown : s.vm.findClass RX2 = some m.cls := findClass_of_methodNamed B.named
  have hlocks := B.notSynchronized
  subst hsz
  have hD := hD0.self (sz := s.heap.size)
  generalize hAe : va_A [(h0, .inr (2, [.ref p0, .ref p1, .int (nI e9), .ref p3, .ref p4, .int b5])), (p3, .inl (cI, 8, .inl f3)), (p4, .inl (cJ, 256, .inr (.inl f4))), (wd, .inr (6, [.ref w0, .ref w1, .ref w2, .ref w3, .int (nI a)])), (w0, .inl (cI, 40, .inl g0)), (w2, .inl (cZ, 40, .inl g2))] s.heap.size = A at hD ⊢
  have hA : ∀ q : Nat, s.heap.size ≤ q → A q := fun q h => by rw [← hAe]; exact Or.inr h
  have hS : va_S A s.heap s.heap [] := va_S.rf
  have hP : va_P D vwCl [(h0, .inr (2, [.ref p0, .ref p1, .int (nI e9), .ref p3, .ref p4, .int b5])), (p3, .inl (cI, 8, .inl f3)), (p4, .inl (cJ, 256, .inr (.inl f4))), (wd, .inr (6, [.ref w0, .ref w1, .ref w2, .ref w3, .int (nI a)])), (w0, .inl (cI, 40, .inl g0)), (w2, .inl (cZ, 40, .inl g2))] s.heap := hP
  have w_1 : ∀ w ∈ wsX20, w ∈ wsX2_measure := by decide +kernel
  have w_2 := hts (Cond.fieldLink RX2 21 "BlueCoats$Dressing" "fitting" "[J") (by decide +kernel)
  have w_3 := hts (Cond.fieldLink RX2 39 "BlueCoats$Dressing" "guests" "I") (by decide +kernel)
  have w_4 := hts (Cond.fieldLink RX2 18 "BlueCoats$Dressing" "size" "[I") (by decide +kernel)
  have hl := lv_entry ([.ref h0, .ref wd, .int sp]) (n := 7) (Nat.le_of_ble_eq_true rfl)
  rw [lg_entry_eq]
  generalize (lg_sl ([.ref h0, .ref wd, .int sp]) ++ List.replicate (7 - (lg_sl ([.ref h0, .ref wd, .int sp])).length) Slot.unset).toArray = ls at hl ⊢
  have hl : lv_has ls 7 [(0, .ref h0), (1, .ref wd), (2, .int sp)] := hl
  generalize hQ : MQ below _ _ s _ _ _ = Q0
  refine lv_aload_n hx hb dX2_measure_0 rfl (lv_at hl 0 rfl) ?_
  refine va_get (D := D) (ci := 2) (v := .ref p4) (C := RX2) (T := TX2) (N := 6) hx hb hts w_1 hown hK hP 0 rfl rfl 4 (by decide) w_2 (fun _ h9 => h9) rfl dX2_measure_1 ?_
  refine lv_iconst (v := 0) hx hb dX2_measure_4 (by decide) ?_
  refine lv_lconst (v := 0) hx hb dX2_measure_5 (by decide) ?_
  refine sv_last hx hb hK hP hD hS 2 2 rfl rfl (vp_in_iff.mpr (by decide)) dX2_measure_6 (fun g_1 H locs eg_1 hP hD hS => ?_)
  have eg_1 : g_1 = vp_updL f4 0 0 := eg_1
  subst eg_1
  have hP : va_P D vwCl [(h0, .inr (2, [.ref p0, .ref p1, .int (nI e9), .ref p3, .ref p4, .int b5])), (p3, .inl (cI, 8, .inl f3)), (p4, .inl (cJ, 256, .inr (.inl (vp_updL f4 0 0)))), (wd, .inr (6, [.ref w0, .ref w1, .ref w2, .ref w3, .int (nI a)])), (w0, .inl (cI, 40, .inl g0)), (w2, .inl (cZ, 40, .inl g2))] H := hP
  have hD : va_D A [(h0, .inr (2, [.ref p0, .ref p1, .int (nI e9), .ref p3, .ref p4, .int b5])), (p3, .inl (cI, 8, .inl f3)), (p4, .inl (cJ, 256, .inr (.inl (vp_updL f4 0 0)))), (wd, .inr (6, [.ref w0, .ref w1, .ref w2, .ref w3, .int (nI a)])), (w0, .inl (cI, 40, .inl g0)), (w2, .inl (cZ, 40, .inl g2))] := hD
  refine lv_iconst (v := 0) hx hb dX2_measure_7 (by decide) ?_
  refine lv_istore_n (lv' := [(3, .int 0), (0, .ref h0), (1, .ref wd), (2, .int sp)]) hx hb dX2_measure_8 rfl hl (by decide) rfl (fun ls hl => ?_)
  have L_2 : ∀ (n : Nat) (i_9 : Nat) (f_p4_9 : Nat → Int64) (H : Heap) (locs : List Loc) (ls : Array Slot), e9 - i_9 < n → (i_9 ≤ e9) → (fitT f_p4_9 en a (2 ^ i_9)) → va_P D vwCl [(h0, .inr (2, [.ref p0, .ref p1, .int (nI e9), .ref p3, .ref p4, .int b5])), (p3, .inl (cI, 8, .inl f3)), (p4, .inl (cJ, 256, .inr (.inl f_p4_9))), (wd, .inr (6, [.ref w0, .ref w1, .ref w2, .ref w3, .int (nI a)])), (w0, .inl (cI, 40, .inl g0)), (w2, .inl (cZ, 40, .inl g2))] H → va_D A [(h0, .inr (2, [.ref p0, .ref p1, .int (nI e9), .ref p3, .ref p4, .int b5])), (p3, .inl (cI, 8, .inl f3)), (p4, .inl (cJ, 256, .inr (.inl f_p4_9))), (wd, .inr (6, [.ref w0, .ref w1, .ref w2, .ref w3, .int (nI a)])), (w0, .inl (cI, 40, .inl g0)), (w2, .inl (cZ, 40, .inl g2))] → va_S A s.heap H locs → lv_has ls 7 [(0, .ref h0), (1, .ref wd), (2, .int sp), (3, .int (nI i_9))] → W p l e (headSpec wsX2_measure ({ frames := 1, cells := 0, slots := 0, locals := 25 } : Room)).room s m ([.ref h0, .ref wd, .int sp] : List Value).toArray below meth c H locs 0 0 Q0 (F0 m 9 ls []) := by
    intro n
    induction n with
    | zero => intro i_9 f_p4_9 H locs ls hn_9 hle_9 hm_9 hP hD hS hl; exact absurd hn_9 (Nat.not_lt_zero _)
    | succ n ih_L_2 =>
      intro i_9 f_p4_9 H locs ls hn_9 hle_9 hm_9 hP hD hS hl
      refine lv_iload_n hx hb dX2_measure_9 rfl (lv_at hl 3 rfl) ?_
      refine lv_aload_n hx hb dX2_measure_10 rfl (lv_at hl 0 rfl) ?_
      refine va_get (D := D) (ci := 2) (v := .int (nI e9)) (C := RX2) (T := TX2) (N := 6) hx hb hts w_1 hown hK hP 0 rfl rfl 2 (by decide) w_3 (fun _ h9 => h9) rfl dX2_measure_11 ?_
      refine lv_icmp_ge (tgt := 74) hx hb dX2_measure_14 (by decide) (fun c_14 => ?_) (fun c_14 => ?_)
      ·
        rw [← hQ]
        have hP9 := hP.sub (ws' := [(h0, .inr (2, [.ref p0, .ref p1, .int (nI e9), .ref p3, .ref p4, .int b5])), (p3, .inl (cI, 8, .inl f3)), (p4, .inl (cJ, 256, .inr (.inl f_p4_9))), (wd, .inr (6, [.ref w0, .ref w1, .ref w2, .ref w3, .int (nI a)])), (w0, .inl (cI, 40, .inl g0)), (w2, .inl (cZ, 40, .inl g2))]) [0, 1, 2, 3, 4, 5] rfl
        have hD9 := hD.sub (ws' := [(h0, .inr (2, [.ref p0, .ref p1, .int (nI e9), .ref p3, .ref p4, .int b5])), (p3, .inl (cI, 8, .inl f3)), (p4, .inl (cJ, 256, .inr (.inl f_p4_9))), (wd, .inr (6, [.ref w0, .ref w1, .ref w2, .ref w3, .int (nI a)])), (w0, .inl (cI, 40, .inl g0)), (w2, .inl (cZ, 40, .inl g2))]) [0, 1, 2, 3, 4, 5] (by decide) rfl
        exact W.vret hx hb hr (fun t ht hW => ⟨⟨f_p4_9, rfl, by have h := hm_9; rw [(Nat.le_antisymm hle_9 (ge3 (by omega) hle_9 c_14))] at h; exact h, by rw [ht]; exact hP9, va_K.moved hW.alike hK, hD9⟩, hS.F ht⟩) hS.2.2 dX2_measure_74
      ·
        have hb_9 : i_9 < e9 := lt3 (by omega) hle_9 c_14
        have h9 := pow8 (show i_9 ≤ 8 by omega)
        refine lv_aload_n hx hb dX2_measure_17 rfl (lv_at hl 1 rfl) ?_
        refine lv_aload_n hx hb dX2_measure_18 rfl (lv_at hl 0 rfl) ?_
        refine va_get (D := D) (ci := 2) (v := .ref p3) (C := RX2) (T := TX2) (N := 6) hx hb hts w_1 hown hK hP 0 rfl rfl 3 (by decide) w_4 (fun _ h9 => h9) rfl dX2_measure_19 ?_
        refine lv_iload_n hx hb dX2_measure_22 rfl (lv_at hl 3 rfl) ?_
        refine sv_iald (v := f3 i_9) hx hb hK hP 1 1 rfl rfl (vp_in_nI (by omega) (by decide)) (congrArg _ (nI_clamp (by omega))) dX2_measure_23 ?_
        refine lv_iload_n hx hb dX2_measure_24 rfl (lv_at hl 2 rfl) ?_
        refine vp_callSl (va_Run.run (va_runV (As := [.int (f3 i_9), .int sp]) (rest := []) ⟨hx, hb, hml, hown, hts⟩ (f_X6_fit l D cB cI cJ cZ wd w0 w1 w2 w3 a g0 (fun _ => 0) g2 (fun _ => 0) (f3 i_9) sp (by omega) hz) (cwV 2 hts gX2_measure_X6_fitting rfl rfl rfl (by decide +kernel) ⟨Nat.le_of_ble_eq_true rfl, Nat.le_of_ble_eq_true rfl⟩) (pre_VR (hP.sub (ws' := [(wd, .inr (6, [.ref w0, .ref w1, .ref w2, .ref w3, .int (nI a)])), (w0, .inl (cI, 40, .inl g0)), (w2, .inl (cZ, 40, .inl g2))]) [3, 4, 5] rfl) hK 0 rfl rfl rfl) rfl rfl hl.1 rfl (lv_room (Nat.le_of_ble_eq_true rfl)) dX2_measure_25 ⟨Nat.le_of_ble_eq_true rfl, Nat.le_of_ble_eq_true rfl⟩)) (fun r_3 hw_r_3 => ?_)
        refine lv_lstore (lv' := [(4, .long r_3), (0, .ref h0), (1, .ref wd), (2, .int sp), (3, .int (nI i_9))]) hx hb dX2_measure_28 hl (by decide) rfl (fun ls hl => ?_)
        refine lv_iconst (v := 0) hx hb dX2_measure_30 (by decide) ?_
        refine lv_istore (lv' := [(6, .int 0), (4, .long r_3), (0, .ref h0), (1, .ref wd), (2, .int sp), (3, .int (nI i_9))]) hx hb dX2_measure_31 hl (by decide) rfl (fun ls hl => ?_)
        have L_4 : ∀ (n : Nat) (i_33 : Nat) (f_p4_33 : Nat → Int64) (H : Heap) (locs : List Loc) (ls : Array Slot), (2 ^ i_9) - i_33 < n → (i_33 ≤ 2 ^ i_9) → (fmI f_p4_33 en a i_9 i_33) → va_P D vwCl [(h0, .inr (2, [.ref p0, .ref p1, .int (nI e9), .ref p3, .ref p4, .int b5])), (p3, .inl (cI, 8, .inl f3)), (p4, .inl (cJ, 256, .inr (.inl f_p4_33))), (wd, .inr (6, [.ref w0, .ref w1, .ref w2, .ref w3, .int (nI a)])), (w0, .inl (cI, 40, .inl g0)), (w2, .inl (cZ, 40, .inl g2))] H → va_D A [(h0, .inr (2, [.ref p0, .ref p1, .int (nI e9), .ref p3, .ref p4, .int b5])), (p3, .inl (cI, 8, .inl f3)), (p4, .inl (cJ, 256, .inr (.inl f_p4_33))), (wd, .inr (6, [.ref w0, .ref w1, .ref w2, .ref w3, .int (nI a)])), (w0, .inl (cI, 40, .inl g0)), (w2, .inl (cZ, 40, .inl g2))] → va_S A s.heap H locs → lv_has ls 7 [(0, .ref h0), (1, .ref wd), (2, .int sp), (3, .int (nI i_9)), (4, .long r_3), (6, .int (nI i_33))] → W p l e (headSpec wsX2_measure ({ frames := 1, cells := 0, slots := 0, locals := 25 } : Room)).room s m ([.ref h0, .ref wd, .int sp] : List Value).toArray below meth c H locs 0 0 Q0 (F0 m 33 ls []) := by
          intro n
          induction n with
          | zero => intro i_33 f_p4_33 H locs ls hn_33 hle_33 hi_33 hP hD hS hl; exact absurd hn_33 (Nat.not_lt_zero _)
          | succ n ih_L_4 =>
            intro i_33 f_p4_33 H locs ls hn_33 hle_33 hi_33 hP hD hS hl
            refine lv_iload hx hb dX2_measure_33 (lv_at hl 5 rfl) ?_
            refine lv_iconst (v := 1) hx hb dX2_measure_35 (by decide) ?_
            refine lv_iload_n hx hb dX2_measure_36 rfl (lv_at hl 3 rfl) ?_
            refine sv_ishl (v := nI (2 ^ i_9)) hx hb dX2_measure_37 (sh_8 (by omega)) ?_
            refine lv_icmp_ge (tgt := 68) hx hb dX2_measure_38 (by decide) (fun c_38 => ?_) (fun c_38 => ?_)
            ·
              refine lv_iinc (v := nI (i_9 + 1)) (lv' := [(3, .int (nI (i_9 + 1))), (0, .ref h0), (1, .ref wd), (2, .int sp), (4, .long r_3), (6, .int (nI i_33))]) hx hb dX2_measure_68 hl (k := 3) rfl (ax_add _ 1) (by decide) rfl (fun ls hl => ?_)
              refine lv_goto (tgt := 9) hx hb dX2_measure_71 (by decide) ?_
              exact ih_L_2 (i_9 + 1) f_p4_33 _ _ ls (by omega) (by omega) (fm_e (by have h := hi_33; rw [(Nat.le_antisymm hle_33 (ge3 (by omega) hle_33 c_38))] at h; exact h)) hP hD hS (lv_sub hl [1, 2, 3, 0] rfl)
            ·
              have hb_33 : i_33 < 2 ^ i_9 := lt3 (by omega) hle_33 c_38
              refine lv_aload_n hx hb dX2_measure_41 rfl (lv_at hl 0 rfl) ?_
              refine va_get (D := D) (ci := 2) (v := .ref p4) (C := RX2) (T := TX2) (N := 6) hx hb hts w_1 hown hK hP 0 rfl rfl 4 (by decide) w_2 (fun _ h9 => h9) rfl dX2_measure_42 ?_
              refine lv_iload hx hb dX2_measure_45 (lv_at hl 5 rfl) ?_
              refine lv_iconst (v := 1) hx hb dX2_measure_47 (by decide) ?_
              refine lv_iload_n hx hb dX2_measure_48 rfl (lv_at hl 3 rfl) ?_
              refine sv_ishl (v := nI (2 ^ i_9)) hx hb dX2_measure_49 (sh_8 (by omega)) ?_
              refine sv_ior (v := nI (i_33 ||| 2 ^ i_9)) hx hb dX2_measure_50 (nI_or _ _) ?_
              refine lv_aload_n hx hb dX2_measure_51 rfl (lv_at hl 0 rfl) ?_
              refine va_get (D := D) (ci := 2) (v := .ref p4) (C := RX2) (T := TX2) (N := 6) hx hb hts w_1 hown hK hP 0 rfl rfl 4 (by decide) w_2 (fun _ h9 => h9) rfl dX2_measure_52 ?_
              refine lv_iload hx hb dX2_measure_55 (lv_at hl 5 rfl) ?_
              refine sv_lald (v := f_p4_33 i_33) hx hb hK hP 2 2 rfl rfl (vp_in_nI (by omega) (by decide)) (congrArg _ (nI_clamp (by omega))) dX2_measure_57 ?_
              refine lv_lload hx hb dX2_measure_58 (lv_at hl 4 rfl) ?_
              refine lv_lor hx hb dX2_measure_60 ?_
              refine sv_last hx hb hK hP hD hS 2 2 rfl rfl (vp_in_nI (or_lt256 hb_33 (by omega)) (by decide)) dX2_measure_61 (fun g_5 H locs eg_5 hP hD hS => ?_)
              have eg_5 : g_5 = vp_updL f_p4_33 (i_33 ||| 2 ^ i_9) ((f_p4_33 i_33) ||| r_3) := by rw [eg_5, nI_clamp (Nat.lt_trans (or_lt256 hb_33 (by omega)) (by decide))]
              subst eg_5
              have hP : va_P D vwCl [(h0, .inr (2, [.ref p0, .ref p1, .int (nI e9), .ref p3, .ref p4, .int b5])), (p3, .inl (cI, 8, .inl f3)), (p4, .inl (cJ, 256, .inr (.inl (vp_updL f_p4_33 (i_33 ||| 2 ^ i_9) ((f_p4_33 i_33) ||| r_3))))), (wd, .inr (6, [.ref w0, .ref w1, .ref w2, .ref w3, .int (nI a)])), (w0, .inl (cI, 40, .inl g0)), (w2, .inl (cZ, 40, .inl g2))] H := hP
              have hD : va_D A [(h0, .inr (2, [.ref p0, .ref p1, .int (nI e9), .ref p3, .ref p4, .int b5])), (p3, .inl (cI, 8, .inl f3)), (p4, .inl (cJ, 256, .inr (.inl (vp_updL f_p4_33 (i_33 ||| 2 ^ i_9) ((f_p4_33 i_33) ||| r_3))))), (wd, .inr (6, [.ref w0, .ref w1, .ref w2, .ref w3, .int (nI a)])), (w0, .inl (cI, 40, .inl g0)), (w2, .inl (cZ, 40, .inl g2))] := hD
              refine lv_iinc (v := nI (i_33 + 1)) (lv' := [(6, .int (nI (i_33 + 1))), (0, .ref h0), (1, .ref wd), (2, .int sp), (3, .int (nI i_9)), (4, .long r_3)]) hx hb dX2_measure_62 hl (k := 5) rfl (ax_add _ 1) (by decide) rfl (fun ls hl => ?_)
              refine lv_goto (tgt := 33) hx hb dX2_measure_65 (by decide) ?_
              exact ih_L_4 (i_33 + 1) (vp_updL f_p4_33 (i_33 ||| 2 ^ i_9) ((f_p4_33 i_33) ||| r_3)) _ _ ls (by omega) (by omega) (fm_s hi_33 hb_33 he9 (by omega) hw_r_3) hP hD hS (lv_sub hl [1, 2, 3, 4, 5, 0] rfl)
        exact L_4 _ 0 f_p4_9 _ _ ls (Nat.lt_succ_self _) (by first | exact Nat.zero_le _ | omega) (fm_b hm_9) hP hD hS (lv_sub hl [2, 3, 4, 5, 1, 0] rfl)
  exact L_2 _ 0 (vp_updL f4 0 0) _ _ ls (Nat.lt_succ_self _) (by first | exact Nat.zero_le _ | omega) (fm_0 updL_s) hP hD hS (lv_sub hl [1, 2, 3, 0] rfl)

