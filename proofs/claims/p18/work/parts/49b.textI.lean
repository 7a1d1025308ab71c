/-! The text: numbers of 32 bits. -/
def sg (rt : Nat → Int32) : Nat → Int32 := fun k => rt k &&& 255
theorem nlt0 {j : Nat} (h : j < 2147483648) : ¬ nI j < 0 := fun q => by
  have := Int32.lt_iff_toInt_lt.mp q
  rw [nI_toInt h] at this
  have e : (0 : Int32).toInt = 0 := by decide
  omega
theorem nI_subN {a b : Nat} (h : b ≤ a) : nI a - nI b = nI (a - b) := by
  have e : nI a = nI (a - b) + nI b := by rw [nI_add]; congr 1; omega
  rw [e, Int32.add_sub_cancel]
theorem dg_int {t : Nat → Int32} {i : Nat} (h : dgQ t i) : 48 ≤ (t i).toInt ∧ (t i).toInt ≤ 57 := by
  have h1 := Int32.le_iff_toInt_le.mp h.1
  have h2 := Int32.le_iff_toInt_le.mp h.2
  have c1 : (48 : Int32).toInt = 48 := by decide
  have c2 : (57 : Int32).toInt = 57 := by decide
  omega
theorem dv_s {t : Nat → Int32} {s i : Nat} (h : s ≤ i) : dv t s (i + 1 - s) = 10 * dv t s (i - s) + ((t i).toNatClampNeg - 48) := by
  rw [show i + 1 - s = (i - s) + 1 by omega]
  show 10 * dv t s (i - s) + ((t (s + (i - s))).toNatClampNeg - 48) = _
  rw [show s + (i - s) = i by omega]
theorem ten_int {v r : Int32} {V : Nat} (hv : v.toInt = V) (hV : V ≤ 100000) (hr : 48 ≤ r.toInt ∧ r.toInt ≤ 57) : (v * 10 + r - 48).toInt = 10 * V + (r.toInt - 48) ∧ (10 * v + r - 48).toInt = 10 * V + (r.toInt - 48) := by
  have c10 : (10 : Int32).toInt = 10 := by decide
  have c48 : (48 : Int32).toInt = 48 := by decide
  have hm : (v * 10).toInt = 10 * V := by
    rw [Int32.toInt_mul, hv, c10, Int.bmod_eq_of_le (by omega) (by omega)]; omega
  have hm2 : (10 * v).toInt = 10 * V := by
    rw [Int32.toInt_mul, hv, c10, Int.bmod_eq_of_le (by omega) (by omega)]
  have ha : (v * 10 + r).toInt = 10 * V + r.toInt := by rw [Int32.toInt_add, hm, Int.bmod_eq_of_le (by omega) (by omega)]
  have ha2 : (10 * v + r).toInt = 10 * V + r.toInt := by rw [Int32.toInt_add, hm2, Int.bmod_eq_of_le (by omega) (by omega)]
  constructor
  · rw [Int32.toInt_sub, ha, c48, Int.bmod_eq_of_le (by omega) (by omega)]; omega
  · rw [Int32.toInt_sub, ha2, c48, Int.bmod_eq_of_le (by omega) (by omega)]; omega
theorem int_nI {x : Int32} {k : Nat} (h : x.toInt = k) (hk : k < 2147483648) : x = nI k := Int32.toInt_inj.mp (by rw [h, nI_toInt hk])
/-- the class' number: cut at 100000 -/
def cut5 (V : Nat) : Nat := if V < 100000 then V else 100000
theorem sd_s {t : Nat → Int32} {s i : Nat} {v r x : Int32} (hi : s ≤ i) (hv : v = nI (cut5 (dv t s (i - s)))) (hr : r = t i) (hd : dgQ t i) (e : x = if v * 10 + r - 48 < 100000 then v * 10 + r - 48 else 100000) : x = nI (cut5 (dv t s (i + 1 - s))) := by
  rw [dv_s hi]
  have hd := dg_int hd
  have hn : (t i).toNatClampNeg = (t i).toInt.toNat := rfl
  have c5 : (100000 : Int32).toInt = 100000 := by decide
  generalize dv t s (i - s) = V at hv ⊢
  rw [← hr] at hd hn
  rw [← hr, hn]
  by_cases hV : V < 100000
  · have h1 : v.toInt = V := by rw [hv]; unfold cut5; rw [if_pos hV, nI_toInt (by omega)]
    have h2 := (ten_int h1 (by omega) hd).1
    by_cases c : v * 10 + r - 48 < 100000
    · rw [if_pos c] at e
      have h3 := Int32.lt_iff_toInt_lt.mp c
      rw [h2, c5] at h3
      unfold cut5
      rw [if_pos (by omega), e]
      exact int_nI (by rw [h2]; omega) (by omega)
    · rw [if_neg c] at e
      have h3 := Int.not_lt.mp (fun q => c (Int32.lt_iff_toInt_lt.mpr q))
      rw [h2, c5] at h3
      unfold cut5
      rw [if_neg (by omega), e]
      rfl
  · have h1 : v.toInt = (100000 : Nat) := by rw [hv]; unfold cut5; rw [if_neg hV, nI_toInt (by omega)]
    have h2 := (ten_int h1 (by omega) hd).1
    have c : ¬ v * 10 + r - 48 < 100000 := fun q => by
      have h3 := Int32.lt_iff_toInt_lt.mp q
      rw [h2, c5] at h3
      omega
    rw [if_neg c] at e
    unfold cut5
    rw [if_neg (by omega), e]
    rfl
theorem cut_lt {v : Int32} {V lo : Nat} (hv : v = nI (cut5 V)) (hl : lo ≤ 9999) : v < nI lo ↔ V < lo := by
  rw [hv]
  unfold cut5
  split
  · exact nI_ltI (by omega) (by omega)
  · rw [nI_ltI (by omega) (by omega)]; omega
theorem cut_le {v : Int32} {V hi : Nat} (hv : v = nI (cut5 V)) (hl : hi ≤ 9999) : v ≤ nI hi ↔ V ≤ hi := by
  rw [hv]
  unfold cut5
  split
  · exact nI_leI (by omega) (by omega)
  · rw [nI_leI (by omega) (by omega)]; omega
theorem cut_eq {V : Nat} (h : V ≤ 9999) : cut5 V = V := if_pos (by omega)
/-- the reference's number -/
def vM (V : Nat) (w : Int32) : Prop := (V ≤ 99999 ∧ w = nI V) ∨ (99999 < V ∧ ¬ w ≤ 99999)
theorem vm_0 : vM 0 0 := Or.inl ⟨by decide, rfl⟩
theorem vm_y {t : Nat → Int32} {s i : Nat} {w : Int32} (hi : s ≤ i) (h : vM (dv t s (i - s)) w) (hd : dgQ t i) (c : w ≤ 99999) : vM (dv t s (i + 1 - s)) (10 * w + t i - 48) := by
  rw [dv_s hi]
  have hd := dg_int hd
  have hn : (t i).toNatClampNeg = (t i).toInt.toNat := rfl
  rcases h with ⟨h1, h2⟩ | ⟨h1, h2⟩
  · generalize dv t s (i - s) = V at h1 h2 ⊢
    have h3 : w.toInt = V := by rw [h2, nI_toInt (by omega)]
    have h4 := (ten_int h3 (by omega) hd).2
    have h5 : 10 * w + t i - 48 = nI (10 * V + ((t i).toNatClampNeg - 48)) := int_nI (by rw [h4, hn]; omega) (by omega)
    by_cases q : 10 * V + ((t i).toNatClampNeg - 48) ≤ 99999
    · exact Or.inl ⟨q, h5⟩
    · refine Or.inr ⟨by omega, fun z => q ?_⟩
      rw [h5] at z
      exact (nI_leI (b := 99999) (by omega) (by decide)).mp z
  · exact absurd c h2
theorem vm_n {t : Nat → Int32} {s i : Nat} {w : Int32} (hi : s ≤ i) (h : vM (dv t s (i - s)) w) (c : ¬ w ≤ 99999) : vM (dv t s (i + 1 - s)) w := by
  rw [dv_s hi]
  rcases h with ⟨h1, h2⟩ | ⟨h1, h2⟩
  · exact absurd (by rw [h2]; exact (nI_leI (b := 99999) (by omega) (by decide)).mpr h1) c
  · exact Or.inr ⟨by omega, h2⟩
theorem vm_lt {w : Int32} {V lo : Nat} (h : vM V w) (hl : lo ≤ 9999) : w < nI lo ↔ V < lo := by
  rcases h with ⟨h1, h2⟩ | ⟨h1, h2⟩
  · rw [h2]; exact nI_ltI (by omega) (by omega)
  · constructor
    · intro q
      exfalso
      apply h2
      have a := Int32.lt_iff_toInt_lt.mp q
      rw [nI_toInt (by omega)] at a
      apply Int32.le_iff_toInt_le.mpr
      rw [show (99999 : Int32).toInt = 99999 by decide]; omega
    · intro q; omega
theorem vm_le {w : Int32} {V hi : Nat} (h : vM V w) (hl : hi ≤ 9999) : w ≤ nI hi ↔ V ≤ hi := by
  rcases h with ⟨h1, h2⟩ | ⟨h1, h2⟩
  · rw [h2]; exact nI_leI (by omega) (by omega)
  · constructor
    · intro q
      exfalso
      apply h2
      have a := Int32.le_iff_toInt_le.mp q
      rw [nI_toInt (by omega)] at a
      apply Int32.le_iff_toInt_le.mpr
      rw [show (99999 : Int32).toInt = 99999 by decide]; omega
    · intro q; omega
theorem vm_eq {w : Int32} {V : Nat} (h : vM V w) (hV : V ≤ 9999) : w = nI V := h.elim (fun q => q.2) (fun q => absurd q.1 (by omega))
/-! the token at p, as the class holds it -/
def curP (t : Nat → Int32) (n p : Nat) (k : Int32) (s e : Nat) (v : Int32) : Prop := k = nI (tK t n p) ∧ s = tS t n p ∧ e = tE t n p ∧ (tK t n p = 2 → v = nI (cut5 (tV t n p)))
def skP (t : Nat → Int32) (n p i : Nat) : Prop := p ≤ i ∧ i ≤ n ∧ ∀ j, p ≤ j → j < i → blQ t j
def lsQ (t : Nat → Int32) (n p i : Nat) : Prop := p ≤ i ∧ i ≤ n ∧ ∀ j, p ≤ j → j < i → smQ t j
def dsQ (t : Nat → Int32) (n p i : Nat) : Prop := p ≤ i ∧ i ≤ n ∧ ∀ j, p ≤ j → j < i → dgQ t j
section CU
variable {t : Nat → Int32} {n p i e : Nat} {v : Int32}
theorem sk_0 (h : p ≤ n) : skP t n p p := ⟨Nat.le_refl p, h, fun j a b => by omega⟩
theorem sk_s (h : skP t n p i) (hi : i < n) (hb : blQ t i) : skP t n p (i + 1) := ⟨by have := h.1; omega, hi, fun j a b => by
  by_cases q : j = i
  · rw [q]; exact hb
  · exact h.2.2 j a (by omega)⟩
theorem sk_e (h : skP t n p i) (hx : ¬ (i < n ∧ blQ t i)) : tS t n p = i :=
  rn_un h.1 (by have := h.2.1; omega) (fun j a b => bl_y.mpr ⟨by have := h.2.1; omega, h.2.2 j a b⟩) (bl_f hx)
theorem ls_00 (h : p ≤ n) : lsQ t n p p := ⟨Nat.le_refl p, h, fun j a b => by omega⟩
theorem ls_ss (h : lsQ t n p i) (hi : i < n) (hb : smQ t i) : lsQ t n p (i + 1) := ⟨by have := h.1; omega, hi, fun j a b => by
  by_cases q : j = i
  · rw [q]; exact hb
  · exact h.2.2 j a (by omega)⟩
theorem ls_ee (h : lsQ t n p i) (hx : ¬ (i < n ∧ smQ t i)) : rn (smB t n) n p = i :=
  rn_un h.1 (by have := h.2.1; omega) (fun j a b => sm_y.mpr ⟨by have := h.2.1; omega, h.2.2 j a b⟩) (sm_f hx)
theorem ds_0 (h : p ≤ n) : dsQ t n p p := ⟨Nat.le_refl p, h, fun j a b => by omega⟩
theorem ds_s (h : dsQ t n p i) (hi : i < n) (hb : dgQ t i) : dsQ t n p (i + 1) := ⟨by have := h.1; omega, hi, fun j a b => by
  by_cases q : j = i
  · rw [q]; exact hb
  · exact h.2.2 j a (by omega)⟩
theorem ds_e (h : dsQ t n p i) (hx : ¬ (i < n ∧ dgQ t i)) : rn (dgB t n) n p = i :=
  rn_un h.1 (by have := h.2.1; omega) (fun j a b => dg_y.mpr ⟨by have := h.2.1; omega, h.2.2 j a b⟩) (dg_f hx)
theorem cur_0 (hS : tS t n p = i) (h : n ≤ i) : curP t n p 0 i i v := by
  have hk : tK t n p = 0 := tK_0 (by omega)
  exact ⟨by rw [hk]; rfl, hS.symm, by rw [tE_0 hk, hS], fun q => by omega⟩
theorem cur_1 (hS : tS t n p = i) (hn : i < n) (h : smQ t i) (he : rn (smB t n) n i = e) : curP t n p 1 i e v := by
  have hk : tK t n p = 1 := tK_1 (by rw [hS]; exact sm_y.mpr ⟨hn, h⟩)
  exact ⟨by rw [hk]; rfl, hS.symm, by rw [tE_1 hk, hS, he], fun q => by omega⟩
theorem cur_2 (hS : tS t n p = i) (hn : i < n) (h1 : ¬ smQ t i) (h : dgQ t i) (he : rn (dgB t n) n i = e) (hv : v = nI (cut5 (dv t i (e - i)))) : curP t n p 2 i e v := by
  have hk : tK t n p = 2 := tK_2 (by omega) (by rw [hS]; exact fun q => h1 (sm_y.mp q).2) (by rw [hS]; exact dg_y.mpr ⟨hn, h⟩)
  have hE : tE t n p = e := by rw [tE_2 hk, hS, he]
  exact ⟨by rw [hk]; rfl, hS.symm, hE.symm, fun _ => by unfold tV; rw [hS, hE]; exact hv⟩
theorem cur_3 (hS : tS t n p = i) (hn : i < n) (h1 : ¬ smQ t i) (h2 : ¬ dgQ t i) (h : t i = 59) : curP t n p 3 i (i + 1) v := by
  have hk : tK t n p = 3 := tK_3 (by omega) (by rw [hS]; exact fun q => h1 (sm_y.mp q).2) (by rw [hS]; exact fun q => h2 (dg_y.mp q).2) (by rw [hS]; exact h)
  exact ⟨by rw [hk]; rfl, hS.symm, by rw [tE_3 (Or.inl hk), hS], fun q => by omega⟩
theorem cur_4 (hS : tS t n p = i) (hn : i < n) (h1 : ¬ smQ t i) (h2 : ¬ dgQ t i) (h : ¬ t i = 59) : curP t n p 4 i (i + 1) v := by
  have hk : tK t n p = 4 := tK_4 (by omega) (by rw [hS]; exact fun q => h1 (sm_y.mp q).2) (by rw [hS]; exact fun q => h2 (dg_y.mp q).2) (by rw [hS]; exact h)
  exact ⟨by rw [hk]; rfl, hS.symm, by rw [tE_3 (Or.inr hk), hS], fun q => by omega⟩
theorem cur_k {k : Int32} {s : Nat} (h : curP t n p k s e v) {c : Nat} (hc : c ≤ 4) : k = nI c ↔ tK t n p = c := by
  have := tK_le (t := t) (n := n) (p := p)
  rw [h.1, nI_eq (by omega) (by omega)]
end CU
/-- the class' words: which stands at p -/
theorem wd_tW {t : Nat → Int32} {n p s e w : Nat} {k v : Int32} (hc : curP t n p k s e v) (hw : w < 8) : (k = 1 ∧ wdP t s e w) ↔ tW t n p = w := by
  have hk := cur_k hc (c := 1) (by decide)
  obtain ⟨-, h2, h3, -⟩ := hc
  constructor
  · rintro ⟨a, b⟩
    unfold tW
    rw [if_pos (hk.mp a), ← h2, ← h3]
    exact tX_y hw b
  · intro h
    have a := tW_lt (t := t) (n := n) (p := p) (by omega)
    refine ⟨hk.mpr a, ?_⟩
    unfold tW at h
    rw [if_pos a, ← h2, ← h3] at h
    exact tX_is hw h
def lx (w : Nat) : Nat := if w = 3 then 0 else if w = 1 then 1 else w - 2
theorem lx_lt {w : Nat} (h : lw w) : lx w < 6 := by
  rcases h with h | h | h | h | h | h <;> subst h <;> decide
theorem lx_inj {w x : Nat} (h : lw w) (g : lw x) (e : lx w = lx x) : w = x := by
  rcases h with h | h | h | h | h | h <;> subst h <;> rcases g with g | g | g | g | g | g <;> subst g <;> first | rfl | exact absurd e (by decide)
theorem lx_of {w c : Nat} (h : lw w) (hc : c < 6) {q : Int32} (e : q = nI (lx w)) (e2 : q = nI c) : lx w = c := (nI_eq (by have := lx_lt h; omega) (by omega)).mp (e.symm.trans e2)
def tlP (T : Nat → Prop) (to : Nat) : Prop := ∀ w, lw w → (T w ↔ to.testBit (lx w) = true)
theorem tl_0 : tlP (fun _ => False) 0 := fun w _ => ⟨fun h => h.elim, fun h => by rw [Nat.zero_testBit] at h; exact absurd h (by decide)⟩
theorem tl_u {T : Nat → Prop} {to w : Nat} (h : tlP T to) (hw : lw w) : tlP (tdU T w) (to ||| 2 ^ lx w) := by
  intro x hx
  rw [Nat.testBit_or, Nat.testBit_two_pow, Bool.or_eq_true, ← h x hx, decide_eq_true_iff]
  exact ⟨fun q => q.imp (fun z => z) (fun z => by rw [z]), fun q => q.imp (fun z => z) (fun z => (lx_inj hw hx z).symm)⟩
theorem bit_and {a l : Nat} (hl : l < 31) : (nI a &&& ((1 : Int32) <<< (nI l &&& 31)) = 0) ↔ a.testBit l = false := by
  have e : (1 : Int32) <<< (nI l &&& 31) = nI (2 ^ l) := by
    have : ∀ n, n < 31 → (1 : Int32) <<< (nI n &&& 31) = nI (2 ^ n) := by decide +kernel
    exact this l hl
  have hp : 2 ^ l < 2 ^ 31 := Nat.pow_lt_pow_right (by decide) hl
  rw [e, fa_and, show (0 : Int32) = nI 0 from rfl, nI_eq (Nat.lt_of_le_of_lt Nat.and_le_right hp) (by decide)]
  constructor
  · intro h
    have : (a &&& 2 ^ l).testBit l = false := by rw [h, Nat.zero_testBit]
    rw [Nat.testBit_and, Nat.testBit_two_pow] at this
    simpa using this
  · intro h
    apply Nat.eq_of_testBit_eq
    intro j
    rw [Nat.testBit_and, Nat.testBit_two_pow, Nat.zero_testBit]
    by_cases q : l = j
    · subst q; rw [h]; rfl
    · simp [q]
theorem bit_or {a l : Nat} (hl : l < 31) : nI a ||| ((1 : Int32) <<< (nI l &&& 31)) = nI (a ||| 2 ^ l) := by
  have e : (1 : Int32) <<< (nI l &&& 31) = nI (2 ^ l) := by
    have : ∀ n, n < 31 → (1 : Int32) <<< (nI n &&& 31) = nI (2 ^ n) := by decide +kernel
    exact this l hl
  rw [e, nI_or]
/-- the draft, as the class holds it -/
def dX (d : Nat → Int32) (d1 d3 d4 d5 d6 d7 d8 : Int32) (rd : Nat → Int32) : Prop := (d 3 = d1 ∧ d 1 = d3 ∧ d 4 = d4 ∧ d 2 = d5 ∧ d 5 = d6 ∧ d 6 = d7 ∧ d 7 = d8) ∧ ∃ m, d1 = nI m ∧ 0 < m ∧ m ≤ 8 ∧ ∀ j, j < m → rd j = d (8 + j)
/-- nothing told -/
def d00 : Nat → Int32 := fun k => if k = 3 then 1 else if k = 1 then 100 else if k = 4 then 7 else if k = 2 then 14 else if k = 5 then 3 else if k = 6 then 1 else if k = 7 then 8 else 2
theorem lt_c {j n : Nat} (hn : n < 2147483648) (hj : j < 2147483648) (c : ¬ nI n ≤ nI j) : j < n := Nat.not_le.mp (fun q => c ((nI_leI hn hj).mpr q))
theorem ge_c {j n : Nat} (hn : n < 2147483648) (hj : j < 2147483648) (c : nI n ≤ nI j) : n ≤ j := (nI_leI hn hj).mp c
theorem sgv {j ln : Nat} {r x : Int32} (h : (j < ln ∧ r = x) ∨ (ln ≤ j ∧ r = 0)) (hj : j < ln) : r = x := h.elim (fun q => q.2) (fun q => absurd hj (Nat.not_lt.mpr q.1))
theorem cv_0 {t : Nat → Int32} {s : Nat} : (0 : Int32) = nI (cut5 (dv t s (s - s))) := by rw [Nat.sub_self]; rfl
theorem wc_255 {w j : Nat} (hw : w < 8) (hj : j < wln w) : wcf w j &&& 255 = wcf w j := by
  have : ∀ w, w < 8 → ∀ j, j < wln w → wcf w j &&& 255 = wcf w j := by decide
  exact this w hw j hj
theorem iw_W {t : Nat → Int32} {n p s e w : Nat} {k v r : Int32} (hc : curP t n p k s e v) (hw : w < 8) (h : isB r (k = 1 ∧ e = s + wln w ∧ ∀ j, j < wln w → t (s + j) = wcf w j &&& 255)) : isB r (tW t n p = w) :=
  h.iff (Iff.trans ⟨fun z => ⟨z.1, z.2.1, fun j hj => (z.2.2 j hj).trans (wc_255 hw hj)⟩, fun z => ⟨z.1, z.2.1, fun j hj => (z.2.2 j hj).trans (wc_255 hw hj).symm⟩⟩ (wd_tW hc hw))
theorem ln_y {W w : Nat} {c : Int32} (h : W = w) (hw : lw w) (e : c = nI (lx w)) : lw W ∧ c = nI (lx W) := by rw [h]; exact ⟨hw, e⟩
theorem ln_n {W : Nat} (h3 : ¬ W = 3) (h1 : ¬ W = 1) (h4 : ¬ W = 4) (h5 : ¬ W = 5) (h6 : ¬ W = 6) (h7 : ¬ W = 7) : ¬ lw W := by
  rintro (h | h | h | h | h | h)
  · exact h1 h
  · exact h3 h
  · exact h4 h
  · exact h5 h
  · exact h6 h
  · exact h7 h
theorem wy_y {W w : Nat} {c : Int32} (h : W = w) (hw : w ≤ 2) (e : c = nI w) : W ≤ 2 ∧ c = nI W := by rw [h]; exact ⟨hw, e⟩
/-! what the class' methods do -/
def nuX (t : Nat → Int32) (n p lo hi : Nat) (t1 t2 r t1' t2' k : Int32) (s e : Nat) (v : Int32) : Prop := (∃ f, ¬ f = 0 ∧ nmP t n p lo hi f ∧ t1' = nI f ∧ t2' = nI (tS t n p)) ∨ (nmP t n p lo hi 0 ∧ r = nI (tV t n p) ∧ t1' = t1 ∧ t2' = t2 ∧ curP t n (tE t n p) k s e v)
section NU
variable {t : Nat → Int32} {n p lo hi s e s' e' : Nat} {t1 t2 k v r a b k' v' : Int32}
theorem nu_1 (hc : curP t n p k s e v) (c : ¬ k = 2) (h : a = 1 ∧ b = nI s) : nuX t n p lo hi t1 t2 r a b k' s' e' v' :=
  Or.inl ⟨1, by decide, Or.inl ⟨fun q => c ((cur_k hc (c := 2) (by decide)).mpr q), rfl⟩, h.1, by rw [h.2, hc.2.1]⟩
theorem nu_2 (hc : curP t n p k s e v) (c : k = 2) (hx : v < nI lo ∨ ¬ v ≤ nI hi) (hlo : lo ≤ 9999) (hhi : hi ≤ 9999) (h : a = 2 ∧ b = nI s) : nuX t n p lo hi t1 t2 r a b k' s' e' v' := by
  have hk := (cur_k hc (c := 2) (by decide)).mp c
  have hv := hc.2.2.2 hk
  refine Or.inl ⟨2, by decide, Or.inr (Or.inl ⟨hk, ?_, rfl⟩), h.1, by rw [h.2, hc.2.1]⟩
  exact hx.imp (fun q => (cut_lt hv hlo).mp q) (fun q => Nat.lt_of_not_le (fun z => q ((cut_le hv hhi).mpr z)))
theorem nu_3 (hc : curP t n p k s e v) (c : k = 2) (h1 : ¬ v < nI lo) (h2 : v ≤ nI hi) (hlo : lo ≤ 9999) (hhi : hi ≤ 9999) (h : curP t n e k' s' e' v') : nuX t n p lo hi t1 t2 v t1 t2 k' s' e' v' := by
  have hk := (cur_k hc (c := 2) (by decide)).mp c
  have hv := hc.2.2.2 hk
  have a1 : lo ≤ tV t n p := Nat.le_of_not_lt (fun z => h1 ((cut_lt hv hlo).mpr z))
  have a2 := (cut_le hv hhi).mp h2
  rw [hc.2.2.1] at h
  exact Or.inr ⟨Or.inr (Or.inr ⟨hk, a1, a2, rfl⟩), by rw [hv, cut_eq (by omega)], rfl, rfl, h⟩
theorem nm_f {f : Nat} (h : nmP t n p lo hi f) : f ≤ 2 := by
  rcases h with ⟨_, h⟩ | ⟨_, _, h⟩ | ⟨_, _, _, h⟩ <;> omega
theorem nm_v (h : nmP t n p lo hi 0) : tV t n p ≤ hi := by
  rcases h with ⟨_, h⟩ | ⟨_, _, h⟩ | ⟨_, _, h, _⟩
  · omega
  · omega
  · exact h
theorem nI_n0 {f : Nat} (h : f ≤ 3) (h0 : ¬ f = 0) : ¬ nI f = 0 := fun q => h0 ((nI_eq (b := 0) (by omega) (by decide)).mp q)
theorem nu_bad (h : nuX t n p lo hi 0 t2 r a b k' s' e' v') (c : ¬ a = 0) : ∃ f, ¬ f = 0 ∧ nmP t n p lo hi f ∧ a = nI f ∧ b = nI (tS t n p) := h.resolve_right (fun z => c z.2.2.1)
theorem nu_ok (h : nuX t n p lo hi t1 t2 r a b k' s' e' v') (c : a = 0) : nmP t n p lo hi 0 ∧ r = nI (tV t n p) ∧ a = t1 ∧ b = t2 ∧ curP t n (tE t n p) k' s' e' v' := h.resolve_left (fun ⟨f, z1, z2, z3, _⟩ => nI_n0 (by have := nm_f z2; omega) z1 (z3.symm.trans c))
end NU
def bgX (t : Nat → Int32) (n p to : Nat) (t1 t2 r t1' t2' k : Int32) (s e : Nat) (v : Int32) (to' : Nat) : Prop :=
  (¬ lw (tW t n p) ∧ r = -1 ∧ t1' = 1 ∧ t2' = nI (tS t n p)) ∨ (lw (tW t n p) ∧ to.testBit (lx (tW t n p)) = true ∧ r = -1 ∧ t1' = 3 ∧ t2' = nI (tS t n p)) ∨ (lw (tW t n p) ∧ to.testBit (lx (tW t n p)) = false ∧ r = nI (lx (tW t n p)) ∧ t1' = t1 ∧ t2' = t2 ∧ to' = to ||| 2 ^ lx (tW t n p) ∧ curP t n (tE t n p) k s e v)
def enX (t : Nat → Int32) (n p : Nat) (t1 t2 t1' t2' k : Int32) (s e : Nat) (v : Int32) : Prop := (¬ t1 = 0 ∧ t1' = t1 ∧ t2' = t2) ∨ (t1 = 0 ∧ tK t n p = 3 ∧ t1' = t1 ∧ t2' = t2 ∧ curP t n (tE t n p) k s e v) ∨ (t1 = 0 ∧ ¬ tK t n p = 3 ∧ t1' = 1 ∧ t2' = nI (tS t n p))
def agX (t : Nat → Int32) (n p : Nat) (t1 t2 t1' t2' k : Int32) (s e : Nat) (v d4 d5 : Int32) : Prop := (∃ f, ¬ f = 0 ∧ nmP t n p 0 20 f ∧ t1' = nI f ∧ t2' = nI (tS t n p)) ∨ (nmP t n p 0 20 0 ∧ ((∃ f, ¬ f = 0 ∧ nmP t n (tE t n p) (tV t n p) 20 f ∧ t1' = nI f ∧ t2' = nI (tS t n (tE t n p))) ∨ (nmP t n (tE t n p) (tV t n p) 20 0 ∧ t1' = t1 ∧ t2' = t2 ∧ d4 = nI (tV t n p) ∧ d5 = nI (tV t n (tE t n p)) ∧ curP t n (tE t n (tE t n p)) k s e v)))
def wyX (t : Nat → Int32) (n p : Nat) (t1 t2 t1' t2' k : Int32) (s e : Nat) (v d1 : Int32) (cy : Nat → Int32) : Prop := ∃ m, cmP t n p m ∧ ((m = 0 ∧ t1' = 1 ∧ t2' = nI (tS t n p)) ∨ (0 < m ∧ tW t n (wp t n p m) ≤ 2 ∧ t1' = 2 ∧ t2' = nI (tS t n (wp t n p m))) ∨ (0 < m ∧ ¬ tW t n (wp t n p m) ≤ 2 ∧ t1' = t1 ∧ t2' = t2 ∧ d1 = nI m ∧ (∀ j, j < m → cy j = nI (tW t n (wp t n p j))) ∧ curP t n (wp t n p m) k s e v))
theorem wp_le {t : Nat → Int32} {n p : Nat} (h : p ≤ n) : ∀ j, wp t n p j ≤ n
  | 0 => h
  | j + 1 => tE_le (wp_le h j)
/-- the ways so far -/
def wsP (t : Nat → Int32) (n p i : Nat) (cy : Nat → Int32) : Prop := ∀ j, j < i → tW t n (wp t n p j) ≤ 2 ∧ cy j = nI (tW t n (wp t n p j))
theorem ws_0 {t : Nat → Int32} {n p : Nat} {cy : Nat → Int32} : wsP t n p 0 cy := fun j h => absurd h (Nat.not_lt_zero j)
theorem ws_s {t : Nat → Int32} {n p i : Nat} {cy : Nat → Int32} {x : Int32} (h : wsP t n p i cy) (hw : tW t n (wp t n p i) ≤ 2 ∧ x = nI (tW t n (wp t n p i))) : wsP t n p (i + 1) (upd cy i x) := by
  intro j hj
  by_cases q : j = i
  · subst q; rw [pk_us]; exact hw
  · rw [pk_un q]; exact h j (by omega)
theorem ws_cm {t : Nat → Int32} {n p i : Nat} {cy : Nat → Int32} (h : wsP t n p i cy) (hi : i ≤ 8) (hx : i = 8 ∨ ¬ tW t n (wp t n p i) ≤ 2) : cmP t n p i := ⟨hi, fun j hj => (h j hj).1, fun q => hx.resolve_left (by omega)⟩
theorem ws_pos {t : Nat → Int32} {n p i : Nat} (h0 : tW t n p ≤ 2) (hx : i = 8 ∨ ¬ tW t n (wp t n p i) ≤ 2) : 0 < i := by
  apply Nat.pos_of_ne_zero
  intro q
  subst q
  rcases hx with hx | hx
  · omega
  · exact hx h0
def rsX (t : Nat → Int32) (n w p : Nat) (d : Nat → Int32) (t1 t2 t1' t2' k : Int32) (s e : Nat) (v d1 d3 d4 d5 d6 d7 d8 : Int32) (cy : Nat → Int32) : Prop := ∃ f q d', f ≤ 3 ∧ rsP t n w p d f q d' ∧ ((¬ f = 0 ∧ t1' = nI f ∧ t2' = nI q) ∨ (f = 0 ∧ t1' = t1 ∧ t2' = t2 ∧ curP t n q k s e v ∧ q ≤ n ∧ p ≤ q ∧ dX d' d1 d3 d4 d5 d6 d7 d8 cy))
section RS
variable {t : Nat → Int32} {n w p s e : Nat} {d : Nat → Int32} {t1 t2 a b k v d1 d3 d4 d5 d6 d7 d8 r : Int32} {cy cy' : Nat → Int32}
theorem tE_p : p ≤ tE t n p := Nat.le_trans tS_ge tE_ge
theorem wp_ge : ∀ j, p ≤ wp t n p j
  | 0 => Nat.le_refl p
  | j + 1 => Nat.le_trans (wp_ge j) tE_p
theorem cy_lo {m k : Nat} (h3 : ¬ k = 3) (h8 : k < 8) : cyD t n p m d k = d k := by
  unfold cyD
  rw [if_neg h3, if_neg (by omega)]
theorem rs_w {e1 : Int32} (hp : p ≤ n) (hd : dX d d1 d3 d4 d5 d6 d7 d8 cy) (hw : w = 3) (h : wyX t n p t1 t2 a b k s e v e1 cy') : rsX t n w p d t1 t2 a b k s e v e1 d3 d4 d5 d6 d7 d8 cy' := by
  obtain ⟨m, hm, h⟩ := h
  obtain ⟨⟨x1, x2, x3, x4, x5, x6, x7⟩, _⟩ := hd
  rcases h with ⟨h1, h2, h3⟩ | ⟨h1, h2, h3, h4⟩ | ⟨h1, h2, h3, h4, h5, h6, h7⟩
  · exact ⟨1, _, d, by decide, Or.inl ⟨hw, m, hm, Or.inl ⟨h1, rfl, rfl⟩⟩, Or.inl ⟨by decide, h2, h3⟩⟩
  · exact ⟨2, _, d, by decide, Or.inl ⟨hw, m, hm, Or.inr (Or.inl ⟨h1, h2, rfl, rfl⟩)⟩, Or.inl ⟨by decide, h3, h4⟩⟩
  · refine ⟨0, _, _, by decide, Or.inl ⟨hw, m, hm, Or.inr (Or.inr ⟨h1, h2, rfl, rfl, rfl⟩)⟩, Or.inr ⟨rfl, h3, h4, h7, wp_le hp m, wp_ge m, ?_, m, h5, h1, hm.1, fun j hj => ?_⟩⟩
    · exact ⟨h5.symm, (cy_lo (by decide) (by decide)).trans x2, (cy_lo (by decide) (by decide)).trans x3, (cy_lo (by decide) (by decide)).trans x4, (cy_lo (by decide) (by decide)).trans x5, (cy_lo (by decide) (by decide)).trans x6, (cy_lo (by decide) (by decide)).trans x7⟩
    · unfold cyD
      rw [if_neg (by omega), if_pos (by omega), show 8 + j - 8 = j by omega]
      exact h6 j hj
theorem rs_a {e4 e5 : Int32} (hp : p ≤ n) (hd : dX d d1 d3 d4 d5 d6 d7 d8 cy) (hw : w = 4) (h : agX t n p t1 t2 a b k s e v e4 e5) : rsX t n w p d t1 t2 a b k s e v d1 d3 e4 e5 d6 d7 d8 cy := by
  obtain ⟨⟨x1, x2, x3, x4, x5, x6, x7⟩, m, y1, y2, y3, y4⟩ := hd
  rcases h with ⟨f, h1, h2, h3, h4⟩ | ⟨h1, ⟨f, h2, h3, h4, h5⟩ | ⟨h2, h3, h4, h5, h6, h7⟩⟩
  · exact ⟨f, _, d, by have := nm_f h2; omega, Or.inr (Or.inl ⟨hw, f, h2, Or.inl ⟨h1, rfl, rfl⟩⟩), Or.inl ⟨h1, h3, h4⟩⟩
  · exact ⟨f, _, d, by have := nm_f h3; omega, Or.inr (Or.inl ⟨hw, 0, h1, Or.inr ⟨rfl, f, h3, Or.inl ⟨h2, rfl, rfl⟩⟩⟩), Or.inl ⟨h2, h4, h5⟩⟩
  · refine ⟨0, _, _, by decide, Or.inr (Or.inl ⟨hw, 0, h1, Or.inr ⟨rfl, 0, h2, Or.inr ⟨rfl, rfl, rfl, rfl⟩⟩⟩), Or.inr ⟨rfl, h3, h4, h7, tE_le (tE_le hp), Nat.le_trans tE_p tE_p, ?_, m, y1, y2, y3, fun j hj => ?_⟩⟩
    · refine ⟨?_, ?_, ?_, ?_, ?_, ?_, ?_⟩
      · rw [pk_un (by decide), pk_un (by decide)]; exact x1
      · rw [pk_un (by decide), pk_un (by decide)]; exact x2
      · rw [pk_un (by decide), pk_us]; exact h5.symm
      · rw [pk_us]; exact h6.symm
      · rw [pk_un (by decide), pk_un (by decide)]; exact x5
      · rw [pk_un (by decide), pk_un (by decide)]; exact x6
      · rw [pk_un (by decide), pk_un (by decide)]; exact x7
    · rw [pk_un (by omega), pk_un (by omega)]; exact y4 j hj
theorem rs_n (hp : p ≤ n) (hl : lw w) (h3 : ¬ w = 3) (h4 : ¬ w = 4) (h : nuX t n p (loW w) (hiW w) t1 t2 r a b k s e v) (hd : t1 = a → ∀ d', d' = upd d w r → dX d' d1 d3 d4 d5 d6 d7 d8 cy) : rsX t n w p d t1 t2 a b k s e v d1 d3 d4 d5 d6 d7 d8 cy := by
  rcases h with ⟨f, y1, y2, y3, y4⟩ | ⟨y1, y2, y3, y4, y5⟩
  · exact ⟨f, _, d, by have := nm_f y2; omega, Or.inr (Or.inr ⟨h3, h4, f, y2, Or.inl ⟨y1, rfl, rfl⟩⟩), Or.inl ⟨y1, y3, y4⟩⟩
  · exact ⟨0, _, _, by decide, Or.inr (Or.inr ⟨h3, h4, 0, y1, Or.inr ⟨rfl, rfl, rfl, rfl⟩⟩), Or.inr ⟨rfl, y3, y4, y5, tE_le hp, tE_p, hd y3.symm _ (by rw [y2])⟩⟩
/-- one number of the draft changes -/
theorem dx_1 (h : dX d d1 d3 d4 d5 d6 d7 d8 cy) (r : Int32) : dX (upd d 1 r) d1 r d4 d5 d6 d7 d8 cy := by
  obtain ⟨⟨x1, x2, x3, x4, x5, x6, x7⟩, m, y1, y2, y3, y4⟩ := h
  refine ⟨⟨?_, ?_, ?_, ?_, ?_, ?_, ?_⟩, m, y1, y2, y3, fun j hj => ?_⟩
  · rw [pk_un (by decide)]; exact x1
  · rw [pk_us]
  · rw [pk_un (by decide)]; exact x3
  · rw [pk_un (by decide)]; exact x4
  · rw [pk_un (by decide)]; exact x5
  · rw [pk_un (by decide)]; exact x6
  · rw [pk_un (by decide)]; exact x7
  · rw [pk_un (by omega)]; exact y4 j hj
theorem dx_5 (h : dX d d1 d3 d4 d5 d6 d7 d8 cy) (r : Int32) : dX (upd d 5 r) d1 d3 d4 d5 r d7 d8 cy := by
  obtain ⟨⟨x1, x2, x3, x4, x5, x6, x7⟩, m, y1, y2, y3, y4⟩ := h
  refine ⟨⟨?_, ?_, ?_, ?_, ?_, ?_, ?_⟩, m, y1, y2, y3, fun j hj => ?_⟩
  · rw [pk_un (by decide)]; exact x1
  · rw [pk_un (by decide)]; exact x2
  · rw [pk_un (by decide)]; exact x3
  · rw [pk_un (by decide)]; exact x4
  · rw [pk_us]
  · rw [pk_un (by decide)]; exact x6
  · rw [pk_un (by decide)]; exact x7
  · rw [pk_un (by omega)]; exact y4 j hj
theorem dx_6 (h : dX d d1 d3 d4 d5 d6 d7 d8 cy) (r : Int32) : dX (upd d 6 r) d1 d3 d4 d5 d6 r d8 cy := by
  obtain ⟨⟨x1, x2, x3, x4, x5, x6, x7⟩, m, y1, y2, y3, y4⟩ := h
  refine ⟨⟨?_, ?_, ?_, ?_, ?_, ?_, ?_⟩, m, y1, y2, y3, fun j hj => ?_⟩
  · rw [pk_un (by decide)]; exact x1
  · rw [pk_un (by decide)]; exact x2
  · rw [pk_un (by decide)]; exact x3
  · rw [pk_un (by decide)]; exact x4
  · rw [pk_un (by decide)]; exact x5
  · rw [pk_us]
  · rw [pk_un (by decide)]; exact x7
  · rw [pk_un (by omega)]; exact y4 j hj
theorem dx_7 (h : dX d d1 d3 d4 d5 d6 d7 d8 cy) (r : Int32) : dX (upd d 7 r) d1 d3 d4 d5 d6 d7 r cy := by
  obtain ⟨⟨x1, x2, x3, x4, x5, x6, x7⟩, m, y1, y2, y3, y4⟩ := h
  refine ⟨⟨?_, ?_, ?_, ?_, ?_, ?_, ?_⟩, m, y1, y2, y3, fun j hj => ?_⟩
  · rw [pk_un (by decide)]; exact x1
  · rw [pk_un (by decide)]; exact x2
  · rw [pk_un (by decide)]; exact x3
  · rw [pk_un (by decide)]; exact x4
  · rw [pk_un (by decide)]; exact x5
  · rw [pk_un (by decide)]; exact x6
  · rw [pk_us]
  · rw [pk_un (by omega)]; exact y4 j hj
end RS
theorem lx_w {w c : Nat} {q : Int32} (h : lw w) (e : q = nI (lx w)) (hc : c < 6) (e2 : q = nI c) {x : Nat} (hx : lw x) (e3 : lx x = c) : w = x := lx_inj h hx ((lx_of h hc e e2).trans e3.symm)
/-- between the lines: what is read from here on is what is read in all; or there was a fault -/
def rdI (t : Nat → Int32) (n L : Nat) (t1 t2 k : Int32) (s e : Nat) (v : Int32) (to : Nat) (d1 d3 d4 d5 d6 d7 d8 : Int32) (cy : Nat → Int32) : Prop :=
  (∃ p T d, p ≤ n ∧ L ≤ p ∧ curP t n p k s e v ∧ tlP T to ∧ dX d d1 d3 d4 d5 d6 d7 d8 cy ∧ t1 = 0 ∧ t2 = -1 ∧ goT t n d00 p L T d) ∨ (∃ f q, ¬ f = 0 ∧ f ≤ 3 ∧ t1 = nI f ∧ t2 = nI q ∧ prE t n 0 0 (fun _ => False) d00 f q 0 d00)
def rdX (t : Nat → Int32) (n : Nat) (r t1 t2 d1 d3 d4 d5 d6 d7 d8 : Int32) (cy : Nat → Int32) : Prop :=
  (∃ M d, M ≤ 300 ∧ prE t n 0 0 (fun _ => False) d00 0 0 M d ∧ r = nI M ∧ t1 = 0 ∧ t2 = -1 ∧ dX d d1 d3 d4 d5 d6 d7 d8 cy) ∨ (∃ f q, ¬ f = 0 ∧ f ≤ 3 ∧ prE t n 0 0 (fun _ => False) d00 f q 0 d00 ∧ r = -1 ∧ t1 = nI f ∧ t2 = nI q)
section RD
variable {t : Nat → Int32} {n L s e to : Nat} {t1 t2 k v d1 d3 d4 d5 d6 d7 d8 : Int32} {cy : Nat → Int32}
theorem rd_0 (hc : curP t n 0 k s e v) (h8 : cy 0 = 2) : rdI t n 0 0 (-1) k s e v 0 1 100 7 14 3 1 8 cy :=
  Or.inl ⟨0, fun _ => False, d00, Nat.zero_le n, Nat.le_refl 0, hc, tl_0, ⟨⟨rfl, rfl, rfl, rfl, rfl, rfl, rfl⟩, 1, rfl, by decide, by decide, fun j hj => by rw [show j = 0 by omega]; exact h8⟩, rfl, rfl, go_0⟩
theorem rd_end (h : rdI t n L t1 t2 k s e v to d1 d3 d4 d5 d6 d7 d8 cy) (hn : n ≤ 300) (hk : k = 0) (h1 : t1 = 0) : rdX t n (nI L) t1 t2 d1 d3 d4 d5 d6 d7 d8 cy := by
  rcases h with ⟨p, T, d, a1, a2, a3, a4, a5, a6, a7, a8⟩ | ⟨f, q, b1, b2, b3, b4, b5⟩
  · exact Or.inl ⟨L, d, by omega, go_end a8 ((cur_k a3 (c := 0) (by decide)).mp hk), rfl, a6, a7, a5⟩
  · exact absurd (b3.symm.trans h1) (nI_n0 b2 b1)
theorem rd_bad (h : rdI t n L t1 t2 k s e v to d1 d3 d4 d5 d6 d7 d8 cy) (h1 : ¬ t1 = 0) : rdX t n (-1) t1 t2 d1 d3 d4 d5 d6 d7 d8 cy := by
  rcases h with ⟨p, T, d, a1, a2, a3, a4, a5, a6, a7, a8⟩ | ⟨f, q, b1, b2, b3, b4, b5⟩
  · exact absurd a6 h1
  · exact Or.inr ⟨f, q, b1, b2, b5, rfl, b3, b4⟩
theorem rd_good (h : rdI t n L t1 t2 k s e v to d1 d3 d4 d5 d6 d7 d8 cy) (h1 : t1 = 0) : ∃ p T d, p ≤ n ∧ L ≤ p ∧ curP t n p k s e v ∧ tlP T to ∧ dX d d1 d3 d4 d5 d6 d7 d8 cy ∧ t1 = 0 ∧ t2 = -1 ∧ goT t n d00 p L T d :=
  h.resolve_right (fun ⟨_, _, b1, b2, b3, _⟩ => absurd (b3.symm.trans h1) (nI_n0 b2 b1))
theorem rd_no (h : rdI t n L t1 t2 k s e v to d1 d3 d4 d5 d6 d7 d8 cy) (h1 : t1 = 0) (hk : ¬ k = 0) : L < n := by
  obtain ⟨p, T, d, a1, a2, a3, -⟩ := rd_good h h1
  have := tK_lt (t := t) (n := n) (p := p) (fun q => hk ((cur_k a3 (c := 0) (by decide)).mpr q))
  have := tS_ge (t := t) (n := n) (p := p)
  omega
/-- a line that doesn't begin -/
theorem rd_1 {p f : Nat} {T : Nat → Prop} {d : Nat → Int32} {a b k' v' : Int32} {s' e' to' : Nat} (hg : goT t n d00 p L T d) (hk : ¬ tK t n p = 0) (hf : ¬ f = 0) (hf3 : f ≤ 3) (hl : lnP t n p T d f (tS t n p) d) {t1' t2' : Int32} (h1 : t1' = nI f) (h2 : t2' = nI (tS t n p)) {m : Nat} (he : enX t n m t1' t2' a b k' s' e' v') : rdI t n (L + 1) a b k' s' e' v' to' d1 d3 d4 d5 d6 d7 d8 cy := by
  rcases he with ⟨-, x2, x3⟩ | ⟨x1, -⟩ | ⟨x1, -⟩
  · exact Or.inr ⟨f, _, hf, hf3, x2.trans h1, x3.trans h2, go_bad hg hk hl hf⟩
  · exact absurd (h1.symm.trans x1) (nI_n0 hf3 hf)
  · exact absurd (h1.symm.trans x1) (nI_n0 hf3 hf)
theorem rd_2 {p f q : Nat} {T : Nat → Prop} {d d' : Nat → Int32} {a b k' v' t1' t2' k9 v9 : Int32} {s' e' s9 e9 to' : Nat} (hp : p ≤ n) (hL : L ≤ p) (hg : goT t n d00 p L T d) (hk : ¬ tK t n p = 0) (hT : tlP T to) (hlw : lw (tW t n p)) (hb : to.testBit (lx (tW t n p)) = false) (ht : to' = to ||| 2 ^ lx (tW t n p)) (hf3 : f ≤ 3) (hr : rsP t n (tW t n p) (tE t n p) d f q d') (hz : (¬ f = 0 ∧ t1' = nI f ∧ t2' = nI q) ∨ (f = 0 ∧ t1' = 0 ∧ t2' = -1 ∧ curP t n q k9 s9 e9 v9 ∧ q ≤ n ∧ tE t n p ≤ q ∧ dX d' d1 d3 d4 d5 d6 d7 d8 cy)) (he : enX t n q t1' t2' a b k' s' e' v') : rdI t n (L + 1) a b k' s' e' v' to' d1 d3 d4 d5 d6 d7 d8 cy := by
  have hnt : ¬ T (tW t n p) := fun z => by rw [(hT _ hlw).mp z] at hb; exact absurd hb (by decide)
  have hln : ∀ f2 q2, reP t n (tW t n p) (tE t n p) d f2 q2 d' → lnP t n p T d f2 q2 d' := fun f2 q2 z => Or.inr (Or.inr ⟨hlw, hnt, z⟩)
  rcases hz with ⟨z1, z2, z3⟩ | ⟨z1, z2, z3, z4, z5, z6, z7⟩
  · rcases he with ⟨-, x2, x3⟩ | ⟨x1, -⟩ | ⟨x1, -⟩
    · exact Or.inr ⟨f, q, z1, hf3, x2.trans z2, x3.trans z3, go_bad hg hk (hln f q ⟨f, q, hr, Or.inl ⟨z1, rfl, rfl⟩⟩) z1⟩
    · exact absurd (z2.symm.trans x1) (nI_n0 hf3 z1)
    · exact absurd (z2.symm.trans x1) (nI_n0 hf3 z1)
  · subst z1
    rcases he with ⟨x1, -⟩ | ⟨x1, x2, x3, x4, x5⟩ | ⟨x1, x2, x3, x4⟩
    · exact absurd z2 x1
    · have g1 := tE_gt (t := t) (n := n) (p := p) hk
      have g2 := tS_ge (t := t) (n := n) (p := p)
      have g3 := tE_gt (t := t) (n := n) (p := q) (by omega)
      have g4 := tS_ge (t := t) (n := n) (p := q)
      refine Or.inl ⟨tE t n q, tdU T (tW t n p), d', tE_le z5, by omega, x5, ?_, z7, x3.trans z2, x4.trans z3, go_on hg hk (hln 0 _ ⟨0, q, hr, Or.inr ⟨rfl, Or.inl ⟨x2, rfl, rfl⟩⟩⟩)⟩
      rw [ht]; exact tl_u hT hlw
    · exact Or.inr ⟨1, tS t n q, by decide, by decide, x3, x4, go_bad hg hk (hln 1 _ ⟨0, q, hr, Or.inr ⟨rfl, Or.inr ⟨x2, rfl, rfl⟩⟩⟩) (by decide)⟩
theorem rs_cur {f q : Nat} {t1' t2' k9 v9 : Int32} {s9 e9 : Nat} {P : Prop} (hf3 : f ≤ 3) (hz : (¬ f = 0 ∧ t1' = nI f ∧ t2' = nI q) ∨ (f = 0 ∧ t1' = 0 ∧ t2' = -1 ∧ curP t n q k9 s9 e9 v9 ∧ q ≤ n ∧ P)) : t1' = 0 → (q ≤ n ∧ curP t n q k9 s9 e9 v9) := by
  intro h
  rcases hz with ⟨z1, z2, -⟩ | ⟨-, -, -, z4, z5, -⟩
  · exact absurd (z2.symm.trans h) (nI_n0 hf3 z1)
  · exact ⟨z5, z4⟩
end RD

