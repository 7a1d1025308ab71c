/-! Paying: numbers of 32 bits. -/
def iv (f : Nat → Int32) : Nat → Int := fun k => (f k).toInt
def nv (f : Nat → Int32) : Nat → Nat := fun k => (f k).toNatClampNeg
theorem ti_add {x y : Int32} {a b : Int} (hx : x.toInt = a) (hy : y.toInt = b) (h : -100000000 ≤ a + b ∧ a + b ≤ 100000000) : (x + y).toInt = a + b := by
  rw [Int32.toInt_add, hx, hy, Int.bmod_eq_of_le (by omega) (by omega)]
theorem ti_sub {x y : Int32} {a b : Int} (hx : x.toInt = a) (hy : y.toInt = b) (h : -100000000 ≤ a - b ∧ a - b ≤ 100000000) : (x - y).toInt = a - b := by
  rw [Int32.toInt_sub, hx, hy, Int.bmod_eq_of_le (by omega) (by omega)]
theorem ti_0 : (0 : Int32).toInt = 0 := by decide
theorem pw2 (e : Nat) : 2 ^ (e + 1) = 2 ^ e + 2 ^ e := by rw [Nat.pow_succ]; omega
theorem pw32 {e : Nat} (h : e < 6) : 2 ^ e ≤ 32 := Nat.le_trans (Nat.pow_le_pow_right (by decide) (show e ≤ 5 by omega)) (by decide)
theorem pw128 {e : Nat} (h : e < 8) : 2 ^ e ≤ 128 := Nat.le_trans (Nat.pow_le_pow_right (by decide) (show e ≤ 7 by omega)) (by decide)
theorem sh2 {n : Nat} (h : n ≤ 16) : (2 : Int32) <<< (nI n &&& 31) = nI (2 ^ (n + 1)) := by
  have : ∀ n, n < 17 → (2 : Int32) <<< (nI n &&& 31) = nI (2 ^ (n + 1)) := by decide +kernel
  exact this n (by omega)
theorem or_pw {o e : Nat} (h : o < 2 ^ e) : nI o ||| nI (2 ^ e) = nI (2 ^ e + o) := by rw [nI_or, Nat.or_comm, py_or h]
theorem or_0 (b : Nat) : nI b ||| 0 = nI b := by rw [show (0 : Int32) = nI 0 from rfl, nI_or, Nat.or_zero]
/-- legacies: coins and ends in their bounds -/
def lgP (co en : Nat → Int32) (n : Nat) : Prop := ∀ k, k < n → (0 ≤ iv co k ∧ iv co k ≤ 9999) ∧ vp_in (en k) 64
def ndP (ne : Nat → Int32) : Prop := ∀ k, k < 6 → 0 ≤ iv ne k ∧ iv ne k ≤ 9999
theorem nv_I {en : Nat → Int32} {k : Nat} (h : vp_in (en k) 64) : en k = nI (nv en k) ∧ nv en k < 64 := by
  obtain ⟨j, hj, e⟩ := vp_in_of h (by decide)
  unfold nv
  rw [e, nI_clamp (by omega)]
  exact ⟨rfl, hj⟩
theorem hit_i {en : Nat → Int32} {k S : Nat} (h : vp_in (en k) 64) : (en k &&& nI S = 0) ↔ nv en k &&& S = 0 := by
  obtain ⟨e, hl⟩ := nv_I h
  have h1 : nv en k &&& S < 2 ^ 31 := Nat.lt_of_le_of_lt Nat.and_le_left (by omega)
  constructor
  · intro c
    rw [e, fa_and] at c
    exact (nI_eq h1 (by decide)).mp c
  · intro c
    rw [e, fa_and, c]; rfl
theorem hit_i2 {en : Nat → Int32} {k S : Nat} (h : vp_in (en k) 64) : (nI S &&& en k = 0) ↔ nv en k &&& S = 0 := by
  rw [Int32.and_comm]; exact hit_i h
section CC
variable {co en : Nat → Int32} {n S i : Nat} {a : Int32}
theorem cc_b (hl : lgP co en n) (hn : n ≤ 8) (hi : i ≤ n) : 0 ≤ py_c (iv co) (nv en) S i ∧ py_c (iv co) (nv en) S i ≤ 79992 := by
  have := py_c_bd (co := iv co) (en := nv en) (S := S) (B := 9999) (by decide) (m := i) (fun k hk => (hl k (by omega)).1)
  omega
theorem cc_y (h : a.toInt = py_c (iv co) (nv en) S i) (hl : lgP co en n) (hn : n ≤ 8) (hi : i < n) (c : ¬ en i &&& nI S = 0) : (a + co i).toInt = py_c (iv co) (nv en) S (i + 1) := by
  have h1 := cc_b (S := S) hl hn (Nat.le_of_lt hi)
  have h2 := (hl i hi).1
  rw [py_c_y (fun q => c ((hit_i (hl i hi).2).mpr q)), ti_add h (show (co i).toInt = iv co i from rfl) (by omega)]
theorem cc_n (h : a.toInt = py_c (iv co) (nv en) S i) (hl : lgP co en n) (hi : i < n) (c : en i &&& nI S = 0) : (a + 0).toInt = py_c (iv co) (nv en) S (i + 1) := by
  rw [py_c_n ((hit_i (hl i hi).2).mp c), Int32.add_zero]; exact h
end CC
section NN
variable {ne : Nat → Int32} {S i m : Nat} {a : Int32}
def bdP (f : Nat → Int32) (m : Nat) (B : Int) : Prop := ∀ k, k < m → -B ≤ iv f k ∧ iv f k ≤ B
theorem nn_y {B : Int} (h : a.toInt = py_b (iv ne) S i) (hb : bdP ne m B) (hB : 0 ≤ B ∧ B ≤ 1000000) (hm : m ≤ 8) (hi : i < m) (c : S.testBit i = true) : (a + ne i).toInt = py_b (iv ne) S (i + 1) := by
  have h1 := py_b_bd (g := iv ne) (S := S) hB.1 (m := i) (fun k hk => hb k (by omega))
  have h2 := hb i hi
  have h3 : B * (i : Int) ≤ 8000000 := Int.le_trans (Int.mul_le_mul hB.2 (show (i : Int) ≤ 8 by omega) (by omega) (by decide)) (by decide)
  rw [py_b_t c, ti_add h (show (ne i).toInt = iv ne i from rfl) (by omega)]
theorem nn_n (h : a.toInt = py_b (iv ne) S i) (c : ¬ S.testBit i = true) : (a + 0).toInt = py_b (iv ne) S (i + 1) := by
  rw [py_b_f (Bool.eq_false_iff.mpr c), Int32.add_zero]; exact h
theorem ns_y {B x : Int} (h : a.toInt = x - py_b (iv ne) S i) (hb : bdP ne m B) (hB : 0 ≤ B ∧ B ≤ 1000000) (hx : -1000000 ≤ x ∧ x ≤ 1000000) (hm : m ≤ 8) (hi : i < m) (c : S.testBit i = true) : (a - ne i).toInt = x - py_b (iv ne) S (i + 1) := by
  have h1 := py_b_bd (g := iv ne) (S := S) hB.1 (m := i) (fun k hk => hb k (by omega))
  have h2 := hb i hi
  have h3 : B * (i : Int) ≤ 8000000 := Int.le_trans (Int.mul_le_mul hB.2 (show (i : Int) ≤ 8 by omega) (by omega) (by decide)) (by decide)
  rw [py_b_t c, ti_sub h (show (ne i).toInt = iv ne i from rfl) (by omega)]; omega
theorem ns_n {x : Int} (h : a.toInt = x - py_b (iv ne) S i) (c : ¬ S.testBit i = true) : (a - 0).toInt = x - py_b (iv ne) S (i + 1) := by
  rw [py_b_f (Bool.eq_false_iff.mpr c), Int32.sub_zero]; exact h
end NN
theorem nd_bd {ne : Nat → Int32} (h : ndP ne) : bdP ne 6 9999 := fun k hk => ⟨by have := h k hk; omega, (h k hk).2⟩
theorem iv_cong {f : Nat → Int32} {e : Nat} {x : Int32} {j : Nat} (hj : j ≤ e) : ∀ k, k < j → iv f k = iv (upd f e x) k := fun k hk => by
  unfold iv; rw [pk_un (by omega)]
theorem iv_us {f : Nat → Int32} {e : Nat} {x : Int32} : iv (upd f e x) e = x.toInt := by unfold iv; rw [pk_us]
theorem gr_push {f a : Nat → Int} {r : Nat → Int32} {e i : Nat} {x : Int32} (h : grP f a (iv r) e) (hm : mnP (fun S => f S - py_b (iv r) S e) (a e) (2 ^ e) i x.toInt) (hi : i = 2 ^ (e + 1)) : grP f a (iv (upd r e x)) (e + 1) := by
  intro k hk
  by_cases q : k = e
  · subst q
    rw [iv_us, ← hi]
    have : (fun S => f S - py_b (iv (upd r k x)) S k) = (fun S => f S - py_b (iv r) S k) := by
      funext S; rw [py_b_congf (g := iv r) (g' := iv (upd r k x)) (iv_cong (Nat.le_refl k))]
    rw [this]; exact hm
  · have h1 := h k (by omega)
    have h2 : iv (upd r e x) k = iv r k := (iv_cong (Nat.le_refl e) k (by omega)).symm
    have : (fun S => f S - py_b (iv (upd r e x)) S k) = (fun S => f S - py_b (iv r) S k) := by
      funext S; rw [py_b_congf (g := iv r) (g' := iv (upd r e x)) (iv_cong (by omega))]
    rw [h2, this]; exact h1
abbrev fC (co en : Nat → Int32) (n : Nat) : Nat → Int := fun S => py_c (iv co) (nv en) S n
abbrev fU (ge en : Nat → Int32) (n : Nat) : Nat → Int := fun L => py_b (iv ge) (py_u (nv en) L n) 6
abbrev vP (ne co en : Nat → Int32) (n : Nat) : Nat → Int := fun S => py_b (iv ne) S 6 - py_c (iv co) (nv en) S n
def dealP (ne co en : Nat → Int32) (n : Nat) (ge pa : Nat → Int32) : Prop := grP (fC co en n) (iv ne) (iv ge) 6 ∧ grP (fU ge en n) (iv co) (iv pa) n
theorem gd_C {co en : Nat → Int32} {n : Nat} (hl : lgP co en n) : gdF (fC co en n) := gd_c (fun k hk => (hl k hk).1.1)
theorem ge_bd {ne co en ge : Nat → Int32} {n e : Nat} (hl : lgP co en n) (hn : ndP ne) (he : e ≤ 6) (h : grP (fC co en n) (iv ne) (iv ge) e) : ∀ k, k < e → 0 ≤ iv ge k ∧ iv ge k ≤ iv ne k ∧ iv ge k ≤ 9999 := fun k hk => by
  have h1 := gr_nn (gd_C hl) (fun k hk => (hn k (by omega)).1) h k hk
  have h2 := (hn k (by omega)).2
  omega
theorem ge_b {ne co en ge : Nat → Int32} {n e : Nat} (hl : lgP co en n) (hn : ndP ne) (he : e ≤ 6) (h : grP (fC co en n) (iv ne) (iv ge) e) : bdP ge e 9999 := fun k hk => by
  have := ge_bd hl hn he h k hk
  omega
theorem pa_bd {co en ge pa : Nat → Int32} {n e : Nat} (hl : lgP co en n) (hg : ∀ k, k < 6 → 0 ≤ iv ge k) (he : e ≤ n) (h : grP (fU ge en n) (iv co) (iv pa) e) : ∀ k, k < e → 0 ≤ iv pa k ∧ iv pa k ≤ iv co k ∧ iv pa k ≤ 9999 := fun k hk => by
  have h1 := gr_nn (gd_u (g := iv ge) (en := nv en) (n := n) (m := 6) hg) (fun k hk => (hl k (by omega)).1.1) h k hk
  have h2 := (hl k (by omega)).1.2
  omega
theorem pa_b {co en ge pa : Nat → Int32} {n e : Nat} (hl : lgP co en n) (hg : ∀ k, k < 6 → 0 ≤ iv ge k) (he : e ≤ n) (h : grP (fU ge en n) (iv co) (iv pa) e) : bdP pa e 9999 := fun k hk => by
  have := pa_bd hl hg he h k hk
  omega
theorem dl_y {f a : Nat → Int} {g : Nat → Int} {e S i : Nat} {l2 l4 : Int32} (hM : mnP (fun S => f S - py_b g S e) (a e) (2 ^ e) S l2.toInt) (hs : 2 ^ e ≤ S) (hL : l4.toInt = f S - py_b g S i) (hi : i = e) (c : ¬ l2 ≤ l4) : mnP (fun S => f S - py_b g S e) (a e) (2 ^ e) (S + 1) l4.toInt := by
  subst hi
  exact mnP_y hM hs hL (Int.not_le.mp (fun q => c (Int32.le_iff_toInt_le.mpr q)))
theorem dl_n {f a : Nat → Int} {g : Nat → Int} {e S i : Nat} {l2 l4 : Int32} (hM : mnP (fun S => f S - py_b g S e) (a e) (2 ^ e) S l2.toInt) (hL : l4.toInt = f S - py_b g S i) (hi : i = e) (c : l2 ≤ l4) : mnP (fun S => f S - py_b g S e) (a e) (2 ^ e) (S + 1) l2.toInt := by
  subst hi
  exact mnP_n hM hL (Int.not_lt.mpr (Int32.le_iff_toInt_le.mp c))
theorem pu_y {en : Nat → Int32} {b L k : Nat} (h : b = py_u (nv en) L k) (c : L.testBit k = true) : b ||| nv en k = py_u (nv en) L (k + 1) := by
  rw [py_u_s, if_pos c, h]
theorem pu_n {en : Nat → Int32} {b L k : Nat} (h : b = py_u (nv en) L k) (c : ¬ L.testBit k = true) : b = py_u (nv en) L (k + 1) := by
  rw [py_u_s, if_neg c, Nat.or_zero, h]
theorem or_en {en : Nat → Int32} {b k : Nat} (h : vp_in (en k) 64) : nI b ||| en k = nI (b ||| nv en k) := by
  have e : nI b ||| en k = nI b ||| nI (nv en k) := congrArg _ (nv_I h).1
  rw [e, nI_or]
/-- what a sum of 32 bits counts -/
def sI (f : Nat → Int32) : Nat → Int32
  | 0 => 0
  | k + 1 => sI f k + f k
theorem sI_cong {f g : Nat → Int32} : ∀ {m : Nat}, (∀ k, k < m → f k = g k) → sI f m = sI g m
  | 0, _ => rfl
  | k + 1, h => by
    show sI f k + f k = sI g k + g k
    rw [h k (Nat.lt_succ_self k), sI_cong (fun j hj => h j (Nat.lt_succ_of_lt hj))]
def sbP (f old t : Nat → Int32) (i : Nat) : Prop := ∀ k, f k = if k < i then old k - t k else old k
theorem sb_0 {f t : Nat → Int32} : sbP f f t 0 := fun k => by rw [if_neg (Nat.not_lt_zero k)]
theorem sb_s {f old t : Nat → Int32} {i : Nat} (h : sbP f old t i) : sbP (upd f i (f i - t i)) old t (i + 1) := by
  intro k
  by_cases q : k = i
  · subst q
    rw [pk_us, if_pos (Nat.lt_succ_self k), h k, if_neg (Nat.lt_irrefl k)]
  · rw [pk_un q, h k]
    by_cases z : k < i
    · rw [if_pos z, if_pos (by omega)]
    · rw [if_neg z, if_neg (by omega)]
theorem sb_e {f old t : Nat → Int32} {i m : Nat} (h : sbP f old t i) (e : i = m) : sbP f old t m := e ▸ h
theorem sb_eq {f g old t u : Nat → Int32} {m : Nat} (h : sbP f old t m) (h' : sbP g old u m) (e : ∀ k, k < m → t k = u k) : f = g := by
  funext k
  rw [h k, h' k]
  by_cases z : k < m
  · rw [if_pos z, if_pos z, e k z]
  · rw [if_neg z, if_neg z]
/-! the class' chest -/
def slP (f fa : Nat → Int32) (n : Nat) : Prop := ∀ S, S < n → (f S).toInt = py_b (iv fa) S 6
theorem sl_0 {f fa : Nat → Int32} : slP (upd f 0 0) fa (2 ^ 0) := by
  intro S hS
  have : S = 0 := by simpa using hS
  subst this
  rw [pk_us, py_b_zero]; decide
theorem sl_s {f fa : Nat → Int32} {e o : Nat} (he : e < 6) (ho : o < 2 ^ e) (hb : bdP fa 6 1000000) (h : slP f fa (2 ^ e + o)) : slP (upd f (2 ^ e + o) (f o + fa e)) fa (2 ^ e + (o + 1)) := by
  intro S hS
  by_cases q : S = 2 ^ e + o
  · subst q
    have h1 := h o (by omega)
    have h2 := py_b_bd (g := iv fa) (S := o) (B := 1000000) (by decide) (m := 6) hb
    have h3 := hb e he
    rw [pk_us, ti_add h1 (show (fa e).toInt = iv fa e from rfl) (by omega), ← py_or ho, py_b_add ho he]
  · rw [pk_un q]; exact h S (by omega)
theorem sl_e {f fa : Nat → Int32} {a b : Nat} (h : slP f fa a) (e : b = a) : slP f fa b := by rw [e]; exact h
def lsP (f old co en : Nat → Int32) (j i : Nat) : Prop := ∀ S, f S = if S < i ∧ ¬ nv en j &&& S = 0 then old S - co j else old S
theorem ls_0 {f co en : Nat → Int32} {j : Nat} : lsP f f co en j 1 := fun S => by
  rw [if_neg (fun h => h.2 (by rw [show S = 0 by omega, Nat.and_zero]))]
theorem ls_y {f old co en : Nat → Int32} {j i : Nat} (h : lsP f old co en j i) (he : vp_in (en j) 64) (c : ¬ nI i &&& en j = 0) : lsP (upd f i (f i - co j)) old co en j (i + 1) := by
  intro S
  by_cases q : S = i
  · subst q
    rw [pk_us, if_pos ⟨Nat.lt_succ_self S, fun z => c ((hit_i2 he).mpr z)⟩, h S, if_neg (fun z => Nat.lt_irrefl S z.1)]
  · rw [pk_un q, h S]
    by_cases z : S < i ∧ ¬ nv en j &&& S = 0
    · rw [if_pos z, if_pos ⟨by omega, z.2⟩]
    · rw [if_neg z, if_neg (fun y => z ⟨by omega, y.2⟩)]
theorem ls_n {f old co en : Nat → Int32} {j i : Nat} (h : lsP f old co en j i) (he : vp_in (en j) 64) (c : nI i &&& en j = 0) : lsP f old co en j (i + 1) := by
  intro S
  rw [h S]
  by_cases z : S < i ∧ ¬ nv en j &&& S = 0
  · rw [if_pos z, if_pos ⟨by omega, z.2⟩]
  · rw [if_neg z, if_neg (fun y => z ⟨by
      have : S ≠ i := fun q => by subst q; exact y.2 ((hit_i2 he).mp c)
      omega, y.2⟩)]
theorem ls_e {f old co en : Nat → Int32} {j i : Nat} (h : lsP f old co en j i) (e : i = 64) : ∀ S, S < 64 → f S = if nv en j &&& S = 0 then old S else old S - co j := fun S hS => by
  rw [h S]
  by_cases z : nv en j &&& S = 0
  · rw [if_neg (fun y => y.2 z), if_pos z]
  · rw [if_pos ⟨by omega, z⟩, if_neg z]
/-- the row of lacks, with the first i legacies' coins off -/
def lkP (f fa co en : Nat → Int32) (i : Nat) : Prop := ∀ S, S < 64 → (f S).toInt = py_b (iv fa) S 6 - py_c (iv co) (nv en) S i
theorem lk_0 {f fa co en : Nat → Int32} (h : slP f fa 64) : lkP f fa co en 0 := fun S hS => by
  rw [h S hS]; exact (Int.sub_zero _).symm
theorem lk_s {f g fa co en : Nat → Int32} {i n : Nat} (h : lkP f fa co en i) (hb : bdP fa 6 1000000) (hl : lgP co en n) (hn : n ≤ 8) (hi : i < n) (hs : ∀ S, S < 64 → g S = if nv en i &&& S = 0 then f S else f S - co i) : lkP g fa co en (i + 1) := by
  intro S hS
  have h1 := h S hS
  rw [hs S hS]
  split
  · rename_i z; rw [h1, py_c_n z]
  · rename_i z
    have h2 := py_b_bd (g := iv fa) (S := S) (B := 1000000) (by decide) (m := 6) hb
    have h3 := cc_b (S := S) hl hn (Nat.le_of_lt hi)
    have h4 := (hl i hi).1
    rw [ti_sub h1 (show (co i).toInt = iv co i from rfl) (by omega), py_c_y z]; omega
def mxE (v : Nat → Int) (hi : Nat) (M : Int) : Prop := ∃ P, mxL v hi M P
theorem gl_s {f : Nat → Int32} {i : Nat} {l v : Int32} (h : mxE (iv f) i l.toInt) (e : v = if l < f i then f i else l) : mxE (iv f) (i + 1) v.toInt := by
  obtain ⟨P, h⟩ := h
  rw [e]
  split
  · rename_i c; exact ⟨i, mxL_y h rfl (Int32.lt_iff_toInt_lt.mp c)⟩
  · rename_i c; exact ⟨P, mxL_n h rfl (fun q => c (Int32.lt_iff_toInt_lt.mpr q))⟩
/-- the class' plan of the ends, the first e of them -/
def peP (ne co en : Nat → Int32) (n : Nat) (te : Nat → Int32) (e : Nat) : Prop := ∀ j, j ≤ e → mxP (vP ne co en n) (2 ^ j) (py_p (iv ne) j - py_p (iv te) j)
def pfP (te co en : Nat → Int32) (n : Nat) (fl : Nat → Int32) (e : Nat) : Prop := ∀ j, 0 < j → j ≤ e → mxP (vP te co en j) 64 (py_p (iv te) 6 - py_p (iv fl) j)
def mxF (v : Nat → Int) (hi : Nat) (M p : Int32) : Prop := ∃ P, p = nI P ∧ mxL v hi M.toInt P
section PE
variable {ne co en te : Nat → Int32} {n e : Nat}
theorem vP_0 : vP ne co en n 0 = 0 := by show py_b _ 0 6 - py_c _ _ 0 n = 0; rw [py_b_zero, py_c_zero]; rfl
theorem vP_b (hn : ndP ne) (hl : lgP co en n) (h8 : n ≤ 8) (S : Nat) : -79992 ≤ vP ne co en n S ∧ vP ne co en n S ≤ 59994 := by
  have h1 := py_b_bd (g := iv ne) (S := S) (B := 9999) (by decide) (m := 6) (nd_bd hn)
  have h2 := cc_b (S := S) hl h8 (Nat.le_refl n)
  have h3 := py_b_nn (g := iv ne) (S := S) (m := 6) (fun k hk => (hn k hk).1)
  show -79992 ≤ py_b (iv ne) S 6 - py_c (iv co) (nv en) S n ∧ py_b (iv ne) S 6 - py_c (iv co) (nv en) S n ≤ 59994
  omega
theorem mx_b {hi : Nat} {M : Int} (hn : ndP ne) (hl : lgP co en n) (h8 : n ≤ 8) (hh : 0 < hi) (h : mxP (vP ne co en n) hi M) : 0 ≤ M ∧ M ≤ 59994 := by
  obtain ⟨S, s1, s2⟩ := h.2
  have h1 := vP_b hn hl h8 S
  have h2 := h.1 0 hh
  rw [vP_0] at h2
  omega
theorem pn_b (hn : ndP ne) {j : Nat} (hj : j ≤ 6) : 0 ≤ py_p (iv ne) j ∧ py_p (iv ne) j ≤ 59994 := by
  have h1 := py_p_bd (g := iv ne) (B := 9999) (by decide) (m := j) (fun k hk => nd_bd hn k (by omega))
  have h2 : 0 ≤ py_p (iv ne) j := by
    rw [← py_b_full (g := iv ne) (S := 2 ^ j - 1) (m := j) (fun k hk => by rw [Nat.testBit_two_pow_sub_one, decide_eq_true hk])]
    exact py_b_nn (fun k hk => (hn k (by omega)).1)
  omega
theorem pt_b (hn : ndP ne) (hl : lgP co en n) (h8 : n ≤ 8) (h : peP ne co en n te e) {j : Nat} (hj : j ≤ e) (he : e ≤ 6) : -59994 ≤ py_p (iv te) j ∧ py_p (iv te) j ≤ 59994 := by
  have h1 := mx_b hn hl h8 (Nat.pow_pos (by decide)) (h j hj)
  have h2 := pn_b hn (show j ≤ 6 by omega)
  omega
theorem te_b (hn : ndP ne) (hl : lgP co en n) (h8 : n ≤ 8) (h : peP ne co en n te 6) : bdP te 6 1000000 := by
  intro k hk
  have h1 := pt_b hn hl h8 h (show k ≤ 6 by omega) (Nat.le_refl 6)
  have h2 := pt_b hn hl h8 h (show k + 1 ≤ 6 by omega) (Nat.le_refl 6)
  rw [py_p_s] at h2
  omega
theorem pe_0 : peP ne co en n te 0 := by
  intro j hj
  have : j = 0 := by omega
  subst this
  exact ⟨fun S hS => by rw [show S = 0 by simpa using hS, vP_0]; exact Int.le_refl _, 0, by decide, vP_0⟩
theorem mf_0 : mxF (vP ne co en n) (2 ^ 0) 0 0 := ⟨0, rfl, by rw [ti_0]; exact mxL_0 vP_0⟩
theorem mf_y {f : Nat → Int32} {M p : Int32} {i : Nat} (h : mxF (vP ne co en n) i M p) (hf : (f i).toInt = vP ne co en n i) (c : ¬ f i ≤ M) : mxF (vP ne co en n) (i + 1) (f i) (nI i) := by
  obtain ⟨P, -, h⟩ := h
  exact ⟨i, rfl, mxL_y h hf (Int.not_le.mp (fun q => c (Int32.le_iff_toInt_le.mpr q)))⟩
theorem mf_n {f : Nat → Int32} {M p : Int32} {i : Nat} (h : mxF (vP ne co en n) i M p) (hf : (f i).toInt = vP ne co en n i) (c : f i ≤ M) : mxF (vP ne co en n) (i + 1) M p := by
  obtain ⟨P, e, h⟩ := h
  exact ⟨P, e, mxL_n h hf (Int.not_lt.mpr (Int32.le_iff_toInt_le.mp c))⟩
theorem mf_e {v : Nat → Int} {a b : Nat} {M p : Int32} (h : mxF v a M p) (e : b = a) : mxF v b M p := by rw [e]; exact h
theorem pe_n {l1 : Int32} (hn : ndP ne) (he : e < 6) (h1 : l1.toInt = py_p (iv ne) e) : (l1 + ne e).toInt = py_p (iv ne) (e + 1) := by
  have a1 := pn_b hn (show e ≤ 6 by omega)
  have a2 := hn e he
  rw [py_p_s, ti_add h1 (show (ne e).toInt = iv ne e from rfl) (by omega)]
theorem pe_s {l1 l2 M p : Int32} {i : Nat} (hn : ndP ne) (hl : lgP co en n) (h8 : n ≤ 8) (he : e < 6) (h : peP ne co en n te e) (hM : mxF (vP ne co en n) i M p) (hi : i = 2 ^ (e + 1)) (h1 : l1.toInt = py_p (iv ne) (e + 1)) (h2 : l2.toInt = py_p (iv te) e) : (l1 - M).toInt = py_p (iv (upd te e (l1 - M - l2))) (e + 1) ∧ peP ne co en n (upd te e (l1 - M - l2)) (e + 1) := by
  subst hi
  obtain ⟨P, -, hM⟩ := hM
  have b1 := mx_b hn hl h8 (Nat.pow_pos (by decide)) hM.mx
  have b2 := pn_b hn (show e + 1 ≤ 6 by omega)
  have b3 := pt_b hn hl h8 h (Nat.le_refl e) (by omega)
  have e1 : (l1 - M).toInt = py_p (iv ne) (e + 1) - M.toInt := ti_sub h1 rfl (by omega)
  have e2 : (l1 - M - l2).toInt = py_p (iv ne) (e + 1) - M.toInt - py_p (iv te) e := ti_sub e1 h2 (by omega)
  have e3 : py_p (iv (upd te e (l1 - M - l2))) (e + 1) = py_p (iv ne) (e + 1) - M.toInt := by
    rw [py_p_s, iv_us, e2, ← py_p_congf (iv_cong (f := te) (x := l1 - M - l2) (Nat.le_refl e))]; omega
  refine ⟨by rw [e3]; exact e1, fun j hj => ?_⟩
  by_cases q : j = e + 1
  · subst q
    rw [e3, show py_p (iv ne) (e + 1) - (py_p (iv ne) (e + 1) - M.toInt) = M.toInt by omega]
    exact hM.mx
  · rw [← py_p_congf (iv_cong (f := te) (x := l1 - M - l2) (show j ≤ e by omega))]
    exact h j (by omega)
end PE
theorem pf_s {te co en fl f : Nat → Int32} {n e : Nat} {l1 l2 r : Int32} (hb : bdP te 6 1000000) (hl : lgP co en n) (h8 : n ≤ 8) (he : e < n) (h : pfP te co en n fl e) (hk : lkP f te co en (e + 1)) (hM : mxE (iv f) 64 r.toInt) (h1 : l1.toInt = py_p (iv te) 6) (h2 : l2.toInt = py_p (iv fl) e) (hq : -20000000 ≤ py_p (iv fl) e ∧ py_p (iv fl) e ≤ 20000000) : (l1 - r).toInt = py_p (iv (upd fl e (l1 - r - l2))) (e + 1) ∧ pfP te co en n (upd fl e (l1 - r - l2)) (e + 1) ∧ (-20000000 ≤ py_p (iv (upd fl e (l1 - r - l2))) (e + 1) ∧ py_p (iv (upd fl e (l1 - r - l2))) (e + 1) ≤ 20000000) := by
  obtain ⟨P, hM⟩ := hM
  have hM2 : mxL (vP te co en (e + 1)) 64 r.toInt P := mxL_cong hM (fun S hS => hk S hS)
  have b1 := py_b_bd (g := iv te) (S := P) (B := 1000000) (by decide) (m := 6) hb
  have b2 := cc_b (S := P) hl h8 (show e + 1 ≤ n by omega)
  have b3 := py_p_bd (g := iv te) (B := 1000000) (by decide) (m := 6) hb
  have b4 : py_b (iv te) P 6 - py_c (iv co) (nv en) P (e + 1) = r.toInt := hM2.2.1
  have e1 : (l1 - r).toInt = py_p (iv te) 6 - r.toInt := ti_sub h1 rfl (by omega)
  have e2 : (l1 - r - l2).toInt = py_p (iv te) 6 - r.toInt - py_p (iv fl) e := ti_sub e1 h2 (by omega)
  have e3 : py_p (iv (upd fl e (l1 - r - l2))) (e + 1) = py_p (iv te) 6 - r.toInt := by
    rw [py_p_s, iv_us, e2, ← py_p_congf (iv_cong (f := fl) (x := l1 - r - l2) (Nat.le_refl e))]; omega
  refine ⟨by rw [e3]; exact e1, fun j hj0 hj => ?_, by rw [e3]; omega⟩
  by_cases q : j = e + 1
  · subst q
    rw [e3, show py_p (iv te) 6 - (py_p (iv te) 6 - r.toInt) = r.toInt by omega]
    exact hM2.mx
  · rw [← py_p_congf (iv_cong (f := fl) (x := l1 - r - l2) (show j ≤ e by omega))]
    exact h j hj0 (by omega)
theorem sl_63 {f fa : Nat → Int32} (h : slP f fa 64) : (f 63).toInt = py_p (iv fa) 6 := by
  rw [h 63 (by decide)]
  exact py_b_full (fun k hk => by rw [show (63 : Nat) = 2 ^ 6 - 1 from rfl, Nat.testBit_two_pow_sub_one, decide_eq_true hk])
def planP (ne co en : Nat → Int32) (n : Nat) (te fl : Nat → Int32) : Prop := peP ne co en n te 6 ∧ pfP te co en n fl n
theorem pe_e {ne co en te : Nat → Int32} {n e m : Nat} (h : peP ne co en n te e) (q : e = m) : peP ne co en n te m := q ▸ h
theorem pf_e {te co en fl : Nat → Int32} {n e m : Nat} (h : pfP te co en n fl e) (q : e = m) : pfP te co en n fl m := q ▸ h
theorem lk_e {f fa co en : Nat → Int32} {i m : Nat} (h : lkP f fa co en i) (q : i = m) : lkP f fa co en m := q ▸ h
theorem lk_z {f fa co en : Nat → Int32} {i : Nat} (h : lkP f fa co en i) : iv f 0 = 0 := by
  show (f 0).toInt = 0
  rw [h 0 (by decide), py_b_zero, py_c_zero]; rfl
theorem me_e {v : Nat → Int} {i m : Nat} {M : Int} (h : mxE v i M) (q : i = m) : mxE v m M := q ▸ h
theorem gl_0 {f : Nat → Int32} (h : iv f 0 = 0) : mxE (iv f) 1 (0 : Int32).toInt := by rw [ti_0]; exact ⟨0, mxL_0 h⟩
theorem pp0 {g : Nat → Int} : -20000000 ≤ py_p g 0 ∧ py_p g 0 ≤ 20000000 := by rw [show py_p g 0 = 0 from rfl]; decide
theorem nd_bm {ne : Nat → Int32} (h : ndP ne) : bdP ne 6 1000000 := fun k hk => by have := h k hk; omega
def lgQ (a : Nat) (co en : Nat → Int32) (q0 q1 r : Int32) (a' : Nat) (co' en' : Nat → Int32) : Prop := (r = -1 ∧ a' = a ∧ co' = co ∧ en' = en ∧ (a = 8 ∨ ¬ okL q0 q1)) ∨ (a < 8 ∧ okL q0 q1 ∧ a' = a + 1 ∧ r = nI a ∧ co' = upd co a q0 ∧ en' = upd en a q1)
theorem lgQ.old {a a' : Nat} {co en co' en' : Nat → Int32} {q0 q1 r : Int32} (h : lgQ a co en q0 q1 r a' co' en') : (r = -1 ∧ a' = a ∧ (a = 8 ∨ ¬ okL q0 q1)) ∨ (a < 8 ∧ okL q0 q1 ∧ a' = a + 1 ∧ r = nI a) :=
  h.imp (fun z => ⟨z.1, z.2.1, z.2.2.2.2⟩) (fun z => ⟨z.1, z.2.1, z.2.2.1, z.2.2.2.1⟩)
def ndQ (f : Nat → Int32) (ee q2 r : Int32) (f' : Nat → Int32) : Prop := r = (if okN ee q2 then 1 else 0) ∧ f' = (if okN ee q2 then upd f ee.toNatClampNeg q2 else f)
def nqP (n : Nat) (q k : Int32) : Prop := ¬ (q = 0 ∧ vp_in k 6) ∧ ¬ (q = 1 ∧ vp_in k n) ∧ ¬ q = 2 ∧ ¬ q = 3
theorem nq_0 {n : Nat} {q k : Int32} (h : q = 0) (hk : ¬ vp_in k 6) : nqP n q k := by
  subst h
  exact ⟨fun z => hk z.2, fun z => absurd z.1 (by decide), by decide, by decide⟩
theorem nq_1 {n : Nat} {q k : Int32} (h : q = 1) (hk : ¬ vp_in k n) : nqP n q k := by
  subst h
  exact ⟨fun z => absurd z.1 (by decide), fun z => hk z.2, by decide, by decide⟩
theorem nq_o {n : Nat} {q k : Int32} (h0 : ¬ q = 0) (h1 : ¬ q = 1) (h2 : ¬ q = 2) (h3 : ¬ q = 3) : nqP n q k := ⟨fun z => h0 z.1, fun z => h1 z.1, h2, h3⟩
theorem nq_lt {n : Nat} {q k : Int32} (h0 : ¬ q = 0) (h1 : ¬ q = 1) (h : q < 2) : nqP n q k := nq_o h0 h1 (fun z => by rw [z] at h; exact absurd h (by decide)) (fun z => by rw [z] at h; exact absurd h (by decide))
theorem nq_gt {n : Nat} {q k : Int32} (h0 : ¬ q = 0) (h1 : ¬ q = 1) (h : ¬ q ≤ 3) : nqP n q k := nq_o h0 h1 (fun z => h (by rw [z]; decide)) (fun z => h (by rw [z]; decide))
theorem q_3 {q : Int32} (h1 : ¬ q < 2) (h2 : q ≤ 3) (h3 : ¬ q = 2) : q = 3 := by
  have a := Int.not_lt.mp (fun z => h1 (Int32.lt_iff_toInt_lt.mpr z))
  have b := Int32.le_iff_toInt_le.mp h2
  have e2 : (2 : Int32).toInt = 2 := by decide
  have e3 : (3 : Int32).toInt = 3 := by decide
  have c : ¬ q.toInt = 2 := fun z => h3 (Int32.toInt_inj.mp (by rw [z, e2]))
  exact Int32.toInt_inj.mp (by omega)
def ocP (ne co en : Nat → Int32) (n : Nat) (te fl : Nat → Int32) (h4 h5 q k r : Int32) : Prop := (planP ne co en n te fl ∧ mxF (vP ne co en n) 64 h4 h5) ∧ ((q = 0 ∧ vp_in k 6 ∧ r = te k.toNatClampNeg) ∨ (q = 1 ∧ vp_in k n ∧ r = fl k.toNatClampNeg) ∨ (q = 2 ∧ r = h4) ∨ (q = 3 ∧ r = h5) ∨ (r = -1 ∧ nqP n q k))
def odP (ne co en : Nat → Int32) (n : Nat) (ge pa : Nat → Int32) (q k r : Int32) : Prop := (q = 0 ∧ vp_in k 6 ∧ dealP ne co en n ge pa ∧ r = ge k.toNatClampNeg) ∨ (q = 1 ∧ vp_in k n ∧ dealP ne co en n ge pa ∧ r = pa k.toNatClampNeg) ∨ (q = 2 ∧ mxE (vP ne co en n) 64 r.toInt) ∨ (q = 3 ∧ ∃ M P, r = nI P ∧ mxL (vP ne co en n) 64 M P) ∨ (r = -1 ∧ nqP n q k)
def pcP (ne co en : Nat → Int32) (n : Nat) (te fl ne' co' : Nat → Int32) (r : Int32) : Prop := planP ne co en n te fl ∧ r = sI te 6 ∧ sbP ne' ne te 6 ∧ sbP co' co fl n
def pdP (ne co en : Nat → Int32) (n : Nat) (ge pa ne' co' : Nat → Int32) (r : Int32) : Prop := dealP ne co en n ge pa ∧ r = sI ge 6 ∧ sbP ne' ne ge 6 ∧ sbP co' co pa n
section SH
variable {ne co en : Nat → Int32} {n i : Nat} {x y l : Int32}
theorem v_sub (hx : x.toInt = py_b (iv ne) i 6) (hy : y.toInt = py_c (iv co) (nv en) i n) (hn : ndP ne) (hl : lgP co en n) (h8 : n ≤ 8) : (x - y).toInt = vP ne co en n i := by
  have b := vP_b hn hl h8 i
  exact ti_sub hx hy (show -100000000 ≤ vP ne co en n i ∧ vP ne co en n i ≤ 100000000 by omega)
theorem me_0 : mxE (vP ne co en n) 1 (0 : Int32).toInt := by rw [ti_0]; exact ⟨0, mxL_0 vP_0⟩
theorem me_y (h : mxE (vP ne co en n) i l.toInt) (hx : x.toInt = vP ne co en n i) (c : ¬ x ≤ l) : mxE (vP ne co en n) (i + 1) x.toInt := by
  obtain ⟨P, h⟩ := h
  exact ⟨i, mxL_y h hx (Int.not_le.mp (fun q => c (Int32.le_iff_toInt_le.mpr q)))⟩
theorem me_n (h : mxE (vP ne co en n) i l.toInt) (hx : x.toInt = vP ne co en n i) (c : x ≤ l) : mxE (vP ne co en n) (i + 1) l.toInt := by
  obtain ⟨P, h⟩ := h
  exact ⟨P, mxL_n h hx (Int.not_lt.mpr (Int32.le_iff_toInt_le.mp c))⟩
def noP (ne co en : Nat → Int32) (n i : Nat) (l : Int32) : Prop := ∀ S, S < i → ¬ vP ne co en n S = l.toInt
theorem no_s (h : noP ne co en n i l) (hx : x.toInt = vP ne co en n i) (c : x ≠ l) : noP ne co en n (i + 1) l := by
  intro S hS
  by_cases q : S = i
  · rw [q, ← hx]; exact fun z => c (Int32.toInt_inj.mp z)
  · exact h S (by omega)
theorem no_e (h : noP ne co en n i l) (hm : mxE (vP ne co en n) 64 l.toInt) : ¬ 64 ≤ i := by
  intro q
  obtain ⟨P, h1, h2, -⟩ := hm
  exact h P (by omega) h2
theorem no_f (h : noP ne co en n i l) (hm : mxE (vP ne co en n) 64 l.toInt) (hi : i < 64) (hx : x.toInt = vP ne co en n i) (c : x = l) : ∃ M P, nI i = nI P ∧ mxL (vP ne co en n) 64 M P := by
  obtain ⟨P, h1, h2, h3, h4⟩ := hm
  refine ⟨l.toInt, i, rfl, hi, by rw [← hx, c], h3, fun S hS => ?_⟩
  have a := h3 S (by omega)
  have b := h S hS
  omega
end SH
/-! both sides -/
theorem pl_eq {ne co en ge pa te fl : Nat → Int32} {n : Nat} (hn : ndP ne) (hl : lgP co en n) (hd : dealP ne co en n ge pa) (hp : planP ne co en n te fl) : (∀ k, k < 6 → te k = ge k) ∧ (∀ k, k < n → fl k = pa k) := by
  have h1 : ∀ k, k < 6 → iv te k = iv ge k := py_ends (gd_C hl) (fun k hk => (hn k hk).1) hd.1 (fun j hj => hp.1 j hj)
  have hg : ∀ k, k < 6 → 0 ≤ iv ge k := fun k hk => (ge_bd hl hn (Nat.le_refl 6) hd.1 k hk).1
  have h2 : ∀ k, k < n → iv fl k = iv pa k := py_legs hg (fun k hk => (hl k hk).1.1) (fun k hk => (nv_I (hl k hk).2).2) hd.2 (fun i h0 hi => by
    have := hp.2 i h0 hi
    rw [py_p_congf h1] at this
    exact mx_cong this (fun S _ => by show py_b (iv te) S 6 - _ = py_b (iv ge) S 6 - _; rw [py_b_congf h1]))
  exact ⟨fun k hk => Int32.toInt_inj.mp (h1 k hk), fun k hk => Int32.toInt_inj.mp (h2 k hk)⟩
def payI (hn : Nat) (n28 n31 n32 : Nat → Int32) (ml : Nat) (mn mc me : Nat → Int32) : Prop := (hn = ml ∧ ml ≤ 8) ∧ (n28 = mn ∧ n31 = mc ∧ n32 = me) ∧ ndP mn ∧ lgP mc me ml
section LJ
variable {hn ml : Nat} {n28 n31 n32 mn mc me : Nat → Int32} {q q2 r1 r2 : Int32}
theorem lj_legacy {n1 n2 : Nat} {a1 b1 a2 b2 : Nat → Int32} (h : payI hn n28 n31 n32 ml mn mc me) (h1 : lgQ hn n31 n32 q q2 r1 n1 a1 b1) (h2 : lgQ ml mc me q q2 r2 n2 a2 b2) : payI n1 n28 a1 b1 n2 mn a2 b2 := by
  obtain ⟨⟨rfl, h8⟩, ⟨rfl, rfl, rfl⟩, hN, hL⟩ := h
  rcases h1 with ⟨x1, x2, x3, x4, x5⟩ | ⟨x1, x2, x3, x4, x5, x6⟩ <;> rcases h2 with ⟨y1, y2, y3, y4, y5⟩ | ⟨y1, y2, y3, y4, y5, y6⟩
  · subst x2; subst x3; subst x4; subst y2; subst y3; subst y4
    exact ⟨⟨rfl, h8⟩, ⟨rfl, rfl, rfl⟩, hN, hL⟩
  · exact absurd y2 (x5.resolve_left (by omega))
  · exact absurd x2 (y5.resolve_left (by omega))
  · subst x3; subst x5; subst x6; subst y3; subst y5; subst y6
    refine ⟨⟨rfl, by omega⟩, ⟨rfl, rfl, rfl⟩, hN, fun k hk => ?_⟩
    by_cases z : k = hn
    · subst z
      refine ⟨?_, ?_⟩
      · rw [iv_us]
        have a := Int.not_lt.mp (fun z => x2.1 (Int32.lt_iff_toInt_lt.mpr z))
        have b := Int.not_lt.mp (fun z => x2.2.1 (Int32.lt_iff_toInt_lt.mpr z))
        exact ⟨a, b⟩
      · rw [pk_us]
        have a := Int.not_lt.mp (fun z => x2.2.2.1 (Int32.lt_iff_toInt_lt.mpr z))
        have b := Int.not_lt.mp (fun z => x2.2.2.2 (Int32.lt_iff_toInt_lt.mpr z))
        have e : (63 : Int32).toInt = 63 := by decide
        exact vp_in_iff.mpr ⟨a, by rw [e] at b; omega⟩
    · have := hL k (by omega)
      unfold iv
      rw [pk_un z, pk_un z]; exact this
theorem okn_in {ee q2 : Int32} (h : okN ee q2) : vp_in ee 6 ∧ 0 ≤ q2.toInt ∧ q2.toInt ≤ 9999 := by
  have a := Int.not_lt.mp (fun z => h.1 (Int32.lt_iff_toInt_lt.mpr z))
  have b := Int.not_lt.mp (fun z => h.2.1 (Int32.lt_iff_toInt_lt.mpr z))
  have c := Int.not_lt.mp (fun z => h.2.2.1 (Int32.lt_iff_toInt_lt.mpr z))
  have d := Int.not_lt.mp (fun z => h.2.2.2 (Int32.lt_iff_toInt_lt.mpr z))
  have e : (5 : Int32).toInt = 5 := by decide
  exact ⟨vp_in_iff.mpr ⟨a, by rw [e] at b; omega⟩, c, d⟩
theorem lj_need {f1 f2 : Nat → Int32} (h : payI hn n28 n31 n32 ml mn mc me) (h1 : ndQ n28 q q2 r1 f1) (h2 : ndQ mn q q2 r2 f2) : payI hn f1 n31 n32 ml f2 mc me := by
  obtain ⟨a, ⟨rfl, b⟩, hN, hL⟩ := h
  refine ⟨a, ⟨h1.2.trans h2.2.symm, b⟩, ?_, hL⟩
  rw [h2.2]
  split
  · rename_i c
    obtain ⟨c1, c2⟩ := okn_in c
    intro k hk
    by_cases z : k = q.toNatClampNeg
    · subst z; rw [iv_us]; exact c2
    · unfold iv; rw [pk_un z]; exact hN k hk
  · exact hN
theorem lj_owed {te fl ge pa : Nat → Int32} {h4 h5 k : Int32} (h : payI hn n28 n31 n32 ml mn mc me) (h1 : ocP n28 n31 n32 hn te fl h4 h5 q k r1) (h2 : odP mn mc me ml ge pa q k r2) : r1 = r2 := by
  obtain ⟨⟨rfl, h8⟩, ⟨rfl, rfl, rfl⟩, hN, hL⟩ := h
  obtain ⟨⟨hp, P, e5, hm⟩, h1⟩ := h1
  rcases h2 with ⟨y1, y2, y3, y4⟩ | ⟨y1, y2, y3, y4⟩ | ⟨y1, y2⟩ | ⟨y1, M, Q, y2, y3⟩ | ⟨y1, y2⟩
  · obtain ⟨j, hj, ek⟩ := vp_in_of y2 (by decide)
    rcases h1 with ⟨x1, x2, x3⟩ | ⟨x1, -⟩ | ⟨x1, -⟩ | ⟨x1, -⟩ | ⟨-, x2⟩
    · rw [x3, y4, ek, nI_clamp (by omega)]; exact (pl_eq hN hL y3 hp).1 j hj
    · rw [y1] at x1; exact absurd x1 (by decide)
    · rw [y1] at x1; exact absurd x1 (by decide)
    · rw [y1] at x1; exact absurd x1 (by decide)
    · exact absurd ⟨y1, y2⟩ x2.1
  · obtain ⟨j, hj, ek⟩ := vp_in_of y2 (by omega)
    rcases h1 with ⟨x1, -, -⟩ | ⟨x1, x2, x3⟩ | ⟨x1, -⟩ | ⟨x1, -⟩ | ⟨-, x2⟩
    · rw [y1] at x1; exact absurd x1 (by decide)
    · rw [x3, y4, ek, nI_clamp (by omega)]; exact (pl_eq hN hL y3 hp).2 j hj
    · rw [y1] at x1; exact absurd x1 (by decide)
    · rw [y1] at x1; exact absurd x1 (by decide)
    · exact absurd ⟨y1, y2⟩ x2.2.1
  · rcases h1 with ⟨x1, -, -⟩ | ⟨x1, -, -⟩ | ⟨x1, x2⟩ | ⟨x1, -⟩ | ⟨-, x2⟩
    · rw [y1] at x1; exact absurd x1 (by decide)
    · rw [y1] at x1; exact absurd x1 (by decide)
    · obtain ⟨Q, y2⟩ := y2
      rw [x2]; exact Int32.toInt_inj.mp (mxL_un hm y2).1
    · rw [y1] at x1; exact absurd x1 (by decide)
    · exact absurd y1 x2.2.2.1
  · rcases h1 with ⟨x1, -, -⟩ | ⟨x1, -, -⟩ | ⟨x1, -⟩ | ⟨x1, x2⟩ | ⟨-, x2⟩
    · rw [y1] at x1; exact absurd x1 (by decide)
    · rw [y1] at x1; exact absurd x1 (by decide)
    · rw [y1] at x1; exact absurd x1 (by decide)
    · rw [x2, e5, y2, (mxL_un hm y3).2]
    · exact absurd y1 x2.2.2.2
  · rcases h1 with ⟨x1, x2, -⟩ | ⟨x1, x2, -⟩ | ⟨x1, -⟩ | ⟨x1, -⟩ | ⟨x1, -⟩
    · exact absurd ⟨x1, x2⟩ y2.1
    · exact absurd ⟨x1, x2⟩ y2.2.1
    · exact absurd x1 y2.2.2.1
    · exact absurd x1 y2.2.2.2
    · rw [x1, y1]
theorem lj_pay {te fl ge pa a1 b1 a2 b2 : Nat → Int32} (h : payI hn n28 n31 n32 ml mn mc me) (h1 : pcP n28 n31 n32 hn te fl a1 b1 r1) (h2 : pdP mn mc me ml ge pa a2 b2 r2) : r1 = r2 ∧ payI hn a1 b1 n32 ml a2 b2 me := by
  obtain ⟨⟨rfl, h8⟩, ⟨rfl, rfl, rfl⟩, hN, hL⟩ := h
  obtain ⟨x1, x2, x3, x4⟩ := h1
  obtain ⟨y1, y2, y3, y4⟩ := h2
  obtain ⟨e1, e2⟩ := pl_eq hN hL y1 x1
  have hg := ge_bd hL hN (Nat.le_refl 6) y1.1
  have hp := pa_bd hL (fun k hk => (hg k hk).1) (Nat.le_refl hn) y1.2
  refine ⟨by rw [x2, y2, sI_cong e1], ⟨rfl, h8⟩, ⟨sb_eq x3 y3 e1, sb_eq x4 y4 e2, rfl⟩, fun k hk => ?_, fun k hk => ⟨?_, (hL k hk).2⟩⟩
  · have a := hN k hk
    have b := hg k hk
    show 0 ≤ (a2 k).toInt ∧ (a2 k).toInt ≤ 9999
    rw [y3 k, if_pos hk, ti_sub (show (n28 k).toInt = iv n28 k from rfl) (show (ge k).toInt = iv ge k from rfl) (by omega)]
    omega
  · have a := (hL k hk).1
    have b := hp k hk
    show 0 ≤ (b2 k).toInt ∧ (b2 k).toInt ≤ 9999
    rw [y4 k, if_pos hk, ti_sub (show (n31 k).toInt = iv n31 k from rfl) (show (pa k).toInt = iv pa k from rfl) (by omega)]
    omega
theorem pj_x (h : payI hn n28 n31 n32 ml mn mc me) : ndP n28 ∧ lgP n31 n32 hn := by
  obtain ⟨⟨rfl, h8⟩, ⟨rfl, rfl, rfl⟩, hN, hL⟩ := h
  exact ⟨hN, hL⟩
theorem pj_m (h : payI hn n28 n31 n32 ml mn mc me) : ndP mn ∧ lgP mc me ml := h.2.2
end LJ
theorem pay_i0 : payI 0 (fun _ => 0) (fun _ => 0) (fun _ => 0) 0 (fun _ => 0) (fun _ => 0) (fun _ => 0) := ⟨⟨rfl, by decide⟩, ⟨rfl, rfl, rfl⟩, fun _ _ => by show 0 ≤ (0 : Int32).toInt ∧ (0 : Int32).toInt ≤ 9999; decide, fun k hk => absurd hk (Nat.not_lt_zero k)⟩

