/-! Coats handed out, one guest after another: both sides go this way. How many coats, their sizes, years, whether gone, who wears them, the cloth. -/
abbrev HD : Type := Nat × (Nat → Int32) × (Nat → Int32) × (Nat → Int32) × (Nat → Int32) × Int32
def hdN (gs gv ks : Nat → Int32) (i : Nat) (t : HD) : HD :=
  if gv i = -1 then (t.1 + 1, upd t.2.1 t.1 (ks (gs i).toNatClampNeg), upd t.2.2.1 t.1 0, upd t.2.2.2.1 t.1 0, upd t.2.2.2.2.1 t.1 (gs i), t.2.2.2.2.2 + ks (gs i).toNatClampNeg)
  else (t.1, t.2.1, t.2.2.1, t.2.2.2.1, upd t.2.2.2.2.1 (gv i).toNatClampNeg (gs i), t.2.2.2.2.2)
def hdS (gs gv ks : Nat → Int32) (s : HD) : Nat → HD
  | 0 => s
  | i + 1 => hdN gs gv ks i (hdS gs gv ks s i)
theorem hr_y {gs gv ks zs wo go we : Nat → Int32} {s : HD} {i n : Nat} {cl : Int32} (h : (n, zs, wo, go, we, cl) = hdS gs gv ks s i) (c : gv i = -1) : (n + 1, upd zs n (ks (gs i).toNatClampNeg), upd wo n 0, upd go n 0, upd we n (gs i), cl + ks (gs i).toNatClampNeg) = hdS gs gv ks s (i + 1) := by
  show _ = hdN gs gv ks i (hdS gs gv ks s i)
  rw [← h]
  exact (if_pos c).symm
theorem hr_n {gs gv ks zs wo go we : Nat → Int32} {s : HD} {i n : Nat} {cl : Int32} (h : (n, zs, wo, go, we, cl) = hdS gs gv ks s i) (c : ¬ gv i = -1) : (n, zs, wo, go, upd we (gv i).toNatClampNeg (gs i), cl) = hdS gs gv ks s (i + 1) := by
  show _ = hdN gs gv ks i (hdS gs gv ks s i)
  rw [← h]
  exact (if_neg c).symm
/-- rows that agree on the guests hand out the same -/
theorem hd_cong {gs gv ks gs' gv' ks' : Nat → Int32} {s : HD} : ∀ {g : Nat}, (∀ i, i < g → gs i = gs' i ∧ gv i = gv' i ∧ ks (gs i).toNatClampNeg = ks' (gs' i).toNatClampNeg) → hdS gs gv ks s g = hdS gs' gv' ks' s g
  | 0, _ => rfl
  | g + 1, h => by
    have ih := hd_cong (gs := gs) (gv := gv) (ks := ks) (gs' := gs') (gv' := gv') (ks' := ks') (s := s) (g := g) (fun i hi => h i (by omega))
    obtain ⟨a, b, c⟩ := h g (by omega)
    show hdN gs gv ks g (hdS gs gv ks s g) = hdN gs' gv' ks' g (hdS gs' gv' ks' s g)
    rw [ih]
    unfold hdN
    rw [c, a, b]
/-! who wears what: the class' two rows agree -/
def coW (wa ca : Nat) (we co : Nat → Int32) : Prop := (∀ k, k < wa → we k = -1 ∨ ∃ j, j < ca ∧ we k = nI j ∧ co j = nI k) ∧ ∀ j, j < ca → co j = -1 ∨ ∃ k, k < wa ∧ co j = nI k ∧ we k = nI j
theorem cw_none {wa ca : Nat} {we co : Nat → Int32} (h : coW wa ca we co) (hn : ∀ k, k < wa → we k = -1) (hc : ca ≤ 16) : ∀ j, j < ca → co j = -1 := fun j hj => by
  rcases h.2 j hj with z | ⟨k, a, b, d⟩
  · exact z
  · rw [hn k a] at d
    have : (-1 : Int32).toInt = (nI j).toInt := by rw [d]
    rw [nI_toInt (by omega), show (-1 : Int32).toInt = -1 by decide] at this
    omega

