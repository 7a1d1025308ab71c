/-! The reference reads: tokens. -/
theorem wn_s {t : Nat → Int32} {a b k : Nat} (h : ∀ i, i < k → ¬ wdP t a b i) (hk : ¬ wdP t a b k) : ∀ i, i < k + 1 → ¬ wdP t a b i := fun i hi => by
  by_cases q : i = k
  · rw [q]; exact hk
  · exact h i (by omega)
theorem wa_y {t : Nat → Int32} {a b w : Nat} {r : Int32} (hw : w < 8) (h : wdP t a b w) (e : r = nI w) : tX t a b < 8 ∧ r = nI (tX t a b) := by
  rw [tX_y hw h]; exact ⟨hw, e⟩
/-- the token at p, as the reference holds it -/
def curM (t : Nat → Int32) (n p : Nat) (k w : Int32) (s e : Nat) : Prop := (s = tS t n p ∧ e = tE t n p) ∧ (k = 0 ↔ tK t n p = 0) ∧ (k = 2 ↔ tK t n p = 2) ∧ (k = 3 ↔ tK t n p = 3) ∧ (k = 1 ↔ tW t n p < 8) ∧ (tW t n p < 8 → w = nI (tW t n p)) ∧ (tK t n p = 2 → vM (tV t n p) w)
section CM
variable {t : Nat → Int32} {n p i e : Nat} {w : Int32}
theorem tW_8 (h : ¬ tK t n p = 1) : tW t n p = 8 := if_neg h
theorem cm_k (c : Nat) (hc : c ≤ 4) (c1 : ¬ c = 1) (hk : tK t n p = c) (hv : tK t n p = 2 → vM (tV t n p) w) (hS : tS t n p = i) (hE : tE t n p = e) : curM t n p (nI c) w i e := by
  have h8 := tW_8 (t := t) (n := n) (p := p) (by omega)
  have ei : ∀ x, x ≤ 4 → (nI c = nI x ↔ tK t n p = x) := fun x hx => by rw [nI_eq (by omega) (by omega), hk]
  exact ⟨⟨hS.symm, hE.symm⟩, ei 0 (by decide), ei 2 (by decide), ei 3 (by decide), ⟨fun z => by have := (nI_eq (b := 1) (by omega) (by decide)).mp z; omega, fun z => by omega⟩, fun z => by omega, hv⟩
theorem cm_0 (hS : tS t n p = i) (h : n ≤ i) : curM t n p 0 w i i := by
  have hk : tK t n p = 0 := tK_0 (by omega)
  exact cm_k 0 (by decide) (by decide) hk (fun q => by omega) hS (by rw [tE_0 hk, hS])
theorem cm_1y {r : Int32} (hS : tS t n p = i) (hn : i < n) (h : smQ t i) (he : rn (smB t n) n i = e) (hx : (tX t i e < 8 ∧ r = nI (tX t i e)) ∨ (tX t i e = 8 ∧ r = -1)) (c : 0 ≤ r) : curM t n p 1 r i e := by
  have hk : tK t n p = 1 := tK_1 (by rw [hS]; exact sm_y.mpr ⟨hn, h⟩)
  have hE : tE t n p = e := by rw [tE_1 hk, hS, he]
  have hW : tW t n p = tX t i e := by unfold tW; rw [if_pos hk, hS, hE]
  rcases hx with ⟨x1, x2⟩ | ⟨_, x2⟩
  · exact ⟨⟨hS.symm, hE.symm⟩, ⟨fun z => absurd z (by decide), fun z => by omega⟩, ⟨fun z => absurd z (by decide), fun z => by omega⟩, ⟨fun z => absurd z (by decide), fun z => by omega⟩, ⟨fun _ => by rw [hW]; exact x1, fun _ => rfl⟩, fun _ => by rw [hW]; exact x2, fun z => by omega⟩
  · rw [x2] at c; exact absurd c (by decide)
theorem cm_1n {r : Int32} (hS : tS t n p = i) (hn : i < n) (h : smQ t i) (he : rn (smB t n) n i = e) (hx : (tX t i e < 8 ∧ r = nI (tX t i e)) ∨ (tX t i e = 8 ∧ r = -1)) (c : ¬ 0 ≤ r) : curM t n p 4 r i e := by
  have hk : tK t n p = 1 := tK_1 (by rw [hS]; exact sm_y.mpr ⟨hn, h⟩)
  have hE : tE t n p = e := by rw [tE_1 hk, hS, he]
  have hW : tW t n p = tX t i e := by unfold tW; rw [if_pos hk, hS, hE]
  rcases hx with ⟨x1, x2⟩ | ⟨x1, _⟩
  · exact absurd (by rw [x2]; exact Int32.not_lt.mp (nlt0 (by omega))) c
  · exact ⟨⟨hS.symm, hE.symm⟩, ⟨fun z => absurd z (by decide), fun z => by omega⟩, ⟨fun z => absurd z (by decide), fun z => by omega⟩, ⟨fun z => absurd z (by decide), fun z => by omega⟩, ⟨fun z => absurd z (by decide), fun z => by omega⟩, fun z => by omega, fun z => by omega⟩
theorem cm_2 (hS : tS t n p = i) (hn : i < n) (h1 : ¬ smQ t i) (h : dgQ t i) (he : rn (dgB t n) n i = e) (hv : vM (dv t i (e - i)) w) : curM t n p 2 w i e := by
  have hk : tK t n p = 2 := tK_2 (by omega) (by rw [hS]; exact fun q => h1 (sm_y.mp q).2) (by rw [hS]; exact dg_y.mpr ⟨hn, h⟩)
  have hE : tE t n p = e := by rw [tE_2 hk, hS, he]
  exact cm_k 2 (by decide) (by decide) hk (fun _ => by unfold tV; rw [hS, hE]; exact hv) hS hE
theorem cm_3 (hS : tS t n p = i) (hn : i < n) (h1 : ¬ smQ t i) (h2 : ¬ dgQ t i) (h : t i = 59) : curM t n p 3 w i (i + 1) := by
  have hk : tK t n p = 3 := tK_3 (by omega) (by rw [hS]; exact fun q => h1 (sm_y.mp q).2) (by rw [hS]; exact fun q => h2 (dg_y.mp q).2) (by rw [hS]; exact h)
  exact cm_k 3 (by decide) (by decide) hk (fun q => by omega) hS (by rw [tE_3 (Or.inl hk), hS])
theorem cm_4 (hS : tS t n p = i) (hn : i < n) (h1 : ¬ smQ t i) (h2 : ¬ dgQ t i) (h : ¬ t i = 59) : curM t n p 4 w i (i + 1) := by
  have hk : tK t n p = 4 := tK_4 (by omega) (by rw [hS]; exact fun q => h1 (sm_y.mp q).2) (by rw [hS]; exact fun q => h2 (dg_y.mp q).2) (by rw [hS]; exact h)
  exact cm_k 4 (by decide) (by decide) hk (fun q => by omega) hS (by rw [tE_3 (Or.inr hk), hS])
end CM

set_option maxHeartbeats 4000000 in
set_option maxRecDepth 100000 in
theorem f_X8_wrong (l : Launch) (D : va_G) (cB cI cJ cZ : ClassId) (sz : Nat) (y : Nat → Nat) (m_tapeSize m_givers m_children m_coats m_legacies m_insideMany : Nat) (m_thrown m_cycleMany m_vote m_low m_high m_wear m_spare m_places m_cycleNext m_fault m_faultPlace m_giverNext m_years m_end m_next m_kind m_which m_place m_read m_readMany m_readHigh : Int32) (q q2 : Int32) : Met l yX8_wrong wsX8_wrong ({ frames := 0, cells := 0, slots := 0, locals := 0 } : Room) (cPre D (aTy cB cI cJ cZ) [((y 0), .inr (8, [.ref (y 1), .int (nI m_tapeSize), .int m_thrown, .ref (y 2), .int m_cycleMany, .int m_vote, .int m_low, .int m_high, .int m_wear, .int m_spare, .int m_places, .int m_cycleNext, .int m_fault, .int m_faultPlace, .int (nI m_givers), .ref (y 3), .ref (y 4), .int m_giverNext, .int (nI m_children), .ref (y 5), .ref (y 6), .ref (y 7), .ref (y 8), .ref (y 9), .int (nI m_coats), .ref (y 10), .ref (y 11), .ref (y 12), .ref (y 13), .int m_years, .int (nI m_legacies), .ref (y 14), .ref (y 15), .ref (y 16), .ref (y 17), .int m_end, .int m_next, .int m_kind, .int m_which, .int m_place, .int m_read, .ref (y 18), .ref (y 19), .int m_readMany, .int m_readHigh, .ref (y 20), .int (nI m_insideMany), .ref (y 21), .ref (y 22), .ref (y 23), .ref (y 24), .ref (y 25)]))] sz [.ref (y 0), .int q, .int q2]) (va_Qi (fun (r : Int32) (u : Int32 × Int32) => r = 0 ∧ u.1 = q ∧ u.2 = q2) (cB_ D (aTy cB cI cJ cZ) (va_A [((y 0), .inr (8, [.ref (y 1), .int (nI m_tapeSize), .int m_thrown, .ref (y 2), .int m_cycleMany, .int m_vote, .int m_low, .int m_high, .int m_wear, .int m_spare, .int m_places, .int m_cycleNext, .int m_fault, .int m_faultPlace, .int (nI m_givers), .ref (y 3), .ref (y 4), .int m_giverNext, .int (nI m_children), .ref (y 5), .ref (y 6), .ref (y 7), .ref (y 8), .ref (y 9), .int (nI m_coats), .ref (y 10), .ref (y 11), .ref (y 12), .ref (y 13), .int m_years, .int (nI m_legacies), .ref (y 14), .ref (y 15), .ref (y 16), .ref (y 17), .int m_end, .int m_next, .int m_kind, .int m_which, .int m_place, .int m_read, .ref (y 18), .ref (y 19), .int m_readMany, .int m_readHigh, .ref (y 20), .int (nI m_insideMany), .ref (y 21), .ref (y 22), .ref (y 23), .ref (y 24), .ref (y 25)]))] sz) (fun u => [((y 0), .inr (8, [.ref (y 1), .int (nI m_tapeSize), .int m_thrown, .ref (y 2), .int m_cycleMany, .int m_vote, .int m_low, .int m_high, .int m_wear, .int m_spare, .int m_places, .int m_cycleNext, .int (u.1), .int (u.2), .int (nI m_givers), .ref (y 3), .ref (y 4), .int m_giverNext, .int (nI m_children), .ref (y 5), .ref (y 6), .ref (y 7), .ref (y 8), .ref (y 9), .int (nI m_coats), .ref (y 10), .ref (y 11), .ref (y 12), .ref (y 13), .int m_years, .int (nI m_legacies), .ref (y 14), .ref (y 15), .ref (y 16), .ref (y 17), .int m_end, .int m_next, .int m_kind, .int m_which, .int m_place, .int m_read, .ref (y 18), .ref (y 19), .int m_readMany, .int m_readHigh, .ref (y 20), .int (nI m_insideMany), .ref (y 21), .ref (y 22), .ref (y 23), .ref (y 24), .ref (y 25)]))])) (va_A [((y 0), .inr (8, [.ref (y 1), .int (nI m_tapeSize), .int m_thrown, .ref (y 2), .int m_cycleMany, .int m_vote, .int m_low, .int m_high, .int m_wear, .int m_spare, .int m_places, .int m_cycleNext, .int m_fault, .int m_faultPlace, .int (nI m_givers), .ref (y 3), .ref (y 4), .int m_giverNext, .int (nI m_children), .ref (y 5), .ref (y 6), .ref (y 7), .ref (y 8), .ref (y 9), .int (nI m_coats), .ref (y 10), .ref (y 11), .ref (y 12), .ref (y 13), .int m_years, .int (nI m_legacies), .ref (y 14), .ref (y 15), .ref (y 16), .ref (y 17), .int m_end, .int m_next, .int m_kind, .int m_which, .int m_place, .int m_read, .ref (y 18), .ref (y 19), .int m_readMany, .int m_readHigh, .ref (y 20), .int (nI m_insideMany), .ref (y 21), .ref (y 22), .ref (y 23), .ref (y 24), .ref (y 25)]))] sz)) 0 0 (va_A [((y 0), .inr (8, [.ref (y 1), .int (nI m_tapeSize), .int m_thrown, .ref (y 2), .int m_cycleMany, .int m_vote, .int m_low, .int m_high, .int m_wear, .int m_spare, .int m_places, .int m_cycleNext, .int m_fault, .int m_faultPlace, .int (nI m_givers), .ref (y 3), .ref (y 4), .int m_giverNext, .int (nI m_children), .ref (y 5), .ref (y 6), .ref (y 7), .ref (y 8), .ref (y 9), .int (nI m_coats), .ref (y 10), .ref (y 11), .ref (y 12), .ref (y 13), .int m_years, .int (nI m_legacies), .ref (y 14), .ref (y 15), .ref (y 16), .ref (y 17), .int m_end, .int m_next, .int m_kind, .int m_which, .int m_place, .int m_read, .ref (y 18), .ref (y 19), .int m_readMany, .int m_readHigh, .ref (y 20), .int (nI m_insideMany), .ref (y 21), .ref (y 22), .ref (y 23), .ref (y 24), .ref (y 25)]))] sz) := by
  refine Met.ofW (cc := cX8_wrong) (maxL := 3) (ret := (some .boolean)) (by decide) rfl ?_
  intro p e s m args below meth c s₁ B hml hv
  obtain ⟨rfl, hsz, hP, hK, hD0⟩ := hv
  have hx := B.exec
  have hb := B.bytes
  have hr := B.returns
  have hts := atoms_spec (ws := wsX8_wrong) B.pre
  have hown : s.vm.findClass RX8 = some m.cls := findClass_of_methodNamed B.named
  have hlocks := B.notSynchronized
  subst hsz
  have hD := hD0.self (sz := s.heap.size)
  generalize hAe : va_A [((y 0), .inr (8, [.ref (y 1), .int (nI m_tapeSize), .int m_thrown, .ref (y 2), .int m_cycleMany, .int m_vote, .int m_low, .int m_high, .int m_wear, .int m_spare, .int m_places, .int m_cycleNext, .int m_fault, .int m_faultPlace, .int (nI m_givers), .ref (y 3), .ref (y 4), .int m_giverNext, .int (nI m_children), .ref (y 5), .ref (y 6), .ref (y 7), .ref (y 8), .ref (y 9), .int (nI m_coats), .ref (y 10), .ref (y 11), .ref (y 12), .ref (y 13), .int m_years, .int (nI m_legacies), .ref (y 14), .ref (y 15), .ref (y 16), .ref (y 17), .int m_end, .int m_next, .int m_kind, .int m_which, .int m_place, .int m_read, .ref (y 18), .ref (y 19), .int m_readMany, .int m_readHigh, .ref (y 20), .int (nI m_insideMany), .ref (y 21), .ref (y 22), .ref (y 23), .ref (y 24), .ref (y 25)]))] s.heap.size = A at hD ⊢
  have hA : ∀ q : Nat, s.heap.size ≤ q → A q := fun q h => by rw [← hAe]; exact Or.inr h
  have hS : va_S A s.heap s.heap [] := va_S.rf
  have hP : va_P D vwCl [((y 0), .inr (8, [.ref (y 1), .int (nI m_tapeSize), .int m_thrown, .ref (y 2), .int m_cycleMany, .int m_vote, .int m_low, .int m_high, .int m_wear, .int m_spare, .int m_places, .int m_cycleNext, .int m_fault, .int m_faultPlace, .int (nI m_givers), .ref (y 3), .ref (y 4), .int m_giverNext, .int (nI m_children), .ref (y 5), .ref (y 6), .ref (y 7), .ref (y 8), .ref (y 9), .int (nI m_coats), .ref (y 10), .ref (y 11), .ref (y 12), .ref (y 13), .int m_years, .int (nI m_legacies), .ref (y 14), .ref (y 15), .ref (y 16), .ref (y 17), .int m_end, .int m_next, .int m_kind, .int m_which, .int m_place, .int m_read, .ref (y 18), .ref (y 19), .int m_readMany, .int m_readHigh, .ref (y 20), .int (nI m_insideMany), .ref (y 21), .ref (y 22), .ref (y 23), .ref (y 24), .ref (y 25)]))] s.heap := hP
  have w_1 : ∀ w ∈ wsX80, w ∈ wsX8_wrong := by decide +kernel
  have w_2 := hts (Cond.fieldLink RX8 118 "BlueCoatsModel" "fault" "I") (by decide +kernel)
  have w_3 := hts (Cond.fieldLink RX8 38 "BlueCoatsModel" "faultPlace" "I") (by decide +kernel)
  have hl := lv_entry ([.ref (y 0), .int q, .int q2]) (n := 3) (Nat.le_of_ble_eq_true rfl)
  rw [lg_entry_eq]
  generalize (lg_sl ([.ref (y 0), .int q, .int q2]) ++ List.replicate (3 - (lg_sl ([.ref (y 0), .int q, .int q2])).length) Slot.unset).toArray = ls at hl ⊢
  have hl : lv_has ls 3 [(0, .ref (y 0)), (1, .int q), (2, .int q2)] := hl
  refine lv_aload_n hx hb dX8_wrong_0 rfl (lv_at hl 0 rfl) ?_
  refine lv_iload_n hx hb dX8_wrong_1 rfl (lv_at hl 1 rfl) ?_
  refine va_put (D := D) (ci := 8) (v := .int q) (ty := .int) (C := RX8) (T := TX8) (N := 52) hx hb hts w_1 tyX8 tyX8_ok nmX8 hown hK hP hD hS 0 rfl rfl 12 (by decide) w_2 (fun _ h9 => h9) rfl (by decide +kernel) rfl rfl (Nat.le_of_ble_eq_true rfl) dX8_wrong_2 (fun H locs hP hD hS => ?_)
  have hP : va_P D vwCl [((y 0), .inr (8, [.ref (y 1), .int (nI m_tapeSize), .int m_thrown, .ref (y 2), .int m_cycleMany, .int m_vote, .int m_low, .int m_high, .int m_wear, .int m_spare, .int m_places, .int m_cycleNext, .int q, .int m_faultPlace, .int (nI m_givers), .ref (y 3), .ref (y 4), .int m_giverNext, .int (nI m_children), .ref (y 5), .ref (y 6), .ref (y 7), .ref (y 8), .ref (y 9), .int (nI m_coats), .ref (y 10), .ref (y 11), .ref (y 12), .ref (y 13), .int m_years, .int (nI m_legacies), .ref (y 14), .ref (y 15), .ref (y 16), .ref (y 17), .int m_end, .int m_next, .int m_kind, .int m_which, .int m_place, .int m_read, .ref (y 18), .ref (y 19), .int m_readMany, .int m_readHigh, .ref (y 20), .int (nI m_insideMany), .ref (y 21), .ref (y 22), .ref (y 23), .ref (y 24), .ref (y 25)]))] H := hP
  have hD : va_D A [((y 0), .inr (8, [.ref (y 1), .int (nI m_tapeSize), .int m_thrown, .ref (y 2), .int m_cycleMany, .int m_vote, .int m_low, .int m_high, .int m_wear, .int m_spare, .int m_places, .int m_cycleNext, .int q, .int m_faultPlace, .int (nI m_givers), .ref (y 3), .ref (y 4), .int m_giverNext, .int (nI m_children), .ref (y 5), .ref (y 6), .ref (y 7), .ref (y 8), .ref (y 9), .int (nI m_coats), .ref (y 10), .ref (y 11), .ref (y 12), .ref (y 13), .int m_years, .int (nI m_legacies), .ref (y 14), .ref (y 15), .ref (y 16), .ref (y 17), .int m_end, .int m_next, .int m_kind, .int m_which, .int m_place, .int m_read, .ref (y 18), .ref (y 19), .int m_readMany, .int m_readHigh, .ref (y 20), .int (nI m_insideMany), .ref (y 21), .ref (y 22), .ref (y 23), .ref (y 24), .ref (y 25)]))] := hD
  refine lv_aload_n hx hb dX8_wrong_5 rfl (lv_at hl 0 rfl) ?_
  refine lv_iload_n hx hb dX8_wrong_6 rfl (lv_at hl 2 rfl) ?_
  refine va_put (D := D) (ci := 8) (v := .int q2) (ty := .int) (C := RX8) (T := TX8) (N := 52) hx hb hts w_1 tyX8 tyX8_ok nmX8 hown hK hP hD hS 0 rfl rfl 13 (by decide) w_3 (fun _ h9 => h9) rfl (by decide +kernel) rfl rfl (Nat.le_of_ble_eq_true rfl) dX8_wrong_7 (fun H locs hP hD hS => ?_)
  have hP : va_P D vwCl [((y 0), .inr (8, [.ref (y 1), .int (nI m_tapeSize), .int m_thrown, .ref (y 2), .int m_cycleMany, .int m_vote, .int m_low, .int m_high, .int m_wear, .int m_spare, .int m_places, .int m_cycleNext, .int q, .int q2, .int (nI m_givers), .ref (y 3), .ref (y 4), .int m_giverNext, .int (nI m_children), .ref (y 5), .ref (y 6), .ref (y 7), .ref (y 8), .ref (y 9), .int (nI m_coats), .ref (y 10), .ref (y 11), .ref (y 12), .ref (y 13), .int m_years, .int (nI m_legacies), .ref (y 14), .ref (y 15), .ref (y 16), .ref (y 17), .int m_end, .int m_next, .int m_kind, .int m_which, .int m_place, .int m_read, .ref (y 18), .ref (y 19), .int m_readMany, .int m_readHigh, .ref (y 20), .int (nI m_insideMany), .ref (y 21), .ref (y 22), .ref (y 23), .ref (y 24), .ref (y 25)]))] H := hP
  have hD : va_D A [((y 0), .inr (8, [.ref (y 1), .int (nI m_tapeSize), .int m_thrown, .ref (y 2), .int m_cycleMany, .int m_vote, .int m_low, .int m_high, .int m_wear, .int m_spare, .int m_places, .int m_cycleNext, .int q, .int q2, .int (nI m_givers), .ref (y 3), .ref (y 4), .int m_giverNext, .int (nI m_children), .ref (y 5), .ref (y 6), .ref (y 7), .ref (y 8), .ref (y 9), .int (nI m_coats), .ref (y 10), .ref (y 11), .ref (y 12), .ref (y 13), .int m_years, .int (nI m_legacies), .ref (y 14), .ref (y 15), .ref (y 16), .ref (y 17), .int m_end, .int m_next, .int m_kind, .int m_which, .int m_place, .int m_read, .ref (y 18), .ref (y 19), .int m_readMany, .int m_readHigh, .ref (y 20), .int (nI m_insideMany), .ref (y 21), .ref (y 22), .ref (y 23), .ref (y 24), .ref (y 25)]))] := hD
  refine lv_iconst (v := 0) hx hb dX8_wrong_10 (by decide) ?_
  have hP9 := hP.sub (ws' := [((y 0), .inr (8, [.ref (y 1), .int (nI m_tapeSize), .int m_thrown, .ref (y 2), .int m_cycleMany, .int m_vote, .int m_low, .int m_high, .int m_wear, .int m_spare, .int m_places, .int m_cycleNext, .int q, .int q2, .int (nI m_givers), .ref (y 3), .ref (y 4), .int m_giverNext, .int (nI m_children), .ref (y 5), .ref (y 6), .ref (y 7), .ref (y 8), .ref (y 9), .int (nI m_coats), .ref (y 10), .ref (y 11), .ref (y 12), .ref (y 13), .int m_years, .int (nI m_legacies), .ref (y 14), .ref (y 15), .ref (y 16), .ref (y 17), .int m_end, .int m_next, .int m_kind, .int m_which, .int m_place, .int m_read, .ref (y 18), .ref (y 19), .int m_readMany, .int m_readHigh, .ref (y 20), .int (nI m_insideMany), .ref (y 21), .ref (y 22), .ref (y 23), .ref (y 24), .ref (y 25)]))]) [0] rfl
  have hD9 := hD.sub (ws' := [((y 0), .inr (8, [.ref (y 1), .int (nI m_tapeSize), .int m_thrown, .ref (y 2), .int m_cycleMany, .int m_vote, .int m_low, .int m_high, .int m_wear, .int m_spare, .int m_places, .int m_cycleNext, .int q, .int q2, .int (nI m_givers), .ref (y 3), .ref (y 4), .int m_giverNext, .int (nI m_children), .ref (y 5), .ref (y 6), .ref (y 7), .ref (y 8), .ref (y 9), .int (nI m_coats), .ref (y 10), .ref (y 11), .ref (y 12), .ref (y 13), .int m_years, .int (nI m_legacies), .ref (y 14), .ref (y 15), .ref (y 16), .ref (y 17), .int m_end, .int m_next, .int m_kind, .int m_which, .int m_place, .int m_read, .ref (y 18), .ref (y 19), .int m_readMany, .int m_readHigh, .ref (y 20), .int (nI m_insideMany), .ref (y 21), .ref (y 22), .ref (y 23), .ref (y 24), .ref (y 25)]))]) [0] (by decide) rfl
  exact W.zret (v := 0) hx hb hr rfl (fun t ht hW => ⟨⟨_, ((q : Int32), (q2 : Int32)), rfl, ⟨rfl, rfl, rfl⟩, by rw [ht]; exact hP9, va_K.moved hW.alike hK, hD9⟩, hS.F ht⟩) hS.2.2 dX8_wrong_11

set_option maxHeartbeats 4000000 in
set_option maxRecDepth 100000 in
theorem f_X8_isSmall (l : Launch) (D : va_G) (cB cI cJ cZ : ClassId) (y : Nat → Nat) (m_tapeSize m_givers m_children m_coats m_legacies m_end m_insideMany : Nat) (m_thrown m_cycleMany m_vote m_low m_high m_wear m_spare m_places m_cycleNext m_fault m_faultPlace m_giverNext m_years m_next m_kind m_which m_place m_read m_readMany m_readHigh : Int32) (m_tape : Nat → Int32) (j : Nat) (he : m_end ≤ 300) (hj : j < 2147483648) : Met l yX8_isSmall wsX8_isSmall ({ frames := 0, cells := 0, slots := 0, locals := 0 } : Room) (cRd D (aTy cB cI cJ cZ) [((y 0), .inr (8, [.ref (y 1), .int (nI m_tapeSize), .int m_thrown, .ref (y 2), .int m_cycleMany, .int m_vote, .int m_low, .int m_high, .int m_wear, .int m_spare, .int m_places, .int m_cycleNext, .int m_fault, .int m_faultPlace, .int (nI m_givers), .ref (y 3), .ref (y 4), .int m_giverNext, .int (nI m_children), .ref (y 5), .ref (y 6), .ref (y 7), .ref (y 8), .ref (y 9), .int (nI m_coats), .ref (y 10), .ref (y 11), .ref (y 12), .ref (y 13), .int m_years, .int (nI m_legacies), .ref (y 14), .ref (y 15), .ref (y 16), .ref (y 17), .int (nI m_end), .int m_next, .int m_kind, .int m_which, .int m_place, .int m_read, .ref (y 18), .ref (y 19), .int m_readMany, .int m_readHigh, .ref (y 20), .int (nI m_insideMany), .ref (y 21), .ref (y 22), .ref (y 23), .ref (y 24), .ref (y 25)])), ((y 1), .inl (cI, 300, .inl m_tape))] [.ref (y 0), .int (nI j)]) (vp_Si (fun r : Int32 => isB r (j < m_end ∧ smQ m_tape j))) 0 0 (fun _ => False) := by
  refine Met.ofW (cc := cX8_isSmall) (maxL := 2) (ret := (some .boolean)) (by decide) rfl ?_
  intro p e s m args below meth c s₁ B hml hv
  obtain ⟨rfl, hP, hK⟩ := hv
  have hx := B.exec
  have hb := B.bytes
  have hr := B.returns
  have hts := atoms_spec (ws := wsX8_isSmall) B.pre
  have hown : s.vm.findClass RX8 = some m.cls := findClass_of_methodNamed B.named
  have hlocks := B.notSynchronized
  have hP : va_P D vwCl [((y 0), .inr (8, [.ref (y 1), .int (nI m_tapeSize), .int m_thrown, .ref (y 2), .int m_cycleMany, .int m_vote, .int m_low, .int m_high, .int m_wear, .int m_spare, .int m_places, .int m_cycleNext, .int m_fault, .int m_faultPlace, .int (nI m_givers), .ref (y 3), .ref (y 4), .int m_giverNext, .int (nI m_children), .ref (y 5), .ref (y 6), .ref (y 7), .ref (y 8), .ref (y 9), .int (nI m_coats), .ref (y 10), .ref (y 11), .ref (y 12), .ref (y 13), .int m_years, .int (nI m_legacies), .ref (y 14), .ref (y 15), .ref (y 16), .ref (y 17), .int (nI m_end), .int m_next, .int m_kind, .int m_which, .int m_place, .int m_read, .ref (y 18), .ref (y 19), .int m_readMany, .int m_readHigh, .ref (y 20), .int (nI m_insideMany), .ref (y 21), .ref (y 22), .ref (y 23), .ref (y 24), .ref (y 25)])), ((y 1), .inl (cI, 300, .inl m_tape))] s.heap := hP
  have w_1 : ∀ w ∈ wsX80, w ∈ wsX8_isSmall := by decide +kernel
  have w_2 := hts (Cond.fieldLink RX8 121 "BlueCoatsModel" "end" "I") (by decide +kernel)
  have w_3 := hts (Cond.fieldLink RX8 7 "BlueCoatsModel" "tape" "[I") (by decide +kernel)
  have hl := lv_entry ([.ref (y 0), .int (nI j)]) (n := 2) (Nat.le_of_ble_eq_true rfl)
  rw [lg_entry_eq]
  generalize (lg_sl ([.ref (y 0), .int (nI j)]) ++ List.replicate (2 - (lg_sl ([.ref (y 0), .int (nI j)])).length) Slot.unset).toArray = ls at hl ⊢
  have hl : lv_has ls 2 [(0, .ref (y 0)), (1, .int (nI j))] := hl
  refine lv_iload_n hx hb dX8_isSmall_0 rfl (lv_at hl 1 rfl) ?_
  refine lv_aload_n hx hb dX8_isSmall_1 rfl (lv_at hl 0 rfl) ?_
  refine va_get (D := D) (ci := 8) (v := .int (nI m_end)) (C := RX8) (T := TX8) (N := 52) hx hb hts w_1 hown hK hP 0 rfl rfl 35 (by decide) w_2 (fun _ h9 => h9) rfl dX8_isSmall_2 ?_
  refine lv_icmp_ge (tgt := 34) hx hb dX8_isSmall_5 (by decide) (fun c_5 => ?_) (fun c_5 => ?_)
  ·
    refine lv_iconst (v := 0) hx hb dX8_isSmall_34 (by decide) ?_
    exact W.zret (v := 0) hx hb hr rfl (fun t ht hW => ⟨_, rfl, Or.inr ⟨rfl, fun h => absurd h.1 (Nat.not_lt.mpr (ge_c (by omega) hj c_5))⟩, ht⟩) (fun q h => nomatch h) dX8_isSmall_35
  ·
    have hlt : j < m_end := lt_c (by omega) hj c_5
    refine lv_aload_n hx hb dX8_isSmall_8 rfl (lv_at hl 0 rfl) ?_
    refine va_get (D := D) (ci := 8) (v := .ref (y 1)) (C := RX8) (T := TX8) (N := 52) hx hb hts w_1 hown hK hP 0 rfl rfl 0 (by decide) w_3 (fun _ h9 => h9) rfl dX8_isSmall_9 ?_
    refine lv_iload_n hx hb dX8_isSmall_12 rfl (lv_at hl 1 rfl) ?_
    refine sv_iald (v := m_tape j) hx hb hK hP 1 1 rfl rfl (vp_in_nI (by omega) (by decide)) (congrArg _ (nI_clamp (by omega))) dX8_isSmall_13 ?_
    refine lv_bipush (v := 97) hx hb dX8_isSmall_14 (by decide) ?_
    refine lv_icmp_lt (tgt := 34) hx hb dX8_isSmall_16 (by decide) (fun c_16 => ?_) (fun c_16 => ?_)
    ·
      refine lv_iconst (v := 0) hx hb dX8_isSmall_34 (by decide) ?_
      exact W.zret (v := 0) hx hb hr rfl (fun t ht hW => ⟨_, rfl, Or.inr ⟨rfl, fun h => absurd c_16 (Int32.not_lt.mpr h.2.1)⟩, ht⟩) (fun q h => nomatch h) dX8_isSmall_35
    ·
      refine lv_aload_n hx hb dX8_isSmall_19 rfl (lv_at hl 0 rfl) ?_
      refine va_get (D := D) (ci := 8) (v := .ref (y 1)) (C := RX8) (T := TX8) (N := 52) hx hb hts w_1 hown hK hP 0 rfl rfl 0 (by decide) w_3 (fun _ h9 => h9) rfl dX8_isSmall_20 ?_
      refine lv_iload_n hx hb dX8_isSmall_23 rfl (lv_at hl 1 rfl) ?_
      refine sv_iald (v := m_tape j) hx hb hK hP 1 1 rfl rfl (vp_in_nI (by omega) (by decide)) (congrArg _ (nI_clamp (by omega))) dX8_isSmall_24 ?_
      refine lv_bipush (v := 122) hx hb dX8_isSmall_25 (by decide) ?_
      refine lv_icmp_gt (tgt := 34) hx hb dX8_isSmall_27 (by decide) (fun c_27 => ?_) (fun c_27 => ?_)
      ·
        refine lv_iconst (v := 0) hx hb dX8_isSmall_34 (by decide) ?_
        exact W.zret (v := 0) hx hb hr rfl (fun t ht hW => ⟨_, rfl, Or.inr ⟨rfl, fun h => absurd c_27 (Int32.not_lt.mpr h.2.2)⟩, ht⟩) (fun q h => nomatch h) dX8_isSmall_35
      ·
        refine lv_iconst (v := 1) hx hb dX8_isSmall_30 (by decide) ?_
        refine lv_goto (tgt := 35) hx hb dX8_isSmall_31 (by decide) ?_
        exact W.zret (v := 1) hx hb hr rfl (fun t ht hW => ⟨_, rfl, Or.inl ⟨rfl, hlt, Int32.not_lt.mp c_16, Int32.not_lt.mp c_27⟩, ht⟩) (fun q h => nomatch h) dX8_isSmall_35

set_option maxHeartbeats 4000000 in
set_option maxRecDepth 100000 in
theorem f_X8_isDigit (l : Launch) (D : va_G) (cB cI cJ cZ : ClassId) (y : Nat → Nat) (m_tapeSize m_givers m_children m_coats m_legacies m_end m_insideMany : Nat) (m_thrown m_cycleMany m_vote m_low m_high m_wear m_spare m_places m_cycleNext m_fault m_faultPlace m_giverNext m_years m_next m_kind m_which m_place m_read m_readMany m_readHigh : Int32) (m_tape : Nat → Int32) (j : Nat) (he : m_end ≤ 300) (hj : j < 2147483648) : Met l yX8_isDigit wsX8_isDigit ({ frames := 0, cells := 0, slots := 0, locals := 0 } : Room) (cRd D (aTy cB cI cJ cZ) [((y 0), .inr (8, [.ref (y 1), .int (nI m_tapeSize), .int m_thrown, .ref (y 2), .int m_cycleMany, .int m_vote, .int m_low, .int m_high, .int m_wear, .int m_spare, .int m_places, .int m_cycleNext, .int m_fault, .int m_faultPlace, .int (nI m_givers), .ref (y 3), .ref (y 4), .int m_giverNext, .int (nI m_children), .ref (y 5), .ref (y 6), .ref (y 7), .ref (y 8), .ref (y 9), .int (nI m_coats), .ref (y 10), .ref (y 11), .ref (y 12), .ref (y 13), .int m_years, .int (nI m_legacies), .ref (y 14), .ref (y 15), .ref (y 16), .ref (y 17), .int (nI m_end), .int m_next, .int m_kind, .int m_which, .int m_place, .int m_read, .ref (y 18), .ref (y 19), .int m_readMany, .int m_readHigh, .ref (y 20), .int (nI m_insideMany), .ref (y 21), .ref (y 22), .ref (y 23), .ref (y 24), .ref (y 25)])), ((y 1), .inl (cI, 300, .inl m_tape))] [.ref (y 0), .int (nI j)]) (vp_Si (fun r : Int32 => isB r (j < m_end ∧ dgQ m_tape j))) 0 0 (fun _ => False) := by
  refine Met.ofW (cc := cX8_isDigit) (maxL := 2) (ret := (some .boolean)) (by decide) rfl ?_
  intro p e s m args below meth c s₁ B hml hv
  obtain ⟨rfl, hP, hK⟩ := hv
  have hx := B.exec
  have hb := B.bytes
  have hr := B.returns
  have hts := atoms_spec (ws := wsX8_isDigit) B.pre
  have hown : s.vm.findClass RX8 = some m.cls := findClass_of_methodNamed B.named
  have hlocks := B.notSynchronized
  have hP : va_P D vwCl [((y 0), .inr (8, [.ref (y 1), .int (nI m_tapeSize), .int m_thrown, .ref (y 2), .int m_cycleMany, .int m_vote, .int m_low, .int m_high, .int m_wear, .int m_spare, .int m_places, .int m_cycleNext, .int m_fault, .int m_faultPlace, .int (nI m_givers), .ref (y 3), .ref (y 4), .int m_giverNext, .int (nI m_children), .ref (y 5), .ref (y 6), .ref (y 7), .ref (y 8), .ref (y 9), .int (nI m_coats), .ref (y 10), .ref (y 11), .ref (y 12), .ref (y 13), .int m_years, .int (nI m_legacies), .ref (y 14), .ref (y 15), .ref (y 16), .ref (y 17), .int (nI m_end), .int m_next, .int m_kind, .int m_which, .int m_place, .int m_read, .ref (y 18), .ref (y 19), .int m_readMany, .int m_readHigh, .ref (y 20), .int (nI m_insideMany), .ref (y 21), .ref (y 22), .ref (y 23), .ref (y 24), .ref (y 25)])), ((y 1), .inl (cI, 300, .inl m_tape))] s.heap := hP
  have w_1 : ∀ w ∈ wsX80, w ∈ wsX8_isDigit := by decide +kernel
  have w_2 := hts (Cond.fieldLink RX8 121 "BlueCoatsModel" "end" "I") (by decide +kernel)
  have w_3 := hts (Cond.fieldLink RX8 7 "BlueCoatsModel" "tape" "[I") (by decide +kernel)
  have hl := lv_entry ([.ref (y 0), .int (nI j)]) (n := 2) (Nat.le_of_ble_eq_true rfl)
  rw [lg_entry_eq]
  generalize (lg_sl ([.ref (y 0), .int (nI j)]) ++ List.replicate (2 - (lg_sl ([.ref (y 0), .int (nI j)])).length) Slot.unset).toArray = ls at hl ⊢
  have hl : lv_has ls 2 [(0, .ref (y 0)), (1, .int (nI j))] := hl
  refine lv_iload_n hx hb dX8_isDigit_0 rfl (lv_at hl 1 rfl) ?_
  refine lv_aload_n hx hb dX8_isDigit_1 rfl (lv_at hl 0 rfl) ?_
  refine va_get (D := D) (ci := 8) (v := .int (nI m_end)) (C := RX8) (T := TX8) (N := 52) hx hb hts w_1 hown hK hP 0 rfl rfl 35 (by decide) w_2 (fun _ h9 => h9) rfl dX8_isDigit_2 ?_
  refine lv_icmp_ge (tgt := 34) hx hb dX8_isDigit_5 (by decide) (fun c_5 => ?_) (fun c_5 => ?_)
  ·
    refine lv_iconst (v := 0) hx hb dX8_isDigit_34 (by decide) ?_
    exact W.zret (v := 0) hx hb hr rfl (fun t ht hW => ⟨_, rfl, Or.inr ⟨rfl, fun h => absurd h.1 (Nat.not_lt.mpr (ge_c (by omega) hj c_5))⟩, ht⟩) (fun q h => nomatch h) dX8_isDigit_35
  ·
    have hlt : j < m_end := lt_c (by omega) hj c_5
    refine lv_aload_n hx hb dX8_isDigit_8 rfl (lv_at hl 0 rfl) ?_
    refine va_get (D := D) (ci := 8) (v := .ref (y 1)) (C := RX8) (T := TX8) (N := 52) hx hb hts w_1 hown hK hP 0 rfl rfl 0 (by decide) w_3 (fun _ h9 => h9) rfl dX8_isDigit_9 ?_
    refine lv_iload_n hx hb dX8_isDigit_12 rfl (lv_at hl 1 rfl) ?_
    refine sv_iald (v := m_tape j) hx hb hK hP 1 1 rfl rfl (vp_in_nI (by omega) (by decide)) (congrArg _ (nI_clamp (by omega))) dX8_isDigit_13 ?_
    refine lv_bipush (v := 48) hx hb dX8_isDigit_14 (by decide) ?_
    refine lv_icmp_lt (tgt := 34) hx hb dX8_isDigit_16 (by decide) (fun c_16 => ?_) (fun c_16 => ?_)
    ·
      refine lv_iconst (v := 0) hx hb dX8_isDigit_34 (by decide) ?_
      exact W.zret (v := 0) hx hb hr rfl (fun t ht hW => ⟨_, rfl, Or.inr ⟨rfl, fun h => absurd c_16 (Int32.not_lt.mpr h.2.1)⟩, ht⟩) (fun q h => nomatch h) dX8_isDigit_35
    ·
      refine lv_aload_n hx hb dX8_isDigit_19 rfl (lv_at hl 0 rfl) ?_
      refine va_get (D := D) (ci := 8) (v := .ref (y 1)) (C := RX8) (T := TX8) (N := 52) hx hb hts w_1 hown hK hP 0 rfl rfl 0 (by decide) w_3 (fun _ h9 => h9) rfl dX8_isDigit_20 ?_
      refine lv_iload_n hx hb dX8_isDigit_23 rfl (lv_at hl 1 rfl) ?_
      refine sv_iald (v := m_tape j) hx hb hK hP 1 1 rfl rfl (vp_in_nI (by omega) (by decide)) (congrArg _ (nI_clamp (by omega))) dX8_isDigit_24 ?_
      refine lv_bipush (v := 57) hx hb dX8_isDigit_25 (by decide) ?_
      refine lv_icmp_gt (tgt := 34) hx hb dX8_isDigit_27 (by decide) (fun c_27 => ?_) (fun c_27 => ?_)
      ·
        refine lv_iconst (v := 0) hx hb dX8_isDigit_34 (by decide) ?_
        exact W.zret (v := 0) hx hb hr rfl (fun t ht hW => ⟨_, rfl, Or.inr ⟨rfl, fun h => absurd c_27 (Int32.not_lt.mpr h.2.2)⟩, ht⟩) (fun q h => nomatch h) dX8_isDigit_35
      ·
        refine lv_iconst (v := 1) hx hb dX8_isDigit_30 (by decide) ?_
        refine lv_goto (tgt := 35) hx hb dX8_isDigit_31 (by decide) ?_
        exact W.zret (v := 1) hx hb hr rfl (fun t ht hW => ⟨_, rfl, Or.inl ⟨rfl, hlt, Int32.not_lt.mp c_16, Int32.not_lt.mp c_27⟩, ht⟩) (fun q h => nomatch h) dX8_isDigit_35

set_option maxHeartbeats 4000000 in
set_option maxRecDepth 100000 in
theorem f_X8_wordAt (l : Launch) (D : va_G) (cB cI cJ cZ : ClassId) (y : Nat → Nat) (m_tapeSize m_givers m_children m_coats m_legacies m_insideMany : Nat) (m_thrown m_cycleMany m_vote m_low m_high m_wear m_spare m_places m_cycleNext m_fault m_faultPlace m_giverNext m_years m_end m_next m_kind m_which m_place m_read m_readMany m_readHigh : Int32) (m_tape m_words : Nat → Int32) (a b : Nat) (hab : a ≤ b) (hb9 : b ≤ 300) (hwf : wOK m_words) : Met l yX8_wordAt wsX8_wordAt ({ frames := 0, cells := 0, slots := 0, locals := 0 } : Room) (cRd D (aTy cB cI cJ cZ) [((y 0), .inr (8, [.ref (y 1), .int (nI m_tapeSize), .int m_thrown, .ref (y 2), .int m_cycleMany, .int m_vote, .int m_low, .int m_high, .int m_wear, .int m_spare, .int m_places, .int m_cycleNext, .int m_fault, .int m_faultPlace, .int (nI m_givers), .ref (y 3), .ref (y 4), .int m_giverNext, .int (nI m_children), .ref (y 5), .ref (y 6), .ref (y 7), .ref (y 8), .ref (y 9), .int (nI m_coats), .ref (y 10), .ref (y 11), .ref (y 12), .ref (y 13), .int m_years, .int (nI m_legacies), .ref (y 14), .ref (y 15), .ref (y 16), .ref (y 17), .int m_end, .int m_next, .int m_kind, .int m_which, .int m_place, .int m_read, .ref (y 18), .ref (y 19), .int m_readMany, .int m_readHigh, .ref (y 20), .int (nI m_insideMany), .ref (y 21), .ref (y 22), .ref (y 23), .ref (y 24), .ref (y 25)])), ((y 1), .inl (cI, 300, .inl m_tape)), ((y 17), .inl (cI, 43, .inl m_words))] [.ref (y 0), .int (nI a), .int (nI b)]) (vp_Si (fun r : Int32 => (tX m_tape a b < 8 ∧ r = nI (tX m_tape a b)) ∨ (tX m_tape a b = 8 ∧ r = -1))) 0 0 (fun _ => False) := by
  refine Met.ofW (cc := cX8_wordAt) (maxL := 8) (ret := (some .int)) (by decide) rfl ?_
  intro p e s m args below meth c s₁ B hml hv
  obtain ⟨rfl, hP, hK⟩ := hv
  have hx := B.exec
  have hb := B.bytes
  have hr := B.returns
  have hts := atoms_spec (ws := wsX8_wordAt) B.pre
  have hown : s.vm.findClass RX8 = some m.cls := findClass_of_methodNamed B.named
  have hlocks := B.notSynchronized
  have hP : va_P D vwCl [((y 0), .inr (8, [.ref (y 1), .int (nI m_tapeSize), .int m_thrown, .ref (y 2), .int m_cycleMany, .int m_vote, .int m_low, .int m_high, .int m_wear, .int m_spare, .int m_places, .int m_cycleNext, .int m_fault, .int m_faultPlace, .int (nI m_givers), .ref (y 3), .ref (y 4), .int m_giverNext, .int (nI m_children), .ref (y 5), .ref (y 6), .ref (y 7), .ref (y 8), .ref (y 9), .int (nI m_coats), .ref (y 10), .ref (y 11), .ref (y 12), .ref (y 13), .int m_years, .int (nI m_legacies), .ref (y 14), .ref (y 15), .ref (y 16), .ref (y 17), .int m_end, .int m_next, .int m_kind, .int m_which, .int m_place, .int m_read, .ref (y 18), .ref (y 19), .int m_readMany, .int m_readHigh, .ref (y 20), .int (nI m_insideMany), .ref (y 21), .ref (y 22), .ref (y 23), .ref (y 24), .ref (y 25)])), ((y 1), .inl (cI, 300, .inl m_tape)), ((y 17), .inl (cI, 43, .inl m_words))] s.heap := hP
  have w_1 : ∀ w ∈ wsX80, w ∈ wsX8_wordAt := by decide +kernel
  have w_2 := hts (Cond.fieldLink RX8 84 "BlueCoatsModel" "words" "[I") (by decide +kernel)
  have w_3 := hts (Cond.fieldLink RX8 7 "BlueCoatsModel" "tape" "[I") (by decide +kernel)
  have hl := lv_entry ([.ref (y 0), .int (nI a), .int (nI b)]) (n := 8) (Nat.le_of_ble_eq_true rfl)
  rw [lg_entry_eq]
  generalize (lg_sl ([.ref (y 0), .int (nI a), .int (nI b)]) ++ List.replicate (8 - (lg_sl ([.ref (y 0), .int (nI a), .int (nI b)])).length) Slot.unset).toArray = ls at hl ⊢
  have hl : lv_has ls 8 [(0, .ref (y 0)), (1, .int (nI a)), (2, .int (nI b))] := hl
  generalize hQ : MQ below _ _ s _ _ _ = Q0
  refine lv_iconst (v := 0) hx hb dX8_wordAt_0 (by decide) ?_
  refine lv_istore_n (lv' := [(3, .int 0), (0, .ref (y 0)), (1, .int (nI a)), (2, .int (nI b))]) hx hb dX8_wordAt_1 rfl hl (by decide) rfl (fun ls hl => ?_)
  refine lv_iconst (v := 0) hx hb dX8_wordAt_2 (by decide) ?_
  refine lv_istore (lv' := [(4, .int 0), (3, .int 0), (0, .ref (y 0)), (1, .int (nI a)), (2, .int (nI b))]) hx hb dX8_wordAt_3 hl (by decide) rfl (fun ls hl => ?_)
  have J_8_43 : (∀ i, i < 8 → ¬ wdP m_tape a b i) → ∀ (ls : Array Slot), lv_has ls 8 [(0, .ref (y 0)), (1, .int (nI a)), (2, .int (nI b)), (3, .int 8), (4, .int 43)] → W p l e (headSpec wsX8_wordAt ({ frames := 0, cells := 0, slots := 0, locals := 0 } : Room)).room s m ([.ref (y 0), .int (nI a), .int (nI b)] : List Value).toArray below meth c s.heap [] 0 0 Q0 (F0 m 5 ls []) := by
    intro hN ls hl
    refine lv_iload hx hb dX8_wordAt_5 (lv_at hl 4 rfl) ?_
    refine lv_aload_n hx hb dX8_wordAt_7 rfl (lv_at hl 0 rfl) ?_
    refine va_get (D := D) (ci := 8) (v := .ref (y 17)) (C := RX8) (T := TX8) (N := 52) hx hb hts w_1 hown hK hP 0 rfl rfl 34 (by decide) w_2 (fun _ h9 => h9) rfl dX8_wordAt_8 ?_
    refine va_alen (v := 43) hx hb hK hP 2 1 rfl rfl rfl dX8_wordAt_11 ?_
    refine lv_icmp_ge (tgt := 126) hx hb dX8_wordAt_12 (by decide) (fun _ => ?_) (fun h => absurd (by decide) h)
    refine lv_iconst (v := (-1)) hx hb dX8_wordAt_126 (by decide) ?_
    rw [← hQ]
    exact W.iret (v := (-1)) hx hb hr (fun t ht hW => ⟨_, rfl, Or.inr ⟨tX_n hN, rfl⟩, ht⟩) (fun q h => nomatch h) dX8_wordAt_127
  have J_7_36 : (∀ i, i < 7 → ¬ wdP m_tape a b i) → ∀ (ls : Array Slot), lv_has ls 8 [(0, .ref (y 0)), (1, .int (nI a)), (2, .int (nI b)), (3, .int 7), (4, .int 36)] → W p l e (headSpec wsX8_wordAt ({ frames := 0, cells := 0, slots := 0, locals := 0 } : Room)).room s m ([.ref (y 0), .int (nI a), .int (nI b)] : List Value).toArray below meth c s.heap [] 0 0 Q0 (F0 m 5 ls []) := by
    intro hN ls hl
    refine lv_iload hx hb dX8_wordAt_5 (lv_at hl 4 rfl) ?_
    refine lv_aload_n hx hb dX8_wordAt_7 rfl (lv_at hl 0 rfl) ?_
    refine va_get (D := D) (ci := 8) (v := .ref (y 17)) (C := RX8) (T := TX8) (N := 52) hx hb hts w_1 hown hK hP 0 rfl rfl 34 (by decide) w_2 (fun _ h9 => h9) rfl dX8_wordAt_8 ?_
    refine va_alen (v := 43) hx hb hK hP 2 1 rfl rfl rfl dX8_wordAt_11 ?_
    refine lv_icmp_ge (tgt := 126) hx hb dX8_wordAt_12 (by decide) (fun h => absurd h (by decide)) (fun _ => ?_)
    refine lv_iconst (v := 0) hx hb dX8_wordAt_15 (by decide) ?_
    refine lv_istore (lv' := [(5, .int 0), (0, .ref (y 0)), (1, .int (nI a)), (2, .int (nI b)), (3, .int 7), (4, .int 36)]) hx hb dX8_wordAt_16 hl (by decide) rfl (fun ls hl => ?_)
    refine lv_aload_n hx hb dX8_wordAt_18 rfl (lv_at hl 1 rfl) ?_
    refine va_get (D := D) (ci := 8) (v := .ref (y 17)) (C := RX8) (T := TX8) (N := 52) hx hb hts w_1 hown hK hP 0 rfl rfl 34 (by decide) w_2 (fun _ h9 => h9) rfl dX8_wordAt_19 ?_
    refine lv_iload hx hb dX8_wordAt_22 (lv_at hl 5 rfl) ?_
    refine lv_iload hx hb dX8_wordAt_24 (lv_at hl 0 rfl) ?_
    refine sv_iadd (v := 36) hx hb dX8_wordAt_26 (by decide) ?_
    refine sv_iald (v := 112) hx hb hK hP 2 1 rfl rfl (vp_in_iff.mpr (by decide)) (hwf 36 (by decide)) dX8_wordAt_27 ?_
    refine lv_bipush (v := 32) hx hb dX8_wordAt_28 (by decide) ?_
    refine lv_icmp_eq (tgt := 39) hx hb dX8_wordAt_30 (by decide) (fun h => absurd h (by decide)) (fun _ => ?_)
    refine lv_iinc (v := 1) (lv' := [(5, .int 1), (0, .ref (y 0)), (1, .int (nI a)), (2, .int (nI b)), (3, .int 7), (4, .int 36)]) hx hb dX8_wordAt_33 hl (k := 0) rfl (by decide) (by decide) rfl (fun ls hl => ?_)
    refine lv_goto (tgt := 18) hx hb dX8_wordAt_36 (by decide) ?_
    refine lv_aload_n hx hb dX8_wordAt_18 rfl (lv_at hl 1 rfl) ?_
    refine va_get (D := D) (ci := 8) (v := .ref (y 17)) (C := RX8) (T := TX8) (N := 52) hx hb hts w_1 hown hK hP 0 rfl rfl 34 (by decide) w_2 (fun _ h9 => h9) rfl dX8_wordAt_19 ?_
    refine lv_iload hx hb dX8_wordAt_22 (lv_at hl 5 rfl) ?_
    refine lv_iload hx hb dX8_wordAt_24 (lv_at hl 0 rfl) ?_
    refine sv_iadd (v := 37) hx hb dX8_wordAt_26 (by decide) ?_
    refine sv_iald (v := 108) hx hb hK hP 2 1 rfl rfl (vp_in_iff.mpr (by decide)) (hwf 37 (by decide)) dX8_wordAt_27 ?_
    refine lv_bipush (v := 32) hx hb dX8_wordAt_28 (by decide) ?_
    refine lv_icmp_eq (tgt := 39) hx hb dX8_wordAt_30 (by decide) (fun h => absurd h (by decide)) (fun _ => ?_)
    refine lv_iinc (v := 2) (lv' := [(5, .int 2), (0, .ref (y 0)), (1, .int (nI a)), (2, .int (nI b)), (3, .int 7), (4, .int 36)]) hx hb dX8_wordAt_33 hl (k := 0) rfl (by decide) (by decide) rfl (fun ls hl => ?_)
    refine lv_goto (tgt := 18) hx hb dX8_wordAt_36 (by decide) ?_
    refine lv_aload_n hx hb dX8_wordAt_18 rfl (lv_at hl 1 rfl) ?_
    refine va_get (D := D) (ci := 8) (v := .ref (y 17)) (C := RX8) (T := TX8) (N := 52) hx hb hts w_1 hown hK hP 0 rfl rfl 34 (by decide) w_2 (fun _ h9 => h9) rfl dX8_wordAt_19 ?_
    refine lv_iload hx hb dX8_wordAt_22 (lv_at hl 5 rfl) ?_
    refine lv_iload hx hb dX8_wordAt_24 (lv_at hl 0 rfl) ?_
    refine sv_iadd (v := 38) hx hb dX8_wordAt_26 (by decide) ?_
    refine sv_iald (v := 97) hx hb hK hP 2 1 rfl rfl (vp_in_iff.mpr (by decide)) (hwf 38 (by decide)) dX8_wordAt_27 ?_
    refine lv_bipush (v := 32) hx hb dX8_wordAt_28 (by decide) ?_
    refine lv_icmp_eq (tgt := 39) hx hb dX8_wordAt_30 (by decide) (fun h => absurd h (by decide)) (fun _ => ?_)
    refine lv_iinc (v := 3) (lv' := [(5, .int 3), (0, .ref (y 0)), (1, .int (nI a)), (2, .int (nI b)), (3, .int 7), (4, .int 36)]) hx hb dX8_wordAt_33 hl (k := 0) rfl (by decide) (by decide) rfl (fun ls hl => ?_)
    refine lv_goto (tgt := 18) hx hb dX8_wordAt_36 (by decide) ?_
    refine lv_aload_n hx hb dX8_wordAt_18 rfl (lv_at hl 1 rfl) ?_
    refine va_get (D := D) (ci := 8) (v := .ref (y 17)) (C := RX8) (T := TX8) (N := 52) hx hb hts w_1 hown hK hP 0 rfl rfl 34 (by decide) w_2 (fun _ h9 => h9) rfl dX8_wordAt_19 ?_
    refine lv_iload hx hb dX8_wordAt_22 (lv_at hl 5 rfl) ?_
    refine lv_iload hx hb dX8_wordAt_24 (lv_at hl 0 rfl) ?_
    refine sv_iadd (v := 39) hx hb dX8_wordAt_26 (by decide) ?_
    refine sv_iald (v := 99) hx hb hK hP 2 1 rfl rfl (vp_in_iff.mpr (by decide)) (hwf 39 (by decide)) dX8_wordAt_27 ?_
    refine lv_bipush (v := 32) hx hb dX8_wordAt_28 (by decide) ?_
    refine lv_icmp_eq (tgt := 39) hx hb dX8_wordAt_30 (by decide) (fun h => absurd h (by decide)) (fun _ => ?_)
    refine lv_iinc (v := 4) (lv' := [(5, .int 4), (0, .ref (y 0)), (1, .int (nI a)), (2, .int (nI b)), (3, .int 7), (4, .int 36)]) hx hb dX8_wordAt_33 hl (k := 0) rfl (by decide) (by decide) rfl (fun ls hl => ?_)
    refine lv_goto (tgt := 18) hx hb dX8_wordAt_36 (by decide) ?_
    refine lv_aload_n hx hb dX8_wordAt_18 rfl (lv_at hl 1 rfl) ?_
    refine va_get (D := D) (ci := 8) (v := .ref (y 17)) (C := RX8) (T := TX8) (N := 52) hx hb hts w_1 hown hK hP 0 rfl rfl 34 (by decide) w_2 (fun _ h9 => h9) rfl dX8_wordAt_19 ?_
    refine lv_iload hx hb dX8_wordAt_22 (lv_at hl 5 rfl) ?_
    refine lv_iload hx hb dX8_wordAt_24 (lv_at hl 0 rfl) ?_
    refine sv_iadd (v := 40) hx hb dX8_wordAt_26 (by decide) ?_
    refine sv_iald (v := 101) hx hb hK hP 2 1 rfl rfl (vp_in_iff.mpr (by decide)) (hwf 40 (by decide)) dX8_wordAt_27 ?_
    refine lv_bipush (v := 32) hx hb dX8_wordAt_28 (by decide) ?_
    refine lv_icmp_eq (tgt := 39) hx hb dX8_wordAt_30 (by decide) (fun h => absurd h (by decide)) (fun _ => ?_)
    refine lv_iinc (v := 5) (lv' := [(5, .int 5), (0, .ref (y 0)), (1, .int (nI a)), (2, .int (nI b)), (3, .int 7), (4, .int 36)]) hx hb dX8_wordAt_33 hl (k := 0) rfl (by decide) (by decide) rfl (fun ls hl => ?_)
    refine lv_goto (tgt := 18) hx hb dX8_wordAt_36 (by decide) ?_
    refine lv_aload_n hx hb dX8_wordAt_18 rfl (lv_at hl 1 rfl) ?_
    refine va_get (D := D) (ci := 8) (v := .ref (y 17)) (C := RX8) (T := TX8) (N := 52) hx hb hts w_1 hown hK hP 0 rfl rfl 34 (by decide) w_2 (fun _ h9 => h9) rfl dX8_wordAt_19 ?_
    refine lv_iload hx hb dX8_wordAt_22 (lv_at hl 5 rfl) ?_
    refine lv_iload hx hb dX8_wordAt_24 (lv_at hl 0 rfl) ?_
    refine sv_iadd (v := 41) hx hb dX8_wordAt_26 (by decide) ?_
    refine sv_iald (v := 115) hx hb hK hP 2 1 rfl rfl (vp_in_iff.mpr (by decide)) (hwf 41 (by decide)) dX8_wordAt_27 ?_
    refine lv_bipush (v := 32) hx hb dX8_wordAt_28 (by decide) ?_
    refine lv_icmp_eq (tgt := 39) hx hb dX8_wordAt_30 (by decide) (fun h => absurd h (by decide)) (fun _ => ?_)
    refine lv_iinc (v := 6) (lv' := [(5, .int 6), (0, .ref (y 0)), (1, .int (nI a)), (2, .int (nI b)), (3, .int 7), (4, .int 36)]) hx hb dX8_wordAt_33 hl (k := 0) rfl (by decide) (by decide) rfl (fun ls hl => ?_)
    refine lv_goto (tgt := 18) hx hb dX8_wordAt_36 (by decide) ?_
    refine lv_aload_n hx hb dX8_wordAt_18 rfl (lv_at hl 1 rfl) ?_
    refine va_get (D := D) (ci := 8) (v := .ref (y 17)) (C := RX8) (T := TX8) (N := 52) hx hb hts w_1 hown hK hP 0 rfl rfl 34 (by decide) w_2 (fun _ h9 => h9) rfl dX8_wordAt_19 ?_
    refine lv_iload hx hb dX8_wordAt_22 (lv_at hl 5 rfl) ?_
    refine lv_iload hx hb dX8_wordAt_24 (lv_at hl 0 rfl) ?_
    refine sv_iadd (v := 42) hx hb dX8_wordAt_26 (by decide) ?_
    refine sv_iald (v := 32) hx hb hK hP 2 1 rfl rfl (vp_in_iff.mpr (by decide)) (hwf 42 (by decide)) dX8_wordAt_27 ?_
    refine lv_bipush (v := 32) hx hb dX8_wordAt_28 (by decide) ?_
    refine lv_icmp_eq (tgt := 39) hx hb dX8_wordAt_30 (by decide) (fun _ => ?_) (fun h => absurd (by decide) h)
    refine lv_iload hx hb dX8_wordAt_39 (lv_at hl 0 rfl) ?_
    refine lv_iload_n hx hb dX8_wordAt_41 rfl (lv_at hl 3 rfl) ?_
    refine lv_iload_n hx hb dX8_wordAt_42 rfl (lv_at hl 2 rfl) ?_
    refine sv_isub (v := nI (b - a)) hx hb dX8_wordAt_43 (nI_subN hab) ?_
    refine lv_icmp_ne (tgt := 51) hx hb dX8_wordAt_44 (by decide) (fun c_44 => ?_) (fun c_44 => ?_)
    ·
      refine lv_iconst (v := 0) hx hb dX8_wordAt_51 (by decide) ?_
      refine lv_istore (lv' := [(6, .int 0), (5, .int 6), (0, .ref (y 0)), (1, .int (nI a)), (2, .int (nI b)), (3, .int 7), (4, .int 36)]) hx hb dX8_wordAt_52 hl (by decide) rfl (fun ls hl => ?_)
      refine lv_iconst (v := 0) hx hb dX8_wordAt_54 (by decide) ?_
      refine lv_istore (lv' := [(7, .int 0), (6, .int 0), (5, .int 6), (0, .ref (y 0)), (1, .int (nI a)), (2, .int (nI b)), (3, .int 7), (4, .int 36)]) hx hb dX8_wordAt_55 hl (by decide) rfl (fun ls hl => ?_)
      refine lv_iload hx hb dX8_wordAt_57 (lv_at hl 0 rfl) ?_
      refine lv_iload hx hb dX8_wordAt_59 (lv_at hl 2 rfl) ?_
      refine lv_icmp_ge (tgt := 104) hx hb dX8_wordAt_61 (by decide) (fun h => absurd h (by decide)) (fun _ => ?_)
      refine lv_iload hx hb dX8_wordAt_64 (lv_at hl 1 rfl) ?_
      refine lv_if_eq (tgt := 104) hx hb dX8_wordAt_66 (by decide) (fun _ => ?_) (fun h => absurd (by decide) h)
      refine lv_iload hx hb dX8_wordAt_104 (lv_at hl 1 rfl) ?_
      refine lv_if_eq (tgt := 111) hx hb dX8_wordAt_106 (by decide) (fun _ => ?_) (fun h => absurd (by decide) h)
      refine lv_iload hx hb dX8_wordAt_111 (lv_at hl 7 rfl) ?_
      refine lv_iload hx hb dX8_wordAt_113 (lv_at hl 2 rfl) ?_
      refine lv_iconst (v := 1) hx hb dX8_wordAt_115 (by decide) ?_
      refine sv_iadd (v := 7) hx hb dX8_wordAt_116 (by decide) ?_
      refine sv_iadd (v := 43) hx hb dX8_wordAt_117 (by decide) ?_
      refine lv_istore (lv' := [(4, .int 43), (7, .int 0), (6, .int 0), (5, .int 6), (0, .ref (y 0)), (1, .int (nI a)), (2, .int (nI b)), (3, .int 7)]) hx hb dX8_wordAt_118 hl (by decide) rfl (fun ls hl => ?_)
      refine lv_iinc (v := 8) (lv' := [(3, .int 8), (4, .int 43), (7, .int 0), (6, .int 0), (5, .int 6), (0, .ref (y 0)), (1, .int (nI a)), (2, .int (nI b))]) hx hb dX8_wordAt_120 hl (k := 7) rfl (by decide) (by decide) rfl (fun ls hl => ?_)
      refine lv_goto (tgt := 5) hx hb dX8_wordAt_123 (by decide) ?_
      exact J_8_43 (wn_s hN (fun h => c_44 (by rw [show b - a = 6 by have h9 : b = a + 6 := h.1; omega]; rfl))) ls (lv_sub hl [5, 6, 7, 0, 1] rfl)
    ·
      have hlen : b = a + 6 := by have h9 := (nI_eq (a := 6) (by decide) (by omega)).mp c_44; omega
      refine lv_iconst (v := 1) hx hb dX8_wordAt_47 (by decide) ?_
      refine lv_goto (tgt := 52) hx hb dX8_wordAt_48 (by decide) ?_
      refine lv_istore (lv' := [(6, .int 1), (5, .int 6), (0, .ref (y 0)), (1, .int (nI a)), (2, .int (nI b)), (3, .int 7), (4, .int 36)]) hx hb dX8_wordAt_52 hl (by decide) rfl (fun ls hl => ?_)
      refine lv_iconst (v := 0) hx hb dX8_wordAt_54 (by decide) ?_
      refine lv_istore (lv' := [(7, .int 0), (6, .int 1), (5, .int 6), (0, .ref (y 0)), (1, .int (nI a)), (2, .int (nI b)), (3, .int 7), (4, .int 36)]) hx hb dX8_wordAt_55 hl (by decide) rfl (fun ls hl => ?_)
      refine lv_iload hx hb dX8_wordAt_57 (lv_at hl 0 rfl) ?_
      refine lv_iload hx hb dX8_wordAt_59 (lv_at hl 2 rfl) ?_
      refine lv_icmp_ge (tgt := 104) hx hb dX8_wordAt_61 (by decide) (fun h => absurd h (by decide)) (fun _ => ?_)
      refine lv_iload hx hb dX8_wordAt_64 (lv_at hl 1 rfl) ?_
      refine lv_if_eq (tgt := 104) hx hb dX8_wordAt_66 (by decide) (fun h => absurd h (by decide)) (fun _ => ?_)
      refine lv_aload_n hx hb dX8_wordAt_69 rfl (lv_at hl 3 rfl) ?_
      refine va_get (D := D) (ci := 8) (v := .ref (y 17)) (C := RX8) (T := TX8) (N := 52) hx hb hts w_1 hown hK hP 0 rfl rfl 34 (by decide) w_2 (fun _ h9 => h9) rfl dX8_wordAt_70 ?_
      refine lv_iload hx hb dX8_wordAt_73 (lv_at hl 7 rfl) ?_
      refine lv_iload hx hb dX8_wordAt_75 (lv_at hl 0 rfl) ?_
      refine sv_iadd (v := 36) hx hb dX8_wordAt_77 (by decide) ?_
      refine sv_iald (v := 112) hx hb hK hP 2 1 rfl rfl (vp_in_iff.mpr (by decide)) (hwf 36 (by decide)) dX8_wordAt_78 ?_
      refine lv_aload_n hx hb dX8_wordAt_79 rfl (lv_at hl 3 rfl) ?_
      refine va_get (D := D) (ci := 8) (v := .ref (y 1)) (C := RX8) (T := TX8) (N := 52) hx hb hts w_1 hown hK hP 0 rfl rfl 0 (by decide) w_3 (fun _ h9 => h9) rfl dX8_wordAt_80 ?_
      refine lv_iload_n hx hb dX8_wordAt_83 rfl (lv_at hl 4 rfl) ?_
      refine lv_iload hx hb dX8_wordAt_84 (lv_at hl 0 rfl) ?_
      refine sv_iadd (v := nI (a + 0)) hx hb dX8_wordAt_86 (ax_add a 0) ?_
      refine sv_iald (v := m_tape (a + 0)) hx hb hK hP 1 1 rfl rfl (vp_in_nI (by omega) (by decide)) (congrArg _ (nI_clamp (by omega))) dX8_wordAt_87 ?_
      refine lv_icmp_ne (tgt := 95) hx hb dX8_wordAt_88 (by decide) (fun c_88 => ?_) (fun c_88 => ?_)
      ·
        refine lv_iconst (v := 0) hx hb dX8_wordAt_95 (by decide) ?_
        refine lv_istore (lv' := [(6, .int 0), (7, .int 0), (5, .int 6), (0, .ref (y 0)), (1, .int (nI a)), (2, .int (nI b)), (3, .int 7), (4, .int 36)]) hx hb dX8_wordAt_96 hl (by decide) rfl (fun ls hl => ?_)
        refine lv_iinc (v := 1) (lv' := [(7, .int 1), (6, .int 0), (5, .int 6), (0, .ref (y 0)), (1, .int (nI a)), (2, .int (nI b)), (3, .int 7), (4, .int 36)]) hx hb dX8_wordAt_98 hl (k := 1) rfl (by decide) (by decide) rfl (fun ls hl => ?_)
        refine lv_goto (tgt := 57) hx hb dX8_wordAt_101 (by decide) ?_
        refine lv_iload hx hb dX8_wordAt_57 (lv_at hl 0 rfl) ?_
        refine lv_iload hx hb dX8_wordAt_59 (lv_at hl 2 rfl) ?_
        refine lv_icmp_ge (tgt := 104) hx hb dX8_wordAt_61 (by decide) (fun h => absurd h (by decide)) (fun _ => ?_)
        refine lv_iload hx hb dX8_wordAt_64 (lv_at hl 1 rfl) ?_
        refine lv_if_eq (tgt := 104) hx hb dX8_wordAt_66 (by decide) (fun _ => ?_) (fun h => absurd (by decide) h)
        refine lv_iload hx hb dX8_wordAt_104 (lv_at hl 1 rfl) ?_
        refine lv_if_eq (tgt := 111) hx hb dX8_wordAt_106 (by decide) (fun _ => ?_) (fun h => absurd (by decide) h)
        refine lv_iload hx hb dX8_wordAt_111 (lv_at hl 7 rfl) ?_
        refine lv_iload hx hb dX8_wordAt_113 (lv_at hl 2 rfl) ?_
        refine lv_iconst (v := 1) hx hb dX8_wordAt_115 (by decide) ?_
        refine sv_iadd (v := 7) hx hb dX8_wordAt_116 (by decide) ?_
        refine sv_iadd (v := 43) hx hb dX8_wordAt_117 (by decide) ?_
        refine lv_istore (lv' := [(4, .int 43), (7, .int 1), (6, .int 0), (5, .int 6), (0, .ref (y 0)), (1, .int (nI a)), (2, .int (nI b)), (3, .int 7)]) hx hb dX8_wordAt_118 hl (by decide) rfl (fun ls hl => ?_)
        refine lv_iinc (v := 8) (lv' := [(3, .int 8), (4, .int 43), (7, .int 1), (6, .int 0), (5, .int 6), (0, .ref (y 0)), (1, .int (nI a)), (2, .int (nI b))]) hx hb dX8_wordAt_120 hl (k := 7) rfl (by decide) (by decide) rfl (fun ls hl => ?_)
        refine lv_goto (tgt := 5) hx hb dX8_wordAt_123 (by decide) ?_
        exact J_8_43 (wn_s hN (fun h => c_88 (h.2 0 (by decide)).symm)) ls (lv_sub hl [5, 6, 7, 0, 1] rfl)
      ·
        have he_0 := c_88
        refine lv_iconst (v := 1) hx hb dX8_wordAt_91 (by decide) ?_
        refine lv_goto (tgt := 96) hx hb dX8_wordAt_92 (by decide) ?_
        refine lv_istore (lv' := [(6, .int 1), (7, .int 0), (5, .int 6), (0, .ref (y 0)), (1, .int (nI a)), (2, .int (nI b)), (3, .int 7), (4, .int 36)]) hx hb dX8_wordAt_96 hl (by decide) rfl (fun ls hl => ?_)
        refine lv_iinc (v := 1) (lv' := [(7, .int 1), (6, .int 1), (5, .int 6), (0, .ref (y 0)), (1, .int (nI a)), (2, .int (nI b)), (3, .int 7), (4, .int 36)]) hx hb dX8_wordAt_98 hl (k := 1) rfl (by decide) (by decide) rfl (fun ls hl => ?_)
        refine lv_goto (tgt := 57) hx hb dX8_wordAt_101 (by decide) ?_
        refine lv_iload hx hb dX8_wordAt_57 (lv_at hl 0 rfl) ?_
        refine lv_iload hx hb dX8_wordAt_59 (lv_at hl 2 rfl) ?_
        refine lv_icmp_ge (tgt := 104) hx hb dX8_wordAt_61 (by decide) (fun h => absurd h (by decide)) (fun _ => ?_)
        refine lv_iload hx hb dX8_wordAt_64 (lv_at hl 1 rfl) ?_
        refine lv_if_eq (tgt := 104) hx hb dX8_wordAt_66 (by decide) (fun h => absurd h (by decide)) (fun _ => ?_)
        refine lv_aload_n hx hb dX8_wordAt_69 rfl (lv_at hl 3 rfl) ?_
        refine va_get (D := D) (ci := 8) (v := .ref (y 17)) (C := RX8) (T := TX8) (N := 52) hx hb hts w_1 hown hK hP 0 rfl rfl 34 (by decide) w_2 (fun _ h9 => h9) rfl dX8_wordAt_70 ?_
        refine lv_iload hx hb dX8_wordAt_73 (lv_at hl 7 rfl) ?_
        refine lv_iload hx hb dX8_wordAt_75 (lv_at hl 0 rfl) ?_
        refine sv_iadd (v := 37) hx hb dX8_wordAt_77 (by decide) ?_
        refine sv_iald (v := 108) hx hb hK hP 2 1 rfl rfl (vp_in_iff.mpr (by decide)) (hwf 37 (by decide)) dX8_wordAt_78 ?_
        refine lv_aload_n hx hb dX8_wordAt_79 rfl (lv_at hl 3 rfl) ?_
        refine va_get (D := D) (ci := 8) (v := .ref (y 1)) (C := RX8) (T := TX8) (N := 52) hx hb hts w_1 hown hK hP 0 rfl rfl 0 (by decide) w_3 (fun _ h9 => h9) rfl dX8_wordAt_80 ?_
        refine lv_iload_n hx hb dX8_wordAt_83 rfl (lv_at hl 4 rfl) ?_
        refine lv_iload hx hb dX8_wordAt_84 (lv_at hl 0 rfl) ?_
        refine sv_iadd (v := nI (a + 1)) hx hb dX8_wordAt_86 (ax_add a 1) ?_
        refine sv_iald (v := m_tape (a + 1)) hx hb hK hP 1 1 rfl rfl (vp_in_nI (by omega) (by decide)) (congrArg _ (nI_clamp (by omega))) dX8_wordAt_87 ?_
        refine lv_icmp_ne (tgt := 95) hx hb dX8_wordAt_88 (by decide) (fun c_88 => ?_) (fun c_88 => ?_)
        ·
          refine lv_iconst (v := 0) hx hb dX8_wordAt_95 (by decide) ?_
          refine lv_istore (lv' := [(6, .int 0), (7, .int 1), (5, .int 6), (0, .ref (y 0)), (1, .int (nI a)), (2, .int (nI b)), (3, .int 7), (4, .int 36)]) hx hb dX8_wordAt_96 hl (by decide) rfl (fun ls hl => ?_)
          refine lv_iinc (v := 2) (lv' := [(7, .int 2), (6, .int 0), (5, .int 6), (0, .ref (y 0)), (1, .int (nI a)), (2, .int (nI b)), (3, .int 7), (4, .int 36)]) hx hb dX8_wordAt_98 hl (k := 1) rfl (by decide) (by decide) rfl (fun ls hl => ?_)
          refine lv_goto (tgt := 57) hx hb dX8_wordAt_101 (by decide) ?_
          refine lv_iload hx hb dX8_wordAt_57 (lv_at hl 0 rfl) ?_
          refine lv_iload hx hb dX8_wordAt_59 (lv_at hl 2 rfl) ?_
          refine lv_icmp_ge (tgt := 104) hx hb dX8_wordAt_61 (by decide) (fun h => absurd h (by decide)) (fun _ => ?_)
          refine lv_iload hx hb dX8_wordAt_64 (lv_at hl 1 rfl) ?_
          refine lv_if_eq (tgt := 104) hx hb dX8_wordAt_66 (by decide) (fun _ => ?_) (fun h => absurd (by decide) h)
          refine lv_iload hx hb dX8_wordAt_104 (lv_at hl 1 rfl) ?_
          refine lv_if_eq (tgt := 111) hx hb dX8_wordAt_106 (by decide) (fun _ => ?_) (fun h => absurd (by decide) h)
          refine lv_iload hx hb dX8_wordAt_111 (lv_at hl 7 rfl) ?_
          refine lv_iload hx hb dX8_wordAt_113 (lv_at hl 2 rfl) ?_
          refine lv_iconst (v := 1) hx hb dX8_wordAt_115 (by decide) ?_
          refine sv_iadd (v := 7) hx hb dX8_wordAt_116 (by decide) ?_
          refine sv_iadd (v := 43) hx hb dX8_wordAt_117 (by decide) ?_
          refine lv_istore (lv' := [(4, .int 43), (7, .int 2), (6, .int 0), (5, .int 6), (0, .ref (y 0)), (1, .int (nI a)), (2, .int (nI b)), (3, .int 7)]) hx hb dX8_wordAt_118 hl (by decide) rfl (fun ls hl => ?_)
          refine lv_iinc (v := 8) (lv' := [(3, .int 8), (4, .int 43), (7, .int 2), (6, .int 0), (5, .int 6), (0, .ref (y 0)), (1, .int (nI a)), (2, .int (nI b))]) hx hb dX8_wordAt_120 hl (k := 7) rfl (by decide) (by decide) rfl (fun ls hl => ?_)
          refine lv_goto (tgt := 5) hx hb dX8_wordAt_123 (by decide) ?_
          exact J_8_43 (wn_s hN (fun h => c_88 (h.2 1 (by decide)).symm)) ls (lv_sub hl [5, 6, 7, 0, 1] rfl)
        ·
          have he_1 := c_88
          refine lv_iconst (v := 1) hx hb dX8_wordAt_91 (by decide) ?_
          refine lv_goto (tgt := 96) hx hb dX8_wordAt_92 (by decide) ?_
          refine lv_istore (lv' := [(6, .int 1), (7, .int 1), (5, .int 6), (0, .ref (y 0)), (1, .int (nI a)), (2, .int (nI b)), (3, .int 7), (4, .int 36)]) hx hb dX8_wordAt_96 hl (by decide) rfl (fun ls hl => ?_)
          refine lv_iinc (v := 2) (lv' := [(7, .int 2), (6, .int 1), (5, .int 6), (0, .ref (y 0)), (1, .int (nI a)), (2, .int (nI b)), (3, .int 7), (4, .int 36)]) hx hb dX8_wordAt_98 hl (k := 1) rfl (by decide) (by decide) rfl (fun ls hl => ?_)
          refine lv_goto (tgt := 57) hx hb dX8_wordAt_101 (by decide) ?_
          refine lv_iload hx hb dX8_wordAt_57 (lv_at hl 0 rfl) ?_
          refine lv_iload hx hb dX8_wordAt_59 (lv_at hl 2 rfl) ?_
          refine lv_icmp_ge (tgt := 104) hx hb dX8_wordAt_61 (by decide) (fun h => absurd h (by decide)) (fun _ => ?_)
          refine lv_iload hx hb dX8_wordAt_64 (lv_at hl 1 rfl) ?_
          refine lv_if_eq (tgt := 104) hx hb dX8_wordAt_66 (by decide) (fun h => absurd h (by decide)) (fun _ => ?_)
          refine lv_aload_n hx hb dX8_wordAt_69 rfl (lv_at hl 3 rfl) ?_
          refine va_get (D := D) (ci := 8) (v := .ref (y 17)) (C := RX8) (T := TX8) (N := 52) hx hb hts w_1 hown hK hP 0 rfl rfl 34 (by decide) w_2 (fun _ h9 => h9) rfl dX8_wordAt_70 ?_
          refine lv_iload hx hb dX8_wordAt_73 (lv_at hl 7 rfl) ?_
          refine lv_iload hx hb dX8_wordAt_75 (lv_at hl 0 rfl) ?_
          refine sv_iadd (v := 38) hx hb dX8_wordAt_77 (by decide) ?_
          refine sv_iald (v := 97) hx hb hK hP 2 1 rfl rfl (vp_in_iff.mpr (by decide)) (hwf 38 (by decide)) dX8_wordAt_78 ?_
          refine lv_aload_n hx hb dX8_wordAt_79 rfl (lv_at hl 3 rfl) ?_
          refine va_get (D := D) (ci := 8) (v := .ref (y 1)) (C := RX8) (T := TX8) (N := 52) hx hb hts w_1 hown hK hP 0 rfl rfl 0 (by decide) w_3 (fun _ h9 => h9) rfl dX8_wordAt_80 ?_
          refine lv_iload_n hx hb dX8_wordAt_83 rfl (lv_at hl 4 rfl) ?_
          refine lv_iload hx hb dX8_wordAt_84 (lv_at hl 0 rfl) ?_
          refine sv_iadd (v := nI (a + 2)) hx hb dX8_wordAt_86 (ax_add a 2) ?_
          refine sv_iald (v := m_tape (a + 2)) hx hb hK hP 1 1 rfl rfl (vp_in_nI (by omega) (by decide)) (congrArg _ (nI_clamp (by omega))) dX8_wordAt_87 ?_
          refine lv_icmp_ne (tgt := 95) hx hb dX8_wordAt_88 (by decide) (fun c_88 => ?_) (fun c_88 => ?_)
          ·
            refine lv_iconst (v := 0) hx hb dX8_wordAt_95 (by decide) ?_
            refine lv_istore (lv' := [(6, .int 0), (7, .int 2), (5, .int 6), (0, .ref (y 0)), (1, .int (nI a)), (2, .int (nI b)), (3, .int 7), (4, .int 36)]) hx hb dX8_wordAt_96 hl (by decide) rfl (fun ls hl => ?_)
            refine lv_iinc (v := 3) (lv' := [(7, .int 3), (6, .int 0), (5, .int 6), (0, .ref (y 0)), (1, .int (nI a)), (2, .int (nI b)), (3, .int 7), (4, .int 36)]) hx hb dX8_wordAt_98 hl (k := 1) rfl (by decide) (by decide) rfl (fun ls hl => ?_)
            refine lv_goto (tgt := 57) hx hb dX8_wordAt_101 (by decide) ?_
            refine lv_iload hx hb dX8_wordAt_57 (lv_at hl 0 rfl) ?_
            refine lv_iload hx hb dX8_wordAt_59 (lv_at hl 2 rfl) ?_
            refine lv_icmp_ge (tgt := 104) hx hb dX8_wordAt_61 (by decide) (fun h => absurd h (by decide)) (fun _ => ?_)
            refine lv_iload hx hb dX8_wordAt_64 (lv_at hl 1 rfl) ?_
            refine lv_if_eq (tgt := 104) hx hb dX8_wordAt_66 (by decide) (fun _ => ?_) (fun h => absurd (by decide) h)
            refine lv_iload hx hb dX8_wordAt_104 (lv_at hl 1 rfl) ?_
            refine lv_if_eq (tgt := 111) hx hb dX8_wordAt_106 (by decide) (fun _ => ?_) (fun h => absurd (by decide) h)
            refine lv_iload hx hb dX8_wordAt_111 (lv_at hl 7 rfl) ?_
            refine lv_iload hx hb dX8_wordAt_113 (lv_at hl 2 rfl) ?_
            refine lv_iconst (v := 1) hx hb dX8_wordAt_115 (by decide) ?_
            refine sv_iadd (v := 7) hx hb dX8_wordAt_116 (by decide) ?_
            refine sv_iadd (v := 43) hx hb dX8_wordAt_117 (by decide) ?_
            refine lv_istore (lv' := [(4, .int 43), (7, .int 3), (6, .int 0), (5, .int 6), (0, .ref (y 0)), (1, .int (nI a)), (2, .int (nI b)), (3, .int 7)]) hx hb dX8_wordAt_118 hl (by decide) rfl (fun ls hl => ?_)
            refine lv_iinc (v := 8) (lv' := [(3, .int 8), (4, .int 43), (7, .int 3), (6, .int 0), (5, .int 6), (0, .ref (y 0)), (1, .int (nI a)), (2, .int (nI b))]) hx hb dX8_wordAt_120 hl (k := 7) rfl (by decide) (by decide) rfl (fun ls hl => ?_)
            refine lv_goto (tgt := 5) hx hb dX8_wordAt_123 (by decide) ?_
            exact J_8_43 (wn_s hN (fun h => c_88 (h.2 2 (by decide)).symm)) ls (lv_sub hl [5, 6, 7, 0, 1] rfl)
          ·
            have he_2 := c_88
            refine lv_iconst (v := 1) hx hb dX8_wordAt_91 (by decide) ?_
            refine lv_goto (tgt := 96) hx hb dX8_wordAt_92 (by decide) ?_
            refine lv_istore (lv' := [(6, .int 1), (7, .int 2), (5, .int 6), (0, .ref (y 0)), (1, .int (nI a)), (2, .int (nI b)), (3, .int 7), (4, .int 36)]) hx hb dX8_wordAt_96 hl (by decide) rfl (fun ls hl => ?_)
            refine lv_iinc (v := 3) (lv' := [(7, .int 3), (6, .int 1), (5, .int 6), (0, .ref (y 0)), (1, .int (nI a)), (2, .int (nI b)), (3, .int 7), (4, .int 36)]) hx hb dX8_wordAt_98 hl (k := 1) rfl (by decide) (by decide) rfl (fun ls hl => ?_)
            refine lv_goto (tgt := 57) hx hb dX8_wordAt_101 (by decide) ?_
            refine lv_iload hx hb dX8_wordAt_57 (lv_at hl 0 rfl) ?_
            refine lv_iload hx hb dX8_wordAt_59 (lv_at hl 2 rfl) ?_
            refine lv_icmp_ge (tgt := 104) hx hb dX8_wordAt_61 (by decide) (fun h => absurd h (by decide)) (fun _ => ?_)
            refine lv_iload hx hb dX8_wordAt_64 (lv_at hl 1 rfl) ?_
            refine lv_if_eq (tgt := 104) hx hb dX8_wordAt_66 (by decide) (fun h => absurd h (by decide)) (fun _ => ?_)
            refine lv_aload_n hx hb dX8_wordAt_69 rfl (lv_at hl 3 rfl) ?_
            refine va_get (D := D) (ci := 8) (v := .ref (y 17)) (C := RX8) (T := TX8) (N := 52) hx hb hts w_1 hown hK hP 0 rfl rfl 34 (by decide) w_2 (fun _ h9 => h9) rfl dX8_wordAt_70 ?_
            refine lv_iload hx hb dX8_wordAt_73 (lv_at hl 7 rfl) ?_
            refine lv_iload hx hb dX8_wordAt_75 (lv_at hl 0 rfl) ?_
            refine sv_iadd (v := 39) hx hb dX8_wordAt_77 (by decide) ?_
            refine sv_iald (v := 99) hx hb hK hP 2 1 rfl rfl (vp_in_iff.mpr (by decide)) (hwf 39 (by decide)) dX8_wordAt_78 ?_
            refine lv_aload_n hx hb dX8_wordAt_79 rfl (lv_at hl 3 rfl) ?_
            refine va_get (D := D) (ci := 8) (v := .ref (y 1)) (C := RX8) (T := TX8) (N := 52) hx hb hts w_1 hown hK hP 0 rfl rfl 0 (by decide) w_3 (fun _ h9 => h9) rfl dX8_wordAt_80 ?_
            refine lv_iload_n hx hb dX8_wordAt_83 rfl (lv_at hl 4 rfl) ?_
            refine lv_iload hx hb dX8_wordAt_84 (lv_at hl 0 rfl) ?_
            refine sv_iadd (v := nI (a + 3)) hx hb dX8_wordAt_86 (ax_add a 3) ?_
            refine sv_iald (v := m_tape (a + 3)) hx hb hK hP 1 1 rfl rfl (vp_in_nI (by omega) (by decide)) (congrArg _ (nI_clamp (by omega))) dX8_wordAt_87 ?_
            refine lv_icmp_ne (tgt := 95) hx hb dX8_wordAt_88 (by decide) (fun c_88 => ?_) (fun c_88 => ?_)
            ·
              refine lv_iconst (v := 0) hx hb dX8_wordAt_95 (by decide) ?_
              refine lv_istore (lv' := [(6, .int 0), (7, .int 3), (5, .int 6), (0, .ref (y 0)), (1, .int (nI a)), (2, .int (nI b)), (3, .int 7), (4, .int 36)]) hx hb dX8_wordAt_96 hl (by decide) rfl (fun ls hl => ?_)
              refine lv_iinc (v := 4) (lv' := [(7, .int 4), (6, .int 0), (5, .int 6), (0, .ref (y 0)), (1, .int (nI a)), (2, .int (nI b)), (3, .int 7), (4, .int 36)]) hx hb dX8_wordAt_98 hl (k := 1) rfl (by decide) (by decide) rfl (fun ls hl => ?_)
              refine lv_goto (tgt := 57) hx hb dX8_wordAt_101 (by decide) ?_
              refine lv_iload hx hb dX8_wordAt_57 (lv_at hl 0 rfl) ?_
              refine lv_iload hx hb dX8_wordAt_59 (lv_at hl 2 rfl) ?_
              refine lv_icmp_ge (tgt := 104) hx hb dX8_wordAt_61 (by decide) (fun h => absurd h (by decide)) (fun _ => ?_)
              refine lv_iload hx hb dX8_wordAt_64 (lv_at hl 1 rfl) ?_
              refine lv_if_eq (tgt := 104) hx hb dX8_wordAt_66 (by decide) (fun _ => ?_) (fun h => absurd (by decide) h)
              refine lv_iload hx hb dX8_wordAt_104 (lv_at hl 1 rfl) ?_
              refine lv_if_eq (tgt := 111) hx hb dX8_wordAt_106 (by decide) (fun _ => ?_) (fun h => absurd (by decide) h)
              refine lv_iload hx hb dX8_wordAt_111 (lv_at hl 7 rfl) ?_
              refine lv_iload hx hb dX8_wordAt_113 (lv_at hl 2 rfl) ?_
              refine lv_iconst (v := 1) hx hb dX8_wordAt_115 (by decide) ?_
              refine sv_iadd (v := 7) hx hb dX8_wordAt_116 (by decide) ?_
              refine sv_iadd (v := 43) hx hb dX8_wordAt_117 (by decide) ?_
              refine lv_istore (lv' := [(4, .int 43), (7, .int 4), (6, .int 0), (5, .int 6), (0, .ref (y 0)), (1, .int (nI a)), (2, .int (nI b)), (3, .int 7)]) hx hb dX8_wordAt_118 hl (by decide) rfl (fun ls hl => ?_)
              refine lv_iinc (v := 8) (lv' := [(3, .int 8), (4, .int 43), (7, .int 4), (6, .int 0), (5, .int 6), (0, .ref (y 0)), (1, .int (nI a)), (2, .int (nI b))]) hx hb dX8_wordAt_120 hl (k := 7) rfl (by decide) (by decide) rfl (fun ls hl => ?_)
              refine lv_goto (tgt := 5) hx hb dX8_wordAt_123 (by decide) ?_
              exact J_8_43 (wn_s hN (fun h => c_88 (h.2 3 (by decide)).symm)) ls (lv_sub hl [5, 6, 7, 0, 1] rfl)
            ·
              have he_3 := c_88
              refine lv_iconst (v := 1) hx hb dX8_wordAt_91 (by decide) ?_
              refine lv_goto (tgt := 96) hx hb dX8_wordAt_92 (by decide) ?_
              refine lv_istore (lv' := [(6, .int 1), (7, .int 3), (5, .int 6), (0, .ref (y 0)), (1, .int (nI a)), (2, .int (nI b)), (3, .int 7), (4, .int 36)]) hx hb dX8_wordAt_96 hl (by decide) rfl (fun ls hl => ?_)
              refine lv_iinc (v := 4) (lv' := [(7, .int 4), (6, .int 1), (5, .int 6), (0, .ref (y 0)), (1, .int (nI a)), (2, .int (nI b)), (3, .int 7), (4, .int 36)]) hx hb dX8_wordAt_98 hl (k := 1) rfl (by decide) (by decide) rfl (fun ls hl => ?_)
              refine lv_goto (tgt := 57) hx hb dX8_wordAt_101 (by decide) ?_
              refine lv_iload hx hb dX8_wordAt_57 (lv_at hl 0 rfl) ?_
              refine lv_iload hx hb dX8_wordAt_59 (lv_at hl 2 rfl) ?_
              refine lv_icmp_ge (tgt := 104) hx hb dX8_wordAt_61 (by decide) (fun h => absurd h (by decide)) (fun _ => ?_)
              refine lv_iload hx hb dX8_wordAt_64 (lv_at hl 1 rfl) ?_
              refine lv_if_eq (tgt := 104) hx hb dX8_wordAt_66 (by decide) (fun h => absurd h (by decide)) (fun _ => ?_)
              refine lv_aload_n hx hb dX8_wordAt_69 rfl (lv_at hl 3 rfl) ?_
              refine va_get (D := D) (ci := 8) (v := .ref (y 17)) (C := RX8) (T := TX8) (N := 52) hx hb hts w_1 hown hK hP 0 rfl rfl 34 (by decide) w_2 (fun _ h9 => h9) rfl dX8_wordAt_70 ?_
              refine lv_iload hx hb dX8_wordAt_73 (lv_at hl 7 rfl) ?_
              refine lv_iload hx hb dX8_wordAt_75 (lv_at hl 0 rfl) ?_
              refine sv_iadd (v := 40) hx hb dX8_wordAt_77 (by decide) ?_
              refine sv_iald (v := 101) hx hb hK hP 2 1 rfl rfl (vp_in_iff.mpr (by decide)) (hwf 40 (by decide)) dX8_wordAt_78 ?_
              refine lv_aload_n hx hb dX8_wordAt_79 rfl (lv_at hl 3 rfl) ?_
              refine va_get (D := D) (ci := 8) (v := .ref (y 1)) (C := RX8) (T := TX8) (N := 52) hx hb hts w_1 hown hK hP 0 rfl rfl 0 (by decide) w_3 (fun _ h9 => h9) rfl dX8_wordAt_80 ?_
              refine lv_iload_n hx hb dX8_wordAt_83 rfl (lv_at hl 4 rfl) ?_
              refine lv_iload hx hb dX8_wordAt_84 (lv_at hl 0 rfl) ?_
              refine sv_iadd (v := nI (a + 4)) hx hb dX8_wordAt_86 (ax_add a 4) ?_
              refine sv_iald (v := m_tape (a + 4)) hx hb hK hP 1 1 rfl rfl (vp_in_nI (by omega) (by decide)) (congrArg _ (nI_clamp (by omega))) dX8_wordAt_87 ?_
              refine lv_icmp_ne (tgt := 95) hx hb dX8_wordAt_88 (by decide) (fun c_88 => ?_) (fun c_88 => ?_)
              ·
                refine lv_iconst (v := 0) hx hb dX8_wordAt_95 (by decide) ?_
                refine lv_istore (lv' := [(6, .int 0), (7, .int 4), (5, .int 6), (0, .ref (y 0)), (1, .int (nI a)), (2, .int (nI b)), (3, .int 7), (4, .int 36)]) hx hb dX8_wordAt_96 hl (by decide) rfl (fun ls hl => ?_)
                refine lv_iinc (v := 5) (lv' := [(7, .int 5), (6, .int 0), (5, .int 6), (0, .ref (y 0)), (1, .int (nI a)), (2, .int (nI b)), (3, .int 7), (4, .int 36)]) hx hb dX8_wordAt_98 hl (k := 1) rfl (by decide) (by decide) rfl (fun ls hl => ?_)
                refine lv_goto (tgt := 57) hx hb dX8_wordAt_101 (by decide) ?_
                refine lv_iload hx hb dX8_wordAt_57 (lv_at hl 0 rfl) ?_
                refine lv_iload hx hb dX8_wordAt_59 (lv_at hl 2 rfl) ?_
                refine lv_icmp_ge (tgt := 104) hx hb dX8_wordAt_61 (by decide) (fun h => absurd h (by decide)) (fun _ => ?_)
                refine lv_iload hx hb dX8_wordAt_64 (lv_at hl 1 rfl) ?_
                refine lv_if_eq (tgt := 104) hx hb dX8_wordAt_66 (by decide) (fun _ => ?_) (fun h => absurd (by decide) h)
                refine lv_iload hx hb dX8_wordAt_104 (lv_at hl 1 rfl) ?_
                refine lv_if_eq (tgt := 111) hx hb dX8_wordAt_106 (by decide) (fun _ => ?_) (fun h => absurd (by decide) h)
                refine lv_iload hx hb dX8_wordAt_111 (lv_at hl 7 rfl) ?_
                refine lv_iload hx hb dX8_wordAt_113 (lv_at hl 2 rfl) ?_
                refine lv_iconst (v := 1) hx hb dX8_wordAt_115 (by decide) ?_
                refine sv_iadd (v := 7) hx hb dX8_wordAt_116 (by decide) ?_
                refine sv_iadd (v := 43) hx hb dX8_wordAt_117 (by decide) ?_
                refine lv_istore (lv' := [(4, .int 43), (7, .int 5), (6, .int 0), (5, .int 6), (0, .ref (y 0)), (1, .int (nI a)), (2, .int (nI b)), (3, .int 7)]) hx hb dX8_wordAt_118 hl (by decide) rfl (fun ls hl => ?_)
                refine lv_iinc (v := 8) (lv' := [(3, .int 8), (4, .int 43), (7, .int 5), (6, .int 0), (5, .int 6), (0, .ref (y 0)), (1, .int (nI a)), (2, .int (nI b))]) hx hb dX8_wordAt_120 hl (k := 7) rfl (by decide) (by decide) rfl (fun ls hl => ?_)
                refine lv_goto (tgt := 5) hx hb dX8_wordAt_123 (by decide) ?_
                exact J_8_43 (wn_s hN (fun h => c_88 (h.2 4 (by decide)).symm)) ls (lv_sub hl [5, 6, 7, 0, 1] rfl)
              ·
                have he_4 := c_88
                refine lv_iconst (v := 1) hx hb dX8_wordAt_91 (by decide) ?_
                refine lv_goto (tgt := 96) hx hb dX8_wordAt_92 (by decide) ?_
                refine lv_istore (lv' := [(6, .int 1), (7, .int 4), (5, .int 6), (0, .ref (y 0)), (1, .int (nI a)), (2, .int (nI b)), (3, .int 7), (4, .int 36)]) hx hb dX8_wordAt_96 hl (by decide) rfl (fun ls hl => ?_)
                refine lv_iinc (v := 5) (lv' := [(7, .int 5), (6, .int 1), (5, .int 6), (0, .ref (y 0)), (1, .int (nI a)), (2, .int (nI b)), (3, .int 7), (4, .int 36)]) hx hb dX8_wordAt_98 hl (k := 1) rfl (by decide) (by decide) rfl (fun ls hl => ?_)
                refine lv_goto (tgt := 57) hx hb dX8_wordAt_101 (by decide) ?_
                refine lv_iload hx hb dX8_wordAt_57 (lv_at hl 0 rfl) ?_
                refine lv_iload hx hb dX8_wordAt_59 (lv_at hl 2 rfl) ?_
                refine lv_icmp_ge (tgt := 104) hx hb dX8_wordAt_61 (by decide) (fun h => absurd h (by decide)) (fun _ => ?_)
                refine lv_iload hx hb dX8_wordAt_64 (lv_at hl 1 rfl) ?_
                refine lv_if_eq (tgt := 104) hx hb dX8_wordAt_66 (by decide) (fun h => absurd h (by decide)) (fun _ => ?_)
                refine lv_aload_n hx hb dX8_wordAt_69 rfl (lv_at hl 3 rfl) ?_
                refine va_get (D := D) (ci := 8) (v := .ref (y 17)) (C := RX8) (T := TX8) (N := 52) hx hb hts w_1 hown hK hP 0 rfl rfl 34 (by decide) w_2 (fun _ h9 => h9) rfl dX8_wordAt_70 ?_
                refine lv_iload hx hb dX8_wordAt_73 (lv_at hl 7 rfl) ?_
                refine lv_iload hx hb dX8_wordAt_75 (lv_at hl 0 rfl) ?_
                refine sv_iadd (v := 41) hx hb dX8_wordAt_77 (by decide) ?_
                refine sv_iald (v := 115) hx hb hK hP 2 1 rfl rfl (vp_in_iff.mpr (by decide)) (hwf 41 (by decide)) dX8_wordAt_78 ?_
                refine lv_aload_n hx hb dX8_wordAt_79 rfl (lv_at hl 3 rfl) ?_
                refine va_get (D := D) (ci := 8) (v := .ref (y 1)) (C := RX8) (T := TX8) (N := 52) hx hb hts w_1 hown hK hP 0 rfl rfl 0 (by decide) w_3 (fun _ h9 => h9) rfl dX8_wordAt_80 ?_
                refine lv_iload_n hx hb dX8_wordAt_83 rfl (lv_at hl 4 rfl) ?_
                refine lv_iload hx hb dX8_wordAt_84 (lv_at hl 0 rfl) ?_
                refine sv_iadd (v := nI (a + 5)) hx hb dX8_wordAt_86 (ax_add a 5) ?_
                refine sv_iald (v := m_tape (a + 5)) hx hb hK hP 1 1 rfl rfl (vp_in_nI (by omega) (by decide)) (congrArg _ (nI_clamp (by omega))) dX8_wordAt_87 ?_
                refine lv_icmp_ne (tgt := 95) hx hb dX8_wordAt_88 (by decide) (fun c_88 => ?_) (fun c_88 => ?_)
                ·
                  refine lv_iconst (v := 0) hx hb dX8_wordAt_95 (by decide) ?_
                  refine lv_istore (lv' := [(6, .int 0), (7, .int 5), (5, .int 6), (0, .ref (y 0)), (1, .int (nI a)), (2, .int (nI b)), (3, .int 7), (4, .int 36)]) hx hb dX8_wordAt_96 hl (by decide) rfl (fun ls hl => ?_)
                  refine lv_iinc (v := 6) (lv' := [(7, .int 6), (6, .int 0), (5, .int 6), (0, .ref (y 0)), (1, .int (nI a)), (2, .int (nI b)), (3, .int 7), (4, .int 36)]) hx hb dX8_wordAt_98 hl (k := 1) rfl (by decide) (by decide) rfl (fun ls hl => ?_)
                  refine lv_goto (tgt := 57) hx hb dX8_wordAt_101 (by decide) ?_
                  refine lv_iload hx hb dX8_wordAt_57 (lv_at hl 0 rfl) ?_
                  refine lv_iload hx hb dX8_wordAt_59 (lv_at hl 2 rfl) ?_
                  refine lv_icmp_ge (tgt := 104) hx hb dX8_wordAt_61 (by decide) (fun _ => ?_) (fun h => absurd (by decide) h)
                  refine lv_iload hx hb dX8_wordAt_104 (lv_at hl 1 rfl) ?_
                  refine lv_if_eq (tgt := 111) hx hb dX8_wordAt_106 (by decide) (fun _ => ?_) (fun h => absurd (by decide) h)
                  refine lv_iload hx hb dX8_wordAt_111 (lv_at hl 7 rfl) ?_
                  refine lv_iload hx hb dX8_wordAt_113 (lv_at hl 2 rfl) ?_
                  refine lv_iconst (v := 1) hx hb dX8_wordAt_115 (by decide) ?_
                  refine sv_iadd (v := 7) hx hb dX8_wordAt_116 (by decide) ?_
                  refine sv_iadd (v := 43) hx hb dX8_wordAt_117 (by decide) ?_
                  refine lv_istore (lv' := [(4, .int 43), (7, .int 6), (6, .int 0), (5, .int 6), (0, .ref (y 0)), (1, .int (nI a)), (2, .int (nI b)), (3, .int 7)]) hx hb dX8_wordAt_118 hl (by decide) rfl (fun ls hl => ?_)
                  refine lv_iinc (v := 8) (lv' := [(3, .int 8), (4, .int 43), (7, .int 6), (6, .int 0), (5, .int 6), (0, .ref (y 0)), (1, .int (nI a)), (2, .int (nI b))]) hx hb dX8_wordAt_120 hl (k := 7) rfl (by decide) (by decide) rfl (fun ls hl => ?_)
                  refine lv_goto (tgt := 5) hx hb dX8_wordAt_123 (by decide) ?_
                  exact J_8_43 (wn_s hN (fun h => c_88 (h.2 5 (by decide)).symm)) ls (lv_sub hl [5, 6, 7, 0, 1] rfl)
                ·
                  have he_5 := c_88
                  refine lv_iconst (v := 1) hx hb dX8_wordAt_91 (by decide) ?_
                  refine lv_goto (tgt := 96) hx hb dX8_wordAt_92 (by decide) ?_
                  refine lv_istore (lv' := [(6, .int 1), (7, .int 5), (5, .int 6), (0, .ref (y 0)), (1, .int (nI a)), (2, .int (nI b)), (3, .int 7), (4, .int 36)]) hx hb dX8_wordAt_96 hl (by decide) rfl (fun ls hl => ?_)
                  refine lv_iinc (v := 6) (lv' := [(7, .int 6), (6, .int 1), (5, .int 6), (0, .ref (y 0)), (1, .int (nI a)), (2, .int (nI b)), (3, .int 7), (4, .int 36)]) hx hb dX8_wordAt_98 hl (k := 1) rfl (by decide) (by decide) rfl (fun ls hl => ?_)
                  refine lv_goto (tgt := 57) hx hb dX8_wordAt_101 (by decide) ?_
                  refine lv_iload hx hb dX8_wordAt_57 (lv_at hl 0 rfl) ?_
                  refine lv_iload hx hb dX8_wordAt_59 (lv_at hl 2 rfl) ?_
                  refine lv_icmp_ge (tgt := 104) hx hb dX8_wordAt_61 (by decide) (fun _ => ?_) (fun h => absurd (by decide) h)
                  refine lv_iload hx hb dX8_wordAt_104 (lv_at hl 1 rfl) ?_
                  refine lv_if_eq (tgt := 111) hx hb dX8_wordAt_106 (by decide) (fun h => absurd h (by decide)) (fun _ => ?_)
                  refine lv_iload_n hx hb dX8_wordAt_109 rfl (lv_at hl 6 rfl) ?_
                  rw [← hQ]
                  exact W.iret (v := 7) hx hb hr (fun t ht hW => ⟨_, rfl, Or.inl (wa_y (w := 7) (by decide) ⟨hlen, fun j hj => by match j, hj with | 0, _ => exact he_0.symm | 1, _ => exact he_1.symm | 2, _ => exact he_2.symm | 3, _ => exact he_3.symm | 4, _ => exact he_4.symm | 5, _ => exact he_5.symm | j + 6, hj => exact absurd hj (show ¬ j + 6 < 6 by omega)⟩ rfl), ht⟩) (fun q h => nomatch h) dX8_wordAt_110
  have J_6_30 : (∀ i, i < 6 → ¬ wdP m_tape a b i) → ∀ (ls : Array Slot), lv_has ls 8 [(0, .ref (y 0)), (1, .int (nI a)), (2, .int (nI b)), (3, .int 6), (4, .int 30)] → W p l e (headSpec wsX8_wordAt ({ frames := 0, cells := 0, slots := 0, locals := 0 } : Room)).room s m ([.ref (y 0), .int (nI a), .int (nI b)] : List Value).toArray below meth c s.heap [] 0 0 Q0 (F0 m 5 ls []) := by
    intro hN ls hl
    refine lv_iload hx hb dX8_wordAt_5 (lv_at hl 4 rfl) ?_
    refine lv_aload_n hx hb dX8_wordAt_7 rfl (lv_at hl 0 rfl) ?_
    refine va_get (D := D) (ci := 8) (v := .ref (y 17)) (C := RX8) (T := TX8) (N := 52) hx hb hts w_1 hown hK hP 0 rfl rfl 34 (by decide) w_2 (fun _ h9 => h9) rfl dX8_wordAt_8 ?_
    refine va_alen (v := 43) hx hb hK hP 2 1 rfl rfl rfl dX8_wordAt_11 ?_
    refine lv_icmp_ge (tgt := 126) hx hb dX8_wordAt_12 (by decide) (fun h => absurd h (by decide)) (fun _ => ?_)
    refine lv_iconst (v := 0) hx hb dX8_wordAt_15 (by decide) ?_
    refine lv_istore (lv' := [(5, .int 0), (0, .ref (y 0)), (1, .int (nI a)), (2, .int (nI b)), (3, .int 6), (4, .int 30)]) hx hb dX8_wordAt_16 hl (by decide) rfl (fun ls hl => ?_)
    refine lv_aload_n hx hb dX8_wordAt_18 rfl (lv_at hl 1 rfl) ?_
    refine va_get (D := D) (ci := 8) (v := .ref (y 17)) (C := RX8) (T := TX8) (N := 52) hx hb hts w_1 hown hK hP 0 rfl rfl 34 (by decide) w_2 (fun _ h9 => h9) rfl dX8_wordAt_19 ?_
    refine lv_iload hx hb dX8_wordAt_22 (lv_at hl 5 rfl) ?_
    refine lv_iload hx hb dX8_wordAt_24 (lv_at hl 0 rfl) ?_
    refine sv_iadd (v := 30) hx hb dX8_wordAt_26 (by decide) ?_
    refine sv_iald (v := 115) hx hb hK hP 2 1 rfl rfl (vp_in_iff.mpr (by decide)) (hwf 30 (by decide)) dX8_wordAt_27 ?_
    refine lv_bipush (v := 32) hx hb dX8_wordAt_28 (by decide) ?_
    refine lv_icmp_eq (tgt := 39) hx hb dX8_wordAt_30 (by decide) (fun h => absurd h (by decide)) (fun _ => ?_)
    refine lv_iinc (v := 1) (lv' := [(5, .int 1), (0, .ref (y 0)), (1, .int (nI a)), (2, .int (nI b)), (3, .int 6), (4, .int 30)]) hx hb dX8_wordAt_33 hl (k := 0) rfl (by decide) (by decide) rfl (fun ls hl => ?_)
    refine lv_goto (tgt := 18) hx hb dX8_wordAt_36 (by decide) ?_
    refine lv_aload_n hx hb dX8_wordAt_18 rfl (lv_at hl 1 rfl) ?_
    refine va_get (D := D) (ci := 8) (v := .ref (y 17)) (C := RX8) (T := TX8) (N := 52) hx hb hts w_1 hown hK hP 0 rfl rfl 34 (by decide) w_2 (fun _ h9 => h9) rfl dX8_wordAt_19 ?_
    refine lv_iload hx hb dX8_wordAt_22 (lv_at hl 5 rfl) ?_
    refine lv_iload hx hb dX8_wordAt_24 (lv_at hl 0 rfl) ?_
    refine sv_iadd (v := 31) hx hb dX8_wordAt_26 (by decide) ?_
    refine sv_iald (v := 112) hx hb hK hP 2 1 rfl rfl (vp_in_iff.mpr (by decide)) (hwf 31 (by decide)) dX8_wordAt_27 ?_
    refine lv_bipush (v := 32) hx hb dX8_wordAt_28 (by decide) ?_
    refine lv_icmp_eq (tgt := 39) hx hb dX8_wordAt_30 (by decide) (fun h => absurd h (by decide)) (fun _ => ?_)
    refine lv_iinc (v := 2) (lv' := [(5, .int 2), (0, .ref (y 0)), (1, .int (nI a)), (2, .int (nI b)), (3, .int 6), (4, .int 30)]) hx hb dX8_wordAt_33 hl (k := 0) rfl (by decide) (by decide) rfl (fun ls hl => ?_)
    refine lv_goto (tgt := 18) hx hb dX8_wordAt_36 (by decide) ?_
    refine lv_aload_n hx hb dX8_wordAt_18 rfl (lv_at hl 1 rfl) ?_
    refine va_get (D := D) (ci := 8) (v := .ref (y 17)) (C := RX8) (T := TX8) (N := 52) hx hb hts w_1 hown hK hP 0 rfl rfl 34 (by decide) w_2 (fun _ h9 => h9) rfl dX8_wordAt_19 ?_
    refine lv_iload hx hb dX8_wordAt_22 (lv_at hl 5 rfl) ?_
    refine lv_iload hx hb dX8_wordAt_24 (lv_at hl 0 rfl) ?_
    refine sv_iadd (v := 32) hx hb dX8_wordAt_26 (by decide) ?_
    refine sv_iald (v := 97) hx hb hK hP 2 1 rfl rfl (vp_in_iff.mpr (by decide)) (hwf 32 (by decide)) dX8_wordAt_27 ?_
    refine lv_bipush (v := 32) hx hb dX8_wordAt_28 (by decide) ?_
    refine lv_icmp_eq (tgt := 39) hx hb dX8_wordAt_30 (by decide) (fun h => absurd h (by decide)) (fun _ => ?_)
    refine lv_iinc (v := 3) (lv' := [(5, .int 3), (0, .ref (y 0)), (1, .int (nI a)), (2, .int (nI b)), (3, .int 6), (4, .int 30)]) hx hb dX8_wordAt_33 hl (k := 0) rfl (by decide) (by decide) rfl (fun ls hl => ?_)
    refine lv_goto (tgt := 18) hx hb dX8_wordAt_36 (by decide) ?_
    refine lv_aload_n hx hb dX8_wordAt_18 rfl (lv_at hl 1 rfl) ?_
    refine va_get (D := D) (ci := 8) (v := .ref (y 17)) (C := RX8) (T := TX8) (N := 52) hx hb hts w_1 hown hK hP 0 rfl rfl 34 (by decide) w_2 (fun _ h9 => h9) rfl dX8_wordAt_19 ?_
    refine lv_iload hx hb dX8_wordAt_22 (lv_at hl 5 rfl) ?_
    refine lv_iload hx hb dX8_wordAt_24 (lv_at hl 0 rfl) ?_
    refine sv_iadd (v := 33) hx hb dX8_wordAt_26 (by decide) ?_
    refine sv_iald (v := 114) hx hb hK hP 2 1 rfl rfl (vp_in_iff.mpr (by decide)) (hwf 33 (by decide)) dX8_wordAt_27 ?_
    refine lv_bipush (v := 32) hx hb dX8_wordAt_28 (by decide) ?_
    refine lv_icmp_eq (tgt := 39) hx hb dX8_wordAt_30 (by decide) (fun h => absurd h (by decide)) (fun _ => ?_)
    refine lv_iinc (v := 4) (lv' := [(5, .int 4), (0, .ref (y 0)), (1, .int (nI a)), (2, .int (nI b)), (3, .int 6), (4, .int 30)]) hx hb dX8_wordAt_33 hl (k := 0) rfl (by decide) (by decide) rfl (fun ls hl => ?_)
    refine lv_goto (tgt := 18) hx hb dX8_wordAt_36 (by decide) ?_
    refine lv_aload_n hx hb dX8_wordAt_18 rfl (lv_at hl 1 rfl) ?_
    refine va_get (D := D) (ci := 8) (v := .ref (y 17)) (C := RX8) (T := TX8) (N := 52) hx hb hts w_1 hown hK hP 0 rfl rfl 34 (by decide) w_2 (fun _ h9 => h9) rfl dX8_wordAt_19 ?_
    refine lv_iload hx hb dX8_wordAt_22 (lv_at hl 5 rfl) ?_
    refine lv_iload hx hb dX8_wordAt_24 (lv_at hl 0 rfl) ?_
    refine sv_iadd (v := 34) hx hb dX8_wordAt_26 (by decide) ?_
    refine sv_iald (v := 101) hx hb hK hP 2 1 rfl rfl (vp_in_iff.mpr (by decide)) (hwf 34 (by decide)) dX8_wordAt_27 ?_
    refine lv_bipush (v := 32) hx hb dX8_wordAt_28 (by decide) ?_
    refine lv_icmp_eq (tgt := 39) hx hb dX8_wordAt_30 (by decide) (fun h => absurd h (by decide)) (fun _ => ?_)
    refine lv_iinc (v := 5) (lv' := [(5, .int 5), (0, .ref (y 0)), (1, .int (nI a)), (2, .int (nI b)), (3, .int 6), (4, .int 30)]) hx hb dX8_wordAt_33 hl (k := 0) rfl (by decide) (by decide) rfl (fun ls hl => ?_)
    refine lv_goto (tgt := 18) hx hb dX8_wordAt_36 (by decide) ?_
    refine lv_aload_n hx hb dX8_wordAt_18 rfl (lv_at hl 1 rfl) ?_
    refine va_get (D := D) (ci := 8) (v := .ref (y 17)) (C := RX8) (T := TX8) (N := 52) hx hb hts w_1 hown hK hP 0 rfl rfl 34 (by decide) w_2 (fun _ h9 => h9) rfl dX8_wordAt_19 ?_
    refine lv_iload hx hb dX8_wordAt_22 (lv_at hl 5 rfl) ?_
    refine lv_iload hx hb dX8_wordAt_24 (lv_at hl 0 rfl) ?_
    refine sv_iadd (v := 35) hx hb dX8_wordAt_26 (by decide) ?_
    refine sv_iald (v := 32) hx hb hK hP 2 1 rfl rfl (vp_in_iff.mpr (by decide)) (hwf 35 (by decide)) dX8_wordAt_27 ?_
    refine lv_bipush (v := 32) hx hb dX8_wordAt_28 (by decide) ?_
    refine lv_icmp_eq (tgt := 39) hx hb dX8_wordAt_30 (by decide) (fun _ => ?_) (fun h => absurd (by decide) h)
    refine lv_iload hx hb dX8_wordAt_39 (lv_at hl 0 rfl) ?_
    refine lv_iload_n hx hb dX8_wordAt_41 rfl (lv_at hl 3 rfl) ?_
    refine lv_iload_n hx hb dX8_wordAt_42 rfl (lv_at hl 2 rfl) ?_
    refine sv_isub (v := nI (b - a)) hx hb dX8_wordAt_43 (nI_subN hab) ?_
    refine lv_icmp_ne (tgt := 51) hx hb dX8_wordAt_44 (by decide) (fun c_44 => ?_) (fun c_44 => ?_)
    ·
      refine lv_iconst (v := 0) hx hb dX8_wordAt_51 (by decide) ?_
      refine lv_istore (lv' := [(6, .int 0), (5, .int 5), (0, .ref (y 0)), (1, .int (nI a)), (2, .int (nI b)), (3, .int 6), (4, .int 30)]) hx hb dX8_wordAt_52 hl (by decide) rfl (fun ls hl => ?_)
      refine lv_iconst (v := 0) hx hb dX8_wordAt_54 (by decide) ?_
      refine lv_istore (lv' := [(7, .int 0), (6, .int 0), (5, .int 5), (0, .ref (y 0)), (1, .int (nI a)), (2, .int (nI b)), (3, .int 6), (4, .int 30)]) hx hb dX8_wordAt_55 hl (by decide) rfl (fun ls hl => ?_)
      refine lv_iload hx hb dX8_wordAt_57 (lv_at hl 0 rfl) ?_
      refine lv_iload hx hb dX8_wordAt_59 (lv_at hl 2 rfl) ?_
      refine lv_icmp_ge (tgt := 104) hx hb dX8_wordAt_61 (by decide) (fun h => absurd h (by decide)) (fun _ => ?_)
      refine lv_iload hx hb dX8_wordAt_64 (lv_at hl 1 rfl) ?_
      refine lv_if_eq (tgt := 104) hx hb dX8_wordAt_66 (by decide) (fun _ => ?_) (fun h => absurd (by decide) h)
      refine lv_iload hx hb dX8_wordAt_104 (lv_at hl 1 rfl) ?_
      refine lv_if_eq (tgt := 111) hx hb dX8_wordAt_106 (by decide) (fun _ => ?_) (fun h => absurd (by decide) h)
      refine lv_iload hx hb dX8_wordAt_111 (lv_at hl 7 rfl) ?_
      refine lv_iload hx hb dX8_wordAt_113 (lv_at hl 2 rfl) ?_
      refine lv_iconst (v := 1) hx hb dX8_wordAt_115 (by decide) ?_
      refine sv_iadd (v := 6) hx hb dX8_wordAt_116 (by decide) ?_
      refine sv_iadd (v := 36) hx hb dX8_wordAt_117 (by decide) ?_
      refine lv_istore (lv' := [(4, .int 36), (7, .int 0), (6, .int 0), (5, .int 5), (0, .ref (y 0)), (1, .int (nI a)), (2, .int (nI b)), (3, .int 6)]) hx hb dX8_wordAt_118 hl (by decide) rfl (fun ls hl => ?_)
      refine lv_iinc (v := 7) (lv' := [(3, .int 7), (4, .int 36), (7, .int 0), (6, .int 0), (5, .int 5), (0, .ref (y 0)), (1, .int (nI a)), (2, .int (nI b))]) hx hb dX8_wordAt_120 hl (k := 7) rfl (by decide) (by decide) rfl (fun ls hl => ?_)
      refine lv_goto (tgt := 5) hx hb dX8_wordAt_123 (by decide) ?_
      exact J_7_36 (wn_s hN (fun h => c_44 (by rw [show b - a = 5 by have h9 : b = a + 5 := h.1; omega]; rfl))) ls (lv_sub hl [5, 6, 7, 0, 1] rfl)
    ·
      have hlen : b = a + 5 := by have h9 := (nI_eq (a := 5) (by decide) (by omega)).mp c_44; omega
      refine lv_iconst (v := 1) hx hb dX8_wordAt_47 (by decide) ?_
      refine lv_goto (tgt := 52) hx hb dX8_wordAt_48 (by decide) ?_
      refine lv_istore (lv' := [(6, .int 1), (5, .int 5), (0, .ref (y 0)), (1, .int (nI a)), (2, .int (nI b)), (3, .int 6), (4, .int 30)]) hx hb dX8_wordAt_52 hl (by decide) rfl (fun ls hl => ?_)
      refine lv_iconst (v := 0) hx hb dX8_wordAt_54 (by decide) ?_
      refine lv_istore (lv' := [(7, .int 0), (6, .int 1), (5, .int 5), (0, .ref (y 0)), (1, .int (nI a)), (2, .int (nI b)), (3, .int 6), (4, .int 30)]) hx hb dX8_wordAt_55 hl (by decide) rfl (fun ls hl => ?_)
      refine lv_iload hx hb dX8_wordAt_57 (lv_at hl 0 rfl) ?_
      refine lv_iload hx hb dX8_wordAt_59 (lv_at hl 2 rfl) ?_
      refine lv_icmp_ge (tgt := 104) hx hb dX8_wordAt_61 (by decide) (fun h => absurd h (by decide)) (fun _ => ?_)
      refine lv_iload hx hb dX8_wordAt_64 (lv_at hl 1 rfl) ?_
      refine lv_if_eq (tgt := 104) hx hb dX8_wordAt_66 (by decide) (fun h => absurd h (by decide)) (fun _ => ?_)
      refine lv_aload_n hx hb dX8_wordAt_69 rfl (lv_at hl 3 rfl) ?_
      refine va_get (D := D) (ci := 8) (v := .ref (y 17)) (C := RX8) (T := TX8) (N := 52) hx hb hts w_1 hown hK hP 0 rfl rfl 34 (by decide) w_2 (fun _ h9 => h9) rfl dX8_wordAt_70 ?_
      refine lv_iload hx hb dX8_wordAt_73 (lv_at hl 7 rfl) ?_
      refine lv_iload hx hb dX8_wordAt_75 (lv_at hl 0 rfl) ?_
      refine sv_iadd (v := 30) hx hb dX8_wordAt_77 (by decide) ?_
      refine sv_iald (v := 115) hx hb hK hP 2 1 rfl rfl (vp_in_iff.mpr (by decide)) (hwf 30 (by decide)) dX8_wordAt_78 ?_
      refine lv_aload_n hx hb dX8_wordAt_79 rfl (lv_at hl 3 rfl) ?_
      refine va_get (D := D) (ci := 8) (v := .ref (y 1)) (C := RX8) (T := TX8) (N := 52) hx hb hts w_1 hown hK hP 0 rfl rfl 0 (by decide) w_3 (fun _ h9 => h9) rfl dX8_wordAt_80 ?_
      refine lv_iload_n hx hb dX8_wordAt_83 rfl (lv_at hl 4 rfl) ?_
      refine lv_iload hx hb dX8_wordAt_84 (lv_at hl 0 rfl) ?_
      refine sv_iadd (v := nI (a + 0)) hx hb dX8_wordAt_86 (ax_add a 0) ?_
      refine sv_iald (v := m_tape (a + 0)) hx hb hK hP 1 1 rfl rfl (vp_in_nI (by omega) (by decide)) (congrArg _ (nI_clamp (by omega))) dX8_wordAt_87 ?_
      refine lv_icmp_ne (tgt := 95) hx hb dX8_wordAt_88 (by decide) (fun c_88 => ?_) (fun c_88 => ?_)
      ·
        refine lv_iconst (v := 0) hx hb dX8_wordAt_95 (by decide) ?_
        refine lv_istore (lv' := [(6, .int 0), (7, .int 0), (5, .int 5), (0, .ref (y 0)), (1, .int (nI a)), (2, .int (nI b)), (3, .int 6), (4, .int 30)]) hx hb dX8_wordAt_96 hl (by decide) rfl (fun ls hl => ?_)
        refine lv_iinc (v := 1) (lv' := [(7, .int 1), (6, .int 0), (5, .int 5), (0, .ref (y 0)), (1, .int (nI a)), (2, .int (nI b)), (3, .int 6), (4, .int 30)]) hx hb dX8_wordAt_98 hl (k := 1) rfl (by decide) (by decide) rfl (fun ls hl => ?_)
        refine lv_goto (tgt := 57) hx hb dX8_wordAt_101 (by decide) ?_
        refine lv_iload hx hb dX8_wordAt_57 (lv_at hl 0 rfl) ?_
        refine lv_iload hx hb dX8_wordAt_59 (lv_at hl 2 rfl) ?_
        refine lv_icmp_ge (tgt := 104) hx hb dX8_wordAt_61 (by decide) (fun h => absurd h (by decide)) (fun _ => ?_)
        refine lv_iload hx hb dX8_wordAt_64 (lv_at hl 1 rfl) ?_
        refine lv_if_eq (tgt := 104) hx hb dX8_wordAt_66 (by decide) (fun _ => ?_) (fun h => absurd (by decide) h)
        refine lv_iload hx hb dX8_wordAt_104 (lv_at hl 1 rfl) ?_
        refine lv_if_eq (tgt := 111) hx hb dX8_wordAt_106 (by decide) (fun _ => ?_) (fun h => absurd (by decide) h)
        refine lv_iload hx hb dX8_wordAt_111 (lv_at hl 7 rfl) ?_
        refine lv_iload hx hb dX8_wordAt_113 (lv_at hl 2 rfl) ?_
        refine lv_iconst (v := 1) hx hb dX8_wordAt_115 (by decide) ?_
        refine sv_iadd (v := 6) hx hb dX8_wordAt_116 (by decide) ?_
        refine sv_iadd (v := 36) hx hb dX8_wordAt_117 (by decide) ?_
        refine lv_istore (lv' := [(4, .int 36), (7, .int 1), (6, .int 0), (5, .int 5), (0, .ref (y 0)), (1, .int (nI a)), (2, .int (nI b)), (3, .int 6)]) hx hb dX8_wordAt_118 hl (by decide) rfl (fun ls hl => ?_)
        refine lv_iinc (v := 7) (lv' := [(3, .int 7), (4, .int 36), (7, .int 1), (6, .int 0), (5, .int 5), (0, .ref (y 0)), (1, .int (nI a)), (2, .int (nI b))]) hx hb dX8_wordAt_120 hl (k := 7) rfl (by decide) (by decide) rfl (fun ls hl => ?_)
        refine lv_goto (tgt := 5) hx hb dX8_wordAt_123 (by decide) ?_
        exact J_7_36 (wn_s hN (fun h => c_88 (h.2 0 (by decide)).symm)) ls (lv_sub hl [5, 6, 7, 0, 1] rfl)
      ·
        have he_0 := c_88
        refine lv_iconst (v := 1) hx hb dX8_wordAt_91 (by decide) ?_
        refine lv_goto (tgt := 96) hx hb dX8_wordAt_92 (by decide) ?_
        refine lv_istore (lv' := [(6, .int 1), (7, .int 0), (5, .int 5), (0, .ref (y 0)), (1, .int (nI a)), (2, .int (nI b)), (3, .int 6), (4, .int 30)]) hx hb dX8_wordAt_96 hl (by decide) rfl (fun ls hl => ?_)
        refine lv_iinc (v := 1) (lv' := [(7, .int 1), (6, .int 1), (5, .int 5), (0, .ref (y 0)), (1, .int (nI a)), (2, .int (nI b)), (3, .int 6), (4, .int 30)]) hx hb dX8_wordAt_98 hl (k := 1) rfl (by decide) (by decide) rfl (fun ls hl => ?_)
        refine lv_goto (tgt := 57) hx hb dX8_wordAt_101 (by decide) ?_
        refine lv_iload hx hb dX8_wordAt_57 (lv_at hl 0 rfl) ?_
        refine lv_iload hx hb dX8_wordAt_59 (lv_at hl 2 rfl) ?_
        refine lv_icmp_ge (tgt := 104) hx hb dX8_wordAt_61 (by decide) (fun h => absurd h (by decide)) (fun _ => ?_)
        refine lv_iload hx hb dX8_wordAt_64 (lv_at hl 1 rfl) ?_
        refine lv_if_eq (tgt := 104) hx hb dX8_wordAt_66 (by decide) (fun h => absurd h (by decide)) (fun _ => ?_)
        refine lv_aload_n hx hb dX8_wordAt_69 rfl (lv_at hl 3 rfl) ?_
        refine va_get (D := D) (ci := 8) (v := .ref (y 17)) (C := RX8) (T := TX8) (N := 52) hx hb hts w_1 hown hK hP 0 rfl rfl 34 (by decide) w_2 (fun _ h9 => h9) rfl dX8_wordAt_70 ?_
        refine lv_iload hx hb dX8_wordAt_73 (lv_at hl 7 rfl) ?_
        refine lv_iload hx hb dX8_wordAt_75 (lv_at hl 0 rfl) ?_
        refine sv_iadd (v := 31) hx hb dX8_wordAt_77 (by decide) ?_
        refine sv_iald (v := 112) hx hb hK hP 2 1 rfl rfl (vp_in_iff.mpr (by decide)) (hwf 31 (by decide)) dX8_wordAt_78 ?_
        refine lv_aload_n hx hb dX8_wordAt_79 rfl (lv_at hl 3 rfl) ?_
        refine va_get (D := D) (ci := 8) (v := .ref (y 1)) (C := RX8) (T := TX8) (N := 52) hx hb hts w_1 hown hK hP 0 rfl rfl 0 (by decide) w_3 (fun _ h9 => h9) rfl dX8_wordAt_80 ?_
        refine lv_iload_n hx hb dX8_wordAt_83 rfl (lv_at hl 4 rfl) ?_
        refine lv_iload hx hb dX8_wordAt_84 (lv_at hl 0 rfl) ?_
        refine sv_iadd (v := nI (a + 1)) hx hb dX8_wordAt_86 (ax_add a 1) ?_
        refine sv_iald (v := m_tape (a + 1)) hx hb hK hP 1 1 rfl rfl (vp_in_nI (by omega) (by decide)) (congrArg _ (nI_clamp (by omega))) dX8_wordAt_87 ?_
        refine lv_icmp_ne (tgt := 95) hx hb dX8_wordAt_88 (by decide) (fun c_88 => ?_) (fun c_88 => ?_)
        ·
          refine lv_iconst (v := 0) hx hb dX8_wordAt_95 (by decide) ?_
          refine lv_istore (lv' := [(6, .int 0), (7, .int 1), (5, .int 5), (0, .ref (y 0)), (1, .int (nI a)), (2, .int (nI b)), (3, .int 6), (4, .int 30)]) hx hb dX8_wordAt_96 hl (by decide) rfl (fun ls hl => ?_)
          refine lv_iinc (v := 2) (lv' := [(7, .int 2), (6, .int 0), (5, .int 5), (0, .ref (y 0)), (1, .int (nI a)), (2, .int (nI b)), (3, .int 6), (4, .int 30)]) hx hb dX8_wordAt_98 hl (k := 1) rfl (by decide) (by decide) rfl (fun ls hl => ?_)
          refine lv_goto (tgt := 57) hx hb dX8_wordAt_101 (by decide) ?_
          refine lv_iload hx hb dX8_wordAt_57 (lv_at hl 0 rfl) ?_
          refine lv_iload hx hb dX8_wordAt_59 (lv_at hl 2 rfl) ?_
          refine lv_icmp_ge (tgt := 104) hx hb dX8_wordAt_61 (by decide) (fun h => absurd h (by decide)) (fun _ => ?_)
          refine lv_iload hx hb dX8_wordAt_64 (lv_at hl 1 rfl) ?_
          refine lv_if_eq (tgt := 104) hx hb dX8_wordAt_66 (by decide) (fun _ => ?_) (fun h => absurd (by decide) h)
          refine lv_iload hx hb dX8_wordAt_104 (lv_at hl 1 rfl) ?_
          refine lv_if_eq (tgt := 111) hx hb dX8_wordAt_106 (by decide) (fun _ => ?_) (fun h => absurd (by decide) h)
          refine lv_iload hx hb dX8_wordAt_111 (lv_at hl 7 rfl) ?_
          refine lv_iload hx hb dX8_wordAt_113 (lv_at hl 2 rfl) ?_
          refine lv_iconst (v := 1) hx hb dX8_wordAt_115 (by decide) ?_
          refine sv_iadd (v := 6) hx hb dX8_wordAt_116 (by decide) ?_
          refine sv_iadd (v := 36) hx hb dX8_wordAt_117 (by decide) ?_
          refine lv_istore (lv' := [(4, .int 36), (7, .int 2), (6, .int 0), (5, .int 5), (0, .ref (y 0)), (1, .int (nI a)), (2, .int (nI b)), (3, .int 6)]) hx hb dX8_wordAt_118 hl (by decide) rfl (fun ls hl => ?_)
          refine lv_iinc (v := 7) (lv' := [(3, .int 7), (4, .int 36), (7, .int 2), (6, .int 0), (5, .int 5), (0, .ref (y 0)), (1, .int (nI a)), (2, .int (nI b))]) hx hb dX8_wordAt_120 hl (k := 7) rfl (by decide) (by decide) rfl (fun ls hl => ?_)
          refine lv_goto (tgt := 5) hx hb dX8_wordAt_123 (by decide) ?_
          exact J_7_36 (wn_s hN (fun h => c_88 (h.2 1 (by decide)).symm)) ls (lv_sub hl [5, 6, 7, 0, 1] rfl)
        ·
          have he_1 := c_88
          refine lv_iconst (v := 1) hx hb dX8_wordAt_91 (by decide) ?_
          refine lv_goto (tgt := 96) hx hb dX8_wordAt_92 (by decide) ?_
          refine lv_istore (lv' := [(6, .int 1), (7, .int 1), (5, .int 5), (0, .ref (y 0)), (1, .int (nI a)), (2, .int (nI b)), (3, .int 6), (4, .int 30)]) hx hb dX8_wordAt_96 hl (by decide) rfl (fun ls hl => ?_)
          refine lv_iinc (v := 2) (lv' := [(7, .int 2), (6, .int 1), (5, .int 5), (0, .ref (y 0)), (1, .int (nI a)), (2, .int (nI b)), (3, .int 6), (4, .int 30)]) hx hb dX8_wordAt_98 hl (k := 1) rfl (by decide) (by decide) rfl (fun ls hl => ?_)
          refine lv_goto (tgt := 57) hx hb dX8_wordAt_101 (by decide) ?_
          refine lv_iload hx hb dX8_wordAt_57 (lv_at hl 0 rfl) ?_
          refine lv_iload hx hb dX8_wordAt_59 (lv_at hl 2 rfl) ?_
          refine lv_icmp_ge (tgt := 104) hx hb dX8_wordAt_61 (by decide) (fun h => absurd h (by decide)) (fun _ => ?_)
          refine lv_iload hx hb dX8_wordAt_64 (lv_at hl 1 rfl) ?_
          refine lv_if_eq (tgt := 104) hx hb dX8_wordAt_66 (by decide) (fun h => absurd h (by decide)) (fun _ => ?_)
          refine lv_aload_n hx hb dX8_wordAt_69 rfl (lv_at hl 3 rfl) ?_
          refine va_get (D := D) (ci := 8) (v := .ref (y 17)) (C := RX8) (T := TX8) (N := 52) hx hb hts w_1 hown hK hP 0 rfl rfl 34 (by decide) w_2 (fun _ h9 => h9) rfl dX8_wordAt_70 ?_
          refine lv_iload hx hb dX8_wordAt_73 (lv_at hl 7 rfl) ?_
          refine lv_iload hx hb dX8_wordAt_75 (lv_at hl 0 rfl) ?_
          refine sv_iadd (v := 32) hx hb dX8_wordAt_77 (by decide) ?_
          refine sv_iald (v := 97) hx hb hK hP 2 1 rfl rfl (vp_in_iff.mpr (by decide)) (hwf 32 (by decide)) dX8_wordAt_78 ?_
          refine lv_aload_n hx hb dX8_wordAt_79 rfl (lv_at hl 3 rfl) ?_
          refine va_get (D := D) (ci := 8) (v := .ref (y 1)) (C := RX8) (T := TX8) (N := 52) hx hb hts w_1 hown hK hP 0 rfl rfl 0 (by decide) w_3 (fun _ h9 => h9) rfl dX8_wordAt_80 ?_
          refine lv_iload_n hx hb dX8_wordAt_83 rfl (lv_at hl 4 rfl) ?_
          refine lv_iload hx hb dX8_wordAt_84 (lv_at hl 0 rfl) ?_
          refine sv_iadd (v := nI (a + 2)) hx hb dX8_wordAt_86 (ax_add a 2) ?_
          refine sv_iald (v := m_tape (a + 2)) hx hb hK hP 1 1 rfl rfl (vp_in_nI (by omega) (by decide)) (congrArg _ (nI_clamp (by omega))) dX8_wordAt_87 ?_
          refine lv_icmp_ne (tgt := 95) hx hb dX8_wordAt_88 (by decide) (fun c_88 => ?_) (fun c_88 => ?_)
          ·
            refine lv_iconst (v := 0) hx hb dX8_wordAt_95 (by decide) ?_
            refine lv_istore (lv' := [(6, .int 0), (7, .int 2), (5, .int 5), (0, .ref (y 0)), (1, .int (nI a)), (2, .int (nI b)), (3, .int 6), (4, .int 30)]) hx hb dX8_wordAt_96 hl (by decide) rfl (fun ls hl => ?_)
            refine lv_iinc (v := 3) (lv' := [(7, .int 3), (6, .int 0), (5, .int 5), (0, .ref (y 0)), (1, .int (nI a)), (2, .int (nI b)), (3, .int 6), (4, .int 30)]) hx hb dX8_wordAt_98 hl (k := 1) rfl (by decide) (by decide) rfl (fun ls hl => ?_)
            refine lv_goto (tgt := 57) hx hb dX8_wordAt_101 (by decide) ?_
            refine lv_iload hx hb dX8_wordAt_57 (lv_at hl 0 rfl) ?_
            refine lv_iload hx hb dX8_wordAt_59 (lv_at hl 2 rfl) ?_
            refine lv_icmp_ge (tgt := 104) hx hb dX8_wordAt_61 (by decide) (fun h => absurd h (by decide)) (fun _ => ?_)
            refine lv_iload hx hb dX8_wordAt_64 (lv_at hl 1 rfl) ?_
            refine lv_if_eq (tgt := 104) hx hb dX8_wordAt_66 (by decide) (fun _ => ?_) (fun h => absurd (by decide) h)
            refine lv_iload hx hb dX8_wordAt_104 (lv_at hl 1 rfl) ?_
            refine lv_if_eq (tgt := 111) hx hb dX8_wordAt_106 (by decide) (fun _ => ?_) (fun h => absurd (by decide) h)
            refine lv_iload hx hb dX8_wordAt_111 (lv_at hl 7 rfl) ?_
            refine lv_iload hx hb dX8_wordAt_113 (lv_at hl 2 rfl) ?_
            refine lv_iconst (v := 1) hx hb dX8_wordAt_115 (by decide) ?_
            refine sv_iadd (v := 6) hx hb dX8_wordAt_116 (by decide) ?_
            refine sv_iadd (v := 36) hx hb dX8_wordAt_117 (by decide) ?_
            refine lv_istore (lv' := [(4, .int 36), (7, .int 3), (6, .int 0), (5, .int 5), (0, .ref (y 0)), (1, .int (nI a)), (2, .int (nI b)), (3, .int 6)]) hx hb dX8_wordAt_118 hl (by decide) rfl (fun ls hl => ?_)
            refine lv_iinc (v := 7) (lv' := [(3, .int 7), (4, .int 36), (7, .int 3), (6, .int 0), (5, .int 5), (0, .ref (y 0)), (1, .int (nI a)), (2, .int (nI b))]) hx hb dX8_wordAt_120 hl (k := 7) rfl (by decide) (by decide) rfl (fun ls hl => ?_)
            refine lv_goto (tgt := 5) hx hb dX8_wordAt_123 (by decide) ?_
            exact J_7_36 (wn_s hN (fun h => c_88 (h.2 2 (by decide)).symm)) ls (lv_sub hl [5, 6, 7, 0, 1] rfl)
          ·
            have he_2 := c_88
            refine lv_iconst (v := 1) hx hb dX8_wordAt_91 (by decide) ?_
            refine lv_goto (tgt := 96) hx hb dX8_wordAt_92 (by decide) ?_
            refine lv_istore (lv' := [(6, .int 1), (7, .int 2), (5, .int 5), (0, .ref (y 0)), (1, .int (nI a)), (2, .int (nI b)), (3, .int 6), (4, .int 30)]) hx hb dX8_wordAt_96 hl (by decide) rfl (fun ls hl => ?_)
            refine lv_iinc (v := 3) (lv' := [(7, .int 3), (6, .int 1), (5, .int 5), (0, .ref (y 0)), (1, .int (nI a)), (2, .int (nI b)), (3, .int 6), (4, .int 30)]) hx hb dX8_wordAt_98 hl (k := 1) rfl (by decide) (by decide) rfl (fun ls hl => ?_)
            refine lv_goto (tgt := 57) hx hb dX8_wordAt_101 (by decide) ?_
            refine lv_iload hx hb dX8_wordAt_57 (lv_at hl 0 rfl) ?_
            refine lv_iload hx hb dX8_wordAt_59 (lv_at hl 2 rfl) ?_
            refine lv_icmp_ge (tgt := 104) hx hb dX8_wordAt_61 (by decide) (fun h => absurd h (by decide)) (fun _ => ?_)
            refine lv_iload hx hb dX8_wordAt_64 (lv_at hl 1 rfl) ?_
            refine lv_if_eq (tgt := 104) hx hb dX8_wordAt_66 (by decide) (fun h => absurd h (by decide)) (fun _ => ?_)
            refine lv_aload_n hx hb dX8_wordAt_69 rfl (lv_at hl 3 rfl) ?_
            refine va_get (D := D) (ci := 8) (v := .ref (y 17)) (C := RX8) (T := TX8) (N := 52) hx hb hts w_1 hown hK hP 0 rfl rfl 34 (by decide) w_2 (fun _ h9 => h9) rfl dX8_wordAt_70 ?_
            refine lv_iload hx hb dX8_wordAt_73 (lv_at hl 7 rfl) ?_
            refine lv_iload hx hb dX8_wordAt_75 (lv_at hl 0 rfl) ?_
            refine sv_iadd (v := 33) hx hb dX8_wordAt_77 (by decide) ?_
            refine sv_iald (v := 114) hx hb hK hP 2 1 rfl rfl (vp_in_iff.mpr (by decide)) (hwf 33 (by decide)) dX8_wordAt_78 ?_
            refine lv_aload_n hx hb dX8_wordAt_79 rfl (lv_at hl 3 rfl) ?_
            refine va_get (D := D) (ci := 8) (v := .ref (y 1)) (C := RX8) (T := TX8) (N := 52) hx hb hts w_1 hown hK hP 0 rfl rfl 0 (by decide) w_3 (fun _ h9 => h9) rfl dX8_wordAt_80 ?_
            refine lv_iload_n hx hb dX8_wordAt_83 rfl (lv_at hl 4 rfl) ?_
            refine lv_iload hx hb dX8_wordAt_84 (lv_at hl 0 rfl) ?_
            refine sv_iadd (v := nI (a + 3)) hx hb dX8_wordAt_86 (ax_add a 3) ?_
            refine sv_iald (v := m_tape (a + 3)) hx hb hK hP 1 1 rfl rfl (vp_in_nI (by omega) (by decide)) (congrArg _ (nI_clamp (by omega))) dX8_wordAt_87 ?_
            refine lv_icmp_ne (tgt := 95) hx hb dX8_wordAt_88 (by decide) (fun c_88 => ?_) (fun c_88 => ?_)
            ·
              refine lv_iconst (v := 0) hx hb dX8_wordAt_95 (by decide) ?_
              refine lv_istore (lv' := [(6, .int 0), (7, .int 3), (5, .int 5), (0, .ref (y 0)), (1, .int (nI a)), (2, .int (nI b)), (3, .int 6), (4, .int 30)]) hx hb dX8_wordAt_96 hl (by decide) rfl (fun ls hl => ?_)
              refine lv_iinc (v := 4) (lv' := [(7, .int 4), (6, .int 0), (5, .int 5), (0, .ref (y 0)), (1, .int (nI a)), (2, .int (nI b)), (3, .int 6), (4, .int 30)]) hx hb dX8_wordAt_98 hl (k := 1) rfl (by decide) (by decide) rfl (fun ls hl => ?_)
              refine lv_goto (tgt := 57) hx hb dX8_wordAt_101 (by decide) ?_
              refine lv_iload hx hb dX8_wordAt_57 (lv_at hl 0 rfl) ?_
              refine lv_iload hx hb dX8_wordAt_59 (lv_at hl 2 rfl) ?_
              refine lv_icmp_ge (tgt := 104) hx hb dX8_wordAt_61 (by decide) (fun h => absurd h (by decide)) (fun _ => ?_)
              refine lv_iload hx hb dX8_wordAt_64 (lv_at hl 1 rfl) ?_
              refine lv_if_eq (tgt := 104) hx hb dX8_wordAt_66 (by decide) (fun _ => ?_) (fun h => absurd (by decide) h)
              refine lv_iload hx hb dX8_wordAt_104 (lv_at hl 1 rfl) ?_
              refine lv_if_eq (tgt := 111) hx hb dX8_wordAt_106 (by decide) (fun _ => ?_) (fun h => absurd (by decide) h)
              refine lv_iload hx hb dX8_wordAt_111 (lv_at hl 7 rfl) ?_
              refine lv_iload hx hb dX8_wordAt_113 (lv_at hl 2 rfl) ?_
              refine lv_iconst (v := 1) hx hb dX8_wordAt_115 (by decide) ?_
              refine sv_iadd (v := 6) hx hb dX8_wordAt_116 (by decide) ?_
              refine sv_iadd (v := 36) hx hb dX8_wordAt_117 (by decide) ?_
              refine lv_istore (lv' := [(4, .int 36), (7, .int 4), (6, .int 0), (5, .int 5), (0, .ref (y 0)), (1, .int (nI a)), (2, .int (nI b)), (3, .int 6)]) hx hb dX8_wordAt_118 hl (by decide) rfl (fun ls hl => ?_)
              refine lv_iinc (v := 7) (lv' := [(3, .int 7), (4, .int 36), (7, .int 4), (6, .int 0), (5, .int 5), (0, .ref (y 0)), (1, .int (nI a)), (2, .int (nI b))]) hx hb dX8_wordAt_120 hl (k := 7) rfl (by decide) (by decide) rfl (fun ls hl => ?_)
              refine lv_goto (tgt := 5) hx hb dX8_wordAt_123 (by decide) ?_
              exact J_7_36 (wn_s hN (fun h => c_88 (h.2 3 (by decide)).symm)) ls (lv_sub hl [5, 6, 7, 0, 1] rfl)
            ·
              have he_3 := c_88
              refine lv_iconst (v := 1) hx hb dX8_wordAt_91 (by decide) ?_
              refine lv_goto (tgt := 96) hx hb dX8_wordAt_92 (by decide) ?_
              refine lv_istore (lv' := [(6, .int 1), (7, .int 3), (5, .int 5), (0, .ref (y 0)), (1, .int (nI a)), (2, .int (nI b)), (3, .int 6), (4, .int 30)]) hx hb dX8_wordAt_96 hl (by decide) rfl (fun ls hl => ?_)
              refine lv_iinc (v := 4) (lv' := [(7, .int 4), (6, .int 1), (5, .int 5), (0, .ref (y 0)), (1, .int (nI a)), (2, .int (nI b)), (3, .int 6), (4, .int 30)]) hx hb dX8_wordAt_98 hl (k := 1) rfl (by decide) (by decide) rfl (fun ls hl => ?_)
              refine lv_goto (tgt := 57) hx hb dX8_wordAt_101 (by decide) ?_
              refine lv_iload hx hb dX8_wordAt_57 (lv_at hl 0 rfl) ?_
              refine lv_iload hx hb dX8_wordAt_59 (lv_at hl 2 rfl) ?_
              refine lv_icmp_ge (tgt := 104) hx hb dX8_wordAt_61 (by decide) (fun h => absurd h (by decide)) (fun _ => ?_)
              refine lv_iload hx hb dX8_wordAt_64 (lv_at hl 1 rfl) ?_
              refine lv_if_eq (tgt := 104) hx hb dX8_wordAt_66 (by decide) (fun h => absurd h (by decide)) (fun _ => ?_)
              refine lv_aload_n hx hb dX8_wordAt_69 rfl (lv_at hl 3 rfl) ?_
              refine va_get (D := D) (ci := 8) (v := .ref (y 17)) (C := RX8) (T := TX8) (N := 52) hx hb hts w_1 hown hK hP 0 rfl rfl 34 (by decide) w_2 (fun _ h9 => h9) rfl dX8_wordAt_70 ?_
              refine lv_iload hx hb dX8_wordAt_73 (lv_at hl 7 rfl) ?_
              refine lv_iload hx hb dX8_wordAt_75 (lv_at hl 0 rfl) ?_
              refine sv_iadd (v := 34) hx hb dX8_wordAt_77 (by decide) ?_
              refine sv_iald (v := 101) hx hb hK hP 2 1 rfl rfl (vp_in_iff.mpr (by decide)) (hwf 34 (by decide)) dX8_wordAt_78 ?_
              refine lv_aload_n hx hb dX8_wordAt_79 rfl (lv_at hl 3 rfl) ?_
              refine va_get (D := D) (ci := 8) (v := .ref (y 1)) (C := RX8) (T := TX8) (N := 52) hx hb hts w_1 hown hK hP 0 rfl rfl 0 (by decide) w_3 (fun _ h9 => h9) rfl dX8_wordAt_80 ?_
              refine lv_iload_n hx hb dX8_wordAt_83 rfl (lv_at hl 4 rfl) ?_
              refine lv_iload hx hb dX8_wordAt_84 (lv_at hl 0 rfl) ?_
              refine sv_iadd (v := nI (a + 4)) hx hb dX8_wordAt_86 (ax_add a 4) ?_
              refine sv_iald (v := m_tape (a + 4)) hx hb hK hP 1 1 rfl rfl (vp_in_nI (by omega) (by decide)) (congrArg _ (nI_clamp (by omega))) dX8_wordAt_87 ?_
              refine lv_icmp_ne (tgt := 95) hx hb dX8_wordAt_88 (by decide) (fun c_88 => ?_) (fun c_88 => ?_)
              ·
                refine lv_iconst (v := 0) hx hb dX8_wordAt_95 (by decide) ?_
                refine lv_istore (lv' := [(6, .int 0), (7, .int 4), (5, .int 5), (0, .ref (y 0)), (1, .int (nI a)), (2, .int (nI b)), (3, .int 6), (4, .int 30)]) hx hb dX8_wordAt_96 hl (by decide) rfl (fun ls hl => ?_)
                refine lv_iinc (v := 5) (lv' := [(7, .int 5), (6, .int 0), (5, .int 5), (0, .ref (y 0)), (1, .int (nI a)), (2, .int (nI b)), (3, .int 6), (4, .int 30)]) hx hb dX8_wordAt_98 hl (k := 1) rfl (by decide) (by decide) rfl (fun ls hl => ?_)
                refine lv_goto (tgt := 57) hx hb dX8_wordAt_101 (by decide) ?_
                refine lv_iload hx hb dX8_wordAt_57 (lv_at hl 0 rfl) ?_
                refine lv_iload hx hb dX8_wordAt_59 (lv_at hl 2 rfl) ?_
                refine lv_icmp_ge (tgt := 104) hx hb dX8_wordAt_61 (by decide) (fun _ => ?_) (fun h => absurd (by decide) h)
                refine lv_iload hx hb dX8_wordAt_104 (lv_at hl 1 rfl) ?_
                refine lv_if_eq (tgt := 111) hx hb dX8_wordAt_106 (by decide) (fun _ => ?_) (fun h => absurd (by decide) h)
                refine lv_iload hx hb dX8_wordAt_111 (lv_at hl 7 rfl) ?_
                refine lv_iload hx hb dX8_wordAt_113 (lv_at hl 2 rfl) ?_
                refine lv_iconst (v := 1) hx hb dX8_wordAt_115 (by decide) ?_
                refine sv_iadd (v := 6) hx hb dX8_wordAt_116 (by decide) ?_
                refine sv_iadd (v := 36) hx hb dX8_wordAt_117 (by decide) ?_
                refine lv_istore (lv' := [(4, .int 36), (7, .int 5), (6, .int 0), (5, .int 5), (0, .ref (y 0)), (1, .int (nI a)), (2, .int (nI b)), (3, .int 6)]) hx hb dX8_wordAt_118 hl (by decide) rfl (fun ls hl => ?_)
                refine lv_iinc (v := 7) (lv' := [(3, .int 7), (4, .int 36), (7, .int 5), (6, .int 0), (5, .int 5), (0, .ref (y 0)), (1, .int (nI a)), (2, .int (nI b))]) hx hb dX8_wordAt_120 hl (k := 7) rfl (by decide) (by decide) rfl (fun ls hl => ?_)
                refine lv_goto (tgt := 5) hx hb dX8_wordAt_123 (by decide) ?_
                exact J_7_36 (wn_s hN (fun h => c_88 (h.2 4 (by decide)).symm)) ls (lv_sub hl [5, 6, 7, 0, 1] rfl)
              ·
                have he_4 := c_88
                refine lv_iconst (v := 1) hx hb dX8_wordAt_91 (by decide) ?_
                refine lv_goto (tgt := 96) hx hb dX8_wordAt_92 (by decide) ?_
                refine lv_istore (lv' := [(6, .int 1), (7, .int 4), (5, .int 5), (0, .ref (y 0)), (1, .int (nI a)), (2, .int (nI b)), (3, .int 6), (4, .int 30)]) hx hb dX8_wordAt_96 hl (by decide) rfl (fun ls hl => ?_)
                refine lv_iinc (v := 5) (lv' := [(7, .int 5), (6, .int 1), (5, .int 5), (0, .ref (y 0)), (1, .int (nI a)), (2, .int (nI b)), (3, .int 6), (4, .int 30)]) hx hb dX8_wordAt_98 hl (k := 1) rfl (by decide) (by decide) rfl (fun ls hl => ?_)
                refine lv_goto (tgt := 57) hx hb dX8_wordAt_101 (by decide) ?_
                refine lv_iload hx hb dX8_wordAt_57 (lv_at hl 0 rfl) ?_
                refine lv_iload hx hb dX8_wordAt_59 (lv_at hl 2 rfl) ?_
                refine lv_icmp_ge (tgt := 104) hx hb dX8_wordAt_61 (by decide) (fun _ => ?_) (fun h => absurd (by decide) h)
                refine lv_iload hx hb dX8_wordAt_104 (lv_at hl 1 rfl) ?_
                refine lv_if_eq (tgt := 111) hx hb dX8_wordAt_106 (by decide) (fun h => absurd h (by decide)) (fun _ => ?_)
                refine lv_iload_n hx hb dX8_wordAt_109 rfl (lv_at hl 6 rfl) ?_
                rw [← hQ]
                exact W.iret (v := 6) hx hb hr (fun t ht hW => ⟨_, rfl, Or.inl (wa_y (w := 6) (by decide) ⟨hlen, fun j hj => by match j, hj with | 0, _ => exact he_0.symm | 1, _ => exact he_1.symm | 2, _ => exact he_2.symm | 3, _ => exact he_3.symm | 4, _ => exact he_4.symm | j + 5, hj => exact absurd hj (show ¬ j + 5 < 5 by omega)⟩ rfl), ht⟩) (fun q h => nomatch h) dX8_wordAt_110
  have J_5_25 : (∀ i, i < 5 → ¬ wdP m_tape a b i) → ∀ (ls : Array Slot), lv_has ls 8 [(0, .ref (y 0)), (1, .int (nI a)), (2, .int (nI b)), (3, .int 5), (4, .int 25)] → W p l e (headSpec wsX8_wordAt ({ frames := 0, cells := 0, slots := 0, locals := 0 } : Room)).room s m ([.ref (y 0), .int (nI a), .int (nI b)] : List Value).toArray below meth c s.heap [] 0 0 Q0 (F0 m 5 ls []) := by
    intro hN ls hl
    refine lv_iload hx hb dX8_wordAt_5 (lv_at hl 4 rfl) ?_
    refine lv_aload_n hx hb dX8_wordAt_7 rfl (lv_at hl 0 rfl) ?_
    refine va_get (D := D) (ci := 8) (v := .ref (y 17)) (C := RX8) (T := TX8) (N := 52) hx hb hts w_1 hown hK hP 0 rfl rfl 34 (by decide) w_2 (fun _ h9 => h9) rfl dX8_wordAt_8 ?_
    refine va_alen (v := 43) hx hb hK hP 2 1 rfl rfl rfl dX8_wordAt_11 ?_
    refine lv_icmp_ge (tgt := 126) hx hb dX8_wordAt_12 (by decide) (fun h => absurd h (by decide)) (fun _ => ?_)
    refine lv_iconst (v := 0) hx hb dX8_wordAt_15 (by decide) ?_
    refine lv_istore (lv' := [(5, .int 0), (0, .ref (y 0)), (1, .int (nI a)), (2, .int (nI b)), (3, .int 5), (4, .int 25)]) hx hb dX8_wordAt_16 hl (by decide) rfl (fun ls hl => ?_)
    refine lv_aload_n hx hb dX8_wordAt_18 rfl (lv_at hl 1 rfl) ?_
    refine va_get (D := D) (ci := 8) (v := .ref (y 17)) (C := RX8) (T := TX8) (N := 52) hx hb hts w_1 hown hK hP 0 rfl rfl 34 (by decide) w_2 (fun _ h9 => h9) rfl dX8_wordAt_19 ?_
    refine lv_iload hx hb dX8_wordAt_22 (lv_at hl 5 rfl) ?_
    refine lv_iload hx hb dX8_wordAt_24 (lv_at hl 0 rfl) ?_
    refine sv_iadd (v := 25) hx hb dX8_wordAt_26 (by decide) ?_
    refine sv_iald (v := 119) hx hb hK hP 2 1 rfl rfl (vp_in_iff.mpr (by decide)) (hwf 25 (by decide)) dX8_wordAt_27 ?_
    refine lv_bipush (v := 32) hx hb dX8_wordAt_28 (by decide) ?_
    refine lv_icmp_eq (tgt := 39) hx hb dX8_wordAt_30 (by decide) (fun h => absurd h (by decide)) (fun _ => ?_)
    refine lv_iinc (v := 1) (lv' := [(5, .int 1), (0, .ref (y 0)), (1, .int (nI a)), (2, .int (nI b)), (3, .int 5), (4, .int 25)]) hx hb dX8_wordAt_33 hl (k := 0) rfl (by decide) (by decide) rfl (fun ls hl => ?_)
    refine lv_goto (tgt := 18) hx hb dX8_wordAt_36 (by decide) ?_
    refine lv_aload_n hx hb dX8_wordAt_18 rfl (lv_at hl 1 rfl) ?_
    refine va_get (D := D) (ci := 8) (v := .ref (y 17)) (C := RX8) (T := TX8) (N := 52) hx hb hts w_1 hown hK hP 0 rfl rfl 34 (by decide) w_2 (fun _ h9 => h9) rfl dX8_wordAt_19 ?_
    refine lv_iload hx hb dX8_wordAt_22 (lv_at hl 5 rfl) ?_
    refine lv_iload hx hb dX8_wordAt_24 (lv_at hl 0 rfl) ?_
    refine sv_iadd (v := 26) hx hb dX8_wordAt_26 (by decide) ?_
    refine sv_iald (v := 101) hx hb hK hP 2 1 rfl rfl (vp_in_iff.mpr (by decide)) (hwf 26 (by decide)) dX8_wordAt_27 ?_
    refine lv_bipush (v := 32) hx hb dX8_wordAt_28 (by decide) ?_
    refine lv_icmp_eq (tgt := 39) hx hb dX8_wordAt_30 (by decide) (fun h => absurd h (by decide)) (fun _ => ?_)
    refine lv_iinc (v := 2) (lv' := [(5, .int 2), (0, .ref (y 0)), (1, .int (nI a)), (2, .int (nI b)), (3, .int 5), (4, .int 25)]) hx hb dX8_wordAt_33 hl (k := 0) rfl (by decide) (by decide) rfl (fun ls hl => ?_)
    refine lv_goto (tgt := 18) hx hb dX8_wordAt_36 (by decide) ?_
    refine lv_aload_n hx hb dX8_wordAt_18 rfl (lv_at hl 1 rfl) ?_
    refine va_get (D := D) (ci := 8) (v := .ref (y 17)) (C := RX8) (T := TX8) (N := 52) hx hb hts w_1 hown hK hP 0 rfl rfl 34 (by decide) w_2 (fun _ h9 => h9) rfl dX8_wordAt_19 ?_
    refine lv_iload hx hb dX8_wordAt_22 (lv_at hl 5 rfl) ?_
    refine lv_iload hx hb dX8_wordAt_24 (lv_at hl 0 rfl) ?_
    refine sv_iadd (v := 27) hx hb dX8_wordAt_26 (by decide) ?_
    refine sv_iald (v := 97) hx hb hK hP 2 1 rfl rfl (vp_in_iff.mpr (by decide)) (hwf 27 (by decide)) dX8_wordAt_27 ?_
    refine lv_bipush (v := 32) hx hb dX8_wordAt_28 (by decide) ?_
    refine lv_icmp_eq (tgt := 39) hx hb dX8_wordAt_30 (by decide) (fun h => absurd h (by decide)) (fun _ => ?_)
    refine lv_iinc (v := 3) (lv' := [(5, .int 3), (0, .ref (y 0)), (1, .int (nI a)), (2, .int (nI b)), (3, .int 5), (4, .int 25)]) hx hb dX8_wordAt_33 hl (k := 0) rfl (by decide) (by decide) rfl (fun ls hl => ?_)
    refine lv_goto (tgt := 18) hx hb dX8_wordAt_36 (by decide) ?_
    refine lv_aload_n hx hb dX8_wordAt_18 rfl (lv_at hl 1 rfl) ?_
    refine va_get (D := D) (ci := 8) (v := .ref (y 17)) (C := RX8) (T := TX8) (N := 52) hx hb hts w_1 hown hK hP 0 rfl rfl 34 (by decide) w_2 (fun _ h9 => h9) rfl dX8_wordAt_19 ?_
    refine lv_iload hx hb dX8_wordAt_22 (lv_at hl 5 rfl) ?_
    refine lv_iload hx hb dX8_wordAt_24 (lv_at hl 0 rfl) ?_
    refine sv_iadd (v := 28) hx hb dX8_wordAt_26 (by decide) ?_
    refine sv_iald (v := 114) hx hb hK hP 2 1 rfl rfl (vp_in_iff.mpr (by decide)) (hwf 28 (by decide)) dX8_wordAt_27 ?_
    refine lv_bipush (v := 32) hx hb dX8_wordAt_28 (by decide) ?_
    refine lv_icmp_eq (tgt := 39) hx hb dX8_wordAt_30 (by decide) (fun h => absurd h (by decide)) (fun _ => ?_)
    refine lv_iinc (v := 4) (lv' := [(5, .int 4), (0, .ref (y 0)), (1, .int (nI a)), (2, .int (nI b)), (3, .int 5), (4, .int 25)]) hx hb dX8_wordAt_33 hl (k := 0) rfl (by decide) (by decide) rfl (fun ls hl => ?_)
    refine lv_goto (tgt := 18) hx hb dX8_wordAt_36 (by decide) ?_
    refine lv_aload_n hx hb dX8_wordAt_18 rfl (lv_at hl 1 rfl) ?_
    refine va_get (D := D) (ci := 8) (v := .ref (y 17)) (C := RX8) (T := TX8) (N := 52) hx hb hts w_1 hown hK hP 0 rfl rfl 34 (by decide) w_2 (fun _ h9 => h9) rfl dX8_wordAt_19 ?_
    refine lv_iload hx hb dX8_wordAt_22 (lv_at hl 5 rfl) ?_
    refine lv_iload hx hb dX8_wordAt_24 (lv_at hl 0 rfl) ?_
    refine sv_iadd (v := 29) hx hb dX8_wordAt_26 (by decide) ?_
    refine sv_iald (v := 32) hx hb hK hP 2 1 rfl rfl (vp_in_iff.mpr (by decide)) (hwf 29 (by decide)) dX8_wordAt_27 ?_
    refine lv_bipush (v := 32) hx hb dX8_wordAt_28 (by decide) ?_
    refine lv_icmp_eq (tgt := 39) hx hb dX8_wordAt_30 (by decide) (fun _ => ?_) (fun h => absurd (by decide) h)
    refine lv_iload hx hb dX8_wordAt_39 (lv_at hl 0 rfl) ?_
    refine lv_iload_n hx hb dX8_wordAt_41 rfl (lv_at hl 3 rfl) ?_
    refine lv_iload_n hx hb dX8_wordAt_42 rfl (lv_at hl 2 rfl) ?_
    refine sv_isub (v := nI (b - a)) hx hb dX8_wordAt_43 (nI_subN hab) ?_
    refine lv_icmp_ne (tgt := 51) hx hb dX8_wordAt_44 (by decide) (fun c_44 => ?_) (fun c_44 => ?_)
    ·
      refine lv_iconst (v := 0) hx hb dX8_wordAt_51 (by decide) ?_
      refine lv_istore (lv' := [(6, .int 0), (5, .int 4), (0, .ref (y 0)), (1, .int (nI a)), (2, .int (nI b)), (3, .int 5), (4, .int 25)]) hx hb dX8_wordAt_52 hl (by decide) rfl (fun ls hl => ?_)
      refine lv_iconst (v := 0) hx hb dX8_wordAt_54 (by decide) ?_
      refine lv_istore (lv' := [(7, .int 0), (6, .int 0), (5, .int 4), (0, .ref (y 0)), (1, .int (nI a)), (2, .int (nI b)), (3, .int 5), (4, .int 25)]) hx hb dX8_wordAt_55 hl (by decide) rfl (fun ls hl => ?_)
      refine lv_iload hx hb dX8_wordAt_57 (lv_at hl 0 rfl) ?_
      refine lv_iload hx hb dX8_wordAt_59 (lv_at hl 2 rfl) ?_
      refine lv_icmp_ge (tgt := 104) hx hb dX8_wordAt_61 (by decide) (fun h => absurd h (by decide)) (fun _ => ?_)
      refine lv_iload hx hb dX8_wordAt_64 (lv_at hl 1 rfl) ?_
      refine lv_if_eq (tgt := 104) hx hb dX8_wordAt_66 (by decide) (fun _ => ?_) (fun h => absurd (by decide) h)
      refine lv_iload hx hb dX8_wordAt_104 (lv_at hl 1 rfl) ?_
      refine lv_if_eq (tgt := 111) hx hb dX8_wordAt_106 (by decide) (fun _ => ?_) (fun h => absurd (by decide) h)
      refine lv_iload hx hb dX8_wordAt_111 (lv_at hl 7 rfl) ?_
      refine lv_iload hx hb dX8_wordAt_113 (lv_at hl 2 rfl) ?_
      refine lv_iconst (v := 1) hx hb dX8_wordAt_115 (by decide) ?_
      refine sv_iadd (v := 5) hx hb dX8_wordAt_116 (by decide) ?_
      refine sv_iadd (v := 30) hx hb dX8_wordAt_117 (by decide) ?_
      refine lv_istore (lv' := [(4, .int 30), (7, .int 0), (6, .int 0), (5, .int 4), (0, .ref (y 0)), (1, .int (nI a)), (2, .int (nI b)), (3, .int 5)]) hx hb dX8_wordAt_118 hl (by decide) rfl (fun ls hl => ?_)
      refine lv_iinc (v := 6) (lv' := [(3, .int 6), (4, .int 30), (7, .int 0), (6, .int 0), (5, .int 4), (0, .ref (y 0)), (1, .int (nI a)), (2, .int (nI b))]) hx hb dX8_wordAt_120 hl (k := 7) rfl (by decide) (by decide) rfl (fun ls hl => ?_)
      refine lv_goto (tgt := 5) hx hb dX8_wordAt_123 (by decide) ?_
      exact J_6_30 (wn_s hN (fun h => c_44 (by rw [show b - a = 4 by have h9 : b = a + 4 := h.1; omega]; rfl))) ls (lv_sub hl [5, 6, 7, 0, 1] rfl)
    ·
      have hlen : b = a + 4 := by have h9 := (nI_eq (a := 4) (by decide) (by omega)).mp c_44; omega
      refine lv_iconst (v := 1) hx hb dX8_wordAt_47 (by decide) ?_
      refine lv_goto (tgt := 52) hx hb dX8_wordAt_48 (by decide) ?_
      refine lv_istore (lv' := [(6, .int 1), (5, .int 4), (0, .ref (y 0)), (1, .int (nI a)), (2, .int (nI b)), (3, .int 5), (4, .int 25)]) hx hb dX8_wordAt_52 hl (by decide) rfl (fun ls hl => ?_)
      refine lv_iconst (v := 0) hx hb dX8_wordAt_54 (by decide) ?_
      refine lv_istore (lv' := [(7, .int 0), (6, .int 1), (5, .int 4), (0, .ref (y 0)), (1, .int (nI a)), (2, .int (nI b)), (3, .int 5), (4, .int 25)]) hx hb dX8_wordAt_55 hl (by decide) rfl (fun ls hl => ?_)
      refine lv_iload hx hb dX8_wordAt_57 (lv_at hl 0 rfl) ?_
      refine lv_iload hx hb dX8_wordAt_59 (lv_at hl 2 rfl) ?_
      refine lv_icmp_ge (tgt := 104) hx hb dX8_wordAt_61 (by decide) (fun h => absurd h (by decide)) (fun _ => ?_)
      refine lv_iload hx hb dX8_wordAt_64 (lv_at hl 1 rfl) ?_
      refine lv_if_eq (tgt := 104) hx hb dX8_wordAt_66 (by decide) (fun h => absurd h (by decide)) (fun _ => ?_)
      refine lv_aload_n hx hb dX8_wordAt_69 rfl (lv_at hl 3 rfl) ?_
      refine va_get (D := D) (ci := 8) (v := .ref (y 17)) (C := RX8) (T := TX8) (N := 52) hx hb hts w_1 hown hK hP 0 rfl rfl 34 (by decide) w_2 (fun _ h9 => h9) rfl dX8_wordAt_70 ?_
      refine lv_iload hx hb dX8_wordAt_73 (lv_at hl 7 rfl) ?_
      refine lv_iload hx hb dX8_wordAt_75 (lv_at hl 0 rfl) ?_
      refine sv_iadd (v := 25) hx hb dX8_wordAt_77 (by decide) ?_
      refine sv_iald (v := 119) hx hb hK hP 2 1 rfl rfl (vp_in_iff.mpr (by decide)) (hwf 25 (by decide)) dX8_wordAt_78 ?_
      refine lv_aload_n hx hb dX8_wordAt_79 rfl (lv_at hl 3 rfl) ?_
      refine va_get (D := D) (ci := 8) (v := .ref (y 1)) (C := RX8) (T := TX8) (N := 52) hx hb hts w_1 hown hK hP 0 rfl rfl 0 (by decide) w_3 (fun _ h9 => h9) rfl dX8_wordAt_80 ?_
      refine lv_iload_n hx hb dX8_wordAt_83 rfl (lv_at hl 4 rfl) ?_
      refine lv_iload hx hb dX8_wordAt_84 (lv_at hl 0 rfl) ?_
      refine sv_iadd (v := nI (a + 0)) hx hb dX8_wordAt_86 (ax_add a 0) ?_
      refine sv_iald (v := m_tape (a + 0)) hx hb hK hP 1 1 rfl rfl (vp_in_nI (by omega) (by decide)) (congrArg _ (nI_clamp (by omega))) dX8_wordAt_87 ?_
      refine lv_icmp_ne (tgt := 95) hx hb dX8_wordAt_88 (by decide) (fun c_88 => ?_) (fun c_88 => ?_)
      ·
        refine lv_iconst (v := 0) hx hb dX8_wordAt_95 (by decide) ?_
        refine lv_istore (lv' := [(6, .int 0), (7, .int 0), (5, .int 4), (0, .ref (y 0)), (1, .int (nI a)), (2, .int (nI b)), (3, .int 5), (4, .int 25)]) hx hb dX8_wordAt_96 hl (by decide) rfl (fun ls hl => ?_)
        refine lv_iinc (v := 1) (lv' := [(7, .int 1), (6, .int 0), (5, .int 4), (0, .ref (y 0)), (1, .int (nI a)), (2, .int (nI b)), (3, .int 5), (4, .int 25)]) hx hb dX8_wordAt_98 hl (k := 1) rfl (by decide) (by decide) rfl (fun ls hl => ?_)
        refine lv_goto (tgt := 57) hx hb dX8_wordAt_101 (by decide) ?_
        refine lv_iload hx hb dX8_wordAt_57 (lv_at hl 0 rfl) ?_
        refine lv_iload hx hb dX8_wordAt_59 (lv_at hl 2 rfl) ?_
        refine lv_icmp_ge (tgt := 104) hx hb dX8_wordAt_61 (by decide) (fun h => absurd h (by decide)) (fun _ => ?_)
        refine lv_iload hx hb dX8_wordAt_64 (lv_at hl 1 rfl) ?_
        refine lv_if_eq (tgt := 104) hx hb dX8_wordAt_66 (by decide) (fun _ => ?_) (fun h => absurd (by decide) h)
        refine lv_iload hx hb dX8_wordAt_104 (lv_at hl 1 rfl) ?_
        refine lv_if_eq (tgt := 111) hx hb dX8_wordAt_106 (by decide) (fun _ => ?_) (fun h => absurd (by decide) h)
        refine lv_iload hx hb dX8_wordAt_111 (lv_at hl 7 rfl) ?_
        refine lv_iload hx hb dX8_wordAt_113 (lv_at hl 2 rfl) ?_
        refine lv_iconst (v := 1) hx hb dX8_wordAt_115 (by decide) ?_
        refine sv_iadd (v := 5) hx hb dX8_wordAt_116 (by decide) ?_
        refine sv_iadd (v := 30) hx hb dX8_wordAt_117 (by decide) ?_
        refine lv_istore (lv' := [(4, .int 30), (7, .int 1), (6, .int 0), (5, .int 4), (0, .ref (y 0)), (1, .int (nI a)), (2, .int (nI b)), (3, .int 5)]) hx hb dX8_wordAt_118 hl (by decide) rfl (fun ls hl => ?_)
        refine lv_iinc (v := 6) (lv' := [(3, .int 6), (4, .int 30), (7, .int 1), (6, .int 0), (5, .int 4), (0, .ref (y 0)), (1, .int (nI a)), (2, .int (nI b))]) hx hb dX8_wordAt_120 hl (k := 7) rfl (by decide) (by decide) rfl (fun ls hl => ?_)
        refine lv_goto (tgt := 5) hx hb dX8_wordAt_123 (by decide) ?_
        exact J_6_30 (wn_s hN (fun h => c_88 (h.2 0 (by decide)).symm)) ls (lv_sub hl [5, 6, 7, 0, 1] rfl)
      ·
        have he_0 := c_88
        refine lv_iconst (v := 1) hx hb dX8_wordAt_91 (by decide) ?_
        refine lv_goto (tgt := 96) hx hb dX8_wordAt_92 (by decide) ?_
        refine lv_istore (lv' := [(6, .int 1), (7, .int 0), (5, .int 4), (0, .ref (y 0)), (1, .int (nI a)), (2, .int (nI b)), (3, .int 5), (4, .int 25)]) hx hb dX8_wordAt_96 hl (by decide) rfl (fun ls hl => ?_)
        refine lv_iinc (v := 1) (lv' := [(7, .int 1), (6, .int 1), (5, .int 4), (0, .ref (y 0)), (1, .int (nI a)), (2, .int (nI b)), (3, .int 5), (4, .int 25)]) hx hb dX8_wordAt_98 hl (k := 1) rfl (by decide) (by decide) rfl (fun ls hl => ?_)
        refine lv_goto (tgt := 57) hx hb dX8_wordAt_101 (by decide) ?_
        refine lv_iload hx hb dX8_wordAt_57 (lv_at hl 0 rfl) ?_
        refine lv_iload hx hb dX8_wordAt_59 (lv_at hl 2 rfl) ?_
        refine lv_icmp_ge (tgt := 104) hx hb dX8_wordAt_61 (by decide) (fun h => absurd h (by decide)) (fun _ => ?_)
        refine lv_iload hx hb dX8_wordAt_64 (lv_at hl 1 rfl) ?_
        refine lv_if_eq (tgt := 104) hx hb dX8_wordAt_66 (by decide) (fun h => absurd h (by decide)) (fun _ => ?_)
        refine lv_aload_n hx hb dX8_wordAt_69 rfl (lv_at hl 3 rfl) ?_
        refine va_get (D := D) (ci := 8) (v := .ref (y 17)) (C := RX8) (T := TX8) (N := 52) hx hb hts w_1 hown hK hP 0 rfl rfl 34 (by decide) w_2 (fun _ h9 => h9) rfl dX8_wordAt_70 ?_
        refine lv_iload hx hb dX8_wordAt_73 (lv_at hl 7 rfl) ?_
        refine lv_iload hx hb dX8_wordAt_75 (lv_at hl 0 rfl) ?_
        refine sv_iadd (v := 26) hx hb dX8_wordAt_77 (by decide) ?_
        refine sv_iald (v := 101) hx hb hK hP 2 1 rfl rfl (vp_in_iff.mpr (by decide)) (hwf 26 (by decide)) dX8_wordAt_78 ?_
        refine lv_aload_n hx hb dX8_wordAt_79 rfl (lv_at hl 3 rfl) ?_
        refine va_get (D := D) (ci := 8) (v := .ref (y 1)) (C := RX8) (T := TX8) (N := 52) hx hb hts w_1 hown hK hP 0 rfl rfl 0 (by decide) w_3 (fun _ h9 => h9) rfl dX8_wordAt_80 ?_
        refine lv_iload_n hx hb dX8_wordAt_83 rfl (lv_at hl 4 rfl) ?_
        refine lv_iload hx hb dX8_wordAt_84 (lv_at hl 0 rfl) ?_
        refine sv_iadd (v := nI (a + 1)) hx hb dX8_wordAt_86 (ax_add a 1) ?_
        refine sv_iald (v := m_tape (a + 1)) hx hb hK hP 1 1 rfl rfl (vp_in_nI (by omega) (by decide)) (congrArg _ (nI_clamp (by omega))) dX8_wordAt_87 ?_
        refine lv_icmp_ne (tgt := 95) hx hb dX8_wordAt_88 (by decide) (fun c_88 => ?_) (fun c_88 => ?_)
        ·
          refine lv_iconst (v := 0) hx hb dX8_wordAt_95 (by decide) ?_
          refine lv_istore (lv' := [(6, .int 0), (7, .int 1), (5, .int 4), (0, .ref (y 0)), (1, .int (nI a)), (2, .int (nI b)), (3, .int 5), (4, .int 25)]) hx hb dX8_wordAt_96 hl (by decide) rfl (fun ls hl => ?_)
          refine lv_iinc (v := 2) (lv' := [(7, .int 2), (6, .int 0), (5, .int 4), (0, .ref (y 0)), (1, .int (nI a)), (2, .int (nI b)), (3, .int 5), (4, .int 25)]) hx hb dX8_wordAt_98 hl (k := 1) rfl (by decide) (by decide) rfl (fun ls hl => ?_)
          refine lv_goto (tgt := 57) hx hb dX8_wordAt_101 (by decide) ?_
          refine lv_iload hx hb dX8_wordAt_57 (lv_at hl 0 rfl) ?_
          refine lv_iload hx hb dX8_wordAt_59 (lv_at hl 2 rfl) ?_
          refine lv_icmp_ge (tgt := 104) hx hb dX8_wordAt_61 (by decide) (fun h => absurd h (by decide)) (fun _ => ?_)
          refine lv_iload hx hb dX8_wordAt_64 (lv_at hl 1 rfl) ?_
          refine lv_if_eq (tgt := 104) hx hb dX8_wordAt_66 (by decide) (fun _ => ?_) (fun h => absurd (by decide) h)
          refine lv_iload hx hb dX8_wordAt_104 (lv_at hl 1 rfl) ?_
          refine lv_if_eq (tgt := 111) hx hb dX8_wordAt_106 (by decide) (fun _ => ?_) (fun h => absurd (by decide) h)
          refine lv_iload hx hb dX8_wordAt_111 (lv_at hl 7 rfl) ?_
          refine lv_iload hx hb dX8_wordAt_113 (lv_at hl 2 rfl) ?_
          refine lv_iconst (v := 1) hx hb dX8_wordAt_115 (by decide) ?_
          refine sv_iadd (v := 5) hx hb dX8_wordAt_116 (by decide) ?_
          refine sv_iadd (v := 30) hx hb dX8_wordAt_117 (by decide) ?_
          refine lv_istore (lv' := [(4, .int 30), (7, .int 2), (6, .int 0), (5, .int 4), (0, .ref (y 0)), (1, .int (nI a)), (2, .int (nI b)), (3, .int 5)]) hx hb dX8_wordAt_118 hl (by decide) rfl (fun ls hl => ?_)
          refine lv_iinc (v := 6) (lv' := [(3, .int 6), (4, .int 30), (7, .int 2), (6, .int 0), (5, .int 4), (0, .ref (y 0)), (1, .int (nI a)), (2, .int (nI b))]) hx hb dX8_wordAt_120 hl (k := 7) rfl (by decide) (by decide) rfl (fun ls hl => ?_)
          refine lv_goto (tgt := 5) hx hb dX8_wordAt_123 (by decide) ?_
          exact J_6_30 (wn_s hN (fun h => c_88 (h.2 1 (by decide)).symm)) ls (lv_sub hl [5, 6, 7, 0, 1] rfl)
        ·
          have he_1 := c_88
          refine lv_iconst (v := 1) hx hb dX8_wordAt_91 (by decide) ?_
          refine lv_goto (tgt := 96) hx hb dX8_wordAt_92 (by decide) ?_
          refine lv_istore (lv' := [(6, .int 1), (7, .int 1), (5, .int 4), (0, .ref (y 0)), (1, .int (nI a)), (2, .int (nI b)), (3, .int 5), (4, .int 25)]) hx hb dX8_wordAt_96 hl (by decide) rfl (fun ls hl => ?_)
          refine lv_iinc (v := 2) (lv' := [(7, .int 2), (6, .int 1), (5, .int 4), (0, .ref (y 0)), (1, .int (nI a)), (2, .int (nI b)), (3, .int 5), (4, .int 25)]) hx hb dX8_wordAt_98 hl (k := 1) rfl (by decide) (by decide) rfl (fun ls hl => ?_)
          refine lv_goto (tgt := 57) hx hb dX8_wordAt_101 (by decide) ?_
          refine lv_iload hx hb dX8_wordAt_57 (lv_at hl 0 rfl) ?_
          refine lv_iload hx hb dX8_wordAt_59 (lv_at hl 2 rfl) ?_
          refine lv_icmp_ge (tgt := 104) hx hb dX8_wordAt_61 (by decide) (fun h => absurd h (by decide)) (fun _ => ?_)
          refine lv_iload hx hb dX8_wordAt_64 (lv_at hl 1 rfl) ?_
          refine lv_if_eq (tgt := 104) hx hb dX8_wordAt_66 (by decide) (fun h => absurd h (by decide)) (fun _ => ?_)
          refine lv_aload_n hx hb dX8_wordAt_69 rfl (lv_at hl 3 rfl) ?_
          refine va_get (D := D) (ci := 8) (v := .ref (y 17)) (C := RX8) (T := TX8) (N := 52) hx hb hts w_1 hown hK hP 0 rfl rfl 34 (by decide) w_2 (fun _ h9 => h9) rfl dX8_wordAt_70 ?_
          refine lv_iload hx hb dX8_wordAt_73 (lv_at hl 7 rfl) ?_
          refine lv_iload hx hb dX8_wordAt_75 (lv_at hl 0 rfl) ?_
          refine sv_iadd (v := 27) hx hb dX8_wordAt_77 (by decide) ?_
          refine sv_iald (v := 97) hx hb hK hP 2 1 rfl rfl (vp_in_iff.mpr (by decide)) (hwf 27 (by decide)) dX8_wordAt_78 ?_
          refine lv_aload_n hx hb dX8_wordAt_79 rfl (lv_at hl 3 rfl) ?_
          refine va_get (D := D) (ci := 8) (v := .ref (y 1)) (C := RX8) (T := TX8) (N := 52) hx hb hts w_1 hown hK hP 0 rfl rfl 0 (by decide) w_3 (fun _ h9 => h9) rfl dX8_wordAt_80 ?_
          refine lv_iload_n hx hb dX8_wordAt_83 rfl (lv_at hl 4 rfl) ?_
          refine lv_iload hx hb dX8_wordAt_84 (lv_at hl 0 rfl) ?_
          refine sv_iadd (v := nI (a + 2)) hx hb dX8_wordAt_86 (ax_add a 2) ?_
          refine sv_iald (v := m_tape (a + 2)) hx hb hK hP 1 1 rfl rfl (vp_in_nI (by omega) (by decide)) (congrArg _ (nI_clamp (by omega))) dX8_wordAt_87 ?_
          refine lv_icmp_ne (tgt := 95) hx hb dX8_wordAt_88 (by decide) (fun c_88 => ?_) (fun c_88 => ?_)
          ·
            refine lv_iconst (v := 0) hx hb dX8_wordAt_95 (by decide) ?_
            refine lv_istore (lv' := [(6, .int 0), (7, .int 2), (5, .int 4), (0, .ref (y 0)), (1, .int (nI a)), (2, .int (nI b)), (3, .int 5), (4, .int 25)]) hx hb dX8_wordAt_96 hl (by decide) rfl (fun ls hl => ?_)
            refine lv_iinc (v := 3) (lv' := [(7, .int 3), (6, .int 0), (5, .int 4), (0, .ref (y 0)), (1, .int (nI a)), (2, .int (nI b)), (3, .int 5), (4, .int 25)]) hx hb dX8_wordAt_98 hl (k := 1) rfl (by decide) (by decide) rfl (fun ls hl => ?_)
            refine lv_goto (tgt := 57) hx hb dX8_wordAt_101 (by decide) ?_
            refine lv_iload hx hb dX8_wordAt_57 (lv_at hl 0 rfl) ?_
            refine lv_iload hx hb dX8_wordAt_59 (lv_at hl 2 rfl) ?_
            refine lv_icmp_ge (tgt := 104) hx hb dX8_wordAt_61 (by decide) (fun h => absurd h (by decide)) (fun _ => ?_)
            refine lv_iload hx hb dX8_wordAt_64 (lv_at hl 1 rfl) ?_
            refine lv_if_eq (tgt := 104) hx hb dX8_wordAt_66 (by decide) (fun _ => ?_) (fun h => absurd (by decide) h)
            refine lv_iload hx hb dX8_wordAt_104 (lv_at hl 1 rfl) ?_
            refine lv_if_eq (tgt := 111) hx hb dX8_wordAt_106 (by decide) (fun _ => ?_) (fun h => absurd (by decide) h)
            refine lv_iload hx hb dX8_wordAt_111 (lv_at hl 7 rfl) ?_
            refine lv_iload hx hb dX8_wordAt_113 (lv_at hl 2 rfl) ?_
            refine lv_iconst (v := 1) hx hb dX8_wordAt_115 (by decide) ?_
            refine sv_iadd (v := 5) hx hb dX8_wordAt_116 (by decide) ?_
            refine sv_iadd (v := 30) hx hb dX8_wordAt_117 (by decide) ?_
            refine lv_istore (lv' := [(4, .int 30), (7, .int 3), (6, .int 0), (5, .int 4), (0, .ref (y 0)), (1, .int (nI a)), (2, .int (nI b)), (3, .int 5)]) hx hb dX8_wordAt_118 hl (by decide) rfl (fun ls hl => ?_)
            refine lv_iinc (v := 6) (lv' := [(3, .int 6), (4, .int 30), (7, .int 3), (6, .int 0), (5, .int 4), (0, .ref (y 0)), (1, .int (nI a)), (2, .int (nI b))]) hx hb dX8_wordAt_120 hl (k := 7) rfl (by decide) (by decide) rfl (fun ls hl => ?_)
            refine lv_goto (tgt := 5) hx hb dX8_wordAt_123 (by decide) ?_
            exact J_6_30 (wn_s hN (fun h => c_88 (h.2 2 (by decide)).symm)) ls (lv_sub hl [5, 6, 7, 0, 1] rfl)
          ·
            have he_2 := c_88
            refine lv_iconst (v := 1) hx hb dX8_wordAt_91 (by decide) ?_
            refine lv_goto (tgt := 96) hx hb dX8_wordAt_92 (by decide) ?_
            refine lv_istore (lv' := [(6, .int 1), (7, .int 2), (5, .int 4), (0, .ref (y 0)), (1, .int (nI a)), (2, .int (nI b)), (3, .int 5), (4, .int 25)]) hx hb dX8_wordAt_96 hl (by decide) rfl (fun ls hl => ?_)
            refine lv_iinc (v := 3) (lv' := [(7, .int 3), (6, .int 1), (5, .int 4), (0, .ref (y 0)), (1, .int (nI a)), (2, .int (nI b)), (3, .int 5), (4, .int 25)]) hx hb dX8_wordAt_98 hl (k := 1) rfl (by decide) (by decide) rfl (fun ls hl => ?_)
            refine lv_goto (tgt := 57) hx hb dX8_wordAt_101 (by decide) ?_
            refine lv_iload hx hb dX8_wordAt_57 (lv_at hl 0 rfl) ?_
            refine lv_iload hx hb dX8_wordAt_59 (lv_at hl 2 rfl) ?_
            refine lv_icmp_ge (tgt := 104) hx hb dX8_wordAt_61 (by decide) (fun h => absurd h (by decide)) (fun _ => ?_)
            refine lv_iload hx hb dX8_wordAt_64 (lv_at hl 1 rfl) ?_
            refine lv_if_eq (tgt := 104) hx hb dX8_wordAt_66 (by decide) (fun h => absurd h (by decide)) (fun _ => ?_)
            refine lv_aload_n hx hb dX8_wordAt_69 rfl (lv_at hl 3 rfl) ?_
            refine va_get (D := D) (ci := 8) (v := .ref (y 17)) (C := RX8) (T := TX8) (N := 52) hx hb hts w_1 hown hK hP 0 rfl rfl 34 (by decide) w_2 (fun _ h9 => h9) rfl dX8_wordAt_70 ?_
            refine lv_iload hx hb dX8_wordAt_73 (lv_at hl 7 rfl) ?_
            refine lv_iload hx hb dX8_wordAt_75 (lv_at hl 0 rfl) ?_
            refine sv_iadd (v := 28) hx hb dX8_wordAt_77 (by decide) ?_
            refine sv_iald (v := 114) hx hb hK hP 2 1 rfl rfl (vp_in_iff.mpr (by decide)) (hwf 28 (by decide)) dX8_wordAt_78 ?_
            refine lv_aload_n hx hb dX8_wordAt_79 rfl (lv_at hl 3 rfl) ?_
            refine va_get (D := D) (ci := 8) (v := .ref (y 1)) (C := RX8) (T := TX8) (N := 52) hx hb hts w_1 hown hK hP 0 rfl rfl 0 (by decide) w_3 (fun _ h9 => h9) rfl dX8_wordAt_80 ?_
            refine lv_iload_n hx hb dX8_wordAt_83 rfl (lv_at hl 4 rfl) ?_
            refine lv_iload hx hb dX8_wordAt_84 (lv_at hl 0 rfl) ?_
            refine sv_iadd (v := nI (a + 3)) hx hb dX8_wordAt_86 (ax_add a 3) ?_
            refine sv_iald (v := m_tape (a + 3)) hx hb hK hP 1 1 rfl rfl (vp_in_nI (by omega) (by decide)) (congrArg _ (nI_clamp (by omega))) dX8_wordAt_87 ?_
            refine lv_icmp_ne (tgt := 95) hx hb dX8_wordAt_88 (by decide) (fun c_88 => ?_) (fun c_88 => ?_)
            ·
              refine lv_iconst (v := 0) hx hb dX8_wordAt_95 (by decide) ?_
              refine lv_istore (lv' := [(6, .int 0), (7, .int 3), (5, .int 4), (0, .ref (y 0)), (1, .int (nI a)), (2, .int (nI b)), (3, .int 5), (4, .int 25)]) hx hb dX8_wordAt_96 hl (by decide) rfl (fun ls hl => ?_)
              refine lv_iinc (v := 4) (lv' := [(7, .int 4), (6, .int 0), (5, .int 4), (0, .ref (y 0)), (1, .int (nI a)), (2, .int (nI b)), (3, .int 5), (4, .int 25)]) hx hb dX8_wordAt_98 hl (k := 1) rfl (by decide) (by decide) rfl (fun ls hl => ?_)
              refine lv_goto (tgt := 57) hx hb dX8_wordAt_101 (by decide) ?_
              refine lv_iload hx hb dX8_wordAt_57 (lv_at hl 0 rfl) ?_
              refine lv_iload hx hb dX8_wordAt_59 (lv_at hl 2 rfl) ?_
              refine lv_icmp_ge (tgt := 104) hx hb dX8_wordAt_61 (by decide) (fun _ => ?_) (fun h => absurd (by decide) h)
              refine lv_iload hx hb dX8_wordAt_104 (lv_at hl 1 rfl) ?_
              refine lv_if_eq (tgt := 111) hx hb dX8_wordAt_106 (by decide) (fun _ => ?_) (fun h => absurd (by decide) h)
              refine lv_iload hx hb dX8_wordAt_111 (lv_at hl 7 rfl) ?_
              refine lv_iload hx hb dX8_wordAt_113 (lv_at hl 2 rfl) ?_
              refine lv_iconst (v := 1) hx hb dX8_wordAt_115 (by decide) ?_
              refine sv_iadd (v := 5) hx hb dX8_wordAt_116 (by decide) ?_
              refine sv_iadd (v := 30) hx hb dX8_wordAt_117 (by decide) ?_
              refine lv_istore (lv' := [(4, .int 30), (7, .int 4), (6, .int 0), (5, .int 4), (0, .ref (y 0)), (1, .int (nI a)), (2, .int (nI b)), (3, .int 5)]) hx hb dX8_wordAt_118 hl (by decide) rfl (fun ls hl => ?_)
              refine lv_iinc (v := 6) (lv' := [(3, .int 6), (4, .int 30), (7, .int 4), (6, .int 0), (5, .int 4), (0, .ref (y 0)), (1, .int (nI a)), (2, .int (nI b))]) hx hb dX8_wordAt_120 hl (k := 7) rfl (by decide) (by decide) rfl (fun ls hl => ?_)
              refine lv_goto (tgt := 5) hx hb dX8_wordAt_123 (by decide) ?_
              exact J_6_30 (wn_s hN (fun h => c_88 (h.2 3 (by decide)).symm)) ls (lv_sub hl [5, 6, 7, 0, 1] rfl)
            ·
              have he_3 := c_88
              refine lv_iconst (v := 1) hx hb dX8_wordAt_91 (by decide) ?_
              refine lv_goto (tgt := 96) hx hb dX8_wordAt_92 (by decide) ?_
              refine lv_istore (lv' := [(6, .int 1), (7, .int 3), (5, .int 4), (0, .ref (y 0)), (1, .int (nI a)), (2, .int (nI b)), (3, .int 5), (4, .int 25)]) hx hb dX8_wordAt_96 hl (by decide) rfl (fun ls hl => ?_)
              refine lv_iinc (v := 4) (lv' := [(7, .int 4), (6, .int 1), (5, .int 4), (0, .ref (y 0)), (1, .int (nI a)), (2, .int (nI b)), (3, .int 5), (4, .int 25)]) hx hb dX8_wordAt_98 hl (k := 1) rfl (by decide) (by decide) rfl (fun ls hl => ?_)
              refine lv_goto (tgt := 57) hx hb dX8_wordAt_101 (by decide) ?_
              refine lv_iload hx hb dX8_wordAt_57 (lv_at hl 0 rfl) ?_
              refine lv_iload hx hb dX8_wordAt_59 (lv_at hl 2 rfl) ?_
              refine lv_icmp_ge (tgt := 104) hx hb dX8_wordAt_61 (by decide) (fun _ => ?_) (fun h => absurd (by decide) h)
              refine lv_iload hx hb dX8_wordAt_104 (lv_at hl 1 rfl) ?_
              refine lv_if_eq (tgt := 111) hx hb dX8_wordAt_106 (by decide) (fun h => absurd h (by decide)) (fun _ => ?_)
              refine lv_iload_n hx hb dX8_wordAt_109 rfl (lv_at hl 6 rfl) ?_
              rw [← hQ]
              exact W.iret (v := 5) hx hb hr (fun t ht hW => ⟨_, rfl, Or.inl (wa_y (w := 5) (by decide) ⟨hlen, fun j hj => by match j, hj with | 0, _ => exact he_0.symm | 1, _ => exact he_1.symm | 2, _ => exact he_2.symm | 3, _ => exact he_3.symm | j + 4, hj => exact absurd hj (show ¬ j + 4 < 4 by omega)⟩ rfl), ht⟩) (fun q h => nomatch h) dX8_wordAt_110
  have J_4_21 : (∀ i, i < 4 → ¬ wdP m_tape a b i) → ∀ (ls : Array Slot), lv_has ls 8 [(0, .ref (y 0)), (1, .int (nI a)), (2, .int (nI b)), (3, .int 4), (4, .int 21)] → W p l e (headSpec wsX8_wordAt ({ frames := 0, cells := 0, slots := 0, locals := 0 } : Room)).room s m ([.ref (y 0), .int (nI a), .int (nI b)] : List Value).toArray below meth c s.heap [] 0 0 Q0 (F0 m 5 ls []) := by
    intro hN ls hl
    refine lv_iload hx hb dX8_wordAt_5 (lv_at hl 4 rfl) ?_
    refine lv_aload_n hx hb dX8_wordAt_7 rfl (lv_at hl 0 rfl) ?_
    refine va_get (D := D) (ci := 8) (v := .ref (y 17)) (C := RX8) (T := TX8) (N := 52) hx hb hts w_1 hown hK hP 0 rfl rfl 34 (by decide) w_2 (fun _ h9 => h9) rfl dX8_wordAt_8 ?_
    refine va_alen (v := 43) hx hb hK hP 2 1 rfl rfl rfl dX8_wordAt_11 ?_
    refine lv_icmp_ge (tgt := 126) hx hb dX8_wordAt_12 (by decide) (fun h => absurd h (by decide)) (fun _ => ?_)
    refine lv_iconst (v := 0) hx hb dX8_wordAt_15 (by decide) ?_
    refine lv_istore (lv' := [(5, .int 0), (0, .ref (y 0)), (1, .int (nI a)), (2, .int (nI b)), (3, .int 4), (4, .int 21)]) hx hb dX8_wordAt_16 hl (by decide) rfl (fun ls hl => ?_)
    refine lv_aload_n hx hb dX8_wordAt_18 rfl (lv_at hl 1 rfl) ?_
    refine va_get (D := D) (ci := 8) (v := .ref (y 17)) (C := RX8) (T := TX8) (N := 52) hx hb hts w_1 hown hK hP 0 rfl rfl 34 (by decide) w_2 (fun _ h9 => h9) rfl dX8_wordAt_19 ?_
    refine lv_iload hx hb dX8_wordAt_22 (lv_at hl 5 rfl) ?_
    refine lv_iload hx hb dX8_wordAt_24 (lv_at hl 0 rfl) ?_
    refine sv_iadd (v := 21) hx hb dX8_wordAt_26 (by decide) ?_
    refine sv_iald (v := 97) hx hb hK hP 2 1 rfl rfl (vp_in_iff.mpr (by decide)) (hwf 21 (by decide)) dX8_wordAt_27 ?_
    refine lv_bipush (v := 32) hx hb dX8_wordAt_28 (by decide) ?_
    refine lv_icmp_eq (tgt := 39) hx hb dX8_wordAt_30 (by decide) (fun h => absurd h (by decide)) (fun _ => ?_)
    refine lv_iinc (v := 1) (lv' := [(5, .int 1), (0, .ref (y 0)), (1, .int (nI a)), (2, .int (nI b)), (3, .int 4), (4, .int 21)]) hx hb dX8_wordAt_33 hl (k := 0) rfl (by decide) (by decide) rfl (fun ls hl => ?_)
    refine lv_goto (tgt := 18) hx hb dX8_wordAt_36 (by decide) ?_
    refine lv_aload_n hx hb dX8_wordAt_18 rfl (lv_at hl 1 rfl) ?_
    refine va_get (D := D) (ci := 8) (v := .ref (y 17)) (C := RX8) (T := TX8) (N := 52) hx hb hts w_1 hown hK hP 0 rfl rfl 34 (by decide) w_2 (fun _ h9 => h9) rfl dX8_wordAt_19 ?_
    refine lv_iload hx hb dX8_wordAt_22 (lv_at hl 5 rfl) ?_
    refine lv_iload hx hb dX8_wordAt_24 (lv_at hl 0 rfl) ?_
    refine sv_iadd (v := 22) hx hb dX8_wordAt_26 (by decide) ?_
    refine sv_iald (v := 103) hx hb hK hP 2 1 rfl rfl (vp_in_iff.mpr (by decide)) (hwf 22 (by decide)) dX8_wordAt_27 ?_
    refine lv_bipush (v := 32) hx hb dX8_wordAt_28 (by decide) ?_
    refine lv_icmp_eq (tgt := 39) hx hb dX8_wordAt_30 (by decide) (fun h => absurd h (by decide)) (fun _ => ?_)
    refine lv_iinc (v := 2) (lv' := [(5, .int 2), (0, .ref (y 0)), (1, .int (nI a)), (2, .int (nI b)), (3, .int 4), (4, .int 21)]) hx hb dX8_wordAt_33 hl (k := 0) rfl (by decide) (by decide) rfl (fun ls hl => ?_)
    refine lv_goto (tgt := 18) hx hb dX8_wordAt_36 (by decide) ?_
    refine lv_aload_n hx hb dX8_wordAt_18 rfl (lv_at hl 1 rfl) ?_
    refine va_get (D := D) (ci := 8) (v := .ref (y 17)) (C := RX8) (T := TX8) (N := 52) hx hb hts w_1 hown hK hP 0 rfl rfl 34 (by decide) w_2 (fun _ h9 => h9) rfl dX8_wordAt_19 ?_
    refine lv_iload hx hb dX8_wordAt_22 (lv_at hl 5 rfl) ?_
    refine lv_iload hx hb dX8_wordAt_24 (lv_at hl 0 rfl) ?_
    refine sv_iadd (v := 23) hx hb dX8_wordAt_26 (by decide) ?_
    refine sv_iald (v := 101) hx hb hK hP 2 1 rfl rfl (vp_in_iff.mpr (by decide)) (hwf 23 (by decide)) dX8_wordAt_27 ?_
    refine lv_bipush (v := 32) hx hb dX8_wordAt_28 (by decide) ?_
    refine lv_icmp_eq (tgt := 39) hx hb dX8_wordAt_30 (by decide) (fun h => absurd h (by decide)) (fun _ => ?_)
    refine lv_iinc (v := 3) (lv' := [(5, .int 3), (0, .ref (y 0)), (1, .int (nI a)), (2, .int (nI b)), (3, .int 4), (4, .int 21)]) hx hb dX8_wordAt_33 hl (k := 0) rfl (by decide) (by decide) rfl (fun ls hl => ?_)
    refine lv_goto (tgt := 18) hx hb dX8_wordAt_36 (by decide) ?_
    refine lv_aload_n hx hb dX8_wordAt_18 rfl (lv_at hl 1 rfl) ?_
    refine va_get (D := D) (ci := 8) (v := .ref (y 17)) (C := RX8) (T := TX8) (N := 52) hx hb hts w_1 hown hK hP 0 rfl rfl 34 (by decide) w_2 (fun _ h9 => h9) rfl dX8_wordAt_19 ?_
    refine lv_iload hx hb dX8_wordAt_22 (lv_at hl 5 rfl) ?_
    refine lv_iload hx hb dX8_wordAt_24 (lv_at hl 0 rfl) ?_
    refine sv_iadd (v := 24) hx hb dX8_wordAt_26 (by decide) ?_
    refine sv_iald (v := 32) hx hb hK hP 2 1 rfl rfl (vp_in_iff.mpr (by decide)) (hwf 24 (by decide)) dX8_wordAt_27 ?_
    refine lv_bipush (v := 32) hx hb dX8_wordAt_28 (by decide) ?_
    refine lv_icmp_eq (tgt := 39) hx hb dX8_wordAt_30 (by decide) (fun _ => ?_) (fun h => absurd (by decide) h)
    refine lv_iload hx hb dX8_wordAt_39 (lv_at hl 0 rfl) ?_
    refine lv_iload_n hx hb dX8_wordAt_41 rfl (lv_at hl 3 rfl) ?_
    refine lv_iload_n hx hb dX8_wordAt_42 rfl (lv_at hl 2 rfl) ?_
    refine sv_isub (v := nI (b - a)) hx hb dX8_wordAt_43 (nI_subN hab) ?_
    refine lv_icmp_ne (tgt := 51) hx hb dX8_wordAt_44 (by decide) (fun c_44 => ?_) (fun c_44 => ?_)
    ·
      refine lv_iconst (v := 0) hx hb dX8_wordAt_51 (by decide) ?_
      refine lv_istore (lv' := [(6, .int 0), (5, .int 3), (0, .ref (y 0)), (1, .int (nI a)), (2, .int (nI b)), (3, .int 4), (4, .int 21)]) hx hb dX8_wordAt_52 hl (by decide) rfl (fun ls hl => ?_)
      refine lv_iconst (v := 0) hx hb dX8_wordAt_54 (by decide) ?_
      refine lv_istore (lv' := [(7, .int 0), (6, .int 0), (5, .int 3), (0, .ref (y 0)), (1, .int (nI a)), (2, .int (nI b)), (3, .int 4), (4, .int 21)]) hx hb dX8_wordAt_55 hl (by decide) rfl (fun ls hl => ?_)
      refine lv_iload hx hb dX8_wordAt_57 (lv_at hl 0 rfl) ?_
      refine lv_iload hx hb dX8_wordAt_59 (lv_at hl 2 rfl) ?_
      refine lv_icmp_ge (tgt := 104) hx hb dX8_wordAt_61 (by decide) (fun h => absurd h (by decide)) (fun _ => ?_)
      refine lv_iload hx hb dX8_wordAt_64 (lv_at hl 1 rfl) ?_
      refine lv_if_eq (tgt := 104) hx hb dX8_wordAt_66 (by decide) (fun _ => ?_) (fun h => absurd (by decide) h)
      refine lv_iload hx hb dX8_wordAt_104 (lv_at hl 1 rfl) ?_
      refine lv_if_eq (tgt := 111) hx hb dX8_wordAt_106 (by decide) (fun _ => ?_) (fun h => absurd (by decide) h)
      refine lv_iload hx hb dX8_wordAt_111 (lv_at hl 7 rfl) ?_
      refine lv_iload hx hb dX8_wordAt_113 (lv_at hl 2 rfl) ?_
      refine lv_iconst (v := 1) hx hb dX8_wordAt_115 (by decide) ?_
      refine sv_iadd (v := 4) hx hb dX8_wordAt_116 (by decide) ?_
      refine sv_iadd (v := 25) hx hb dX8_wordAt_117 (by decide) ?_
      refine lv_istore (lv' := [(4, .int 25), (7, .int 0), (6, .int 0), (5, .int 3), (0, .ref (y 0)), (1, .int (nI a)), (2, .int (nI b)), (3, .int 4)]) hx hb dX8_wordAt_118 hl (by decide) rfl (fun ls hl => ?_)
      refine lv_iinc (v := 5) (lv' := [(3, .int 5), (4, .int 25), (7, .int 0), (6, .int 0), (5, .int 3), (0, .ref (y 0)), (1, .int (nI a)), (2, .int (nI b))]) hx hb dX8_wordAt_120 hl (k := 7) rfl (by decide) (by decide) rfl (fun ls hl => ?_)
      refine lv_goto (tgt := 5) hx hb dX8_wordAt_123 (by decide) ?_
      exact J_5_25 (wn_s hN (fun h => c_44 (by rw [show b - a = 3 by have h9 : b = a + 3 := h.1; omega]; rfl))) ls (lv_sub hl [5, 6, 7, 0, 1] rfl)
    ·
      have hlen : b = a + 3 := by have h9 := (nI_eq (a := 3) (by decide) (by omega)).mp c_44; omega
      refine lv_iconst (v := 1) hx hb dX8_wordAt_47 (by decide) ?_
      refine lv_goto (tgt := 52) hx hb dX8_wordAt_48 (by decide) ?_
      refine lv_istore (lv' := [(6, .int 1), (5, .int 3), (0, .ref (y 0)), (1, .int (nI a)), (2, .int (nI b)), (3, .int 4), (4, .int 21)]) hx hb dX8_wordAt_52 hl (by decide) rfl (fun ls hl => ?_)
      refine lv_iconst (v := 0) hx hb dX8_wordAt_54 (by decide) ?_
      refine lv_istore (lv' := [(7, .int 0), (6, .int 1), (5, .int 3), (0, .ref (y 0)), (1, .int (nI a)), (2, .int (nI b)), (3, .int 4), (4, .int 21)]) hx hb dX8_wordAt_55 hl (by decide) rfl (fun ls hl => ?_)
      refine lv_iload hx hb dX8_wordAt_57 (lv_at hl 0 rfl) ?_
      refine lv_iload hx hb dX8_wordAt_59 (lv_at hl 2 rfl) ?_
      refine lv_icmp_ge (tgt := 104) hx hb dX8_wordAt_61 (by decide) (fun h => absurd h (by decide)) (fun _ => ?_)
      refine lv_iload hx hb dX8_wordAt_64 (lv_at hl 1 rfl) ?_
      refine lv_if_eq (tgt := 104) hx hb dX8_wordAt_66 (by decide) (fun h => absurd h (by decide)) (fun _ => ?_)
      refine lv_aload_n hx hb dX8_wordAt_69 rfl (lv_at hl 3 rfl) ?_
      refine va_get (D := D) (ci := 8) (v := .ref (y 17)) (C := RX8) (T := TX8) (N := 52) hx hb hts w_1 hown hK hP 0 rfl rfl 34 (by decide) w_2 (fun _ h9 => h9) rfl dX8_wordAt_70 ?_
      refine lv_iload hx hb dX8_wordAt_73 (lv_at hl 7 rfl) ?_
      refine lv_iload hx hb dX8_wordAt_75 (lv_at hl 0 rfl) ?_
      refine sv_iadd (v := 21) hx hb dX8_wordAt_77 (by decide) ?_
      refine sv_iald (v := 97) hx hb hK hP 2 1 rfl rfl (vp_in_iff.mpr (by decide)) (hwf 21 (by decide)) dX8_wordAt_78 ?_
      refine lv_aload_n hx hb dX8_wordAt_79 rfl (lv_at hl 3 rfl) ?_
      refine va_get (D := D) (ci := 8) (v := .ref (y 1)) (C := RX8) (T := TX8) (N := 52) hx hb hts w_1 hown hK hP 0 rfl rfl 0 (by decide) w_3 (fun _ h9 => h9) rfl dX8_wordAt_80 ?_
      refine lv_iload_n hx hb dX8_wordAt_83 rfl (lv_at hl 4 rfl) ?_
      refine lv_iload hx hb dX8_wordAt_84 (lv_at hl 0 rfl) ?_
      refine sv_iadd (v := nI (a + 0)) hx hb dX8_wordAt_86 (ax_add a 0) ?_
      refine sv_iald (v := m_tape (a + 0)) hx hb hK hP 1 1 rfl rfl (vp_in_nI (by omega) (by decide)) (congrArg _ (nI_clamp (by omega))) dX8_wordAt_87 ?_
      refine lv_icmp_ne (tgt := 95) hx hb dX8_wordAt_88 (by decide) (fun c_88 => ?_) (fun c_88 => ?_)
      ·
        refine lv_iconst (v := 0) hx hb dX8_wordAt_95 (by decide) ?_
        refine lv_istore (lv' := [(6, .int 0), (7, .int 0), (5, .int 3), (0, .ref (y 0)), (1, .int (nI a)), (2, .int (nI b)), (3, .int 4), (4, .int 21)]) hx hb dX8_wordAt_96 hl (by decide) rfl (fun ls hl => ?_)
        refine lv_iinc (v := 1) (lv' := [(7, .int 1), (6, .int 0), (5, .int 3), (0, .ref (y 0)), (1, .int (nI a)), (2, .int (nI b)), (3, .int 4), (4, .int 21)]) hx hb dX8_wordAt_98 hl (k := 1) rfl (by decide) (by decide) rfl (fun ls hl => ?_)
        refine lv_goto (tgt := 57) hx hb dX8_wordAt_101 (by decide) ?_
        refine lv_iload hx hb dX8_wordAt_57 (lv_at hl 0 rfl) ?_
        refine lv_iload hx hb dX8_wordAt_59 (lv_at hl 2 rfl) ?_
        refine lv_icmp_ge (tgt := 104) hx hb dX8_wordAt_61 (by decide) (fun h => absurd h (by decide)) (fun _ => ?_)
        refine lv_iload hx hb dX8_wordAt_64 (lv_at hl 1 rfl) ?_
        refine lv_if_eq (tgt := 104) hx hb dX8_wordAt_66 (by decide) (fun _ => ?_) (fun h => absurd (by decide) h)
        refine lv_iload hx hb dX8_wordAt_104 (lv_at hl 1 rfl) ?_
        refine lv_if_eq (tgt := 111) hx hb dX8_wordAt_106 (by decide) (fun _ => ?_) (fun h => absurd (by decide) h)
        refine lv_iload hx hb dX8_wordAt_111 (lv_at hl 7 rfl) ?_
        refine lv_iload hx hb dX8_wordAt_113 (lv_at hl 2 rfl) ?_
        refine lv_iconst (v := 1) hx hb dX8_wordAt_115 (by decide) ?_
        refine sv_iadd (v := 4) hx hb dX8_wordAt_116 (by decide) ?_
        refine sv_iadd (v := 25) hx hb dX8_wordAt_117 (by decide) ?_
        refine lv_istore (lv' := [(4, .int 25), (7, .int 1), (6, .int 0), (5, .int 3), (0, .ref (y 0)), (1, .int (nI a)), (2, .int (nI b)), (3, .int 4)]) hx hb dX8_wordAt_118 hl (by decide) rfl (fun ls hl => ?_)
        refine lv_iinc (v := 5) (lv' := [(3, .int 5), (4, .int 25), (7, .int 1), (6, .int 0), (5, .int 3), (0, .ref (y 0)), (1, .int (nI a)), (2, .int (nI b))]) hx hb dX8_wordAt_120 hl (k := 7) rfl (by decide) (by decide) rfl (fun ls hl => ?_)
        refine lv_goto (tgt := 5) hx hb dX8_wordAt_123 (by decide) ?_
        exact J_5_25 (wn_s hN (fun h => c_88 (h.2 0 (by decide)).symm)) ls (lv_sub hl [5, 6, 7, 0, 1] rfl)
      ·
        have he_0 := c_88
        refine lv_iconst (v := 1) hx hb dX8_wordAt_91 (by decide) ?_
        refine lv_goto (tgt := 96) hx hb dX8_wordAt_92 (by decide) ?_
        refine lv_istore (lv' := [(6, .int 1), (7, .int 0), (5, .int 3), (0, .ref (y 0)), (1, .int (nI a)), (2, .int (nI b)), (3, .int 4), (4, .int 21)]) hx hb dX8_wordAt_96 hl (by decide) rfl (fun ls hl => ?_)
        refine lv_iinc (v := 1) (lv' := [(7, .int 1), (6, .int 1), (5, .int 3), (0, .ref (y 0)), (1, .int (nI a)), (2, .int (nI b)), (3, .int 4), (4, .int 21)]) hx hb dX8_wordAt_98 hl (k := 1) rfl (by decide) (by decide) rfl (fun ls hl => ?_)
        refine lv_goto (tgt := 57) hx hb dX8_wordAt_101 (by decide) ?_
        refine lv_iload hx hb dX8_wordAt_57 (lv_at hl 0 rfl) ?_
        refine lv_iload hx hb dX8_wordAt_59 (lv_at hl 2 rfl) ?_
        refine lv_icmp_ge (tgt := 104) hx hb dX8_wordAt_61 (by decide) (fun h => absurd h (by decide)) (fun _ => ?_)
        refine lv_iload hx hb dX8_wordAt_64 (lv_at hl 1 rfl) ?_
        refine lv_if_eq (tgt := 104) hx hb dX8_wordAt_66 (by decide) (fun h => absurd h (by decide)) (fun _ => ?_)
        refine lv_aload_n hx hb dX8_wordAt_69 rfl (lv_at hl 3 rfl) ?_
        refine va_get (D := D) (ci := 8) (v := .ref (y 17)) (C := RX8) (T := TX8) (N := 52) hx hb hts w_1 hown hK hP 0 rfl rfl 34 (by decide) w_2 (fun _ h9 => h9) rfl dX8_wordAt_70 ?_
        refine lv_iload hx hb dX8_wordAt_73 (lv_at hl 7 rfl) ?_
        refine lv_iload hx hb dX8_wordAt_75 (lv_at hl 0 rfl) ?_
        refine sv_iadd (v := 22) hx hb dX8_wordAt_77 (by decide) ?_
        refine sv_iald (v := 103) hx hb hK hP 2 1 rfl rfl (vp_in_iff.mpr (by decide)) (hwf 22 (by decide)) dX8_wordAt_78 ?_
        refine lv_aload_n hx hb dX8_wordAt_79 rfl (lv_at hl 3 rfl) ?_
        refine va_get (D := D) (ci := 8) (v := .ref (y 1)) (C := RX8) (T := TX8) (N := 52) hx hb hts w_1 hown hK hP 0 rfl rfl 0 (by decide) w_3 (fun _ h9 => h9) rfl dX8_wordAt_80 ?_
        refine lv_iload_n hx hb dX8_wordAt_83 rfl (lv_at hl 4 rfl) ?_
        refine lv_iload hx hb dX8_wordAt_84 (lv_at hl 0 rfl) ?_
        refine sv_iadd (v := nI (a + 1)) hx hb dX8_wordAt_86 (ax_add a 1) ?_
        refine sv_iald (v := m_tape (a + 1)) hx hb hK hP 1 1 rfl rfl (vp_in_nI (by omega) (by decide)) (congrArg _ (nI_clamp (by omega))) dX8_wordAt_87 ?_
        refine lv_icmp_ne (tgt := 95) hx hb dX8_wordAt_88 (by decide) (fun c_88 => ?_) (fun c_88 => ?_)
        ·
          refine lv_iconst (v := 0) hx hb dX8_wordAt_95 (by decide) ?_
          refine lv_istore (lv' := [(6, .int 0), (7, .int 1), (5, .int 3), (0, .ref (y 0)), (1, .int (nI a)), (2, .int (nI b)), (3, .int 4), (4, .int 21)]) hx hb dX8_wordAt_96 hl (by decide) rfl (fun ls hl => ?_)
          refine lv_iinc (v := 2) (lv' := [(7, .int 2), (6, .int 0), (5, .int 3), (0, .ref (y 0)), (1, .int (nI a)), (2, .int (nI b)), (3, .int 4), (4, .int 21)]) hx hb dX8_wordAt_98 hl (k := 1) rfl (by decide) (by decide) rfl (fun ls hl => ?_)
          refine lv_goto (tgt := 57) hx hb dX8_wordAt_101 (by decide) ?_
          refine lv_iload hx hb dX8_wordAt_57 (lv_at hl 0 rfl) ?_
          refine lv_iload hx hb dX8_wordAt_59 (lv_at hl 2 rfl) ?_
          refine lv_icmp_ge (tgt := 104) hx hb dX8_wordAt_61 (by decide) (fun h => absurd h (by decide)) (fun _ => ?_)
          refine lv_iload hx hb dX8_wordAt_64 (lv_at hl 1 rfl) ?_
          refine lv_if_eq (tgt := 104) hx hb dX8_wordAt_66 (by decide) (fun _ => ?_) (fun h => absurd (by decide) h)
          refine lv_iload hx hb dX8_wordAt_104 (lv_at hl 1 rfl) ?_
          refine lv_if_eq (tgt := 111) hx hb dX8_wordAt_106 (by decide) (fun _ => ?_) (fun h => absurd (by decide) h)
          refine lv_iload hx hb dX8_wordAt_111 (lv_at hl 7 rfl) ?_
          refine lv_iload hx hb dX8_wordAt_113 (lv_at hl 2 rfl) ?_
          refine lv_iconst (v := 1) hx hb dX8_wordAt_115 (by decide) ?_
          refine sv_iadd (v := 4) hx hb dX8_wordAt_116 (by decide) ?_
          refine sv_iadd (v := 25) hx hb dX8_wordAt_117 (by decide) ?_
          refine lv_istore (lv' := [(4, .int 25), (7, .int 2), (6, .int 0), (5, .int 3), (0, .ref (y 0)), (1, .int (nI a)), (2, .int (nI b)), (3, .int 4)]) hx hb dX8_wordAt_118 hl (by decide) rfl (fun ls hl => ?_)
          refine lv_iinc (v := 5) (lv' := [(3, .int 5), (4, .int 25), (7, .int 2), (6, .int 0), (5, .int 3), (0, .ref (y 0)), (1, .int (nI a)), (2, .int (nI b))]) hx hb dX8_wordAt_120 hl (k := 7) rfl (by decide) (by decide) rfl (fun ls hl => ?_)
          refine lv_goto (tgt := 5) hx hb dX8_wordAt_123 (by decide) ?_
          exact J_5_25 (wn_s hN (fun h => c_88 (h.2 1 (by decide)).symm)) ls (lv_sub hl [5, 6, 7, 0, 1] rfl)
        ·
          have he_1 := c_88
          refine lv_iconst (v := 1) hx hb dX8_wordAt_91 (by decide) ?_
          refine lv_goto (tgt := 96) hx hb dX8_wordAt_92 (by decide) ?_
          refine lv_istore (lv' := [(6, .int 1), (7, .int 1), (5, .int 3), (0, .ref (y 0)), (1, .int (nI a)), (2, .int (nI b)), (3, .int 4), (4, .int 21)]) hx hb dX8_wordAt_96 hl (by decide) rfl (fun ls hl => ?_)
          refine lv_iinc (v := 2) (lv' := [(7, .int 2), (6, .int 1), (5, .int 3), (0, .ref (y 0)), (1, .int (nI a)), (2, .int (nI b)), (3, .int 4), (4, .int 21)]) hx hb dX8_wordAt_98 hl (k := 1) rfl (by decide) (by decide) rfl (fun ls hl => ?_)
          refine lv_goto (tgt := 57) hx hb dX8_wordAt_101 (by decide) ?_
          refine lv_iload hx hb dX8_wordAt_57 (lv_at hl 0 rfl) ?_
          refine lv_iload hx hb dX8_wordAt_59 (lv_at hl 2 rfl) ?_
          refine lv_icmp_ge (tgt := 104) hx hb dX8_wordAt_61 (by decide) (fun h => absurd h (by decide)) (fun _ => ?_)
          refine lv_iload hx hb dX8_wordAt_64 (lv_at hl 1 rfl) ?_
          refine lv_if_eq (tgt := 104) hx hb dX8_wordAt_66 (by decide) (fun h => absurd h (by decide)) (fun _ => ?_)
          refine lv_aload_n hx hb dX8_wordAt_69 rfl (lv_at hl 3 rfl) ?_
          refine va_get (D := D) (ci := 8) (v := .ref (y 17)) (C := RX8) (T := TX8) (N := 52) hx hb hts w_1 hown hK hP 0 rfl rfl 34 (by decide) w_2 (fun _ h9 => h9) rfl dX8_wordAt_70 ?_
          refine lv_iload hx hb dX8_wordAt_73 (lv_at hl 7 rfl) ?_
          refine lv_iload hx hb dX8_wordAt_75 (lv_at hl 0 rfl) ?_
          refine sv_iadd (v := 23) hx hb dX8_wordAt_77 (by decide) ?_
          refine sv_iald (v := 101) hx hb hK hP 2 1 rfl rfl (vp_in_iff.mpr (by decide)) (hwf 23 (by decide)) dX8_wordAt_78 ?_
          refine lv_aload_n hx hb dX8_wordAt_79 rfl (lv_at hl 3 rfl) ?_
          refine va_get (D := D) (ci := 8) (v := .ref (y 1)) (C := RX8) (T := TX8) (N := 52) hx hb hts w_1 hown hK hP 0 rfl rfl 0 (by decide) w_3 (fun _ h9 => h9) rfl dX8_wordAt_80 ?_
          refine lv_iload_n hx hb dX8_wordAt_83 rfl (lv_at hl 4 rfl) ?_
          refine lv_iload hx hb dX8_wordAt_84 (lv_at hl 0 rfl) ?_
          refine sv_iadd (v := nI (a + 2)) hx hb dX8_wordAt_86 (ax_add a 2) ?_
          refine sv_iald (v := m_tape (a + 2)) hx hb hK hP 1 1 rfl rfl (vp_in_nI (by omega) (by decide)) (congrArg _ (nI_clamp (by omega))) dX8_wordAt_87 ?_
          refine lv_icmp_ne (tgt := 95) hx hb dX8_wordAt_88 (by decide) (fun c_88 => ?_) (fun c_88 => ?_)
          ·
            refine lv_iconst (v := 0) hx hb dX8_wordAt_95 (by decide) ?_
            refine lv_istore (lv' := [(6, .int 0), (7, .int 2), (5, .int 3), (0, .ref (y 0)), (1, .int (nI a)), (2, .int (nI b)), (3, .int 4), (4, .int 21)]) hx hb dX8_wordAt_96 hl (by decide) rfl (fun ls hl => ?_)
            refine lv_iinc (v := 3) (lv' := [(7, .int 3), (6, .int 0), (5, .int 3), (0, .ref (y 0)), (1, .int (nI a)), (2, .int (nI b)), (3, .int 4), (4, .int 21)]) hx hb dX8_wordAt_98 hl (k := 1) rfl (by decide) (by decide) rfl (fun ls hl => ?_)
            refine lv_goto (tgt := 57) hx hb dX8_wordAt_101 (by decide) ?_
            refine lv_iload hx hb dX8_wordAt_57 (lv_at hl 0 rfl) ?_
            refine lv_iload hx hb dX8_wordAt_59 (lv_at hl 2 rfl) ?_
            refine lv_icmp_ge (tgt := 104) hx hb dX8_wordAt_61 (by decide) (fun _ => ?_) (fun h => absurd (by decide) h)
            refine lv_iload hx hb dX8_wordAt_104 (lv_at hl 1 rfl) ?_
            refine lv_if_eq (tgt := 111) hx hb dX8_wordAt_106 (by decide) (fun _ => ?_) (fun h => absurd (by decide) h)
            refine lv_iload hx hb dX8_wordAt_111 (lv_at hl 7 rfl) ?_
            refine lv_iload hx hb dX8_wordAt_113 (lv_at hl 2 rfl) ?_
            refine lv_iconst (v := 1) hx hb dX8_wordAt_115 (by decide) ?_
            refine sv_iadd (v := 4) hx hb dX8_wordAt_116 (by decide) ?_
            refine sv_iadd (v := 25) hx hb dX8_wordAt_117 (by decide) ?_
            refine lv_istore (lv' := [(4, .int 25), (7, .int 3), (6, .int 0), (5, .int 3), (0, .ref (y 0)), (1, .int (nI a)), (2, .int (nI b)), (3, .int 4)]) hx hb dX8_wordAt_118 hl (by decide) rfl (fun ls hl => ?_)
            refine lv_iinc (v := 5) (lv' := [(3, .int 5), (4, .int 25), (7, .int 3), (6, .int 0), (5, .int 3), (0, .ref (y 0)), (1, .int (nI a)), (2, .int (nI b))]) hx hb dX8_wordAt_120 hl (k := 7) rfl (by decide) (by decide) rfl (fun ls hl => ?_)
            refine lv_goto (tgt := 5) hx hb dX8_wordAt_123 (by decide) ?_
            exact J_5_25 (wn_s hN (fun h => c_88 (h.2 2 (by decide)).symm)) ls (lv_sub hl [5, 6, 7, 0, 1] rfl)
          ·
            have he_2 := c_88
            refine lv_iconst (v := 1) hx hb dX8_wordAt_91 (by decide) ?_
            refine lv_goto (tgt := 96) hx hb dX8_wordAt_92 (by decide) ?_
            refine lv_istore (lv' := [(6, .int 1), (7, .int 2), (5, .int 3), (0, .ref (y 0)), (1, .int (nI a)), (2, .int (nI b)), (3, .int 4), (4, .int 21)]) hx hb dX8_wordAt_96 hl (by decide) rfl (fun ls hl => ?_)
            refine lv_iinc (v := 3) (lv' := [(7, .int 3), (6, .int 1), (5, .int 3), (0, .ref (y 0)), (1, .int (nI a)), (2, .int (nI b)), (3, .int 4), (4, .int 21)]) hx hb dX8_wordAt_98 hl (k := 1) rfl (by decide) (by decide) rfl (fun ls hl => ?_)
            refine lv_goto (tgt := 57) hx hb dX8_wordAt_101 (by decide) ?_
            refine lv_iload hx hb dX8_wordAt_57 (lv_at hl 0 rfl) ?_
            refine lv_iload hx hb dX8_wordAt_59 (lv_at hl 2 rfl) ?_
            refine lv_icmp_ge (tgt := 104) hx hb dX8_wordAt_61 (by decide) (fun _ => ?_) (fun h => absurd (by decide) h)
            refine lv_iload hx hb dX8_wordAt_104 (lv_at hl 1 rfl) ?_
            refine lv_if_eq (tgt := 111) hx hb dX8_wordAt_106 (by decide) (fun h => absurd h (by decide)) (fun _ => ?_)
            refine lv_iload_n hx hb dX8_wordAt_109 rfl (lv_at hl 6 rfl) ?_
            rw [← hQ]
            exact W.iret (v := 4) hx hb hr (fun t ht hW => ⟨_, rfl, Or.inl (wa_y (w := 4) (by decide) ⟨hlen, fun j hj => by match j, hj with | 0, _ => exact he_0.symm | 1, _ => exact he_1.symm | 2, _ => exact he_2.symm | j + 3, hj => exact absurd hj (show ¬ j + 3 < 3 by omega)⟩ rfl), ht⟩) (fun q h => nomatch h) dX8_wordAt_110
  have J_3_15 : (∀ i, i < 3 → ¬ wdP m_tape a b i) → ∀ (ls : Array Slot), lv_has ls 8 [(0, .ref (y 0)), (1, .int (nI a)), (2, .int (nI b)), (3, .int 3), (4, .int 15)] → W p l e (headSpec wsX8_wordAt ({ frames := 0, cells := 0, slots := 0, locals := 0 } : Room)).room s m ([.ref (y 0), .int (nI a), .int (nI b)] : List Value).toArray below meth c s.heap [] 0 0 Q0 (F0 m 5 ls []) := by
    intro hN ls hl
    refine lv_iload hx hb dX8_wordAt_5 (lv_at hl 4 rfl) ?_
    refine lv_aload_n hx hb dX8_wordAt_7 rfl (lv_at hl 0 rfl) ?_
    refine va_get (D := D) (ci := 8) (v := .ref (y 17)) (C := RX8) (T := TX8) (N := 52) hx hb hts w_1 hown hK hP 0 rfl rfl 34 (by decide) w_2 (fun _ h9 => h9) rfl dX8_wordAt_8 ?_
    refine va_alen (v := 43) hx hb hK hP 2 1 rfl rfl rfl dX8_wordAt_11 ?_
    refine lv_icmp_ge (tgt := 126) hx hb dX8_wordAt_12 (by decide) (fun h => absurd h (by decide)) (fun _ => ?_)
    refine lv_iconst (v := 0) hx hb dX8_wordAt_15 (by decide) ?_
    refine lv_istore (lv' := [(5, .int 0), (0, .ref (y 0)), (1, .int (nI a)), (2, .int (nI b)), (3, .int 3), (4, .int 15)]) hx hb dX8_wordAt_16 hl (by decide) rfl (fun ls hl => ?_)
    refine lv_aload_n hx hb dX8_wordAt_18 rfl (lv_at hl 1 rfl) ?_
    refine va_get (D := D) (ci := 8) (v := .ref (y 17)) (C := RX8) (T := TX8) (N := 52) hx hb hts w_1 hown hK hP 0 rfl rfl 34 (by decide) w_2 (fun _ h9 => h9) rfl dX8_wordAt_19 ?_
    refine lv_iload hx hb dX8_wordAt_22 (lv_at hl 5 rfl) ?_
    refine lv_iload hx hb dX8_wordAt_24 (lv_at hl 0 rfl) ?_
    refine sv_iadd (v := 15) hx hb dX8_wordAt_26 (by decide) ?_
    refine sv_iald (v := 99) hx hb hK hP 2 1 rfl rfl (vp_in_iff.mpr (by decide)) (hwf 15 (by decide)) dX8_wordAt_27 ?_
    refine lv_bipush (v := 32) hx hb dX8_wordAt_28 (by decide) ?_
    refine lv_icmp_eq (tgt := 39) hx hb dX8_wordAt_30 (by decide) (fun h => absurd h (by decide)) (fun _ => ?_)
    refine lv_iinc (v := 1) (lv' := [(5, .int 1), (0, .ref (y 0)), (1, .int (nI a)), (2, .int (nI b)), (3, .int 3), (4, .int 15)]) hx hb dX8_wordAt_33 hl (k := 0) rfl (by decide) (by decide) rfl (fun ls hl => ?_)
    refine lv_goto (tgt := 18) hx hb dX8_wordAt_36 (by decide) ?_
    refine lv_aload_n hx hb dX8_wordAt_18 rfl (lv_at hl 1 rfl) ?_
    refine va_get (D := D) (ci := 8) (v := .ref (y 17)) (C := RX8) (T := TX8) (N := 52) hx hb hts w_1 hown hK hP 0 rfl rfl 34 (by decide) w_2 (fun _ h9 => h9) rfl dX8_wordAt_19 ?_
    refine lv_iload hx hb dX8_wordAt_22 (lv_at hl 5 rfl) ?_
    refine lv_iload hx hb dX8_wordAt_24 (lv_at hl 0 rfl) ?_
    refine sv_iadd (v := 16) hx hb dX8_wordAt_26 (by decide) ?_
    refine sv_iald (v := 121) hx hb hK hP 2 1 rfl rfl (vp_in_iff.mpr (by decide)) (hwf 16 (by decide)) dX8_wordAt_27 ?_
    refine lv_bipush (v := 32) hx hb dX8_wordAt_28 (by decide) ?_
    refine lv_icmp_eq (tgt := 39) hx hb dX8_wordAt_30 (by decide) (fun h => absurd h (by decide)) (fun _ => ?_)
    refine lv_iinc (v := 2) (lv' := [(5, .int 2), (0, .ref (y 0)), (1, .int (nI a)), (2, .int (nI b)), (3, .int 3), (4, .int 15)]) hx hb dX8_wordAt_33 hl (k := 0) rfl (by decide) (by decide) rfl (fun ls hl => ?_)
    refine lv_goto (tgt := 18) hx hb dX8_wordAt_36 (by decide) ?_
    refine lv_aload_n hx hb dX8_wordAt_18 rfl (lv_at hl 1 rfl) ?_
    refine va_get (D := D) (ci := 8) (v := .ref (y 17)) (C := RX8) (T := TX8) (N := 52) hx hb hts w_1 hown hK hP 0 rfl rfl 34 (by decide) w_2 (fun _ h9 => h9) rfl dX8_wordAt_19 ?_
    refine lv_iload hx hb dX8_wordAt_22 (lv_at hl 5 rfl) ?_
    refine lv_iload hx hb dX8_wordAt_24 (lv_at hl 0 rfl) ?_
    refine sv_iadd (v := 17) hx hb dX8_wordAt_26 (by decide) ?_
    refine sv_iald (v := 99) hx hb hK hP 2 1 rfl rfl (vp_in_iff.mpr (by decide)) (hwf 17 (by decide)) dX8_wordAt_27 ?_
    refine lv_bipush (v := 32) hx hb dX8_wordAt_28 (by decide) ?_
    refine lv_icmp_eq (tgt := 39) hx hb dX8_wordAt_30 (by decide) (fun h => absurd h (by decide)) (fun _ => ?_)
    refine lv_iinc (v := 3) (lv' := [(5, .int 3), (0, .ref (y 0)), (1, .int (nI a)), (2, .int (nI b)), (3, .int 3), (4, .int 15)]) hx hb dX8_wordAt_33 hl (k := 0) rfl (by decide) (by decide) rfl (fun ls hl => ?_)
    refine lv_goto (tgt := 18) hx hb dX8_wordAt_36 (by decide) ?_
    refine lv_aload_n hx hb dX8_wordAt_18 rfl (lv_at hl 1 rfl) ?_
    refine va_get (D := D) (ci := 8) (v := .ref (y 17)) (C := RX8) (T := TX8) (N := 52) hx hb hts w_1 hown hK hP 0 rfl rfl 34 (by decide) w_2 (fun _ h9 => h9) rfl dX8_wordAt_19 ?_
    refine lv_iload hx hb dX8_wordAt_22 (lv_at hl 5 rfl) ?_
    refine lv_iload hx hb dX8_wordAt_24 (lv_at hl 0 rfl) ?_
    refine sv_iadd (v := 18) hx hb dX8_wordAt_26 (by decide) ?_
    refine sv_iald (v := 108) hx hb hK hP 2 1 rfl rfl (vp_in_iff.mpr (by decide)) (hwf 18 (by decide)) dX8_wordAt_27 ?_
    refine lv_bipush (v := 32) hx hb dX8_wordAt_28 (by decide) ?_
    refine lv_icmp_eq (tgt := 39) hx hb dX8_wordAt_30 (by decide) (fun h => absurd h (by decide)) (fun _ => ?_)
    refine lv_iinc (v := 4) (lv' := [(5, .int 4), (0, .ref (y 0)), (1, .int (nI a)), (2, .int (nI b)), (3, .int 3), (4, .int 15)]) hx hb dX8_wordAt_33 hl (k := 0) rfl (by decide) (by decide) rfl (fun ls hl => ?_)
    refine lv_goto (tgt := 18) hx hb dX8_wordAt_36 (by decide) ?_
    refine lv_aload_n hx hb dX8_wordAt_18 rfl (lv_at hl 1 rfl) ?_
    refine va_get (D := D) (ci := 8) (v := .ref (y 17)) (C := RX8) (T := TX8) (N := 52) hx hb hts w_1 hown hK hP 0 rfl rfl 34 (by decide) w_2 (fun _ h9 => h9) rfl dX8_wordAt_19 ?_
    refine lv_iload hx hb dX8_wordAt_22 (lv_at hl 5 rfl) ?_
    refine lv_iload hx hb dX8_wordAt_24 (lv_at hl 0 rfl) ?_
    refine sv_iadd (v := 19) hx hb dX8_wordAt_26 (by decide) ?_
    refine sv_iald (v := 101) hx hb hK hP 2 1 rfl rfl (vp_in_iff.mpr (by decide)) (hwf 19 (by decide)) dX8_wordAt_27 ?_
    refine lv_bipush (v := 32) hx hb dX8_wordAt_28 (by decide) ?_
    refine lv_icmp_eq (tgt := 39) hx hb dX8_wordAt_30 (by decide) (fun h => absurd h (by decide)) (fun _ => ?_)
    refine lv_iinc (v := 5) (lv' := [(5, .int 5), (0, .ref (y 0)), (1, .int (nI a)), (2, .int (nI b)), (3, .int 3), (4, .int 15)]) hx hb dX8_wordAt_33 hl (k := 0) rfl (by decide) (by decide) rfl (fun ls hl => ?_)
    refine lv_goto (tgt := 18) hx hb dX8_wordAt_36 (by decide) ?_
    refine lv_aload_n hx hb dX8_wordAt_18 rfl (lv_at hl 1 rfl) ?_
    refine va_get (D := D) (ci := 8) (v := .ref (y 17)) (C := RX8) (T := TX8) (N := 52) hx hb hts w_1 hown hK hP 0 rfl rfl 34 (by decide) w_2 (fun _ h9 => h9) rfl dX8_wordAt_19 ?_
    refine lv_iload hx hb dX8_wordAt_22 (lv_at hl 5 rfl) ?_
    refine lv_iload hx hb dX8_wordAt_24 (lv_at hl 0 rfl) ?_
    refine sv_iadd (v := 20) hx hb dX8_wordAt_26 (by decide) ?_
    refine sv_iald (v := 32) hx hb hK hP 2 1 rfl rfl (vp_in_iff.mpr (by decide)) (hwf 20 (by decide)) dX8_wordAt_27 ?_
    refine lv_bipush (v := 32) hx hb dX8_wordAt_28 (by decide) ?_
    refine lv_icmp_eq (tgt := 39) hx hb dX8_wordAt_30 (by decide) (fun _ => ?_) (fun h => absurd (by decide) h)
    refine lv_iload hx hb dX8_wordAt_39 (lv_at hl 0 rfl) ?_
    refine lv_iload_n hx hb dX8_wordAt_41 rfl (lv_at hl 3 rfl) ?_
    refine lv_iload_n hx hb dX8_wordAt_42 rfl (lv_at hl 2 rfl) ?_
    refine sv_isub (v := nI (b - a)) hx hb dX8_wordAt_43 (nI_subN hab) ?_
    refine lv_icmp_ne (tgt := 51) hx hb dX8_wordAt_44 (by decide) (fun c_44 => ?_) (fun c_44 => ?_)
    ·
      refine lv_iconst (v := 0) hx hb dX8_wordAt_51 (by decide) ?_
      refine lv_istore (lv' := [(6, .int 0), (5, .int 5), (0, .ref (y 0)), (1, .int (nI a)), (2, .int (nI b)), (3, .int 3), (4, .int 15)]) hx hb dX8_wordAt_52 hl (by decide) rfl (fun ls hl => ?_)
      refine lv_iconst (v := 0) hx hb dX8_wordAt_54 (by decide) ?_
      refine lv_istore (lv' := [(7, .int 0), (6, .int 0), (5, .int 5), (0, .ref (y 0)), (1, .int (nI a)), (2, .int (nI b)), (3, .int 3), (4, .int 15)]) hx hb dX8_wordAt_55 hl (by decide) rfl (fun ls hl => ?_)
      refine lv_iload hx hb dX8_wordAt_57 (lv_at hl 0 rfl) ?_
      refine lv_iload hx hb dX8_wordAt_59 (lv_at hl 2 rfl) ?_
      refine lv_icmp_ge (tgt := 104) hx hb dX8_wordAt_61 (by decide) (fun h => absurd h (by decide)) (fun _ => ?_)
      refine lv_iload hx hb dX8_wordAt_64 (lv_at hl 1 rfl) ?_
      refine lv_if_eq (tgt := 104) hx hb dX8_wordAt_66 (by decide) (fun _ => ?_) (fun h => absurd (by decide) h)
      refine lv_iload hx hb dX8_wordAt_104 (lv_at hl 1 rfl) ?_
      refine lv_if_eq (tgt := 111) hx hb dX8_wordAt_106 (by decide) (fun _ => ?_) (fun h => absurd (by decide) h)
      refine lv_iload hx hb dX8_wordAt_111 (lv_at hl 7 rfl) ?_
      refine lv_iload hx hb dX8_wordAt_113 (lv_at hl 2 rfl) ?_
      refine lv_iconst (v := 1) hx hb dX8_wordAt_115 (by decide) ?_
      refine sv_iadd (v := 6) hx hb dX8_wordAt_116 (by decide) ?_
      refine sv_iadd (v := 21) hx hb dX8_wordAt_117 (by decide) ?_
      refine lv_istore (lv' := [(4, .int 21), (7, .int 0), (6, .int 0), (5, .int 5), (0, .ref (y 0)), (1, .int (nI a)), (2, .int (nI b)), (3, .int 3)]) hx hb dX8_wordAt_118 hl (by decide) rfl (fun ls hl => ?_)
      refine lv_iinc (v := 4) (lv' := [(3, .int 4), (4, .int 21), (7, .int 0), (6, .int 0), (5, .int 5), (0, .ref (y 0)), (1, .int (nI a)), (2, .int (nI b))]) hx hb dX8_wordAt_120 hl (k := 7) rfl (by decide) (by decide) rfl (fun ls hl => ?_)
      refine lv_goto (tgt := 5) hx hb dX8_wordAt_123 (by decide) ?_
      exact J_4_21 (wn_s hN (fun h => c_44 (by rw [show b - a = 5 by have h9 : b = a + 5 := h.1; omega]; rfl))) ls (lv_sub hl [5, 6, 7, 0, 1] rfl)
    ·
      have hlen : b = a + 5 := by have h9 := (nI_eq (a := 5) (by decide) (by omega)).mp c_44; omega
      refine lv_iconst (v := 1) hx hb dX8_wordAt_47 (by decide) ?_
      refine lv_goto (tgt := 52) hx hb dX8_wordAt_48 (by decide) ?_
      refine lv_istore (lv' := [(6, .int 1), (5, .int 5), (0, .ref (y 0)), (1, .int (nI a)), (2, .int (nI b)), (3, .int 3), (4, .int 15)]) hx hb dX8_wordAt_52 hl (by decide) rfl (fun ls hl => ?_)
      refine lv_iconst (v := 0) hx hb dX8_wordAt_54 (by decide) ?_
      refine lv_istore (lv' := [(7, .int 0), (6, .int 1), (5, .int 5), (0, .ref (y 0)), (1, .int (nI a)), (2, .int (nI b)), (3, .int 3), (4, .int 15)]) hx hb dX8_wordAt_55 hl (by decide) rfl (fun ls hl => ?_)
      refine lv_iload hx hb dX8_wordAt_57 (lv_at hl 0 rfl) ?_
      refine lv_iload hx hb dX8_wordAt_59 (lv_at hl 2 rfl) ?_
      refine lv_icmp_ge (tgt := 104) hx hb dX8_wordAt_61 (by decide) (fun h => absurd h (by decide)) (fun _ => ?_)
      refine lv_iload hx hb dX8_wordAt_64 (lv_at hl 1 rfl) ?_
      refine lv_if_eq (tgt := 104) hx hb dX8_wordAt_66 (by decide) (fun h => absurd h (by decide)) (fun _ => ?_)
      refine lv_aload_n hx hb dX8_wordAt_69 rfl (lv_at hl 3 rfl) ?_
      refine va_get (D := D) (ci := 8) (v := .ref (y 17)) (C := RX8) (T := TX8) (N := 52) hx hb hts w_1 hown hK hP 0 rfl rfl 34 (by decide) w_2 (fun _ h9 => h9) rfl dX8_wordAt_70 ?_
      refine lv_iload hx hb dX8_wordAt_73 (lv_at hl 7 rfl) ?_
      refine lv_iload hx hb dX8_wordAt_75 (lv_at hl 0 rfl) ?_
      refine sv_iadd (v := 15) hx hb dX8_wordAt_77 (by decide) ?_
      refine sv_iald (v := 99) hx hb hK hP 2 1 rfl rfl (vp_in_iff.mpr (by decide)) (hwf 15 (by decide)) dX8_wordAt_78 ?_
      refine lv_aload_n hx hb dX8_wordAt_79 rfl (lv_at hl 3 rfl) ?_
      refine va_get (D := D) (ci := 8) (v := .ref (y 1)) (C := RX8) (T := TX8) (N := 52) hx hb hts w_1 hown hK hP 0 rfl rfl 0 (by decide) w_3 (fun _ h9 => h9) rfl dX8_wordAt_80 ?_
      refine lv_iload_n hx hb dX8_wordAt_83 rfl (lv_at hl 4 rfl) ?_
      refine lv_iload hx hb dX8_wordAt_84 (lv_at hl 0 rfl) ?_
      refine sv_iadd (v := nI (a + 0)) hx hb dX8_wordAt_86 (ax_add a 0) ?_
      refine sv_iald (v := m_tape (a + 0)) hx hb hK hP 1 1 rfl rfl (vp_in_nI (by omega) (by decide)) (congrArg _ (nI_clamp (by omega))) dX8_wordAt_87 ?_
      refine lv_icmp_ne (tgt := 95) hx hb dX8_wordAt_88 (by decide) (fun c_88 => ?_) (fun c_88 => ?_)
      ·
        refine lv_iconst (v := 0) hx hb dX8_wordAt_95 (by decide) ?_
        refine lv_istore (lv' := [(6, .int 0), (7, .int 0), (5, .int 5), (0, .ref (y 0)), (1, .int (nI a)), (2, .int (nI b)), (3, .int 3), (4, .int 15)]) hx hb dX8_wordAt_96 hl (by decide) rfl (fun ls hl => ?_)
        refine lv_iinc (v := 1) (lv' := [(7, .int 1), (6, .int 0), (5, .int 5), (0, .ref (y 0)), (1, .int (nI a)), (2, .int (nI b)), (3, .int 3), (4, .int 15)]) hx hb dX8_wordAt_98 hl (k := 1) rfl (by decide) (by decide) rfl (fun ls hl => ?_)
        refine lv_goto (tgt := 57) hx hb dX8_wordAt_101 (by decide) ?_
        refine lv_iload hx hb dX8_wordAt_57 (lv_at hl 0 rfl) ?_
        refine lv_iload hx hb dX8_wordAt_59 (lv_at hl 2 rfl) ?_
        refine lv_icmp_ge (tgt := 104) hx hb dX8_wordAt_61 (by decide) (fun h => absurd h (by decide)) (fun _ => ?_)
        refine lv_iload hx hb dX8_wordAt_64 (lv_at hl 1 rfl) ?_
        refine lv_if_eq (tgt := 104) hx hb dX8_wordAt_66 (by decide) (fun _ => ?_) (fun h => absurd (by decide) h)
        refine lv_iload hx hb dX8_wordAt_104 (lv_at hl 1 rfl) ?_
        refine lv_if_eq (tgt := 111) hx hb dX8_wordAt_106 (by decide) (fun _ => ?_) (fun h => absurd (by decide) h)
        refine lv_iload hx hb dX8_wordAt_111 (lv_at hl 7 rfl) ?_
        refine lv_iload hx hb dX8_wordAt_113 (lv_at hl 2 rfl) ?_
        refine lv_iconst (v := 1) hx hb dX8_wordAt_115 (by decide) ?_
        refine sv_iadd (v := 6) hx hb dX8_wordAt_116 (by decide) ?_
        refine sv_iadd (v := 21) hx hb dX8_wordAt_117 (by decide) ?_
        refine lv_istore (lv' := [(4, .int 21), (7, .int 1), (6, .int 0), (5, .int 5), (0, .ref (y 0)), (1, .int (nI a)), (2, .int (nI b)), (3, .int 3)]) hx hb dX8_wordAt_118 hl (by decide) rfl (fun ls hl => ?_)
        refine lv_iinc (v := 4) (lv' := [(3, .int 4), (4, .int 21), (7, .int 1), (6, .int 0), (5, .int 5), (0, .ref (y 0)), (1, .int (nI a)), (2, .int (nI b))]) hx hb dX8_wordAt_120 hl (k := 7) rfl (by decide) (by decide) rfl (fun ls hl => ?_)
        refine lv_goto (tgt := 5) hx hb dX8_wordAt_123 (by decide) ?_
        exact J_4_21 (wn_s hN (fun h => c_88 (h.2 0 (by decide)).symm)) ls (lv_sub hl [5, 6, 7, 0, 1] rfl)
      ·
        have he_0 := c_88
        refine lv_iconst (v := 1) hx hb dX8_wordAt_91 (by decide) ?_
        refine lv_goto (tgt := 96) hx hb dX8_wordAt_92 (by decide) ?_
        refine lv_istore (lv' := [(6, .int 1), (7, .int 0), (5, .int 5), (0, .ref (y 0)), (1, .int (nI a)), (2, .int (nI b)), (3, .int 3), (4, .int 15)]) hx hb dX8_wordAt_96 hl (by decide) rfl (fun ls hl => ?_)
        refine lv_iinc (v := 1) (lv' := [(7, .int 1), (6, .int 1), (5, .int 5), (0, .ref (y 0)), (1, .int (nI a)), (2, .int (nI b)), (3, .int 3), (4, .int 15)]) hx hb dX8_wordAt_98 hl (k := 1) rfl (by decide) (by decide) rfl (fun ls hl => ?_)
        refine lv_goto (tgt := 57) hx hb dX8_wordAt_101 (by decide) ?_
        refine lv_iload hx hb dX8_wordAt_57 (lv_at hl 0 rfl) ?_
        refine lv_iload hx hb dX8_wordAt_59 (lv_at hl 2 rfl) ?_
        refine lv_icmp_ge (tgt := 104) hx hb dX8_wordAt_61 (by decide) (fun h => absurd h (by decide)) (fun _ => ?_)
        refine lv_iload hx hb dX8_wordAt_64 (lv_at hl 1 rfl) ?_
        refine lv_if_eq (tgt := 104) hx hb dX8_wordAt_66 (by decide) (fun h => absurd h (by decide)) (fun _ => ?_)
        refine lv_aload_n hx hb dX8_wordAt_69 rfl (lv_at hl 3 rfl) ?_
        refine va_get (D := D) (ci := 8) (v := .ref (y 17)) (C := RX8) (T := TX8) (N := 52) hx hb hts w_1 hown hK hP 0 rfl rfl 34 (by decide) w_2 (fun _ h9 => h9) rfl dX8_wordAt_70 ?_
        refine lv_iload hx hb dX8_wordAt_73 (lv_at hl 7 rfl) ?_
        refine lv_iload hx hb dX8_wordAt_75 (lv_at hl 0 rfl) ?_
        refine sv_iadd (v := 16) hx hb dX8_wordAt_77 (by decide) ?_
        refine sv_iald (v := 121) hx hb hK hP 2 1 rfl rfl (vp_in_iff.mpr (by decide)) (hwf 16 (by decide)) dX8_wordAt_78 ?_
        refine lv_aload_n hx hb dX8_wordAt_79 rfl (lv_at hl 3 rfl) ?_
        refine va_get (D := D) (ci := 8) (v := .ref (y 1)) (C := RX8) (T := TX8) (N := 52) hx hb hts w_1 hown hK hP 0 rfl rfl 0 (by decide) w_3 (fun _ h9 => h9) rfl dX8_wordAt_80 ?_
        refine lv_iload_n hx hb dX8_wordAt_83 rfl (lv_at hl 4 rfl) ?_
        refine lv_iload hx hb dX8_wordAt_84 (lv_at hl 0 rfl) ?_
        refine sv_iadd (v := nI (a + 1)) hx hb dX8_wordAt_86 (ax_add a 1) ?_
        refine sv_iald (v := m_tape (a + 1)) hx hb hK hP 1 1 rfl rfl (vp_in_nI (by omega) (by decide)) (congrArg _ (nI_clamp (by omega))) dX8_wordAt_87 ?_
        refine lv_icmp_ne (tgt := 95) hx hb dX8_wordAt_88 (by decide) (fun c_88 => ?_) (fun c_88 => ?_)
        ·
          refine lv_iconst (v := 0) hx hb dX8_wordAt_95 (by decide) ?_
          refine lv_istore (lv' := [(6, .int 0), (7, .int 1), (5, .int 5), (0, .ref (y 0)), (1, .int (nI a)), (2, .int (nI b)), (3, .int 3), (4, .int 15)]) hx hb dX8_wordAt_96 hl (by decide) rfl (fun ls hl => ?_)
          refine lv_iinc (v := 2) (lv' := [(7, .int 2), (6, .int 0), (5, .int 5), (0, .ref (y 0)), (1, .int (nI a)), (2, .int (nI b)), (3, .int 3), (4, .int 15)]) hx hb dX8_wordAt_98 hl (k := 1) rfl (by decide) (by decide) rfl (fun ls hl => ?_)
          refine lv_goto (tgt := 57) hx hb dX8_wordAt_101 (by decide) ?_
          refine lv_iload hx hb dX8_wordAt_57 (lv_at hl 0 rfl) ?_
          refine lv_iload hx hb dX8_wordAt_59 (lv_at hl 2 rfl) ?_
          refine lv_icmp_ge (tgt := 104) hx hb dX8_wordAt_61 (by decide) (fun h => absurd h (by decide)) (fun _ => ?_)
          refine lv_iload hx hb dX8_wordAt_64 (lv_at hl 1 rfl) ?_
          refine lv_if_eq (tgt := 104) hx hb dX8_wordAt_66 (by decide) (fun _ => ?_) (fun h => absurd (by decide) h)
          refine lv_iload hx hb dX8_wordAt_104 (lv_at hl 1 rfl) ?_
          refine lv_if_eq (tgt := 111) hx hb dX8_wordAt_106 (by decide) (fun _ => ?_) (fun h => absurd (by decide) h)
          refine lv_iload hx hb dX8_wordAt_111 (lv_at hl 7 rfl) ?_
          refine lv_iload hx hb dX8_wordAt_113 (lv_at hl 2 rfl) ?_
          refine lv_iconst (v := 1) hx hb dX8_wordAt_115 (by decide) ?_
          refine sv_iadd (v := 6) hx hb dX8_wordAt_116 (by decide) ?_
          refine sv_iadd (v := 21) hx hb dX8_wordAt_117 (by decide) ?_
          refine lv_istore (lv' := [(4, .int 21), (7, .int 2), (6, .int 0), (5, .int 5), (0, .ref (y 0)), (1, .int (nI a)), (2, .int (nI b)), (3, .int 3)]) hx hb dX8_wordAt_118 hl (by decide) rfl (fun ls hl => ?_)
          refine lv_iinc (v := 4) (lv' := [(3, .int 4), (4, .int 21), (7, .int 2), (6, .int 0), (5, .int 5), (0, .ref (y 0)), (1, .int (nI a)), (2, .int (nI b))]) hx hb dX8_wordAt_120 hl (k := 7) rfl (by decide) (by decide) rfl (fun ls hl => ?_)
          refine lv_goto (tgt := 5) hx hb dX8_wordAt_123 (by decide) ?_
          exact J_4_21 (wn_s hN (fun h => c_88 (h.2 1 (by decide)).symm)) ls (lv_sub hl [5, 6, 7, 0, 1] rfl)
        ·
          have he_1 := c_88
          refine lv_iconst (v := 1) hx hb dX8_wordAt_91 (by decide) ?_
          refine lv_goto (tgt := 96) hx hb dX8_wordAt_92 (by decide) ?_
          refine lv_istore (lv' := [(6, .int 1), (7, .int 1), (5, .int 5), (0, .ref (y 0)), (1, .int (nI a)), (2, .int (nI b)), (3, .int 3), (4, .int 15)]) hx hb dX8_wordAt_96 hl (by decide) rfl (fun ls hl => ?_)
          refine lv_iinc (v := 2) (lv' := [(7, .int 2), (6, .int 1), (5, .int 5), (0, .ref (y 0)), (1, .int (nI a)), (2, .int (nI b)), (3, .int 3), (4, .int 15)]) hx hb dX8_wordAt_98 hl (k := 1) rfl (by decide) (by decide) rfl (fun ls hl => ?_)
          refine lv_goto (tgt := 57) hx hb dX8_wordAt_101 (by decide) ?_
          refine lv_iload hx hb dX8_wordAt_57 (lv_at hl 0 rfl) ?_
          refine lv_iload hx hb dX8_wordAt_59 (lv_at hl 2 rfl) ?_
          refine lv_icmp_ge (tgt := 104) hx hb dX8_wordAt_61 (by decide) (fun h => absurd h (by decide)) (fun _ => ?_)
          refine lv_iload hx hb dX8_wordAt_64 (lv_at hl 1 rfl) ?_
          refine lv_if_eq (tgt := 104) hx hb dX8_wordAt_66 (by decide) (fun h => absurd h (by decide)) (fun _ => ?_)
          refine lv_aload_n hx hb dX8_wordAt_69 rfl (lv_at hl 3 rfl) ?_
          refine va_get (D := D) (ci := 8) (v := .ref (y 17)) (C := RX8) (T := TX8) (N := 52) hx hb hts w_1 hown hK hP 0 rfl rfl 34 (by decide) w_2 (fun _ h9 => h9) rfl dX8_wordAt_70 ?_
          refine lv_iload hx hb dX8_wordAt_73 (lv_at hl 7 rfl) ?_
          refine lv_iload hx hb dX8_wordAt_75 (lv_at hl 0 rfl) ?_
          refine sv_iadd (v := 17) hx hb dX8_wordAt_77 (by decide) ?_
          refine sv_iald (v := 99) hx hb hK hP 2 1 rfl rfl (vp_in_iff.mpr (by decide)) (hwf 17 (by decide)) dX8_wordAt_78 ?_
          refine lv_aload_n hx hb dX8_wordAt_79 rfl (lv_at hl 3 rfl) ?_
          refine va_get (D := D) (ci := 8) (v := .ref (y 1)) (C := RX8) (T := TX8) (N := 52) hx hb hts w_1 hown hK hP 0 rfl rfl 0 (by decide) w_3 (fun _ h9 => h9) rfl dX8_wordAt_80 ?_
          refine lv_iload_n hx hb dX8_wordAt_83 rfl (lv_at hl 4 rfl) ?_
          refine lv_iload hx hb dX8_wordAt_84 (lv_at hl 0 rfl) ?_
          refine sv_iadd (v := nI (a + 2)) hx hb dX8_wordAt_86 (ax_add a 2) ?_
          refine sv_iald (v := m_tape (a + 2)) hx hb hK hP 1 1 rfl rfl (vp_in_nI (by omega) (by decide)) (congrArg _ (nI_clamp (by omega))) dX8_wordAt_87 ?_
          refine lv_icmp_ne (tgt := 95) hx hb dX8_wordAt_88 (by decide) (fun c_88 => ?_) (fun c_88 => ?_)
          ·
            refine lv_iconst (v := 0) hx hb dX8_wordAt_95 (by decide) ?_
            refine lv_istore (lv' := [(6, .int 0), (7, .int 2), (5, .int 5), (0, .ref (y 0)), (1, .int (nI a)), (2, .int (nI b)), (3, .int 3), (4, .int 15)]) hx hb dX8_wordAt_96 hl (by decide) rfl (fun ls hl => ?_)
            refine lv_iinc (v := 3) (lv' := [(7, .int 3), (6, .int 0), (5, .int 5), (0, .ref (y 0)), (1, .int (nI a)), (2, .int (nI b)), (3, .int 3), (4, .int 15)]) hx hb dX8_wordAt_98 hl (k := 1) rfl (by decide) (by decide) rfl (fun ls hl => ?_)
            refine lv_goto (tgt := 57) hx hb dX8_wordAt_101 (by decide) ?_
            refine lv_iload hx hb dX8_wordAt_57 (lv_at hl 0 rfl) ?_
            refine lv_iload hx hb dX8_wordAt_59 (lv_at hl 2 rfl) ?_
            refine lv_icmp_ge (tgt := 104) hx hb dX8_wordAt_61 (by decide) (fun h => absurd h (by decide)) (fun _ => ?_)
            refine lv_iload hx hb dX8_wordAt_64 (lv_at hl 1 rfl) ?_
            refine lv_if_eq (tgt := 104) hx hb dX8_wordAt_66 (by decide) (fun _ => ?_) (fun h => absurd (by decide) h)
            refine lv_iload hx hb dX8_wordAt_104 (lv_at hl 1 rfl) ?_
            refine lv_if_eq (tgt := 111) hx hb dX8_wordAt_106 (by decide) (fun _ => ?_) (fun h => absurd (by decide) h)
            refine lv_iload hx hb dX8_wordAt_111 (lv_at hl 7 rfl) ?_
            refine lv_iload hx hb dX8_wordAt_113 (lv_at hl 2 rfl) ?_
            refine lv_iconst (v := 1) hx hb dX8_wordAt_115 (by decide) ?_
            refine sv_iadd (v := 6) hx hb dX8_wordAt_116 (by decide) ?_
            refine sv_iadd (v := 21) hx hb dX8_wordAt_117 (by decide) ?_
            refine lv_istore (lv' := [(4, .int 21), (7, .int 3), (6, .int 0), (5, .int 5), (0, .ref (y 0)), (1, .int (nI a)), (2, .int (nI b)), (3, .int 3)]) hx hb dX8_wordAt_118 hl (by decide) rfl (fun ls hl => ?_)
            refine lv_iinc (v := 4) (lv' := [(3, .int 4), (4, .int 21), (7, .int 3), (6, .int 0), (5, .int 5), (0, .ref (y 0)), (1, .int (nI a)), (2, .int (nI b))]) hx hb dX8_wordAt_120 hl (k := 7) rfl (by decide) (by decide) rfl (fun ls hl => ?_)
            refine lv_goto (tgt := 5) hx hb dX8_wordAt_123 (by decide) ?_
            exact J_4_21 (wn_s hN (fun h => c_88 (h.2 2 (by decide)).symm)) ls (lv_sub hl [5, 6, 7, 0, 1] rfl)
          ·
            have he_2 := c_88
            refine lv_iconst (v := 1) hx hb dX8_wordAt_91 (by decide) ?_
            refine lv_goto (tgt := 96) hx hb dX8_wordAt_92 (by decide) ?_
            refine lv_istore (lv' := [(6, .int 1), (7, .int 2), (5, .int 5), (0, .ref (y 0)), (1, .int (nI a)), (2, .int (nI b)), (3, .int 3), (4, .int 15)]) hx hb dX8_wordAt_96 hl (by decide) rfl (fun ls hl => ?_)
            refine lv_iinc (v := 3) (lv' := [(7, .int 3), (6, .int 1), (5, .int 5), (0, .ref (y 0)), (1, .int (nI a)), (2, .int (nI b)), (3, .int 3), (4, .int 15)]) hx hb dX8_wordAt_98 hl (k := 1) rfl (by decide) (by decide) rfl (fun ls hl => ?_)
            refine lv_goto (tgt := 57) hx hb dX8_wordAt_101 (by decide) ?_
            refine lv_iload hx hb dX8_wordAt_57 (lv_at hl 0 rfl) ?_
            refine lv_iload hx hb dX8_wordAt_59 (lv_at hl 2 rfl) ?_
            refine lv_icmp_ge (tgt := 104) hx hb dX8_wordAt_61 (by decide) (fun h => absurd h (by decide)) (fun _ => ?_)
            refine lv_iload hx hb dX8_wordAt_64 (lv_at hl 1 rfl) ?_
            refine lv_if_eq (tgt := 104) hx hb dX8_wordAt_66 (by decide) (fun h => absurd h (by decide)) (fun _ => ?_)
            refine lv_aload_n hx hb dX8_wordAt_69 rfl (lv_at hl 3 rfl) ?_
            refine va_get (D := D) (ci := 8) (v := .ref (y 17)) (C := RX8) (T := TX8) (N := 52) hx hb hts w_1 hown hK hP 0 rfl rfl 34 (by decide) w_2 (fun _ h9 => h9) rfl dX8_wordAt_70 ?_
            refine lv_iload hx hb dX8_wordAt_73 (lv_at hl 7 rfl) ?_
            refine lv_iload hx hb dX8_wordAt_75 (lv_at hl 0 rfl) ?_
            refine sv_iadd (v := 18) hx hb dX8_wordAt_77 (by decide) ?_
            refine sv_iald (v := 108) hx hb hK hP 2 1 rfl rfl (vp_in_iff.mpr (by decide)) (hwf 18 (by decide)) dX8_wordAt_78 ?_
            refine lv_aload_n hx hb dX8_wordAt_79 rfl (lv_at hl 3 rfl) ?_
            refine va_get (D := D) (ci := 8) (v := .ref (y 1)) (C := RX8) (T := TX8) (N := 52) hx hb hts w_1 hown hK hP 0 rfl rfl 0 (by decide) w_3 (fun _ h9 => h9) rfl dX8_wordAt_80 ?_
            refine lv_iload_n hx hb dX8_wordAt_83 rfl (lv_at hl 4 rfl) ?_
            refine lv_iload hx hb dX8_wordAt_84 (lv_at hl 0 rfl) ?_
            refine sv_iadd (v := nI (a + 3)) hx hb dX8_wordAt_86 (ax_add a 3) ?_
            refine sv_iald (v := m_tape (a + 3)) hx hb hK hP 1 1 rfl rfl (vp_in_nI (by omega) (by decide)) (congrArg _ (nI_clamp (by omega))) dX8_wordAt_87 ?_
            refine lv_icmp_ne (tgt := 95) hx hb dX8_wordAt_88 (by decide) (fun c_88 => ?_) (fun c_88 => ?_)
            ·
              refine lv_iconst (v := 0) hx hb dX8_wordAt_95 (by decide) ?_
              refine lv_istore (lv' := [(6, .int 0), (7, .int 3), (5, .int 5), (0, .ref (y 0)), (1, .int (nI a)), (2, .int (nI b)), (3, .int 3), (4, .int 15)]) hx hb dX8_wordAt_96 hl (by decide) rfl (fun ls hl => ?_)
              refine lv_iinc (v := 4) (lv' := [(7, .int 4), (6, .int 0), (5, .int 5), (0, .ref (y 0)), (1, .int (nI a)), (2, .int (nI b)), (3, .int 3), (4, .int 15)]) hx hb dX8_wordAt_98 hl (k := 1) rfl (by decide) (by decide) rfl (fun ls hl => ?_)
              refine lv_goto (tgt := 57) hx hb dX8_wordAt_101 (by decide) ?_
              refine lv_iload hx hb dX8_wordAt_57 (lv_at hl 0 rfl) ?_
              refine lv_iload hx hb dX8_wordAt_59 (lv_at hl 2 rfl) ?_
              refine lv_icmp_ge (tgt := 104) hx hb dX8_wordAt_61 (by decide) (fun h => absurd h (by decide)) (fun _ => ?_)
              refine lv_iload hx hb dX8_wordAt_64 (lv_at hl 1 rfl) ?_
              refine lv_if_eq (tgt := 104) hx hb dX8_wordAt_66 (by decide) (fun _ => ?_) (fun h => absurd (by decide) h)
              refine lv_iload hx hb dX8_wordAt_104 (lv_at hl 1 rfl) ?_
              refine lv_if_eq (tgt := 111) hx hb dX8_wordAt_106 (by decide) (fun _ => ?_) (fun h => absurd (by decide) h)
              refine lv_iload hx hb dX8_wordAt_111 (lv_at hl 7 rfl) ?_
              refine lv_iload hx hb dX8_wordAt_113 (lv_at hl 2 rfl) ?_
              refine lv_iconst (v := 1) hx hb dX8_wordAt_115 (by decide) ?_
              refine sv_iadd (v := 6) hx hb dX8_wordAt_116 (by decide) ?_
              refine sv_iadd (v := 21) hx hb dX8_wordAt_117 (by decide) ?_
              refine lv_istore (lv' := [(4, .int 21), (7, .int 4), (6, .int 0), (5, .int 5), (0, .ref (y 0)), (1, .int (nI a)), (2, .int (nI b)), (3, .int 3)]) hx hb dX8_wordAt_118 hl (by decide) rfl (fun ls hl => ?_)
              refine lv_iinc (v := 4) (lv' := [(3, .int 4), (4, .int 21), (7, .int 4), (6, .int 0), (5, .int 5), (0, .ref (y 0)), (1, .int (nI a)), (2, .int (nI b))]) hx hb dX8_wordAt_120 hl (k := 7) rfl (by decide) (by decide) rfl (fun ls hl => ?_)
              refine lv_goto (tgt := 5) hx hb dX8_wordAt_123 (by decide) ?_
              exact J_4_21 (wn_s hN (fun h => c_88 (h.2 3 (by decide)).symm)) ls (lv_sub hl [5, 6, 7, 0, 1] rfl)
            ·
              have he_3 := c_88
              refine lv_iconst (v := 1) hx hb dX8_wordAt_91 (by decide) ?_
              refine lv_goto (tgt := 96) hx hb dX8_wordAt_92 (by decide) ?_
              refine lv_istore (lv' := [(6, .int 1), (7, .int 3), (5, .int 5), (0, .ref (y 0)), (1, .int (nI a)), (2, .int (nI b)), (3, .int 3), (4, .int 15)]) hx hb dX8_wordAt_96 hl (by decide) rfl (fun ls hl => ?_)
              refine lv_iinc (v := 4) (lv' := [(7, .int 4), (6, .int 1), (5, .int 5), (0, .ref (y 0)), (1, .int (nI a)), (2, .int (nI b)), (3, .int 3), (4, .int 15)]) hx hb dX8_wordAt_98 hl (k := 1) rfl (by decide) (by decide) rfl (fun ls hl => ?_)
              refine lv_goto (tgt := 57) hx hb dX8_wordAt_101 (by decide) ?_
              refine lv_iload hx hb dX8_wordAt_57 (lv_at hl 0 rfl) ?_
              refine lv_iload hx hb dX8_wordAt_59 (lv_at hl 2 rfl) ?_
              refine lv_icmp_ge (tgt := 104) hx hb dX8_wordAt_61 (by decide) (fun h => absurd h (by decide)) (fun _ => ?_)
              refine lv_iload hx hb dX8_wordAt_64 (lv_at hl 1 rfl) ?_
              refine lv_if_eq (tgt := 104) hx hb dX8_wordAt_66 (by decide) (fun h => absurd h (by decide)) (fun _ => ?_)
              refine lv_aload_n hx hb dX8_wordAt_69 rfl (lv_at hl 3 rfl) ?_
              refine va_get (D := D) (ci := 8) (v := .ref (y 17)) (C := RX8) (T := TX8) (N := 52) hx hb hts w_1 hown hK hP 0 rfl rfl 34 (by decide) w_2 (fun _ h9 => h9) rfl dX8_wordAt_70 ?_
              refine lv_iload hx hb dX8_wordAt_73 (lv_at hl 7 rfl) ?_
              refine lv_iload hx hb dX8_wordAt_75 (lv_at hl 0 rfl) ?_
              refine sv_iadd (v := 19) hx hb dX8_wordAt_77 (by decide) ?_
              refine sv_iald (v := 101) hx hb hK hP 2 1 rfl rfl (vp_in_iff.mpr (by decide)) (hwf 19 (by decide)) dX8_wordAt_78 ?_
              refine lv_aload_n hx hb dX8_wordAt_79 rfl (lv_at hl 3 rfl) ?_
              refine va_get (D := D) (ci := 8) (v := .ref (y 1)) (C := RX8) (T := TX8) (N := 52) hx hb hts w_1 hown hK hP 0 rfl rfl 0 (by decide) w_3 (fun _ h9 => h9) rfl dX8_wordAt_80 ?_
              refine lv_iload_n hx hb dX8_wordAt_83 rfl (lv_at hl 4 rfl) ?_
              refine lv_iload hx hb dX8_wordAt_84 (lv_at hl 0 rfl) ?_
              refine sv_iadd (v := nI (a + 4)) hx hb dX8_wordAt_86 (ax_add a 4) ?_
              refine sv_iald (v := m_tape (a + 4)) hx hb hK hP 1 1 rfl rfl (vp_in_nI (by omega) (by decide)) (congrArg _ (nI_clamp (by omega))) dX8_wordAt_87 ?_
              refine lv_icmp_ne (tgt := 95) hx hb dX8_wordAt_88 (by decide) (fun c_88 => ?_) (fun c_88 => ?_)
              ·
                refine lv_iconst (v := 0) hx hb dX8_wordAt_95 (by decide) ?_
                refine lv_istore (lv' := [(6, .int 0), (7, .int 4), (5, .int 5), (0, .ref (y 0)), (1, .int (nI a)), (2, .int (nI b)), (3, .int 3), (4, .int 15)]) hx hb dX8_wordAt_96 hl (by decide) rfl (fun ls hl => ?_)
                refine lv_iinc (v := 5) (lv' := [(7, .int 5), (6, .int 0), (5, .int 5), (0, .ref (y 0)), (1, .int (nI a)), (2, .int (nI b)), (3, .int 3), (4, .int 15)]) hx hb dX8_wordAt_98 hl (k := 1) rfl (by decide) (by decide) rfl (fun ls hl => ?_)
                refine lv_goto (tgt := 57) hx hb dX8_wordAt_101 (by decide) ?_
                refine lv_iload hx hb dX8_wordAt_57 (lv_at hl 0 rfl) ?_
                refine lv_iload hx hb dX8_wordAt_59 (lv_at hl 2 rfl) ?_
                refine lv_icmp_ge (tgt := 104) hx hb dX8_wordAt_61 (by decide) (fun _ => ?_) (fun h => absurd (by decide) h)
                refine lv_iload hx hb dX8_wordAt_104 (lv_at hl 1 rfl) ?_
                refine lv_if_eq (tgt := 111) hx hb dX8_wordAt_106 (by decide) (fun _ => ?_) (fun h => absurd (by decide) h)
                refine lv_iload hx hb dX8_wordAt_111 (lv_at hl 7 rfl) ?_
                refine lv_iload hx hb dX8_wordAt_113 (lv_at hl 2 rfl) ?_
                refine lv_iconst (v := 1) hx hb dX8_wordAt_115 (by decide) ?_
                refine sv_iadd (v := 6) hx hb dX8_wordAt_116 (by decide) ?_
                refine sv_iadd (v := 21) hx hb dX8_wordAt_117 (by decide) ?_
                refine lv_istore (lv' := [(4, .int 21), (7, .int 5), (6, .int 0), (5, .int 5), (0, .ref (y 0)), (1, .int (nI a)), (2, .int (nI b)), (3, .int 3)]) hx hb dX8_wordAt_118 hl (by decide) rfl (fun ls hl => ?_)
                refine lv_iinc (v := 4) (lv' := [(3, .int 4), (4, .int 21), (7, .int 5), (6, .int 0), (5, .int 5), (0, .ref (y 0)), (1, .int (nI a)), (2, .int (nI b))]) hx hb dX8_wordAt_120 hl (k := 7) rfl (by decide) (by decide) rfl (fun ls hl => ?_)
                refine lv_goto (tgt := 5) hx hb dX8_wordAt_123 (by decide) ?_
                exact J_4_21 (wn_s hN (fun h => c_88 (h.2 4 (by decide)).symm)) ls (lv_sub hl [5, 6, 7, 0, 1] rfl)
              ·
                have he_4 := c_88
                refine lv_iconst (v := 1) hx hb dX8_wordAt_91 (by decide) ?_
                refine lv_goto (tgt := 96) hx hb dX8_wordAt_92 (by decide) ?_
                refine lv_istore (lv' := [(6, .int 1), (7, .int 4), (5, .int 5), (0, .ref (y 0)), (1, .int (nI a)), (2, .int (nI b)), (3, .int 3), (4, .int 15)]) hx hb dX8_wordAt_96 hl (by decide) rfl (fun ls hl => ?_)
                refine lv_iinc (v := 5) (lv' := [(7, .int 5), (6, .int 1), (5, .int 5), (0, .ref (y 0)), (1, .int (nI a)), (2, .int (nI b)), (3, .int 3), (4, .int 15)]) hx hb dX8_wordAt_98 hl (k := 1) rfl (by decide) (by decide) rfl (fun ls hl => ?_)
                refine lv_goto (tgt := 57) hx hb dX8_wordAt_101 (by decide) ?_
                refine lv_iload hx hb dX8_wordAt_57 (lv_at hl 0 rfl) ?_
                refine lv_iload hx hb dX8_wordAt_59 (lv_at hl 2 rfl) ?_
                refine lv_icmp_ge (tgt := 104) hx hb dX8_wordAt_61 (by decide) (fun _ => ?_) (fun h => absurd (by decide) h)
                refine lv_iload hx hb dX8_wordAt_104 (lv_at hl 1 rfl) ?_
                refine lv_if_eq (tgt := 111) hx hb dX8_wordAt_106 (by decide) (fun h => absurd h (by decide)) (fun _ => ?_)
                refine lv_iload_n hx hb dX8_wordAt_109 rfl (lv_at hl 6 rfl) ?_
                rw [← hQ]
                exact W.iret (v := 3) hx hb hr (fun t ht hW => ⟨_, rfl, Or.inl (wa_y (w := 3) (by decide) ⟨hlen, fun j hj => by match j, hj with | 0, _ => exact he_0.symm | 1, _ => exact he_1.symm | 2, _ => exact he_2.symm | 3, _ => exact he_3.symm | 4, _ => exact he_4.symm | j + 5, hj => exact absurd hj (show ¬ j + 5 < 5 by omega)⟩ rfl), ht⟩) (fun q h => nomatch h) dX8_wordAt_110
  have J_2_10 : (∀ i, i < 2 → ¬ wdP m_tape a b i) → ∀ (ls : Array Slot), lv_has ls 8 [(0, .ref (y 0)), (1, .int (nI a)), (2, .int (nI b)), (3, .int 2), (4, .int 10)] → W p l e (headSpec wsX8_wordAt ({ frames := 0, cells := 0, slots := 0, locals := 0 } : Room)).room s m ([.ref (y 0), .int (nI a), .int (nI b)] : List Value).toArray below meth c s.heap [] 0 0 Q0 (F0 m 5 ls []) := by
    intro hN ls hl
    refine lv_iload hx hb dX8_wordAt_5 (lv_at hl 4 rfl) ?_
    refine lv_aload_n hx hb dX8_wordAt_7 rfl (lv_at hl 0 rfl) ?_
    refine va_get (D := D) (ci := 8) (v := .ref (y 17)) (C := RX8) (T := TX8) (N := 52) hx hb hts w_1 hown hK hP 0 rfl rfl 34 (by decide) w_2 (fun _ h9 => h9) rfl dX8_wordAt_8 ?_
    refine va_alen (v := 43) hx hb hK hP 2 1 rfl rfl rfl dX8_wordAt_11 ?_
    refine lv_icmp_ge (tgt := 126) hx hb dX8_wordAt_12 (by decide) (fun h => absurd h (by decide)) (fun _ => ?_)
    refine lv_iconst (v := 0) hx hb dX8_wordAt_15 (by decide) ?_
    refine lv_istore (lv' := [(5, .int 0), (0, .ref (y 0)), (1, .int (nI a)), (2, .int (nI b)), (3, .int 2), (4, .int 10)]) hx hb dX8_wordAt_16 hl (by decide) rfl (fun ls hl => ?_)
    refine lv_aload_n hx hb dX8_wordAt_18 rfl (lv_at hl 1 rfl) ?_
    refine va_get (D := D) (ci := 8) (v := .ref (y 17)) (C := RX8) (T := TX8) (N := 52) hx hb hts w_1 hown hK hP 0 rfl rfl 34 (by decide) w_2 (fun _ h9 => h9) rfl dX8_wordAt_19 ?_
    refine lv_iload hx hb dX8_wordAt_22 (lv_at hl 5 rfl) ?_
    refine lv_iload hx hb dX8_wordAt_24 (lv_at hl 0 rfl) ?_
    refine sv_iadd (v := 10) hx hb dX8_wordAt_26 (by decide) ?_
    refine sv_iald (v := 110) hx hb hK hP 2 1 rfl rfl (vp_in_iff.mpr (by decide)) (hwf 10 (by decide)) dX8_wordAt_27 ?_
    refine lv_bipush (v := 32) hx hb dX8_wordAt_28 (by decide) ?_
    refine lv_icmp_eq (tgt := 39) hx hb dX8_wordAt_30 (by decide) (fun h => absurd h (by decide)) (fun _ => ?_)
    refine lv_iinc (v := 1) (lv' := [(5, .int 1), (0, .ref (y 0)), (1, .int (nI a)), (2, .int (nI b)), (3, .int 2), (4, .int 10)]) hx hb dX8_wordAt_33 hl (k := 0) rfl (by decide) (by decide) rfl (fun ls hl => ?_)
    refine lv_goto (tgt := 18) hx hb dX8_wordAt_36 (by decide) ?_
    refine lv_aload_n hx hb dX8_wordAt_18 rfl (lv_at hl 1 rfl) ?_
    refine va_get (D := D) (ci := 8) (v := .ref (y 17)) (C := RX8) (T := TX8) (N := 52) hx hb hts w_1 hown hK hP 0 rfl rfl 34 (by decide) w_2 (fun _ h9 => h9) rfl dX8_wordAt_19 ?_
    refine lv_iload hx hb dX8_wordAt_22 (lv_at hl 5 rfl) ?_
    refine lv_iload hx hb dX8_wordAt_24 (lv_at hl 0 rfl) ?_
    refine sv_iadd (v := 11) hx hb dX8_wordAt_26 (by decide) ?_
    refine sv_iald (v := 101) hx hb hK hP 2 1 rfl rfl (vp_in_iff.mpr (by decide)) (hwf 11 (by decide)) dX8_wordAt_27 ?_
    refine lv_bipush (v := 32) hx hb dX8_wordAt_28 (by decide) ?_
    refine lv_icmp_eq (tgt := 39) hx hb dX8_wordAt_30 (by decide) (fun h => absurd h (by decide)) (fun _ => ?_)
    refine lv_iinc (v := 2) (lv' := [(5, .int 2), (0, .ref (y 0)), (1, .int (nI a)), (2, .int (nI b)), (3, .int 2), (4, .int 10)]) hx hb dX8_wordAt_33 hl (k := 0) rfl (by decide) (by decide) rfl (fun ls hl => ?_)
    refine lv_goto (tgt := 18) hx hb dX8_wordAt_36 (by decide) ?_
    refine lv_aload_n hx hb dX8_wordAt_18 rfl (lv_at hl 1 rfl) ?_
    refine va_get (D := D) (ci := 8) (v := .ref (y 17)) (C := RX8) (T := TX8) (N := 52) hx hb hts w_1 hown hK hP 0 rfl rfl 34 (by decide) w_2 (fun _ h9 => h9) rfl dX8_wordAt_19 ?_
    refine lv_iload hx hb dX8_wordAt_22 (lv_at hl 5 rfl) ?_
    refine lv_iload hx hb dX8_wordAt_24 (lv_at hl 0 rfl) ?_
    refine sv_iadd (v := 12) hx hb dX8_wordAt_26 (by decide) ?_
    refine sv_iald (v := 101) hx hb hK hP 2 1 rfl rfl (vp_in_iff.mpr (by decide)) (hwf 12 (by decide)) dX8_wordAt_27 ?_
    refine lv_bipush (v := 32) hx hb dX8_wordAt_28 (by decide) ?_
    refine lv_icmp_eq (tgt := 39) hx hb dX8_wordAt_30 (by decide) (fun h => absurd h (by decide)) (fun _ => ?_)
    refine lv_iinc (v := 3) (lv' := [(5, .int 3), (0, .ref (y 0)), (1, .int (nI a)), (2, .int (nI b)), (3, .int 2), (4, .int 10)]) hx hb dX8_wordAt_33 hl (k := 0) rfl (by decide) (by decide) rfl (fun ls hl => ?_)
    refine lv_goto (tgt := 18) hx hb dX8_wordAt_36 (by decide) ?_
    refine lv_aload_n hx hb dX8_wordAt_18 rfl (lv_at hl 1 rfl) ?_
    refine va_get (D := D) (ci := 8) (v := .ref (y 17)) (C := RX8) (T := TX8) (N := 52) hx hb hts w_1 hown hK hP 0 rfl rfl 34 (by decide) w_2 (fun _ h9 => h9) rfl dX8_wordAt_19 ?_
    refine lv_iload hx hb dX8_wordAt_22 (lv_at hl 5 rfl) ?_
    refine lv_iload hx hb dX8_wordAt_24 (lv_at hl 0 rfl) ?_
    refine sv_iadd (v := 13) hx hb dX8_wordAt_26 (by decide) ?_
    refine sv_iald (v := 100) hx hb hK hP 2 1 rfl rfl (vp_in_iff.mpr (by decide)) (hwf 13 (by decide)) dX8_wordAt_27 ?_
    refine lv_bipush (v := 32) hx hb dX8_wordAt_28 (by decide) ?_
    refine lv_icmp_eq (tgt := 39) hx hb dX8_wordAt_30 (by decide) (fun h => absurd h (by decide)) (fun _ => ?_)
    refine lv_iinc (v := 4) (lv' := [(5, .int 4), (0, .ref (y 0)), (1, .int (nI a)), (2, .int (nI b)), (3, .int 2), (4, .int 10)]) hx hb dX8_wordAt_33 hl (k := 0) rfl (by decide) (by decide) rfl (fun ls hl => ?_)
    refine lv_goto (tgt := 18) hx hb dX8_wordAt_36 (by decide) ?_
    refine lv_aload_n hx hb dX8_wordAt_18 rfl (lv_at hl 1 rfl) ?_
    refine va_get (D := D) (ci := 8) (v := .ref (y 17)) (C := RX8) (T := TX8) (N := 52) hx hb hts w_1 hown hK hP 0 rfl rfl 34 (by decide) w_2 (fun _ h9 => h9) rfl dX8_wordAt_19 ?_
    refine lv_iload hx hb dX8_wordAt_22 (lv_at hl 5 rfl) ?_
    refine lv_iload hx hb dX8_wordAt_24 (lv_at hl 0 rfl) ?_
    refine sv_iadd (v := 14) hx hb dX8_wordAt_26 (by decide) ?_
    refine sv_iald (v := 32) hx hb hK hP 2 1 rfl rfl (vp_in_iff.mpr (by decide)) (hwf 14 (by decide)) dX8_wordAt_27 ?_
    refine lv_bipush (v := 32) hx hb dX8_wordAt_28 (by decide) ?_
    refine lv_icmp_eq (tgt := 39) hx hb dX8_wordAt_30 (by decide) (fun _ => ?_) (fun h => absurd (by decide) h)
    refine lv_iload hx hb dX8_wordAt_39 (lv_at hl 0 rfl) ?_
    refine lv_iload_n hx hb dX8_wordAt_41 rfl (lv_at hl 3 rfl) ?_
    refine lv_iload_n hx hb dX8_wordAt_42 rfl (lv_at hl 2 rfl) ?_
    refine sv_isub (v := nI (b - a)) hx hb dX8_wordAt_43 (nI_subN hab) ?_
    refine lv_icmp_ne (tgt := 51) hx hb dX8_wordAt_44 (by decide) (fun c_44 => ?_) (fun c_44 => ?_)
    ·
      refine lv_iconst (v := 0) hx hb dX8_wordAt_51 (by decide) ?_
      refine lv_istore (lv' := [(6, .int 0), (5, .int 4), (0, .ref (y 0)), (1, .int (nI a)), (2, .int (nI b)), (3, .int 2), (4, .int 10)]) hx hb dX8_wordAt_52 hl (by decide) rfl (fun ls hl => ?_)
      refine lv_iconst (v := 0) hx hb dX8_wordAt_54 (by decide) ?_
      refine lv_istore (lv' := [(7, .int 0), (6, .int 0), (5, .int 4), (0, .ref (y 0)), (1, .int (nI a)), (2, .int (nI b)), (3, .int 2), (4, .int 10)]) hx hb dX8_wordAt_55 hl (by decide) rfl (fun ls hl => ?_)
      refine lv_iload hx hb dX8_wordAt_57 (lv_at hl 0 rfl) ?_
      refine lv_iload hx hb dX8_wordAt_59 (lv_at hl 2 rfl) ?_
      refine lv_icmp_ge (tgt := 104) hx hb dX8_wordAt_61 (by decide) (fun h => absurd h (by decide)) (fun _ => ?_)
      refine lv_iload hx hb dX8_wordAt_64 (lv_at hl 1 rfl) ?_
      refine lv_if_eq (tgt := 104) hx hb dX8_wordAt_66 (by decide) (fun _ => ?_) (fun h => absurd (by decide) h)
      refine lv_iload hx hb dX8_wordAt_104 (lv_at hl 1 rfl) ?_
      refine lv_if_eq (tgt := 111) hx hb dX8_wordAt_106 (by decide) (fun _ => ?_) (fun h => absurd (by decide) h)
      refine lv_iload hx hb dX8_wordAt_111 (lv_at hl 7 rfl) ?_
      refine lv_iload hx hb dX8_wordAt_113 (lv_at hl 2 rfl) ?_
      refine lv_iconst (v := 1) hx hb dX8_wordAt_115 (by decide) ?_
      refine sv_iadd (v := 5) hx hb dX8_wordAt_116 (by decide) ?_
      refine sv_iadd (v := 15) hx hb dX8_wordAt_117 (by decide) ?_
      refine lv_istore (lv' := [(4, .int 15), (7, .int 0), (6, .int 0), (5, .int 4), (0, .ref (y 0)), (1, .int (nI a)), (2, .int (nI b)), (3, .int 2)]) hx hb dX8_wordAt_118 hl (by decide) rfl (fun ls hl => ?_)
      refine lv_iinc (v := 3) (lv' := [(3, .int 3), (4, .int 15), (7, .int 0), (6, .int 0), (5, .int 4), (0, .ref (y 0)), (1, .int (nI a)), (2, .int (nI b))]) hx hb dX8_wordAt_120 hl (k := 7) rfl (by decide) (by decide) rfl (fun ls hl => ?_)
      refine lv_goto (tgt := 5) hx hb dX8_wordAt_123 (by decide) ?_
      exact J_3_15 (wn_s hN (fun h => c_44 (by rw [show b - a = 4 by have h9 : b = a + 4 := h.1; omega]; rfl))) ls (lv_sub hl [5, 6, 7, 0, 1] rfl)
    ·
      have hlen : b = a + 4 := by have h9 := (nI_eq (a := 4) (by decide) (by omega)).mp c_44; omega
      refine lv_iconst (v := 1) hx hb dX8_wordAt_47 (by decide) ?_
      refine lv_goto (tgt := 52) hx hb dX8_wordAt_48 (by decide) ?_
      refine lv_istore (lv' := [(6, .int 1), (5, .int 4), (0, .ref (y 0)), (1, .int (nI a)), (2, .int (nI b)), (3, .int 2), (4, .int 10)]) hx hb dX8_wordAt_52 hl (by decide) rfl (fun ls hl => ?_)
      refine lv_iconst (v := 0) hx hb dX8_wordAt_54 (by decide) ?_
      refine lv_istore (lv' := [(7, .int 0), (6, .int 1), (5, .int 4), (0, .ref (y 0)), (1, .int (nI a)), (2, .int (nI b)), (3, .int 2), (4, .int 10)]) hx hb dX8_wordAt_55 hl (by decide) rfl (fun ls hl => ?_)
      refine lv_iload hx hb dX8_wordAt_57 (lv_at hl 0 rfl) ?_
      refine lv_iload hx hb dX8_wordAt_59 (lv_at hl 2 rfl) ?_
      refine lv_icmp_ge (tgt := 104) hx hb dX8_wordAt_61 (by decide) (fun h => absurd h (by decide)) (fun _ => ?_)
      refine lv_iload hx hb dX8_wordAt_64 (lv_at hl 1 rfl) ?_
      refine lv_if_eq (tgt := 104) hx hb dX8_wordAt_66 (by decide) (fun h => absurd h (by decide)) (fun _ => ?_)
      refine lv_aload_n hx hb dX8_wordAt_69 rfl (lv_at hl 3 rfl) ?_
      refine va_get (D := D) (ci := 8) (v := .ref (y 17)) (C := RX8) (T := TX8) (N := 52) hx hb hts w_1 hown hK hP 0 rfl rfl 34 (by decide) w_2 (fun _ h9 => h9) rfl dX8_wordAt_70 ?_
      refine lv_iload hx hb dX8_wordAt_73 (lv_at hl 7 rfl) ?_
      refine lv_iload hx hb dX8_wordAt_75 (lv_at hl 0 rfl) ?_
      refine sv_iadd (v := 10) hx hb dX8_wordAt_77 (by decide) ?_
      refine sv_iald (v := 110) hx hb hK hP 2 1 rfl rfl (vp_in_iff.mpr (by decide)) (hwf 10 (by decide)) dX8_wordAt_78 ?_
      refine lv_aload_n hx hb dX8_wordAt_79 rfl (lv_at hl 3 rfl) ?_
      refine va_get (D := D) (ci := 8) (v := .ref (y 1)) (C := RX8) (T := TX8) (N := 52) hx hb hts w_1 hown hK hP 0 rfl rfl 0 (by decide) w_3 (fun _ h9 => h9) rfl dX8_wordAt_80 ?_
      refine lv_iload_n hx hb dX8_wordAt_83 rfl (lv_at hl 4 rfl) ?_
      refine lv_iload hx hb dX8_wordAt_84 (lv_at hl 0 rfl) ?_
      refine sv_iadd (v := nI (a + 0)) hx hb dX8_wordAt_86 (ax_add a 0) ?_
      refine sv_iald (v := m_tape (a + 0)) hx hb hK hP 1 1 rfl rfl (vp_in_nI (by omega) (by decide)) (congrArg _ (nI_clamp (by omega))) dX8_wordAt_87 ?_
      refine lv_icmp_ne (tgt := 95) hx hb dX8_wordAt_88 (by decide) (fun c_88 => ?_) (fun c_88 => ?_)
      ·
        refine lv_iconst (v := 0) hx hb dX8_wordAt_95 (by decide) ?_
        refine lv_istore (lv' := [(6, .int 0), (7, .int 0), (5, .int 4), (0, .ref (y 0)), (1, .int (nI a)), (2, .int (nI b)), (3, .int 2), (4, .int 10)]) hx hb dX8_wordAt_96 hl (by decide) rfl (fun ls hl => ?_)
        refine lv_iinc (v := 1) (lv' := [(7, .int 1), (6, .int 0), (5, .int 4), (0, .ref (y 0)), (1, .int (nI a)), (2, .int (nI b)), (3, .int 2), (4, .int 10)]) hx hb dX8_wordAt_98 hl (k := 1) rfl (by decide) (by decide) rfl (fun ls hl => ?_)
        refine lv_goto (tgt := 57) hx hb dX8_wordAt_101 (by decide) ?_
        refine lv_iload hx hb dX8_wordAt_57 (lv_at hl 0 rfl) ?_
        refine lv_iload hx hb dX8_wordAt_59 (lv_at hl 2 rfl) ?_
        refine lv_icmp_ge (tgt := 104) hx hb dX8_wordAt_61 (by decide) (fun h => absurd h (by decide)) (fun _ => ?_)
        refine lv_iload hx hb dX8_wordAt_64 (lv_at hl 1 rfl) ?_
        refine lv_if_eq (tgt := 104) hx hb dX8_wordAt_66 (by decide) (fun _ => ?_) (fun h => absurd (by decide) h)
        refine lv_iload hx hb dX8_wordAt_104 (lv_at hl 1 rfl) ?_
        refine lv_if_eq (tgt := 111) hx hb dX8_wordAt_106 (by decide) (fun _ => ?_) (fun h => absurd (by decide) h)
        refine lv_iload hx hb dX8_wordAt_111 (lv_at hl 7 rfl) ?_
        refine lv_iload hx hb dX8_wordAt_113 (lv_at hl 2 rfl) ?_
        refine lv_iconst (v := 1) hx hb dX8_wordAt_115 (by decide) ?_
        refine sv_iadd (v := 5) hx hb dX8_wordAt_116 (by decide) ?_
        refine sv_iadd (v := 15) hx hb dX8_wordAt_117 (by decide) ?_
        refine lv_istore (lv' := [(4, .int 15), (7, .int 1), (6, .int 0), (5, .int 4), (0, .ref (y 0)), (1, .int (nI a)), (2, .int (nI b)), (3, .int 2)]) hx hb dX8_wordAt_118 hl (by decide) rfl (fun ls hl => ?_)
        refine lv_iinc (v := 3) (lv' := [(3, .int 3), (4, .int 15), (7, .int 1), (6, .int 0), (5, .int 4), (0, .ref (y 0)), (1, .int (nI a)), (2, .int (nI b))]) hx hb dX8_wordAt_120 hl (k := 7) rfl (by decide) (by decide) rfl (fun ls hl => ?_)
        refine lv_goto (tgt := 5) hx hb dX8_wordAt_123 (by decide) ?_
        exact J_3_15 (wn_s hN (fun h => c_88 (h.2 0 (by decide)).symm)) ls (lv_sub hl [5, 6, 7, 0, 1] rfl)
      ·
        have he_0 := c_88
        refine lv_iconst (v := 1) hx hb dX8_wordAt_91 (by decide) ?_
        refine lv_goto (tgt := 96) hx hb dX8_wordAt_92 (by decide) ?_
        refine lv_istore (lv' := [(6, .int 1), (7, .int 0), (5, .int 4), (0, .ref (y 0)), (1, .int (nI a)), (2, .int (nI b)), (3, .int 2), (4, .int 10)]) hx hb dX8_wordAt_96 hl (by decide) rfl (fun ls hl => ?_)
        refine lv_iinc (v := 1) (lv' := [(7, .int 1), (6, .int 1), (5, .int 4), (0, .ref (y 0)), (1, .int (nI a)), (2, .int (nI b)), (3, .int 2), (4, .int 10)]) hx hb dX8_wordAt_98 hl (k := 1) rfl (by decide) (by decide) rfl (fun ls hl => ?_)
        refine lv_goto (tgt := 57) hx hb dX8_wordAt_101 (by decide) ?_
        refine lv_iload hx hb dX8_wordAt_57 (lv_at hl 0 rfl) ?_
        refine lv_iload hx hb dX8_wordAt_59 (lv_at hl 2 rfl) ?_
        refine lv_icmp_ge (tgt := 104) hx hb dX8_wordAt_61 (by decide) (fun h => absurd h (by decide)) (fun _ => ?_)
        refine lv_iload hx hb dX8_wordAt_64 (lv_at hl 1 rfl) ?_
        refine lv_if_eq (tgt := 104) hx hb dX8_wordAt_66 (by decide) (fun h => absurd h (by decide)) (fun _ => ?_)
        refine lv_aload_n hx hb dX8_wordAt_69 rfl (lv_at hl 3 rfl) ?_
        refine va_get (D := D) (ci := 8) (v := .ref (y 17)) (C := RX8) (T := TX8) (N := 52) hx hb hts w_1 hown hK hP 0 rfl rfl 34 (by decide) w_2 (fun _ h9 => h9) rfl dX8_wordAt_70 ?_
        refine lv_iload hx hb dX8_wordAt_73 (lv_at hl 7 rfl) ?_
        refine lv_iload hx hb dX8_wordAt_75 (lv_at hl 0 rfl) ?_
        refine sv_iadd (v := 11) hx hb dX8_wordAt_77 (by decide) ?_
        refine sv_iald (v := 101) hx hb hK hP 2 1 rfl rfl (vp_in_iff.mpr (by decide)) (hwf 11 (by decide)) dX8_wordAt_78 ?_
        refine lv_aload_n hx hb dX8_wordAt_79 rfl (lv_at hl 3 rfl) ?_
        refine va_get (D := D) (ci := 8) (v := .ref (y 1)) (C := RX8) (T := TX8) (N := 52) hx hb hts w_1 hown hK hP 0 rfl rfl 0 (by decide) w_3 (fun _ h9 => h9) rfl dX8_wordAt_80 ?_
        refine lv_iload_n hx hb dX8_wordAt_83 rfl (lv_at hl 4 rfl) ?_
        refine lv_iload hx hb dX8_wordAt_84 (lv_at hl 0 rfl) ?_
        refine sv_iadd (v := nI (a + 1)) hx hb dX8_wordAt_86 (ax_add a 1) ?_
        refine sv_iald (v := m_tape (a + 1)) hx hb hK hP 1 1 rfl rfl (vp_in_nI (by omega) (by decide)) (congrArg _ (nI_clamp (by omega))) dX8_wordAt_87 ?_
        refine lv_icmp_ne (tgt := 95) hx hb dX8_wordAt_88 (by decide) (fun c_88 => ?_) (fun c_88 => ?_)
        ·
          refine lv_iconst (v := 0) hx hb dX8_wordAt_95 (by decide) ?_
          refine lv_istore (lv' := [(6, .int 0), (7, .int 1), (5, .int 4), (0, .ref (y 0)), (1, .int (nI a)), (2, .int (nI b)), (3, .int 2), (4, .int 10)]) hx hb dX8_wordAt_96 hl (by decide) rfl (fun ls hl => ?_)
          refine lv_iinc (v := 2) (lv' := [(7, .int 2), (6, .int 0), (5, .int 4), (0, .ref (y 0)), (1, .int (nI a)), (2, .int (nI b)), (3, .int 2), (4, .int 10)]) hx hb dX8_wordAt_98 hl (k := 1) rfl (by decide) (by decide) rfl (fun ls hl => ?_)
          refine lv_goto (tgt := 57) hx hb dX8_wordAt_101 (by decide) ?_
          refine lv_iload hx hb dX8_wordAt_57 (lv_at hl 0 rfl) ?_
          refine lv_iload hx hb dX8_wordAt_59 (lv_at hl 2 rfl) ?_
          refine lv_icmp_ge (tgt := 104) hx hb dX8_wordAt_61 (by decide) (fun h => absurd h (by decide)) (fun _ => ?_)
          refine lv_iload hx hb dX8_wordAt_64 (lv_at hl 1 rfl) ?_
          refine lv_if_eq (tgt := 104) hx hb dX8_wordAt_66 (by decide) (fun _ => ?_) (fun h => absurd (by decide) h)
          refine lv_iload hx hb dX8_wordAt_104 (lv_at hl 1 rfl) ?_
          refine lv_if_eq (tgt := 111) hx hb dX8_wordAt_106 (by decide) (fun _ => ?_) (fun h => absurd (by decide) h)
          refine lv_iload hx hb dX8_wordAt_111 (lv_at hl 7 rfl) ?_
          refine lv_iload hx hb dX8_wordAt_113 (lv_at hl 2 rfl) ?_
          refine lv_iconst (v := 1) hx hb dX8_wordAt_115 (by decide) ?_
          refine sv_iadd (v := 5) hx hb dX8_wordAt_116 (by decide) ?_
          refine sv_iadd (v := 15) hx hb dX8_wordAt_117 (by decide) ?_
          refine lv_istore (lv' := [(4, .int 15), (7, .int 2), (6, .int 0), (5, .int 4), (0, .ref (y 0)), (1, .int (nI a)), (2, .int (nI b)), (3, .int 2)]) hx hb dX8_wordAt_118 hl (by decide) rfl (fun ls hl => ?_)
          refine lv_iinc (v := 3) (lv' := [(3, .int 3), (4, .int 15), (7, .int 2), (6, .int 0), (5, .int 4), (0, .ref (y 0)), (1, .int (nI a)), (2, .int (nI b))]) hx hb dX8_wordAt_120 hl (k := 7) rfl (by decide) (by decide) rfl (fun ls hl => ?_)
          refine lv_goto (tgt := 5) hx hb dX8_wordAt_123 (by decide) ?_
          exact J_3_15 (wn_s hN (fun h => c_88 (h.2 1 (by decide)).symm)) ls (lv_sub hl [5, 6, 7, 0, 1] rfl)
        ·
          have he_1 := c_88
          refine lv_iconst (v := 1) hx hb dX8_wordAt_91 (by decide) ?_
          refine lv_goto (tgt := 96) hx hb dX8_wordAt_92 (by decide) ?_
          refine lv_istore (lv' := [(6, .int 1), (7, .int 1), (5, .int 4), (0, .ref (y 0)), (1, .int (nI a)), (2, .int (nI b)), (3, .int 2), (4, .int 10)]) hx hb dX8_wordAt_96 hl (by decide) rfl (fun ls hl => ?_)
          refine lv_iinc (v := 2) (lv' := [(7, .int 2), (6, .int 1), (5, .int 4), (0, .ref (y 0)), (1, .int (nI a)), (2, .int (nI b)), (3, .int 2), (4, .int 10)]) hx hb dX8_wordAt_98 hl (k := 1) rfl (by decide) (by decide) rfl (fun ls hl => ?_)
          refine lv_goto (tgt := 57) hx hb dX8_wordAt_101 (by decide) ?_
          refine lv_iload hx hb dX8_wordAt_57 (lv_at hl 0 rfl) ?_
          refine lv_iload hx hb dX8_wordAt_59 (lv_at hl 2 rfl) ?_
          refine lv_icmp_ge (tgt := 104) hx hb dX8_wordAt_61 (by decide) (fun h => absurd h (by decide)) (fun _ => ?_)
          refine lv_iload hx hb dX8_wordAt_64 (lv_at hl 1 rfl) ?_
          refine lv_if_eq (tgt := 104) hx hb dX8_wordAt_66 (by decide) (fun h => absurd h (by decide)) (fun _ => ?_)
          refine lv_aload_n hx hb dX8_wordAt_69 rfl (lv_at hl 3 rfl) ?_
          refine va_get (D := D) (ci := 8) (v := .ref (y 17)) (C := RX8) (T := TX8) (N := 52) hx hb hts w_1 hown hK hP 0 rfl rfl 34 (by decide) w_2 (fun _ h9 => h9) rfl dX8_wordAt_70 ?_
          refine lv_iload hx hb dX8_wordAt_73 (lv_at hl 7 rfl) ?_
          refine lv_iload hx hb dX8_wordAt_75 (lv_at hl 0 rfl) ?_
          refine sv_iadd (v := 12) hx hb dX8_wordAt_77 (by decide) ?_
          refine sv_iald (v := 101) hx hb hK hP 2 1 rfl rfl (vp_in_iff.mpr (by decide)) (hwf 12 (by decide)) dX8_wordAt_78 ?_
          refine lv_aload_n hx hb dX8_wordAt_79 rfl (lv_at hl 3 rfl) ?_
          refine va_get (D := D) (ci := 8) (v := .ref (y 1)) (C := RX8) (T := TX8) (N := 52) hx hb hts w_1 hown hK hP 0 rfl rfl 0 (by decide) w_3 (fun _ h9 => h9) rfl dX8_wordAt_80 ?_
          refine lv_iload_n hx hb dX8_wordAt_83 rfl (lv_at hl 4 rfl) ?_
          refine lv_iload hx hb dX8_wordAt_84 (lv_at hl 0 rfl) ?_
          refine sv_iadd (v := nI (a + 2)) hx hb dX8_wordAt_86 (ax_add a 2) ?_
          refine sv_iald (v := m_tape (a + 2)) hx hb hK hP 1 1 rfl rfl (vp_in_nI (by omega) (by decide)) (congrArg _ (nI_clamp (by omega))) dX8_wordAt_87 ?_
          refine lv_icmp_ne (tgt := 95) hx hb dX8_wordAt_88 (by decide) (fun c_88 => ?_) (fun c_88 => ?_)
          ·
            refine lv_iconst (v := 0) hx hb dX8_wordAt_95 (by decide) ?_
            refine lv_istore (lv' := [(6, .int 0), (7, .int 2), (5, .int 4), (0, .ref (y 0)), (1, .int (nI a)), (2, .int (nI b)), (3, .int 2), (4, .int 10)]) hx hb dX8_wordAt_96 hl (by decide) rfl (fun ls hl => ?_)
            refine lv_iinc (v := 3) (lv' := [(7, .int 3), (6, .int 0), (5, .int 4), (0, .ref (y 0)), (1, .int (nI a)), (2, .int (nI b)), (3, .int 2), (4, .int 10)]) hx hb dX8_wordAt_98 hl (k := 1) rfl (by decide) (by decide) rfl (fun ls hl => ?_)
            refine lv_goto (tgt := 57) hx hb dX8_wordAt_101 (by decide) ?_
            refine lv_iload hx hb dX8_wordAt_57 (lv_at hl 0 rfl) ?_
            refine lv_iload hx hb dX8_wordAt_59 (lv_at hl 2 rfl) ?_
            refine lv_icmp_ge (tgt := 104) hx hb dX8_wordAt_61 (by decide) (fun h => absurd h (by decide)) (fun _ => ?_)
            refine lv_iload hx hb dX8_wordAt_64 (lv_at hl 1 rfl) ?_
            refine lv_if_eq (tgt := 104) hx hb dX8_wordAt_66 (by decide) (fun _ => ?_) (fun h => absurd (by decide) h)
            refine lv_iload hx hb dX8_wordAt_104 (lv_at hl 1 rfl) ?_
            refine lv_if_eq (tgt := 111) hx hb dX8_wordAt_106 (by decide) (fun _ => ?_) (fun h => absurd (by decide) h)
            refine lv_iload hx hb dX8_wordAt_111 (lv_at hl 7 rfl) ?_
            refine lv_iload hx hb dX8_wordAt_113 (lv_at hl 2 rfl) ?_
            refine lv_iconst (v := 1) hx hb dX8_wordAt_115 (by decide) ?_
            refine sv_iadd (v := 5) hx hb dX8_wordAt_116 (by decide) ?_
            refine sv_iadd (v := 15) hx hb dX8_wordAt_117 (by decide) ?_
            refine lv_istore (lv' := [(4, .int 15), (7, .int 3), (6, .int 0), (5, .int 4), (0, .ref (y 0)), (1, .int (nI a)), (2, .int (nI b)), (3, .int 2)]) hx hb dX8_wordAt_118 hl (by decide) rfl (fun ls hl => ?_)
            refine lv_iinc (v := 3) (lv' := [(3, .int 3), (4, .int 15), (7, .int 3), (6, .int 0), (5, .int 4), (0, .ref (y 0)), (1, .int (nI a)), (2, .int (nI b))]) hx hb dX8_wordAt_120 hl (k := 7) rfl (by decide) (by decide) rfl (fun ls hl => ?_)
            refine lv_goto (tgt := 5) hx hb dX8_wordAt_123 (by decide) ?_
            exact J_3_15 (wn_s hN (fun h => c_88 (h.2 2 (by decide)).symm)) ls (lv_sub hl [5, 6, 7, 0, 1] rfl)
          ·
            have he_2 := c_88
            refine lv_iconst (v := 1) hx hb dX8_wordAt_91 (by decide) ?_
            refine lv_goto (tgt := 96) hx hb dX8_wordAt_92 (by decide) ?_
            refine lv_istore (lv' := [(6, .int 1), (7, .int 2), (5, .int 4), (0, .ref (y 0)), (1, .int (nI a)), (2, .int (nI b)), (3, .int 2), (4, .int 10)]) hx hb dX8_wordAt_96 hl (by decide) rfl (fun ls hl => ?_)
            refine lv_iinc (v := 3) (lv' := [(7, .int 3), (6, .int 1), (5, .int 4), (0, .ref (y 0)), (1, .int (nI a)), (2, .int (nI b)), (3, .int 2), (4, .int 10)]) hx hb dX8_wordAt_98 hl (k := 1) rfl (by decide) (by decide) rfl (fun ls hl => ?_)
            refine lv_goto (tgt := 57) hx hb dX8_wordAt_101 (by decide) ?_
            refine lv_iload hx hb dX8_wordAt_57 (lv_at hl 0 rfl) ?_
            refine lv_iload hx hb dX8_wordAt_59 (lv_at hl 2 rfl) ?_
            refine lv_icmp_ge (tgt := 104) hx hb dX8_wordAt_61 (by decide) (fun h => absurd h (by decide)) (fun _ => ?_)
            refine lv_iload hx hb dX8_wordAt_64 (lv_at hl 1 rfl) ?_
            refine lv_if_eq (tgt := 104) hx hb dX8_wordAt_66 (by decide) (fun h => absurd h (by decide)) (fun _ => ?_)
            refine lv_aload_n hx hb dX8_wordAt_69 rfl (lv_at hl 3 rfl) ?_
            refine va_get (D := D) (ci := 8) (v := .ref (y 17)) (C := RX8) (T := TX8) (N := 52) hx hb hts w_1 hown hK hP 0 rfl rfl 34 (by decide) w_2 (fun _ h9 => h9) rfl dX8_wordAt_70 ?_
            refine lv_iload hx hb dX8_wordAt_73 (lv_at hl 7 rfl) ?_
            refine lv_iload hx hb dX8_wordAt_75 (lv_at hl 0 rfl) ?_
            refine sv_iadd (v := 13) hx hb dX8_wordAt_77 (by decide) ?_
            refine sv_iald (v := 100) hx hb hK hP 2 1 rfl rfl (vp_in_iff.mpr (by decide)) (hwf 13 (by decide)) dX8_wordAt_78 ?_
            refine lv_aload_n hx hb dX8_wordAt_79 rfl (lv_at hl 3 rfl) ?_
            refine va_get (D := D) (ci := 8) (v := .ref (y 1)) (C := RX8) (T := TX8) (N := 52) hx hb hts w_1 hown hK hP 0 rfl rfl 0 (by decide) w_3 (fun _ h9 => h9) rfl dX8_wordAt_80 ?_
            refine lv_iload_n hx hb dX8_wordAt_83 rfl (lv_at hl 4 rfl) ?_
            refine lv_iload hx hb dX8_wordAt_84 (lv_at hl 0 rfl) ?_
            refine sv_iadd (v := nI (a + 3)) hx hb dX8_wordAt_86 (ax_add a 3) ?_
            refine sv_iald (v := m_tape (a + 3)) hx hb hK hP 1 1 rfl rfl (vp_in_nI (by omega) (by decide)) (congrArg _ (nI_clamp (by omega))) dX8_wordAt_87 ?_
            refine lv_icmp_ne (tgt := 95) hx hb dX8_wordAt_88 (by decide) (fun c_88 => ?_) (fun c_88 => ?_)
            ·
              refine lv_iconst (v := 0) hx hb dX8_wordAt_95 (by decide) ?_
              refine lv_istore (lv' := [(6, .int 0), (7, .int 3), (5, .int 4), (0, .ref (y 0)), (1, .int (nI a)), (2, .int (nI b)), (3, .int 2), (4, .int 10)]) hx hb dX8_wordAt_96 hl (by decide) rfl (fun ls hl => ?_)
              refine lv_iinc (v := 4) (lv' := [(7, .int 4), (6, .int 0), (5, .int 4), (0, .ref (y 0)), (1, .int (nI a)), (2, .int (nI b)), (3, .int 2), (4, .int 10)]) hx hb dX8_wordAt_98 hl (k := 1) rfl (by decide) (by decide) rfl (fun ls hl => ?_)
              refine lv_goto (tgt := 57) hx hb dX8_wordAt_101 (by decide) ?_
              refine lv_iload hx hb dX8_wordAt_57 (lv_at hl 0 rfl) ?_
              refine lv_iload hx hb dX8_wordAt_59 (lv_at hl 2 rfl) ?_
              refine lv_icmp_ge (tgt := 104) hx hb dX8_wordAt_61 (by decide) (fun _ => ?_) (fun h => absurd (by decide) h)
              refine lv_iload hx hb dX8_wordAt_104 (lv_at hl 1 rfl) ?_
              refine lv_if_eq (tgt := 111) hx hb dX8_wordAt_106 (by decide) (fun _ => ?_) (fun h => absurd (by decide) h)
              refine lv_iload hx hb dX8_wordAt_111 (lv_at hl 7 rfl) ?_
              refine lv_iload hx hb dX8_wordAt_113 (lv_at hl 2 rfl) ?_
              refine lv_iconst (v := 1) hx hb dX8_wordAt_115 (by decide) ?_
              refine sv_iadd (v := 5) hx hb dX8_wordAt_116 (by decide) ?_
              refine sv_iadd (v := 15) hx hb dX8_wordAt_117 (by decide) ?_
              refine lv_istore (lv' := [(4, .int 15), (7, .int 4), (6, .int 0), (5, .int 4), (0, .ref (y 0)), (1, .int (nI a)), (2, .int (nI b)), (3, .int 2)]) hx hb dX8_wordAt_118 hl (by decide) rfl (fun ls hl => ?_)
              refine lv_iinc (v := 3) (lv' := [(3, .int 3), (4, .int 15), (7, .int 4), (6, .int 0), (5, .int 4), (0, .ref (y 0)), (1, .int (nI a)), (2, .int (nI b))]) hx hb dX8_wordAt_120 hl (k := 7) rfl (by decide) (by decide) rfl (fun ls hl => ?_)
              refine lv_goto (tgt := 5) hx hb dX8_wordAt_123 (by decide) ?_
              exact J_3_15 (wn_s hN (fun h => c_88 (h.2 3 (by decide)).symm)) ls (lv_sub hl [5, 6, 7, 0, 1] rfl)
            ·
              have he_3 := c_88
              refine lv_iconst (v := 1) hx hb dX8_wordAt_91 (by decide) ?_
              refine lv_goto (tgt := 96) hx hb dX8_wordAt_92 (by decide) ?_
              refine lv_istore (lv' := [(6, .int 1), (7, .int 3), (5, .int 4), (0, .ref (y 0)), (1, .int (nI a)), (2, .int (nI b)), (3, .int 2), (4, .int 10)]) hx hb dX8_wordAt_96 hl (by decide) rfl (fun ls hl => ?_)
              refine lv_iinc (v := 4) (lv' := [(7, .int 4), (6, .int 1), (5, .int 4), (0, .ref (y 0)), (1, .int (nI a)), (2, .int (nI b)), (3, .int 2), (4, .int 10)]) hx hb dX8_wordAt_98 hl (k := 1) rfl (by decide) (by decide) rfl (fun ls hl => ?_)
              refine lv_goto (tgt := 57) hx hb dX8_wordAt_101 (by decide) ?_
              refine lv_iload hx hb dX8_wordAt_57 (lv_at hl 0 rfl) ?_
              refine lv_iload hx hb dX8_wordAt_59 (lv_at hl 2 rfl) ?_
              refine lv_icmp_ge (tgt := 104) hx hb dX8_wordAt_61 (by decide) (fun _ => ?_) (fun h => absurd (by decide) h)
              refine lv_iload hx hb dX8_wordAt_104 (lv_at hl 1 rfl) ?_
              refine lv_if_eq (tgt := 111) hx hb dX8_wordAt_106 (by decide) (fun h => absurd h (by decide)) (fun _ => ?_)
              refine lv_iload_n hx hb dX8_wordAt_109 rfl (lv_at hl 6 rfl) ?_
              rw [← hQ]
              exact W.iret (v := 2) hx hb hr (fun t ht hW => ⟨_, rfl, Or.inl (wa_y (w := 2) (by decide) ⟨hlen, fun j hj => by match j, hj with | 0, _ => exact he_0.symm | 1, _ => exact he_1.symm | 2, _ => exact he_2.symm | 3, _ => exact he_3.symm | j + 4, hj => exact absurd hj (show ¬ j + 4 < 4 by omega)⟩ rfl), ht⟩) (fun q h => nomatch h) dX8_wordAt_110
  have J_1_5 : (∀ i, i < 1 → ¬ wdP m_tape a b i) → ∀ (ls : Array Slot), lv_has ls 8 [(0, .ref (y 0)), (1, .int (nI a)), (2, .int (nI b)), (3, .int 1), (4, .int 5)] → W p l e (headSpec wsX8_wordAt ({ frames := 0, cells := 0, slots := 0, locals := 0 } : Room)).room s m ([.ref (y 0), .int (nI a), .int (nI b)] : List Value).toArray below meth c s.heap [] 0 0 Q0 (F0 m 5 ls []) := by
    intro hN ls hl
    refine lv_iload hx hb dX8_wordAt_5 (lv_at hl 4 rfl) ?_
    refine lv_aload_n hx hb dX8_wordAt_7 rfl (lv_at hl 0 rfl) ?_
    refine va_get (D := D) (ci := 8) (v := .ref (y 17)) (C := RX8) (T := TX8) (N := 52) hx hb hts w_1 hown hK hP 0 rfl rfl 34 (by decide) w_2 (fun _ h9 => h9) rfl dX8_wordAt_8 ?_
    refine va_alen (v := 43) hx hb hK hP 2 1 rfl rfl rfl dX8_wordAt_11 ?_
    refine lv_icmp_ge (tgt := 126) hx hb dX8_wordAt_12 (by decide) (fun h => absurd h (by decide)) (fun _ => ?_)
    refine lv_iconst (v := 0) hx hb dX8_wordAt_15 (by decide) ?_
    refine lv_istore (lv' := [(5, .int 0), (0, .ref (y 0)), (1, .int (nI a)), (2, .int (nI b)), (3, .int 1), (4, .int 5)]) hx hb dX8_wordAt_16 hl (by decide) rfl (fun ls hl => ?_)
    refine lv_aload_n hx hb dX8_wordAt_18 rfl (lv_at hl 1 rfl) ?_
    refine va_get (D := D) (ci := 8) (v := .ref (y 17)) (C := RX8) (T := TX8) (N := 52) hx hb hts w_1 hown hK hP 0 rfl rfl 34 (by decide) w_2 (fun _ h9 => h9) rfl dX8_wordAt_19 ?_
    refine lv_iload hx hb dX8_wordAt_22 (lv_at hl 5 rfl) ?_
    refine lv_iload hx hb dX8_wordAt_24 (lv_at hl 0 rfl) ?_
    refine sv_iadd (v := 5) hx hb dX8_wordAt_26 (by decide) ?_
    refine sv_iald (v := 118) hx hb hK hP 2 1 rfl rfl (vp_in_iff.mpr (by decide)) (hwf 5 (by decide)) dX8_wordAt_27 ?_
    refine lv_bipush (v := 32) hx hb dX8_wordAt_28 (by decide) ?_
    refine lv_icmp_eq (tgt := 39) hx hb dX8_wordAt_30 (by decide) (fun h => absurd h (by decide)) (fun _ => ?_)
    refine lv_iinc (v := 1) (lv' := [(5, .int 1), (0, .ref (y 0)), (1, .int (nI a)), (2, .int (nI b)), (3, .int 1), (4, .int 5)]) hx hb dX8_wordAt_33 hl (k := 0) rfl (by decide) (by decide) rfl (fun ls hl => ?_)
    refine lv_goto (tgt := 18) hx hb dX8_wordAt_36 (by decide) ?_
    refine lv_aload_n hx hb dX8_wordAt_18 rfl (lv_at hl 1 rfl) ?_
    refine va_get (D := D) (ci := 8) (v := .ref (y 17)) (C := RX8) (T := TX8) (N := 52) hx hb hts w_1 hown hK hP 0 rfl rfl 34 (by decide) w_2 (fun _ h9 => h9) rfl dX8_wordAt_19 ?_
    refine lv_iload hx hb dX8_wordAt_22 (lv_at hl 5 rfl) ?_
    refine lv_iload hx hb dX8_wordAt_24 (lv_at hl 0 rfl) ?_
    refine sv_iadd (v := 6) hx hb dX8_wordAt_26 (by decide) ?_
    refine sv_iald (v := 111) hx hb hK hP 2 1 rfl rfl (vp_in_iff.mpr (by decide)) (hwf 6 (by decide)) dX8_wordAt_27 ?_
    refine lv_bipush (v := 32) hx hb dX8_wordAt_28 (by decide) ?_
    refine lv_icmp_eq (tgt := 39) hx hb dX8_wordAt_30 (by decide) (fun h => absurd h (by decide)) (fun _ => ?_)
    refine lv_iinc (v := 2) (lv' := [(5, .int 2), (0, .ref (y 0)), (1, .int (nI a)), (2, .int (nI b)), (3, .int 1), (4, .int 5)]) hx hb dX8_wordAt_33 hl (k := 0) rfl (by decide) (by decide) rfl (fun ls hl => ?_)
    refine lv_goto (tgt := 18) hx hb dX8_wordAt_36 (by decide) ?_
    refine lv_aload_n hx hb dX8_wordAt_18 rfl (lv_at hl 1 rfl) ?_
    refine va_get (D := D) (ci := 8) (v := .ref (y 17)) (C := RX8) (T := TX8) (N := 52) hx hb hts w_1 hown hK hP 0 rfl rfl 34 (by decide) w_2 (fun _ h9 => h9) rfl dX8_wordAt_19 ?_
    refine lv_iload hx hb dX8_wordAt_22 (lv_at hl 5 rfl) ?_
    refine lv_iload hx hb dX8_wordAt_24 (lv_at hl 0 rfl) ?_
    refine sv_iadd (v := 7) hx hb dX8_wordAt_26 (by decide) ?_
    refine sv_iald (v := 116) hx hb hK hP 2 1 rfl rfl (vp_in_iff.mpr (by decide)) (hwf 7 (by decide)) dX8_wordAt_27 ?_
    refine lv_bipush (v := 32) hx hb dX8_wordAt_28 (by decide) ?_
    refine lv_icmp_eq (tgt := 39) hx hb dX8_wordAt_30 (by decide) (fun h => absurd h (by decide)) (fun _ => ?_)
    refine lv_iinc (v := 3) (lv' := [(5, .int 3), (0, .ref (y 0)), (1, .int (nI a)), (2, .int (nI b)), (3, .int 1), (4, .int 5)]) hx hb dX8_wordAt_33 hl (k := 0) rfl (by decide) (by decide) rfl (fun ls hl => ?_)
    refine lv_goto (tgt := 18) hx hb dX8_wordAt_36 (by decide) ?_
    refine lv_aload_n hx hb dX8_wordAt_18 rfl (lv_at hl 1 rfl) ?_
    refine va_get (D := D) (ci := 8) (v := .ref (y 17)) (C := RX8) (T := TX8) (N := 52) hx hb hts w_1 hown hK hP 0 rfl rfl 34 (by decide) w_2 (fun _ h9 => h9) rfl dX8_wordAt_19 ?_
    refine lv_iload hx hb dX8_wordAt_22 (lv_at hl 5 rfl) ?_
    refine lv_iload hx hb dX8_wordAt_24 (lv_at hl 0 rfl) ?_
    refine sv_iadd (v := 8) hx hb dX8_wordAt_26 (by decide) ?_
    refine sv_iald (v := 101) hx hb hK hP 2 1 rfl rfl (vp_in_iff.mpr (by decide)) (hwf 8 (by decide)) dX8_wordAt_27 ?_
    refine lv_bipush (v := 32) hx hb dX8_wordAt_28 (by decide) ?_
    refine lv_icmp_eq (tgt := 39) hx hb dX8_wordAt_30 (by decide) (fun h => absurd h (by decide)) (fun _ => ?_)
    refine lv_iinc (v := 4) (lv' := [(5, .int 4), (0, .ref (y 0)), (1, .int (nI a)), (2, .int (nI b)), (3, .int 1), (4, .int 5)]) hx hb dX8_wordAt_33 hl (k := 0) rfl (by decide) (by decide) rfl (fun ls hl => ?_)
    refine lv_goto (tgt := 18) hx hb dX8_wordAt_36 (by decide) ?_
    refine lv_aload_n hx hb dX8_wordAt_18 rfl (lv_at hl 1 rfl) ?_
    refine va_get (D := D) (ci := 8) (v := .ref (y 17)) (C := RX8) (T := TX8) (N := 52) hx hb hts w_1 hown hK hP 0 rfl rfl 34 (by decide) w_2 (fun _ h9 => h9) rfl dX8_wordAt_19 ?_
    refine lv_iload hx hb dX8_wordAt_22 (lv_at hl 5 rfl) ?_
    refine lv_iload hx hb dX8_wordAt_24 (lv_at hl 0 rfl) ?_
    refine sv_iadd (v := 9) hx hb dX8_wordAt_26 (by decide) ?_
    refine sv_iald (v := 32) hx hb hK hP 2 1 rfl rfl (vp_in_iff.mpr (by decide)) (hwf 9 (by decide)) dX8_wordAt_27 ?_
    refine lv_bipush (v := 32) hx hb dX8_wordAt_28 (by decide) ?_
    refine lv_icmp_eq (tgt := 39) hx hb dX8_wordAt_30 (by decide) (fun _ => ?_) (fun h => absurd (by decide) h)
    refine lv_iload hx hb dX8_wordAt_39 (lv_at hl 0 rfl) ?_
    refine lv_iload_n hx hb dX8_wordAt_41 rfl (lv_at hl 3 rfl) ?_
    refine lv_iload_n hx hb dX8_wordAt_42 rfl (lv_at hl 2 rfl) ?_
    refine sv_isub (v := nI (b - a)) hx hb dX8_wordAt_43 (nI_subN hab) ?_
    refine lv_icmp_ne (tgt := 51) hx hb dX8_wordAt_44 (by decide) (fun c_44 => ?_) (fun c_44 => ?_)
    ·
      refine lv_iconst (v := 0) hx hb dX8_wordAt_51 (by decide) ?_
      refine lv_istore (lv' := [(6, .int 0), (5, .int 4), (0, .ref (y 0)), (1, .int (nI a)), (2, .int (nI b)), (3, .int 1), (4, .int 5)]) hx hb dX8_wordAt_52 hl (by decide) rfl (fun ls hl => ?_)
      refine lv_iconst (v := 0) hx hb dX8_wordAt_54 (by decide) ?_
      refine lv_istore (lv' := [(7, .int 0), (6, .int 0), (5, .int 4), (0, .ref (y 0)), (1, .int (nI a)), (2, .int (nI b)), (3, .int 1), (4, .int 5)]) hx hb dX8_wordAt_55 hl (by decide) rfl (fun ls hl => ?_)
      refine lv_iload hx hb dX8_wordAt_57 (lv_at hl 0 rfl) ?_
      refine lv_iload hx hb dX8_wordAt_59 (lv_at hl 2 rfl) ?_
      refine lv_icmp_ge (tgt := 104) hx hb dX8_wordAt_61 (by decide) (fun h => absurd h (by decide)) (fun _ => ?_)
      refine lv_iload hx hb dX8_wordAt_64 (lv_at hl 1 rfl) ?_
      refine lv_if_eq (tgt := 104) hx hb dX8_wordAt_66 (by decide) (fun _ => ?_) (fun h => absurd (by decide) h)
      refine lv_iload hx hb dX8_wordAt_104 (lv_at hl 1 rfl) ?_
      refine lv_if_eq (tgt := 111) hx hb dX8_wordAt_106 (by decide) (fun _ => ?_) (fun h => absurd (by decide) h)
      refine lv_iload hx hb dX8_wordAt_111 (lv_at hl 7 rfl) ?_
      refine lv_iload hx hb dX8_wordAt_113 (lv_at hl 2 rfl) ?_
      refine lv_iconst (v := 1) hx hb dX8_wordAt_115 (by decide) ?_
      refine sv_iadd (v := 5) hx hb dX8_wordAt_116 (by decide) ?_
      refine sv_iadd (v := 10) hx hb dX8_wordAt_117 (by decide) ?_
      refine lv_istore (lv' := [(4, .int 10), (7, .int 0), (6, .int 0), (5, .int 4), (0, .ref (y 0)), (1, .int (nI a)), (2, .int (nI b)), (3, .int 1)]) hx hb dX8_wordAt_118 hl (by decide) rfl (fun ls hl => ?_)
      refine lv_iinc (v := 2) (lv' := [(3, .int 2), (4, .int 10), (7, .int 0), (6, .int 0), (5, .int 4), (0, .ref (y 0)), (1, .int (nI a)), (2, .int (nI b))]) hx hb dX8_wordAt_120 hl (k := 7) rfl (by decide) (by decide) rfl (fun ls hl => ?_)
      refine lv_goto (tgt := 5) hx hb dX8_wordAt_123 (by decide) ?_
      exact J_2_10 (wn_s hN (fun h => c_44 (by rw [show b - a = 4 by have h9 : b = a + 4 := h.1; omega]; rfl))) ls (lv_sub hl [5, 6, 7, 0, 1] rfl)
    ·
      have hlen : b = a + 4 := by have h9 := (nI_eq (a := 4) (by decide) (by omega)).mp c_44; omega
      refine lv_iconst (v := 1) hx hb dX8_wordAt_47 (by decide) ?_
      refine lv_goto (tgt := 52) hx hb dX8_wordAt_48 (by decide) ?_
      refine lv_istore (lv' := [(6, .int 1), (5, .int 4), (0, .ref (y 0)), (1, .int (nI a)), (2, .int (nI b)), (3, .int 1), (4, .int 5)]) hx hb dX8_wordAt_52 hl (by decide) rfl (fun ls hl => ?_)
      refine lv_iconst (v := 0) hx hb dX8_wordAt_54 (by decide) ?_
      refine lv_istore (lv' := [(7, .int 0), (6, .int 1), (5, .int 4), (0, .ref (y 0)), (1, .int (nI a)), (2, .int (nI b)), (3, .int 1), (4, .int 5)]) hx hb dX8_wordAt_55 hl (by decide) rfl (fun ls hl => ?_)
      refine lv_iload hx hb dX8_wordAt_57 (lv_at hl 0 rfl) ?_
      refine lv_iload hx hb dX8_wordAt_59 (lv_at hl 2 rfl) ?_
      refine lv_icmp_ge (tgt := 104) hx hb dX8_wordAt_61 (by decide) (fun h => absurd h (by decide)) (fun _ => ?_)
      refine lv_iload hx hb dX8_wordAt_64 (lv_at hl 1 rfl) ?_
      refine lv_if_eq (tgt := 104) hx hb dX8_wordAt_66 (by decide) (fun h => absurd h (by decide)) (fun _ => ?_)
      refine lv_aload_n hx hb dX8_wordAt_69 rfl (lv_at hl 3 rfl) ?_
      refine va_get (D := D) (ci := 8) (v := .ref (y 17)) (C := RX8) (T := TX8) (N := 52) hx hb hts w_1 hown hK hP 0 rfl rfl 34 (by decide) w_2 (fun _ h9 => h9) rfl dX8_wordAt_70 ?_
      refine lv_iload hx hb dX8_wordAt_73 (lv_at hl 7 rfl) ?_
      refine lv_iload hx hb dX8_wordAt_75 (lv_at hl 0 rfl) ?_
      refine sv_iadd (v := 5) hx hb dX8_wordAt_77 (by decide) ?_
      refine sv_iald (v := 118) hx hb hK hP 2 1 rfl rfl (vp_in_iff.mpr (by decide)) (hwf 5 (by decide)) dX8_wordAt_78 ?_
      refine lv_aload_n hx hb dX8_wordAt_79 rfl (lv_at hl 3 rfl) ?_
      refine va_get (D := D) (ci := 8) (v := .ref (y 1)) (C := RX8) (T := TX8) (N := 52) hx hb hts w_1 hown hK hP 0 rfl rfl 0 (by decide) w_3 (fun _ h9 => h9) rfl dX8_wordAt_80 ?_
      refine lv_iload_n hx hb dX8_wordAt_83 rfl (lv_at hl 4 rfl) ?_
      refine lv_iload hx hb dX8_wordAt_84 (lv_at hl 0 rfl) ?_
      refine sv_iadd (v := nI (a + 0)) hx hb dX8_wordAt_86 (ax_add a 0) ?_
      refine sv_iald (v := m_tape (a + 0)) hx hb hK hP 1 1 rfl rfl (vp_in_nI (by omega) (by decide)) (congrArg _ (nI_clamp (by omega))) dX8_wordAt_87 ?_
      refine lv_icmp_ne (tgt := 95) hx hb dX8_wordAt_88 (by decide) (fun c_88 => ?_) (fun c_88 => ?_)
      ·
        refine lv_iconst (v := 0) hx hb dX8_wordAt_95 (by decide) ?_
        refine lv_istore (lv' := [(6, .int 0), (7, .int 0), (5, .int 4), (0, .ref (y 0)), (1, .int (nI a)), (2, .int (nI b)), (3, .int 1), (4, .int 5)]) hx hb dX8_wordAt_96 hl (by decide) rfl (fun ls hl => ?_)
        refine lv_iinc (v := 1) (lv' := [(7, .int 1), (6, .int 0), (5, .int 4), (0, .ref (y 0)), (1, .int (nI a)), (2, .int (nI b)), (3, .int 1), (4, .int 5)]) hx hb dX8_wordAt_98 hl (k := 1) rfl (by decide) (by decide) rfl (fun ls hl => ?_)
        refine lv_goto (tgt := 57) hx hb dX8_wordAt_101 (by decide) ?_
        refine lv_iload hx hb dX8_wordAt_57 (lv_at hl 0 rfl) ?_
        refine lv_iload hx hb dX8_wordAt_59 (lv_at hl 2 rfl) ?_
        refine lv_icmp_ge (tgt := 104) hx hb dX8_wordAt_61 (by decide) (fun h => absurd h (by decide)) (fun _ => ?_)
        refine lv_iload hx hb dX8_wordAt_64 (lv_at hl 1 rfl) ?_
        refine lv_if_eq (tgt := 104) hx hb dX8_wordAt_66 (by decide) (fun _ => ?_) (fun h => absurd (by decide) h)
        refine lv_iload hx hb dX8_wordAt_104 (lv_at hl 1 rfl) ?_
        refine lv_if_eq (tgt := 111) hx hb dX8_wordAt_106 (by decide) (fun _ => ?_) (fun h => absurd (by decide) h)
        refine lv_iload hx hb dX8_wordAt_111 (lv_at hl 7 rfl) ?_
        refine lv_iload hx hb dX8_wordAt_113 (lv_at hl 2 rfl) ?_
        refine lv_iconst (v := 1) hx hb dX8_wordAt_115 (by decide) ?_
        refine sv_iadd (v := 5) hx hb dX8_wordAt_116 (by decide) ?_
        refine sv_iadd (v := 10) hx hb dX8_wordAt_117 (by decide) ?_
        refine lv_istore (lv' := [(4, .int 10), (7, .int 1), (6, .int 0), (5, .int 4), (0, .ref (y 0)), (1, .int (nI a)), (2, .int (nI b)), (3, .int 1)]) hx hb dX8_wordAt_118 hl (by decide) rfl (fun ls hl => ?_)
        refine lv_iinc (v := 2) (lv' := [(3, .int 2), (4, .int 10), (7, .int 1), (6, .int 0), (5, .int 4), (0, .ref (y 0)), (1, .int (nI a)), (2, .int (nI b))]) hx hb dX8_wordAt_120 hl (k := 7) rfl (by decide) (by decide) rfl (fun ls hl => ?_)
        refine lv_goto (tgt := 5) hx hb dX8_wordAt_123 (by decide) ?_
        exact J_2_10 (wn_s hN (fun h => c_88 (h.2 0 (by decide)).symm)) ls (lv_sub hl [5, 6, 7, 0, 1] rfl)
      ·
        have he_0 := c_88
        refine lv_iconst (v := 1) hx hb dX8_wordAt_91 (by decide) ?_
        refine lv_goto (tgt := 96) hx hb dX8_wordAt_92 (by decide) ?_
        refine lv_istore (lv' := [(6, .int 1), (7, .int 0), (5, .int 4), (0, .ref (y 0)), (1, .int (nI a)), (2, .int (nI b)), (3, .int 1), (4, .int 5)]) hx hb dX8_wordAt_96 hl (by decide) rfl (fun ls hl => ?_)
        refine lv_iinc (v := 1) (lv' := [(7, .int 1), (6, .int 1), (5, .int 4), (0, .ref (y 0)), (1, .int (nI a)), (2, .int (nI b)), (3, .int 1), (4, .int 5)]) hx hb dX8_wordAt_98 hl (k := 1) rfl (by decide) (by decide) rfl (fun ls hl => ?_)
        refine lv_goto (tgt := 57) hx hb dX8_wordAt_101 (by decide) ?_
        refine lv_iload hx hb dX8_wordAt_57 (lv_at hl 0 rfl) ?_
        refine lv_iload hx hb dX8_wordAt_59 (lv_at hl 2 rfl) ?_
        refine lv_icmp_ge (tgt := 104) hx hb dX8_wordAt_61 (by decide) (fun h => absurd h (by decide)) (fun _ => ?_)
        refine lv_iload hx hb dX8_wordAt_64 (lv_at hl 1 rfl) ?_
        refine lv_if_eq (tgt := 104) hx hb dX8_wordAt_66 (by decide) (fun h => absurd h (by decide)) (fun _ => ?_)
        refine lv_aload_n hx hb dX8_wordAt_69 rfl (lv_at hl 3 rfl) ?_
        refine va_get (D := D) (ci := 8) (v := .ref (y 17)) (C := RX8) (T := TX8) (N := 52) hx hb hts w_1 hown hK hP 0 rfl rfl 34 (by decide) w_2 (fun _ h9 => h9) rfl dX8_wordAt_70 ?_
        refine lv_iload hx hb dX8_wordAt_73 (lv_at hl 7 rfl) ?_
        refine lv_iload hx hb dX8_wordAt_75 (lv_at hl 0 rfl) ?_
        refine sv_iadd (v := 6) hx hb dX8_wordAt_77 (by decide) ?_
        refine sv_iald (v := 111) hx hb hK hP 2 1 rfl rfl (vp_in_iff.mpr (by decide)) (hwf 6 (by decide)) dX8_wordAt_78 ?_
        refine lv_aload_n hx hb dX8_wordAt_79 rfl (lv_at hl 3 rfl) ?_
        refine va_get (D := D) (ci := 8) (v := .ref (y 1)) (C := RX8) (T := TX8) (N := 52) hx hb hts w_1 hown hK hP 0 rfl rfl 0 (by decide) w_3 (fun _ h9 => h9) rfl dX8_wordAt_80 ?_
        refine lv_iload_n hx hb dX8_wordAt_83 rfl (lv_at hl 4 rfl) ?_
        refine lv_iload hx hb dX8_wordAt_84 (lv_at hl 0 rfl) ?_
        refine sv_iadd (v := nI (a + 1)) hx hb dX8_wordAt_86 (ax_add a 1) ?_
        refine sv_iald (v := m_tape (a + 1)) hx hb hK hP 1 1 rfl rfl (vp_in_nI (by omega) (by decide)) (congrArg _ (nI_clamp (by omega))) dX8_wordAt_87 ?_
        refine lv_icmp_ne (tgt := 95) hx hb dX8_wordAt_88 (by decide) (fun c_88 => ?_) (fun c_88 => ?_)
        ·
          refine lv_iconst (v := 0) hx hb dX8_wordAt_95 (by decide) ?_
          refine lv_istore (lv' := [(6, .int 0), (7, .int 1), (5, .int 4), (0, .ref (y 0)), (1, .int (nI a)), (2, .int (nI b)), (3, .int 1), (4, .int 5)]) hx hb dX8_wordAt_96 hl (by decide) rfl (fun ls hl => ?_)
          refine lv_iinc (v := 2) (lv' := [(7, .int 2), (6, .int 0), (5, .int 4), (0, .ref (y 0)), (1, .int (nI a)), (2, .int (nI b)), (3, .int 1), (4, .int 5)]) hx hb dX8_wordAt_98 hl (k := 1) rfl (by decide) (by decide) rfl (fun ls hl => ?_)
          refine lv_goto (tgt := 57) hx hb dX8_wordAt_101 (by decide) ?_
          refine lv_iload hx hb dX8_wordAt_57 (lv_at hl 0 rfl) ?_
          refine lv_iload hx hb dX8_wordAt_59 (lv_at hl 2 rfl) ?_
          refine lv_icmp_ge (tgt := 104) hx hb dX8_wordAt_61 (by decide) (fun h => absurd h (by decide)) (fun _ => ?_)
          refine lv_iload hx hb dX8_wordAt_64 (lv_at hl 1 rfl) ?_
          refine lv_if_eq (tgt := 104) hx hb dX8_wordAt_66 (by decide) (fun _ => ?_) (fun h => absurd (by decide) h)
          refine lv_iload hx hb dX8_wordAt_104 (lv_at hl 1 rfl) ?_
          refine lv_if_eq (tgt := 111) hx hb dX8_wordAt_106 (by decide) (fun _ => ?_) (fun h => absurd (by decide) h)
          refine lv_iload hx hb dX8_wordAt_111 (lv_at hl 7 rfl) ?_
          refine lv_iload hx hb dX8_wordAt_113 (lv_at hl 2 rfl) ?_
          refine lv_iconst (v := 1) hx hb dX8_wordAt_115 (by decide) ?_
          refine sv_iadd (v := 5) hx hb dX8_wordAt_116 (by decide) ?_
          refine sv_iadd (v := 10) hx hb dX8_wordAt_117 (by decide) ?_
          refine lv_istore (lv' := [(4, .int 10), (7, .int 2), (6, .int 0), (5, .int 4), (0, .ref (y 0)), (1, .int (nI a)), (2, .int (nI b)), (3, .int 1)]) hx hb dX8_wordAt_118 hl (by decide) rfl (fun ls hl => ?_)
          refine lv_iinc (v := 2) (lv' := [(3, .int 2), (4, .int 10), (7, .int 2), (6, .int 0), (5, .int 4), (0, .ref (y 0)), (1, .int (nI a)), (2, .int (nI b))]) hx hb dX8_wordAt_120 hl (k := 7) rfl (by decide) (by decide) rfl (fun ls hl => ?_)
          refine lv_goto (tgt := 5) hx hb dX8_wordAt_123 (by decide) ?_
          exact J_2_10 (wn_s hN (fun h => c_88 (h.2 1 (by decide)).symm)) ls (lv_sub hl [5, 6, 7, 0, 1] rfl)
        ·
          have he_1 := c_88
          refine lv_iconst (v := 1) hx hb dX8_wordAt_91 (by decide) ?_
          refine lv_goto (tgt := 96) hx hb dX8_wordAt_92 (by decide) ?_
          refine lv_istore (lv' := [(6, .int 1), (7, .int 1), (5, .int 4), (0, .ref (y 0)), (1, .int (nI a)), (2, .int (nI b)), (3, .int 1), (4, .int 5)]) hx hb dX8_wordAt_96 hl (by decide) rfl (fun ls hl => ?_)
          refine lv_iinc (v := 2) (lv' := [(7, .int 2), (6, .int 1), (5, .int 4), (0, .ref (y 0)), (1, .int (nI a)), (2, .int (nI b)), (3, .int 1), (4, .int 5)]) hx hb dX8_wordAt_98 hl (k := 1) rfl (by decide) (by decide) rfl (fun ls hl => ?_)
          refine lv_goto (tgt := 57) hx hb dX8_wordAt_101 (by decide) ?_
          refine lv_iload hx hb dX8_wordAt_57 (lv_at hl 0 rfl) ?_
          refine lv_iload hx hb dX8_wordAt_59 (lv_at hl 2 rfl) ?_
          refine lv_icmp_ge (tgt := 104) hx hb dX8_wordAt_61 (by decide) (fun h => absurd h (by decide)) (fun _ => ?_)
          refine lv_iload hx hb dX8_wordAt_64 (lv_at hl 1 rfl) ?_
          refine lv_if_eq (tgt := 104) hx hb dX8_wordAt_66 (by decide) (fun h => absurd h (by decide)) (fun _ => ?_)
          refine lv_aload_n hx hb dX8_wordAt_69 rfl (lv_at hl 3 rfl) ?_
          refine va_get (D := D) (ci := 8) (v := .ref (y 17)) (C := RX8) (T := TX8) (N := 52) hx hb hts w_1 hown hK hP 0 rfl rfl 34 (by decide) w_2 (fun _ h9 => h9) rfl dX8_wordAt_70 ?_
          refine lv_iload hx hb dX8_wordAt_73 (lv_at hl 7 rfl) ?_
          refine lv_iload hx hb dX8_wordAt_75 (lv_at hl 0 rfl) ?_
          refine sv_iadd (v := 7) hx hb dX8_wordAt_77 (by decide) ?_
          refine sv_iald (v := 116) hx hb hK hP 2 1 rfl rfl (vp_in_iff.mpr (by decide)) (hwf 7 (by decide)) dX8_wordAt_78 ?_
          refine lv_aload_n hx hb dX8_wordAt_79 rfl (lv_at hl 3 rfl) ?_
          refine va_get (D := D) (ci := 8) (v := .ref (y 1)) (C := RX8) (T := TX8) (N := 52) hx hb hts w_1 hown hK hP 0 rfl rfl 0 (by decide) w_3 (fun _ h9 => h9) rfl dX8_wordAt_80 ?_
          refine lv_iload_n hx hb dX8_wordAt_83 rfl (lv_at hl 4 rfl) ?_
          refine lv_iload hx hb dX8_wordAt_84 (lv_at hl 0 rfl) ?_
          refine sv_iadd (v := nI (a + 2)) hx hb dX8_wordAt_86 (ax_add a 2) ?_
          refine sv_iald (v := m_tape (a + 2)) hx hb hK hP 1 1 rfl rfl (vp_in_nI (by omega) (by decide)) (congrArg _ (nI_clamp (by omega))) dX8_wordAt_87 ?_
          refine lv_icmp_ne (tgt := 95) hx hb dX8_wordAt_88 (by decide) (fun c_88 => ?_) (fun c_88 => ?_)
          ·
            refine lv_iconst (v := 0) hx hb dX8_wordAt_95 (by decide) ?_
            refine lv_istore (lv' := [(6, .int 0), (7, .int 2), (5, .int 4), (0, .ref (y 0)), (1, .int (nI a)), (2, .int (nI b)), (3, .int 1), (4, .int 5)]) hx hb dX8_wordAt_96 hl (by decide) rfl (fun ls hl => ?_)
            refine lv_iinc (v := 3) (lv' := [(7, .int 3), (6, .int 0), (5, .int 4), (0, .ref (y 0)), (1, .int (nI a)), (2, .int (nI b)), (3, .int 1), (4, .int 5)]) hx hb dX8_wordAt_98 hl (k := 1) rfl (by decide) (by decide) rfl (fun ls hl => ?_)
            refine lv_goto (tgt := 57) hx hb dX8_wordAt_101 (by decide) ?_
            refine lv_iload hx hb dX8_wordAt_57 (lv_at hl 0 rfl) ?_
            refine lv_iload hx hb dX8_wordAt_59 (lv_at hl 2 rfl) ?_
            refine lv_icmp_ge (tgt := 104) hx hb dX8_wordAt_61 (by decide) (fun h => absurd h (by decide)) (fun _ => ?_)
            refine lv_iload hx hb dX8_wordAt_64 (lv_at hl 1 rfl) ?_
            refine lv_if_eq (tgt := 104) hx hb dX8_wordAt_66 (by decide) (fun _ => ?_) (fun h => absurd (by decide) h)
            refine lv_iload hx hb dX8_wordAt_104 (lv_at hl 1 rfl) ?_
            refine lv_if_eq (tgt := 111) hx hb dX8_wordAt_106 (by decide) (fun _ => ?_) (fun h => absurd (by decide) h)
            refine lv_iload hx hb dX8_wordAt_111 (lv_at hl 7 rfl) ?_
            refine lv_iload hx hb dX8_wordAt_113 (lv_at hl 2 rfl) ?_
            refine lv_iconst (v := 1) hx hb dX8_wordAt_115 (by decide) ?_
            refine sv_iadd (v := 5) hx hb dX8_wordAt_116 (by decide) ?_
            refine sv_iadd (v := 10) hx hb dX8_wordAt_117 (by decide) ?_
            refine lv_istore (lv' := [(4, .int 10), (7, .int 3), (6, .int 0), (5, .int 4), (0, .ref (y 0)), (1, .int (nI a)), (2, .int (nI b)), (3, .int 1)]) hx hb dX8_wordAt_118 hl (by decide) rfl (fun ls hl => ?_)
            refine lv_iinc (v := 2) (lv' := [(3, .int 2), (4, .int 10), (7, .int 3), (6, .int 0), (5, .int 4), (0, .ref (y 0)), (1, .int (nI a)), (2, .int (nI b))]) hx hb dX8_wordAt_120 hl (k := 7) rfl (by decide) (by decide) rfl (fun ls hl => ?_)
            refine lv_goto (tgt := 5) hx hb dX8_wordAt_123 (by decide) ?_
            exact J_2_10 (wn_s hN (fun h => c_88 (h.2 2 (by decide)).symm)) ls (lv_sub hl [5, 6, 7, 0, 1] rfl)
          ·
            have he_2 := c_88
            refine lv_iconst (v := 1) hx hb dX8_wordAt_91 (by decide) ?_
            refine lv_goto (tgt := 96) hx hb dX8_wordAt_92 (by decide) ?_
            refine lv_istore (lv' := [(6, .int 1), (7, .int 2), (5, .int 4), (0, .ref (y 0)), (1, .int (nI a)), (2, .int (nI b)), (3, .int 1), (4, .int 5)]) hx hb dX8_wordAt_96 hl (by decide) rfl (fun ls hl => ?_)
            refine lv_iinc (v := 3) (lv' := [(7, .int 3), (6, .int 1), (5, .int 4), (0, .ref (y 0)), (1, .int (nI a)), (2, .int (nI b)), (3, .int 1), (4, .int 5)]) hx hb dX8_wordAt_98 hl (k := 1) rfl (by decide) (by decide) rfl (fun ls hl => ?_)
            refine lv_goto (tgt := 57) hx hb dX8_wordAt_101 (by decide) ?_
            refine lv_iload hx hb dX8_wordAt_57 (lv_at hl 0 rfl) ?_
            refine lv_iload hx hb dX8_wordAt_59 (lv_at hl 2 rfl) ?_
            refine lv_icmp_ge (tgt := 104) hx hb dX8_wordAt_61 (by decide) (fun h => absurd h (by decide)) (fun _ => ?_)
            refine lv_iload hx hb dX8_wordAt_64 (lv_at hl 1 rfl) ?_
            refine lv_if_eq (tgt := 104) hx hb dX8_wordAt_66 (by decide) (fun h => absurd h (by decide)) (fun _ => ?_)
            refine lv_aload_n hx hb dX8_wordAt_69 rfl (lv_at hl 3 rfl) ?_
            refine va_get (D := D) (ci := 8) (v := .ref (y 17)) (C := RX8) (T := TX8) (N := 52) hx hb hts w_1 hown hK hP 0 rfl rfl 34 (by decide) w_2 (fun _ h9 => h9) rfl dX8_wordAt_70 ?_
            refine lv_iload hx hb dX8_wordAt_73 (lv_at hl 7 rfl) ?_
            refine lv_iload hx hb dX8_wordAt_75 (lv_at hl 0 rfl) ?_
            refine sv_iadd (v := 8) hx hb dX8_wordAt_77 (by decide) ?_
            refine sv_iald (v := 101) hx hb hK hP 2 1 rfl rfl (vp_in_iff.mpr (by decide)) (hwf 8 (by decide)) dX8_wordAt_78 ?_
            refine lv_aload_n hx hb dX8_wordAt_79 rfl (lv_at hl 3 rfl) ?_
            refine va_get (D := D) (ci := 8) (v := .ref (y 1)) (C := RX8) (T := TX8) (N := 52) hx hb hts w_1 hown hK hP 0 rfl rfl 0 (by decide) w_3 (fun _ h9 => h9) rfl dX8_wordAt_80 ?_
            refine lv_iload_n hx hb dX8_wordAt_83 rfl (lv_at hl 4 rfl) ?_
            refine lv_iload hx hb dX8_wordAt_84 (lv_at hl 0 rfl) ?_
            refine sv_iadd (v := nI (a + 3)) hx hb dX8_wordAt_86 (ax_add a 3) ?_
            refine sv_iald (v := m_tape (a + 3)) hx hb hK hP 1 1 rfl rfl (vp_in_nI (by omega) (by decide)) (congrArg _ (nI_clamp (by omega))) dX8_wordAt_87 ?_
            refine lv_icmp_ne (tgt := 95) hx hb dX8_wordAt_88 (by decide) (fun c_88 => ?_) (fun c_88 => ?_)
            ·
              refine lv_iconst (v := 0) hx hb dX8_wordAt_95 (by decide) ?_
              refine lv_istore (lv' := [(6, .int 0), (7, .int 3), (5, .int 4), (0, .ref (y 0)), (1, .int (nI a)), (2, .int (nI b)), (3, .int 1), (4, .int 5)]) hx hb dX8_wordAt_96 hl (by decide) rfl (fun ls hl => ?_)
              refine lv_iinc (v := 4) (lv' := [(7, .int 4), (6, .int 0), (5, .int 4), (0, .ref (y 0)), (1, .int (nI a)), (2, .int (nI b)), (3, .int 1), (4, .int 5)]) hx hb dX8_wordAt_98 hl (k := 1) rfl (by decide) (by decide) rfl (fun ls hl => ?_)
              refine lv_goto (tgt := 57) hx hb dX8_wordAt_101 (by decide) ?_
              refine lv_iload hx hb dX8_wordAt_57 (lv_at hl 0 rfl) ?_
              refine lv_iload hx hb dX8_wordAt_59 (lv_at hl 2 rfl) ?_
              refine lv_icmp_ge (tgt := 104) hx hb dX8_wordAt_61 (by decide) (fun _ => ?_) (fun h => absurd (by decide) h)
              refine lv_iload hx hb dX8_wordAt_104 (lv_at hl 1 rfl) ?_
              refine lv_if_eq (tgt := 111) hx hb dX8_wordAt_106 (by decide) (fun _ => ?_) (fun h => absurd (by decide) h)
              refine lv_iload hx hb dX8_wordAt_111 (lv_at hl 7 rfl) ?_
              refine lv_iload hx hb dX8_wordAt_113 (lv_at hl 2 rfl) ?_
              refine lv_iconst (v := 1) hx hb dX8_wordAt_115 (by decide) ?_
              refine sv_iadd (v := 5) hx hb dX8_wordAt_116 (by decide) ?_
              refine sv_iadd (v := 10) hx hb dX8_wordAt_117 (by decide) ?_
              refine lv_istore (lv' := [(4, .int 10), (7, .int 4), (6, .int 0), (5, .int 4), (0, .ref (y 0)), (1, .int (nI a)), (2, .int (nI b)), (3, .int 1)]) hx hb dX8_wordAt_118 hl (by decide) rfl (fun ls hl => ?_)
              refine lv_iinc (v := 2) (lv' := [(3, .int 2), (4, .int 10), (7, .int 4), (6, .int 0), (5, .int 4), (0, .ref (y 0)), (1, .int (nI a)), (2, .int (nI b))]) hx hb dX8_wordAt_120 hl (k := 7) rfl (by decide) (by decide) rfl (fun ls hl => ?_)
              refine lv_goto (tgt := 5) hx hb dX8_wordAt_123 (by decide) ?_
              exact J_2_10 (wn_s hN (fun h => c_88 (h.2 3 (by decide)).symm)) ls (lv_sub hl [5, 6, 7, 0, 1] rfl)
            ·
              have he_3 := c_88
              refine lv_iconst (v := 1) hx hb dX8_wordAt_91 (by decide) ?_
              refine lv_goto (tgt := 96) hx hb dX8_wordAt_92 (by decide) ?_
              refine lv_istore (lv' := [(6, .int 1), (7, .int 3), (5, .int 4), (0, .ref (y 0)), (1, .int (nI a)), (2, .int (nI b)), (3, .int 1), (4, .int 5)]) hx hb dX8_wordAt_96 hl (by decide) rfl (fun ls hl => ?_)
              refine lv_iinc (v := 4) (lv' := [(7, .int 4), (6, .int 1), (5, .int 4), (0, .ref (y 0)), (1, .int (nI a)), (2, .int (nI b)), (3, .int 1), (4, .int 5)]) hx hb dX8_wordAt_98 hl (k := 1) rfl (by decide) (by decide) rfl (fun ls hl => ?_)
              refine lv_goto (tgt := 57) hx hb dX8_wordAt_101 (by decide) ?_
              refine lv_iload hx hb dX8_wordAt_57 (lv_at hl 0 rfl) ?_
              refine lv_iload hx hb dX8_wordAt_59 (lv_at hl 2 rfl) ?_
              refine lv_icmp_ge (tgt := 104) hx hb dX8_wordAt_61 (by decide) (fun _ => ?_) (fun h => absurd (by decide) h)
              refine lv_iload hx hb dX8_wordAt_104 (lv_at hl 1 rfl) ?_
              refine lv_if_eq (tgt := 111) hx hb dX8_wordAt_106 (by decide) (fun h => absurd h (by decide)) (fun _ => ?_)
              refine lv_iload_n hx hb dX8_wordAt_109 rfl (lv_at hl 6 rfl) ?_
              rw [← hQ]
              exact W.iret (v := 1) hx hb hr (fun t ht hW => ⟨_, rfl, Or.inl (wa_y (w := 1) (by decide) ⟨hlen, fun j hj => by match j, hj with | 0, _ => exact he_0.symm | 1, _ => exact he_1.symm | 2, _ => exact he_2.symm | 3, _ => exact he_3.symm | j + 4, hj => exact absurd hj (show ¬ j + 4 < 4 by omega)⟩ rfl), ht⟩) (fun q h => nomatch h) dX8_wordAt_110
  have J_0_0 : (∀ i, i < 0 → ¬ wdP m_tape a b i) → ∀ (ls : Array Slot), lv_has ls 8 [(0, .ref (y 0)), (1, .int (nI a)), (2, .int (nI b)), (3, .int 0), (4, .int 0)] → W p l e (headSpec wsX8_wordAt ({ frames := 0, cells := 0, slots := 0, locals := 0 } : Room)).room s m ([.ref (y 0), .int (nI a), .int (nI b)] : List Value).toArray below meth c s.heap [] 0 0 Q0 (F0 m 5 ls []) := by
    intro hN ls hl
    refine lv_iload hx hb dX8_wordAt_5 (lv_at hl 4 rfl) ?_
    refine lv_aload_n hx hb dX8_wordAt_7 rfl (lv_at hl 0 rfl) ?_
    refine va_get (D := D) (ci := 8) (v := .ref (y 17)) (C := RX8) (T := TX8) (N := 52) hx hb hts w_1 hown hK hP 0 rfl rfl 34 (by decide) w_2 (fun _ h9 => h9) rfl dX8_wordAt_8 ?_
    refine va_alen (v := 43) hx hb hK hP 2 1 rfl rfl rfl dX8_wordAt_11 ?_
    refine lv_icmp_ge (tgt := 126) hx hb dX8_wordAt_12 (by decide) (fun h => absurd h (by decide)) (fun _ => ?_)
    refine lv_iconst (v := 0) hx hb dX8_wordAt_15 (by decide) ?_
    refine lv_istore (lv' := [(5, .int 0), (0, .ref (y 0)), (1, .int (nI a)), (2, .int (nI b)), (3, .int 0), (4, .int 0)]) hx hb dX8_wordAt_16 hl (by decide) rfl (fun ls hl => ?_)
    refine lv_aload_n hx hb dX8_wordAt_18 rfl (lv_at hl 1 rfl) ?_
    refine va_get (D := D) (ci := 8) (v := .ref (y 17)) (C := RX8) (T := TX8) (N := 52) hx hb hts w_1 hown hK hP 0 rfl rfl 34 (by decide) w_2 (fun _ h9 => h9) rfl dX8_wordAt_19 ?_
    refine lv_iload hx hb dX8_wordAt_22 (lv_at hl 5 rfl) ?_
    refine lv_iload hx hb dX8_wordAt_24 (lv_at hl 0 rfl) ?_
    refine sv_iadd (v := 0) hx hb dX8_wordAt_26 (by decide) ?_
    refine sv_iald (v := 116) hx hb hK hP 2 1 rfl rfl (vp_in_iff.mpr (by decide)) (hwf 0 (by decide)) dX8_wordAt_27 ?_
    refine lv_bipush (v := 32) hx hb dX8_wordAt_28 (by decide) ?_
    refine lv_icmp_eq (tgt := 39) hx hb dX8_wordAt_30 (by decide) (fun h => absurd h (by decide)) (fun _ => ?_)
    refine lv_iinc (v := 1) (lv' := [(5, .int 1), (0, .ref (y 0)), (1, .int (nI a)), (2, .int (nI b)), (3, .int 0), (4, .int 0)]) hx hb dX8_wordAt_33 hl (k := 0) rfl (by decide) (by decide) rfl (fun ls hl => ?_)
    refine lv_goto (tgt := 18) hx hb dX8_wordAt_36 (by decide) ?_
    refine lv_aload_n hx hb dX8_wordAt_18 rfl (lv_at hl 1 rfl) ?_
    refine va_get (D := D) (ci := 8) (v := .ref (y 17)) (C := RX8) (T := TX8) (N := 52) hx hb hts w_1 hown hK hP 0 rfl rfl 34 (by decide) w_2 (fun _ h9 => h9) rfl dX8_wordAt_19 ?_
    refine lv_iload hx hb dX8_wordAt_22 (lv_at hl 5 rfl) ?_
    refine lv_iload hx hb dX8_wordAt_24 (lv_at hl 0 rfl) ?_
    refine sv_iadd (v := 1) hx hb dX8_wordAt_26 (by decide) ?_
    refine sv_iald (v := 117) hx hb hK hP 2 1 rfl rfl (vp_in_iff.mpr (by decide)) (hwf 1 (by decide)) dX8_wordAt_27 ?_
    refine lv_bipush (v := 32) hx hb dX8_wordAt_28 (by decide) ?_
    refine lv_icmp_eq (tgt := 39) hx hb dX8_wordAt_30 (by decide) (fun h => absurd h (by decide)) (fun _ => ?_)
    refine lv_iinc (v := 2) (lv' := [(5, .int 2), (0, .ref (y 0)), (1, .int (nI a)), (2, .int (nI b)), (3, .int 0), (4, .int 0)]) hx hb dX8_wordAt_33 hl (k := 0) rfl (by decide) (by decide) rfl (fun ls hl => ?_)
    refine lv_goto (tgt := 18) hx hb dX8_wordAt_36 (by decide) ?_
    refine lv_aload_n hx hb dX8_wordAt_18 rfl (lv_at hl 1 rfl) ?_
    refine va_get (D := D) (ci := 8) (v := .ref (y 17)) (C := RX8) (T := TX8) (N := 52) hx hb hts w_1 hown hK hP 0 rfl rfl 34 (by decide) w_2 (fun _ h9 => h9) rfl dX8_wordAt_19 ?_
    refine lv_iload hx hb dX8_wordAt_22 (lv_at hl 5 rfl) ?_
    refine lv_iload hx hb dX8_wordAt_24 (lv_at hl 0 rfl) ?_
    refine sv_iadd (v := 2) hx hb dX8_wordAt_26 (by decide) ?_
    refine sv_iald (v := 114) hx hb hK hP 2 1 rfl rfl (vp_in_iff.mpr (by decide)) (hwf 2 (by decide)) dX8_wordAt_27 ?_
    refine lv_bipush (v := 32) hx hb dX8_wordAt_28 (by decide) ?_
    refine lv_icmp_eq (tgt := 39) hx hb dX8_wordAt_30 (by decide) (fun h => absurd h (by decide)) (fun _ => ?_)
    refine lv_iinc (v := 3) (lv' := [(5, .int 3), (0, .ref (y 0)), (1, .int (nI a)), (2, .int (nI b)), (3, .int 0), (4, .int 0)]) hx hb dX8_wordAt_33 hl (k := 0) rfl (by decide) (by decide) rfl (fun ls hl => ?_)
    refine lv_goto (tgt := 18) hx hb dX8_wordAt_36 (by decide) ?_
    refine lv_aload_n hx hb dX8_wordAt_18 rfl (lv_at hl 1 rfl) ?_
    refine va_get (D := D) (ci := 8) (v := .ref (y 17)) (C := RX8) (T := TX8) (N := 52) hx hb hts w_1 hown hK hP 0 rfl rfl 34 (by decide) w_2 (fun _ h9 => h9) rfl dX8_wordAt_19 ?_
    refine lv_iload hx hb dX8_wordAt_22 (lv_at hl 5 rfl) ?_
    refine lv_iload hx hb dX8_wordAt_24 (lv_at hl 0 rfl) ?_
    refine sv_iadd (v := 3) hx hb dX8_wordAt_26 (by decide) ?_
    refine sv_iald (v := 110) hx hb hK hP 2 1 rfl rfl (vp_in_iff.mpr (by decide)) (hwf 3 (by decide)) dX8_wordAt_27 ?_
    refine lv_bipush (v := 32) hx hb dX8_wordAt_28 (by decide) ?_
    refine lv_icmp_eq (tgt := 39) hx hb dX8_wordAt_30 (by decide) (fun h => absurd h (by decide)) (fun _ => ?_)
    refine lv_iinc (v := 4) (lv' := [(5, .int 4), (0, .ref (y 0)), (1, .int (nI a)), (2, .int (nI b)), (3, .int 0), (4, .int 0)]) hx hb dX8_wordAt_33 hl (k := 0) rfl (by decide) (by decide) rfl (fun ls hl => ?_)
    refine lv_goto (tgt := 18) hx hb dX8_wordAt_36 (by decide) ?_
    refine lv_aload_n hx hb dX8_wordAt_18 rfl (lv_at hl 1 rfl) ?_
    refine va_get (D := D) (ci := 8) (v := .ref (y 17)) (C := RX8) (T := TX8) (N := 52) hx hb hts w_1 hown hK hP 0 rfl rfl 34 (by decide) w_2 (fun _ h9 => h9) rfl dX8_wordAt_19 ?_
    refine lv_iload hx hb dX8_wordAt_22 (lv_at hl 5 rfl) ?_
    refine lv_iload hx hb dX8_wordAt_24 (lv_at hl 0 rfl) ?_
    refine sv_iadd (v := 4) hx hb dX8_wordAt_26 (by decide) ?_
    refine sv_iald (v := 32) hx hb hK hP 2 1 rfl rfl (vp_in_iff.mpr (by decide)) (hwf 4 (by decide)) dX8_wordAt_27 ?_
    refine lv_bipush (v := 32) hx hb dX8_wordAt_28 (by decide) ?_
    refine lv_icmp_eq (tgt := 39) hx hb dX8_wordAt_30 (by decide) (fun _ => ?_) (fun h => absurd (by decide) h)
    refine lv_iload hx hb dX8_wordAt_39 (lv_at hl 0 rfl) ?_
    refine lv_iload_n hx hb dX8_wordAt_41 rfl (lv_at hl 3 rfl) ?_
    refine lv_iload_n hx hb dX8_wordAt_42 rfl (lv_at hl 2 rfl) ?_
    refine sv_isub (v := nI (b - a)) hx hb dX8_wordAt_43 (nI_subN hab) ?_
    refine lv_icmp_ne (tgt := 51) hx hb dX8_wordAt_44 (by decide) (fun c_44 => ?_) (fun c_44 => ?_)
    ·
      refine lv_iconst (v := 0) hx hb dX8_wordAt_51 (by decide) ?_
      refine lv_istore (lv' := [(6, .int 0), (5, .int 4), (0, .ref (y 0)), (1, .int (nI a)), (2, .int (nI b)), (3, .int 0), (4, .int 0)]) hx hb dX8_wordAt_52 hl (by decide) rfl (fun ls hl => ?_)
      refine lv_iconst (v := 0) hx hb dX8_wordAt_54 (by decide) ?_
      refine lv_istore (lv' := [(7, .int 0), (6, .int 0), (5, .int 4), (0, .ref (y 0)), (1, .int (nI a)), (2, .int (nI b)), (3, .int 0), (4, .int 0)]) hx hb dX8_wordAt_55 hl (by decide) rfl (fun ls hl => ?_)
      refine lv_iload hx hb dX8_wordAt_57 (lv_at hl 0 rfl) ?_
      refine lv_iload hx hb dX8_wordAt_59 (lv_at hl 2 rfl) ?_
      refine lv_icmp_ge (tgt := 104) hx hb dX8_wordAt_61 (by decide) (fun h => absurd h (by decide)) (fun _ => ?_)
      refine lv_iload hx hb dX8_wordAt_64 (lv_at hl 1 rfl) ?_
      refine lv_if_eq (tgt := 104) hx hb dX8_wordAt_66 (by decide) (fun _ => ?_) (fun h => absurd (by decide) h)
      refine lv_iload hx hb dX8_wordAt_104 (lv_at hl 1 rfl) ?_
      refine lv_if_eq (tgt := 111) hx hb dX8_wordAt_106 (by decide) (fun _ => ?_) (fun h => absurd (by decide) h)
      refine lv_iload hx hb dX8_wordAt_111 (lv_at hl 7 rfl) ?_
      refine lv_iload hx hb dX8_wordAt_113 (lv_at hl 2 rfl) ?_
      refine lv_iconst (v := 1) hx hb dX8_wordAt_115 (by decide) ?_
      refine sv_iadd (v := 5) hx hb dX8_wordAt_116 (by decide) ?_
      refine sv_iadd (v := 5) hx hb dX8_wordAt_117 (by decide) ?_
      refine lv_istore (lv' := [(4, .int 5), (7, .int 0), (6, .int 0), (5, .int 4), (0, .ref (y 0)), (1, .int (nI a)), (2, .int (nI b)), (3, .int 0)]) hx hb dX8_wordAt_118 hl (by decide) rfl (fun ls hl => ?_)
      refine lv_iinc (v := 1) (lv' := [(3, .int 1), (4, .int 5), (7, .int 0), (6, .int 0), (5, .int 4), (0, .ref (y 0)), (1, .int (nI a)), (2, .int (nI b))]) hx hb dX8_wordAt_120 hl (k := 7) rfl (by decide) (by decide) rfl (fun ls hl => ?_)
      refine lv_goto (tgt := 5) hx hb dX8_wordAt_123 (by decide) ?_
      exact J_1_5 (wn_s hN (fun h => c_44 (by rw [show b - a = 4 by have h9 : b = a + 4 := h.1; omega]; rfl))) ls (lv_sub hl [5, 6, 7, 0, 1] rfl)
    ·
      have hlen : b = a + 4 := by have h9 := (nI_eq (a := 4) (by decide) (by omega)).mp c_44; omega
      refine lv_iconst (v := 1) hx hb dX8_wordAt_47 (by decide) ?_
      refine lv_goto (tgt := 52) hx hb dX8_wordAt_48 (by decide) ?_
      refine lv_istore (lv' := [(6, .int 1), (5, .int 4), (0, .ref (y 0)), (1, .int (nI a)), (2, .int (nI b)), (3, .int 0), (4, .int 0)]) hx hb dX8_wordAt_52 hl (by decide) rfl (fun ls hl => ?_)
      refine lv_iconst (v := 0) hx hb dX8_wordAt_54 (by decide) ?_
      refine lv_istore (lv' := [(7, .int 0), (6, .int 1), (5, .int 4), (0, .ref (y 0)), (1, .int (nI a)), (2, .int (nI b)), (3, .int 0), (4, .int 0)]) hx hb dX8_wordAt_55 hl (by decide) rfl (fun ls hl => ?_)
      refine lv_iload hx hb dX8_wordAt_57 (lv_at hl 0 rfl) ?_
      refine lv_iload hx hb dX8_wordAt_59 (lv_at hl 2 rfl) ?_
      refine lv_icmp_ge (tgt := 104) hx hb dX8_wordAt_61 (by decide) (fun h => absurd h (by decide)) (fun _ => ?_)
      refine lv_iload hx hb dX8_wordAt_64 (lv_at hl 1 rfl) ?_
      refine lv_if_eq (tgt := 104) hx hb dX8_wordAt_66 (by decide) (fun h => absurd h (by decide)) (fun _ => ?_)
      refine lv_aload_n hx hb dX8_wordAt_69 rfl (lv_at hl 3 rfl) ?_
      refine va_get (D := D) (ci := 8) (v := .ref (y 17)) (C := RX8) (T := TX8) (N := 52) hx hb hts w_1 hown hK hP 0 rfl rfl 34 (by decide) w_2 (fun _ h9 => h9) rfl dX8_wordAt_70 ?_
      refine lv_iload hx hb dX8_wordAt_73 (lv_at hl 7 rfl) ?_
      refine lv_iload hx hb dX8_wordAt_75 (lv_at hl 0 rfl) ?_
      refine sv_iadd (v := 0) hx hb dX8_wordAt_77 (by decide) ?_
      refine sv_iald (v := 116) hx hb hK hP 2 1 rfl rfl (vp_in_iff.mpr (by decide)) (hwf 0 (by decide)) dX8_wordAt_78 ?_
      refine lv_aload_n hx hb dX8_wordAt_79 rfl (lv_at hl 3 rfl) ?_
      refine va_get (D := D) (ci := 8) (v := .ref (y 1)) (C := RX8) (T := TX8) (N := 52) hx hb hts w_1 hown hK hP 0 rfl rfl 0 (by decide) w_3 (fun _ h9 => h9) rfl dX8_wordAt_80 ?_
      refine lv_iload_n hx hb dX8_wordAt_83 rfl (lv_at hl 4 rfl) ?_
      refine lv_iload hx hb dX8_wordAt_84 (lv_at hl 0 rfl) ?_
      refine sv_iadd (v := nI (a + 0)) hx hb dX8_wordAt_86 (ax_add a 0) ?_
      refine sv_iald (v := m_tape (a + 0)) hx hb hK hP 1 1 rfl rfl (vp_in_nI (by omega) (by decide)) (congrArg _ (nI_clamp (by omega))) dX8_wordAt_87 ?_
      refine lv_icmp_ne (tgt := 95) hx hb dX8_wordAt_88 (by decide) (fun c_88 => ?_) (fun c_88 => ?_)
      ·
        refine lv_iconst (v := 0) hx hb dX8_wordAt_95 (by decide) ?_
        refine lv_istore (lv' := [(6, .int 0), (7, .int 0), (5, .int 4), (0, .ref (y 0)), (1, .int (nI a)), (2, .int (nI b)), (3, .int 0), (4, .int 0)]) hx hb dX8_wordAt_96 hl (by decide) rfl (fun ls hl => ?_)
        refine lv_iinc (v := 1) (lv' := [(7, .int 1), (6, .int 0), (5, .int 4), (0, .ref (y 0)), (1, .int (nI a)), (2, .int (nI b)), (3, .int 0), (4, .int 0)]) hx hb dX8_wordAt_98 hl (k := 1) rfl (by decide) (by decide) rfl (fun ls hl => ?_)
        refine lv_goto (tgt := 57) hx hb dX8_wordAt_101 (by decide) ?_
        refine lv_iload hx hb dX8_wordAt_57 (lv_at hl 0 rfl) ?_
        refine lv_iload hx hb dX8_wordAt_59 (lv_at hl 2 rfl) ?_
        refine lv_icmp_ge (tgt := 104) hx hb dX8_wordAt_61 (by decide) (fun h => absurd h (by decide)) (fun _ => ?_)
        refine lv_iload hx hb dX8_wordAt_64 (lv_at hl 1 rfl) ?_
        refine lv_if_eq (tgt := 104) hx hb dX8_wordAt_66 (by decide) (fun _ => ?_) (fun h => absurd (by decide) h)
        refine lv_iload hx hb dX8_wordAt_104 (lv_at hl 1 rfl) ?_
        refine lv_if_eq (tgt := 111) hx hb dX8_wordAt_106 (by decide) (fun _ => ?_) (fun h => absurd (by decide) h)
        refine lv_iload hx hb dX8_wordAt_111 (lv_at hl 7 rfl) ?_
        refine lv_iload hx hb dX8_wordAt_113 (lv_at hl 2 rfl) ?_
        refine lv_iconst (v := 1) hx hb dX8_wordAt_115 (by decide) ?_
        refine sv_iadd (v := 5) hx hb dX8_wordAt_116 (by decide) ?_
        refine sv_iadd (v := 5) hx hb dX8_wordAt_117 (by decide) ?_
        refine lv_istore (lv' := [(4, .int 5), (7, .int 1), (6, .int 0), (5, .int 4), (0, .ref (y 0)), (1, .int (nI a)), (2, .int (nI b)), (3, .int 0)]) hx hb dX8_wordAt_118 hl (by decide) rfl (fun ls hl => ?_)
        refine lv_iinc (v := 1) (lv' := [(3, .int 1), (4, .int 5), (7, .int 1), (6, .int 0), (5, .int 4), (0, .ref (y 0)), (1, .int (nI a)), (2, .int (nI b))]) hx hb dX8_wordAt_120 hl (k := 7) rfl (by decide) (by decide) rfl (fun ls hl => ?_)
        refine lv_goto (tgt := 5) hx hb dX8_wordAt_123 (by decide) ?_
        exact J_1_5 (wn_s hN (fun h => c_88 (h.2 0 (by decide)).symm)) ls (lv_sub hl [5, 6, 7, 0, 1] rfl)
      ·
        have he_0 := c_88
        refine lv_iconst (v := 1) hx hb dX8_wordAt_91 (by decide) ?_
        refine lv_goto (tgt := 96) hx hb dX8_wordAt_92 (by decide) ?_
        refine lv_istore (lv' := [(6, .int 1), (7, .int 0), (5, .int 4), (0, .ref (y 0)), (1, .int (nI a)), (2, .int (nI b)), (3, .int 0), (4, .int 0)]) hx hb dX8_wordAt_96 hl (by decide) rfl (fun ls hl => ?_)
        refine lv_iinc (v := 1) (lv' := [(7, .int 1), (6, .int 1), (5, .int 4), (0, .ref (y 0)), (1, .int (nI a)), (2, .int (nI b)), (3, .int 0), (4, .int 0)]) hx hb dX8_wordAt_98 hl (k := 1) rfl (by decide) (by decide) rfl (fun ls hl => ?_)
        refine lv_goto (tgt := 57) hx hb dX8_wordAt_101 (by decide) ?_
        refine lv_iload hx hb dX8_wordAt_57 (lv_at hl 0 rfl) ?_
        refine lv_iload hx hb dX8_wordAt_59 (lv_at hl 2 rfl) ?_
        refine lv_icmp_ge (tgt := 104) hx hb dX8_wordAt_61 (by decide) (fun h => absurd h (by decide)) (fun _ => ?_)
        refine lv_iload hx hb dX8_wordAt_64 (lv_at hl 1 rfl) ?_
        refine lv_if_eq (tgt := 104) hx hb dX8_wordAt_66 (by decide) (fun h => absurd h (by decide)) (fun _ => ?_)
        refine lv_aload_n hx hb dX8_wordAt_69 rfl (lv_at hl 3 rfl) ?_
        refine va_get (D := D) (ci := 8) (v := .ref (y 17)) (C := RX8) (T := TX8) (N := 52) hx hb hts w_1 hown hK hP 0 rfl rfl 34 (by decide) w_2 (fun _ h9 => h9) rfl dX8_wordAt_70 ?_
        refine lv_iload hx hb dX8_wordAt_73 (lv_at hl 7 rfl) ?_
        refine lv_iload hx hb dX8_wordAt_75 (lv_at hl 0 rfl) ?_
        refine sv_iadd (v := 1) hx hb dX8_wordAt_77 (by decide) ?_
        refine sv_iald (v := 117) hx hb hK hP 2 1 rfl rfl (vp_in_iff.mpr (by decide)) (hwf 1 (by decide)) dX8_wordAt_78 ?_
        refine lv_aload_n hx hb dX8_wordAt_79 rfl (lv_at hl 3 rfl) ?_
        refine va_get (D := D) (ci := 8) (v := .ref (y 1)) (C := RX8) (T := TX8) (N := 52) hx hb hts w_1 hown hK hP 0 rfl rfl 0 (by decide) w_3 (fun _ h9 => h9) rfl dX8_wordAt_80 ?_
        refine lv_iload_n hx hb dX8_wordAt_83 rfl (lv_at hl 4 rfl) ?_
        refine lv_iload hx hb dX8_wordAt_84 (lv_at hl 0 rfl) ?_
        refine sv_iadd (v := nI (a + 1)) hx hb dX8_wordAt_86 (ax_add a 1) ?_
        refine sv_iald (v := m_tape (a + 1)) hx hb hK hP 1 1 rfl rfl (vp_in_nI (by omega) (by decide)) (congrArg _ (nI_clamp (by omega))) dX8_wordAt_87 ?_
        refine lv_icmp_ne (tgt := 95) hx hb dX8_wordAt_88 (by decide) (fun c_88 => ?_) (fun c_88 => ?_)
        ·
          refine lv_iconst (v := 0) hx hb dX8_wordAt_95 (by decide) ?_
          refine lv_istore (lv' := [(6, .int 0), (7, .int 1), (5, .int 4), (0, .ref (y 0)), (1, .int (nI a)), (2, .int (nI b)), (3, .int 0), (4, .int 0)]) hx hb dX8_wordAt_96 hl (by decide) rfl (fun ls hl => ?_)
          refine lv_iinc (v := 2) (lv' := [(7, .int 2), (6, .int 0), (5, .int 4), (0, .ref (y 0)), (1, .int (nI a)), (2, .int (nI b)), (3, .int 0), (4, .int 0)]) hx hb dX8_wordAt_98 hl (k := 1) rfl (by decide) (by decide) rfl (fun ls hl => ?_)
          refine lv_goto (tgt := 57) hx hb dX8_wordAt_101 (by decide) ?_
          refine lv_iload hx hb dX8_wordAt_57 (lv_at hl 0 rfl) ?_
          refine lv_iload hx hb dX8_wordAt_59 (lv_at hl 2 rfl) ?_
          refine lv_icmp_ge (tgt := 104) hx hb dX8_wordAt_61 (by decide) (fun h => absurd h (by decide)) (fun _ => ?_)
          refine lv_iload hx hb dX8_wordAt_64 (lv_at hl 1 rfl) ?_
          refine lv_if_eq (tgt := 104) hx hb dX8_wordAt_66 (by decide) (fun _ => ?_) (fun h => absurd (by decide) h)
          refine lv_iload hx hb dX8_wordAt_104 (lv_at hl 1 rfl) ?_
          refine lv_if_eq (tgt := 111) hx hb dX8_wordAt_106 (by decide) (fun _ => ?_) (fun h => absurd (by decide) h)
          refine lv_iload hx hb dX8_wordAt_111 (lv_at hl 7 rfl) ?_
          refine lv_iload hx hb dX8_wordAt_113 (lv_at hl 2 rfl) ?_
          refine lv_iconst (v := 1) hx hb dX8_wordAt_115 (by decide) ?_
          refine sv_iadd (v := 5) hx hb dX8_wordAt_116 (by decide) ?_
          refine sv_iadd (v := 5) hx hb dX8_wordAt_117 (by decide) ?_
          refine lv_istore (lv' := [(4, .int 5), (7, .int 2), (6, .int 0), (5, .int 4), (0, .ref (y 0)), (1, .int (nI a)), (2, .int (nI b)), (3, .int 0)]) hx hb dX8_wordAt_118 hl (by decide) rfl (fun ls hl => ?_)
          refine lv_iinc (v := 1) (lv' := [(3, .int 1), (4, .int 5), (7, .int 2), (6, .int 0), (5, .int 4), (0, .ref (y 0)), (1, .int (nI a)), (2, .int (nI b))]) hx hb dX8_wordAt_120 hl (k := 7) rfl (by decide) (by decide) rfl (fun ls hl => ?_)
          refine lv_goto (tgt := 5) hx hb dX8_wordAt_123 (by decide) ?_
          exact J_1_5 (wn_s hN (fun h => c_88 (h.2 1 (by decide)).symm)) ls (lv_sub hl [5, 6, 7, 0, 1] rfl)
        ·
          have he_1 := c_88
          refine lv_iconst (v := 1) hx hb dX8_wordAt_91 (by decide) ?_
          refine lv_goto (tgt := 96) hx hb dX8_wordAt_92 (by decide) ?_
          refine lv_istore (lv' := [(6, .int 1), (7, .int 1), (5, .int 4), (0, .ref (y 0)), (1, .int (nI a)), (2, .int (nI b)), (3, .int 0), (4, .int 0)]) hx hb dX8_wordAt_96 hl (by decide) rfl (fun ls hl => ?_)
          refine lv_iinc (v := 2) (lv' := [(7, .int 2), (6, .int 1), (5, .int 4), (0, .ref (y 0)), (1, .int (nI a)), (2, .int (nI b)), (3, .int 0), (4, .int 0)]) hx hb dX8_wordAt_98 hl (k := 1) rfl (by decide) (by decide) rfl (fun ls hl => ?_)
          refine lv_goto (tgt := 57) hx hb dX8_wordAt_101 (by decide) ?_
          refine lv_iload hx hb dX8_wordAt_57 (lv_at hl 0 rfl) ?_
          refine lv_iload hx hb dX8_wordAt_59 (lv_at hl 2 rfl) ?_
          refine lv_icmp_ge (tgt := 104) hx hb dX8_wordAt_61 (by decide) (fun h => absurd h (by decide)) (fun _ => ?_)
          refine lv_iload hx hb dX8_wordAt_64 (lv_at hl 1 rfl) ?_
          refine lv_if_eq (tgt := 104) hx hb dX8_wordAt_66 (by decide) (fun h => absurd h (by decide)) (fun _ => ?_)
          refine lv_aload_n hx hb dX8_wordAt_69 rfl (lv_at hl 3 rfl) ?_
          refine va_get (D := D) (ci := 8) (v := .ref (y 17)) (C := RX8) (T := TX8) (N := 52) hx hb hts w_1 hown hK hP 0 rfl rfl 34 (by decide) w_2 (fun _ h9 => h9) rfl dX8_wordAt_70 ?_
          refine lv_iload hx hb dX8_wordAt_73 (lv_at hl 7 rfl) ?_
          refine lv_iload hx hb dX8_wordAt_75 (lv_at hl 0 rfl) ?_
          refine sv_iadd (v := 2) hx hb dX8_wordAt_77 (by decide) ?_
          refine sv_iald (v := 114) hx hb hK hP 2 1 rfl rfl (vp_in_iff.mpr (by decide)) (hwf 2 (by decide)) dX8_wordAt_78 ?_
          refine lv_aload_n hx hb dX8_wordAt_79 rfl (lv_at hl 3 rfl) ?_
          refine va_get (D := D) (ci := 8) (v := .ref (y 1)) (C := RX8) (T := TX8) (N := 52) hx hb hts w_1 hown hK hP 0 rfl rfl 0 (by decide) w_3 (fun _ h9 => h9) rfl dX8_wordAt_80 ?_
          refine lv_iload_n hx hb dX8_wordAt_83 rfl (lv_at hl 4 rfl) ?_
          refine lv_iload hx hb dX8_wordAt_84 (lv_at hl 0 rfl) ?_
          refine sv_iadd (v := nI (a + 2)) hx hb dX8_wordAt_86 (ax_add a 2) ?_
          refine sv_iald (v := m_tape (a + 2)) hx hb hK hP 1 1 rfl rfl (vp_in_nI (by omega) (by decide)) (congrArg _ (nI_clamp (by omega))) dX8_wordAt_87 ?_
          refine lv_icmp_ne (tgt := 95) hx hb dX8_wordAt_88 (by decide) (fun c_88 => ?_) (fun c_88 => ?_)
          ·
            refine lv_iconst (v := 0) hx hb dX8_wordAt_95 (by decide) ?_
            refine lv_istore (lv' := [(6, .int 0), (7, .int 2), (5, .int 4), (0, .ref (y 0)), (1, .int (nI a)), (2, .int (nI b)), (3, .int 0), (4, .int 0)]) hx hb dX8_wordAt_96 hl (by decide) rfl (fun ls hl => ?_)
            refine lv_iinc (v := 3) (lv' := [(7, .int 3), (6, .int 0), (5, .int 4), (0, .ref (y 0)), (1, .int (nI a)), (2, .int (nI b)), (3, .int 0), (4, .int 0)]) hx hb dX8_wordAt_98 hl (k := 1) rfl (by decide) (by decide) rfl (fun ls hl => ?_)
            refine lv_goto (tgt := 57) hx hb dX8_wordAt_101 (by decide) ?_
            refine lv_iload hx hb dX8_wordAt_57 (lv_at hl 0 rfl) ?_
            refine lv_iload hx hb dX8_wordAt_59 (lv_at hl 2 rfl) ?_
            refine lv_icmp_ge (tgt := 104) hx hb dX8_wordAt_61 (by decide) (fun h => absurd h (by decide)) (fun _ => ?_)
            refine lv_iload hx hb dX8_wordAt_64 (lv_at hl 1 rfl) ?_
            refine lv_if_eq (tgt := 104) hx hb dX8_wordAt_66 (by decide) (fun _ => ?_) (fun h => absurd (by decide) h)
            refine lv_iload hx hb dX8_wordAt_104 (lv_at hl 1 rfl) ?_
            refine lv_if_eq (tgt := 111) hx hb dX8_wordAt_106 (by decide) (fun _ => ?_) (fun h => absurd (by decide) h)
            refine lv_iload hx hb dX8_wordAt_111 (lv_at hl 7 rfl) ?_
            refine lv_iload hx hb dX8_wordAt_113 (lv_at hl 2 rfl) ?_
            refine lv_iconst (v := 1) hx hb dX8_wordAt_115 (by decide) ?_
            refine sv_iadd (v := 5) hx hb dX8_wordAt_116 (by decide) ?_
            refine sv_iadd (v := 5) hx hb dX8_wordAt_117 (by decide) ?_
            refine lv_istore (lv' := [(4, .int 5), (7, .int 3), (6, .int 0), (5, .int 4), (0, .ref (y 0)), (1, .int (nI a)), (2, .int (nI b)), (3, .int 0)]) hx hb dX8_wordAt_118 hl (by decide) rfl (fun ls hl => ?_)
            refine lv_iinc (v := 1) (lv' := [(3, .int 1), (4, .int 5), (7, .int 3), (6, .int 0), (5, .int 4), (0, .ref (y 0)), (1, .int (nI a)), (2, .int (nI b))]) hx hb dX8_wordAt_120 hl (k := 7) rfl (by decide) (by decide) rfl (fun ls hl => ?_)
            refine lv_goto (tgt := 5) hx hb dX8_wordAt_123 (by decide) ?_
            exact J_1_5 (wn_s hN (fun h => c_88 (h.2 2 (by decide)).symm)) ls (lv_sub hl [5, 6, 7, 0, 1] rfl)
          ·
            have he_2 := c_88
            refine lv_iconst (v := 1) hx hb dX8_wordAt_91 (by decide) ?_
            refine lv_goto (tgt := 96) hx hb dX8_wordAt_92 (by decide) ?_
            refine lv_istore (lv' := [(6, .int 1), (7, .int 2), (5, .int 4), (0, .ref (y 0)), (1, .int (nI a)), (2, .int (nI b)), (3, .int 0), (4, .int 0)]) hx hb dX8_wordAt_96 hl (by decide) rfl (fun ls hl => ?_)
            refine lv_iinc (v := 3) (lv' := [(7, .int 3), (6, .int 1), (5, .int 4), (0, .ref (y 0)), (1, .int (nI a)), (2, .int (nI b)), (3, .int 0), (4, .int 0)]) hx hb dX8_wordAt_98 hl (k := 1) rfl (by decide) (by decide) rfl (fun ls hl => ?_)
            refine lv_goto (tgt := 57) hx hb dX8_wordAt_101 (by decide) ?_
            refine lv_iload hx hb dX8_wordAt_57 (lv_at hl 0 rfl) ?_
            refine lv_iload hx hb dX8_wordAt_59 (lv_at hl 2 rfl) ?_
            refine lv_icmp_ge (tgt := 104) hx hb dX8_wordAt_61 (by decide) (fun h => absurd h (by decide)) (fun _ => ?_)
            refine lv_iload hx hb dX8_wordAt_64 (lv_at hl 1 rfl) ?_
            refine lv_if_eq (tgt := 104) hx hb dX8_wordAt_66 (by decide) (fun h => absurd h (by decide)) (fun _ => ?_)
            refine lv_aload_n hx hb dX8_wordAt_69 rfl (lv_at hl 3 rfl) ?_
            refine va_get (D := D) (ci := 8) (v := .ref (y 17)) (C := RX8) (T := TX8) (N := 52) hx hb hts w_1 hown hK hP 0 rfl rfl 34 (by decide) w_2 (fun _ h9 => h9) rfl dX8_wordAt_70 ?_
            refine lv_iload hx hb dX8_wordAt_73 (lv_at hl 7 rfl) ?_
            refine lv_iload hx hb dX8_wordAt_75 (lv_at hl 0 rfl) ?_
            refine sv_iadd (v := 3) hx hb dX8_wordAt_77 (by decide) ?_
            refine sv_iald (v := 110) hx hb hK hP 2 1 rfl rfl (vp_in_iff.mpr (by decide)) (hwf 3 (by decide)) dX8_wordAt_78 ?_
            refine lv_aload_n hx hb dX8_wordAt_79 rfl (lv_at hl 3 rfl) ?_
            refine va_get (D := D) (ci := 8) (v := .ref (y 1)) (C := RX8) (T := TX8) (N := 52) hx hb hts w_1 hown hK hP 0 rfl rfl 0 (by decide) w_3 (fun _ h9 => h9) rfl dX8_wordAt_80 ?_
            refine lv_iload_n hx hb dX8_wordAt_83 rfl (lv_at hl 4 rfl) ?_
            refine lv_iload hx hb dX8_wordAt_84 (lv_at hl 0 rfl) ?_
            refine sv_iadd (v := nI (a + 3)) hx hb dX8_wordAt_86 (ax_add a 3) ?_
            refine sv_iald (v := m_tape (a + 3)) hx hb hK hP 1 1 rfl rfl (vp_in_nI (by omega) (by decide)) (congrArg _ (nI_clamp (by omega))) dX8_wordAt_87 ?_
            refine lv_icmp_ne (tgt := 95) hx hb dX8_wordAt_88 (by decide) (fun c_88 => ?_) (fun c_88 => ?_)
            ·
              refine lv_iconst (v := 0) hx hb dX8_wordAt_95 (by decide) ?_
              refine lv_istore (lv' := [(6, .int 0), (7, .int 3), (5, .int 4), (0, .ref (y 0)), (1, .int (nI a)), (2, .int (nI b)), (3, .int 0), (4, .int 0)]) hx hb dX8_wordAt_96 hl (by decide) rfl (fun ls hl => ?_)
              refine lv_iinc (v := 4) (lv' := [(7, .int 4), (6, .int 0), (5, .int 4), (0, .ref (y 0)), (1, .int (nI a)), (2, .int (nI b)), (3, .int 0), (4, .int 0)]) hx hb dX8_wordAt_98 hl (k := 1) rfl (by decide) (by decide) rfl (fun ls hl => ?_)
              refine lv_goto (tgt := 57) hx hb dX8_wordAt_101 (by decide) ?_
              refine lv_iload hx hb dX8_wordAt_57 (lv_at hl 0 rfl) ?_
              refine lv_iload hx hb dX8_wordAt_59 (lv_at hl 2 rfl) ?_
              refine lv_icmp_ge (tgt := 104) hx hb dX8_wordAt_61 (by decide) (fun _ => ?_) (fun h => absurd (by decide) h)
              refine lv_iload hx hb dX8_wordAt_104 (lv_at hl 1 rfl) ?_
              refine lv_if_eq (tgt := 111) hx hb dX8_wordAt_106 (by decide) (fun _ => ?_) (fun h => absurd (by decide) h)
              refine lv_iload hx hb dX8_wordAt_111 (lv_at hl 7 rfl) ?_
              refine lv_iload hx hb dX8_wordAt_113 (lv_at hl 2 rfl) ?_
              refine lv_iconst (v := 1) hx hb dX8_wordAt_115 (by decide) ?_
              refine sv_iadd (v := 5) hx hb dX8_wordAt_116 (by decide) ?_
              refine sv_iadd (v := 5) hx hb dX8_wordAt_117 (by decide) ?_
              refine lv_istore (lv' := [(4, .int 5), (7, .int 4), (6, .int 0), (5, .int 4), (0, .ref (y 0)), (1, .int (nI a)), (2, .int (nI b)), (3, .int 0)]) hx hb dX8_wordAt_118 hl (by decide) rfl (fun ls hl => ?_)
              refine lv_iinc (v := 1) (lv' := [(3, .int 1), (4, .int 5), (7, .int 4), (6, .int 0), (5, .int 4), (0, .ref (y 0)), (1, .int (nI a)), (2, .int (nI b))]) hx hb dX8_wordAt_120 hl (k := 7) rfl (by decide) (by decide) rfl (fun ls hl => ?_)
              refine lv_goto (tgt := 5) hx hb dX8_wordAt_123 (by decide) ?_
              exact J_1_5 (wn_s hN (fun h => c_88 (h.2 3 (by decide)).symm)) ls (lv_sub hl [5, 6, 7, 0, 1] rfl)
            ·
              have he_3 := c_88
              refine lv_iconst (v := 1) hx hb dX8_wordAt_91 (by decide) ?_
              refine lv_goto (tgt := 96) hx hb dX8_wordAt_92 (by decide) ?_
              refine lv_istore (lv' := [(6, .int 1), (7, .int 3), (5, .int 4), (0, .ref (y 0)), (1, .int (nI a)), (2, .int (nI b)), (3, .int 0), (4, .int 0)]) hx hb dX8_wordAt_96 hl (by decide) rfl (fun ls hl => ?_)
              refine lv_iinc (v := 4) (lv' := [(7, .int 4), (6, .int 1), (5, .int 4), (0, .ref (y 0)), (1, .int (nI a)), (2, .int (nI b)), (3, .int 0), (4, .int 0)]) hx hb dX8_wordAt_98 hl (k := 1) rfl (by decide) (by decide) rfl (fun ls hl => ?_)
              refine lv_goto (tgt := 57) hx hb dX8_wordAt_101 (by decide) ?_
              refine lv_iload hx hb dX8_wordAt_57 (lv_at hl 0 rfl) ?_
              refine lv_iload hx hb dX8_wordAt_59 (lv_at hl 2 rfl) ?_
              refine lv_icmp_ge (tgt := 104) hx hb dX8_wordAt_61 (by decide) (fun _ => ?_) (fun h => absurd (by decide) h)
              refine lv_iload hx hb dX8_wordAt_104 (lv_at hl 1 rfl) ?_
              refine lv_if_eq (tgt := 111) hx hb dX8_wordAt_106 (by decide) (fun h => absurd h (by decide)) (fun _ => ?_)
              refine lv_iload_n hx hb dX8_wordAt_109 rfl (lv_at hl 6 rfl) ?_
              rw [← hQ]
              exact W.iret (v := 0) hx hb hr (fun t ht hW => ⟨_, rfl, Or.inl (wa_y (w := 0) (by decide) ⟨hlen, fun j hj => by match j, hj with | 0, _ => exact he_0.symm | 1, _ => exact he_1.symm | 2, _ => exact he_2.symm | 3, _ => exact he_3.symm | j + 4, hj => exact absurd hj (show ¬ j + 4 < 4 by omega)⟩ rfl), ht⟩) (fun q h => nomatch h) dX8_wordAt_110
  exact J_0_0 (fun i h => absurd h (Nat.not_lt_zero i)) ls (lv_sub hl [2, 3, 4, 1, 0] rfl)

set_option maxHeartbeats 4000000 in
set_option maxRecDepth 100000 in
theorem f_X8_take (l : Launch) (D : va_G) (cB cI cJ cZ : ClassId) (sz : Nat) (y : Nat → Nat) (m_tapeSize m_givers m_children m_coats m_legacies m_end m_next m_insideMany : Nat) (m_thrown m_cycleMany m_vote m_low m_high m_wear m_spare m_places m_cycleNext m_fault m_faultPlace m_giverNext m_years m_kind m_which m_place m_read m_readMany m_readHigh : Int32) (m_tape m_words : Nat → Int32) (hne : m_next ≤ m_end) (he : m_end ≤ 300) (hwf : wOK m_words) : Met l yX8_take wsX8_take ({ frames := 1, cells := 0, slots := 0, locals := 27 } : Room) (cPre D (aTy cB cI cJ cZ) [((y 0), .inr (8, [.ref (y 1), .int (nI m_tapeSize), .int m_thrown, .ref (y 2), .int m_cycleMany, .int m_vote, .int m_low, .int m_high, .int m_wear, .int m_spare, .int m_places, .int m_cycleNext, .int m_fault, .int m_faultPlace, .int (nI m_givers), .ref (y 3), .ref (y 4), .int m_giverNext, .int (nI m_children), .ref (y 5), .ref (y 6), .ref (y 7), .ref (y 8), .ref (y 9), .int (nI m_coats), .ref (y 10), .ref (y 11), .ref (y 12), .ref (y 13), .int m_years, .int (nI m_legacies), .ref (y 14), .ref (y 15), .ref (y 16), .ref (y 17), .int (nI m_end), .int (nI m_next), .int m_kind, .int m_which, .int m_place, .int m_read, .ref (y 18), .ref (y 19), .int m_readMany, .int m_readHigh, .ref (y 20), .int (nI m_insideMany), .ref (y 21), .ref (y 22), .ref (y 23), .ref (y 24), .ref (y 25)])), ((y 1), .inl (cI, 300, .inl m_tape)), ((y 17), .inl (cI, 43, .inl m_words))] sz [.ref (y 0)]) (va_Qv (fun (u : Nat × Nat × Int32 × Int32) => curM m_tape m_end m_next u.2.2.2 u.2.2.1 u.2.1 u.1) (cB_ D (aTy cB cI cJ cZ) (va_A [((y 0), .inr (8, [.ref (y 1), .int (nI m_tapeSize), .int m_thrown, .ref (y 2), .int m_cycleMany, .int m_vote, .int m_low, .int m_high, .int m_wear, .int m_spare, .int m_places, .int m_cycleNext, .int m_fault, .int m_faultPlace, .int (nI m_givers), .ref (y 3), .ref (y 4), .int m_giverNext, .int (nI m_children), .ref (y 5), .ref (y 6), .ref (y 7), .ref (y 8), .ref (y 9), .int (nI m_coats), .ref (y 10), .ref (y 11), .ref (y 12), .ref (y 13), .int m_years, .int (nI m_legacies), .ref (y 14), .ref (y 15), .ref (y 16), .ref (y 17), .int (nI m_end), .int (nI m_next), .int m_kind, .int m_which, .int m_place, .int m_read, .ref (y 18), .ref (y 19), .int m_readMany, .int m_readHigh, .ref (y 20), .int (nI m_insideMany), .ref (y 21), .ref (y 22), .ref (y 23), .ref (y 24), .ref (y 25)])), ((y 1), .inl (cI, 300, .inl m_tape)), ((y 17), .inl (cI, 43, .inl m_words))] sz) (fun u => [((y 0), .inr (8, [.ref (y 1), .int (nI m_tapeSize), .int m_thrown, .ref (y 2), .int m_cycleMany, .int m_vote, .int m_low, .int m_high, .int m_wear, .int m_spare, .int m_places, .int m_cycleNext, .int m_fault, .int m_faultPlace, .int (nI m_givers), .ref (y 3), .ref (y 4), .int m_giverNext, .int (nI m_children), .ref (y 5), .ref (y 6), .ref (y 7), .ref (y 8), .ref (y 9), .int (nI m_coats), .ref (y 10), .ref (y 11), .ref (y 12), .ref (y 13), .int m_years, .int (nI m_legacies), .ref (y 14), .ref (y 15), .ref (y 16), .ref (y 17), .int (nI m_end), .int (nI (u.1)), .int (u.2.2.2), .int (u.2.2.1), .int (nI (u.2.1)), .int m_read, .ref (y 18), .ref (y 19), .int m_readMany, .int m_readHigh, .ref (y 20), .int (nI m_insideMany), .ref (y 21), .ref (y 22), .ref (y 23), .ref (y 24), .ref (y 25)])), ((y 1), .inl (cI, 300, .inl m_tape)), ((y 17), .inl (cI, 43, .inl m_words))])) (va_A [((y 0), .inr (8, [.ref (y 1), .int (nI m_tapeSize), .int m_thrown, .ref (y 2), .int m_cycleMany, .int m_vote, .int m_low, .int m_high, .int m_wear, .int m_spare, .int m_places, .int m_cycleNext, .int m_fault, .int m_faultPlace, .int (nI m_givers), .ref (y 3), .ref (y 4), .int m_giverNext, .int (nI m_children), .ref (y 5), .ref (y 6), .ref (y 7), .ref (y 8), .ref (y 9), .int (nI m_coats), .ref (y 10), .ref (y 11), .ref (y 12), .ref (y 13), .int m_years, .int (nI m_legacies), .ref (y 14), .ref (y 15), .ref (y 16), .ref (y 17), .int (nI m_end), .int (nI m_next), .int m_kind, .int m_which, .int m_place, .int m_read, .ref (y 18), .ref (y 19), .int m_readMany, .int m_readHigh, .ref (y 20), .int (nI m_insideMany), .ref (y 21), .ref (y 22), .ref (y 23), .ref (y 24), .ref (y 25)])), ((y 1), .inl (cI, 300, .inl m_tape)), ((y 17), .inl (cI, 43, .inl m_words))] sz)) 0 0 (va_A [((y 0), .inr (8, [.ref (y 1), .int (nI m_tapeSize), .int m_thrown, .ref (y 2), .int m_cycleMany, .int m_vote, .int m_low, .int m_high, .int m_wear, .int m_spare, .int m_places, .int m_cycleNext, .int m_fault, .int m_faultPlace, .int (nI m_givers), .ref (y 3), .ref (y 4), .int m_giverNext, .int (nI m_children), .ref (y 5), .ref (y 6), .ref (y 7), .ref (y 8), .ref (y 9), .int (nI m_coats), .ref (y 10), .ref (y 11), .ref (y 12), .ref (y 13), .int m_years, .int (nI m_legacies), .ref (y 14), .ref (y 15), .ref (y 16), .ref (y 17), .int (nI m_end), .int (nI m_next), .int m_kind, .int m_which, .int m_place, .int m_read, .ref (y 18), .ref (y 19), .int m_readMany, .int m_readHigh, .ref (y 20), .int (nI m_insideMany), .ref (y 21), .ref (y 22), .ref (y 23), .ref (y 24), .ref (y 25)])), ((y 1), .inl (cI, 300, .inl m_tape)), ((y 17), .inl (cI, 43, .inl m_words))] sz) := by
  refine Met.ofW (cc := cX8_take) (maxL := 1) (ret := none) (by decide) rfl ?_
  intro p e s m args below meth c s₁ B hml hv
  obtain ⟨rfl, hsz, hP, hK, hD0⟩ := hv
  have hx := B.exec
  have hb := B.bytes
  have hr := B.returns
  have hts := atoms_spec (ws := wsX8_take) B.pre
  have hown : s.vm.findClass RX8 = some m.cls := findClass_of_methodNamed B.named
  have hlocks := B.notSynchronized
  subst hsz
  have hD := hD0.self (sz := s.heap.size)
  generalize hAe : va_A [((y 0), .inr (8, [.ref (y 1), .int (nI m_tapeSize), .int m_thrown, .ref (y 2), .int m_cycleMany, .int m_vote, .int m_low, .int m_high, .int m_wear, .int m_spare, .int m_places, .int m_cycleNext, .int m_fault, .int m_faultPlace, .int (nI m_givers), .ref (y 3), .ref (y 4), .int m_giverNext, .int (nI m_children), .ref (y 5), .ref (y 6), .ref (y 7), .ref (y 8), .ref (y 9), .int (nI m_coats), .ref (y 10), .ref (y 11), .ref (y 12), .ref (y 13), .int m_years, .int (nI m_legacies), .ref (y 14), .ref (y 15), .ref (y 16), .ref (y 17), .int (nI m_end), .int (nI m_next), .int m_kind, .int m_which, .int m_place, .int m_read, .ref (y 18), .ref (y 19), .int m_readMany, .int m_readHigh, .ref (y 20), .int (nI m_insideMany), .ref (y 21), .ref (y 22), .ref (y 23), .ref (y 24), .ref (y 25)])), ((y 1), .inl (cI, 300, .inl m_tape)), ((y 17), .inl (cI, 43, .inl m_words))] s.heap.size = A at hD ⊢
  have hA : ∀ q : Nat, s.heap.size ≤ q → A q := fun q h => by rw [← hAe]; exact Or.inr h
  have hS : va_S A s.heap s.heap [] := va_S.rf
  have hP : va_P D vwCl [((y 0), .inr (8, [.ref (y 1), .int (nI m_tapeSize), .int m_thrown, .ref (y 2), .int m_cycleMany, .int m_vote, .int m_low, .int m_high, .int m_wear, .int m_spare, .int m_places, .int m_cycleNext, .int m_fault, .int m_faultPlace, .int (nI m_givers), .ref (y 3), .ref (y 4), .int m_giverNext, .int (nI m_children), .ref (y 5), .ref (y 6), .ref (y 7), .ref (y 8), .ref (y 9), .int (nI m_coats), .ref (y 10), .ref (y 11), .ref (y 12), .ref (y 13), .int m_years, .int (nI m_legacies), .ref (y 14), .ref (y 15), .ref (y 16), .ref (y 17), .int (nI m_end), .int (nI m_next), .int m_kind, .int m_which, .int m_place, .int m_read, .ref (y 18), .ref (y 19), .int m_readMany, .int m_readHigh, .ref (y 20), .int (nI m_insideMany), .ref (y 21), .ref (y 22), .ref (y 23), .ref (y 24), .ref (y 25)])), ((y 1), .inl (cI, 300, .inl m_tape)), ((y 17), .inl (cI, 43, .inl m_words))] s.heap := hP
  have w_1 : ∀ w ∈ wsX80, w ∈ wsX8_take := by decide +kernel
  have w_2 := hts (Cond.fieldLink RX8 124 "BlueCoatsModel" "next" "I") (by decide +kernel)
  have w_3 := hts (Cond.fieldLink RX8 121 "BlueCoatsModel" "end" "I") (by decide +kernel)
  have w_4 := hts (Cond.fieldLink RX8 127 "BlueCoatsModel" "place" "I") (by decide +kernel)
  have w_5 := hts (Cond.fieldLink RX8 130 "BlueCoatsModel" "kind" "I") (by decide +kernel)
  have w_6 := hts (Cond.fieldLink RX8 7 "BlueCoatsModel" "tape" "[I") (by decide +kernel)
  have w_7 := hts (Cond.fieldLink RX8 141 "BlueCoatsModel" "which" "I") (by decide +kernel)
  have w_8 := hts (Cond.constant RX8 147 (99999)) (by decide +kernel)
  have hl := lv_entry ([.ref (y 0)]) (n := 1) (Nat.le_of_ble_eq_true rfl)
  rw [lg_entry_eq]
  generalize (lg_sl ([.ref (y 0)]) ++ List.replicate (1 - (lg_sl ([.ref (y 0)])).length) Slot.unset).toArray = ls at hl ⊢
  have hl : lv_has ls 1 [(0, .ref (y 0))] := hl
  generalize hQ : MQ below _ _ s _ _ _ = Q0
  have L_1 : ∀ (n : Nat) (i_0 : Nat)  (H : Heap) (locs : List Loc) (ls : Array Slot), m_end - i_0 < n → (i_0 ≤ m_end) → (skP m_tape m_end m_next i_0) → va_P D vwCl [((y 0), .inr (8, [.ref (y 1), .int (nI m_tapeSize), .int m_thrown, .ref (y 2), .int m_cycleMany, .int m_vote, .int m_low, .int m_high, .int m_wear, .int m_spare, .int m_places, .int m_cycleNext, .int m_fault, .int m_faultPlace, .int (nI m_givers), .ref (y 3), .ref (y 4), .int m_giverNext, .int (nI m_children), .ref (y 5), .ref (y 6), .ref (y 7), .ref (y 8), .ref (y 9), .int (nI m_coats), .ref (y 10), .ref (y 11), .ref (y 12), .ref (y 13), .int m_years, .int (nI m_legacies), .ref (y 14), .ref (y 15), .ref (y 16), .ref (y 17), .int (nI m_end), .int (nI i_0), .int m_kind, .int m_which, .int m_place, .int m_read, .ref (y 18), .ref (y 19), .int m_readMany, .int m_readHigh, .ref (y 20), .int (nI m_insideMany), .ref (y 21), .ref (y 22), .ref (y 23), .ref (y 24), .ref (y 25)])), ((y 1), .inl (cI, 300, .inl m_tape)), ((y 17), .inl (cI, 43, .inl m_words))] H → va_D A [((y 0), .inr (8, [.ref (y 1), .int (nI m_tapeSize), .int m_thrown, .ref (y 2), .int m_cycleMany, .int m_vote, .int m_low, .int m_high, .int m_wear, .int m_spare, .int m_places, .int m_cycleNext, .int m_fault, .int m_faultPlace, .int (nI m_givers), .ref (y 3), .ref (y 4), .int m_giverNext, .int (nI m_children), .ref (y 5), .ref (y 6), .ref (y 7), .ref (y 8), .ref (y 9), .int (nI m_coats), .ref (y 10), .ref (y 11), .ref (y 12), .ref (y 13), .int m_years, .int (nI m_legacies), .ref (y 14), .ref (y 15), .ref (y 16), .ref (y 17), .int (nI m_end), .int (nI i_0), .int m_kind, .int m_which, .int m_place, .int m_read, .ref (y 18), .ref (y 19), .int m_readMany, .int m_readHigh, .ref (y 20), .int (nI m_insideMany), .ref (y 21), .ref (y 22), .ref (y 23), .ref (y 24), .ref (y 25)])), ((y 1), .inl (cI, 300, .inl m_tape)), ((y 17), .inl (cI, 43, .inl m_words))] → va_S A s.heap H locs → lv_has ls 1 [(0, .ref (y 0))] → W p l e (headSpec wsX8_take ({ frames := 1, cells := 0, slots := 0, locals := 27 } : Room)).room s m ([.ref (y 0)] : List Value).toArray below meth c H locs 0 0 Q0 (F0 m 0 ls []) := by
    intro n
    induction n with
    | zero => intro i_0 H locs ls hn_0 hle_0 hB_0 hP hD hS hl; exact absurd hn_0 (Nat.not_lt_zero _)
    | succ n ih_L_1 =>
      intro i_0 H locs ls hn_0 hle_0 hB_0 hP hD hS hl
      refine lv_aload_n hx hb dX8_take_0 rfl (lv_at hl 0 rfl) ?_
      refine va_get (D := D) (ci := 8) (v := .int (nI i_0)) (C := RX8) (T := TX8) (N := 52) hx hb hts w_1 hown hK hP 0 rfl rfl 36 (by decide) w_2 (fun _ h9 => h9) rfl dX8_take_1 ?_
      refine lv_aload_n hx hb dX8_take_4 rfl (lv_at hl 0 rfl) ?_
      refine va_get (D := D) (ci := 8) (v := .int (nI m_end)) (C := RX8) (T := TX8) (N := 52) hx hb hts w_1 hown hK hP 0 rfl rfl 35 (by decide) w_3 (fun _ h9 => h9) rfl dX8_take_5 ?_
      refine lv_icmp_ge (tgt := 52) hx hb dX8_take_8 (by decide) (fun c_8 => ?_) (fun c_8 => ?_)
      ·
        have hTS : tS m_tape m_end m_next = i_0 := sk_e hB_0 (fun h => absurd h.1 (Nat.not_lt.mpr (ge3 (by omega) hle_0 c_8)))
        refine lv_aload_n hx hb dX8_take_52 rfl (lv_at hl 0 rfl) ?_
        refine lv_aload_n hx hb dX8_take_53 rfl (lv_at hl 0 rfl) ?_
        refine va_get (D := D) (ci := 8) (v := .int (nI i_0)) (C := RX8) (T := TX8) (N := 52) hx hb hts w_1 hown hK hP 0 rfl rfl 36 (by decide) w_2 (fun _ h9 => h9) rfl dX8_take_54 ?_
        refine va_put (D := D) (ci := 8) (v := .int (nI i_0)) (ty := .int) (C := RX8) (T := TX8) (N := 52) hx hb hts w_1 tyX8 tyX8_ok nmX8 hown hK hP hD hS 0 rfl rfl 39 (by decide) w_4 (fun _ h9 => h9) rfl (by decide +kernel) rfl rfl (Nat.le_of_ble_eq_true rfl) dX8_take_57 (fun H locs hP hD hS => ?_)
        have hP : va_P D vwCl [((y 0), .inr (8, [.ref (y 1), .int (nI m_tapeSize), .int m_thrown, .ref (y 2), .int m_cycleMany, .int m_vote, .int m_low, .int m_high, .int m_wear, .int m_spare, .int m_places, .int m_cycleNext, .int m_fault, .int m_faultPlace, .int (nI m_givers), .ref (y 3), .ref (y 4), .int m_giverNext, .int (nI m_children), .ref (y 5), .ref (y 6), .ref (y 7), .ref (y 8), .ref (y 9), .int (nI m_coats), .ref (y 10), .ref (y 11), .ref (y 12), .ref (y 13), .int m_years, .int (nI m_legacies), .ref (y 14), .ref (y 15), .ref (y 16), .ref (y 17), .int (nI m_end), .int (nI i_0), .int m_kind, .int m_which, .int (nI i_0), .int m_read, .ref (y 18), .ref (y 19), .int m_readMany, .int m_readHigh, .ref (y 20), .int (nI m_insideMany), .ref (y 21), .ref (y 22), .ref (y 23), .ref (y 24), .ref (y 25)])), ((y 1), .inl (cI, 300, .inl m_tape)), ((y 17), .inl (cI, 43, .inl m_words))] H := hP
        have hD : va_D A [((y 0), .inr (8, [.ref (y 1), .int (nI m_tapeSize), .int m_thrown, .ref (y 2), .int m_cycleMany, .int m_vote, .int m_low, .int m_high, .int m_wear, .int m_spare, .int m_places, .int m_cycleNext, .int m_fault, .int m_faultPlace, .int (nI m_givers), .ref (y 3), .ref (y 4), .int m_giverNext, .int (nI m_children), .ref (y 5), .ref (y 6), .ref (y 7), .ref (y 8), .ref (y 9), .int (nI m_coats), .ref (y 10), .ref (y 11), .ref (y 12), .ref (y 13), .int m_years, .int (nI m_legacies), .ref (y 14), .ref (y 15), .ref (y 16), .ref (y 17), .int (nI m_end), .int (nI i_0), .int m_kind, .int m_which, .int (nI i_0), .int m_read, .ref (y 18), .ref (y 19), .int m_readMany, .int m_readHigh, .ref (y 20), .int (nI m_insideMany), .ref (y 21), .ref (y 22), .ref (y 23), .ref (y 24), .ref (y 25)])), ((y 1), .inl (cI, 300, .inl m_tape)), ((y 17), .inl (cI, 43, .inl m_words))] := hD
        refine lv_aload_n hx hb dX8_take_60 rfl (lv_at hl 0 rfl) ?_
        refine va_get (D := D) (ci := 8) (v := .int (nI i_0)) (C := RX8) (T := TX8) (N := 52) hx hb hts w_1 hown hK hP 0 rfl rfl 36 (by decide) w_2 (fun _ h9 => h9) rfl dX8_take_61 ?_
        refine lv_aload_n hx hb dX8_take_64 rfl (lv_at hl 0 rfl) ?_
        refine va_get (D := D) (ci := 8) (v := .int (nI m_end)) (C := RX8) (T := TX8) (N := 52) hx hb hts w_1 hown hK hP 0 rfl rfl 35 (by decide) w_3 (fun _ h9 => h9) rfl dX8_take_65 ?_
        refine lv_icmp_ne (tgt := 79) hx hb dX8_take_68 (by decide) (fun h => absurd h (fun h => h (by rw [Nat.le_antisymm hle_0 (ge3 (by omega) hle_0 c_8)]))) (fun _ => ?_)
        refine lv_aload_n hx hb dX8_take_71 rfl (lv_at hl 0 rfl) ?_
        refine lv_iconst (v := 0) hx hb dX8_take_72 (by decide) ?_
        refine va_put (D := D) (ci := 8) (v := .int 0) (ty := .int) (C := RX8) (T := TX8) (N := 52) hx hb hts w_1 tyX8 tyX8_ok nmX8 hown hK hP hD hS 0 rfl rfl 37 (by decide) w_5 (fun _ h9 => h9) rfl (by decide +kernel) rfl rfl (Nat.le_of_ble_eq_true rfl) dX8_take_73 (fun H locs hP hD hS => ?_)
        have hP : va_P D vwCl [((y 0), .inr (8, [.ref (y 1), .int (nI m_tapeSize), .int m_thrown, .ref (y 2), .int m_cycleMany, .int m_vote, .int m_low, .int m_high, .int m_wear, .int m_spare, .int m_places, .int m_cycleNext, .int m_fault, .int m_faultPlace, .int (nI m_givers), .ref (y 3), .ref (y 4), .int m_giverNext, .int (nI m_children), .ref (y 5), .ref (y 6), .ref (y 7), .ref (y 8), .ref (y 9), .int (nI m_coats), .ref (y 10), .ref (y 11), .ref (y 12), .ref (y 13), .int m_years, .int (nI m_legacies), .ref (y 14), .ref (y 15), .ref (y 16), .ref (y 17), .int (nI m_end), .int (nI i_0), .int 0, .int m_which, .int (nI i_0), .int m_read, .ref (y 18), .ref (y 19), .int m_readMany, .int m_readHigh, .ref (y 20), .int (nI m_insideMany), .ref (y 21), .ref (y 22), .ref (y 23), .ref (y 24), .ref (y 25)])), ((y 1), .inl (cI, 300, .inl m_tape)), ((y 17), .inl (cI, 43, .inl m_words))] H := hP
        have hD : va_D A [((y 0), .inr (8, [.ref (y 1), .int (nI m_tapeSize), .int m_thrown, .ref (y 2), .int m_cycleMany, .int m_vote, .int m_low, .int m_high, .int m_wear, .int m_spare, .int m_places, .int m_cycleNext, .int m_fault, .int m_faultPlace, .int (nI m_givers), .ref (y 3), .ref (y 4), .int m_giverNext, .int (nI m_children), .ref (y 5), .ref (y 6), .ref (y 7), .ref (y 8), .ref (y 9), .int (nI m_coats), .ref (y 10), .ref (y 11), .ref (y 12), .ref (y 13), .int m_years, .int (nI m_legacies), .ref (y 14), .ref (y 15), .ref (y 16), .ref (y 17), .int (nI m_end), .int (nI i_0), .int 0, .int m_which, .int (nI i_0), .int m_read, .ref (y 18), .ref (y 19), .int m_readMany, .int m_readHigh, .ref (y 20), .int (nI m_insideMany), .ref (y 21), .ref (y 22), .ref (y 23), .ref (y 24), .ref (y 25)])), ((y 1), .inl (cI, 300, .inl m_tape)), ((y 17), .inl (cI, 43, .inl m_words))] := hD
        refine lv_goto (tgt := 267) hx hb dX8_take_76 (by decide) ?_
        rw [← hQ]
        have hP9 := hP.sub (ws' := [((y 0), .inr (8, [.ref (y 1), .int (nI m_tapeSize), .int m_thrown, .ref (y 2), .int m_cycleMany, .int m_vote, .int m_low, .int m_high, .int m_wear, .int m_spare, .int m_places, .int m_cycleNext, .int m_fault, .int m_faultPlace, .int (nI m_givers), .ref (y 3), .ref (y 4), .int m_giverNext, .int (nI m_children), .ref (y 5), .ref (y 6), .ref (y 7), .ref (y 8), .ref (y 9), .int (nI m_coats), .ref (y 10), .ref (y 11), .ref (y 12), .ref (y 13), .int m_years, .int (nI m_legacies), .ref (y 14), .ref (y 15), .ref (y 16), .ref (y 17), .int (nI m_end), .int (nI i_0), .int 0, .int m_which, .int (nI i_0), .int m_read, .ref (y 18), .ref (y 19), .int m_readMany, .int m_readHigh, .ref (y 20), .int (nI m_insideMany), .ref (y 21), .ref (y 22), .ref (y 23), .ref (y 24), .ref (y 25)])), ((y 1), .inl (cI, 300, .inl m_tape)), ((y 17), .inl (cI, 43, .inl m_words))]) [0, 1, 2] rfl
        have hD9 := hD.sub (ws' := [((y 0), .inr (8, [.ref (y 1), .int (nI m_tapeSize), .int m_thrown, .ref (y 2), .int m_cycleMany, .int m_vote, .int m_low, .int m_high, .int m_wear, .int m_spare, .int m_places, .int m_cycleNext, .int m_fault, .int m_faultPlace, .int (nI m_givers), .ref (y 3), .ref (y 4), .int m_giverNext, .int (nI m_children), .ref (y 5), .ref (y 6), .ref (y 7), .ref (y 8), .ref (y 9), .int (nI m_coats), .ref (y 10), .ref (y 11), .ref (y 12), .ref (y 13), .int m_years, .int (nI m_legacies), .ref (y 14), .ref (y 15), .ref (y 16), .ref (y 17), .int (nI m_end), .int (nI i_0), .int 0, .int m_which, .int (nI i_0), .int m_read, .ref (y 18), .ref (y 19), .int m_readMany, .int m_readHigh, .ref (y 20), .int (nI m_insideMany), .ref (y 21), .ref (y 22), .ref (y 23), .ref (y 24), .ref (y 25)])), ((y 1), .inl (cI, 300, .inl m_tape)), ((y 17), .inl (cI, 43, .inl m_words))]) [0, 1, 2] (by decide) rfl
        exact W.vret hx hb hr (fun t ht hW => ⟨⟨(i_0, i_0, (m_which : Int32), (0 : Int32)), rfl, (cm_0 hTS (ge3 (by omega) hle_0 c_8)), by rw [ht]; exact hP9, va_K.moved hW.alike hK, hD9⟩, hS.F ht⟩) hS.2.2 dX8_take_267
      ·
        have hb_0 : i_0 < m_end := lt3 (by omega) hle_0 c_8
        refine lv_aload_n hx hb dX8_take_11 rfl (lv_at hl 0 rfl) ?_
        refine va_get (D := D) (ci := 8) (v := .ref (y 1)) (C := RX8) (T := TX8) (N := 52) hx hb hts w_1 hown hK hP 0 rfl rfl 0 (by decide) w_6 (fun _ h9 => h9) rfl dX8_take_12 ?_
        refine lv_aload_n hx hb dX8_take_15 rfl (lv_at hl 0 rfl) ?_
        refine va_get (D := D) (ci := 8) (v := .int (nI i_0)) (C := RX8) (T := TX8) (N := 52) hx hb hts w_1 hown hK hP 0 rfl rfl 36 (by decide) w_2 (fun _ h9 => h9) rfl dX8_take_16 ?_
        refine sv_iald (v := m_tape i_0) hx hb hK hP 1 1 rfl rfl (vp_in_nI (by omega) (by decide)) (congrArg _ (nI_clamp (by omega))) dX8_take_19 ?_
        refine lv_bipush (v := 10) hx hb dX8_take_20 (by decide) ?_
        refine lv_icmp_eq (tgt := 39) hx hb dX8_take_22 (by decide) (fun c_22 => ?_) (fun c_22 => ?_)
        ·
          refine lv_aload_n hx hb dX8_take_39 rfl (lv_at hl 0 rfl) ?_
          refine lv_dup hx hb dX8_take_40 rfl ?_
          refine va_get (D := D) (ci := 8) (v := .int (nI i_0)) (C := RX8) (T := TX8) (N := 52) hx hb hts w_1 hown hK hP 0 rfl rfl 36 (by decide) w_2 (fun _ h9 => h9) rfl dX8_take_41 ?_
          refine lv_iconst (v := 1) hx hb dX8_take_44 (by decide) ?_
          refine sv_iadd (v := nI (i_0 + 1)) hx hb dX8_take_45 (ax_add _ 1) ?_
          refine va_put (D := D) (ci := 8) (v := .int (nI (i_0 + 1))) (ty := .int) (C := RX8) (T := TX8) (N := 52) hx hb hts w_1 tyX8 tyX8_ok nmX8 hown hK hP hD hS 0 rfl rfl 36 (by decide) w_2 (fun _ h9 => h9) rfl (by decide +kernel) rfl rfl (Nat.le_of_ble_eq_true rfl) dX8_take_46 (fun H locs hP hD hS => ?_)
          have hP : va_P D vwCl [((y 0), .inr (8, [.ref (y 1), .int (nI m_tapeSize), .int m_thrown, .ref (y 2), .int m_cycleMany, .int m_vote, .int m_low, .int m_high, .int m_wear, .int m_spare, .int m_places, .int m_cycleNext, .int m_fault, .int m_faultPlace, .int (nI m_givers), .ref (y 3), .ref (y 4), .int m_giverNext, .int (nI m_children), .ref (y 5), .ref (y 6), .ref (y 7), .ref (y 8), .ref (y 9), .int (nI m_coats), .ref (y 10), .ref (y 11), .ref (y 12), .ref (y 13), .int m_years, .int (nI m_legacies), .ref (y 14), .ref (y 15), .ref (y 16), .ref (y 17), .int (nI m_end), .int (nI (i_0 + 1)), .int m_kind, .int m_which, .int m_place, .int m_read, .ref (y 18), .ref (y 19), .int m_readMany, .int m_readHigh, .ref (y 20), .int (nI m_insideMany), .ref (y 21), .ref (y 22), .ref (y 23), .ref (y 24), .ref (y 25)])), ((y 1), .inl (cI, 300, .inl m_tape)), ((y 17), .inl (cI, 43, .inl m_words))] H := hP
          have hD : va_D A [((y 0), .inr (8, [.ref (y 1), .int (nI m_tapeSize), .int m_thrown, .ref (y 2), .int m_cycleMany, .int m_vote, .int m_low, .int m_high, .int m_wear, .int m_spare, .int m_places, .int m_cycleNext, .int m_fault, .int m_faultPlace, .int (nI m_givers), .ref (y 3), .ref (y 4), .int m_giverNext, .int (nI m_children), .ref (y 5), .ref (y 6), .ref (y 7), .ref (y 8), .ref (y 9), .int (nI m_coats), .ref (y 10), .ref (y 11), .ref (y 12), .ref (y 13), .int m_years, .int (nI m_legacies), .ref (y 14), .ref (y 15), .ref (y 16), .ref (y 17), .int (nI m_end), .int (nI (i_0 + 1)), .int m_kind, .int m_which, .int m_place, .int m_read, .ref (y 18), .ref (y 19), .int m_readMany, .int m_readHigh, .ref (y 20), .int (nI m_insideMany), .ref (y 21), .ref (y 22), .ref (y 23), .ref (y 24), .ref (y 25)])), ((y 1), .inl (cI, 300, .inl m_tape)), ((y 17), .inl (cI, 43, .inl m_words))] := hD
          refine lv_goto (tgt := 0) hx hb dX8_take_49 (by decide) ?_
          exact ih_L_1 (i_0 + 1) _ _ ls (by omega) (by omega) (sk_s hB_0 hb_0 (Or.inl c_22)) hP hD hS (lv_sub hl [0] rfl)
        ·
          refine lv_aload_n hx hb dX8_take_25 rfl (lv_at hl 0 rfl) ?_
          refine va_get (D := D) (ci := 8) (v := .ref (y 1)) (C := RX8) (T := TX8) (N := 52) hx hb hts w_1 hown hK hP 0 rfl rfl 0 (by decide) w_6 (fun _ h9 => h9) rfl dX8_take_26 ?_
          refine lv_aload_n hx hb dX8_take_29 rfl (lv_at hl 0 rfl) ?_
          refine va_get (D := D) (ci := 8) (v := .int (nI i_0)) (C := RX8) (T := TX8) (N := 52) hx hb hts w_1 hown hK hP 0 rfl rfl 36 (by decide) w_2 (fun _ h9 => h9) rfl dX8_take_30 ?_
          refine sv_iald (v := m_tape i_0) hx hb hK hP 1 1 rfl rfl (vp_in_nI (by omega) (by decide)) (congrArg _ (nI_clamp (by omega))) dX8_take_33 ?_
          refine lv_bipush (v := 32) hx hb dX8_take_34 (by decide) ?_
          refine lv_icmp_ne (tgt := 52) hx hb dX8_take_36 (by decide) (fun c_36 => ?_) (fun c_36 => ?_)
          ·
            have hTS : tS m_tape m_end m_next = i_0 := sk_e hB_0 (fun h => h.2.elim c_22 c_36)
            refine lv_aload_n hx hb dX8_take_52 rfl (lv_at hl 0 rfl) ?_
            refine lv_aload_n hx hb dX8_take_53 rfl (lv_at hl 0 rfl) ?_
            refine va_get (D := D) (ci := 8) (v := .int (nI i_0)) (C := RX8) (T := TX8) (N := 52) hx hb hts w_1 hown hK hP 0 rfl rfl 36 (by decide) w_2 (fun _ h9 => h9) rfl dX8_take_54 ?_
            refine va_put (D := D) (ci := 8) (v := .int (nI i_0)) (ty := .int) (C := RX8) (T := TX8) (N := 52) hx hb hts w_1 tyX8 tyX8_ok nmX8 hown hK hP hD hS 0 rfl rfl 39 (by decide) w_4 (fun _ h9 => h9) rfl (by decide +kernel) rfl rfl (Nat.le_of_ble_eq_true rfl) dX8_take_57 (fun H locs hP hD hS => ?_)
            have hP : va_P D vwCl [((y 0), .inr (8, [.ref (y 1), .int (nI m_tapeSize), .int m_thrown, .ref (y 2), .int m_cycleMany, .int m_vote, .int m_low, .int m_high, .int m_wear, .int m_spare, .int m_places, .int m_cycleNext, .int m_fault, .int m_faultPlace, .int (nI m_givers), .ref (y 3), .ref (y 4), .int m_giverNext, .int (nI m_children), .ref (y 5), .ref (y 6), .ref (y 7), .ref (y 8), .ref (y 9), .int (nI m_coats), .ref (y 10), .ref (y 11), .ref (y 12), .ref (y 13), .int m_years, .int (nI m_legacies), .ref (y 14), .ref (y 15), .ref (y 16), .ref (y 17), .int (nI m_end), .int (nI i_0), .int m_kind, .int m_which, .int (nI i_0), .int m_read, .ref (y 18), .ref (y 19), .int m_readMany, .int m_readHigh, .ref (y 20), .int (nI m_insideMany), .ref (y 21), .ref (y 22), .ref (y 23), .ref (y 24), .ref (y 25)])), ((y 1), .inl (cI, 300, .inl m_tape)), ((y 17), .inl (cI, 43, .inl m_words))] H := hP
            have hD : va_D A [((y 0), .inr (8, [.ref (y 1), .int (nI m_tapeSize), .int m_thrown, .ref (y 2), .int m_cycleMany, .int m_vote, .int m_low, .int m_high, .int m_wear, .int m_spare, .int m_places, .int m_cycleNext, .int m_fault, .int m_faultPlace, .int (nI m_givers), .ref (y 3), .ref (y 4), .int m_giverNext, .int (nI m_children), .ref (y 5), .ref (y 6), .ref (y 7), .ref (y 8), .ref (y 9), .int (nI m_coats), .ref (y 10), .ref (y 11), .ref (y 12), .ref (y 13), .int m_years, .int (nI m_legacies), .ref (y 14), .ref (y 15), .ref (y 16), .ref (y 17), .int (nI m_end), .int (nI i_0), .int m_kind, .int m_which, .int (nI i_0), .int m_read, .ref (y 18), .ref (y 19), .int m_readMany, .int m_readHigh, .ref (y 20), .int (nI m_insideMany), .ref (y 21), .ref (y 22), .ref (y 23), .ref (y 24), .ref (y 25)])), ((y 1), .inl (cI, 300, .inl m_tape)), ((y 17), .inl (cI, 43, .inl m_words))] := hD
            refine lv_aload_n hx hb dX8_take_60 rfl (lv_at hl 0 rfl) ?_
            refine va_get (D := D) (ci := 8) (v := .int (nI i_0)) (C := RX8) (T := TX8) (N := 52) hx hb hts w_1 hown hK hP 0 rfl rfl 36 (by decide) w_2 (fun _ h9 => h9) rfl dX8_take_61 ?_
            refine lv_aload_n hx hb dX8_take_64 rfl (lv_at hl 0 rfl) ?_
            refine va_get (D := D) (ci := 8) (v := .int (nI m_end)) (C := RX8) (T := TX8) (N := 52) hx hb hts w_1 hown hK hP 0 rfl rfl 35 (by decide) w_3 (fun _ h9 => h9) rfl dX8_take_65 ?_
            refine lv_icmp_ne (tgt := 79) hx hb dX8_take_68 (by decide) (fun _ => ?_) (fun h => absurd h (fun h => absurd ((nI_eq (by omega) (by omega)).mp h) (by omega)))
            refine lv_aload_n hx hb dX8_take_79 rfl (lv_at hl 0 rfl) ?_
            refine lv_aload_n hx hb dX8_take_80 rfl (lv_at hl 0 rfl) ?_
            refine va_get (D := D) (ci := 8) (v := .int (nI i_0)) (C := RX8) (T := TX8) (N := 52) hx hb hts w_1 hown hK hP 0 rfl rfl 36 (by decide) w_2 (fun _ h9 => h9) rfl dX8_take_81 ?_
            refine vp_callSi (va_Run.run (va_runV (As := [.int (nI i_0)]) (rest := []) ⟨hx, hb, hml, hown, hts⟩ (f_X8_isSmall l D cB cI cJ cZ y m_tapeSize m_givers m_children m_coats m_legacies m_end m_insideMany m_thrown m_cycleMany m_vote m_low m_high m_wear m_spare m_places m_cycleNext m_fault m_faultPlace m_giverNext m_years (nI i_0) m_kind m_which (nI i_0) m_read m_readMany m_readHigh m_tape i_0 he (by omega)) (cwV 1 hts gX8_take_X8_isSmall rfl rfl rfl (by decide +kernel) ⟨Nat.le_of_ble_eq_true rfl, Nat.le_of_ble_eq_true rfl⟩) (pre_VR (hP.sub (ws' := [((y 0), .inr (8, [.ref (y 1), .int (nI m_tapeSize), .int m_thrown, .ref (y 2), .int m_cycleMany, .int m_vote, .int m_low, .int m_high, .int m_wear, .int m_spare, .int m_places, .int m_cycleNext, .int m_fault, .int m_faultPlace, .int (nI m_givers), .ref (y 3), .ref (y 4), .int m_giverNext, .int (nI m_children), .ref (y 5), .ref (y 6), .ref (y 7), .ref (y 8), .ref (y 9), .int (nI m_coats), .ref (y 10), .ref (y 11), .ref (y 12), .ref (y 13), .int m_years, .int (nI m_legacies), .ref (y 14), .ref (y 15), .ref (y 16), .ref (y 17), .int (nI m_end), .int (nI i_0), .int m_kind, .int m_which, .int (nI i_0), .int m_read, .ref (y 18), .ref (y 19), .int m_readMany, .int m_readHigh, .ref (y 20), .int (nI m_insideMany), .ref (y 21), .ref (y 22), .ref (y 23), .ref (y 24), .ref (y 25)])), ((y 1), .inl (cI, 300, .inl m_tape))]) [0, 1] rfl) hK 0 rfl rfl rfl) rfl rfl hl.1 rfl (lv_room (Nat.le_of_ble_eq_true rfl)) dX8_take_84 ⟨Nat.le_of_ble_eq_true rfl, Nat.le_of_ble_eq_true rfl⟩)) (fun r_2 hw_r_2 => ?_)
            refine lv_if_eq (tgt := 149) hx hb dX8_take_87 (by decide) (fun c_87 => ?_) (fun c_87 => ?_)
            ·
              refine lv_aload_n hx hb dX8_take_149 rfl (lv_at hl 0 rfl) ?_
              refine lv_aload_n hx hb dX8_take_150 rfl (lv_at hl 0 rfl) ?_
              refine va_get (D := D) (ci := 8) (v := .int (nI i_0)) (C := RX8) (T := TX8) (N := 52) hx hb hts w_1 hown hK hP 0 rfl rfl 36 (by decide) w_2 (fun _ h9 => h9) rfl dX8_take_151 ?_
              refine vp_callSi (va_Run.run (va_runV (As := [.int (nI i_0)]) (rest := []) ⟨hx, hb, hml, hown, hts⟩ (f_X8_isDigit l D cB cI cJ cZ y m_tapeSize m_givers m_children m_coats m_legacies m_end m_insideMany m_thrown m_cycleMany m_vote m_low m_high m_wear m_spare m_places m_cycleNext m_fault m_faultPlace m_giverNext m_years (nI i_0) m_kind m_which (nI i_0) m_read m_readMany m_readHigh m_tape i_0 he (by omega)) (cwV 1 hts gX8_take_X8_isDigit rfl rfl rfl (by decide +kernel) ⟨Nat.le_of_ble_eq_true rfl, Nat.le_of_ble_eq_true rfl⟩) (pre_VR (hP.sub (ws' := [((y 0), .inr (8, [.ref (y 1), .int (nI m_tapeSize), .int m_thrown, .ref (y 2), .int m_cycleMany, .int m_vote, .int m_low, .int m_high, .int m_wear, .int m_spare, .int m_places, .int m_cycleNext, .int m_fault, .int m_faultPlace, .int (nI m_givers), .ref (y 3), .ref (y 4), .int m_giverNext, .int (nI m_children), .ref (y 5), .ref (y 6), .ref (y 7), .ref (y 8), .ref (y 9), .int (nI m_coats), .ref (y 10), .ref (y 11), .ref (y 12), .ref (y 13), .int m_years, .int (nI m_legacies), .ref (y 14), .ref (y 15), .ref (y 16), .ref (y 17), .int (nI m_end), .int (nI i_0), .int m_kind, .int m_which, .int (nI i_0), .int m_read, .ref (y 18), .ref (y 19), .int m_readMany, .int m_readHigh, .ref (y 20), .int (nI m_insideMany), .ref (y 21), .ref (y 22), .ref (y 23), .ref (y 24), .ref (y 25)])), ((y 1), .inl (cI, 300, .inl m_tape))]) [0, 1] rfl) hK 0 rfl rfl rfl) rfl rfl hl.1 rfl (lv_room (Nat.le_of_ble_eq_true rfl)) dX8_take_154 ⟨Nat.le_of_ble_eq_true rfl, Nat.le_of_ble_eq_true rfl⟩)) (fun r_3 hw_r_3 => ?_)
              refine lv_if_eq (tgt := 234) hx hb dX8_take_157 (by decide) (fun c_157 => ?_) (fun c_157 => ?_)
              ·
                refine lv_aload_n hx hb dX8_take_234 rfl (lv_at hl 0 rfl) ?_
                refine lv_aload_n hx hb dX8_take_235 rfl (lv_at hl 0 rfl) ?_
                refine va_get (D := D) (ci := 8) (v := .ref (y 1)) (C := RX8) (T := TX8) (N := 52) hx hb hts w_1 hown hK hP 0 rfl rfl 0 (by decide) w_6 (fun _ h9 => h9) rfl dX8_take_236 ?_
                refine lv_aload_n hx hb dX8_take_239 rfl (lv_at hl 0 rfl) ?_
                refine va_get (D := D) (ci := 8) (v := .int (nI i_0)) (C := RX8) (T := TX8) (N := 52) hx hb hts w_1 hown hK hP 0 rfl rfl 36 (by decide) w_2 (fun _ h9 => h9) rfl dX8_take_240 ?_
                refine sv_iald (v := m_tape i_0) hx hb hK hP 1 1 rfl rfl (vp_in_nI (by omega) (by decide)) (congrArg _ (nI_clamp (by omega))) dX8_take_243 ?_
                refine lv_bipush (v := 59) hx hb dX8_take_244 (by decide) ?_
                refine lv_icmp_ne (tgt := 253) hx hb dX8_take_246 (by decide) (fun c_246 => ?_) (fun c_246 => ?_)
                ·
                  refine lv_iconst (v := 4) hx hb dX8_take_253 (by decide) ?_
                  refine va_put (D := D) (ci := 8) (v := .int 4) (ty := .int) (C := RX8) (T := TX8) (N := 52) hx hb hts w_1 tyX8 tyX8_ok nmX8 hown hK hP hD hS 0 rfl rfl 37 (by decide) w_5 (fun _ h9 => h9) rfl (by decide +kernel) rfl rfl (Nat.le_of_ble_eq_true rfl) dX8_take_254 (fun H locs hP hD hS => ?_)
                  have hP : va_P D vwCl [((y 0), .inr (8, [.ref (y 1), .int (nI m_tapeSize), .int m_thrown, .ref (y 2), .int m_cycleMany, .int m_vote, .int m_low, .int m_high, .int m_wear, .int m_spare, .int m_places, .int m_cycleNext, .int m_fault, .int m_faultPlace, .int (nI m_givers), .ref (y 3), .ref (y 4), .int m_giverNext, .int (nI m_children), .ref (y 5), .ref (y 6), .ref (y 7), .ref (y 8), .ref (y 9), .int (nI m_coats), .ref (y 10), .ref (y 11), .ref (y 12), .ref (y 13), .int m_years, .int (nI m_legacies), .ref (y 14), .ref (y 15), .ref (y 16), .ref (y 17), .int (nI m_end), .int (nI i_0), .int 4, .int m_which, .int (nI i_0), .int m_read, .ref (y 18), .ref (y 19), .int m_readMany, .int m_readHigh, .ref (y 20), .int (nI m_insideMany), .ref (y 21), .ref (y 22), .ref (y 23), .ref (y 24), .ref (y 25)])), ((y 1), .inl (cI, 300, .inl m_tape)), ((y 17), .inl (cI, 43, .inl m_words))] H := hP
                  have hD : va_D A [((y 0), .inr (8, [.ref (y 1), .int (nI m_tapeSize), .int m_thrown, .ref (y 2), .int m_cycleMany, .int m_vote, .int m_low, .int m_high, .int m_wear, .int m_spare, .int m_places, .int m_cycleNext, .int m_fault, .int m_faultPlace, .int (nI m_givers), .ref (y 3), .ref (y 4), .int m_giverNext, .int (nI m_children), .ref (y 5), .ref (y 6), .ref (y 7), .ref (y 8), .ref (y 9), .int (nI m_coats), .ref (y 10), .ref (y 11), .ref (y 12), .ref (y 13), .int m_years, .int (nI m_legacies), .ref (y 14), .ref (y 15), .ref (y 16), .ref (y 17), .int (nI m_end), .int (nI i_0), .int 4, .int m_which, .int (nI i_0), .int m_read, .ref (y 18), .ref (y 19), .int m_readMany, .int m_readHigh, .ref (y 20), .int (nI m_insideMany), .ref (y 21), .ref (y 22), .ref (y 23), .ref (y 24), .ref (y 25)])), ((y 1), .inl (cI, 300, .inl m_tape)), ((y 17), .inl (cI, 43, .inl m_words))] := hD
                  refine lv_aload_n hx hb dX8_take_257 rfl (lv_at hl 0 rfl) ?_
                  refine lv_dup hx hb dX8_take_258 rfl ?_
                  refine va_get (D := D) (ci := 8) (v := .int (nI i_0)) (C := RX8) (T := TX8) (N := 52) hx hb hts w_1 hown hK hP 0 rfl rfl 36 (by decide) w_2 (fun _ h9 => h9) rfl dX8_take_259 ?_
                  refine lv_iconst (v := 1) hx hb dX8_take_262 (by decide) ?_
                  refine sv_iadd (v := nI (i_0 + 1)) hx hb dX8_take_263 (ax_add _ 1) ?_
                  refine va_put (D := D) (ci := 8) (v := .int (nI (i_0 + 1))) (ty := .int) (C := RX8) (T := TX8) (N := 52) hx hb hts w_1 tyX8 tyX8_ok nmX8 hown hK hP hD hS 0 rfl rfl 36 (by decide) w_2 (fun _ h9 => h9) rfl (by decide +kernel) rfl rfl (Nat.le_of_ble_eq_true rfl) dX8_take_264 (fun H locs hP hD hS => ?_)
                  have hP : va_P D vwCl [((y 0), .inr (8, [.ref (y 1), .int (nI m_tapeSize), .int m_thrown, .ref (y 2), .int m_cycleMany, .int m_vote, .int m_low, .int m_high, .int m_wear, .int m_spare, .int m_places, .int m_cycleNext, .int m_fault, .int m_faultPlace, .int (nI m_givers), .ref (y 3), .ref (y 4), .int m_giverNext, .int (nI m_children), .ref (y 5), .ref (y 6), .ref (y 7), .ref (y 8), .ref (y 9), .int (nI m_coats), .ref (y 10), .ref (y 11), .ref (y 12), .ref (y 13), .int m_years, .int (nI m_legacies), .ref (y 14), .ref (y 15), .ref (y 16), .ref (y 17), .int (nI m_end), .int (nI (i_0 + 1)), .int 4, .int m_which, .int (nI i_0), .int m_read, .ref (y 18), .ref (y 19), .int m_readMany, .int m_readHigh, .ref (y 20), .int (nI m_insideMany), .ref (y 21), .ref (y 22), .ref (y 23), .ref (y 24), .ref (y 25)])), ((y 1), .inl (cI, 300, .inl m_tape)), ((y 17), .inl (cI, 43, .inl m_words))] H := hP
                  have hD : va_D A [((y 0), .inr (8, [.ref (y 1), .int (nI m_tapeSize), .int m_thrown, .ref (y 2), .int m_cycleMany, .int m_vote, .int m_low, .int m_high, .int m_wear, .int m_spare, .int m_places, .int m_cycleNext, .int m_fault, .int m_faultPlace, .int (nI m_givers), .ref (y 3), .ref (y 4), .int m_giverNext, .int (nI m_children), .ref (y 5), .ref (y 6), .ref (y 7), .ref (y 8), .ref (y 9), .int (nI m_coats), .ref (y 10), .ref (y 11), .ref (y 12), .ref (y 13), .int m_years, .int (nI m_legacies), .ref (y 14), .ref (y 15), .ref (y 16), .ref (y 17), .int (nI m_end), .int (nI (i_0 + 1)), .int 4, .int m_which, .int (nI i_0), .int m_read, .ref (y 18), .ref (y 19), .int m_readMany, .int m_readHigh, .ref (y 20), .int (nI m_insideMany), .ref (y 21), .ref (y 22), .ref (y 23), .ref (y 24), .ref (y 25)])), ((y 1), .inl (cI, 300, .inl m_tape)), ((y 17), .inl (cI, 43, .inl m_words))] := hD
                  rw [← hQ]
                  have hP9 := hP.sub (ws' := [((y 0), .inr (8, [.ref (y 1), .int (nI m_tapeSize), .int m_thrown, .ref (y 2), .int m_cycleMany, .int m_vote, .int m_low, .int m_high, .int m_wear, .int m_spare, .int m_places, .int m_cycleNext, .int m_fault, .int m_faultPlace, .int (nI m_givers), .ref (y 3), .ref (y 4), .int m_giverNext, .int (nI m_children), .ref (y 5), .ref (y 6), .ref (y 7), .ref (y 8), .ref (y 9), .int (nI m_coats), .ref (y 10), .ref (y 11), .ref (y 12), .ref (y 13), .int m_years, .int (nI m_legacies), .ref (y 14), .ref (y 15), .ref (y 16), .ref (y 17), .int (nI m_end), .int (nI (i_0 + 1)), .int 4, .int m_which, .int (nI i_0), .int m_read, .ref (y 18), .ref (y 19), .int m_readMany, .int m_readHigh, .ref (y 20), .int (nI m_insideMany), .ref (y 21), .ref (y 22), .ref (y 23), .ref (y 24), .ref (y 25)])), ((y 1), .inl (cI, 300, .inl m_tape)), ((y 17), .inl (cI, 43, .inl m_words))]) [0, 1, 2] rfl
                  have hD9 := hD.sub (ws' := [((y 0), .inr (8, [.ref (y 1), .int (nI m_tapeSize), .int m_thrown, .ref (y 2), .int m_cycleMany, .int m_vote, .int m_low, .int m_high, .int m_wear, .int m_spare, .int m_places, .int m_cycleNext, .int m_fault, .int m_faultPlace, .int (nI m_givers), .ref (y 3), .ref (y 4), .int m_giverNext, .int (nI m_children), .ref (y 5), .ref (y 6), .ref (y 7), .ref (y 8), .ref (y 9), .int (nI m_coats), .ref (y 10), .ref (y 11), .ref (y 12), .ref (y 13), .int m_years, .int (nI m_legacies), .ref (y 14), .ref (y 15), .ref (y 16), .ref (y 17), .int (nI m_end), .int (nI (i_0 + 1)), .int 4, .int m_which, .int (nI i_0), .int m_read, .ref (y 18), .ref (y 19), .int m_readMany, .int m_readHigh, .ref (y 20), .int (nI m_insideMany), .ref (y 21), .ref (y 22), .ref (y 23), .ref (y 24), .ref (y 25)])), ((y 1), .inl (cI, 300, .inl m_tape)), ((y 17), .inl (cI, 43, .inl m_words))]) [0, 1, 2] (by decide) rfl
                  exact W.vret hx hb hr (fun t ht hW => ⟨⟨((i_0 + 1), i_0, (m_which : Int32), (4 : Int32)), rfl, (cm_4 hTS hb_0 (fun h => hw_r_2.eq c_87 ⟨hb_0, h⟩) (fun h => hw_r_3.eq c_157 ⟨hb_0, h⟩) c_246), by rw [ht]; exact hP9, va_K.moved hW.alike hK, hD9⟩, hS.F ht⟩) hS.2.2 dX8_take_267
                ·
                  refine lv_iconst (v := 3) hx hb dX8_take_249 (by decide) ?_
                  refine lv_goto (tgt := 254) hx hb dX8_take_250 (by decide) ?_
                  refine va_put (D := D) (ci := 8) (v := .int 3) (ty := .int) (C := RX8) (T := TX8) (N := 52) hx hb hts w_1 tyX8 tyX8_ok nmX8 hown hK hP hD hS 0 rfl rfl 37 (by decide) w_5 (fun _ h9 => h9) rfl (by decide +kernel) rfl rfl (Nat.le_of_ble_eq_true rfl) dX8_take_254 (fun H locs hP hD hS => ?_)
                  have hP : va_P D vwCl [((y 0), .inr (8, [.ref (y 1), .int (nI m_tapeSize), .int m_thrown, .ref (y 2), .int m_cycleMany, .int m_vote, .int m_low, .int m_high, .int m_wear, .int m_spare, .int m_places, .int m_cycleNext, .int m_fault, .int m_faultPlace, .int (nI m_givers), .ref (y 3), .ref (y 4), .int m_giverNext, .int (nI m_children), .ref (y 5), .ref (y 6), .ref (y 7), .ref (y 8), .ref (y 9), .int (nI m_coats), .ref (y 10), .ref (y 11), .ref (y 12), .ref (y 13), .int m_years, .int (nI m_legacies), .ref (y 14), .ref (y 15), .ref (y 16), .ref (y 17), .int (nI m_end), .int (nI i_0), .int 3, .int m_which, .int (nI i_0), .int m_read, .ref (y 18), .ref (y 19), .int m_readMany, .int m_readHigh, .ref (y 20), .int (nI m_insideMany), .ref (y 21), .ref (y 22), .ref (y 23), .ref (y 24), .ref (y 25)])), ((y 1), .inl (cI, 300, .inl m_tape)), ((y 17), .inl (cI, 43, .inl m_words))] H := hP
                  have hD : va_D A [((y 0), .inr (8, [.ref (y 1), .int (nI m_tapeSize), .int m_thrown, .ref (y 2), .int m_cycleMany, .int m_vote, .int m_low, .int m_high, .int m_wear, .int m_spare, .int m_places, .int m_cycleNext, .int m_fault, .int m_faultPlace, .int (nI m_givers), .ref (y 3), .ref (y 4), .int m_giverNext, .int (nI m_children), .ref (y 5), .ref (y 6), .ref (y 7), .ref (y 8), .ref (y 9), .int (nI m_coats), .ref (y 10), .ref (y 11), .ref (y 12), .ref (y 13), .int m_years, .int (nI m_legacies), .ref (y 14), .ref (y 15), .ref (y 16), .ref (y 17), .int (nI m_end), .int (nI i_0), .int 3, .int m_which, .int (nI i_0), .int m_read, .ref (y 18), .ref (y 19), .int m_readMany, .int m_readHigh, .ref (y 20), .int (nI m_insideMany), .ref (y 21), .ref (y 22), .ref (y 23), .ref (y 24), .ref (y 25)])), ((y 1), .inl (cI, 300, .inl m_tape)), ((y 17), .inl (cI, 43, .inl m_words))] := hD
                  refine lv_aload_n hx hb dX8_take_257 rfl (lv_at hl 0 rfl) ?_
                  refine lv_dup hx hb dX8_take_258 rfl ?_
                  refine va_get (D := D) (ci := 8) (v := .int (nI i_0)) (C := RX8) (T := TX8) (N := 52) hx hb hts w_1 hown hK hP 0 rfl rfl 36 (by decide) w_2 (fun _ h9 => h9) rfl dX8_take_259 ?_
                  refine lv_iconst (v := 1) hx hb dX8_take_262 (by decide) ?_
                  refine sv_iadd (v := nI (i_0 + 1)) hx hb dX8_take_263 (ax_add _ 1) ?_
                  refine va_put (D := D) (ci := 8) (v := .int (nI (i_0 + 1))) (ty := .int) (C := RX8) (T := TX8) (N := 52) hx hb hts w_1 tyX8 tyX8_ok nmX8 hown hK hP hD hS 0 rfl rfl 36 (by decide) w_2 (fun _ h9 => h9) rfl (by decide +kernel) rfl rfl (Nat.le_of_ble_eq_true rfl) dX8_take_264 (fun H locs hP hD hS => ?_)
                  have hP : va_P D vwCl [((y 0), .inr (8, [.ref (y 1), .int (nI m_tapeSize), .int m_thrown, .ref (y 2), .int m_cycleMany, .int m_vote, .int m_low, .int m_high, .int m_wear, .int m_spare, .int m_places, .int m_cycleNext, .int m_fault, .int m_faultPlace, .int (nI m_givers), .ref (y 3), .ref (y 4), .int m_giverNext, .int (nI m_children), .ref (y 5), .ref (y 6), .ref (y 7), .ref (y 8), .ref (y 9), .int (nI m_coats), .ref (y 10), .ref (y 11), .ref (y 12), .ref (y 13), .int m_years, .int (nI m_legacies), .ref (y 14), .ref (y 15), .ref (y 16), .ref (y 17), .int (nI m_end), .int (nI (i_0 + 1)), .int 3, .int m_which, .int (nI i_0), .int m_read, .ref (y 18), .ref (y 19), .int m_readMany, .int m_readHigh, .ref (y 20), .int (nI m_insideMany), .ref (y 21), .ref (y 22), .ref (y 23), .ref (y 24), .ref (y 25)])), ((y 1), .inl (cI, 300, .inl m_tape)), ((y 17), .inl (cI, 43, .inl m_words))] H := hP
                  have hD : va_D A [((y 0), .inr (8, [.ref (y 1), .int (nI m_tapeSize), .int m_thrown, .ref (y 2), .int m_cycleMany, .int m_vote, .int m_low, .int m_high, .int m_wear, .int m_spare, .int m_places, .int m_cycleNext, .int m_fault, .int m_faultPlace, .int (nI m_givers), .ref (y 3), .ref (y 4), .int m_giverNext, .int (nI m_children), .ref (y 5), .ref (y 6), .ref (y 7), .ref (y 8), .ref (y 9), .int (nI m_coats), .ref (y 10), .ref (y 11), .ref (y 12), .ref (y 13), .int m_years, .int (nI m_legacies), .ref (y 14), .ref (y 15), .ref (y 16), .ref (y 17), .int (nI m_end), .int (nI (i_0 + 1)), .int 3, .int m_which, .int (nI i_0), .int m_read, .ref (y 18), .ref (y 19), .int m_readMany, .int m_readHigh, .ref (y 20), .int (nI m_insideMany), .ref (y 21), .ref (y 22), .ref (y 23), .ref (y 24), .ref (y 25)])), ((y 1), .inl (cI, 300, .inl m_tape)), ((y 17), .inl (cI, 43, .inl m_words))] := hD
                  rw [← hQ]
                  have hP9 := hP.sub (ws' := [((y 0), .inr (8, [.ref (y 1), .int (nI m_tapeSize), .int m_thrown, .ref (y 2), .int m_cycleMany, .int m_vote, .int m_low, .int m_high, .int m_wear, .int m_spare, .int m_places, .int m_cycleNext, .int m_fault, .int m_faultPlace, .int (nI m_givers), .ref (y 3), .ref (y 4), .int m_giverNext, .int (nI m_children), .ref (y 5), .ref (y 6), .ref (y 7), .ref (y 8), .ref (y 9), .int (nI m_coats), .ref (y 10), .ref (y 11), .ref (y 12), .ref (y 13), .int m_years, .int (nI m_legacies), .ref (y 14), .ref (y 15), .ref (y 16), .ref (y 17), .int (nI m_end), .int (nI (i_0 + 1)), .int 3, .int m_which, .int (nI i_0), .int m_read, .ref (y 18), .ref (y 19), .int m_readMany, .int m_readHigh, .ref (y 20), .int (nI m_insideMany), .ref (y 21), .ref (y 22), .ref (y 23), .ref (y 24), .ref (y 25)])), ((y 1), .inl (cI, 300, .inl m_tape)), ((y 17), .inl (cI, 43, .inl m_words))]) [0, 1, 2] rfl
                  have hD9 := hD.sub (ws' := [((y 0), .inr (8, [.ref (y 1), .int (nI m_tapeSize), .int m_thrown, .ref (y 2), .int m_cycleMany, .int m_vote, .int m_low, .int m_high, .int m_wear, .int m_spare, .int m_places, .int m_cycleNext, .int m_fault, .int m_faultPlace, .int (nI m_givers), .ref (y 3), .ref (y 4), .int m_giverNext, .int (nI m_children), .ref (y 5), .ref (y 6), .ref (y 7), .ref (y 8), .ref (y 9), .int (nI m_coats), .ref (y 10), .ref (y 11), .ref (y 12), .ref (y 13), .int m_years, .int (nI m_legacies), .ref (y 14), .ref (y 15), .ref (y 16), .ref (y 17), .int (nI m_end), .int (nI (i_0 + 1)), .int 3, .int m_which, .int (nI i_0), .int m_read, .ref (y 18), .ref (y 19), .int m_readMany, .int m_readHigh, .ref (y 20), .int (nI m_insideMany), .ref (y 21), .ref (y 22), .ref (y 23), .ref (y 24), .ref (y 25)])), ((y 1), .inl (cI, 300, .inl m_tape)), ((y 17), .inl (cI, 43, .inl m_words))]) [0, 1, 2] (by decide) rfl
                  exact W.vret hx hb hr (fun t ht hW => ⟨⟨((i_0 + 1), i_0, (m_which : Int32), (3 : Int32)), rfl, (cm_3 hTS hb_0 (fun h => hw_r_2.eq c_87 ⟨hb_0, h⟩) (fun h => hw_r_3.eq c_157 ⟨hb_0, h⟩) c_246), by rw [ht]; exact hP9, va_K.moved hW.alike hK, hD9⟩, hS.F ht⟩) hS.2.2 dX8_take_267
              ·
                refine lv_aload_n hx hb dX8_take_160 rfl (lv_at hl 0 rfl) ?_
                refine lv_iconst (v := 2) hx hb dX8_take_161 (by decide) ?_
                refine va_put (D := D) (ci := 8) (v := .int 2) (ty := .int) (C := RX8) (T := TX8) (N := 52) hx hb hts w_1 tyX8 tyX8_ok nmX8 hown hK hP hD hS 0 rfl rfl 37 (by decide) w_5 (fun _ h9 => h9) rfl (by decide +kernel) rfl rfl (Nat.le_of_ble_eq_true rfl) dX8_take_162 (fun H locs hP hD hS => ?_)
                have hP : va_P D vwCl [((y 0), .inr (8, [.ref (y 1), .int (nI m_tapeSize), .int m_thrown, .ref (y 2), .int m_cycleMany, .int m_vote, .int m_low, .int m_high, .int m_wear, .int m_spare, .int m_places, .int m_cycleNext, .int m_fault, .int m_faultPlace, .int (nI m_givers), .ref (y 3), .ref (y 4), .int m_giverNext, .int (nI m_children), .ref (y 5), .ref (y 6), .ref (y 7), .ref (y 8), .ref (y 9), .int (nI m_coats), .ref (y 10), .ref (y 11), .ref (y 12), .ref (y 13), .int m_years, .int (nI m_legacies), .ref (y 14), .ref (y 15), .ref (y 16), .ref (y 17), .int (nI m_end), .int (nI i_0), .int 2, .int m_which, .int (nI i_0), .int m_read, .ref (y 18), .ref (y 19), .int m_readMany, .int m_readHigh, .ref (y 20), .int (nI m_insideMany), .ref (y 21), .ref (y 22), .ref (y 23), .ref (y 24), .ref (y 25)])), ((y 1), .inl (cI, 300, .inl m_tape)), ((y 17), .inl (cI, 43, .inl m_words))] H := hP
                have hD : va_D A [((y 0), .inr (8, [.ref (y 1), .int (nI m_tapeSize), .int m_thrown, .ref (y 2), .int m_cycleMany, .int m_vote, .int m_low, .int m_high, .int m_wear, .int m_spare, .int m_places, .int m_cycleNext, .int m_fault, .int m_faultPlace, .int (nI m_givers), .ref (y 3), .ref (y 4), .int m_giverNext, .int (nI m_children), .ref (y 5), .ref (y 6), .ref (y 7), .ref (y 8), .ref (y 9), .int (nI m_coats), .ref (y 10), .ref (y 11), .ref (y 12), .ref (y 13), .int m_years, .int (nI m_legacies), .ref (y 14), .ref (y 15), .ref (y 16), .ref (y 17), .int (nI m_end), .int (nI i_0), .int 2, .int m_which, .int (nI i_0), .int m_read, .ref (y 18), .ref (y 19), .int m_readMany, .int m_readHigh, .ref (y 20), .int (nI m_insideMany), .ref (y 21), .ref (y 22), .ref (y 23), .ref (y 24), .ref (y 25)])), ((y 1), .inl (cI, 300, .inl m_tape)), ((y 17), .inl (cI, 43, .inl m_words))] := hD
                refine lv_aload_n hx hb dX8_take_165 rfl (lv_at hl 0 rfl) ?_
                refine lv_iconst (v := 0) hx hb dX8_take_166 (by decide) ?_
                refine va_put (D := D) (ci := 8) (v := .int 0) (ty := .int) (C := RX8) (T := TX8) (N := 52) hx hb hts w_1 tyX8 tyX8_ok nmX8 hown hK hP hD hS 0 rfl rfl 38 (by decide) w_7 (fun _ h9 => h9) rfl (by decide +kernel) rfl rfl (Nat.le_of_ble_eq_true rfl) dX8_take_167 (fun H locs hP hD hS => ?_)
                have hP : va_P D vwCl [((y 0), .inr (8, [.ref (y 1), .int (nI m_tapeSize), .int m_thrown, .ref (y 2), .int m_cycleMany, .int m_vote, .int m_low, .int m_high, .int m_wear, .int m_spare, .int m_places, .int m_cycleNext, .int m_fault, .int m_faultPlace, .int (nI m_givers), .ref (y 3), .ref (y 4), .int m_giverNext, .int (nI m_children), .ref (y 5), .ref (y 6), .ref (y 7), .ref (y 8), .ref (y 9), .int (nI m_coats), .ref (y 10), .ref (y 11), .ref (y 12), .ref (y 13), .int m_years, .int (nI m_legacies), .ref (y 14), .ref (y 15), .ref (y 16), .ref (y 17), .int (nI m_end), .int (nI i_0), .int 2, .int 0, .int (nI i_0), .int m_read, .ref (y 18), .ref (y 19), .int m_readMany, .int m_readHigh, .ref (y 20), .int (nI m_insideMany), .ref (y 21), .ref (y 22), .ref (y 23), .ref (y 24), .ref (y 25)])), ((y 1), .inl (cI, 300, .inl m_tape)), ((y 17), .inl (cI, 43, .inl m_words))] H := hP
                have hD : va_D A [((y 0), .inr (8, [.ref (y 1), .int (nI m_tapeSize), .int m_thrown, .ref (y 2), .int m_cycleMany, .int m_vote, .int m_low, .int m_high, .int m_wear, .int m_spare, .int m_places, .int m_cycleNext, .int m_fault, .int m_faultPlace, .int (nI m_givers), .ref (y 3), .ref (y 4), .int m_giverNext, .int (nI m_children), .ref (y 5), .ref (y 6), .ref (y 7), .ref (y 8), .ref (y 9), .int (nI m_coats), .ref (y 10), .ref (y 11), .ref (y 12), .ref (y 13), .int m_years, .int (nI m_legacies), .ref (y 14), .ref (y 15), .ref (y 16), .ref (y 17), .int (nI m_end), .int (nI i_0), .int 2, .int 0, .int (nI i_0), .int m_read, .ref (y 18), .ref (y 19), .int m_readMany, .int m_readHigh, .ref (y 20), .int (nI m_insideMany), .ref (y 21), .ref (y 22), .ref (y 23), .ref (y 24), .ref (y 25)])), ((y 1), .inl (cI, 300, .inl m_tape)), ((y 17), .inl (cI, 43, .inl m_words))] := hD
                have L_4 : ∀ (n : Nat) (i_170 : Nat) (t_y0_38_170 : Int32) (H : Heap) (locs : List Loc) (ls : Array Slot), m_end - i_170 < n → (i_170 ≤ m_end) → (dsQ m_tape m_end i_0 i_170) → (vM (dv m_tape i_0 (i_170 - i_0)) t_y0_38_170) → va_P D vwCl [((y 0), .inr (8, [.ref (y 1), .int (nI m_tapeSize), .int m_thrown, .ref (y 2), .int m_cycleMany, .int m_vote, .int m_low, .int m_high, .int m_wear, .int m_spare, .int m_places, .int m_cycleNext, .int m_fault, .int m_faultPlace, .int (nI m_givers), .ref (y 3), .ref (y 4), .int m_giverNext, .int (nI m_children), .ref (y 5), .ref (y 6), .ref (y 7), .ref (y 8), .ref (y 9), .int (nI m_coats), .ref (y 10), .ref (y 11), .ref (y 12), .ref (y 13), .int m_years, .int (nI m_legacies), .ref (y 14), .ref (y 15), .ref (y 16), .ref (y 17), .int (nI m_end), .int (nI i_170), .int 2, .int t_y0_38_170, .int (nI i_0), .int m_read, .ref (y 18), .ref (y 19), .int m_readMany, .int m_readHigh, .ref (y 20), .int (nI m_insideMany), .ref (y 21), .ref (y 22), .ref (y 23), .ref (y 24), .ref (y 25)])), ((y 1), .inl (cI, 300, .inl m_tape)), ((y 17), .inl (cI, 43, .inl m_words))] H → va_D A [((y 0), .inr (8, [.ref (y 1), .int (nI m_tapeSize), .int m_thrown, .ref (y 2), .int m_cycleMany, .int m_vote, .int m_low, .int m_high, .int m_wear, .int m_spare, .int m_places, .int m_cycleNext, .int m_fault, .int m_faultPlace, .int (nI m_givers), .ref (y 3), .ref (y 4), .int m_giverNext, .int (nI m_children), .ref (y 5), .ref (y 6), .ref (y 7), .ref (y 8), .ref (y 9), .int (nI m_coats), .ref (y 10), .ref (y 11), .ref (y 12), .ref (y 13), .int m_years, .int (nI m_legacies), .ref (y 14), .ref (y 15), .ref (y 16), .ref (y 17), .int (nI m_end), .int (nI i_170), .int 2, .int t_y0_38_170, .int (nI i_0), .int m_read, .ref (y 18), .ref (y 19), .int m_readMany, .int m_readHigh, .ref (y 20), .int (nI m_insideMany), .ref (y 21), .ref (y 22), .ref (y 23), .ref (y 24), .ref (y 25)])), ((y 1), .inl (cI, 300, .inl m_tape)), ((y 17), .inl (cI, 43, .inl m_words))] → va_S A s.heap H locs → lv_has ls 1 [(0, .ref (y 0))] → W p l e (headSpec wsX8_take ({ frames := 1, cells := 0, slots := 0, locals := 27 } : Room)).room s m ([.ref (y 0)] : List Value).toArray below meth c H locs 0 0 Q0 (F0 m 170 ls []) := by
                  intro n
                  induction n with
                  | zero => intro i_170 t_y0_38_170 H locs ls hn_170 hle_170 hD_170 hV_170 hP hD hS hl; exact absurd hn_170 (Nat.not_lt_zero _)
                  | succ n ih_L_4 =>
                    intro i_170 t_y0_38_170 H locs ls hn_170 hle_170 hD_170 hV_170 hP hD hS hl
                    refine lv_aload_n hx hb dX8_take_170 rfl (lv_at hl 0 rfl) ?_
                    refine lv_aload_n hx hb dX8_take_171 rfl (lv_at hl 0 rfl) ?_
                    refine va_get (D := D) (ci := 8) (v := .int (nI i_170)) (C := RX8) (T := TX8) (N := 52) hx hb hts w_1 hown hK hP 0 rfl rfl 36 (by decide) w_2 (fun _ h9 => h9) rfl dX8_take_172 ?_
                    refine vp_callSi (va_Run.run (va_runV (As := [.int (nI i_170)]) (rest := []) ⟨hx, hb, hml, hown, hts⟩ (f_X8_isDigit l D cB cI cJ cZ y m_tapeSize m_givers m_children m_coats m_legacies m_end m_insideMany m_thrown m_cycleMany m_vote m_low m_high m_wear m_spare m_places m_cycleNext m_fault m_faultPlace m_giverNext m_years (nI i_170) 2 t_y0_38_170 (nI i_0) m_read m_readMany m_readHigh m_tape i_170 he (by omega)) (cwV 1 hts gX8_take_X8_isDigit rfl rfl rfl (by decide +kernel) ⟨Nat.le_of_ble_eq_true rfl, Nat.le_of_ble_eq_true rfl⟩) (pre_VR (hP.sub (ws' := [((y 0), .inr (8, [.ref (y 1), .int (nI m_tapeSize), .int m_thrown, .ref (y 2), .int m_cycleMany, .int m_vote, .int m_low, .int m_high, .int m_wear, .int m_spare, .int m_places, .int m_cycleNext, .int m_fault, .int m_faultPlace, .int (nI m_givers), .ref (y 3), .ref (y 4), .int m_giverNext, .int (nI m_children), .ref (y 5), .ref (y 6), .ref (y 7), .ref (y 8), .ref (y 9), .int (nI m_coats), .ref (y 10), .ref (y 11), .ref (y 12), .ref (y 13), .int m_years, .int (nI m_legacies), .ref (y 14), .ref (y 15), .ref (y 16), .ref (y 17), .int (nI m_end), .int (nI i_170), .int 2, .int t_y0_38_170, .int (nI i_0), .int m_read, .ref (y 18), .ref (y 19), .int m_readMany, .int m_readHigh, .ref (y 20), .int (nI m_insideMany), .ref (y 21), .ref (y 22), .ref (y 23), .ref (y 24), .ref (y 25)])), ((y 1), .inl (cI, 300, .inl m_tape))]) [0, 1] rfl) hK 0 rfl rfl rfl) rfl rfl hl.1 rfl (lv_room (Nat.le_of_ble_eq_true rfl)) dX8_take_175 ⟨Nat.le_of_ble_eq_true rfl, Nat.le_of_ble_eq_true rfl⟩)) (fun r_5 hw_r_5 => ?_)
                    refine lv_if_eq (tgt := 267) hx hb dX8_take_178 (by decide) (fun c_178 => ?_) (fun c_178 => ?_)
                    ·
                      rw [← hQ]
                      have hP9 := hP.sub (ws' := [((y 0), .inr (8, [.ref (y 1), .int (nI m_tapeSize), .int m_thrown, .ref (y 2), .int m_cycleMany, .int m_vote, .int m_low, .int m_high, .int m_wear, .int m_spare, .int m_places, .int m_cycleNext, .int m_fault, .int m_faultPlace, .int (nI m_givers), .ref (y 3), .ref (y 4), .int m_giverNext, .int (nI m_children), .ref (y 5), .ref (y 6), .ref (y 7), .ref (y 8), .ref (y 9), .int (nI m_coats), .ref (y 10), .ref (y 11), .ref (y 12), .ref (y 13), .int m_years, .int (nI m_legacies), .ref (y 14), .ref (y 15), .ref (y 16), .ref (y 17), .int (nI m_end), .int (nI i_170), .int 2, .int t_y0_38_170, .int (nI i_0), .int m_read, .ref (y 18), .ref (y 19), .int m_readMany, .int m_readHigh, .ref (y 20), .int (nI m_insideMany), .ref (y 21), .ref (y 22), .ref (y 23), .ref (y 24), .ref (y 25)])), ((y 1), .inl (cI, 300, .inl m_tape)), ((y 17), .inl (cI, 43, .inl m_words))]) [0, 1, 2] rfl
                      have hD9 := hD.sub (ws' := [((y 0), .inr (8, [.ref (y 1), .int (nI m_tapeSize), .int m_thrown, .ref (y 2), .int m_cycleMany, .int m_vote, .int m_low, .int m_high, .int m_wear, .int m_spare, .int m_places, .int m_cycleNext, .int m_fault, .int m_faultPlace, .int (nI m_givers), .ref (y 3), .ref (y 4), .int m_giverNext, .int (nI m_children), .ref (y 5), .ref (y 6), .ref (y 7), .ref (y 8), .ref (y 9), .int (nI m_coats), .ref (y 10), .ref (y 11), .ref (y 12), .ref (y 13), .int m_years, .int (nI m_legacies), .ref (y 14), .ref (y 15), .ref (y 16), .ref (y 17), .int (nI m_end), .int (nI i_170), .int 2, .int t_y0_38_170, .int (nI i_0), .int m_read, .ref (y 18), .ref (y 19), .int m_readMany, .int m_readHigh, .ref (y 20), .int (nI m_insideMany), .ref (y 21), .ref (y 22), .ref (y 23), .ref (y 24), .ref (y 25)])), ((y 1), .inl (cI, 300, .inl m_tape)), ((y 17), .inl (cI, 43, .inl m_words))]) [0, 1, 2] (by decide) rfl
                      exact W.vret hx hb hr (fun t ht hW => ⟨⟨(i_170, i_0, (t_y0_38_170 : Int32), (2 : Int32)), rfl, (cm_2 hTS hb_0 (fun h => hw_r_2.eq c_87 ⟨hb_0, h⟩) (hw_r_3.ne c_157).2 (ds_e hD_170 (fun h => hw_r_5.eq c_178 h)) hV_170), by rw [ht]; exact hP9, va_K.moved hW.alike hK, hD9⟩, hS.F ht⟩) hS.2.2 dX8_take_267
                    ·
                      have hb_170 : i_170 < m_end := (hw_r_5.ne c_178).1
                      refine lv_aload_n hx hb dX8_take_181 rfl (lv_at hl 0 rfl) ?_
                      refine lv_aload_n hx hb dX8_take_182 rfl (lv_at hl 0 rfl) ?_
                      refine va_get (D := D) (ci := 8) (v := .int t_y0_38_170) (C := RX8) (T := TX8) (N := 52) hx hb hts w_1 hown hK hP 0 rfl rfl 38 (by decide) w_7 (fun _ h9 => h9) rfl dX8_take_183 ?_
                      refine lv_ldc hx hb hown (w_8) dX8_take_186 ?_
                      refine lv_icmp_le (tgt := 198) hx hb dX8_take_188 (by decide) (fun c_188 => ?_) (fun c_188 => ?_)
                      ·
                        refine lv_bipush (v := 10) hx hb dX8_take_198 (by decide) ?_
                        refine lv_aload_n hx hb dX8_take_200 rfl (lv_at hl 0 rfl) ?_
                        refine va_get (D := D) (ci := 8) (v := .int t_y0_38_170) (C := RX8) (T := TX8) (N := 52) hx hb hts w_1 hown hK hP 0 rfl rfl 38 (by decide) w_7 (fun _ h9 => h9) rfl dX8_take_201 ?_
                        refine sv_imul (v := 10 * t_y0_38_170) hx hb dX8_take_204 rfl ?_
                        refine lv_aload_n hx hb dX8_take_205 rfl (lv_at hl 0 rfl) ?_
                        refine va_get (D := D) (ci := 8) (v := .ref (y 1)) (C := RX8) (T := TX8) (N := 52) hx hb hts w_1 hown hK hP 0 rfl rfl 0 (by decide) w_6 (fun _ h9 => h9) rfl dX8_take_206 ?_
                        refine lv_aload_n hx hb dX8_take_209 rfl (lv_at hl 0 rfl) ?_
                        refine va_get (D := D) (ci := 8) (v := .int (nI i_170)) (C := RX8) (T := TX8) (N := 52) hx hb hts w_1 hown hK hP 0 rfl rfl 36 (by decide) w_2 (fun _ h9 => h9) rfl dX8_take_210 ?_
                        refine sv_iald (v := m_tape i_170) hx hb hK hP 1 1 rfl rfl (vp_in_nI (by omega) (by decide)) (congrArg _ (nI_clamp (by omega))) dX8_take_213 ?_
                        refine sv_iadd (v := (10 * t_y0_38_170) + (m_tape i_170)) hx hb dX8_take_214 rfl ?_
                        refine lv_bipush (v := 48) hx hb dX8_take_215 (by decide) ?_
                        refine sv_isub (v := ((10 * t_y0_38_170) + (m_tape i_170)) - 48) hx hb dX8_take_217 rfl ?_
                        refine va_put (D := D) (ci := 8) (v := .int (((10 * t_y0_38_170) + (m_tape i_170)) - 48)) (ty := .int) (C := RX8) (T := TX8) (N := 52) hx hb hts w_1 tyX8 tyX8_ok nmX8 hown hK hP hD hS 0 rfl rfl 38 (by decide) w_7 (fun _ h9 => h9) rfl (by decide +kernel) rfl rfl (Nat.le_of_ble_eq_true rfl) dX8_take_218 (fun H locs hP hD hS => ?_)
                        have hP : va_P D vwCl [((y 0), .inr (8, [.ref (y 1), .int (nI m_tapeSize), .int m_thrown, .ref (y 2), .int m_cycleMany, .int m_vote, .int m_low, .int m_high, .int m_wear, .int m_spare, .int m_places, .int m_cycleNext, .int m_fault, .int m_faultPlace, .int (nI m_givers), .ref (y 3), .ref (y 4), .int m_giverNext, .int (nI m_children), .ref (y 5), .ref (y 6), .ref (y 7), .ref (y 8), .ref (y 9), .int (nI m_coats), .ref (y 10), .ref (y 11), .ref (y 12), .ref (y 13), .int m_years, .int (nI m_legacies), .ref (y 14), .ref (y 15), .ref (y 16), .ref (y 17), .int (nI m_end), .int (nI i_170), .int 2, .int (((10 * t_y0_38_170) + (m_tape i_170)) - 48), .int (nI i_0), .int m_read, .ref (y 18), .ref (y 19), .int m_readMany, .int m_readHigh, .ref (y 20), .int (nI m_insideMany), .ref (y 21), .ref (y 22), .ref (y 23), .ref (y 24), .ref (y 25)])), ((y 1), .inl (cI, 300, .inl m_tape)), ((y 17), .inl (cI, 43, .inl m_words))] H := hP
                        have hD : va_D A [((y 0), .inr (8, [.ref (y 1), .int (nI m_tapeSize), .int m_thrown, .ref (y 2), .int m_cycleMany, .int m_vote, .int m_low, .int m_high, .int m_wear, .int m_spare, .int m_places, .int m_cycleNext, .int m_fault, .int m_faultPlace, .int (nI m_givers), .ref (y 3), .ref (y 4), .int m_giverNext, .int (nI m_children), .ref (y 5), .ref (y 6), .ref (y 7), .ref (y 8), .ref (y 9), .int (nI m_coats), .ref (y 10), .ref (y 11), .ref (y 12), .ref (y 13), .int m_years, .int (nI m_legacies), .ref (y 14), .ref (y 15), .ref (y 16), .ref (y 17), .int (nI m_end), .int (nI i_170), .int 2, .int (((10 * t_y0_38_170) + (m_tape i_170)) - 48), .int (nI i_0), .int m_read, .ref (y 18), .ref (y 19), .int m_readMany, .int m_readHigh, .ref (y 20), .int (nI m_insideMany), .ref (y 21), .ref (y 22), .ref (y 23), .ref (y 24), .ref (y 25)])), ((y 1), .inl (cI, 300, .inl m_tape)), ((y 17), .inl (cI, 43, .inl m_words))] := hD
                        refine lv_aload_n hx hb dX8_take_221 rfl (lv_at hl 0 rfl) ?_
                        refine lv_dup hx hb dX8_take_222 rfl ?_
                        refine va_get (D := D) (ci := 8) (v := .int (nI i_170)) (C := RX8) (T := TX8) (N := 52) hx hb hts w_1 hown hK hP 0 rfl rfl 36 (by decide) w_2 (fun _ h9 => h9) rfl dX8_take_223 ?_
                        refine lv_iconst (v := 1) hx hb dX8_take_226 (by decide) ?_
                        refine sv_iadd (v := nI (i_170 + 1)) hx hb dX8_take_227 (ax_add _ 1) ?_
                        refine va_put (D := D) (ci := 8) (v := .int (nI (i_170 + 1))) (ty := .int) (C := RX8) (T := TX8) (N := 52) hx hb hts w_1 tyX8 tyX8_ok nmX8 hown hK hP hD hS 0 rfl rfl 36 (by decide) w_2 (fun _ h9 => h9) rfl (by decide +kernel) rfl rfl (Nat.le_of_ble_eq_true rfl) dX8_take_228 (fun H locs hP hD hS => ?_)
                        have hP : va_P D vwCl [((y 0), .inr (8, [.ref (y 1), .int (nI m_tapeSize), .int m_thrown, .ref (y 2), .int m_cycleMany, .int m_vote, .int m_low, .int m_high, .int m_wear, .int m_spare, .int m_places, .int m_cycleNext, .int m_fault, .int m_faultPlace, .int (nI m_givers), .ref (y 3), .ref (y 4), .int m_giverNext, .int (nI m_children), .ref (y 5), .ref (y 6), .ref (y 7), .ref (y 8), .ref (y 9), .int (nI m_coats), .ref (y 10), .ref (y 11), .ref (y 12), .ref (y 13), .int m_years, .int (nI m_legacies), .ref (y 14), .ref (y 15), .ref (y 16), .ref (y 17), .int (nI m_end), .int (nI (i_170 + 1)), .int 2, .int (((10 * t_y0_38_170) + (m_tape i_170)) - 48), .int (nI i_0), .int m_read, .ref (y 18), .ref (y 19), .int m_readMany, .int m_readHigh, .ref (y 20), .int (nI m_insideMany), .ref (y 21), .ref (y 22), .ref (y 23), .ref (y 24), .ref (y 25)])), ((y 1), .inl (cI, 300, .inl m_tape)), ((y 17), .inl (cI, 43, .inl m_words))] H := hP
                        have hD : va_D A [((y 0), .inr (8, [.ref (y 1), .int (nI m_tapeSize), .int m_thrown, .ref (y 2), .int m_cycleMany, .int m_vote, .int m_low, .int m_high, .int m_wear, .int m_spare, .int m_places, .int m_cycleNext, .int m_fault, .int m_faultPlace, .int (nI m_givers), .ref (y 3), .ref (y 4), .int m_giverNext, .int (nI m_children), .ref (y 5), .ref (y 6), .ref (y 7), .ref (y 8), .ref (y 9), .int (nI m_coats), .ref (y 10), .ref (y 11), .ref (y 12), .ref (y 13), .int m_years, .int (nI m_legacies), .ref (y 14), .ref (y 15), .ref (y 16), .ref (y 17), .int (nI m_end), .int (nI (i_170 + 1)), .int 2, .int (((10 * t_y0_38_170) + (m_tape i_170)) - 48), .int (nI i_0), .int m_read, .ref (y 18), .ref (y 19), .int m_readMany, .int m_readHigh, .ref (y 20), .int (nI m_insideMany), .ref (y 21), .ref (y 22), .ref (y 23), .ref (y 24), .ref (y 25)])), ((y 1), .inl (cI, 300, .inl m_tape)), ((y 17), .inl (cI, 43, .inl m_words))] := hD
                        refine lv_goto (tgt := 170) hx hb dX8_take_231 (by decide) ?_
                        exact ih_L_4 (i_170 + 1) (((10 * t_y0_38_170) + (m_tape i_170)) - 48) _ _ ls (by omega) (by omega) (ds_s hD_170 hb_170 (hw_r_5.ne c_178).2) (vm_y hD_170.1 hV_170 (hw_r_5.ne c_178).2 c_188) hP hD hS (lv_sub hl [0] rfl)
                      ·
                        refine lv_aload_n hx hb dX8_take_191 rfl (lv_at hl 0 rfl) ?_
                        refine va_get (D := D) (ci := 8) (v := .int t_y0_38_170) (C := RX8) (T := TX8) (N := 52) hx hb hts w_1 hown hK hP 0 rfl rfl 38 (by decide) w_7 (fun _ h9 => h9) rfl dX8_take_192 ?_
                        refine lv_goto (tgt := 218) hx hb dX8_take_195 (by decide) ?_
                        refine va_put (D := D) (ci := 8) (v := .int t_y0_38_170) (ty := .int) (C := RX8) (T := TX8) (N := 52) hx hb hts w_1 tyX8 tyX8_ok nmX8 hown hK hP hD hS 0 rfl rfl 38 (by decide) w_7 (fun _ h9 => h9) rfl (by decide +kernel) rfl rfl (Nat.le_of_ble_eq_true rfl) dX8_take_218 (fun H locs hP hD hS => ?_)
                        have hP : va_P D vwCl [((y 0), .inr (8, [.ref (y 1), .int (nI m_tapeSize), .int m_thrown, .ref (y 2), .int m_cycleMany, .int m_vote, .int m_low, .int m_high, .int m_wear, .int m_spare, .int m_places, .int m_cycleNext, .int m_fault, .int m_faultPlace, .int (nI m_givers), .ref (y 3), .ref (y 4), .int m_giverNext, .int (nI m_children), .ref (y 5), .ref (y 6), .ref (y 7), .ref (y 8), .ref (y 9), .int (nI m_coats), .ref (y 10), .ref (y 11), .ref (y 12), .ref (y 13), .int m_years, .int (nI m_legacies), .ref (y 14), .ref (y 15), .ref (y 16), .ref (y 17), .int (nI m_end), .int (nI i_170), .int 2, .int t_y0_38_170, .int (nI i_0), .int m_read, .ref (y 18), .ref (y 19), .int m_readMany, .int m_readHigh, .ref (y 20), .int (nI m_insideMany), .ref (y 21), .ref (y 22), .ref (y 23), .ref (y 24), .ref (y 25)])), ((y 1), .inl (cI, 300, .inl m_tape)), ((y 17), .inl (cI, 43, .inl m_words))] H := hP
                        have hD : va_D A [((y 0), .inr (8, [.ref (y 1), .int (nI m_tapeSize), .int m_thrown, .ref (y 2), .int m_cycleMany, .int m_vote, .int m_low, .int m_high, .int m_wear, .int m_spare, .int m_places, .int m_cycleNext, .int m_fault, .int m_faultPlace, .int (nI m_givers), .ref (y 3), .ref (y 4), .int m_giverNext, .int (nI m_children), .ref (y 5), .ref (y 6), .ref (y 7), .ref (y 8), .ref (y 9), .int (nI m_coats), .ref (y 10), .ref (y 11), .ref (y 12), .ref (y 13), .int m_years, .int (nI m_legacies), .ref (y 14), .ref (y 15), .ref (y 16), .ref (y 17), .int (nI m_end), .int (nI i_170), .int 2, .int t_y0_38_170, .int (nI i_0), .int m_read, .ref (y 18), .ref (y 19), .int m_readMany, .int m_readHigh, .ref (y 20), .int (nI m_insideMany), .ref (y 21), .ref (y 22), .ref (y 23), .ref (y 24), .ref (y 25)])), ((y 1), .inl (cI, 300, .inl m_tape)), ((y 17), .inl (cI, 43, .inl m_words))] := hD
                        refine lv_aload_n hx hb dX8_take_221 rfl (lv_at hl 0 rfl) ?_
                        refine lv_dup hx hb dX8_take_222 rfl ?_
                        refine va_get (D := D) (ci := 8) (v := .int (nI i_170)) (C := RX8) (T := TX8) (N := 52) hx hb hts w_1 hown hK hP 0 rfl rfl 36 (by decide) w_2 (fun _ h9 => h9) rfl dX8_take_223 ?_
                        refine lv_iconst (v := 1) hx hb dX8_take_226 (by decide) ?_
                        refine sv_iadd (v := nI (i_170 + 1)) hx hb dX8_take_227 (ax_add _ 1) ?_
                        refine va_put (D := D) (ci := 8) (v := .int (nI (i_170 + 1))) (ty := .int) (C := RX8) (T := TX8) (N := 52) hx hb hts w_1 tyX8 tyX8_ok nmX8 hown hK hP hD hS 0 rfl rfl 36 (by decide) w_2 (fun _ h9 => h9) rfl (by decide +kernel) rfl rfl (Nat.le_of_ble_eq_true rfl) dX8_take_228 (fun H locs hP hD hS => ?_)
                        have hP : va_P D vwCl [((y 0), .inr (8, [.ref (y 1), .int (nI m_tapeSize), .int m_thrown, .ref (y 2), .int m_cycleMany, .int m_vote, .int m_low, .int m_high, .int m_wear, .int m_spare, .int m_places, .int m_cycleNext, .int m_fault, .int m_faultPlace, .int (nI m_givers), .ref (y 3), .ref (y 4), .int m_giverNext, .int (nI m_children), .ref (y 5), .ref (y 6), .ref (y 7), .ref (y 8), .ref (y 9), .int (nI m_coats), .ref (y 10), .ref (y 11), .ref (y 12), .ref (y 13), .int m_years, .int (nI m_legacies), .ref (y 14), .ref (y 15), .ref (y 16), .ref (y 17), .int (nI m_end), .int (nI (i_170 + 1)), .int 2, .int t_y0_38_170, .int (nI i_0), .int m_read, .ref (y 18), .ref (y 19), .int m_readMany, .int m_readHigh, .ref (y 20), .int (nI m_insideMany), .ref (y 21), .ref (y 22), .ref (y 23), .ref (y 24), .ref (y 25)])), ((y 1), .inl (cI, 300, .inl m_tape)), ((y 17), .inl (cI, 43, .inl m_words))] H := hP
                        have hD : va_D A [((y 0), .inr (8, [.ref (y 1), .int (nI m_tapeSize), .int m_thrown, .ref (y 2), .int m_cycleMany, .int m_vote, .int m_low, .int m_high, .int m_wear, .int m_spare, .int m_places, .int m_cycleNext, .int m_fault, .int m_faultPlace, .int (nI m_givers), .ref (y 3), .ref (y 4), .int m_giverNext, .int (nI m_children), .ref (y 5), .ref (y 6), .ref (y 7), .ref (y 8), .ref (y 9), .int (nI m_coats), .ref (y 10), .ref (y 11), .ref (y 12), .ref (y 13), .int m_years, .int (nI m_legacies), .ref (y 14), .ref (y 15), .ref (y 16), .ref (y 17), .int (nI m_end), .int (nI (i_170 + 1)), .int 2, .int t_y0_38_170, .int (nI i_0), .int m_read, .ref (y 18), .ref (y 19), .int m_readMany, .int m_readHigh, .ref (y 20), .int (nI m_insideMany), .ref (y 21), .ref (y 22), .ref (y 23), .ref (y 24), .ref (y 25)])), ((y 1), .inl (cI, 300, .inl m_tape)), ((y 17), .inl (cI, 43, .inl m_words))] := hD
                        refine lv_goto (tgt := 170) hx hb dX8_take_231 (by decide) ?_
                        exact ih_L_4 (i_170 + 1) t_y0_38_170 _ _ ls (by omega) (by omega) (ds_s hD_170 hb_170 (hw_r_5.ne c_178).2) (vm_n hD_170.1 hV_170 c_188) hP hD hS (lv_sub hl [0] rfl)
                exact L_4 _ i_0 0 _ _ ls (Nat.lt_succ_self _) (by first | exact Nat.zero_le _ | omega) (ds_0 (Nat.le_of_lt hb_0)) (by rw [Nat.sub_self]; exact vm_0) hP hD hS (lv_sub hl [0] rfl)
            ·
              have L_6 : ∀ (n : Nat) (i_90 : Nat)  (H : Heap) (locs : List Loc) (ls : Array Slot), m_end - i_90 < n → (i_90 ≤ m_end) → (lsQ m_tape m_end i_0 i_90) → va_P D vwCl [((y 0), .inr (8, [.ref (y 1), .int (nI m_tapeSize), .int m_thrown, .ref (y 2), .int m_cycleMany, .int m_vote, .int m_low, .int m_high, .int m_wear, .int m_spare, .int m_places, .int m_cycleNext, .int m_fault, .int m_faultPlace, .int (nI m_givers), .ref (y 3), .ref (y 4), .int m_giverNext, .int (nI m_children), .ref (y 5), .ref (y 6), .ref (y 7), .ref (y 8), .ref (y 9), .int (nI m_coats), .ref (y 10), .ref (y 11), .ref (y 12), .ref (y 13), .int m_years, .int (nI m_legacies), .ref (y 14), .ref (y 15), .ref (y 16), .ref (y 17), .int (nI m_end), .int (nI i_90), .int m_kind, .int m_which, .int (nI i_0), .int m_read, .ref (y 18), .ref (y 19), .int m_readMany, .int m_readHigh, .ref (y 20), .int (nI m_insideMany), .ref (y 21), .ref (y 22), .ref (y 23), .ref (y 24), .ref (y 25)])), ((y 1), .inl (cI, 300, .inl m_tape)), ((y 17), .inl (cI, 43, .inl m_words))] H → va_D A [((y 0), .inr (8, [.ref (y 1), .int (nI m_tapeSize), .int m_thrown, .ref (y 2), .int m_cycleMany, .int m_vote, .int m_low, .int m_high, .int m_wear, .int m_spare, .int m_places, .int m_cycleNext, .int m_fault, .int m_faultPlace, .int (nI m_givers), .ref (y 3), .ref (y 4), .int m_giverNext, .int (nI m_children), .ref (y 5), .ref (y 6), .ref (y 7), .ref (y 8), .ref (y 9), .int (nI m_coats), .ref (y 10), .ref (y 11), .ref (y 12), .ref (y 13), .int m_years, .int (nI m_legacies), .ref (y 14), .ref (y 15), .ref (y 16), .ref (y 17), .int (nI m_end), .int (nI i_90), .int m_kind, .int m_which, .int (nI i_0), .int m_read, .ref (y 18), .ref (y 19), .int m_readMany, .int m_readHigh, .ref (y 20), .int (nI m_insideMany), .ref (y 21), .ref (y 22), .ref (y 23), .ref (y 24), .ref (y 25)])), ((y 1), .inl (cI, 300, .inl m_tape)), ((y 17), .inl (cI, 43, .inl m_words))] → va_S A s.heap H locs → lv_has ls 1 [(0, .ref (y 0))] → W p l e (headSpec wsX8_take ({ frames := 1, cells := 0, slots := 0, locals := 27 } : Room)).room s m ([.ref (y 0)] : List Value).toArray below meth c H locs 0 0 Q0 (F0 m 90 ls []) := by
                intro n
                induction n with
                | zero => intro i_90 H locs ls hn_90 hle_90 hE_90 hP hD hS hl; exact absurd hn_90 (Nat.not_lt_zero _)
                | succ n ih_L_6 =>
                  intro i_90 H locs ls hn_90 hle_90 hE_90 hP hD hS hl
                  refine lv_aload_n hx hb dX8_take_90 rfl (lv_at hl 0 rfl) ?_
                  refine lv_aload_n hx hb dX8_take_91 rfl (lv_at hl 0 rfl) ?_
                  refine va_get (D := D) (ci := 8) (v := .int (nI i_90)) (C := RX8) (T := TX8) (N := 52) hx hb hts w_1 hown hK hP 0 rfl rfl 36 (by decide) w_2 (fun _ h9 => h9) rfl dX8_take_92 ?_
                  refine vp_callSi (va_Run.run (va_runV (As := [.int (nI i_90)]) (rest := []) ⟨hx, hb, hml, hown, hts⟩ (f_X8_isSmall l D cB cI cJ cZ y m_tapeSize m_givers m_children m_coats m_legacies m_end m_insideMany m_thrown m_cycleMany m_vote m_low m_high m_wear m_spare m_places m_cycleNext m_fault m_faultPlace m_giverNext m_years (nI i_90) m_kind m_which (nI i_0) m_read m_readMany m_readHigh m_tape i_90 he (by omega)) (cwV 1 hts gX8_take_X8_isSmall rfl rfl rfl (by decide +kernel) ⟨Nat.le_of_ble_eq_true rfl, Nat.le_of_ble_eq_true rfl⟩) (pre_VR (hP.sub (ws' := [((y 0), .inr (8, [.ref (y 1), .int (nI m_tapeSize), .int m_thrown, .ref (y 2), .int m_cycleMany, .int m_vote, .int m_low, .int m_high, .int m_wear, .int m_spare, .int m_places, .int m_cycleNext, .int m_fault, .int m_faultPlace, .int (nI m_givers), .ref (y 3), .ref (y 4), .int m_giverNext, .int (nI m_children), .ref (y 5), .ref (y 6), .ref (y 7), .ref (y 8), .ref (y 9), .int (nI m_coats), .ref (y 10), .ref (y 11), .ref (y 12), .ref (y 13), .int m_years, .int (nI m_legacies), .ref (y 14), .ref (y 15), .ref (y 16), .ref (y 17), .int (nI m_end), .int (nI i_90), .int m_kind, .int m_which, .int (nI i_0), .int m_read, .ref (y 18), .ref (y 19), .int m_readMany, .int m_readHigh, .ref (y 20), .int (nI m_insideMany), .ref (y 21), .ref (y 22), .ref (y 23), .ref (y 24), .ref (y 25)])), ((y 1), .inl (cI, 300, .inl m_tape))]) [0, 1] rfl) hK 0 rfl rfl rfl) rfl rfl hl.1 rfl (lv_room (Nat.le_of_ble_eq_true rfl)) dX8_take_95 ⟨Nat.le_of_ble_eq_true rfl, Nat.le_of_ble_eq_true rfl⟩)) (fun r_7 hw_r_7 => ?_)
                  refine lv_if_eq (tgt := 114) hx hb dX8_take_98 (by decide) (fun c_98 => ?_) (fun c_98 => ?_)
                  ·
                    refine lv_aload_n hx hb dX8_take_114 rfl (lv_at hl 0 rfl) ?_
                    refine lv_aload_n hx hb dX8_take_115 rfl (lv_at hl 0 rfl) ?_
                    refine lv_aload_n hx hb dX8_take_116 rfl (lv_at hl 0 rfl) ?_
                    refine va_get (D := D) (ci := 8) (v := .int (nI i_0)) (C := RX8) (T := TX8) (N := 52) hx hb hts w_1 hown hK hP 0 rfl rfl 39 (by decide) w_4 (fun _ h9 => h9) rfl dX8_take_117 ?_
                    refine lv_aload_n hx hb dX8_take_120 rfl (lv_at hl 0 rfl) ?_
                    refine va_get (D := D) (ci := 8) (v := .int (nI i_90)) (C := RX8) (T := TX8) (N := 52) hx hb hts w_1 hown hK hP 0 rfl rfl 36 (by decide) w_2 (fun _ h9 => h9) rfl dX8_take_121 ?_
                    refine vp_callSi (va_Run.run (va_runV (As := [.int (nI i_0), .int (nI i_90)]) (rest := [.ref (y 0)]) ⟨hx, hb, hml, hown, hts⟩ (f_X8_wordAt l D cB cI cJ cZ y m_tapeSize m_givers m_children m_coats m_legacies m_insideMany m_thrown m_cycleMany m_vote m_low m_high m_wear m_spare m_places m_cycleNext m_fault m_faultPlace m_giverNext m_years (nI m_end) (nI i_90) m_kind m_which (nI i_0) m_read m_readMany m_readHigh m_tape m_words i_0 i_90 hE_90.1 (by omega) hwf) (cwV 2 hts gX8_take_X8_wordAt rfl rfl rfl (by decide +kernel) ⟨Nat.le_of_ble_eq_true rfl, Nat.le_of_ble_eq_true rfl⟩) (pre_VR (hP.sub (ws' := [((y 0), .inr (8, [.ref (y 1), .int (nI m_tapeSize), .int m_thrown, .ref (y 2), .int m_cycleMany, .int m_vote, .int m_low, .int m_high, .int m_wear, .int m_spare, .int m_places, .int m_cycleNext, .int m_fault, .int m_faultPlace, .int (nI m_givers), .ref (y 3), .ref (y 4), .int m_giverNext, .int (nI m_children), .ref (y 5), .ref (y 6), .ref (y 7), .ref (y 8), .ref (y 9), .int (nI m_coats), .ref (y 10), .ref (y 11), .ref (y 12), .ref (y 13), .int m_years, .int (nI m_legacies), .ref (y 14), .ref (y 15), .ref (y 16), .ref (y 17), .int (nI m_end), .int (nI i_90), .int m_kind, .int m_which, .int (nI i_0), .int m_read, .ref (y 18), .ref (y 19), .int m_readMany, .int m_readHigh, .ref (y 20), .int (nI m_insideMany), .ref (y 21), .ref (y 22), .ref (y 23), .ref (y 24), .ref (y 25)])), ((y 1), .inl (cI, 300, .inl m_tape)), ((y 17), .inl (cI, 43, .inl m_words))]) [0, 1, 2] rfl) hK 0 rfl rfl rfl) rfl rfl hl.1 rfl (lv_room (Nat.le_of_ble_eq_true rfl)) dX8_take_124 ⟨Nat.le_of_ble_eq_true rfl, Nat.le_of_ble_eq_true rfl⟩)) (fun r_8 hw_r_8 => ?_)
                    refine va_put (D := D) (ci := 8) (v := .int r_8) (ty := .int) (C := RX8) (T := TX8) (N := 52) hx hb hts w_1 tyX8 tyX8_ok nmX8 hown hK hP hD hS 0 rfl rfl 38 (by decide) w_7 (fun _ h9 => h9) rfl (by decide +kernel) rfl rfl (Nat.le_of_ble_eq_true rfl) dX8_take_127 (fun H locs hP hD hS => ?_)
                    have hP : va_P D vwCl [((y 0), .inr (8, [.ref (y 1), .int (nI m_tapeSize), .int m_thrown, .ref (y 2), .int m_cycleMany, .int m_vote, .int m_low, .int m_high, .int m_wear, .int m_spare, .int m_places, .int m_cycleNext, .int m_fault, .int m_faultPlace, .int (nI m_givers), .ref (y 3), .ref (y 4), .int m_giverNext, .int (nI m_children), .ref (y 5), .ref (y 6), .ref (y 7), .ref (y 8), .ref (y 9), .int (nI m_coats), .ref (y 10), .ref (y 11), .ref (y 12), .ref (y 13), .int m_years, .int (nI m_legacies), .ref (y 14), .ref (y 15), .ref (y 16), .ref (y 17), .int (nI m_end), .int (nI i_90), .int m_kind, .int r_8, .int (nI i_0), .int m_read, .ref (y 18), .ref (y 19), .int m_readMany, .int m_readHigh, .ref (y 20), .int (nI m_insideMany), .ref (y 21), .ref (y 22), .ref (y 23), .ref (y 24), .ref (y 25)])), ((y 1), .inl (cI, 300, .inl m_tape)), ((y 17), .inl (cI, 43, .inl m_words))] H := hP
                    have hD : va_D A [((y 0), .inr (8, [.ref (y 1), .int (nI m_tapeSize), .int m_thrown, .ref (y 2), .int m_cycleMany, .int m_vote, .int m_low, .int m_high, .int m_wear, .int m_spare, .int m_places, .int m_cycleNext, .int m_fault, .int m_faultPlace, .int (nI m_givers), .ref (y 3), .ref (y 4), .int m_giverNext, .int (nI m_children), .ref (y 5), .ref (y 6), .ref (y 7), .ref (y 8), .ref (y 9), .int (nI m_coats), .ref (y 10), .ref (y 11), .ref (y 12), .ref (y 13), .int m_years, .int (nI m_legacies), .ref (y 14), .ref (y 15), .ref (y 16), .ref (y 17), .int (nI m_end), .int (nI i_90), .int m_kind, .int r_8, .int (nI i_0), .int m_read, .ref (y 18), .ref (y 19), .int m_readMany, .int m_readHigh, .ref (y 20), .int (nI m_insideMany), .ref (y 21), .ref (y 22), .ref (y 23), .ref (y 24), .ref (y 25)])), ((y 1), .inl (cI, 300, .inl m_tape)), ((y 17), .inl (cI, 43, .inl m_words))] := hD
                    refine lv_aload_n hx hb dX8_take_130 rfl (lv_at hl 0 rfl) ?_
                    refine lv_aload_n hx hb dX8_take_131 rfl (lv_at hl 0 rfl) ?_
                    refine va_get (D := D) (ci := 8) (v := .int r_8) (C := RX8) (T := TX8) (N := 52) hx hb hts w_1 hown hK hP 0 rfl rfl 38 (by decide) w_7 (fun _ h9 => h9) rfl dX8_take_132 ?_
                    refine lv_if_ge (tgt := 142) hx hb dX8_take_135 (by decide) (fun c_135 => ?_) (fun c_135 => ?_)
                    ·
                      refine lv_iconst (v := 1) hx hb dX8_take_142 (by decide) ?_
                      refine va_put (D := D) (ci := 8) (v := .int 1) (ty := .int) (C := RX8) (T := TX8) (N := 52) hx hb hts w_1 tyX8 tyX8_ok nmX8 hown hK hP hD hS 0 rfl rfl 37 (by decide) w_5 (fun _ h9 => h9) rfl (by decide +kernel) rfl rfl (Nat.le_of_ble_eq_true rfl) dX8_take_143 (fun H locs hP hD hS => ?_)
                      have hP : va_P D vwCl [((y 0), .inr (8, [.ref (y 1), .int (nI m_tapeSize), .int m_thrown, .ref (y 2), .int m_cycleMany, .int m_vote, .int m_low, .int m_high, .int m_wear, .int m_spare, .int m_places, .int m_cycleNext, .int m_fault, .int m_faultPlace, .int (nI m_givers), .ref (y 3), .ref (y 4), .int m_giverNext, .int (nI m_children), .ref (y 5), .ref (y 6), .ref (y 7), .ref (y 8), .ref (y 9), .int (nI m_coats), .ref (y 10), .ref (y 11), .ref (y 12), .ref (y 13), .int m_years, .int (nI m_legacies), .ref (y 14), .ref (y 15), .ref (y 16), .ref (y 17), .int (nI m_end), .int (nI i_90), .int 1, .int r_8, .int (nI i_0), .int m_read, .ref (y 18), .ref (y 19), .int m_readMany, .int m_readHigh, .ref (y 20), .int (nI m_insideMany), .ref (y 21), .ref (y 22), .ref (y 23), .ref (y 24), .ref (y 25)])), ((y 1), .inl (cI, 300, .inl m_tape)), ((y 17), .inl (cI, 43, .inl m_words))] H := hP
                      have hD : va_D A [((y 0), .inr (8, [.ref (y 1), .int (nI m_tapeSize), .int m_thrown, .ref (y 2), .int m_cycleMany, .int m_vote, .int m_low, .int m_high, .int m_wear, .int m_spare, .int m_places, .int m_cycleNext, .int m_fault, .int m_faultPlace, .int (nI m_givers), .ref (y 3), .ref (y 4), .int m_giverNext, .int (nI m_children), .ref (y 5), .ref (y 6), .ref (y 7), .ref (y 8), .ref (y 9), .int (nI m_coats), .ref (y 10), .ref (y 11), .ref (y 12), .ref (y 13), .int m_years, .int (nI m_legacies), .ref (y 14), .ref (y 15), .ref (y 16), .ref (y 17), .int (nI m_end), .int (nI i_90), .int 1, .int r_8, .int (nI i_0), .int m_read, .ref (y 18), .ref (y 19), .int m_readMany, .int m_readHigh, .ref (y 20), .int (nI m_insideMany), .ref (y 21), .ref (y 22), .ref (y 23), .ref (y 24), .ref (y 25)])), ((y 1), .inl (cI, 300, .inl m_tape)), ((y 17), .inl (cI, 43, .inl m_words))] := hD
                      refine lv_goto (tgt := 267) hx hb dX8_take_146 (by decide) ?_
                      rw [← hQ]
                      have hP9 := hP.sub (ws' := [((y 0), .inr (8, [.ref (y 1), .int (nI m_tapeSize), .int m_thrown, .ref (y 2), .int m_cycleMany, .int m_vote, .int m_low, .int m_high, .int m_wear, .int m_spare, .int m_places, .int m_cycleNext, .int m_fault, .int m_faultPlace, .int (nI m_givers), .ref (y 3), .ref (y 4), .int m_giverNext, .int (nI m_children), .ref (y 5), .ref (y 6), .ref (y 7), .ref (y 8), .ref (y 9), .int (nI m_coats), .ref (y 10), .ref (y 11), .ref (y 12), .ref (y 13), .int m_years, .int (nI m_legacies), .ref (y 14), .ref (y 15), .ref (y 16), .ref (y 17), .int (nI m_end), .int (nI i_90), .int 1, .int r_8, .int (nI i_0), .int m_read, .ref (y 18), .ref (y 19), .int m_readMany, .int m_readHigh, .ref (y 20), .int (nI m_insideMany), .ref (y 21), .ref (y 22), .ref (y 23), .ref (y 24), .ref (y 25)])), ((y 1), .inl (cI, 300, .inl m_tape)), ((y 17), .inl (cI, 43, .inl m_words))]) [0, 1, 2] rfl
                      have hD9 := hD.sub (ws' := [((y 0), .inr (8, [.ref (y 1), .int (nI m_tapeSize), .int m_thrown, .ref (y 2), .int m_cycleMany, .int m_vote, .int m_low, .int m_high, .int m_wear, .int m_spare, .int m_places, .int m_cycleNext, .int m_fault, .int m_faultPlace, .int (nI m_givers), .ref (y 3), .ref (y 4), .int m_giverNext, .int (nI m_children), .ref (y 5), .ref (y 6), .ref (y 7), .ref (y 8), .ref (y 9), .int (nI m_coats), .ref (y 10), .ref (y 11), .ref (y 12), .ref (y 13), .int m_years, .int (nI m_legacies), .ref (y 14), .ref (y 15), .ref (y 16), .ref (y 17), .int (nI m_end), .int (nI i_90), .int 1, .int r_8, .int (nI i_0), .int m_read, .ref (y 18), .ref (y 19), .int m_readMany, .int m_readHigh, .ref (y 20), .int (nI m_insideMany), .ref (y 21), .ref (y 22), .ref (y 23), .ref (y 24), .ref (y 25)])), ((y 1), .inl (cI, 300, .inl m_tape)), ((y 17), .inl (cI, 43, .inl m_words))]) [0, 1, 2] (by decide) rfl
                      exact W.vret hx hb hr (fun t ht hW => ⟨⟨(i_90, i_0, (r_8 : Int32), (1 : Int32)), rfl, (cm_1y hTS hb_0 (hw_r_2.ne c_87).2 (ls_ee hE_90 (fun h => hw_r_7.eq c_98 h)) hw_r_8 c_135), by rw [ht]; exact hP9, va_K.moved hW.alike hK, hD9⟩, hS.F ht⟩) hS.2.2 dX8_take_267
                    ·
                      refine lv_iconst (v := 4) hx hb dX8_take_138 (by decide) ?_
                      refine lv_goto (tgt := 143) hx hb dX8_take_139 (by decide) ?_
                      refine va_put (D := D) (ci := 8) (v := .int 4) (ty := .int) (C := RX8) (T := TX8) (N := 52) hx hb hts w_1 tyX8 tyX8_ok nmX8 hown hK hP hD hS 0 rfl rfl 37 (by decide) w_5 (fun _ h9 => h9) rfl (by decide +kernel) rfl rfl (Nat.le_of_ble_eq_true rfl) dX8_take_143 (fun H locs hP hD hS => ?_)
                      have hP : va_P D vwCl [((y 0), .inr (8, [.ref (y 1), .int (nI m_tapeSize), .int m_thrown, .ref (y 2), .int m_cycleMany, .int m_vote, .int m_low, .int m_high, .int m_wear, .int m_spare, .int m_places, .int m_cycleNext, .int m_fault, .int m_faultPlace, .int (nI m_givers), .ref (y 3), .ref (y 4), .int m_giverNext, .int (nI m_children), .ref (y 5), .ref (y 6), .ref (y 7), .ref (y 8), .ref (y 9), .int (nI m_coats), .ref (y 10), .ref (y 11), .ref (y 12), .ref (y 13), .int m_years, .int (nI m_legacies), .ref (y 14), .ref (y 15), .ref (y 16), .ref (y 17), .int (nI m_end), .int (nI i_90), .int 4, .int r_8, .int (nI i_0), .int m_read, .ref (y 18), .ref (y 19), .int m_readMany, .int m_readHigh, .ref (y 20), .int (nI m_insideMany), .ref (y 21), .ref (y 22), .ref (y 23), .ref (y 24), .ref (y 25)])), ((y 1), .inl (cI, 300, .inl m_tape)), ((y 17), .inl (cI, 43, .inl m_words))] H := hP
                      have hD : va_D A [((y 0), .inr (8, [.ref (y 1), .int (nI m_tapeSize), .int m_thrown, .ref (y 2), .int m_cycleMany, .int m_vote, .int m_low, .int m_high, .int m_wear, .int m_spare, .int m_places, .int m_cycleNext, .int m_fault, .int m_faultPlace, .int (nI m_givers), .ref (y 3), .ref (y 4), .int m_giverNext, .int (nI m_children), .ref (y 5), .ref (y 6), .ref (y 7), .ref (y 8), .ref (y 9), .int (nI m_coats), .ref (y 10), .ref (y 11), .ref (y 12), .ref (y 13), .int m_years, .int (nI m_legacies), .ref (y 14), .ref (y 15), .ref (y 16), .ref (y 17), .int (nI m_end), .int (nI i_90), .int 4, .int r_8, .int (nI i_0), .int m_read, .ref (y 18), .ref (y 19), .int m_readMany, .int m_readHigh, .ref (y 20), .int (nI m_insideMany), .ref (y 21), .ref (y 22), .ref (y 23), .ref (y 24), .ref (y 25)])), ((y 1), .inl (cI, 300, .inl m_tape)), ((y 17), .inl (cI, 43, .inl m_words))] := hD
                      refine lv_goto (tgt := 267) hx hb dX8_take_146 (by decide) ?_
                      rw [← hQ]
                      have hP9 := hP.sub (ws' := [((y 0), .inr (8, [.ref (y 1), .int (nI m_tapeSize), .int m_thrown, .ref (y 2), .int m_cycleMany, .int m_vote, .int m_low, .int m_high, .int m_wear, .int m_spare, .int m_places, .int m_cycleNext, .int m_fault, .int m_faultPlace, .int (nI m_givers), .ref (y 3), .ref (y 4), .int m_giverNext, .int (nI m_children), .ref (y 5), .ref (y 6), .ref (y 7), .ref (y 8), .ref (y 9), .int (nI m_coats), .ref (y 10), .ref (y 11), .ref (y 12), .ref (y 13), .int m_years, .int (nI m_legacies), .ref (y 14), .ref (y 15), .ref (y 16), .ref (y 17), .int (nI m_end), .int (nI i_90), .int 4, .int r_8, .int (nI i_0), .int m_read, .ref (y 18), .ref (y 19), .int m_readMany, .int m_readHigh, .ref (y 20), .int (nI m_insideMany), .ref (y 21), .ref (y 22), .ref (y 23), .ref (y 24), .ref (y 25)])), ((y 1), .inl (cI, 300, .inl m_tape)), ((y 17), .inl (cI, 43, .inl m_words))]) [0, 1, 2] rfl
                      have hD9 := hD.sub (ws' := [((y 0), .inr (8, [.ref (y 1), .int (nI m_tapeSize), .int m_thrown, .ref (y 2), .int m_cycleMany, .int m_vote, .int m_low, .int m_high, .int m_wear, .int m_spare, .int m_places, .int m_cycleNext, .int m_fault, .int m_faultPlace, .int (nI m_givers), .ref (y 3), .ref (y 4), .int m_giverNext, .int (nI m_children), .ref (y 5), .ref (y 6), .ref (y 7), .ref (y 8), .ref (y 9), .int (nI m_coats), .ref (y 10), .ref (y 11), .ref (y 12), .ref (y 13), .int m_years, .int (nI m_legacies), .ref (y 14), .ref (y 15), .ref (y 16), .ref (y 17), .int (nI m_end), .int (nI i_90), .int 4, .int r_8, .int (nI i_0), .int m_read, .ref (y 18), .ref (y 19), .int m_readMany, .int m_readHigh, .ref (y 20), .int (nI m_insideMany), .ref (y 21), .ref (y 22), .ref (y 23), .ref (y 24), .ref (y 25)])), ((y 1), .inl (cI, 300, .inl m_tape)), ((y 17), .inl (cI, 43, .inl m_words))]) [0, 1, 2] (by decide) rfl
                      exact W.vret hx hb hr (fun t ht hW => ⟨⟨(i_90, i_0, (r_8 : Int32), (4 : Int32)), rfl, (cm_1n hTS hb_0 (hw_r_2.ne c_87).2 (ls_ee hE_90 (fun h => hw_r_7.eq c_98 h)) hw_r_8 c_135), by rw [ht]; exact hP9, va_K.moved hW.alike hK, hD9⟩, hS.F ht⟩) hS.2.2 dX8_take_267
                  ·
                    have hb_90 : i_90 < m_end := (hw_r_7.ne c_98).1
                    refine lv_aload_n hx hb dX8_take_101 rfl (lv_at hl 0 rfl) ?_
                    refine lv_dup hx hb dX8_take_102 rfl ?_
                    refine va_get (D := D) (ci := 8) (v := .int (nI i_90)) (C := RX8) (T := TX8) (N := 52) hx hb hts w_1 hown hK hP 0 rfl rfl 36 (by decide) w_2 (fun _ h9 => h9) rfl dX8_take_103 ?_
                    refine lv_iconst (v := 1) hx hb dX8_take_106 (by decide) ?_
                    refine sv_iadd (v := nI (i_90 + 1)) hx hb dX8_take_107 (ax_add _ 1) ?_
                    refine va_put (D := D) (ci := 8) (v := .int (nI (i_90 + 1))) (ty := .int) (C := RX8) (T := TX8) (N := 52) hx hb hts w_1 tyX8 tyX8_ok nmX8 hown hK hP hD hS 0 rfl rfl 36 (by decide) w_2 (fun _ h9 => h9) rfl (by decide +kernel) rfl rfl (Nat.le_of_ble_eq_true rfl) dX8_take_108 (fun H locs hP hD hS => ?_)
                    have hP : va_P D vwCl [((y 0), .inr (8, [.ref (y 1), .int (nI m_tapeSize), .int m_thrown, .ref (y 2), .int m_cycleMany, .int m_vote, .int m_low, .int m_high, .int m_wear, .int m_spare, .int m_places, .int m_cycleNext, .int m_fault, .int m_faultPlace, .int (nI m_givers), .ref (y 3), .ref (y 4), .int m_giverNext, .int (nI m_children), .ref (y 5), .ref (y 6), .ref (y 7), .ref (y 8), .ref (y 9), .int (nI m_coats), .ref (y 10), .ref (y 11), .ref (y 12), .ref (y 13), .int m_years, .int (nI m_legacies), .ref (y 14), .ref (y 15), .ref (y 16), .ref (y 17), .int (nI m_end), .int (nI (i_90 + 1)), .int m_kind, .int m_which, .int (nI i_0), .int m_read, .ref (y 18), .ref (y 19), .int m_readMany, .int m_readHigh, .ref (y 20), .int (nI m_insideMany), .ref (y 21), .ref (y 22), .ref (y 23), .ref (y 24), .ref (y 25)])), ((y 1), .inl (cI, 300, .inl m_tape)), ((y 17), .inl (cI, 43, .inl m_words))] H := hP
                    have hD : va_D A [((y 0), .inr (8, [.ref (y 1), .int (nI m_tapeSize), .int m_thrown, .ref (y 2), .int m_cycleMany, .int m_vote, .int m_low, .int m_high, .int m_wear, .int m_spare, .int m_places, .int m_cycleNext, .int m_fault, .int m_faultPlace, .int (nI m_givers), .ref (y 3), .ref (y 4), .int m_giverNext, .int (nI m_children), .ref (y 5), .ref (y 6), .ref (y 7), .ref (y 8), .ref (y 9), .int (nI m_coats), .ref (y 10), .ref (y 11), .ref (y 12), .ref (y 13), .int m_years, .int (nI m_legacies), .ref (y 14), .ref (y 15), .ref (y 16), .ref (y 17), .int (nI m_end), .int (nI (i_90 + 1)), .int m_kind, .int m_which, .int (nI i_0), .int m_read, .ref (y 18), .ref (y 19), .int m_readMany, .int m_readHigh, .ref (y 20), .int (nI m_insideMany), .ref (y 21), .ref (y 22), .ref (y 23), .ref (y 24), .ref (y 25)])), ((y 1), .inl (cI, 300, .inl m_tape)), ((y 17), .inl (cI, 43, .inl m_words))] := hD
                    refine lv_goto (tgt := 90) hx hb dX8_take_111 (by decide) ?_
                    exact ih_L_6 (i_90 + 1) _ _ ls (by omega) (by omega) (ls_ss hE_90 hb_90 (hw_r_7.ne c_98).2) hP hD hS (lv_sub hl [0] rfl)
              exact L_6 _ i_0 _ _ ls (Nat.lt_succ_self _) (by first | exact Nat.zero_le _ | omega) (ls_00 (Nat.le_of_lt hb_0)) hP hD hS (lv_sub hl [0] rfl)
          ·
            refine lv_aload_n hx hb dX8_take_39 rfl (lv_at hl 0 rfl) ?_
            refine lv_dup hx hb dX8_take_40 rfl ?_
            refine va_get (D := D) (ci := 8) (v := .int (nI i_0)) (C := RX8) (T := TX8) (N := 52) hx hb hts w_1 hown hK hP 0 rfl rfl 36 (by decide) w_2 (fun _ h9 => h9) rfl dX8_take_41 ?_
            refine lv_iconst (v := 1) hx hb dX8_take_44 (by decide) ?_
            refine sv_iadd (v := nI (i_0 + 1)) hx hb dX8_take_45 (ax_add _ 1) ?_
            refine va_put (D := D) (ci := 8) (v := .int (nI (i_0 + 1))) (ty := .int) (C := RX8) (T := TX8) (N := 52) hx hb hts w_1 tyX8 tyX8_ok nmX8 hown hK hP hD hS 0 rfl rfl 36 (by decide) w_2 (fun _ h9 => h9) rfl (by decide +kernel) rfl rfl (Nat.le_of_ble_eq_true rfl) dX8_take_46 (fun H locs hP hD hS => ?_)
            have hP : va_P D vwCl [((y 0), .inr (8, [.ref (y 1), .int (nI m_tapeSize), .int m_thrown, .ref (y 2), .int m_cycleMany, .int m_vote, .int m_low, .int m_high, .int m_wear, .int m_spare, .int m_places, .int m_cycleNext, .int m_fault, .int m_faultPlace, .int (nI m_givers), .ref (y 3), .ref (y 4), .int m_giverNext, .int (nI m_children), .ref (y 5), .ref (y 6), .ref (y 7), .ref (y 8), .ref (y 9), .int (nI m_coats), .ref (y 10), .ref (y 11), .ref (y 12), .ref (y 13), .int m_years, .int (nI m_legacies), .ref (y 14), .ref (y 15), .ref (y 16), .ref (y 17), .int (nI m_end), .int (nI (i_0 + 1)), .int m_kind, .int m_which, .int m_place, .int m_read, .ref (y 18), .ref (y 19), .int m_readMany, .int m_readHigh, .ref (y 20), .int (nI m_insideMany), .ref (y 21), .ref (y 22), .ref (y 23), .ref (y 24), .ref (y 25)])), ((y 1), .inl (cI, 300, .inl m_tape)), ((y 17), .inl (cI, 43, .inl m_words))] H := hP
            have hD : va_D A [((y 0), .inr (8, [.ref (y 1), .int (nI m_tapeSize), .int m_thrown, .ref (y 2), .int m_cycleMany, .int m_vote, .int m_low, .int m_high, .int m_wear, .int m_spare, .int m_places, .int m_cycleNext, .int m_fault, .int m_faultPlace, .int (nI m_givers), .ref (y 3), .ref (y 4), .int m_giverNext, .int (nI m_children), .ref (y 5), .ref (y 6), .ref (y 7), .ref (y 8), .ref (y 9), .int (nI m_coats), .ref (y 10), .ref (y 11), .ref (y 12), .ref (y 13), .int m_years, .int (nI m_legacies), .ref (y 14), .ref (y 15), .ref (y 16), .ref (y 17), .int (nI m_end), .int (nI (i_0 + 1)), .int m_kind, .int m_which, .int m_place, .int m_read, .ref (y 18), .ref (y 19), .int m_readMany, .int m_readHigh, .ref (y 20), .int (nI m_insideMany), .ref (y 21), .ref (y 22), .ref (y 23), .ref (y 24), .ref (y 25)])), ((y 1), .inl (cI, 300, .inl m_tape)), ((y 17), .inl (cI, 43, .inl m_words))] := hD
            refine lv_goto (tgt := 0) hx hb dX8_take_49 (by decide) ?_
            exact ih_L_1 (i_0 + 1) _ _ ls (by omega) (by omega) (sk_s hB_0 hb_0 (Or.inr c_36)) hP hD hS (lv_sub hl [0] rfl)
  exact L_1 _ m_next _ _ ls (Nat.lt_succ_self _) (by first | exact Nat.zero_le _ | omega) (sk_0 hne) hP hD hS (lv_sub hl [0] rfl)

