/-! The reference's reading: safe, and it goes on. -/
def wsg : List Int32 := [116, 117, 114, 110, 32, 118, 111, 116, 101, 32, 110, 101, 101, 100, 32, 99, 121, 99, 108, 101, 32, 97, 103, 101, 32, 119, 101, 97, 114, 32, 115, 112, 97, 114, 101, 32, 112, 108, 97, 99, 101, 115, 32]
def wOK (f : Nat → Int32) : Prop := ∀ j, j < 43 → f j = wsg.getD j 0
def smP (t : Nat → Int32) (a z e q : Int32) : Prop := ¬ e ≤ q ∧ a ≤ t q.toNatClampNeg ∧ t q.toNatClampNeg ≤ z
/-- what take leaves: it went on, unless the end is reached; a word is one of eight -/
def tkP (e n n' k' w' : Int32) : Prop := n.toInt ≤ n'.toInt ∧ n'.toInt ≤ e.toInt ∧ (k' = 0 ∨ n.toInt < n'.toInt) ∧ (k' = 1 → vp_in w' 8)
theorem sm_in {q e : Int32} (hq : 0 ≤ q.toInt) (c : ¬ e ≤ q) (he : e.toInt ≤ 300) : vp_in q 300 := lp_in hq c he
theorem ne_lt {i e : Int32} (h : i.toInt ≤ e.toInt) (c : ¬ i = e) : ¬ e ≤ i := fun q => c (Int32.toInt_inj.mp (Int.le_antisymm h (Int32.le_iff_toInt_le.mp q)))
theorem tk_inc {n i e : Int32} (h : n.toInt ≤ i.toInt ∧ i.toInt ≤ e.toInt) (c : ¬ e ≤ i) : n.toInt ≤ (i + 1).toInt ∧ (i + 1).toInt ≤ e.toInt := by
  have h1 := lp_inc c
  have h2 := Int.not_le.mp (fun q => c (Int32.le_iff_toInt_le.mpr q))
  omega
theorem wa_in {a b n i : Int32} (h0 : 0 ≤ a.toInt) (hab : a.toInt ≤ b.toInt) (hb : b.toInt ≤ 300) (e : n = b - a) (hi : 0 ≤ i.toInt ∧ i.toInt < n.toInt) : vp_in (a + i) 300 := by
  have hn : n.toInt = b.toInt - a.toInt := by
    rw [e, Int32.toInt_sub, Int.bmod_eq_of_le (by omega) (by omega)]
  refine vp_in_iff.mpr ?_
  rw [Int32.toInt_add, Int.bmod_eq_of_le (by omega) (by omega)]
  omega
theorem ge_ne {w : Int32} (h : w = -1 ∨ vp_in w 8) (c : (0 : Int32) ≤ w) : vp_in w 8 := h.resolve_left (fun e => by rw [e] at c; exact absurd c (by decide))

set_option maxHeartbeats 4000000 in
set_option maxRecDepth 100000 in
theorem n_X8_wrong (l : Launch) (D : va_G) (cB cI cJ cZ : ClassId) (sz : Nat) (y : Nat → Nat) (m_tapeSize m_givers m_children m_coats m_legacies m_insideMany : Nat) (m_thrown m_cycleMany m_vote m_low m_high m_wear m_spare m_places m_cycleNext m_fault m_faultPlace m_giverNext m_years m_end m_next m_kind m_which m_place m_read m_readMany m_readHigh : Int32) (q q2 : Int32) : Met l yX8_wrong wsX8_wrong ({ frames := 0, cells := 0, slots := 0, locals := 0 } : Room) (cPre D (aTy cB cI cJ cZ) [((y 0), .inr (8, [.ref (y 1), .int (nI m_tapeSize), .int m_thrown, .ref (y 2), .int m_cycleMany, .int m_vote, .int m_low, .int m_high, .int m_wear, .int m_spare, .int m_places, .int m_cycleNext, .int m_fault, .int m_faultPlace, .int (nI m_givers), .ref (y 3), .ref (y 4), .int m_giverNext, .int (nI m_children), .ref (y 5), .ref (y 6), .ref (y 7), .ref (y 8), .ref (y 9), .int (nI m_coats), .ref (y 10), .ref (y 11), .ref (y 12), .ref (y 13), .int m_years, .int (nI m_legacies), .ref (y 14), .ref (y 15), .ref (y 16), .ref (y 17), .int m_end, .int m_next, .int m_kind, .int m_which, .int m_place, .int m_read, .ref (y 18), .ref (y 19), .int m_readMany, .int m_readHigh, .ref (y 20), .int (nI m_insideMany), .ref (y 21), .ref (y 22), .ref (y 23), .ref (y 24), .ref (y 25)]))] sz [.ref (y 0), .int q, .int q2]) (va_Qi (fun (r : Int32) (u : Int32 × Int32) => r = 0) (cB_ D (aTy cB cI cJ cZ) (va_A [((y 0), .inr (8, [.ref (y 1), .int (nI m_tapeSize), .int m_thrown, .ref (y 2), .int m_cycleMany, .int m_vote, .int m_low, .int m_high, .int m_wear, .int m_spare, .int m_places, .int m_cycleNext, .int m_fault, .int m_faultPlace, .int (nI m_givers), .ref (y 3), .ref (y 4), .int m_giverNext, .int (nI m_children), .ref (y 5), .ref (y 6), .ref (y 7), .ref (y 8), .ref (y 9), .int (nI m_coats), .ref (y 10), .ref (y 11), .ref (y 12), .ref (y 13), .int m_years, .int (nI m_legacies), .ref (y 14), .ref (y 15), .ref (y 16), .ref (y 17), .int m_end, .int m_next, .int m_kind, .int m_which, .int m_place, .int m_read, .ref (y 18), .ref (y 19), .int m_readMany, .int m_readHigh, .ref (y 20), .int (nI m_insideMany), .ref (y 21), .ref (y 22), .ref (y 23), .ref (y 24), .ref (y 25)]))] sz) (fun u => [((y 0), .inr (8, [.ref (y 1), .int (nI m_tapeSize), .int m_thrown, .ref (y 2), .int m_cycleMany, .int m_vote, .int m_low, .int m_high, .int m_wear, .int m_spare, .int m_places, .int m_cycleNext, .int (u.1), .int (u.2), .int (nI m_givers), .ref (y 3), .ref (y 4), .int m_giverNext, .int (nI m_children), .ref (y 5), .ref (y 6), .ref (y 7), .ref (y 8), .ref (y 9), .int (nI m_coats), .ref (y 10), .ref (y 11), .ref (y 12), .ref (y 13), .int m_years, .int (nI m_legacies), .ref (y 14), .ref (y 15), .ref (y 16), .ref (y 17), .int m_end, .int m_next, .int m_kind, .int m_which, .int m_place, .int m_read, .ref (y 18), .ref (y 19), .int m_readMany, .int m_readHigh, .ref (y 20), .int (nI m_insideMany), .ref (y 21), .ref (y 22), .ref (y 23), .ref (y 24), .ref (y 25)]))])) (va_A [((y 0), .inr (8, [.ref (y 1), .int (nI m_tapeSize), .int m_thrown, .ref (y 2), .int m_cycleMany, .int m_vote, .int m_low, .int m_high, .int m_wear, .int m_spare, .int m_places, .int m_cycleNext, .int m_fault, .int m_faultPlace, .int (nI m_givers), .ref (y 3), .ref (y 4), .int m_giverNext, .int (nI m_children), .ref (y 5), .ref (y 6), .ref (y 7), .ref (y 8), .ref (y 9), .int (nI m_coats), .ref (y 10), .ref (y 11), .ref (y 12), .ref (y 13), .int m_years, .int (nI m_legacies), .ref (y 14), .ref (y 15), .ref (y 16), .ref (y 17), .int m_end, .int m_next, .int m_kind, .int m_which, .int m_place, .int m_read, .ref (y 18), .ref (y 19), .int m_readMany, .int m_readHigh, .ref (y 20), .int (nI m_insideMany), .ref (y 21), .ref (y 22), .ref (y 23), .ref (y 24), .ref (y 25)]))] sz)) 0 0 (va_A [((y 0), .inr (8, [.ref (y 1), .int (nI m_tapeSize), .int m_thrown, .ref (y 2), .int m_cycleMany, .int m_vote, .int m_low, .int m_high, .int m_wear, .int m_spare, .int m_places, .int m_cycleNext, .int m_fault, .int m_faultPlace, .int (nI m_givers), .ref (y 3), .ref (y 4), .int m_giverNext, .int (nI m_children), .ref (y 5), .ref (y 6), .ref (y 7), .ref (y 8), .ref (y 9), .int (nI m_coats), .ref (y 10), .ref (y 11), .ref (y 12), .ref (y 13), .int m_years, .int (nI m_legacies), .ref (y 14), .ref (y 15), .ref (y 16), .ref (y 17), .int m_end, .int m_next, .int m_kind, .int m_which, .int m_place, .int m_read, .ref (y 18), .ref (y 19), .int m_readMany, .int m_readHigh, .ref (y 20), .int (nI m_insideMany), .ref (y 21), .ref (y 22), .ref (y 23), .ref (y 24), .ref (y 25)]))] sz) := by
  refine Met.ofW (cc := cX8_wrong) (maxL := 3) (ret := (some .boolean)) (by decide) rfl ?_
  intro p e s m args below meth c s₁ B hml hv
  obtain ⟨rfl, hsz, hP, hK, hD0⟩ := hv
  have hx := B.exec
  have hb := B.bytes
  have hr := B.returns
  have hts := atoms_spec (ws := wsX8_wrong) B.pre
  have hown : s.vm.findClass RX8 = some m.cls := findClass_of_methodNamed B.named
  have hlocks := B.notSynchronized
  subst hsz
  have hD := hD0.self (sz := s.heap.size)
  generalize hAe : va_A [((y 0), .inr (8, [.ref (y 1), .int (nI m_tapeSize), .int m_thrown, .ref (y 2), .int m_cycleMany, .int m_vote, .int m_low, .int m_high, .int m_wear, .int m_spare, .int m_places, .int m_cycleNext, .int m_fault, .int m_faultPlace, .int (nI m_givers), .ref (y 3), .ref (y 4), .int m_giverNext, .int (nI m_children), .ref (y 5), .ref (y 6), .ref (y 7), .ref (y 8), .ref (y 9), .int (nI m_coats), .ref (y 10), .ref (y 11), .ref (y 12), .ref (y 13), .int m_years, .int (nI m_legacies), .ref (y 14), .ref (y 15), .ref (y 16), .ref (y 17), .int m_end, .int m_next, .int m_kind, .int m_which, .int m_place, .int m_read, .ref (y 18), .ref (y 19), .int m_readMany, .int m_readHigh, .ref (y 20), .int (nI m_insideMany), .ref (y 21), .ref (y 22), .ref (y 23), .ref (y 24), .ref (y 25)]))] s.heap.size = A at hD ⊢
  have hA : ∀ q : Nat, s.heap.size ≤ q → A q := fun q h => by rw [← hAe]; exact Or.inr h
  have hS : va_S A s.heap s.heap [] := va_S.rf
  have hP : va_P D vwCl [((y 0), .inr (8, [.ref (y 1), .int (nI m_tapeSize), .int m_thrown, .ref (y 2), .int m_cycleMany, .int m_vote, .int m_low, .int m_high, .int m_wear, .int m_spare, .int m_places, .int m_cycleNext, .int m_fault, .int m_faultPlace, .int (nI m_givers), .ref (y 3), .ref (y 4), .int m_giverNext, .int (nI m_children), .ref (y 5), .ref (y 6), .ref (y 7), .ref (y 8), .ref (y 9), .int (nI m_coats), .ref (y 10), .ref (y 11), .ref (y 12), .ref (y 13), .int m_years, .int (nI m_legacies), .ref (y 14), .ref (y 15), .ref (y 16), .ref (y 17), .int m_end, .int m_next, .int m_kind, .int m_which, .int m_place, .int m_read, .ref (y 18), .ref (y 19), .int m_readMany, .int m_readHigh, .ref (y 20), .int (nI m_insideMany), .ref (y 21), .ref (y 22), .ref (y 23), .ref (y 24), .ref (y 25)]))] s.heap := hP
  have w_1 : ∀ w ∈ wsX80, w ∈ wsX8_wrong := by decide +kernel
  have w_2 := hts (Cond.fieldLink RX8 118 "BlueCoatsModel" "fault" "I") (by decide +kernel)
  have w_3 := hts (Cond.fieldLink RX8 38 "BlueCoatsModel" "faultPlace" "I") (by decide +kernel)
  have hl := lv_entry ([.ref (y 0), .int q, .int q2]) (n := 3) (Nat.le_of_ble_eq_true rfl)
  rw [lg_entry_eq]
  generalize (lg_sl ([.ref (y 0), .int q, .int q2]) ++ List.replicate (3 - (lg_sl ([.ref (y 0), .int q, .int q2])).length) Slot.unset).toArray = ls at hl ⊢
  have hl : lv_has ls 3 [(0, .ref (y 0)), (1, .int q), (2, .int q2)] := hl
  refine lv_aload_n hx hb dX8_wrong_0 rfl (lv_at hl 0 rfl) ?_
  refine lv_iload_n hx hb dX8_wrong_1 rfl (lv_at hl 1 rfl) ?_
  refine va_put (D := D) (ci := 8) (v := .int q) (ty := .int) (C := RX8) (T := TX8) (N := 52) hx hb hts w_1 tyX8 tyX8_ok nmX8 hown hK hP hD hS 0 rfl rfl 12 (by decide) w_2 (fun _ h9 => h9) rfl (by decide +kernel) rfl rfl (Nat.le_of_ble_eq_true rfl) dX8_wrong_2 (fun H locs hP hD hS => ?_)
  have hP : va_P D vwCl [((y 0), .inr (8, [.ref (y 1), .int (nI m_tapeSize), .int m_thrown, .ref (y 2), .int m_cycleMany, .int m_vote, .int m_low, .int m_high, .int m_wear, .int m_spare, .int m_places, .int m_cycleNext, .int q, .int m_faultPlace, .int (nI m_givers), .ref (y 3), .ref (y 4), .int m_giverNext, .int (nI m_children), .ref (y 5), .ref (y 6), .ref (y 7), .ref (y 8), .ref (y 9), .int (nI m_coats), .ref (y 10), .ref (y 11), .ref (y 12), .ref (y 13), .int m_years, .int (nI m_legacies), .ref (y 14), .ref (y 15), .ref (y 16), .ref (y 17), .int m_end, .int m_next, .int m_kind, .int m_which, .int m_place, .int m_read, .ref (y 18), .ref (y 19), .int m_readMany, .int m_readHigh, .ref (y 20), .int (nI m_insideMany), .ref (y 21), .ref (y 22), .ref (y 23), .ref (y 24), .ref (y 25)]))] H := hP
  have hD : va_D A [((y 0), .inr (8, [.ref (y 1), .int (nI m_tapeSize), .int m_thrown, .ref (y 2), .int m_cycleMany, .int m_vote, .int m_low, .int m_high, .int m_wear, .int m_spare, .int m_places, .int m_cycleNext, .int q, .int m_faultPlace, .int (nI m_givers), .ref (y 3), .ref (y 4), .int m_giverNext, .int (nI m_children), .ref (y 5), .ref (y 6), .ref (y 7), .ref (y 8), .ref (y 9), .int (nI m_coats), .ref (y 10), .ref (y 11), .ref (y 12), .ref (y 13), .int m_years, .int (nI m_legacies), .ref (y 14), .ref (y 15), .ref (y 16), .ref (y 17), .int m_end, .int m_next, .int m_kind, .int m_which, .int m_place, .int m_read, .ref (y 18), .ref (y 19), .int m_readMany, .int m_readHigh, .ref (y 20), .int (nI m_insideMany), .ref (y 21), .ref (y 22), .ref (y 23), .ref (y 24), .ref (y 25)]))] := hD
  refine lv_aload_n hx hb dX8_wrong_5 rfl (lv_at hl 0 rfl) ?_
  refine lv_iload_n hx hb dX8_wrong_6 rfl (lv_at hl 2 rfl) ?_
  refine va_put (D := D) (ci := 8) (v := .int q2) (ty := .int) (C := RX8) (T := TX8) (N := 52) hx hb hts w_1 tyX8 tyX8_ok nmX8 hown hK hP hD hS 0 rfl rfl 13 (by decide) w_3 (fun _ h9 => h9) rfl (by decide +kernel) rfl rfl (Nat.le_of_ble_eq_true rfl) dX8_wrong_7 (fun H locs hP hD hS => ?_)
  have hP : va_P D vwCl [((y 0), .inr (8, [.ref (y 1), .int (nI m_tapeSize), .int m_thrown, .ref (y 2), .int m_cycleMany, .int m_vote, .int m_low, .int m_high, .int m_wear, .int m_spare, .int m_places, .int m_cycleNext, .int q, .int q2, .int (nI m_givers), .ref (y 3), .ref (y 4), .int m_giverNext, .int (nI m_children), .ref (y 5), .ref (y 6), .ref (y 7), .ref (y 8), .ref (y 9), .int (nI m_coats), .ref (y 10), .ref (y 11), .ref (y 12), .ref (y 13), .int m_years, .int (nI m_legacies), .ref (y 14), .ref (y 15), .ref (y 16), .ref (y 17), .int m_end, .int m_next, .int m_kind, .int m_which, .int m_place, .int m_read, .ref (y 18), .ref (y 19), .int m_readMany, .int m_readHigh, .ref (y 20), .int (nI m_insideMany), .ref (y 21), .ref (y 22), .ref (y 23), .ref (y 24), .ref (y 25)]))] H := hP
  have hD : va_D A [((y 0), .inr (8, [.ref (y 1), .int (nI m_tapeSize), .int m_thrown, .ref (y 2), .int m_cycleMany, .int m_vote, .int m_low, .int m_high, .int m_wear, .int m_spare, .int m_places, .int m_cycleNext, .int q, .int q2, .int (nI m_givers), .ref (y 3), .ref (y 4), .int m_giverNext, .int (nI m_children), .ref (y 5), .ref (y 6), .ref (y 7), .ref (y 8), .ref (y 9), .int (nI m_coats), .ref (y 10), .ref (y 11), .ref (y 12), .ref (y 13), .int m_years, .int (nI m_legacies), .ref (y 14), .ref (y 15), .ref (y 16), .ref (y 17), .int m_end, .int m_next, .int m_kind, .int m_which, .int m_place, .int m_read, .ref (y 18), .ref (y 19), .int m_readMany, .int m_readHigh, .ref (y 20), .int (nI m_insideMany), .ref (y 21), .ref (y 22), .ref (y 23), .ref (y 24), .ref (y 25)]))] := hD
  refine lv_iconst (v := 0) hx hb dX8_wrong_10 (by decide) ?_
  have hP9 := hP.sub (ws' := [((y 0), .inr (8, [.ref (y 1), .int (nI m_tapeSize), .int m_thrown, .ref (y 2), .int m_cycleMany, .int m_vote, .int m_low, .int m_high, .int m_wear, .int m_spare, .int m_places, .int m_cycleNext, .int q, .int q2, .int (nI m_givers), .ref (y 3), .ref (y 4), .int m_giverNext, .int (nI m_children), .ref (y 5), .ref (y 6), .ref (y 7), .ref (y 8), .ref (y 9), .int (nI m_coats), .ref (y 10), .ref (y 11), .ref (y 12), .ref (y 13), .int m_years, .int (nI m_legacies), .ref (y 14), .ref (y 15), .ref (y 16), .ref (y 17), .int m_end, .int m_next, .int m_kind, .int m_which, .int m_place, .int m_read, .ref (y 18), .ref (y 19), .int m_readMany, .int m_readHigh, .ref (y 20), .int (nI m_insideMany), .ref (y 21), .ref (y 22), .ref (y 23), .ref (y 24), .ref (y 25)]))]) [0] rfl
  have hD9 := hD.sub (ws' := [((y 0), .inr (8, [.ref (y 1), .int (nI m_tapeSize), .int m_thrown, .ref (y 2), .int m_cycleMany, .int m_vote, .int m_low, .int m_high, .int m_wear, .int m_spare, .int m_places, .int m_cycleNext, .int q, .int q2, .int (nI m_givers), .ref (y 3), .ref (y 4), .int m_giverNext, .int (nI m_children), .ref (y 5), .ref (y 6), .ref (y 7), .ref (y 8), .ref (y 9), .int (nI m_coats), .ref (y 10), .ref (y 11), .ref (y 12), .ref (y 13), .int m_years, .int (nI m_legacies), .ref (y 14), .ref (y 15), .ref (y 16), .ref (y 17), .int m_end, .int m_next, .int m_kind, .int m_which, .int m_place, .int m_read, .ref (y 18), .ref (y 19), .int m_readMany, .int m_readHigh, .ref (y 20), .int (nI m_insideMany), .ref (y 21), .ref (y 22), .ref (y 23), .ref (y 24), .ref (y 25)]))]) [0] (by decide) rfl
  exact W.zret (v := 0) hx hb hr rfl (fun t ht hW => ⟨⟨_, ((q : Int32), (q2 : Int32)), rfl, rfl, by rw [ht]; exact hP9, va_K.moved hW.alike hK, hD9⟩, hS.F ht⟩) hS.2.2 dX8_wrong_11

set_option maxHeartbeats 4000000 in
set_option maxRecDepth 100000 in
theorem n_X8_isSmall (l : Launch) (D : va_G) (cB cI cJ cZ : ClassId) (y : Nat → Nat) (m_tapeSize m_givers m_children m_coats m_legacies m_insideMany : Nat) (m_thrown m_cycleMany m_vote m_low m_high m_wear m_spare m_places m_cycleNext m_fault m_faultPlace m_giverNext m_years m_end m_next m_kind m_which m_place m_read m_readMany m_readHigh : Int32) (m_tape : Nat → Int32) (q : Int32) (hq : 0 ≤ q.toInt) (he : m_end.toInt ≤ 300) : Met l yX8_isSmall wsX8_isSmall ({ frames := 0, cells := 0, slots := 0, locals := 0 } : Room) (cRd D (aTy cB cI cJ cZ) [((y 0), .inr (8, [.ref (y 1), .int (nI m_tapeSize), .int m_thrown, .ref (y 2), .int m_cycleMany, .int m_vote, .int m_low, .int m_high, .int m_wear, .int m_spare, .int m_places, .int m_cycleNext, .int m_fault, .int m_faultPlace, .int (nI m_givers), .ref (y 3), .ref (y 4), .int m_giverNext, .int (nI m_children), .ref (y 5), .ref (y 6), .ref (y 7), .ref (y 8), .ref (y 9), .int (nI m_coats), .ref (y 10), .ref (y 11), .ref (y 12), .ref (y 13), .int m_years, .int (nI m_legacies), .ref (y 14), .ref (y 15), .ref (y 16), .ref (y 17), .int m_end, .int m_next, .int m_kind, .int m_which, .int m_place, .int m_read, .ref (y 18), .ref (y 19), .int m_readMany, .int m_readHigh, .ref (y 20), .int (nI m_insideMany), .ref (y 21), .ref (y 22), .ref (y 23), .ref (y 24), .ref (y 25)])), ((y 1), .inl (cI, 300, .inl m_tape))] [.ref (y 0), .int q]) (vp_Si (fun r : Int32 => (r = 1 ∧ smP m_tape 97 122 m_end q) ∨ (r = 0 ∧ ¬ smP m_tape 97 122 m_end q))) 0 0 (fun _ => False) := by
  refine Met.ofW (cc := cX8_isSmall) (maxL := 2) (ret := (some .boolean)) (by decide) rfl ?_
  intro p e s m args below meth c s₁ B hml hv
  obtain ⟨rfl, hP, hK⟩ := hv
  have hx := B.exec
  have hb := B.bytes
  have hr := B.returns
  have hts := atoms_spec (ws := wsX8_isSmall) B.pre
  have hown : s.vm.findClass RX8 = some m.cls := findClass_of_methodNamed B.named
  have hlocks := B.notSynchronized
  have hP : va_P D vwCl [((y 0), .inr (8, [.ref (y 1), .int (nI m_tapeSize), .int m_thrown, .ref (y 2), .int m_cycleMany, .int m_vote, .int m_low, .int m_high, .int m_wear, .int m_spare, .int m_places, .int m_cycleNext, .int m_fault, .int m_faultPlace, .int (nI m_givers), .ref (y 3), .ref (y 4), .int m_giverNext, .int (nI m_children), .ref (y 5), .ref (y 6), .ref (y 7), .ref (y 8), .ref (y 9), .int (nI m_coats), .ref (y 10), .ref (y 11), .ref (y 12), .ref (y 13), .int m_years, .int (nI m_legacies), .ref (y 14), .ref (y 15), .ref (y 16), .ref (y 17), .int m_end, .int m_next, .int m_kind, .int m_which, .int m_place, .int m_read, .ref (y 18), .ref (y 19), .int m_readMany, .int m_readHigh, .ref (y 20), .int (nI m_insideMany), .ref (y 21), .ref (y 22), .ref (y 23), .ref (y 24), .ref (y 25)])), ((y 1), .inl (cI, 300, .inl m_tape))] s.heap := hP
  have w_1 : ∀ w ∈ wsX80, w ∈ wsX8_isSmall := by decide +kernel
  have w_2 := hts (Cond.fieldLink RX8 121 "BlueCoatsModel" "end" "I") (by decide +kernel)
  have w_3 := hts (Cond.fieldLink RX8 7 "BlueCoatsModel" "tape" "[I") (by decide +kernel)
  have hl := lv_entry ([.ref (y 0), .int q]) (n := 2) (Nat.le_of_ble_eq_true rfl)
  rw [lg_entry_eq]
  generalize (lg_sl ([.ref (y 0), .int q]) ++ List.replicate (2 - (lg_sl ([.ref (y 0), .int q])).length) Slot.unset).toArray = ls at hl ⊢
  have hl : lv_has ls 2 [(0, .ref (y 0)), (1, .int q)] := hl
  refine lv_iload_n hx hb dX8_isSmall_0 rfl (lv_at hl 1 rfl) ?_
  refine lv_aload_n hx hb dX8_isSmall_1 rfl (lv_at hl 0 rfl) ?_
  refine va_get (D := D) (ci := 8) (v := .int m_end) (C := RX8) (T := TX8) (N := 52) hx hb hts w_1 hown hK hP 0 rfl rfl 35 (by decide) w_2 (fun _ h9 => h9) rfl dX8_isSmall_2 ?_
  refine lv_icmp_ge (tgt := 34) hx hb dX8_isSmall_5 (by decide) (fun c_5 => ?_) (fun c_5 => ?_)
  ·
    refine lv_iconst (v := 0) hx hb dX8_isSmall_34 (by decide) ?_
    exact W.zret (v := 0) hx hb hr rfl (fun t ht hW => ⟨_, rfl, Or.inr ⟨rfl, fun h => h.1 c_5⟩, ht⟩) (fun q h => nomatch h) dX8_isSmall_35
  ·
    refine lv_aload_n hx hb dX8_isSmall_8 rfl (lv_at hl 0 rfl) ?_
    refine va_get (D := D) (ci := 8) (v := .ref (y 1)) (C := RX8) (T := TX8) (N := 52) hx hb hts w_1 hown hK hP 0 rfl rfl 0 (by decide) w_3 (fun _ h9 => h9) rfl dX8_isSmall_9 ?_
    refine lv_iload_n hx hb dX8_isSmall_12 rfl (lv_at hl 1 rfl) ?_
    refine sv_iald (v := m_tape q.toNatClampNeg) hx hb hK hP 1 1 rfl rfl (sm_in hq c_5 he) rfl dX8_isSmall_13 ?_
    refine lv_bipush (v := 97) hx hb dX8_isSmall_14 (by decide) ?_
    refine lv_icmp_lt (tgt := 34) hx hb dX8_isSmall_16 (by decide) (fun c_16 => ?_) (fun c_16 => ?_)
    ·
      refine lv_iconst (v := 0) hx hb dX8_isSmall_34 (by decide) ?_
      exact W.zret (v := 0) hx hb hr rfl (fun t ht hW => ⟨_, rfl, Or.inr ⟨rfl, fun h => absurd (c_16) (Int32.not_lt.mpr h.2.1)⟩, ht⟩) (fun q h => nomatch h) dX8_isSmall_35
    ·
      refine lv_aload_n hx hb dX8_isSmall_19 rfl (lv_at hl 0 rfl) ?_
      refine va_get (D := D) (ci := 8) (v := .ref (y 1)) (C := RX8) (T := TX8) (N := 52) hx hb hts w_1 hown hK hP 0 rfl rfl 0 (by decide) w_3 (fun _ h9 => h9) rfl dX8_isSmall_20 ?_
      refine lv_iload_n hx hb dX8_isSmall_23 rfl (lv_at hl 1 rfl) ?_
      refine sv_iald (v := m_tape q.toNatClampNeg) hx hb hK hP 1 1 rfl rfl (sm_in hq c_5 he) rfl dX8_isSmall_24 ?_
      refine lv_bipush (v := 122) hx hb dX8_isSmall_25 (by decide) ?_
      refine lv_icmp_gt (tgt := 34) hx hb dX8_isSmall_27 (by decide) (fun c_27 => ?_) (fun c_27 => ?_)
      ·
        refine lv_iconst (v := 0) hx hb dX8_isSmall_34 (by decide) ?_
        exact W.zret (v := 0) hx hb hr rfl (fun t ht hW => ⟨_, rfl, Or.inr ⟨rfl, fun h => absurd (c_27) (Int32.not_lt.mpr h.2.2)⟩, ht⟩) (fun q h => nomatch h) dX8_isSmall_35
      ·
        refine lv_iconst (v := 1) hx hb dX8_isSmall_30 (by decide) ?_
        refine lv_goto (tgt := 35) hx hb dX8_isSmall_31 (by decide) ?_
        exact W.zret (v := 1) hx hb hr rfl (fun t ht hW => ⟨_, rfl, Or.inl ⟨rfl, c_5, Int32.not_lt.mp (c_16), Int32.not_lt.mp (c_27)⟩, ht⟩) (fun q h => nomatch h) dX8_isSmall_35

set_option maxHeartbeats 4000000 in
set_option maxRecDepth 100000 in
theorem n_X8_isDigit (l : Launch) (D : va_G) (cB cI cJ cZ : ClassId) (y : Nat → Nat) (m_tapeSize m_givers m_children m_coats m_legacies m_insideMany : Nat) (m_thrown m_cycleMany m_vote m_low m_high m_wear m_spare m_places m_cycleNext m_fault m_faultPlace m_giverNext m_years m_end m_next m_kind m_which m_place m_read m_readMany m_readHigh : Int32) (m_tape : Nat → Int32) (q : Int32) (hq : 0 ≤ q.toInt) (he : m_end.toInt ≤ 300) : Met l yX8_isDigit wsX8_isDigit ({ frames := 0, cells := 0, slots := 0, locals := 0 } : Room) (cRd D (aTy cB cI cJ cZ) [((y 0), .inr (8, [.ref (y 1), .int (nI m_tapeSize), .int m_thrown, .ref (y 2), .int m_cycleMany, .int m_vote, .int m_low, .int m_high, .int m_wear, .int m_spare, .int m_places, .int m_cycleNext, .int m_fault, .int m_faultPlace, .int (nI m_givers), .ref (y 3), .ref (y 4), .int m_giverNext, .int (nI m_children), .ref (y 5), .ref (y 6), .ref (y 7), .ref (y 8), .ref (y 9), .int (nI m_coats), .ref (y 10), .ref (y 11), .ref (y 12), .ref (y 13), .int m_years, .int (nI m_legacies), .ref (y 14), .ref (y 15), .ref (y 16), .ref (y 17), .int m_end, .int m_next, .int m_kind, .int m_which, .int m_place, .int m_read, .ref (y 18), .ref (y 19), .int m_readMany, .int m_readHigh, .ref (y 20), .int (nI m_insideMany), .ref (y 21), .ref (y 22), .ref (y 23), .ref (y 24), .ref (y 25)])), ((y 1), .inl (cI, 300, .inl m_tape))] [.ref (y 0), .int q]) (vp_Si (fun r : Int32 => (r = 1 ∧ smP m_tape 48 57 m_end q) ∨ (r = 0 ∧ ¬ smP m_tape 48 57 m_end q))) 0 0 (fun _ => False) := by
  refine Met.ofW (cc := cX8_isDigit) (maxL := 2) (ret := (some .boolean)) (by decide) rfl ?_
  intro p e s m args below meth c s₁ B hml hv
  obtain ⟨rfl, hP, hK⟩ := hv
  have hx := B.exec
  have hb := B.bytes
  have hr := B.returns
  have hts := atoms_spec (ws := wsX8_isDigit) B.pre
  have hown : s.vm.findClass RX8 = some m.cls := findClass_of_methodNamed B.named
  have hlocks := B.notSynchronized
  have hP : va_P D vwCl [((y 0), .inr (8, [.ref (y 1), .int (nI m_tapeSize), .int m_thrown, .ref (y 2), .int m_cycleMany, .int m_vote, .int m_low, .int m_high, .int m_wear, .int m_spare, .int m_places, .int m_cycleNext, .int m_fault, .int m_faultPlace, .int (nI m_givers), .ref (y 3), .ref (y 4), .int m_giverNext, .int (nI m_children), .ref (y 5), .ref (y 6), .ref (y 7), .ref (y 8), .ref (y 9), .int (nI m_coats), .ref (y 10), .ref (y 11), .ref (y 12), .ref (y 13), .int m_years, .int (nI m_legacies), .ref (y 14), .ref (y 15), .ref (y 16), .ref (y 17), .int m_end, .int m_next, .int m_kind, .int m_which, .int m_place, .int m_read, .ref (y 18), .ref (y 19), .int m_readMany, .int m_readHigh, .ref (y 20), .int (nI m_insideMany), .ref (y 21), .ref (y 22), .ref (y 23), .ref (y 24), .ref (y 25)])), ((y 1), .inl (cI, 300, .inl m_tape))] s.heap := hP
  have w_1 : ∀ w ∈ wsX80, w ∈ wsX8_isDigit := by decide +kernel
  have w_2 := hts (Cond.fieldLink RX8 121 "BlueCoatsModel" "end" "I") (by decide +kernel)
  have w_3 := hts (Cond.fieldLink RX8 7 "BlueCoatsModel" "tape" "[I") (by decide +kernel)
  have hl := lv_entry ([.ref (y 0), .int q]) (n := 2) (Nat.le_of_ble_eq_true rfl)
  rw [lg_entry_eq]
  generalize (lg_sl ([.ref (y 0), .int q]) ++ List.replicate (2 - (lg_sl ([.ref (y 0), .int q])).length) Slot.unset).toArray = ls at hl ⊢
  have hl : lv_has ls 2 [(0, .ref (y 0)), (1, .int q)] := hl
  refine lv_iload_n hx hb dX8_isDigit_0 rfl (lv_at hl 1 rfl) ?_
  refine lv_aload_n hx hb dX8_isDigit_1 rfl (lv_at hl 0 rfl) ?_
  refine va_get (D := D) (ci := 8) (v := .int m_end) (C := RX8) (T := TX8) (N := 52) hx hb hts w_1 hown hK hP 0 rfl rfl 35 (by decide) w_2 (fun _ h9 => h9) rfl dX8_isDigit_2 ?_
  refine lv_icmp_ge (tgt := 34) hx hb dX8_isDigit_5 (by decide) (fun c_5 => ?_) (fun c_5 => ?_)
  ·
    refine lv_iconst (v := 0) hx hb dX8_isDigit_34 (by decide) ?_
    exact W.zret (v := 0) hx hb hr rfl (fun t ht hW => ⟨_, rfl, Or.inr ⟨rfl, fun h => h.1 c_5⟩, ht⟩) (fun q h => nomatch h) dX8_isDigit_35
  ·
    refine lv_aload_n hx hb dX8_isDigit_8 rfl (lv_at hl 0 rfl) ?_
    refine va_get (D := D) (ci := 8) (v := .ref (y 1)) (C := RX8) (T := TX8) (N := 52) hx hb hts w_1 hown hK hP 0 rfl rfl 0 (by decide) w_3 (fun _ h9 => h9) rfl dX8_isDigit_9 ?_
    refine lv_iload_n hx hb dX8_isDigit_12 rfl (lv_at hl 1 rfl) ?_
    refine sv_iald (v := m_tape q.toNatClampNeg) hx hb hK hP 1 1 rfl rfl (sm_in hq c_5 he) rfl dX8_isDigit_13 ?_
    refine lv_bipush (v := 48) hx hb dX8_isDigit_14 (by decide) ?_
    refine lv_icmp_lt (tgt := 34) hx hb dX8_isDigit_16 (by decide) (fun c_16 => ?_) (fun c_16 => ?_)
    ·
      refine lv_iconst (v := 0) hx hb dX8_isDigit_34 (by decide) ?_
      exact W.zret (v := 0) hx hb hr rfl (fun t ht hW => ⟨_, rfl, Or.inr ⟨rfl, fun h => absurd (c_16) (Int32.not_lt.mpr h.2.1)⟩, ht⟩) (fun q h => nomatch h) dX8_isDigit_35
    ·
      refine lv_aload_n hx hb dX8_isDigit_19 rfl (lv_at hl 0 rfl) ?_
      refine va_get (D := D) (ci := 8) (v := .ref (y 1)) (C := RX8) (T := TX8) (N := 52) hx hb hts w_1 hown hK hP 0 rfl rfl 0 (by decide) w_3 (fun _ h9 => h9) rfl dX8_isDigit_20 ?_
      refine lv_iload_n hx hb dX8_isDigit_23 rfl (lv_at hl 1 rfl) ?_
      refine sv_iald (v := m_tape q.toNatClampNeg) hx hb hK hP 1 1 rfl rfl (sm_in hq c_5 he) rfl dX8_isDigit_24 ?_
      refine lv_bipush (v := 57) hx hb dX8_isDigit_25 (by decide) ?_
      refine lv_icmp_gt (tgt := 34) hx hb dX8_isDigit_27 (by decide) (fun c_27 => ?_) (fun c_27 => ?_)
      ·
        refine lv_iconst (v := 0) hx hb dX8_isDigit_34 (by decide) ?_
        exact W.zret (v := 0) hx hb hr rfl (fun t ht hW => ⟨_, rfl, Or.inr ⟨rfl, fun h => absurd (c_27) (Int32.not_lt.mpr h.2.2)⟩, ht⟩) (fun q h => nomatch h) dX8_isDigit_35
      ·
        refine lv_iconst (v := 1) hx hb dX8_isDigit_30 (by decide) ?_
        refine lv_goto (tgt := 35) hx hb dX8_isDigit_31 (by decide) ?_
        exact W.zret (v := 1) hx hb hr rfl (fun t ht hW => ⟨_, rfl, Or.inl ⟨rfl, c_5, Int32.not_lt.mp (c_16), Int32.not_lt.mp (c_27)⟩, ht⟩) (fun q h => nomatch h) dX8_isDigit_35

set_option maxHeartbeats 4000000 in
set_option maxRecDepth 100000 in
theorem n_X8_wordAt (l : Launch) (D : va_G) (cB cI cJ cZ : ClassId) (y : Nat → Nat) (m_tapeSize m_givers m_children m_coats m_legacies m_insideMany : Nat) (m_thrown m_cycleMany m_vote m_low m_high m_wear m_spare m_places m_cycleNext m_fault m_faultPlace m_giverNext m_years m_end m_next m_kind m_which m_place m_read m_readMany m_readHigh : Int32) (m_tape m_words : Nat → Int32) (a b : Int32) (h0 : 0 ≤ a.toInt) (hab : a.toInt ≤ b.toInt) (hb9 : b.toInt ≤ 300) (hwf : wOK m_words) : Met l yX8_wordAt wsX8_wordAt ({ frames := 0, cells := 0, slots := 0, locals := 0 } : Room) (cRd D (aTy cB cI cJ cZ) [((y 0), .inr (8, [.ref (y 1), .int (nI m_tapeSize), .int m_thrown, .ref (y 2), .int m_cycleMany, .int m_vote, .int m_low, .int m_high, .int m_wear, .int m_spare, .int m_places, .int m_cycleNext, .int m_fault, .int m_faultPlace, .int (nI m_givers), .ref (y 3), .ref (y 4), .int m_giverNext, .int (nI m_children), .ref (y 5), .ref (y 6), .ref (y 7), .ref (y 8), .ref (y 9), .int (nI m_coats), .ref (y 10), .ref (y 11), .ref (y 12), .ref (y 13), .int m_years, .int (nI m_legacies), .ref (y 14), .ref (y 15), .ref (y 16), .ref (y 17), .int m_end, .int m_next, .int m_kind, .int m_which, .int m_place, .int m_read, .ref (y 18), .ref (y 19), .int m_readMany, .int m_readHigh, .ref (y 20), .int (nI m_insideMany), .ref (y 21), .ref (y 22), .ref (y 23), .ref (y 24), .ref (y 25)])), ((y 1), .inl (cI, 300, .inl m_tape)), ((y 17), .inl (cI, 43, .inl m_words))] [.ref (y 0), .int a, .int b]) (vp_Si (fun r : Int32 => r = -1 ∨ vp_in r 8)) 0 0 (fun _ => False) := by
  refine Met.ofW (cc := cX8_wordAt) (maxL := 8) (ret := (some .int)) (by decide) rfl ?_
  intro p e s m args below meth c s₁ B hml hv
  obtain ⟨rfl, hP, hK⟩ := hv
  have hx := B.exec
  have hb := B.bytes
  have hr := B.returns
  have hts := atoms_spec (ws := wsX8_wordAt) B.pre
  have hown : s.vm.findClass RX8 = some m.cls := findClass_of_methodNamed B.named
  have hlocks := B.notSynchronized
  have hP : va_P D vwCl [((y 0), .inr (8, [.ref (y 1), .int (nI m_tapeSize), .int m_thrown, .ref (y 2), .int m_cycleMany, .int m_vote, .int m_low, .int m_high, .int m_wear, .int m_spare, .int m_places, .int m_cycleNext, .int m_fault, .int m_faultPlace, .int (nI m_givers), .ref (y 3), .ref (y 4), .int m_giverNext, .int (nI m_children), .ref (y 5), .ref (y 6), .ref (y 7), .ref (y 8), .ref (y 9), .int (nI m_coats), .ref (y 10), .ref (y 11), .ref (y 12), .ref (y 13), .int m_years, .int (nI m_legacies), .ref (y 14), .ref (y 15), .ref (y 16), .ref (y 17), .int m_end, .int m_next, .int m_kind, .int m_which, .int m_place, .int m_read, .ref (y 18), .ref (y 19), .int m_readMany, .int m_readHigh, .ref (y 20), .int (nI m_insideMany), .ref (y 21), .ref (y 22), .ref (y 23), .ref (y 24), .ref (y 25)])), ((y 1), .inl (cI, 300, .inl m_tape)), ((y 17), .inl (cI, 43, .inl m_words))] s.heap := hP
  have w_1 : ∀ w ∈ wsX80, w ∈ wsX8_wordAt := by decide +kernel
  have w_2 := hts (Cond.fieldLink RX8 84 "BlueCoatsModel" "words" "[I") (by decide +kernel)
  have w_3 := hts (Cond.fieldLink RX8 7 "BlueCoatsModel" "tape" "[I") (by decide +kernel)
  have hl := lv_entry ([.ref (y 0), .int a, .int b]) (n := 8) (Nat.le_of_ble_eq_true rfl)
  rw [lg_entry_eq]
  generalize (lg_sl ([.ref (y 0), .int a, .int b]) ++ List.replicate (8 - (lg_sl ([.ref (y 0), .int a, .int b])).length) Slot.unset).toArray = ls at hl ⊢
  have hl : lv_has ls 8 [(0, .ref (y 0)), (1, .int a), (2, .int b)] := hl
  generalize hQ : MQ below _ _ s _ _ _ = Q0
  refine lv_iconst (v := 0) hx hb dX8_wordAt_0 (by decide) ?_
  refine lv_istore_n (lv' := [(3, .int 0), (0, .ref (y 0)), (1, .int a), (2, .int b)]) hx hb dX8_wordAt_1 rfl hl (by decide) rfl (fun ls hl => ?_)
  refine lv_iconst (v := 0) hx hb dX8_wordAt_2 (by decide) ?_
  refine lv_istore (lv' := [(4, .int 0), (3, .int 0), (0, .ref (y 0)), (1, .int a), (2, .int b)]) hx hb dX8_wordAt_3 hl (by decide) rfl (fun ls hl => ?_)
  have J_8_43 : ∀ (ls : Array Slot), lv_has ls 8 [(0, .ref (y 0)), (1, .int a), (2, .int b), (3, .int 8), (4, .int 43)] → W p l e (headSpec wsX8_wordAt ({ frames := 0, cells := 0, slots := 0, locals := 0 } : Room)).room s m ([.ref (y 0), .int a, .int b] : List Value).toArray below meth c s.heap [] 0 0 Q0 (F0 m 5 ls []) := by
    intro ls hl
    refine lv_iload hx hb dX8_wordAt_5 (lv_at hl 4 rfl) ?_
    refine lv_aload_n hx hb dX8_wordAt_7 rfl (lv_at hl 0 rfl) ?_
    refine va_get (D := D) (ci := 8) (v := .ref (y 17)) (C := RX8) (T := TX8) (N := 52) hx hb hts w_1 hown hK hP 0 rfl rfl 34 (by decide) w_2 (fun _ h9 => h9) rfl dX8_wordAt_8 ?_
    refine va_alen (v := 43) hx hb hK hP 2 1 rfl rfl rfl dX8_wordAt_11 ?_
    refine lv_icmp_ge (tgt := 126) hx hb dX8_wordAt_12 (by decide) (fun _ => ?_) (fun h => absurd (by decide) h)
    refine lv_iconst (v := (-1)) hx hb dX8_wordAt_126 (by decide) ?_
    rw [← hQ]
    exact W.iret (v := (-1)) hx hb hr (fun t ht hW => ⟨_, rfl, Or.inl rfl, ht⟩) (fun q h => nomatch h) dX8_wordAt_127
  have J_7_36 : ∀ (ls : Array Slot), lv_has ls 8 [(0, .ref (y 0)), (1, .int a), (2, .int b), (3, .int 7), (4, .int 36)] → W p l e (headSpec wsX8_wordAt ({ frames := 0, cells := 0, slots := 0, locals := 0 } : Room)).room s m ([.ref (y 0), .int a, .int b] : List Value).toArray below meth c s.heap [] 0 0 Q0 (F0 m 5 ls []) := by
    intro ls hl
    refine lv_iload hx hb dX8_wordAt_5 (lv_at hl 4 rfl) ?_
    refine lv_aload_n hx hb dX8_wordAt_7 rfl (lv_at hl 0 rfl) ?_
    refine va_get (D := D) (ci := 8) (v := .ref (y 17)) (C := RX8) (T := TX8) (N := 52) hx hb hts w_1 hown hK hP 0 rfl rfl 34 (by decide) w_2 (fun _ h9 => h9) rfl dX8_wordAt_8 ?_
    refine va_alen (v := 43) hx hb hK hP 2 1 rfl rfl rfl dX8_wordAt_11 ?_
    refine lv_icmp_ge (tgt := 126) hx hb dX8_wordAt_12 (by decide) (fun h => absurd h (by decide)) (fun _ => ?_)
    refine lv_iconst (v := 0) hx hb dX8_wordAt_15 (by decide) ?_
    refine lv_istore (lv' := [(5, .int 0), (0, .ref (y 0)), (1, .int a), (2, .int b), (3, .int 7), (4, .int 36)]) hx hb dX8_wordAt_16 hl (by decide) rfl (fun ls hl => ?_)
    refine lv_aload_n hx hb dX8_wordAt_18 rfl (lv_at hl 1 rfl) ?_
    refine va_get (D := D) (ci := 8) (v := .ref (y 17)) (C := RX8) (T := TX8) (N := 52) hx hb hts w_1 hown hK hP 0 rfl rfl 34 (by decide) w_2 (fun _ h9 => h9) rfl dX8_wordAt_19 ?_
    refine lv_iload hx hb dX8_wordAt_22 (lv_at hl 5 rfl) ?_
    refine lv_iload hx hb dX8_wordAt_24 (lv_at hl 0 rfl) ?_
    refine sv_iadd (v := 36) hx hb dX8_wordAt_26 (by decide) ?_
    refine sv_iald (v := 112) hx hb hK hP 2 1 rfl rfl (vp_in_iff.mpr (by decide)) (hwf 36 (by decide)) dX8_wordAt_27 ?_
    refine lv_bipush (v := 32) hx hb dX8_wordAt_28 (by decide) ?_
    refine lv_icmp_eq (tgt := 39) hx hb dX8_wordAt_30 (by decide) (fun h => absurd h (by decide)) (fun _ => ?_)
    refine lv_iinc (v := 1) (lv' := [(5, .int 1), (0, .ref (y 0)), (1, .int a), (2, .int b), (3, .int 7), (4, .int 36)]) hx hb dX8_wordAt_33 hl (k := 0) rfl (by decide) (by decide) rfl (fun ls hl => ?_)
    refine lv_goto (tgt := 18) hx hb dX8_wordAt_36 (by decide) ?_
    refine lv_aload_n hx hb dX8_wordAt_18 rfl (lv_at hl 1 rfl) ?_
    refine va_get (D := D) (ci := 8) (v := .ref (y 17)) (C := RX8) (T := TX8) (N := 52) hx hb hts w_1 hown hK hP 0 rfl rfl 34 (by decide) w_2 (fun _ h9 => h9) rfl dX8_wordAt_19 ?_
    refine lv_iload hx hb dX8_wordAt_22 (lv_at hl 5 rfl) ?_
    refine lv_iload hx hb dX8_wordAt_24 (lv_at hl 0 rfl) ?_
    refine sv_iadd (v := 37) hx hb dX8_wordAt_26 (by decide) ?_
    refine sv_iald (v := 108) hx hb hK hP 2 1 rfl rfl (vp_in_iff.mpr (by decide)) (hwf 37 (by decide)) dX8_wordAt_27 ?_
    refine lv_bipush (v := 32) hx hb dX8_wordAt_28 (by decide) ?_
    refine lv_icmp_eq (tgt := 39) hx hb dX8_wordAt_30 (by decide) (fun h => absurd h (by decide)) (fun _ => ?_)
    refine lv_iinc (v := 2) (lv' := [(5, .int 2), (0, .ref (y 0)), (1, .int a), (2, .int b), (3, .int 7), (4, .int 36)]) hx hb dX8_wordAt_33 hl (k := 0) rfl (by decide) (by decide) rfl (fun ls hl => ?_)
    refine lv_goto (tgt := 18) hx hb dX8_wordAt_36 (by decide) ?_
    refine lv_aload_n hx hb dX8_wordAt_18 rfl (lv_at hl 1 rfl) ?_
    refine va_get (D := D) (ci := 8) (v := .ref (y 17)) (C := RX8) (T := TX8) (N := 52) hx hb hts w_1 hown hK hP 0 rfl rfl 34 (by decide) w_2 (fun _ h9 => h9) rfl dX8_wordAt_19 ?_
    refine lv_iload hx hb dX8_wordAt_22 (lv_at hl 5 rfl) ?_
    refine lv_iload hx hb dX8_wordAt_24 (lv_at hl 0 rfl) ?_
    refine sv_iadd (v := 38) hx hb dX8_wordAt_26 (by decide) ?_
    refine sv_iald (v := 97) hx hb hK hP 2 1 rfl rfl (vp_in_iff.mpr (by decide)) (hwf 38 (by decide)) dX8_wordAt_27 ?_
    refine lv_bipush (v := 32) hx hb dX8_wordAt_28 (by decide) ?_
    refine lv_icmp_eq (tgt := 39) hx hb dX8_wordAt_30 (by decide) (fun h => absurd h (by decide)) (fun _ => ?_)
    refine lv_iinc (v := 3) (lv' := [(5, .int 3), (0, .ref (y 0)), (1, .int a), (2, .int b), (3, .int 7), (4, .int 36)]) hx hb dX8_wordAt_33 hl (k := 0) rfl (by decide) (by decide) rfl (fun ls hl => ?_)
    refine lv_goto (tgt := 18) hx hb dX8_wordAt_36 (by decide) ?_
    refine lv_aload_n hx hb dX8_wordAt_18 rfl (lv_at hl 1 rfl) ?_
    refine va_get (D := D) (ci := 8) (v := .ref (y 17)) (C := RX8) (T := TX8) (N := 52) hx hb hts w_1 hown hK hP 0 rfl rfl 34 (by decide) w_2 (fun _ h9 => h9) rfl dX8_wordAt_19 ?_
    refine lv_iload hx hb dX8_wordAt_22 (lv_at hl 5 rfl) ?_
    refine lv_iload hx hb dX8_wordAt_24 (lv_at hl 0 rfl) ?_
    refine sv_iadd (v := 39) hx hb dX8_wordAt_26 (by decide) ?_
    refine sv_iald (v := 99) hx hb hK hP 2 1 rfl rfl (vp_in_iff.mpr (by decide)) (hwf 39 (by decide)) dX8_wordAt_27 ?_
    refine lv_bipush (v := 32) hx hb dX8_wordAt_28 (by decide) ?_
    refine lv_icmp_eq (tgt := 39) hx hb dX8_wordAt_30 (by decide) (fun h => absurd h (by decide)) (fun _ => ?_)
    refine lv_iinc (v := 4) (lv' := [(5, .int 4), (0, .ref (y 0)), (1, .int a), (2, .int b), (3, .int 7), (4, .int 36)]) hx hb dX8_wordAt_33 hl (k := 0) rfl (by decide) (by decide) rfl (fun ls hl => ?_)
    refine lv_goto (tgt := 18) hx hb dX8_wordAt_36 (by decide) ?_
    refine lv_aload_n hx hb dX8_wordAt_18 rfl (lv_at hl 1 rfl) ?_
    refine va_get (D := D) (ci := 8) (v := .ref (y 17)) (C := RX8) (T := TX8) (N := 52) hx hb hts w_1 hown hK hP 0 rfl rfl 34 (by decide) w_2 (fun _ h9 => h9) rfl dX8_wordAt_19 ?_
    refine lv_iload hx hb dX8_wordAt_22 (lv_at hl 5 rfl) ?_
    refine lv_iload hx hb dX8_wordAt_24 (lv_at hl 0 rfl) ?_
    refine sv_iadd (v := 40) hx hb dX8_wordAt_26 (by decide) ?_
    refine sv_iald (v := 101) hx hb hK hP 2 1 rfl rfl (vp_in_iff.mpr (by decide)) (hwf 40 (by decide)) dX8_wordAt_27 ?_
    refine lv_bipush (v := 32) hx hb dX8_wordAt_28 (by decide) ?_
    refine lv_icmp_eq (tgt := 39) hx hb dX8_wordAt_30 (by decide) (fun h => absurd h (by decide)) (fun _ => ?_)
    refine lv_iinc (v := 5) (lv' := [(5, .int 5), (0, .ref (y 0)), (1, .int a), (2, .int b), (3, .int 7), (4, .int 36)]) hx hb dX8_wordAt_33 hl (k := 0) rfl (by decide) (by decide) rfl (fun ls hl => ?_)
    refine lv_goto (tgt := 18) hx hb dX8_wordAt_36 (by decide) ?_
    refine lv_aload_n hx hb dX8_wordAt_18 rfl (lv_at hl 1 rfl) ?_
    refine va_get (D := D) (ci := 8) (v := .ref (y 17)) (C := RX8) (T := TX8) (N := 52) hx hb hts w_1 hown hK hP 0 rfl rfl 34 (by decide) w_2 (fun _ h9 => h9) rfl dX8_wordAt_19 ?_
    refine lv_iload hx hb dX8_wordAt_22 (lv_at hl 5 rfl) ?_
    refine lv_iload hx hb dX8_wordAt_24 (lv_at hl 0 rfl) ?_
    refine sv_iadd (v := 41) hx hb dX8_wordAt_26 (by decide) ?_
    refine sv_iald (v := 115) hx hb hK hP 2 1 rfl rfl (vp_in_iff.mpr (by decide)) (hwf 41 (by decide)) dX8_wordAt_27 ?_
    refine lv_bipush (v := 32) hx hb dX8_wordAt_28 (by decide) ?_
    refine lv_icmp_eq (tgt := 39) hx hb dX8_wordAt_30 (by decide) (fun h => absurd h (by decide)) (fun _ => ?_)
    refine lv_iinc (v := 6) (lv' := [(5, .int 6), (0, .ref (y 0)), (1, .int a), (2, .int b), (3, .int 7), (4, .int 36)]) hx hb dX8_wordAt_33 hl (k := 0) rfl (by decide) (by decide) rfl (fun ls hl => ?_)
    refine lv_goto (tgt := 18) hx hb dX8_wordAt_36 (by decide) ?_
    refine lv_aload_n hx hb dX8_wordAt_18 rfl (lv_at hl 1 rfl) ?_
    refine va_get (D := D) (ci := 8) (v := .ref (y 17)) (C := RX8) (T := TX8) (N := 52) hx hb hts w_1 hown hK hP 0 rfl rfl 34 (by decide) w_2 (fun _ h9 => h9) rfl dX8_wordAt_19 ?_
    refine lv_iload hx hb dX8_wordAt_22 (lv_at hl 5 rfl) ?_
    refine lv_iload hx hb dX8_wordAt_24 (lv_at hl 0 rfl) ?_
    refine sv_iadd (v := 42) hx hb dX8_wordAt_26 (by decide) ?_
    refine sv_iald (v := 32) hx hb hK hP 2 1 rfl rfl (vp_in_iff.mpr (by decide)) (hwf 42 (by decide)) dX8_wordAt_27 ?_
    refine lv_bipush (v := 32) hx hb dX8_wordAt_28 (by decide) ?_
    refine lv_icmp_eq (tgt := 39) hx hb dX8_wordAt_30 (by decide) (fun _ => ?_) (fun h => absurd (by decide) h)
    refine lv_iload hx hb dX8_wordAt_39 (lv_at hl 0 rfl) ?_
    refine lv_iload_n hx hb dX8_wordAt_41 rfl (lv_at hl 3 rfl) ?_
    refine lv_iload_n hx hb dX8_wordAt_42 rfl (lv_at hl 2 rfl) ?_
    refine sv_isub (v := b - a) hx hb dX8_wordAt_43 rfl ?_
    refine lv_topi (fun v_1 ev_1 => ?_)
    refine lv_icmp_ne (tgt := 51) hx hb dX8_wordAt_44 (by decide) (fun c_44 => ?_) (fun c_44 => ?_)
    ·
      refine lv_iconst (v := 0) hx hb dX8_wordAt_51 (by decide) ?_
      refine lv_istore (lv' := [(6, .int 0), (5, .int 6), (0, .ref (y 0)), (1, .int a), (2, .int b), (3, .int 7), (4, .int 36)]) hx hb dX8_wordAt_52 hl (by decide) rfl (fun ls hl => ?_)
      refine lv_iconst (v := 0) hx hb dX8_wordAt_54 (by decide) ?_
      refine lv_istore (lv' := [(7, .int 0), (6, .int 0), (5, .int 6), (0, .ref (y 0)), (1, .int a), (2, .int b), (3, .int 7), (4, .int 36)]) hx hb dX8_wordAt_55 hl (by decide) rfl (fun ls hl => ?_)
      refine lv_iload hx hb dX8_wordAt_57 (lv_at hl 0 rfl) ?_
      refine lv_iload hx hb dX8_wordAt_59 (lv_at hl 2 rfl) ?_
      refine lv_icmp_ge (tgt := 104) hx hb dX8_wordAt_61 (by decide) (fun h => absurd h (by decide)) (fun _ => ?_)
      refine lv_iload hx hb dX8_wordAt_64 (lv_at hl 1 rfl) ?_
      refine lv_if_eq (tgt := 104) hx hb dX8_wordAt_66 (by decide) (fun _ => ?_) (fun h => absurd (by decide) h)
      refine lv_iload hx hb dX8_wordAt_104 (lv_at hl 1 rfl) ?_
      refine lv_if_eq (tgt := 111) hx hb dX8_wordAt_106 (by decide) (fun _ => ?_) (fun h => absurd (by decide) h)
      refine lv_iload hx hb dX8_wordAt_111 (lv_at hl 7 rfl) ?_
      refine lv_iload hx hb dX8_wordAt_113 (lv_at hl 2 rfl) ?_
      refine lv_iconst (v := 1) hx hb dX8_wordAt_115 (by decide) ?_
      refine sv_iadd (v := 7) hx hb dX8_wordAt_116 (by decide) ?_
      refine sv_iadd (v := 43) hx hb dX8_wordAt_117 (by decide) ?_
      refine lv_istore (lv' := [(4, .int 43), (7, .int 0), (6, .int 0), (5, .int 6), (0, .ref (y 0)), (1, .int a), (2, .int b), (3, .int 7)]) hx hb dX8_wordAt_118 hl (by decide) rfl (fun ls hl => ?_)
      refine lv_iinc (v := 8) (lv' := [(3, .int 8), (4, .int 43), (7, .int 0), (6, .int 0), (5, .int 6), (0, .ref (y 0)), (1, .int a), (2, .int b)]) hx hb dX8_wordAt_120 hl (k := 7) rfl (by decide) (by decide) rfl (fun ls hl => ?_)
      refine lv_goto (tgt := 5) hx hb dX8_wordAt_123 (by decide) ?_
      exact J_8_43 ls (lv_sub hl [5, 6, 7, 0, 1] rfl)
    ·
      refine lv_iconst (v := 1) hx hb dX8_wordAt_47 (by decide) ?_
      refine lv_goto (tgt := 52) hx hb dX8_wordAt_48 (by decide) ?_
      refine lv_istore (lv' := [(6, .int 1), (5, .int 6), (0, .ref (y 0)), (1, .int a), (2, .int b), (3, .int 7), (4, .int 36)]) hx hb dX8_wordAt_52 hl (by decide) rfl (fun ls hl => ?_)
      refine lv_iconst (v := 0) hx hb dX8_wordAt_54 (by decide) ?_
      refine lv_istore (lv' := [(7, .int 0), (6, .int 1), (5, .int 6), (0, .ref (y 0)), (1, .int a), (2, .int b), (3, .int 7), (4, .int 36)]) hx hb dX8_wordAt_55 hl (by decide) rfl (fun ls hl => ?_)
      refine lv_iload hx hb dX8_wordAt_57 (lv_at hl 0 rfl) ?_
      refine lv_iload hx hb dX8_wordAt_59 (lv_at hl 2 rfl) ?_
      refine lv_icmp_ge (tgt := 104) hx hb dX8_wordAt_61 (by decide) (fun h => absurd h (by decide)) (fun _ => ?_)
      refine lv_iload hx hb dX8_wordAt_64 (lv_at hl 1 rfl) ?_
      refine lv_if_eq (tgt := 104) hx hb dX8_wordAt_66 (by decide) (fun h => absurd h (by decide)) (fun _ => ?_)
      refine lv_aload_n hx hb dX8_wordAt_69 rfl (lv_at hl 3 rfl) ?_
      refine va_get (D := D) (ci := 8) (v := .ref (y 17)) (C := RX8) (T := TX8) (N := 52) hx hb hts w_1 hown hK hP 0 rfl rfl 34 (by decide) w_2 (fun _ h9 => h9) rfl dX8_wordAt_70 ?_
      refine lv_iload hx hb dX8_wordAt_73 (lv_at hl 7 rfl) ?_
      refine lv_iload hx hb dX8_wordAt_75 (lv_at hl 0 rfl) ?_
      refine sv_iadd (v := 36) hx hb dX8_wordAt_77 (by decide) ?_
      refine sv_iald (v := 112) hx hb hK hP 2 1 rfl rfl (vp_in_iff.mpr (by decide)) (hwf 36 (by decide)) dX8_wordAt_78 ?_
      refine lv_aload_n hx hb dX8_wordAt_79 rfl (lv_at hl 3 rfl) ?_
      refine va_get (D := D) (ci := 8) (v := .ref (y 1)) (C := RX8) (T := TX8) (N := 52) hx hb hts w_1 hown hK hP 0 rfl rfl 0 (by decide) w_3 (fun _ h9 => h9) rfl dX8_wordAt_80 ?_
      refine lv_iload_n hx hb dX8_wordAt_83 rfl (lv_at hl 4 rfl) ?_
      refine lv_iload hx hb dX8_wordAt_84 (lv_at hl 0 rfl) ?_
      refine sv_iadd (v := a + 0) hx hb dX8_wordAt_86 rfl ?_
      refine lv_topi (fun v_2 ev_2 => ?_)
      refine sv_iald (v := m_tape v_2.toNatClampNeg) hx hb hK hP 1 1 rfl rfl (by rw [ev_2]; exact wa_in h0 hab hb9 (c_44.trans ev_1) (by decide)) rfl dX8_wordAt_87 ?_
      refine lv_topi (fun v_3 ev_3 => ?_)
      refine lv_icmp_ne (tgt := 95) hx hb dX8_wordAt_88 (by decide) (fun c_88 => ?_) (fun c_88 => ?_)
      ·
        refine lv_iconst (v := 0) hx hb dX8_wordAt_95 (by decide) ?_
        refine lv_istore (lv' := [(6, .int 0), (7, .int 0), (5, .int 6), (0, .ref (y 0)), (1, .int a), (2, .int b), (3, .int 7), (4, .int 36)]) hx hb dX8_wordAt_96 hl (by decide) rfl (fun ls hl => ?_)
        refine lv_iinc (v := 1) (lv' := [(7, .int 1), (6, .int 0), (5, .int 6), (0, .ref (y 0)), (1, .int a), (2, .int b), (3, .int 7), (4, .int 36)]) hx hb dX8_wordAt_98 hl (k := 1) rfl (by decide) (by decide) rfl (fun ls hl => ?_)
        refine lv_goto (tgt := 57) hx hb dX8_wordAt_101 (by decide) ?_
        refine lv_iload hx hb dX8_wordAt_57 (lv_at hl 0 rfl) ?_
        refine lv_iload hx hb dX8_wordAt_59 (lv_at hl 2 rfl) ?_
        refine lv_icmp_ge (tgt := 104) hx hb dX8_wordAt_61 (by decide) (fun h => absurd h (by decide)) (fun _ => ?_)
        refine lv_iload hx hb dX8_wordAt_64 (lv_at hl 1 rfl) ?_
        refine lv_if_eq (tgt := 104) hx hb dX8_wordAt_66 (by decide) (fun _ => ?_) (fun h => absurd (by decide) h)
        refine lv_iload hx hb dX8_wordAt_104 (lv_at hl 1 rfl) ?_
        refine lv_if_eq (tgt := 111) hx hb dX8_wordAt_106 (by decide) (fun _ => ?_) (fun h => absurd (by decide) h)
        refine lv_iload hx hb dX8_wordAt_111 (lv_at hl 7 rfl) ?_
        refine lv_iload hx hb dX8_wordAt_113 (lv_at hl 2 rfl) ?_
        refine lv_iconst (v := 1) hx hb dX8_wordAt_115 (by decide) ?_
        refine sv_iadd (v := 7) hx hb dX8_wordAt_116 (by decide) ?_
        refine sv_iadd (v := 43) hx hb dX8_wordAt_117 (by decide) ?_
        refine lv_istore (lv' := [(4, .int 43), (7, .int 1), (6, .int 0), (5, .int 6), (0, .ref (y 0)), (1, .int a), (2, .int b), (3, .int 7)]) hx hb dX8_wordAt_118 hl (by decide) rfl (fun ls hl => ?_)
        refine lv_iinc (v := 8) (lv' := [(3, .int 8), (4, .int 43), (7, .int 1), (6, .int 0), (5, .int 6), (0, .ref (y 0)), (1, .int a), (2, .int b)]) hx hb dX8_wordAt_120 hl (k := 7) rfl (by decide) (by decide) rfl (fun ls hl => ?_)
        refine lv_goto (tgt := 5) hx hb dX8_wordAt_123 (by decide) ?_
        exact J_8_43 ls (lv_sub hl [5, 6, 7, 0, 1] rfl)
      ·
        refine lv_iconst (v := 1) hx hb dX8_wordAt_91 (by decide) ?_
        refine lv_goto (tgt := 96) hx hb dX8_wordAt_92 (by decide) ?_
        refine lv_istore (lv' := [(6, .int 1), (7, .int 0), (5, .int 6), (0, .ref (y 0)), (1, .int a), (2, .int b), (3, .int 7), (4, .int 36)]) hx hb dX8_wordAt_96 hl (by decide) rfl (fun ls hl => ?_)
        refine lv_iinc (v := 1) (lv' := [(7, .int 1), (6, .int 1), (5, .int 6), (0, .ref (y 0)), (1, .int a), (2, .int b), (3, .int 7), (4, .int 36)]) hx hb dX8_wordAt_98 hl (k := 1) rfl (by decide) (by decide) rfl (fun ls hl => ?_)
        refine lv_goto (tgt := 57) hx hb dX8_wordAt_101 (by decide) ?_
        refine lv_iload hx hb dX8_wordAt_57 (lv_at hl 0 rfl) ?_
        refine lv_iload hx hb dX8_wordAt_59 (lv_at hl 2 rfl) ?_
        refine lv_icmp_ge (tgt := 104) hx hb dX8_wordAt_61 (by decide) (fun h => absurd h (by decide)) (fun _ => ?_)
        refine lv_iload hx hb dX8_wordAt_64 (lv_at hl 1 rfl) ?_
        refine lv_if_eq (tgt := 104) hx hb dX8_wordAt_66 (by decide) (fun h => absurd h (by decide)) (fun _ => ?_)
        refine lv_aload_n hx hb dX8_wordAt_69 rfl (lv_at hl 3 rfl) ?_
        refine va_get (D := D) (ci := 8) (v := .ref (y 17)) (C := RX8) (T := TX8) (N := 52) hx hb hts w_1 hown hK hP 0 rfl rfl 34 (by decide) w_2 (fun _ h9 => h9) rfl dX8_wordAt_70 ?_
        refine lv_iload hx hb dX8_wordAt_73 (lv_at hl 7 rfl) ?_
        refine lv_iload hx hb dX8_wordAt_75 (lv_at hl 0 rfl) ?_
        refine sv_iadd (v := 37) hx hb dX8_wordAt_77 (by decide) ?_
        refine sv_iald (v := 108) hx hb hK hP 2 1 rfl rfl (vp_in_iff.mpr (by decide)) (hwf 37 (by decide)) dX8_wordAt_78 ?_
        refine lv_aload_n hx hb dX8_wordAt_79 rfl (lv_at hl 3 rfl) ?_
        refine va_get (D := D) (ci := 8) (v := .ref (y 1)) (C := RX8) (T := TX8) (N := 52) hx hb hts w_1 hown hK hP 0 rfl rfl 0 (by decide) w_3 (fun _ h9 => h9) rfl dX8_wordAt_80 ?_
        refine lv_iload_n hx hb dX8_wordAt_83 rfl (lv_at hl 4 rfl) ?_
        refine lv_iload hx hb dX8_wordAt_84 (lv_at hl 0 rfl) ?_
        refine sv_iadd (v := a + 1) hx hb dX8_wordAt_86 rfl ?_
        refine sv_iald (v := m_tape (a + 1).toNatClampNeg) hx hb hK hP 1 1 rfl rfl (wa_in h0 hab hb9 (c_44.trans ev_1) (by decide)) rfl dX8_wordAt_87 ?_
        refine lv_topi (fun v_4 ev_4 => ?_)
        refine lv_icmp_ne (tgt := 95) hx hb dX8_wordAt_88 (by decide) (fun c_88 => ?_) (fun c_88 => ?_)
        ·
          refine lv_iconst (v := 0) hx hb dX8_wordAt_95 (by decide) ?_
          refine lv_istore (lv' := [(6, .int 0), (7, .int 1), (5, .int 6), (0, .ref (y 0)), (1, .int a), (2, .int b), (3, .int 7), (4, .int 36)]) hx hb dX8_wordAt_96 hl (by decide) rfl (fun ls hl => ?_)
          refine lv_iinc (v := 2) (lv' := [(7, .int 2), (6, .int 0), (5, .int 6), (0, .ref (y 0)), (1, .int a), (2, .int b), (3, .int 7), (4, .int 36)]) hx hb dX8_wordAt_98 hl (k := 1) rfl (by decide) (by decide) rfl (fun ls hl => ?_)
          refine lv_goto (tgt := 57) hx hb dX8_wordAt_101 (by decide) ?_
          refine lv_iload hx hb dX8_wordAt_57 (lv_at hl 0 rfl) ?_
          refine lv_iload hx hb dX8_wordAt_59 (lv_at hl 2 rfl) ?_
          refine lv_icmp_ge (tgt := 104) hx hb dX8_wordAt_61 (by decide) (fun h => absurd h (by decide)) (fun _ => ?_)
          refine lv_iload hx hb dX8_wordAt_64 (lv_at hl 1 rfl) ?_
          refine lv_if_eq (tgt := 104) hx hb dX8_wordAt_66 (by decide) (fun _ => ?_) (fun h => absurd (by decide) h)
          refine lv_iload hx hb dX8_wordAt_104 (lv_at hl 1 rfl) ?_
          refine lv_if_eq (tgt := 111) hx hb dX8_wordAt_106 (by decide) (fun _ => ?_) (fun h => absurd (by decide) h)
          refine lv_iload hx hb dX8_wordAt_111 (lv_at hl 7 rfl) ?_
          refine lv_iload hx hb dX8_wordAt_113 (lv_at hl 2 rfl) ?_
          refine lv_iconst (v := 1) hx hb dX8_wordAt_115 (by decide) ?_
          refine sv_iadd (v := 7) hx hb dX8_wordAt_116 (by decide) ?_
          refine sv_iadd (v := 43) hx hb dX8_wordAt_117 (by decide) ?_
          refine lv_istore (lv' := [(4, .int 43), (7, .int 2), (6, .int 0), (5, .int 6), (0, .ref (y 0)), (1, .int a), (2, .int b), (3, .int 7)]) hx hb dX8_wordAt_118 hl (by decide) rfl (fun ls hl => ?_)
          refine lv_iinc (v := 8) (lv' := [(3, .int 8), (4, .int 43), (7, .int 2), (6, .int 0), (5, .int 6), (0, .ref (y 0)), (1, .int a), (2, .int b)]) hx hb dX8_wordAt_120 hl (k := 7) rfl (by decide) (by decide) rfl (fun ls hl => ?_)
          refine lv_goto (tgt := 5) hx hb dX8_wordAt_123 (by decide) ?_
          exact J_8_43 ls (lv_sub hl [5, 6, 7, 0, 1] rfl)
        ·
          refine lv_iconst (v := 1) hx hb dX8_wordAt_91 (by decide) ?_
          refine lv_goto (tgt := 96) hx hb dX8_wordAt_92 (by decide) ?_
          refine lv_istore (lv' := [(6, .int 1), (7, .int 1), (5, .int 6), (0, .ref (y 0)), (1, .int a), (2, .int b), (3, .int 7), (4, .int 36)]) hx hb dX8_wordAt_96 hl (by decide) rfl (fun ls hl => ?_)
          refine lv_iinc (v := 2) (lv' := [(7, .int 2), (6, .int 1), (5, .int 6), (0, .ref (y 0)), (1, .int a), (2, .int b), (3, .int 7), (4, .int 36)]) hx hb dX8_wordAt_98 hl (k := 1) rfl (by decide) (by decide) rfl (fun ls hl => ?_)
          refine lv_goto (tgt := 57) hx hb dX8_wordAt_101 (by decide) ?_
          refine lv_iload hx hb dX8_wordAt_57 (lv_at hl 0 rfl) ?_
          refine lv_iload hx hb dX8_wordAt_59 (lv_at hl 2 rfl) ?_
          refine lv_icmp_ge (tgt := 104) hx hb dX8_wordAt_61 (by decide) (fun h => absurd h (by decide)) (fun _ => ?_)
          refine lv_iload hx hb dX8_wordAt_64 (lv_at hl 1 rfl) ?_
          refine lv_if_eq (tgt := 104) hx hb dX8_wordAt_66 (by decide) (fun h => absurd h (by decide)) (fun _ => ?_)
          refine lv_aload_n hx hb dX8_wordAt_69 rfl (lv_at hl 3 rfl) ?_
          refine va_get (D := D) (ci := 8) (v := .ref (y 17)) (C := RX8) (T := TX8) (N := 52) hx hb hts w_1 hown hK hP 0 rfl rfl 34 (by decide) w_2 (fun _ h9 => h9) rfl dX8_wordAt_70 ?_
          refine lv_iload hx hb dX8_wordAt_73 (lv_at hl 7 rfl) ?_
          refine lv_iload hx hb dX8_wordAt_75 (lv_at hl 0 rfl) ?_
          refine sv_iadd (v := 38) hx hb dX8_wordAt_77 (by decide) ?_
          refine sv_iald (v := 97) hx hb hK hP 2 1 rfl rfl (vp_in_iff.mpr (by decide)) (hwf 38 (by decide)) dX8_wordAt_78 ?_
          refine lv_aload_n hx hb dX8_wordAt_79 rfl (lv_at hl 3 rfl) ?_
          refine va_get (D := D) (ci := 8) (v := .ref (y 1)) (C := RX8) (T := TX8) (N := 52) hx hb hts w_1 hown hK hP 0 rfl rfl 0 (by decide) w_3 (fun _ h9 => h9) rfl dX8_wordAt_80 ?_
          refine lv_iload_n hx hb dX8_wordAt_83 rfl (lv_at hl 4 rfl) ?_
          refine lv_iload hx hb dX8_wordAt_84 (lv_at hl 0 rfl) ?_
          refine sv_iadd (v := a + 2) hx hb dX8_wordAt_86 rfl ?_
          refine lv_topi (fun v_5 ev_5 => ?_)
          refine sv_iald (v := m_tape v_5.toNatClampNeg) hx hb hK hP 1 1 rfl rfl (by rw [ev_5]; exact wa_in h0 hab hb9 (c_44.trans ev_1) (by decide)) rfl dX8_wordAt_87 ?_
          refine lv_topi (fun v_6 ev_6 => ?_)
          refine lv_icmp_ne (tgt := 95) hx hb dX8_wordAt_88 (by decide) (fun c_88 => ?_) (fun c_88 => ?_)
          ·
            refine lv_iconst (v := 0) hx hb dX8_wordAt_95 (by decide) ?_
            refine lv_istore (lv' := [(6, .int 0), (7, .int 2), (5, .int 6), (0, .ref (y 0)), (1, .int a), (2, .int b), (3, .int 7), (4, .int 36)]) hx hb dX8_wordAt_96 hl (by decide) rfl (fun ls hl => ?_)
            refine lv_iinc (v := 3) (lv' := [(7, .int 3), (6, .int 0), (5, .int 6), (0, .ref (y 0)), (1, .int a), (2, .int b), (3, .int 7), (4, .int 36)]) hx hb dX8_wordAt_98 hl (k := 1) rfl (by decide) (by decide) rfl (fun ls hl => ?_)
            refine lv_goto (tgt := 57) hx hb dX8_wordAt_101 (by decide) ?_
            refine lv_iload hx hb dX8_wordAt_57 (lv_at hl 0 rfl) ?_
            refine lv_iload hx hb dX8_wordAt_59 (lv_at hl 2 rfl) ?_
            refine lv_icmp_ge (tgt := 104) hx hb dX8_wordAt_61 (by decide) (fun h => absurd h (by decide)) (fun _ => ?_)
            refine lv_iload hx hb dX8_wordAt_64 (lv_at hl 1 rfl) ?_
            refine lv_if_eq (tgt := 104) hx hb dX8_wordAt_66 (by decide) (fun _ => ?_) (fun h => absurd (by decide) h)
            refine lv_iload hx hb dX8_wordAt_104 (lv_at hl 1 rfl) ?_
            refine lv_if_eq (tgt := 111) hx hb dX8_wordAt_106 (by decide) (fun _ => ?_) (fun h => absurd (by decide) h)
            refine lv_iload hx hb dX8_wordAt_111 (lv_at hl 7 rfl) ?_
            refine lv_iload hx hb dX8_wordAt_113 (lv_at hl 2 rfl) ?_
            refine lv_iconst (v := 1) hx hb dX8_wordAt_115 (by decide) ?_
            refine sv_iadd (v := 7) hx hb dX8_wordAt_116 (by decide) ?_
            refine sv_iadd (v := 43) hx hb dX8_wordAt_117 (by decide) ?_
            refine lv_istore (lv' := [(4, .int 43), (7, .int 3), (6, .int 0), (5, .int 6), (0, .ref (y 0)), (1, .int a), (2, .int b), (3, .int 7)]) hx hb dX8_wordAt_118 hl (by decide) rfl (fun ls hl => ?_)
            refine lv_iinc (v := 8) (lv' := [(3, .int 8), (4, .int 43), (7, .int 3), (6, .int 0), (5, .int 6), (0, .ref (y 0)), (1, .int a), (2, .int b)]) hx hb dX8_wordAt_120 hl (k := 7) rfl (by decide) (by decide) rfl (fun ls hl => ?_)
            refine lv_goto (tgt := 5) hx hb dX8_wordAt_123 (by decide) ?_
            exact J_8_43 ls (lv_sub hl [5, 6, 7, 0, 1] rfl)
          ·
            refine lv_iconst (v := 1) hx hb dX8_wordAt_91 (by decide) ?_
            refine lv_goto (tgt := 96) hx hb dX8_wordAt_92 (by decide) ?_
            refine lv_istore (lv' := [(6, .int 1), (7, .int 2), (5, .int 6), (0, .ref (y 0)), (1, .int a), (2, .int b), (3, .int 7), (4, .int 36)]) hx hb dX8_wordAt_96 hl (by decide) rfl (fun ls hl => ?_)
            refine lv_iinc (v := 3) (lv' := [(7, .int 3), (6, .int 1), (5, .int 6), (0, .ref (y 0)), (1, .int a), (2, .int b), (3, .int 7), (4, .int 36)]) hx hb dX8_wordAt_98 hl (k := 1) rfl (by decide) (by decide) rfl (fun ls hl => ?_)
            refine lv_goto (tgt := 57) hx hb dX8_wordAt_101 (by decide) ?_
            refine lv_iload hx hb dX8_wordAt_57 (lv_at hl 0 rfl) ?_
            refine lv_iload hx hb dX8_wordAt_59 (lv_at hl 2 rfl) ?_
            refine lv_icmp_ge (tgt := 104) hx hb dX8_wordAt_61 (by decide) (fun h => absurd h (by decide)) (fun _ => ?_)
            refine lv_iload hx hb dX8_wordAt_64 (lv_at hl 1 rfl) ?_
            refine lv_if_eq (tgt := 104) hx hb dX8_wordAt_66 (by decide) (fun h => absurd h (by decide)) (fun _ => ?_)
            refine lv_aload_n hx hb dX8_wordAt_69 rfl (lv_at hl 3 rfl) ?_
            refine va_get (D := D) (ci := 8) (v := .ref (y 17)) (C := RX8) (T := TX8) (N := 52) hx hb hts w_1 hown hK hP 0 rfl rfl 34 (by decide) w_2 (fun _ h9 => h9) rfl dX8_wordAt_70 ?_
            refine lv_iload hx hb dX8_wordAt_73 (lv_at hl 7 rfl) ?_
            refine lv_iload hx hb dX8_wordAt_75 (lv_at hl 0 rfl) ?_
            refine sv_iadd (v := 39) hx hb dX8_wordAt_77 (by decide) ?_
            refine sv_iald (v := 99) hx hb hK hP 2 1 rfl rfl (vp_in_iff.mpr (by decide)) (hwf 39 (by decide)) dX8_wordAt_78 ?_
            refine lv_aload_n hx hb dX8_wordAt_79 rfl (lv_at hl 3 rfl) ?_
            refine va_get (D := D) (ci := 8) (v := .ref (y 1)) (C := RX8) (T := TX8) (N := 52) hx hb hts w_1 hown hK hP 0 rfl rfl 0 (by decide) w_3 (fun _ h9 => h9) rfl dX8_wordAt_80 ?_
            refine lv_iload_n hx hb dX8_wordAt_83 rfl (lv_at hl 4 rfl) ?_
            refine lv_iload hx hb dX8_wordAt_84 (lv_at hl 0 rfl) ?_
            refine sv_iadd (v := a + 3) hx hb dX8_wordAt_86 rfl ?_
            refine lv_topi (fun v_7 ev_7 => ?_)
            refine sv_iald (v := m_tape v_7.toNatClampNeg) hx hb hK hP 1 1 rfl rfl (by rw [ev_7]; exact wa_in h0 hab hb9 (c_44.trans ev_1) (by decide)) rfl dX8_wordAt_87 ?_
            refine lv_topi (fun v_8 ev_8 => ?_)
            refine lv_icmp_ne (tgt := 95) hx hb dX8_wordAt_88 (by decide) (fun c_88 => ?_) (fun c_88 => ?_)
            ·
              refine lv_iconst (v := 0) hx hb dX8_wordAt_95 (by decide) ?_
              refine lv_istore (lv' := [(6, .int 0), (7, .int 3), (5, .int 6), (0, .ref (y 0)), (1, .int a), (2, .int b), (3, .int 7), (4, .int 36)]) hx hb dX8_wordAt_96 hl (by decide) rfl (fun ls hl => ?_)
              refine lv_iinc (v := 4) (lv' := [(7, .int 4), (6, .int 0), (5, .int 6), (0, .ref (y 0)), (1, .int a), (2, .int b), (3, .int 7), (4, .int 36)]) hx hb dX8_wordAt_98 hl (k := 1) rfl (by decide) (by decide) rfl (fun ls hl => ?_)
              refine lv_goto (tgt := 57) hx hb dX8_wordAt_101 (by decide) ?_
              refine lv_iload hx hb dX8_wordAt_57 (lv_at hl 0 rfl) ?_
              refine lv_iload hx hb dX8_wordAt_59 (lv_at hl 2 rfl) ?_
              refine lv_icmp_ge (tgt := 104) hx hb dX8_wordAt_61 (by decide) (fun h => absurd h (by decide)) (fun _ => ?_)
              refine lv_iload hx hb dX8_wordAt_64 (lv_at hl 1 rfl) ?_
              refine lv_if_eq (tgt := 104) hx hb dX8_wordAt_66 (by decide) (fun _ => ?_) (fun h => absurd (by decide) h)
              refine lv_iload hx hb dX8_wordAt_104 (lv_at hl 1 rfl) ?_
              refine lv_if_eq (tgt := 111) hx hb dX8_wordAt_106 (by decide) (fun _ => ?_) (fun h => absurd (by decide) h)
              refine lv_iload hx hb dX8_wordAt_111 (lv_at hl 7 rfl) ?_
              refine lv_iload hx hb dX8_wordAt_113 (lv_at hl 2 rfl) ?_
              refine lv_iconst (v := 1) hx hb dX8_wordAt_115 (by decide) ?_
              refine sv_iadd (v := 7) hx hb dX8_wordAt_116 (by decide) ?_
              refine sv_iadd (v := 43) hx hb dX8_wordAt_117 (by decide) ?_
              refine lv_istore (lv' := [(4, .int 43), (7, .int 4), (6, .int 0), (5, .int 6), (0, .ref (y 0)), (1, .int a), (2, .int b), (3, .int 7)]) hx hb dX8_wordAt_118 hl (by decide) rfl (fun ls hl => ?_)
              refine lv_iinc (v := 8) (lv' := [(3, .int 8), (4, .int 43), (7, .int 4), (6, .int 0), (5, .int 6), (0, .ref (y 0)), (1, .int a), (2, .int b)]) hx hb dX8_wordAt_120 hl (k := 7) rfl (by decide) (by decide) rfl (fun ls hl => ?_)
              refine lv_goto (tgt := 5) hx hb dX8_wordAt_123 (by decide) ?_
              exact J_8_43 ls (lv_sub hl [5, 6, 7, 0, 1] rfl)
            ·
              refine lv_iconst (v := 1) hx hb dX8_wordAt_91 (by decide) ?_
              refine lv_goto (tgt := 96) hx hb dX8_wordAt_92 (by decide) ?_
              refine lv_istore (lv' := [(6, .int 1), (7, .int 3), (5, .int 6), (0, .ref (y 0)), (1, .int a), (2, .int b), (3, .int 7), (4, .int 36)]) hx hb dX8_wordAt_96 hl (by decide) rfl (fun ls hl => ?_)
              refine lv_iinc (v := 4) (lv' := [(7, .int 4), (6, .int 1), (5, .int 6), (0, .ref (y 0)), (1, .int a), (2, .int b), (3, .int 7), (4, .int 36)]) hx hb dX8_wordAt_98 hl (k := 1) rfl (by decide) (by decide) rfl (fun ls hl => ?_)
              refine lv_goto (tgt := 57) hx hb dX8_wordAt_101 (by decide) ?_
              refine lv_iload hx hb dX8_wordAt_57 (lv_at hl 0 rfl) ?_
              refine lv_iload hx hb dX8_wordAt_59 (lv_at hl 2 rfl) ?_
              refine lv_icmp_ge (tgt := 104) hx hb dX8_wordAt_61 (by decide) (fun h => absurd h (by decide)) (fun _ => ?_)
              refine lv_iload hx hb dX8_wordAt_64 (lv_at hl 1 rfl) ?_
              refine lv_if_eq (tgt := 104) hx hb dX8_wordAt_66 (by decide) (fun h => absurd h (by decide)) (fun _ => ?_)
              refine lv_aload_n hx hb dX8_wordAt_69 rfl (lv_at hl 3 rfl) ?_
              refine va_get (D := D) (ci := 8) (v := .ref (y 17)) (C := RX8) (T := TX8) (N := 52) hx hb hts w_1 hown hK hP 0 rfl rfl 34 (by decide) w_2 (fun _ h9 => h9) rfl dX8_wordAt_70 ?_
              refine lv_iload hx hb dX8_wordAt_73 (lv_at hl 7 rfl) ?_
              refine lv_iload hx hb dX8_wordAt_75 (lv_at hl 0 rfl) ?_
              refine sv_iadd (v := 40) hx hb dX8_wordAt_77 (by decide) ?_
              refine sv_iald (v := 101) hx hb hK hP 2 1 rfl rfl (vp_in_iff.mpr (by decide)) (hwf 40 (by decide)) dX8_wordAt_78 ?_
              refine lv_aload_n hx hb dX8_wordAt_79 rfl (lv_at hl 3 rfl) ?_
              refine va_get (D := D) (ci := 8) (v := .ref (y 1)) (C := RX8) (T := TX8) (N := 52) hx hb hts w_1 hown hK hP 0 rfl rfl 0 (by decide) w_3 (fun _ h9 => h9) rfl dX8_wordAt_80 ?_
              refine lv_iload_n hx hb dX8_wordAt_83 rfl (lv_at hl 4 rfl) ?_
              refine lv_iload hx hb dX8_wordAt_84 (lv_at hl 0 rfl) ?_
              refine sv_iadd (v := a + 4) hx hb dX8_wordAt_86 rfl ?_
              refine lv_topi (fun v_9 ev_9 => ?_)
              refine sv_iald (v := m_tape v_9.toNatClampNeg) hx hb hK hP 1 1 rfl rfl (by rw [ev_9]; exact wa_in h0 hab hb9 (c_44.trans ev_1) (by decide)) rfl dX8_wordAt_87 ?_
              refine lv_topi (fun v_10 ev_10 => ?_)
              refine lv_icmp_ne (tgt := 95) hx hb dX8_wordAt_88 (by decide) (fun c_88 => ?_) (fun c_88 => ?_)
              ·
                refine lv_iconst (v := 0) hx hb dX8_wordAt_95 (by decide) ?_
                refine lv_istore (lv' := [(6, .int 0), (7, .int 4), (5, .int 6), (0, .ref (y 0)), (1, .int a), (2, .int b), (3, .int 7), (4, .int 36)]) hx hb dX8_wordAt_96 hl (by decide) rfl (fun ls hl => ?_)
                refine lv_iinc (v := 5) (lv' := [(7, .int 5), (6, .int 0), (5, .int 6), (0, .ref (y 0)), (1, .int a), (2, .int b), (3, .int 7), (4, .int 36)]) hx hb dX8_wordAt_98 hl (k := 1) rfl (by decide) (by decide) rfl (fun ls hl => ?_)
                refine lv_goto (tgt := 57) hx hb dX8_wordAt_101 (by decide) ?_
                refine lv_iload hx hb dX8_wordAt_57 (lv_at hl 0 rfl) ?_
                refine lv_iload hx hb dX8_wordAt_59 (lv_at hl 2 rfl) ?_
                refine lv_icmp_ge (tgt := 104) hx hb dX8_wordAt_61 (by decide) (fun h => absurd h (by decide)) (fun _ => ?_)
                refine lv_iload hx hb dX8_wordAt_64 (lv_at hl 1 rfl) ?_
                refine lv_if_eq (tgt := 104) hx hb dX8_wordAt_66 (by decide) (fun _ => ?_) (fun h => absurd (by decide) h)
                refine lv_iload hx hb dX8_wordAt_104 (lv_at hl 1 rfl) ?_
                refine lv_if_eq (tgt := 111) hx hb dX8_wordAt_106 (by decide) (fun _ => ?_) (fun h => absurd (by decide) h)
                refine lv_iload hx hb dX8_wordAt_111 (lv_at hl 7 rfl) ?_
                refine lv_iload hx hb dX8_wordAt_113 (lv_at hl 2 rfl) ?_
                refine lv_iconst (v := 1) hx hb dX8_wordAt_115 (by decide) ?_
                refine sv_iadd (v := 7) hx hb dX8_wordAt_116 (by decide) ?_
                refine sv_iadd (v := 43) hx hb dX8_wordAt_117 (by decide) ?_
                refine lv_istore (lv' := [(4, .int 43), (7, .int 5), (6, .int 0), (5, .int 6), (0, .ref (y 0)), (1, .int a), (2, .int b), (3, .int 7)]) hx hb dX8_wordAt_118 hl (by decide) rfl (fun ls hl => ?_)
                refine lv_iinc (v := 8) (lv' := [(3, .int 8), (4, .int 43), (7, .int 5), (6, .int 0), (5, .int 6), (0, .ref (y 0)), (1, .int a), (2, .int b)]) hx hb dX8_wordAt_120 hl (k := 7) rfl (by decide) (by decide) rfl (fun ls hl => ?_)
                refine lv_goto (tgt := 5) hx hb dX8_wordAt_123 (by decide) ?_
                exact J_8_43 ls (lv_sub hl [5, 6, 7, 0, 1] rfl)
              ·
                refine lv_iconst (v := 1) hx hb dX8_wordAt_91 (by decide) ?_
                refine lv_goto (tgt := 96) hx hb dX8_wordAt_92 (by decide) ?_
                refine lv_istore (lv' := [(6, .int 1), (7, .int 4), (5, .int 6), (0, .ref (y 0)), (1, .int a), (2, .int b), (3, .int 7), (4, .int 36)]) hx hb dX8_wordAt_96 hl (by decide) rfl (fun ls hl => ?_)
                refine lv_iinc (v := 5) (lv' := [(7, .int 5), (6, .int 1), (5, .int 6), (0, .ref (y 0)), (1, .int a), (2, .int b), (3, .int 7), (4, .int 36)]) hx hb dX8_wordAt_98 hl (k := 1) rfl (by decide) (by decide) rfl (fun ls hl => ?_)
                refine lv_goto (tgt := 57) hx hb dX8_wordAt_101 (by decide) ?_
                refine lv_iload hx hb dX8_wordAt_57 (lv_at hl 0 rfl) ?_
                refine lv_iload hx hb dX8_wordAt_59 (lv_at hl 2 rfl) ?_
                refine lv_icmp_ge (tgt := 104) hx hb dX8_wordAt_61 (by decide) (fun h => absurd h (by decide)) (fun _ => ?_)
                refine lv_iload hx hb dX8_wordAt_64 (lv_at hl 1 rfl) ?_
                refine lv_if_eq (tgt := 104) hx hb dX8_wordAt_66 (by decide) (fun h => absurd h (by decide)) (fun _ => ?_)
                refine lv_aload_n hx hb dX8_wordAt_69 rfl (lv_at hl 3 rfl) ?_
                refine va_get (D := D) (ci := 8) (v := .ref (y 17)) (C := RX8) (T := TX8) (N := 52) hx hb hts w_1 hown hK hP 0 rfl rfl 34 (by decide) w_2 (fun _ h9 => h9) rfl dX8_wordAt_70 ?_
                refine lv_iload hx hb dX8_wordAt_73 (lv_at hl 7 rfl) ?_
                refine lv_iload hx hb dX8_wordAt_75 (lv_at hl 0 rfl) ?_
                refine sv_iadd (v := 41) hx hb dX8_wordAt_77 (by decide) ?_
                refine sv_iald (v := 115) hx hb hK hP 2 1 rfl rfl (vp_in_iff.mpr (by decide)) (hwf 41 (by decide)) dX8_wordAt_78 ?_
                refine lv_aload_n hx hb dX8_wordAt_79 rfl (lv_at hl 3 rfl) ?_
                refine va_get (D := D) (ci := 8) (v := .ref (y 1)) (C := RX8) (T := TX8) (N := 52) hx hb hts w_1 hown hK hP 0 rfl rfl 0 (by decide) w_3 (fun _ h9 => h9) rfl dX8_wordAt_80 ?_
                refine lv_iload_n hx hb dX8_wordAt_83 rfl (lv_at hl 4 rfl) ?_
                refine lv_iload hx hb dX8_wordAt_84 (lv_at hl 0 rfl) ?_
                refine sv_iadd (v := a + 5) hx hb dX8_wordAt_86 rfl ?_
                refine lv_topi (fun v_11 ev_11 => ?_)
                refine sv_iald (v := m_tape v_11.toNatClampNeg) hx hb hK hP 1 1 rfl rfl (by rw [ev_11]; exact wa_in h0 hab hb9 (c_44.trans ev_1) (by decide)) rfl dX8_wordAt_87 ?_
                refine lv_topi (fun v_12 ev_12 => ?_)
                refine lv_icmp_ne (tgt := 95) hx hb dX8_wordAt_88 (by decide) (fun c_88 => ?_) (fun c_88 => ?_)
                ·
                  refine lv_iconst (v := 0) hx hb dX8_wordAt_95 (by decide) ?_
                  refine lv_istore (lv' := [(6, .int 0), (7, .int 5), (5, .int 6), (0, .ref (y 0)), (1, .int a), (2, .int b), (3, .int 7), (4, .int 36)]) hx hb dX8_wordAt_96 hl (by decide) rfl (fun ls hl => ?_)
                  refine lv_iinc (v := 6) (lv' := [(7, .int 6), (6, .int 0), (5, .int 6), (0, .ref (y 0)), (1, .int a), (2, .int b), (3, .int 7), (4, .int 36)]) hx hb dX8_wordAt_98 hl (k := 1) rfl (by decide) (by decide) rfl (fun ls hl => ?_)
                  refine lv_goto (tgt := 57) hx hb dX8_wordAt_101 (by decide) ?_
                  refine lv_iload hx hb dX8_wordAt_57 (lv_at hl 0 rfl) ?_
                  refine lv_iload hx hb dX8_wordAt_59 (lv_at hl 2 rfl) ?_
                  refine lv_icmp_ge (tgt := 104) hx hb dX8_wordAt_61 (by decide) (fun _ => ?_) (fun h => absurd (by decide) h)
                  refine lv_iload hx hb dX8_wordAt_104 (lv_at hl 1 rfl) ?_
                  refine lv_if_eq (tgt := 111) hx hb dX8_wordAt_106 (by decide) (fun _ => ?_) (fun h => absurd (by decide) h)
                  refine lv_iload hx hb dX8_wordAt_111 (lv_at hl 7 rfl) ?_
                  refine lv_iload hx hb dX8_wordAt_113 (lv_at hl 2 rfl) ?_
                  refine lv_iconst (v := 1) hx hb dX8_wordAt_115 (by decide) ?_
                  refine sv_iadd (v := 7) hx hb dX8_wordAt_116 (by decide) ?_
                  refine sv_iadd (v := 43) hx hb dX8_wordAt_117 (by decide) ?_
                  refine lv_istore (lv' := [(4, .int 43), (7, .int 6), (6, .int 0), (5, .int 6), (0, .ref (y 0)), (1, .int a), (2, .int b), (3, .int 7)]) hx hb dX8_wordAt_118 hl (by decide) rfl (fun ls hl => ?_)
                  refine lv_iinc (v := 8) (lv' := [(3, .int 8), (4, .int 43), (7, .int 6), (6, .int 0), (5, .int 6), (0, .ref (y 0)), (1, .int a), (2, .int b)]) hx hb dX8_wordAt_120 hl (k := 7) rfl (by decide) (by decide) rfl (fun ls hl => ?_)
                  refine lv_goto (tgt := 5) hx hb dX8_wordAt_123 (by decide) ?_
                  exact J_8_43 ls (lv_sub hl [5, 6, 7, 0, 1] rfl)
                ·
                  refine lv_iconst (v := 1) hx hb dX8_wordAt_91 (by decide) ?_
                  refine lv_goto (tgt := 96) hx hb dX8_wordAt_92 (by decide) ?_
                  refine lv_istore (lv' := [(6, .int 1), (7, .int 5), (5, .int 6), (0, .ref (y 0)), (1, .int a), (2, .int b), (3, .int 7), (4, .int 36)]) hx hb dX8_wordAt_96 hl (by decide) rfl (fun ls hl => ?_)
                  refine lv_iinc (v := 6) (lv' := [(7, .int 6), (6, .int 1), (5, .int 6), (0, .ref (y 0)), (1, .int a), (2, .int b), (3, .int 7), (4, .int 36)]) hx hb dX8_wordAt_98 hl (k := 1) rfl (by decide) (by decide) rfl (fun ls hl => ?_)
                  refine lv_goto (tgt := 57) hx hb dX8_wordAt_101 (by decide) ?_
                  refine lv_iload hx hb dX8_wordAt_57 (lv_at hl 0 rfl) ?_
                  refine lv_iload hx hb dX8_wordAt_59 (lv_at hl 2 rfl) ?_
                  refine lv_icmp_ge (tgt := 104) hx hb dX8_wordAt_61 (by decide) (fun _ => ?_) (fun h => absurd (by decide) h)
                  refine lv_iload hx hb dX8_wordAt_104 (lv_at hl 1 rfl) ?_
                  refine lv_if_eq (tgt := 111) hx hb dX8_wordAt_106 (by decide) (fun h => absurd h (by decide)) (fun _ => ?_)
                  refine lv_iload_n hx hb dX8_wordAt_109 rfl (lv_at hl 6 rfl) ?_
                  rw [← hQ]
                  exact W.iret (v := 7) hx hb hr (fun t ht hW => ⟨_, rfl, Or.inr (vp_in_iff.mpr (by decide)), ht⟩) (fun q h => nomatch h) dX8_wordAt_110
  have J_6_30 : ∀ (ls : Array Slot), lv_has ls 8 [(0, .ref (y 0)), (1, .int a), (2, .int b), (3, .int 6), (4, .int 30)] → W p l e (headSpec wsX8_wordAt ({ frames := 0, cells := 0, slots := 0, locals := 0 } : Room)).room s m ([.ref (y 0), .int a, .int b] : List Value).toArray below meth c s.heap [] 0 0 Q0 (F0 m 5 ls []) := by
    intro ls hl
    refine lv_iload hx hb dX8_wordAt_5 (lv_at hl 4 rfl) ?_
    refine lv_aload_n hx hb dX8_wordAt_7 rfl (lv_at hl 0 rfl) ?_
    refine va_get (D := D) (ci := 8) (v := .ref (y 17)) (C := RX8) (T := TX8) (N := 52) hx hb hts w_1 hown hK hP 0 rfl rfl 34 (by decide) w_2 (fun _ h9 => h9) rfl dX8_wordAt_8 ?_
    refine va_alen (v := 43) hx hb hK hP 2 1 rfl rfl rfl dX8_wordAt_11 ?_
    refine lv_icmp_ge (tgt := 126) hx hb dX8_wordAt_12 (by decide) (fun h => absurd h (by decide)) (fun _ => ?_)
    refine lv_iconst (v := 0) hx hb dX8_wordAt_15 (by decide) ?_
    refine lv_istore (lv' := [(5, .int 0), (0, .ref (y 0)), (1, .int a), (2, .int b), (3, .int 6), (4, .int 30)]) hx hb dX8_wordAt_16 hl (by decide) rfl (fun ls hl => ?_)
    refine lv_aload_n hx hb dX8_wordAt_18 rfl (lv_at hl 1 rfl) ?_
    refine va_get (D := D) (ci := 8) (v := .ref (y 17)) (C := RX8) (T := TX8) (N := 52) hx hb hts w_1 hown hK hP 0 rfl rfl 34 (by decide) w_2 (fun _ h9 => h9) rfl dX8_wordAt_19 ?_
    refine lv_iload hx hb dX8_wordAt_22 (lv_at hl 5 rfl) ?_
    refine lv_iload hx hb dX8_wordAt_24 (lv_at hl 0 rfl) ?_
    refine sv_iadd (v := 30) hx hb dX8_wordAt_26 (by decide) ?_
    refine sv_iald (v := 115) hx hb hK hP 2 1 rfl rfl (vp_in_iff.mpr (by decide)) (hwf 30 (by decide)) dX8_wordAt_27 ?_
    refine lv_bipush (v := 32) hx hb dX8_wordAt_28 (by decide) ?_
    refine lv_icmp_eq (tgt := 39) hx hb dX8_wordAt_30 (by decide) (fun h => absurd h (by decide)) (fun _ => ?_)
    refine lv_iinc (v := 1) (lv' := [(5, .int 1), (0, .ref (y 0)), (1, .int a), (2, .int b), (3, .int 6), (4, .int 30)]) hx hb dX8_wordAt_33 hl (k := 0) rfl (by decide) (by decide) rfl (fun ls hl => ?_)
    refine lv_goto (tgt := 18) hx hb dX8_wordAt_36 (by decide) ?_
    refine lv_aload_n hx hb dX8_wordAt_18 rfl (lv_at hl 1 rfl) ?_
    refine va_get (D := D) (ci := 8) (v := .ref (y 17)) (C := RX8) (T := TX8) (N := 52) hx hb hts w_1 hown hK hP 0 rfl rfl 34 (by decide) w_2 (fun _ h9 => h9) rfl dX8_wordAt_19 ?_
    refine lv_iload hx hb dX8_wordAt_22 (lv_at hl 5 rfl) ?_
    refine lv_iload hx hb dX8_wordAt_24 (lv_at hl 0 rfl) ?_
    refine sv_iadd (v := 31) hx hb dX8_wordAt_26 (by decide) ?_
    refine sv_iald (v := 112) hx hb hK hP 2 1 rfl rfl (vp_in_iff.mpr (by decide)) (hwf 31 (by decide)) dX8_wordAt_27 ?_
    refine lv_bipush (v := 32) hx hb dX8_wordAt_28 (by decide) ?_
    refine lv_icmp_eq (tgt := 39) hx hb dX8_wordAt_30 (by decide) (fun h => absurd h (by decide)) (fun _ => ?_)
    refine lv_iinc (v := 2) (lv' := [(5, .int 2), (0, .ref (y 0)), (1, .int a), (2, .int b), (3, .int 6), (4, .int 30)]) hx hb dX8_wordAt_33 hl (k := 0) rfl (by decide) (by decide) rfl (fun ls hl => ?_)
    refine lv_goto (tgt := 18) hx hb dX8_wordAt_36 (by decide) ?_
    refine lv_aload_n hx hb dX8_wordAt_18 rfl (lv_at hl 1 rfl) ?_
    refine va_get (D := D) (ci := 8) (v := .ref (y 17)) (C := RX8) (T := TX8) (N := 52) hx hb hts w_1 hown hK hP 0 rfl rfl 34 (by decide) w_2 (fun _ h9 => h9) rfl dX8_wordAt_19 ?_
    refine lv_iload hx hb dX8_wordAt_22 (lv_at hl 5 rfl) ?_
    refine lv_iload hx hb dX8_wordAt_24 (lv_at hl 0 rfl) ?_
    refine sv_iadd (v := 32) hx hb dX8_wordAt_26 (by decide) ?_
    refine sv_iald (v := 97) hx hb hK hP 2 1 rfl rfl (vp_in_iff.mpr (by decide)) (hwf 32 (by decide)) dX8_wordAt_27 ?_
    refine lv_bipush (v := 32) hx hb dX8_wordAt_28 (by decide) ?_
    refine lv_icmp_eq (tgt := 39) hx hb dX8_wordAt_30 (by decide) (fun h => absurd h (by decide)) (fun _ => ?_)
    refine lv_iinc (v := 3) (lv' := [(5, .int 3), (0, .ref (y 0)), (1, .int a), (2, .int b), (3, .int 6), (4, .int 30)]) hx hb dX8_wordAt_33 hl (k := 0) rfl (by decide) (by decide) rfl (fun ls hl => ?_)
    refine lv_goto (tgt := 18) hx hb dX8_wordAt_36 (by decide) ?_
    refine lv_aload_n hx hb dX8_wordAt_18 rfl (lv_at hl 1 rfl) ?_
    refine va_get (D := D) (ci := 8) (v := .ref (y 17)) (C := RX8) (T := TX8) (N := 52) hx hb hts w_1 hown hK hP 0 rfl rfl 34 (by decide) w_2 (fun _ h9 => h9) rfl dX8_wordAt_19 ?_
    refine lv_iload hx hb dX8_wordAt_22 (lv_at hl 5 rfl) ?_
    refine lv_iload hx hb dX8_wordAt_24 (lv_at hl 0 rfl) ?_
    refine sv_iadd (v := 33) hx hb dX8_wordAt_26 (by decide) ?_
    refine sv_iald (v := 114) hx hb hK hP 2 1 rfl rfl (vp_in_iff.mpr (by decide)) (hwf 33 (by decide)) dX8_wordAt_27 ?_
    refine lv_bipush (v := 32) hx hb dX8_wordAt_28 (by decide) ?_
    refine lv_icmp_eq (tgt := 39) hx hb dX8_wordAt_30 (by decide) (fun h => absurd h (by decide)) (fun _ => ?_)
    refine lv_iinc (v := 4) (lv' := [(5, .int 4), (0, .ref (y 0)), (1, .int a), (2, .int b), (3, .int 6), (4, .int 30)]) hx hb dX8_wordAt_33 hl (k := 0) rfl (by decide) (by decide) rfl (fun ls hl => ?_)
    refine lv_goto (tgt := 18) hx hb dX8_wordAt_36 (by decide) ?_
    refine lv_aload_n hx hb dX8_wordAt_18 rfl (lv_at hl 1 rfl) ?_
    refine va_get (D := D) (ci := 8) (v := .ref (y 17)) (C := RX8) (T := TX8) (N := 52) hx hb hts w_1 hown hK hP 0 rfl rfl 34 (by decide) w_2 (fun _ h9 => h9) rfl dX8_wordAt_19 ?_
    refine lv_iload hx hb dX8_wordAt_22 (lv_at hl 5 rfl) ?_
    refine lv_iload hx hb dX8_wordAt_24 (lv_at hl 0 rfl) ?_
    refine sv_iadd (v := 34) hx hb dX8_wordAt_26 (by decide) ?_
    refine sv_iald (v := 101) hx hb hK hP 2 1 rfl rfl (vp_in_iff.mpr (by decide)) (hwf 34 (by decide)) dX8_wordAt_27 ?_
    refine lv_bipush (v := 32) hx hb dX8_wordAt_28 (by decide) ?_
    refine lv_icmp_eq (tgt := 39) hx hb dX8_wordAt_30 (by decide) (fun h => absurd h (by decide)) (fun _ => ?_)
    refine lv_iinc (v := 5) (lv' := [(5, .int 5), (0, .ref (y 0)), (1, .int a), (2, .int b), (3, .int 6), (4, .int 30)]) hx hb dX8_wordAt_33 hl (k := 0) rfl (by decide) (by decide) rfl (fun ls hl => ?_)
    refine lv_goto (tgt := 18) hx hb dX8_wordAt_36 (by decide) ?_
    refine lv_aload_n hx hb dX8_wordAt_18 rfl (lv_at hl 1 rfl) ?_
    refine va_get (D := D) (ci := 8) (v := .ref (y 17)) (C := RX8) (T := TX8) (N := 52) hx hb hts w_1 hown hK hP 0 rfl rfl 34 (by decide) w_2 (fun _ h9 => h9) rfl dX8_wordAt_19 ?_
    refine lv_iload hx hb dX8_wordAt_22 (lv_at hl 5 rfl) ?_
    refine lv_iload hx hb dX8_wordAt_24 (lv_at hl 0 rfl) ?_
    refine sv_iadd (v := 35) hx hb dX8_wordAt_26 (by decide) ?_
    refine sv_iald (v := 32) hx hb hK hP 2 1 rfl rfl (vp_in_iff.mpr (by decide)) (hwf 35 (by decide)) dX8_wordAt_27 ?_
    refine lv_bipush (v := 32) hx hb dX8_wordAt_28 (by decide) ?_
    refine lv_icmp_eq (tgt := 39) hx hb dX8_wordAt_30 (by decide) (fun _ => ?_) (fun h => absurd (by decide) h)
    refine lv_iload hx hb dX8_wordAt_39 (lv_at hl 0 rfl) ?_
    refine lv_iload_n hx hb dX8_wordAt_41 rfl (lv_at hl 3 rfl) ?_
    refine lv_iload_n hx hb dX8_wordAt_42 rfl (lv_at hl 2 rfl) ?_
    refine sv_isub (v := b - a) hx hb dX8_wordAt_43 rfl ?_
    refine lv_topi (fun v_13 ev_13 => ?_)
    refine lv_icmp_ne (tgt := 51) hx hb dX8_wordAt_44 (by decide) (fun c_44 => ?_) (fun c_44 => ?_)
    ·
      refine lv_iconst (v := 0) hx hb dX8_wordAt_51 (by decide) ?_
      refine lv_istore (lv' := [(6, .int 0), (5, .int 5), (0, .ref (y 0)), (1, .int a), (2, .int b), (3, .int 6), (4, .int 30)]) hx hb dX8_wordAt_52 hl (by decide) rfl (fun ls hl => ?_)
      refine lv_iconst (v := 0) hx hb dX8_wordAt_54 (by decide) ?_
      refine lv_istore (lv' := [(7, .int 0), (6, .int 0), (5, .int 5), (0, .ref (y 0)), (1, .int a), (2, .int b), (3, .int 6), (4, .int 30)]) hx hb dX8_wordAt_55 hl (by decide) rfl (fun ls hl => ?_)
      refine lv_iload hx hb dX8_wordAt_57 (lv_at hl 0 rfl) ?_
      refine lv_iload hx hb dX8_wordAt_59 (lv_at hl 2 rfl) ?_
      refine lv_icmp_ge (tgt := 104) hx hb dX8_wordAt_61 (by decide) (fun h => absurd h (by decide)) (fun _ => ?_)
      refine lv_iload hx hb dX8_wordAt_64 (lv_at hl 1 rfl) ?_
      refine lv_if_eq (tgt := 104) hx hb dX8_wordAt_66 (by decide) (fun _ => ?_) (fun h => absurd (by decide) h)
      refine lv_iload hx hb dX8_wordAt_104 (lv_at hl 1 rfl) ?_
      refine lv_if_eq (tgt := 111) hx hb dX8_wordAt_106 (by decide) (fun _ => ?_) (fun h => absurd (by decide) h)
      refine lv_iload hx hb dX8_wordAt_111 (lv_at hl 7 rfl) ?_
      refine lv_iload hx hb dX8_wordAt_113 (lv_at hl 2 rfl) ?_
      refine lv_iconst (v := 1) hx hb dX8_wordAt_115 (by decide) ?_
      refine sv_iadd (v := 6) hx hb dX8_wordAt_116 (by decide) ?_
      refine sv_iadd (v := 36) hx hb dX8_wordAt_117 (by decide) ?_
      refine lv_istore (lv' := [(4, .int 36), (7, .int 0), (6, .int 0), (5, .int 5), (0, .ref (y 0)), (1, .int a), (2, .int b), (3, .int 6)]) hx hb dX8_wordAt_118 hl (by decide) rfl (fun ls hl => ?_)
      refine lv_iinc (v := 7) (lv' := [(3, .int 7), (4, .int 36), (7, .int 0), (6, .int 0), (5, .int 5), (0, .ref (y 0)), (1, .int a), (2, .int b)]) hx hb dX8_wordAt_120 hl (k := 7) rfl (by decide) (by decide) rfl (fun ls hl => ?_)
      refine lv_goto (tgt := 5) hx hb dX8_wordAt_123 (by decide) ?_
      exact J_7_36 ls (lv_sub hl [5, 6, 7, 0, 1] rfl)
    ·
      refine lv_iconst (v := 1) hx hb dX8_wordAt_47 (by decide) ?_
      refine lv_goto (tgt := 52) hx hb dX8_wordAt_48 (by decide) ?_
      refine lv_istore (lv' := [(6, .int 1), (5, .int 5), (0, .ref (y 0)), (1, .int a), (2, .int b), (3, .int 6), (4, .int 30)]) hx hb dX8_wordAt_52 hl (by decide) rfl (fun ls hl => ?_)
      refine lv_iconst (v := 0) hx hb dX8_wordAt_54 (by decide) ?_
      refine lv_istore (lv' := [(7, .int 0), (6, .int 1), (5, .int 5), (0, .ref (y 0)), (1, .int a), (2, .int b), (3, .int 6), (4, .int 30)]) hx hb dX8_wordAt_55 hl (by decide) rfl (fun ls hl => ?_)
      refine lv_iload hx hb dX8_wordAt_57 (lv_at hl 0 rfl) ?_
      refine lv_iload hx hb dX8_wordAt_59 (lv_at hl 2 rfl) ?_
      refine lv_icmp_ge (tgt := 104) hx hb dX8_wordAt_61 (by decide) (fun h => absurd h (by decide)) (fun _ => ?_)
      refine lv_iload hx hb dX8_wordAt_64 (lv_at hl 1 rfl) ?_
      refine lv_if_eq (tgt := 104) hx hb dX8_wordAt_66 (by decide) (fun h => absurd h (by decide)) (fun _ => ?_)
      refine lv_aload_n hx hb dX8_wordAt_69 rfl (lv_at hl 3 rfl) ?_
      refine va_get (D := D) (ci := 8) (v := .ref (y 17)) (C := RX8) (T := TX8) (N := 52) hx hb hts w_1 hown hK hP 0 rfl rfl 34 (by decide) w_2 (fun _ h9 => h9) rfl dX8_wordAt_70 ?_
      refine lv_iload hx hb dX8_wordAt_73 (lv_at hl 7 rfl) ?_
      refine lv_iload hx hb dX8_wordAt_75 (lv_at hl 0 rfl) ?_
      refine sv_iadd (v := 30) hx hb dX8_wordAt_77 (by decide) ?_
      refine sv_iald (v := 115) hx hb hK hP 2 1 rfl rfl (vp_in_iff.mpr (by decide)) (hwf 30 (by decide)) dX8_wordAt_78 ?_
      refine lv_aload_n hx hb dX8_wordAt_79 rfl (lv_at hl 3 rfl) ?_
      refine va_get (D := D) (ci := 8) (v := .ref (y 1)) (C := RX8) (T := TX8) (N := 52) hx hb hts w_1 hown hK hP 0 rfl rfl 0 (by decide) w_3 (fun _ h9 => h9) rfl dX8_wordAt_80 ?_
      refine lv_iload_n hx hb dX8_wordAt_83 rfl (lv_at hl 4 rfl) ?_
      refine lv_iload hx hb dX8_wordAt_84 (lv_at hl 0 rfl) ?_
      refine sv_iadd (v := a + 0) hx hb dX8_wordAt_86 rfl ?_
      refine lv_topi (fun v_14 ev_14 => ?_)
      refine sv_iald (v := m_tape v_14.toNatClampNeg) hx hb hK hP 1 1 rfl rfl (by rw [ev_14]; exact wa_in h0 hab hb9 (c_44.trans ev_13) (by decide)) rfl dX8_wordAt_87 ?_
      refine lv_topi (fun v_15 ev_15 => ?_)
      refine lv_icmp_ne (tgt := 95) hx hb dX8_wordAt_88 (by decide) (fun c_88 => ?_) (fun c_88 => ?_)
      ·
        refine lv_iconst (v := 0) hx hb dX8_wordAt_95 (by decide) ?_
        refine lv_istore (lv' := [(6, .int 0), (7, .int 0), (5, .int 5), (0, .ref (y 0)), (1, .int a), (2, .int b), (3, .int 6), (4, .int 30)]) hx hb dX8_wordAt_96 hl (by decide) rfl (fun ls hl => ?_)
        refine lv_iinc (v := 1) (lv' := [(7, .int 1), (6, .int 0), (5, .int 5), (0, .ref (y 0)), (1, .int a), (2, .int b), (3, .int 6), (4, .int 30)]) hx hb dX8_wordAt_98 hl (k := 1) rfl (by decide) (by decide) rfl (fun ls hl => ?_)
        refine lv_goto (tgt := 57) hx hb dX8_wordAt_101 (by decide) ?_
        refine lv_iload hx hb dX8_wordAt_57 (lv_at hl 0 rfl) ?_
        refine lv_iload hx hb dX8_wordAt_59 (lv_at hl 2 rfl) ?_
        refine lv_icmp_ge (tgt := 104) hx hb dX8_wordAt_61 (by decide) (fun h => absurd h (by decide)) (fun _ => ?_)
        refine lv_iload hx hb dX8_wordAt_64 (lv_at hl 1 rfl) ?_
        refine lv_if_eq (tgt := 104) hx hb dX8_wordAt_66 (by decide) (fun _ => ?_) (fun h => absurd (by decide) h)
        refine lv_iload hx hb dX8_wordAt_104 (lv_at hl 1 rfl) ?_
        refine lv_if_eq (tgt := 111) hx hb dX8_wordAt_106 (by decide) (fun _ => ?_) (fun h => absurd (by decide) h)
        refine lv_iload hx hb dX8_wordAt_111 (lv_at hl 7 rfl) ?_
        refine lv_iload hx hb dX8_wordAt_113 (lv_at hl 2 rfl) ?_
        refine lv_iconst (v := 1) hx hb dX8_wordAt_115 (by decide) ?_
        refine sv_iadd (v := 6) hx hb dX8_wordAt_116 (by decide) ?_
        refine sv_iadd (v := 36) hx hb dX8_wordAt_117 (by decide) ?_
        refine lv_istore (lv' := [(4, .int 36), (7, .int 1), (6, .int 0), (5, .int 5), (0, .ref (y 0)), (1, .int a), (2, .int b), (3, .int 6)]) hx hb dX8_wordAt_118 hl (by decide) rfl (fun ls hl => ?_)
        refine lv_iinc (v := 7) (lv' := [(3, .int 7), (4, .int 36), (7, .int 1), (6, .int 0), (5, .int 5), (0, .ref (y 0)), (1, .int a), (2, .int b)]) hx hb dX8_wordAt_120 hl (k := 7) rfl (by decide) (by decide) rfl (fun ls hl => ?_)
        refine lv_goto (tgt := 5) hx hb dX8_wordAt_123 (by decide) ?_
        exact J_7_36 ls (lv_sub hl [5, 6, 7, 0, 1] rfl)
      ·
        refine lv_iconst (v := 1) hx hb dX8_wordAt_91 (by decide) ?_
        refine lv_goto (tgt := 96) hx hb dX8_wordAt_92 (by decide) ?_
        refine lv_istore (lv' := [(6, .int 1), (7, .int 0), (5, .int 5), (0, .ref (y 0)), (1, .int a), (2, .int b), (3, .int 6), (4, .int 30)]) hx hb dX8_wordAt_96 hl (by decide) rfl (fun ls hl => ?_)
        refine lv_iinc (v := 1) (lv' := [(7, .int 1), (6, .int 1), (5, .int 5), (0, .ref (y 0)), (1, .int a), (2, .int b), (3, .int 6), (4, .int 30)]) hx hb dX8_wordAt_98 hl (k := 1) rfl (by decide) (by decide) rfl (fun ls hl => ?_)
        refine lv_goto (tgt := 57) hx hb dX8_wordAt_101 (by decide) ?_
        refine lv_iload hx hb dX8_wordAt_57 (lv_at hl 0 rfl) ?_
        refine lv_iload hx hb dX8_wordAt_59 (lv_at hl 2 rfl) ?_
        refine lv_icmp_ge (tgt := 104) hx hb dX8_wordAt_61 (by decide) (fun h => absurd h (by decide)) (fun _ => ?_)
        refine lv_iload hx hb dX8_wordAt_64 (lv_at hl 1 rfl) ?_
        refine lv_if_eq (tgt := 104) hx hb dX8_wordAt_66 (by decide) (fun h => absurd h (by decide)) (fun _ => ?_)
        refine lv_aload_n hx hb dX8_wordAt_69 rfl (lv_at hl 3 rfl) ?_
        refine va_get (D := D) (ci := 8) (v := .ref (y 17)) (C := RX8) (T := TX8) (N := 52) hx hb hts w_1 hown hK hP 0 rfl rfl 34 (by decide) w_2 (fun _ h9 => h9) rfl dX8_wordAt_70 ?_
        refine lv_iload hx hb dX8_wordAt_73 (lv_at hl 7 rfl) ?_
        refine lv_iload hx hb dX8_wordAt_75 (lv_at hl 0 rfl) ?_
        refine sv_iadd (v := 31) hx hb dX8_wordAt_77 (by decide) ?_
        refine sv_iald (v := 112) hx hb hK hP 2 1 rfl rfl (vp_in_iff.mpr (by decide)) (hwf 31 (by decide)) dX8_wordAt_78 ?_
        refine lv_aload_n hx hb dX8_wordAt_79 rfl (lv_at hl 3 rfl) ?_
        refine va_get (D := D) (ci := 8) (v := .ref (y 1)) (C := RX8) (T := TX8) (N := 52) hx hb hts w_1 hown hK hP 0 rfl rfl 0 (by decide) w_3 (fun _ h9 => h9) rfl dX8_wordAt_80 ?_
        refine lv_iload_n hx hb dX8_wordAt_83 rfl (lv_at hl 4 rfl) ?_
        refine lv_iload hx hb dX8_wordAt_84 (lv_at hl 0 rfl) ?_
        refine sv_iadd (v := a + 1) hx hb dX8_wordAt_86 rfl ?_
        refine sv_iald (v := m_tape (a + 1).toNatClampNeg) hx hb hK hP 1 1 rfl rfl (wa_in h0 hab hb9 (c_44.trans ev_13) (by decide)) rfl dX8_wordAt_87 ?_
        refine lv_topi (fun v_16 ev_16 => ?_)
        refine lv_icmp_ne (tgt := 95) hx hb dX8_wordAt_88 (by decide) (fun c_88 => ?_) (fun c_88 => ?_)
        ·
          refine lv_iconst (v := 0) hx hb dX8_wordAt_95 (by decide) ?_
          refine lv_istore (lv' := [(6, .int 0), (7, .int 1), (5, .int 5), (0, .ref (y 0)), (1, .int a), (2, .int b), (3, .int 6), (4, .int 30)]) hx hb dX8_wordAt_96 hl (by decide) rfl (fun ls hl => ?_)
          refine lv_iinc (v := 2) (lv' := [(7, .int 2), (6, .int 0), (5, .int 5), (0, .ref (y 0)), (1, .int a), (2, .int b), (3, .int 6), (4, .int 30)]) hx hb dX8_wordAt_98 hl (k := 1) rfl (by decide) (by decide) rfl (fun ls hl => ?_)
          refine lv_goto (tgt := 57) hx hb dX8_wordAt_101 (by decide) ?_
          refine lv_iload hx hb dX8_wordAt_57 (lv_at hl 0 rfl) ?_
          refine lv_iload hx hb dX8_wordAt_59 (lv_at hl 2 rfl) ?_
          refine lv_icmp_ge (tgt := 104) hx hb dX8_wordAt_61 (by decide) (fun h => absurd h (by decide)) (fun _ => ?_)
          refine lv_iload hx hb dX8_wordAt_64 (lv_at hl 1 rfl) ?_
          refine lv_if_eq (tgt := 104) hx hb dX8_wordAt_66 (by decide) (fun _ => ?_) (fun h => absurd (by decide) h)
          refine lv_iload hx hb dX8_wordAt_104 (lv_at hl 1 rfl) ?_
          refine lv_if_eq (tgt := 111) hx hb dX8_wordAt_106 (by decide) (fun _ => ?_) (fun h => absurd (by decide) h)
          refine lv_iload hx hb dX8_wordAt_111 (lv_at hl 7 rfl) ?_
          refine lv_iload hx hb dX8_wordAt_113 (lv_at hl 2 rfl) ?_
          refine lv_iconst (v := 1) hx hb dX8_wordAt_115 (by decide) ?_
          refine sv_iadd (v := 6) hx hb dX8_wordAt_116 (by decide) ?_
          refine sv_iadd (v := 36) hx hb dX8_wordAt_117 (by decide) ?_
          refine lv_istore (lv' := [(4, .int 36), (7, .int 2), (6, .int 0), (5, .int 5), (0, .ref (y 0)), (1, .int a), (2, .int b), (3, .int 6)]) hx hb dX8_wordAt_118 hl (by decide) rfl (fun ls hl => ?_)
          refine lv_iinc (v := 7) (lv' := [(3, .int 7), (4, .int 36), (7, .int 2), (6, .int 0), (5, .int 5), (0, .ref (y 0)), (1, .int a), (2, .int b)]) hx hb dX8_wordAt_120 hl (k := 7) rfl (by decide) (by decide) rfl (fun ls hl => ?_)
          refine lv_goto (tgt := 5) hx hb dX8_wordAt_123 (by decide) ?_
          exact J_7_36 ls (lv_sub hl [5, 6, 7, 0, 1] rfl)
        ·
          refine lv_iconst (v := 1) hx hb dX8_wordAt_91 (by decide) ?_
          refine lv_goto (tgt := 96) hx hb dX8_wordAt_92 (by decide) ?_
          refine lv_istore (lv' := [(6, .int 1), (7, .int 1), (5, .int 5), (0, .ref (y 0)), (1, .int a), (2, .int b), (3, .int 6), (4, .int 30)]) hx hb dX8_wordAt_96 hl (by decide) rfl (fun ls hl => ?_)
          refine lv_iinc (v := 2) (lv' := [(7, .int 2), (6, .int 1), (5, .int 5), (0, .ref (y 0)), (1, .int a), (2, .int b), (3, .int 6), (4, .int 30)]) hx hb dX8_wordAt_98 hl (k := 1) rfl (by decide) (by decide) rfl (fun ls hl => ?_)
          refine lv_goto (tgt := 57) hx hb dX8_wordAt_101 (by decide) ?_
          refine lv_iload hx hb dX8_wordAt_57 (lv_at hl 0 rfl) ?_
          refine lv_iload hx hb dX8_wordAt_59 (lv_at hl 2 rfl) ?_
          refine lv_icmp_ge (tgt := 104) hx hb dX8_wordAt_61 (by decide) (fun h => absurd h (by decide)) (fun _ => ?_)
          refine lv_iload hx hb dX8_wordAt_64 (lv_at hl 1 rfl) ?_
          refine lv_if_eq (tgt := 104) hx hb dX8_wordAt_66 (by decide) (fun h => absurd h (by decide)) (fun _ => ?_)
          refine lv_aload_n hx hb dX8_wordAt_69 rfl (lv_at hl 3 rfl) ?_
          refine va_get (D := D) (ci := 8) (v := .ref (y 17)) (C := RX8) (T := TX8) (N := 52) hx hb hts w_1 hown hK hP 0 rfl rfl 34 (by decide) w_2 (fun _ h9 => h9) rfl dX8_wordAt_70 ?_
          refine lv_iload hx hb dX8_wordAt_73 (lv_at hl 7 rfl) ?_
          refine lv_iload hx hb dX8_wordAt_75 (lv_at hl 0 rfl) ?_
          refine sv_iadd (v := 32) hx hb dX8_wordAt_77 (by decide) ?_
          refine sv_iald (v := 97) hx hb hK hP 2 1 rfl rfl (vp_in_iff.mpr (by decide)) (hwf 32 (by decide)) dX8_wordAt_78 ?_
          refine lv_aload_n hx hb dX8_wordAt_79 rfl (lv_at hl 3 rfl) ?_
          refine va_get (D := D) (ci := 8) (v := .ref (y 1)) (C := RX8) (T := TX8) (N := 52) hx hb hts w_1 hown hK hP 0 rfl rfl 0 (by decide) w_3 (fun _ h9 => h9) rfl dX8_wordAt_80 ?_
          refine lv_iload_n hx hb dX8_wordAt_83 rfl (lv_at hl 4 rfl) ?_
          refine lv_iload hx hb dX8_wordAt_84 (lv_at hl 0 rfl) ?_
          refine sv_iadd (v := a + 2) hx hb dX8_wordAt_86 rfl ?_
          refine lv_topi (fun v_17 ev_17 => ?_)
          refine sv_iald (v := m_tape v_17.toNatClampNeg) hx hb hK hP 1 1 rfl rfl (by rw [ev_17]; exact wa_in h0 hab hb9 (c_44.trans ev_13) (by decide)) rfl dX8_wordAt_87 ?_
          refine lv_topi (fun v_18 ev_18 => ?_)
          refine lv_icmp_ne (tgt := 95) hx hb dX8_wordAt_88 (by decide) (fun c_88 => ?_) (fun c_88 => ?_)
          ·
            refine lv_iconst (v := 0) hx hb dX8_wordAt_95 (by decide) ?_
            refine lv_istore (lv' := [(6, .int 0), (7, .int 2), (5, .int 5), (0, .ref (y 0)), (1, .int a), (2, .int b), (3, .int 6), (4, .int 30)]) hx hb dX8_wordAt_96 hl (by decide) rfl (fun ls hl => ?_)
            refine lv_iinc (v := 3) (lv' := [(7, .int 3), (6, .int 0), (5, .int 5), (0, .ref (y 0)), (1, .int a), (2, .int b), (3, .int 6), (4, .int 30)]) hx hb dX8_wordAt_98 hl (k := 1) rfl (by decide) (by decide) rfl (fun ls hl => ?_)
            refine lv_goto (tgt := 57) hx hb dX8_wordAt_101 (by decide) ?_
            refine lv_iload hx hb dX8_wordAt_57 (lv_at hl 0 rfl) ?_
            refine lv_iload hx hb dX8_wordAt_59 (lv_at hl 2 rfl) ?_
            refine lv_icmp_ge (tgt := 104) hx hb dX8_wordAt_61 (by decide) (fun h => absurd h (by decide)) (fun _ => ?_)
            refine lv_iload hx hb dX8_wordAt_64 (lv_at hl 1 rfl) ?_
            refine lv_if_eq (tgt := 104) hx hb dX8_wordAt_66 (by decide) (fun _ => ?_) (fun h => absurd (by decide) h)
            refine lv_iload hx hb dX8_wordAt_104 (lv_at hl 1 rfl) ?_
            refine lv_if_eq (tgt := 111) hx hb dX8_wordAt_106 (by decide) (fun _ => ?_) (fun h => absurd (by decide) h)
            refine lv_iload hx hb dX8_wordAt_111 (lv_at hl 7 rfl) ?_
            refine lv_iload hx hb dX8_wordAt_113 (lv_at hl 2 rfl) ?_
            refine lv_iconst (v := 1) hx hb dX8_wordAt_115 (by decide) ?_
            refine sv_iadd (v := 6) hx hb dX8_wordAt_116 (by decide) ?_
            refine sv_iadd (v := 36) hx hb dX8_wordAt_117 (by decide) ?_
            refine lv_istore (lv' := [(4, .int 36), (7, .int 3), (6, .int 0), (5, .int 5), (0, .ref (y 0)), (1, .int a), (2, .int b), (3, .int 6)]) hx hb dX8_wordAt_118 hl (by decide) rfl (fun ls hl => ?_)
            refine lv_iinc (v := 7) (lv' := [(3, .int 7), (4, .int 36), (7, .int 3), (6, .int 0), (5, .int 5), (0, .ref (y 0)), (1, .int a), (2, .int b)]) hx hb dX8_wordAt_120 hl (k := 7) rfl (by decide) (by decide) rfl (fun ls hl => ?_)
            refine lv_goto (tgt := 5) hx hb dX8_wordAt_123 (by decide) ?_
            exact J_7_36 ls (lv_sub hl [5, 6, 7, 0, 1] rfl)
          ·
            refine lv_iconst (v := 1) hx hb dX8_wordAt_91 (by decide) ?_
            refine lv_goto (tgt := 96) hx hb dX8_wordAt_92 (by decide) ?_
            refine lv_istore (lv' := [(6, .int 1), (7, .int 2), (5, .int 5), (0, .ref (y 0)), (1, .int a), (2, .int b), (3, .int 6), (4, .int 30)]) hx hb dX8_wordAt_96 hl (by decide) rfl (fun ls hl => ?_)
            refine lv_iinc (v := 3) (lv' := [(7, .int 3), (6, .int 1), (5, .int 5), (0, .ref (y 0)), (1, .int a), (2, .int b), (3, .int 6), (4, .int 30)]) hx hb dX8_wordAt_98 hl (k := 1) rfl (by decide) (by decide) rfl (fun ls hl => ?_)
            refine lv_goto (tgt := 57) hx hb dX8_wordAt_101 (by decide) ?_
            refine lv_iload hx hb dX8_wordAt_57 (lv_at hl 0 rfl) ?_
            refine lv_iload hx hb dX8_wordAt_59 (lv_at hl 2 rfl) ?_
            refine lv_icmp_ge (tgt := 104) hx hb dX8_wordAt_61 (by decide) (fun h => absurd h (by decide)) (fun _ => ?_)
            refine lv_iload hx hb dX8_wordAt_64 (lv_at hl 1 rfl) ?_
            refine lv_if_eq (tgt := 104) hx hb dX8_wordAt_66 (by decide) (fun h => absurd h (by decide)) (fun _ => ?_)
            refine lv_aload_n hx hb dX8_wordAt_69 rfl (lv_at hl 3 rfl) ?_
            refine va_get (D := D) (ci := 8) (v := .ref (y 17)) (C := RX8) (T := TX8) (N := 52) hx hb hts w_1 hown hK hP 0 rfl rfl 34 (by decide) w_2 (fun _ h9 => h9) rfl dX8_wordAt_70 ?_
            refine lv_iload hx hb dX8_wordAt_73 (lv_at hl 7 rfl) ?_
            refine lv_iload hx hb dX8_wordAt_75 (lv_at hl 0 rfl) ?_
            refine sv_iadd (v := 33) hx hb dX8_wordAt_77 (by decide) ?_
            refine sv_iald (v := 114) hx hb hK hP 2 1 rfl rfl (vp_in_iff.mpr (by decide)) (hwf 33 (by decide)) dX8_wordAt_78 ?_
            refine lv_aload_n hx hb dX8_wordAt_79 rfl (lv_at hl 3 rfl) ?_
            refine va_get (D := D) (ci := 8) (v := .ref (y 1)) (C := RX8) (T := TX8) (N := 52) hx hb hts w_1 hown hK hP 0 rfl rfl 0 (by decide) w_3 (fun _ h9 => h9) rfl dX8_wordAt_80 ?_
            refine lv_iload_n hx hb dX8_wordAt_83 rfl (lv_at hl 4 rfl) ?_
            refine lv_iload hx hb dX8_wordAt_84 (lv_at hl 0 rfl) ?_
            refine sv_iadd (v := a + 3) hx hb dX8_wordAt_86 rfl ?_
            refine lv_topi (fun v_19 ev_19 => ?_)
            refine sv_iald (v := m_tape v_19.toNatClampNeg) hx hb hK hP 1 1 rfl rfl (by rw [ev_19]; exact wa_in h0 hab hb9 (c_44.trans ev_13) (by decide)) rfl dX8_wordAt_87 ?_
            refine lv_topi (fun v_20 ev_20 => ?_)
            refine lv_icmp_ne (tgt := 95) hx hb dX8_wordAt_88 (by decide) (fun c_88 => ?_) (fun c_88 => ?_)
            ·
              refine lv_iconst (v := 0) hx hb dX8_wordAt_95 (by decide) ?_
              refine lv_istore (lv' := [(6, .int 0), (7, .int 3), (5, .int 5), (0, .ref (y 0)), (1, .int a), (2, .int b), (3, .int 6), (4, .int 30)]) hx hb dX8_wordAt_96 hl (by decide) rfl (fun ls hl => ?_)
              refine lv_iinc (v := 4) (lv' := [(7, .int 4), (6, .int 0), (5, .int 5), (0, .ref (y 0)), (1, .int a), (2, .int b), (3, .int 6), (4, .int 30)]) hx hb dX8_wordAt_98 hl (k := 1) rfl (by decide) (by decide) rfl (fun ls hl => ?_)
              refine lv_goto (tgt := 57) hx hb dX8_wordAt_101 (by decide) ?_
              refine lv_iload hx hb dX8_wordAt_57 (lv_at hl 0 rfl) ?_
              refine lv_iload hx hb dX8_wordAt_59 (lv_at hl 2 rfl) ?_
              refine lv_icmp_ge (tgt := 104) hx hb dX8_wordAt_61 (by decide) (fun h => absurd h (by decide)) (fun _ => ?_)
              refine lv_iload hx hb dX8_wordAt_64 (lv_at hl 1 rfl) ?_
              refine lv_if_eq (tgt := 104) hx hb dX8_wordAt_66 (by decide) (fun _ => ?_) (fun h => absurd (by decide) h)
              refine lv_iload hx hb dX8_wordAt_104 (lv_at hl 1 rfl) ?_
              refine lv_if_eq (tgt := 111) hx hb dX8_wordAt_106 (by decide) (fun _ => ?_) (fun h => absurd (by decide) h)
              refine lv_iload hx hb dX8_wordAt_111 (lv_at hl 7 rfl) ?_
              refine lv_iload hx hb dX8_wordAt_113 (lv_at hl 2 rfl) ?_
              refine lv_iconst (v := 1) hx hb dX8_wordAt_115 (by decide) ?_
              refine sv_iadd (v := 6) hx hb dX8_wordAt_116 (by decide) ?_
              refine sv_iadd (v := 36) hx hb dX8_wordAt_117 (by decide) ?_
              refine lv_istore (lv' := [(4, .int 36), (7, .int 4), (6, .int 0), (5, .int 5), (0, .ref (y 0)), (1, .int a), (2, .int b), (3, .int 6)]) hx hb dX8_wordAt_118 hl (by decide) rfl (fun ls hl => ?_)
              refine lv_iinc (v := 7) (lv' := [(3, .int 7), (4, .int 36), (7, .int 4), (6, .int 0), (5, .int 5), (0, .ref (y 0)), (1, .int a), (2, .int b)]) hx hb dX8_wordAt_120 hl (k := 7) rfl (by decide) (by decide) rfl (fun ls hl => ?_)
              refine lv_goto (tgt := 5) hx hb dX8_wordAt_123 (by decide) ?_
              exact J_7_36 ls (lv_sub hl [5, 6, 7, 0, 1] rfl)
            ·
              refine lv_iconst (v := 1) hx hb dX8_wordAt_91 (by decide) ?_
              refine lv_goto (tgt := 96) hx hb dX8_wordAt_92 (by decide) ?_
              refine lv_istore (lv' := [(6, .int 1), (7, .int 3), (5, .int 5), (0, .ref (y 0)), (1, .int a), (2, .int b), (3, .int 6), (4, .int 30)]) hx hb dX8_wordAt_96 hl (by decide) rfl (fun ls hl => ?_)
              refine lv_iinc (v := 4) (lv' := [(7, .int 4), (6, .int 1), (5, .int 5), (0, .ref (y 0)), (1, .int a), (2, .int b), (3, .int 6), (4, .int 30)]) hx hb dX8_wordAt_98 hl (k := 1) rfl (by decide) (by decide) rfl (fun ls hl => ?_)
              refine lv_goto (tgt := 57) hx hb dX8_wordAt_101 (by decide) ?_
              refine lv_iload hx hb dX8_wordAt_57 (lv_at hl 0 rfl) ?_
              refine lv_iload hx hb dX8_wordAt_59 (lv_at hl 2 rfl) ?_
              refine lv_icmp_ge (tgt := 104) hx hb dX8_wordAt_61 (by decide) (fun h => absurd h (by decide)) (fun _ => ?_)
              refine lv_iload hx hb dX8_wordAt_64 (lv_at hl 1 rfl) ?_
              refine lv_if_eq (tgt := 104) hx hb dX8_wordAt_66 (by decide) (fun h => absurd h (by decide)) (fun _ => ?_)
              refine lv_aload_n hx hb dX8_wordAt_69 rfl (lv_at hl 3 rfl) ?_
              refine va_get (D := D) (ci := 8) (v := .ref (y 17)) (C := RX8) (T := TX8) (N := 52) hx hb hts w_1 hown hK hP 0 rfl rfl 34 (by decide) w_2 (fun _ h9 => h9) rfl dX8_wordAt_70 ?_
              refine lv_iload hx hb dX8_wordAt_73 (lv_at hl 7 rfl) ?_
              refine lv_iload hx hb dX8_wordAt_75 (lv_at hl 0 rfl) ?_
              refine sv_iadd (v := 34) hx hb dX8_wordAt_77 (by decide) ?_
              refine sv_iald (v := 101) hx hb hK hP 2 1 rfl rfl (vp_in_iff.mpr (by decide)) (hwf 34 (by decide)) dX8_wordAt_78 ?_
              refine lv_aload_n hx hb dX8_wordAt_79 rfl (lv_at hl 3 rfl) ?_
              refine va_get (D := D) (ci := 8) (v := .ref (y 1)) (C := RX8) (T := TX8) (N := 52) hx hb hts w_1 hown hK hP 0 rfl rfl 0 (by decide) w_3 (fun _ h9 => h9) rfl dX8_wordAt_80 ?_
              refine lv_iload_n hx hb dX8_wordAt_83 rfl (lv_at hl 4 rfl) ?_
              refine lv_iload hx hb dX8_wordAt_84 (lv_at hl 0 rfl) ?_
              refine sv_iadd (v := a + 4) hx hb dX8_wordAt_86 rfl ?_
              refine lv_topi (fun v_21 ev_21 => ?_)
              refine sv_iald (v := m_tape v_21.toNatClampNeg) hx hb hK hP 1 1 rfl rfl (by rw [ev_21]; exact wa_in h0 hab hb9 (c_44.trans ev_13) (by decide)) rfl dX8_wordAt_87 ?_
              refine lv_topi (fun v_22 ev_22 => ?_)
              refine lv_icmp_ne (tgt := 95) hx hb dX8_wordAt_88 (by decide) (fun c_88 => ?_) (fun c_88 => ?_)
              ·
                refine lv_iconst (v := 0) hx hb dX8_wordAt_95 (by decide) ?_
                refine lv_istore (lv' := [(6, .int 0), (7, .int 4), (5, .int 5), (0, .ref (y 0)), (1, .int a), (2, .int b), (3, .int 6), (4, .int 30)]) hx hb dX8_wordAt_96 hl (by decide) rfl (fun ls hl => ?_)
                refine lv_iinc (v := 5) (lv' := [(7, .int 5), (6, .int 0), (5, .int 5), (0, .ref (y 0)), (1, .int a), (2, .int b), (3, .int 6), (4, .int 30)]) hx hb dX8_wordAt_98 hl (k := 1) rfl (by decide) (by decide) rfl (fun ls hl => ?_)
                refine lv_goto (tgt := 57) hx hb dX8_wordAt_101 (by decide) ?_
                refine lv_iload hx hb dX8_wordAt_57 (lv_at hl 0 rfl) ?_
                refine lv_iload hx hb dX8_wordAt_59 (lv_at hl 2 rfl) ?_
                refine lv_icmp_ge (tgt := 104) hx hb dX8_wordAt_61 (by decide) (fun _ => ?_) (fun h => absurd (by decide) h)
                refine lv_iload hx hb dX8_wordAt_104 (lv_at hl 1 rfl) ?_
                refine lv_if_eq (tgt := 111) hx hb dX8_wordAt_106 (by decide) (fun _ => ?_) (fun h => absurd (by decide) h)
                refine lv_iload hx hb dX8_wordAt_111 (lv_at hl 7 rfl) ?_
                refine lv_iload hx hb dX8_wordAt_113 (lv_at hl 2 rfl) ?_
                refine lv_iconst (v := 1) hx hb dX8_wordAt_115 (by decide) ?_
                refine sv_iadd (v := 6) hx hb dX8_wordAt_116 (by decide) ?_
                refine sv_iadd (v := 36) hx hb dX8_wordAt_117 (by decide) ?_
                refine lv_istore (lv' := [(4, .int 36), (7, .int 5), (6, .int 0), (5, .int 5), (0, .ref (y 0)), (1, .int a), (2, .int b), (3, .int 6)]) hx hb dX8_wordAt_118 hl (by decide) rfl (fun ls hl => ?_)
                refine lv_iinc (v := 7) (lv' := [(3, .int 7), (4, .int 36), (7, .int 5), (6, .int 0), (5, .int 5), (0, .ref (y 0)), (1, .int a), (2, .int b)]) hx hb dX8_wordAt_120 hl (k := 7) rfl (by decide) (by decide) rfl (fun ls hl => ?_)
                refine lv_goto (tgt := 5) hx hb dX8_wordAt_123 (by decide) ?_
                exact J_7_36 ls (lv_sub hl [5, 6, 7, 0, 1] rfl)
              ·
                refine lv_iconst (v := 1) hx hb dX8_wordAt_91 (by decide) ?_
                refine lv_goto (tgt := 96) hx hb dX8_wordAt_92 (by decide) ?_
                refine lv_istore (lv' := [(6, .int 1), (7, .int 4), (5, .int 5), (0, .ref (y 0)), (1, .int a), (2, .int b), (3, .int 6), (4, .int 30)]) hx hb dX8_wordAt_96 hl (by decide) rfl (fun ls hl => ?_)
                refine lv_iinc (v := 5) (lv' := [(7, .int 5), (6, .int 1), (5, .int 5), (0, .ref (y 0)), (1, .int a), (2, .int b), (3, .int 6), (4, .int 30)]) hx hb dX8_wordAt_98 hl (k := 1) rfl (by decide) (by decide) rfl (fun ls hl => ?_)
                refine lv_goto (tgt := 57) hx hb dX8_wordAt_101 (by decide) ?_
                refine lv_iload hx hb dX8_wordAt_57 (lv_at hl 0 rfl) ?_
                refine lv_iload hx hb dX8_wordAt_59 (lv_at hl 2 rfl) ?_
                refine lv_icmp_ge (tgt := 104) hx hb dX8_wordAt_61 (by decide) (fun _ => ?_) (fun h => absurd (by decide) h)
                refine lv_iload hx hb dX8_wordAt_104 (lv_at hl 1 rfl) ?_
                refine lv_if_eq (tgt := 111) hx hb dX8_wordAt_106 (by decide) (fun h => absurd h (by decide)) (fun _ => ?_)
                refine lv_iload_n hx hb dX8_wordAt_109 rfl (lv_at hl 6 rfl) ?_
                rw [← hQ]
                exact W.iret (v := 6) hx hb hr (fun t ht hW => ⟨_, rfl, Or.inr (vp_in_iff.mpr (by decide)), ht⟩) (fun q h => nomatch h) dX8_wordAt_110
  have J_5_25 : ∀ (ls : Array Slot), lv_has ls 8 [(0, .ref (y 0)), (1, .int a), (2, .int b), (3, .int 5), (4, .int 25)] → W p l e (headSpec wsX8_wordAt ({ frames := 0, cells := 0, slots := 0, locals := 0 } : Room)).room s m ([.ref (y 0), .int a, .int b] : List Value).toArray below meth c s.heap [] 0 0 Q0 (F0 m 5 ls []) := by
    intro ls hl
    refine lv_iload hx hb dX8_wordAt_5 (lv_at hl 4 rfl) ?_
    refine lv_aload_n hx hb dX8_wordAt_7 rfl (lv_at hl 0 rfl) ?_
    refine va_get (D := D) (ci := 8) (v := .ref (y 17)) (C := RX8) (T := TX8) (N := 52) hx hb hts w_1 hown hK hP 0 rfl rfl 34 (by decide) w_2 (fun _ h9 => h9) rfl dX8_wordAt_8 ?_
    refine va_alen (v := 43) hx hb hK hP 2 1 rfl rfl rfl dX8_wordAt_11 ?_
    refine lv_icmp_ge (tgt := 126) hx hb dX8_wordAt_12 (by decide) (fun h => absurd h (by decide)) (fun _ => ?_)
    refine lv_iconst (v := 0) hx hb dX8_wordAt_15 (by decide) ?_
    refine lv_istore (lv' := [(5, .int 0), (0, .ref (y 0)), (1, .int a), (2, .int b), (3, .int 5), (4, .int 25)]) hx hb dX8_wordAt_16 hl (by decide) rfl (fun ls hl => ?_)
    refine lv_aload_n hx hb dX8_wordAt_18 rfl (lv_at hl 1 rfl) ?_
    refine va_get (D := D) (ci := 8) (v := .ref (y 17)) (C := RX8) (T := TX8) (N := 52) hx hb hts w_1 hown hK hP 0 rfl rfl 34 (by decide) w_2 (fun _ h9 => h9) rfl dX8_wordAt_19 ?_
    refine lv_iload hx hb dX8_wordAt_22 (lv_at hl 5 rfl) ?_
    refine lv_iload hx hb dX8_wordAt_24 (lv_at hl 0 rfl) ?_
    refine sv_iadd (v := 25) hx hb dX8_wordAt_26 (by decide) ?_
    refine sv_iald (v := 119) hx hb hK hP 2 1 rfl rfl (vp_in_iff.mpr (by decide)) (hwf 25 (by decide)) dX8_wordAt_27 ?_
    refine lv_bipush (v := 32) hx hb dX8_wordAt_28 (by decide) ?_
    refine lv_icmp_eq (tgt := 39) hx hb dX8_wordAt_30 (by decide) (fun h => absurd h (by decide)) (fun _ => ?_)
    refine lv_iinc (v := 1) (lv' := [(5, .int 1), (0, .ref (y 0)), (1, .int a), (2, .int b), (3, .int 5), (4, .int 25)]) hx hb dX8_wordAt_33 hl (k := 0) rfl (by decide) (by decide) rfl (fun ls hl => ?_)
    refine lv_goto (tgt := 18) hx hb dX8_wordAt_36 (by decide) ?_
    refine lv_aload_n hx hb dX8_wordAt_18 rfl (lv_at hl 1 rfl) ?_
    refine va_get (D := D) (ci := 8) (v := .ref (y 17)) (C := RX8) (T := TX8) (N := 52) hx hb hts w_1 hown hK hP 0 rfl rfl 34 (by decide) w_2 (fun _ h9 => h9) rfl dX8_wordAt_19 ?_
    refine lv_iload hx hb dX8_wordAt_22 (lv_at hl 5 rfl) ?_
    refine lv_iload hx hb dX8_wordAt_24 (lv_at hl 0 rfl) ?_
    refine sv_iadd (v := 26) hx hb dX8_wordAt_26 (by decide) ?_
    refine sv_iald (v := 101) hx hb hK hP 2 1 rfl rfl (vp_in_iff.mpr (by decide)) (hwf 26 (by decide)) dX8_wordAt_27 ?_
    refine lv_bipush (v := 32) hx hb dX8_wordAt_28 (by decide) ?_
    refine lv_icmp_eq (tgt := 39) hx hb dX8_wordAt_30 (by decide) (fun h => absurd h (by decide)) (fun _ => ?_)
    refine lv_iinc (v := 2) (lv' := [(5, .int 2), (0, .ref (y 0)), (1, .int a), (2, .int b), (3, .int 5), (4, .int 25)]) hx hb dX8_wordAt_33 hl (k := 0) rfl (by decide) (by decide) rfl (fun ls hl => ?_)
    refine lv_goto (tgt := 18) hx hb dX8_wordAt_36 (by decide) ?_
    refine lv_aload_n hx hb dX8_wordAt_18 rfl (lv_at hl 1 rfl) ?_
    refine va_get (D := D) (ci := 8) (v := .ref (y 17)) (C := RX8) (T := TX8) (N := 52) hx hb hts w_1 hown hK hP 0 rfl rfl 34 (by decide) w_2 (fun _ h9 => h9) rfl dX8_wordAt_19 ?_
    refine lv_iload hx hb dX8_wordAt_22 (lv_at hl 5 rfl) ?_
    refine lv_iload hx hb dX8_wordAt_24 (lv_at hl 0 rfl) ?_
    refine sv_iadd (v := 27) hx hb dX8_wordAt_26 (by decide) ?_
    refine sv_iald (v := 97) hx hb hK hP 2 1 rfl rfl (vp_in_iff.mpr (by decide)) (hwf 27 (by decide)) dX8_wordAt_27 ?_
    refine lv_bipush (v := 32) hx hb dX8_wordAt_28 (by decide) ?_
    refine lv_icmp_eq (tgt := 39) hx hb dX8_wordAt_30 (by decide) (fun h => absurd h (by decide)) (fun _ => ?_)
    refine lv_iinc (v := 3) (lv' := [(5, .int 3), (0, .ref (y 0)), (1, .int a), (2, .int b), (3, .int 5), (4, .int 25)]) hx hb dX8_wordAt_33 hl (k := 0) rfl (by decide) (by decide) rfl (fun ls hl => ?_)
    refine lv_goto (tgt := 18) hx hb dX8_wordAt_36 (by decide) ?_
    refine lv_aload_n hx hb dX8_wordAt_18 rfl (lv_at hl 1 rfl) ?_
    refine va_get (D := D) (ci := 8) (v := .ref (y 17)) (C := RX8) (T := TX8) (N := 52) hx hb hts w_1 hown hK hP 0 rfl rfl 34 (by decide) w_2 (fun _ h9 => h9) rfl dX8_wordAt_19 ?_
    refine lv_iload hx hb dX8_wordAt_22 (lv_at hl 5 rfl) ?_
    refine lv_iload hx hb dX8_wordAt_24 (lv_at hl 0 rfl) ?_
    refine sv_iadd (v := 28) hx hb dX8_wordAt_26 (by decide) ?_
    refine sv_iald (v := 114) hx hb hK hP 2 1 rfl rfl (vp_in_iff.mpr (by decide)) (hwf 28 (by decide)) dX8_wordAt_27 ?_
    refine lv_bipush (v := 32) hx hb dX8_wordAt_28 (by decide) ?_
    refine lv_icmp_eq (tgt := 39) hx hb dX8_wordAt_30 (by decide) (fun h => absurd h (by decide)) (fun _ => ?_)
    refine lv_iinc (v := 4) (lv' := [(5, .int 4), (0, .ref (y 0)), (1, .int a), (2, .int b), (3, .int 5), (4, .int 25)]) hx hb dX8_wordAt_33 hl (k := 0) rfl (by decide) (by decide) rfl (fun ls hl => ?_)
    refine lv_goto (tgt := 18) hx hb dX8_wordAt_36 (by decide) ?_
    refine lv_aload_n hx hb dX8_wordAt_18 rfl (lv_at hl 1 rfl) ?_
    refine va_get (D := D) (ci := 8) (v := .ref (y 17)) (C := RX8) (T := TX8) (N := 52) hx hb hts w_1 hown hK hP 0 rfl rfl 34 (by decide) w_2 (fun _ h9 => h9) rfl dX8_wordAt_19 ?_
    refine lv_iload hx hb dX8_wordAt_22 (lv_at hl 5 rfl) ?_
    refine lv_iload hx hb dX8_wordAt_24 (lv_at hl 0 rfl) ?_
    refine sv_iadd (v := 29) hx hb dX8_wordAt_26 (by decide) ?_
    refine sv_iald (v := 32) hx hb hK hP 2 1 rfl rfl (vp_in_iff.mpr (by decide)) (hwf 29 (by decide)) dX8_wordAt_27 ?_
    refine lv_bipush (v := 32) hx hb dX8_wordAt_28 (by decide) ?_
    refine lv_icmp_eq (tgt := 39) hx hb dX8_wordAt_30 (by decide) (fun _ => ?_) (fun h => absurd (by decide) h)
    refine lv_iload hx hb dX8_wordAt_39 (lv_at hl 0 rfl) ?_
    refine lv_iload_n hx hb dX8_wordAt_41 rfl (lv_at hl 3 rfl) ?_
    refine lv_iload_n hx hb dX8_wordAt_42 rfl (lv_at hl 2 rfl) ?_
    refine sv_isub (v := b - a) hx hb dX8_wordAt_43 rfl ?_
    refine lv_topi (fun v_23 ev_23 => ?_)
    refine lv_icmp_ne (tgt := 51) hx hb dX8_wordAt_44 (by decide) (fun c_44 => ?_) (fun c_44 => ?_)
    ·
      refine lv_iconst (v := 0) hx hb dX8_wordAt_51 (by decide) ?_
      refine lv_istore (lv' := [(6, .int 0), (5, .int 4), (0, .ref (y 0)), (1, .int a), (2, .int b), (3, .int 5), (4, .int 25)]) hx hb dX8_wordAt_52 hl (by decide) rfl (fun ls hl => ?_)
      refine lv_iconst (v := 0) hx hb dX8_wordAt_54 (by decide) ?_
      refine lv_istore (lv' := [(7, .int 0), (6, .int 0), (5, .int 4), (0, .ref (y 0)), (1, .int a), (2, .int b), (3, .int 5), (4, .int 25)]) hx hb dX8_wordAt_55 hl (by decide) rfl (fun ls hl => ?_)
      refine lv_iload hx hb dX8_wordAt_57 (lv_at hl 0 rfl) ?_
      refine lv_iload hx hb dX8_wordAt_59 (lv_at hl 2 rfl) ?_
      refine lv_icmp_ge (tgt := 104) hx hb dX8_wordAt_61 (by decide) (fun h => absurd h (by decide)) (fun _ => ?_)
      refine lv_iload hx hb dX8_wordAt_64 (lv_at hl 1 rfl) ?_
      refine lv_if_eq (tgt := 104) hx hb dX8_wordAt_66 (by decide) (fun _ => ?_) (fun h => absurd (by decide) h)
      refine lv_iload hx hb dX8_wordAt_104 (lv_at hl 1 rfl) ?_
      refine lv_if_eq (tgt := 111) hx hb dX8_wordAt_106 (by decide) (fun _ => ?_) (fun h => absurd (by decide) h)
      refine lv_iload hx hb dX8_wordAt_111 (lv_at hl 7 rfl) ?_
      refine lv_iload hx hb dX8_wordAt_113 (lv_at hl 2 rfl) ?_
      refine lv_iconst (v := 1) hx hb dX8_wordAt_115 (by decide) ?_
      refine sv_iadd (v := 5) hx hb dX8_wordAt_116 (by decide) ?_
      refine sv_iadd (v := 30) hx hb dX8_wordAt_117 (by decide) ?_
      refine lv_istore (lv' := [(4, .int 30), (7, .int 0), (6, .int 0), (5, .int 4), (0, .ref (y 0)), (1, .int a), (2, .int b), (3, .int 5)]) hx hb dX8_wordAt_118 hl (by decide) rfl (fun ls hl => ?_)
      refine lv_iinc (v := 6) (lv' := [(3, .int 6), (4, .int 30), (7, .int 0), (6, .int 0), (5, .int 4), (0, .ref (y 0)), (1, .int a), (2, .int b)]) hx hb dX8_wordAt_120 hl (k := 7) rfl (by decide) (by decide) rfl (fun ls hl => ?_)
      refine lv_goto (tgt := 5) hx hb dX8_wordAt_123 (by decide) ?_
      exact J_6_30 ls (lv_sub hl [5, 6, 7, 0, 1] rfl)
    ·
      refine lv_iconst (v := 1) hx hb dX8_wordAt_47 (by decide) ?_
      refine lv_goto (tgt := 52) hx hb dX8_wordAt_48 (by decide) ?_
      refine lv_istore (lv' := [(6, .int 1), (5, .int 4), (0, .ref (y 0)), (1, .int a), (2, .int b), (3, .int 5), (4, .int 25)]) hx hb dX8_wordAt_52 hl (by decide) rfl (fun ls hl => ?_)
      refine lv_iconst (v := 0) hx hb dX8_wordAt_54 (by decide) ?_
      refine lv_istore (lv' := [(7, .int 0), (6, .int 1), (5, .int 4), (0, .ref (y 0)), (1, .int a), (2, .int b), (3, .int 5), (4, .int 25)]) hx hb dX8_wordAt_55 hl (by decide) rfl (fun ls hl => ?_)
      refine lv_iload hx hb dX8_wordAt_57 (lv_at hl 0 rfl) ?_
      refine lv_iload hx hb dX8_wordAt_59 (lv_at hl 2 rfl) ?_
      refine lv_icmp_ge (tgt := 104) hx hb dX8_wordAt_61 (by decide) (fun h => absurd h (by decide)) (fun _ => ?_)
      refine lv_iload hx hb dX8_wordAt_64 (lv_at hl 1 rfl) ?_
      refine lv_if_eq (tgt := 104) hx hb dX8_wordAt_66 (by decide) (fun h => absurd h (by decide)) (fun _ => ?_)
      refine lv_aload_n hx hb dX8_wordAt_69 rfl (lv_at hl 3 rfl) ?_
      refine va_get (D := D) (ci := 8) (v := .ref (y 17)) (C := RX8) (T := TX8) (N := 52) hx hb hts w_1 hown hK hP 0 rfl rfl 34 (by decide) w_2 (fun _ h9 => h9) rfl dX8_wordAt_70 ?_
      refine lv_iload hx hb dX8_wordAt_73 (lv_at hl 7 rfl) ?_
      refine lv_iload hx hb dX8_wordAt_75 (lv_at hl 0 rfl) ?_
      refine sv_iadd (v := 25) hx hb dX8_wordAt_77 (by decide) ?_
      refine sv_iald (v := 119) hx hb hK hP 2 1 rfl rfl (vp_in_iff.mpr (by decide)) (hwf 25 (by decide)) dX8_wordAt_78 ?_
      refine lv_aload_n hx hb dX8_wordAt_79 rfl (lv_at hl 3 rfl) ?_
      refine va_get (D := D) (ci := 8) (v := .ref (y 1)) (C := RX8) (T := TX8) (N := 52) hx hb hts w_1 hown hK hP 0 rfl rfl 0 (by decide) w_3 (fun _ h9 => h9) rfl dX8_wordAt_80 ?_
      refine lv_iload_n hx hb dX8_wordAt_83 rfl (lv_at hl 4 rfl) ?_
      refine lv_iload hx hb dX8_wordAt_84 (lv_at hl 0 rfl) ?_
      refine sv_iadd (v := a + 0) hx hb dX8_wordAt_86 rfl ?_
      refine lv_topi (fun v_24 ev_24 => ?_)
      refine sv_iald (v := m_tape v_24.toNatClampNeg) hx hb hK hP 1 1 rfl rfl (by rw [ev_24]; exact wa_in h0 hab hb9 (c_44.trans ev_23) (by decide)) rfl dX8_wordAt_87 ?_
      refine lv_topi (fun v_25 ev_25 => ?_)
      refine lv_icmp_ne (tgt := 95) hx hb dX8_wordAt_88 (by decide) (fun c_88 => ?_) (fun c_88 => ?_)
      ·
        refine lv_iconst (v := 0) hx hb dX8_wordAt_95 (by decide) ?_
        refine lv_istore (lv' := [(6, .int 0), (7, .int 0), (5, .int 4), (0, .ref (y 0)), (1, .int a), (2, .int b), (3, .int 5), (4, .int 25)]) hx hb dX8_wordAt_96 hl (by decide) rfl (fun ls hl => ?_)
        refine lv_iinc (v := 1) (lv' := [(7, .int 1), (6, .int 0), (5, .int 4), (0, .ref (y 0)), (1, .int a), (2, .int b), (3, .int 5), (4, .int 25)]) hx hb dX8_wordAt_98 hl (k := 1) rfl (by decide) (by decide) rfl (fun ls hl => ?_)
        refine lv_goto (tgt := 57) hx hb dX8_wordAt_101 (by decide) ?_
        refine lv_iload hx hb dX8_wordAt_57 (lv_at hl 0 rfl) ?_
        refine lv_iload hx hb dX8_wordAt_59 (lv_at hl 2 rfl) ?_
        refine lv_icmp_ge (tgt := 104) hx hb dX8_wordAt_61 (by decide) (fun h => absurd h (by decide)) (fun _ => ?_)
        refine lv_iload hx hb dX8_wordAt_64 (lv_at hl 1 rfl) ?_
        refine lv_if_eq (tgt := 104) hx hb dX8_wordAt_66 (by decide) (fun _ => ?_) (fun h => absurd (by decide) h)
        refine lv_iload hx hb dX8_wordAt_104 (lv_at hl 1 rfl) ?_
        refine lv_if_eq (tgt := 111) hx hb dX8_wordAt_106 (by decide) (fun _ => ?_) (fun h => absurd (by decide) h)
        refine lv_iload hx hb dX8_wordAt_111 (lv_at hl 7 rfl) ?_
        refine lv_iload hx hb dX8_wordAt_113 (lv_at hl 2 rfl) ?_
        refine lv_iconst (v := 1) hx hb dX8_wordAt_115 (by decide) ?_
        refine sv_iadd (v := 5) hx hb dX8_wordAt_116 (by decide) ?_
        refine sv_iadd (v := 30) hx hb dX8_wordAt_117 (by decide) ?_
        refine lv_istore (lv' := [(4, .int 30), (7, .int 1), (6, .int 0), (5, .int 4), (0, .ref (y 0)), (1, .int a), (2, .int b), (3, .int 5)]) hx hb dX8_wordAt_118 hl (by decide) rfl (fun ls hl => ?_)
        refine lv_iinc (v := 6) (lv' := [(3, .int 6), (4, .int 30), (7, .int 1), (6, .int 0), (5, .int 4), (0, .ref (y 0)), (1, .int a), (2, .int b)]) hx hb dX8_wordAt_120 hl (k := 7) rfl (by decide) (by decide) rfl (fun ls hl => ?_)
        refine lv_goto (tgt := 5) hx hb dX8_wordAt_123 (by decide) ?_
        exact J_6_30 ls (lv_sub hl [5, 6, 7, 0, 1] rfl)
      ·
        refine lv_iconst (v := 1) hx hb dX8_wordAt_91 (by decide) ?_
        refine lv_goto (tgt := 96) hx hb dX8_wordAt_92 (by decide) ?_
        refine lv_istore (lv' := [(6, .int 1), (7, .int 0), (5, .int 4), (0, .ref (y 0)), (1, .int a), (2, .int b), (3, .int 5), (4, .int 25)]) hx hb dX8_wordAt_96 hl (by decide) rfl (fun ls hl => ?_)
        refine lv_iinc (v := 1) (lv' := [(7, .int 1), (6, .int 1), (5, .int 4), (0, .ref (y 0)), (1, .int a), (2, .int b), (3, .int 5), (4, .int 25)]) hx hb dX8_wordAt_98 hl (k := 1) rfl (by decide) (by decide) rfl (fun ls hl => ?_)
        refine lv_goto (tgt := 57) hx hb dX8_wordAt_101 (by decide) ?_
        refine lv_iload hx hb dX8_wordAt_57 (lv_at hl 0 rfl) ?_
        refine lv_iload hx hb dX8_wordAt_59 (lv_at hl 2 rfl) ?_
        refine lv_icmp_ge (tgt := 104) hx hb dX8_wordAt_61 (by decide) (fun h => absurd h (by decide)) (fun _ => ?_)
        refine lv_iload hx hb dX8_wordAt_64 (lv_at hl 1 rfl) ?_
        refine lv_if_eq (tgt := 104) hx hb dX8_wordAt_66 (by decide) (fun h => absurd h (by decide)) (fun _ => ?_)
        refine lv_aload_n hx hb dX8_wordAt_69 rfl (lv_at hl 3 rfl) ?_
        refine va_get (D := D) (ci := 8) (v := .ref (y 17)) (C := RX8) (T := TX8) (N := 52) hx hb hts w_1 hown hK hP 0 rfl rfl 34 (by decide) w_2 (fun _ h9 => h9) rfl dX8_wordAt_70 ?_
        refine lv_iload hx hb dX8_wordAt_73 (lv_at hl 7 rfl) ?_
        refine lv_iload hx hb dX8_wordAt_75 (lv_at hl 0 rfl) ?_
        refine sv_iadd (v := 26) hx hb dX8_wordAt_77 (by decide) ?_
        refine sv_iald (v := 101) hx hb hK hP 2 1 rfl rfl (vp_in_iff.mpr (by decide)) (hwf 26 (by decide)) dX8_wordAt_78 ?_
        refine lv_aload_n hx hb dX8_wordAt_79 rfl (lv_at hl 3 rfl) ?_
        refine va_get (D := D) (ci := 8) (v := .ref (y 1)) (C := RX8) (T := TX8) (N := 52) hx hb hts w_1 hown hK hP 0 rfl rfl 0 (by decide) w_3 (fun _ h9 => h9) rfl dX8_wordAt_80 ?_
        refine lv_iload_n hx hb dX8_wordAt_83 rfl (lv_at hl 4 rfl) ?_
        refine lv_iload hx hb dX8_wordAt_84 (lv_at hl 0 rfl) ?_
        refine sv_iadd (v := a + 1) hx hb dX8_wordAt_86 rfl ?_
        refine sv_iald (v := m_tape (a + 1).toNatClampNeg) hx hb hK hP 1 1 rfl rfl (wa_in h0 hab hb9 (c_44.trans ev_23) (by decide)) rfl dX8_wordAt_87 ?_
        refine lv_topi (fun v_26 ev_26 => ?_)
        refine lv_icmp_ne (tgt := 95) hx hb dX8_wordAt_88 (by decide) (fun c_88 => ?_) (fun c_88 => ?_)
        ·
          refine lv_iconst (v := 0) hx hb dX8_wordAt_95 (by decide) ?_
          refine lv_istore (lv' := [(6, .int 0), (7, .int 1), (5, .int 4), (0, .ref (y 0)), (1, .int a), (2, .int b), (3, .int 5), (4, .int 25)]) hx hb dX8_wordAt_96 hl (by decide) rfl (fun ls hl => ?_)
          refine lv_iinc (v := 2) (lv' := [(7, .int 2), (6, .int 0), (5, .int 4), (0, .ref (y 0)), (1, .int a), (2, .int b), (3, .int 5), (4, .int 25)]) hx hb dX8_wordAt_98 hl (k := 1) rfl (by decide) (by decide) rfl (fun ls hl => ?_)
          refine lv_goto (tgt := 57) hx hb dX8_wordAt_101 (by decide) ?_
          refine lv_iload hx hb dX8_wordAt_57 (lv_at hl 0 rfl) ?_
          refine lv_iload hx hb dX8_wordAt_59 (lv_at hl 2 rfl) ?_
          refine lv_icmp_ge (tgt := 104) hx hb dX8_wordAt_61 (by decide) (fun h => absurd h (by decide)) (fun _ => ?_)
          refine lv_iload hx hb dX8_wordAt_64 (lv_at hl 1 rfl) ?_
          refine lv_if_eq (tgt := 104) hx hb dX8_wordAt_66 (by decide) (fun _ => ?_) (fun h => absurd (by decide) h)
          refine lv_iload hx hb dX8_wordAt_104 (lv_at hl 1 rfl) ?_
          refine lv_if_eq (tgt := 111) hx hb dX8_wordAt_106 (by decide) (fun _ => ?_) (fun h => absurd (by decide) h)
          refine lv_iload hx hb dX8_wordAt_111 (lv_at hl 7 rfl) ?_
          refine lv_iload hx hb dX8_wordAt_113 (lv_at hl 2 rfl) ?_
          refine lv_iconst (v := 1) hx hb dX8_wordAt_115 (by decide) ?_
          refine sv_iadd (v := 5) hx hb dX8_wordAt_116 (by decide) ?_
          refine sv_iadd (v := 30) hx hb dX8_wordAt_117 (by decide) ?_
          refine lv_istore (lv' := [(4, .int 30), (7, .int 2), (6, .int 0), (5, .int 4), (0, .ref (y 0)), (1, .int a), (2, .int b), (3, .int 5)]) hx hb dX8_wordAt_118 hl (by decide) rfl (fun ls hl => ?_)
          refine lv_iinc (v := 6) (lv' := [(3, .int 6), (4, .int 30), (7, .int 2), (6, .int 0), (5, .int 4), (0, .ref (y 0)), (1, .int a), (2, .int b)]) hx hb dX8_wordAt_120 hl (k := 7) rfl (by decide) (by decide) rfl (fun ls hl => ?_)
          refine lv_goto (tgt := 5) hx hb dX8_wordAt_123 (by decide) ?_
          exact J_6_30 ls (lv_sub hl [5, 6, 7, 0, 1] rfl)
        ·
          refine lv_iconst (v := 1) hx hb dX8_wordAt_91 (by decide) ?_
          refine lv_goto (tgt := 96) hx hb dX8_wordAt_92 (by decide) ?_
          refine lv_istore (lv' := [(6, .int 1), (7, .int 1), (5, .int 4), (0, .ref (y 0)), (1, .int a), (2, .int b), (3, .int 5), (4, .int 25)]) hx hb dX8_wordAt_96 hl (by decide) rfl (fun ls hl => ?_)
          refine lv_iinc (v := 2) (lv' := [(7, .int 2), (6, .int 1), (5, .int 4), (0, .ref (y 0)), (1, .int a), (2, .int b), (3, .int 5), (4, .int 25)]) hx hb dX8_wordAt_98 hl (k := 1) rfl (by decide) (by decide) rfl (fun ls hl => ?_)
          refine lv_goto (tgt := 57) hx hb dX8_wordAt_101 (by decide) ?_
          refine lv_iload hx hb dX8_wordAt_57 (lv_at hl 0 rfl) ?_
          refine lv_iload hx hb dX8_wordAt_59 (lv_at hl 2 rfl) ?_
          refine lv_icmp_ge (tgt := 104) hx hb dX8_wordAt_61 (by decide) (fun h => absurd h (by decide)) (fun _ => ?_)
          refine lv_iload hx hb dX8_wordAt_64 (lv_at hl 1 rfl) ?_
          refine lv_if_eq (tgt := 104) hx hb dX8_wordAt_66 (by decide) (fun h => absurd h (by decide)) (fun _ => ?_)
          refine lv_aload_n hx hb dX8_wordAt_69 rfl (lv_at hl 3 rfl) ?_
          refine va_get (D := D) (ci := 8) (v := .ref (y 17)) (C := RX8) (T := TX8) (N := 52) hx hb hts w_1 hown hK hP 0 rfl rfl 34 (by decide) w_2 (fun _ h9 => h9) rfl dX8_wordAt_70 ?_
          refine lv_iload hx hb dX8_wordAt_73 (lv_at hl 7 rfl) ?_
          refine lv_iload hx hb dX8_wordAt_75 (lv_at hl 0 rfl) ?_
          refine sv_iadd (v := 27) hx hb dX8_wordAt_77 (by decide) ?_
          refine sv_iald (v := 97) hx hb hK hP 2 1 rfl rfl (vp_in_iff.mpr (by decide)) (hwf 27 (by decide)) dX8_wordAt_78 ?_
          refine lv_aload_n hx hb dX8_wordAt_79 rfl (lv_at hl 3 rfl) ?_
          refine va_get (D := D) (ci := 8) (v := .ref (y 1)) (C := RX8) (T := TX8) (N := 52) hx hb hts w_1 hown hK hP 0 rfl rfl 0 (by decide) w_3 (fun _ h9 => h9) rfl dX8_wordAt_80 ?_
          refine lv_iload_n hx hb dX8_wordAt_83 rfl (lv_at hl 4 rfl) ?_
          refine lv_iload hx hb dX8_wordAt_84 (lv_at hl 0 rfl) ?_
          refine sv_iadd (v := a + 2) hx hb dX8_wordAt_86 rfl ?_
          refine lv_topi (fun v_27 ev_27 => ?_)
          refine sv_iald (v := m_tape v_27.toNatClampNeg) hx hb hK hP 1 1 rfl rfl (by rw [ev_27]; exact wa_in h0 hab hb9 (c_44.trans ev_23) (by decide)) rfl dX8_wordAt_87 ?_
          refine lv_topi (fun v_28 ev_28 => ?_)
          refine lv_icmp_ne (tgt := 95) hx hb dX8_wordAt_88 (by decide) (fun c_88 => ?_) (fun c_88 => ?_)
          ·
            refine lv_iconst (v := 0) hx hb dX8_wordAt_95 (by decide) ?_
            refine lv_istore (lv' := [(6, .int 0), (7, .int 2), (5, .int 4), (0, .ref (y 0)), (1, .int a), (2, .int b), (3, .int 5), (4, .int 25)]) hx hb dX8_wordAt_96 hl (by decide) rfl (fun ls hl => ?_)
            refine lv_iinc (v := 3) (lv' := [(7, .int 3), (6, .int 0), (5, .int 4), (0, .ref (y 0)), (1, .int a), (2, .int b), (3, .int 5), (4, .int 25)]) hx hb dX8_wordAt_98 hl (k := 1) rfl (by decide) (by decide) rfl (fun ls hl => ?_)
            refine lv_goto (tgt := 57) hx hb dX8_wordAt_101 (by decide) ?_
            refine lv_iload hx hb dX8_wordAt_57 (lv_at hl 0 rfl) ?_
            refine lv_iload hx hb dX8_wordAt_59 (lv_at hl 2 rfl) ?_
            refine lv_icmp_ge (tgt := 104) hx hb dX8_wordAt_61 (by decide) (fun h => absurd h (by decide)) (fun _ => ?_)
            refine lv_iload hx hb dX8_wordAt_64 (lv_at hl 1 rfl) ?_
            refine lv_if_eq (tgt := 104) hx hb dX8_wordAt_66 (by decide) (fun _ => ?_) (fun h => absurd (by decide) h)
            refine lv_iload hx hb dX8_wordAt_104 (lv_at hl 1 rfl) ?_
            refine lv_if_eq (tgt := 111) hx hb dX8_wordAt_106 (by decide) (fun _ => ?_) (fun h => absurd (by decide) h)
            refine lv_iload hx hb dX8_wordAt_111 (lv_at hl 7 rfl) ?_
            refine lv_iload hx hb dX8_wordAt_113 (lv_at hl 2 rfl) ?_
            refine lv_iconst (v := 1) hx hb dX8_wordAt_115 (by decide) ?_
            refine sv_iadd (v := 5) hx hb dX8_wordAt_116 (by decide) ?_
            refine sv_iadd (v := 30) hx hb dX8_wordAt_117 (by decide) ?_
            refine lv_istore (lv' := [(4, .int 30), (7, .int 3), (6, .int 0), (5, .int 4), (0, .ref (y 0)), (1, .int a), (2, .int b), (3, .int 5)]) hx hb dX8_wordAt_118 hl (by decide) rfl (fun ls hl => ?_)
            refine lv_iinc (v := 6) (lv' := [(3, .int 6), (4, .int 30), (7, .int 3), (6, .int 0), (5, .int 4), (0, .ref (y 0)), (1, .int a), (2, .int b)]) hx hb dX8_wordAt_120 hl (k := 7) rfl (by decide) (by decide) rfl (fun ls hl => ?_)
            refine lv_goto (tgt := 5) hx hb dX8_wordAt_123 (by decide) ?_
            exact J_6_30 ls (lv_sub hl [5, 6, 7, 0, 1] rfl)
          ·
            refine lv_iconst (v := 1) hx hb dX8_wordAt_91 (by decide) ?_
            refine lv_goto (tgt := 96) hx hb dX8_wordAt_92 (by decide) ?_
            refine lv_istore (lv' := [(6, .int 1), (7, .int 2), (5, .int 4), (0, .ref (y 0)), (1, .int a), (2, .int b), (3, .int 5), (4, .int 25)]) hx hb dX8_wordAt_96 hl (by decide) rfl (fun ls hl => ?_)
            refine lv_iinc (v := 3) (lv' := [(7, .int 3), (6, .int 1), (5, .int 4), (0, .ref (y 0)), (1, .int a), (2, .int b), (3, .int 5), (4, .int 25)]) hx hb dX8_wordAt_98 hl (k := 1) rfl (by decide) (by decide) rfl (fun ls hl => ?_)
            refine lv_goto (tgt := 57) hx hb dX8_wordAt_101 (by decide) ?_
            refine lv_iload hx hb dX8_wordAt_57 (lv_at hl 0 rfl) ?_
            refine lv_iload hx hb dX8_wordAt_59 (lv_at hl 2 rfl) ?_
            refine lv_icmp_ge (tgt := 104) hx hb dX8_wordAt_61 (by decide) (fun h => absurd h (by decide)) (fun _ => ?_)
            refine lv_iload hx hb dX8_wordAt_64 (lv_at hl 1 rfl) ?_
            refine lv_if_eq (tgt := 104) hx hb dX8_wordAt_66 (by decide) (fun h => absurd h (by decide)) (fun _ => ?_)
            refine lv_aload_n hx hb dX8_wordAt_69 rfl (lv_at hl 3 rfl) ?_
            refine va_get (D := D) (ci := 8) (v := .ref (y 17)) (C := RX8) (T := TX8) (N := 52) hx hb hts w_1 hown hK hP 0 rfl rfl 34 (by decide) w_2 (fun _ h9 => h9) rfl dX8_wordAt_70 ?_
            refine lv_iload hx hb dX8_wordAt_73 (lv_at hl 7 rfl) ?_
            refine lv_iload hx hb dX8_wordAt_75 (lv_at hl 0 rfl) ?_
            refine sv_iadd (v := 28) hx hb dX8_wordAt_77 (by decide) ?_
            refine sv_iald (v := 114) hx hb hK hP 2 1 rfl rfl (vp_in_iff.mpr (by decide)) (hwf 28 (by decide)) dX8_wordAt_78 ?_
            refine lv_aload_n hx hb dX8_wordAt_79 rfl (lv_at hl 3 rfl) ?_
            refine va_get (D := D) (ci := 8) (v := .ref (y 1)) (C := RX8) (T := TX8) (N := 52) hx hb hts w_1 hown hK hP 0 rfl rfl 0 (by decide) w_3 (fun _ h9 => h9) rfl dX8_wordAt_80 ?_
            refine lv_iload_n hx hb dX8_wordAt_83 rfl (lv_at hl 4 rfl) ?_
            refine lv_iload hx hb dX8_wordAt_84 (lv_at hl 0 rfl) ?_
            refine sv_iadd (v := a + 3) hx hb dX8_wordAt_86 rfl ?_
            refine lv_topi (fun v_29 ev_29 => ?_)
            refine sv_iald (v := m_tape v_29.toNatClampNeg) hx hb hK hP 1 1 rfl rfl (by rw [ev_29]; exact wa_in h0 hab hb9 (c_44.trans ev_23) (by decide)) rfl dX8_wordAt_87 ?_
            refine lv_topi (fun v_30 ev_30 => ?_)
            refine lv_icmp_ne (tgt := 95) hx hb dX8_wordAt_88 (by decide) (fun c_88 => ?_) (fun c_88 => ?_)
            ·
              refine lv_iconst (v := 0) hx hb dX8_wordAt_95 (by decide) ?_
              refine lv_istore (lv' := [(6, .int 0), (7, .int 3), (5, .int 4), (0, .ref (y 0)), (1, .int a), (2, .int b), (3, .int 5), (4, .int 25)]) hx hb dX8_wordAt_96 hl (by decide) rfl (fun ls hl => ?_)
              refine lv_iinc (v := 4) (lv' := [(7, .int 4), (6, .int 0), (5, .int 4), (0, .ref (y 0)), (1, .int a), (2, .int b), (3, .int 5), (4, .int 25)]) hx hb dX8_wordAt_98 hl (k := 1) rfl (by decide) (by decide) rfl (fun ls hl => ?_)
              refine lv_goto (tgt := 57) hx hb dX8_wordAt_101 (by decide) ?_
              refine lv_iload hx hb dX8_wordAt_57 (lv_at hl 0 rfl) ?_
              refine lv_iload hx hb dX8_wordAt_59 (lv_at hl 2 rfl) ?_
              refine lv_icmp_ge (tgt := 104) hx hb dX8_wordAt_61 (by decide) (fun _ => ?_) (fun h => absurd (by decide) h)
              refine lv_iload hx hb dX8_wordAt_104 (lv_at hl 1 rfl) ?_
              refine lv_if_eq (tgt := 111) hx hb dX8_wordAt_106 (by decide) (fun _ => ?_) (fun h => absurd (by decide) h)
              refine lv_iload hx hb dX8_wordAt_111 (lv_at hl 7 rfl) ?_
              refine lv_iload hx hb dX8_wordAt_113 (lv_at hl 2 rfl) ?_
              refine lv_iconst (v := 1) hx hb dX8_wordAt_115 (by decide) ?_
              refine sv_iadd (v := 5) hx hb dX8_wordAt_116 (by decide) ?_
              refine sv_iadd (v := 30) hx hb dX8_wordAt_117 (by decide) ?_
              refine lv_istore (lv' := [(4, .int 30), (7, .int 4), (6, .int 0), (5, .int 4), (0, .ref (y 0)), (1, .int a), (2, .int b), (3, .int 5)]) hx hb dX8_wordAt_118 hl (by decide) rfl (fun ls hl => ?_)
              refine lv_iinc (v := 6) (lv' := [(3, .int 6), (4, .int 30), (7, .int 4), (6, .int 0), (5, .int 4), (0, .ref (y 0)), (1, .int a), (2, .int b)]) hx hb dX8_wordAt_120 hl (k := 7) rfl (by decide) (by decide) rfl (fun ls hl => ?_)
              refine lv_goto (tgt := 5) hx hb dX8_wordAt_123 (by decide) ?_
              exact J_6_30 ls (lv_sub hl [5, 6, 7, 0, 1] rfl)
            ·
              refine lv_iconst (v := 1) hx hb dX8_wordAt_91 (by decide) ?_
              refine lv_goto (tgt := 96) hx hb dX8_wordAt_92 (by decide) ?_
              refine lv_istore (lv' := [(6, .int 1), (7, .int 3), (5, .int 4), (0, .ref (y 0)), (1, .int a), (2, .int b), (3, .int 5), (4, .int 25)]) hx hb dX8_wordAt_96 hl (by decide) rfl (fun ls hl => ?_)
              refine lv_iinc (v := 4) (lv' := [(7, .int 4), (6, .int 1), (5, .int 4), (0, .ref (y 0)), (1, .int a), (2, .int b), (3, .int 5), (4, .int 25)]) hx hb dX8_wordAt_98 hl (k := 1) rfl (by decide) (by decide) rfl (fun ls hl => ?_)
              refine lv_goto (tgt := 57) hx hb dX8_wordAt_101 (by decide) ?_
              refine lv_iload hx hb dX8_wordAt_57 (lv_at hl 0 rfl) ?_
              refine lv_iload hx hb dX8_wordAt_59 (lv_at hl 2 rfl) ?_
              refine lv_icmp_ge (tgt := 104) hx hb dX8_wordAt_61 (by decide) (fun _ => ?_) (fun h => absurd (by decide) h)
              refine lv_iload hx hb dX8_wordAt_104 (lv_at hl 1 rfl) ?_
              refine lv_if_eq (tgt := 111) hx hb dX8_wordAt_106 (by decide) (fun h => absurd h (by decide)) (fun _ => ?_)
              refine lv_iload_n hx hb dX8_wordAt_109 rfl (lv_at hl 6 rfl) ?_
              rw [← hQ]
              exact W.iret (v := 5) hx hb hr (fun t ht hW => ⟨_, rfl, Or.inr (vp_in_iff.mpr (by decide)), ht⟩) (fun q h => nomatch h) dX8_wordAt_110
  have J_4_21 : ∀ (ls : Array Slot), lv_has ls 8 [(0, .ref (y 0)), (1, .int a), (2, .int b), (3, .int 4), (4, .int 21)] → W p l e (headSpec wsX8_wordAt ({ frames := 0, cells := 0, slots := 0, locals := 0 } : Room)).room s m ([.ref (y 0), .int a, .int b] : List Value).toArray below meth c s.heap [] 0 0 Q0 (F0 m 5 ls []) := by
    intro ls hl
    refine lv_iload hx hb dX8_wordAt_5 (lv_at hl 4 rfl) ?_
    refine lv_aload_n hx hb dX8_wordAt_7 rfl (lv_at hl 0 rfl) ?_
    refine va_get (D := D) (ci := 8) (v := .ref (y 17)) (C := RX8) (T := TX8) (N := 52) hx hb hts w_1 hown hK hP 0 rfl rfl 34 (by decide) w_2 (fun _ h9 => h9) rfl dX8_wordAt_8 ?_
    refine va_alen (v := 43) hx hb hK hP 2 1 rfl rfl rfl dX8_wordAt_11 ?_
    refine lv_icmp_ge (tgt := 126) hx hb dX8_wordAt_12 (by decide) (fun h => absurd h (by decide)) (fun _ => ?_)
    refine lv_iconst (v := 0) hx hb dX8_wordAt_15 (by decide) ?_
    refine lv_istore (lv' := [(5, .int 0), (0, .ref (y 0)), (1, .int a), (2, .int b), (3, .int 4), (4, .int 21)]) hx hb dX8_wordAt_16 hl (by decide) rfl (fun ls hl => ?_)
    refine lv_aload_n hx hb dX8_wordAt_18 rfl (lv_at hl 1 rfl) ?_
    refine va_get (D := D) (ci := 8) (v := .ref (y 17)) (C := RX8) (T := TX8) (N := 52) hx hb hts w_1 hown hK hP 0 rfl rfl 34 (by decide) w_2 (fun _ h9 => h9) rfl dX8_wordAt_19 ?_
    refine lv_iload hx hb dX8_wordAt_22 (lv_at hl 5 rfl) ?_
    refine lv_iload hx hb dX8_wordAt_24 (lv_at hl 0 rfl) ?_
    refine sv_iadd (v := 21) hx hb dX8_wordAt_26 (by decide) ?_
    refine sv_iald (v := 97) hx hb hK hP 2 1 rfl rfl (vp_in_iff.mpr (by decide)) (hwf 21 (by decide)) dX8_wordAt_27 ?_
    refine lv_bipush (v := 32) hx hb dX8_wordAt_28 (by decide) ?_
    refine lv_icmp_eq (tgt := 39) hx hb dX8_wordAt_30 (by decide) (fun h => absurd h (by decide)) (fun _ => ?_)
    refine lv_iinc (v := 1) (lv' := [(5, .int 1), (0, .ref (y 0)), (1, .int a), (2, .int b), (3, .int 4), (4, .int 21)]) hx hb dX8_wordAt_33 hl (k := 0) rfl (by decide) (by decide) rfl (fun ls hl => ?_)
    refine lv_goto (tgt := 18) hx hb dX8_wordAt_36 (by decide) ?_
    refine lv_aload_n hx hb dX8_wordAt_18 rfl (lv_at hl 1 rfl) ?_
    refine va_get (D := D) (ci := 8) (v := .ref (y 17)) (C := RX8) (T := TX8) (N := 52) hx hb hts w_1 hown hK hP 0 rfl rfl 34 (by decide) w_2 (fun _ h9 => h9) rfl dX8_wordAt_19 ?_
    refine lv_iload hx hb dX8_wordAt_22 (lv_at hl 5 rfl) ?_
    refine lv_iload hx hb dX8_wordAt_24 (lv_at hl 0 rfl) ?_
    refine sv_iadd (v := 22) hx hb dX8_wordAt_26 (by decide) ?_
    refine sv_iald (v := 103) hx hb hK hP 2 1 rfl rfl (vp_in_iff.mpr (by decide)) (hwf 22 (by decide)) dX8_wordAt_27 ?_
    refine lv_bipush (v := 32) hx hb dX8_wordAt_28 (by decide) ?_
    refine lv_icmp_eq (tgt := 39) hx hb dX8_wordAt_30 (by decide) (fun h => absurd h (by decide)) (fun _ => ?_)
    refine lv_iinc (v := 2) (lv' := [(5, .int 2), (0, .ref (y 0)), (1, .int a), (2, .int b), (3, .int 4), (4, .int 21)]) hx hb dX8_wordAt_33 hl (k := 0) rfl (by decide) (by decide) rfl (fun ls hl => ?_)
    refine lv_goto (tgt := 18) hx hb dX8_wordAt_36 (by decide) ?_
    refine lv_aload_n hx hb dX8_wordAt_18 rfl (lv_at hl 1 rfl) ?_
    refine va_get (D := D) (ci := 8) (v := .ref (y 17)) (C := RX8) (T := TX8) (N := 52) hx hb hts w_1 hown hK hP 0 rfl rfl 34 (by decide) w_2 (fun _ h9 => h9) rfl dX8_wordAt_19 ?_
    refine lv_iload hx hb dX8_wordAt_22 (lv_at hl 5 rfl) ?_
    refine lv_iload hx hb dX8_wordAt_24 (lv_at hl 0 rfl) ?_
    refine sv_iadd (v := 23) hx hb dX8_wordAt_26 (by decide) ?_
    refine sv_iald (v := 101) hx hb hK hP 2 1 rfl rfl (vp_in_iff.mpr (by decide)) (hwf 23 (by decide)) dX8_wordAt_27 ?_
    refine lv_bipush (v := 32) hx hb dX8_wordAt_28 (by decide) ?_
    refine lv_icmp_eq (tgt := 39) hx hb dX8_wordAt_30 (by decide) (fun h => absurd h (by decide)) (fun _ => ?_)
    refine lv_iinc (v := 3) (lv' := [(5, .int 3), (0, .ref (y 0)), (1, .int a), (2, .int b), (3, .int 4), (4, .int 21)]) hx hb dX8_wordAt_33 hl (k := 0) rfl (by decide) (by decide) rfl (fun ls hl => ?_)
    refine lv_goto (tgt := 18) hx hb dX8_wordAt_36 (by decide) ?_
    refine lv_aload_n hx hb dX8_wordAt_18 rfl (lv_at hl 1 rfl) ?_
    refine va_get (D := D) (ci := 8) (v := .ref (y 17)) (C := RX8) (T := TX8) (N := 52) hx hb hts w_1 hown hK hP 0 rfl rfl 34 (by decide) w_2 (fun _ h9 => h9) rfl dX8_wordAt_19 ?_
    refine lv_iload hx hb dX8_wordAt_22 (lv_at hl 5 rfl) ?_
    refine lv_iload hx hb dX8_wordAt_24 (lv_at hl 0 rfl) ?_
    refine sv_iadd (v := 24) hx hb dX8_wordAt_26 (by decide) ?_
    refine sv_iald (v := 32) hx hb hK hP 2 1 rfl rfl (vp_in_iff.mpr (by decide)) (hwf 24 (by decide)) dX8_wordAt_27 ?_
    refine lv_bipush (v := 32) hx hb dX8_wordAt_28 (by decide) ?_
    refine lv_icmp_eq (tgt := 39) hx hb dX8_wordAt_30 (by decide) (fun _ => ?_) (fun h => absurd (by decide) h)
    refine lv_iload hx hb dX8_wordAt_39 (lv_at hl 0 rfl) ?_
    refine lv_iload_n hx hb dX8_wordAt_41 rfl (lv_at hl 3 rfl) ?_
    refine lv_iload_n hx hb dX8_wordAt_42 rfl (lv_at hl 2 rfl) ?_
    refine sv_isub (v := b - a) hx hb dX8_wordAt_43 rfl ?_
    refine lv_topi (fun v_31 ev_31 => ?_)
    refine lv_icmp_ne (tgt := 51) hx hb dX8_wordAt_44 (by decide) (fun c_44 => ?_) (fun c_44 => ?_)
    ·
      refine lv_iconst (v := 0) hx hb dX8_wordAt_51 (by decide) ?_
      refine lv_istore (lv' := [(6, .int 0), (5, .int 3), (0, .ref (y 0)), (1, .int a), (2, .int b), (3, .int 4), (4, .int 21)]) hx hb dX8_wordAt_52 hl (by decide) rfl (fun ls hl => ?_)
      refine lv_iconst (v := 0) hx hb dX8_wordAt_54 (by decide) ?_
      refine lv_istore (lv' := [(7, .int 0), (6, .int 0), (5, .int 3), (0, .ref (y 0)), (1, .int a), (2, .int b), (3, .int 4), (4, .int 21)]) hx hb dX8_wordAt_55 hl (by decide) rfl (fun ls hl => ?_)
      refine lv_iload hx hb dX8_wordAt_57 (lv_at hl 0 rfl) ?_
      refine lv_iload hx hb dX8_wordAt_59 (lv_at hl 2 rfl) ?_
      refine lv_icmp_ge (tgt := 104) hx hb dX8_wordAt_61 (by decide) (fun h => absurd h (by decide)) (fun _ => ?_)
      refine lv_iload hx hb dX8_wordAt_64 (lv_at hl 1 rfl) ?_
      refine lv_if_eq (tgt := 104) hx hb dX8_wordAt_66 (by decide) (fun _ => ?_) (fun h => absurd (by decide) h)
      refine lv_iload hx hb dX8_wordAt_104 (lv_at hl 1 rfl) ?_
      refine lv_if_eq (tgt := 111) hx hb dX8_wordAt_106 (by decide) (fun _ => ?_) (fun h => absurd (by decide) h)
      refine lv_iload hx hb dX8_wordAt_111 (lv_at hl 7 rfl) ?_
      refine lv_iload hx hb dX8_wordAt_113 (lv_at hl 2 rfl) ?_
      refine lv_iconst (v := 1) hx hb dX8_wordAt_115 (by decide) ?_
      refine sv_iadd (v := 4) hx hb dX8_wordAt_116 (by decide) ?_
      refine sv_iadd (v := 25) hx hb dX8_wordAt_117 (by decide) ?_
      refine lv_istore (lv' := [(4, .int 25), (7, .int 0), (6, .int 0), (5, .int 3), (0, .ref (y 0)), (1, .int a), (2, .int b), (3, .int 4)]) hx hb dX8_wordAt_118 hl (by decide) rfl (fun ls hl => ?_)
      refine lv_iinc (v := 5) (lv' := [(3, .int 5), (4, .int 25), (7, .int 0), (6, .int 0), (5, .int 3), (0, .ref (y 0)), (1, .int a), (2, .int b)]) hx hb dX8_wordAt_120 hl (k := 7) rfl (by decide) (by decide) rfl (fun ls hl => ?_)
      refine lv_goto (tgt := 5) hx hb dX8_wordAt_123 (by decide) ?_
      exact J_5_25 ls (lv_sub hl [5, 6, 7, 0, 1] rfl)
    ·
      refine lv_iconst (v := 1) hx hb dX8_wordAt_47 (by decide) ?_
      refine lv_goto (tgt := 52) hx hb dX8_wordAt_48 (by decide) ?_
      refine lv_istore (lv' := [(6, .int 1), (5, .int 3), (0, .ref (y 0)), (1, .int a), (2, .int b), (3, .int 4), (4, .int 21)]) hx hb dX8_wordAt_52 hl (by decide) rfl (fun ls hl => ?_)
      refine lv_iconst (v := 0) hx hb dX8_wordAt_54 (by decide) ?_
      refine lv_istore (lv' := [(7, .int 0), (6, .int 1), (5, .int 3), (0, .ref (y 0)), (1, .int a), (2, .int b), (3, .int 4), (4, .int 21)]) hx hb dX8_wordAt_55 hl (by decide) rfl (fun ls hl => ?_)
      refine lv_iload hx hb dX8_wordAt_57 (lv_at hl 0 rfl) ?_
      refine lv_iload hx hb dX8_wordAt_59 (lv_at hl 2 rfl) ?_
      refine lv_icmp_ge (tgt := 104) hx hb dX8_wordAt_61 (by decide) (fun h => absurd h (by decide)) (fun _ => ?_)
      refine lv_iload hx hb dX8_wordAt_64 (lv_at hl 1 rfl) ?_
      refine lv_if_eq (tgt := 104) hx hb dX8_wordAt_66 (by decide) (fun h => absurd h (by decide)) (fun _ => ?_)
      refine lv_aload_n hx hb dX8_wordAt_69 rfl (lv_at hl 3 rfl) ?_
      refine va_get (D := D) (ci := 8) (v := .ref (y 17)) (C := RX8) (T := TX8) (N := 52) hx hb hts w_1 hown hK hP 0 rfl rfl 34 (by decide) w_2 (fun _ h9 => h9) rfl dX8_wordAt_70 ?_
      refine lv_iload hx hb dX8_wordAt_73 (lv_at hl 7 rfl) ?_
      refine lv_iload hx hb dX8_wordAt_75 (lv_at hl 0 rfl) ?_
      refine sv_iadd (v := 21) hx hb dX8_wordAt_77 (by decide) ?_
      refine sv_iald (v := 97) hx hb hK hP 2 1 rfl rfl (vp_in_iff.mpr (by decide)) (hwf 21 (by decide)) dX8_wordAt_78 ?_
      refine lv_aload_n hx hb dX8_wordAt_79 rfl (lv_at hl 3 rfl) ?_
      refine va_get (D := D) (ci := 8) (v := .ref (y 1)) (C := RX8) (T := TX8) (N := 52) hx hb hts w_1 hown hK hP 0 rfl rfl 0 (by decide) w_3 (fun _ h9 => h9) rfl dX8_wordAt_80 ?_
      refine lv_iload_n hx hb dX8_wordAt_83 rfl (lv_at hl 4 rfl) ?_
      refine lv_iload hx hb dX8_wordAt_84 (lv_at hl 0 rfl) ?_
      refine sv_iadd (v := a + 0) hx hb dX8_wordAt_86 rfl ?_
      refine lv_topi (fun v_32 ev_32 => ?_)
      refine sv_iald (v := m_tape v_32.toNatClampNeg) hx hb hK hP 1 1 rfl rfl (by rw [ev_32]; exact wa_in h0 hab hb9 (c_44.trans ev_31) (by decide)) rfl dX8_wordAt_87 ?_
      refine lv_topi (fun v_33 ev_33 => ?_)
      refine lv_icmp_ne (tgt := 95) hx hb dX8_wordAt_88 (by decide) (fun c_88 => ?_) (fun c_88 => ?_)
      ·
        refine lv_iconst (v := 0) hx hb dX8_wordAt_95 (by decide) ?_
        refine lv_istore (lv' := [(6, .int 0), (7, .int 0), (5, .int 3), (0, .ref (y 0)), (1, .int a), (2, .int b), (3, .int 4), (4, .int 21)]) hx hb dX8_wordAt_96 hl (by decide) rfl (fun ls hl => ?_)
        refine lv_iinc (v := 1) (lv' := [(7, .int 1), (6, .int 0), (5, .int 3), (0, .ref (y 0)), (1, .int a), (2, .int b), (3, .int 4), (4, .int 21)]) hx hb dX8_wordAt_98 hl (k := 1) rfl (by decide) (by decide) rfl (fun ls hl => ?_)
        refine lv_goto (tgt := 57) hx hb dX8_wordAt_101 (by decide) ?_
        refine lv_iload hx hb dX8_wordAt_57 (lv_at hl 0 rfl) ?_
        refine lv_iload hx hb dX8_wordAt_59 (lv_at hl 2 rfl) ?_
        refine lv_icmp_ge (tgt := 104) hx hb dX8_wordAt_61 (by decide) (fun h => absurd h (by decide)) (fun _ => ?_)
        refine lv_iload hx hb dX8_wordAt_64 (lv_at hl 1 rfl) ?_
        refine lv_if_eq (tgt := 104) hx hb dX8_wordAt_66 (by decide) (fun _ => ?_) (fun h => absurd (by decide) h)
        refine lv_iload hx hb dX8_wordAt_104 (lv_at hl 1 rfl) ?_
        refine lv_if_eq (tgt := 111) hx hb dX8_wordAt_106 (by decide) (fun _ => ?_) (fun h => absurd (by decide) h)
        refine lv_iload hx hb dX8_wordAt_111 (lv_at hl 7 rfl) ?_
        refine lv_iload hx hb dX8_wordAt_113 (lv_at hl 2 rfl) ?_
        refine lv_iconst (v := 1) hx hb dX8_wordAt_115 (by decide) ?_
        refine sv_iadd (v := 4) hx hb dX8_wordAt_116 (by decide) ?_
        refine sv_iadd (v := 25) hx hb dX8_wordAt_117 (by decide) ?_
        refine lv_istore (lv' := [(4, .int 25), (7, .int 1), (6, .int 0), (5, .int 3), (0, .ref (y 0)), (1, .int a), (2, .int b), (3, .int 4)]) hx hb dX8_wordAt_118 hl (by decide) rfl (fun ls hl => ?_)
        refine lv_iinc (v := 5) (lv' := [(3, .int 5), (4, .int 25), (7, .int 1), (6, .int 0), (5, .int 3), (0, .ref (y 0)), (1, .int a), (2, .int b)]) hx hb dX8_wordAt_120 hl (k := 7) rfl (by decide) (by decide) rfl (fun ls hl => ?_)
        refine lv_goto (tgt := 5) hx hb dX8_wordAt_123 (by decide) ?_
        exact J_5_25 ls (lv_sub hl [5, 6, 7, 0, 1] rfl)
      ·
        refine lv_iconst (v := 1) hx hb dX8_wordAt_91 (by decide) ?_
        refine lv_goto (tgt := 96) hx hb dX8_wordAt_92 (by decide) ?_
        refine lv_istore (lv' := [(6, .int 1), (7, .int 0), (5, .int 3), (0, .ref (y 0)), (1, .int a), (2, .int b), (3, .int 4), (4, .int 21)]) hx hb dX8_wordAt_96 hl (by decide) rfl (fun ls hl => ?_)
        refine lv_iinc (v := 1) (lv' := [(7, .int 1), (6, .int 1), (5, .int 3), (0, .ref (y 0)), (1, .int a), (2, .int b), (3, .int 4), (4, .int 21)]) hx hb dX8_wordAt_98 hl (k := 1) rfl (by decide) (by decide) rfl (fun ls hl => ?_)
        refine lv_goto (tgt := 57) hx hb dX8_wordAt_101 (by decide) ?_
        refine lv_iload hx hb dX8_wordAt_57 (lv_at hl 0 rfl) ?_
        refine lv_iload hx hb dX8_wordAt_59 (lv_at hl 2 rfl) ?_
        refine lv_icmp_ge (tgt := 104) hx hb dX8_wordAt_61 (by decide) (fun h => absurd h (by decide)) (fun _ => ?_)
        refine lv_iload hx hb dX8_wordAt_64 (lv_at hl 1 rfl) ?_
        refine lv_if_eq (tgt := 104) hx hb dX8_wordAt_66 (by decide) (fun h => absurd h (by decide)) (fun _ => ?_)
        refine lv_aload_n hx hb dX8_wordAt_69 rfl (lv_at hl 3 rfl) ?_
        refine va_get (D := D) (ci := 8) (v := .ref (y 17)) (C := RX8) (T := TX8) (N := 52) hx hb hts w_1 hown hK hP 0 rfl rfl 34 (by decide) w_2 (fun _ h9 => h9) rfl dX8_wordAt_70 ?_
        refine lv_iload hx hb dX8_wordAt_73 (lv_at hl 7 rfl) ?_
        refine lv_iload hx hb dX8_wordAt_75 (lv_at hl 0 rfl) ?_
        refine sv_iadd (v := 22) hx hb dX8_wordAt_77 (by decide) ?_
        refine sv_iald (v := 103) hx hb hK hP 2 1 rfl rfl (vp_in_iff.mpr (by decide)) (hwf 22 (by decide)) dX8_wordAt_78 ?_
        refine lv_aload_n hx hb dX8_wordAt_79 rfl (lv_at hl 3 rfl) ?_
        refine va_get (D := D) (ci := 8) (v := .ref (y 1)) (C := RX8) (T := TX8) (N := 52) hx hb hts w_1 hown hK hP 0 rfl rfl 0 (by decide) w_3 (fun _ h9 => h9) rfl dX8_wordAt_80 ?_
        refine lv_iload_n hx hb dX8_wordAt_83 rfl (lv_at hl 4 rfl) ?_
        refine lv_iload hx hb dX8_wordAt_84 (lv_at hl 0 rfl) ?_
        refine sv_iadd (v := a + 1) hx hb dX8_wordAt_86 rfl ?_
        refine sv_iald (v := m_tape (a + 1).toNatClampNeg) hx hb hK hP 1 1 rfl rfl (wa_in h0 hab hb9 (c_44.trans ev_31) (by decide)) rfl dX8_wordAt_87 ?_
        refine lv_topi (fun v_34 ev_34 => ?_)
        refine lv_icmp_ne (tgt := 95) hx hb dX8_wordAt_88 (by decide) (fun c_88 => ?_) (fun c_88 => ?_)
        ·
          refine lv_iconst (v := 0) hx hb dX8_wordAt_95 (by decide) ?_
          refine lv_istore (lv' := [(6, .int 0), (7, .int 1), (5, .int 3), (0, .ref (y 0)), (1, .int a), (2, .int b), (3, .int 4), (4, .int 21)]) hx hb dX8_wordAt_96 hl (by decide) rfl (fun ls hl => ?_)
          refine lv_iinc (v := 2) (lv' := [(7, .int 2), (6, .int 0), (5, .int 3), (0, .ref (y 0)), (1, .int a), (2, .int b), (3, .int 4), (4, .int 21)]) hx hb dX8_wordAt_98 hl (k := 1) rfl (by decide) (by decide) rfl (fun ls hl => ?_)
          refine lv_goto (tgt := 57) hx hb dX8_wordAt_101 (by decide) ?_
          refine lv_iload hx hb dX8_wordAt_57 (lv_at hl 0 rfl) ?_
          refine lv_iload hx hb dX8_wordAt_59 (lv_at hl 2 rfl) ?_
          refine lv_icmp_ge (tgt := 104) hx hb dX8_wordAt_61 (by decide) (fun h => absurd h (by decide)) (fun _ => ?_)
          refine lv_iload hx hb dX8_wordAt_64 (lv_at hl 1 rfl) ?_
          refine lv_if_eq (tgt := 104) hx hb dX8_wordAt_66 (by decide) (fun _ => ?_) (fun h => absurd (by decide) h)
          refine lv_iload hx hb dX8_wordAt_104 (lv_at hl 1 rfl) ?_
          refine lv_if_eq (tgt := 111) hx hb dX8_wordAt_106 (by decide) (fun _ => ?_) (fun h => absurd (by decide) h)
          refine lv_iload hx hb dX8_wordAt_111 (lv_at hl 7 rfl) ?_
          refine lv_iload hx hb dX8_wordAt_113 (lv_at hl 2 rfl) ?_
          refine lv_iconst (v := 1) hx hb dX8_wordAt_115 (by decide) ?_
          refine sv_iadd (v := 4) hx hb dX8_wordAt_116 (by decide) ?_
          refine sv_iadd (v := 25) hx hb dX8_wordAt_117 (by decide) ?_
          refine lv_istore (lv' := [(4, .int 25), (7, .int 2), (6, .int 0), (5, .int 3), (0, .ref (y 0)), (1, .int a), (2, .int b), (3, .int 4)]) hx hb dX8_wordAt_118 hl (by decide) rfl (fun ls hl => ?_)
          refine lv_iinc (v := 5) (lv' := [(3, .int 5), (4, .int 25), (7, .int 2), (6, .int 0), (5, .int 3), (0, .ref (y 0)), (1, .int a), (2, .int b)]) hx hb dX8_wordAt_120 hl (k := 7) rfl (by decide) (by decide) rfl (fun ls hl => ?_)
          refine lv_goto (tgt := 5) hx hb dX8_wordAt_123 (by decide) ?_
          exact J_5_25 ls (lv_sub hl [5, 6, 7, 0, 1] rfl)
        ·
          refine lv_iconst (v := 1) hx hb dX8_wordAt_91 (by decide) ?_
          refine lv_goto (tgt := 96) hx hb dX8_wordAt_92 (by decide) ?_
          refine lv_istore (lv' := [(6, .int 1), (7, .int 1), (5, .int 3), (0, .ref (y 0)), (1, .int a), (2, .int b), (3, .int 4), (4, .int 21)]) hx hb dX8_wordAt_96 hl (by decide) rfl (fun ls hl => ?_)
          refine lv_iinc (v := 2) (lv' := [(7, .int 2), (6, .int 1), (5, .int 3), (0, .ref (y 0)), (1, .int a), (2, .int b), (3, .int 4), (4, .int 21)]) hx hb dX8_wordAt_98 hl (k := 1) rfl (by decide) (by decide) rfl (fun ls hl => ?_)
          refine lv_goto (tgt := 57) hx hb dX8_wordAt_101 (by decide) ?_
          refine lv_iload hx hb dX8_wordAt_57 (lv_at hl 0 rfl) ?_
          refine lv_iload hx hb dX8_wordAt_59 (lv_at hl 2 rfl) ?_
          refine lv_icmp_ge (tgt := 104) hx hb dX8_wordAt_61 (by decide) (fun h => absurd h (by decide)) (fun _ => ?_)
          refine lv_iload hx hb dX8_wordAt_64 (lv_at hl 1 rfl) ?_
          refine lv_if_eq (tgt := 104) hx hb dX8_wordAt_66 (by decide) (fun h => absurd h (by decide)) (fun _ => ?_)
          refine lv_aload_n hx hb dX8_wordAt_69 rfl (lv_at hl 3 rfl) ?_
          refine va_get (D := D) (ci := 8) (v := .ref (y 17)) (C := RX8) (T := TX8) (N := 52) hx hb hts w_1 hown hK hP 0 rfl rfl 34 (by decide) w_2 (fun _ h9 => h9) rfl dX8_wordAt_70 ?_
          refine lv_iload hx hb dX8_wordAt_73 (lv_at hl 7 rfl) ?_
          refine lv_iload hx hb dX8_wordAt_75 (lv_at hl 0 rfl) ?_
          refine sv_iadd (v := 23) hx hb dX8_wordAt_77 (by decide) ?_
          refine sv_iald (v := 101) hx hb hK hP 2 1 rfl rfl (vp_in_iff.mpr (by decide)) (hwf 23 (by decide)) dX8_wordAt_78 ?_
          refine lv_aload_n hx hb dX8_wordAt_79 rfl (lv_at hl 3 rfl) ?_
          refine va_get (D := D) (ci := 8) (v := .ref (y 1)) (C := RX8) (T := TX8) (N := 52) hx hb hts w_1 hown hK hP 0 rfl rfl 0 (by decide) w_3 (fun _ h9 => h9) rfl dX8_wordAt_80 ?_
          refine lv_iload_n hx hb dX8_wordAt_83 rfl (lv_at hl 4 rfl) ?_
          refine lv_iload hx hb dX8_wordAt_84 (lv_at hl 0 rfl) ?_
          refine sv_iadd (v := a + 2) hx hb dX8_wordAt_86 rfl ?_
          refine lv_topi (fun v_35 ev_35 => ?_)
          refine sv_iald (v := m_tape v_35.toNatClampNeg) hx hb hK hP 1 1 rfl rfl (by rw [ev_35]; exact wa_in h0 hab hb9 (c_44.trans ev_31) (by decide)) rfl dX8_wordAt_87 ?_
          refine lv_topi (fun v_36 ev_36 => ?_)
          refine lv_icmp_ne (tgt := 95) hx hb dX8_wordAt_88 (by decide) (fun c_88 => ?_) (fun c_88 => ?_)
          ·
            refine lv_iconst (v := 0) hx hb dX8_wordAt_95 (by decide) ?_
            refine lv_istore (lv' := [(6, .int 0), (7, .int 2), (5, .int 3), (0, .ref (y 0)), (1, .int a), (2, .int b), (3, .int 4), (4, .int 21)]) hx hb dX8_wordAt_96 hl (by decide) rfl (fun ls hl => ?_)
            refine lv_iinc (v := 3) (lv' := [(7, .int 3), (6, .int 0), (5, .int 3), (0, .ref (y 0)), (1, .int a), (2, .int b), (3, .int 4), (4, .int 21)]) hx hb dX8_wordAt_98 hl (k := 1) rfl (by decide) (by decide) rfl (fun ls hl => ?_)
            refine lv_goto (tgt := 57) hx hb dX8_wordAt_101 (by decide) ?_
            refine lv_iload hx hb dX8_wordAt_57 (lv_at hl 0 rfl) ?_
            refine lv_iload hx hb dX8_wordAt_59 (lv_at hl 2 rfl) ?_
            refine lv_icmp_ge (tgt := 104) hx hb dX8_wordAt_61 (by decide) (fun _ => ?_) (fun h => absurd (by decide) h)
            refine lv_iload hx hb dX8_wordAt_104 (lv_at hl 1 rfl) ?_
            refine lv_if_eq (tgt := 111) hx hb dX8_wordAt_106 (by decide) (fun _ => ?_) (fun h => absurd (by decide) h)
            refine lv_iload hx hb dX8_wordAt_111 (lv_at hl 7 rfl) ?_
            refine lv_iload hx hb dX8_wordAt_113 (lv_at hl 2 rfl) ?_
            refine lv_iconst (v := 1) hx hb dX8_wordAt_115 (by decide) ?_
            refine sv_iadd (v := 4) hx hb dX8_wordAt_116 (by decide) ?_
            refine sv_iadd (v := 25) hx hb dX8_wordAt_117 (by decide) ?_
            refine lv_istore (lv' := [(4, .int 25), (7, .int 3), (6, .int 0), (5, .int 3), (0, .ref (y 0)), (1, .int a), (2, .int b), (3, .int 4)]) hx hb dX8_wordAt_118 hl (by decide) rfl (fun ls hl => ?_)
            refine lv_iinc (v := 5) (lv' := [(3, .int 5), (4, .int 25), (7, .int 3), (6, .int 0), (5, .int 3), (0, .ref (y 0)), (1, .int a), (2, .int b)]) hx hb dX8_wordAt_120 hl (k := 7) rfl (by decide) (by decide) rfl (fun ls hl => ?_)
            refine lv_goto (tgt := 5) hx hb dX8_wordAt_123 (by decide) ?_
            exact J_5_25 ls (lv_sub hl [5, 6, 7, 0, 1] rfl)
          ·
            refine lv_iconst (v := 1) hx hb dX8_wordAt_91 (by decide) ?_
            refine lv_goto (tgt := 96) hx hb dX8_wordAt_92 (by decide) ?_
            refine lv_istore (lv' := [(6, .int 1), (7, .int 2), (5, .int 3), (0, .ref (y 0)), (1, .int a), (2, .int b), (3, .int 4), (4, .int 21)]) hx hb dX8_wordAt_96 hl (by decide) rfl (fun ls hl => ?_)
            refine lv_iinc (v := 3) (lv' := [(7, .int 3), (6, .int 1), (5, .int 3), (0, .ref (y 0)), (1, .int a), (2, .int b), (3, .int 4), (4, .int 21)]) hx hb dX8_wordAt_98 hl (k := 1) rfl (by decide) (by decide) rfl (fun ls hl => ?_)
            refine lv_goto (tgt := 57) hx hb dX8_wordAt_101 (by decide) ?_
            refine lv_iload hx hb dX8_wordAt_57 (lv_at hl 0 rfl) ?_
            refine lv_iload hx hb dX8_wordAt_59 (lv_at hl 2 rfl) ?_
            refine lv_icmp_ge (tgt := 104) hx hb dX8_wordAt_61 (by decide) (fun _ => ?_) (fun h => absurd (by decide) h)
            refine lv_iload hx hb dX8_wordAt_104 (lv_at hl 1 rfl) ?_
            refine lv_if_eq (tgt := 111) hx hb dX8_wordAt_106 (by decide) (fun h => absurd h (by decide)) (fun _ => ?_)
            refine lv_iload_n hx hb dX8_wordAt_109 rfl (lv_at hl 6 rfl) ?_
            rw [← hQ]
            exact W.iret (v := 4) hx hb hr (fun t ht hW => ⟨_, rfl, Or.inr (vp_in_iff.mpr (by decide)), ht⟩) (fun q h => nomatch h) dX8_wordAt_110
  have J_3_15 : ∀ (ls : Array Slot), lv_has ls 8 [(0, .ref (y 0)), (1, .int a), (2, .int b), (3, .int 3), (4, .int 15)] → W p l e (headSpec wsX8_wordAt ({ frames := 0, cells := 0, slots := 0, locals := 0 } : Room)).room s m ([.ref (y 0), .int a, .int b] : List Value).toArray below meth c s.heap [] 0 0 Q0 (F0 m 5 ls []) := by
    intro ls hl
    refine lv_iload hx hb dX8_wordAt_5 (lv_at hl 4 rfl) ?_
    refine lv_aload_n hx hb dX8_wordAt_7 rfl (lv_at hl 0 rfl) ?_
    refine va_get (D := D) (ci := 8) (v := .ref (y 17)) (C := RX8) (T := TX8) (N := 52) hx hb hts w_1 hown hK hP 0 rfl rfl 34 (by decide) w_2 (fun _ h9 => h9) rfl dX8_wordAt_8 ?_
    refine va_alen (v := 43) hx hb hK hP 2 1 rfl rfl rfl dX8_wordAt_11 ?_
    refine lv_icmp_ge (tgt := 126) hx hb dX8_wordAt_12 (by decide) (fun h => absurd h (by decide)) (fun _ => ?_)
    refine lv_iconst (v := 0) hx hb dX8_wordAt_15 (by decide) ?_
    refine lv_istore (lv' := [(5, .int 0), (0, .ref (y 0)), (1, .int a), (2, .int b), (3, .int 3), (4, .int 15)]) hx hb dX8_wordAt_16 hl (by decide) rfl (fun ls hl => ?_)
    refine lv_aload_n hx hb dX8_wordAt_18 rfl (lv_at hl 1 rfl) ?_
    refine va_get (D := D) (ci := 8) (v := .ref (y 17)) (C := RX8) (T := TX8) (N := 52) hx hb hts w_1 hown hK hP 0 rfl rfl 34 (by decide) w_2 (fun _ h9 => h9) rfl dX8_wordAt_19 ?_
    refine lv_iload hx hb dX8_wordAt_22 (lv_at hl 5 rfl) ?_
    refine lv_iload hx hb dX8_wordAt_24 (lv_at hl 0 rfl) ?_
    refine sv_iadd (v := 15) hx hb dX8_wordAt_26 (by decide) ?_
    refine sv_iald (v := 99) hx hb hK hP 2 1 rfl rfl (vp_in_iff.mpr (by decide)) (hwf 15 (by decide)) dX8_wordAt_27 ?_
    refine lv_bipush (v := 32) hx hb dX8_wordAt_28 (by decide) ?_
    refine lv_icmp_eq (tgt := 39) hx hb dX8_wordAt_30 (by decide) (fun h => absurd h (by decide)) (fun _ => ?_)
    refine lv_iinc (v := 1) (lv' := [(5, .int 1), (0, .ref (y 0)), (1, .int a), (2, .int b), (3, .int 3), (4, .int 15)]) hx hb dX8_wordAt_33 hl (k := 0) rfl (by decide) (by decide) rfl (fun ls hl => ?_)
    refine lv_goto (tgt := 18) hx hb dX8_wordAt_36 (by decide) ?_
    refine lv_aload_n hx hb dX8_wordAt_18 rfl (lv_at hl 1 rfl) ?_
    refine va_get (D := D) (ci := 8) (v := .ref (y 17)) (C := RX8) (T := TX8) (N := 52) hx hb hts w_1 hown hK hP 0 rfl rfl 34 (by decide) w_2 (fun _ h9 => h9) rfl dX8_wordAt_19 ?_
    refine lv_iload hx hb dX8_wordAt_22 (lv_at hl 5 rfl) ?_
    refine lv_iload hx hb dX8_wordAt_24 (lv_at hl 0 rfl) ?_
    refine sv_iadd (v := 16) hx hb dX8_wordAt_26 (by decide) ?_
    refine sv_iald (v := 121) hx hb hK hP 2 1 rfl rfl (vp_in_iff.mpr (by decide)) (hwf 16 (by decide)) dX8_wordAt_27 ?_
    refine lv_bipush (v := 32) hx hb dX8_wordAt_28 (by decide) ?_
    refine lv_icmp_eq (tgt := 39) hx hb dX8_wordAt_30 (by decide) (fun h => absurd h (by decide)) (fun _ => ?_)
    refine lv_iinc (v := 2) (lv' := [(5, .int 2), (0, .ref (y 0)), (1, .int a), (2, .int b), (3, .int 3), (4, .int 15)]) hx hb dX8_wordAt_33 hl (k := 0) rfl (by decide) (by decide) rfl (fun ls hl => ?_)
    refine lv_goto (tgt := 18) hx hb dX8_wordAt_36 (by decide) ?_
    refine lv_aload_n hx hb dX8_wordAt_18 rfl (lv_at hl 1 rfl) ?_
    refine va_get (D := D) (ci := 8) (v := .ref (y 17)) (C := RX8) (T := TX8) (N := 52) hx hb hts w_1 hown hK hP 0 rfl rfl 34 (by decide) w_2 (fun _ h9 => h9) rfl dX8_wordAt_19 ?_
    refine lv_iload hx hb dX8_wordAt_22 (lv_at hl 5 rfl) ?_
    refine lv_iload hx hb dX8_wordAt_24 (lv_at hl 0 rfl) ?_
    refine sv_iadd (v := 17) hx hb dX8_wordAt_26 (by decide) ?_
    refine sv_iald (v := 99) hx hb hK hP 2 1 rfl rfl (vp_in_iff.mpr (by decide)) (hwf 17 (by decide)) dX8_wordAt_27 ?_
    refine lv_bipush (v := 32) hx hb dX8_wordAt_28 (by decide) ?_
    refine lv_icmp_eq (tgt := 39) hx hb dX8_wordAt_30 (by decide) (fun h => absurd h (by decide)) (fun _ => ?_)
    refine lv_iinc (v := 3) (lv' := [(5, .int 3), (0, .ref (y 0)), (1, .int a), (2, .int b), (3, .int 3), (4, .int 15)]) hx hb dX8_wordAt_33 hl (k := 0) rfl (by decide) (by decide) rfl (fun ls hl => ?_)
    refine lv_goto (tgt := 18) hx hb dX8_wordAt_36 (by decide) ?_
    refine lv_aload_n hx hb dX8_wordAt_18 rfl (lv_at hl 1 rfl) ?_
    refine va_get (D := D) (ci := 8) (v := .ref (y 17)) (C := RX8) (T := TX8) (N := 52) hx hb hts w_1 hown hK hP 0 rfl rfl 34 (by decide) w_2 (fun _ h9 => h9) rfl dX8_wordAt_19 ?_
    refine lv_iload hx hb dX8_wordAt_22 (lv_at hl 5 rfl) ?_
    refine lv_iload hx hb dX8_wordAt_24 (lv_at hl 0 rfl) ?_
    refine sv_iadd (v := 18) hx hb dX8_wordAt_26 (by decide) ?_
    refine sv_iald (v := 108) hx hb hK hP 2 1 rfl rfl (vp_in_iff.mpr (by decide)) (hwf 18 (by decide)) dX8_wordAt_27 ?_
    refine lv_bipush (v := 32) hx hb dX8_wordAt_28 (by decide) ?_
    refine lv_icmp_eq (tgt := 39) hx hb dX8_wordAt_30 (by decide) (fun h => absurd h (by decide)) (fun _ => ?_)
    refine lv_iinc (v := 4) (lv' := [(5, .int 4), (0, .ref (y 0)), (1, .int a), (2, .int b), (3, .int 3), (4, .int 15)]) hx hb dX8_wordAt_33 hl (k := 0) rfl (by decide) (by decide) rfl (fun ls hl => ?_)
    refine lv_goto (tgt := 18) hx hb dX8_wordAt_36 (by decide) ?_
    refine lv_aload_n hx hb dX8_wordAt_18 rfl (lv_at hl 1 rfl) ?_
    refine va_get (D := D) (ci := 8) (v := .ref (y 17)) (C := RX8) (T := TX8) (N := 52) hx hb hts w_1 hown hK hP 0 rfl rfl 34 (by decide) w_2 (fun _ h9 => h9) rfl dX8_wordAt_19 ?_
    refine lv_iload hx hb dX8_wordAt_22 (lv_at hl 5 rfl) ?_
    refine lv_iload hx hb dX8_wordAt_24 (lv_at hl 0 rfl) ?_
    refine sv_iadd (v := 19) hx hb dX8_wordAt_26 (by decide) ?_
    refine sv_iald (v := 101) hx hb hK hP 2 1 rfl rfl (vp_in_iff.mpr (by decide)) (hwf 19 (by decide)) dX8_wordAt_27 ?_
    refine lv_bipush (v := 32) hx hb dX8_wordAt_28 (by decide) ?_
    refine lv_icmp_eq (tgt := 39) hx hb dX8_wordAt_30 (by decide) (fun h => absurd h (by decide)) (fun _ => ?_)
    refine lv_iinc (v := 5) (lv' := [(5, .int 5), (0, .ref (y 0)), (1, .int a), (2, .int b), (3, .int 3), (4, .int 15)]) hx hb dX8_wordAt_33 hl (k := 0) rfl (by decide) (by decide) rfl (fun ls hl => ?_)
    refine lv_goto (tgt := 18) hx hb dX8_wordAt_36 (by decide) ?_
    refine lv_aload_n hx hb dX8_wordAt_18 rfl (lv_at hl 1 rfl) ?_
    refine va_get (D := D) (ci := 8) (v := .ref (y 17)) (C := RX8) (T := TX8) (N := 52) hx hb hts w_1 hown hK hP 0 rfl rfl 34 (by decide) w_2 (fun _ h9 => h9) rfl dX8_wordAt_19 ?_
    refine lv_iload hx hb dX8_wordAt_22 (lv_at hl 5 rfl) ?_
    refine lv_iload hx hb dX8_wordAt_24 (lv_at hl 0 rfl) ?_
    refine sv_iadd (v := 20) hx hb dX8_wordAt_26 (by decide) ?_
    refine sv_iald (v := 32) hx hb hK hP 2 1 rfl rfl (vp_in_iff.mpr (by decide)) (hwf 20 (by decide)) dX8_wordAt_27 ?_
    refine lv_bipush (v := 32) hx hb dX8_wordAt_28 (by decide) ?_
    refine lv_icmp_eq (tgt := 39) hx hb dX8_wordAt_30 (by decide) (fun _ => ?_) (fun h => absurd (by decide) h)
    refine lv_iload hx hb dX8_wordAt_39 (lv_at hl 0 rfl) ?_
    refine lv_iload_n hx hb dX8_wordAt_41 rfl (lv_at hl 3 rfl) ?_
    refine lv_iload_n hx hb dX8_wordAt_42 rfl (lv_at hl 2 rfl) ?_
    refine sv_isub (v := b - a) hx hb dX8_wordAt_43 rfl ?_
    refine lv_topi (fun v_37 ev_37 => ?_)
    refine lv_icmp_ne (tgt := 51) hx hb dX8_wordAt_44 (by decide) (fun c_44 => ?_) (fun c_44 => ?_)
    ·
      refine lv_iconst (v := 0) hx hb dX8_wordAt_51 (by decide) ?_
      refine lv_istore (lv' := [(6, .int 0), (5, .int 5), (0, .ref (y 0)), (1, .int a), (2, .int b), (3, .int 3), (4, .int 15)]) hx hb dX8_wordAt_52 hl (by decide) rfl (fun ls hl => ?_)
      refine lv_iconst (v := 0) hx hb dX8_wordAt_54 (by decide) ?_
      refine lv_istore (lv' := [(7, .int 0), (6, .int 0), (5, .int 5), (0, .ref (y 0)), (1, .int a), (2, .int b), (3, .int 3), (4, .int 15)]) hx hb dX8_wordAt_55 hl (by decide) rfl (fun ls hl => ?_)
      refine lv_iload hx hb dX8_wordAt_57 (lv_at hl 0 rfl) ?_
      refine lv_iload hx hb dX8_wordAt_59 (lv_at hl 2 rfl) ?_
      refine lv_icmp_ge (tgt := 104) hx hb dX8_wordAt_61 (by decide) (fun h => absurd h (by decide)) (fun _ => ?_)
      refine lv_iload hx hb dX8_wordAt_64 (lv_at hl 1 rfl) ?_
      refine lv_if_eq (tgt := 104) hx hb dX8_wordAt_66 (by decide) (fun _ => ?_) (fun h => absurd (by decide) h)
      refine lv_iload hx hb dX8_wordAt_104 (lv_at hl 1 rfl) ?_
      refine lv_if_eq (tgt := 111) hx hb dX8_wordAt_106 (by decide) (fun _ => ?_) (fun h => absurd (by decide) h)
      refine lv_iload hx hb dX8_wordAt_111 (lv_at hl 7 rfl) ?_
      refine lv_iload hx hb dX8_wordAt_113 (lv_at hl 2 rfl) ?_
      refine lv_iconst (v := 1) hx hb dX8_wordAt_115 (by decide) ?_
      refine sv_iadd (v := 6) hx hb dX8_wordAt_116 (by decide) ?_
      refine sv_iadd (v := 21) hx hb dX8_wordAt_117 (by decide) ?_
      refine lv_istore (lv' := [(4, .int 21), (7, .int 0), (6, .int 0), (5, .int 5), (0, .ref (y 0)), (1, .int a), (2, .int b), (3, .int 3)]) hx hb dX8_wordAt_118 hl (by decide) rfl (fun ls hl => ?_)
      refine lv_iinc (v := 4) (lv' := [(3, .int 4), (4, .int 21), (7, .int 0), (6, .int 0), (5, .int 5), (0, .ref (y 0)), (1, .int a), (2, .int b)]) hx hb dX8_wordAt_120 hl (k := 7) rfl (by decide) (by decide) rfl (fun ls hl => ?_)
      refine lv_goto (tgt := 5) hx hb dX8_wordAt_123 (by decide) ?_
      exact J_4_21 ls (lv_sub hl [5, 6, 7, 0, 1] rfl)
    ·
      refine lv_iconst (v := 1) hx hb dX8_wordAt_47 (by decide) ?_
      refine lv_goto (tgt := 52) hx hb dX8_wordAt_48 (by decide) ?_
      refine lv_istore (lv' := [(6, .int 1), (5, .int 5), (0, .ref (y 0)), (1, .int a), (2, .int b), (3, .int 3), (4, .int 15)]) hx hb dX8_wordAt_52 hl (by decide) rfl (fun ls hl => ?_)
      refine lv_iconst (v := 0) hx hb dX8_wordAt_54 (by decide) ?_
      refine lv_istore (lv' := [(7, .int 0), (6, .int 1), (5, .int 5), (0, .ref (y 0)), (1, .int a), (2, .int b), (3, .int 3), (4, .int 15)]) hx hb dX8_wordAt_55 hl (by decide) rfl (fun ls hl => ?_)
      refine lv_iload hx hb dX8_wordAt_57 (lv_at hl 0 rfl) ?_
      refine lv_iload hx hb dX8_wordAt_59 (lv_at hl 2 rfl) ?_
      refine lv_icmp_ge (tgt := 104) hx hb dX8_wordAt_61 (by decide) (fun h => absurd h (by decide)) (fun _ => ?_)
      refine lv_iload hx hb dX8_wordAt_64 (lv_at hl 1 rfl) ?_
      refine lv_if_eq (tgt := 104) hx hb dX8_wordAt_66 (by decide) (fun h => absurd h (by decide)) (fun _ => ?_)
      refine lv_aload_n hx hb dX8_wordAt_69 rfl (lv_at hl 3 rfl) ?_
      refine va_get (D := D) (ci := 8) (v := .ref (y 17)) (C := RX8) (T := TX8) (N := 52) hx hb hts w_1 hown hK hP 0 rfl rfl 34 (by decide) w_2 (fun _ h9 => h9) rfl dX8_wordAt_70 ?_
      refine lv_iload hx hb dX8_wordAt_73 (lv_at hl 7 rfl) ?_
      refine lv_iload hx hb dX8_wordAt_75 (lv_at hl 0 rfl) ?_
      refine sv_iadd (v := 15) hx hb dX8_wordAt_77 (by decide) ?_
      refine sv_iald (v := 99) hx hb hK hP 2 1 rfl rfl (vp_in_iff.mpr (by decide)) (hwf 15 (by decide)) dX8_wordAt_78 ?_
      refine lv_aload_n hx hb dX8_wordAt_79 rfl (lv_at hl 3 rfl) ?_
      refine va_get (D := D) (ci := 8) (v := .ref (y 1)) (C := RX8) (T := TX8) (N := 52) hx hb hts w_1 hown hK hP 0 rfl rfl 0 (by decide) w_3 (fun _ h9 => h9) rfl dX8_wordAt_80 ?_
      refine lv_iload_n hx hb dX8_wordAt_83 rfl (lv_at hl 4 rfl) ?_
      refine lv_iload hx hb dX8_wordAt_84 (lv_at hl 0 rfl) ?_
      refine sv_iadd (v := a + 0) hx hb dX8_wordAt_86 rfl ?_
      refine lv_topi (fun v_38 ev_38 => ?_)
      refine sv_iald (v := m_tape v_38.toNatClampNeg) hx hb hK hP 1 1 rfl rfl (by rw [ev_38]; exact wa_in h0 hab hb9 (c_44.trans ev_37) (by decide)) rfl dX8_wordAt_87 ?_
      refine lv_topi (fun v_39 ev_39 => ?_)
      refine lv_icmp_ne (tgt := 95) hx hb dX8_wordAt_88 (by decide) (fun c_88 => ?_) (fun c_88 => ?_)
      ·
        refine lv_iconst (v := 0) hx hb dX8_wordAt_95 (by decide) ?_
        refine lv_istore (lv' := [(6, .int 0), (7, .int 0), (5, .int 5), (0, .ref (y 0)), (1, .int a), (2, .int b), (3, .int 3), (4, .int 15)]) hx hb dX8_wordAt_96 hl (by decide) rfl (fun ls hl => ?_)
        refine lv_iinc (v := 1) (lv' := [(7, .int 1), (6, .int 0), (5, .int 5), (0, .ref (y 0)), (1, .int a), (2, .int b), (3, .int 3), (4, .int 15)]) hx hb dX8_wordAt_98 hl (k := 1) rfl (by decide) (by decide) rfl (fun ls hl => ?_)
        refine lv_goto (tgt := 57) hx hb dX8_wordAt_101 (by decide) ?_
        refine lv_iload hx hb dX8_wordAt_57 (lv_at hl 0 rfl) ?_
        refine lv_iload hx hb dX8_wordAt_59 (lv_at hl 2 rfl) ?_
        refine lv_icmp_ge (tgt := 104) hx hb dX8_wordAt_61 (by decide) (fun h => absurd h (by decide)) (fun _ => ?_)
        refine lv_iload hx hb dX8_wordAt_64 (lv_at hl 1 rfl) ?_
        refine lv_if_eq (tgt := 104) hx hb dX8_wordAt_66 (by decide) (fun _ => ?_) (fun h => absurd (by decide) h)
        refine lv_iload hx hb dX8_wordAt_104 (lv_at hl 1 rfl) ?_
        refine lv_if_eq (tgt := 111) hx hb dX8_wordAt_106 (by decide) (fun _ => ?_) (fun h => absurd (by decide) h)
        refine lv_iload hx hb dX8_wordAt_111 (lv_at hl 7 rfl) ?_
        refine lv_iload hx hb dX8_wordAt_113 (lv_at hl 2 rfl) ?_
        refine lv_iconst (v := 1) hx hb dX8_wordAt_115 (by decide) ?_
        refine sv_iadd (v := 6) hx hb dX8_wordAt_116 (by decide) ?_
        refine sv_iadd (v := 21) hx hb dX8_wordAt_117 (by decide) ?_
        refine lv_istore (lv' := [(4, .int 21), (7, .int 1), (6, .int 0), (5, .int 5), (0, .ref (y 0)), (1, .int a), (2, .int b), (3, .int 3)]) hx hb dX8_wordAt_118 hl (by decide) rfl (fun ls hl => ?_)
        refine lv_iinc (v := 4) (lv' := [(3, .int 4), (4, .int 21), (7, .int 1), (6, .int 0), (5, .int 5), (0, .ref (y 0)), (1, .int a), (2, .int b)]) hx hb dX8_wordAt_120 hl (k := 7) rfl (by decide) (by decide) rfl (fun ls hl => ?_)
        refine lv_goto (tgt := 5) hx hb dX8_wordAt_123 (by decide) ?_
        exact J_4_21 ls (lv_sub hl [5, 6, 7, 0, 1] rfl)
      ·
        refine lv_iconst (v := 1) hx hb dX8_wordAt_91 (by decide) ?_
        refine lv_goto (tgt := 96) hx hb dX8_wordAt_92 (by decide) ?_
        refine lv_istore (lv' := [(6, .int 1), (7, .int 0), (5, .int 5), (0, .ref (y 0)), (1, .int a), (2, .int b), (3, .int 3), (4, .int 15)]) hx hb dX8_wordAt_96 hl (by decide) rfl (fun ls hl => ?_)
        refine lv_iinc (v := 1) (lv' := [(7, .int 1), (6, .int 1), (5, .int 5), (0, .ref (y 0)), (1, .int a), (2, .int b), (3, .int 3), (4, .int 15)]) hx hb dX8_wordAt_98 hl (k := 1) rfl (by decide) (by decide) rfl (fun ls hl => ?_)
        refine lv_goto (tgt := 57) hx hb dX8_wordAt_101 (by decide) ?_
        refine lv_iload hx hb dX8_wordAt_57 (lv_at hl 0 rfl) ?_
        refine lv_iload hx hb dX8_wordAt_59 (lv_at hl 2 rfl) ?_
        refine lv_icmp_ge (tgt := 104) hx hb dX8_wordAt_61 (by decide) (fun h => absurd h (by decide)) (fun _ => ?_)
        refine lv_iload hx hb dX8_wordAt_64 (lv_at hl 1 rfl) ?_
        refine lv_if_eq (tgt := 104) hx hb dX8_wordAt_66 (by decide) (fun h => absurd h (by decide)) (fun _ => ?_)
        refine lv_aload_n hx hb dX8_wordAt_69 rfl (lv_at hl 3 rfl) ?_
        refine va_get (D := D) (ci := 8) (v := .ref (y 17)) (C := RX8) (T := TX8) (N := 52) hx hb hts w_1 hown hK hP 0 rfl rfl 34 (by decide) w_2 (fun _ h9 => h9) rfl dX8_wordAt_70 ?_
        refine lv_iload hx hb dX8_wordAt_73 (lv_at hl 7 rfl) ?_
        refine lv_iload hx hb dX8_wordAt_75 (lv_at hl 0 rfl) ?_
        refine sv_iadd (v := 16) hx hb dX8_wordAt_77 (by decide) ?_
        refine sv_iald (v := 121) hx hb hK hP 2 1 rfl rfl (vp_in_iff.mpr (by decide)) (hwf 16 (by decide)) dX8_wordAt_78 ?_
        refine lv_aload_n hx hb dX8_wordAt_79 rfl (lv_at hl 3 rfl) ?_
        refine va_get (D := D) (ci := 8) (v := .ref (y 1)) (C := RX8) (T := TX8) (N := 52) hx hb hts w_1 hown hK hP 0 rfl rfl 0 (by decide) w_3 (fun _ h9 => h9) rfl dX8_wordAt_80 ?_
        refine lv_iload_n hx hb dX8_wordAt_83 rfl (lv_at hl 4 rfl) ?_
        refine lv_iload hx hb dX8_wordAt_84 (lv_at hl 0 rfl) ?_
        refine sv_iadd (v := a + 1) hx hb dX8_wordAt_86 rfl ?_
        refine sv_iald (v := m_tape (a + 1).toNatClampNeg) hx hb hK hP 1 1 rfl rfl (wa_in h0 hab hb9 (c_44.trans ev_37) (by decide)) rfl dX8_wordAt_87 ?_
        refine lv_topi (fun v_40 ev_40 => ?_)
        refine lv_icmp_ne (tgt := 95) hx hb dX8_wordAt_88 (by decide) (fun c_88 => ?_) (fun c_88 => ?_)
        ·
          refine lv_iconst (v := 0) hx hb dX8_wordAt_95 (by decide) ?_
          refine lv_istore (lv' := [(6, .int 0), (7, .int 1), (5, .int 5), (0, .ref (y 0)), (1, .int a), (2, .int b), (3, .int 3), (4, .int 15)]) hx hb dX8_wordAt_96 hl (by decide) rfl (fun ls hl => ?_)
          refine lv_iinc (v := 2) (lv' := [(7, .int 2), (6, .int 0), (5, .int 5), (0, .ref (y 0)), (1, .int a), (2, .int b), (3, .int 3), (4, .int 15)]) hx hb dX8_wordAt_98 hl (k := 1) rfl (by decide) (by decide) rfl (fun ls hl => ?_)
          refine lv_goto (tgt := 57) hx hb dX8_wordAt_101 (by decide) ?_
          refine lv_iload hx hb dX8_wordAt_57 (lv_at hl 0 rfl) ?_
          refine lv_iload hx hb dX8_wordAt_59 (lv_at hl 2 rfl) ?_
          refine lv_icmp_ge (tgt := 104) hx hb dX8_wordAt_61 (by decide) (fun h => absurd h (by decide)) (fun _ => ?_)
          refine lv_iload hx hb dX8_wordAt_64 (lv_at hl 1 rfl) ?_
          refine lv_if_eq (tgt := 104) hx hb dX8_wordAt_66 (by decide) (fun _ => ?_) (fun h => absurd (by decide) h)
          refine lv_iload hx hb dX8_wordAt_104 (lv_at hl 1 rfl) ?_
          refine lv_if_eq (tgt := 111) hx hb dX8_wordAt_106 (by decide) (fun _ => ?_) (fun h => absurd (by decide) h)
          refine lv_iload hx hb dX8_wordAt_111 (lv_at hl 7 rfl) ?_
          refine lv_iload hx hb dX8_wordAt_113 (lv_at hl 2 rfl) ?_
          refine lv_iconst (v := 1) hx hb dX8_wordAt_115 (by decide) ?_
          refine sv_iadd (v := 6) hx hb dX8_wordAt_116 (by decide) ?_
          refine sv_iadd (v := 21) hx hb dX8_wordAt_117 (by decide) ?_
          refine lv_istore (lv' := [(4, .int 21), (7, .int 2), (6, .int 0), (5, .int 5), (0, .ref (y 0)), (1, .int a), (2, .int b), (3, .int 3)]) hx hb dX8_wordAt_118 hl (by decide) rfl (fun ls hl => ?_)
          refine lv_iinc (v := 4) (lv' := [(3, .int 4), (4, .int 21), (7, .int 2), (6, .int 0), (5, .int 5), (0, .ref (y 0)), (1, .int a), (2, .int b)]) hx hb dX8_wordAt_120 hl (k := 7) rfl (by decide) (by decide) rfl (fun ls hl => ?_)
          refine lv_goto (tgt := 5) hx hb dX8_wordAt_123 (by decide) ?_
          exact J_4_21 ls (lv_sub hl [5, 6, 7, 0, 1] rfl)
        ·
          refine lv_iconst (v := 1) hx hb dX8_wordAt_91 (by decide) ?_
          refine lv_goto (tgt := 96) hx hb dX8_wordAt_92 (by decide) ?_
          refine lv_istore (lv' := [(6, .int 1), (7, .int 1), (5, .int 5), (0, .ref (y 0)), (1, .int a), (2, .int b), (3, .int 3), (4, .int 15)]) hx hb dX8_wordAt_96 hl (by decide) rfl (fun ls hl => ?_)
          refine lv_iinc (v := 2) (lv' := [(7, .int 2), (6, .int 1), (5, .int 5), (0, .ref (y 0)), (1, .int a), (2, .int b), (3, .int 3), (4, .int 15)]) hx hb dX8_wordAt_98 hl (k := 1) rfl (by decide) (by decide) rfl (fun ls hl => ?_)
          refine lv_goto (tgt := 57) hx hb dX8_wordAt_101 (by decide) ?_
          refine lv_iload hx hb dX8_wordAt_57 (lv_at hl 0 rfl) ?_
          refine lv_iload hx hb dX8_wordAt_59 (lv_at hl 2 rfl) ?_
          refine lv_icmp_ge (tgt := 104) hx hb dX8_wordAt_61 (by decide) (fun h => absurd h (by decide)) (fun _ => ?_)
          refine lv_iload hx hb dX8_wordAt_64 (lv_at hl 1 rfl) ?_
          refine lv_if_eq (tgt := 104) hx hb dX8_wordAt_66 (by decide) (fun h => absurd h (by decide)) (fun _ => ?_)
          refine lv_aload_n hx hb dX8_wordAt_69 rfl (lv_at hl 3 rfl) ?_
          refine va_get (D := D) (ci := 8) (v := .ref (y 17)) (C := RX8) (T := TX8) (N := 52) hx hb hts w_1 hown hK hP 0 rfl rfl 34 (by decide) w_2 (fun _ h9 => h9) rfl dX8_wordAt_70 ?_
          refine lv_iload hx hb dX8_wordAt_73 (lv_at hl 7 rfl) ?_
          refine lv_iload hx hb dX8_wordAt_75 (lv_at hl 0 rfl) ?_
          refine sv_iadd (v := 17) hx hb dX8_wordAt_77 (by decide) ?_
          refine sv_iald (v := 99) hx hb hK hP 2 1 rfl rfl (vp_in_iff.mpr (by decide)) (hwf 17 (by decide)) dX8_wordAt_78 ?_
          refine lv_aload_n hx hb dX8_wordAt_79 rfl (lv_at hl 3 rfl) ?_
          refine va_get (D := D) (ci := 8) (v := .ref (y 1)) (C := RX8) (T := TX8) (N := 52) hx hb hts w_1 hown hK hP 0 rfl rfl 0 (by decide) w_3 (fun _ h9 => h9) rfl dX8_wordAt_80 ?_
          refine lv_iload_n hx hb dX8_wordAt_83 rfl (lv_at hl 4 rfl) ?_
          refine lv_iload hx hb dX8_wordAt_84 (lv_at hl 0 rfl) ?_
          refine sv_iadd (v := a + 2) hx hb dX8_wordAt_86 rfl ?_
          refine lv_topi (fun v_41 ev_41 => ?_)
          refine sv_iald (v := m_tape v_41.toNatClampNeg) hx hb hK hP 1 1 rfl rfl (by rw [ev_41]; exact wa_in h0 hab hb9 (c_44.trans ev_37) (by decide)) rfl dX8_wordAt_87 ?_
          refine lv_topi (fun v_42 ev_42 => ?_)
          refine lv_icmp_ne (tgt := 95) hx hb dX8_wordAt_88 (by decide) (fun c_88 => ?_) (fun c_88 => ?_)
          ·
            refine lv_iconst (v := 0) hx hb dX8_wordAt_95 (by decide) ?_
            refine lv_istore (lv' := [(6, .int 0), (7, .int 2), (5, .int 5), (0, .ref (y 0)), (1, .int a), (2, .int b), (3, .int 3), (4, .int 15)]) hx hb dX8_wordAt_96 hl (by decide) rfl (fun ls hl => ?_)
            refine lv_iinc (v := 3) (lv' := [(7, .int 3), (6, .int 0), (5, .int 5), (0, .ref (y 0)), (1, .int a), (2, .int b), (3, .int 3), (4, .int 15)]) hx hb dX8_wordAt_98 hl (k := 1) rfl (by decide) (by decide) rfl (fun ls hl => ?_)
            refine lv_goto (tgt := 57) hx hb dX8_wordAt_101 (by decide) ?_
            refine lv_iload hx hb dX8_wordAt_57 (lv_at hl 0 rfl) ?_
            refine lv_iload hx hb dX8_wordAt_59 (lv_at hl 2 rfl) ?_
            refine lv_icmp_ge (tgt := 104) hx hb dX8_wordAt_61 (by decide) (fun h => absurd h (by decide)) (fun _ => ?_)
            refine lv_iload hx hb dX8_wordAt_64 (lv_at hl 1 rfl) ?_
            refine lv_if_eq (tgt := 104) hx hb dX8_wordAt_66 (by decide) (fun _ => ?_) (fun h => absurd (by decide) h)
            refine lv_iload hx hb dX8_wordAt_104 (lv_at hl 1 rfl) ?_
            refine lv_if_eq (tgt := 111) hx hb dX8_wordAt_106 (by decide) (fun _ => ?_) (fun h => absurd (by decide) h)
            refine lv_iload hx hb dX8_wordAt_111 (lv_at hl 7 rfl) ?_
            refine lv_iload hx hb dX8_wordAt_113 (lv_at hl 2 rfl) ?_
            refine lv_iconst (v := 1) hx hb dX8_wordAt_115 (by decide) ?_
            refine sv_iadd (v := 6) hx hb dX8_wordAt_116 (by decide) ?_
            refine sv_iadd (v := 21) hx hb dX8_wordAt_117 (by decide) ?_
            refine lv_istore (lv' := [(4, .int 21), (7, .int 3), (6, .int 0), (5, .int 5), (0, .ref (y 0)), (1, .int a), (2, .int b), (3, .int 3)]) hx hb dX8_wordAt_118 hl (by decide) rfl (fun ls hl => ?_)
            refine lv_iinc (v := 4) (lv' := [(3, .int 4), (4, .int 21), (7, .int 3), (6, .int 0), (5, .int 5), (0, .ref (y 0)), (1, .int a), (2, .int b)]) hx hb dX8_wordAt_120 hl (k := 7) rfl (by decide) (by decide) rfl (fun ls hl => ?_)
            refine lv_goto (tgt := 5) hx hb dX8_wordAt_123 (by decide) ?_
            exact J_4_21 ls (lv_sub hl [5, 6, 7, 0, 1] rfl)
          ·
            refine lv_iconst (v := 1) hx hb dX8_wordAt_91 (by decide) ?_
            refine lv_goto (tgt := 96) hx hb dX8_wordAt_92 (by decide) ?_
            refine lv_istore (lv' := [(6, .int 1), (7, .int 2), (5, .int 5), (0, .ref (y 0)), (1, .int a), (2, .int b), (3, .int 3), (4, .int 15)]) hx hb dX8_wordAt_96 hl (by decide) rfl (fun ls hl => ?_)
            refine lv_iinc (v := 3) (lv' := [(7, .int 3), (6, .int 1), (5, .int 5), (0, .ref (y 0)), (1, .int a), (2, .int b), (3, .int 3), (4, .int 15)]) hx hb dX8_wordAt_98 hl (k := 1) rfl (by decide) (by decide) rfl (fun ls hl => ?_)
            refine lv_goto (tgt := 57) hx hb dX8_wordAt_101 (by decide) ?_
            refine lv_iload hx hb dX8_wordAt_57 (lv_at hl 0 rfl) ?_
            refine lv_iload hx hb dX8_wordAt_59 (lv_at hl 2 rfl) ?_
            refine lv_icmp_ge (tgt := 104) hx hb dX8_wordAt_61 (by decide) (fun h => absurd h (by decide)) (fun _ => ?_)
            refine lv_iload hx hb dX8_wordAt_64 (lv_at hl 1 rfl) ?_
            refine lv_if_eq (tgt := 104) hx hb dX8_wordAt_66 (by decide) (fun h => absurd h (by decide)) (fun _ => ?_)
            refine lv_aload_n hx hb dX8_wordAt_69 rfl (lv_at hl 3 rfl) ?_
            refine va_get (D := D) (ci := 8) (v := .ref (y 17)) (C := RX8) (T := TX8) (N := 52) hx hb hts w_1 hown hK hP 0 rfl rfl 34 (by decide) w_2 (fun _ h9 => h9) rfl dX8_wordAt_70 ?_
            refine lv_iload hx hb dX8_wordAt_73 (lv_at hl 7 rfl) ?_
            refine lv_iload hx hb dX8_wordAt_75 (lv_at hl 0 rfl) ?_
            refine sv_iadd (v := 18) hx hb dX8_wordAt_77 (by decide) ?_
            refine sv_iald (v := 108) hx hb hK hP 2 1 rfl rfl (vp_in_iff.mpr (by decide)) (hwf 18 (by decide)) dX8_wordAt_78 ?_
            refine lv_aload_n hx hb dX8_wordAt_79 rfl (lv_at hl 3 rfl) ?_
            refine va_get (D := D) (ci := 8) (v := .ref (y 1)) (C := RX8) (T := TX8) (N := 52) hx hb hts w_1 hown hK hP 0 rfl rfl 0 (by decide) w_3 (fun _ h9 => h9) rfl dX8_wordAt_80 ?_
            refine lv_iload_n hx hb dX8_wordAt_83 rfl (lv_at hl 4 rfl) ?_
            refine lv_iload hx hb dX8_wordAt_84 (lv_at hl 0 rfl) ?_
            refine sv_iadd (v := a + 3) hx hb dX8_wordAt_86 rfl ?_
            refine lv_topi (fun v_43 ev_43 => ?_)
            refine sv_iald (v := m_tape v_43.toNatClampNeg) hx hb hK hP 1 1 rfl rfl (by rw [ev_43]; exact wa_in h0 hab hb9 (c_44.trans ev_37) (by decide)) rfl dX8_wordAt_87 ?_
            refine lv_topi (fun v_44 ev_44 => ?_)
            refine lv_icmp_ne (tgt := 95) hx hb dX8_wordAt_88 (by decide) (fun c_88 => ?_) (fun c_88 => ?_)
            ·
              refine lv_iconst (v := 0) hx hb dX8_wordAt_95 (by decide) ?_
              refine lv_istore (lv' := [(6, .int 0), (7, .int 3), (5, .int 5), (0, .ref (y 0)), (1, .int a), (2, .int b), (3, .int 3), (4, .int 15)]) hx hb dX8_wordAt_96 hl (by decide) rfl (fun ls hl => ?_)
              refine lv_iinc (v := 4) (lv' := [(7, .int 4), (6, .int 0), (5, .int 5), (0, .ref (y 0)), (1, .int a), (2, .int b), (3, .int 3), (4, .int 15)]) hx hb dX8_wordAt_98 hl (k := 1) rfl (by decide) (by decide) rfl (fun ls hl => ?_)
              refine lv_goto (tgt := 57) hx hb dX8_wordAt_101 (by decide) ?_
              refine lv_iload hx hb dX8_wordAt_57 (lv_at hl 0 rfl) ?_
              refine lv_iload hx hb dX8_wordAt_59 (lv_at hl 2 rfl) ?_
              refine lv_icmp_ge (tgt := 104) hx hb dX8_wordAt_61 (by decide) (fun h => absurd h (by decide)) (fun _ => ?_)
              refine lv_iload hx hb dX8_wordAt_64 (lv_at hl 1 rfl) ?_
              refine lv_if_eq (tgt := 104) hx hb dX8_wordAt_66 (by decide) (fun _ => ?_) (fun h => absurd (by decide) h)
              refine lv_iload hx hb dX8_wordAt_104 (lv_at hl 1 rfl) ?_
              refine lv_if_eq (tgt := 111) hx hb dX8_wordAt_106 (by decide) (fun _ => ?_) (fun h => absurd (by decide) h)
              refine lv_iload hx hb dX8_wordAt_111 (lv_at hl 7 rfl) ?_
              refine lv_iload hx hb dX8_wordAt_113 (lv_at hl 2 rfl) ?_
              refine lv_iconst (v := 1) hx hb dX8_wordAt_115 (by decide) ?_
              refine sv_iadd (v := 6) hx hb dX8_wordAt_116 (by decide) ?_
              refine sv_iadd (v := 21) hx hb dX8_wordAt_117 (by decide) ?_
              refine lv_istore (lv' := [(4, .int 21), (7, .int 4), (6, .int 0), (5, .int 5), (0, .ref (y 0)), (1, .int a), (2, .int b), (3, .int 3)]) hx hb dX8_wordAt_118 hl (by decide) rfl (fun ls hl => ?_)
              refine lv_iinc (v := 4) (lv' := [(3, .int 4), (4, .int 21), (7, .int 4), (6, .int 0), (5, .int 5), (0, .ref (y 0)), (1, .int a), (2, .int b)]) hx hb dX8_wordAt_120 hl (k := 7) rfl (by decide) (by decide) rfl (fun ls hl => ?_)
              refine lv_goto (tgt := 5) hx hb dX8_wordAt_123 (by decide) ?_
              exact J_4_21 ls (lv_sub hl [5, 6, 7, 0, 1] rfl)
            ·
              refine lv_iconst (v := 1) hx hb dX8_wordAt_91 (by decide) ?_
              refine lv_goto (tgt := 96) hx hb dX8_wordAt_92 (by decide) ?_
              refine lv_istore (lv' := [(6, .int 1), (7, .int 3), (5, .int 5), (0, .ref (y 0)), (1, .int a), (2, .int b), (3, .int 3), (4, .int 15)]) hx hb dX8_wordAt_96 hl (by decide) rfl (fun ls hl => ?_)
              refine lv_iinc (v := 4) (lv' := [(7, .int 4), (6, .int 1), (5, .int 5), (0, .ref (y 0)), (1, .int a), (2, .int b), (3, .int 3), (4, .int 15)]) hx hb dX8_wordAt_98 hl (k := 1) rfl (by decide) (by decide) rfl (fun ls hl => ?_)
              refine lv_goto (tgt := 57) hx hb dX8_wordAt_101 (by decide) ?_
              refine lv_iload hx hb dX8_wordAt_57 (lv_at hl 0 rfl) ?_
              refine lv_iload hx hb dX8_wordAt_59 (lv_at hl 2 rfl) ?_
              refine lv_icmp_ge (tgt := 104) hx hb dX8_wordAt_61 (by decide) (fun h => absurd h (by decide)) (fun _ => ?_)
              refine lv_iload hx hb dX8_wordAt_64 (lv_at hl 1 rfl) ?_
              refine lv_if_eq (tgt := 104) hx hb dX8_wordAt_66 (by decide) (fun h => absurd h (by decide)) (fun _ => ?_)
              refine lv_aload_n hx hb dX8_wordAt_69 rfl (lv_at hl 3 rfl) ?_
              refine va_get (D := D) (ci := 8) (v := .ref (y 17)) (C := RX8) (T := TX8) (N := 52) hx hb hts w_1 hown hK hP 0 rfl rfl 34 (by decide) w_2 (fun _ h9 => h9) rfl dX8_wordAt_70 ?_
              refine lv_iload hx hb dX8_wordAt_73 (lv_at hl 7 rfl) ?_
              refine lv_iload hx hb dX8_wordAt_75 (lv_at hl 0 rfl) ?_
              refine sv_iadd (v := 19) hx hb dX8_wordAt_77 (by decide) ?_
              refine sv_iald (v := 101) hx hb hK hP 2 1 rfl rfl (vp_in_iff.mpr (by decide)) (hwf 19 (by decide)) dX8_wordAt_78 ?_
              refine lv_aload_n hx hb dX8_wordAt_79 rfl (lv_at hl 3 rfl) ?_
              refine va_get (D := D) (ci := 8) (v := .ref (y 1)) (C := RX8) (T := TX8) (N := 52) hx hb hts w_1 hown hK hP 0 rfl rfl 0 (by decide) w_3 (fun _ h9 => h9) rfl dX8_wordAt_80 ?_
              refine lv_iload_n hx hb dX8_wordAt_83 rfl (lv_at hl 4 rfl) ?_
              refine lv_iload hx hb dX8_wordAt_84 (lv_at hl 0 rfl) ?_
              refine sv_iadd (v := a + 4) hx hb dX8_wordAt_86 rfl ?_
              refine lv_topi (fun v_45 ev_45 => ?_)
              refine sv_iald (v := m_tape v_45.toNatClampNeg) hx hb hK hP 1 1 rfl rfl (by rw [ev_45]; exact wa_in h0 hab hb9 (c_44.trans ev_37) (by decide)) rfl dX8_wordAt_87 ?_
              refine lv_topi (fun v_46 ev_46 => ?_)
              refine lv_icmp_ne (tgt := 95) hx hb dX8_wordAt_88 (by decide) (fun c_88 => ?_) (fun c_88 => ?_)
              ·
                refine lv_iconst (v := 0) hx hb dX8_wordAt_95 (by decide) ?_
                refine lv_istore (lv' := [(6, .int 0), (7, .int 4), (5, .int 5), (0, .ref (y 0)), (1, .int a), (2, .int b), (3, .int 3), (4, .int 15)]) hx hb dX8_wordAt_96 hl (by decide) rfl (fun ls hl => ?_)
                refine lv_iinc (v := 5) (lv' := [(7, .int 5), (6, .int 0), (5, .int 5), (0, .ref (y 0)), (1, .int a), (2, .int b), (3, .int 3), (4, .int 15)]) hx hb dX8_wordAt_98 hl (k := 1) rfl (by decide) (by decide) rfl (fun ls hl => ?_)
                refine lv_goto (tgt := 57) hx hb dX8_wordAt_101 (by decide) ?_
                refine lv_iload hx hb dX8_wordAt_57 (lv_at hl 0 rfl) ?_
                refine lv_iload hx hb dX8_wordAt_59 (lv_at hl 2 rfl) ?_
                refine lv_icmp_ge (tgt := 104) hx hb dX8_wordAt_61 (by decide) (fun _ => ?_) (fun h => absurd (by decide) h)
                refine lv_iload hx hb dX8_wordAt_104 (lv_at hl 1 rfl) ?_
                refine lv_if_eq (tgt := 111) hx hb dX8_wordAt_106 (by decide) (fun _ => ?_) (fun h => absurd (by decide) h)
                refine lv_iload hx hb dX8_wordAt_111 (lv_at hl 7 rfl) ?_
                refine lv_iload hx hb dX8_wordAt_113 (lv_at hl 2 rfl) ?_
                refine lv_iconst (v := 1) hx hb dX8_wordAt_115 (by decide) ?_
                refine sv_iadd (v := 6) hx hb dX8_wordAt_116 (by decide) ?_
                refine sv_iadd (v := 21) hx hb dX8_wordAt_117 (by decide) ?_
                refine lv_istore (lv' := [(4, .int 21), (7, .int 5), (6, .int 0), (5, .int 5), (0, .ref (y 0)), (1, .int a), (2, .int b), (3, .int 3)]) hx hb dX8_wordAt_118 hl (by decide) rfl (fun ls hl => ?_)
                refine lv_iinc (v := 4) (lv' := [(3, .int 4), (4, .int 21), (7, .int 5), (6, .int 0), (5, .int 5), (0, .ref (y 0)), (1, .int a), (2, .int b)]) hx hb dX8_wordAt_120 hl (k := 7) rfl (by decide) (by decide) rfl (fun ls hl => ?_)
                refine lv_goto (tgt := 5) hx hb dX8_wordAt_123 (by decide) ?_
                exact J_4_21 ls (lv_sub hl [5, 6, 7, 0, 1] rfl)
              ·
                refine lv_iconst (v := 1) hx hb dX8_wordAt_91 (by decide) ?_
                refine lv_goto (tgt := 96) hx hb dX8_wordAt_92 (by decide) ?_
                refine lv_istore (lv' := [(6, .int 1), (7, .int 4), (5, .int 5), (0, .ref (y 0)), (1, .int a), (2, .int b), (3, .int 3), (4, .int 15)]) hx hb dX8_wordAt_96 hl (by decide) rfl (fun ls hl => ?_)
                refine lv_iinc (v := 5) (lv' := [(7, .int 5), (6, .int 1), (5, .int 5), (0, .ref (y 0)), (1, .int a), (2, .int b), (3, .int 3), (4, .int 15)]) hx hb dX8_wordAt_98 hl (k := 1) rfl (by decide) (by decide) rfl (fun ls hl => ?_)
                refine lv_goto (tgt := 57) hx hb dX8_wordAt_101 (by decide) ?_
                refine lv_iload hx hb dX8_wordAt_57 (lv_at hl 0 rfl) ?_
                refine lv_iload hx hb dX8_wordAt_59 (lv_at hl 2 rfl) ?_
                refine lv_icmp_ge (tgt := 104) hx hb dX8_wordAt_61 (by decide) (fun _ => ?_) (fun h => absurd (by decide) h)
                refine lv_iload hx hb dX8_wordAt_104 (lv_at hl 1 rfl) ?_
                refine lv_if_eq (tgt := 111) hx hb dX8_wordAt_106 (by decide) (fun h => absurd h (by decide)) (fun _ => ?_)
                refine lv_iload_n hx hb dX8_wordAt_109 rfl (lv_at hl 6 rfl) ?_
                rw [← hQ]
                exact W.iret (v := 3) hx hb hr (fun t ht hW => ⟨_, rfl, Or.inr (vp_in_iff.mpr (by decide)), ht⟩) (fun q h => nomatch h) dX8_wordAt_110
  have J_2_10 : ∀ (ls : Array Slot), lv_has ls 8 [(0, .ref (y 0)), (1, .int a), (2, .int b), (3, .int 2), (4, .int 10)] → W p l e (headSpec wsX8_wordAt ({ frames := 0, cells := 0, slots := 0, locals := 0 } : Room)).room s m ([.ref (y 0), .int a, .int b] : List Value).toArray below meth c s.heap [] 0 0 Q0 (F0 m 5 ls []) := by
    intro ls hl
    refine lv_iload hx hb dX8_wordAt_5 (lv_at hl 4 rfl) ?_
    refine lv_aload_n hx hb dX8_wordAt_7 rfl (lv_at hl 0 rfl) ?_
    refine va_get (D := D) (ci := 8) (v := .ref (y 17)) (C := RX8) (T := TX8) (N := 52) hx hb hts w_1 hown hK hP 0 rfl rfl 34 (by decide) w_2 (fun _ h9 => h9) rfl dX8_wordAt_8 ?_
    refine va_alen (v := 43) hx hb hK hP 2 1 rfl rfl rfl dX8_wordAt_11 ?_
    refine lv_icmp_ge (tgt := 126) hx hb dX8_wordAt_12 (by decide) (fun h => absurd h (by decide)) (fun _ => ?_)
    refine lv_iconst (v := 0) hx hb dX8_wordAt_15 (by decide) ?_
    refine lv_istore (lv' := [(5, .int 0), (0, .ref (y 0)), (1, .int a), (2, .int b), (3, .int 2), (4, .int 10)]) hx hb dX8_wordAt_16 hl (by decide) rfl (fun ls hl => ?_)
    refine lv_aload_n hx hb dX8_wordAt_18 rfl (lv_at hl 1 rfl) ?_
    refine va_get (D := D) (ci := 8) (v := .ref (y 17)) (C := RX8) (T := TX8) (N := 52) hx hb hts w_1 hown hK hP 0 rfl rfl 34 (by decide) w_2 (fun _ h9 => h9) rfl dX8_wordAt_19 ?_
    refine lv_iload hx hb dX8_wordAt_22 (lv_at hl 5 rfl) ?_
    refine lv_iload hx hb dX8_wordAt_24 (lv_at hl 0 rfl) ?_
    refine sv_iadd (v := 10) hx hb dX8_wordAt_26 (by decide) ?_
    refine sv_iald (v := 110) hx hb hK hP 2 1 rfl rfl (vp_in_iff.mpr (by decide)) (hwf 10 (by decide)) dX8_wordAt_27 ?_
    refine lv_bipush (v := 32) hx hb dX8_wordAt_28 (by decide) ?_
    refine lv_icmp_eq (tgt := 39) hx hb dX8_wordAt_30 (by decide) (fun h => absurd h (by decide)) (fun _ => ?_)
    refine lv_iinc (v := 1) (lv' := [(5, .int 1), (0, .ref (y 0)), (1, .int a), (2, .int b), (3, .int 2), (4, .int 10)]) hx hb dX8_wordAt_33 hl (k := 0) rfl (by decide) (by decide) rfl (fun ls hl => ?_)
    refine lv_goto (tgt := 18) hx hb dX8_wordAt_36 (by decide) ?_
    refine lv_aload_n hx hb dX8_wordAt_18 rfl (lv_at hl 1 rfl) ?_
    refine va_get (D := D) (ci := 8) (v := .ref (y 17)) (C := RX8) (T := TX8) (N := 52) hx hb hts w_1 hown hK hP 0 rfl rfl 34 (by decide) w_2 (fun _ h9 => h9) rfl dX8_wordAt_19 ?_
    refine lv_iload hx hb dX8_wordAt_22 (lv_at hl 5 rfl) ?_
    refine lv_iload hx hb dX8_wordAt_24 (lv_at hl 0 rfl) ?_
    refine sv_iadd (v := 11) hx hb dX8_wordAt_26 (by decide) ?_
    refine sv_iald (v := 101) hx hb hK hP 2 1 rfl rfl (vp_in_iff.mpr (by decide)) (hwf 11 (by decide)) dX8_wordAt_27 ?_
    refine lv_bipush (v := 32) hx hb dX8_wordAt_28 (by decide) ?_
    refine lv_icmp_eq (tgt := 39) hx hb dX8_wordAt_30 (by decide) (fun h => absurd h (by decide)) (fun _ => ?_)
    refine lv_iinc (v := 2) (lv' := [(5, .int 2), (0, .ref (y 0)), (1, .int a), (2, .int b), (3, .int 2), (4, .int 10)]) hx hb dX8_wordAt_33 hl (k := 0) rfl (by decide) (by decide) rfl (fun ls hl => ?_)
    refine lv_goto (tgt := 18) hx hb dX8_wordAt_36 (by decide) ?_
    refine lv_aload_n hx hb dX8_wordAt_18 rfl (lv_at hl 1 rfl) ?_
    refine va_get (D := D) (ci := 8) (v := .ref (y 17)) (C := RX8) (T := TX8) (N := 52) hx hb hts w_1 hown hK hP 0 rfl rfl 34 (by decide) w_2 (fun _ h9 => h9) rfl dX8_wordAt_19 ?_
    refine lv_iload hx hb dX8_wordAt_22 (lv_at hl 5 rfl) ?_
    refine lv_iload hx hb dX8_wordAt_24 (lv_at hl 0 rfl) ?_
    refine sv_iadd (v := 12) hx hb dX8_wordAt_26 (by decide) ?_
    refine sv_iald (v := 101) hx hb hK hP 2 1 rfl rfl (vp_in_iff.mpr (by decide)) (hwf 12 (by decide)) dX8_wordAt_27 ?_
    refine lv_bipush (v := 32) hx hb dX8_wordAt_28 (by decide) ?_
    refine lv_icmp_eq (tgt := 39) hx hb dX8_wordAt_30 (by decide) (fun h => absurd h (by decide)) (fun _ => ?_)
    refine lv_iinc (v := 3) (lv' := [(5, .int 3), (0, .ref (y 0)), (1, .int a), (2, .int b), (3, .int 2), (4, .int 10)]) hx hb dX8_wordAt_33 hl (k := 0) rfl (by decide) (by decide) rfl (fun ls hl => ?_)
    refine lv_goto (tgt := 18) hx hb dX8_wordAt_36 (by decide) ?_
    refine lv_aload_n hx hb dX8_wordAt_18 rfl (lv_at hl 1 rfl) ?_
    refine va_get (D := D) (ci := 8) (v := .ref (y 17)) (C := RX8) (T := TX8) (N := 52) hx hb hts w_1 hown hK hP 0 rfl rfl 34 (by decide) w_2 (fun _ h9 => h9) rfl dX8_wordAt_19 ?_
    refine lv_iload hx hb dX8_wordAt_22 (lv_at hl 5 rfl) ?_
    refine lv_iload hx hb dX8_wordAt_24 (lv_at hl 0 rfl) ?_
    refine sv_iadd (v := 13) hx hb dX8_wordAt_26 (by decide) ?_
    refine sv_iald (v := 100) hx hb hK hP 2 1 rfl rfl (vp_in_iff.mpr (by decide)) (hwf 13 (by decide)) dX8_wordAt_27 ?_
    refine lv_bipush (v := 32) hx hb dX8_wordAt_28 (by decide) ?_
    refine lv_icmp_eq (tgt := 39) hx hb dX8_wordAt_30 (by decide) (fun h => absurd h (by decide)) (fun _ => ?_)
    refine lv_iinc (v := 4) (lv' := [(5, .int 4), (0, .ref (y 0)), (1, .int a), (2, .int b), (3, .int 2), (4, .int 10)]) hx hb dX8_wordAt_33 hl (k := 0) rfl (by decide) (by decide) rfl (fun ls hl => ?_)
    refine lv_goto (tgt := 18) hx hb dX8_wordAt_36 (by decide) ?_
    refine lv_aload_n hx hb dX8_wordAt_18 rfl (lv_at hl 1 rfl) ?_
    refine va_get (D := D) (ci := 8) (v := .ref (y 17)) (C := RX8) (T := TX8) (N := 52) hx hb hts w_1 hown hK hP 0 rfl rfl 34 (by decide) w_2 (fun _ h9 => h9) rfl dX8_wordAt_19 ?_
    refine lv_iload hx hb dX8_wordAt_22 (lv_at hl 5 rfl) ?_
    refine lv_iload hx hb dX8_wordAt_24 (lv_at hl 0 rfl) ?_
    refine sv_iadd (v := 14) hx hb dX8_wordAt_26 (by decide) ?_
    refine sv_iald (v := 32) hx hb hK hP 2 1 rfl rfl (vp_in_iff.mpr (by decide)) (hwf 14 (by decide)) dX8_wordAt_27 ?_
    refine lv_bipush (v := 32) hx hb dX8_wordAt_28 (by decide) ?_
    refine lv_icmp_eq (tgt := 39) hx hb dX8_wordAt_30 (by decide) (fun _ => ?_) (fun h => absurd (by decide) h)
    refine lv_iload hx hb dX8_wordAt_39 (lv_at hl 0 rfl) ?_
    refine lv_iload_n hx hb dX8_wordAt_41 rfl (lv_at hl 3 rfl) ?_
    refine lv_iload_n hx hb dX8_wordAt_42 rfl (lv_at hl 2 rfl) ?_
    refine sv_isub (v := b - a) hx hb dX8_wordAt_43 rfl ?_
    refine lv_topi (fun v_47 ev_47 => ?_)
    refine lv_icmp_ne (tgt := 51) hx hb dX8_wordAt_44 (by decide) (fun c_44 => ?_) (fun c_44 => ?_)
    ·
      refine lv_iconst (v := 0) hx hb dX8_wordAt_51 (by decide) ?_
      refine lv_istore (lv' := [(6, .int 0), (5, .int 4), (0, .ref (y 0)), (1, .int a), (2, .int b), (3, .int 2), (4, .int 10)]) hx hb dX8_wordAt_52 hl (by decide) rfl (fun ls hl => ?_)
      refine lv_iconst (v := 0) hx hb dX8_wordAt_54 (by decide) ?_
      refine lv_istore (lv' := [(7, .int 0), (6, .int 0), (5, .int 4), (0, .ref (y 0)), (1, .int a), (2, .int b), (3, .int 2), (4, .int 10)]) hx hb dX8_wordAt_55 hl (by decide) rfl (fun ls hl => ?_)
      refine lv_iload hx hb dX8_wordAt_57 (lv_at hl 0 rfl) ?_
      refine lv_iload hx hb dX8_wordAt_59 (lv_at hl 2 rfl) ?_
      refine lv_icmp_ge (tgt := 104) hx hb dX8_wordAt_61 (by decide) (fun h => absurd h (by decide)) (fun _ => ?_)
      refine lv_iload hx hb dX8_wordAt_64 (lv_at hl 1 rfl) ?_
      refine lv_if_eq (tgt := 104) hx hb dX8_wordAt_66 (by decide) (fun _ => ?_) (fun h => absurd (by decide) h)
      refine lv_iload hx hb dX8_wordAt_104 (lv_at hl 1 rfl) ?_
      refine lv_if_eq (tgt := 111) hx hb dX8_wordAt_106 (by decide) (fun _ => ?_) (fun h => absurd (by decide) h)
      refine lv_iload hx hb dX8_wordAt_111 (lv_at hl 7 rfl) ?_
      refine lv_iload hx hb dX8_wordAt_113 (lv_at hl 2 rfl) ?_
      refine lv_iconst (v := 1) hx hb dX8_wordAt_115 (by decide) ?_
      refine sv_iadd (v := 5) hx hb dX8_wordAt_116 (by decide) ?_
      refine sv_iadd (v := 15) hx hb dX8_wordAt_117 (by decide) ?_
      refine lv_istore (lv' := [(4, .int 15), (7, .int 0), (6, .int 0), (5, .int 4), (0, .ref (y 0)), (1, .int a), (2, .int b), (3, .int 2)]) hx hb dX8_wordAt_118 hl (by decide) rfl (fun ls hl => ?_)
      refine lv_iinc (v := 3) (lv' := [(3, .int 3), (4, .int 15), (7, .int 0), (6, .int 0), (5, .int 4), (0, .ref (y 0)), (1, .int a), (2, .int b)]) hx hb dX8_wordAt_120 hl (k := 7) rfl (by decide) (by decide) rfl (fun ls hl => ?_)
      refine lv_goto (tgt := 5) hx hb dX8_wordAt_123 (by decide) ?_
      exact J_3_15 ls (lv_sub hl [5, 6, 7, 0, 1] rfl)
    ·
      refine lv_iconst (v := 1) hx hb dX8_wordAt_47 (by decide) ?_
      refine lv_goto (tgt := 52) hx hb dX8_wordAt_48 (by decide) ?_
      refine lv_istore (lv' := [(6, .int 1), (5, .int 4), (0, .ref (y 0)), (1, .int a), (2, .int b), (3, .int 2), (4, .int 10)]) hx hb dX8_wordAt_52 hl (by decide) rfl (fun ls hl => ?_)
      refine lv_iconst (v := 0) hx hb dX8_wordAt_54 (by decide) ?_
      refine lv_istore (lv' := [(7, .int 0), (6, .int 1), (5, .int 4), (0, .ref (y 0)), (1, .int a), (2, .int b), (3, .int 2), (4, .int 10)]) hx hb dX8_wordAt_55 hl (by decide) rfl (fun ls hl => ?_)
      refine lv_iload hx hb dX8_wordAt_57 (lv_at hl 0 rfl) ?_
      refine lv_iload hx hb dX8_wordAt_59 (lv_at hl 2 rfl) ?_
      refine lv_icmp_ge (tgt := 104) hx hb dX8_wordAt_61 (by decide) (fun h => absurd h (by decide)) (fun _ => ?_)
      refine lv_iload hx hb dX8_wordAt_64 (lv_at hl 1 rfl) ?_
      refine lv_if_eq (tgt := 104) hx hb dX8_wordAt_66 (by decide) (fun h => absurd h (by decide)) (fun _ => ?_)
      refine lv_aload_n hx hb dX8_wordAt_69 rfl (lv_at hl 3 rfl) ?_
      refine va_get (D := D) (ci := 8) (v := .ref (y 17)) (C := RX8) (T := TX8) (N := 52) hx hb hts w_1 hown hK hP 0 rfl rfl 34 (by decide) w_2 (fun _ h9 => h9) rfl dX8_wordAt_70 ?_
      refine lv_iload hx hb dX8_wordAt_73 (lv_at hl 7 rfl) ?_
      refine lv_iload hx hb dX8_wordAt_75 (lv_at hl 0 rfl) ?_
      refine sv_iadd (v := 10) hx hb dX8_wordAt_77 (by decide) ?_
      refine sv_iald (v := 110) hx hb hK hP 2 1 rfl rfl (vp_in_iff.mpr (by decide)) (hwf 10 (by decide)) dX8_wordAt_78 ?_
      refine lv_aload_n hx hb dX8_wordAt_79 rfl (lv_at hl 3 rfl) ?_
      refine va_get (D := D) (ci := 8) (v := .ref (y 1)) (C := RX8) (T := TX8) (N := 52) hx hb hts w_1 hown hK hP 0 rfl rfl 0 (by decide) w_3 (fun _ h9 => h9) rfl dX8_wordAt_80 ?_
      refine lv_iload_n hx hb dX8_wordAt_83 rfl (lv_at hl 4 rfl) ?_
      refine lv_iload hx hb dX8_wordAt_84 (lv_at hl 0 rfl) ?_
      refine sv_iadd (v := a + 0) hx hb dX8_wordAt_86 rfl ?_
      refine lv_topi (fun v_48 ev_48 => ?_)
      refine sv_iald (v := m_tape v_48.toNatClampNeg) hx hb hK hP 1 1 rfl rfl (by rw [ev_48]; exact wa_in h0 hab hb9 (c_44.trans ev_47) (by decide)) rfl dX8_wordAt_87 ?_
      refine lv_topi (fun v_49 ev_49 => ?_)
      refine lv_icmp_ne (tgt := 95) hx hb dX8_wordAt_88 (by decide) (fun c_88 => ?_) (fun c_88 => ?_)
      ·
        refine lv_iconst (v := 0) hx hb dX8_wordAt_95 (by decide) ?_
        refine lv_istore (lv' := [(6, .int 0), (7, .int 0), (5, .int 4), (0, .ref (y 0)), (1, .int a), (2, .int b), (3, .int 2), (4, .int 10)]) hx hb dX8_wordAt_96 hl (by decide) rfl (fun ls hl => ?_)
        refine lv_iinc (v := 1) (lv' := [(7, .int 1), (6, .int 0), (5, .int 4), (0, .ref (y 0)), (1, .int a), (2, .int b), (3, .int 2), (4, .int 10)]) hx hb dX8_wordAt_98 hl (k := 1) rfl (by decide) (by decide) rfl (fun ls hl => ?_)
        refine lv_goto (tgt := 57) hx hb dX8_wordAt_101 (by decide) ?_
        refine lv_iload hx hb dX8_wordAt_57 (lv_at hl 0 rfl) ?_
        refine lv_iload hx hb dX8_wordAt_59 (lv_at hl 2 rfl) ?_
        refine lv_icmp_ge (tgt := 104) hx hb dX8_wordAt_61 (by decide) (fun h => absurd h (by decide)) (fun _ => ?_)
        refine lv_iload hx hb dX8_wordAt_64 (lv_at hl 1 rfl) ?_
        refine lv_if_eq (tgt := 104) hx hb dX8_wordAt_66 (by decide) (fun _ => ?_) (fun h => absurd (by decide) h)
        refine lv_iload hx hb dX8_wordAt_104 (lv_at hl 1 rfl) ?_
        refine lv_if_eq (tgt := 111) hx hb dX8_wordAt_106 (by decide) (fun _ => ?_) (fun h => absurd (by decide) h)
        refine lv_iload hx hb dX8_wordAt_111 (lv_at hl 7 rfl) ?_
        refine lv_iload hx hb dX8_wordAt_113 (lv_at hl 2 rfl) ?_
        refine lv_iconst (v := 1) hx hb dX8_wordAt_115 (by decide) ?_
        refine sv_iadd (v := 5) hx hb dX8_wordAt_116 (by decide) ?_
        refine sv_iadd (v := 15) hx hb dX8_wordAt_117 (by decide) ?_
        refine lv_istore (lv' := [(4, .int 15), (7, .int 1), (6, .int 0), (5, .int 4), (0, .ref (y 0)), (1, .int a), (2, .int b), (3, .int 2)]) hx hb dX8_wordAt_118 hl (by decide) rfl (fun ls hl => ?_)
        refine lv_iinc (v := 3) (lv' := [(3, .int 3), (4, .int 15), (7, .int 1), (6, .int 0), (5, .int 4), (0, .ref (y 0)), (1, .int a), (2, .int b)]) hx hb dX8_wordAt_120 hl (k := 7) rfl (by decide) (by decide) rfl (fun ls hl => ?_)
        refine lv_goto (tgt := 5) hx hb dX8_wordAt_123 (by decide) ?_
        exact J_3_15 ls (lv_sub hl [5, 6, 7, 0, 1] rfl)
      ·
        refine lv_iconst (v := 1) hx hb dX8_wordAt_91 (by decide) ?_
        refine lv_goto (tgt := 96) hx hb dX8_wordAt_92 (by decide) ?_
        refine lv_istore (lv' := [(6, .int 1), (7, .int 0), (5, .int 4), (0, .ref (y 0)), (1, .int a), (2, .int b), (3, .int 2), (4, .int 10)]) hx hb dX8_wordAt_96 hl (by decide) rfl (fun ls hl => ?_)
        refine lv_iinc (v := 1) (lv' := [(7, .int 1), (6, .int 1), (5, .int 4), (0, .ref (y 0)), (1, .int a), (2, .int b), (3, .int 2), (4, .int 10)]) hx hb dX8_wordAt_98 hl (k := 1) rfl (by decide) (by decide) rfl (fun ls hl => ?_)
        refine lv_goto (tgt := 57) hx hb dX8_wordAt_101 (by decide) ?_
        refine lv_iload hx hb dX8_wordAt_57 (lv_at hl 0 rfl) ?_
        refine lv_iload hx hb dX8_wordAt_59 (lv_at hl 2 rfl) ?_
        refine lv_icmp_ge (tgt := 104) hx hb dX8_wordAt_61 (by decide) (fun h => absurd h (by decide)) (fun _ => ?_)
        refine lv_iload hx hb dX8_wordAt_64 (lv_at hl 1 rfl) ?_
        refine lv_if_eq (tgt := 104) hx hb dX8_wordAt_66 (by decide) (fun h => absurd h (by decide)) (fun _ => ?_)
        refine lv_aload_n hx hb dX8_wordAt_69 rfl (lv_at hl 3 rfl) ?_
        refine va_get (D := D) (ci := 8) (v := .ref (y 17)) (C := RX8) (T := TX8) (N := 52) hx hb hts w_1 hown hK hP 0 rfl rfl 34 (by decide) w_2 (fun _ h9 => h9) rfl dX8_wordAt_70 ?_
        refine lv_iload hx hb dX8_wordAt_73 (lv_at hl 7 rfl) ?_
        refine lv_iload hx hb dX8_wordAt_75 (lv_at hl 0 rfl) ?_
        refine sv_iadd (v := 11) hx hb dX8_wordAt_77 (by decide) ?_
        refine sv_iald (v := 101) hx hb hK hP 2 1 rfl rfl (vp_in_iff.mpr (by decide)) (hwf 11 (by decide)) dX8_wordAt_78 ?_
        refine lv_aload_n hx hb dX8_wordAt_79 rfl (lv_at hl 3 rfl) ?_
        refine va_get (D := D) (ci := 8) (v := .ref (y 1)) (C := RX8) (T := TX8) (N := 52) hx hb hts w_1 hown hK hP 0 rfl rfl 0 (by decide) w_3 (fun _ h9 => h9) rfl dX8_wordAt_80 ?_
        refine lv_iload_n hx hb dX8_wordAt_83 rfl (lv_at hl 4 rfl) ?_
        refine lv_iload hx hb dX8_wordAt_84 (lv_at hl 0 rfl) ?_
        refine sv_iadd (v := a + 1) hx hb dX8_wordAt_86 rfl ?_
        refine sv_iald (v := m_tape (a + 1).toNatClampNeg) hx hb hK hP 1 1 rfl rfl (wa_in h0 hab hb9 (c_44.trans ev_47) (by decide)) rfl dX8_wordAt_87 ?_
        refine lv_topi (fun v_50 ev_50 => ?_)
        refine lv_icmp_ne (tgt := 95) hx hb dX8_wordAt_88 (by decide) (fun c_88 => ?_) (fun c_88 => ?_)
        ·
          refine lv_iconst (v := 0) hx hb dX8_wordAt_95 (by decide) ?_
          refine lv_istore (lv' := [(6, .int 0), (7, .int 1), (5, .int 4), (0, .ref (y 0)), (1, .int a), (2, .int b), (3, .int 2), (4, .int 10)]) hx hb dX8_wordAt_96 hl (by decide) rfl (fun ls hl => ?_)
          refine lv_iinc (v := 2) (lv' := [(7, .int 2), (6, .int 0), (5, .int 4), (0, .ref (y 0)), (1, .int a), (2, .int b), (3, .int 2), (4, .int 10)]) hx hb dX8_wordAt_98 hl (k := 1) rfl (by decide) (by decide) rfl (fun ls hl => ?_)
          refine lv_goto (tgt := 57) hx hb dX8_wordAt_101 (by decide) ?_
          refine lv_iload hx hb dX8_wordAt_57 (lv_at hl 0 rfl) ?_
          refine lv_iload hx hb dX8_wordAt_59 (lv_at hl 2 rfl) ?_
          refine lv_icmp_ge (tgt := 104) hx hb dX8_wordAt_61 (by decide) (fun h => absurd h (by decide)) (fun _ => ?_)
          refine lv_iload hx hb dX8_wordAt_64 (lv_at hl 1 rfl) ?_
          refine lv_if_eq (tgt := 104) hx hb dX8_wordAt_66 (by decide) (fun _ => ?_) (fun h => absurd (by decide) h)
          refine lv_iload hx hb dX8_wordAt_104 (lv_at hl 1 rfl) ?_
          refine lv_if_eq (tgt := 111) hx hb dX8_wordAt_106 (by decide) (fun _ => ?_) (fun h => absurd (by decide) h)
          refine lv_iload hx hb dX8_wordAt_111 (lv_at hl 7 rfl) ?_
          refine lv_iload hx hb dX8_wordAt_113 (lv_at hl 2 rfl) ?_
          refine lv_iconst (v := 1) hx hb dX8_wordAt_115 (by decide) ?_
          refine sv_iadd (v := 5) hx hb dX8_wordAt_116 (by decide) ?_
          refine sv_iadd (v := 15) hx hb dX8_wordAt_117 (by decide) ?_
          refine lv_istore (lv' := [(4, .int 15), (7, .int 2), (6, .int 0), (5, .int 4), (0, .ref (y 0)), (1, .int a), (2, .int b), (3, .int 2)]) hx hb dX8_wordAt_118 hl (by decide) rfl (fun ls hl => ?_)
          refine lv_iinc (v := 3) (lv' := [(3, .int 3), (4, .int 15), (7, .int 2), (6, .int 0), (5, .int 4), (0, .ref (y 0)), (1, .int a), (2, .int b)]) hx hb dX8_wordAt_120 hl (k := 7) rfl (by decide) (by decide) rfl (fun ls hl => ?_)
          refine lv_goto (tgt := 5) hx hb dX8_wordAt_123 (by decide) ?_
          exact J_3_15 ls (lv_sub hl [5, 6, 7, 0, 1] rfl)
        ·
          refine lv_iconst (v := 1) hx hb dX8_wordAt_91 (by decide) ?_
          refine lv_goto (tgt := 96) hx hb dX8_wordAt_92 (by decide) ?_
          refine lv_istore (lv' := [(6, .int 1), (7, .int 1), (5, .int 4), (0, .ref (y 0)), (1, .int a), (2, .int b), (3, .int 2), (4, .int 10)]) hx hb dX8_wordAt_96 hl (by decide) rfl (fun ls hl => ?_)
          refine lv_iinc (v := 2) (lv' := [(7, .int 2), (6, .int 1), (5, .int 4), (0, .ref (y 0)), (1, .int a), (2, .int b), (3, .int 2), (4, .int 10)]) hx hb dX8_wordAt_98 hl (k := 1) rfl (by decide) (by decide) rfl (fun ls hl => ?_)
          refine lv_goto (tgt := 57) hx hb dX8_wordAt_101 (by decide) ?_
          refine lv_iload hx hb dX8_wordAt_57 (lv_at hl 0 rfl) ?_
          refine lv_iload hx hb dX8_wordAt_59 (lv_at hl 2 rfl) ?_
          refine lv_icmp_ge (tgt := 104) hx hb dX8_wordAt_61 (by decide) (fun h => absurd h (by decide)) (fun _ => ?_)
          refine lv_iload hx hb dX8_wordAt_64 (lv_at hl 1 rfl) ?_
          refine lv_if_eq (tgt := 104) hx hb dX8_wordAt_66 (by decide) (fun h => absurd h (by decide)) (fun _ => ?_)
          refine lv_aload_n hx hb dX8_wordAt_69 rfl (lv_at hl 3 rfl) ?_
          refine va_get (D := D) (ci := 8) (v := .ref (y 17)) (C := RX8) (T := TX8) (N := 52) hx hb hts w_1 hown hK hP 0 rfl rfl 34 (by decide) w_2 (fun _ h9 => h9) rfl dX8_wordAt_70 ?_
          refine lv_iload hx hb dX8_wordAt_73 (lv_at hl 7 rfl) ?_
          refine lv_iload hx hb dX8_wordAt_75 (lv_at hl 0 rfl) ?_
          refine sv_iadd (v := 12) hx hb dX8_wordAt_77 (by decide) ?_
          refine sv_iald (v := 101) hx hb hK hP 2 1 rfl rfl (vp_in_iff.mpr (by decide)) (hwf 12 (by decide)) dX8_wordAt_78 ?_
          refine lv_aload_n hx hb dX8_wordAt_79 rfl (lv_at hl 3 rfl) ?_
          refine va_get (D := D) (ci := 8) (v := .ref (y 1)) (C := RX8) (T := TX8) (N := 52) hx hb hts w_1 hown hK hP 0 rfl rfl 0 (by decide) w_3 (fun _ h9 => h9) rfl dX8_wordAt_80 ?_
          refine lv_iload_n hx hb dX8_wordAt_83 rfl (lv_at hl 4 rfl) ?_
          refine lv_iload hx hb dX8_wordAt_84 (lv_at hl 0 rfl) ?_
          refine sv_iadd (v := a + 2) hx hb dX8_wordAt_86 rfl ?_
          refine lv_topi (fun v_51 ev_51 => ?_)
          refine sv_iald (v := m_tape v_51.toNatClampNeg) hx hb hK hP 1 1 rfl rfl (by rw [ev_51]; exact wa_in h0 hab hb9 (c_44.trans ev_47) (by decide)) rfl dX8_wordAt_87 ?_
          refine lv_topi (fun v_52 ev_52 => ?_)
          refine lv_icmp_ne (tgt := 95) hx hb dX8_wordAt_88 (by decide) (fun c_88 => ?_) (fun c_88 => ?_)
          ·
            refine lv_iconst (v := 0) hx hb dX8_wordAt_95 (by decide) ?_
            refine lv_istore (lv' := [(6, .int 0), (7, .int 2), (5, .int 4), (0, .ref (y 0)), (1, .int a), (2, .int b), (3, .int 2), (4, .int 10)]) hx hb dX8_wordAt_96 hl (by decide) rfl (fun ls hl => ?_)
            refine lv_iinc (v := 3) (lv' := [(7, .int 3), (6, .int 0), (5, .int 4), (0, .ref (y 0)), (1, .int a), (2, .int b), (3, .int 2), (4, .int 10)]) hx hb dX8_wordAt_98 hl (k := 1) rfl (by decide) (by decide) rfl (fun ls hl => ?_)
            refine lv_goto (tgt := 57) hx hb dX8_wordAt_101 (by decide) ?_
            refine lv_iload hx hb dX8_wordAt_57 (lv_at hl 0 rfl) ?_
            refine lv_iload hx hb dX8_wordAt_59 (lv_at hl 2 rfl) ?_
            refine lv_icmp_ge (tgt := 104) hx hb dX8_wordAt_61 (by decide) (fun h => absurd h (by decide)) (fun _ => ?_)
            refine lv_iload hx hb dX8_wordAt_64 (lv_at hl 1 rfl) ?_
            refine lv_if_eq (tgt := 104) hx hb dX8_wordAt_66 (by decide) (fun _ => ?_) (fun h => absurd (by decide) h)
            refine lv_iload hx hb dX8_wordAt_104 (lv_at hl 1 rfl) ?_
            refine lv_if_eq (tgt := 111) hx hb dX8_wordAt_106 (by decide) (fun _ => ?_) (fun h => absurd (by decide) h)
            refine lv_iload hx hb dX8_wordAt_111 (lv_at hl 7 rfl) ?_
            refine lv_iload hx hb dX8_wordAt_113 (lv_at hl 2 rfl) ?_
            refine lv_iconst (v := 1) hx hb dX8_wordAt_115 (by decide) ?_
            refine sv_iadd (v := 5) hx hb dX8_wordAt_116 (by decide) ?_
            refine sv_iadd (v := 15) hx hb dX8_wordAt_117 (by decide) ?_
            refine lv_istore (lv' := [(4, .int 15), (7, .int 3), (6, .int 0), (5, .int 4), (0, .ref (y 0)), (1, .int a), (2, .int b), (3, .int 2)]) hx hb dX8_wordAt_118 hl (by decide) rfl (fun ls hl => ?_)
            refine lv_iinc (v := 3) (lv' := [(3, .int 3), (4, .int 15), (7, .int 3), (6, .int 0), (5, .int 4), (0, .ref (y 0)), (1, .int a), (2, .int b)]) hx hb dX8_wordAt_120 hl (k := 7) rfl (by decide) (by decide) rfl (fun ls hl => ?_)
            refine lv_goto (tgt := 5) hx hb dX8_wordAt_123 (by decide) ?_
            exact J_3_15 ls (lv_sub hl [5, 6, 7, 0, 1] rfl)
          ·
            refine lv_iconst (v := 1) hx hb dX8_wordAt_91 (by decide) ?_
            refine lv_goto (tgt := 96) hx hb dX8_wordAt_92 (by decide) ?_
            refine lv_istore (lv' := [(6, .int 1), (7, .int 2), (5, .int 4), (0, .ref (y 0)), (1, .int a), (2, .int b), (3, .int 2), (4, .int 10)]) hx hb dX8_wordAt_96 hl (by decide) rfl (fun ls hl => ?_)
            refine lv_iinc (v := 3) (lv' := [(7, .int 3), (6, .int 1), (5, .int 4), (0, .ref (y 0)), (1, .int a), (2, .int b), (3, .int 2), (4, .int 10)]) hx hb dX8_wordAt_98 hl (k := 1) rfl (by decide) (by decide) rfl (fun ls hl => ?_)
            refine lv_goto (tgt := 57) hx hb dX8_wordAt_101 (by decide) ?_
            refine lv_iload hx hb dX8_wordAt_57 (lv_at hl 0 rfl) ?_
            refine lv_iload hx hb dX8_wordAt_59 (lv_at hl 2 rfl) ?_
            refine lv_icmp_ge (tgt := 104) hx hb dX8_wordAt_61 (by decide) (fun h => absurd h (by decide)) (fun _ => ?_)
            refine lv_iload hx hb dX8_wordAt_64 (lv_at hl 1 rfl) ?_
            refine lv_if_eq (tgt := 104) hx hb dX8_wordAt_66 (by decide) (fun h => absurd h (by decide)) (fun _ => ?_)
            refine lv_aload_n hx hb dX8_wordAt_69 rfl (lv_at hl 3 rfl) ?_
            refine va_get (D := D) (ci := 8) (v := .ref (y 17)) (C := RX8) (T := TX8) (N := 52) hx hb hts w_1 hown hK hP 0 rfl rfl 34 (by decide) w_2 (fun _ h9 => h9) rfl dX8_wordAt_70 ?_
            refine lv_iload hx hb dX8_wordAt_73 (lv_at hl 7 rfl) ?_
            refine lv_iload hx hb dX8_wordAt_75 (lv_at hl 0 rfl) ?_
            refine sv_iadd (v := 13) hx hb dX8_wordAt_77 (by decide) ?_
            refine sv_iald (v := 100) hx hb hK hP 2 1 rfl rfl (vp_in_iff.mpr (by decide)) (hwf 13 (by decide)) dX8_wordAt_78 ?_
            refine lv_aload_n hx hb dX8_wordAt_79 rfl (lv_at hl 3 rfl) ?_
            refine va_get (D := D) (ci := 8) (v := .ref (y 1)) (C := RX8) (T := TX8) (N := 52) hx hb hts w_1 hown hK hP 0 rfl rfl 0 (by decide) w_3 (fun _ h9 => h9) rfl dX8_wordAt_80 ?_
            refine lv_iload_n hx hb dX8_wordAt_83 rfl (lv_at hl 4 rfl) ?_
            refine lv_iload hx hb dX8_wordAt_84 (lv_at hl 0 rfl) ?_
            refine sv_iadd (v := a + 3) hx hb dX8_wordAt_86 rfl ?_
            refine lv_topi (fun v_53 ev_53 => ?_)
            refine sv_iald (v := m_tape v_53.toNatClampNeg) hx hb hK hP 1 1 rfl rfl (by rw [ev_53]; exact wa_in h0 hab hb9 (c_44.trans ev_47) (by decide)) rfl dX8_wordAt_87 ?_
            refine lv_topi (fun v_54 ev_54 => ?_)
            refine lv_icmp_ne (tgt := 95) hx hb dX8_wordAt_88 (by decide) (fun c_88 => ?_) (fun c_88 => ?_)
            ·
              refine lv_iconst (v := 0) hx hb dX8_wordAt_95 (by decide) ?_
              refine lv_istore (lv' := [(6, .int 0), (7, .int 3), (5, .int 4), (0, .ref (y 0)), (1, .int a), (2, .int b), (3, .int 2), (4, .int 10)]) hx hb dX8_wordAt_96 hl (by decide) rfl (fun ls hl => ?_)
              refine lv_iinc (v := 4) (lv' := [(7, .int 4), (6, .int 0), (5, .int 4), (0, .ref (y 0)), (1, .int a), (2, .int b), (3, .int 2), (4, .int 10)]) hx hb dX8_wordAt_98 hl (k := 1) rfl (by decide) (by decide) rfl (fun ls hl => ?_)
              refine lv_goto (tgt := 57) hx hb dX8_wordAt_101 (by decide) ?_
              refine lv_iload hx hb dX8_wordAt_57 (lv_at hl 0 rfl) ?_
              refine lv_iload hx hb dX8_wordAt_59 (lv_at hl 2 rfl) ?_
              refine lv_icmp_ge (tgt := 104) hx hb dX8_wordAt_61 (by decide) (fun _ => ?_) (fun h => absurd (by decide) h)
              refine lv_iload hx hb dX8_wordAt_104 (lv_at hl 1 rfl) ?_
              refine lv_if_eq (tgt := 111) hx hb dX8_wordAt_106 (by decide) (fun _ => ?_) (fun h => absurd (by decide) h)
              refine lv_iload hx hb dX8_wordAt_111 (lv_at hl 7 rfl) ?_
              refine lv_iload hx hb dX8_wordAt_113 (lv_at hl 2 rfl) ?_
              refine lv_iconst (v := 1) hx hb dX8_wordAt_115 (by decide) ?_
              refine sv_iadd (v := 5) hx hb dX8_wordAt_116 (by decide) ?_
              refine sv_iadd (v := 15) hx hb dX8_wordAt_117 (by decide) ?_
              refine lv_istore (lv' := [(4, .int 15), (7, .int 4), (6, .int 0), (5, .int 4), (0, .ref (y 0)), (1, .int a), (2, .int b), (3, .int 2)]) hx hb dX8_wordAt_118 hl (by decide) rfl (fun ls hl => ?_)
              refine lv_iinc (v := 3) (lv' := [(3, .int 3), (4, .int 15), (7, .int 4), (6, .int 0), (5, .int 4), (0, .ref (y 0)), (1, .int a), (2, .int b)]) hx hb dX8_wordAt_120 hl (k := 7) rfl (by decide) (by decide) rfl (fun ls hl => ?_)
              refine lv_goto (tgt := 5) hx hb dX8_wordAt_123 (by decide) ?_
              exact J_3_15 ls (lv_sub hl [5, 6, 7, 0, 1] rfl)
            ·
              refine lv_iconst (v := 1) hx hb dX8_wordAt_91 (by decide) ?_
              refine lv_goto (tgt := 96) hx hb dX8_wordAt_92 (by decide) ?_
              refine lv_istore (lv' := [(6, .int 1), (7, .int 3), (5, .int 4), (0, .ref (y 0)), (1, .int a), (2, .int b), (3, .int 2), (4, .int 10)]) hx hb dX8_wordAt_96 hl (by decide) rfl (fun ls hl => ?_)
              refine lv_iinc (v := 4) (lv' := [(7, .int 4), (6, .int 1), (5, .int 4), (0, .ref (y 0)), (1, .int a), (2, .int b), (3, .int 2), (4, .int 10)]) hx hb dX8_wordAt_98 hl (k := 1) rfl (by decide) (by decide) rfl (fun ls hl => ?_)
              refine lv_goto (tgt := 57) hx hb dX8_wordAt_101 (by decide) ?_
              refine lv_iload hx hb dX8_wordAt_57 (lv_at hl 0 rfl) ?_
              refine lv_iload hx hb dX8_wordAt_59 (lv_at hl 2 rfl) ?_
              refine lv_icmp_ge (tgt := 104) hx hb dX8_wordAt_61 (by decide) (fun _ => ?_) (fun h => absurd (by decide) h)
              refine lv_iload hx hb dX8_wordAt_104 (lv_at hl 1 rfl) ?_
              refine lv_if_eq (tgt := 111) hx hb dX8_wordAt_106 (by decide) (fun h => absurd h (by decide)) (fun _ => ?_)
              refine lv_iload_n hx hb dX8_wordAt_109 rfl (lv_at hl 6 rfl) ?_
              rw [← hQ]
              exact W.iret (v := 2) hx hb hr (fun t ht hW => ⟨_, rfl, Or.inr (vp_in_iff.mpr (by decide)), ht⟩) (fun q h => nomatch h) dX8_wordAt_110
  have J_1_5 : ∀ (ls : Array Slot), lv_has ls 8 [(0, .ref (y 0)), (1, .int a), (2, .int b), (3, .int 1), (4, .int 5)] → W p l e (headSpec wsX8_wordAt ({ frames := 0, cells := 0, slots := 0, locals := 0 } : Room)).room s m ([.ref (y 0), .int a, .int b] : List Value).toArray below meth c s.heap [] 0 0 Q0 (F0 m 5 ls []) := by
    intro ls hl
    refine lv_iload hx hb dX8_wordAt_5 (lv_at hl 4 rfl) ?_
    refine lv_aload_n hx hb dX8_wordAt_7 rfl (lv_at hl 0 rfl) ?_
    refine va_get (D := D) (ci := 8) (v := .ref (y 17)) (C := RX8) (T := TX8) (N := 52) hx hb hts w_1 hown hK hP 0 rfl rfl 34 (by decide) w_2 (fun _ h9 => h9) rfl dX8_wordAt_8 ?_
    refine va_alen (v := 43) hx hb hK hP 2 1 rfl rfl rfl dX8_wordAt_11 ?_
    refine lv_icmp_ge (tgt := 126) hx hb dX8_wordAt_12 (by decide) (fun h => absurd h (by decide)) (fun _ => ?_)
    refine lv_iconst (v := 0) hx hb dX8_wordAt_15 (by decide) ?_
    refine lv_istore (lv' := [(5, .int 0), (0, .ref (y 0)), (1, .int a), (2, .int b), (3, .int 1), (4, .int 5)]) hx hb dX8_wordAt_16 hl (by decide) rfl (fun ls hl => ?_)
    refine lv_aload_n hx hb dX8_wordAt_18 rfl (lv_at hl 1 rfl) ?_
    refine va_get (D := D) (ci := 8) (v := .ref (y 17)) (C := RX8) (T := TX8) (N := 52) hx hb hts w_1 hown hK hP 0 rfl rfl 34 (by decide) w_2 (fun _ h9 => h9) rfl dX8_wordAt_19 ?_
    refine lv_iload hx hb dX8_wordAt_22 (lv_at hl 5 rfl) ?_
    refine lv_iload hx hb dX8_wordAt_24 (lv_at hl 0 rfl) ?_
    refine sv_iadd (v := 5) hx hb dX8_wordAt_26 (by decide) ?_
    refine sv_iald (v := 118) hx hb hK hP 2 1 rfl rfl (vp_in_iff.mpr (by decide)) (hwf 5 (by decide)) dX8_wordAt_27 ?_
    refine lv_bipush (v := 32) hx hb dX8_wordAt_28 (by decide) ?_
    refine lv_icmp_eq (tgt := 39) hx hb dX8_wordAt_30 (by decide) (fun h => absurd h (by decide)) (fun _ => ?_)
    refine lv_iinc (v := 1) (lv' := [(5, .int 1), (0, .ref (y 0)), (1, .int a), (2, .int b), (3, .int 1), (4, .int 5)]) hx hb dX8_wordAt_33 hl (k := 0) rfl (by decide) (by decide) rfl (fun ls hl => ?_)
    refine lv_goto (tgt := 18) hx hb dX8_wordAt_36 (by decide) ?_
    refine lv_aload_n hx hb dX8_wordAt_18 rfl (lv_at hl 1 rfl) ?_
    refine va_get (D := D) (ci := 8) (v := .ref (y 17)) (C := RX8) (T := TX8) (N := 52) hx hb hts w_1 hown hK hP 0 rfl rfl 34 (by decide) w_2 (fun _ h9 => h9) rfl dX8_wordAt_19 ?_
    refine lv_iload hx hb dX8_wordAt_22 (lv_at hl 5 rfl) ?_
    refine lv_iload hx hb dX8_wordAt_24 (lv_at hl 0 rfl) ?_
    refine sv_iadd (v := 6) hx hb dX8_wordAt_26 (by decide) ?_
    refine sv_iald (v := 111) hx hb hK hP 2 1 rfl rfl (vp_in_iff.mpr (by decide)) (hwf 6 (by decide)) dX8_wordAt_27 ?_
    refine lv_bipush (v := 32) hx hb dX8_wordAt_28 (by decide) ?_
    refine lv_icmp_eq (tgt := 39) hx hb dX8_wordAt_30 (by decide) (fun h => absurd h (by decide)) (fun _ => ?_)
    refine lv_iinc (v := 2) (lv' := [(5, .int 2), (0, .ref (y 0)), (1, .int a), (2, .int b), (3, .int 1), (4, .int 5)]) hx hb dX8_wordAt_33 hl (k := 0) rfl (by decide) (by decide) rfl (fun ls hl => ?_)
    refine lv_goto (tgt := 18) hx hb dX8_wordAt_36 (by decide) ?_
    refine lv_aload_n hx hb dX8_wordAt_18 rfl (lv_at hl 1 rfl) ?_
    refine va_get (D := D) (ci := 8) (v := .ref (y 17)) (C := RX8) (T := TX8) (N := 52) hx hb hts w_1 hown hK hP 0 rfl rfl 34 (by decide) w_2 (fun _ h9 => h9) rfl dX8_wordAt_19 ?_
    refine lv_iload hx hb dX8_wordAt_22 (lv_at hl 5 rfl) ?_
    refine lv_iload hx hb dX8_wordAt_24 (lv_at hl 0 rfl) ?_
    refine sv_iadd (v := 7) hx hb dX8_wordAt_26 (by decide) ?_
    refine sv_iald (v := 116) hx hb hK hP 2 1 rfl rfl (vp_in_iff.mpr (by decide)) (hwf 7 (by decide)) dX8_wordAt_27 ?_
    refine lv_bipush (v := 32) hx hb dX8_wordAt_28 (by decide) ?_
    refine lv_icmp_eq (tgt := 39) hx hb dX8_wordAt_30 (by decide) (fun h => absurd h (by decide)) (fun _ => ?_)
    refine lv_iinc (v := 3) (lv' := [(5, .int 3), (0, .ref (y 0)), (1, .int a), (2, .int b), (3, .int 1), (4, .int 5)]) hx hb dX8_wordAt_33 hl (k := 0) rfl (by decide) (by decide) rfl (fun ls hl => ?_)
    refine lv_goto (tgt := 18) hx hb dX8_wordAt_36 (by decide) ?_
    refine lv_aload_n hx hb dX8_wordAt_18 rfl (lv_at hl 1 rfl) ?_
    refine va_get (D := D) (ci := 8) (v := .ref (y 17)) (C := RX8) (T := TX8) (N := 52) hx hb hts w_1 hown hK hP 0 rfl rfl 34 (by decide) w_2 (fun _ h9 => h9) rfl dX8_wordAt_19 ?_
    refine lv_iload hx hb dX8_wordAt_22 (lv_at hl 5 rfl) ?_
    refine lv_iload hx hb dX8_wordAt_24 (lv_at hl 0 rfl) ?_
    refine sv_iadd (v := 8) hx hb dX8_wordAt_26 (by decide) ?_
    refine sv_iald (v := 101) hx hb hK hP 2 1 rfl rfl (vp_in_iff.mpr (by decide)) (hwf 8 (by decide)) dX8_wordAt_27 ?_
    refine lv_bipush (v := 32) hx hb dX8_wordAt_28 (by decide) ?_
    refine lv_icmp_eq (tgt := 39) hx hb dX8_wordAt_30 (by decide) (fun h => absurd h (by decide)) (fun _ => ?_)
    refine lv_iinc (v := 4) (lv' := [(5, .int 4), (0, .ref (y 0)), (1, .int a), (2, .int b), (3, .int 1), (4, .int 5)]) hx hb dX8_wordAt_33 hl (k := 0) rfl (by decide) (by decide) rfl (fun ls hl => ?_)
    refine lv_goto (tgt := 18) hx hb dX8_wordAt_36 (by decide) ?_
    refine lv_aload_n hx hb dX8_wordAt_18 rfl (lv_at hl 1 rfl) ?_
    refine va_get (D := D) (ci := 8) (v := .ref (y 17)) (C := RX8) (T := TX8) (N := 52) hx hb hts w_1 hown hK hP 0 rfl rfl 34 (by decide) w_2 (fun _ h9 => h9) rfl dX8_wordAt_19 ?_
    refine lv_iload hx hb dX8_wordAt_22 (lv_at hl 5 rfl) ?_
    refine lv_iload hx hb dX8_wordAt_24 (lv_at hl 0 rfl) ?_
    refine sv_iadd (v := 9) hx hb dX8_wordAt_26 (by decide) ?_
    refine sv_iald (v := 32) hx hb hK hP 2 1 rfl rfl (vp_in_iff.mpr (by decide)) (hwf 9 (by decide)) dX8_wordAt_27 ?_
    refine lv_bipush (v := 32) hx hb dX8_wordAt_28 (by decide) ?_
    refine lv_icmp_eq (tgt := 39) hx hb dX8_wordAt_30 (by decide) (fun _ => ?_) (fun h => absurd (by decide) h)
    refine lv_iload hx hb dX8_wordAt_39 (lv_at hl 0 rfl) ?_
    refine lv_iload_n hx hb dX8_wordAt_41 rfl (lv_at hl 3 rfl) ?_
    refine lv_iload_n hx hb dX8_wordAt_42 rfl (lv_at hl 2 rfl) ?_
    refine sv_isub (v := b - a) hx hb dX8_wordAt_43 rfl ?_
    refine lv_topi (fun v_55 ev_55 => ?_)
    refine lv_icmp_ne (tgt := 51) hx hb dX8_wordAt_44 (by decide) (fun c_44 => ?_) (fun c_44 => ?_)
    ·
      refine lv_iconst (v := 0) hx hb dX8_wordAt_51 (by decide) ?_
      refine lv_istore (lv' := [(6, .int 0), (5, .int 4), (0, .ref (y 0)), (1, .int a), (2, .int b), (3, .int 1), (4, .int 5)]) hx hb dX8_wordAt_52 hl (by decide) rfl (fun ls hl => ?_)
      refine lv_iconst (v := 0) hx hb dX8_wordAt_54 (by decide) ?_
      refine lv_istore (lv' := [(7, .int 0), (6, .int 0), (5, .int 4), (0, .ref (y 0)), (1, .int a), (2, .int b), (3, .int 1), (4, .int 5)]) hx hb dX8_wordAt_55 hl (by decide) rfl (fun ls hl => ?_)
      refine lv_iload hx hb dX8_wordAt_57 (lv_at hl 0 rfl) ?_
      refine lv_iload hx hb dX8_wordAt_59 (lv_at hl 2 rfl) ?_
      refine lv_icmp_ge (tgt := 104) hx hb dX8_wordAt_61 (by decide) (fun h => absurd h (by decide)) (fun _ => ?_)
      refine lv_iload hx hb dX8_wordAt_64 (lv_at hl 1 rfl) ?_
      refine lv_if_eq (tgt := 104) hx hb dX8_wordAt_66 (by decide) (fun _ => ?_) (fun h => absurd (by decide) h)
      refine lv_iload hx hb dX8_wordAt_104 (lv_at hl 1 rfl) ?_
      refine lv_if_eq (tgt := 111) hx hb dX8_wordAt_106 (by decide) (fun _ => ?_) (fun h => absurd (by decide) h)
      refine lv_iload hx hb dX8_wordAt_111 (lv_at hl 7 rfl) ?_
      refine lv_iload hx hb dX8_wordAt_113 (lv_at hl 2 rfl) ?_
      refine lv_iconst (v := 1) hx hb dX8_wordAt_115 (by decide) ?_
      refine sv_iadd (v := 5) hx hb dX8_wordAt_116 (by decide) ?_
      refine sv_iadd (v := 10) hx hb dX8_wordAt_117 (by decide) ?_
      refine lv_istore (lv' := [(4, .int 10), (7, .int 0), (6, .int 0), (5, .int 4), (0, .ref (y 0)), (1, .int a), (2, .int b), (3, .int 1)]) hx hb dX8_wordAt_118 hl (by decide) rfl (fun ls hl => ?_)
      refine lv_iinc (v := 2) (lv' := [(3, .int 2), (4, .int 10), (7, .int 0), (6, .int 0), (5, .int 4), (0, .ref (y 0)), (1, .int a), (2, .int b)]) hx hb dX8_wordAt_120 hl (k := 7) rfl (by decide) (by decide) rfl (fun ls hl => ?_)
      refine lv_goto (tgt := 5) hx hb dX8_wordAt_123 (by decide) ?_
      exact J_2_10 ls (lv_sub hl [5, 6, 7, 0, 1] rfl)
    ·
      refine lv_iconst (v := 1) hx hb dX8_wordAt_47 (by decide) ?_
      refine lv_goto (tgt := 52) hx hb dX8_wordAt_48 (by decide) ?_
      refine lv_istore (lv' := [(6, .int 1), (5, .int 4), (0, .ref (y 0)), (1, .int a), (2, .int b), (3, .int 1), (4, .int 5)]) hx hb dX8_wordAt_52 hl (by decide) rfl (fun ls hl => ?_)
      refine lv_iconst (v := 0) hx hb dX8_wordAt_54 (by decide) ?_
      refine lv_istore (lv' := [(7, .int 0), (6, .int 1), (5, .int 4), (0, .ref (y 0)), (1, .int a), (2, .int b), (3, .int 1), (4, .int 5)]) hx hb dX8_wordAt_55 hl (by decide) rfl (fun ls hl => ?_)
      refine lv_iload hx hb dX8_wordAt_57 (lv_at hl 0 rfl) ?_
      refine lv_iload hx hb dX8_wordAt_59 (lv_at hl 2 rfl) ?_
      refine lv_icmp_ge (tgt := 104) hx hb dX8_wordAt_61 (by decide) (fun h => absurd h (by decide)) (fun _ => ?_)
      refine lv_iload hx hb dX8_wordAt_64 (lv_at hl 1 rfl) ?_
      refine lv_if_eq (tgt := 104) hx hb dX8_wordAt_66 (by decide) (fun h => absurd h (by decide)) (fun _ => ?_)
      refine lv_aload_n hx hb dX8_wordAt_69 rfl (lv_at hl 3 rfl) ?_
      refine va_get (D := D) (ci := 8) (v := .ref (y 17)) (C := RX8) (T := TX8) (N := 52) hx hb hts w_1 hown hK hP 0 rfl rfl 34 (by decide) w_2 (fun _ h9 => h9) rfl dX8_wordAt_70 ?_
      refine lv_iload hx hb dX8_wordAt_73 (lv_at hl 7 rfl) ?_
      refine lv_iload hx hb dX8_wordAt_75 (lv_at hl 0 rfl) ?_
      refine sv_iadd (v := 5) hx hb dX8_wordAt_77 (by decide) ?_
      refine sv_iald (v := 118) hx hb hK hP 2 1 rfl rfl (vp_in_iff.mpr (by decide)) (hwf 5 (by decide)) dX8_wordAt_78 ?_
      refine lv_aload_n hx hb dX8_wordAt_79 rfl (lv_at hl 3 rfl) ?_
      refine va_get (D := D) (ci := 8) (v := .ref (y 1)) (C := RX8) (T := TX8) (N := 52) hx hb hts w_1 hown hK hP 0 rfl rfl 0 (by decide) w_3 (fun _ h9 => h9) rfl dX8_wordAt_80 ?_
      refine lv_iload_n hx hb dX8_wordAt_83 rfl (lv_at hl 4 rfl) ?_
      refine lv_iload hx hb dX8_wordAt_84 (lv_at hl 0 rfl) ?_
      refine sv_iadd (v := a + 0) hx hb dX8_wordAt_86 rfl ?_
      refine lv_topi (fun v_56 ev_56 => ?_)
      refine sv_iald (v := m_tape v_56.toNatClampNeg) hx hb hK hP 1 1 rfl rfl (by rw [ev_56]; exact wa_in h0 hab hb9 (c_44.trans ev_55) (by decide)) rfl dX8_wordAt_87 ?_
      refine lv_topi (fun v_57 ev_57 => ?_)
      refine lv_icmp_ne (tgt := 95) hx hb dX8_wordAt_88 (by decide) (fun c_88 => ?_) (fun c_88 => ?_)
      ·
        refine lv_iconst (v := 0) hx hb dX8_wordAt_95 (by decide) ?_
        refine lv_istore (lv' := [(6, .int 0), (7, .int 0), (5, .int 4), (0, .ref (y 0)), (1, .int a), (2, .int b), (3, .int 1), (4, .int 5)]) hx hb dX8_wordAt_96 hl (by decide) rfl (fun ls hl => ?_)
        refine lv_iinc (v := 1) (lv' := [(7, .int 1), (6, .int 0), (5, .int 4), (0, .ref (y 0)), (1, .int a), (2, .int b), (3, .int 1), (4, .int 5)]) hx hb dX8_wordAt_98 hl (k := 1) rfl (by decide) (by decide) rfl (fun ls hl => ?_)
        refine lv_goto (tgt := 57) hx hb dX8_wordAt_101 (by decide) ?_
        refine lv_iload hx hb dX8_wordAt_57 (lv_at hl 0 rfl) ?_
        refine lv_iload hx hb dX8_wordAt_59 (lv_at hl 2 rfl) ?_
        refine lv_icmp_ge (tgt := 104) hx hb dX8_wordAt_61 (by decide) (fun h => absurd h (by decide)) (fun _ => ?_)
        refine lv_iload hx hb dX8_wordAt_64 (lv_at hl 1 rfl) ?_
        refine lv_if_eq (tgt := 104) hx hb dX8_wordAt_66 (by decide) (fun _ => ?_) (fun h => absurd (by decide) h)
        refine lv_iload hx hb dX8_wordAt_104 (lv_at hl 1 rfl) ?_
        refine lv_if_eq (tgt := 111) hx hb dX8_wordAt_106 (by decide) (fun _ => ?_) (fun h => absurd (by decide) h)
        refine lv_iload hx hb dX8_wordAt_111 (lv_at hl 7 rfl) ?_
        refine lv_iload hx hb dX8_wordAt_113 (lv_at hl 2 rfl) ?_
        refine lv_iconst (v := 1) hx hb dX8_wordAt_115 (by decide) ?_
        refine sv_iadd (v := 5) hx hb dX8_wordAt_116 (by decide) ?_
        refine sv_iadd (v := 10) hx hb dX8_wordAt_117 (by decide) ?_
        refine lv_istore (lv' := [(4, .int 10), (7, .int 1), (6, .int 0), (5, .int 4), (0, .ref (y 0)), (1, .int a), (2, .int b), (3, .int 1)]) hx hb dX8_wordAt_118 hl (by decide) rfl (fun ls hl => ?_)
        refine lv_iinc (v := 2) (lv' := [(3, .int 2), (4, .int 10), (7, .int 1), (6, .int 0), (5, .int 4), (0, .ref (y 0)), (1, .int a), (2, .int b)]) hx hb dX8_wordAt_120 hl (k := 7) rfl (by decide) (by decide) rfl (fun ls hl => ?_)
        refine lv_goto (tgt := 5) hx hb dX8_wordAt_123 (by decide) ?_
        exact J_2_10 ls (lv_sub hl [5, 6, 7, 0, 1] rfl)
      ·
        refine lv_iconst (v := 1) hx hb dX8_wordAt_91 (by decide) ?_
        refine lv_goto (tgt := 96) hx hb dX8_wordAt_92 (by decide) ?_
        refine lv_istore (lv' := [(6, .int 1), (7, .int 0), (5, .int 4), (0, .ref (y 0)), (1, .int a), (2, .int b), (3, .int 1), (4, .int 5)]) hx hb dX8_wordAt_96 hl (by decide) rfl (fun ls hl => ?_)
        refine lv_iinc (v := 1) (lv' := [(7, .int 1), (6, .int 1), (5, .int 4), (0, .ref (y 0)), (1, .int a), (2, .int b), (3, .int 1), (4, .int 5)]) hx hb dX8_wordAt_98 hl (k := 1) rfl (by decide) (by decide) rfl (fun ls hl => ?_)
        refine lv_goto (tgt := 57) hx hb dX8_wordAt_101 (by decide) ?_
        refine lv_iload hx hb dX8_wordAt_57 (lv_at hl 0 rfl) ?_
        refine lv_iload hx hb dX8_wordAt_59 (lv_at hl 2 rfl) ?_
        refine lv_icmp_ge (tgt := 104) hx hb dX8_wordAt_61 (by decide) (fun h => absurd h (by decide)) (fun _ => ?_)
        refine lv_iload hx hb dX8_wordAt_64 (lv_at hl 1 rfl) ?_
        refine lv_if_eq (tgt := 104) hx hb dX8_wordAt_66 (by decide) (fun h => absurd h (by decide)) (fun _ => ?_)
        refine lv_aload_n hx hb dX8_wordAt_69 rfl (lv_at hl 3 rfl) ?_
        refine va_get (D := D) (ci := 8) (v := .ref (y 17)) (C := RX8) (T := TX8) (N := 52) hx hb hts w_1 hown hK hP 0 rfl rfl 34 (by decide) w_2 (fun _ h9 => h9) rfl dX8_wordAt_70 ?_
        refine lv_iload hx hb dX8_wordAt_73 (lv_at hl 7 rfl) ?_
        refine lv_iload hx hb dX8_wordAt_75 (lv_at hl 0 rfl) ?_
        refine sv_iadd (v := 6) hx hb dX8_wordAt_77 (by decide) ?_
        refine sv_iald (v := 111) hx hb hK hP 2 1 rfl rfl (vp_in_iff.mpr (by decide)) (hwf 6 (by decide)) dX8_wordAt_78 ?_
        refine lv_aload_n hx hb dX8_wordAt_79 rfl (lv_at hl 3 rfl) ?_
        refine va_get (D := D) (ci := 8) (v := .ref (y 1)) (C := RX8) (T := TX8) (N := 52) hx hb hts w_1 hown hK hP 0 rfl rfl 0 (by decide) w_3 (fun _ h9 => h9) rfl dX8_wordAt_80 ?_
        refine lv_iload_n hx hb dX8_wordAt_83 rfl (lv_at hl 4 rfl) ?_
        refine lv_iload hx hb dX8_wordAt_84 (lv_at hl 0 rfl) ?_
        refine sv_iadd (v := a + 1) hx hb dX8_wordAt_86 rfl ?_
        refine sv_iald (v := m_tape (a + 1).toNatClampNeg) hx hb hK hP 1 1 rfl rfl (wa_in h0 hab hb9 (c_44.trans ev_55) (by decide)) rfl dX8_wordAt_87 ?_
        refine lv_topi (fun v_58 ev_58 => ?_)
        refine lv_icmp_ne (tgt := 95) hx hb dX8_wordAt_88 (by decide) (fun c_88 => ?_) (fun c_88 => ?_)
        ·
          refine lv_iconst (v := 0) hx hb dX8_wordAt_95 (by decide) ?_
          refine lv_istore (lv' := [(6, .int 0), (7, .int 1), (5, .int 4), (0, .ref (y 0)), (1, .int a), (2, .int b), (3, .int 1), (4, .int 5)]) hx hb dX8_wordAt_96 hl (by decide) rfl (fun ls hl => ?_)
          refine lv_iinc (v := 2) (lv' := [(7, .int 2), (6, .int 0), (5, .int 4), (0, .ref (y 0)), (1, .int a), (2, .int b), (3, .int 1), (4, .int 5)]) hx hb dX8_wordAt_98 hl (k := 1) rfl (by decide) (by decide) rfl (fun ls hl => ?_)
          refine lv_goto (tgt := 57) hx hb dX8_wordAt_101 (by decide) ?_
          refine lv_iload hx hb dX8_wordAt_57 (lv_at hl 0 rfl) ?_
          refine lv_iload hx hb dX8_wordAt_59 (lv_at hl 2 rfl) ?_
          refine lv_icmp_ge (tgt := 104) hx hb dX8_wordAt_61 (by decide) (fun h => absurd h (by decide)) (fun _ => ?_)
          refine lv_iload hx hb dX8_wordAt_64 (lv_at hl 1 rfl) ?_
          refine lv_if_eq (tgt := 104) hx hb dX8_wordAt_66 (by decide) (fun _ => ?_) (fun h => absurd (by decide) h)
          refine lv_iload hx hb dX8_wordAt_104 (lv_at hl 1 rfl) ?_
          refine lv_if_eq (tgt := 111) hx hb dX8_wordAt_106 (by decide) (fun _ => ?_) (fun h => absurd (by decide) h)
          refine lv_iload hx hb dX8_wordAt_111 (lv_at hl 7 rfl) ?_
          refine lv_iload hx hb dX8_wordAt_113 (lv_at hl 2 rfl) ?_
          refine lv_iconst (v := 1) hx hb dX8_wordAt_115 (by decide) ?_
          refine sv_iadd (v := 5) hx hb dX8_wordAt_116 (by decide) ?_
          refine sv_iadd (v := 10) hx hb dX8_wordAt_117 (by decide) ?_
          refine lv_istore (lv' := [(4, .int 10), (7, .int 2), (6, .int 0), (5, .int 4), (0, .ref (y 0)), (1, .int a), (2, .int b), (3, .int 1)]) hx hb dX8_wordAt_118 hl (by decide) rfl (fun ls hl => ?_)
          refine lv_iinc (v := 2) (lv' := [(3, .int 2), (4, .int 10), (7, .int 2), (6, .int 0), (5, .int 4), (0, .ref (y 0)), (1, .int a), (2, .int b)]) hx hb dX8_wordAt_120 hl (k := 7) rfl (by decide) (by decide) rfl (fun ls hl => ?_)
          refine lv_goto (tgt := 5) hx hb dX8_wordAt_123 (by decide) ?_
          exact J_2_10 ls (lv_sub hl [5, 6, 7, 0, 1] rfl)
        ·
          refine lv_iconst (v := 1) hx hb dX8_wordAt_91 (by decide) ?_
          refine lv_goto (tgt := 96) hx hb dX8_wordAt_92 (by decide) ?_
          refine lv_istore (lv' := [(6, .int 1), (7, .int 1), (5, .int 4), (0, .ref (y 0)), (1, .int a), (2, .int b), (3, .int 1), (4, .int 5)]) hx hb dX8_wordAt_96 hl (by decide) rfl (fun ls hl => ?_)
          refine lv_iinc (v := 2) (lv' := [(7, .int 2), (6, .int 1), (5, .int 4), (0, .ref (y 0)), (1, .int a), (2, .int b), (3, .int 1), (4, .int 5)]) hx hb dX8_wordAt_98 hl (k := 1) rfl (by decide) (by decide) rfl (fun ls hl => ?_)
          refine lv_goto (tgt := 57) hx hb dX8_wordAt_101 (by decide) ?_
          refine lv_iload hx hb dX8_wordAt_57 (lv_at hl 0 rfl) ?_
          refine lv_iload hx hb dX8_wordAt_59 (lv_at hl 2 rfl) ?_
          refine lv_icmp_ge (tgt := 104) hx hb dX8_wordAt_61 (by decide) (fun h => absurd h (by decide)) (fun _ => ?_)
          refine lv_iload hx hb dX8_wordAt_64 (lv_at hl 1 rfl) ?_
          refine lv_if_eq (tgt := 104) hx hb dX8_wordAt_66 (by decide) (fun h => absurd h (by decide)) (fun _ => ?_)
          refine lv_aload_n hx hb dX8_wordAt_69 rfl (lv_at hl 3 rfl) ?_
          refine va_get (D := D) (ci := 8) (v := .ref (y 17)) (C := RX8) (T := TX8) (N := 52) hx hb hts w_1 hown hK hP 0 rfl rfl 34 (by decide) w_2 (fun _ h9 => h9) rfl dX8_wordAt_70 ?_
          refine lv_iload hx hb dX8_wordAt_73 (lv_at hl 7 rfl) ?_
          refine lv_iload hx hb dX8_wordAt_75 (lv_at hl 0 rfl) ?_
          refine sv_iadd (v := 7) hx hb dX8_wordAt_77 (by decide) ?_
          refine sv_iald (v := 116) hx hb hK hP 2 1 rfl rfl (vp_in_iff.mpr (by decide)) (hwf 7 (by decide)) dX8_wordAt_78 ?_
          refine lv_aload_n hx hb dX8_wordAt_79 rfl (lv_at hl 3 rfl) ?_
          refine va_get (D := D) (ci := 8) (v := .ref (y 1)) (C := RX8) (T := TX8) (N := 52) hx hb hts w_1 hown hK hP 0 rfl rfl 0 (by decide) w_3 (fun _ h9 => h9) rfl dX8_wordAt_80 ?_
          refine lv_iload_n hx hb dX8_wordAt_83 rfl (lv_at hl 4 rfl) ?_
          refine lv_iload hx hb dX8_wordAt_84 (lv_at hl 0 rfl) ?_
          refine sv_iadd (v := a + 2) hx hb dX8_wordAt_86 rfl ?_
          refine lv_topi (fun v_59 ev_59 => ?_)
          refine sv_iald (v := m_tape v_59.toNatClampNeg) hx hb hK hP 1 1 rfl rfl (by rw [ev_59]; exact wa_in h0 hab hb9 (c_44.trans ev_55) (by decide)) rfl dX8_wordAt_87 ?_
          refine lv_topi (fun v_60 ev_60 => ?_)
          refine lv_icmp_ne (tgt := 95) hx hb dX8_wordAt_88 (by decide) (fun c_88 => ?_) (fun c_88 => ?_)
          ·
            refine lv_iconst (v := 0) hx hb dX8_wordAt_95 (by decide) ?_
            refine lv_istore (lv' := [(6, .int 0), (7, .int 2), (5, .int 4), (0, .ref (y 0)), (1, .int a), (2, .int b), (3, .int 1), (4, .int 5)]) hx hb dX8_wordAt_96 hl (by decide) rfl (fun ls hl => ?_)
            refine lv_iinc (v := 3) (lv' := [(7, .int 3), (6, .int 0), (5, .int 4), (0, .ref (y 0)), (1, .int a), (2, .int b), (3, .int 1), (4, .int 5)]) hx hb dX8_wordAt_98 hl (k := 1) rfl (by decide) (by decide) rfl (fun ls hl => ?_)
            refine lv_goto (tgt := 57) hx hb dX8_wordAt_101 (by decide) ?_
            refine lv_iload hx hb dX8_wordAt_57 (lv_at hl 0 rfl) ?_
            refine lv_iload hx hb dX8_wordAt_59 (lv_at hl 2 rfl) ?_
            refine lv_icmp_ge (tgt := 104) hx hb dX8_wordAt_61 (by decide) (fun h => absurd h (by decide)) (fun _ => ?_)
            refine lv_iload hx hb dX8_wordAt_64 (lv_at hl 1 rfl) ?_
            refine lv_if_eq (tgt := 104) hx hb dX8_wordAt_66 (by decide) (fun _ => ?_) (fun h => absurd (by decide) h)
            refine lv_iload hx hb dX8_wordAt_104 (lv_at hl 1 rfl) ?_
            refine lv_if_eq (tgt := 111) hx hb dX8_wordAt_106 (by decide) (fun _ => ?_) (fun h => absurd (by decide) h)
            refine lv_iload hx hb dX8_wordAt_111 (lv_at hl 7 rfl) ?_
            refine lv_iload hx hb dX8_wordAt_113 (lv_at hl 2 rfl) ?_
            refine lv_iconst (v := 1) hx hb dX8_wordAt_115 (by decide) ?_
            refine sv_iadd (v := 5) hx hb dX8_wordAt_116 (by decide) ?_
            refine sv_iadd (v := 10) hx hb dX8_wordAt_117 (by decide) ?_
            refine lv_istore (lv' := [(4, .int 10), (7, .int 3), (6, .int 0), (5, .int 4), (0, .ref (y 0)), (1, .int a), (2, .int b), (3, .int 1)]) hx hb dX8_wordAt_118 hl (by decide) rfl (fun ls hl => ?_)
            refine lv_iinc (v := 2) (lv' := [(3, .int 2), (4, .int 10), (7, .int 3), (6, .int 0), (5, .int 4), (0, .ref (y 0)), (1, .int a), (2, .int b)]) hx hb dX8_wordAt_120 hl (k := 7) rfl (by decide) (by decide) rfl (fun ls hl => ?_)
            refine lv_goto (tgt := 5) hx hb dX8_wordAt_123 (by decide) ?_
            exact J_2_10 ls (lv_sub hl [5, 6, 7, 0, 1] rfl)
          ·
            refine lv_iconst (v := 1) hx hb dX8_wordAt_91 (by decide) ?_
            refine lv_goto (tgt := 96) hx hb dX8_wordAt_92 (by decide) ?_
            refine lv_istore (lv' := [(6, .int 1), (7, .int 2), (5, .int 4), (0, .ref (y 0)), (1, .int a), (2, .int b), (3, .int 1), (4, .int 5)]) hx hb dX8_wordAt_96 hl (by decide) rfl (fun ls hl => ?_)
            refine lv_iinc (v := 3) (lv' := [(7, .int 3), (6, .int 1), (5, .int 4), (0, .ref (y 0)), (1, .int a), (2, .int b), (3, .int 1), (4, .int 5)]) hx hb dX8_wordAt_98 hl (k := 1) rfl (by decide) (by decide) rfl (fun ls hl => ?_)
            refine lv_goto (tgt := 57) hx hb dX8_wordAt_101 (by decide) ?_
            refine lv_iload hx hb dX8_wordAt_57 (lv_at hl 0 rfl) ?_
            refine lv_iload hx hb dX8_wordAt_59 (lv_at hl 2 rfl) ?_
            refine lv_icmp_ge (tgt := 104) hx hb dX8_wordAt_61 (by decide) (fun h => absurd h (by decide)) (fun _ => ?_)
            refine lv_iload hx hb dX8_wordAt_64 (lv_at hl 1 rfl) ?_
            refine lv_if_eq (tgt := 104) hx hb dX8_wordAt_66 (by decide) (fun h => absurd h (by decide)) (fun _ => ?_)
            refine lv_aload_n hx hb dX8_wordAt_69 rfl (lv_at hl 3 rfl) ?_
            refine va_get (D := D) (ci := 8) (v := .ref (y 17)) (C := RX8) (T := TX8) (N := 52) hx hb hts w_1 hown hK hP 0 rfl rfl 34 (by decide) w_2 (fun _ h9 => h9) rfl dX8_wordAt_70 ?_
            refine lv_iload hx hb dX8_wordAt_73 (lv_at hl 7 rfl) ?_
            refine lv_iload hx hb dX8_wordAt_75 (lv_at hl 0 rfl) ?_
            refine sv_iadd (v := 8) hx hb dX8_wordAt_77 (by decide) ?_
            refine sv_iald (v := 101) hx hb hK hP 2 1 rfl rfl (vp_in_iff.mpr (by decide)) (hwf 8 (by decide)) dX8_wordAt_78 ?_
            refine lv_aload_n hx hb dX8_wordAt_79 rfl (lv_at hl 3 rfl) ?_
            refine va_get (D := D) (ci := 8) (v := .ref (y 1)) (C := RX8) (T := TX8) (N := 52) hx hb hts w_1 hown hK hP 0 rfl rfl 0 (by decide) w_3 (fun _ h9 => h9) rfl dX8_wordAt_80 ?_
            refine lv_iload_n hx hb dX8_wordAt_83 rfl (lv_at hl 4 rfl) ?_
            refine lv_iload hx hb dX8_wordAt_84 (lv_at hl 0 rfl) ?_
            refine sv_iadd (v := a + 3) hx hb dX8_wordAt_86 rfl ?_
            refine lv_topi (fun v_61 ev_61 => ?_)
            refine sv_iald (v := m_tape v_61.toNatClampNeg) hx hb hK hP 1 1 rfl rfl (by rw [ev_61]; exact wa_in h0 hab hb9 (c_44.trans ev_55) (by decide)) rfl dX8_wordAt_87 ?_
            refine lv_topi (fun v_62 ev_62 => ?_)
            refine lv_icmp_ne (tgt := 95) hx hb dX8_wordAt_88 (by decide) (fun c_88 => ?_) (fun c_88 => ?_)
            ·
              refine lv_iconst (v := 0) hx hb dX8_wordAt_95 (by decide) ?_
              refine lv_istore (lv' := [(6, .int 0), (7, .int 3), (5, .int 4), (0, .ref (y 0)), (1, .int a), (2, .int b), (3, .int 1), (4, .int 5)]) hx hb dX8_wordAt_96 hl (by decide) rfl (fun ls hl => ?_)
              refine lv_iinc (v := 4) (lv' := [(7, .int 4), (6, .int 0), (5, .int 4), (0, .ref (y 0)), (1, .int a), (2, .int b), (3, .int 1), (4, .int 5)]) hx hb dX8_wordAt_98 hl (k := 1) rfl (by decide) (by decide) rfl (fun ls hl => ?_)
              refine lv_goto (tgt := 57) hx hb dX8_wordAt_101 (by decide) ?_
              refine lv_iload hx hb dX8_wordAt_57 (lv_at hl 0 rfl) ?_
              refine lv_iload hx hb dX8_wordAt_59 (lv_at hl 2 rfl) ?_
              refine lv_icmp_ge (tgt := 104) hx hb dX8_wordAt_61 (by decide) (fun _ => ?_) (fun h => absurd (by decide) h)
              refine lv_iload hx hb dX8_wordAt_104 (lv_at hl 1 rfl) ?_
              refine lv_if_eq (tgt := 111) hx hb dX8_wordAt_106 (by decide) (fun _ => ?_) (fun h => absurd (by decide) h)
              refine lv_iload hx hb dX8_wordAt_111 (lv_at hl 7 rfl) ?_
              refine lv_iload hx hb dX8_wordAt_113 (lv_at hl 2 rfl) ?_
              refine lv_iconst (v := 1) hx hb dX8_wordAt_115 (by decide) ?_
              refine sv_iadd (v := 5) hx hb dX8_wordAt_116 (by decide) ?_
              refine sv_iadd (v := 10) hx hb dX8_wordAt_117 (by decide) ?_
              refine lv_istore (lv' := [(4, .int 10), (7, .int 4), (6, .int 0), (5, .int 4), (0, .ref (y 0)), (1, .int a), (2, .int b), (3, .int 1)]) hx hb dX8_wordAt_118 hl (by decide) rfl (fun ls hl => ?_)
              refine lv_iinc (v := 2) (lv' := [(3, .int 2), (4, .int 10), (7, .int 4), (6, .int 0), (5, .int 4), (0, .ref (y 0)), (1, .int a), (2, .int b)]) hx hb dX8_wordAt_120 hl (k := 7) rfl (by decide) (by decide) rfl (fun ls hl => ?_)
              refine lv_goto (tgt := 5) hx hb dX8_wordAt_123 (by decide) ?_
              exact J_2_10 ls (lv_sub hl [5, 6, 7, 0, 1] rfl)
            ·
              refine lv_iconst (v := 1) hx hb dX8_wordAt_91 (by decide) ?_
              refine lv_goto (tgt := 96) hx hb dX8_wordAt_92 (by decide) ?_
              refine lv_istore (lv' := [(6, .int 1), (7, .int 3), (5, .int 4), (0, .ref (y 0)), (1, .int a), (2, .int b), (3, .int 1), (4, .int 5)]) hx hb dX8_wordAt_96 hl (by decide) rfl (fun ls hl => ?_)
              refine lv_iinc (v := 4) (lv' := [(7, .int 4), (6, .int 1), (5, .int 4), (0, .ref (y 0)), (1, .int a), (2, .int b), (3, .int 1), (4, .int 5)]) hx hb dX8_wordAt_98 hl (k := 1) rfl (by decide) (by decide) rfl (fun ls hl => ?_)
              refine lv_goto (tgt := 57) hx hb dX8_wordAt_101 (by decide) ?_
              refine lv_iload hx hb dX8_wordAt_57 (lv_at hl 0 rfl) ?_
              refine lv_iload hx hb dX8_wordAt_59 (lv_at hl 2 rfl) ?_
              refine lv_icmp_ge (tgt := 104) hx hb dX8_wordAt_61 (by decide) (fun _ => ?_) (fun h => absurd (by decide) h)
              refine lv_iload hx hb dX8_wordAt_104 (lv_at hl 1 rfl) ?_
              refine lv_if_eq (tgt := 111) hx hb dX8_wordAt_106 (by decide) (fun h => absurd h (by decide)) (fun _ => ?_)
              refine lv_iload_n hx hb dX8_wordAt_109 rfl (lv_at hl 6 rfl) ?_
              rw [← hQ]
              exact W.iret (v := 1) hx hb hr (fun t ht hW => ⟨_, rfl, Or.inr (vp_in_iff.mpr (by decide)), ht⟩) (fun q h => nomatch h) dX8_wordAt_110
  have J_0_0 : ∀ (ls : Array Slot), lv_has ls 8 [(0, .ref (y 0)), (1, .int a), (2, .int b), (3, .int 0), (4, .int 0)] → W p l e (headSpec wsX8_wordAt ({ frames := 0, cells := 0, slots := 0, locals := 0 } : Room)).room s m ([.ref (y 0), .int a, .int b] : List Value).toArray below meth c s.heap [] 0 0 Q0 (F0 m 5 ls []) := by
    intro ls hl
    refine lv_iload hx hb dX8_wordAt_5 (lv_at hl 4 rfl) ?_
    refine lv_aload_n hx hb dX8_wordAt_7 rfl (lv_at hl 0 rfl) ?_
    refine va_get (D := D) (ci := 8) (v := .ref (y 17)) (C := RX8) (T := TX8) (N := 52) hx hb hts w_1 hown hK hP 0 rfl rfl 34 (by decide) w_2 (fun _ h9 => h9) rfl dX8_wordAt_8 ?_
    refine va_alen (v := 43) hx hb hK hP 2 1 rfl rfl rfl dX8_wordAt_11 ?_
    refine lv_icmp_ge (tgt := 126) hx hb dX8_wordAt_12 (by decide) (fun h => absurd h (by decide)) (fun _ => ?_)
    refine lv_iconst (v := 0) hx hb dX8_wordAt_15 (by decide) ?_
    refine lv_istore (lv' := [(5, .int 0), (0, .ref (y 0)), (1, .int a), (2, .int b), (3, .int 0), (4, .int 0)]) hx hb dX8_wordAt_16 hl (by decide) rfl (fun ls hl => ?_)
    refine lv_aload_n hx hb dX8_wordAt_18 rfl (lv_at hl 1 rfl) ?_
    refine va_get (D := D) (ci := 8) (v := .ref (y 17)) (C := RX8) (T := TX8) (N := 52) hx hb hts w_1 hown hK hP 0 rfl rfl 34 (by decide) w_2 (fun _ h9 => h9) rfl dX8_wordAt_19 ?_
    refine lv_iload hx hb dX8_wordAt_22 (lv_at hl 5 rfl) ?_
    refine lv_iload hx hb dX8_wordAt_24 (lv_at hl 0 rfl) ?_
    refine sv_iadd (v := 0) hx hb dX8_wordAt_26 (by decide) ?_
    refine sv_iald (v := 116) hx hb hK hP 2 1 rfl rfl (vp_in_iff.mpr (by decide)) (hwf 0 (by decide)) dX8_wordAt_27 ?_
    refine lv_bipush (v := 32) hx hb dX8_wordAt_28 (by decide) ?_
    refine lv_icmp_eq (tgt := 39) hx hb dX8_wordAt_30 (by decide) (fun h => absurd h (by decide)) (fun _ => ?_)
    refine lv_iinc (v := 1) (lv' := [(5, .int 1), (0, .ref (y 0)), (1, .int a), (2, .int b), (3, .int 0), (4, .int 0)]) hx hb dX8_wordAt_33 hl (k := 0) rfl (by decide) (by decide) rfl (fun ls hl => ?_)
    refine lv_goto (tgt := 18) hx hb dX8_wordAt_36 (by decide) ?_
    refine lv_aload_n hx hb dX8_wordAt_18 rfl (lv_at hl 1 rfl) ?_
    refine va_get (D := D) (ci := 8) (v := .ref (y 17)) (C := RX8) (T := TX8) (N := 52) hx hb hts w_1 hown hK hP 0 rfl rfl 34 (by decide) w_2 (fun _ h9 => h9) rfl dX8_wordAt_19 ?_
    refine lv_iload hx hb dX8_wordAt_22 (lv_at hl 5 rfl) ?_
    refine lv_iload hx hb dX8_wordAt_24 (lv_at hl 0 rfl) ?_
    refine sv_iadd (v := 1) hx hb dX8_wordAt_26 (by decide) ?_
    refine sv_iald (v := 117) hx hb hK hP 2 1 rfl rfl (vp_in_iff.mpr (by decide)) (hwf 1 (by decide)) dX8_wordAt_27 ?_
    refine lv_bipush (v := 32) hx hb dX8_wordAt_28 (by decide) ?_
    refine lv_icmp_eq (tgt := 39) hx hb dX8_wordAt_30 (by decide) (fun h => absurd h (by decide)) (fun _ => ?_)
    refine lv_iinc (v := 2) (lv' := [(5, .int 2), (0, .ref (y 0)), (1, .int a), (2, .int b), (3, .int 0), (4, .int 0)]) hx hb dX8_wordAt_33 hl (k := 0) rfl (by decide) (by decide) rfl (fun ls hl => ?_)
    refine lv_goto (tgt := 18) hx hb dX8_wordAt_36 (by decide) ?_
    refine lv_aload_n hx hb dX8_wordAt_18 rfl (lv_at hl 1 rfl) ?_
    refine va_get (D := D) (ci := 8) (v := .ref (y 17)) (C := RX8) (T := TX8) (N := 52) hx hb hts w_1 hown hK hP 0 rfl rfl 34 (by decide) w_2 (fun _ h9 => h9) rfl dX8_wordAt_19 ?_
    refine lv_iload hx hb dX8_wordAt_22 (lv_at hl 5 rfl) ?_
    refine lv_iload hx hb dX8_wordAt_24 (lv_at hl 0 rfl) ?_
    refine sv_iadd (v := 2) hx hb dX8_wordAt_26 (by decide) ?_
    refine sv_iald (v := 114) hx hb hK hP 2 1 rfl rfl (vp_in_iff.mpr (by decide)) (hwf 2 (by decide)) dX8_wordAt_27 ?_
    refine lv_bipush (v := 32) hx hb dX8_wordAt_28 (by decide) ?_
    refine lv_icmp_eq (tgt := 39) hx hb dX8_wordAt_30 (by decide) (fun h => absurd h (by decide)) (fun _ => ?_)
    refine lv_iinc (v := 3) (lv' := [(5, .int 3), (0, .ref (y 0)), (1, .int a), (2, .int b), (3, .int 0), (4, .int 0)]) hx hb dX8_wordAt_33 hl (k := 0) rfl (by decide) (by decide) rfl (fun ls hl => ?_)
    refine lv_goto (tgt := 18) hx hb dX8_wordAt_36 (by decide) ?_
    refine lv_aload_n hx hb dX8_wordAt_18 rfl (lv_at hl 1 rfl) ?_
    refine va_get (D := D) (ci := 8) (v := .ref (y 17)) (C := RX8) (T := TX8) (N := 52) hx hb hts w_1 hown hK hP 0 rfl rfl 34 (by decide) w_2 (fun _ h9 => h9) rfl dX8_wordAt_19 ?_
    refine lv_iload hx hb dX8_wordAt_22 (lv_at hl 5 rfl) ?_
    refine lv_iload hx hb dX8_wordAt_24 (lv_at hl 0 rfl) ?_
    refine sv_iadd (v := 3) hx hb dX8_wordAt_26 (by decide) ?_
    refine sv_iald (v := 110) hx hb hK hP 2 1 rfl rfl (vp_in_iff.mpr (by decide)) (hwf 3 (by decide)) dX8_wordAt_27 ?_
    refine lv_bipush (v := 32) hx hb dX8_wordAt_28 (by decide) ?_
    refine lv_icmp_eq (tgt := 39) hx hb dX8_wordAt_30 (by decide) (fun h => absurd h (by decide)) (fun _ => ?_)
    refine lv_iinc (v := 4) (lv' := [(5, .int 4), (0, .ref (y 0)), (1, .int a), (2, .int b), (3, .int 0), (4, .int 0)]) hx hb dX8_wordAt_33 hl (k := 0) rfl (by decide) (by decide) rfl (fun ls hl => ?_)
    refine lv_goto (tgt := 18) hx hb dX8_wordAt_36 (by decide) ?_
    refine lv_aload_n hx hb dX8_wordAt_18 rfl (lv_at hl 1 rfl) ?_
    refine va_get (D := D) (ci := 8) (v := .ref (y 17)) (C := RX8) (T := TX8) (N := 52) hx hb hts w_1 hown hK hP 0 rfl rfl 34 (by decide) w_2 (fun _ h9 => h9) rfl dX8_wordAt_19 ?_
    refine lv_iload hx hb dX8_wordAt_22 (lv_at hl 5 rfl) ?_
    refine lv_iload hx hb dX8_wordAt_24 (lv_at hl 0 rfl) ?_
    refine sv_iadd (v := 4) hx hb dX8_wordAt_26 (by decide) ?_
    refine sv_iald (v := 32) hx hb hK hP 2 1 rfl rfl (vp_in_iff.mpr (by decide)) (hwf 4 (by decide)) dX8_wordAt_27 ?_
    refine lv_bipush (v := 32) hx hb dX8_wordAt_28 (by decide) ?_
    refine lv_icmp_eq (tgt := 39) hx hb dX8_wordAt_30 (by decide) (fun _ => ?_) (fun h => absurd (by decide) h)
    refine lv_iload hx hb dX8_wordAt_39 (lv_at hl 0 rfl) ?_
    refine lv_iload_n hx hb dX8_wordAt_41 rfl (lv_at hl 3 rfl) ?_
    refine lv_iload_n hx hb dX8_wordAt_42 rfl (lv_at hl 2 rfl) ?_
    refine sv_isub (v := b - a) hx hb dX8_wordAt_43 rfl ?_
    refine lv_topi (fun v_63 ev_63 => ?_)
    refine lv_icmp_ne (tgt := 51) hx hb dX8_wordAt_44 (by decide) (fun c_44 => ?_) (fun c_44 => ?_)
    ·
      refine lv_iconst (v := 0) hx hb dX8_wordAt_51 (by decide) ?_
      refine lv_istore (lv' := [(6, .int 0), (5, .int 4), (0, .ref (y 0)), (1, .int a), (2, .int b), (3, .int 0), (4, .int 0)]) hx hb dX8_wordAt_52 hl (by decide) rfl (fun ls hl => ?_)
      refine lv_iconst (v := 0) hx hb dX8_wordAt_54 (by decide) ?_
      refine lv_istore (lv' := [(7, .int 0), (6, .int 0), (5, .int 4), (0, .ref (y 0)), (1, .int a), (2, .int b), (3, .int 0), (4, .int 0)]) hx hb dX8_wordAt_55 hl (by decide) rfl (fun ls hl => ?_)
      refine lv_iload hx hb dX8_wordAt_57 (lv_at hl 0 rfl) ?_
      refine lv_iload hx hb dX8_wordAt_59 (lv_at hl 2 rfl) ?_
      refine lv_icmp_ge (tgt := 104) hx hb dX8_wordAt_61 (by decide) (fun h => absurd h (by decide)) (fun _ => ?_)
      refine lv_iload hx hb dX8_wordAt_64 (lv_at hl 1 rfl) ?_
      refine lv_if_eq (tgt := 104) hx hb dX8_wordAt_66 (by decide) (fun _ => ?_) (fun h => absurd (by decide) h)
      refine lv_iload hx hb dX8_wordAt_104 (lv_at hl 1 rfl) ?_
      refine lv_if_eq (tgt := 111) hx hb dX8_wordAt_106 (by decide) (fun _ => ?_) (fun h => absurd (by decide) h)
      refine lv_iload hx hb dX8_wordAt_111 (lv_at hl 7 rfl) ?_
      refine lv_iload hx hb dX8_wordAt_113 (lv_at hl 2 rfl) ?_
      refine lv_iconst (v := 1) hx hb dX8_wordAt_115 (by decide) ?_
      refine sv_iadd (v := 5) hx hb dX8_wordAt_116 (by decide) ?_
      refine sv_iadd (v := 5) hx hb dX8_wordAt_117 (by decide) ?_
      refine lv_istore (lv' := [(4, .int 5), (7, .int 0), (6, .int 0), (5, .int 4), (0, .ref (y 0)), (1, .int a), (2, .int b), (3, .int 0)]) hx hb dX8_wordAt_118 hl (by decide) rfl (fun ls hl => ?_)
      refine lv_iinc (v := 1) (lv' := [(3, .int 1), (4, .int 5), (7, .int 0), (6, .int 0), (5, .int 4), (0, .ref (y 0)), (1, .int a), (2, .int b)]) hx hb dX8_wordAt_120 hl (k := 7) rfl (by decide) (by decide) rfl (fun ls hl => ?_)
      refine lv_goto (tgt := 5) hx hb dX8_wordAt_123 (by decide) ?_
      exact J_1_5 ls (lv_sub hl [5, 6, 7, 0, 1] rfl)
    ·
      refine lv_iconst (v := 1) hx hb dX8_wordAt_47 (by decide) ?_
      refine lv_goto (tgt := 52) hx hb dX8_wordAt_48 (by decide) ?_
      refine lv_istore (lv' := [(6, .int 1), (5, .int 4), (0, .ref (y 0)), (1, .int a), (2, .int b), (3, .int 0), (4, .int 0)]) hx hb dX8_wordAt_52 hl (by decide) rfl (fun ls hl => ?_)
      refine lv_iconst (v := 0) hx hb dX8_wordAt_54 (by decide) ?_
      refine lv_istore (lv' := [(7, .int 0), (6, .int 1), (5, .int 4), (0, .ref (y 0)), (1, .int a), (2, .int b), (3, .int 0), (4, .int 0)]) hx hb dX8_wordAt_55 hl (by decide) rfl (fun ls hl => ?_)
      refine lv_iload hx hb dX8_wordAt_57 (lv_at hl 0 rfl) ?_
      refine lv_iload hx hb dX8_wordAt_59 (lv_at hl 2 rfl) ?_
      refine lv_icmp_ge (tgt := 104) hx hb dX8_wordAt_61 (by decide) (fun h => absurd h (by decide)) (fun _ => ?_)
      refine lv_iload hx hb dX8_wordAt_64 (lv_at hl 1 rfl) ?_
      refine lv_if_eq (tgt := 104) hx hb dX8_wordAt_66 (by decide) (fun h => absurd h (by decide)) (fun _ => ?_)
      refine lv_aload_n hx hb dX8_wordAt_69 rfl (lv_at hl 3 rfl) ?_
      refine va_get (D := D) (ci := 8) (v := .ref (y 17)) (C := RX8) (T := TX8) (N := 52) hx hb hts w_1 hown hK hP 0 rfl rfl 34 (by decide) w_2 (fun _ h9 => h9) rfl dX8_wordAt_70 ?_
      refine lv_iload hx hb dX8_wordAt_73 (lv_at hl 7 rfl) ?_
      refine lv_iload hx hb dX8_wordAt_75 (lv_at hl 0 rfl) ?_
      refine sv_iadd (v := 0) hx hb dX8_wordAt_77 (by decide) ?_
      refine sv_iald (v := 116) hx hb hK hP 2 1 rfl rfl (vp_in_iff.mpr (by decide)) (hwf 0 (by decide)) dX8_wordAt_78 ?_
      refine lv_aload_n hx hb dX8_wordAt_79 rfl (lv_at hl 3 rfl) ?_
      refine va_get (D := D) (ci := 8) (v := .ref (y 1)) (C := RX8) (T := TX8) (N := 52) hx hb hts w_1 hown hK hP 0 rfl rfl 0 (by decide) w_3 (fun _ h9 => h9) rfl dX8_wordAt_80 ?_
      refine lv_iload_n hx hb dX8_wordAt_83 rfl (lv_at hl 4 rfl) ?_
      refine lv_iload hx hb dX8_wordAt_84 (lv_at hl 0 rfl) ?_
      refine sv_iadd (v := a + 0) hx hb dX8_wordAt_86 rfl ?_
      refine lv_topi (fun v_64 ev_64 => ?_)
      refine sv_iald (v := m_tape v_64.toNatClampNeg) hx hb hK hP 1 1 rfl rfl (by rw [ev_64]; exact wa_in h0 hab hb9 (c_44.trans ev_63) (by decide)) rfl dX8_wordAt_87 ?_
      refine lv_topi (fun v_65 ev_65 => ?_)
      refine lv_icmp_ne (tgt := 95) hx hb dX8_wordAt_88 (by decide) (fun c_88 => ?_) (fun c_88 => ?_)
      ·
        refine lv_iconst (v := 0) hx hb dX8_wordAt_95 (by decide) ?_
        refine lv_istore (lv' := [(6, .int 0), (7, .int 0), (5, .int 4), (0, .ref (y 0)), (1, .int a), (2, .int b), (3, .int 0), (4, .int 0)]) hx hb dX8_wordAt_96 hl (by decide) rfl (fun ls hl => ?_)
        refine lv_iinc (v := 1) (lv' := [(7, .int 1), (6, .int 0), (5, .int 4), (0, .ref (y 0)), (1, .int a), (2, .int b), (3, .int 0), (4, .int 0)]) hx hb dX8_wordAt_98 hl (k := 1) rfl (by decide) (by decide) rfl (fun ls hl => ?_)
        refine lv_goto (tgt := 57) hx hb dX8_wordAt_101 (by decide) ?_
        refine lv_iload hx hb dX8_wordAt_57 (lv_at hl 0 rfl) ?_
        refine lv_iload hx hb dX8_wordAt_59 (lv_at hl 2 rfl) ?_
        refine lv_icmp_ge (tgt := 104) hx hb dX8_wordAt_61 (by decide) (fun h => absurd h (by decide)) (fun _ => ?_)
        refine lv_iload hx hb dX8_wordAt_64 (lv_at hl 1 rfl) ?_
        refine lv_if_eq (tgt := 104) hx hb dX8_wordAt_66 (by decide) (fun _ => ?_) (fun h => absurd (by decide) h)
        refine lv_iload hx hb dX8_wordAt_104 (lv_at hl 1 rfl) ?_
        refine lv_if_eq (tgt := 111) hx hb dX8_wordAt_106 (by decide) (fun _ => ?_) (fun h => absurd (by decide) h)
        refine lv_iload hx hb dX8_wordAt_111 (lv_at hl 7 rfl) ?_
        refine lv_iload hx hb dX8_wordAt_113 (lv_at hl 2 rfl) ?_
        refine lv_iconst (v := 1) hx hb dX8_wordAt_115 (by decide) ?_
        refine sv_iadd (v := 5) hx hb dX8_wordAt_116 (by decide) ?_
        refine sv_iadd (v := 5) hx hb dX8_wordAt_117 (by decide) ?_
        refine lv_istore (lv' := [(4, .int 5), (7, .int 1), (6, .int 0), (5, .int 4), (0, .ref (y 0)), (1, .int a), (2, .int b), (3, .int 0)]) hx hb dX8_wordAt_118 hl (by decide) rfl (fun ls hl => ?_)
        refine lv_iinc (v := 1) (lv' := [(3, .int 1), (4, .int 5), (7, .int 1), (6, .int 0), (5, .int 4), (0, .ref (y 0)), (1, .int a), (2, .int b)]) hx hb dX8_wordAt_120 hl (k := 7) rfl (by decide) (by decide) rfl (fun ls hl => ?_)
        refine lv_goto (tgt := 5) hx hb dX8_wordAt_123 (by decide) ?_
        exact J_1_5 ls (lv_sub hl [5, 6, 7, 0, 1] rfl)
      ·
        refine lv_iconst (v := 1) hx hb dX8_wordAt_91 (by decide) ?_
        refine lv_goto (tgt := 96) hx hb dX8_wordAt_92 (by decide) ?_
        refine lv_istore (lv' := [(6, .int 1), (7, .int 0), (5, .int 4), (0, .ref (y 0)), (1, .int a), (2, .int b), (3, .int 0), (4, .int 0)]) hx hb dX8_wordAt_96 hl (by decide) rfl (fun ls hl => ?_)
        refine lv_iinc (v := 1) (lv' := [(7, .int 1), (6, .int 1), (5, .int 4), (0, .ref (y 0)), (1, .int a), (2, .int b), (3, .int 0), (4, .int 0)]) hx hb dX8_wordAt_98 hl (k := 1) rfl (by decide) (by decide) rfl (fun ls hl => ?_)
        refine lv_goto (tgt := 57) hx hb dX8_wordAt_101 (by decide) ?_
        refine lv_iload hx hb dX8_wordAt_57 (lv_at hl 0 rfl) ?_
        refine lv_iload hx hb dX8_wordAt_59 (lv_at hl 2 rfl) ?_
        refine lv_icmp_ge (tgt := 104) hx hb dX8_wordAt_61 (by decide) (fun h => absurd h (by decide)) (fun _ => ?_)
        refine lv_iload hx hb dX8_wordAt_64 (lv_at hl 1 rfl) ?_
        refine lv_if_eq (tgt := 104) hx hb dX8_wordAt_66 (by decide) (fun h => absurd h (by decide)) (fun _ => ?_)
        refine lv_aload_n hx hb dX8_wordAt_69 rfl (lv_at hl 3 rfl) ?_
        refine va_get (D := D) (ci := 8) (v := .ref (y 17)) (C := RX8) (T := TX8) (N := 52) hx hb hts w_1 hown hK hP 0 rfl rfl 34 (by decide) w_2 (fun _ h9 => h9) rfl dX8_wordAt_70 ?_
        refine lv_iload hx hb dX8_wordAt_73 (lv_at hl 7 rfl) ?_
        refine lv_iload hx hb dX8_wordAt_75 (lv_at hl 0 rfl) ?_
        refine sv_iadd (v := 1) hx hb dX8_wordAt_77 (by decide) ?_
        refine sv_iald (v := 117) hx hb hK hP 2 1 rfl rfl (vp_in_iff.mpr (by decide)) (hwf 1 (by decide)) dX8_wordAt_78 ?_
        refine lv_aload_n hx hb dX8_wordAt_79 rfl (lv_at hl 3 rfl) ?_
        refine va_get (D := D) (ci := 8) (v := .ref (y 1)) (C := RX8) (T := TX8) (N := 52) hx hb hts w_1 hown hK hP 0 rfl rfl 0 (by decide) w_3 (fun _ h9 => h9) rfl dX8_wordAt_80 ?_
        refine lv_iload_n hx hb dX8_wordAt_83 rfl (lv_at hl 4 rfl) ?_
        refine lv_iload hx hb dX8_wordAt_84 (lv_at hl 0 rfl) ?_
        refine sv_iadd (v := a + 1) hx hb dX8_wordAt_86 rfl ?_
        refine sv_iald (v := m_tape (a + 1).toNatClampNeg) hx hb hK hP 1 1 rfl rfl (wa_in h0 hab hb9 (c_44.trans ev_63) (by decide)) rfl dX8_wordAt_87 ?_
        refine lv_topi (fun v_66 ev_66 => ?_)
        refine lv_icmp_ne (tgt := 95) hx hb dX8_wordAt_88 (by decide) (fun c_88 => ?_) (fun c_88 => ?_)
        ·
          refine lv_iconst (v := 0) hx hb dX8_wordAt_95 (by decide) ?_
          refine lv_istore (lv' := [(6, .int 0), (7, .int 1), (5, .int 4), (0, .ref (y 0)), (1, .int a), (2, .int b), (3, .int 0), (4, .int 0)]) hx hb dX8_wordAt_96 hl (by decide) rfl (fun ls hl => ?_)
          refine lv_iinc (v := 2) (lv' := [(7, .int 2), (6, .int 0), (5, .int 4), (0, .ref (y 0)), (1, .int a), (2, .int b), (3, .int 0), (4, .int 0)]) hx hb dX8_wordAt_98 hl (k := 1) rfl (by decide) (by decide) rfl (fun ls hl => ?_)
          refine lv_goto (tgt := 57) hx hb dX8_wordAt_101 (by decide) ?_
          refine lv_iload hx hb dX8_wordAt_57 (lv_at hl 0 rfl) ?_
          refine lv_iload hx hb dX8_wordAt_59 (lv_at hl 2 rfl) ?_
          refine lv_icmp_ge (tgt := 104) hx hb dX8_wordAt_61 (by decide) (fun h => absurd h (by decide)) (fun _ => ?_)
          refine lv_iload hx hb dX8_wordAt_64 (lv_at hl 1 rfl) ?_
          refine lv_if_eq (tgt := 104) hx hb dX8_wordAt_66 (by decide) (fun _ => ?_) (fun h => absurd (by decide) h)
          refine lv_iload hx hb dX8_wordAt_104 (lv_at hl 1 rfl) ?_
          refine lv_if_eq (tgt := 111) hx hb dX8_wordAt_106 (by decide) (fun _ => ?_) (fun h => absurd (by decide) h)
          refine lv_iload hx hb dX8_wordAt_111 (lv_at hl 7 rfl) ?_
          refine lv_iload hx hb dX8_wordAt_113 (lv_at hl 2 rfl) ?_
          refine lv_iconst (v := 1) hx hb dX8_wordAt_115 (by decide) ?_
          refine sv_iadd (v := 5) hx hb dX8_wordAt_116 (by decide) ?_
          refine sv_iadd (v := 5) hx hb dX8_wordAt_117 (by decide) ?_
          refine lv_istore (lv' := [(4, .int 5), (7, .int 2), (6, .int 0), (5, .int 4), (0, .ref (y 0)), (1, .int a), (2, .int b), (3, .int 0)]) hx hb dX8_wordAt_118 hl (by decide) rfl (fun ls hl => ?_)
          refine lv_iinc (v := 1) (lv' := [(3, .int 1), (4, .int 5), (7, .int 2), (6, .int 0), (5, .int 4), (0, .ref (y 0)), (1, .int a), (2, .int b)]) hx hb dX8_wordAt_120 hl (k := 7) rfl (by decide) (by decide) rfl (fun ls hl => ?_)
          refine lv_goto (tgt := 5) hx hb dX8_wordAt_123 (by decide) ?_
          exact J_1_5 ls (lv_sub hl [5, 6, 7, 0, 1] rfl)
        ·
          refine lv_iconst (v := 1) hx hb dX8_wordAt_91 (by decide) ?_
          refine lv_goto (tgt := 96) hx hb dX8_wordAt_92 (by decide) ?_
          refine lv_istore (lv' := [(6, .int 1), (7, .int 1), (5, .int 4), (0, .ref (y 0)), (1, .int a), (2, .int b), (3, .int 0), (4, .int 0)]) hx hb dX8_wordAt_96 hl (by decide) rfl (fun ls hl => ?_)
          refine lv_iinc (v := 2) (lv' := [(7, .int 2), (6, .int 1), (5, .int 4), (0, .ref (y 0)), (1, .int a), (2, .int b), (3, .int 0), (4, .int 0)]) hx hb dX8_wordAt_98 hl (k := 1) rfl (by decide) (by decide) rfl (fun ls hl => ?_)
          refine lv_goto (tgt := 57) hx hb dX8_wordAt_101 (by decide) ?_
          refine lv_iload hx hb dX8_wordAt_57 (lv_at hl 0 rfl) ?_
          refine lv_iload hx hb dX8_wordAt_59 (lv_at hl 2 rfl) ?_
          refine lv_icmp_ge (tgt := 104) hx hb dX8_wordAt_61 (by decide) (fun h => absurd h (by decide)) (fun _ => ?_)
          refine lv_iload hx hb dX8_wordAt_64 (lv_at hl 1 rfl) ?_
          refine lv_if_eq (tgt := 104) hx hb dX8_wordAt_66 (by decide) (fun h => absurd h (by decide)) (fun _ => ?_)
          refine lv_aload_n hx hb dX8_wordAt_69 rfl (lv_at hl 3 rfl) ?_
          refine va_get (D := D) (ci := 8) (v := .ref (y 17)) (C := RX8) (T := TX8) (N := 52) hx hb hts w_1 hown hK hP 0 rfl rfl 34 (by decide) w_2 (fun _ h9 => h9) rfl dX8_wordAt_70 ?_
          refine lv_iload hx hb dX8_wordAt_73 (lv_at hl 7 rfl) ?_
          refine lv_iload hx hb dX8_wordAt_75 (lv_at hl 0 rfl) ?_
          refine sv_iadd (v := 2) hx hb dX8_wordAt_77 (by decide) ?_
          refine sv_iald (v := 114) hx hb hK hP 2 1 rfl rfl (vp_in_iff.mpr (by decide)) (hwf 2 (by decide)) dX8_wordAt_78 ?_
          refine lv_aload_n hx hb dX8_wordAt_79 rfl (lv_at hl 3 rfl) ?_
          refine va_get (D := D) (ci := 8) (v := .ref (y 1)) (C := RX8) (T := TX8) (N := 52) hx hb hts w_1 hown hK hP 0 rfl rfl 0 (by decide) w_3 (fun _ h9 => h9) rfl dX8_wordAt_80 ?_
          refine lv_iload_n hx hb dX8_wordAt_83 rfl (lv_at hl 4 rfl) ?_
          refine lv_iload hx hb dX8_wordAt_84 (lv_at hl 0 rfl) ?_
          refine sv_iadd (v := a + 2) hx hb dX8_wordAt_86 rfl ?_
          refine lv_topi (fun v_67 ev_67 => ?_)
          refine sv_iald (v := m_tape v_67.toNatClampNeg) hx hb hK hP 1 1 rfl rfl (by rw [ev_67]; exact wa_in h0 hab hb9 (c_44.trans ev_63) (by decide)) rfl dX8_wordAt_87 ?_
          refine lv_topi (fun v_68 ev_68 => ?_)
          refine lv_icmp_ne (tgt := 95) hx hb dX8_wordAt_88 (by decide) (fun c_88 => ?_) (fun c_88 => ?_)
          ·
            refine lv_iconst (v := 0) hx hb dX8_wordAt_95 (by decide) ?_
            refine lv_istore (lv' := [(6, .int 0), (7, .int 2), (5, .int 4), (0, .ref (y 0)), (1, .int a), (2, .int b), (3, .int 0), (4, .int 0)]) hx hb dX8_wordAt_96 hl (by decide) rfl (fun ls hl => ?_)
            refine lv_iinc (v := 3) (lv' := [(7, .int 3), (6, .int 0), (5, .int 4), (0, .ref (y 0)), (1, .int a), (2, .int b), (3, .int 0), (4, .int 0)]) hx hb dX8_wordAt_98 hl (k := 1) rfl (by decide) (by decide) rfl (fun ls hl => ?_)
            refine lv_goto (tgt := 57) hx hb dX8_wordAt_101 (by decide) ?_
            refine lv_iload hx hb dX8_wordAt_57 (lv_at hl 0 rfl) ?_
            refine lv_iload hx hb dX8_wordAt_59 (lv_at hl 2 rfl) ?_
            refine lv_icmp_ge (tgt := 104) hx hb dX8_wordAt_61 (by decide) (fun h => absurd h (by decide)) (fun _ => ?_)
            refine lv_iload hx hb dX8_wordAt_64 (lv_at hl 1 rfl) ?_
            refine lv_if_eq (tgt := 104) hx hb dX8_wordAt_66 (by decide) (fun _ => ?_) (fun h => absurd (by decide) h)
            refine lv_iload hx hb dX8_wordAt_104 (lv_at hl 1 rfl) ?_
            refine lv_if_eq (tgt := 111) hx hb dX8_wordAt_106 (by decide) (fun _ => ?_) (fun h => absurd (by decide) h)
            refine lv_iload hx hb dX8_wordAt_111 (lv_at hl 7 rfl) ?_
            refine lv_iload hx hb dX8_wordAt_113 (lv_at hl 2 rfl) ?_
            refine lv_iconst (v := 1) hx hb dX8_wordAt_115 (by decide) ?_
            refine sv_iadd (v := 5) hx hb dX8_wordAt_116 (by decide) ?_
            refine sv_iadd (v := 5) hx hb dX8_wordAt_117 (by decide) ?_
            refine lv_istore (lv' := [(4, .int 5), (7, .int 3), (6, .int 0), (5, .int 4), (0, .ref (y 0)), (1, .int a), (2, .int b), (3, .int 0)]) hx hb dX8_wordAt_118 hl (by decide) rfl (fun ls hl => ?_)
            refine lv_iinc (v := 1) (lv' := [(3, .int 1), (4, .int 5), (7, .int 3), (6, .int 0), (5, .int 4), (0, .ref (y 0)), (1, .int a), (2, .int b)]) hx hb dX8_wordAt_120 hl (k := 7) rfl (by decide) (by decide) rfl (fun ls hl => ?_)
            refine lv_goto (tgt := 5) hx hb dX8_wordAt_123 (by decide) ?_
            exact J_1_5 ls (lv_sub hl [5, 6, 7, 0, 1] rfl)
          ·
            refine lv_iconst (v := 1) hx hb dX8_wordAt_91 (by decide) ?_
            refine lv_goto (tgt := 96) hx hb dX8_wordAt_92 (by decide) ?_
            refine lv_istore (lv' := [(6, .int 1), (7, .int 2), (5, .int 4), (0, .ref (y 0)), (1, .int a), (2, .int b), (3, .int 0), (4, .int 0)]) hx hb dX8_wordAt_96 hl (by decide) rfl (fun ls hl => ?_)
            refine lv_iinc (v := 3) (lv' := [(7, .int 3), (6, .int 1), (5, .int 4), (0, .ref (y 0)), (1, .int a), (2, .int b), (3, .int 0), (4, .int 0)]) hx hb dX8_wordAt_98 hl (k := 1) rfl (by decide) (by decide) rfl (fun ls hl => ?_)
            refine lv_goto (tgt := 57) hx hb dX8_wordAt_101 (by decide) ?_
            refine lv_iload hx hb dX8_wordAt_57 (lv_at hl 0 rfl) ?_
            refine lv_iload hx hb dX8_wordAt_59 (lv_at hl 2 rfl) ?_
            refine lv_icmp_ge (tgt := 104) hx hb dX8_wordAt_61 (by decide) (fun h => absurd h (by decide)) (fun _ => ?_)
            refine lv_iload hx hb dX8_wordAt_64 (lv_at hl 1 rfl) ?_
            refine lv_if_eq (tgt := 104) hx hb dX8_wordAt_66 (by decide) (fun h => absurd h (by decide)) (fun _ => ?_)
            refine lv_aload_n hx hb dX8_wordAt_69 rfl (lv_at hl 3 rfl) ?_
            refine va_get (D := D) (ci := 8) (v := .ref (y 17)) (C := RX8) (T := TX8) (N := 52) hx hb hts w_1 hown hK hP 0 rfl rfl 34 (by decide) w_2 (fun _ h9 => h9) rfl dX8_wordAt_70 ?_
            refine lv_iload hx hb dX8_wordAt_73 (lv_at hl 7 rfl) ?_
            refine lv_iload hx hb dX8_wordAt_75 (lv_at hl 0 rfl) ?_
            refine sv_iadd (v := 3) hx hb dX8_wordAt_77 (by decide) ?_
            refine sv_iald (v := 110) hx hb hK hP 2 1 rfl rfl (vp_in_iff.mpr (by decide)) (hwf 3 (by decide)) dX8_wordAt_78 ?_
            refine lv_aload_n hx hb dX8_wordAt_79 rfl (lv_at hl 3 rfl) ?_
            refine va_get (D := D) (ci := 8) (v := .ref (y 1)) (C := RX8) (T := TX8) (N := 52) hx hb hts w_1 hown hK hP 0 rfl rfl 0 (by decide) w_3 (fun _ h9 => h9) rfl dX8_wordAt_80 ?_
            refine lv_iload_n hx hb dX8_wordAt_83 rfl (lv_at hl 4 rfl) ?_
            refine lv_iload hx hb dX8_wordAt_84 (lv_at hl 0 rfl) ?_
            refine sv_iadd (v := a + 3) hx hb dX8_wordAt_86 rfl ?_
            refine lv_topi (fun v_69 ev_69 => ?_)
            refine sv_iald (v := m_tape v_69.toNatClampNeg) hx hb hK hP 1 1 rfl rfl (by rw [ev_69]; exact wa_in h0 hab hb9 (c_44.trans ev_63) (by decide)) rfl dX8_wordAt_87 ?_
            refine lv_topi (fun v_70 ev_70 => ?_)
            refine lv_icmp_ne (tgt := 95) hx hb dX8_wordAt_88 (by decide) (fun c_88 => ?_) (fun c_88 => ?_)
            ·
              refine lv_iconst (v := 0) hx hb dX8_wordAt_95 (by decide) ?_
              refine lv_istore (lv' := [(6, .int 0), (7, .int 3), (5, .int 4), (0, .ref (y 0)), (1, .int a), (2, .int b), (3, .int 0), (4, .int 0)]) hx hb dX8_wordAt_96 hl (by decide) rfl (fun ls hl => ?_)
              refine lv_iinc (v := 4) (lv' := [(7, .int 4), (6, .int 0), (5, .int 4), (0, .ref (y 0)), (1, .int a), (2, .int b), (3, .int 0), (4, .int 0)]) hx hb dX8_wordAt_98 hl (k := 1) rfl (by decide) (by decide) rfl (fun ls hl => ?_)
              refine lv_goto (tgt := 57) hx hb dX8_wordAt_101 (by decide) ?_
              refine lv_iload hx hb dX8_wordAt_57 (lv_at hl 0 rfl) ?_
              refine lv_iload hx hb dX8_wordAt_59 (lv_at hl 2 rfl) ?_
              refine lv_icmp_ge (tgt := 104) hx hb dX8_wordAt_61 (by decide) (fun _ => ?_) (fun h => absurd (by decide) h)
              refine lv_iload hx hb dX8_wordAt_104 (lv_at hl 1 rfl) ?_
              refine lv_if_eq (tgt := 111) hx hb dX8_wordAt_106 (by decide) (fun _ => ?_) (fun h => absurd (by decide) h)
              refine lv_iload hx hb dX8_wordAt_111 (lv_at hl 7 rfl) ?_
              refine lv_iload hx hb dX8_wordAt_113 (lv_at hl 2 rfl) ?_
              refine lv_iconst (v := 1) hx hb dX8_wordAt_115 (by decide) ?_
              refine sv_iadd (v := 5) hx hb dX8_wordAt_116 (by decide) ?_
              refine sv_iadd (v := 5) hx hb dX8_wordAt_117 (by decide) ?_
              refine lv_istore (lv' := [(4, .int 5), (7, .int 4), (6, .int 0), (5, .int 4), (0, .ref (y 0)), (1, .int a), (2, .int b), (3, .int 0)]) hx hb dX8_wordAt_118 hl (by decide) rfl (fun ls hl => ?_)
              refine lv_iinc (v := 1) (lv' := [(3, .int 1), (4, .int 5), (7, .int 4), (6, .int 0), (5, .int 4), (0, .ref (y 0)), (1, .int a), (2, .int b)]) hx hb dX8_wordAt_120 hl (k := 7) rfl (by decide) (by decide) rfl (fun ls hl => ?_)
              refine lv_goto (tgt := 5) hx hb dX8_wordAt_123 (by decide) ?_
              exact J_1_5 ls (lv_sub hl [5, 6, 7, 0, 1] rfl)
            ·
              refine lv_iconst (v := 1) hx hb dX8_wordAt_91 (by decide) ?_
              refine lv_goto (tgt := 96) hx hb dX8_wordAt_92 (by decide) ?_
              refine lv_istore (lv' := [(6, .int 1), (7, .int 3), (5, .int 4), (0, .ref (y 0)), (1, .int a), (2, .int b), (3, .int 0), (4, .int 0)]) hx hb dX8_wordAt_96 hl (by decide) rfl (fun ls hl => ?_)
              refine lv_iinc (v := 4) (lv' := [(7, .int 4), (6, .int 1), (5, .int 4), (0, .ref (y 0)), (1, .int a), (2, .int b), (3, .int 0), (4, .int 0)]) hx hb dX8_wordAt_98 hl (k := 1) rfl (by decide) (by decide) rfl (fun ls hl => ?_)
              refine lv_goto (tgt := 57) hx hb dX8_wordAt_101 (by decide) ?_
              refine lv_iload hx hb dX8_wordAt_57 (lv_at hl 0 rfl) ?_
              refine lv_iload hx hb dX8_wordAt_59 (lv_at hl 2 rfl) ?_
              refine lv_icmp_ge (tgt := 104) hx hb dX8_wordAt_61 (by decide) (fun _ => ?_) (fun h => absurd (by decide) h)
              refine lv_iload hx hb dX8_wordAt_104 (lv_at hl 1 rfl) ?_
              refine lv_if_eq (tgt := 111) hx hb dX8_wordAt_106 (by decide) (fun h => absurd h (by decide)) (fun _ => ?_)
              refine lv_iload_n hx hb dX8_wordAt_109 rfl (lv_at hl 6 rfl) ?_
              rw [← hQ]
              exact W.iret (v := 0) hx hb hr (fun t ht hW => ⟨_, rfl, Or.inr (vp_in_iff.mpr (by decide)), ht⟩) (fun q h => nomatch h) dX8_wordAt_110
  exact J_0_0 ls (lv_sub hl [2, 3, 4, 1, 0] rfl)

