/-! The reference's reading: safe, and it goes on. -/
def wsg : List Int32 := [116, 117, 114, 110, 32, 118, 111, 116, 101, 32, 110, 101, 101, 100, 32, 99, 121, 99, 108, 101, 32, 97, 103, 101, 32, 119, 101, 97, 114, 32, 115, 112, 97, 114, 101, 32, 112, 108, 97, 99, 101, 115, 32]
def wOK (f : Nat → Int32) : Prop := ∀ j, j < 43 → f j = wsg.getD j 0
def smP (t : Nat → Int32) (a z e q : Int32) : Prop := ¬ e ≤ q ∧ a ≤ t q.toNatClampNeg ∧ t q.toNatClampNeg ≤ z
/-- what take leaves: it went on, unless the end is reached; a word is one of eight -/
def tkP (e n n' k' w' : Int32) : Prop := n.toInt ≤ n'.toInt ∧ n'.toInt ≤ e.toInt ∧ (k' = 0 ∨ n.toInt < n'.toInt) ∧ (k' = 1 → vp_in w' 8)
theorem sm_in {q e : Int32} (hq : 0 ≤ q.toInt) (c : ¬ e ≤ q) (he : e.toInt ≤ 300) : vp_in q 300 := lp_in hq c he
theorem ne_lt {i e : Int32} (h : i.toInt ≤ e.toInt) (c : ¬ i = e) : ¬ e ≤ i := fun q => c (Int32.toInt_inj.mp (Int.le_antisymm h (Int32.le_iff_toInt_le.mp q)))
theorem tk_inc {n i e : Int32} (h : n.toInt ≤ i.toInt ∧ i.toInt ≤ e.toInt) (c : ¬ e ≤ i) : n.toInt ≤ (i + 1).toInt ∧ (i + 1).toInt ≤ e.toInt := by
  have h1 := lp_inc c
  have h2 := Int.not_le.mp (fun q => c (Int32.le_iff_toInt_le.mpr q))
  omega
theorem wa_in {a b n i : Int32} (h0 : 0 ≤ a.toInt) (hab : a.toInt ≤ b.toInt) (hb : b.toInt ≤ 300) (e : n = b - a) (hi : 0 ≤ i.toInt ∧ i.toInt < n.toInt) : vp_in (a + i) 300 := by
  have hn : n.toInt = b.toInt - a.toInt := by
    rw [e, Int32.toInt_sub, Int.bmod_eq_of_le (by omega) (by omega)]
  refine vp_in_iff.mpr ?_
  rw [Int32.toInt_add, Int.bmod_eq_of_le (by omega) (by omega)]
  omega
theorem ge_ne {w : Int32} (h : w = -1 ∨ vp_in w 8) (c : (0 : Int32) ≤ w) : vp_in w 8 := h.resolve_left (fun e => by rw [e] at c; exact absurd c (by decide))

set_option maxHeartbeats 4000000 in
set_option maxRecDepth 100000 in
theorem n_X8_wrong (l : Launch) (D : va_G) (cB cI cJ cZ : ClassId) (sz : Nat) (y : Nat → Nat) (m_tapeSize m_givers m_children m_coats m_legacies m_insideMany : Nat) (m_thrown m_cycleMany m_vote m_low m_high m_wear m_spare m_places m_cycleNext m_fault m_faultPlace m_giverNext m_years m_end m_next m_kind m_which m_place m_read m_readMany m_readHigh : Int32) (q q2 : Int32) : Met l yX8_wrong wsX8_wrong ({ frames := 0, cells := 0, slots := 0, locals := 0 } : Room) (cPre D (aTy cB cI cJ cZ) [((y 0), .inr (8, [.ref (y 1), .int (nI m_tapeSize), .int m_thrown, .ref (y 2), .int m_cycleMany, .int m_vote, .int m_low, .int m_high, .int m_wear, .int m_spare, .int m_places, .int m_cycleNext, .int m_fault, .int m_faultPlace, .int (nI m_givers), .ref (y 3), .ref (y 4), .int m_giverNext, .int (nI m_children), .ref (y 5), .ref (y 6), .ref (y 7), .ref (y 8), .ref (y 9), .int (nI m_coats), .ref (y 10), .ref (y 11), .ref (y 12), .ref (y 13), .int m_years, .int (nI m_legacies), .ref (y 14), .ref (y 15), .ref (y 16), .ref (y 17), .int m_end, .int m_next, .int m_kind, .int m_which, .int m_place, .int m_read, .ref (y 18), .ref (y 19), .int m_readMany, .int m_readHigh, .ref (y 20), .int (nI m_insideMany), .ref (y 21), .ref (y 22), .ref (y 23), .ref (y 24), .ref (y 25)]))] sz [.ref (y 0), .int q, .int q2]) (va_Qi (fun (r : Int32) (u : Int32 × Int32) => r = 0) (cB_ D (aTy cB cI cJ cZ) (va_A [((y 0), .inr (8, [.ref (y 1), .int (nI m_tapeSize), .int m_thrown, .ref (y 2), .int m_cycleMany, .int m_vote, .int m_low, .int m_high, .int m_wear, .int m_spare, .int m_places, .int m_cycleNext, .int m_fault, .int m_faultPlace, .int (nI m_givers), .ref (y 3), .ref (y 4), .int m_giverNext, .int (nI m_children), .ref (y 5), .ref (y 6), .ref (y 7), .ref (y 8), .ref (y 9), .int (nI m_coats), .ref (y 10), .ref (y 11), .ref (y 12), .ref (y 13), .int m_years, .int (nI m_legacies), .ref (y 14), .ref (y 15), .ref (y 16), .ref (y 17), .int m_end, .int m_next, .int m_kind, .int m_which, .int m_place, .int m_read, .ref (y 18), .ref (y 19), .int m_readMany, .int m_readHigh, .ref (y 20), .int (nI m_insideMany), .ref (y 21), .ref (y 22), .ref (y 23), .ref (y 24), .ref (y 25)]))] sz) (fun u => [((y 0), .inr (8, [.ref (y 1), .int (nI m_tapeSize), .int m_thrown, .ref (y 2), .int m_cycleMany, .int m_vote, .int m_low, .int m_high, .int m_wear, .int m_spare, .int m_places, .int m_cycleNext, .int (u.1), .int (u.2), .int (nI m_givers), .ref (y 3), .ref (y 4), .int m_giverNext, .int (nI m_children), .ref (y 5), .ref (y 6), .ref (y 7), .ref (y 8), .ref (y 9), .int (nI m_coats), .ref (y 10), .ref (y 11), .ref (y 12), .ref (y 13), .int m_years, .int (nI m_legacies), .ref (y 14), .ref (y 15), .ref (y 16), .ref (y 17), .int m_end, .int m_next, .int m_kind, .int m_which, .int m_place, .int m_read, .ref (y 18), .ref (y 19), .int m_readMany, .int m_readHigh, .ref (y 20), .int (nI m_insideMany), .ref (y 21), .ref (y 22), .ref (y 23), .ref (y 24), .ref (y 25)]))])) (va_A [((y 0), .inr (8, [.ref (y 1), .int (nI m_tapeSize), .int m_thrown, .ref (y 2), .int m_cycleMany, .int m_vote, .int m_low, .int m_high, .int m_wear, .int m_spare, .int m_places, .int m_cycleNext, .int m_fault, .int m_faultPlace, .int (nI m_givers), .ref (y 3), .ref (y 4), .int m_giverNext, .int (nI m_children), .ref (y 5), .ref (y 6), .ref (y 7), .ref (y 8), .ref (y 9), .int (nI m_coats), .ref (y 10), .ref (y 11), .ref (y 12), .ref (y 13), .int m_years, .int (nI m_legacies), .ref (y 14), .ref (y 15), .ref (y 16), .ref (y 17), .int m_end, .int m_next, .int m_kind, .int m_which, .int m_place, .int m_read, .ref (y 18), .ref (y 19), .int m_readMany, .int m_readHigh, .ref (y 20), .int (nI m_insideMany), .ref (y 21), .ref (y 22), .ref (y 23), .ref (y 24), .ref (y 25)]))] sz)) 0 0 (va_A [((y 0), .inr (8, [.ref (y 1), .int (nI m_tapeSize), .int m_thrown, .ref (y 2), .int m_cycleMany, .int m_vote, .int m_low, .int m_high, .int m_wear, .int m_spare, .int m_places, .int m_cycleNext, .int m_fault, .int m_faultPlace, .int (nI m_givers), .ref (y 3), .ref (y 4), .int m_giverNext, .int (nI m_children), .ref (y 5), .ref (y 6), .ref (y 7), .ref (y 8), .ref (y 9), .int (nI m_coats), .ref (y 10), .ref (y 11), .ref (y 12), .ref (y 13), .int m_years, .int (nI m_legacies), .ref (y 14), .ref (y 15), .ref (y 16), .ref (y 17), .int m_end, .int m_next, .int m_kind, .int m_which, .int m_place, .int m_read, .ref (y 18), .ref (y 19), .int m_readMany, .int m_readHigh, .ref (y 20), .int (nI m_insideMany), .ref (y 21), .ref (y 22), .ref (y 23), .ref (y 24), .ref (y 25)]))] sz) := by
  refine Met.ofW (cc := cX8_wrong) (maxL := 3) (ret := (some .boolean)) (by decide) rfl ?_
  intro p e s m args below meth c s₁ B hml hv
  obtain ⟨rfl, hsz, hP, hK, hD0⟩ := hv
  have hx := B.exec
  have hb := B.bytes
  have hr := B.returns
  have hts := atoms_spec (ws := wsX8_wrong) B.pre
  have hown : s.vm.findClass RX8 = some m.cls := findClass_of_methodNamed B.named
  have hlocks := B.notSynchronized
  subst hsz
  have hD := hD0.self (sz := s.heap.size)
  generalize hAe : va_A [((y 0), .inr (8, [.ref (y 1), .int (nI m_tapeSize), .int m_thrown, .ref (y 2), .int m_cycleMany, .int m_vote, .int m_low, .int m_high, .int m_wear, .int m_spare, .int m_places, .int m_cycleNext, .int m_fault, .int m_faultPlace, .int (nI m_givers), .ref (y 3), .ref (y 4), .int m_giverNext, .int (nI m_children), .ref (y 5), .ref (y 6), .ref (y 7), .ref (y 8), .ref (y 9), .int (nI m_coats), .ref (y 10), .ref (y 11), .ref (y 12), .ref (y 13), .int m_years, .int (nI m_legacies), .ref (y 14), .ref (y 15), .ref (y 16), .ref (y 17), .int m_end, .int m_next, .int m_kind, .int m_which, .int m_place, .int m_read, .ref (y 18), .ref (y 19), .int m_readMany, .int m_readHigh, .ref (y 20), .int (nI m_insideMany), .ref (y 21), .ref (y 22), .ref (y 23), .ref (y 24), .ref (y 25)]))] s.heap.size = A at hD ⊢
  have hA : ∀ q : Nat, s.heap.size ≤ q → A q := fun q h => by rw [← hAe]; exact Or.inr h
  have hS : va_S A s.heap s.heap [] := va_S.rf
  have hP : va_P D vwCl [((y 0), .inr (8, [.ref (y 1), .int (nI m_tapeSize), .int m_thrown, .ref (y 2), .int m_cycleMany, .int m_vote, .int m_low, .int m_high, .int m_wear, .int m_spare, .int m_places, .int m_cycleNext, .int m_fault, .int m_faultPlace, .int (nI m_givers), .ref (y 3), .ref (y 4), .int m_giverNext, .int (nI m_children), .ref (y 5), .ref (y 6), .ref (y 7), .ref (y 8), .ref (y 9), .int (nI m_coats), .ref (y 10), .ref (y 11), .ref (y 12), .ref (y 13), .int m_years, .int (nI m_legacies), .ref (y 14), .ref (y 15), .ref (y 16), .ref (y 17), .int m_end, .int m_next, .int m_kind, .int m_which, .int m_place, .int m_read, .ref (y 18), .ref (y 19), .int m_readMany, .int m_readHigh, .ref (y 20), .int (nI m_insideMany), .ref (y 21), .ref (y 22), .ref (y 23), .ref (y 24), .ref (y 25)]))] s.heap := hP
  have w_1 : ∀ w ∈ wsX80, w ∈ wsX8_wrong := by decide +kernel
  have w_2 := hts (Cond.fieldLink RX8 118 "BlueCoatsModel" "fault" "I") (by decide +kernel)
  have w_3 := hts (Cond.fieldLink RX8 38 "BlueCoatsModel" "faultPlace" "I") (by decide +kernel)
  have hl := lv_entry ([.ref (y 0), .int q, .int q2]) (n := 3) (Nat.le_of_ble_eq_true rfl)
  rw [lg_entry_eq]
  generalize (lg_sl ([.ref (y 0), .int q, .int q2]) ++ List.replicate (3 - (lg_sl ([.ref (y 0), .int q, .int q2])).length) Slot.unset).toArray = ls at hl ⊢
  have hl : lv_has ls 3 [(0, .ref (y 0)), (1, .int q), (2, .int q2)] := hl
  refine lv_aload_n hx hb dX8_wrong_0 rfl (lv_at hl 0 rfl) ?_
  refine lv_iload_n hx hb dX8_wrong_1 rfl (lv_at hl 1 rfl) ?_
  refine va_put (D := D) (ci := 8) (v := .int q) (ty := .int) (C := RX8) (T := TX8) (N := 52) hx hb hts w_1 tyX8 tyX8_ok nmX8 hown hK hP hD hS 0 rfl rfl 12 (by decide) w_2 (fun _ h9 => h9) rfl (by decide +kernel) rfl rfl (Nat.le_of_ble_eq_true rfl) dX8_wrong_2 (fun H locs hP hD hS => ?_)
  have hP : va_P D vwCl [((y 0), .inr (8, [.ref (y 1), .int (nI m_tapeSize), .int m_thrown, .ref (y 2), .int m_cycleMany, .int m_vote, .int m_low, .int m_high, .int m_wear, .int m_spare, .int m_places, .int m_cycleNext, .int q, .int m_faultPlace, .int (nI m_givers), .ref (y 3), .ref (y 4), .int m_giverNext, .int (nI m_children), .ref (y 5), .ref (y 6), .ref (y 7), .ref (y 8), .ref (y 9), .int (nI m_coats), .ref (y 10), .ref (y 11), .ref (y 12), .ref (y 13), .int m_years, .int (nI m_legacies), .ref (y 14), .ref (y 15), .ref (y 16), .ref (y 17), .int m_end, .int m_next, .int m_kind, .int m_which, .int m_place, .int m_read, .ref (y 18), .ref (y 19), .int m_readMany, .int m_readHigh, .ref (y 20), .int (nI m_insideMany), .ref (y 21), .ref (y 22), .ref (y 23), .ref (y 24), .ref (y 25)]))] H := hP
  have hD : va_D A [((y 0), .inr (8, [.ref (y 1), .int (nI m_tapeSize), .int m_thrown, .ref (y 2), .int m_cycleMany, .int m_vote, .int m_low, .int m_high, .int m_wear, .int m_spare, .int m_places, .int m_cycleNext, .int q, .int m_faultPlace, .int (nI m_givers), .ref (y 3), .ref (y 4), .int m_giverNext, .int (nI m_children), .ref (y 5), .ref (y 6), .ref (y 7), .ref (y 8), .ref (y 9), .int (nI m_coats), .ref (y 10), .ref (y 11), .ref (y 12), .ref (y 13), .int m_years, .int (nI m_legacies), .ref (y 14), .ref (y 15), .ref (y 16), .ref (y 17), .int m_end, .int m_next, .int m_kind, .int m_which, .int m_place, .int m_read, .ref (y 18), .ref (y 19), .int m_readMany, .int m_readHigh, .ref (y 20), .int (nI m_insideMany), .ref (y 21), .ref (y 22), .ref (y 23), .ref (y 24), .ref (y 25)]))] := hD
  refine lv_aload_n hx hb dX8_wrong_5 rfl (lv_at hl 0 rfl) ?_
  refine lv_iload_n hx hb dX8_wrong_6 rfl (lv_at hl 2 rfl) ?_
  refine va_put (D := D) (ci := 8) (v := .int q2) (ty := .int) (C := RX8) (T := TX8) (N := 52) hx hb hts w_1 tyX8 tyX8_ok nmX8 hown hK hP hD hS 0 rfl rfl 13 (by decide) w_3 (fun _ h9 => h9) rfl (by decide +kernel) rfl rfl (Nat.le_of_ble_eq_true rfl) dX8_wrong_7 (fun H locs hP hD hS => ?_)
  have hP : va_P D vwCl [((y 0), .inr (8, [.ref (y 1), .int (nI m_tapeSize), .int m_thrown, .ref (y 2), .int m_cycleMany, .int m_vote, .int m_low, .int m_high, .int m_wear, .int m_spare, .int m_places, .int m_cycleNext, .int q, .int q2, .int (nI m_givers), .ref (y 3), .ref (y 4), .int m_giverNext, .int (nI m_children), .ref (y 5), .ref (y 6), .ref (y 7), .ref (y 8), .ref (y 9), .int (nI m_coats), .ref (y 10), .ref (y 11), .ref (y 12), .ref (y 13), .int m_years, .int (nI m_legacies), .ref (y 14), .ref (y 15), .ref (y 16), .ref (y 17), .int m_end, .int m_next, .int m_kind, .int m_which, .int m_place, .int m_read, .ref (y 18), .ref (y 19), .int m_readMany, .int m_readHigh, .ref (y 20), .int (nI m_insideMany), .ref (y 21), .ref (y 22), .ref (y 23), .ref (y 24), .ref (y 25)]))] H := hP
  have hD : va_D A [((y 0), .inr (8, [.ref (y 1), .int (nI m_tapeSize), .int m_thrown, .ref (y 2), .int m_cycleMany, .int m_vote, .int m_low, .int m_high, .int m_wear, .int m_spare, .int m_places, .int m_cycleNext, .int q, .int q2, .int (nI m_givers), .ref (y 3), .ref (y 4), .int m_giverNext, .int (nI m_children), .ref (y 5), .ref (y 6), .ref (y 7), .ref (y 8), .ref (y 9), .int (nI m_coats), .ref (y 10), .ref (y 11), .ref (y 12), .ref (y 13), .int m_years, .int (nI m_legacies), .ref (y 14), .ref (y 15), .ref (y 16), .ref (y 17), .int m_end, .int m_next, .int m_kind, .int m_which, .int m_place, .int m_read, .ref (y 18), .ref (y 19), .int m_readMany, .int m_readHigh, .ref (y 20), .int (nI m_insideMany), .ref (y 21), .ref (y 22), .ref (y 23), .ref (y 24), .ref (y 25)]))] := hD
  refine lv_iconst (v := 0) hx hb dX8_wrong_10 (by decide) ?_
  have hP9 := hP.sub (ws' := [((y 0), .inr (8, [.ref (y 1), .int (nI m_tapeSize), .int m_thrown, .ref (y 2), .int m_cycleMany, .int m_vote, .int m_low, .int m_high, .int m_wear, .int m_spare, .int m_places, .int m_cycleNext, .int q, .int q2, .int (nI m_givers), .ref (y 3), .ref (y 4), .int m_giverNext, .int (nI m_children), .ref (y 5), .ref (y 6), .ref (y 7), .ref (y 8), .ref (y 9), .int (nI m_coats), .ref (y 10), .ref (y 11), .ref (y 12), .ref (y 13), .int m_years, .int (nI m_legacies), .ref (y 14), .ref (y 15), .ref (y 16), .ref (y 17), .int m_end, .int m_next, .int m_kind, .int m_which, .int m_place, .int m_read, .ref (y 18), .ref (y 19), .int m_readMany, .int m_readHigh, .ref (y 20), .int (nI m_insideMany), .ref (y 21), .ref (y 22), .ref (y 23), .ref (y 24), .ref (y 25)]))]) [0] rfl
  have hD9 := hD.sub (ws' := [((y 0), .inr (8, [.ref (y 1), .int (nI m_tapeSize), .int m_thrown, .ref (y 2), .int m_cycleMany, .int m_vote, .int m_low, .int m_high, .int m_wear, .int m_spare, .int m_places, .int m_cycleNext, .int q, .int q2, .int (nI m_givers), .ref (y 3), .ref (y 4), .int m_giverNext, .int (nI m_children), .ref (y 5), .ref (y 6), .ref (y 7), .ref (y 8), .ref (y 9), .int (nI m_coats), .ref (y 10), .ref (y 11), .ref (y 12), .ref (y 13), .int m_years, .int (nI m_legacies), .ref (y 14), .ref (y 15), .ref (y 16), .ref (y 17), .int m_end, .int m_next, .int m_kind, .int m_which, .int m_place, .int m_read, .ref (y 18), .ref (y 19), .int m_readMany, .int m_readHigh, .ref (y 20), .int (nI m_insideMany), .ref (y 21), .ref (y 22), .ref (y 23), .ref (y 24), .ref (y 25)]))]) [0] (by decide) rfl
  exact W.zret (v := 0) hx hb hr rfl (fun t ht hW => ⟨⟨_, ((q : Int32), (q2 : Int32)), rfl, rfl, by rw [ht]; exact hP9, va_K.moved hW.alike hK, hD9⟩, hS.F ht⟩) hS.2.2 dX8_wrong_11

set_option maxHeartbeats 4000000 in
set_option maxRecDepth 100000 in
theorem n_X8_isSmall (l : Launch) (D : va_G) (cB cI cJ cZ : ClassId) (y : Nat → Nat) (m_tapeSize m_givers m_children m_coats m_legacies m_insideMany : Nat) (m_thrown m_cycleMany m_vote m_low m_high m_wear m_spare m_places m_cycleNext m_fault m_faultPlace m_giverNext m_years m_end m_next m_kind m_which m_place m_read m_readMany m_readHigh : Int32) (m_tape : Nat → Int32) (q : Int32) (hq : 0 ≤ q.toInt) (he : m_end.toInt ≤ 300) : Met l yX8_isSmall wsX8_isSmall ({ frames := 0, cells := 0, slots := 0, locals := 0 } : Room) (cRd D (aTy cB cI cJ cZ) [((y 0), .inr (8, [.ref (y 1), .int (nI m_tapeSize), .int m_thrown, .ref (y 2), .int m_cycleMany, .int m_vote, .int m_low, .int m_high, .int m_wear, .int m_spare, .int m_places, .int m_cycleNext, .int m_fault, .int m_faultPlace, .int (nI m_givers), .ref (y 3), .ref (y 4), .int m_giverNext, .int (nI m_children), .ref (y 5), .ref (y 6), .ref (y 7), .ref (y 8), .ref (y 9), .int (nI m_coats), .ref (y 10), .ref (y 11), .ref (y 12), .ref (y 13), .int m_years, .int (nI m_legacies), .ref (y 14), .ref (y 15), .ref (y 16), .ref (y 17), .int m_end, .int m_next, .int m_kind, .int m_which, .int m_place, .int m_read, .ref (y 18), .ref (y 19), .int m_readMany, .int m_readHigh, .ref (y 20), .int (nI m_insideMany), .ref (y 21), .ref (y 22), .ref (y 23), .ref (y 24), .ref (y 25)])), ((y 1), .inl (cI, 300, .inl m_tape))] [.ref (y 0), .int q]) (vp_Si (fun r : Int32 => (r = 1 ∧ smP m_tape 97 122 m_end q) ∨ (r = 0 ∧ ¬ smP m_tape 97 122 m_end q))) 0 0 (fun _ => False) := by
  refine Met.ofW (cc := cX8_isSmall) (maxL := 2) (ret := (some .boolean)) (by decide) rfl ?_
  intro p e s m args below meth c s₁ B hml hv
  obtain ⟨rfl, hP, hK⟩ := hv
  have hx := B.exec
  have hb := B.bytes
  have hr := B.returns
  have hts := atoms_spec (ws := wsX8_isSmall) B.pre
  have hown : s.vm.findClass RX8 = some m.cls := findClass_of_methodNamed B.named
  have hlocks := B.notSynchronized
  have hP : va_P D vwCl [((y 0), .inr (8, [.ref (y 1), .int (nI m_tapeSize), .int m_thrown, .ref (y 2), .int m_cycleMany, .int m_vote, .int m_low, .int m_high, .int m_wear, .int m_spare, .int m_places, .int m_cycleNext, .int m_fault, .int m_faultPlace, .int (nI m_givers), .ref (y 3), .ref (y 4), .int m_giverNext, .int (nI m_children), .ref (y 5), .ref (y 6), .ref (y 7), .ref (y 8), .ref (y 9), .int (nI m_coats), .ref (y 10), .ref (y 11), .ref (y 12), .ref (y 13), .int m_years, .int (nI m_legacies), .ref (y 14), .ref (y 15), .ref (y 16), .ref (y 17), .int m_end, .int m_next, .int m_kind, .int m_which, .int m_place, .int m_read, .ref (y 18), .ref (y 19), .int m_readMany, .int m_readHigh, .ref (y 20), .int (nI m_insideMany), .ref (y 21), .ref (y 22), .ref (y 23), .ref (y 24), .ref (y 25)])), ((y 1), .inl (cI, 300, .inl m_tape))] s.heap := hP
  have w_1 : ∀ w ∈ wsX80, w ∈ wsX8_isSmall := by decide +kernel
  have w_2 := hts (Cond.fieldLink RX8 121 "BlueCoatsModel" "end" "I") (by decide +kernel)
  have w_3 := hts (Cond.fieldLink RX8 7 "BlueCoatsModel" "tape" "[I") (by decide +kernel)
  have hl := lv_entry ([.ref (y 0), .int q]) (n := 2) (Nat.le_of_ble_eq_true rfl)
  rw [lg_entry_eq]
  generalize (lg_sl ([.ref (y 0), .int q]) ++ List.replicate (2 - (lg_sl ([.ref (y 0), .int q])).length) Slot.unset).toArray = ls at hl ⊢
  have hl : lv_has ls 2 [(0, .ref (y 0)), (1, .int q)] := hl
  refine lv_iload_n hx hb dX8_isSmall_0 rfl (lv_at hl 1 rfl) ?_
  refine lv_aload_n hx hb dX8_isSmall_1 rfl (lv_at hl 0 rfl) ?_
  refine va_get (D := D) (ci := 8) (v := .int m_end) (C := RX8) (T := TX8) (N := 52) hx hb hts w_1 hown hK hP 0 rfl rfl 35 (by decide) w_2 (fun _ h9 => h9) rfl dX8_isSmall_2 ?_
  refine lv_icmp_ge (tgt := 34) hx hb dX8_isSmall_5 (by decide) (fun c_5 => ?_) (fun c_5 => ?_)
  ·
    refine lv_iconst (v := 0) hx hb dX8_isSmall_34 (by decide) ?_
    exact W.zret (v := 0) hx hb hr rfl (fun t ht hW => ⟨_, rfl, Or.inr ⟨rfl, fun h => h.1 c_5⟩, ht⟩) (fun q h => nomatch h) dX8_isSmall_35
  ·
    refine lv_aload_n hx hb dX8_isSmall_8 rfl (lv_at hl 0 rfl) ?_
    refine va_get (D := D) (ci := 8) (v := .ref (y 1)) (C := RX8) (T := TX8) (N := 52) hx hb hts w_1 hown hK hP 0 rfl rfl 0 (by decide) w_3 (fun _ h9 => h9) rfl dX8_isSmall_9 ?_
    refine lv_iload_n hx hb dX8_isSmall_12 rfl (lv_at hl 1 rfl) ?_
    refine sv_iald (v := m_tape q.toNatClampNeg) hx hb hK hP 1 1 rfl rfl (sm_in hq c_5 he) rfl dX8_isSmall_13 ?_
    refine lv_bipush (v := 97) hx hb dX8_isSmall_14 (by decide) ?_
    refine lv_icmp_lt (tgt := 34) hx hb dX8_isSmall_16 (by decide) (fun c_16 => ?_) (fun c_16 => ?_)
    ·
      refine lv_iconst (v := 0) hx hb dX8_isSmall_34 (by decide) ?_
      exact W.zret (v := 0) hx hb hr rfl (fun t ht hW => ⟨_, rfl, Or.inr ⟨rfl, fun h => absurd (c_16) (Int32.not_lt.mpr h.2.1)⟩, ht⟩) (fun q h => nomatch h) dX8_isSmall_35
    ·
      refine lv_aload_n hx hb dX8_isSmall_19 rfl (lv_at hl 0 rfl) ?_
      refine va_get (D := D) (ci := 8) (v := .ref (y 1)) (C := RX8) (T := TX8) (N := 52) hx hb hts w_1 hown hK hP 0 rfl rfl 0 (by decide) w_3 (fun _ h9 => h9) rfl dX8_isSmall_20 ?_
      refine lv_iload_n hx hb dX8_isSmall_23 rfl (lv_at hl 1 rfl) ?_
      refine sv_iald (v := m_tape q.toNatClampNeg) hx hb hK hP 1 1 rfl rfl (sm_in hq c_5 he) rfl dX8_isSmall_24 ?_
      refine lv_bipush (v := 122) hx hb dX8_isSmall_25 (by decide) ?_
      refine lv_icmp_gt (tgt := 34) hx hb dX8_isSmall_27 (by decide) (fun c_27 => ?_) (fun c_27 => ?_)
      ·
        refine lv_iconst (v := 0) hx hb dX8_isSmall_34 (by decide) ?_
        exact W.zret (v := 0) hx hb hr rfl (fun t ht hW => ⟨_, rfl, Or.inr ⟨rfl, fun h => absurd (c_27) (Int32.not_lt.mpr h.2.2)⟩, ht⟩) (fun q h => nomatch h) dX8_isSmall_35
      ·
        refine lv_iconst (v := 1) hx hb dX8_isSmall_30 (by decide) ?_
        refine lv_goto (tgt := 35) hx hb dX8_isSmall_31 (by decide) ?_
        exact W.zret (v := 1) hx hb hr rfl (fun t ht hW => ⟨_, rfl, Or.inl ⟨rfl, c_5, Int32.not_lt.mp (c_16), Int32.not_lt.mp (c_27)⟩, ht⟩) (fun q h => nomatch h) dX8_isSmall_35

set_option maxHeartbeats 4000000 in
set_option maxRecDepth 100000 in
theorem n_X8_isDigit (l : Launch) (D : va_G) (cB cI cJ cZ : ClassId) (y : Nat → Nat) (m_tapeSize m_givers m_children m_coats m_legacies m_insideMany : Nat) (m_thrown m_cycleMany m_vote m_low m_high m_wear m_spare m_places m_cycleNext m_fault m_faultPlace m_giverNext m_years m_end m_next m_kind m_which m_place m_read m_readMany m_readHigh : Int32) (m_tape : Nat → Int32) (q : Int32) (hq : 0 ≤ q.toInt) (he : m_end.toInt ≤ 300) : Met l yX8_isDigit wsX8_isDigit ({ frames := 0, cells := 0, slots := 0, locals := 0 } : Room) (cRd D (aTy cB cI cJ cZ) [((y 0), .inr (8, [.ref (y 1), .int (nI m_tapeSize), .int m_thrown, .ref (y 2), .int m_cycleMany, .int m_vote, .int m_low, .int m_high, .int m_wear, .int m_spare, .int m_places, .int m_cycleNext, .int m_fault, .int m_faultPlace, .int (nI m_givers), .ref (y 3), .ref (y 4), .int m_giverNext, .int (nI m_children), .ref (y 5), .ref (y 6), .ref (y 7), .ref (y 8), .ref (y 9), .int (nI m_coats), .ref (y 10), .ref (y 11), .ref (y 12), .ref (y 13), .int m_years, .int (nI m_legacies), .ref (y 14), .ref (y 15), .ref (y 16), .ref (y 17), .int m_end, .int m_next, .int m_kind, .int m_which, .int m_place, .int m_read, .ref (y 18), .ref (y 19), .int m_readMany, .int m_readHigh, .ref (y 20), .int (nI m_insideMany), .ref (y 21), .ref (y 22), .ref (y 23), .ref (y 24), .ref (y 25)])), ((y 1), .inl (cI, 300, .inl m_tape))] [.ref (y 0), .int q]) (vp_Si (fun r : Int32 => (r = 1 ∧ smP m_tape 48 57 m_end q) ∨ (r = 0 ∧ ¬ smP m_tape 48 57 m_end q))) 0 0 (fun _ => False) := by
  refine Met.ofW (cc := cX8_isDigit) (maxL := 2) (ret := (some .boolean)) (by decide) rfl ?_
  intro p e s m args below meth c s₁ B hml hv
  obtain ⟨rfl, hP, hK⟩ := hv
  have hx := B.exec
  have hb := B.bytes
  have hr := B.returns
  have hts := atoms_spec (ws := wsX8_isDigit) B.pre
  have hown : s.vm.findClass RX8 = some m.cls := findClass_of_methodNamed B.named
  have hlocks := B.notSynchronized
  have hP : va_P D vwCl [((y 0), .inr (8, [.ref (y 1), .int (nI m_tapeSize), .int m_thrown, .ref (y 2), .int m_cycleMany, .int m_vote, .int m_low, .int m_high, .int m_wear, .int m_spare, .int m_places, .int m_cycleNext, .int m_fault, .int m_faultPlace, .int (nI m_givers), .ref (y 3), .ref (y 4), .int m_giverNext, .int (nI m_children), .ref (y 5), .ref (y 6), .ref (y 7), .ref (y 8), .ref (y 9), .int (nI m_coats), .ref (y 10), .ref (y 11), .ref (y 12), .ref (y 13), .int m_years, .int (nI m_legacies), .ref (y 14), .ref (y 15), .ref (y 16), .ref (y 17), .int m_end, .int m_next, .int m_kind, .int m_which, .int m_place, .int m_read, .ref (y 18), .ref (y 19), .int m_readMany, .int m_readHigh, .ref (y 20), .int (nI m_insideMany), .ref (y 21), .ref (y 22), .ref (y 23), .ref (y 24), .ref (y 25)])), ((y 1), .inl (cI, 300, .inl m_tape))] s.heap := hP
  have w_1 : ∀ w ∈ wsX80, w ∈ wsX8_isDigit := by decide +kernel
  have w_2 := hts (Cond.fieldLink RX8 121 "BlueCoatsModel" "end" "I") (by decide +kernel)
  have w_3 := hts (Cond.fieldLink RX8 7 "BlueCoatsModel" "tape" "[I") (by decide +kernel)
  have hl := lv_entry ([.ref (y 0), .int q]) (n := 2) (Nat.le_of_ble_eq_true rfl)
  rw [lg_entry_eq]
  generalize (lg_sl ([.ref (y 0), .int q]) ++ List.replicate (2 - (lg_sl ([.ref (y 0), .int q])).length) Slot.unset).toArray = ls at hl ⊢
  have hl : lv_has ls 2 [(0, .ref (y 0)), (1, .int q)] := hl
  refine lv_iload_n hx hb dX8_isDigit_0 rfl (lv_at hl 1 rfl) ?_
  refine lv_aload_n hx hb dX8_isDigit_1 rfl (lv_at hl 0 rfl) ?_
  refine va_get (D := D) (ci := 8) (v := .int m_end) (C := RX8) (T := TX8) (N := 52) hx hb hts w_1 hown hK hP 0 rfl rfl 35 (by decide) w_2 (fun _ h9 => h9) rfl dX8_isDigit_2 ?_
  refine lv_icmp_ge (tgt := 34) hx hb dX8_isDigit_5 (by decide) (fun c_5 => ?_) (fun c_5 => ?_)
  ·
    refine lv_iconst (v := 0) hx hb dX8_isDigit_34 (by decide) ?_
    exact W.zret (v := 0) hx hb hr rfl (fun t ht hW => ⟨_, rfl, Or.inr ⟨rfl, fun h => h.1 c_5⟩, ht⟩) (fun q h => nomatch h) dX8_isDigit_35
  ·
    refine lv_aload_n hx hb dX8_isDigit_8 rfl (lv_at hl 0 rfl) ?_
    refine va_get (D := D) (ci := 8) (v := .ref (y 1)) (C := RX8) (T := TX8) (N := 52) hx hb hts w_1 hown hK hP 0 rfl rfl 0 (by decide) w_3 (fun _ h9 => h9) rfl dX8_isDigit_9 ?_
    refine lv_iload_n hx hb dX8_isDigit_12 rfl (lv_at hl 1 rfl) ?_
    refine sv_iald (v := m_tape q.toNatClampNeg) hx hb hK hP 1 1 rfl rfl (sm_in hq c_5 he) rfl dX8_isDigit_13 ?_
    refine lv_bipush (v := 48) hx hb dX8_isDigit_14 (by decide) ?_
    refine lv_icmp_lt (tgt := 34) hx hb dX8_isDigit_16 (by decide) (fun c_16 => ?_) (fun c_16 => ?_)
    ·
      refine lv_iconst (v := 0) hx hb dX8_isDigit_34 (by decide) ?_
      exact W.zret (v := 0) hx hb hr rfl (fun t ht hW => ⟨_, rfl, Or.inr ⟨rfl, fun h => absurd (c_16) (Int32.not_lt.mpr h.2.1)⟩, ht⟩) (fun q h => nomatch h) dX8_isDigit_35
    ·
      refine lv_aload_n hx hb dX8_isDigit_19 rfl (lv_at hl 0 rfl) ?_
      refine va_get (D := D) (ci := 8) (v := .ref (y 1)) (C := RX8) (T := TX8) (N := 52) hx hb hts w_1 hown hK hP 0 rfl rfl 0 (by decide) w_3 (fun _ h9 => h9) rfl dX8_isDigit_20 ?_
      refine lv_iload_n hx hb dX8_isDigit_23 rfl (lv_at hl 1 rfl) ?_
      refine sv_iald (v := m_tape q.toNatClampNeg) hx hb hK hP 1 1 rfl rfl (sm_in hq c_5 he) rfl dX8_isDigit_24 ?_
      refine lv_bipush (v := 57) hx hb dX8_isDigit_25 (by decide) ?_
      refine lv_icmp_gt (tgt := 34) hx hb dX8_isDigit_27 (by decide) (fun c_27 => ?_) (fun c_27 => ?_)
      ·
        refine lv_iconst (v := 0) hx hb dX8_isDigit_34 (by decide) ?_
        exact W.zret (v := 0) hx hb hr rfl (fun t ht hW => ⟨_, rfl, Or.inr ⟨rfl, fun h => absurd (c_27) (Int32.not_lt.mpr h.2.2)⟩, ht⟩) (fun q h => nomatch h) dX8_isDigit_35
      ·
        refine lv_iconst (v := 1) hx hb dX8_isDigit_30 (by decide) ?_
        refine lv_goto (tgt := 35) hx hb dX8_isDigit_31 (by decide) ?_
        exact W.zret (v := 1) hx hb hr rfl (fun t ht hW => ⟨_, rfl, Or.inl ⟨rfl, c_5, Int32.not_lt.mp (c_16), Int32.not_lt.mp (c_27)⟩, ht⟩) (fun q h => nomatch h) dX8_isDigit_35

set_option maxHeartbeats 4000000 in
set_option maxRecDepth 100000 in
theorem n_X8_wordAt (l : Launch) (D : va_G) (cB cI cJ cZ : ClassId) (y : Nat → Nat) (m_tapeSize m_givers m_children m_coats m_legacies m_insideMany : Nat) (m_thrown m_cycleMany m_vote m_low m_high m_wear m_spare m_places m_cycleNext m_fault m_faultPlace m_giverNext m_years m_end m_next m_kind m_which m_place m_read m_readMany m_readHigh : Int32) (m_tape m_words : Nat → Int32) (a b : Int32) (h0 : 0 ≤ a.toInt) (hab : a.toInt ≤ b.toInt) (hb9 : b.toInt ≤ 300) (hwf : wOK m_words) : Met l yX8_wordAt wsX8_wordAt ({ frames := 0, cells := 0, slots := 0, locals := 0 } : Room) (cRd D (aTy cB cI cJ cZ) [((y 0), .inr (8, [.ref (y 1), .int (nI m_tapeSize), .int m_thrown, .ref (y 2), .int m_cycleMany, .int m_vote, .int m_low, .int m_high, .int m_wear, .int m_spare, .int m_places, .int m_cycleNext, .int m_fault, .int m_faultPlace, .int (nI m_givers), .ref (y 3), .ref (y 4), .int m_giverNext, .int (nI m_children), .ref (y 5), .ref (y 6), .ref (y 7), .ref (y 8), .ref (y 9), .int (nI m_coats), .ref (y 10), .ref (y 11), .ref (y 12), .ref (y 13), .int m_years, .int (nI m_legacies), .ref (y 14), .ref (y 15), .ref (y 16), .ref (y 17), .int m_end, .int m_next, .int m_kind, .int m_which, .int m_place, .int m_read, .ref (y 18), .ref (y 19), .int m_readMany, .int m_readHigh, .ref (y 20), .int (nI m_insideMany), .ref (y 21), .ref (y 22), .ref (y 23), .ref (y 24), .ref (y 25)])), ((y 1), .inl (cI, 300, .inl m_tape)), ((y 17), .inl (cI, 43, .inl m_words))] [.ref (y 0), .int a, .int b]) (vp_Si (fun r : Int32 => r = -1 ∨ vp_in r 8)) 0 0 (fun _ => False) := by
  refine Met.ofW (cc := cX8_wordAt) (maxL := 8) (ret := (some .int)) (by decide) rfl ?_
  intro p e s m args below meth c s₁ B hml hv
  obtain ⟨rfl, hP, hK⟩ := hv
  have hx := B.exec
  have hb := B.bytes
  have hr := B.returns
  have hts := atoms_spec (ws := wsX8_wordAt) B.pre
  have hown : s.vm.findClass RX8 = some m.cls := findClass_of_methodNamed B.named
  have hlocks := B.notSynchronized
  have hP : va_P D vwCl [((y 0), .inr (8, [.ref (y 1), .int (nI m_tapeSize), .int m_thrown, .ref (y 2), .int m_cycleMany, .int m_vote, .int m_low, .int m_high, .int m_wear, .int m_spare, .int m_places, .int m_cycleNext, .int m_fault, .int m_faultPlace, .int (nI m_givers), .ref (y 3), .ref (y 4), .int m_giverNext, .int (nI m_children), .ref (y 5), .ref (y 6), .ref (y 7), .ref (y 8), .ref (y 9), .int (nI m_coats), .ref (y 10), .ref (y 11), .ref (y 12), .ref (y 13), .int m_years, .int (nI m_legacies), .ref (y 14), .ref (y 15), .ref (y 16), .ref (y 17), .int m_end, .int m_next, .int m_kind, .int m_which, .int m_place, .int m_read, .ref (y 18), .ref (y 19), .int m_readMany, .int m_readHigh, .ref (y 20), .int (nI m_insideMany), .ref (y 21), .ref (y 22), .ref (y 23), .ref (y 24), .ref (y 25)])), ((y 1), .inl (cI, 300, .inl m_tape)), ((y 17), .inl (cI, 43, .inl m_words))] s.heap := hP
  have w_1 : ∀ w ∈ wsX80, w ∈ wsX8_wordAt := by decide +kernel
  have w_2 := hts (Cond.fieldLink RX8 84 "BlueCoatsModel" "words" "[I") (by decide +kernel)
  have w_3 := hts (Cond.fieldLink RX8 7 "BlueCoatsModel" "tape" "[I") (by decide +kernel)
  have hl := lv_entry ([.ref (y 0), .int a, .int b]) (n := 8) (Nat.le_of_ble_eq_true rfl)
  rw [lg_entry_eq]
  generalize (lg_sl ([.ref (y 0), .int a, .int b]) ++ List.replicate (8 - (lg_sl ([.ref (y 0), .int a, .int b])).length) Slot.unset).toArray = ls at hl ⊢
  have hl : lv_has ls 8 [(0, .ref (y 0)), (1, .int a), (2, .int b)] := hl
  generalize hQ : MQ below _ _ s _ _ _ = Q0
  refine lv_iconst (v := 0) hx hb dX8_wordAt_0 (by decide) ?_
  refine lv_istore_n (lv' := [(3, .int 0), (0, .ref (y 0)), (1, .int a), (2, .int b)]) hx hb dX8_wordAt_1 rfl hl (by decide) rfl (fun ls hl => ?_)
  refine lv_iconst (v := 0) hx hb dX8_wordAt_2 (by decide) ?_
  refine lv_istore (lv' := [(4, .int 0), (3, .int 0), (0, .ref (y 0)), (1, .int a), (2, .int b)]) hx hb dX8_wordAt_3 hl (by decide) rfl (fun ls hl => ?_)
  have J_8_43 : ∀ (ls : Array Slot), lv_has ls 8 [(0, .ref (y 0)), (1, .int a), (2, .int b), (3, .int 8), (4, .int 43)] → W p l e (headSpec wsX8_wordAt ({ frames := 0, cells := 0, slots := 0, locals := 0 } : Room)).room s m ([.ref (y 0), .int a, .int b] : List Value).toArray below meth c s.heap [] 0 0 Q0 (F0 m 5 ls []) := by
    intro ls hl
    refine lv_iload hx hb dX8_wordAt_5 (lv_at hl 4 rfl) ?_
    refine lv_aload_n hx hb dX8_wordAt_7 rfl (lv_at hl 0 rfl) ?_
    refine va_get (D := D) (ci := 8) (v := .ref (y 17)) (C := RX8) (T := TX8) (N := 52) hx hb hts w_1 hown hK hP 0 rfl rfl 34 (by decide) w_2 (fun _ h9 => h9) rfl dX8_wordAt_8 ?_
    refine va_alen (v := 43) hx hb hK hP 2 1 rfl rfl rfl dX8_wordAt_11 ?_
    refine lv_icmp_ge (tgt := 126) hx hb dX8_wordAt_12 (by decide) (fun _ => ?_) (fun h => absurd (by decide) h)
    refine lv_iconst (v := (-1)) hx hb dX8_wordAt_126 (by decide) ?_
    rw [← hQ]
    exact W.iret (v := (-1)) hx hb hr (fun t ht hW => ⟨_, rfl, Or.inl rfl, ht⟩) (fun q h => nomatch h) dX8_wordAt_127
  have J_7_36 : ∀ (ls : Array Slot), lv_has ls 8 [(0, .ref (y 0)), (1, .int a), (2, .int b), (3, .int 7), (4, .int 36)] → W p l e (headSpec wsX8_wordAt ({ frames := 0, cells := 0, slots := 0, locals := 0 } : Room)).room s m ([.ref (y 0), .int a, .int b] : List Value).toArray below meth c s.heap [] 0 0 Q0 (F0 m 5 ls []) := by
    intro ls hl
    refine lv_iload hx hb dX8_wordAt_5 (lv_at hl 4 rfl) ?_
    refine lv_aload_n hx hb dX8_wordAt_7 rfl (lv_at hl 0 rfl) ?_
    refine va_get (D := D) (ci := 8) (v := .ref (y 17)) (C := RX8) (T := TX8) (N := 52) hx hb hts w_1 hown hK hP 0 rfl rfl 34 (by decide) w_2 (fun _ h9 => h9) rfl dX8_wordAt_8 ?_
    refine va_alen (v := 43) hx hb hK hP 2 1 rfl rfl rfl dX8_wordAt_11 ?_
    refine lv_icmp_ge (tgt := 126) hx hb dX8_wordAt_12 (by decide) (fun h => absurd h (by decide)) (fun _ => ?_)
    refine lv_iconst (v := 0) hx hb dX8_wordAt_15 (by decide) ?_
    refine lv_istore (lv' := [(5, .int 0), (0, .ref (y 0)), (1, .int a), (2, .int b), (3, .int 7), (4, .int 36)]) hx hb dX8_wordAt_16 hl (by decide) rfl (fun ls hl => ?_)
    refine lv_aload_n hx hb dX8_wordAt_18 rfl (lv_at hl 1 rfl) ?_
    refine va_get (D := D) (ci := 8) (v := .ref (y 17)) (C := RX8) (T := TX8) (N := 52) hx hb hts w_1 hown hK hP 0 rfl rfl 34 (by decide) w_2 (fun _ h9 => h9) rfl dX8_wordAt_19 ?_
    refine lv_iload hx hb dX8_wordAt_22 (lv_at hl 5 rfl) ?_
    refine lv_iload hx hb dX8_wordAt_24 (lv_at hl 0 rfl) ?_
    refine sv_iadd (v := 36) hx hb dX8_wordAt_26 (by decide) ?_
    refine sv_iald (v := 112) hx hb hK hP 2 1 rfl rfl (vp_in_iff.mpr (by decide)) (hwf 36 (by decide)) dX8_wordAt_27 ?_
    refine lv_bipush (v := 32) hx hb dX8_wordAt_28 (by decide) ?_
    refine lv_icmp_eq (tgt := 39) hx hb dX8_wordAt_30 (by decide) (fun h => absurd h (by decide)) (fun _ => ?_)
    refine lv_iinc (v := 1) (lv' := [(5, .int 1), (0, .ref (y 0)), (1, .int a), (2, .int b), (3, .int 7), (4, .int 36)]) hx hb dX8_wordAt_33 hl (k := 0) rfl (by decide) (by decide) rfl (fun ls hl => ?_)
    refine lv_goto (tgt := 18) hx hb dX8_wordAt_36 (by decide) ?_
    refine lv_aload_n hx hb dX8_wordAt_18 rfl (lv_at hl 1 rfl) ?_
    refine va_get (D := D) (ci := 8) (v := .ref (y 17)) (C := RX8) (T := TX8) (N := 52) hx hb hts w_1 hown hK hP 0 rfl rfl 34 (by decide) w_2 (fun _ h9 => h9) rfl dX8_wordAt_19 ?_
    refine lv_iload hx hb dX8_wordAt_22 (lv_at hl 5 rfl) ?_
    refine lv_iload hx hb dX8_wordAt_24 (lv_at hl 0 rfl) ?_
    refine sv_iadd (v := 37) hx hb dX8_wordAt_26 (by decide) ?_
    refine sv_iald (v := 108) hx hb hK hP 2 1 rfl rfl (vp_in_iff.mpr (by decide)) (hwf 37 (by decide)) dX8_wordAt_27 ?_
    refine lv_bipush (v := 32) hx hb dX8_wordAt_28 (by decide) ?_
    refine lv_icmp_eq (tgt := 39) hx hb dX8_wordAt_30 (by decide) (fun h => absurd h (by decide)) (fun _ => ?_)
    refine lv_iinc (v := 2) (lv' := [(5, .int 2), (0, .ref (y 0)), (1, .int a), (2, .int b), (3, .int 7), (4, .int 36)]) hx hb dX8_wordAt_33 hl (k := 0) rfl (by decide) (by decide) rfl (fun ls hl => ?_)
    refine lv_goto (tgt := 18) hx hb dX8_wordAt_36 (by decide) ?_
    refine lv_aload_n hx hb dX8_wordAt_18 rfl (lv_at hl 1 rfl) ?_
    refine va_get (D := D) (ci := 8) (v := .ref (y 17)) (C := RX8) (T := TX8) (N := 52) hx hb hts w_1 hown hK hP 0 rfl rfl 34 (by decide) w_2 (fun _ h9 => h9) rfl dX8_wordAt_19 ?_
    refine lv_iload hx hb dX8_wordAt_22 (lv_at hl 5 rfl) ?_
    refine lv_iload hx hb dX8_wordAt_24 (lv_at hl 0 rfl) ?_
    refine sv_iadd (v := 38) hx hb dX8_wordAt_26 (by decide) ?_
    refine sv_iald (v := 97) hx hb hK hP 2 1 rfl rfl (vp_in_iff.mpr (by decide)) (hwf 38 (by decide)) dX8_wordAt_27 ?_
    refine lv_bipush (v := 32) hx hb dX8_wordAt_28 (by decide) ?_
    refine lv_icmp_eq (tgt := 39) hx hb dX8_wordAt_30 (by decide) (fun h => absurd h (by decide)) (fun _ => ?_)
    refine lv_iinc (v := 3) (lv' := [(5, .int 3), (0, .ref (y 0)), (1, .int a), (2, .int b), (3, .int 7), (4, .int 36)]) hx hb dX8_wordAt_33 hl (k := 0) rfl (by decide) (by decide) rfl (fun ls hl => ?_)
    refine lv_goto (tgt := 18) hx hb dX8_wordAt_36 (by decide) ?_
    refine lv_aload_n hx hb dX8_wordAt_18 rfl (lv_at hl 1 rfl) ?_
    refine va_get (D := D) (ci := 8) (v := .ref (y 17)) (C := RX8) (T := TX8) (N := 52) hx hb hts w_1 hown hK hP 0 rfl rfl 34 (by decide) w_2 (fun _ h9 => h9) rfl dX8_wordAt_19 ?_
    refine lv_iload hx hb dX8_wordAt_22 (lv_at hl 5 rfl) ?_
    refine lv_iload hx hb dX8_wordAt_24 (lv_at hl 0 rfl) ?_
    refine sv_iadd (v := 39) hx hb dX8_wordAt_26 (by decide) ?_
    refine sv_iald (v := 99) hx hb hK hP 2 1 rfl rfl (vp_in_iff.mpr (by decide)) (hwf 39 (by decide)) dX8_wordAt_27 ?_
    refine lv_bipush (v := 32) hx hb dX8_wordAt_28 (by decide) ?_
    refine lv_icmp_eq (tgt := 39) hx hb dX8_wordAt_30 (by decide) (fun h => absurd h (by decide)) (fun _ => ?_)
    refine lv_iinc (v := 4) (lv' := [(5, .int 4), (0, .ref (y 0)), (1, .int a), (2, .int b), (3, .int 7), (4, .int 36)]) hx hb dX8_wordAt_33 hl (k := 0) rfl (by decide) (by decide) rfl (fun ls hl => ?_)
    refine lv_goto (tgt := 18) hx hb dX8_wordAt_36 (by decide) ?_
    refine lv_aload_n hx hb dX8_wordAt_18 rfl (lv_at hl 1 rfl) ?_
    refine va_get (D := D) (ci := 8) (v := .ref (y 17)) (C := RX8) (T := TX8) (N := 52) hx hb hts w_1 hown hK hP 0 rfl rfl 34 (by decide) w_2 (fun _ h9 => h9) rfl dX8_wordAt_19 ?_
    refine lv_iload hx hb dX8_wordAt_22 (lv_at hl 5 rfl) ?_
    refine lv_iload hx hb dX8_wordAt_24 (lv_at hl 0 rfl) ?_
    refine sv_iadd (v := 40) hx hb dX8_wordAt_26 (by decide) ?_
    refine sv_iald (v := 101) hx hb hK hP 2 1 rfl rfl (vp_in_iff.mpr (by decide)) (hwf 40 (by decide)) dX8_wordAt_27 ?_
    refine lv_bipush (v := 32) hx hb dX8_wordAt_28 (by decide) ?_
    refine lv_icmp_eq (tgt := 39) hx hb dX8_wordAt_30 (by decide) (fun h => absurd h (by decide)) (fun _ => ?_)
    refine lv_iinc (v := 5) (lv' := [(5, .int 5), (0, .ref (y 0)), (1, .int a), (2, .int b), (3, .int 7), (4, .int 36)]) hx hb dX8_wordAt_33 hl (k := 0) rfl (by decide) (by decide) rfl (fun ls hl => ?_)
    refine lv_goto (tgt := 18) hx hb dX8_wordAt_36 (by decide) ?_
    refine lv_aload_n hx hb dX8_wordAt_18 rfl (lv_at hl 1 rfl) ?_
    refine va_get (D := D) (ci := 8) (v := .ref (y 17)) (C := RX8) (T := TX8) (N := 52) hx hb hts w_1 hown hK hP 0 rfl rfl 34 (by decide) w_2 (fun _ h9 => h9) rfl dX8_wordAt_19 ?_
    refine lv_iload hx hb dX8_wordAt_22 (lv_at hl 5 rfl) ?_
    refine lv_iload hx hb dX8_wordAt_24 (lv_at hl 0 rfl) ?_
    refine sv_iadd (v := 41) hx hb dX8_wordAt_26 (by decide) ?_
    refine sv_iald (v := 115) hx hb hK hP 2 1 rfl rfl (vp_in_iff.mpr (by decide)) (hwf 41 (by decide)) dX8_wordAt_27 ?_
    refine lv_bipush (v := 32) hx hb dX8_wordAt_28 (by decide) ?_
    refine lv_icmp_eq (tgt := 39) hx hb dX8_wordAt_30 (by decide) (fun h => absurd h (by decide)) (fun _ => ?_)
    refine lv_iinc (v := 6) (lv' := [(5, .int 6), (0, .ref (y 0)), (1, .int a), (2, .int b), (3, .int 7), (4, .int 36)]) hx hb dX8_wordAt_33 hl (k := 0) rfl (by decide) (by decide) rfl (fun ls hl => ?_)
    refine lv_goto (tgt := 18) hx hb dX8_wordAt_36 (by decide) ?_
    refine lv_aload_n hx hb dX8_wordAt_18 rfl (lv_at hl 1 rfl) ?_
    refine va_get (D := D) (ci := 8) (v := .ref (y 17)) (C := RX8) (T := TX8) (N := 52) hx hb hts w_1 hown hK hP 0 rfl rfl 34 (by decide) w_2 (fun _ h9 => h9) rfl dX8_wordAt_19 ?_
    refine lv_iload hx hb dX8_wordAt_22 (lv_at hl 5 rfl) ?_
    refine lv_iload hx hb dX8_wordAt_24 (lv_at hl 0 rfl) ?_
    refine sv_iadd (v := 42) hx hb dX8_wordAt_26 (by decide) ?_
    refine sv_iald (v := 32) hx hb hK hP 2 1 rfl rfl (vp_in_iff.mpr (by decide)) (hwf 42 (by decide)) dX8_wordAt_27 ?_
    refine lv_bipush (v := 32) hx hb dX8_wordAt_28 (by decide) ?_
    refine lv_icmp_eq (tgt := 39) hx hb dX8_wordAt_30 (by decide) (fun _ => ?_) (fun h => absurd (by decide) h)
    refine lv_iload hx hb dX8_wordAt_39 (lv_at hl 0 rfl) ?_
    refine lv_iload_n hx hb dX8_wordAt_41 rfl (lv_at hl 3 rfl) ?_
    refine lv_iload_n hx hb dX8_wordAt_42 rfl (lv_at hl 2 rfl) ?_
    refine sv_isub (v := b - a) hx hb dX8_wordAt_43 rfl ?_
    refine lv_topi (fun v_1 ev_1 => ?_)
    refine lv_icmp_ne (tgt := 51) hx hb dX8_wordAt_44 (by decide) (fun c_44 => ?_) (fun c_44 => ?_)
    ·
      refine lv_iconst (v := 0) hx hb dX8_wordAt_51 (by decide) ?_
      refine lv_istore (lv' := [(6, .int 0), (5, .int 6), (0, .ref (y 0)), (1, .int a), (2, .int b), (3, .int 7), (4, .int 36)]) hx hb dX8_wordAt_52 hl (by decide) rfl (fun ls hl => ?_)
      refine lv_iconst (v := 0) hx hb dX8_wordAt_54 (by decide) ?_
      refine lv_istore (lv' := [(7, .int 0), (6, .int 0), (5, .int 6), (0, .ref (y 0)), (1, .int a), (2, .int b), (3, .int 7), (4, .int 36)]) hx hb dX8_wordAt_55 hl (by decide) rfl (fun ls hl => ?_)
      refine lv_iload hx hb dX8_wordAt_57 (lv_at hl 0 rfl) ?_
      refine lv_iload hx hb dX8_wordAt_59 (lv_at hl 2 rfl) ?_
      refine lv_icmp_ge (tgt := 104) hx hb dX8_wordAt_61 (by decide) (fun h => absurd h (by decide)) (fun _ => ?_)
      refine lv_iload hx hb dX8_wordAt_64 (lv_at hl 1 rfl) ?_
      refine lv_if_eq (tgt := 104) hx hb dX8_wordAt_66 (by decide) (fun _ => ?_) (fun h => absurd (by decide) h)
      refine lv_iload hx hb dX8_wordAt_104 (lv_at hl 1 rfl) ?_
      refine lv_if_eq (tgt := 111) hx hb dX8_wordAt_106 (by decide) (fun _ => ?_) (fun h => absurd (by decide) h)
      refine lv_iload hx hb dX8_wordAt_111 (lv_at hl 7 rfl) ?_
      refine lv_iload hx hb dX8_wordAt_113 (lv_at hl 2 rfl) ?_
      refine lv_iconst (v := 1) hx hb dX8_wordAt_115 (by decide) ?_
      refine sv_iadd (v := 7) hx hb dX8_wordAt_116 (by decide) ?_
      refine sv_iadd (v := 43) hx hb dX8_wordAt_117 (by decide) ?_
      refine lv_istore (lv' := [(4, .int 43), (7, .int 0), (6, .int 0), (5, .int 6), (0, .ref (y 0)), (1, .int a), (2, .int b), (3, .int 7)]) hx hb dX8_wordAt_118 hl (by decide) rfl (fun ls hl => ?_)
      refine lv_iinc (v := 8) (lv' := [(3, .int 8), (4, .int 43), (7, .int 0), (6, .int 0), (5, .int 6), (0, .ref (y 0)), (1, .int a), (2, .int b)]) hx hb dX8_wordAt_120 hl (k := 7) rfl (by decide) (by decide) rfl (fun ls hl => ?_)
      refine lv_goto (tgt := 5) hx hb dX8_wordAt_123 (by decide) ?_
      exact J_8_43 ls (lv_sub hl [5, 6, 7, 0, 1] rfl)
    ·
      refine lv_iconst (v := 1) hx hb dX8_wordAt_47 (by decide) ?_
      refine lv_goto (tgt := 52) hx hb dX8_wordAt_48 (by decide) ?_
      refine lv_istore (lv' := [(6, .int 1), (5, .int 6), (0, .ref (y 0)), (1, .int a), (2, .int b), (3, .int 7), (4, .int 36)]) hx hb dX8_wordAt_52 hl (by decide) rfl (fun ls hl => ?_)
      refine lv_iconst (v := 0) hx hb dX8_wordAt_54 (by decide) ?_
      refine lv_istore (lv' := [(7, .int 0), (6, .int 1), (5, .int 6), (0, .ref (y 0)), (1, .int a), (2, .int b), (3, .int 7), (4, .int 36)]) hx hb dX8_wordAt_55 hl (by decide) rfl (fun ls hl => ?_)
      refine lv_iload hx hb dX8_wordAt_57 (lv_at hl 0 rfl) ?_
      refine lv_iload hx hb dX8_wordAt_59 (lv_at hl 2 rfl) ?_
      refine lv_icmp_ge (tgt := 104) hx hb dX8_wordAt_61 (by decide) (fun h => absurd h (by decide)) (fun _ => ?_)
      refine lv_iload hx hb dX8_wordAt_64 (lv_at hl 1 rfl) ?_
      refine lv_if_eq (tgt := 104) hx hb dX8_wordAt_66 (by decide) (fun h => absurd h (by decide)) (fun _ => ?_)
      refine lv_aload_n hx hb dX8_wordAt_69 rfl (lv_at hl 3 rfl) ?_
      refine va_get (D := D) (ci := 8) (v := .ref (y 17)) (C := RX8) (T := TX8) (N := 52) hx hb hts w_1 hown hK hP 0 rfl rfl 34 (by decide) w_2 (fun _ h9 => h9) rfl dX8_wordAt_70 ?_
      refine lv_iload hx hb dX8_wordAt_73 (lv_at hl 7 rfl) ?_
      refine lv_iload hx hb dX8_wordAt_75 (lv_at hl 0 rfl) ?_
      refine sv_iadd (v := 36) hx hb dX8_wordAt_77 (by decide) ?_
      refine sv_iald (v := 112) hx hb hK hP 2 1 rfl rfl (vp_in_iff.mpr (by decide)) (hwf 36 (by decide)) dX8_wordAt_78 ?_
      refine lv_aload_n hx hb dX8_wordAt_79 rfl (lv_at hl 3 rfl) ?_
      refine va_get (D := D) (ci := 8) (v := .ref (y 1)) (C := RX8) (T := TX8) (N := 52) hx hb hts w_1 hown hK hP 0 rfl rfl 0 (by decide) w_3 (fun _ h9 => h9) rfl dX8_wordAt_80 ?_
      refine lv_iload_n hx hb dX8_wordAt_83 rfl (lv_at hl 4 rfl) ?_
      refine lv_iload hx hb dX8_wordAt_84 (lv_at hl 0 rfl) ?_
      refine sv_iadd (v := a + 0) hx hb dX8_wordAt_86 rfl ?_
      refine lv_topi (fun v_2 ev_2 => ?_)
      refine sv_iald (v := m_tape v_2.toNatClampNeg) hx hb hK hP 1 1 rfl rfl (by rw [ev_2]; exact wa_in h0 hab hb9 (c_44.trans ev_1) (by decide)) rfl dX8_wordAt_87 ?_
      refine lv_topi (fun v_3 ev_3 => ?_)
      refine lv_icmp_ne (tgt := 95) hx hb dX8_wordAt_88 (by decide) (fun c_88 => ?_) (fun c_88 => ?_)
      ·
        refine lv_iconst (v := 0) hx hb dX8_wordAt_95 (by decide) ?_
        refine lv_istore (lv' := [(6, .int 0), (7, .int 0), (5, .int 6), (0, .ref (y 0)), (1, .int a), (2, .int b), (3, .int 7), (4, .int 36)]) hx hb dX8_wordAt_96 hl (by decide) rfl (fun ls hl => ?_)
        refine lv_iinc (v := 1) (lv' := [(7, .int 1), (6, .int 0), (5, .int 6), (0, .ref (y 0)), (1, .int a), (2, .int b), (3, .int 7), (4, .int 36)]) hx hb dX8_wordAt_98 hl (k := 1) rfl (by decide) (by decide) rfl (fun ls hl => ?_)
        refine lv_goto (tgt := 57) hx hb dX8_wordAt_101 (by decide) ?_
        refine lv_iload hx hb dX8_wordAt_57 (lv_at hl 0 rfl) ?_
        refine lv_iload hx hb dX8_wordAt_59 (lv_at hl 2 rfl) ?_
        refine lv_icmp_ge (tgt := 104) hx hb dX8_wordAt_61 (by decide) (fun h => absurd h (by decide)) (fun _ => ?_)
        refine lv_iload hx hb dX8_wordAt_64 (lv_at hl 1 rfl) ?_
        refine lv_if_eq (tgt := 104) hx hb dX8_wordAt_66 (by decide) (fun _ => ?_) (fun h => absurd (by decide) h)
        refine lv_iload hx hb dX8_wordAt_104 (lv_at hl 1 rfl) ?_
        refine lv_if_eq (tgt := 111) hx hb dX8_wordAt_106 (by decide) (fun _ => ?_) (fun h => absurd (by decide) h)
        refine lv_iload hx hb dX8_wordAt_111 (lv_at hl 7 rfl) ?_
        refine lv_iload hx hb dX8_wordAt_113 (lv_at hl 2 rfl) ?_
        refine lv_iconst (v := 1) hx hb dX8_wordAt_115 (by decide) ?_
        refine sv_iadd (v := 7) hx hb dX8_wordAt_116 (by decide) ?_
        refine sv_iadd (v := 43) hx hb dX8_wordAt_117 (by decide) ?_
        refine lv_istore (lv' := [(4, .int 43), (7, .int 1), (6, .int 0), (5, .int 6), (0, .ref (y 0)), (1, .int a), (2, .int b), (3, .int 7)]) hx hb dX8_wordAt_118 hl (by decide) rfl (fun ls hl => ?_)
        refine lv_iinc (v := 8) (lv' := [(3, .int 8), (4, .int 43), (7, .int 1), (6, .int 0), (5, .int 6), (0, .ref (y 0)), (1, .int a), (2, .int b)]) hx hb dX8_wordAt_120 hl (k := 7) rfl (by decide) (by decide) rfl (fun ls hl => ?_)
        refine lv_goto (tgt := 5) hx hb dX8_wordAt_123 (by decide) ?_
        exact J_8_43 ls (lv_sub hl [5, 6, 7, 0, 1] rfl)
      ·
        refine lv_iconst (v := 1) hx hb dX8_wordAt_91 (by decide) ?_
        refine lv_goto (tgt := 96) hx hb dX8_wordAt_92 (by decide) ?_
        refine lv_istore (lv' := [(6, .int 1), (7, .int 0), (5, .int 6), (0, .ref (y 0)), (1, .int a), (2, .int b), (3, .int 7), (4, .int 36)]) hx hb dX8_wordAt_96 hl (by decide) rfl (fun ls hl => ?_)
        refine lv_iinc (v := 1) (lv' := [(7, .int 1), (6, .int 1), (5, .int 6), (0, .ref (y 0)), (1, .int a), (2, .int b), (3, .int 7), (4, .int 36)]) hx hb dX8_wordAt_98 hl (k := 1) rfl (by decide) (by decide) rfl (fun ls hl => ?_)
        refine lv_goto (tgt := 57) hx hb dX8_wordAt_101 (by decide) ?_
        refine lv_iload hx hb dX8_wordAt_57 (lv_at hl 0 rfl) ?_
        refine lv_iload hx hb dX8_wordAt_59 (lv_at hl 2 rfl) ?_
        refine lv_icmp_ge (tgt := 104) hx hb dX8_wordAt_61 (by decide) (fun h => absurd h (by decide)) (fun _ => ?_)
        refine lv_iload hx hb dX8_wordAt_64 (lv_at hl 1 rfl) ?_
        refine lv_if_eq (tgt := 104) hx hb dX8_wordAt_66 (by decide) (fun h => absurd h (by decide)) (fun _ => ?_)
        refine lv_aload_n hx hb dX8_wordAt_69 rfl (lv_at hl 3 rfl) ?_
        refine va_get (D := D) (ci := 8) (v := .ref (y 17)) (C := RX8) (T := TX8) (N := 52) hx hb hts w_1 hown hK hP 0 rfl rfl 34 (by decide) w_2 (fun _ h9 => h9) rfl dX8_wordAt_70 ?_
        refine lv_iload hx hb dX8_wordAt_73 (lv_at hl 7 rfl) ?_
        refine lv_iload hx hb dX8_wordAt_75 (lv_at hl 0 rfl) ?_
        refine sv_iadd (v := 37) hx hb dX8_wordAt_77 (by decide) ?_
        refine sv_iald (v := 108) hx hb hK hP 2 1 rfl rfl (vp_in_iff.mpr (by decide)) (hwf 37 (by decide)) dX8_wordAt_78 ?_
        refine lv_aload_n hx hb dX8_wordAt_79 rfl (lv_at hl 3 rfl) ?_
        refine va_get (D := D) (ci := 8) (v := .ref (y 1)) (C := RX8) (T := TX8) (N := 52) hx hb hts w_1 hown hK hP 0 rfl rfl 0 (by decide) w_3 (fun _ h9 => h9) rfl dX8_wordAt_80 ?_
        refine lv_iload_n hx hb dX8_wordAt_83 rfl (lv_at hl 4 rfl) ?_
        refine lv_iload hx hb dX8_wordAt_84 (lv_at hl 0 rfl) ?_
        refine sv_iadd (v := a + 1) hx hb dX8_wordAt_86 rfl ?_
        refine sv_iald (v := m_tape (a + 1).toNatClampNeg) hx hb hK hP 1 1 rfl rfl (wa_in h0 hab hb9 (c_44.trans ev_1) (by decide)) rfl dX8_wordAt_87 ?_
        refine lv_topi (fun v_4 ev_4 => ?_)
        refine lv_icmp_ne (tgt := 95) hx hb dX8_wordAt_88 (by decide) (fun c_88 => ?_) (fun c_88 => ?_)
        ·
          refine lv_iconst (v := 0) hx hb dX8_wordAt_95 (by decide) ?_
          refine lv_istore (lv' := [(6, .int 0), (7, .int 1), (5, .int 6), (0, .ref (y 0)), (1, .int a), (2, .int b), (3, .int 7), (4, .int 36)]) hx hb dX8_wordAt_96 hl (by decide) rfl (fun ls hl => ?_)
          refine lv_iinc (v := 2) (lv' := [(7, .int 2), (6, .int 0), (5, .int 6), (0, .ref (y 0)), (1, .int a), (2, .int b), (3, .int 7), (4, .int 36)]) hx hb dX8_wordAt_98 hl (k := 1) rfl (by decide) (by decide) rfl (fun ls hl => ?_)
          refine lv_goto (tgt := 57) hx hb dX8_wordAt_101 (by decide) ?_
          refine lv_iload hx hb dX8_wordAt_57 (lv_at hl 0 rfl) ?_
          refine lv_iload hx hb dX8_wordAt_59 (lv_at hl 2 rfl) ?_
          refine lv_icmp_ge (tgt := 104) hx hb dX8_wordAt_61 (by decide) (fun h => absurd h (by decide)) (fun _ => ?_)
          refine lv_iload hx hb dX8_wordAt_64 (lv_at hl 1 rfl) ?_
          refine lv_if_eq (tgt := 104) hx hb dX8_wordAt_66 (by decide) (fun _ => ?_) (fun h => absurd (by decide) h)
          refine lv_iload hx hb dX8_wordAt_104 (lv_at hl 1 rfl) ?_
          refine lv_if_eq (tgt := 111) hx hb dX8_wordAt_106 (by decide) (fun _ => ?_) (fun h => absurd (by decide) h)
          refine lv_iload hx hb dX8_wordAt_111 (lv_at hl 7 rfl) ?_
          refine lv_iload hx hb dX8_wordAt_113 (lv_at hl 2 rfl) ?_
          refine lv_iconst (v := 1) hx hb dX8_wordAt_115 (by decide) ?_
          refine sv_iadd (v := 7) hx hb dX8_wordAt_116 (by decide) ?_
          refine sv_iadd (v := 43) hx hb dX8_wordAt_117 (by decide) ?_
          refine lv_istore (lv' := [(4, .int 43), (7, .int 2), (6, .int 0), (5, .int 6), (0, .ref (y 0)), (1, .int a), (2, .int b), (3, .int 7)]) hx hb dX8_wordAt_118 hl (by decide) rfl (fun ls hl => ?_)
          refine lv_iinc (v := 8) (lv' := [(3, .int 8), (4, .int 43), (7, .int 2), (6, .int 0), (5, .int 6), (0, .ref (y 0)), (1, .int a), (2, .int b)]) hx hb dX8_wordAt_120 hl (k := 7) rfl (by decide) (by decide) rfl (fun ls hl => ?_)
          refine lv_goto (tgt := 5) hx hb dX8_wordAt_123 (by decide) ?_
          exact J_8_43 ls (lv_sub hl [5, 6, 7, 0, 1] rfl)
        ·
          refine lv_iconst (v := 1) hx hb dX8_wordAt_91 (by decide) ?_
          refine lv_goto (tgt := 96) hx hb dX8_wordAt_92 (by decide) ?_
          refine lv_istore (lv' := [(6, .int 1), (7, .int 1), (5, .int 6), (0, .ref (y 0)), (1, .int a), (2, .int b), (3, .int 7), (4, .int 36)]) hx hb dX8_wordAt_96 hl (by decide) rfl (fun ls hl => ?_)
          refine lv_iinc (v := 2) (lv' := [(7, .int 2), (6, .int 1), (5, .int 6), (0, .ref (y 0)), (1, .int a), (2, .int b), (3, .int 7), (4, .int 36)]) hx hb dX8_wordAt_98 hl (k := 1) rfl (by decide) (by decide) rfl (fun ls hl => ?_)
          refine lv_goto (tgt := 57) hx hb dX8_wordAt_101 (by decide) ?_
          refine lv_iload hx hb dX8_wordAt_57 (lv_at hl 0 rfl) ?_
          refine lv_iload hx hb dX8_wordAt_59 (lv_at hl 2 rfl) ?_
          refine lv_icmp_ge (tgt := 104) hx hb dX8_wordAt_61 (by decide) (fun h => absurd h (by decide)) (fun _ => ?_)
          refine lv_iload hx hb dX8_wordAt_64 (lv_at hl 1 rfl) ?_
          refine lv_if_eq (tgt := 104) hx hb dX8_wordAt_66 (by decide) (fun h => absurd h (by decide)) (fun _ => ?_)
          refine lv_aload_n hx hb dX8_wordAt_69 rfl (lv_at hl 3 rfl) ?_
          refine va_get (D := D) (ci := 8) (v := .ref (y 17)) (C := RX8) (T := TX8) (N := 52) hx hb hts w_1 hown hK hP 0 rfl rfl 34 (by decide) w_2 (fun _ h9 => h9) rfl dX8_wordAt_70 ?_
          refine lv_iload hx hb dX8_wordAt_73 (lv_at hl 7 rfl) ?_
          refine lv_iload hx hb dX8_wordAt_75 (lv_at hl 0 rfl) ?_
          refine sv_iadd (v := 38) hx hb dX8_wordAt_77 (by decide) ?_
          refine sv_iald (v := 97) hx hb hK hP 2 1 rfl rfl (vp_in_iff.mpr (by decide)) (hwf 38 (by decide)) dX8_wordAt_78 ?_
          refine lv_aload_n hx hb dX8_wordAt_79 rfl (lv_at hl 3 rfl) ?_
          refine va_get (D := D) (ci := 8) (v := .ref (y 1)) (C := RX8) (T := TX8) (N := 52) hx hb hts w_1 hown hK hP 0 rfl rfl 0 (by decide) w_3 (fun _ h9 => h9) rfl dX8_wordAt_80 ?_
          refine lv_iload_n hx hb dX8_wordAt_83 rfl (lv_at hl 4 rfl) ?_
          refine lv_iload hx hb dX8_wordAt_84 (lv_at hl 0 rfl) ?_
          refine sv_iadd (v := a + 2) hx hb dX8_wordAt_86 rfl ?_
          refine lv_topi (fun v_5 ev_5 => ?_)
          refine sv_iald (v := m_tape v_5.toNatClampNeg) hx hb hK hP 1 1 rfl rfl (by rw [ev_5]; exact wa_in h0 hab hb9 (c_44.trans ev_1) (by decide)) rfl dX8_wordAt_87 ?_
          refine lv_topi (fun v_6 ev_6 => ?_)
          refine lv_icmp_ne (tgt := 95) hx hb dX8_wordAt_88 (by decide) (fun c_88 => ?_) (fun c_88 => ?_)
          ·
            refine lv_iconst (v := 0) hx hb dX8_wordAt_95 (by decide) ?_
            refine lv_istore (lv' := [(6, .int 0), (7, .int 2), (5, .int 6), (0, .ref (y 0)), (1, .int a), (2, .int b), (3, .int 7), (4, .int 36)]) hx hb dX8_wordAt_96 hl (by decide) rfl (fun ls hl => ?_)
            refine lv_iinc (v := 3) (lv' := [(7, .int 3), (6, .int 0), (5, .int 6), (0, .ref (y 0)), (1, .int a), (2, .int b), (3, .int 7), (4, .int 36)]) hx hb dX8_wordAt_98 hl (k := 1) rfl (by decide) (by decide) rfl (fun ls hl => ?_)
            refine lv_goto (tgt := 57) hx hb dX8_wordAt_101 (by decide) ?_
            refine lv_iload hx hb dX8_wordAt_57 (lv_at hl 0 rfl) ?_
            refine lv_iload hx hb dX8_wordAt_59 (lv_at hl 2 rfl) ?_
            refine lv_icmp_ge (tgt := 104) hx hb dX8_wordAt_61 (by decide) (fun h => absurd h (by decide)) (fun _ => ?_)
            refine lv_iload hx hb dX8_wordAt_64 (lv_at hl 1 rfl) ?_
            refine lv_if_eq (tgt := 104) hx hb dX8_wordAt_66 (by decide) (fun _ => ?_) (fun h => absurd (by decide) h)
            refine lv_iload hx hb dX8_wordAt_104 (lv_at hl 1 rfl) ?_
            refine lv_if_eq (tgt := 111) hx hb dX8_wordAt_106 (by decide) (fun _ => ?_) (fun h => absurd (by decide) h)
            refine lv_iload hx hb dX8_wordAt_111 (lv_at hl 7 rfl) ?_
            refine lv_iload hx hb dX8_wordAt_113 (lv_at hl 2 rfl) ?_
            refine lv_iconst (v := 1) hx hb dX8_wordAt_115 (by decide) ?_
            refine sv_iadd (v := 7) hx hb dX8_wordAt_116 (by decide) ?_
            refine sv_iadd (v := 43) hx hb dX8_wordAt_117 (by decide) ?_
            refine lv_istore (lv' := [(4, .int 43), (7, .int 3), (6, .int 0), (5, .int 6), (0, .ref (y 0)), (1, .int a), (2, .int b), (3, .int 7)]) hx hb dX8_wordAt_118 hl (by decide) rfl (fun ls hl => ?_)
            refine lv_iinc (v := 8) (lv' := [(3, .int 8), (4, .int 43), (7, .int 3), (6, .int 0), (5, .int 6), (0, .ref (y 0)), (1, .int a), (2, .int b)]) hx hb dX8_wordAt_120 hl (k := 7) rfl (by decide) (by decide) rfl (fun ls hl => ?_)
            refine lv_goto (tgt := 5) hx hb dX8_wordAt_123 (by decide) ?_
            exact J_8_43 ls (lv_sub hl [5, 6, 7, 0, 1] rfl)
          ·
            refine lv_iconst (v := 1) hx hb dX8_wordAt_91 (by decide) ?_
            refine lv_goto (tgt := 96) hx hb dX8_wordAt_92 (by decide) ?_
            refine lv_istore (lv' := [(6, .int 1), (7, .int 2), (5, .int 6), (0, .ref (y 0)), (1, .int a), (2, .int b), (3, .int 7), (4, .int 36)]) hx hb dX8_wordAt_96 hl (by decide) rfl (fun ls hl => ?_)
            refine lv_iinc (v := 3) (lv' := [(7, .int 3), (6, .int 1), (5, .int 6), (0, .ref (y 0)), (1, .int a), (2, .int b), (3, .int 7), (4, .int 36)]) hx hb dX8_wordAt_98 hl (k := 1) rfl (by decide) (by decide) rfl (fun ls hl => ?_)
            refine lv_goto (tgt := 57) hx hb dX8_wordAt_101 (by decide) ?_
            refine lv_iload hx hb dX8_wordAt_57 (lv_at hl 0 rfl) ?_
            refine lv_iload hx hb dX8_wordAt_59 (lv_at hl 2 rfl) ?_
            refine lv_icmp_ge (tgt := 104) hx hb dX8_wordAt_61 (by decide) (fun h => absurd h (by decide)) (fun _ => ?_)
            refine lv_iload hx hb dX8_wordAt_64 (lv_at hl 1 rfl) ?_
            refine lv_if_eq (tgt := 104) hx hb dX8_wordAt_66 (by decide) (fun h => absurd h (by decide)) (fun _ => ?_)
            refine lv_aload_n hx hb dX8_wordAt_69 rfl (lv_at hl 3 rfl) ?_
            refine va_get (D := D) (ci := 8) (v := .ref (y 17)) (C := RX8) (T := TX8) (N := 52) hx hb hts w_1 hown hK hP 0 rfl rfl 34 (by decide) w_2 (fun _ h9 => h9) rfl dX8_wordAt_70 ?_
            refine lv_iload hx hb dX8_wordAt_73 (lv_at hl 7 rfl) ?_
            refine lv_iload hx hb dX8_wordAt_75 (lv_at hl 0 rfl) ?_
            refine sv_iadd (v := 39) hx hb dX8_wordAt_77 (by decide) ?_
            refine sv_iald (v := 99) hx hb hK hP 2 1 rfl rfl (vp_in_iff.mpr (by decide)) (hwf 39 (by decide)) dX8_wordAt_78 ?_
            refine lv_aload_n hx hb dX8_wordAt_79 rfl (lv_at hl 3 rfl) ?_
            refine va_get (D := D) (ci := 8) (v := .ref (y 1)) (C := RX8) (T := TX8) (N := 52) hx hb hts w_1 hown hK hP 0 rfl rfl 0 (by decide) w_3 (fun _ h9 => h9) rfl dX8_wordAt_80 ?_
            refine lv_iload_n hx hb dX8_wordAt_83 rfl (lv_at hl 4 rfl) ?_
            refine lv_iload hx hb dX8_wordAt_84 (lv_at hl 0 rfl) ?_
            refine sv_iadd (v := a + 3) hx hb dX8_wordAt_86 rfl ?_
            refine lv_topi (fun v_7 ev_7 => ?_)
            refine sv_iald (v := m_tape v_7.toNatClampNeg) hx hb hK hP 1 1 rfl rfl (by rw [ev_7]; exact wa_in h0 hab hb9 (c_44.trans ev_1) (by decide)) rfl dX8_wordAt_87 ?_
            refine lv_topi (fun v_8 ev_8 => ?_)
            refine lv_icmp_ne (tgt := 95) hx hb dX8_wordAt_88 (by decide) (fun c_88 => ?_) (fun c_88 => ?_)
            ·
              refine lv_iconst (v := 0) hx hb dX8_wordAt_95 (by decide) ?_
              refine lv_istore (lv' := [(6, .int 0), (7, .int 3), (5, .int 6), (0, .ref (y 0)), (1, .int a), (2, .int b), (3, .int 7), (4, .int 36)]) hx hb dX8_wordAt_96 hl (by decide) rfl (fun ls hl => ?_)
              refine lv_iinc (v := 4) (lv' := [(7, .int 4), (6, .int 0), (5, .int 6), (0, .ref (y 0)), (1, .int a), (2, .int b), (3, .int 7), (4, .int 36)]) hx hb dX8_wordAt_98 hl (k := 1) rfl (by decide) (by decide) rfl (fun ls hl => ?_)
              refine lv_goto (tgt := 57) hx hb dX8_wordAt_101 (by decide) ?_
              refine lv_iload hx hb dX8_wordAt_57 (lv_at hl 0 rfl) ?_
              refine lv_iload hx hb dX8_wordAt_59 (lv_at hl 2 rfl) ?_
              refine lv_icmp_ge (tgt := 104) hx hb dX8_wordAt_61 (by decide) (fun h => absurd h (by decide)) (fun _ => ?_)
              refine lv_iload hx hb dX8_wordAt_64 (lv_at hl 1 rfl) ?_
              refine lv_if_eq (tgt := 104) hx hb dX8_wordAt_66 (by decide) (fun _ => ?_) (fun h => absurd (by decide) h)
              refine lv_iload hx hb dX8_wordAt_104 (lv_at hl 1 rfl) ?_
              refine lv_if_eq (tgt := 111) hx hb dX8_wordAt_106 (by decide) (fun _ => ?_) (fun h => absurd (by decide) h)
              refine lv_iload hx hb dX8_wordAt_111 (lv_at hl 7 rfl) ?_
              refine lv_iload hx hb dX8_wordAt_113 (lv_at hl 2 rfl) ?_
              refine lv_iconst (v := 1) hx hb dX8_wordAt_115 (by decide) ?_
              refine sv_iadd (v := 7) hx hb dX8_wordAt_116 (by decide) ?_
              refine sv_iadd (v := 43) hx hb dX8_wordAt_117 (by decide) ?_
              refine lv_istore (lv' := [(4, .int 43), (7, .int 4), (6, .int 0), (5, .int 6), (0, .ref (y 0)), (1, .int a), (2, .int b), (3, .int 7)]) hx hb dX8_wordAt_118 hl (by decide) rfl (fun ls hl => ?_)
              refine lv_iinc (v := 8) (lv' := [(3, .int 8), (4, .int 43), (7, .int 4), (6, .int 0), (5, .int 6), (0, .ref (y 0)), (1, .int a), (2, .int b)]) hx hb dX8_wordAt_120 hl (k := 7) rfl (by decide) (by decide) rfl (fun ls hl => ?_)
              refine lv_goto (tgt := 5) hx hb dX8_wordAt_123 (by decide) ?_
              exact J_8_43 ls (lv_sub hl [5, 6, 7, 0, 1] rfl)
            ·
              refine lv_iconst (v := 1) hx hb dX8_wordAt_91 (by decide) ?_
              refine lv_goto (tgt := 96) hx hb dX8_wordAt_92 (by decide) ?_
              refine lv_istore (lv' := [(6, .int 1), (7, .int 3), (5, .int 6), (0, .ref (y 0)), (1, .int a), (2, .int b), (3, .int 7), (4, .int 36)]) hx hb dX8_wordAt_96 hl (by decide) rfl (fun ls hl => ?_)
              refine lv_iinc (v := 4) (lv' := [(7, .int 4), (6, .int 1), (5, .int 6), (0, .ref (y 0)), (1, .int a), (2, .int b), (3, .int 7), (4, .int 36)]) hx hb dX8_wordAt_98 hl (k := 1) rfl (by decide) (by decide) rfl (fun ls hl => ?_)
              refine lv_goto (tgt := 57) hx hb dX8_wordAt_101 (by decide) ?_
              refine lv_iload hx hb dX8_wordAt_57 (lv_at hl 0 rfl) ?_
              refine lv_iload hx hb dX8_wordAt_59 (lv_at hl 2 rfl) ?_
              refine lv_icmp_ge (tgt := 104) hx hb dX8_wordAt_61 (by decide) (fun h => absurd h (by decide)) (fun _ => ?_)
              refine lv_iload hx hb dX8_wordAt_64 (lv_at hl 1 rfl) ?_
              refine lv_if_eq (tgt := 104) hx hb dX8_wordAt_66 (by decide) (fun h => absurd h (by decide)) (fun _ => ?_)
              refine lv_aload_n hx hb dX8_wordAt_69 rfl (lv_at hl 3 rfl) ?_
              refine va_get (D := D) (ci := 8) (v := .ref (y 17)) (C := RX8) (T := TX8) (N := 52) hx hb hts w_1 hown hK hP 0 rfl rfl 34 (by decide) w_2 (fun _ h9 => h9) rfl dX8_wordAt_70 ?_
              refine lv_iload hx hb dX8_wordAt_73 (lv_at hl 7 rfl) ?_
              refine lv_iload hx hb dX8_wordAt_75 (lv_at hl 0 rfl) ?_
              refine sv_iadd (v := 40) hx hb dX8_wordAt_77 (by decide) ?_
              refine sv_iald (v := 101) hx hb hK hP 2 1 rfl rfl (vp_in_iff.mpr (by decide)) (hwf 40 (by decide)) dX8_wordAt_78 ?_
              refine lv_aload_n hx hb dX8_wordAt_79 rfl (lv_at hl 3 rfl) ?_
              refine va_get (D := D) (ci := 8) (v := .ref (y 1)) (C := RX8) (T := TX8) (N := 52) hx hb hts w_1 hown hK hP 0 rfl rfl 0 (by decide) w_3 (fun _ h9 => h9) rfl dX8_wordAt_80 ?_
              refine lv_iload_n hx hb dX8_wordAt_83 rfl (lv_at hl 4 rfl) ?_
              refine lv_iload hx hb dX8_wordAt_84 (lv_at hl 0 rfl) ?_
              refine sv_iadd (v := a + 4) hx hb dX8_wordAt_86 rfl ?_
              refine lv_topi (fun v_9 ev_9 => ?_)
              refine sv_iald (v := m_tape v_9.toNatClampNeg) hx hb hK hP 1 1 rfl rfl (by rw [ev_9]; exact wa_in h0 hab hb9 (c_44.trans ev_1) (by decide)) rfl dX8_wordAt_87 ?_
              refine lv_topi (fun v_10 ev_10 => ?_)
              refine lv_icmp_ne (tgt := 95) hx hb dX8_wordAt_88 (by decide) (fun c_88 => ?_) (fun c_88 => ?_)
              ·
                refine lv_iconst (v := 0) hx hb dX8_wordAt_95 (by decide) ?_
                refine lv_istore (lv' := [(6, .int 0), (7, .int 4), (5, .int 6), (0, .ref (y 0)), (1, .int a), (2, .int b), (3, .int 7), (4, .int 36)]) hx hb dX8_wordAt_96 hl (by decide) rfl (fun ls hl => ?_)
                refine lv_iinc (v := 5) (lv' := [(7, .int 5), (6, .int 0), (5, .int 6), (0, .ref (y 0)), (1, .int a), (2, .int b), (3, .int 7), (4, .int 36)]) hx hb dX8_wordAt_98 hl (k := 1) rfl (by decide) (by decide) rfl (fun ls hl => ?_)
                refine lv_goto (tgt := 57) hx hb dX8_wordAt_101 (by decide) ?_
                refine lv_iload hx hb dX8_wordAt_57 (lv_at hl 0 rfl) ?_
                refine lv_iload hx hb dX8_wordAt_59 (lv_at hl 2 rfl) ?_
                refine lv_icmp_ge (tgt := 104) hx hb dX8_wordAt_61 (by decide) (fun h => absurd h (by decide)) (fun _ => ?_)
                refine lv_iload hx hb dX8_wordAt_64 (lv_at hl 1 rfl) ?_
                refine lv_if_eq (tgt := 104) hx hb dX8_wordAt_66 (by decide) (fun _ => ?_) (fun h => absurd (by decide) h)
                refine lv_iload hx hb dX8_wordAt_104 (lv_at hl 1 rfl) ?_
                refine lv_if_eq (tgt := 111) hx hb dX8_wordAt_106 (by decide) (fun _ => ?_) (fun h => absurd (by decide) h)
                refine lv_iload hx hb dX8_wordAt_111 (lv_at hl 7 rfl) ?_
                refine lv_iload hx hb dX8_wordAt_113 (lv_at hl 2 rfl) ?_
                refine lv_iconst (v := 1) hx hb dX8_wordAt_115 (by decide) ?_
                refine sv_iadd (v := 7) hx hb dX8_wordAt_116 (by decide) ?_
                refine sv_iadd (v := 43) hx hb dX8_wordAt_117 (by decide) ?_
                refine lv_istore (lv' := [(4, .int 43), (7, .int 5), (6, .int 0), (5, .int 6), (0, .ref (y 0)), (1, .int a), (2, .int b), (3, .int 7)]) hx hb dX8_wordAt_118 hl (by decide) rfl (fun ls hl => ?_)
                refine lv_iinc (v := 8) (lv' := [(3, .int 8), (4, .int 43), (7, .int 5), (6, .int 0), (5, .int 6), (0, .ref (y 0)), (1, .int a), (2, .int b)]) hx hb dX8_wordAt_120 hl (k := 7) rfl (by decide) (by decide) rfl (fun ls hl => ?_)
                refine lv_goto (tgt := 5) hx hb dX8_wordAt_123 (by decide) ?_
                exact J_8_43 ls (lv_sub hl [5, 6, 7, 0, 1] rfl)
              ·
                refine lv_iconst (v := 1) hx hb dX8_wordAt_91 (by decide) ?_
                refine lv_goto (tgt := 96) hx hb dX8_wordAt_92 (by decide) ?_
                refine lv_istore (lv' := [(6, .int 1), (7, .int 4), (5, .int 6), (0, .ref (y 0)), (1, .int a), (2, .int b), (3, .int 7), (4, .int 36)]) hx hb dX8_wordAt_96 hl (by decide) rfl (fun ls hl => ?_)
                refine lv_iinc (v := 5) (lv' := [(7, .int 5), (6, .int 1), (5, .int 6), (0, .ref (y 0)), (1, .int a), (2, .int b), (3, .int 7), (4, .int 36)]) hx hb dX8_wordAt_98 hl (k := 1) rfl (by decide) (by decide) rfl (fun ls hl => ?_)
                refine lv_goto (tgt := 57) hx hb dX8_wordAt_101 (by decide) ?_
                refine lv_iload hx hb dX8_wordAt_57 (lv_at hl 0 rfl) ?_
                refine lv_iload hx hb dX8_wordAt_59 (lv_at hl 2 rfl) ?_
                refine lv_icmp_ge (tgt := 104) hx hb dX8_wordAt_61 (by decide) (fun h => absurd h (by decide)) (fun _ => ?_)
                refine lv_iload hx hb dX8_wordAt_64 (lv_at hl 1 rfl) ?_
                refine lv_if_eq (tgt := 104) hx hb dX8_wordAt_66 (by decide) (fun h => absurd h (by decide)) (fun _ => ?_)
                refine lv_aload_n hx hb dX8_wordAt_69 rfl (lv_at hl 3 rfl) ?_
                refine va_get (D := D) (ci := 8) (v := .ref (y 17)) (C := RX8) (T := TX8) (N := 52) hx hb hts w_1 hown hK hP 0 rfl rfl 34 (by decide) w_2 (fun _ h9 => h9) rfl dX8_wordAt_70 ?_
                refine lv_iload hx hb dX8_wordAt_73 (lv_at hl 7 rfl) ?_
                refine lv_iload hx hb dX8_wordAt_75 (lv_at hl 0 rfl) ?_
                refine sv_iadd (v := 41) hx hb dX8_wordAt_77 (by decide) ?_
                refine sv_iald (v := 115) hx hb hK hP 2 1 rfl rfl (vp_in_iff.mpr (by decide)) (hwf 41 (by decide)) dX8_wordAt_78 ?_
                refine lv_aload_n hx hb dX8_wordAt_79 rfl (lv_at hl 3 rfl) ?_
                refine va_get (D := D) (ci := 8) (v := .ref (y 1)) (C := RX8) (T := TX8) (N := 52) hx hb hts w_1 hown hK hP 0 rfl rfl 0 (by decide) w_3 (fun _ h9 => h9) rfl dX8_wordAt_80 ?_
                refine lv_iload_n hx hb dX8_wordAt_83 rfl (lv_at hl 4 rfl) ?_
                refine lv_iload hx hb dX8_wordAt_84 (lv_at hl 0 rfl) ?_
                refine sv_iadd (v := a + 5) hx hb dX8_wordAt_86 rfl ?_
                refine lv_topi (fun v_11 ev_11 => ?_)
                refine sv_iald (v := m_tape v_11.toNatClampNeg) hx hb hK hP 1 1 rfl rfl (by rw [ev_11]; exact wa_in h0 hab hb9 (c_44.trans ev_1) (by decide)) rfl dX8_wordAt_87 ?_
                refine lv_topi (fun v_12 ev_12 => ?_)
                refine lv_icmp_ne (tgt := 95) hx hb dX8_wordAt_88 (by decide) (fun c_88 => ?_) (fun c_88 => ?_)
                ·
                  refine lv_iconst (v := 0) hx hb dX8_wordAt_95 (by decide) ?_
                  refine lv_istore (lv' := [(6, .int 0), (7, .int 5), (5, .int 6), (0, .ref (y 0)), (1, .int a), (2, .int b), (3, .int 7), (4, .int 36)]) hx hb dX8_wordAt_96 hl (by decide) rfl (fun ls hl => ?_)
                  refine lv_iinc (v := 6) (lv' := [(7, .int 6), (6, .int 0), (5, .int 6), (0, .ref (y 0)), (1, .int a), (2, .int b), (3, .int 7), (4, .int 36)]) hx hb dX8_wordAt_98 hl (k := 1) rfl (by decide) (by decide) rfl (fun ls hl => ?_)
                  refine lv_goto (tgt := 57) hx hb dX8_wordAt_101 (by decide) ?_
                  refine lv_iload hx hb dX8_wordAt_57 (lv_at hl 0 rfl) ?_
                  refine lv_iload hx hb dX8_wordAt_59 (lv_at hl 2 rfl) ?_
                  refine lv_icmp_ge (tgt := 104) hx hb dX8_wordAt_61 (by decide) (fun _ => ?_) (fun h => absurd (by decide) h)
                  refine lv_iload hx hb dX8_wordAt_104 (lv_at hl 1 rfl) ?_
                  refine lv_if_eq (tgt := 111) hx hb dX8_wordAt_106 (by decide) (fun _ => ?_) (fun h => absurd (by decide) h)
                  refine lv_iload hx hb dX8_wordAt_111 (lv_at hl 7 rfl) ?_
                  refine lv_iload hx hb dX8_wordAt_113 (lv_at hl 2 rfl) ?_
                  refine lv_iconst (v := 1) hx hb dX8_wordAt_115 (by decide) ?_
                  refine sv_iadd (v := 7) hx hb dX8_wordAt_116 (by decide) ?_
                  refine sv_iadd (v := 43) hx hb dX8_wordAt_117 (by decide) ?_
                  refine lv_istore (lv' := [(4, .int 43), (7, .int 6), (6, .int 0), (5, .int 6), (0, .ref (y 0)), (1, .int a), (2, .int b), (3, .int 7)]) hx hb dX8_wordAt_118 hl (by decide) rfl (fun ls hl => ?_)
                  refine lv_iinc (v := 8) (lv' := [(3, .int 8), (4, .int 43), (7, .int 6), (6, .int 0), (5, .int 6), (0, .ref (y 0)), (1, .int a), (2, .int b)]) hx hb dX8_wordAt_120 hl (k := 7) rfl (by decide) (by decide) rfl (fun ls hl => ?_)
                  refine lv_goto (tgt := 5) hx hb dX8_wordAt_123 (by decide) ?_
                  exact J_8_43 ls (lv_sub hl [5, 6, 7, 0, 1] rfl)
                ·
                  refine lv_iconst (v := 1) hx hb dX8_wordAt_91 (by decide) ?_
                  refine lv_goto (tgt := 96) hx hb dX8_wordAt_92 (by decide) ?_
                  refine lv_istore (lv' := [(6, .int 1), (7, .int 5), (5, .int 6), (0, .ref (y 0)), (1, .int a), (2, .int b), (3, .int 7), (4, .int 36)]) hx hb dX8_wordAt_96 hl (by decide) rfl (fun ls hl => ?_)
                  refine lv_iinc (v := 6) (lv' := [(7, .int 6), (6, .int 1), (5, .int 6), (0, .ref (y 0)), (1, .int a), (2, .int b), (3, .int 7), (4, .int 36)]) hx hb dX8_wordAt_98 hl (k := 1) rfl (by decide) (by decide) rfl (fun ls hl => ?_)
                  refine lv_goto (tgt := 57) hx hb dX8_wordAt_101 (by decide) ?_
                  refine lv_iload hx hb dX8_wordAt_57 (lv_at hl 0 rfl) ?_
                  refine lv_iload hx hb dX8_wordAt_59 (lv_at hl 2 rfl) ?_
                  refine lv_icmp_ge (tgt := 104) hx hb dX8_wordAt_61 (by decide) (fun _ => ?_) (fun h => absurd (by decide) h)
                  refine lv_iload hx hb dX8_wordAt_104 (lv_at hl 1 rfl) ?_
                  refine lv_if_eq (tgt := 111) hx hb dX8_wordAt_106 (by decide) (fun h => absurd h (by decide)) (fun _ => ?_)
                  refine lv_iload_n hx hb dX8_wordAt_109 rfl (lv_at hl 6 rfl) ?_
                  rw [← hQ]
                  exact W.iret (v := 7) hx hb hr (fun t ht hW => ⟨_, rfl, Or.inr (vp_in_iff.mpr (by decide)), ht⟩) (fun q h => nomatch h) dX8_wordAt_110
  have J_6_30 : ∀ (ls : Array Slot), lv_has ls 8 [(0, .ref (y 0)), (1, .int a), (2, .int b), (3, .int 6), (4, .int 30)] → W p l e (headSpec wsX8_wordAt ({ frames := 0, cells := 0, slots := 0, locals := 0 } : Room)).room s m ([.ref (y 0), .int a, .int b] : List Value).toArray below meth c s.heap [] 0 0 Q0 (F0 m 5 ls []) := by
    intro ls hl
    refine lv_iload hx hb dX8_wordAt_5 (lv_at hl 4 rfl) ?_
    refine lv_aload_n hx hb dX8_wordAt_7 rfl (lv_at hl 0 rfl) ?_
    refine va_get (D := D) (ci := 8) (v := .ref (y 17)) (C := RX8) (T := TX8) (N := 52) hx hb hts w_1 hown hK hP 0 rfl rfl 34 (by decide) w_2 (fun _ h9 => h9) rfl dX8_wordAt_8 ?_
    refine va_alen (v := 43) hx hb hK hP 2 1 rfl rfl rfl dX8_wordAt_11 ?_
    refine lv_icmp_ge (tgt := 126) hx hb dX8_wordAt_12 (by decide) (fun h => absurd h (by decide)) (fun _ => ?_)
    refine lv_iconst (v := 0) hx hb dX8_wordAt_15 (by decide) ?_
    refine lv_istore (lv' := [(5, .int 0), (0, .ref (y 0)), (1, .int a), (2, .int b), (3, .int 6), (4, .int 30)]) hx hb dX8_wordAt_16 hl (by decide) rfl (fun ls hl => ?_)
    refine lv_aload_n hx hb dX8_wordAt_18 rfl (lv_at hl 1 rfl) ?_
    refine va_get (D := D) (ci := 8) (v := .ref (y 17)) (C := RX8) (T := TX8) (N := 52) hx hb hts w_1 hown hK hP 0 rfl rfl 34 (by decide) w_2 (fun _ h9 => h9) rfl dX8_wordAt_19 ?_
    refine lv_iload hx hb dX8_wordAt_22 (lv_at hl 5 rfl) ?_
    refine lv_iload hx hb dX8_wordAt_24 (lv_at hl 0 rfl) ?_
    refine sv_iadd (v := 30) hx hb dX8_wordAt_26 (by decide) ?_
    refine sv_iald (v := 115) hx hb hK hP 2 1 rfl rfl (vp_in_iff.mpr (by decide)) (hwf 30 (by decide)) dX8_wordAt_27 ?_
    refine lv_bipush (v := 32) hx hb dX8_wordAt_28 (by decide) ?_
    refine lv_icmp_eq (tgt := 39) hx hb dX8_wordAt_30 (by decide) (fun h => absurd h (by decide)) (fun _ => ?_)
    refine lv_iinc (v := 1) (lv' := [(5, .int 1), (0, .ref (y 0)), (1, .int a), (2, .int b), (3, .int 6), (4, .int 30)]) hx hb dX8_wordAt_33 hl (k := 0) rfl (by decide) (by decide) rfl (fun ls hl => ?_)
    refine lv_goto (tgt := 18) hx hb dX8_wordAt_36 (by decide) ?_
    refine lv_aload_n hx hb dX8_wordAt_18 rfl (lv_at hl 1 rfl) ?_
    refine va_get (D := D) (ci := 8) (v := .ref (y 17)) (C := RX8) (T := TX8) (N := 52) hx hb hts w_1 hown hK hP 0 rfl rfl 34 (by decide) w_2 (fun _ h9 => h9) rfl dX8_wordAt_19 ?_
    refine lv_iload hx hb dX8_wordAt_22 (lv_at hl 5 rfl) ?_
    refine lv_iload hx hb dX8_wordAt_24 (lv_at hl 0 rfl) ?_
    refine sv_iadd (v := 31) hx hb dX8_wordAt_26 (by decide) ?_
    refine sv_iald (v := 112) hx hb hK hP 2 1 rfl rfl (vp_in_iff.mpr (by decide)) (hwf 31 (by decide)) dX8_wordAt_27 ?_
    refine lv_bipush (v := 32) hx hb dX8_wordAt_28 (by decide) ?_
    refine lv_icmp_eq (tgt := 39) hx hb dX8_wordAt_30 (by decide) (fun h => absurd h (by decide)) (fun _ => ?_)
    refine lv_iinc (v := 2) (lv' := [(5, .int 2), (0, .ref (y 0)), (1, .int a), (2, .int b), (3, .int 6), (4, .int 30)]) hx hb dX8_wordAt_33 hl (k := 0) rfl (by decide) (by decide) rfl (fun ls hl => ?_)
    refine lv_goto (tgt := 18) hx hb dX8_wordAt_36 (by decide) ?_
    refine lv_aload_n hx hb dX8_wordAt_18 rfl (lv_at hl 1 rfl) ?_
    refine va_get (D := D) (ci := 8) (v := .ref (y 17)) (C := RX8) (T := TX8) (N := 52) hx hb hts w_1 hown hK hP 0 rfl rfl 34 (by decide) w_2 (fun _ h9 => h9) rfl dX8_wordAt_19 ?_
    refine lv_iload hx hb dX8_wordAt_22 (lv_at hl 5 rfl) ?_
    refine lv_iload hx hb dX8_wordAt_24 (lv_at hl 0 rfl) ?_
    refine sv_iadd (v := 32) hx hb dX8_wordAt_26 (by decide) ?_
    refine sv_iald (v := 97) hx hb hK hP 2 1 rfl rfl (vp_in_iff.mpr (by decide)) (hwf 32 (by decide)) dX8_wordAt_27 ?_
    refine lv_bipush (v := 32) hx hb dX8_wordAt_28 (by decide) ?_
    refine lv_icmp_eq (tgt := 39) hx hb dX8_wordAt_30 (by decide) (fun h => absurd h (by decide)) (fun _ => ?_)
    refine lv_iinc (v := 3) (lv' := [(5, .int 3), (0, .ref (y 0)), (1, .int a), (2, .int b), (3, .int 6), (4, .int 30)]) hx hb dX8_wordAt_33 hl (k := 0) rfl (by decide) (by decide) rfl (fun ls hl => ?_)
    refine lv_goto (tgt := 18) hx hb dX8_wordAt_36 (by decide) ?_
    refine lv_aload_n hx hb dX8_wordAt_18 rfl (lv_at hl 1 rfl) ?_
    refine va_get (D := D) (ci := 8) (v := .ref (y 17)) (C := RX8) (T := TX8) (N := 52) hx hb hts w_1 hown hK hP 0 rfl rfl 34 (by decide) w_2 (fun _ h9 => h9) rfl dX8_wordAt_19 ?_
    refine lv_iload hx hb dX8_wordAt_22 (lv_at hl 5 rfl) ?_
    refine lv_iload hx hb dX8_wordAt_24 (lv_at hl 0 rfl) ?_
    refine sv_iadd (v := 33) hx hb dX8_wordAt_26 (by decide) ?_
    refine sv_iald (v := 114) hx hb hK hP 2 1 rfl rfl (vp_in_iff.mpr (by decide)) (hwf 33 (by decide)) dX8_wordAt_27 ?_
    refine lv_bipush (v := 32) hx hb dX8_wordAt_28 (by decide) ?_
    refine lv_icmp_eq (tgt := 39) hx hb dX8_wordAt_30 (by decide) (fun h => absurd h (by decide)) (fun _ => ?_)
    refine lv_iinc (v := 4) (lv' := [(5, .int 4), (0, .ref (y 0)), (1, .int a), (2, .int b), (3, .int 6), (4, .int 30)]) hx hb dX8_wordAt_33 hl (k := 0) rfl (by decide) (by decide) rfl (fun ls hl => ?_)
    refine lv_goto (tgt := 18) hx hb dX8_wordAt_36 (by decide) ?_
    refine lv_aload_n hx hb dX8_wordAt_18 rfl (lv_at hl 1 rfl) ?_
    refine va_get (D := D) (ci := 8) (v := .ref (y 17)) (C := RX8) (T := TX8) (N := 52) hx hb hts w_1 hown hK hP 0 rfl rfl 34 (by decide) w_2 (fun _ h9 => h9) rfl dX8_wordAt_19 ?_
    refine lv_iload hx hb dX8_wordAt_22 (lv_at hl 5 rfl) ?_
    refine lv_iload hx hb dX8_wordAt_24 (lv_at hl 0 rfl) ?_
    refine sv_iadd (v := 34) hx hb dX8_wordAt_26 (by decide) ?_
    refine sv_iald (v := 101) hx hb hK hP 2 1 rfl rfl (vp_in_iff.mpr (by decide)) (hwf 34 (by decide)) dX8_wordAt_27 ?_
    refine lv_bipush (v := 32) hx hb dX8_wordAt_28 (by decide) ?_
    refine lv_icmp_eq (tgt := 39) hx hb dX8_wordAt_30 (by decide) (fun h => absurd h (by decide)) (fun _ => ?_)
    refine lv_iinc (v := 5) (lv' := [(5, .int 5), (0, .ref (y 0)), (1, .int a), (2, .int b), (3, .int 6), (4, .int 30)]) hx hb dX8_wordAt_33 hl (k := 0) rfl (by decide) (by decide) rfl (fun ls hl => ?_)
    refine lv_goto (tgt := 18) hx hb dX8_wordAt_36 (by decide) ?_
    refine lv_aload_n hx hb dX8_wordAt_18 rfl (lv_at hl 1 rfl) ?_
    refine va_get (D := D) (ci := 8) (v := .ref (y 17)) (C := RX8) (T := TX8) (N := 52) hx hb hts w_1 hown hK hP 0 rfl rfl 34 (by decide) w_2 (fun _ h9 => h9) rfl dX8_wordAt_19 ?_
    refine lv_iload hx hb dX8_wordAt_22 (lv_at hl 5 rfl) ?_
    refine lv_iload hx hb dX8_wordAt_24 (lv_at hl 0 rfl) ?_
    refine sv_iadd (v := 35) hx hb dX8_wordAt_26 (by decide) ?_
    refine sv_iald (v := 32) hx hb hK hP 2 1 rfl rfl (vp_in_iff.mpr (by decide)) (hwf 35 (by decide)) dX8_wordAt_27 ?_
    refine lv_bipush (v := 32) hx hb dX8_wordAt_28 (by decide) ?_
    refine lv_icmp_eq (tgt := 39) hx hb dX8_wordAt_30 (by decide) (fun _ => ?_) (fun h => absurd (by decide) h)
    refine lv_iload hx hb dX8_wordAt_39 (lv_at hl 0 rfl) ?_
    refine lv_iload_n hx hb dX8_wordAt_41 rfl (lv_at hl 3 rfl) ?_
    refine lv_iload_n hx hb dX8_wordAt_42 rfl (lv_at hl 2 rfl) ?_
    refine sv_isub (v := b - a) hx hb dX8_wordAt_43 rfl ?_
    refine lv_topi (fun v_13 ev_13 => ?_)
    refine lv_icmp_ne (tgt := 51) hx hb dX8_wordAt_44 (by decide) (fun c_44 => ?_) (fun c_44 => ?_)
    ·
      refine lv_iconst (v := 0) hx hb dX8_wordAt_51 (by decide) ?_
      refine lv_istore (lv' := [(6, .int 0), (5, .int 5), (0, .ref (y 0)), (1, .int a), (2, .int b), (3, .int 6), (4, .int 30)]) hx hb dX8_wordAt_52 hl (by decide) rfl (fun ls hl => ?_)
      refine lv_iconst (v := 0) hx hb dX8_wordAt_54 (by decide) ?_
      refine lv_istore (lv' := [(7, .int 0), (6, .int 0), (5, .int 5), (0, .ref (y 0)), (1, .int a), (2, .int b), (3, .int 6), (4, .int 30)]) hx hb dX8_wordAt_55 hl (by decide) rfl (fun ls hl => ?_)
      refine lv_iload hx hb dX8_wordAt_57 (lv_at hl 0 rfl) ?_
      refine lv_iload hx hb dX8_wordAt_59 (lv_at hl 2 rfl) ?_
      refine lv_icmp_ge (tgt := 104) hx hb dX8_wordAt_61 (by decide) (fun h => absurd h (by decide)) (fun _ => ?_)
      refine lv_iload hx hb dX8_wordAt_64 (lv_at hl 1 rfl) ?_
      refine lv_if_eq (tgt := 104) hx hb dX8_wordAt_66 (by decide) (fun _ => ?_) (fun h => absurd (by decide) h)
      refine lv_iload hx hb dX8_wordAt_104 (lv_at hl 1 rfl) ?_
      refine lv_if_eq (tgt := 111) hx hb dX8_wordAt_106 (by decide) (fun _ => ?_) (fun h => absurd (by decide) h)
      refine lv_iload hx hb dX8_wordAt_111 (lv_at hl 7 rfl) ?_
      refine lv_iload hx hb dX8_wordAt_113 (lv_at hl 2 rfl) ?_
      refine lv_iconst (v := 1) hx hb dX8_wordAt_115 (by decide) ?_
      refine sv_iadd (v := 6) hx hb dX8_wordAt_116 (by decide) ?_
      refine sv_iadd (v := 36) hx hb dX8_wordAt_117 (by decide) ?_
      refine lv_istore (lv' := [(4, .int 36), (7, .int 0), (6, .int 0), (5, .int 5), (0, .ref (y 0)), (1, .int a), (2, .int b), (3, .int 6)]) hx hb dX8_wordAt_118 hl (by decide) rfl (fun ls hl => ?_)
      refine lv_iinc (v := 7) (lv' := [(3, .int 7), (4, .int 36), (7, .int 0), (6, .int 0), (5, .int 5), (0, .ref (y 0)), (1, .int a), (2, .int b)]) hx hb dX8_wordAt_120 hl (k := 7) rfl (by decide) (by decide) rfl (fun ls hl => ?_)
      refine lv_goto (tgt := 5) hx hb dX8_wordAt_123 (by decide) ?_
      exact J_7_36 ls (lv_sub hl [5, 6, 7, 0, 1] rfl)
    ·
      refine lv_iconst (v := 1) hx hb dX8_wordAt_47 (by decide) ?_
      refine lv_goto (tgt := 52) hx hb dX8_wordAt_48 (by decide) ?_
      refine lv_istore (lv' := [(6, .int 1), (5, .int 5), (0, .ref (y 0)), (1, .int a), (2, .int b), (3, .int 6), (4, .int 30)]) hx hb dX8_wordAt_52 hl (by decide) rfl (fun ls hl => ?_)
      refine lv_iconst (v := 0) hx hb dX8_wordAt_54 (by decide) ?_
      refine lv_istore (lv' := [(7, .int 0), (6, .int 1), (5, .int 5), (0, .ref (y 0)), (1, .int a), (2, .int b), (3, .int 6), (4, .int 30)]) hx hb dX8_wordAt_55 hl (by decide) rfl (fun ls hl => ?_)
      refine lv_iload hx hb dX8_wordAt_57 (lv_at hl 0 rfl) ?_
      refine lv_iload hx hb dX8_wordAt_59 (lv_at hl 2 rfl) ?_
      refine lv_icmp_ge (tgt := 104) hx hb dX8_wordAt_61 (by decide) (fun h => absurd h (by decide)) (fun _ => ?_)
      refine lv_iload hx hb dX8_wordAt_64 (lv_at hl 1 rfl) ?_
      refine lv_if_eq (tgt := 104) hx hb dX8_wordAt_66 (by decide) (fun h => absurd h (by decide)) (fun _ => ?_)
      refine lv_aload_n hx hb dX8_wordAt_69 rfl (lv_at hl 3 rfl) ?_
      refine va_get (D := D) (ci := 8) (v := .ref (y 17)) (C := RX8) (T := TX8) (N := 52) hx hb hts w_1 hown hK hP 0 rfl rfl 34 (by decide) w_2 (fun _ h9 => h9) rfl dX8_wordAt_70 ?_
      refine lv_iload hx hb dX8_wordAt_73 (lv_at hl 7 rfl) ?_
      refine lv_iload hx hb dX8_wordAt_75 (lv_at hl 0 rfl) ?_
      refine sv_iadd (v := 30) hx hb dX8_wordAt_77 (by decide) ?_
      refine sv_iald (v := 115) hx hb hK hP 2 1 rfl rfl (vp_in_iff.mpr (by decide)) (hwf 30 (by decide)) dX8_wordAt_78 ?_
      refine lv_aload_n hx hb dX8_wordAt_79 rfl (lv_at hl 3 rfl) ?_
      refine va_get (D := D) (ci := 8) (v := .ref (y 1)) (C := RX8) (T := TX8) (N := 52) hx hb hts w_1 hown hK hP 0 rfl rfl 0 (by decide) w_3 (fun _ h9 => h9) rfl dX8_wordAt_80 ?_
      refine lv_iload_n hx hb dX8_wordAt_83 rfl (lv_at hl 4 rfl) ?_
      refine lv_iload hx hb dX8_wordAt_84 (lv_at hl 0 rfl) ?_
      refine sv_iadd (v := a + 0) hx hb dX8_wordAt_86 rfl ?_
      refine lv_topi (fun v_14 ev_14 => ?_)
      refine sv_iald (v := m_tape v_14.toNatClampNeg) hx hb hK hP 1 1 rfl rfl (by rw [ev_14]; exact wa_in h0 hab hb9 (c_44.trans ev_13) (by decide)) rfl dX8_wordAt_87 ?_
      refine lv_topi (fun v_15 ev_15 => ?_)
      refine lv_icmp_ne (tgt := 95) hx hb dX8_wordAt_88 (by decide) (fun c_88 => ?_) (fun c_88 => ?_)
      ·
        refine lv_iconst (v := 0) hx hb dX8_wordAt_95 (by decide) ?_
        refine lv_istore (lv' := [(6, .int 0), (7, .int 0), (5, .int 5), (0, .ref (y 0)), (1, .int a), (2, .int b), (3, .int 6), (4, .int 30)]) hx hb dX8_wordAt_96 hl (by decide) rfl (fun ls hl => ?_)
        refine lv_iinc (v := 1) (lv' := [(7, .int 1), (6, .int 0), (5, .int 5), (0, .ref (y 0)), (1, .int a), (2, .int b), (3, .int 6), (4, .int 30)]) hx hb dX8_wordAt_98 hl (k := 1) rfl (by decide) (by decide) rfl (fun ls hl => ?_)
        refine lv_goto (tgt := 57) hx hb dX8_wordAt_101 (by decide) ?_
        refine lv_iload hx hb dX8_wordAt_57 (lv_at hl 0 rfl) ?_
        refine lv_iload hx hb dX8_wordAt_59 (lv_at hl 2 rfl) ?_
        refine lv_icmp_ge (tgt := 104) hx hb dX8_wordAt_61 (by decide) (fun h => absurd h (by decide)) (fun _ => ?_)
        refine lv_iload hx hb dX8_wordAt_64 (lv_at hl 1 rfl) ?_
        refine lv_if_eq (tgt := 104) hx hb dX8_wordAt_66 (by decide) (fun _ => ?_) (fun h => absurd (by decide) h)
        refine lv_iload hx hb dX8_wordAt_104 (lv_at hl 1 rfl) ?_
        refine lv_if_eq (tgt := 111) hx hb dX8_wordAt_106 (by decide) (fun _ => ?_) (fun h => absurd (by decide) h)
        refine lv_iload hx hb dX8_wordAt_111 (lv_at hl 7 rfl) ?_
        refine lv_iload hx hb dX8_wordAt_113 (lv_at hl 2 rfl) ?_
        refine lv_iconst (v := 1) hx hb dX8_wordAt_115 (by decide) ?_
        refine sv_iadd (v := 6) hx hb dX8_wordAt_116 (by decide) ?_
        refine sv_iadd (v := 36) hx hb dX8_wordAt_117 (by decide) ?_
        refine lv_istore (lv' := [(4, .int 36), (7, .int 1), (6, .int 0), (5, .int 5), (0, .ref (y 0)), (1, .int a), (2, .int b), (3, .int 6)]) hx hb dX8_wordAt_118 hl (by decide) rfl (fun ls hl => ?_)
        refine lv_iinc (v := 7) (lv' := [(3, .int 7), (4, .int 36), (7, .int 1), (6, .int 0), (5, .int 5), (0, .ref (y 0)), (1, .int a), (2, .int b)]) hx hb dX8_wordAt_120 hl (k := 7) rfl (by decide) (by decide) rfl (fun ls hl => ?_)
        refine lv_goto (tgt := 5) hx hb dX8_wordAt_123 (by decide) ?_
        exact J_7_36 ls (lv_sub hl [5, 6, 7, 0, 1] rfl)
      ·
        refine lv_iconst (v := 1) hx hb dX8_wordAt_91 (by decide) ?_
        refine lv_goto (tgt := 96) hx hb dX8_wordAt_92 (by decide) ?_
        refine lv_istore (lv' := [(6, .int 1), (7, .int 0), (5, .int 5), (0, .ref (y 0)), (1, .int a), (2, .int b), (3, .int 6), (4, .int 30)]) hx hb dX8_wordAt_96 hl (by decide) rfl (fun ls hl => ?_)
        refine lv_iinc (v := 1) (lv' := [(7, .int 1), (6, .int 1), (5, .int 5), (0, .ref (y 0)), (1, .int a), (2, .int b), (3, .int 6), (4, .int 30)]) hx hb dX8_wordAt_98 hl (k := 1) rfl (by decide) (by decide) rfl (fun ls hl => ?_)
        refine lv_goto (tgt := 57) hx hb dX8_wordAt_101 (by decide) ?_
        refine lv_iload hx hb dX8_wordAt_57 (lv_at hl 0 rfl) ?_
        refine lv_iload hx hb dX8_wordAt_59 (lv_at hl 2 rfl) ?_
        refine lv_icmp_ge (tgt := 104) hx hb dX8_wordAt_61 (by decide) (fun h => absurd h (by decide)) (fun _ => ?_)
        refine lv_iload hx hb dX8_wordAt_64 (lv_at hl 1 rfl) ?_
        refine lv_if_eq (tgt := 104) hx hb dX8_wordAt_66 (by decide) (fun h => absurd h (by decide)) (fun _ => ?_)
        refine lv_aload_n hx hb dX8_wordAt_69 rfl (lv_at hl 3 rfl) ?_
        refine va_get (D := D) (ci := 8) (v := .ref (y 17)) (C := RX8) (T := TX8) (N := 52) hx hb hts w_1 hown hK hP 0 rfl rfl 34 (by decide) w_2 (fun _ h9 => h9) rfl dX8_wordAt_70 ?_
        refine lv_iload hx hb dX8_wordAt_73 (lv_at hl 7 rfl) ?_
        refine lv_iload hx hb dX8_wordAt_75 (lv_at hl 0 rfl) ?_
        refine sv_iadd (v := 31) hx hb dX8_wordAt_77 (by decide) ?_
        refine sv_iald (v := 112) hx hb hK hP 2 1 rfl rfl (vp_in_iff.mpr (by decide)) (hwf 31 (by decide)) dX8_wordAt_78 ?_
        refine lv_aload_n hx hb dX8_wordAt_79 rfl (lv_at hl 3 rfl) ?_
        refine va_get (D := D) (ci := 8) (v := .ref (y 1)) (C := RX8) (T := TX8) (N := 52) hx hb hts w_1 hown hK hP 0 rfl rfl 0 (by decide) w_3 (fun _ h9 => h9) rfl dX8_wordAt_80 ?_
        refine lv_iload_n hx hb dX8_wordAt_83 rfl (lv_at hl 4 rfl) ?_
        refine lv_iload hx hb dX8_wordAt_84 (lv_at hl 0 rfl) ?_
        refine sv_iadd (v := a + 1) hx hb dX8_wordAt_86 rfl ?_
        refine sv_iald (v := m_tape (a + 1).toNatClampNeg) hx hb hK hP 1 1 rfl rfl (wa_in h0 hab hb9 (c_44.trans ev_13) (by decide)) rfl dX8_wordAt_87 ?_
        refine lv_topi (fun v_16 ev_16 => ?_)
        refine lv_icmp_ne (tgt := 95) hx hb dX8_wordAt_88 (by decide) (fun c_88 => ?_) (fun c_88 => ?_)
        ·
          refine lv_iconst (v := 0) hx hb dX8_wordAt_95 (by decide) ?_
          refine lv_istore (lv' := [(6, .int 0), (7, .int 1), (5, .int 5), (0, .ref (y 0)), (1, .int a), (2, .int b), (3, .int 6), (4, .int 30)]) hx hb dX8_wordAt_96 hl (by decide) rfl (fun ls hl => ?_)
          refine lv_iinc (v := 2) (lv' := [(7, .int 2), (6, .int 0), (5, .int 5), (0, .ref (y 0)), (1, .int a), (2, .int b), (3, .int 6), (4, .int 30)]) hx hb dX8_wordAt_98 hl (k := 1) rfl (by decide) (by decide) rfl (fun ls hl => ?_)
          refine lv_goto (tgt := 57) hx hb dX8_wordAt_101 (by decide) ?_
          refine lv_iload hx hb dX8_wordAt_57 (lv_at hl 0 rfl) ?_
          refine lv_iload hx hb dX8_wordAt_59 (lv_at hl 2 rfl) ?_
          refine lv_icmp_ge (tgt := 104) hx hb dX8_wordAt_61 (by decide) (fun h => absurd h (by decide)) (fun _ => ?_)
          refine lv_iload hx hb dX8_wordAt_64 (lv_at hl 1 rfl) ?_
          refine lv_if_eq (tgt := 104) hx hb dX8_wordAt_66 (by decide) (fun _ => ?_) (fun h => absurd (by decide) h)
          refine lv_iload hx hb dX8_wordAt_104 (lv_at hl 1 rfl) ?_
          refine lv_if_eq (tgt := 111) hx hb dX8_wordAt_106 (by decide) (fun _ => ?_) (fun h => absurd (by decide) h)
          refine lv_iload hx hb dX8_wordAt_111 (lv_at hl 7 rfl) ?_
          refine lv_iload hx hb dX8_wordAt_113 (lv_at hl 2 rfl) ?_
          refine lv_iconst (v := 1) hx hb dX8_wordAt_115 (by decide) ?_
          refine sv_iadd (v := 6) hx hb dX8_wordAt_116 (by decide) ?_
          refine sv_iadd (v := 36) hx hb dX8_wordAt_117 (by decide) ?_
          refine lv_istore (lv' := [(4, .int 36), (7, .int 2), (6, .int 0), (5, .int 5), (0, .ref (y 0)), (1, .int a), (2, .int b), (3, .int 6)]) hx hb dX8_wordAt_118 hl (by decide) rfl (fun ls hl => ?_)
          refine lv_iinc (v := 7) (lv' := [(3, .int 7), (4, .int 36), (7, .int 2), (6, .int 0), (5, .int 5), (0, .ref (y 0)), (1, .int a), (2, .int b)]) hx hb dX8_wordAt_120 hl (k := 7) rfl (by decide) (by decide) rfl (fun ls hl => ?_)
          refine lv_goto (tgt := 5) hx hb dX8_wordAt_123 (by decide) ?_
          exact J_7_36 ls (lv_sub hl [5, 6, 7, 0, 1] rfl)
        ·
          refine lv_iconst (v := 1) hx hb dX8_wordAt_91 (by decide) ?_
          refine lv_goto (tgt := 96) hx hb dX8_wordAt_92 (by decide) ?_
          refine lv_istore (lv' := [(6, .int 1), (7, .int 1), (5, .int 5), (0, .ref (y 0)), (1, .int a), (2, .int b), (3, .int 6), (4, .int 30)]) hx hb dX8_wordAt_96 hl (by decide) rfl (fun ls hl => ?_)
          refine lv_iinc (v := 2) (lv' := [(7, .int 2), (6, .int 1), (5, .int 5), (0, .ref (y 0)), (1, .int a), (2, .int b), (3, .int 6), (4, .int 30)]) hx hb dX8_wordAt_98 hl (k := 1) rfl (by decide) (by decide) rfl (fun ls hl => ?_)
          refine lv_goto (tgt := 57) hx hb dX8_wordAt_101 (by decide) ?_
          refine lv_iload hx hb dX8_wordAt_57 (lv_at hl 0 rfl) ?_
          refine lv_iload hx hb dX8_wordAt_59 (lv_at hl 2 rfl) ?_
          refine lv_icmp_ge (tgt := 104) hx hb dX8_wordAt_61 (by decide) (fun h => absurd h (by decide)) (fun _ => ?_)
          refine lv_iload hx hb dX8_wordAt_64 (lv_at hl 1 rfl) ?_
          refine lv_if_eq (tgt := 104) hx hb dX8_wordAt_66 (by decide) (fun h => absurd h (by decide)) (fun _ => ?_)
          refine lv_aload_n hx hb dX8_wordAt_69 rfl (lv_at hl 3 rfl) ?_
          refine va_get (D := D) (ci := 8) (v := .ref (y 17)) (C := RX8) (T := TX8) (N := 52) hx hb hts w_1 hown hK hP 0 rfl rfl 34 (by decide) w_2 (fun _ h9 => h9) rfl dX8_wordAt_70 ?_
          refine lv_iload hx hb dX8_wordAt_73 (lv_at hl 7 rfl) ?_
          refine lv_iload hx hb dX8_wordAt_75 (lv_at hl 0 rfl) ?_
          refine sv_iadd (v := 32) hx hb dX8_wordAt_77 (by decide) ?_
          refine sv_iald (v := 97) hx hb hK hP 2 1 rfl rfl (vp_in_iff.mpr (by decide)) (hwf 32 (by decide)) dX8_wordAt_78 ?_
          refine lv_aload_n hx hb dX8_wordAt_79 rfl (lv_at hl 3 rfl) ?_
          refine va_get (D := D) (ci := 8) (v := .ref (y 1)) (C := RX8) (T := TX8) (N := 52) hx hb hts w_1 hown hK hP 0 rfl rfl 0 (by decide) w_3 (fun _ h9 => h9) rfl dX8_wordAt_80 ?_
          refine lv_iload_n hx hb dX8_wordAt_83 rfl (lv_at hl 4 rfl) ?_
          refine lv_iload hx hb dX8_wordAt_84 (lv_at hl 0 rfl) ?_
          refine sv_iadd (v := a + 2) hx hb dX8_wordAt_86 rfl ?_
          refine lv_topi (fun v_17 ev_17 => ?_)
          refine sv_iald (v := m_tape v_17.toNatClampNeg) hx hb hK hP 1 1 rfl rfl (by rw [ev_17]; exact wa_in h0 hab hb9 (c_44.trans ev_13) (by decide)) rfl dX8_wordAt_87 ?_
          refine lv_topi (fun v_18 ev_18 => ?_)
          refine lv_icmp_ne (tgt := 95) hx hb dX8_wordAt_88 (by decide) (fun c_88 => ?_) (fun c_88 => ?_)
          ·
            refine lv_iconst (v := 0) hx hb dX8_wordAt_95 (by decide) ?_
            refine lv_istore (lv' := [(6, .int 0), (7, .int 2), (5, .int 5), (0, .ref (y 0)), (1, .int a), (2, .int b), (3, .int 6), (4, .int 30)]) hx hb dX8_wordAt_96 hl (by decide) rfl (fun ls hl => ?_)
            refine lv_iinc (v := 3) (lv' := [(7, .int 3), (6, .int 0), (5, .int 5), (0, .ref (y 0)), (1, .int a), (2, .int b), (3, .int 6), (4, .int 30)]) hx hb dX8_wordAt_98 hl (k := 1) rfl (by decide) (by decide) rfl (fun ls hl => ?_)
            refine lv_goto (tgt := 57) hx hb dX8_wordAt_101 (by decide) ?_
            refine lv_iload hx hb dX8_wordAt_57 (lv_at hl 0 rfl) ?_
            refine lv_iload hx hb dX8_wordAt_59 (lv_at hl 2 rfl) ?_
            refine lv_icmp_ge (tgt := 104) hx hb dX8_wordAt_61 (by decide) (fun h => absurd h (by decide)) (fun _ => ?_)
            refine lv_iload hx hb dX8_wordAt_64 (lv_at hl 1 rfl) ?_
            refine lv_if_eq (tgt := 104) hx hb dX8_wordAt_66 (by decide) (fun _ => ?_) (fun h => absurd (by decide) h)
            refine lv_iload hx hb dX8_wordAt_104 (lv_at hl 1 rfl) ?_
            refine lv_if_eq (tgt := 111) hx hb dX8_wordAt_106 (by decide) (fun _ => ?_) (fun h => absurd (by decide) h)
            refine lv_iload hx hb dX8_wordAt_111 (lv_at hl 7 rfl) ?_
            refine lv_iload hx hb dX8_wordAt_113 (lv_at hl 2 rfl) ?_
            refine lv_iconst (v := 1) hx hb dX8_wordAt_115 (by decide) ?_
            refine sv_iadd (v := 6) hx hb dX8_wordAt_116 (by decide) ?_
            refine sv_iadd (v := 36) hx hb dX8_wordAt_117 (by decide) ?_
            refine lv_istore (lv' := [(4, .int 36), (7, .int 3), (6, .int 0), (5, .int 5), (0, .ref (y 0)), (1, .int a), (2, .int b), (3, .int 6)]) hx hb dX8_wordAt_118 hl (by decide) rfl (fun ls hl => ?_)
            refine lv_iinc (v := 7) (lv' := [(3, .int 7), (4, .int 36), (7, .int 3), (6, .int 0), (5, .int 5), (0, .ref (y 0)), (1, .int a), (2, .int b)]) hx hb dX8_wordAt_120 hl (k := 7) rfl (by decide) (by decide) rfl (fun ls hl => ?_)
            refine lv_goto (tgt := 5) hx hb dX8_wordAt_123 (by decide) ?_
            exact J_7_36 ls (lv_sub hl [5, 6, 7, 0, 1] rfl)
          ·
            refine lv_iconst (v := 1) hx hb dX8_wordAt_91 (by decide) ?_
            refine lv_goto (tgt := 96) hx hb dX8_wordAt_92 (by decide) ?_
            refine lv_istore (lv' := [(6, .int 1), (7, .int 2), (5, .int 5), (0, .ref (y 0)), (1, .int a), (2, .int b), (3, .int 6), (4, .int 30)]) hx hb dX8_wordAt_96 hl (by decide) rfl (fun ls hl => ?_)
            refine lv_iinc (v := 3) (lv' := [(7, .int 3), (6, .int 1), (5, .int 5), (0, .ref (y 0)), (1, .int a), (2, .int b), (3, .int 6), (4, .int 30)]) hx hb dX8_wordAt_98 hl (k := 1) rfl (by decide) (by decide) rfl (fun ls hl => ?_)
            refine lv_goto (tgt := 57) hx hb dX8_wordAt_101 (by decide) ?_
            refine lv_iload hx hb dX8_wordAt_57 (lv_at hl 0 rfl) ?_
            refine lv_iload hx hb dX8_wordAt_59 (lv_at hl 2 rfl) ?_
            refine lv_icmp_ge (tgt := 104) hx hb dX8_wordAt_61 (by decide) (fun h => absurd h (by decide)) (fun _ => ?_)
            refine lv_iload hx hb dX8_wordAt_64 (lv_at hl 1 rfl) ?_
            refine lv_if_eq (tgt := 104) hx hb dX8_wordAt_66 (by decide) (fun h => absurd h (by decide)) (fun _ => ?_)
            refine lv_aload_n hx hb dX8_wordAt_69 rfl (lv_at hl 3 rfl) ?_
            refine va_get (D := D) (ci := 8) (v := .ref (y 17)) (C := RX8) (T := TX8) (N := 52) hx hb hts w_1 hown hK hP 0 rfl rfl 34 (by decide) w_2 (fun _ h9 => h9) rfl dX8_wordAt_70 ?_
            refine lv_iload hx hb dX8_wordAt_73 (lv_at hl 7 rfl) ?_
            refine lv_iload hx hb dX8_wordAt_75 (lv_at hl 0 rfl) ?_
            refine sv_iadd (v := 33) hx hb dX8_wordAt_77 (by decide) ?_
            refine sv_iald (v := 114) hx hb hK hP 2 1 rfl rfl (vp_in_iff.mpr (by decide)) (hwf 33 (by decide)) dX8_wordAt_78 ?_
            refine lv_aload_n hx hb dX8_wordAt_79 rfl (lv_at hl 3 rfl) ?_
            refine va_get (D := D) (ci := 8) (v := .ref (y 1)) (C := RX8) (T := TX8) (N := 52) hx hb hts w_1 hown hK hP 0 rfl rfl 0 (by decide) w_3 (fun _ h9 => h9) rfl dX8_wordAt_80 ?_
            refine lv_iload_n hx hb dX8_wordAt_83 rfl (lv_at hl 4 rfl) ?_
            refine lv_iload hx hb dX8_wordAt_84 (lv_at hl 0 rfl) ?_
            refine sv_iadd (v := a + 3) hx hb dX8_wordAt_86 rfl ?_
            refine lv_topi (fun v_19 ev_19 => ?_)
            refine sv_iald (v := m_tape v_19.toNatClampNeg) hx hb hK hP 1 1 rfl rfl (by rw [ev_19]; exact wa_in h0 hab hb9 (c_44.trans ev_13) (by decide)) rfl dX8_wordAt_87 ?_
            refine lv_topi (fun v_20 ev_20 => ?_)
            refine lv_icmp_ne (tgt := 95) hx hb dX8_wordAt_88 (by decide) (fun c_88 => ?_) (fun c_88 => ?_)
            ·
              refine lv_iconst (v := 0) hx hb dX8_wordAt_95 (by decide) ?_
              refine lv_istore (lv' := [(6, .int 0), (7, .int 3), (5, .int 5), (0, .ref (y 0)), (1, .int a), (2, .int b), (3, .int 6), (4, .int 30)]) hx hb dX8_wordAt_96 hl (by decide) rfl (fun ls hl => ?_)
              refine lv_iinc (v := 4) (lv' := [(7, .int 4), (6, .int 0), (5, .int 5), (0, .ref (y 0)), (1, .int a), (2, .int b), (3, .int 6), (4, .int 30)]) hx hb dX8_wordAt_98 hl (k := 1) rfl (by decide) (by decide) rfl (fun ls hl => ?_)
              refine lv_goto (tgt := 57) hx hb dX8_wordAt_101 (by decide) ?_
              refine lv_iload hx hb dX8_wordAt_57 (lv_at hl 0 rfl) ?_
              refine lv_iload hx hb dX8_wordAt_59 (lv_at hl 2 rfl) ?_
              refine lv_icmp_ge (tgt := 104) hx hb dX8_wordAt_61 (by decide) (fun h => absurd h (by decide)) (fun _ => ?_)
              refine lv_iload hx hb dX8_wordAt_64 (lv_at hl 1 rfl) ?_
              refine lv_if_eq (tgt := 104) hx hb dX8_wordAt_66 (by decide) (fun _ => ?_) (fun h => absurd (by decide) h)
              refine lv_iload hx hb dX8_wordAt_104 (lv_at hl 1 rfl) ?_
              refine lv_if_eq (tgt := 111) hx hb dX8_wordAt_106 (by decide) (fun _ => ?_) (fun h => absurd (by decide) h)
              refine lv_iload hx hb dX8_wordAt_111 (lv_at hl 7 rfl) ?_
              refine lv_iload hx hb dX8_wordAt_113 (lv_at hl 2 rfl) ?_
              refine lv_iconst (v := 1) hx hb dX8_wordAt_115 (by decide) ?_
              refine sv_iadd (v := 6) hx hb dX8_wordAt_116 (by decide) ?_
              refine sv_iadd (v := 36) hx hb dX8_wordAt_117 (by decide) ?_
              refine lv_istore (lv' := [(4, .int 36), (7, .int 4), (6, .int 0), (5, .int 5), (0, .ref (y 0)), (1, .int a), (2, .int b), (3, .int 6)]) hx hb dX8_wordAt_118 hl (by decide) rfl (fun ls hl => ?_)
              refine lv_iinc (v := 7) (lv' := [(3, .int 7), (4, .int 36), (7, .int 4), (6, .int 0), (5, .int 5), (0, .ref (y 0)), (1, .int a), (2, .int b)]) hx hb dX8_wordAt_120 hl (k := 7) rfl (by decide) (by decide) rfl (fun ls hl => ?_)
              refine lv_goto (tgt := 5) hx hb dX8_wordAt_123 (by decide) ?_
              exact J_7_36 ls (lv_sub hl [5, 6, 7, 0, 1] rfl)
            ·
              refine lv_iconst (v := 1) hx hb dX8_wordAt_91 (by decide) ?_
              refine lv_goto (tgt := 96) hx hb dX8_wordAt_92 (by decide) ?_
              refine lv_istore (lv' := [(6, .int 1), (7, .int 3), (5, .int 5), (0, .ref (y 0)), (1, .int a), (2, .int b), (3, .int 6), (4, .int 30)]) hx hb dX8_wordAt_96 hl (by decide) rfl (fun ls hl => ?_)
              refine lv_iinc (v := 4) (lv' := [(7, .int 4), (6, .int 1), (5, .int 5), (0, .ref (y 0)), (1, .int a), (2, .int b), (3, .int 6), (4, .int 30)]) hx hb dX8_wordAt_98 hl (k := 1) rfl (by decide) (by decide) rfl (fun ls hl => ?_)
              refine lv_goto (tgt := 57) hx hb dX8_wordAt_101 (by decide) ?_
              refine lv_iload hx hb dX8_wordAt_57 (lv_at hl 0 rfl) ?_
              refine lv_iload hx hb dX8_wordAt_59 (lv_at hl 2 rfl) ?_
              refine lv_icmp_ge (tgt := 104) hx hb dX8_wordAt_61 (by decide) (fun h => absurd h (by decide)) (fun _ => ?_)
              refine lv_iload hx hb dX8_wordAt_64 (lv_at hl 1 rfl) ?_
              refine lv_if_eq (tgt := 104) hx hb dX8_wordAt_66 (by decide) (fun h => absurd h (by decide)) (fun _ => ?_)
              refine lv_aload_n hx hb dX8_wordAt_69 rfl (lv_at hl 3 rfl) ?_
              refine va_get (D := D) (ci := 8) (v := .ref (y 17)) (C := RX8) (T := TX8) (N := 52) hx hb hts w_1 hown hK hP 0 rfl rfl 34 (by decide) w_2 (fun _ h9 => h9) rfl dX8_wordAt_70 ?_
              refine lv_iload hx hb dX8_wordAt_73 (lv_at hl 7 rfl) ?_
              refine lv_iload hx hb dX8_wordAt_75 (lv_at hl 0 rfl) ?_
              refine sv_iadd (v := 34) hx hb dX8_wordAt_77 (by decide) ?_
              refine sv_iald (v := 101) hx hb hK hP 2 1 rfl rfl (vp_in_iff.mpr (by decide)) (hwf 34 (by decide)) dX8_wordAt_78 ?_
              refine lv_aload_n hx hb dX8_wordAt_79 rfl (lv_at hl 3 rfl) ?_
              refine va_get (D := D) (ci := 8) (v := .ref (y 1)) (C := RX8) (T := TX8) (N := 52) hx hb hts w_1 hown hK hP 0 rfl rfl 0 (by decide) w_3 (fun _ h9 => h9) rfl dX8_wordAt_80 ?_
              refine lv_iload_n hx hb dX8_wordAt_83 rfl (lv_at hl 4 rfl) ?_
              refine lv_iload hx hb dX8_wordAt_84 (lv_at hl 0 rfl) ?_
              refine sv_iadd (v := a + 4) hx hb dX8_wordAt_86 rfl ?_
              refine lv_topi (fun v_21 ev_21 => ?_)
              refine sv_iald (v := m_tape v_21.toNatClampNeg) hx hb hK hP 1 1 rfl rfl (by rw [ev_21]; exact wa_in h0 hab hb9 (c_44.trans ev_13) (by decide)) rfl dX8_wordAt_87 ?_
              refine lv_topi (fun v_22 ev_22 => ?_)
              refine lv_icmp_ne (tgt := 95) hx hb dX8_wordAt_88 (by decide) (fun c_88 => ?_) (fun c_88 => ?_)
              ·
                refine lv_iconst (v := 0) hx hb dX8_wordAt_95 (by decide) ?_
                refine lv_istore (lv' := [(6, .int 0), (7, .int 4), (5, .int 5), (0, .ref (y 0)), (1, .int a), (2, .int b), (3, .int 6), (4, .int 30)]) hx hb dX8_wordAt_96 hl (by decide) rfl (fun ls hl => ?_)
                refine lv_iinc (v := 5) (lv' := [(7, .int 5), (6, .int 0), (5, .int 5), (0, .ref (y 0)), (1, .int a), (2, .int b), (3, .int 6), (4, .int 30)]) hx hb dX8_wordAt_98 hl (k := 1) rfl (by decide) (by decide) rfl (fun ls hl => ?_)
                refine lv_goto (tgt := 57) hx hb dX8_wordAt_101 (by decide) ?_
                refine lv_iload hx hb dX8_wordAt_57 (lv_at hl 0 rfl) ?_
                refine lv_iload hx hb dX8_wordAt_59 (lv_at hl 2 rfl) ?_
                refine lv_icmp_ge (tgt := 104) hx hb dX8_wordAt_61 (by decide) (fun _ => ?_) (fun h => absurd (by decide) h)
                refine lv_iload hx hb dX8_wordAt_104 (lv_at hl 1 rfl) ?_
                refine lv_if_eq (tgt := 111) hx hb dX8_wordAt_106 (by decide) (fun _ => ?_) (fun h => absurd (by decide) h)
                refine lv_iload hx hb dX8_wordAt_111 (lv_at hl 7 rfl) ?_
                refine lv_iload hx hb dX8_wordAt_113 (lv_at hl 2 rfl) ?_
                refine lv_iconst (v := 1) hx hb dX8_wordAt_115 (by decide) ?_
                refine sv_iadd (v := 6) hx hb dX8_wordAt_116 (by decide) ?_
                refine sv_iadd (v := 36) hx hb dX8_wordAt_117 (by decide) ?_
                refine lv_istore (lv' := [(4, .int 36), (7, .int 5), (6, .int 0), (5, .int 5), (0, .ref (y 0)), (1, .int a), (2, .int b), (3, .int 6)]) hx hb dX8_wordAt_118 hl (by decide) rfl (fun ls hl => ?_)
                refine lv_iinc (v := 7) (lv' := [(3, .int 7), (4, .int 36), (7, .int 5), (6, .int 0), (5, .int 5), (0, .ref (y 0)), (1, .int a), (2, .int b)]) hx hb dX8_wordAt_120 hl (k := 7) rfl (by decide) (by decide) rfl (fun ls hl => ?_)
                refine lv_goto (tgt := 5) hx hb dX8_wordAt_123 (by decide) ?_
                exact J_7_36 ls (lv_sub hl [5, 6, 7, 0, 1] rfl)
              ·
                refine lv_iconst (v := 1) hx hb dX8_wordAt_91 (by decide) ?_
                refine lv_goto (tgt := 96) hx hb dX8_wordAt_92 (by decide) ?_
                refine lv_istore (lv' := [(6, .int 1), (7, .int 4), (5, .int 5), (0, .ref (y 0)), (1, .int a), (2, .int b), (3, .int 6), (4, .int 30)]) hx hb dX8_wordAt_96 hl (by decide) rfl (fun ls hl => ?_)
                refine lv_iinc (v := 5) (lv' := [(7, .int 5), (6, .int 1), (5, .int 5), (0, .ref (y 0)), (1, .int a), (2, .int b), (3, .int 6), (4, .int 30)]) hx hb dX8_wordAt_98 hl (k := 1) rfl (by decide) (by decide) rfl (fun ls hl => ?_)
                refine lv_goto (tgt := 57) hx hb dX8_wordAt_101 (by decide) ?_
                refine lv_iload hx hb dX8_wordAt_57 (lv_at hl 0 rfl) ?_
                refine lv_iload hx hb dX8_wordAt_59 (lv_at hl 2 rfl) ?_
                refine lv_icmp_ge (tgt := 104) hx hb dX8_wordAt_61 (by decide) (fun _ => ?_) (fun h => absurd (by decide) h)
                refine lv_iload hx hb dX8_wordAt_104 (lv_at hl 1 rfl) ?_
                refine lv_if_eq (tgt := 111) hx hb dX8_wordAt_106 (by decide) (fun h => absurd h (by decide)) (fun _ => ?_)
                refine lv_iload_n hx hb dX8_wordAt_109 rfl (lv_at hl 6 rfl) ?_
                rw [← hQ]
                exact W.iret (v := 6) hx hb hr (fun t ht hW => ⟨_, rfl, Or.inr (vp_in_iff.mpr (by decide)), ht⟩) (fun q h => nomatch h) dX8_wordAt_110
  have J_5_25 : ∀ (ls : Array Slot), lv_has ls 8 [(0, .ref (y 0)), (1, .int a), (2, .int b), (3, .int 5), (4, .int 25)] → W p l e (headSpec wsX8_wordAt ({ frames := 0, cells := 0, slots := 0, locals := 0 } : Room)).room s m ([.ref (y 0), .int a, .int b] : List Value).toArray below meth c s.heap [] 0 0 Q0 (F0 m 5 ls []) := by
    intro ls hl
    refine lv_iload hx hb dX8_wordAt_5 (lv_at hl 4 rfl) ?_
    refine lv_aload_n hx hb dX8_wordAt_7 rfl (lv_at hl 0 rfl) ?_
    refine va_get (D := D) (ci := 8) (v := .ref (y 17)) (C := RX8) (T := TX8) (N := 52) hx hb hts w_1 hown hK hP 0 rfl rfl 34 (by decide) w_2 (fun _ h9 => h9) rfl dX8_wordAt_8 ?_
    refine va_alen (v := 43) hx hb hK hP 2 1 rfl rfl rfl dX8_wordAt_11 ?_
    refine lv_icmp_ge (tgt := 126) hx hb dX8_wordAt_12 (by decide) (fun h => absurd h (by decide)) (fun _ => ?_)
    refine lv_iconst (v := 0) hx hb dX8_wordAt_15 (by decide) ?_
    refine lv_istore (lv' := [(5, .int 0), (0, .ref (y 0)), (1, .int a), (2, .int b), (3, .int 5), (4, .int 25)]) hx hb dX8_wordAt_16 hl (by decide) rfl (fun ls hl => ?_)
    refine lv_aload_n hx hb dX8_wordAt_18 rfl (lv_at hl 1 rfl) ?_
    refine va_get (D := D) (ci := 8) (v := .ref (y 17)) (C := RX8) (T := TX8) (N := 52) hx hb hts w_1 hown hK hP 0 rfl rfl 34 (by decide) w_2 (fun _ h9 => h9) rfl dX8_wordAt_19 ?_
    refine lv_iload hx hb dX8_wordAt_22 (lv_at hl 5 rfl) ?_
    refine lv_iload hx hb dX8_wordAt_24 (lv_at hl 0 rfl) ?_
    refine sv_iadd (v := 25) hx hb dX8_wordAt_26 (by decide) ?_
    refine sv_iald (v := 119) hx hb hK hP 2 1 rfl rfl (vp_in_iff.mpr (by decide)) (hwf 25 (by decide)) dX8_wordAt_27 ?_
    refine lv_bipush (v := 32) hx hb dX8_wordAt_28 (by decide) ?_
    refine lv_icmp_eq (tgt := 39) hx hb dX8_wordAt_30 (by decide) (fun h => absurd h (by decide)) (fun _ => ?_)
    refine lv_iinc (v := 1) (lv' := [(5, .int 1), (0, .ref (y 0)), (1, .int a), (2, .int b), (3, .int 5), (4, .int 25)]) hx hb dX8_wordAt_33 hl (k := 0) rfl (by decide) (by decide) rfl (fun ls hl => ?_)
    refine lv_goto (tgt := 18) hx hb dX8_wordAt_36 (by decide) ?_
    refine lv_aload_n hx hb dX8_wordAt_18 rfl (lv_at hl 1 rfl) ?_
    refine va_get (D := D) (ci := 8) (v := .ref (y 17)) (C := RX8) (T := TX8) (N := 52) hx hb hts w_1 hown hK hP 0 rfl rfl 34 (by decide) w_2 (fun _ h9 => h9) rfl dX8_wordAt_19 ?_
    refine lv_iload hx hb dX8_wordAt_22 (lv_at hl 5 rfl) ?_
    refine lv_iload hx hb dX8_wordAt_24 (lv_at hl 0 rfl) ?_
    refine sv_iadd (v := 26) hx hb dX8_wordAt_26 (by decide) ?_
    refine sv_iald (v := 101) hx hb hK hP 2 1 rfl rfl (vp_in_iff.mpr (by decide)) (hwf 26 (by decide)) dX8_wordAt_27 ?_
    refine lv_bipush (v := 32) hx hb dX8_wordAt_28 (by decide) ?_
    refine lv_icmp_eq (tgt := 39) hx hb dX8_wordAt_30 (by decide) (fun h => absurd h (by decide)) (fun _ => ?_)
    refine lv_iinc (v := 2) (lv' := [(5, .int 2), (0, .ref (y 0)), (1, .int a), (2, .int b), (3, .int 5), (4, .int 25)]) hx hb dX8_wordAt_33 hl (k := 0) rfl (by decide) (by decide) rfl (fun ls hl => ?_)
    refine lv_goto (tgt := 18) hx hb dX8_wordAt_36 (by decide) ?_
    refine lv_aload_n hx hb dX8_wordAt_18 rfl (lv_at hl 1 rfl) ?_
    refine va_get (D := D) (ci := 8) (v := .ref (y 17)) (C := RX8) (T := TX8) (N := 52) hx hb hts w_1 hown hK hP 0 rfl rfl 34 (by decide) w_2 (fun _ h9 => h9) rfl dX8_wordAt_19 ?_
    refine lv_iload hx hb dX8_wordAt_22 (lv_at hl 5 rfl) ?_
    refine lv_iload hx hb dX8_wordAt_24 (lv_at hl 0 rfl) ?_
    refine sv_iadd (v := 27) hx hb dX8_wordAt_26 (by decide) ?_
    refine sv_iald (v := 97) hx hb hK hP 2 1 rfl rfl (vp_in_iff.mpr (by decide)) (hwf 27 (by decide)) dX8_wordAt_27 ?_
    refine lv_bipush (v := 32) hx hb dX8_wordAt_28 (by decide) ?_
    refine lv_icmp_eq (tgt := 39) hx hb dX8_wordAt_30 (by decide) (fun h => absurd h (by decide)) (fun _ => ?_)
    refine lv_iinc (v := 3) (lv' := [(5, .int 3), (0, .ref (y 0)), (1, .int a), (2, .int b), (3, .int 5), (4, .int 25)]) hx hb dX8_wordAt_33 hl (k := 0) rfl (by decide) (by decide) rfl (fun ls hl => ?_)
    refine lv_goto (tgt := 18) hx hb dX8_wordAt_36 (by decide) ?_
    refine lv_aload_n hx hb dX8_wordAt_18 rfl (lv_at hl 1 rfl) ?_
    refine va_get (D := D) (ci := 8) (v := .ref (y 17)) (C := RX8) (T := TX8) (N := 52) hx hb hts w_1 hown hK hP 0 rfl rfl 34 (by decide) w_2 (fun _ h9 => h9) rfl dX8_wordAt_19 ?_
    refine lv_iload hx hb dX8_wordAt_22 (lv_at hl 5 rfl) ?_
    refine lv_iload hx hb dX8_wordAt_24 (lv_at hl 0 rfl) ?_
    refine sv_iadd (v := 28) hx hb dX8_wordAt_26 (by decide) ?_
    refine sv_iald (v := 114) hx hb hK hP 2 1 rfl rfl (vp_in_iff.mpr (by decide)) (hwf 28 (by decide)) dX8_wordAt_27 ?_
    refine lv_bipush (v := 32) hx hb dX8_wordAt_28 (by decide) ?_
    refine lv_icmp_eq (tgt := 39) hx hb dX8_wordAt_30 (by decide) (fun h => absurd h (by decide)) (fun _ => ?_)
    refine lv_iinc (v := 4) (lv' := [(5, .int 4), (0, .ref (y 0)), (1, .int a), (2, .int b), (3, .int 5), (4, .int 25)]) hx hb dX8_wordAt_33 hl (k := 0) rfl (by decide) (by decide) rfl (fun ls hl => ?_)
    refine lv_goto (tgt := 18) hx hb dX8_wordAt_36 (by decide) ?_
    refine lv_aload_n hx hb dX8_wordAt_18 rfl (lv_at hl 1 rfl) ?_
    refine va_get (D := D) (ci := 8) (v := .ref (y 17)) (C := RX8) (T := TX8) (N := 52) hx hb hts w_1 hown hK hP 0 rfl rfl 34 (by decide) w_2 (fun _ h9 => h9) rfl dX8_wordAt_19 ?_
    refine lv_iload hx hb dX8_wordAt_22 (lv_at hl 5 rfl) ?_
    refine lv_iload hx hb dX8_wordAt_24 (lv_at hl 0 rfl) ?_
    refine sv_iadd (v := 29) hx hb dX8_wordAt_26 (by decide) ?_
    refine sv_iald (v := 32) hx hb hK hP 2 1 rfl rfl (vp_in_iff.mpr (by decide)) (hwf 29 (by decide)) dX8_wordAt_27 ?_
    refine lv_bipush (v := 32) hx hb dX8_wordAt_28 (by decide) ?_
    refine lv_icmp_eq (tgt := 39) hx hb dX8_wordAt_30 (by decide) (fun _ => ?_) (fun h => absurd (by decide) h)
    refine lv_iload hx hb dX8_wordAt_39 (lv_at hl 0 rfl) ?_
    refine lv_iload_n hx hb dX8_wordAt_41 rfl (lv_at hl 3 rfl) ?_
    refine lv_iload_n hx hb dX8_wordAt_42 rfl (lv_at hl 2 rfl) ?_
    refine sv_isub (v := b - a) hx hb dX8_wordAt_43 rfl ?_
    refine lv_topi (fun v_23 ev_23 => ?_)
    refine lv_icmp_ne (tgt := 51) hx hb dX8_wordAt_44 (by decide) (fun c_44 => ?_) (fun c_44 => ?_)
    ·
      refine lv_iconst (v := 0) hx hb dX8_wordAt_51 (by decide) ?_
      refine lv_istore (lv' := [(6, .int 0), (5, .int 4), (0, .ref (y 0)), (1, .int a), (2, .int b), (3, .int 5), (4, .int 25)]) hx hb dX8_wordAt_52 hl (by decide) rfl (fun ls hl => ?_)
      refine lv_iconst (v := 0) hx hb dX8_wordAt_54 (by decide) ?_
      refine lv_istore (lv' := [(7, .int 0), (6, .int 0), (5, .int 4), (0, .ref (y 0)), (1, .int a), (2, .int b), (3, .int 5), (4, .int 25)]) hx hb dX8_wordAt_55 hl (by decide) rfl (fun ls hl => ?_)
      refine lv_iload hx hb dX8_wordAt_57 (lv_at hl 0 rfl) ?_
      refine lv_iload hx hb dX8_wordAt_59 (lv_at hl 2 rfl) ?_
      refine lv_icmp_ge (tgt := 104) hx hb dX8_wordAt_61 (by decide) (fun h => absurd h (by decide)) (fun _ => ?_)
      refine lv_iload hx hb dX8_wordAt_64 (lv_at hl 1 rfl) ?_
      refine lv_if_eq (tgt := 104) hx hb dX8_wordAt_66 (by decide) (fun _ => ?_) (fun h => absurd (by decide) h)
      refine lv_iload hx hb dX8_wordAt_104 (lv_at hl 1 rfl) ?_
      refine lv_if_eq (tgt := 111) hx hb dX8_wordAt_106 (by decide) (fun _ => ?_) (fun h => absurd (by decide) h)
      refine lv_iload hx hb dX8_wordAt_111 (lv_at hl 7 rfl) ?_
      refine lv_iload hx hb dX8_wordAt_113 (lv_at hl 2 rfl) ?_
      refine lv_iconst (v := 1) hx hb dX8_wordAt_115 (by decide) ?_
      refine sv_iadd (v := 5) hx hb dX8_wordAt_116 (by decide) ?_
      refine sv_iadd (v := 30) hx hb dX8_wordAt_117 (by decide) ?_
      refine lv_istore (lv' := [(4, .int 30), (7, .int 0), (6, .int 0), (5, .int 4), (0, .ref (y 0)), (1, .int a), (2, .int b), (3, .int 5)]) hx hb dX8_wordAt_118 hl (by decide) rfl (fun ls hl => ?_)
      refine lv_iinc (v := 6) (lv' := [(3, .int 6), (4, .int 30), (7, .int 0), (6, .int 0), (5, .int 4), (0, .ref (y 0)), (1, .int a), (2, .int b)]) hx hb dX8_wordAt_120 hl (k := 7) rfl (by decide) (by decide) rfl (fun ls hl => ?_)
      refine lv_goto (tgt := 5) hx hb dX8_wordAt_123 (by decide) ?_
      exact J_6_30 ls (lv_sub hl [5, 6, 7, 0, 1] rfl)
    ·
      refine lv_iconst (v := 1) hx hb dX8_wordAt_47 (by decide) ?_
      refine lv_goto (tgt := 52) hx hb dX8_wordAt_48 (by decide) ?_
      refine lv_istore (lv' := [(6, .int 1), (5, .int 4), (0, .ref (y 0)), (1, .int a), (2, .int b), (3, .int 5), (4, .int 25)]) hx hb dX8_wordAt_52 hl (by decide) rfl (fun ls hl => ?_)
      refine lv_iconst (v := 0) hx hb dX8_wordAt_54 (by decide) ?_
      refine lv_istore (lv' := [(7, .int 0), (6, .int 1), (5, .int 4), (0, .ref (y 0)), (1, .int a), (2, .int b), (3, .int 5), (4, .int 25)]) hx hb dX8_wordAt_55 hl (by decide) rfl (fun ls hl => ?_)
      refine lv_iload hx hb dX8_wordAt_57 (lv_at hl 0 rfl) ?_
      refine lv_iload hx hb dX8_wordAt_59 (lv_at hl 2 rfl) ?_
      refine lv_icmp_ge (tgt := 104) hx hb dX8_wordAt_61 (by decide) (fun h => absurd h (by decide)) (fun _ => ?_)
      refine lv_iload hx hb dX8_wordAt_64 (lv_at hl 1 rfl) ?_
      refine lv_if_eq (tgt := 104) hx hb dX8_wordAt_66 (by decide) (fun h => absurd h (by decide)) (fun _ => ?_)
      refine lv_aload_n hx hb dX8_wordAt_69 rfl (lv_at hl 3 rfl) ?_
      refine va_get (D := D) (ci := 8) (v := .ref (y 17)) (C := RX8) (T := TX8) (N := 52) hx hb hts w_1 hown hK hP 0 rfl rfl 34 (by decide) w_2 (fun _ h9 => h9) rfl dX8_wordAt_70 ?_
      refine lv_iload hx hb dX8_wordAt_73 (lv_at hl 7 rfl) ?_
      refine lv_iload hx hb dX8_wordAt_75 (lv_at hl 0 rfl) ?_
      refine sv_iadd (v := 25) hx hb dX8_wordAt_77 (by decide) ?_
      refine sv_iald (v := 119) hx hb hK hP 2 1 rfl rfl (vp_in_iff.mpr (by decide)) (hwf 25 (by decide)) dX8_wordAt_78 ?_
      refine lv_aload_n hx hb dX8_wordAt_79 rfl (lv_at hl 3 rfl) ?_
      refine va_get (D := D) (ci := 8) (v := .ref (y 1)) (C := RX8) (T := TX8) (N := 52) hx hb hts w_1 hown hK hP 0 rfl rfl 0 (by decide) w_3 (fun _ h9 => h9) rfl dX8_wordAt_80 ?_
      refine lv_iload_n hx hb dX8_wordAt_83 rfl (lv_at hl 4 rfl) ?_
      refine lv_iload hx hb dX8_wordAt_84 (lv_at hl 0 rfl) ?_
      refine sv_iadd (v := a + 0) hx hb dX8_wordAt_86 rfl ?_
      refine lv_topi (fun v_24 ev_24 => ?_)
      refine sv_iald (v := m_tape v_24.toNatClampNeg) hx hb hK hP 1 1 rfl rfl (by rw [ev_24]; exact wa_in h0 hab hb9 (c_44.trans ev_23) (by decide)) rfl dX8_wordAt_87 ?_
      refine lv_topi (fun v_25 ev_25 => ?_)
      refine lv_icmp_ne (tgt := 95) hx hb dX8_wordAt_88 (by decide) (fun c_88 => ?_) (fun c_88 => ?_)
      ·
        refine lv_iconst (v := 0) hx hb dX8_wordAt_95 (by decide) ?_
        refine lv_istore (lv' := [(6, .int 0), (7, .int 0), (5, .int 4), (0, .ref (y 0)), (1, .int a), (2, .int b), (3, .int 5), (4, .int 25)]) hx hb dX8_wordAt_96 hl (by decide) rfl (fun ls hl => ?_)
        refine lv_iinc (v := 1) (lv' := [(7, .int 1), (6, .int 0), (5, .int 4), (0, .ref (y 0)), (1, .int a), (2, .int b), (3, .int 5), (4, .int 25)]) hx hb dX8_wordAt_98 hl (k := 1) rfl (by decide) (by decide) rfl (fun ls hl => ?_)
        refine lv_goto (tgt := 57) hx hb dX8_wordAt_101 (by decide) ?_
        refine lv_iload hx hb dX8_wordAt_57 (lv_at hl 0 rfl) ?_
        refine lv_iload hx hb dX8_wordAt_59 (lv_at hl 2 rfl) ?_
        refine lv_icmp_ge (tgt := 104) hx hb dX8_wordAt_61 (by decide) (fun h => absurd h (by decide)) (fun _ => ?_)
        refine lv_iload hx hb dX8_wordAt_64 (lv_at hl 1 rfl) ?_
        refine lv_if_eq (tgt := 104) hx hb dX8_wordAt_66 (by decide) (fun _ => ?_) (fun h => absurd (by decide) h)
        refine lv_iload hx hb dX8_wordAt_104 (lv_at hl 1 rfl) ?_
        refine lv_if_eq (tgt := 111) hx hb dX8_wordAt_106 (by decide) (fun _ => ?_) (fun h => absurd (by decide) h)
        refine lv_iload hx hb dX8_wordAt_111 (lv_at hl 7 rfl) ?_
        refine lv_iload hx hb dX8_wordAt_113 (lv_at hl 2 rfl) ?_
        refine lv_iconst (v := 1) hx hb dX8_wordAt_115 (by decide) ?_
        refine sv_iadd (v := 5) hx hb dX8_wordAt_116 (by decide) ?_
        refine sv_iadd (v := 30) hx hb dX8_wordAt_117 (by decide) ?_
        refine lv_istore (lv' := [(4, .int 30), (7, .int 1), (6, .int 0), (5, .int 4), (0, .ref (y 0)), (1, .int a), (2, .int b), (3, .int 5)]) hx hb dX8_wordAt_118 hl (by decide) rfl (fun ls hl => ?_)
        refine lv_iinc (v := 6) (lv' := [(3, .int 6), (4, .int 30), (7, .int 1), (6, .int 0), (5, .int 4), (0, .ref (y 0)), (1, .int a), (2, .int b)]) hx hb dX8_wordAt_120 hl (k := 7) rfl (by decide) (by decide) rfl (fun ls hl => ?_)
        refine lv_goto (tgt := 5) hx hb dX8_wordAt_123 (by decide) ?_
        exact J_6_30 ls (lv_sub hl [5, 6, 7, 0, 1] rfl)
      ·
        refine lv_iconst (v := 1) hx hb dX8_wordAt_91 (by decide) ?_
        refine lv_goto (tgt := 96) hx hb dX8_wordAt_92 (by decide) ?_
        refine lv_istore (lv' := [(6, .int 1), (7, .int 0), (5, .int 4), (0, .ref (y 0)), (1, .int a), (2, .int b), (3, .int 5), (4, .int 25)]) hx hb dX8_wordAt_96 hl (by decide) rfl (fun ls hl => ?_)
        refine lv_iinc (v := 1) (lv' := [(7, .int 1), (6, .int 1), (5, .int 4), (0, .ref (y 0)), (1, .int a), (2, .int b), (3, .int 5), (4, .int 25)]) hx hb dX8_wordAt_98 hl (k := 1) rfl (by decide) (by decide) rfl (fun ls hl => ?_)
        refine lv_goto (tgt := 57) hx hb dX8_wordAt_101 (by decide) ?_
        refine lv_iload hx hb dX8_wordAt_57 (lv_at hl 0 rfl) ?_
        refine lv_iload hx hb dX8_wordAt_59 (lv_at hl 2 rfl) ?_
        refine lv_icmp_ge (tgt := 104) hx hb dX8_wordAt_61 (by decide) (fun h => absurd h (by decide)) (fun _ => ?_)
        refine lv_iload hx hb dX8_wordAt_64 (lv_at hl 1 rfl) ?_
        refine lv_if_eq (tgt := 104) hx hb dX8_wordAt_66 (by decide) (fun h => absurd h (by decide)) (fun _ => ?_)
        refine lv_aload_n hx hb dX8_wordAt_69 rfl (lv_at hl 3 rfl) ?_
        refine va_get (D := D) (ci := 8) (v := .ref (y 17)) (C := RX8) (T := TX8) (N := 52) hx hb hts w_1 hown hK hP 0 rfl rfl 34 (by decide) w_2 (fun _ h9 => h9) rfl dX8_wordAt_70 ?_
        refine lv_iload hx hb dX8_wordAt_73 (lv_at hl 7 rfl) ?_
        refine lv_iload hx hb dX8_wordAt_75 (lv_at hl 0 rfl) ?_
        refine sv_iadd (v := 26) hx hb dX8_wordAt_77 (by decide) ?_
        refine sv_iald (v := 101) hx hb hK hP 2 1 rfl rfl (vp_in_iff.mpr (by decide)) (hwf 26 (by decide)) dX8_wordAt_78 ?_
        refine lv_aload_n hx hb dX8_wordAt_79 rfl (lv_at hl 3 rfl) ?_
        refine va_get (D := D) (ci := 8) (v := .ref (y 1)) (C := RX8) (T := TX8) (N := 52) hx hb hts w_1 hown hK hP 0 rfl rfl 0 (by decide) w_3 (fun _ h9 => h9) rfl dX8_wordAt_80 ?_
        refine lv_iload_n hx hb dX8_wordAt_83 rfl (lv_at hl 4 rfl) ?_
        refine lv_iload hx hb dX8_wordAt_84 (lv_at hl 0 rfl) ?_
        refine sv_iadd (v := a + 1) hx hb dX8_wordAt_86 rfl ?_
        refine sv_iald (v := m_tape (a + 1).toNatClampNeg) hx hb hK hP 1 1 rfl rfl (wa_in h0 hab hb9 (c_44.trans ev_23) (by decide)) rfl dX8_wordAt_87 ?_
        refine lv_topi (fun v_26 ev_26 => ?_)
        refine lv_icmp_ne (tgt := 95) hx hb dX8_wordAt_88 (by decide) (fun c_88 => ?_) (fun c_88 => ?_)
        ·
          refine lv_iconst (v := 0) hx hb dX8_wordAt_95 (by decide) ?_
          refine lv_istore (lv' := [(6, .int 0), (7, .int 1), (5, .int 4), (0, .ref (y 0)), (1, .int a), (2, .int b), (3, .int 5), (4, .int 25)]) hx hb dX8_wordAt_96 hl (by decide) rfl (fun ls hl => ?_)
          refine lv_iinc (v := 2) (lv' := [(7, .int 2), (6, .int 0), (5, .int 4), (0, .ref (y 0)), (1, .int a), (2, .int b), (3, .int 5), (4, .int 25)]) hx hb dX8_wordAt_98 hl (k := 1) rfl (by decide) (by decide) rfl (fun ls hl => ?_)
          refine lv_goto (tgt := 57) hx hb dX8_wordAt_101 (by decide) ?_
          refine lv_iload hx hb dX8_wordAt_57 (lv_at hl 0 rfl) ?_
          refine lv_iload hx hb dX8_wordAt_59 (lv_at hl 2 rfl) ?_
          refine lv_icmp_ge (tgt := 104) hx hb dX8_wordAt_61 (by decide) (fun h => absurd h (by decide)) (fun _ => ?_)
          refine lv_iload hx hb dX8_wordAt_64 (lv_at hl 1 rfl) ?_
          refine lv_if_eq (tgt := 104) hx hb dX8_wordAt_66 (by decide) (fun _ => ?_) (fun h => absurd (by decide) h)
          refine lv_iload hx hb dX8_wordAt_104 (lv_at hl 1 rfl) ?_
          refine lv_if_eq (tgt := 111) hx hb dX8_wordAt_106 (by decide) (fun _ => ?_) (fun h => absurd (by decide) h)
          refine lv_iload hx hb dX8_wordAt_111 (lv_at hl 7 rfl) ?_
          refine lv_iload hx hb dX8_wordAt_113 (lv_at hl 2 rfl) ?_
          refine lv_iconst (v := 1) hx hb dX8_wordAt_115 (by decide) ?_
          refine sv_iadd (v := 5) hx hb dX8_wordAt_116 (by decide) ?_
          refine sv_iadd (v := 30) hx hb dX8_wordAt_117 (by decide) ?_
          refine lv_istore (lv' := [(4, .int 30), (7, .int 2), (6, .int 0), (5, .int 4), (0, .ref (y 0)), (1, .int a), (2, .int b), (3, .int 5)]) hx hb dX8_wordAt_118 hl (by decide) rfl (fun ls hl => ?_)
          refine lv_iinc (v := 6) (lv' := [(3, .int 6), (4, .int 30), (7, .int 2), (6, .int 0), (5, .int 4), (0, .ref (y 0)), (1, .int a), (2, .int b)]) hx hb dX8_wordAt_120 hl (k := 7) rfl (by decide) (by decide) rfl (fun ls hl => ?_)
          refine lv_goto (tgt := 5) hx hb dX8_wordAt_123 (by decide) ?_
          exact J_6_30 ls (lv_sub hl [5, 6, 7, 0, 1] rfl)
        ·
          refine lv_iconst (v := 1) hx hb dX8_wordAt_91 (by decide) ?_
          refine lv_goto (tgt := 96) hx hb dX8_wordAt_92 (by decide) ?_
          refine lv_istore (lv' := [(6, .int 1), (7, .int 1), (5, .int 4), (0, .ref (y 0)), (1, .int a), (2, .int b), (3, .int 5), (4, .int 25)]) hx hb dX8_wordAt_96 hl (by decide) rfl (fun ls hl => ?_)
          refine lv_iinc (v := 2) (lv' := [(7, .int 2), (6, .int 1), (5, .int 4), (0, .ref (y 0)), (1, .int a), (2, .int b), (3, .int 5), (4, .int 25)]) hx hb dX8_wordAt_98 hl (k := 1) rfl (by decide) (by decide) rfl (fun ls hl => ?_)
          refine lv_goto (tgt := 57) hx hb dX8_wordAt_101 (by decide) ?_
          refine lv_iload hx hb dX8_wordAt_57 (lv_at hl 0 rfl) ?_
          refine lv_iload hx hb dX8_wordAt_59 (lv_at hl 2 rfl) ?_
          refine lv_icmp_ge (tgt := 104) hx hb dX8_wordAt_61 (by decide) (fun h => absurd h (by decide)) (fun _ => ?_)
          refine lv_iload hx hb dX8_wordAt_64 (lv_at hl 1 rfl) ?_
          refine lv_if_eq (tgt := 104) hx hb dX8_wordAt_66 (by decide) (fun h => absurd h (by decide)) (fun _ => ?_)
          refine lv_aload_n hx hb dX8_wordAt_69 rfl (lv_at hl 3 rfl) ?_
          refine va_get (D := D) (ci := 8) (v := .ref (y 17)) (C := RX8) (T := TX8) (N := 52) hx hb hts w_1 hown hK hP 0 rfl rfl 34 (by decide) w_2 (fun _ h9 => h9) rfl dX8_wordAt_70 ?_
          refine lv_iload hx hb dX8_wordAt_73 (lv_at hl 7 rfl) ?_
          refine lv_iload hx hb dX8_wordAt_75 (lv_at hl 0 rfl) ?_
          refine sv_iadd (v := 27) hx hb dX8_wordAt_77 (by decide) ?_
          refine sv_iald (v := 97) hx hb hK hP 2 1 rfl rfl (vp_in_iff.mpr (by decide)) (hwf 27 (by decide)) dX8_wordAt_78 ?_
          refine lv_aload_n hx hb dX8_wordAt_79 rfl (lv_at hl 3 rfl) ?_
          refine va_get (D := D) (ci := 8) (v := .ref (y 1)) (C := RX8) (T := TX8) (N := 52) hx hb hts w_1 hown hK hP 0 rfl rfl 0 (by decide) w_3 (fun _ h9 => h9) rfl dX8_wordAt_80 ?_
          refine lv_iload_n hx hb dX8_wordAt_83 rfl (lv_at hl 4 rfl) ?_
          refine lv_iload hx hb dX8_wordAt_84 (lv_at hl 0 rfl) ?_
          refine sv_iadd (v := a + 2) hx hb dX8_wordAt_86 rfl ?_
          refine lv_topi (fun v_27 ev_27 => ?_)
          refine sv_iald (v := m_tape v_27.toNatClampNeg) hx hb hK hP 1 1 rfl rfl (by rw [ev_27]; exact wa_in h0 hab hb9 (c_44.trans ev_23) (by decide)) rfl dX8_wordAt_87 ?_
          refine lv_topi (fun v_28 ev_28 => ?_)
          refine lv_icmp_ne (tgt := 95) hx hb dX8_wordAt_88 (by decide) (fun c_88 => ?_) (fun c_88 => ?_)
          ·
            refine lv_iconst (v := 0) hx hb dX8_wordAt_95 (by decide) ?_
            refine lv_istore (lv' := [(6, .int 0), (7, .int 2), (5, .int 4), (0, .ref (y 0)), (1, .int a), (2, .int b), (3, .int 5), (4, .int 25)]) hx hb dX8_wordAt_96 hl (by decide) rfl (fun ls hl => ?_)
            refine lv_iinc (v := 3) (lv' := [(7, .int 3), (6, .int 0), (5, .int 4), (0, .ref (y 0)), (1, .int a), (2, .int b), (3, .int 5), (4, .int 25)]) hx hb dX8_wordAt_98 hl (k := 1) rfl (by decide) (by decide) rfl (fun ls hl => ?_)
            refine lv_goto (tgt := 57) hx hb dX8_wordAt_101 (by decide) ?_
            refine lv_iload hx hb dX8_wordAt_57 (lv_at hl 0 rfl) ?_
            refine lv_iload hx hb dX8_wordAt_59 (lv_at hl 2 rfl) ?_
            refine lv_icmp_ge (tgt := 104) hx hb dX8_wordAt_61 (by decide) (fun h => absurd h (by decide)) (fun _ => ?_)
            refine lv_iload hx hb dX8_wordAt_64 (lv_at hl 1 rfl) ?_
            refine lv_if_eq (tgt := 104) hx hb dX8_wordAt_66 (by decide) (fun _ => ?_) (fun h => absurd (by decide) h)
            refine lv_iload hx hb dX8_wordAt_104 (lv_at hl 1 rfl) ?_
            refine lv_if_eq (tgt := 111) hx hb dX8_wordAt_106 (by decide) (fun _ => ?_) (fun h => absurd (by decide) h)
            refine lv_iload hx hb dX8_wordAt_111 (lv_at hl 7 rfl) ?_
            refine lv_iload hx hb dX8_wordAt_113 (lv_at hl 2 rfl) ?_
            refine lv_iconst (v := 1) hx hb dX8_wordAt_115 (by decide) ?_
            refine sv_iadd (v := 5) hx hb dX8_wordAt_116 (by decide) ?_
            refine sv_iadd (v := 30) hx hb dX8_wordAt_117 (by decide) ?_
            refine lv_istore (lv' := [(4, .int 30), (7, .int 3), (6, .int 0), (5, .int 4), (0, .ref (y 0)), (1, .int a), (2, .int b), (3, .int 5)]) hx hb dX8_wordAt_118 hl (by decide) rfl (fun ls hl => ?_)
            refine lv_iinc (v := 6) (lv' := [(3, .int 6), (4, .int 30), (7, .int 3), (6, .int 0), (5, .int 4), (0, .ref (y 0)), (1, .int a), (2, .int b)]) hx hb dX8_wordAt_120 hl (k := 7) rfl (by decide) (by decide) rfl (fun ls hl => ?_)
            refine lv_goto (tgt := 5) hx hb dX8_wordAt_123 (by decide) ?_
            exact J_6_30 ls (lv_sub hl [5, 6, 7, 0, 1] rfl)
          ·
            refine lv_iconst (v := 1) hx hb dX8_wordAt_91 (by decide) ?_
            refine lv_goto (tgt := 96) hx hb dX8_wordAt_92 (by decide) ?_
            refine lv_istore (lv' := [(6, .int 1), (7, .int 2), (5, .int 4), (0, .ref (y 0)), (1, .int a), (2, .int b), (3, .int 5), (4, .int 25)]) hx hb dX8_wordAt_96 hl (by decide) rfl (fun ls hl => ?_)
            refine lv_iinc (v := 3) (lv' := [(7, .int 3), (6, .int 1), (5, .int 4), (0, .ref (y 0)), (1, .int a), (2, .int b), (3, .int 5), (4, .int 25)]) hx hb dX8_wordAt_98 hl (k := 1) rfl (by decide) (by decide) rfl (fun ls hl => ?_)
            refine lv_goto (tgt := 57) hx hb dX8_wordAt_101 (by decide) ?_
            refine lv_iload hx hb dX8_wordAt_57 (lv_at hl 0 rfl) ?_
            refine lv_iload hx hb dX8_wordAt_59 (lv_at hl 2 rfl) ?_
            refine lv_icmp_ge (tgt := 104) hx hb dX8_wordAt_61 (by decide) (fun h => absurd h (by decide)) (fun _ => ?_)
            refine lv_iload hx hb dX8_wordAt_64 (lv_at hl 1 rfl) ?_
            refine lv_if_eq (tgt := 104) hx hb dX8_wordAt_66 (by decide) (fun h => absurd h (by decide)) (fun _ => ?_)
            refine lv_aload_n hx hb dX8_wordAt_69 rfl (lv_at hl 3 rfl) ?_
            refine va_get (D := D) (ci := 8) (v := .ref (y 17)) (C := RX8) (T := TX8) (N := 52) hx hb hts w_1 hown hK hP 0 rfl rfl 34 (by decide) w_2 (fun _ h9 => h9) rfl dX8_wordAt_70 ?_
            refine lv_iload hx hb dX8_wordAt_73 (lv_at hl 7 rfl) ?_
            refine lv_iload hx hb dX8_wordAt_75 (lv_at hl 0 rfl) ?_
            refine sv_iadd (v := 28) hx hb dX8_wordAt_77 (by decide) ?_
            refine sv_iald (v := 114) hx hb hK hP 2 1 rfl rfl (vp_in_iff.mpr (by decide)) (hwf 28 (by decide)) dX8_wordAt_78 ?_
            refine lv_aload_n hx hb dX8_wordAt_79 rfl (lv_at hl 3 rfl) ?_
            refine va_get (D := D) (ci := 8) (v := .ref (y 1)) (C := RX8) (T := TX8) (N := 52) hx hb hts w_1 hown hK hP 0 rfl rfl 0 (by decide) w_3 (fun _ h9 => h9) rfl dX8_wordAt_80 ?_
            refine lv_iload_n hx hb dX8_wordAt_83 rfl (lv_at hl 4 rfl) ?_
            refine lv_iload hx hb dX8_wordAt_84 (lv_at hl 0 rfl) ?_
            refine sv_iadd (v := a + 3) hx hb dX8_wordAt_86 rfl ?_
            refine lv_topi (fun v_29 ev_29 => ?_)
            refine sv_iald (v := m_tape v_29.toNatClampNeg) hx hb hK hP 1 1 rfl rfl (by rw [ev_29]; exact wa_in h0 hab hb9 (c_44.trans ev_23) (by decide)) rfl dX8_wordAt_87 ?_
            refine lv_topi (fun v_30 ev_30 => ?_)
            refine lv_icmp_ne (tgt := 95) hx hb dX8_wordAt_88 (by decide) (fun c_88 => ?_) (fun c_88 => ?_)
            ·
              refine lv_iconst (v := 0) hx hb dX8_wordAt_95 (by decide) ?_
              refine lv_istore (lv' := [(6, .int 0), (7, .int 3), (5, .int 4), (0, .ref (y 0)), (1, .int a), (2, .int b), (3, .int 5), (4, .int 25)]) hx hb dX8_wordAt_96 hl (by decide) rfl (fun ls hl => ?_)
              refine lv_iinc (v := 4) (lv' := [(7, .int 4), (6, .int 0), (5, .int 4), (0, .ref (y 0)), (1, .int a), (2, .int b), (3, .int 5), (4, .int 25)]) hx hb dX8_wordAt_98 hl (k := 1) rfl (by decide) (by decide) rfl (fun ls hl => ?_)
              refine lv_goto (tgt := 57) hx hb dX8_wordAt_101 (by decide) ?_
              refine lv_iload hx hb dX8_wordAt_57 (lv_at hl 0 rfl) ?_
              refine lv_iload hx hb dX8_wordAt_59 (lv_at hl 2 rfl) ?_
              refine lv_icmp_ge (tgt := 104) hx hb dX8_wordAt_61 (by decide) (fun _ => ?_) (fun h => absurd (by decide) h)
              refine lv_iload hx hb dX8_wordAt_104 (lv_at hl 1 rfl) ?_
              refine lv_if_eq (tgt := 111) hx hb dX8_wordAt_106 (by decide) (fun _ => ?_) (fun h => absurd (by decide) h)
              refine lv_iload hx hb dX8_wordAt_111 (lv_at hl 7 rfl) ?_
              refine lv_iload hx hb dX8_wordAt_113 (lv_at hl 2 rfl) ?_
              refine lv_iconst (v := 1) hx hb dX8_wordAt_115 (by decide) ?_
              refine sv_iadd (v := 5) hx hb dX8_wordAt_116 (by decide) ?_
              refine sv_iadd (v := 30) hx hb dX8_wordAt_117 (by decide) ?_
              refine lv_istore (lv' := [(4, .int 30), (7, .int 4), (6, .int 0), (5, .int 4), (0, .ref (y 0)), (1, .int a), (2, .int b), (3, .int 5)]) hx hb dX8_wordAt_118 hl (by decide) rfl (fun ls hl => ?_)
              refine lv_iinc (v := 6) (lv' := [(3, .int 6), (4, .int 30), (7, .int 4), (6, .int 0), (5, .int 4), (0, .ref (y 0)), (1, .int a), (2, .int b)]) hx hb dX8_wordAt_120 hl (k := 7) rfl (by decide) (by decide) rfl (fun ls hl => ?_)
              refine lv_goto (tgt := 5) hx hb dX8_wordAt_123 (by decide) ?_
              exact J_6_30 ls (lv_sub hl [5, 6, 7, 0, 1] rfl)
            ·
              refine lv_iconst (v := 1) hx hb dX8_wordAt_91 (by decide) ?_
              refine lv_goto (tgt := 96) hx hb dX8_wordAt_92 (by decide) ?_
              refine lv_istore (lv' := [(6, .int 1), (7, .int 3), (5, .int 4), (0, .ref (y 0)), (1, .int a), (2, .int b), (3, .int 5), (4, .int 25)]) hx hb dX8_wordAt_96 hl (by decide) rfl (fun ls hl => ?_)
              refine lv_iinc (v := 4) (lv' := [(7, .int 4), (6, .int 1), (5, .int 4), (0, .ref (y 0)), (1, .int a), (2, .int b), (3, .int 5), (4, .int 25)]) hx hb dX8_wordAt_98 hl (k := 1) rfl (by decide) (by decide) rfl (fun ls hl => ?_)
              refine lv_goto (tgt := 57) hx hb dX8_wordAt_101 (by decide) ?_
              refine lv_iload hx hb dX8_wordAt_57 (lv_at hl 0 rfl) ?_
              refine lv_iload hx hb dX8_wordAt_59 (lv_at hl 2 rfl) ?_
              refine lv_icmp_ge (tgt := 104) hx hb dX8_wordAt_61 (by decide) (fun _ => ?_) (fun h => absurd (by decide) h)
              refine lv_iload hx hb dX8_wordAt_104 (lv_at hl 1 rfl) ?_
              refine lv_if_eq (tgt := 111) hx hb dX8_wordAt_106 (by decide) (fun h => absurd h (by decide)) (fun _ => ?_)
              refine lv_iload_n hx hb dX8_wordAt_109 rfl (lv_at hl 6 rfl) ?_
              rw [← hQ]
              exact W.iret (v := 5) hx hb hr (fun t ht hW => ⟨_, rfl, Or.inr (vp_in_iff.mpr (by decide)), ht⟩) (fun q h => nomatch h) dX8_wordAt_110
  have J_4_21 : ∀ (ls : Array Slot), lv_has ls 8 [(0, .ref (y 0)), (1, .int a), (2, .int b), (3, .int 4), (4, .int 21)] → W p l e (headSpec wsX8_wordAt ({ frames := 0, cells := 0, slots := 0, locals := 0 } : Room)).room s m ([.ref (y 0), .int a, .int b] : List Value).toArray below meth c s.heap [] 0 0 Q0 (F0 m 5 ls []) := by
    intro ls hl
    refine lv_iload hx hb dX8_wordAt_5 (lv_at hl 4 rfl) ?_
    refine lv_aload_n hx hb dX8_wordAt_7 rfl (lv_at hl 0 rfl) ?_
    refine va_get (D := D) (ci := 8) (v := .ref (y 17)) (C := RX8) (T := TX8) (N := 52) hx hb hts w_1 hown hK hP 0 rfl rfl 34 (by decide) w_2 (fun _ h9 => h9) rfl dX8_wordAt_8 ?_
    refine va_alen (v := 43) hx hb hK hP 2 1 rfl rfl rfl dX8_wordAt_11 ?_
    refine lv_icmp_ge (tgt := 126) hx hb dX8_wordAt_12 (by decide) (fun h => absurd h (by decide)) (fun _ => ?_)
    refine lv_iconst (v := 0) hx hb dX8_wordAt_15 (by decide) ?_
    refine lv_istore (lv' := [(5, .int 0), (0, .ref (y 0)), (1, .int a), (2, .int b), (3, .int 4), (4, .int 21)]) hx hb dX8_wordAt_16 hl (by decide) rfl (fun ls hl => ?_)
    refine lv_aload_n hx hb dX8_wordAt_18 rfl (lv_at hl 1 rfl) ?_
    refine va_get (D := D) (ci := 8) (v := .ref (y 17)) (C := RX8) (T := TX8) (N := 52) hx hb hts w_1 hown hK hP 0 rfl rfl 34 (by decide) w_2 (fun _ h9 => h9) rfl dX8_wordAt_19 ?_
    refine lv_iload hx hb dX8_wordAt_22 (lv_at hl 5 rfl) ?_
    refine lv_iload hx hb dX8_wordAt_24 (lv_at hl 0 rfl) ?_
    refine sv_iadd (v := 21) hx hb dX8_wordAt_26 (by decide) ?_
    refine sv_iald (v := 97) hx hb hK hP 2 1 rfl rfl (vp_in_iff.mpr (by decide)) (hwf 21 (by decide)) dX8_wordAt_27 ?_
    refine lv_bipush (v := 32) hx hb dX8_wordAt_28 (by decide) ?_
    refine lv_icmp_eq (tgt := 39) hx hb dX8_wordAt_30 (by decide) (fun h => absurd h (by decide)) (fun _ => ?_)
    refine lv_iinc (v := 1) (lv' := [(5, .int 1), (0, .ref (y 0)), (1, .int a), (2, .int b), (3, .int 4), (4, .int 21)]) hx hb dX8_wordAt_33 hl (k := 0) rfl (by decide) (by decide) rfl (fun ls hl => ?_)
    refine lv_goto (tgt := 18) hx hb dX8_wordAt_36 (by decide) ?_
    refine lv_aload_n hx hb dX8_wordAt_18 rfl (lv_at hl 1 rfl) ?_
    refine va_get (D := D) (ci := 8) (v := .ref (y 17)) (C := RX8) (T := TX8) (N := 52) hx hb hts w_1 hown hK hP 0 rfl rfl 34 (by decide) w_2 (fun _ h9 => h9) rfl dX8_wordAt_19 ?_
    refine lv_iload hx hb dX8_wordAt_22 (lv_at hl 5 rfl) ?_
    refine lv_iload hx hb dX8_wordAt_24 (lv_at hl 0 rfl) ?_
    refine sv_iadd (v := 22) hx hb dX8_wordAt_26 (by decide) ?_
    refine sv_iald (v := 103) hx hb hK hP 2 1 rfl rfl (vp_in_iff.mpr (by decide)) (hwf 22 (by decide)) dX8_wordAt_27 ?_
    refine lv_bipush (v := 32) hx hb dX8_wordAt_28 (by decide) ?_
    refine lv_icmp_eq (tgt := 39) hx hb dX8_wordAt_30 (by decide) (fun h => absurd h (by decide)) (fun _ => ?_)
    refine lv_iinc (v := 2) (lv' := [(5, .int 2), (0, .ref (y 0)), (1, .int a), (2, .int b), (3, .int 4), (4, .int 21)]) hx hb dX8_wordAt_33 hl (k := 0) rfl (by decide) (by decide) rfl (fun ls hl => ?_)
    refine lv_goto (tgt := 18) hx hb dX8_wordAt_36 (by decide) ?_
    refine lv_aload_n hx hb dX8_wordAt_18 rfl (lv_at hl 1 rfl) ?_
    refine va_get (D := D) (ci := 8) (v := .ref (y 17)) (C := RX8) (T := TX8) (N := 52) hx hb hts w_1 hown hK hP 0 rfl rfl 34 (by decide) w_2 (fun _ h9 => h9) rfl dX8_wordAt_19 ?_
    refine lv_iload hx hb dX8_wordAt_22 (lv_at hl 5 rfl) ?_
    refine lv_iload hx hb dX8_wordAt_24 (lv_at hl 0 rfl) ?_
    refine sv_iadd (v := 23) hx hb dX8_wordAt_26 (by decide) ?_
    refine sv_iald (v := 101) hx hb hK hP 2 1 rfl rfl (vp_in_iff.mpr (by decide)) (hwf 23 (by decide)) dX8_wordAt_27 ?_
    refine lv_bipush (v := 32) hx hb dX8_wordAt_28 (by decide) ?_
    refine lv_icmp_eq (tgt := 39) hx hb dX8_wordAt_30 (by decide) (fun h => absurd h (by decide)) (fun _ => ?_)
    refine lv_iinc (v := 3) (lv' := [(5, .int 3), (0, .ref (y 0)), (1, .int a), (2, .int b), (3, .int 4), (4, .int 21)]) hx hb dX8_wordAt_33 hl (k := 0) rfl (by decide) (by decide) rfl (fun ls hl => ?_)
    refine lv_goto (tgt := 18) hx hb dX8_wordAt_36 (by decide) ?_
    refine lv_aload_n hx hb dX8_wordAt_18 rfl (lv_at hl 1 rfl) ?_
    refine va_get (D := D) (ci := 8) (v := .ref (y 17)) (C := RX8) (T := TX8) (N := 52) hx hb hts w_1 hown hK hP 0 rfl rfl 34 (by decide) w_2 (fun _ h9 => h9) rfl dX8_wordAt_19 ?_
    refine lv_iload hx hb dX8_wordAt_22 (lv_at hl 5 rfl) ?_
    refine lv_iload hx hb dX8_wordAt_24 (lv_at hl 0 rfl) ?_
    refine sv_iadd (v := 24) hx hb dX8_wordAt_26 (by decide) ?_
    refine sv_iald (v := 32) hx hb hK hP 2 1 rfl rfl (vp_in_iff.mpr (by decide)) (hwf 24 (by decide)) dX8_wordAt_27 ?_
    refine lv_bipush (v := 32) hx hb dX8_wordAt_28 (by decide) ?_
    refine lv_icmp_eq (tgt := 39) hx hb dX8_wordAt_30 (by decide) (fun _ => ?_) (fun h => absurd (by decide) h)
    refine lv_iload hx hb dX8_wordAt_39 (lv_at hl 0 rfl) ?_
    refine lv_iload_n hx hb dX8_wordAt_41 rfl (lv_at hl 3 rfl) ?_
    refine lv_iload_n hx hb dX8_wordAt_42 rfl (lv_at hl 2 rfl) ?_
    refine sv_isub (v := b - a) hx hb dX8_wordAt_43 rfl ?_
    refine lv_topi (fun v_31 ev_31 => ?_)
    refine lv_icmp_ne (tgt := 51) hx hb dX8_wordAt_44 (by decide) (fun c_44 => ?_) (fun c_44 => ?_)
    ·
      refine lv_iconst (v := 0) hx hb dX8_wordAt_51 (by decide) ?_
      refine lv_istore (lv' := [(6, .int 0), (5, .int 3), (0, .ref (y 0)), (1, .int a), (2, .int b), (3, .int 4), (4, .int 21)]) hx hb dX8_wordAt_52 hl (by decide) rfl (fun ls hl => ?_)
      refine lv_iconst (v := 0) hx hb dX8_wordAt_54 (by decide) ?_
      refine lv_istore (lv' := [(7, .int 0), (6, .int 0), (5, .int 3), (0, .ref (y 0)), (1, .int a), (2, .int b), (3, .int 4), (4, .int 21)]) hx hb dX8_wordAt_55 hl (by decide) rfl (fun ls hl => ?_)
      refine lv_iload hx hb dX8_wordAt_57 (lv_at hl 0 rfl) ?_
      refine lv_iload hx hb dX8_wordAt_59 (lv_at hl 2 rfl) ?_
      refine lv_icmp_ge (tgt := 104) hx hb dX8_wordAt_61 (by decide) (fun h => absurd h (by decide)) (fun _ => ?_)
      refine lv_iload hx hb dX8_wordAt_64 (lv_at hl 1 rfl) ?_
      refine lv_if_eq (tgt := 104) hx hb dX8_wordAt_66 (by decide) (fun _ => ?_) (fun h => absurd (by decide) h)
      refine lv_iload hx hb dX8_wordAt_104 (lv_at hl 1 rfl) ?_
      refine lv_if_eq (tgt := 111) hx hb dX8_wordAt_106 (by decide) (fun _ => ?_) (fun h => absurd (by decide) h)
      refine lv_iload hx hb dX8_wordAt_111 (lv_at hl 7 rfl) ?_
      refine lv_iload hx hb dX8_wordAt_113 (lv_at hl 2 rfl) ?_
      refine lv_iconst (v := 1) hx hb dX8_wordAt_115 (by decide) ?_
      refine sv_iadd (v := 4) hx hb dX8_wordAt_116 (by decide) ?_
      refine sv_iadd (v := 25) hx hb dX8_wordAt_117 (by decide) ?_
      refine lv_istore (lv' := [(4, .int 25), (7, .int 0), (6, .int 0), (5, .int 3), (0, .ref (y 0)), (1, .int a), (2, .int b), (3, .int 4)]) hx hb dX8_wordAt_118 hl (by decide) rfl (fun ls hl => ?_)
      refine lv_iinc (v := 5) (lv' := [(3, .int 5), (4, .int 25), (7, .int 0), (6, .int 0), (5, .int 3), (0, .ref (y 0)), (1, .int a), (2, .int b)]) hx hb dX8_wordAt_120 hl (k := 7) rfl (by decide) (by decide) rfl (fun ls hl => ?_)
      refine lv_goto (tgt := 5) hx hb dX8_wordAt_123 (by decide) ?_
      exact J_5_25 ls (lv_sub hl [5, 6, 7, 0, 1] rfl)
    ·
      refine lv_iconst (v := 1) hx hb dX8_wordAt_47 (by decide) ?_
      refine lv_goto (tgt := 52) hx hb dX8_wordAt_48 (by decide) ?_
      refine lv_istore (lv' := [(6, .int 1), (5, .int 3), (0, .ref (y 0)), (1, .int a), (2, .int b), (3, .int 4), (4, .int 21)]) hx hb dX8_wordAt_52 hl (by decide) rfl (fun ls hl => ?_)
      refine lv_iconst (v := 0) hx hb dX8_wordAt_54 (by decide) ?_
      refine lv_istore (lv' := [(7, .int 0), (6, .int 1), (5, .int 3), (0, .ref (y 0)), (1, .int a), (2, .int b), (3, .int 4), (4, .int 21)]) hx hb dX8_wordAt_55 hl (by decide) rfl (fun ls hl => ?_)
      refine lv_iload hx hb dX8_wordAt_57 (lv_at hl 0 rfl) ?_
      refine lv_iload hx hb dX8_wordAt_59 (lv_at hl 2 rfl) ?_
      refine lv_icmp_ge (tgt := 104) hx hb dX8_wordAt_61 (by decide) (fun h => absurd h (by decide)) (fun _ => ?_)
      refine lv_iload hx hb dX8_wordAt_64 (lv_at hl 1 rfl) ?_
      refine lv_if_eq (tgt := 104) hx hb dX8_wordAt_66 (by decide) (fun h => absurd h (by decide)) (fun _ => ?_)
      refine lv_aload_n hx hb dX8_wordAt_69 rfl (lv_at hl 3 rfl) ?_
      refine va_get (D := D) (ci := 8) (v := .ref (y 17)) (C := RX8) (T := TX8) (N := 52) hx hb hts w_1 hown hK hP 0 rfl rfl 34 (by decide) w_2 (fun _ h9 => h9) rfl dX8_wordAt_70 ?_
      refine lv_iload hx hb dX8_wordAt_73 (lv_at hl 7 rfl) ?_
      refine lv_iload hx hb dX8_wordAt_75 (lv_at hl 0 rfl) ?_
      refine sv_iadd (v := 21) hx hb dX8_wordAt_77 (by decide) ?_
      refine sv_iald (v := 97) hx hb hK hP 2 1 rfl rfl (vp_in_iff.mpr (by decide)) (hwf 21 (by decide)) dX8_wordAt_78 ?_
      refine lv_aload_n hx hb dX8_wordAt_79 rfl (lv_at hl 3 rfl) ?_
      refine va_get (D := D) (ci := 8) (v := .ref (y 1)) (C := RX8) (T := TX8) (N := 52) hx hb hts w_1 hown hK hP 0 rfl rfl 0 (by decide) w_3 (fun _ h9 => h9) rfl dX8_wordAt_80 ?_
      refine lv_iload_n hx hb dX8_wordAt_83 rfl (lv_at hl 4 rfl) ?_
      refine lv_iload hx hb dX8_wordAt_84 (lv_at hl 0 rfl) ?_
      refine sv_iadd (v := a + 0) hx hb dX8_wordAt_86 rfl ?_
      refine lv_topi (fun v_32 ev_32 => ?_)
      refine sv_iald (v := m_tape v_32.toNatClampNeg) hx hb hK hP 1 1 rfl rfl (by rw [ev_32]; exact wa_in h0 hab hb9 (c_44.trans ev_31) (by decide)) rfl dX8_wordAt_87 ?_
      refine lv_topi (fun v_33 ev_33 => ?_)
      refine lv_icmp_ne (tgt := 95) hx hb dX8_wordAt_88 (by decide) (fun c_88 => ?_) (fun c_88 => ?_)
      ·
        refine lv_iconst (v := 0) hx hb dX8_wordAt_95 (by decide) ?_
        refine lv_istore (lv' := [(6, .int 0), (7, .int 0), (5, .int 3), (0, .ref (y 0)), (1, .int a), (2, .int b), (3, .int 4), (4, .int 21)]) hx hb dX8_wordAt_96 hl (by decide) rfl (fun ls hl => ?_)
        refine lv_iinc (v := 1) (lv' := [(7, .int 1), (6, .int 0), (5, .int 3), (0, .ref (y 0)), (1, .int a), (2, .int b), (3, .int 4), (4, .int 21)]) hx hb dX8_wordAt_98 hl (k := 1) rfl (by decide) (by decide) rfl (fun ls hl => ?_)
        refine lv_goto (tgt := 57) hx hb dX8_wordAt_101 (by decide) ?_
        refine lv_iload hx hb dX8_wordAt_57 (lv_at hl 0 rfl) ?_
        refine lv_iload hx hb dX8_wordAt_59 (lv_at hl 2 rfl) ?_
        refine lv_icmp_ge (tgt := 104) hx hb dX8_wordAt_61 (by decide) (fun h => absurd h (by decide)) (fun _ => ?_)
        refine lv_iload hx hb dX8_wordAt_64 (lv_at hl 1 rfl) ?_
        refine lv_if_eq (tgt := 104) hx hb dX8_wordAt_66 (by decide) (fun _ => ?_) (fun h => absurd (by decide) h)
        refine lv_iload hx hb dX8_wordAt_104 (lv_at hl 1 rfl) ?_
        refine lv_if_eq (tgt := 111) hx hb dX8_wordAt_106 (by decide) (fun _ => ?_) (fun h => absurd (by decide) h)
        refine lv_iload hx hb dX8_wordAt_111 (lv_at hl 7 rfl) ?_
        refine lv_iload hx hb dX8_wordAt_113 (lv_at hl 2 rfl) ?_
        refine lv_iconst (v := 1) hx hb dX8_wordAt_115 (by decide) ?_
        refine sv_iadd (v := 4) hx hb dX8_wordAt_116 (by decide) ?_
        refine sv_iadd (v := 25) hx hb dX8_wordAt_117 (by decide) ?_
        refine lv_istore (lv' := [(4, .int 25), (7, .int 1), (6, .int 0), (5, .int 3), (0, .ref (y 0)), (1, .int a), (2, .int b), (3, .int 4)]) hx hb dX8_wordAt_118 hl (by decide) rfl (fun ls hl => ?_)
        refine lv_iinc (v := 5) (lv' := [(3, .int 5), (4, .int 25), (7, .int 1), (6, .int 0), (5, .int 3), (0, .ref (y 0)), (1, .int a), (2, .int b)]) hx hb dX8_wordAt_120 hl (k := 7) rfl (by decide) (by decide) rfl (fun ls hl => ?_)
        refine lv_goto (tgt := 5) hx hb dX8_wordAt_123 (by decide) ?_
        exact J_5_25 ls (lv_sub hl [5, 6, 7, 0, 1] rfl)
      ·
        refine lv_iconst (v := 1) hx hb dX8_wordAt_91 (by decide) ?_
        refine lv_goto (tgt := 96) hx hb dX8_wordAt_92 (by decide) ?_
        refine lv_istore (lv' := [(6, .int 1), (7, .int 0), (5, .int 3), (0, .ref (y 0)), (1, .int a), (2, .int b), (3, .int 4), (4, .int 21)]) hx hb dX8_wordAt_96 hl (by decide) rfl (fun ls hl => ?_)
        refine lv_iinc (v := 1) (lv' := [(7, .int 1), (6, .int 1), (5, .int 3), (0, .ref (y 0)), (1, .int a), (2, .int b), (3, .int 4), (4, .int 21)]) hx hb dX8_wordAt_98 hl (k := 1) rfl (by decide) (by decide) rfl (fun ls hl => ?_)
        refine lv_goto (tgt := 57) hx hb dX8_wordAt_101 (by decide) ?_
        refine lv_iload hx hb dX8_wordAt_57 (lv_at hl 0 rfl) ?_
        refine lv_iload hx hb dX8_wordAt_59 (lv_at hl 2 rfl) ?_
        refine lv_icmp_ge (tgt := 104) hx hb dX8_wordAt_61 (by decide) (fun h => absurd h (by decide)) (fun _ => ?_)
        refine lv_iload hx hb dX8_wordAt_64 (lv_at hl 1 rfl) ?_
        refine lv_if_eq (tgt := 104) hx hb dX8_wordAt_66 (by decide) (fun h => absurd h (by decide)) (fun _ => ?_)
        refine lv_aload_n hx hb dX8_wordAt_69 rfl (lv_at hl 3 rfl) ?_
        refine va_get (D := D) (ci := 8) (v := .ref (y 17)) (C := RX8) (T := TX8) (N := 52) hx hb hts w_1 hown hK hP 0 rfl rfl 34 (by decide) w_2 (fun _ h9 => h9) rfl dX8_wordAt_70 ?_
        refine lv_iload hx hb dX8_wordAt_73 (lv_at hl 7 rfl) ?_
        refine lv_iload hx hb dX8_wordAt_75 (lv_at hl 0 rfl) ?_
        refine sv_iadd (v := 22) hx hb dX8_wordAt_77 (by decide) ?_
        refine sv_iald (v := 103) hx hb hK hP 2 1 rfl rfl (vp_in_iff.mpr (by decide)) (hwf 22 (by decide)) dX8_wordAt_78 ?_
        refine lv_aload_n hx hb dX8_wordAt_79 rfl (lv_at hl 3 rfl) ?_
        refine va_get (D := D) (ci := 8) (v := .ref (y 1)) (C := RX8) (T := TX8) (N := 52) hx hb hts w_1 hown hK hP 0 rfl rfl 0 (by decide) w_3 (fun _ h9 => h9) rfl dX8_wordAt_80 ?_
        refine lv_iload_n hx hb dX8_wordAt_83 rfl (lv_at hl 4 rfl) ?_
        refine lv_iload hx hb dX8_wordAt_84 (lv_at hl 0 rfl) ?_
        refine sv_iadd (v := a + 1) hx hb dX8_wordAt_86 rfl ?_
        refine sv_iald (v := m_tape (a + 1).toNatClampNeg) hx hb hK hP 1 1 rfl rfl (wa_in h0 hab hb9 (c_44.trans ev_31) (by decide)) rfl dX8_wordAt_87 ?_
        refine lv_topi (fun v_34 ev_34 => ?_)
        refine lv_icmp_ne (tgt := 95) hx hb dX8_wordAt_88 (by decide) (fun c_88 => ?_) (fun c_88 => ?_)
        ·
          refine lv_iconst (v := 0) hx hb dX8_wordAt_95 (by decide) ?_
          refine lv_istore (lv' := [(6, .int 0), (7, .int 1), (5, .int 3), (0, .ref (y 0)), (1, .int a), (2, .int b), (3, .int 4), (4, .int 21)]) hx hb dX8_wordAt_96 hl (by decide) rfl (fun ls hl => ?_)
          refine lv_iinc (v := 2) (lv' := [(7, .int 2), (6, .int 0), (5, .int 3), (0, .ref (y 0)), (1, .int a), (2, .int b), (3, .int 4), (4, .int 21)]) hx hb dX8_wordAt_98 hl (k := 1) rfl (by decide) (by decide) rfl (fun ls hl => ?_)
          refine lv_goto (tgt := 57) hx hb dX8_wordAt_101 (by decide) ?_
          refine lv_iload hx hb dX8_wordAt_57 (lv_at hl 0 rfl) ?_
          refine lv_iload hx hb dX8_wordAt_59 (lv_at hl 2 rfl) ?_
          refine lv_icmp_ge (tgt := 104) hx hb dX8_wordAt_61 (by decide) (fun h => absurd h (by decide)) (fun _ => ?_)
          refine lv_iload hx hb dX8_wordAt_64 (lv_at hl 1 rfl) ?_
          refine lv_if_eq (tgt := 104) hx hb dX8_wordAt_66 (by decide) (fun _ => ?_) (fun h => absurd (by decide) h)
          refine lv_iload hx hb dX8_wordAt_104 (lv_at hl 1 rfl) ?_
          refine lv_if_eq (tgt := 111) hx hb dX8_wordAt_106 (by decide) (fun _ => ?_) (fun h => absurd (by decide) h)
          refine lv_iload hx hb dX8_wordAt_111 (lv_at hl 7 rfl) ?_
          refine lv_iload hx hb dX8_wordAt_113 (lv_at hl 2 rfl) ?_
          refine lv_iconst (v := 1) hx hb dX8_wordAt_115 (by decide) ?_
          refine sv_iadd (v := 4) hx hb dX8_wordAt_116 (by decide) ?_
          refine sv_iadd (v := 25) hx hb dX8_wordAt_117 (by decide) ?_
          refine lv_istore (lv' := [(4, .int 25), (7, .int 2), (6, .int 0), (5, .int 3), (0, .ref (y 0)), (1, .int a), (2, .int b), (3, .int 4)]) hx hb dX8_wordAt_118 hl (by decide) rfl (fun ls hl => ?_)
          refine lv_iinc (v := 5) (lv' := [(3, .int 5), (4, .int 25), (7, .int 2), (6, .int 0), (5, .int 3), (0, .ref (y 0)), (1, .int a), (2, .int b)]) hx hb dX8_wordAt_120 hl (k := 7) rfl (by decide) (by decide) rfl (fun ls hl => ?_)
          refine lv_goto (tgt := 5) hx hb dX8_wordAt_123 (by decide) ?_
          exact J_5_25 ls (lv_sub hl [5, 6, 7, 0, 1] rfl)
        ·
          refine lv_iconst (v := 1) hx hb dX8_wordAt_91 (by decide) ?_
          refine lv_goto (tgt := 96) hx hb dX8_wordAt_92 (by decide) ?_
          refine lv_istore (lv' := [(6, .int 1), (7, .int 1), (5, .int 3), (0, .ref (y 0)), (1, .int a), (2, .int b), (3, .int 4), (4, .int 21)]) hx hb dX8_wordAt_96 hl (by decide) rfl (fun ls hl => ?_)
          refine lv_iinc (v := 2) (lv' := [(7, .int 2), (6, .int 1), (5, .int 3), (0, .ref (y 0)), (1, .int a), (2, .int b), (3, .int 4), (4, .int 21)]) hx hb dX8_wordAt_98 hl (k := 1) rfl (by decide) (by decide) rfl (fun ls hl => ?_)
          refine lv_goto (tgt := 57) hx hb dX8_wordAt_101 (by decide) ?_
          refine lv_iload hx hb dX8_wordAt_57 (lv_at hl 0 rfl) ?_
          refine lv_iload hx hb dX8_wordAt_59 (lv_at hl 2 rfl) ?_
          refine lv_icmp_ge (tgt := 104) hx hb dX8_wordAt_61 (by decide) (fun h => absurd h (by decide)) (fun _ => ?_)
          refine lv_iload hx hb dX8_wordAt_64 (lv_at hl 1 rfl) ?_
          refine lv_if_eq (tgt := 104) hx hb dX8_wordAt_66 (by decide) (fun h => absurd h (by decide)) (fun _ => ?_)
          refine lv_aload_n hx hb dX8_wordAt_69 rfl (lv_at hl 3 rfl) ?_
          refine va_get (D := D) (ci := 8) (v := .ref (y 17)) (C := RX8) (T := TX8) (N := 52) hx hb hts w_1 hown hK hP 0 rfl rfl 34 (by decide) w_2 (fun _ h9 => h9) rfl dX8_wordAt_70 ?_
          refine lv_iload hx hb dX8_wordAt_73 (lv_at hl 7 rfl) ?_
          refine lv_iload hx hb dX8_wordAt_75 (lv_at hl 0 rfl) ?_
          refine sv_iadd (v := 23) hx hb dX8_wordAt_77 (by decide) ?_
          refine sv_iald (v := 101) hx hb hK hP 2 1 rfl rfl (vp_in_iff.mpr (by decide)) (hwf 23 (by decide)) dX8_wordAt_78 ?_
          refine lv_aload_n hx hb dX8_wordAt_79 rfl (lv_at hl 3 rfl) ?_
          refine va_get (D := D) (ci := 8) (v := .ref (y 1)) (C := RX8) (T := TX8) (N := 52) hx hb hts w_1 hown hK hP 0 rfl rfl 0 (by decide) w_3 (fun _ h9 => h9) rfl dX8_wordAt_80 ?_
          refine lv_iload_n hx hb dX8_wordAt_83 rfl (lv_at hl 4 rfl) ?_
          refine lv_iload hx hb dX8_wordAt_84 (lv_at hl 0 rfl) ?_
          refine sv_iadd (v := a + 2) hx hb dX8_wordAt_86 rfl ?_
          refine lv_topi (fun v_35 ev_35 => ?_)
          refine sv_iald (v := m_tape v_35.toNatClampNeg) hx hb hK hP 1 1 rfl rfl (by rw [ev_35]; exact wa_in h0 hab hb9 (c_44.trans ev_31) (by decide)) rfl dX8_wordAt_87 ?_
          refine lv_topi (fun v_36 ev_36 => ?_)
          refine lv_icmp_ne (tgt := 95) hx hb dX8_wordAt_88 (by decide) (fun c_88 => ?_) (fun c_88 => ?_)
          ·
            refine lv_iconst (v := 0) hx hb dX8_wordAt_95 (by decide) ?_
            refine lv_istore (lv' := [(6, .int 0), (7, .int 2), (5, .int 3), (0, .ref (y 0)), (1, .int a), (2, .int b), (3, .int 4), (4, .int 21)]) hx hb dX8_wordAt_96 hl (by decide) rfl (fun ls hl => ?_)
            refine lv_iinc (v := 3) (lv' := [(7, .int 3), (6, .int 0), (5, .int 3), (0, .ref (y 0)), (1, .int a), (2, .int b), (3, .int 4), (4, .int 21)]) hx hb dX8_wordAt_98 hl (k := 1) rfl (by decide) (by decide) rfl (fun ls hl => ?_)
            refine lv_goto (tgt := 57) hx hb dX8_wordAt_101 (by decide) ?_
            refine lv_iload hx hb dX8_wordAt_57 (lv_at hl 0 rfl) ?_
            refine lv_iload hx hb dX8_wordAt_59 (lv_at hl 2 rfl) ?_
            refine lv_icmp_ge (tgt := 104) hx hb dX8_wordAt_61 (by decide) (fun _ => ?_) (fun h => absurd (by decide) h)
            refine lv_iload hx hb dX8_wordAt_104 (lv_at hl 1 rfl) ?_
            refine lv_if_eq (tgt := 111) hx hb dX8_wordAt_106 (by decide) (fun _ => ?_) (fun h => absurd (by decide) h)
            refine lv_iload hx hb dX8_wordAt_111 (lv_at hl 7 rfl) ?_
            refine lv_iload hx hb dX8_wordAt_113 (lv_at hl 2 rfl) ?_
            refine lv_iconst (v := 1) hx hb dX8_wordAt_115 (by decide) ?_
            refine sv_iadd (v := 4) hx hb dX8_wordAt_116 (by decide) ?_
            refine sv_iadd (v := 25) hx hb dX8_wordAt_117 (by decide) ?_
            refine lv_istore (lv' := [(4, .int 25), (7, .int 3), (6, .int 0), (5, .int 3), (0, .ref (y 0)), (1, .int a), (2, .int b), (3, .int 4)]) hx hb dX8_wordAt_118 hl (by decide) rfl (fun ls hl => ?_)
            refine lv_iinc (v := 5) (lv' := [(3, .int 5), (4, .int 25), (7, .int 3), (6, .int 0), (5, .int 3), (0, .ref (y 0)), (1, .int a), (2, .int b)]) hx hb dX8_wordAt_120 hl (k := 7) rfl (by decide) (by decide) rfl (fun ls hl => ?_)
            refine lv_goto (tgt := 5) hx hb dX8_wordAt_123 (by decide) ?_
            exact J_5_25 ls (lv_sub hl [5, 6, 7, 0, 1] rfl)
          ·
            refine lv_iconst (v := 1) hx hb dX8_wordAt_91 (by decide) ?_
            refine lv_goto (tgt := 96) hx hb dX8_wordAt_92 (by decide) ?_
            refine lv_istore (lv' := [(6, .int 1), (7, .int 2), (5, .int 3), (0, .ref (y 0)), (1, .int a), (2, .int b), (3, .int 4), (4, .int 21)]) hx hb dX8_wordAt_96 hl (by decide) rfl (fun ls hl => ?_)
            refine lv_iinc (v := 3) (lv' := [(7, .int 3), (6, .int 1), (5, .int 3), (0, .ref (y 0)), (1, .int a), (2, .int b), (3, .int 4), (4, .int 21)]) hx hb dX8_wordAt_98 hl (k := 1) rfl (by decide) (by decide) rfl (fun ls hl => ?_)
            refine lv_goto (tgt := 57) hx hb dX8_wordAt_101 (by decide) ?_
            refine lv_iload hx hb dX8_wordAt_57 (lv_at hl 0 rfl) ?_
            refine lv_iload hx hb dX8_wordAt_59 (lv_at hl 2 rfl) ?_
            refine lv_icmp_ge (tgt := 104) hx hb dX8_wordAt_61 (by decide) (fun _ => ?_) (fun h => absurd (by decide) h)
            refine lv_iload hx hb dX8_wordAt_104 (lv_at hl 1 rfl) ?_
            refine lv_if_eq (tgt := 111) hx hb dX8_wordAt_106 (by decide) (fun h => absurd h (by decide)) (fun _ => ?_)
            refine lv_iload_n hx hb dX8_wordAt_109 rfl (lv_at hl 6 rfl) ?_
            rw [← hQ]
            exact W.iret (v := 4) hx hb hr (fun t ht hW => ⟨_, rfl, Or.inr (vp_in_iff.mpr (by decide)), ht⟩) (fun q h => nomatch h) dX8_wordAt_110
  have J_3_15 : ∀ (ls : Array Slot), lv_has ls 8 [(0, .ref (y 0)), (1, .int a), (2, .int b), (3, .int 3), (4, .int 15)] → W p l e (headSpec wsX8_wordAt ({ frames := 0, cells := 0, slots := 0, locals := 0 } : Room)).room s m ([.ref (y 0), .int a, .int b] : List Value).toArray below meth c s.heap [] 0 0 Q0 (F0 m 5 ls []) := by
    intro ls hl
    refine lv_iload hx hb dX8_wordAt_5 (lv_at hl 4 rfl) ?_
    refine lv_aload_n hx hb dX8_wordAt_7 rfl (lv_at hl 0 rfl) ?_
    refine va_get (D := D) (ci := 8) (v := .ref (y 17)) (C := RX8) (T := TX8) (N := 52) hx hb hts w_1 hown hK hP 0 rfl rfl 34 (by decide) w_2 (fun _ h9 => h9) rfl dX8_wordAt_8 ?_
    refine va_alen (v := 43) hx hb hK hP 2 1 rfl rfl rfl dX8_wordAt_11 ?_
    refine lv_icmp_ge (tgt := 126) hx hb dX8_wordAt_12 (by decide) (fun h => absurd h (by decide)) (fun _ => ?_)
    refine lv_iconst (v := 0) hx hb dX8_wordAt_15 (by decide) ?_
    refine lv_istore (lv' := [(5, .int 0), (0, .ref (y 0)), (1, .int a), (2, .int b), (3, .int 3), (4, .int 15)]) hx hb dX8_wordAt_16 hl (by decide) rfl (fun ls hl => ?_)
    refine lv_aload_n hx hb dX8_wordAt_18 rfl (lv_at hl 1 rfl) ?_
    refine va_get (D := D) (ci := 8) (v := .ref (y 17)) (C := RX8) (T := TX8) (N := 52) hx hb hts w_1 hown hK hP 0 rfl rfl 34 (by decide) w_2 (fun _ h9 => h9) rfl dX8_wordAt_19 ?_
    refine lv_iload hx hb dX8_wordAt_22 (lv_at hl 5 rfl) ?_
    refine lv_iload hx hb dX8_wordAt_24 (lv_at hl 0 rfl) ?_
    refine sv_iadd (v := 15) hx hb dX8_wordAt_26 (by decide) ?_
    refine sv_iald (v := 99) hx hb hK hP 2 1 rfl rfl (vp_in_iff.mpr (by decide)) (hwf 15 (by decide)) dX8_wordAt_27 ?_
    refine lv_bipush (v := 32) hx hb dX8_wordAt_28 (by decide) ?_
    refine lv_icmp_eq (tgt := 39) hx hb dX8_wordAt_30 (by decide) (fun h => absurd h (by decide)) (fun _ => ?_)
    refine lv_iinc (v := 1) (lv' := [(5, .int 1), (0, .ref (y 0)), (1, .int a), (2, .int b), (3, .int 3), (4, .int 15)]) hx hb dX8_wordAt_33 hl (k := 0) rfl (by decide) (by decide) rfl (fun ls hl => ?_)
    refine lv_goto (tgt := 18) hx hb dX8_wordAt_36 (by decide) ?_
    refine lv_aload_n hx hb dX8_wordAt_18 rfl (lv_at hl 1 rfl) ?_
    refine va_get (D := D) (ci := 8) (v := .ref (y 17)) (C := RX8) (T := TX8) (N := 52) hx hb hts w_1 hown hK hP 0 rfl rfl 34 (by decide) w_2 (fun _ h9 => h9) rfl dX8_wordAt_19 ?_
    refine lv_iload hx hb dX8_wordAt_22 (lv_at hl 5 rfl) ?_
    refine lv_iload hx hb dX8_wordAt_24 (lv_at hl 0 rfl) ?_
    refine sv_iadd (v := 16) hx hb dX8_wordAt_26 (by decide) ?_
    refine sv_iald (v := 121) hx hb hK hP 2 1 rfl rfl (vp_in_iff.mpr (by decide)) (hwf 16 (by decide)) dX8_wordAt_27 ?_
    refine lv_bipush (v := 32) hx hb dX8_wordAt_28 (by decide) ?_
    refine lv_icmp_eq (tgt := 39) hx hb dX8_wordAt_30 (by decide) (fun h => absurd h (by decide)) (fun _ => ?_)
    refine lv_iinc (v := 2) (lv' := [(5, .int 2), (0, .ref (y 0)), (1, .int a), (2, .int b), (3, .int 3), (4, .int 15)]) hx hb dX8_wordAt_33 hl (k := 0) rfl (by decide) (by decide) rfl (fun ls hl => ?_)
    refine lv_goto (tgt := 18) hx hb dX8_wordAt_36 (by decide) ?_
    refine lv_aload_n hx hb dX8_wordAt_18 rfl (lv_at hl 1 rfl) ?_
    refine va_get (D := D) (ci := 8) (v := .ref (y 17)) (C := RX8) (T := TX8) (N := 52) hx hb hts w_1 hown hK hP 0 rfl rfl 34 (by decide) w_2 (fun _ h9 => h9) rfl dX8_wordAt_19 ?_
    refine lv_iload hx hb dX8_wordAt_22 (lv_at hl 5 rfl) ?_
    refine lv_iload hx hb dX8_wordAt_24 (lv_at hl 0 rfl) ?_
    refine sv_iadd (v := 17) hx hb dX8_wordAt_26 (by decide) ?_
    refine sv_iald (v := 99) hx hb hK hP 2 1 rfl rfl (vp_in_iff.mpr (by decide)) (hwf 17 (by decide)) dX8_wordAt_27 ?_
    refine lv_bipush (v := 32) hx hb dX8_wordAt_28 (by decide) ?_
    refine lv_icmp_eq (tgt := 39) hx hb dX8_wordAt_30 (by decide) (fun h => absurd h (by decide)) (fun _ => ?_)
    refine lv_iinc (v := 3) (lv' := [(5, .int 3), (0, .ref (y 0)), (1, .int a), (2, .int b), (3, .int 3), (4, .int 15)]) hx hb dX8_wordAt_33 hl (k := 0) rfl (by decide) (by decide) rfl (fun ls hl => ?_)
    refine lv_goto (tgt := 18) hx hb dX8_wordAt_36 (by decide) ?_
    refine lv_aload_n hx hb dX8_wordAt_18 rfl (lv_at hl 1 rfl) ?_
    refine va_get (D := D) (ci := 8) (v := .ref (y 17)) (C := RX8) (T := TX8) (N := 52) hx hb hts w_1 hown hK hP 0 rfl rfl 34 (by decide) w_2 (fun _ h9 => h9) rfl dX8_wordAt_19 ?_
    refine lv_iload hx hb dX8_wordAt_22 (lv_at hl 5 rfl) ?_
    refine lv_iload hx hb dX8_wordAt_24 (lv_at hl 0 rfl) ?_
    refine sv_iadd (v := 18) hx hb dX8_wordAt_26 (by decide) ?_
    refine sv_iald (v := 108) hx hb hK hP 2 1 rfl rfl (vp_in_iff.mpr (by decide)) (hwf 18 (by decide)) dX8_wordAt_27 ?_
    refine lv_bipush (v := 32) hx hb dX8_wordAt_28 (by decide) ?_
    refine lv_icmp_eq (tgt := 39) hx hb dX8_wordAt_30 (by decide) (fun h => absurd h (by decide)) (fun _ => ?_)
    refine lv_iinc (v := 4) (lv' := [(5, .int 4), (0, .ref (y 0)), (1, .int a), (2, .int b), (3, .int 3), (4, .int 15)]) hx hb dX8_wordAt_33 hl (k := 0) rfl (by decide) (by decide) rfl (fun ls hl => ?_)
    refine lv_goto (tgt := 18) hx hb dX8_wordAt_36 (by decide) ?_
    refine lv_aload_n hx hb dX8_wordAt_18 rfl (lv_at hl 1 rfl) ?_
    refine va_get (D := D) (ci := 8) (v := .ref (y 17)) (C := RX8) (T := TX8) (N := 52) hx hb hts w_1 hown hK hP 0 rfl rfl 34 (by decide) w_2 (fun _ h9 => h9) rfl dX8_wordAt_19 ?_
    refine lv_iload hx hb dX8_wordAt_22 (lv_at hl 5 rfl) ?_
    refine lv_iload hx hb dX8_wordAt_24 (lv_at hl 0 rfl) ?_
    refine sv_iadd (v := 19) hx hb dX8_wordAt_26 (by decide) ?_
    refine sv_iald (v := 101) hx hb hK hP 2 1 rfl rfl (vp_in_iff.mpr (by decide)) (hwf 19 (by decide)) dX8_wordAt_27 ?_
    refine lv_bipush (v := 32) hx hb dX8_wordAt_28 (by decide) ?_
    refine lv_icmp_eq (tgt := 39) hx hb dX8_wordAt_30 (by decide) (fun h => absurd h (by decide)) (fun _ => ?_)
    refine lv_iinc (v := 5) (lv' := [(5, .int 5), (0, .ref (y 0)), (1, .int a), (2, .int b), (3, .int 3), (4, .int 15)]) hx hb dX8_wordAt_33 hl (k := 0) rfl (by decide) (by decide) rfl (fun ls hl => ?_)
    refine lv_goto (tgt := 18) hx hb dX8_wordAt_36 (by decide) ?_
    refine lv_aload_n hx hb dX8_wordAt_18 rfl (lv_at hl 1 rfl) ?_
    refine va_get (D := D) (ci := 8) (v := .ref (y 17)) (C := RX8) (T := TX8) (N := 52) hx hb hts w_1 hown hK hP 0 rfl rfl 34 (by decide) w_2 (fun _ h9 => h9) rfl dX8_wordAt_19 ?_
    refine lv_iload hx hb dX8_wordAt_22 (lv_at hl 5 rfl) ?_
    refine lv_iload hx hb dX8_wordAt_24 (lv_at hl 0 rfl) ?_
    refine sv_iadd (v := 20) hx hb dX8_wordAt_26 (by decide) ?_
    refine sv_iald (v := 32) hx hb hK hP 2 1 rfl rfl (vp_in_iff.mpr (by decide)) (hwf 20 (by decide)) dX8_wordAt_27 ?_
    refine lv_bipush (v := 32) hx hb dX8_wordAt_28 (by decide) ?_
    refine lv_icmp_eq (tgt := 39) hx hb dX8_wordAt_30 (by decide) (fun _ => ?_) (fun h => absurd (by decide) h)
    refine lv_iload hx hb dX8_wordAt_39 (lv_at hl 0 rfl) ?_
    refine lv_iload_n hx hb dX8_wordAt_41 rfl (lv_at hl 3 rfl) ?_
    refine lv_iload_n hx hb dX8_wordAt_42 rfl (lv_at hl 2 rfl) ?_
    refine sv_isub (v := b - a) hx hb dX8_wordAt_43 rfl ?_
    refine lv_topi (fun v_37 ev_37 => ?_)
    refine lv_icmp_ne (tgt := 51) hx hb dX8_wordAt_44 (by decide) (fun c_44 => ?_) (fun c_44 => ?_)
    ·
      refine lv_iconst (v := 0) hx hb dX8_wordAt_51 (by decide) ?_
      refine lv_istore (lv' := [(6, .int 0), (5, .int 5), (0, .ref (y 0)), (1, .int a), (2, .int b), (3, .int 3), (4, .int 15)]) hx hb dX8_wordAt_52 hl (by decide) rfl (fun ls hl => ?_)
      refine lv_iconst (v := 0) hx hb dX8_wordAt_54 (by decide) ?_
      refine lv_istore (lv' := [(7, .int 0), (6, .int 0), (5, .int 5), (0, .ref (y 0)), (1, .int a), (2, .int b), (3, .int 3), (4, .int 15)]) hx hb dX8_wordAt_55 hl (by decide) rfl (fun ls hl => ?_)
      refine lv_iload hx hb dX8_wordAt_57 (lv_at hl 0 rfl) ?_
      refine lv_iload hx hb dX8_wordAt_59 (lv_at hl 2 rfl) ?_
      refine lv_icmp_ge (tgt := 104) hx hb dX8_wordAt_61 (by decide) (fun h => absurd h (by decide)) (fun _ => ?_)
      refine lv_iload hx hb dX8_wordAt_64 (lv_at hl 1 rfl) ?_
      refine lv_if_eq (tgt := 104) hx hb dX8_wordAt_66 (by decide) (fun _ => ?_) (fun h => absurd (by decide) h)
      refine lv_iload hx hb dX8_wordAt_104 (lv_at hl 1 rfl) ?_
      refine lv_if_eq (tgt := 111) hx hb dX8_wordAt_106 (by decide) (fun _ => ?_) (fun h => absurd (by decide) h)
      refine lv_iload hx hb dX8_wordAt_111 (lv_at hl 7 rfl) ?_
      refine lv_iload hx hb dX8_wordAt_113 (lv_at hl 2 rfl) ?_
      refine lv_iconst (v := 1) hx hb dX8_wordAt_115 (by decide) ?_
      refine sv_iadd (v := 6) hx hb dX8_wordAt_116 (by decide) ?_
      refine sv_iadd (v := 21) hx hb dX8_wordAt_117 (by decide) ?_
      refine lv_istore (lv' := [(4, .int 21), (7, .int 0), (6, .int 0), (5, .int 5), (0, .ref (y 0)), (1, .int a), (2, .int b), (3, .int 3)]) hx hb dX8_wordAt_118 hl (by decide) rfl (fun ls hl => ?_)
      refine lv_iinc (v := 4) (lv' := [(3, .int 4), (4, .int 21), (7, .int 0), (6, .int 0), (5, .int 5), (0, .ref (y 0)), (1, .int a), (2, .int b)]) hx hb dX8_wordAt_120 hl (k := 7) rfl (by decide) (by decide) rfl (fun ls hl => ?_)
      refine lv_goto (tgt := 5) hx hb dX8_wordAt_123 (by decide) ?_
      exact J_4_21 ls (lv_sub hl [5, 6, 7, 0, 1] rfl)
    ·
      refine lv_iconst (v := 1) hx hb dX8_wordAt_47 (by decide) ?_
      refine lv_goto (tgt := 52) hx hb dX8_wordAt_48 (by decide) ?_
      refine lv_istore (lv' := [(6, .int 1), (5, .int 5), (0, .ref (y 0)), (1, .int a), (2, .int b), (3, .int 3), (4, .int 15)]) hx hb dX8_wordAt_52 hl (by decide) rfl (fun ls hl => ?_)
      refine lv_iconst (v := 0) hx hb dX8_wordAt_54 (by decide) ?_
      refine lv_istore (lv' := [(7, .int 0), (6, .int 1), (5, .int 5), (0, .ref (y 0)), (1, .int a), (2, .int b), (3, .int 3), (4, .int 15)]) hx hb dX8_wordAt_55 hl (by decide) rfl (fun ls hl => ?_)
      refine lv_iload hx hb dX8_wordAt_57 (lv_at hl 0 rfl) ?_
      refine lv_iload hx hb dX8_wordAt_59 (lv_at hl 2 rfl) ?_
      refine lv_icmp_ge (tgt := 104) hx hb dX8_wordAt_61 (by decide) (fun h => absurd h (by decide)) (fun _ => ?_)
      refine lv_iload hx hb dX8_wordAt_64 (lv_at hl 1 rfl) ?_
      refine lv_if_eq (tgt := 104) hx hb dX8_wordAt_66 (by decide) (fun h => absurd h (by decide)) (fun _ => ?_)
      refine lv_aload_n hx hb dX8_wordAt_69 rfl (lv_at hl 3 rfl) ?_
      refine va_get (D := D) (ci := 8) (v := .ref (y 17)) (C := RX8) (T := TX8) (N := 52) hx hb hts w_1 hown hK hP 0 rfl rfl 34 (by decide) w_2 (fun _ h9 => h9) rfl dX8_wordAt_70 ?_
      refine lv_iload hx hb dX8_wordAt_73 (lv_at hl 7 rfl) ?_
      refine lv_iload hx hb dX8_wordAt_75 (lv_at hl 0 rfl) ?_
      refine sv_iadd (v := 15) hx hb dX8_wordAt_77 (by decide) ?_
      refine sv_iald (v := 99) hx hb hK hP 2 1 rfl rfl (vp_in_iff.mpr (by decide)) (hwf 15 (by decide)) dX8_wordAt_78 ?_
      refine lv_aload_n hx hb dX8_wordAt_79 rfl (lv_at hl 3 rfl) ?_
      refine va_get (D := D) (ci := 8) (v := .ref (y 1)) (C := RX8) (T := TX8) (N := 52) hx hb hts w_1 hown hK hP 0 rfl rfl 0 (by decide) w_3 (fun _ h9 => h9) rfl dX8_wordAt_80 ?_
      refine lv_iload_n hx hb dX8_wordAt_83 rfl (lv_at hl 4 rfl) ?_
      refine lv_iload hx hb dX8_wordAt_84 (lv_at hl 0 rfl) ?_
      refine sv_iadd (v := a + 0) hx hb dX8_wordAt_86 rfl ?_
      refine lv_topi (fun v_38 ev_38 => ?_)
      refine sv_iald (v := m_tape v_38.toNatClampNeg) hx hb hK hP 1 1 rfl rfl (by rw [ev_38]; exact wa_in h0 hab hb9 (c_44.trans ev_37) (by decide)) rfl dX8_wordAt_87 ?_
      refine lv_topi (fun v_39 ev_39 => ?_)
      refine lv_icmp_ne (tgt := 95) hx hb dX8_wordAt_88 (by decide) (fun c_88 => ?_) (fun c_88 => ?_)
      ·
        refine lv_iconst (v := 0) hx hb dX8_wordAt_95 (by decide) ?_
        refine lv_istore (lv' := [(6, .int 0), (7, .int 0), (5, .int 5), (0, .ref (y 0)), (1, .int a), (2, .int b), (3, .int 3), (4, .int 15)]) hx hb dX8_wordAt_96 hl (by decide) rfl (fun ls hl => ?_)
        refine lv_iinc (v := 1) (lv' := [(7, .int 1), (6, .int 0), (5, .int 5), (0, .ref (y 0)), (1, .int a), (2, .int b), (3, .int 3), (4, .int 15)]) hx hb dX8_wordAt_98 hl (k := 1) rfl (by decide) (by decide) rfl (fun ls hl => ?_)
        refine lv_goto (tgt := 57) hx hb dX8_wordAt_101 (by decide) ?_
        refine lv_iload hx hb dX8_wordAt_57 (lv_at hl 0 rfl) ?_
        refine lv_iload hx hb dX8_wordAt_59 (lv_at hl 2 rfl) ?_
        refine lv_icmp_ge (tgt := 104) hx hb dX8_wordAt_61 (by decide) (fun h => absurd h (by decide)) (fun _ => ?_)
        refine lv_iload hx hb dX8_wordAt_64 (lv_at hl 1 rfl) ?_
        refine lv_if_eq (tgt := 104) hx hb dX8_wordAt_66 (by decide) (fun _ => ?_) (fun h => absurd (by decide) h)
        refine lv_iload hx hb dX8_wordAt_104 (lv_at hl 1 rfl) ?_
        refine lv_if_eq (tgt := 111) hx hb dX8_wordAt_106 (by decide) (fun _ => ?_) (fun h => absurd (by decide) h)
        refine lv_iload hx hb dX8_wordAt_111 (lv_at hl 7 rfl) ?_
        refine lv_iload hx hb dX8_wordAt_113 (lv_at hl 2 rfl) ?_
        refine lv_iconst (v := 1) hx hb dX8_wordAt_115 (by decide) ?_
        refine sv_iadd (v := 6) hx hb dX8_wordAt_116 (by decide) ?_
        refine sv_iadd (v := 21) hx hb dX8_wordAt_117 (by decide) ?_
        refine lv_istore (lv' := [(4, .int 21), (7, .int 1), (6, .int 0), (5, .int 5), (0, .ref (y 0)), (1, .int a), (2, .int b), (3, .int 3)]) hx hb dX8_wordAt_118 hl (by decide) rfl (fun ls hl => ?_)
        refine lv_iinc (v := 4) (lv' := [(3, .int 4), (4, .int 21), (7, .int 1), (6, .int 0), (5, .int 5), (0, .ref (y 0)), (1, .int a), (2, .int b)]) hx hb dX8_wordAt_120 hl (k := 7) rfl (by decide) (by decide) rfl (fun ls hl => ?_)
        refine lv_goto (tgt := 5) hx hb dX8_wordAt_123 (by decide) ?_
        exact J_4_21 ls (lv_sub hl [5, 6, 7, 0, 1] rfl)
      ·
        refine lv_iconst (v := 1) hx hb dX8_wordAt_91 (by decide) ?_
        refine lv_goto (tgt := 96) hx hb dX8_wordAt_92 (by decide) ?_
        refine lv_istore (lv' := [(6, .int 1), (7, .int 0), (5, .int 5), (0, .ref (y 0)), (1, .int a), (2, .int b), (3, .int 3), (4, .int 15)]) hx hb dX8_wordAt_96 hl (by decide) rfl (fun ls hl => ?_)
        refine lv_iinc (v := 1) (lv' := [(7, .int 1), (6, .int 1), (5, .int 5), (0, .ref (y 0)), (1, .int a), (2, .int b), (3, .int 3), (4, .int 15)]) hx hb dX8_wordAt_98 hl (k := 1) rfl (by decide) (by decide) rfl (fun ls hl => ?_)
        refine lv_goto (tgt := 57) hx hb dX8_wordAt_101 (by decide) ?_
        refine lv_iload hx hb dX8_wordAt_57 (lv_at hl 0 rfl) ?_
        refine lv_iload hx hb dX8_wordAt_59 (lv_at hl 2 rfl) ?_
        refine lv_icmp_ge (tgt := 104) hx hb dX8_wordAt_61 (by decide) (fun h => absurd h (by decide)) (fun _ => ?_)
        refine lv_iload hx hb dX8_wordAt_64 (lv_at hl 1 rfl) ?_
        refine lv_if_eq (tgt := 104) hx hb dX8_wordAt_66 (by decide) (fun h => absurd h (by decide)) (fun _ => ?_)
        refine lv_aload_n hx hb dX8_wordAt_69 rfl (lv_at hl 3 rfl) ?_
        refine va_get (D := D) (ci := 8) (v := .ref (y 17)) (C := RX8) (T := TX8) (N := 52) hx hb hts w_1 hown hK hP 0 rfl rfl 34 (by decide) w_2 (fun _ h9 => h9) rfl dX8_wordAt_70 ?_
        refine lv_iload hx hb dX8_wordAt_73 (lv_at hl 7 rfl) ?_
        refine lv_iload hx hb dX8_wordAt_75 (lv_at hl 0 rfl) ?_
        refine sv_iadd (v := 16) hx hb dX8_wordAt_77 (by decide) ?_
        refine sv_iald (v := 121) hx hb hK hP 2 1 rfl rfl (vp_in_iff.mpr (by decide)) (hwf 16 (by decide)) dX8_wordAt_78 ?_
        refine lv_aload_n hx hb dX8_wordAt_79 rfl (lv_at hl 3 rfl) ?_
        refine va_get (D := D) (ci := 8) (v := .ref (y 1)) (C := RX8) (T := TX8) (N := 52) hx hb hts w_1 hown hK hP 0 rfl rfl 0 (by decide) w_3 (fun _ h9 => h9) rfl dX8_wordAt_80 ?_
        refine lv_iload_n hx hb dX8_wordAt_83 rfl (lv_at hl 4 rfl) ?_
        refine lv_iload hx hb dX8_wordAt_84 (lv_at hl 0 rfl) ?_
        refine sv_iadd (v := a + 1) hx hb dX8_wordAt_86 rfl ?_
        refine sv_iald (v := m_tape (a + 1).toNatClampNeg) hx hb hK hP 1 1 rfl rfl (wa_in h0 hab hb9 (c_44.trans ev_37) (by decide)) rfl dX8_wordAt_87 ?_
        refine lv_topi (fun v_40 ev_40 => ?_)
        refine lv_icmp_ne (tgt := 95) hx hb dX8_wordAt_88 (by decide) (fun c_88 => ?_) (fun c_88 => ?_)
        ·
          refine lv_iconst (v := 0) hx hb dX8_wordAt_95 (by decide) ?_
          refine lv_istore (lv' := [(6, .int 0), (7, .int 1), (5, .int 5), (0, .ref (y 0)), (1, .int a), (2, .int b), (3, .int 3), (4, .int 15)]) hx hb dX8_wordAt_96 hl (by decide) rfl (fun ls hl => ?_)
          refine lv_iinc (v := 2) (lv' := [(7, .int 2), (6, .int 0), (5, .int 5), (0, .ref (y 0)), (1, .int a), (2, .int b), (3, .int 3), (4, .int 15)]) hx hb dX8_wordAt_98 hl (k := 1) rfl (by decide) (by decide) rfl (fun ls hl => ?_)
          refine lv_goto (tgt := 57) hx hb dX8_wordAt_101 (by decide) ?_
          refine lv_iload hx hb dX8_wordAt_57 (lv_at hl 0 rfl) ?_
          refine lv_iload hx hb dX8_wordAt_59 (lv_at hl 2 rfl) ?_
          refine lv_icmp_ge (tgt := 104) hx hb dX8_wordAt_61 (by decide) (fun h => absurd h (by decide)) (fun _ => ?_)
          refine lv_iload hx hb dX8_wordAt_64 (lv_at hl 1 rfl) ?_
          refine lv_if_eq (tgt := 104) hx hb dX8_wordAt_66 (by decide) (fun _ => ?_) (fun h => absurd (by decide) h)
          refine lv_iload hx hb dX8_wordAt_104 (lv_at hl 1 rfl) ?_
          refine lv_if_eq (tgt := 111) hx hb dX8_wordAt_106 (by decide) (fun _ => ?_) (fun h => absurd (by decide) h)
          refine lv_iload hx hb dX8_wordAt_111 (lv_at hl 7 rfl) ?_
          refine lv_iload hx hb dX8_wordAt_113 (lv_at hl 2 rfl) ?_
          refine lv_iconst (v := 1) hx hb dX8_wordAt_115 (by decide) ?_
          refine sv_iadd (v := 6) hx hb dX8_wordAt_116 (by decide) ?_
          refine sv_iadd (v := 21) hx hb dX8_wordAt_117 (by decide) ?_
          refine lv_istore (lv' := [(4, .int 21), (7, .int 2), (6, .int 0), (5, .int 5), (0, .ref (y 0)), (1, .int a), (2, .int b), (3, .int 3)]) hx hb dX8_wordAt_118 hl (by decide) rfl (fun ls hl => ?_)
          refine lv_iinc (v := 4) (lv' := [(3, .int 4), (4, .int 21), (7, .int 2), (6, .int 0), (5, .int 5), (0, .ref (y 0)), (1, .int a), (2, .int b)]) hx hb dX8_wordAt_120 hl (k := 7) rfl (by decide) (by decide) rfl (fun ls hl => ?_)
          refine lv_goto (tgt := 5) hx hb dX8_wordAt_123 (by decide) ?_
          exact J_4_21 ls (lv_sub hl [5, 6, 7, 0, 1] rfl)
        ·
          refine lv_iconst (v := 1) hx hb dX8_wordAt_91 (by decide) ?_
          refine lv_goto (tgt := 96) hx hb dX8_wordAt_92 (by decide) ?_
          refine lv_istore (lv' := [(6, .int 1), (7, .int 1), (5, .int 5), (0, .ref (y 0)), (1, .int a), (2, .int b), (3, .int 3), (4, .int 15)]) hx hb dX8_wordAt_96 hl (by decide) rfl (fun ls hl => ?_)
          refine lv_iinc (v := 2) (lv' := [(7, .int 2), (6, .int 1), (5, .int 5), (0, .ref (y 0)), (1, .int a), (2, .int b), (3, .int 3), (4, .int 15)]) hx hb dX8_wordAt_98 hl (k := 1) rfl (by decide) (by decide) rfl (fun ls hl => ?_)
          refine lv_goto (tgt := 57) hx hb dX8_wordAt_101 (by decide) ?_
          refine lv_iload hx hb dX8_wordAt_57 (lv_at hl 0 rfl) ?_
          refine lv_iload hx hb dX8_wordAt_59 (lv_at hl 2 rfl) ?_
          refine lv_icmp_ge (tgt := 104) hx hb dX8_wordAt_61 (by decide) (fun h => absurd h (by decide)) (fun _ => ?_)
          refine lv_iload hx hb dX8_wordAt_64 (lv_at hl 1 rfl) ?_
          refine lv_if_eq (tgt := 104) hx hb dX8_wordAt_66 (by decide) (fun h => absurd h (by decide)) (fun _ => ?_)
          refine lv_aload_n hx hb dX8_wordAt_69 rfl (lv_at hl 3 rfl) ?_
          refine va_get (D := D) (ci := 8) (v := .ref (y 17)) (C := RX8) (T := TX8) (N := 52) hx hb hts w_1 hown hK hP 0 rfl rfl 34 (by decide) w_2 (fun _ h9 => h9) rfl dX8_wordAt_70 ?_
          refine lv_iload hx hb dX8_wordAt_73 (lv_at hl 7 rfl) ?_
          refine lv_iload hx hb dX8_wordAt_75 (lv_at hl 0 rfl) ?_
          refine sv_iadd (v := 17) hx hb dX8_wordAt_77 (by decide) ?_
          refine sv_iald (v := 99) hx hb hK hP 2 1 rfl rfl (vp_in_iff.mpr (by decide)) (hwf 17 (by decide)) dX8_wordAt_78 ?_
          refine lv_aload_n hx hb dX8_wordAt_79 rfl (lv_at hl 3 rfl) ?_
          refine va_get (D := D) (ci := 8) (v := .ref (y 1)) (C := RX8) (T := TX8) (N := 52) hx hb hts w_1 hown hK hP 0 rfl rfl 0 (by decide) w_3 (fun _ h9 => h9) rfl dX8_wordAt_80 ?_
          refine lv_iload_n hx hb dX8_wordAt_83 rfl (lv_at hl 4 rfl) ?_
          refine lv_iload hx hb dX8_wordAt_84 (lv_at hl 0 rfl) ?_
          refine sv_iadd (v := a + 2) hx hb dX8_wordAt_86 rfl ?_
          refine lv_topi (fun v_41 ev_41 => ?_)
          refine sv_iald (v := m_tape v_41.toNatClampNeg) hx hb hK hP 1 1 rfl rfl (by rw [ev_41]; exact wa_in h0 hab hb9 (c_44.trans ev_37) (by decide)) rfl dX8_wordAt_87 ?_
          refine lv_topi (fun v_42 ev_42 => ?_)
          refine lv_icmp_ne (tgt := 95) hx hb dX8_wordAt_88 (by decide) (fun c_88 => ?_) (fun c_88 => ?_)
          ·
            refine lv_iconst (v := 0) hx hb dX8_wordAt_95 (by decide) ?_
            refine lv_istore (lv' := [(6, .int 0), (7, .int 2), (5, .int 5), (0, .ref (y 0)), (1, .int a), (2, .int b), (3, .int 3), (4, .int 15)]) hx hb dX8_wordAt_96 hl (by decide) rfl (fun ls hl => ?_)
            refine lv_iinc (v := 3) (lv' := [(7, .int 3), (6, .int 0), (5, .int 5), (0, .ref (y 0)), (1, .int a), (2, .int b), (3, .int 3), (4, .int 15)]) hx hb dX8_wordAt_98 hl (k := 1) rfl (by decide) (by decide) rfl (fun ls hl => ?_)
            refine lv_goto (tgt := 57) hx hb dX8_wordAt_101 (by decide) ?_
            refine lv_iload hx hb dX8_wordAt_57 (lv_at hl 0 rfl) ?_
            refine lv_iload hx hb dX8_wordAt_59 (lv_at hl 2 rfl) ?_
            refine lv_icmp_ge (tgt := 104) hx hb dX8_wordAt_61 (by decide) (fun h => absurd h (by decide)) (fun _ => ?_)
            refine lv_iload hx hb dX8_wordAt_64 (lv_at hl 1 rfl) ?_
            refine lv_if_eq (tgt := 104) hx hb dX8_wordAt_66 (by decide) (fun _ => ?_) (fun h => absurd (by decide) h)
            refine lv_iload hx hb dX8_wordAt_104 (lv_at hl 1 rfl) ?_
            refine lv_if_eq (tgt := 111) hx hb dX8_wordAt_106 (by decide) (fun _ => ?_) (fun h => absurd (by decide) h)
            refine lv_iload hx hb dX8_wordAt_111 (lv_at hl 7 rfl) ?_
            refine lv_iload hx hb dX8_wordAt_113 (lv_at hl 2 rfl) ?_
            refine lv_iconst (v := 1) hx hb dX8_wordAt_115 (by decide) ?_
            refine sv_iadd (v := 6) hx hb dX8_wordAt_116 (by decide) ?_
            refine sv_iadd (v := 21) hx hb dX8_wordAt_117 (by decide) ?_
            refine lv_istore (lv' := [(4, .int 21), (7, .int 3), (6, .int 0), (5, .int 5), (0, .ref (y 0)), (1, .int a), (2, .int b), (3, .int 3)]) hx hb dX8_wordAt_118 hl (by decide) rfl (fun ls hl => ?_)
            refine lv_iinc (v := 4) (lv' := [(3, .int 4), (4, .int 21), (7, .int 3), (6, .int 0), (5, .int 5), (0, .ref (y 0)), (1, .int a), (2, .int b)]) hx hb dX8_wordAt_120 hl (k := 7) rfl (by decide) (by decide) rfl (fun ls hl => ?_)
            refine lv_goto (tgt := 5) hx hb dX8_wordAt_123 (by decide) ?_
            exact J_4_21 ls (lv_sub hl [5, 6, 7, 0, 1] rfl)
          ·
            refine lv_iconst (v := 1) hx hb dX8_wordAt_91 (by decide) ?_
            refine lv_goto (tgt := 96) hx hb dX8_wordAt_92 (by decide) ?_
            refine lv_istore (lv' := [(6, .int 1), (7, .int 2), (5, .int 5), (0, .ref (y 0)), (1, .int a), (2, .int b), (3, .int 3), (4, .int 15)]) hx hb dX8_wordAt_96 hl (by decide) rfl (fun ls hl => ?_)
            refine lv_iinc (v := 3) (lv' := [(7, .int 3), (6, .int 1), (5, .int 5), (0, .ref (y 0)), (1, .int a), (2, .int b), (3, .int 3), (4, .int 15)]) hx hb dX8_wordAt_98 hl (k := 1) rfl (by decide) (by decide) rfl (fun ls hl => ?_)
            refine lv_goto (tgt := 57) hx hb dX8_wordAt_101 (by decide) ?_
            refine lv_iload hx hb dX8_wordAt_57 (lv_at hl 0 rfl) ?_
            refine lv_iload hx hb dX8_wordAt_59 (lv_at hl 2 rfl) ?_
            refine lv_icmp_ge (tgt := 104) hx hb dX8_wordAt_61 (by decide) (fun h => absurd h (by decide)) (fun _ => ?_)
            refine lv_iload hx hb dX8_wordAt_64 (lv_at hl 1 rfl) ?_
            refine lv_if_eq (tgt := 104) hx hb dX8_wordAt_66 (by decide) (fun h => absurd h (by decide)) (fun _ => ?_)
            refine lv_aload_n hx hb dX8_wordAt_69 rfl (lv_at hl 3 rfl) ?_
            refine va_get (D := D) (ci := 8) (v := .ref (y 17)) (C := RX8) (T := TX8) (N := 52) hx hb hts w_1 hown hK hP 0 rfl rfl 34 (by decide) w_2 (fun _ h9 => h9) rfl dX8_wordAt_70 ?_
            refine lv_iload hx hb dX8_wordAt_73 (lv_at hl 7 rfl) ?_
            refine lv_iload hx hb dX8_wordAt_75 (lv_at hl 0 rfl) ?_
            refine sv_iadd (v := 18) hx hb dX8_wordAt_77 (by decide) ?_
            refine sv_iald (v := 108) hx hb hK hP 2 1 rfl rfl (vp_in_iff.mpr (by decide)) (hwf 18 (by decide)) dX8_wordAt_78 ?_
            refine lv_aload_n hx hb dX8_wordAt_79 rfl (lv_at hl 3 rfl) ?_
            refine va_get (D := D) (ci := 8) (v := .ref (y 1)) (C := RX8) (T := TX8) (N := 52) hx hb hts w_1 hown hK hP 0 rfl rfl 0 (by decide) w_3 (fun _ h9 => h9) rfl dX8_wordAt_80 ?_
            refine lv_iload_n hx hb dX8_wordAt_83 rfl (lv_at hl 4 rfl) ?_
            refine lv_iload hx hb dX8_wordAt_84 (lv_at hl 0 rfl) ?_
            refine sv_iadd (v := a + 3) hx hb dX8_wordAt_86 rfl ?_
            refine lv_topi (fun v_43 ev_43 => ?_)
            refine sv_iald (v := m_tape v_43.toNatClampNeg) hx hb hK hP 1 1 rfl rfl (by rw [ev_43]; exact wa_in h0 hab hb9 (c_44.trans ev_37) (by decide)) rfl dX8_wordAt_87 ?_
            refine lv_topi (fun v_44 ev_44 => ?_)
            refine lv_icmp_ne (tgt := 95) hx hb dX8_wordAt_88 (by decide) (fun c_88 => ?_) (fun c_88 => ?_)
            ·
              refine lv_iconst (v := 0) hx hb dX8_wordAt_95 (by decide) ?_
              refine lv_istore (lv' := [(6, .int 0), (7, .int 3), (5, .int 5), (0, .ref (y 0)), (1, .int a), (2, .int b), (3, .int 3), (4, .int 15)]) hx hb dX8_wordAt_96 hl (by decide) rfl (fun ls hl => ?_)
              refine lv_iinc (v := 4) (lv' := [(7, .int 4), (6, .int 0), (5, .int 5), (0, .ref (y 0)), (1, .int a), (2, .int b), (3, .int 3), (4, .int 15)]) hx hb dX8_wordAt_98 hl (k := 1) rfl (by decide) (by decide) rfl (fun ls hl => ?_)
              refine lv_goto (tgt := 57) hx hb dX8_wordAt_101 (by decide) ?_
              refine lv_iload hx hb dX8_wordAt_57 (lv_at hl 0 rfl) ?_
              refine lv_iload hx hb dX8_wordAt_59 (lv_at hl 2 rfl) ?_
              refine lv_icmp_ge (tgt := 104) hx hb dX8_wordAt_61 (by decide) (fun h => absurd h (by decide)) (fun _ => ?_)
              refine lv_iload hx hb dX8_wordAt_64 (lv_at hl 1 rfl) ?_
              refine lv_if_eq (tgt := 104) hx hb dX8_wordAt_66 (by decide) (fun _ => ?_) (fun h => absurd (by decide) h)
              refine lv_iload hx hb dX8_wordAt_104 (lv_at hl 1 rfl) ?_
              refine lv_if_eq (tgt := 111) hx hb dX8_wordAt_106 (by decide) (fun _ => ?_) (fun h => absurd (by decide) h)
              refine lv_iload hx hb dX8_wordAt_111 (lv_at hl 7 rfl) ?_
              refine lv_iload hx hb dX8_wordAt_113 (lv_at hl 2 rfl) ?_
              refine lv_iconst (v := 1) hx hb dX8_wordAt_115 (by decide) ?_
              refine sv_iadd (v := 6) hx hb dX8_wordAt_116 (by decide) ?_
              refine sv_iadd (v := 21) hx hb dX8_wordAt_117 (by decide) ?_
              refine lv_istore (lv' := [(4, .int 21), (7, .int 4), (6, .int 0), (5, .int 5), (0, .ref (y 0)), (1, .int a), (2, .int b), (3, .int 3)]) hx hb dX8_wordAt_118 hl (by decide) rfl (fun ls hl => ?_)
              refine lv_iinc (v := 4) (lv' := [(3, .int 4), (4, .int 21), (7, .int 4), (6, .int 0), (5, .int 5), (0, .ref (y 0)), (1, .int a), (2, .int b)]) hx hb dX8_wordAt_120 hl (k := 7) rfl (by decide) (by decide) rfl (fun ls hl => ?_)
              refine lv_goto (tgt := 5) hx hb dX8_wordAt_123 (by decide) ?_
              exact J_4_21 ls (lv_sub hl [5, 6, 7, 0, 1] rfl)
            ·
              refine lv_iconst (v := 1) hx hb dX8_wordAt_91 (by decide) ?_
              refine lv_goto (tgt := 96) hx hb dX8_wordAt_92 (by decide) ?_
              refine lv_istore (lv' := [(6, .int 1), (7, .int 3), (5, .int 5), (0, .ref (y 0)), (1, .int a), (2, .int b), (3, .int 3), (4, .int 15)]) hx hb dX8_wordAt_96 hl (by decide) rfl (fun ls hl => ?_)
              refine lv_iinc (v := 4) (lv' := [(7, .int 4), (6, .int 1), (5, .int 5), (0, .ref (y 0)), (1, .int a), (2, .int b), (3, .int 3), (4, .int 15)]) hx hb dX8_wordAt_98 hl (k := 1) rfl (by decide) (by decide) rfl (fun ls hl => ?_)
              refine lv_goto (tgt := 57) hx hb dX8_wordAt_101 (by decide) ?_
              refine lv_iload hx hb dX8_wordAt_57 (lv_at hl 0 rfl) ?_
              refine lv_iload hx hb dX8_wordAt_59 (lv_at hl 2 rfl) ?_
              refine lv_icmp_ge (tgt := 104) hx hb dX8_wordAt_61 (by decide) (fun h => absurd h (by decide)) (fun _ => ?_)
              refine lv_iload hx hb dX8_wordAt_64 (lv_at hl 1 rfl) ?_
              refine lv_if_eq (tgt := 104) hx hb dX8_wordAt_66 (by decide) (fun h => absurd h (by decide)) (fun _ => ?_)
              refine lv_aload_n hx hb dX8_wordAt_69 rfl (lv_at hl 3 rfl) ?_
              refine va_get (D := D) (ci := 8) (v := .ref (y 17)) (C := RX8) (T := TX8) (N := 52) hx hb hts w_1 hown hK hP 0 rfl rfl 34 (by decide) w_2 (fun _ h9 => h9) rfl dX8_wordAt_70 ?_
              refine lv_iload hx hb dX8_wordAt_73 (lv_at hl 7 rfl) ?_
              refine lv_iload hx hb dX8_wordAt_75 (lv_at hl 0 rfl) ?_
              refine sv_iadd (v := 19) hx hb dX8_wordAt_77 (by decide) ?_
              refine sv_iald (v := 101) hx hb hK hP 2 1 rfl rfl (vp_in_iff.mpr (by decide)) (hwf 19 (by decide)) dX8_wordAt_78 ?_
              refine lv_aload_n hx hb dX8_wordAt_79 rfl (lv_at hl 3 rfl) ?_
              refine va_get (D := D) (ci := 8) (v := .ref (y 1)) (C := RX8) (T := TX8) (N := 52) hx hb hts w_1 hown hK hP 0 rfl rfl 0 (by decide) w_3 (fun _ h9 => h9) rfl dX8_wordAt_80 ?_
              refine lv_iload_n hx hb dX8_wordAt_83 rfl (lv_at hl 4 rfl) ?_
              refine lv_iload hx hb dX8_wordAt_84 (lv_at hl 0 rfl) ?_
              refine sv_iadd (v := a + 4) hx hb dX8_wordAt_86 rfl ?_
              refine lv_topi (fun v_45 ev_45 => ?_)
              refine sv_iald (v := m_tape v_45.toNatClampNeg) hx hb hK hP 1 1 rfl rfl (by rw [ev_45]; exact wa_in h0 hab hb9 (c_44.trans ev_37) (by decide)) rfl dX8_wordAt_87 ?_
              refine lv_topi (fun v_46 ev_46 => ?_)
              refine lv_icmp_ne (tgt := 95) hx hb dX8_wordAt_88 (by decide) (fun c_88 => ?_) (fun c_88 => ?_)
              ·
                refine lv_iconst (v := 0) hx hb dX8_wordAt_95 (by decide) ?_
                refine lv_istore (lv' := [(6, .int 0), (7, .int 4), (5, .int 5), (0, .ref (y 0)), (1, .int a), (2, .int b), (3, .int 3), (4, .int 15)]) hx hb dX8_wordAt_96 hl (by decide) rfl (fun ls hl => ?_)
                refine lv_iinc (v := 5) (lv' := [(7, .int 5), (6, .int 0), (5, .int 5), (0, .ref (y 0)), (1, .int a), (2, .int b), (3, .int 3), (4, .int 15)]) hx hb dX8_wordAt_98 hl (k := 1) rfl (by decide) (by decide) rfl (fun ls hl => ?_)
                refine lv_goto (tgt := 57) hx hb dX8_wordAt_101 (by decide) ?_
                refine lv_iload hx hb dX8_wordAt_57 (lv_at hl 0 rfl) ?_
                refine lv_iload hx hb dX8_wordAt_59 (lv_at hl 2 rfl) ?_
                refine lv_icmp_ge (tgt := 104) hx hb dX8_wordAt_61 (by decide) (fun _ => ?_) (fun h => absurd (by decide) h)
                refine lv_iload hx hb dX8_wordAt_104 (lv_at hl 1 rfl) ?_
                refine lv_if_eq (tgt := 111) hx hb dX8_wordAt_106 (by decide) (fun _ => ?_) (fun h => absurd (by decide) h)
                refine lv_iload hx hb dX8_wordAt_111 (lv_at hl 7 rfl) ?_
                refine lv_iload hx hb dX8_wordAt_113 (lv_at hl 2 rfl) ?_
                refine lv_iconst (v := 1) hx hb dX8_wordAt_115 (by decide) ?_
                refine sv_iadd (v := 6) hx hb dX8_wordAt_116 (by decide) ?_
                refine sv_iadd (v := 21) hx hb dX8_wordAt_117 (by decide) ?_
                refine lv_istore (lv' := [(4, .int 21), (7, .int 5), (6, .int 0), (5, .int 5), (0, .ref (y 0)), (1, .int a), (2, .int b), (3, .int 3)]) hx hb dX8_wordAt_118 hl (by decide) rfl (fun ls hl => ?_)
                refine lv_iinc (v := 4) (lv' := [(3, .int 4), (4, .int 21), (7, .int 5), (6, .int 0), (5, .int 5), (0, .ref (y 0)), (1, .int a), (2, .int b)]) hx hb dX8_wordAt_120 hl (k := 7) rfl (by decide) (by decide) rfl (fun ls hl => ?_)
                refine lv_goto (tgt := 5) hx hb dX8_wordAt_123 (by decide) ?_
                exact J_4_21 ls (lv_sub hl [5, 6, 7, 0, 1] rfl)
              ·
                refine lv_iconst (v := 1) hx hb dX8_wordAt_91 (by decide) ?_
                refine lv_goto (tgt := 96) hx hb dX8_wordAt_92 (by decide) ?_
                refine lv_istore (lv' := [(6, .int 1), (7, .int 4), (5, .int 5), (0, .ref (y 0)), (1, .int a), (2, .int b), (3, .int 3), (4, .int 15)]) hx hb dX8_wordAt_96 hl (by decide) rfl (fun ls hl => ?_)
                refine lv_iinc (v := 5) (lv' := [(7, .int 5), (6, .int 1), (5, .int 5), (0, .ref (y 0)), (1, .int a), (2, .int b), (3, .int 3), (4, .int 15)]) hx hb dX8_wordAt_98 hl (k := 1) rfl (by decide) (by decide) rfl (fun ls hl => ?_)
                refine lv_goto (tgt := 57) hx hb dX8_wordAt_101 (by decide) ?_
                refine lv_iload hx hb dX8_wordAt_57 (lv_at hl 0 rfl) ?_
                refine lv_iload hx hb dX8_wordAt_59 (lv_at hl 2 rfl) ?_
                refine lv_icmp_ge (tgt := 104) hx hb dX8_wordAt_61 (by decide) (fun _ => ?_) (fun h => absurd (by decide) h)
                refine lv_iload hx hb dX8_wordAt_104 (lv_at hl 1 rfl) ?_
                refine lv_if_eq (tgt := 111) hx hb dX8_wordAt_106 (by decide) (fun h => absurd h (by decide)) (fun _ => ?_)
                refine lv_iload_n hx hb dX8_wordAt_109 rfl (lv_at hl 6 rfl) ?_
                rw [← hQ]
                exact W.iret (v := 3) hx hb hr (fun t ht hW => ⟨_, rfl, Or.inr (vp_in_iff.mpr (by decide)), ht⟩) (fun q h => nomatch h) dX8_wordAt_110
  have J_2_10 : ∀ (ls : Array Slot), lv_has ls 8 [(0, .ref (y 0)), (1, .int a), (2, .int b), (3, .int 2), (4, .int 10)] → W p l e (headSpec wsX8_wordAt ({ frames := 0, cells := 0, slots := 0, locals := 0 } : Room)).room s m ([.ref (y 0), .int a, .int b] : List Value).toArray below meth c s.heap [] 0 0 Q0 (F0 m 5 ls []) := by
    intro ls hl
    refine lv_iload hx hb dX8_wordAt_5 (lv_at hl 4 rfl) ?_
    refine lv_aload_n hx hb dX8_wordAt_7 rfl (lv_at hl 0 rfl) ?_
    refine va_get (D := D) (ci := 8) (v := .ref (y 17)) (C := RX8) (T := TX8) (N := 52) hx hb hts w_1 hown hK hP 0 rfl rfl 34 (by decide) w_2 (fun _ h9 => h9) rfl dX8_wordAt_8 ?_
    refine va_alen (v := 43) hx hb hK hP 2 1 rfl rfl rfl dX8_wordAt_11 ?_
    refine lv_icmp_ge (tgt := 126) hx hb dX8_wordAt_12 (by decide) (fun h => absurd h (by decide)) (fun _ => ?_)
    refine lv_iconst (v := 0) hx hb dX8_wordAt_15 (by decide) ?_
    refine lv_istore (lv' := [(5, .int 0), (0, .ref (y 0)), (1, .int a), (2, .int b), (3, .int 2), (4, .int 10)]) hx hb dX8_wordAt_16 hl (by decide) rfl (fun ls hl => ?_)
    refine lv_aload_n hx hb dX8_wordAt_18 rfl (lv_at hl 1 rfl) ?_
    refine va_get (D := D) (ci := 8) (v := .ref (y 17)) (C := RX8) (T := TX8) (N := 52) hx hb hts w_1 hown hK hP 0 rfl rfl 34 (by decide) w_2 (fun _ h9 => h9) rfl dX8_wordAt_19 ?_
    refine lv_iload hx hb dX8_wordAt_22 (lv_at hl 5 rfl) ?_
    refine lv_iload hx hb dX8_wordAt_24 (lv_at hl 0 rfl) ?_
    refine sv_iadd (v := 10) hx hb dX8_wordAt_26 (by decide) ?_
    refine sv_iald (v := 110) hx hb hK hP 2 1 rfl rfl (vp_in_iff.mpr (by decide)) (hwf 10 (by decide)) dX8_wordAt_27 ?_
    refine lv_bipush (v := 32) hx hb dX8_wordAt_28 (by decide) ?_
    refine lv_icmp_eq (tgt := 39) hx hb dX8_wordAt_30 (by decide) (fun h => absurd h (by decide)) (fun _ => ?_)
    refine lv_iinc (v := 1) (lv' := [(5, .int 1), (0, .ref (y 0)), (1, .int a), (2, .int b), (3, .int 2), (4, .int 10)]) hx hb dX8_wordAt_33 hl (k := 0) rfl (by decide) (by decide) rfl (fun ls hl => ?_)
    refine lv_goto (tgt := 18) hx hb dX8_wordAt_36 (by decide) ?_
    refine lv_aload_n hx hb dX8_wordAt_18 rfl (lv_at hl 1 rfl) ?_
    refine va_get (D := D) (ci := 8) (v := .ref (y 17)) (C := RX8) (T := TX8) (N := 52) hx hb hts w_1 hown hK hP 0 rfl rfl 34 (by decide) w_2 (fun _ h9 => h9) rfl dX8_wordAt_19 ?_
    refine lv_iload hx hb dX8_wordAt_22 (lv_at hl 5 rfl) ?_
    refine lv_iload hx hb dX8_wordAt_24 (lv_at hl 0 rfl) ?_
    refine sv_iadd (v := 11) hx hb dX8_wordAt_26 (by decide) ?_
    refine sv_iald (v := 101) hx hb hK hP 2 1 rfl rfl (vp_in_iff.mpr (by decide)) (hwf 11 (by decide)) dX8_wordAt_27 ?_
    refine lv_bipush (v := 32) hx hb dX8_wordAt_28 (by decide) ?_
    refine lv_icmp_eq (tgt := 39) hx hb dX8_wordAt_30 (by decide) (fun h => absurd h (by decide)) (fun _ => ?_)
    refine lv_iinc (v := 2) (lv' := [(5, .int 2), (0, .ref (y 0)), (1, .int a), (2, .int b), (3, .int 2), (4, .int 10)]) hx hb dX8_wordAt_33 hl (k := 0) rfl (by decide) (by decide) rfl (fun ls hl => ?_)
    refine lv_goto (tgt := 18) hx hb dX8_wordAt_36 (by decide) ?_
    refine lv_aload_n hx hb dX8_wordAt_18 rfl (lv_at hl 1 rfl) ?_
    refine va_get (D := D) (ci := 8) (v := .ref (y 17)) (C := RX8) (T := TX8) (N := 52) hx hb hts w_1 hown hK hP 0 rfl rfl 34 (by decide) w_2 (fun _ h9 => h9) rfl dX8_wordAt_19 ?_
    refine lv_iload hx hb dX8_wordAt_22 (lv_at hl 5 rfl) ?_
    refine lv_iload hx hb dX8_wordAt_24 (lv_at hl 0 rfl) ?_
    refine sv_iadd (v := 12) hx hb dX8_wordAt_26 (by decide) ?_
    refine sv_iald (v := 101) hx hb hK hP 2 1 rfl rfl (vp_in_iff.mpr (by decide)) (hwf 12 (by decide)) dX8_wordAt_27 ?_
    refine lv_bipush (v := 32) hx hb dX8_wordAt_28 (by decide) ?_
    refine lv_icmp_eq (tgt := 39) hx hb dX8_wordAt_30 (by decide) (fun h => absurd h (by decide)) (fun _ => ?_)
    refine lv_iinc (v := 3) (lv' := [(5, .int 3), (0, .ref (y 0)), (1, .int a), (2, .int b), (3, .int 2), (4, .int 10)]) hx hb dX8_wordAt_33 hl (k := 0) rfl (by decide) (by decide) rfl (fun ls hl => ?_)
    refine lv_goto (tgt := 18) hx hb dX8_wordAt_36 (by decide) ?_
    refine lv_aload_n hx hb dX8_wordAt_18 rfl (lv_at hl 1 rfl) ?_
    refine va_get (D := D) (ci := 8) (v := .ref (y 17)) (C := RX8) (T := TX8) (N := 52) hx hb hts w_1 hown hK hP 0 rfl rfl 34 (by decide) w_2 (fun _ h9 => h9) rfl dX8_wordAt_19 ?_
    refine lv_iload hx hb dX8_wordAt_22 (lv_at hl 5 rfl) ?_
    refine lv_iload hx hb dX8_wordAt_24 (lv_at hl 0 rfl) ?_
    refine sv_iadd (v := 13) hx hb dX8_wordAt_26 (by decide) ?_
    refine sv_iald (v := 100) hx hb hK hP 2 1 rfl rfl (vp_in_iff.mpr (by decide)) (hwf 13 (by decide)) dX8_wordAt_27 ?_
    refine lv_bipush (v := 32) hx hb dX8_wordAt_28 (by decide) ?_
    refine lv_icmp_eq (tgt := 39) hx hb dX8_wordAt_30 (by decide) (fun h => absurd h (by decide)) (fun _ => ?_)
    refine lv_iinc (v := 4) (lv' := [(5, .int 4), (0, .ref (y 0)), (1, .int a), (2, .int b), (3, .int 2), (4, .int 10)]) hx hb dX8_wordAt_33 hl (k := 0) rfl (by decide) (by decide) rfl (fun ls hl => ?_)
    refine lv_goto (tgt := 18) hx hb dX8_wordAt_36 (by decide) ?_
    refine lv_aload_n hx hb dX8_wordAt_18 rfl (lv_at hl 1 rfl) ?_
    refine va_get (D := D) (ci := 8) (v := .ref (y 17)) (C := RX8) (T := TX8) (N := 52) hx hb hts w_1 hown hK hP 0 rfl rfl 34 (by decide) w_2 (fun _ h9 => h9) rfl dX8_wordAt_19 ?_
    refine lv_iload hx hb dX8_wordAt_22 (lv_at hl 5 rfl) ?_
    refine lv_iload hx hb dX8_wordAt_24 (lv_at hl 0 rfl) ?_
    refine sv_iadd (v := 14) hx hb dX8_wordAt_26 (by decide) ?_
    refine sv_iald (v := 32) hx hb hK hP 2 1 rfl rfl (vp_in_iff.mpr (by decide)) (hwf 14 (by decide)) dX8_wordAt_27 ?_
    refine lv_bipush (v := 32) hx hb dX8_wordAt_28 (by decide) ?_
    refine lv_icmp_eq (tgt := 39) hx hb dX8_wordAt_30 (by decide) (fun _ => ?_) (fun h => absurd (by decide) h)
    refine lv_iload hx hb dX8_wordAt_39 (lv_at hl 0 rfl) ?_
    refine lv_iload_n hx hb dX8_wordAt_41 rfl (lv_at hl 3 rfl) ?_
    refine lv_iload_n hx hb dX8_wordAt_42 rfl (lv_at hl 2 rfl) ?_
    refine sv_isub (v := b - a) hx hb dX8_wordAt_43 rfl ?_
    refine lv_topi (fun v_47 ev_47 => ?_)
    refine lv_icmp_ne (tgt := 51) hx hb dX8_wordAt_44 (by decide) (fun c_44 => ?_) (fun c_44 => ?_)
    ·
      refine lv_iconst (v := 0) hx hb dX8_wordAt_51 (by decide) ?_
      refine lv_istore (lv' := [(6, .int 0), (5, .int 4), (0, .ref (y 0)), (1, .int a), (2, .int b), (3, .int 2), (4, .int 10)]) hx hb dX8_wordAt_52 hl (by decide) rfl (fun ls hl => ?_)
      refine lv_iconst (v := 0) hx hb dX8_wordAt_54 (by decide) ?_
      refine lv_istore (lv' := [(7, .int 0), (6, .int 0), (5, .int 4), (0, .ref (y 0)), (1, .int a), (2, .int b), (3, .int 2), (4, .int 10)]) hx hb dX8_wordAt_55 hl (by decide) rfl (fun ls hl => ?_)
      refine lv_iload hx hb dX8_wordAt_57 (lv_at hl 0 rfl) ?_
      refine lv_iload hx hb dX8_wordAt_59 (lv_at hl 2 rfl) ?_
      refine lv_icmp_ge (tgt := 104) hx hb dX8_wordAt_61 (by decide) (fun h => absurd h (by decide)) (fun _ => ?_)
      refine lv_iload hx hb dX8_wordAt_64 (lv_at hl 1 rfl) ?_
      refine lv_if_eq (tgt := 104) hx hb dX8_wordAt_66 (by decide) (fun _ => ?_) (fun h => absurd (by decide) h)
      refine lv_iload hx hb dX8_wordAt_104 (lv_at hl 1 rfl) ?_
      refine lv_if_eq (tgt := 111) hx hb dX8_wordAt_106 (by decide) (fun _ => ?_) (fun h => absurd (by decide) h)
      refine lv_iload hx hb dX8_wordAt_111 (lv_at hl 7 rfl) ?_
      refine lv_iload hx hb dX8_wordAt_113 (lv_at hl 2 rfl) ?_
      refine lv_iconst (v := 1) hx hb dX8_wordAt_115 (by decide) ?_
      refine sv_iadd (v := 5) hx hb dX8_wordAt_116 (by decide) ?_
      refine sv_iadd (v := 15) hx hb dX8_wordAt_117 (by decide) ?_
      refine lv_istore (lv' := [(4, .int 15), (7, .int 0), (6, .int 0), (5, .int 4), (0, .ref (y 0)), (1, .int a), (2, .int b), (3, .int 2)]) hx hb dX8_wordAt_118 hl (by decide) rfl (fun ls hl => ?_)
      refine lv_iinc (v := 3) (lv' := [(3, .int 3), (4, .int 15), (7, .int 0), (6, .int 0), (5, .int 4), (0, .ref (y 0)), (1, .int a), (2, .int b)]) hx hb dX8_wordAt_120 hl (k := 7) rfl (by decide) (by decide) rfl (fun ls hl => ?_)
      refine lv_goto (tgt := 5) hx hb dX8_wordAt_123 (by decide) ?_
      exact J_3_15 ls (lv_sub hl [5, 6, 7, 0, 1] rfl)
    ·
      refine lv_iconst (v := 1) hx hb dX8_wordAt_47 (by decide) ?_
      refine lv_goto (tgt := 52) hx hb dX8_wordAt_48 (by decide) ?_
      refine lv_istore (lv' := [(6, .int 1), (5, .int 4), (0, .ref (y 0)), (1, .int a), (2, .int b), (3, .int 2), (4, .int 10)]) hx hb dX8_wordAt_52 hl (by decide) rfl (fun ls hl => ?_)
      refine lv_iconst (v := 0) hx hb dX8_wordAt_54 (by decide) ?_
      refine lv_istore (lv' := [(7, .int 0), (6, .int 1), (5, .int 4), (0, .ref (y 0)), (1, .int a), (2, .int b), (3, .int 2), (4, .int 10)]) hx hb dX8_wordAt_55 hl (by decide) rfl (fun ls hl => ?_)
      refine lv_iload hx hb dX8_wordAt_57 (lv_at hl 0 rfl) ?_
      refine lv_iload hx hb dX8_wordAt_59 (lv_at hl 2 rfl) ?_
      refine lv_icmp_ge (tgt := 104) hx hb dX8_wordAt_61 (by decide) (fun h => absurd h (by decide)) (fun _ => ?_)
      refine lv_iload hx hb dX8_wordAt_64 (lv_at hl 1 rfl) ?_
      refine lv_if_eq (tgt := 104) hx hb dX8_wordAt_66 (by decide) (fun h => absurd h (by decide)) (fun _ => ?_)
      refine lv_aload_n hx hb dX8_wordAt_69 rfl (lv_at hl 3 rfl) ?_
      refine va_get (D := D) (ci := 8) (v := .ref (y 17)) (C := RX8) (T := TX8) (N := 52) hx hb hts w_1 hown hK hP 0 rfl rfl 34 (by decide) w_2 (fun _ h9 => h9) rfl dX8_wordAt_70 ?_
      refine lv_iload hx hb dX8_wordAt_73 (lv_at hl 7 rfl) ?_
      refine lv_iload hx hb dX8_wordAt_75 (lv_at hl 0 rfl) ?_
      refine sv_iadd (v := 10) hx hb dX8_wordAt_77 (by decide) ?_
      refine sv_iald (v := 110) hx hb hK hP 2 1 rfl rfl (vp_in_iff.mpr (by decide)) (hwf 10 (by decide)) dX8_wordAt_78 ?_
      refine lv_aload_n hx hb dX8_wordAt_79 rfl (lv_at hl 3 rfl) ?_
      refine va_get (D := D) (ci := 8) (v := .ref (y 1)) (C := RX8) (T := TX8) (N := 52) hx hb hts w_1 hown hK hP 0 rfl rfl 0 (by decide) w_3 (fun _ h9 => h9) rfl dX8_wordAt_80 ?_
      refine lv_iload_n hx hb dX8_wordAt_83 rfl (lv_at hl 4 rfl) ?_
      refine lv_iload hx hb dX8_wordAt_84 (lv_at hl 0 rfl) ?_
      refine sv_iadd (v := a + 0) hx hb dX8_wordAt_86 rfl ?_
      refine lv_topi (fun v_48 ev_48 => ?_)
      refine sv_iald (v := m_tape v_48.toNatClampNeg) hx hb hK hP 1 1 rfl rfl (by rw [ev_48]; exact wa_in h0 hab hb9 (c_44.trans ev_47) (by decide)) rfl dX8_wordAt_87 ?_
      refine lv_topi (fun v_49 ev_49 => ?_)
      refine lv_icmp_ne (tgt := 95) hx hb dX8_wordAt_88 (by decide) (fun c_88 => ?_) (fun c_88 => ?_)
      ·
        refine lv_iconst (v := 0) hx hb dX8_wordAt_95 (by decide) ?_
        refine lv_istore (lv' := [(6, .int 0), (7, .int 0), (5, .int 4), (0, .ref (y 0)), (1, .int a), (2, .int b), (3, .int 2), (4, .int 10)]) hx hb dX8_wordAt_96 hl (by decide) rfl (fun ls hl => ?_)
        refine lv_iinc (v := 1) (lv' := [(7, .int 1), (6, .int 0), (5, .int 4), (0, .ref (y 0)), (1, .int a), (2, .int b), (3, .int 2), (4, .int 10)]) hx hb dX8_wordAt_98 hl (k := 1) rfl (by decide) (by decide) rfl (fun ls hl => ?_)
        refine lv_goto (tgt := 57) hx hb dX8_wordAt_101 (by decide) ?_
        refine lv_iload hx hb dX8_wordAt_57 (lv_at hl 0 rfl) ?_
        refine lv_iload hx hb dX8_wordAt_59 (lv_at hl 2 rfl) ?_
        refine lv_icmp_ge (tgt := 104) hx hb dX8_wordAt_61 (by decide) (fun h => absurd h (by decide)) (fun _ => ?_)
        refine lv_iload hx hb dX8_wordAt_64 (lv_at hl 1 rfl) ?_
        refine lv_if_eq (tgt := 104) hx hb dX8_wordAt_66 (by decide) (fun _ => ?_) (fun h => absurd (by decide) h)
        refine lv_iload hx hb dX8_wordAt_104 (lv_at hl 1 rfl) ?_
        refine lv_if_eq (tgt := 111) hx hb dX8_wordAt_106 (by decide) (fun _ => ?_) (fun h => absurd (by decide) h)
        refine lv_iload hx hb dX8_wordAt_111 (lv_at hl 7 rfl) ?_
        refine lv_iload hx hb dX8_wordAt_113 (lv_at hl 2 rfl) ?_
        refine lv_iconst (v := 1) hx hb dX8_wordAt_115 (by decide) ?_
        refine sv_iadd (v := 5) hx hb dX8_wordAt_116 (by decide) ?_
        refine sv_iadd (v := 15) hx hb dX8_wordAt_117 (by decide) ?_
        refine lv_istore (lv' := [(4, .int 15), (7, .int 1), (6, .int 0), (5, .int 4), (0, .ref (y 0)), (1, .int a), (2, .int b), (3, .int 2)]) hx hb dX8_wordAt_118 hl (by decide) rfl (fun ls hl => ?_)
        refine lv_iinc (v := 3) (lv' := [(3, .int 3), (4, .int 15), (7, .int 1), (6, .int 0), (5, .int 4), (0, .ref (y 0)), (1, .int a), (2, .int b)]) hx hb dX8_wordAt_120 hl (k := 7) rfl (by decide) (by decide) rfl (fun ls hl => ?_)
        refine lv_goto (tgt := 5) hx hb dX8_wordAt_123 (by decide) ?_
        exact J_3_15 ls (lv_sub hl [5, 6, 7, 0, 1] rfl)
      ·
        refine lv_iconst (v := 1) hx hb dX8_wordAt_91 (by decide) ?_
        refine lv_goto (tgt := 96) hx hb dX8_wordAt_92 (by decide) ?_
        refine lv_istore (lv' := [(6, .int 1), (7, .int 0), (5, .int 4), (0, .ref (y 0)), (1, .int a), (2, .int b), (3, .int 2), (4, .int 10)]) hx hb dX8_wordAt_96 hl (by decide) rfl (fun ls hl => ?_)
        refine lv_iinc (v := 1) (lv' := [(7, .int 1), (6, .int 1), (5, .int 4), (0, .ref (y 0)), (1, .int a), (2, .int b), (3, .int 2), (4, .int 10)]) hx hb dX8_wordAt_98 hl (k := 1) rfl (by decide) (by decide) rfl (fun ls hl => ?_)
        refine lv_goto (tgt := 57) hx hb dX8_wordAt_101 (by decide) ?_
        refine lv_iload hx hb dX8_wordAt_57 (lv_at hl 0 rfl) ?_
        refine lv_iload hx hb dX8_wordAt_59 (lv_at hl 2 rfl) ?_
        refine lv_icmp_ge (tgt := 104) hx hb dX8_wordAt_61 (by decide) (fun h => absurd h (by decide)) (fun _ => ?_)
        refine lv_iload hx hb dX8_wordAt_64 (lv_at hl 1 rfl) ?_
        refine lv_if_eq (tgt := 104) hx hb dX8_wordAt_66 (by decide) (fun h => absurd h (by decide)) (fun _ => ?_)
        refine lv_aload_n hx hb dX8_wordAt_69 rfl (lv_at hl 3 rfl) ?_
        refine va_get (D := D) (ci := 8) (v := .ref (y 17)) (C := RX8) (T := TX8) (N := 52) hx hb hts w_1 hown hK hP 0 rfl rfl 34 (by decide) w_2 (fun _ h9 => h9) rfl dX8_wordAt_70 ?_
        refine lv_iload hx hb dX8_wordAt_73 (lv_at hl 7 rfl) ?_
        refine lv_iload hx hb dX8_wordAt_75 (lv_at hl 0 rfl) ?_
        refine sv_iadd (v := 11) hx hb dX8_wordAt_77 (by decide) ?_
        refine sv_iald (v := 101) hx hb hK hP 2 1 rfl rfl (vp_in_iff.mpr (by decide)) (hwf 11 (by decide)) dX8_wordAt_78 ?_
        refine lv_aload_n hx hb dX8_wordAt_79 rfl (lv_at hl 3 rfl) ?_
        refine va_get (D := D) (ci := 8) (v := .ref (y 1)) (C := RX8) (T := TX8) (N := 52) hx hb hts w_1 hown hK hP 0 rfl rfl 0 (by decide) w_3 (fun _ h9 => h9) rfl dX8_wordAt_80 ?_
        refine lv_iload_n hx hb dX8_wordAt_83 rfl (lv_at hl 4 rfl) ?_
        refine lv_iload hx hb dX8_wordAt_84 (lv_at hl 0 rfl) ?_
        refine sv_iadd (v := a + 1) hx hb dX8_wordAt_86 rfl ?_
        refine sv_iald (v := m_tape (a + 1).toNatClampNeg) hx hb hK hP 1 1 rfl rfl (wa_in h0 hab hb9 (c_44.trans ev_47) (by decide)) rfl dX8_wordAt_87 ?_
        refine lv_topi (fun v_50 ev_50 => ?_)
        refine lv_icmp_ne (tgt := 95) hx hb dX8_wordAt_88 (by decide) (fun c_88 => ?_) (fun c_88 => ?_)
        ·
          refine lv_iconst (v := 0) hx hb dX8_wordAt_95 (by decide) ?_
          refine lv_istore (lv' := [(6, .int 0), (7, .int 1), (5, .int 4), (0, .ref (y 0)), (1, .int a), (2, .int b), (3, .int 2), (4, .int 10)]) hx hb dX8_wordAt_96 hl (by decide) rfl (fun ls hl => ?_)
          refine lv_iinc (v := 2) (lv' := [(7, .int 2), (6, .int 0), (5, .int 4), (0, .ref (y 0)), (1, .int a), (2, .int b), (3, .int 2), (4, .int 10)]) hx hb dX8_wordAt_98 hl (k := 1) rfl (by decide) (by decide) rfl (fun ls hl => ?_)
          refine lv_goto (tgt := 57) hx hb dX8_wordAt_101 (by decide) ?_
          refine lv_iload hx hb dX8_wordAt_57 (lv_at hl 0 rfl) ?_
          refine lv_iload hx hb dX8_wordAt_59 (lv_at hl 2 rfl) ?_
          refine lv_icmp_ge (tgt := 104) hx hb dX8_wordAt_61 (by decide) (fun h => absurd h (by decide)) (fun _ => ?_)
          refine lv_iload hx hb dX8_wordAt_64 (lv_at hl 1 rfl) ?_
          refine lv_if_eq (tgt := 104) hx hb dX8_wordAt_66 (by decide) (fun _ => ?_) (fun h => absurd (by decide) h)
          refine lv_iload hx hb dX8_wordAt_104 (lv_at hl 1 rfl) ?_
          refine lv_if_eq (tgt := 111) hx hb dX8_wordAt_106 (by decide) (fun _ => ?_) (fun h => absurd (by decide) h)
          refine lv_iload hx hb dX8_wordAt_111 (lv_at hl 7 rfl) ?_
          refine lv_iload hx hb dX8_wordAt_113 (lv_at hl 2 rfl) ?_
          refine lv_iconst (v := 1) hx hb dX8_wordAt_115 (by decide) ?_
          refine sv_iadd (v := 5) hx hb dX8_wordAt_116 (by decide) ?_
          refine sv_iadd (v := 15) hx hb dX8_wordAt_117 (by decide) ?_
          refine lv_istore (lv' := [(4, .int 15), (7, .int 2), (6, .int 0), (5, .int 4), (0, .ref (y 0)), (1, .int a), (2, .int b), (3, .int 2)]) hx hb dX8_wordAt_118 hl (by decide) rfl (fun ls hl => ?_)
          refine lv_iinc (v := 3) (lv' := [(3, .int 3), (4, .int 15), (7, .int 2), (6, .int 0), (5, .int 4), (0, .ref (y 0)), (1, .int a), (2, .int b)]) hx hb dX8_wordAt_120 hl (k := 7) rfl (by decide) (by decide) rfl (fun ls hl => ?_)
          refine lv_goto (tgt := 5) hx hb dX8_wordAt_123 (by decide) ?_
          exact J_3_15 ls (lv_sub hl [5, 6, 7, 0, 1] rfl)
        ·
          refine lv_iconst (v := 1) hx hb dX8_wordAt_91 (by decide) ?_
          refine lv_goto (tgt := 96) hx hb dX8_wordAt_92 (by decide) ?_
          refine lv_istore (lv' := [(6, .int 1), (7, .int 1), (5, .int 4), (0, .ref (y 0)), (1, .int a), (2, .int b), (3, .int 2), (4, .int 10)]) hx hb dX8_wordAt_96 hl (by decide) rfl (fun ls hl => ?_)
          refine lv_iinc (v := 2) (lv' := [(7, .int 2), (6, .int 1), (5, .int 4), (0, .ref (y 0)), (1, .int a), (2, .int b), (3, .int 2), (4, .int 10)]) hx hb dX8_wordAt_98 hl (k := 1) rfl (by decide) (by decide) rfl (fun ls hl => ?_)
          refine lv_goto (tgt := 57) hx hb dX8_wordAt_101 (by decide) ?_
          refine lv_iload hx hb dX8_wordAt_57 (lv_at hl 0 rfl) ?_
          refine lv_iload hx hb dX8_wordAt_59 (lv_at hl 2 rfl) ?_
          refine lv_icmp_ge (tgt := 104) hx hb dX8_wordAt_61 (by decide) (fun h => absurd h (by decide)) (fun _ => ?_)
          refine lv_iload hx hb dX8_wordAt_64 (lv_at hl 1 rfl) ?_
          refine lv_if_eq (tgt := 104) hx hb dX8_wordAt_66 (by decide) (fun h => absurd h (by decide)) (fun _ => ?_)
          refine lv_aload_n hx hb dX8_wordAt_69 rfl (lv_at hl 3 rfl) ?_
          refine va_get (D := D) (ci := 8) (v := .ref (y 17)) (C := RX8) (T := TX8) (N := 52) hx hb hts w_1 hown hK hP 0 rfl rfl 34 (by decide) w_2 (fun _ h9 => h9) rfl dX8_wordAt_70 ?_
          refine lv_iload hx hb dX8_wordAt_73 (lv_at hl 7 rfl) ?_
          refine lv_iload hx hb dX8_wordAt_75 (lv_at hl 0 rfl) ?_
          refine sv_iadd (v := 12) hx hb dX8_wordAt_77 (by decide) ?_
          refine sv_iald (v := 101) hx hb hK hP 2 1 rfl rfl (vp_in_iff.mpr (by decide)) (hwf 12 (by decide)) dX8_wordAt_78 ?_
          refine lv_aload_n hx hb dX8_wordAt_79 rfl (lv_at hl 3 rfl) ?_
          refine va_get (D := D) (ci := 8) (v := .ref (y 1)) (C := RX8) (T := TX8) (N := 52) hx hb hts w_1 hown hK hP 0 rfl rfl 0 (by decide) w_3 (fun _ h9 => h9) rfl dX8_wordAt_80 ?_
          refine lv_iload_n hx hb dX8_wordAt_83 rfl (lv_at hl 4 rfl) ?_
          refine lv_iload hx hb dX8_wordAt_84 (lv_at hl 0 rfl) ?_
          refine sv_iadd (v := a + 2) hx hb dX8_wordAt_86 rfl ?_
          refine lv_topi (fun v_51 ev_51 => ?_)
          refine sv_iald (v := m_tape v_51.toNatClampNeg) hx hb hK hP 1 1 rfl rfl (by rw [ev_51]; exact wa_in h0 hab hb9 (c_44.trans ev_47) (by decide)) rfl dX8_wordAt_87 ?_
          refine lv_topi (fun v_52 ev_52 => ?_)
          refine lv_icmp_ne (tgt := 95) hx hb dX8_wordAt_88 (by decide) (fun c_88 => ?_) (fun c_88 => ?_)
          ·
            refine lv_iconst (v := 0) hx hb dX8_wordAt_95 (by decide) ?_
            refine lv_istore (lv' := [(6, .int 0), (7, .int 2), (5, .int 4), (0, .ref (y 0)), (1, .int a), (2, .int b), (3, .int 2), (4, .int 10)]) hx hb dX8_wordAt_96 hl (by decide) rfl (fun ls hl => ?_)
            refine lv_iinc (v := 3) (lv' := [(7, .int 3), (6, .int 0), (5, .int 4), (0, .ref (y 0)), (1, .int a), (2, .int b), (3, .int 2), (4, .int 10)]) hx hb dX8_wordAt_98 hl (k := 1) rfl (by decide) (by decide) rfl (fun ls hl => ?_)
            refine lv_goto (tgt := 57) hx hb dX8_wordAt_101 (by decide) ?_
            refine lv_iload hx hb dX8_wordAt_57 (lv_at hl 0 rfl) ?_
            refine lv_iload hx hb dX8_wordAt_59 (lv_at hl 2 rfl) ?_
            refine lv_icmp_ge (tgt := 104) hx hb dX8_wordAt_61 (by decide) (fun h => absurd h (by decide)) (fun _ => ?_)
            refine lv_iload hx hb dX8_wordAt_64 (lv_at hl 1 rfl) ?_
            refine lv_if_eq (tgt := 104) hx hb dX8_wordAt_66 (by decide) (fun _ => ?_) (fun h => absurd (by decide) h)
            refine lv_iload hx hb dX8_wordAt_104 (lv_at hl 1 rfl) ?_
            refine lv_if_eq (tgt := 111) hx hb dX8_wordAt_106 (by decide) (fun _ => ?_) (fun h => absurd (by decide) h)
            refine lv_iload hx hb dX8_wordAt_111 (lv_at hl 7 rfl) ?_
            refine lv_iload hx hb dX8_wordAt_113 (lv_at hl 2 rfl) ?_
            refine lv_iconst (v := 1) hx hb dX8_wordAt_115 (by decide) ?_
            refine sv_iadd (v := 5) hx hb dX8_wordAt_116 (by decide) ?_
            refine sv_iadd (v := 15) hx hb dX8_wordAt_117 (by decide) ?_
            refine lv_istore (lv' := [(4, .int 15), (7, .int 3), (6, .int 0), (5, .int 4), (0, .ref (y 0)), (1, .int a), (2, .int b), (3, .int 2)]) hx hb dX8_wordAt_118 hl (by decide) rfl (fun ls hl => ?_)
            refine lv_iinc (v := 3) (lv' := [(3, .int 3), (4, .int 15), (7, .int 3), (6, .int 0), (5, .int 4), (0, .ref (y 0)), (1, .int a), (2, .int b)]) hx hb dX8_wordAt_120 hl (k := 7) rfl (by decide) (by decide) rfl (fun ls hl => ?_)
            refine lv_goto (tgt := 5) hx hb dX8_wordAt_123 (by decide) ?_
            exact J_3_15 ls (lv_sub hl [5, 6, 7, 0, 1] rfl)
          ·
            refine lv_iconst (v := 1) hx hb dX8_wordAt_91 (by decide) ?_
            refine lv_goto (tgt := 96) hx hb dX8_wordAt_92 (by decide) ?_
            refine lv_istore (lv' := [(6, .int 1), (7, .int 2), (5, .int 4), (0, .ref (y 0)), (1, .int a), (2, .int b), (3, .int 2), (4, .int 10)]) hx hb dX8_wordAt_96 hl (by decide) rfl (fun ls hl => ?_)
            refine lv_iinc (v := 3) (lv' := [(7, .int 3), (6, .int 1), (5, .int 4), (0, .ref (y 0)), (1, .int a), (2, .int b), (3, .int 2), (4, .int 10)]) hx hb dX8_wordAt_98 hl (k := 1) rfl (by decide) (by decide) rfl (fun ls hl => ?_)
            refine lv_goto (tgt := 57) hx hb dX8_wordAt_101 (by decide) ?_
            refine lv_iload hx hb dX8_wordAt_57 (lv_at hl 0 rfl) ?_
            refine lv_iload hx hb dX8_wordAt_59 (lv_at hl 2 rfl) ?_
            refine lv_icmp_ge (tgt := 104) hx hb dX8_wordAt_61 (by decide) (fun h => absurd h (by decide)) (fun _ => ?_)
            refine lv_iload hx hb dX8_wordAt_64 (lv_at hl 1 rfl) ?_
            refine lv_if_eq (tgt := 104) hx hb dX8_wordAt_66 (by decide) (fun h => absurd h (by decide)) (fun _ => ?_)
            refine lv_aload_n hx hb dX8_wordAt_69 rfl (lv_at hl 3 rfl) ?_
            refine va_get (D := D) (ci := 8) (v := .ref (y 17)) (C := RX8) (T := TX8) (N := 52) hx hb hts w_1 hown hK hP 0 rfl rfl 34 (by decide) w_2 (fun _ h9 => h9) rfl dX8_wordAt_70 ?_
            refine lv_iload hx hb dX8_wordAt_73 (lv_at hl 7 rfl) ?_
            refine lv_iload hx hb dX8_wordAt_75 (lv_at hl 0 rfl) ?_
            refine sv_iadd (v := 13) hx hb dX8_wordAt_77 (by decide) ?_
            refine sv_iald (v := 100) hx hb hK hP 2 1 rfl rfl (vp_in_iff.mpr (by decide)) (hwf 13 (by decide)) dX8_wordAt_78 ?_
            refine lv_aload_n hx hb dX8_wordAt_79 rfl (lv_at hl 3 rfl) ?_
            refine va_get (D := D) (ci := 8) (v := .ref (y 1)) (C := RX8) (T := TX8) (N := 52) hx hb hts w_1 hown hK hP 0 rfl rfl 0 (by decide) w_3 (fun _ h9 => h9) rfl dX8_wordAt_80 ?_
            refine lv_iload_n hx hb dX8_wordAt_83 rfl (lv_at hl 4 rfl) ?_
            refine lv_iload hx hb dX8_wordAt_84 (lv_at hl 0 rfl) ?_
            refine sv_iadd (v := a + 3) hx hb dX8_wordAt_86 rfl ?_
            refine lv_topi (fun v_53 ev_53 => ?_)
            refine sv_iald (v := m_tape v_53.toNatClampNeg) hx hb hK hP 1 1 rfl rfl (by rw [ev_53]; exact wa_in h0 hab hb9 (c_44.trans ev_47) (by decide)) rfl dX8_wordAt_87 ?_
            refine lv_topi (fun v_54 ev_54 => ?_)
            refine lv_icmp_ne (tgt := 95) hx hb dX8_wordAt_88 (by decide) (fun c_88 => ?_) (fun c_88 => ?_)
            ·
              refine lv_iconst (v := 0) hx hb dX8_wordAt_95 (by decide) ?_
              refine lv_istore (lv' := [(6, .int 0), (7, .int 3), (5, .int 4), (0, .ref (y 0)), (1, .int a), (2, .int b), (3, .int 2), (4, .int 10)]) hx hb dX8_wordAt_96 hl (by decide) rfl (fun ls hl => ?_)
              refine lv_iinc (v := 4) (lv' := [(7, .int 4), (6, .int 0), (5, .int 4), (0, .ref (y 0)), (1, .int a), (2, .int b), (3, .int 2), (4, .int 10)]) hx hb dX8_wordAt_98 hl (k := 1) rfl (by decide) (by decide) rfl (fun ls hl => ?_)
              refine lv_goto (tgt := 57) hx hb dX8_wordAt_101 (by decide) ?_
              refine lv_iload hx hb dX8_wordAt_57 (lv_at hl 0 rfl) ?_
              refine lv_iload hx hb dX8_wordAt_59 (lv_at hl 2 rfl) ?_
              refine lv_icmp_ge (tgt := 104) hx hb dX8_wordAt_61 (by decide) (fun _ => ?_) (fun h => absurd (by decide) h)
              refine lv_iload hx hb dX8_wordAt_104 (lv_at hl 1 rfl) ?_
              refine lv_if_eq (tgt := 111) hx hb dX8_wordAt_106 (by decide) (fun _ => ?_) (fun h => absurd (by decide) h)
              refine lv_iload hx hb dX8_wordAt_111 (lv_at hl 7 rfl) ?_
              refine lv_iload hx hb dX8_wordAt_113 (lv_at hl 2 rfl) ?_
              refine lv_iconst (v := 1) hx hb dX8_wordAt_115 (by decide) ?_
              refine sv_iadd (v := 5) hx hb dX8_wordAt_116 (by decide) ?_
              refine sv_iadd (v := 15) hx hb dX8_wordAt_117 (by decide) ?_
              refine lv_istore (lv' := [(4, .int 15), (7, .int 4), (6, .int 0), (5, .int 4), (0, .ref (y 0)), (1, .int a), (2, .int b), (3, .int 2)]) hx hb dX8_wordAt_118 hl (by decide) rfl (fun ls hl => ?_)
              refine lv_iinc (v := 3) (lv' := [(3, .int 3), (4, .int 15), (7, .int 4), (6, .int 0), (5, .int 4), (0, .ref (y 0)), (1, .int a), (2, .int b)]) hx hb dX8_wordAt_120 hl (k := 7) rfl (by decide) (by decide) rfl (fun ls hl => ?_)
              refine lv_goto (tgt := 5) hx hb dX8_wordAt_123 (by decide) ?_
              exact J_3_15 ls (lv_sub hl [5, 6, 7, 0, 1] rfl)
            ·
              refine lv_iconst (v := 1) hx hb dX8_wordAt_91 (by decide) ?_
              refine lv_goto (tgt := 96) hx hb dX8_wordAt_92 (by decide) ?_
              refine lv_istore (lv' := [(6, .int 1), (7, .int 3), (5, .int 4), (0, .ref (y 0)), (1, .int a), (2, .int b), (3, .int 2), (4, .int 10)]) hx hb dX8_wordAt_96 hl (by decide) rfl (fun ls hl => ?_)
              refine lv_iinc (v := 4) (lv' := [(7, .int 4), (6, .int 1), (5, .int 4), (0, .ref (y 0)), (1, .int a), (2, .int b), (3, .int 2), (4, .int 10)]) hx hb dX8_wordAt_98 hl (k := 1) rfl (by decide) (by decide) rfl (fun ls hl => ?_)
              refine lv_goto (tgt := 57) hx hb dX8_wordAt_101 (by decide) ?_
              refine lv_iload hx hb dX8_wordAt_57 (lv_at hl 0 rfl) ?_
              refine lv_iload hx hb dX8_wordAt_59 (lv_at hl 2 rfl) ?_
              refine lv_icmp_ge (tgt := 104) hx hb dX8_wordAt_61 (by decide) (fun _ => ?_) (fun h => absurd (by decide) h)
              refine lv_iload hx hb dX8_wordAt_104 (lv_at hl 1 rfl) ?_
              refine lv_if_eq (tgt := 111) hx hb dX8_wordAt_106 (by decide) (fun h => absurd h (by decide)) (fun _ => ?_)
              refine lv_iload_n hx hb dX8_wordAt_109 rfl (lv_at hl 6 rfl) ?_
              rw [← hQ]
              exact W.iret (v := 2) hx hb hr (fun t ht hW => ⟨_, rfl, Or.inr (vp_in_iff.mpr (by decide)), ht⟩) (fun q h => nomatch h) dX8_wordAt_110
  have J_1_5 : ∀ (ls : Array Slot), lv_has ls 8 [(0, .ref (y 0)), (1, .int a), (2, .int b), (3, .int 1), (4, .int 5)] → W p l e (headSpec wsX8_wordAt ({ frames := 0, cells := 0, slots := 0, locals := 0 } : Room)).room s m ([.ref (y 0), .int a, .int b] : List Value).toArray below meth c s.heap [] 0 0 Q0 (F0 m 5 ls []) := by
    intro ls hl
    refine lv_iload hx hb dX8_wordAt_5 (lv_at hl 4 rfl) ?_
    refine lv_aload_n hx hb dX8_wordAt_7 rfl (lv_at hl 0 rfl) ?_
    refine va_get (D := D) (ci := 8) (v := .ref (y 17)) (C := RX8) (T := TX8) (N := 52) hx hb hts w_1 hown hK hP 0 rfl rfl 34 (by decide) w_2 (fun _ h9 => h9) rfl dX8_wordAt_8 ?_
    refine va_alen (v := 43) hx hb hK hP 2 1 rfl rfl rfl dX8_wordAt_11 ?_
    refine lv_icmp_ge (tgt := 126) hx hb dX8_wordAt_12 (by decide) (fun h => absurd h (by decide)) (fun _ => ?_)
    refine lv_iconst (v := 0) hx hb dX8_wordAt_15 (by decide) ?_
    refine lv_istore (lv' := [(5, .int 0), (0, .ref (y 0)), (1, .int a), (2, .int b), (3, .int 1), (4, .int 5)]) hx hb dX8_wordAt_16 hl (by decide) rfl (fun ls hl => ?_)
    refine lv_aload_n hx hb dX8_wordAt_18 rfl (lv_at hl 1 rfl) ?_
    refine va_get (D := D) (ci := 8) (v := .ref (y 17)) (C := RX8) (T := TX8) (N := 52) hx hb hts w_1 hown hK hP 0 rfl rfl 34 (by decide) w_2 (fun _ h9 => h9) rfl dX8_wordAt_19 ?_
    refine lv_iload hx hb dX8_wordAt_22 (lv_at hl 5 rfl) ?_
    refine lv_iload hx hb dX8_wordAt_24 (lv_at hl 0 rfl) ?_
    refine sv_iadd (v := 5) hx hb dX8_wordAt_26 (by decide) ?_
    refine sv_iald (v := 118) hx hb hK hP 2 1 rfl rfl (vp_in_iff.mpr (by decide)) (hwf 5 (by decide)) dX8_wordAt_27 ?_
    refine lv_bipush (v := 32) hx hb dX8_wordAt_28 (by decide) ?_
    refine lv_icmp_eq (tgt := 39) hx hb dX8_wordAt_30 (by decide) (fun h => absurd h (by decide)) (fun _ => ?_)
    refine lv_iinc (v := 1) (lv' := [(5, .int 1), (0, .ref (y 0)), (1, .int a), (2, .int b), (3, .int 1), (4, .int 5)]) hx hb dX8_wordAt_33 hl (k := 0) rfl (by decide) (by decide) rfl (fun ls hl => ?_)
    refine lv_goto (tgt := 18) hx hb dX8_wordAt_36 (by decide) ?_
    refine lv_aload_n hx hb dX8_wordAt_18 rfl (lv_at hl 1 rfl) ?_
    refine va_get (D := D) (ci := 8) (v := .ref (y 17)) (C := RX8) (T := TX8) (N := 52) hx hb hts w_1 hown hK hP 0 rfl rfl 34 (by decide) w_2 (fun _ h9 => h9) rfl dX8_wordAt_19 ?_
    refine lv_iload hx hb dX8_wordAt_22 (lv_at hl 5 rfl) ?_
    refine lv_iload hx hb dX8_wordAt_24 (lv_at hl 0 rfl) ?_
    refine sv_iadd (v := 6) hx hb dX8_wordAt_26 (by decide) ?_
    refine sv_iald (v := 111) hx hb hK hP 2 1 rfl rfl (vp_in_iff.mpr (by decide)) (hwf 6 (by decide)) dX8_wordAt_27 ?_
    refine lv_bipush (v := 32) hx hb dX8_wordAt_28 (by decide) ?_
    refine lv_icmp_eq (tgt := 39) hx hb dX8_wordAt_30 (by decide) (fun h => absurd h (by decide)) (fun _ => ?_)
    refine lv_iinc (v := 2) (lv' := [(5, .int 2), (0, .ref (y 0)), (1, .int a), (2, .int b), (3, .int 1), (4, .int 5)]) hx hb dX8_wordAt_33 hl (k := 0) rfl (by decide) (by decide) rfl (fun ls hl => ?_)
    refine lv_goto (tgt := 18) hx hb dX8_wordAt_36 (by decide) ?_
    refine lv_aload_n hx hb dX8_wordAt_18 rfl (lv_at hl 1 rfl) ?_
    refine va_get (D := D) (ci := 8) (v := .ref (y 17)) (C := RX8) (T := TX8) (N := 52) hx hb hts w_1 hown hK hP 0 rfl rfl 34 (by decide) w_2 (fun _ h9 => h9) rfl dX8_wordAt_19 ?_
    refine lv_iload hx hb dX8_wordAt_22 (lv_at hl 5 rfl) ?_
    refine lv_iload hx hb dX8_wordAt_24 (lv_at hl 0 rfl) ?_
    refine sv_iadd (v := 7) hx hb dX8_wordAt_26 (by decide) ?_
    refine sv_iald (v := 116) hx hb hK hP 2 1 rfl rfl (vp_in_iff.mpr (by decide)) (hwf 7 (by decide)) dX8_wordAt_27 ?_
    refine lv_bipush (v := 32) hx hb dX8_wordAt_28 (by decide) ?_
    refine lv_icmp_eq (tgt := 39) hx hb dX8_wordAt_30 (by decide) (fun h => absurd h (by decide)) (fun _ => ?_)
    refine lv_iinc (v := 3) (lv' := [(5, .int 3), (0, .ref (y 0)), (1, .int a), (2, .int b), (3, .int 1), (4, .int 5)]) hx hb dX8_wordAt_33 hl (k := 0) rfl (by decide) (by decide) rfl (fun ls hl => ?_)
    refine lv_goto (tgt := 18) hx hb dX8_wordAt_36 (by decide) ?_
    refine lv_aload_n hx hb dX8_wordAt_18 rfl (lv_at hl 1 rfl) ?_
    refine va_get (D := D) (ci := 8) (v := .ref (y 17)) (C := RX8) (T := TX8) (N := 52) hx hb hts w_1 hown hK hP 0 rfl rfl 34 (by decide) w_2 (fun _ h9 => h9) rfl dX8_wordAt_19 ?_
    refine lv_iload hx hb dX8_wordAt_22 (lv_at hl 5 rfl) ?_
    refine lv_iload hx hb dX8_wordAt_24 (lv_at hl 0 rfl) ?_
    refine sv_iadd (v := 8) hx hb dX8_wordAt_26 (by decide) ?_
    refine sv_iald (v := 101) hx hb hK hP 2 1 rfl rfl (vp_in_iff.mpr (by decide)) (hwf 8 (by decide)) dX8_wordAt_27 ?_
    refine lv_bipush (v := 32) hx hb dX8_wordAt_28 (by decide) ?_
    refine lv_icmp_eq (tgt := 39) hx hb dX8_wordAt_30 (by decide) (fun h => absurd h (by decide)) (fun _ => ?_)
    refine lv_iinc (v := 4) (lv' := [(5, .int 4), (0, .ref (y 0)), (1, .int a), (2, .int b), (3, .int 1), (4, .int 5)]) hx hb dX8_wordAt_33 hl (k := 0) rfl (by decide) (by decide) rfl (fun ls hl => ?_)
    refine lv_goto (tgt := 18) hx hb dX8_wordAt_36 (by decide) ?_
    refine lv_aload_n hx hb dX8_wordAt_18 rfl (lv_at hl 1 rfl) ?_
    refine va_get (D := D) (ci := 8) (v := .ref (y 17)) (C := RX8) (T := TX8) (N := 52) hx hb hts w_1 hown hK hP 0 rfl rfl 34 (by decide) w_2 (fun _ h9 => h9) rfl dX8_wordAt_19 ?_
    refine lv_iload hx hb dX8_wordAt_22 (lv_at hl 5 rfl) ?_
    refine lv_iload hx hb dX8_wordAt_24 (lv_at hl 0 rfl) ?_
    refine sv_iadd (v := 9) hx hb dX8_wordAt_26 (by decide) ?_
    refine sv_iald (v := 32) hx hb hK hP 2 1 rfl rfl (vp_in_iff.mpr (by decide)) (hwf 9 (by decide)) dX8_wordAt_27 ?_
    refine lv_bipush (v := 32) hx hb dX8_wordAt_28 (by decide) ?_
    refine lv_icmp_eq (tgt := 39) hx hb dX8_wordAt_30 (by decide) (fun _ => ?_) (fun h => absurd (by decide) h)
    refine lv_iload hx hb dX8_wordAt_39 (lv_at hl 0 rfl) ?_
    refine lv_iload_n hx hb dX8_wordAt_41 rfl (lv_at hl 3 rfl) ?_
    refine lv_iload_n hx hb dX8_wordAt_42 rfl (lv_at hl 2 rfl) ?_
    refine sv_isub (v := b - a) hx hb dX8_wordAt_43 rfl ?_
    refine lv_topi (fun v_55 ev_55 => ?_)
    refine lv_icmp_ne (tgt := 51) hx hb dX8_wordAt_44 (by decide) (fun c_44 => ?_) (fun c_44 => ?_)
    ·
      refine lv_iconst (v := 0) hx hb dX8_wordAt_51 (by decide) ?_
      refine lv_istore (lv' := [(6, .int 0), (5, .int 4), (0, .ref (y 0)), (1, .int a), (2, .int b), (3, .int 1), (4, .int 5)]) hx hb dX8_wordAt_52 hl (by decide) rfl (fun ls hl => ?_)
      refine lv_iconst (v := 0) hx hb dX8_wordAt_54 (by decide) ?_
      refine lv_istore (lv' := [(7, .int 0), (6, .int 0), (5, .int 4), (0, .ref (y 0)), (1, .int a), (2, .int b), (3, .int 1), (4, .int 5)]) hx hb dX8_wordAt_55 hl (by decide) rfl (fun ls hl => ?_)
      refine lv_iload hx hb dX8_wordAt_57 (lv_at hl 0 rfl) ?_
      refine lv_iload hx hb dX8_wordAt_59 (lv_at hl 2 rfl) ?_
      refine lv_icmp_ge (tgt := 104) hx hb dX8_wordAt_61 (by decide) (fun h => absurd h (by decide)) (fun _ => ?_)
      refine lv_iload hx hb dX8_wordAt_64 (lv_at hl 1 rfl) ?_
      refine lv_if_eq (tgt := 104) hx hb dX8_wordAt_66 (by decide) (fun _ => ?_) (fun h => absurd (by decide) h)
      refine lv_iload hx hb dX8_wordAt_104 (lv_at hl 1 rfl) ?_
      refine lv_if_eq (tgt := 111) hx hb dX8_wordAt_106 (by decide) (fun _ => ?_) (fun h => absurd (by decide) h)
      refine lv_iload hx hb dX8_wordAt_111 (lv_at hl 7 rfl) ?_
      refine lv_iload hx hb dX8_wordAt_113 (lv_at hl 2 rfl) ?_
      refine lv_iconst (v := 1) hx hb dX8_wordAt_115 (by decide) ?_
      refine sv_iadd (v := 5) hx hb dX8_wordAt_116 (by decide) ?_
      refine sv_iadd (v := 10) hx hb dX8_wordAt_117 (by decide) ?_
      refine lv_istore (lv' := [(4, .int 10), (7, .int 0), (6, .int 0), (5, .int 4), (0, .ref (y 0)), (1, .int a), (2, .int b), (3, .int 1)]) hx hb dX8_wordAt_118 hl (by decide) rfl (fun ls hl => ?_)
      refine lv_iinc (v := 2) (lv' := [(3, .int 2), (4, .int 10), (7, .int 0), (6, .int 0), (5, .int 4), (0, .ref (y 0)), (1, .int a), (2, .int b)]) hx hb dX8_wordAt_120 hl (k := 7) rfl (by decide) (by decide) rfl (fun ls hl => ?_)
      refine lv_goto (tgt := 5) hx hb dX8_wordAt_123 (by decide) ?_
      exact J_2_10 ls (lv_sub hl [5, 6, 7, 0, 1] rfl)
    ·
      refine lv_iconst (v := 1) hx hb dX8_wordAt_47 (by decide) ?_
      refine lv_goto (tgt := 52) hx hb dX8_wordAt_48 (by decide) ?_
      refine lv_istore (lv' := [(6, .int 1), (5, .int 4), (0, .ref (y 0)), (1, .int a), (2, .int b), (3, .int 1), (4, .int 5)]) hx hb dX8_wordAt_52 hl (by decide) rfl (fun ls hl => ?_)
      refine lv_iconst (v := 0) hx hb dX8_wordAt_54 (by decide) ?_
      refine lv_istore (lv' := [(7, .int 0), (6, .int 1), (5, .int 4), (0, .ref (y 0)), (1, .int a), (2, .int b), (3, .int 1), (4, .int 5)]) hx hb dX8_wordAt_55 hl (by decide) rfl (fun ls hl => ?_)
      refine lv_iload hx hb dX8_wordAt_57 (lv_at hl 0 rfl) ?_
      refine lv_iload hx hb dX8_wordAt_59 (lv_at hl 2 rfl) ?_
      refine lv_icmp_ge (tgt := 104) hx hb dX8_wordAt_61 (by decide) (fun h => absurd h (by decide)) (fun _ => ?_)
      refine lv_iload hx hb dX8_wordAt_64 (lv_at hl 1 rfl) ?_
      refine lv_if_eq (tgt := 104) hx hb dX8_wordAt_66 (by decide) (fun h => absurd h (by decide)) (fun _ => ?_)
      refine lv_aload_n hx hb dX8_wordAt_69 rfl (lv_at hl 3 rfl) ?_
      refine va_get (D := D) (ci := 8) (v := .ref (y 17)) (C := RX8) (T := TX8) (N := 52) hx hb hts w_1 hown hK hP 0 rfl rfl 34 (by decide) w_2 (fun _ h9 => h9) rfl dX8_wordAt_70 ?_
      refine lv_iload hx hb dX8_wordAt_73 (lv_at hl 7 rfl) ?_
      refine lv_iload hx hb dX8_wordAt_75 (lv_at hl 0 rfl) ?_
      refine sv_iadd (v := 5) hx hb dX8_wordAt_77 (by decide) ?_
      refine sv_iald (v := 118) hx hb hK hP 2 1 rfl rfl (vp_in_iff.mpr (by decide)) (hwf 5 (by decide)) dX8_wordAt_78 ?_
      refine lv_aload_n hx hb dX8_wordAt_79 rfl (lv_at hl 3 rfl) ?_
      refine va_get (D := D) (ci := 8) (v := .ref (y 1)) (C := RX8) (T := TX8) (N := 52) hx hb hts w_1 hown hK hP 0 rfl rfl 0 (by decide) w_3 (fun _ h9 => h9) rfl dX8_wordAt_80 ?_
      refine lv_iload_n hx hb dX8_wordAt_83 rfl (lv_at hl 4 rfl) ?_
      refine lv_iload hx hb dX8_wordAt_84 (lv_at hl 0 rfl) ?_
      refine sv_iadd (v := a + 0) hx hb dX8_wordAt_86 rfl ?_
      refine lv_topi (fun v_56 ev_56 => ?_)
      refine sv_iald (v := m_tape v_56.toNatClampNeg) hx hb hK hP 1 1 rfl rfl (by rw [ev_56]; exact wa_in h0 hab hb9 (c_44.trans ev_55) (by decide)) rfl dX8_wordAt_87 ?_
      refine lv_topi (fun v_57 ev_57 => ?_)
      refine lv_icmp_ne (tgt := 95) hx hb dX8_wordAt_88 (by decide) (fun c_88 => ?_) (fun c_88 => ?_)
      ·
        refine lv_iconst (v := 0) hx hb dX8_wordAt_95 (by decide) ?_
        refine lv_istore (lv' := [(6, .int 0), (7, .int 0), (5, .int 4), (0, .ref (y 0)), (1, .int a), (2, .int b), (3, .int 1), (4, .int 5)]) hx hb dX8_wordAt_96 hl (by decide) rfl (fun ls hl => ?_)
        refine lv_iinc (v := 1) (lv' := [(7, .int 1), (6, .int 0), (5, .int 4), (0, .ref (y 0)), (1, .int a), (2, .int b), (3, .int 1), (4, .int 5)]) hx hb dX8_wordAt_98 hl (k := 1) rfl (by decide) (by decide) rfl (fun ls hl => ?_)
        refine lv_goto (tgt := 57) hx hb dX8_wordAt_101 (by decide) ?_
        refine lv_iload hx hb dX8_wordAt_57 (lv_at hl 0 rfl) ?_
        refine lv_iload hx hb dX8_wordAt_59 (lv_at hl 2 rfl) ?_
        refine lv_icmp_ge (tgt := 104) hx hb dX8_wordAt_61 (by decide) (fun h => absurd h (by decide)) (fun _ => ?_)
        refine lv_iload hx hb dX8_wordAt_64 (lv_at hl 1 rfl) ?_
        refine lv_if_eq (tgt := 104) hx hb dX8_wordAt_66 (by decide) (fun _ => ?_) (fun h => absurd (by decide) h)
        refine lv_iload hx hb dX8_wordAt_104 (lv_at hl 1 rfl) ?_
        refine lv_if_eq (tgt := 111) hx hb dX8_wordAt_106 (by decide) (fun _ => ?_) (fun h => absurd (by decide) h)
        refine lv_iload hx hb dX8_wordAt_111 (lv_at hl 7 rfl) ?_
        refine lv_iload hx hb dX8_wordAt_113 (lv_at hl 2 rfl) ?_
        refine lv_iconst (v := 1) hx hb dX8_wordAt_115 (by decide) ?_
        refine sv_iadd (v := 5) hx hb dX8_wordAt_116 (by decide) ?_
        refine sv_iadd (v := 10) hx hb dX8_wordAt_117 (by decide) ?_
        refine lv_istore (lv' := [(4, .int 10), (7, .int 1), (6, .int 0), (5, .int 4), (0, .ref (y 0)), (1, .int a), (2, .int b), (3, .int 1)]) hx hb dX8_wordAt_118 hl (by decide) rfl (fun ls hl => ?_)
        refine lv_iinc (v := 2) (lv' := [(3, .int 2), (4, .int 10), (7, .int 1), (6, .int 0), (5, .int 4), (0, .ref (y 0)), (1, .int a), (2, .int b)]) hx hb dX8_wordAt_120 hl (k := 7) rfl (by decide) (by decide) rfl (fun ls hl => ?_)
        refine lv_goto (tgt := 5) hx hb dX8_wordAt_123 (by decide) ?_
        exact J_2_10 ls (lv_sub hl [5, 6, 7, 0, 1] rfl)
      ·
        refine lv_iconst (v := 1) hx hb dX8_wordAt_91 (by decide) ?_
        refine lv_goto (tgt := 96) hx hb dX8_wordAt_92 (by decide) ?_
        refine lv_istore (lv' := [(6, .int 1), (7, .int 0), (5, .int 4), (0, .ref (y 0)), (1, .int a), (2, .int b), (3, .int 1), (4, .int 5)]) hx hb dX8_wordAt_96 hl (by decide) rfl (fun ls hl => ?_)
        refine lv_iinc (v := 1) (lv' := [(7, .int 1), (6, .int 1), (5, .int 4), (0, .ref (y 0)), (1, .int a), (2, .int b), (3, .int 1), (4, .int 5)]) hx hb dX8_wordAt_98 hl (k := 1) rfl (by decide) (by decide) rfl (fun ls hl => ?_)
        refine lv_goto (tgt := 57) hx hb dX8_wordAt_101 (by decide) ?_
        refine lv_iload hx hb dX8_wordAt_57 (lv_at hl 0 rfl) ?_
        refine lv_iload hx hb dX8_wordAt_59 (lv_at hl 2 rfl) ?_
        refine lv_icmp_ge (tgt := 104) hx hb dX8_wordAt_61 (by decide) (fun h => absurd h (by decide)) (fun _ => ?_)
        refine lv_iload hx hb dX8_wordAt_64 (lv_at hl 1 rfl) ?_
        refine lv_if_eq (tgt := 104) hx hb dX8_wordAt_66 (by decide) (fun h => absurd h (by decide)) (fun _ => ?_)
        refine lv_aload_n hx hb dX8_wordAt_69 rfl (lv_at hl 3 rfl) ?_
        refine va_get (D := D) (ci := 8) (v := .ref (y 17)) (C := RX8) (T := TX8) (N := 52) hx hb hts w_1 hown hK hP 0 rfl rfl 34 (by decide) w_2 (fun _ h9 => h9) rfl dX8_wordAt_70 ?_
        refine lv_iload hx hb dX8_wordAt_73 (lv_at hl 7 rfl) ?_
        refine lv_iload hx hb dX8_wordAt_75 (lv_at hl 0 rfl) ?_
        refine sv_iadd (v := 6) hx hb dX8_wordAt_77 (by decide) ?_
        refine sv_iald (v := 111) hx hb hK hP 2 1 rfl rfl (vp_in_iff.mpr (by decide)) (hwf 6 (by decide)) dX8_wordAt_78 ?_
        refine lv_aload_n hx hb dX8_wordAt_79 rfl (lv_at hl 3 rfl) ?_
        refine va_get (D := D) (ci := 8) (v := .ref (y 1)) (C := RX8) (T := TX8) (N := 52) hx hb hts w_1 hown hK hP 0 rfl rfl 0 (by decide) w_3 (fun _ h9 => h9) rfl dX8_wordAt_80 ?_
        refine lv_iload_n hx hb dX8_wordAt_83 rfl (lv_at hl 4 rfl) ?_
        refine lv_iload hx hb dX8_wordAt_84 (lv_at hl 0 rfl) ?_
        refine sv_iadd (v := a + 1) hx hb dX8_wordAt_86 rfl ?_
        refine sv_iald (v := m_tape (a + 1).toNatClampNeg) hx hb hK hP 1 1 rfl rfl (wa_in h0 hab hb9 (c_44.trans ev_55) (by decide)) rfl dX8_wordAt_87 ?_
        refine lv_topi (fun v_58 ev_58 => ?_)
        refine lv_icmp_ne (tgt := 95) hx hb dX8_wordAt_88 (by decide) (fun c_88 => ?_) (fun c_88 => ?_)
        ·
          refine lv_iconst (v := 0) hx hb dX8_wordAt_95 (by decide) ?_
          refine lv_istore (lv' := [(6, .int 0), (7, .int 1), (5, .int 4), (0, .ref (y 0)), (1, .int a), (2, .int b), (3, .int 1), (4, .int 5)]) hx hb dX8_wordAt_96 hl (by decide) rfl (fun ls hl => ?_)
          refine lv_iinc (v := 2) (lv' := [(7, .int 2), (6, .int 0), (5, .int 4), (0, .ref (y 0)), (1, .int a), (2, .int b), (3, .int 1), (4, .int 5)]) hx hb dX8_wordAt_98 hl (k := 1) rfl (by decide) (by decide) rfl (fun ls hl => ?_)
          refine lv_goto (tgt := 57) hx hb dX8_wordAt_101 (by decide) ?_
          refine lv_iload hx hb dX8_wordAt_57 (lv_at hl 0 rfl) ?_
          refine lv_iload hx hb dX8_wordAt_59 (lv_at hl 2 rfl) ?_
          refine lv_icmp_ge (tgt := 104) hx hb dX8_wordAt_61 (by decide) (fun h => absurd h (by decide)) (fun _ => ?_)
          refine lv_iload hx hb dX8_wordAt_64 (lv_at hl 1 rfl) ?_
          refine lv_if_eq (tgt := 104) hx hb dX8_wordAt_66 (by decide) (fun _ => ?_) (fun h => absurd (by decide) h)
          refine lv_iload hx hb dX8_wordAt_104 (lv_at hl 1 rfl) ?_
          refine lv_if_eq (tgt := 111) hx hb dX8_wordAt_106 (by decide) (fun _ => ?_) (fun h => absurd (by decide) h)
          refine lv_iload hx hb dX8_wordAt_111 (lv_at hl 7 rfl) ?_
          refine lv_iload hx hb dX8_wordAt_113 (lv_at hl 2 rfl) ?_
          refine lv_iconst (v := 1) hx hb dX8_wordAt_115 (by decide) ?_
          refine sv_iadd (v := 5) hx hb dX8_wordAt_116 (by decide) ?_
          refine sv_iadd (v := 10) hx hb dX8_wordAt_117 (by decide) ?_
          refine lv_istore (lv' := [(4, .int 10), (7, .int 2), (6, .int 0), (5, .int 4), (0, .ref (y 0)), (1, .int a), (2, .int b), (3, .int 1)]) hx hb dX8_wordAt_118 hl (by decide) rfl (fun ls hl => ?_)
          refine lv_iinc (v := 2) (lv' := [(3, .int 2), (4, .int 10), (7, .int 2), (6, .int 0), (5, .int 4), (0, .ref (y 0)), (1, .int a), (2, .int b)]) hx hb dX8_wordAt_120 hl (k := 7) rfl (by decide) (by decide) rfl (fun ls hl => ?_)
          refine lv_goto (tgt := 5) hx hb dX8_wordAt_123 (by decide) ?_
          exact J_2_10 ls (lv_sub hl [5, 6, 7, 0, 1] rfl)
        ·
          refine lv_iconst (v := 1) hx hb dX8_wordAt_91 (by decide) ?_
          refine lv_goto (tgt := 96) hx hb dX8_wordAt_92 (by decide) ?_
          refine lv_istore (lv' := [(6, .int 1), (7, .int 1), (5, .int 4), (0, .ref (y 0)), (1, .int a), (2, .int b), (3, .int 1), (4, .int 5)]) hx hb dX8_wordAt_96 hl (by decide) rfl (fun ls hl => ?_)
          refine lv_iinc (v := 2) (lv' := [(7, .int 2), (6, .int 1), (5, .int 4), (0, .ref (y 0)), (1, .int a), (2, .int b), (3, .int 1), (4, .int 5)]) hx hb dX8_wordAt_98 hl (k := 1) rfl (by decide) (by decide) rfl (fun ls hl => ?_)
          refine lv_goto (tgt := 57) hx hb dX8_wordAt_101 (by decide) ?_
          refine lv_iload hx hb dX8_wordAt_57 (lv_at hl 0 rfl) ?_
          refine lv_iload hx hb dX8_wordAt_59 (lv_at hl 2 rfl) ?_
          refine lv_icmp_ge (tgt := 104) hx hb dX8_wordAt_61 (by decide) (fun h => absurd h (by decide)) (fun _ => ?_)
          refine lv_iload hx hb dX8_wordAt_64 (lv_at hl 1 rfl) ?_
          refine lv_if_eq (tgt := 104) hx hb dX8_wordAt_66 (by decide) (fun h => absurd h (by decide)) (fun _ => ?_)
          refine lv_aload_n hx hb dX8_wordAt_69 rfl (lv_at hl 3 rfl) ?_
          refine va_get (D := D) (ci := 8) (v := .ref (y 17)) (C := RX8) (T := TX8) (N := 52) hx hb hts w_1 hown hK hP 0 rfl rfl 34 (by decide) w_2 (fun _ h9 => h9) rfl dX8_wordAt_70 ?_
          refine lv_iload hx hb dX8_wordAt_73 (lv_at hl 7 rfl) ?_
          refine lv_iload hx hb dX8_wordAt_75 (lv_at hl 0 rfl) ?_
          refine sv_iadd (v := 7) hx hb dX8_wordAt_77 (by decide) ?_
          refine sv_iald (v := 116) hx hb hK hP 2 1 rfl rfl (vp_in_iff.mpr (by decide)) (hwf 7 (by decide)) dX8_wordAt_78 ?_
          refine lv_aload_n hx hb dX8_wordAt_79 rfl (lv_at hl 3 rfl) ?_
          refine va_get (D := D) (ci := 8) (v := .ref (y 1)) (C := RX8) (T := TX8) (N := 52) hx hb hts w_1 hown hK hP 0 rfl rfl 0 (by decide) w_3 (fun _ h9 => h9) rfl dX8_wordAt_80 ?_
          refine lv_iload_n hx hb dX8_wordAt_83 rfl (lv_at hl 4 rfl) ?_
          refine lv_iload hx hb dX8_wordAt_84 (lv_at hl 0 rfl) ?_
          refine sv_iadd (v := a + 2) hx hb dX8_wordAt_86 rfl ?_
          refine lv_topi (fun v_59 ev_59 => ?_)
          refine sv_iald (v := m_tape v_59.toNatClampNeg) hx hb hK hP 1 1 rfl rfl (by rw [ev_59]; exact wa_in h0 hab hb9 (c_44.trans ev_55) (by decide)) rfl dX8_wordAt_87 ?_
          refine lv_topi (fun v_60 ev_60 => ?_)
          refine lv_icmp_ne (tgt := 95) hx hb dX8_wordAt_88 (by decide) (fun c_88 => ?_) (fun c_88 => ?_)
          ·
            refine lv_iconst (v := 0) hx hb dX8_wordAt_95 (by decide) ?_
            refine lv_istore (lv' := [(6, .int 0), (7, .int 2), (5, .int 4), (0, .ref (y 0)), (1, .int a), (2, .int b), (3, .int 1), (4, .int 5)]) hx hb dX8_wordAt_96 hl (by decide) rfl (fun ls hl => ?_)
            refine lv_iinc (v := 3) (lv' := [(7, .int 3), (6, .int 0), (5, .int 4), (0, .ref (y 0)), (1, .int a), (2, .int b), (3, .int 1), (4, .int 5)]) hx hb dX8_wordAt_98 hl (k := 1) rfl (by decide) (by decide) rfl (fun ls hl => ?_)
            refine lv_goto (tgt := 57) hx hb dX8_wordAt_101 (by decide) ?_
            refine lv_iload hx hb dX8_wordAt_57 (lv_at hl 0 rfl) ?_
            refine lv_iload hx hb dX8_wordAt_59 (lv_at hl 2 rfl) ?_
            refine lv_icmp_ge (tgt := 104) hx hb dX8_wordAt_61 (by decide) (fun h => absurd h (by decide)) (fun _ => ?_)
            refine lv_iload hx hb dX8_wordAt_64 (lv_at hl 1 rfl) ?_
            refine lv_if_eq (tgt := 104) hx hb dX8_wordAt_66 (by decide) (fun _ => ?_) (fun h => absurd (by decide) h)
            refine lv_iload hx hb dX8_wordAt_104 (lv_at hl 1 rfl) ?_
            refine lv_if_eq (tgt := 111) hx hb dX8_wordAt_106 (by decide) (fun _ => ?_) (fun h => absurd (by decide) h)
            refine lv_iload hx hb dX8_wordAt_111 (lv_at hl 7 rfl) ?_
            refine lv_iload hx hb dX8_wordAt_113 (lv_at hl 2 rfl) ?_
            refine lv_iconst (v := 1) hx hb dX8_wordAt_115 (by decide) ?_
            refine sv_iadd (v := 5) hx hb dX8_wordAt_116 (by decide) ?_
            refine sv_iadd (v := 10) hx hb dX8_wordAt_117 (by decide) ?_
            refine lv_istore (lv' := [(4, .int 10), (7, .int 3), (6, .int 0), (5, .int 4), (0, .ref (y 0)), (1, .int a), (2, .int b), (3, .int 1)]) hx hb dX8_wordAt_118 hl (by decide) rfl (fun ls hl => ?_)
            refine lv_iinc (v := 2) (lv' := [(3, .int 2), (4, .int 10), (7, .int 3), (6, .int 0), (5, .int 4), (0, .ref (y 0)), (1, .int a), (2, .int b)]) hx hb dX8_wordAt_120 hl (k := 7) rfl (by decide) (by decide) rfl (fun ls hl => ?_)
            refine lv_goto (tgt := 5) hx hb dX8_wordAt_123 (by decide) ?_
            exact J_2_10 ls (lv_sub hl [5, 6, 7, 0, 1] rfl)
          ·
            refine lv_iconst (v := 1) hx hb dX8_wordAt_91 (by decide) ?_
            refine lv_goto (tgt := 96) hx hb dX8_wordAt_92 (by decide) ?_
            refine lv_istore (lv' := [(6, .int 1), (7, .int 2), (5, .int 4), (0, .ref (y 0)), (1, .int a), (2, .int b), (3, .int 1), (4, .int 5)]) hx hb dX8_wordAt_96 hl (by decide) rfl (fun ls hl => ?_)
            refine lv_iinc (v := 3) (lv' := [(7, .int 3), (6, .int 1), (5, .int 4), (0, .ref (y 0)), (1, .int a), (2, .int b), (3, .int 1), (4, .int 5)]) hx hb dX8_wordAt_98 hl (k := 1) rfl (by decide) (by decide) rfl (fun ls hl => ?_)
            refine lv_goto (tgt := 57) hx hb dX8_wordAt_101 (by decide) ?_
            refine lv_iload hx hb dX8_wordAt_57 (lv_at hl 0 rfl) ?_
            refine lv_iload hx hb dX8_wordAt_59 (lv_at hl 2 rfl) ?_
            refine lv_icmp_ge (tgt := 104) hx hb dX8_wordAt_61 (by decide) (fun h => absurd h (by decide)) (fun _ => ?_)
            refine lv_iload hx hb dX8_wordAt_64 (lv_at hl 1 rfl) ?_
            refine lv_if_eq (tgt := 104) hx hb dX8_wordAt_66 (by decide) (fun h => absurd h (by decide)) (fun _ => ?_)
            refine lv_aload_n hx hb dX8_wordAt_69 rfl (lv_at hl 3 rfl) ?_
            refine va_get (D := D) (ci := 8) (v := .ref (y 17)) (C := RX8) (T := TX8) (N := 52) hx hb hts w_1 hown hK hP 0 rfl rfl 34 (by decide) w_2 (fun _ h9 => h9) rfl dX8_wordAt_70 ?_
            refine lv_iload hx hb dX8_wordAt_73 (lv_at hl 7 rfl) ?_
            refine lv_iload hx hb dX8_wordAt_75 (lv_at hl 0 rfl) ?_
            refine sv_iadd (v := 8) hx hb dX8_wordAt_77 (by decide) ?_
            refine sv_iald (v := 101) hx hb hK hP 2 1 rfl rfl (vp_in_iff.mpr (by decide)) (hwf 8 (by decide)) dX8_wordAt_78 ?_
            refine lv_aload_n hx hb dX8_wordAt_79 rfl (lv_at hl 3 rfl) ?_
            refine va_get (D := D) (ci := 8) (v := .ref (y 1)) (C := RX8) (T := TX8) (N := 52) hx hb hts w_1 hown hK hP 0 rfl rfl 0 (by decide) w_3 (fun _ h9 => h9) rfl dX8_wordAt_80 ?_
            refine lv_iload_n hx hb dX8_wordAt_83 rfl (lv_at hl 4 rfl) ?_
            refine lv_iload hx hb dX8_wordAt_84 (lv_at hl 0 rfl) ?_
            refine sv_iadd (v := a + 3) hx hb dX8_wordAt_86 rfl ?_
            refine lv_topi (fun v_61 ev_61 => ?_)
            refine sv_iald (v := m_tape v_61.toNatClampNeg) hx hb hK hP 1 1 rfl rfl (by rw [ev_61]; exact wa_in h0 hab hb9 (c_44.trans ev_55) (by decide)) rfl dX8_wordAt_87 ?_
            refine lv_topi (fun v_62 ev_62 => ?_)
            refine lv_icmp_ne (tgt := 95) hx hb dX8_wordAt_88 (by decide) (fun c_88 => ?_) (fun c_88 => ?_)
            ·
              refine lv_iconst (v := 0) hx hb dX8_wordAt_95 (by decide) ?_
              refine lv_istore (lv' := [(6, .int 0), (7, .int 3), (5, .int 4), (0, .ref (y 0)), (1, .int a), (2, .int b), (3, .int 1), (4, .int 5)]) hx hb dX8_wordAt_96 hl (by decide) rfl (fun ls hl => ?_)
              refine lv_iinc (v := 4) (lv' := [(7, .int 4), (6, .int 0), (5, .int 4), (0, .ref (y 0)), (1, .int a), (2, .int b), (3, .int 1), (4, .int 5)]) hx hb dX8_wordAt_98 hl (k := 1) rfl (by decide) (by decide) rfl (fun ls hl => ?_)
              refine lv_goto (tgt := 57) hx hb dX8_wordAt_101 (by decide) ?_
              refine lv_iload hx hb dX8_wordAt_57 (lv_at hl 0 rfl) ?_
              refine lv_iload hx hb dX8_wordAt_59 (lv_at hl 2 rfl) ?_
              refine lv_icmp_ge (tgt := 104) hx hb dX8_wordAt_61 (by decide) (fun _ => ?_) (fun h => absurd (by decide) h)
              refine lv_iload hx hb dX8_wordAt_104 (lv_at hl 1 rfl) ?_
              refine lv_if_eq (tgt := 111) hx hb dX8_wordAt_106 (by decide) (fun _ => ?_) (fun h => absurd (by decide) h)
              refine lv_iload hx hb dX8_wordAt_111 (lv_at hl 7 rfl) ?_
              refine lv_iload hx hb dX8_wordAt_113 (lv_at hl 2 rfl) ?_
              refine lv_iconst (v := 1) hx hb dX8_wordAt_115 (by decide) ?_
              refine sv_iadd (v := 5) hx hb dX8_wordAt_116 (by decide) ?_
              refine sv_iadd (v := 10) hx hb dX8_wordAt_117 (by decide) ?_
              refine lv_istore (lv' := [(4, .int 10), (7, .int 4), (6, .int 0), (5, .int 4), (0, .ref (y 0)), (1, .int a), (2, .int b), (3, .int 1)]) hx hb dX8_wordAt_118 hl (by decide) rfl (fun ls hl => ?_)
              refine lv_iinc (v := 2) (lv' := [(3, .int 2), (4, .int 10), (7, .int 4), (6, .int 0), (5, .int 4), (0, .ref (y 0)), (1, .int a), (2, .int b)]) hx hb dX8_wordAt_120 hl (k := 7) rfl (by decide) (by decide) rfl (fun ls hl => ?_)
              refine lv_goto (tgt := 5) hx hb dX8_wordAt_123 (by decide) ?_
              exact J_2_10 ls (lv_sub hl [5, 6, 7, 0, 1] rfl)
            ·
              refine lv_iconst (v := 1) hx hb dX8_wordAt_91 (by decide) ?_
              refine lv_goto (tgt := 96) hx hb dX8_wordAt_92 (by decide) ?_
              refine lv_istore (lv' := [(6, .int 1), (7, .int 3), (5, .int 4), (0, .ref (y 0)), (1, .int a), (2, .int b), (3, .int 1), (4, .int 5)]) hx hb dX8_wordAt_96 hl (by decide) rfl (fun ls hl => ?_)
              refine lv_iinc (v := 4) (lv' := [(7, .int 4), (6, .int 1), (5, .int 4), (0, .ref (y 0)), (1, .int a), (2, .int b), (3, .int 1), (4, .int 5)]) hx hb dX8_wordAt_98 hl (k := 1) rfl (by decide) (by decide) rfl (fun ls hl => ?_)
              refine lv_goto (tgt := 57) hx hb dX8_wordAt_101 (by decide) ?_
              refine lv_iload hx hb dX8_wordAt_57 (lv_at hl 0 rfl) ?_
              refine lv_iload hx hb dX8_wordAt_59 (lv_at hl 2 rfl) ?_
              refine lv_icmp_ge (tgt := 104) hx hb dX8_wordAt_61 (by decide) (fun _ => ?_) (fun h => absurd (by decide) h)
              refine lv_iload hx hb dX8_wordAt_104 (lv_at hl 1 rfl) ?_
              refine lv_if_eq (tgt := 111) hx hb dX8_wordAt_106 (by decide) (fun h => absurd h (by decide)) (fun _ => ?_)
              refine lv_iload_n hx hb dX8_wordAt_109 rfl (lv_at hl 6 rfl) ?_
              rw [← hQ]
              exact W.iret (v := 1) hx hb hr (fun t ht hW => ⟨_, rfl, Or.inr (vp_in_iff.mpr (by decide)), ht⟩) (fun q h => nomatch h) dX8_wordAt_110
  have J_0_0 : ∀ (ls : Array Slot), lv_has ls 8 [(0, .ref (y 0)), (1, .int a), (2, .int b), (3, .int 0), (4, .int 0)] → W p l e (headSpec wsX8_wordAt ({ frames := 0, cells := 0, slots := 0, locals := 0 } : Room)).room s m ([.ref (y 0), .int a, .int b] : List Value).toArray below meth c s.heap [] 0 0 Q0 (F0 m 5 ls []) := by
    intro ls hl
    refine lv_iload hx hb dX8_wordAt_5 (lv_at hl 4 rfl) ?_
    refine lv_aload_n hx hb dX8_wordAt_7 rfl (lv_at hl 0 rfl) ?_
    refine va_get (D := D) (ci := 8) (v := .ref (y 17)) (C := RX8) (T := TX8) (N := 52) hx hb hts w_1 hown hK hP 0 rfl rfl 34 (by decide) w_2 (fun _ h9 => h9) rfl dX8_wordAt_8 ?_
    refine va_alen (v := 43) hx hb hK hP 2 1 rfl rfl rfl dX8_wordAt_11 ?_
    refine lv_icmp_ge (tgt := 126) hx hb dX8_wordAt_12 (by decide) (fun h => absurd h (by decide)) (fun _ => ?_)
    refine lv_iconst (v := 0) hx hb dX8_wordAt_15 (by decide) ?_
    refine lv_istore (lv' := [(5, .int 0), (0, .ref (y 0)), (1, .int a), (2, .int b), (3, .int 0), (4, .int 0)]) hx hb dX8_wordAt_16 hl (by decide) rfl (fun ls hl => ?_)
    refine lv_aload_n hx hb dX8_wordAt_18 rfl (lv_at hl 1 rfl) ?_
    refine va_get (D := D) (ci := 8) (v := .ref (y 17)) (C := RX8) (T := TX8) (N := 52) hx hb hts w_1 hown hK hP 0 rfl rfl 34 (by decide) w_2 (fun _ h9 => h9) rfl dX8_wordAt_19 ?_
    refine lv_iload hx hb dX8_wordAt_22 (lv_at hl 5 rfl) ?_
    refine lv_iload hx hb dX8_wordAt_24 (lv_at hl 0 rfl) ?_
    refine sv_iadd (v := 0) hx hb dX8_wordAt_26 (by decide) ?_
    refine sv_iald (v := 116) hx hb hK hP 2 1 rfl rfl (vp_in_iff.mpr (by decide)) (hwf 0 (by decide)) dX8_wordAt_27 ?_
    refine lv_bipush (v := 32) hx hb dX8_wordAt_28 (by decide) ?_
    refine lv_icmp_eq (tgt := 39) hx hb dX8_wordAt_30 (by decide) (fun h => absurd h (by decide)) (fun _ => ?_)
    refine lv_iinc (v := 1) (lv' := [(5, .int 1), (0, .ref (y 0)), (1, .int a), (2, .int b), (3, .int 0), (4, .int 0)]) hx hb dX8_wordAt_33 hl (k := 0) rfl (by decide) (by decide) rfl (fun ls hl => ?_)
    refine lv_goto (tgt := 18) hx hb dX8_wordAt_36 (by decide) ?_
    refine lv_aload_n hx hb dX8_wordAt_18 rfl (lv_at hl 1 rfl) ?_
    refine va_get (D := D) (ci := 8) (v := .ref (y 17)) (C := RX8) (T := TX8) (N := 52) hx hb hts w_1 hown hK hP 0 rfl rfl 34 (by decide) w_2 (fun _ h9 => h9) rfl dX8_wordAt_19 ?_
    refine lv_iload hx hb dX8_wordAt_22 (lv_at hl 5 rfl) ?_
    refine lv_iload hx hb dX8_wordAt_24 (lv_at hl 0 rfl) ?_
    refine sv_iadd (v := 1) hx hb dX8_wordAt_26 (by decide) ?_
    refine sv_iald (v := 117) hx hb hK hP 2 1 rfl rfl (vp_in_iff.mpr (by decide)) (hwf 1 (by decide)) dX8_wordAt_27 ?_
    refine lv_bipush (v := 32) hx hb dX8_wordAt_28 (by decide) ?_
    refine lv_icmp_eq (tgt := 39) hx hb dX8_wordAt_30 (by decide) (fun h => absurd h (by decide)) (fun _ => ?_)
    refine lv_iinc (v := 2) (lv' := [(5, .int 2), (0, .ref (y 0)), (1, .int a), (2, .int b), (3, .int 0), (4, .int 0)]) hx hb dX8_wordAt_33 hl (k := 0) rfl (by decide) (by decide) rfl (fun ls hl => ?_)
    refine lv_goto (tgt := 18) hx hb dX8_wordAt_36 (by decide) ?_
    refine lv_aload_n hx hb dX8_wordAt_18 rfl (lv_at hl 1 rfl) ?_
    refine va_get (D := D) (ci := 8) (v := .ref (y 17)) (C := RX8) (T := TX8) (N := 52) hx hb hts w_1 hown hK hP 0 rfl rfl 34 (by decide) w_2 (fun _ h9 => h9) rfl dX8_wordAt_19 ?_
    refine lv_iload hx hb dX8_wordAt_22 (lv_at hl 5 rfl) ?_
    refine lv_iload hx hb dX8_wordAt_24 (lv_at hl 0 rfl) ?_
    refine sv_iadd (v := 2) hx hb dX8_wordAt_26 (by decide) ?_
    refine sv_iald (v := 114) hx hb hK hP 2 1 rfl rfl (vp_in_iff.mpr (by decide)) (hwf 2 (by decide)) dX8_wordAt_27 ?_
    refine lv_bipush (v := 32) hx hb dX8_wordAt_28 (by decide) ?_
    refine lv_icmp_eq (tgt := 39) hx hb dX8_wordAt_30 (by decide) (fun h => absurd h (by decide)) (fun _ => ?_)
    refine lv_iinc (v := 3) (lv' := [(5, .int 3), (0, .ref (y 0)), (1, .int a), (2, .int b), (3, .int 0), (4, .int 0)]) hx hb dX8_wordAt_33 hl (k := 0) rfl (by decide) (by decide) rfl (fun ls hl => ?_)
    refine lv_goto (tgt := 18) hx hb dX8_wordAt_36 (by decide) ?_
    refine lv_aload_n hx hb dX8_wordAt_18 rfl (lv_at hl 1 rfl) ?_
    refine va_get (D := D) (ci := 8) (v := .ref (y 17)) (C := RX8) (T := TX8) (N := 52) hx hb hts w_1 hown hK hP 0 rfl rfl 34 (by decide) w_2 (fun _ h9 => h9) rfl dX8_wordAt_19 ?_
    refine lv_iload hx hb dX8_wordAt_22 (lv_at hl 5 rfl) ?_
    refine lv_iload hx hb dX8_wordAt_24 (lv_at hl 0 rfl) ?_
    refine sv_iadd (v := 3) hx hb dX8_wordAt_26 (by decide) ?_
    refine sv_iald (v := 110) hx hb hK hP 2 1 rfl rfl (vp_in_iff.mpr (by decide)) (hwf 3 (by decide)) dX8_wordAt_27 ?_
    refine lv_bipush (v := 32) hx hb dX8_wordAt_28 (by decide) ?_
    refine lv_icmp_eq (tgt := 39) hx hb dX8_wordAt_30 (by decide) (fun h => absurd h (by decide)) (fun _ => ?_)
    refine lv_iinc (v := 4) (lv' := [(5, .int 4), (0, .ref (y 0)), (1, .int a), (2, .int b), (3, .int 0), (4, .int 0)]) hx hb dX8_wordAt_33 hl (k := 0) rfl (by decide) (by decide) rfl (fun ls hl => ?_)
    refine lv_goto (tgt := 18) hx hb dX8_wordAt_36 (by decide) ?_
    refine lv_aload_n hx hb dX8_wordAt_18 rfl (lv_at hl 1 rfl) ?_
    refine va_get (D := D) (ci := 8) (v := .ref (y 17)) (C := RX8) (T := TX8) (N := 52) hx hb hts w_1 hown hK hP 0 rfl rfl 34 (by decide) w_2 (fun _ h9 => h9) rfl dX8_wordAt_19 ?_
    refine lv_iload hx hb dX8_wordAt_22 (lv_at hl 5 rfl) ?_
    refine lv_iload hx hb dX8_wordAt_24 (lv_at hl 0 rfl) ?_
    refine sv_iadd (v := 4) hx hb dX8_wordAt_26 (by decide) ?_
    refine sv_iald (v := 32) hx hb hK hP 2 1 rfl rfl (vp_in_iff.mpr (by decide)) (hwf 4 (by decide)) dX8_wordAt_27 ?_
    refine lv_bipush (v := 32) hx hb dX8_wordAt_28 (by decide) ?_
    refine lv_icmp_eq (tgt := 39) hx hb dX8_wordAt_30 (by decide) (fun _ => ?_) (fun h => absurd (by decide) h)
    refine lv_iload hx hb dX8_wordAt_39 (lv_at hl 0 rfl) ?_
    refine lv_iload_n hx hb dX8_wordAt_41 rfl (lv_at hl 3 rfl) ?_
    refine lv_iload_n hx hb dX8_wordAt_42 rfl (lv_at hl 2 rfl) ?_
    refine sv_isub (v := b - a) hx hb dX8_wordAt_43 rfl ?_
    refine lv_topi (fun v_63 ev_63 => ?_)
    refine lv_icmp_ne (tgt := 51) hx hb dX8_wordAt_44 (by decide) (fun c_44 => ?_) (fun c_44 => ?_)
    ·
      refine lv_iconst (v := 0) hx hb dX8_wordAt_51 (by decide) ?_
      refine lv_istore (lv' := [(6, .int 0), (5, .int 4), (0, .ref (y 0)), (1, .int a), (2, .int b), (3, .int 0), (4, .int 0)]) hx hb dX8_wordAt_52 hl (by decide) rfl (fun ls hl => ?_)
      refine lv_iconst (v := 0) hx hb dX8_wordAt_54 (by decide) ?_
      refine lv_istore (lv' := [(7, .int 0), (6, .int 0), (5, .int 4), (0, .ref (y 0)), (1, .int a), (2, .int b), (3, .int 0), (4, .int 0)]) hx hb dX8_wordAt_55 hl (by decide) rfl (fun ls hl => ?_)
      refine lv_iload hx hb dX8_wordAt_57 (lv_at hl 0 rfl) ?_
      refine lv_iload hx hb dX8_wordAt_59 (lv_at hl 2 rfl) ?_
      refine lv_icmp_ge (tgt := 104) hx hb dX8_wordAt_61 (by decide) (fun h => absurd h (by decide)) (fun _ => ?_)
      refine lv_iload hx hb dX8_wordAt_64 (lv_at hl 1 rfl) ?_
      refine lv_if_eq (tgt := 104) hx hb dX8_wordAt_66 (by decide) (fun _ => ?_) (fun h => absurd (by decide) h)
      refine lv_iload hx hb dX8_wordAt_104 (lv_at hl 1 rfl) ?_
      refine lv_if_eq (tgt := 111) hx hb dX8_wordAt_106 (by decide) (fun _ => ?_) (fun h => absurd (by decide) h)
      refine lv_iload hx hb dX8_wordAt_111 (lv_at hl 7 rfl) ?_
      refine lv_iload hx hb dX8_wordAt_113 (lv_at hl 2 rfl) ?_
      refine lv_iconst (v := 1) hx hb dX8_wordAt_115 (by decide) ?_
      refine sv_iadd (v := 5) hx hb dX8_wordAt_116 (by decide) ?_
      refine sv_iadd (v := 5) hx hb dX8_wordAt_117 (by decide) ?_
      refine lv_istore (lv' := [(4, .int 5), (7, .int 0), (6, .int 0), (5, .int 4), (0, .ref (y 0)), (1, .int a), (2, .int b), (3, .int 0)]) hx hb dX8_wordAt_118 hl (by decide) rfl (fun ls hl => ?_)
      refine lv_iinc (v := 1) (lv' := [(3, .int 1), (4, .int 5), (7, .int 0), (6, .int 0), (5, .int 4), (0, .ref (y 0)), (1, .int a), (2, .int b)]) hx hb dX8_wordAt_120 hl (k := 7) rfl (by decide) (by decide) rfl (fun ls hl => ?_)
      refine lv_goto (tgt := 5) hx hb dX8_wordAt_123 (by decide) ?_
      exact J_1_5 ls (lv_sub hl [5, 6, 7, 0, 1] rfl)
    ·
      refine lv_iconst (v := 1) hx hb dX8_wordAt_47 (by decide) ?_
      refine lv_goto (tgt := 52) hx hb dX8_wordAt_48 (by decide) ?_
      refine lv_istore (lv' := [(6, .int 1), (5, .int 4), (0, .ref (y 0)), (1, .int a), (2, .int b), (3, .int 0), (4, .int 0)]) hx hb dX8_wordAt_52 hl (by decide) rfl (fun ls hl => ?_)
      refine lv_iconst (v := 0) hx hb dX8_wordAt_54 (by decide) ?_
      refine lv_istore (lv' := [(7, .int 0), (6, .int 1), (5, .int 4), (0, .ref (y 0)), (1, .int a), (2, .int b), (3, .int 0), (4, .int 0)]) hx hb dX8_wordAt_55 hl (by decide) rfl (fun ls hl => ?_)
      refine lv_iload hx hb dX8_wordAt_57 (lv_at hl 0 rfl) ?_
      refine lv_iload hx hb dX8_wordAt_59 (lv_at hl 2 rfl) ?_
      refine lv_icmp_ge (tgt := 104) hx hb dX8_wordAt_61 (by decide) (fun h => absurd h (by decide)) (fun _ => ?_)
      refine lv_iload hx hb dX8_wordAt_64 (lv_at hl 1 rfl) ?_
      refine lv_if_eq (tgt := 104) hx hb dX8_wordAt_66 (by decide) (fun h => absurd h (by decide)) (fun _ => ?_)
      refine lv_aload_n hx hb dX8_wordAt_69 rfl (lv_at hl 3 rfl) ?_
      refine va_get (D := D) (ci := 8) (v := .ref (y 17)) (C := RX8) (T := TX8) (N := 52) hx hb hts w_1 hown hK hP 0 rfl rfl 34 (by decide) w_2 (fun _ h9 => h9) rfl dX8_wordAt_70 ?_
      refine lv_iload hx hb dX8_wordAt_73 (lv_at hl 7 rfl) ?_
      refine lv_iload hx hb dX8_wordAt_75 (lv_at hl 0 rfl) ?_
      refine sv_iadd (v := 0) hx hb dX8_wordAt_77 (by decide) ?_
      refine sv_iald (v := 116) hx hb hK hP 2 1 rfl rfl (vp_in_iff.mpr (by decide)) (hwf 0 (by decide)) dX8_wordAt_78 ?_
      refine lv_aload_n hx hb dX8_wordAt_79 rfl (lv_at hl 3 rfl) ?_
      refine va_get (D := D) (ci := 8) (v := .ref (y 1)) (C := RX8) (T := TX8) (N := 52) hx hb hts w_1 hown hK hP 0 rfl rfl 0 (by decide) w_3 (fun _ h9 => h9) rfl dX8_wordAt_80 ?_
      refine lv_iload_n hx hb dX8_wordAt_83 rfl (lv_at hl 4 rfl) ?_
      refine lv_iload hx hb dX8_wordAt_84 (lv_at hl 0 rfl) ?_
      refine sv_iadd (v := a + 0) hx hb dX8_wordAt_86 rfl ?_
      refine lv_topi (fun v_64 ev_64 => ?_)
      refine sv_iald (v := m_tape v_64.toNatClampNeg) hx hb hK hP 1 1 rfl rfl (by rw [ev_64]; exact wa_in h0 hab hb9 (c_44.trans ev_63) (by decide)) rfl dX8_wordAt_87 ?_
      refine lv_topi (fun v_65 ev_65 => ?_)
      refine lv_icmp_ne (tgt := 95) hx hb dX8_wordAt_88 (by decide) (fun c_88 => ?_) (fun c_88 => ?_)
      ·
        refine lv_iconst (v := 0) hx hb dX8_wordAt_95 (by decide) ?_
        refine lv_istore (lv' := [(6, .int 0), (7, .int 0), (5, .int 4), (0, .ref (y 0)), (1, .int a), (2, .int b), (3, .int 0), (4, .int 0)]) hx hb dX8_wordAt_96 hl (by decide) rfl (fun ls hl => ?_)
        refine lv_iinc (v := 1) (lv' := [(7, .int 1), (6, .int 0), (5, .int 4), (0, .ref (y 0)), (1, .int a), (2, .int b), (3, .int 0), (4, .int 0)]) hx hb dX8_wordAt_98 hl (k := 1) rfl (by decide) (by decide) rfl (fun ls hl => ?_)
        refine lv_goto (tgt := 57) hx hb dX8_wordAt_101 (by decide) ?_
        refine lv_iload hx hb dX8_wordAt_57 (lv_at hl 0 rfl) ?_
        refine lv_iload hx hb dX8_wordAt_59 (lv_at hl 2 rfl) ?_
        refine lv_icmp_ge (tgt := 104) hx hb dX8_wordAt_61 (by decide) (fun h => absurd h (by decide)) (fun _ => ?_)
        refine lv_iload hx hb dX8_wordAt_64 (lv_at hl 1 rfl) ?_
        refine lv_if_eq (tgt := 104) hx hb dX8_wordAt_66 (by decide) (fun _ => ?_) (fun h => absurd (by decide) h)
        refine lv_iload hx hb dX8_wordAt_104 (lv_at hl 1 rfl) ?_
        refine lv_if_eq (tgt := 111) hx hb dX8_wordAt_106 (by decide) (fun _ => ?_) (fun h => absurd (by decide) h)
        refine lv_iload hx hb dX8_wordAt_111 (lv_at hl 7 rfl) ?_
        refine lv_iload hx hb dX8_wordAt_113 (lv_at hl 2 rfl) ?_
        refine lv_iconst (v := 1) hx hb dX8_wordAt_115 (by decide) ?_
        refine sv_iadd (v := 5) hx hb dX8_wordAt_116 (by decide) ?_
        refine sv_iadd (v := 5) hx hb dX8_wordAt_117 (by decide) ?_
        refine lv_istore (lv' := [(4, .int 5), (7, .int 1), (6, .int 0), (5, .int 4), (0, .ref (y 0)), (1, .int a), (2, .int b), (3, .int 0)]) hx hb dX8_wordAt_118 hl (by decide) rfl (fun ls hl => ?_)
        refine lv_iinc (v := 1) (lv' := [(3, .int 1), (4, .int 5), (7, .int 1), (6, .int 0), (5, .int 4), (0, .ref (y 0)), (1, .int a), (2, .int b)]) hx hb dX8_wordAt_120 hl (k := 7) rfl (by decide) (by decide) rfl (fun ls hl => ?_)
        refine lv_goto (tgt := 5) hx hb dX8_wordAt_123 (by decide) ?_
        exact J_1_5 ls (lv_sub hl [5, 6, 7, 0, 1] rfl)
      ·
        refine lv_iconst (v := 1) hx hb dX8_wordAt_91 (by decide) ?_
        refine lv_goto (tgt := 96) hx hb dX8_wordAt_92 (by decide) ?_
        refine lv_istore (lv' := [(6, .int 1), (7, .int 0), (5, .int 4), (0, .ref (y 0)), (1, .int a), (2, .int b), (3, .int 0), (4, .int 0)]) hx hb dX8_wordAt_96 hl (by decide) rfl (fun ls hl => ?_)
        refine lv_iinc (v := 1) (lv' := [(7, .int 1), (6, .int 1), (5, .int 4), (0, .ref (y 0)), (1, .int a), (2, .int b), (3, .int 0), (4, .int 0)]) hx hb dX8_wordAt_98 hl (k := 1) rfl (by decide) (by decide) rfl (fun ls hl => ?_)
        refine lv_goto (tgt := 57) hx hb dX8_wordAt_101 (by decide) ?_
        refine lv_iload hx hb dX8_wordAt_57 (lv_at hl 0 rfl) ?_
        refine lv_iload hx hb dX8_wordAt_59 (lv_at hl 2 rfl) ?_
        refine lv_icmp_ge (tgt := 104) hx hb dX8_wordAt_61 (by decide) (fun h => absurd h (by decide)) (fun _ => ?_)
        refine lv_iload hx hb dX8_wordAt_64 (lv_at hl 1 rfl) ?_
        refine lv_if_eq (tgt := 104) hx hb dX8_wordAt_66 (by decide) (fun h => absurd h (by decide)) (fun _ => ?_)
        refine lv_aload_n hx hb dX8_wordAt_69 rfl (lv_at hl 3 rfl) ?_
        refine va_get (D := D) (ci := 8) (v := .ref (y 17)) (C := RX8) (T := TX8) (N := 52) hx hb hts w_1 hown hK hP 0 rfl rfl 34 (by decide) w_2 (fun _ h9 => h9) rfl dX8_wordAt_70 ?_
        refine lv_iload hx hb dX8_wordAt_73 (lv_at hl 7 rfl) ?_
        refine lv_iload hx hb dX8_wordAt_75 (lv_at hl 0 rfl) ?_
        refine sv_iadd (v := 1) hx hb dX8_wordAt_77 (by decide) ?_
        refine sv_iald (v := 117) hx hb hK hP 2 1 rfl rfl (vp_in_iff.mpr (by decide)) (hwf 1 (by decide)) dX8_wordAt_78 ?_
        refine lv_aload_n hx hb dX8_wordAt_79 rfl (lv_at hl 3 rfl) ?_
        refine va_get (D := D) (ci := 8) (v := .ref (y 1)) (C := RX8) (T := TX8) (N := 52) hx hb hts w_1 hown hK hP 0 rfl rfl 0 (by decide) w_3 (fun _ h9 => h9) rfl dX8_wordAt_80 ?_
        refine lv_iload_n hx hb dX8_wordAt_83 rfl (lv_at hl 4 rfl) ?_
        refine lv_iload hx hb dX8_wordAt_84 (lv_at hl 0 rfl) ?_
        refine sv_iadd (v := a + 1) hx hb dX8_wordAt_86 rfl ?_
        refine sv_iald (v := m_tape (a + 1).toNatClampNeg) hx hb hK hP 1 1 rfl rfl (wa_in h0 hab hb9 (c_44.trans ev_63) (by decide)) rfl dX8_wordAt_87 ?_
        refine lv_topi (fun v_66 ev_66 => ?_)
        refine lv_icmp_ne (tgt := 95) hx hb dX8_wordAt_88 (by decide) (fun c_88 => ?_) (fun c_88 => ?_)
        ·
          refine lv_iconst (v := 0) hx hb dX8_wordAt_95 (by decide) ?_
          refine lv_istore (lv' := [(6, .int 0), (7, .int 1), (5, .int 4), (0, .ref (y 0)), (1, .int a), (2, .int b), (3, .int 0), (4, .int 0)]) hx hb dX8_wordAt_96 hl (by decide) rfl (fun ls hl => ?_)
          refine lv_iinc (v := 2) (lv' := [(7, .int 2), (6, .int 0), (5, .int 4), (0, .ref (y 0)), (1, .int a), (2, .int b), (3, .int 0), (4, .int 0)]) hx hb dX8_wordAt_98 hl (k := 1) rfl (by decide) (by decide) rfl (fun ls hl => ?_)
          refine lv_goto (tgt := 57) hx hb dX8_wordAt_101 (by decide) ?_
          refine lv_iload hx hb dX8_wordAt_57 (lv_at hl 0 rfl) ?_
          refine lv_iload hx hb dX8_wordAt_59 (lv_at hl 2 rfl) ?_
          refine lv_icmp_ge (tgt := 104) hx hb dX8_wordAt_61 (by decide) (fun h => absurd h (by decide)) (fun _ => ?_)
          refine lv_iload hx hb dX8_wordAt_64 (lv_at hl 1 rfl) ?_
          refine lv_if_eq (tgt := 104) hx hb dX8_wordAt_66 (by decide) (fun _ => ?_) (fun h => absurd (by decide) h)
          refine lv_iload hx hb dX8_wordAt_104 (lv_at hl 1 rfl) ?_
          refine lv_if_eq (tgt := 111) hx hb dX8_wordAt_106 (by decide) (fun _ => ?_) (fun h => absurd (by decide) h)
          refine lv_iload hx hb dX8_wordAt_111 (lv_at hl 7 rfl) ?_
          refine lv_iload hx hb dX8_wordAt_113 (lv_at hl 2 rfl) ?_
          refine lv_iconst (v := 1) hx hb dX8_wordAt_115 (by decide) ?_
          refine sv_iadd (v := 5) hx hb dX8_wordAt_116 (by decide) ?_
          refine sv_iadd (v := 5) hx hb dX8_wordAt_117 (by decide) ?_
          refine lv_istore (lv' := [(4, .int 5), (7, .int 2), (6, .int 0), (5, .int 4), (0, .ref (y 0)), (1, .int a), (2, .int b), (3, .int 0)]) hx hb dX8_wordAt_118 hl (by decide) rfl (fun ls hl => ?_)
          refine lv_iinc (v := 1) (lv' := [(3, .int 1), (4, .int 5), (7, .int 2), (6, .int 0), (5, .int 4), (0, .ref (y 0)), (1, .int a), (2, .int b)]) hx hb dX8_wordAt_120 hl (k := 7) rfl (by decide) (by decide) rfl (fun ls hl => ?_)
          refine lv_goto (tgt := 5) hx hb dX8_wordAt_123 (by decide) ?_
          exact J_1_5 ls (lv_sub hl [5, 6, 7, 0, 1] rfl)
        ·
          refine lv_iconst (v := 1) hx hb dX8_wordAt_91 (by decide) ?_
          refine lv_goto (tgt := 96) hx hb dX8_wordAt_92 (by decide) ?_
          refine lv_istore (lv' := [(6, .int 1), (7, .int 1), (5, .int 4), (0, .ref (y 0)), (1, .int a), (2, .int b), (3, .int 0), (4, .int 0)]) hx hb dX8_wordAt_96 hl (by decide) rfl (fun ls hl => ?_)
          refine lv_iinc (v := 2) (lv' := [(7, .int 2), (6, .int 1), (5, .int 4), (0, .ref (y 0)), (1, .int a), (2, .int b), (3, .int 0), (4, .int 0)]) hx hb dX8_wordAt_98 hl (k := 1) rfl (by decide) (by decide) rfl (fun ls hl => ?_)
          refine lv_goto (tgt := 57) hx hb dX8_wordAt_101 (by decide) ?_
          refine lv_iload hx hb dX8_wordAt_57 (lv_at hl 0 rfl) ?_
          refine lv_iload hx hb dX8_wordAt_59 (lv_at hl 2 rfl) ?_
          refine lv_icmp_ge (tgt := 104) hx hb dX8_wordAt_61 (by decide) (fun h => absurd h (by decide)) (fun _ => ?_)
          refine lv_iload hx hb dX8_wordAt_64 (lv_at hl 1 rfl) ?_
          refine lv_if_eq (tgt := 104) hx hb dX8_wordAt_66 (by decide) (fun h => absurd h (by decide)) (fun _ => ?_)
          refine lv_aload_n hx hb dX8_wordAt_69 rfl (lv_at hl 3 rfl) ?_
          refine va_get (D := D) (ci := 8) (v := .ref (y 17)) (C := RX8) (T := TX8) (N := 52) hx hb hts w_1 hown hK hP 0 rfl rfl 34 (by decide) w_2 (fun _ h9 => h9) rfl dX8_wordAt_70 ?_
          refine lv_iload hx hb dX8_wordAt_73 (lv_at hl 7 rfl) ?_
          refine lv_iload hx hb dX8_wordAt_75 (lv_at hl 0 rfl) ?_
          refine sv_iadd (v := 2) hx hb dX8_wordAt_77 (by decide) ?_
          refine sv_iald (v := 114) hx hb hK hP 2 1 rfl rfl (vp_in_iff.mpr (by decide)) (hwf 2 (by decide)) dX8_wordAt_78 ?_
          refine lv_aload_n hx hb dX8_wordAt_79 rfl (lv_at hl 3 rfl) ?_
          refine va_get (D := D) (ci := 8) (v := .ref (y 1)) (C := RX8) (T := TX8) (N := 52) hx hb hts w_1 hown hK hP 0 rfl rfl 0 (by decide) w_3 (fun _ h9 => h9) rfl dX8_wordAt_80 ?_
          refine lv_iload_n hx hb dX8_wordAt_83 rfl (lv_at hl 4 rfl) ?_
          refine lv_iload hx hb dX8_wordAt_84 (lv_at hl 0 rfl) ?_
          refine sv_iadd (v := a + 2) hx hb dX8_wordAt_86 rfl ?_
          refine lv_topi (fun v_67 ev_67 => ?_)
          refine sv_iald (v := m_tape v_67.toNatClampNeg) hx hb hK hP 1 1 rfl rfl (by rw [ev_67]; exact wa_in h0 hab hb9 (c_44.trans ev_63) (by decide)) rfl dX8_wordAt_87 ?_
          refine lv_topi (fun v_68 ev_68 => ?_)
          refine lv_icmp_ne (tgt := 95) hx hb dX8_wordAt_88 (by decide) (fun c_88 => ?_) (fun c_88 => ?_)
          ·
            refine lv_iconst (v := 0) hx hb dX8_wordAt_95 (by decide) ?_
            refine lv_istore (lv' := [(6, .int 0), (7, .int 2), (5, .int 4), (0, .ref (y 0)), (1, .int a), (2, .int b), (3, .int 0), (4, .int 0)]) hx hb dX8_wordAt_96 hl (by decide) rfl (fun ls hl => ?_)
            refine lv_iinc (v := 3) (lv' := [(7, .int 3), (6, .int 0), (5, .int 4), (0, .ref (y 0)), (1, .int a), (2, .int b), (3, .int 0), (4, .int 0)]) hx hb dX8_wordAt_98 hl (k := 1) rfl (by decide) (by decide) rfl (fun ls hl => ?_)
            refine lv_goto (tgt := 57) hx hb dX8_wordAt_101 (by decide) ?_
            refine lv_iload hx hb dX8_wordAt_57 (lv_at hl 0 rfl) ?_
            refine lv_iload hx hb dX8_wordAt_59 (lv_at hl 2 rfl) ?_
            refine lv_icmp_ge (tgt := 104) hx hb dX8_wordAt_61 (by decide) (fun h => absurd h (by decide)) (fun _ => ?_)
            refine lv_iload hx hb dX8_wordAt_64 (lv_at hl 1 rfl) ?_
            refine lv_if_eq (tgt := 104) hx hb dX8_wordAt_66 (by decide) (fun _ => ?_) (fun h => absurd (by decide) h)
            refine lv_iload hx hb dX8_wordAt_104 (lv_at hl 1 rfl) ?_
            refine lv_if_eq (tgt := 111) hx hb dX8_wordAt_106 (by decide) (fun _ => ?_) (fun h => absurd (by decide) h)
            refine lv_iload hx hb dX8_wordAt_111 (lv_at hl 7 rfl) ?_
            refine lv_iload hx hb dX8_wordAt_113 (lv_at hl 2 rfl) ?_
            refine lv_iconst (v := 1) hx hb dX8_wordAt_115 (by decide) ?_
            refine sv_iadd (v := 5) hx hb dX8_wordAt_116 (by decide) ?_
            refine sv_iadd (v := 5) hx hb dX8_wordAt_117 (by decide) ?_
            refine lv_istore (lv' := [(4, .int 5), (7, .int 3), (6, .int 0), (5, .int 4), (0, .ref (y 0)), (1, .int a), (2, .int b), (3, .int 0)]) hx hb dX8_wordAt_118 hl (by decide) rfl (fun ls hl => ?_)
            refine lv_iinc (v := 1) (lv' := [(3, .int 1), (4, .int 5), (7, .int 3), (6, .int 0), (5, .int 4), (0, .ref (y 0)), (1, .int a), (2, .int b)]) hx hb dX8_wordAt_120 hl (k := 7) rfl (by decide) (by decide) rfl (fun ls hl => ?_)
            refine lv_goto (tgt := 5) hx hb dX8_wordAt_123 (by decide) ?_
            exact J_1_5 ls (lv_sub hl [5, 6, 7, 0, 1] rfl)
          ·
            refine lv_iconst (v := 1) hx hb dX8_wordAt_91 (by decide) ?_
            refine lv_goto (tgt := 96) hx hb dX8_wordAt_92 (by decide) ?_
            refine lv_istore (lv' := [(6, .int 1), (7, .int 2), (5, .int 4), (0, .ref (y 0)), (1, .int a), (2, .int b), (3, .int 0), (4, .int 0)]) hx hb dX8_wordAt_96 hl (by decide) rfl (fun ls hl => ?_)
            refine lv_iinc (v := 3) (lv' := [(7, .int 3), (6, .int 1), (5, .int 4), (0, .ref (y 0)), (1, .int a), (2, .int b), (3, .int 0), (4, .int 0)]) hx hb dX8_wordAt_98 hl (k := 1) rfl (by decide) (by decide) rfl (fun ls hl => ?_)
            refine lv_goto (tgt := 57) hx hb dX8_wordAt_101 (by decide) ?_
            refine lv_iload hx hb dX8_wordAt_57 (lv_at hl 0 rfl) ?_
            refine lv_iload hx hb dX8_wordAt_59 (lv_at hl 2 rfl) ?_
            refine lv_icmp_ge (tgt := 104) hx hb dX8_wordAt_61 (by decide) (fun h => absurd h (by decide)) (fun _ => ?_)
            refine lv_iload hx hb dX8_wordAt_64 (lv_at hl 1 rfl) ?_
            refine lv_if_eq (tgt := 104) hx hb dX8_wordAt_66 (by decide) (fun h => absurd h (by decide)) (fun _ => ?_)
            refine lv_aload_n hx hb dX8_wordAt_69 rfl (lv_at hl 3 rfl) ?_
            refine va_get (D := D) (ci := 8) (v := .ref (y 17)) (C := RX8) (T := TX8) (N := 52) hx hb hts w_1 hown hK hP 0 rfl rfl 34 (by decide) w_2 (fun _ h9 => h9) rfl dX8_wordAt_70 ?_
            refine lv_iload hx hb dX8_wordAt_73 (lv_at hl 7 rfl) ?_
            refine lv_iload hx hb dX8_wordAt_75 (lv_at hl 0 rfl) ?_
            refine sv_iadd (v := 3) hx hb dX8_wordAt_77 (by decide) ?_
            refine sv_iald (v := 110) hx hb hK hP 2 1 rfl rfl (vp_in_iff.mpr (by decide)) (hwf 3 (by decide)) dX8_wordAt_78 ?_
            refine lv_aload_n hx hb dX8_wordAt_79 rfl (lv_at hl 3 rfl) ?_
            refine va_get (D := D) (ci := 8) (v := .ref (y 1)) (C := RX8) (T := TX8) (N := 52) hx hb hts w_1 hown hK hP 0 rfl rfl 0 (by decide) w_3 (fun _ h9 => h9) rfl dX8_wordAt_80 ?_
            refine lv_iload_n hx hb dX8_wordAt_83 rfl (lv_at hl 4 rfl) ?_
            refine lv_iload hx hb dX8_wordAt_84 (lv_at hl 0 rfl) ?_
            refine sv_iadd (v := a + 3) hx hb dX8_wordAt_86 rfl ?_
            refine lv_topi (fun v_69 ev_69 => ?_)
            refine sv_iald (v := m_tape v_69.toNatClampNeg) hx hb hK hP 1 1 rfl rfl (by rw [ev_69]; exact wa_in h0 hab hb9 (c_44.trans ev_63) (by decide)) rfl dX8_wordAt_87 ?_
            refine lv_topi (fun v_70 ev_70 => ?_)
            refine lv_icmp_ne (tgt := 95) hx hb dX8_wordAt_88 (by decide) (fun c_88 => ?_) (fun c_88 => ?_)
            ·
              refine lv_iconst (v := 0) hx hb dX8_wordAt_95 (by decide) ?_
              refine lv_istore (lv' := [(6, .int 0), (7, .int 3), (5, .int 4), (0, .ref (y 0)), (1, .int a), (2, .int b), (3, .int 0), (4, .int 0)]) hx hb dX8_wordAt_96 hl (by decide) rfl (fun ls hl => ?_)
              refine lv_iinc (v := 4) (lv' := [(7, .int 4), (6, .int 0), (5, .int 4), (0, .ref (y 0)), (1, .int a), (2, .int b), (3, .int 0), (4, .int 0)]) hx hb dX8_wordAt_98 hl (k := 1) rfl (by decide) (by decide) rfl (fun ls hl => ?_)
              refine lv_goto (tgt := 57) hx hb dX8_wordAt_101 (by decide) ?_
              refine lv_iload hx hb dX8_wordAt_57 (lv_at hl 0 rfl) ?_
              refine lv_iload hx hb dX8_wordAt_59 (lv_at hl 2 rfl) ?_
              refine lv_icmp_ge (tgt := 104) hx hb dX8_wordAt_61 (by decide) (fun _ => ?_) (fun h => absurd (by decide) h)
              refine lv_iload hx hb dX8_wordAt_104 (lv_at hl 1 rfl) ?_
              refine lv_if_eq (tgt := 111) hx hb dX8_wordAt_106 (by decide) (fun _ => ?_) (fun h => absurd (by decide) h)
              refine lv_iload hx hb dX8_wordAt_111 (lv_at hl 7 rfl) ?_
              refine lv_iload hx hb dX8_wordAt_113 (lv_at hl 2 rfl) ?_
              refine lv_iconst (v := 1) hx hb dX8_wordAt_115 (by decide) ?_
              refine sv_iadd (v := 5) hx hb dX8_wordAt_116 (by decide) ?_
              refine sv_iadd (v := 5) hx hb dX8_wordAt_117 (by decide) ?_
              refine lv_istore (lv' := [(4, .int 5), (7, .int 4), (6, .int 0), (5, .int 4), (0, .ref (y 0)), (1, .int a), (2, .int b), (3, .int 0)]) hx hb dX8_wordAt_118 hl (by decide) rfl (fun ls hl => ?_)
              refine lv_iinc (v := 1) (lv' := [(3, .int 1), (4, .int 5), (7, .int 4), (6, .int 0), (5, .int 4), (0, .ref (y 0)), (1, .int a), (2, .int b)]) hx hb dX8_wordAt_120 hl (k := 7) rfl (by decide) (by decide) rfl (fun ls hl => ?_)
              refine lv_goto (tgt := 5) hx hb dX8_wordAt_123 (by decide) ?_
              exact J_1_5 ls (lv_sub hl [5, 6, 7, 0, 1] rfl)
            ·
              refine lv_iconst (v := 1) hx hb dX8_wordAt_91 (by decide) ?_
              refine lv_goto (tgt := 96) hx hb dX8_wordAt_92 (by decide) ?_
              refine lv_istore (lv' := [(6, .int 1), (7, .int 3), (5, .int 4), (0, .ref (y 0)), (1, .int a), (2, .int b), (3, .int 0), (4, .int 0)]) hx hb dX8_wordAt_96 hl (by decide) rfl (fun ls hl => ?_)
              refine lv_iinc (v := 4) (lv' := [(7, .int 4), (6, .int 1), (5, .int 4), (0, .ref (y 0)), (1, .int a), (2, .int b), (3, .int 0), (4, .int 0)]) hx hb dX8_wordAt_98 hl (k := 1) rfl (by decide) (by decide) rfl (fun ls hl => ?_)
              refine lv_goto (tgt := 57) hx hb dX8_wordAt_101 (by decide) ?_
              refine lv_iload hx hb dX8_wordAt_57 (lv_at hl 0 rfl) ?_
              refine lv_iload hx hb dX8_wordAt_59 (lv_at hl 2 rfl) ?_
              refine lv_icmp_ge (tgt := 104) hx hb dX8_wordAt_61 (by decide) (fun _ => ?_) (fun h => absurd (by decide) h)
              refine lv_iload hx hb dX8_wordAt_104 (lv_at hl 1 rfl) ?_
              refine lv_if_eq (tgt := 111) hx hb dX8_wordAt_106 (by decide) (fun h => absurd h (by decide)) (fun _ => ?_)
              refine lv_iload_n hx hb dX8_wordAt_109 rfl (lv_at hl 6 rfl) ?_
              rw [← hQ]
              exact W.iret (v := 0) hx hb hr (fun t ht hW => ⟨_, rfl, Or.inr (vp_in_iff.mpr (by decide)), ht⟩) (fun q h => nomatch h) dX8_wordAt_110
  exact J_0_0 ls (lv_sub hl [2, 3, 4, 1, 0] rfl)

theorem sm_lt {t : Nat → Int32} {a z e q r : Int32} (h : (r = 1 ∧ smP t a z e q) ∨ (r = 0 ∧ ¬ smP t a z e q)) (c : ¬ r = 0) : ¬ e ≤ q := h.elim (fun g => g.2.1) (fun g => absurd g.1 c)
theorem sm_yes {t : Nat → Int32} {a z e q r : Int32} (h : (r = 1 ∧ smP t a z e q) ∨ (r = 0 ∧ ¬ smP t a z e q)) (c : ¬ r = 0) : smP t a z e q := h.elim (fun g => g.2) (fun g => absurd g.1 c)
theorem sm_no {t : Nat → Int32} {a z e q r : Int32} (h : (r = 1 ∧ smP t a z e q) ∨ (r = 0 ∧ ¬ smP t a z e q)) (c : r = 0) : ¬ smP t a z e q := h.elim (fun g => absurd (g.1.symm.trans c) (by decide)) (fun g => g.2)
theorem tk_gone {t : Nat → Int32} {a z e i j : Int32} (h : smP t a z e i) (g : ¬ smP t a z e j) (hij : i.toInt ≤ j.toInt ∧ j.toInt ≤ e.toInt) : i.toInt < j.toInt := by
  rcases Int.lt_or_eq_of_le hij.1 with q | q
  · exact q
  · rw [Int32.toInt_inj.mp q] at h; exact absurd h g
theorem tk_one {n i e k w : Int32} (h : n.toInt ≤ i.toInt ∧ i.toInt ≤ e.toInt) (c : ¬ e ≤ i) (hk : ¬ k = 1) : tkP e n (i + 1) k w := by
  have h1 := tk_inc h c
  have h2 := lp_inc c
  exact ⟨h1.1, h1.2, Or.inr (by omega), fun q => absurd q hk⟩

set_option maxHeartbeats 4000000 in
set_option maxRecDepth 100000 in
theorem n_X8_take (l : Launch) (D : va_G) (cB cI cJ cZ : ClassId) (sz : Nat) (y : Nat → Nat) (m_tapeSize m_givers m_children m_coats m_legacies m_insideMany : Nat) (m_thrown m_cycleMany m_vote m_low m_high m_wear m_spare m_places m_cycleNext m_fault m_faultPlace m_giverNext m_years m_end m_next m_kind m_which m_place m_read m_readMany m_readHigh : Int32) (m_tape m_words : Nat → Int32) (hn0 : 0 ≤ m_next.toInt) (hne : m_next.toInt ≤ m_end.toInt) (he : m_end.toInt ≤ 300) (hwf : wOK m_words) : Met l yX8_take wsX8_take ({ frames := 1, cells := 0, slots := 0, locals := 27 } : Room) (cPre D (aTy cB cI cJ cZ) [((y 0), .inr (8, [.ref (y 1), .int (nI m_tapeSize), .int m_thrown, .ref (y 2), .int m_cycleMany, .int m_vote, .int m_low, .int m_high, .int m_wear, .int m_spare, .int m_places, .int m_cycleNext, .int m_fault, .int m_faultPlace, .int (nI m_givers), .ref (y 3), .ref (y 4), .int m_giverNext, .int (nI m_children), .ref (y 5), .ref (y 6), .ref (y 7), .ref (y 8), .ref (y 9), .int (nI m_coats), .ref (y 10), .ref (y 11), .ref (y 12), .ref (y 13), .int m_years, .int (nI m_legacies), .ref (y 14), .ref (y 15), .ref (y 16), .ref (y 17), .int m_end, .int m_next, .int m_kind, .int m_which, .int m_place, .int m_read, .ref (y 18), .ref (y 19), .int m_readMany, .int m_readHigh, .ref (y 20), .int (nI m_insideMany), .ref (y 21), .ref (y 22), .ref (y 23), .ref (y 24), .ref (y 25)])), ((y 1), .inl (cI, 300, .inl m_tape)), ((y 17), .inl (cI, 43, .inl m_words))] sz [.ref (y 0)]) (va_Qv (fun (u : Int32 × Int32 × Int32 × Int32) => tkP m_end m_next u.1 u.2.2.2 u.2.2.1) (cB_ D (aTy cB cI cJ cZ) (va_A [((y 0), .inr (8, [.ref (y 1), .int (nI m_tapeSize), .int m_thrown, .ref (y 2), .int m_cycleMany, .int m_vote, .int m_low, .int m_high, .int m_wear, .int m_spare, .int m_places, .int m_cycleNext, .int m_fault, .int m_faultPlace, .int (nI m_givers), .ref (y 3), .ref (y 4), .int m_giverNext, .int (nI m_children), .ref (y 5), .ref (y 6), .ref (y 7), .ref (y 8), .ref (y 9), .int (nI m_coats), .ref (y 10), .ref (y 11), .ref (y 12), .ref (y 13), .int m_years, .int (nI m_legacies), .ref (y 14), .ref (y 15), .ref (y 16), .ref (y 17), .int m_end, .int m_next, .int m_kind, .int m_which, .int m_place, .int m_read, .ref (y 18), .ref (y 19), .int m_readMany, .int m_readHigh, .ref (y 20), .int (nI m_insideMany), .ref (y 21), .ref (y 22), .ref (y 23), .ref (y 24), .ref (y 25)])), ((y 1), .inl (cI, 300, .inl m_tape)), ((y 17), .inl (cI, 43, .inl m_words))] sz) (fun u => [((y 0), .inr (8, [.ref (y 1), .int (nI m_tapeSize), .int m_thrown, .ref (y 2), .int m_cycleMany, .int m_vote, .int m_low, .int m_high, .int m_wear, .int m_spare, .int m_places, .int m_cycleNext, .int m_fault, .int m_faultPlace, .int (nI m_givers), .ref (y 3), .ref (y 4), .int m_giverNext, .int (nI m_children), .ref (y 5), .ref (y 6), .ref (y 7), .ref (y 8), .ref (y 9), .int (nI m_coats), .ref (y 10), .ref (y 11), .ref (y 12), .ref (y 13), .int m_years, .int (nI m_legacies), .ref (y 14), .ref (y 15), .ref (y 16), .ref (y 17), .int m_end, .int (u.1), .int (u.2.2.2), .int (u.2.2.1), .int (u.2.1), .int m_read, .ref (y 18), .ref (y 19), .int m_readMany, .int m_readHigh, .ref (y 20), .int (nI m_insideMany), .ref (y 21), .ref (y 22), .ref (y 23), .ref (y 24), .ref (y 25)])), ((y 1), .inl (cI, 300, .inl m_tape)), ((y 17), .inl (cI, 43, .inl m_words))])) (va_A [((y 0), .inr (8, [.ref (y 1), .int (nI m_tapeSize), .int m_thrown, .ref (y 2), .int m_cycleMany, .int m_vote, .int m_low, .int m_high, .int m_wear, .int m_spare, .int m_places, .int m_cycleNext, .int m_fault, .int m_faultPlace, .int (nI m_givers), .ref (y 3), .ref (y 4), .int m_giverNext, .int (nI m_children), .ref (y 5), .ref (y 6), .ref (y 7), .ref (y 8), .ref (y 9), .int (nI m_coats), .ref (y 10), .ref (y 11), .ref (y 12), .ref (y 13), .int m_years, .int (nI m_legacies), .ref (y 14), .ref (y 15), .ref (y 16), .ref (y 17), .int m_end, .int m_next, .int m_kind, .int m_which, .int m_place, .int m_read, .ref (y 18), .ref (y 19), .int m_readMany, .int m_readHigh, .ref (y 20), .int (nI m_insideMany), .ref (y 21), .ref (y 22), .ref (y 23), .ref (y 24), .ref (y 25)])), ((y 1), .inl (cI, 300, .inl m_tape)), ((y 17), .inl (cI, 43, .inl m_words))] sz)) 0 0 (va_A [((y 0), .inr (8, [.ref (y 1), .int (nI m_tapeSize), .int m_thrown, .ref (y 2), .int m_cycleMany, .int m_vote, .int m_low, .int m_high, .int m_wear, .int m_spare, .int m_places, .int m_cycleNext, .int m_fault, .int m_faultPlace, .int (nI m_givers), .ref (y 3), .ref (y 4), .int m_giverNext, .int (nI m_children), .ref (y 5), .ref (y 6), .ref (y 7), .ref (y 8), .ref (y 9), .int (nI m_coats), .ref (y 10), .ref (y 11), .ref (y 12), .ref (y 13), .int m_years, .int (nI m_legacies), .ref (y 14), .ref (y 15), .ref (y 16), .ref (y 17), .int m_end, .int m_next, .int m_kind, .int m_which, .int m_place, .int m_read, .ref (y 18), .ref (y 19), .int m_readMany, .int m_readHigh, .ref (y 20), .int (nI m_insideMany), .ref (y 21), .ref (y 22), .ref (y 23), .ref (y 24), .ref (y 25)])), ((y 1), .inl (cI, 300, .inl m_tape)), ((y 17), .inl (cI, 43, .inl m_words))] sz) := by
  refine Met.ofW (cc := cX8_take) (maxL := 1) (ret := none) (by decide) rfl ?_
  intro p e s m args below meth c s₁ B hml hv
  obtain ⟨rfl, hsz, hP, hK, hD0⟩ := hv
  have hx := B.exec
  have hb := B.bytes
  have hr := B.returns
  have hts := atoms_spec (ws := wsX8_take) B.pre
  have hown : s.vm.findClass RX8 = some m.cls := findClass_of_methodNamed B.named
  have hlocks := B.notSynchronized
  subst hsz
  have hD := hD0.self (sz := s.heap.size)
  generalize hAe : va_A [((y 0), .inr (8, [.ref (y 1), .int (nI m_tapeSize), .int m_thrown, .ref (y 2), .int m_cycleMany, .int m_vote, .int m_low, .int m_high, .int m_wear, .int m_spare, .int m_places, .int m_cycleNext, .int m_fault, .int m_faultPlace, .int (nI m_givers), .ref (y 3), .ref (y 4), .int m_giverNext, .int (nI m_children), .ref (y 5), .ref (y 6), .ref (y 7), .ref (y 8), .ref (y 9), .int (nI m_coats), .ref (y 10), .ref (y 11), .ref (y 12), .ref (y 13), .int m_years, .int (nI m_legacies), .ref (y 14), .ref (y 15), .ref (y 16), .ref (y 17), .int m_end, .int m_next, .int m_kind, .int m_which, .int m_place, .int m_read, .ref (y 18), .ref (y 19), .int m_readMany, .int m_readHigh, .ref (y 20), .int (nI m_insideMany), .ref (y 21), .ref (y 22), .ref (y 23), .ref (y 24), .ref (y 25)])), ((y 1), .inl (cI, 300, .inl m_tape)), ((y 17), .inl (cI, 43, .inl m_words))] s.heap.size = A at hD ⊢
  have hA : ∀ q : Nat, s.heap.size ≤ q → A q := fun q h => by rw [← hAe]; exact Or.inr h
  have hS : va_S A s.heap s.heap [] := va_S.rf
  have hP : va_P D vwCl [((y 0), .inr (8, [.ref (y 1), .int (nI m_tapeSize), .int m_thrown, .ref (y 2), .int m_cycleMany, .int m_vote, .int m_low, .int m_high, .int m_wear, .int m_spare, .int m_places, .int m_cycleNext, .int m_fault, .int m_faultPlace, .int (nI m_givers), .ref (y 3), .ref (y 4), .int m_giverNext, .int (nI m_children), .ref (y 5), .ref (y 6), .ref (y 7), .ref (y 8), .ref (y 9), .int (nI m_coats), .ref (y 10), .ref (y 11), .ref (y 12), .ref (y 13), .int m_years, .int (nI m_legacies), .ref (y 14), .ref (y 15), .ref (y 16), .ref (y 17), .int m_end, .int m_next, .int m_kind, .int m_which, .int m_place, .int m_read, .ref (y 18), .ref (y 19), .int m_readMany, .int m_readHigh, .ref (y 20), .int (nI m_insideMany), .ref (y 21), .ref (y 22), .ref (y 23), .ref (y 24), .ref (y 25)])), ((y 1), .inl (cI, 300, .inl m_tape)), ((y 17), .inl (cI, 43, .inl m_words))] s.heap := hP
  have w_1 : ∀ w ∈ wsX80, w ∈ wsX8_take := by decide +kernel
  have w_2 := hts (Cond.fieldLink RX8 124 "BlueCoatsModel" "next" "I") (by decide +kernel)
  have w_3 := hts (Cond.fieldLink RX8 121 "BlueCoatsModel" "end" "I") (by decide +kernel)
  have w_4 := hts (Cond.fieldLink RX8 127 "BlueCoatsModel" "place" "I") (by decide +kernel)
  have w_5 := hts (Cond.fieldLink RX8 7 "BlueCoatsModel" "tape" "[I") (by decide +kernel)
  have w_6 := hts (Cond.fieldLink RX8 130 "BlueCoatsModel" "kind" "I") (by decide +kernel)
  have w_7 := hts (Cond.fieldLink RX8 141 "BlueCoatsModel" "which" "I") (by decide +kernel)
  have w_8 := hts (Cond.constant RX8 147 (99999)) (by decide +kernel)
  have hl := lv_entry ([.ref (y 0)]) (n := 1) (Nat.le_of_ble_eq_true rfl)
  rw [lg_entry_eq]
  generalize (lg_sl ([.ref (y 0)]) ++ List.replicate (1 - (lg_sl ([.ref (y 0)])).length) Slot.unset).toArray = ls at hl ⊢
  have hl : lv_has ls 1 [(0, .ref (y 0))] := hl
  generalize hQ : MQ below _ _ s _ _ _ = Q0
  have L_1 : ∀ (n : Nat) (i_0 : Int32)  (H : Heap) (locs : List Loc) (ls : Array Slot), (Int32.toInt m_end - i_0.toInt).toNat < n → (m_next.toInt ≤ i_0.toInt ∧ i_0.toInt ≤ m_end.toInt) → va_P D vwCl [((y 0), .inr (8, [.ref (y 1), .int (nI m_tapeSize), .int m_thrown, .ref (y 2), .int m_cycleMany, .int m_vote, .int m_low, .int m_high, .int m_wear, .int m_spare, .int m_places, .int m_cycleNext, .int m_fault, .int m_faultPlace, .int (nI m_givers), .ref (y 3), .ref (y 4), .int m_giverNext, .int (nI m_children), .ref (y 5), .ref (y 6), .ref (y 7), .ref (y 8), .ref (y 9), .int (nI m_coats), .ref (y 10), .ref (y 11), .ref (y 12), .ref (y 13), .int m_years, .int (nI m_legacies), .ref (y 14), .ref (y 15), .ref (y 16), .ref (y 17), .int m_end, .int i_0, .int m_kind, .int m_which, .int m_place, .int m_read, .ref (y 18), .ref (y 19), .int m_readMany, .int m_readHigh, .ref (y 20), .int (nI m_insideMany), .ref (y 21), .ref (y 22), .ref (y 23), .ref (y 24), .ref (y 25)])), ((y 1), .inl (cI, 300, .inl m_tape)), ((y 17), .inl (cI, 43, .inl m_words))] H → va_D A [((y 0), .inr (8, [.ref (y 1), .int (nI m_tapeSize), .int m_thrown, .ref (y 2), .int m_cycleMany, .int m_vote, .int m_low, .int m_high, .int m_wear, .int m_spare, .int m_places, .int m_cycleNext, .int m_fault, .int m_faultPlace, .int (nI m_givers), .ref (y 3), .ref (y 4), .int m_giverNext, .int (nI m_children), .ref (y 5), .ref (y 6), .ref (y 7), .ref (y 8), .ref (y 9), .int (nI m_coats), .ref (y 10), .ref (y 11), .ref (y 12), .ref (y 13), .int m_years, .int (nI m_legacies), .ref (y 14), .ref (y 15), .ref (y 16), .ref (y 17), .int m_end, .int i_0, .int m_kind, .int m_which, .int m_place, .int m_read, .ref (y 18), .ref (y 19), .int m_readMany, .int m_readHigh, .ref (y 20), .int (nI m_insideMany), .ref (y 21), .ref (y 22), .ref (y 23), .ref (y 24), .ref (y 25)])), ((y 1), .inl (cI, 300, .inl m_tape)), ((y 17), .inl (cI, 43, .inl m_words))] → va_S A s.heap H locs → lv_has ls 1 [(0, .ref (y 0))] → W p l e (headSpec wsX8_take ({ frames := 1, cells := 0, slots := 0, locals := 27 } : Room)).room s m ([.ref (y 0)] : List Value).toArray below meth c H locs 0 0 Q0 (F0 m 0 ls []) := by
    intro n
    induction n with
    | zero => intro i_0 H locs ls hn_0 hi_0 hP hD hS hl; exact absurd hn_0 (Nat.not_lt_zero _)
    | succ n ih_L_1 =>
      intro i_0 H locs ls hn_0 hi_0 hP hD hS hl
      refine lv_aload_n hx hb dX8_take_0 rfl (lv_at hl 0 rfl) ?_
      refine va_get (D := D) (ci := 8) (v := .int i_0) (C := RX8) (T := TX8) (N := 52) hx hb hts w_1 hown hK hP 0 rfl rfl 36 (by decide) w_2 (fun _ h9 => h9) rfl dX8_take_1 ?_
      refine lv_aload_n hx hb dX8_take_4 rfl (lv_at hl 0 rfl) ?_
      refine va_get (D := D) (ci := 8) (v := .int m_end) (C := RX8) (T := TX8) (N := 52) hx hb hts w_1 hown hK hP 0 rfl rfl 35 (by decide) w_3 (fun _ h9 => h9) rfl dX8_take_5 ?_
      refine lv_icmp_ge (tgt := 52) hx hb dX8_take_8 (by decide) (fun c_8 => ?_) (fun c_8 => ?_)
      ·
        refine lv_aload_n hx hb dX8_take_52 rfl (lv_at hl 0 rfl) ?_
        refine lv_aload_n hx hb dX8_take_53 rfl (lv_at hl 0 rfl) ?_
        refine va_get (D := D) (ci := 8) (v := .int i_0) (C := RX8) (T := TX8) (N := 52) hx hb hts w_1 hown hK hP 0 rfl rfl 36 (by decide) w_2 (fun _ h9 => h9) rfl dX8_take_54 ?_
        refine va_put (D := D) (ci := 8) (v := .int i_0) (ty := .int) (C := RX8) (T := TX8) (N := 52) hx hb hts w_1 tyX8 tyX8_ok nmX8 hown hK hP hD hS 0 rfl rfl 39 (by decide) w_4 (fun _ h9 => h9) rfl (by decide +kernel) rfl rfl (Nat.le_of_ble_eq_true rfl) dX8_take_57 (fun H locs hP hD hS => ?_)
        have hP : va_P D vwCl [((y 0), .inr (8, [.ref (y 1), .int (nI m_tapeSize), .int m_thrown, .ref (y 2), .int m_cycleMany, .int m_vote, .int m_low, .int m_high, .int m_wear, .int m_spare, .int m_places, .int m_cycleNext, .int m_fault, .int m_faultPlace, .int (nI m_givers), .ref (y 3), .ref (y 4), .int m_giverNext, .int (nI m_children), .ref (y 5), .ref (y 6), .ref (y 7), .ref (y 8), .ref (y 9), .int (nI m_coats), .ref (y 10), .ref (y 11), .ref (y 12), .ref (y 13), .int m_years, .int (nI m_legacies), .ref (y 14), .ref (y 15), .ref (y 16), .ref (y 17), .int m_end, .int i_0, .int m_kind, .int m_which, .int i_0, .int m_read, .ref (y 18), .ref (y 19), .int m_readMany, .int m_readHigh, .ref (y 20), .int (nI m_insideMany), .ref (y 21), .ref (y 22), .ref (y 23), .ref (y 24), .ref (y 25)])), ((y 1), .inl (cI, 300, .inl m_tape)), ((y 17), .inl (cI, 43, .inl m_words))] H := hP
        have hD : va_D A [((y 0), .inr (8, [.ref (y 1), .int (nI m_tapeSize), .int m_thrown, .ref (y 2), .int m_cycleMany, .int m_vote, .int m_low, .int m_high, .int m_wear, .int m_spare, .int m_places, .int m_cycleNext, .int m_fault, .int m_faultPlace, .int (nI m_givers), .ref (y 3), .ref (y 4), .int m_giverNext, .int (nI m_children), .ref (y 5), .ref (y 6), .ref (y 7), .ref (y 8), .ref (y 9), .int (nI m_coats), .ref (y 10), .ref (y 11), .ref (y 12), .ref (y 13), .int m_years, .int (nI m_legacies), .ref (y 14), .ref (y 15), .ref (y 16), .ref (y 17), .int m_end, .int i_0, .int m_kind, .int m_which, .int i_0, .int m_read, .ref (y 18), .ref (y 19), .int m_readMany, .int m_readHigh, .ref (y 20), .int (nI m_insideMany), .ref (y 21), .ref (y 22), .ref (y 23), .ref (y 24), .ref (y 25)])), ((y 1), .inl (cI, 300, .inl m_tape)), ((y 17), .inl (cI, 43, .inl m_words))] := hD
        refine lv_aload_n hx hb dX8_take_60 rfl (lv_at hl 0 rfl) ?_
        refine va_get (D := D) (ci := 8) (v := .int i_0) (C := RX8) (T := TX8) (N := 52) hx hb hts w_1 hown hK hP 0 rfl rfl 36 (by decide) w_2 (fun _ h9 => h9) rfl dX8_take_61 ?_
        refine lv_aload_n hx hb dX8_take_64 rfl (lv_at hl 0 rfl) ?_
        refine va_get (D := D) (ci := 8) (v := .int m_end) (C := RX8) (T := TX8) (N := 52) hx hb hts w_1 hown hK hP 0 rfl rfl 35 (by decide) w_3 (fun _ h9 => h9) rfl dX8_take_65 ?_
        refine lv_icmp_ne (tgt := 79) hx hb dX8_take_68 (by decide) (fun c_68 => ?_) (fun c_68 => ?_)
        ·
          refine lv_aload_n hx hb dX8_take_79 rfl (lv_at hl 0 rfl) ?_
          refine lv_aload_n hx hb dX8_take_80 rfl (lv_at hl 0 rfl) ?_
          refine va_get (D := D) (ci := 8) (v := .int i_0) (C := RX8) (T := TX8) (N := 52) hx hb hts w_1 hown hK hP 0 rfl rfl 36 (by decide) w_2 (fun _ h9 => h9) rfl dX8_take_81 ?_
          refine vp_callSi (va_Run.run (va_runV (As := [.int i_0]) (rest := []) ⟨hx, hb, hml, hown, hts⟩ (n_X8_isSmall l D cB cI cJ cZ y m_tapeSize m_givers m_children m_coats m_legacies m_insideMany m_thrown m_cycleMany m_vote m_low m_high m_wear m_spare m_places m_cycleNext m_fault m_faultPlace m_giverNext m_years m_end i_0 m_kind m_which i_0 m_read m_readMany m_readHigh m_tape i_0 (Int.le_trans hn0 hi_0.1) he) (cwV 1 hts gX8_take_X8_isSmall rfl rfl rfl (by decide +kernel) ⟨Nat.le_of_ble_eq_true rfl, Nat.le_of_ble_eq_true rfl⟩) (pre_VR (hP.sub (ws' := [((y 0), .inr (8, [.ref (y 1), .int (nI m_tapeSize), .int m_thrown, .ref (y 2), .int m_cycleMany, .int m_vote, .int m_low, .int m_high, .int m_wear, .int m_spare, .int m_places, .int m_cycleNext, .int m_fault, .int m_faultPlace, .int (nI m_givers), .ref (y 3), .ref (y 4), .int m_giverNext, .int (nI m_children), .ref (y 5), .ref (y 6), .ref (y 7), .ref (y 8), .ref (y 9), .int (nI m_coats), .ref (y 10), .ref (y 11), .ref (y 12), .ref (y 13), .int m_years, .int (nI m_legacies), .ref (y 14), .ref (y 15), .ref (y 16), .ref (y 17), .int m_end, .int i_0, .int m_kind, .int m_which, .int i_0, .int m_read, .ref (y 18), .ref (y 19), .int m_readMany, .int m_readHigh, .ref (y 20), .int (nI m_insideMany), .ref (y 21), .ref (y 22), .ref (y 23), .ref (y 24), .ref (y 25)])), ((y 1), .inl (cI, 300, .inl m_tape))]) [0, 1] rfl) hK 0 rfl rfl rfl) rfl rfl hl.1 rfl (lv_room (Nat.le_of_ble_eq_true rfl)) dX8_take_84 ⟨Nat.le_of_ble_eq_true rfl, Nat.le_of_ble_eq_true rfl⟩)) (fun r_2 hw_r_2 => ?_)
          refine lv_if_eq (tgt := 149) hx hb dX8_take_87 (by decide) (fun c_87 => ?_) (fun c_87 => ?_)
          ·
            refine lv_aload_n hx hb dX8_take_149 rfl (lv_at hl 0 rfl) ?_
            refine lv_aload_n hx hb dX8_take_150 rfl (lv_at hl 0 rfl) ?_
            refine va_get (D := D) (ci := 8) (v := .int i_0) (C := RX8) (T := TX8) (N := 52) hx hb hts w_1 hown hK hP 0 rfl rfl 36 (by decide) w_2 (fun _ h9 => h9) rfl dX8_take_151 ?_
            refine vp_callSi (va_Run.run (va_runV (As := [.int i_0]) (rest := []) ⟨hx, hb, hml, hown, hts⟩ (n_X8_isDigit l D cB cI cJ cZ y m_tapeSize m_givers m_children m_coats m_legacies m_insideMany m_thrown m_cycleMany m_vote m_low m_high m_wear m_spare m_places m_cycleNext m_fault m_faultPlace m_giverNext m_years m_end i_0 m_kind m_which i_0 m_read m_readMany m_readHigh m_tape i_0 (Int.le_trans hn0 hi_0.1) he) (cwV 1 hts gX8_take_X8_isDigit rfl rfl rfl (by decide +kernel) ⟨Nat.le_of_ble_eq_true rfl, Nat.le_of_ble_eq_true rfl⟩) (pre_VR (hP.sub (ws' := [((y 0), .inr (8, [.ref (y 1), .int (nI m_tapeSize), .int m_thrown, .ref (y 2), .int m_cycleMany, .int m_vote, .int m_low, .int m_high, .int m_wear, .int m_spare, .int m_places, .int m_cycleNext, .int m_fault, .int m_faultPlace, .int (nI m_givers), .ref (y 3), .ref (y 4), .int m_giverNext, .int (nI m_children), .ref (y 5), .ref (y 6), .ref (y 7), .ref (y 8), .ref (y 9), .int (nI m_coats), .ref (y 10), .ref (y 11), .ref (y 12), .ref (y 13), .int m_years, .int (nI m_legacies), .ref (y 14), .ref (y 15), .ref (y 16), .ref (y 17), .int m_end, .int i_0, .int m_kind, .int m_which, .int i_0, .int m_read, .ref (y 18), .ref (y 19), .int m_readMany, .int m_readHigh, .ref (y 20), .int (nI m_insideMany), .ref (y 21), .ref (y 22), .ref (y 23), .ref (y 24), .ref (y 25)])), ((y 1), .inl (cI, 300, .inl m_tape))]) [0, 1] rfl) hK 0 rfl rfl rfl) rfl rfl hl.1 rfl (lv_room (Nat.le_of_ble_eq_true rfl)) dX8_take_154 ⟨Nat.le_of_ble_eq_true rfl, Nat.le_of_ble_eq_true rfl⟩)) (fun r_3 hw_r_3 => ?_)
            refine lv_if_eq (tgt := 234) hx hb dX8_take_157 (by decide) (fun c_157 => ?_) (fun c_157 => ?_)
            ·
              refine lv_aload_n hx hb dX8_take_234 rfl (lv_at hl 0 rfl) ?_
              refine lv_aload_n hx hb dX8_take_235 rfl (lv_at hl 0 rfl) ?_
              refine va_get (D := D) (ci := 8) (v := .ref (y 1)) (C := RX8) (T := TX8) (N := 52) hx hb hts w_1 hown hK hP 0 rfl rfl 0 (by decide) w_5 (fun _ h9 => h9) rfl dX8_take_236 ?_
              refine lv_aload_n hx hb dX8_take_239 rfl (lv_at hl 0 rfl) ?_
              refine va_get (D := D) (ci := 8) (v := .int i_0) (C := RX8) (T := TX8) (N := 52) hx hb hts w_1 hown hK hP 0 rfl rfl 36 (by decide) w_2 (fun _ h9 => h9) rfl dX8_take_240 ?_
              refine sv_iald (v := m_tape i_0.toNatClampNeg) hx hb hK hP 1 1 rfl rfl (sm_in (Int.le_trans hn0 hi_0.1) (ne_lt hi_0.2 c_68) he) rfl dX8_take_243 ?_
              refine lv_topi (fun v_4 ev_4 => ?_)
              refine lv_bipush (v := 59) hx hb dX8_take_244 (by decide) ?_
              refine lv_icmp_ne (tgt := 253) hx hb dX8_take_246 (by decide) (fun c_246 => ?_) (fun c_246 => ?_)
              ·
                refine lv_iconst (v := 4) hx hb dX8_take_253 (by decide) ?_
                refine va_put (D := D) (ci := 8) (v := .int 4) (ty := .int) (C := RX8) (T := TX8) (N := 52) hx hb hts w_1 tyX8 tyX8_ok nmX8 hown hK hP hD hS 0 rfl rfl 37 (by decide) w_6 (fun _ h9 => h9) rfl (by decide +kernel) rfl rfl (Nat.le_of_ble_eq_true rfl) dX8_take_254 (fun H locs hP hD hS => ?_)
                have hP : va_P D vwCl [((y 0), .inr (8, [.ref (y 1), .int (nI m_tapeSize), .int m_thrown, .ref (y 2), .int m_cycleMany, .int m_vote, .int m_low, .int m_high, .int m_wear, .int m_spare, .int m_places, .int m_cycleNext, .int m_fault, .int m_faultPlace, .int (nI m_givers), .ref (y 3), .ref (y 4), .int m_giverNext, .int (nI m_children), .ref (y 5), .ref (y 6), .ref (y 7), .ref (y 8), .ref (y 9), .int (nI m_coats), .ref (y 10), .ref (y 11), .ref (y 12), .ref (y 13), .int m_years, .int (nI m_legacies), .ref (y 14), .ref (y 15), .ref (y 16), .ref (y 17), .int m_end, .int i_0, .int 4, .int m_which, .int i_0, .int m_read, .ref (y 18), .ref (y 19), .int m_readMany, .int m_readHigh, .ref (y 20), .int (nI m_insideMany), .ref (y 21), .ref (y 22), .ref (y 23), .ref (y 24), .ref (y 25)])), ((y 1), .inl (cI, 300, .inl m_tape)), ((y 17), .inl (cI, 43, .inl m_words))] H := hP
                have hD : va_D A [((y 0), .inr (8, [.ref (y 1), .int (nI m_tapeSize), .int m_thrown, .ref (y 2), .int m_cycleMany, .int m_vote, .int m_low, .int m_high, .int m_wear, .int m_spare, .int m_places, .int m_cycleNext, .int m_fault, .int m_faultPlace, .int (nI m_givers), .ref (y 3), .ref (y 4), .int m_giverNext, .int (nI m_children), .ref (y 5), .ref (y 6), .ref (y 7), .ref (y 8), .ref (y 9), .int (nI m_coats), .ref (y 10), .ref (y 11), .ref (y 12), .ref (y 13), .int m_years, .int (nI m_legacies), .ref (y 14), .ref (y 15), .ref (y 16), .ref (y 17), .int m_end, .int i_0, .int 4, .int m_which, .int i_0, .int m_read, .ref (y 18), .ref (y 19), .int m_readMany, .int m_readHigh, .ref (y 20), .int (nI m_insideMany), .ref (y 21), .ref (y 22), .ref (y 23), .ref (y 24), .ref (y 25)])), ((y 1), .inl (cI, 300, .inl m_tape)), ((y 17), .inl (cI, 43, .inl m_words))] := hD
                refine lv_aload_n hx hb dX8_take_257 rfl (lv_at hl 0 rfl) ?_
                refine lv_dup hx hb dX8_take_258 rfl ?_
                refine va_get (D := D) (ci := 8) (v := .int i_0) (C := RX8) (T := TX8) (N := 52) hx hb hts w_1 hown hK hP 0 rfl rfl 36 (by decide) w_2 (fun _ h9 => h9) rfl dX8_take_259 ?_
                refine lv_iconst (v := 1) hx hb dX8_take_262 (by decide) ?_
                refine sv_iadd (v := i_0 + 1) hx hb dX8_take_263 rfl ?_
                refine va_put (D := D) (ci := 8) (v := .int (i_0 + 1)) (ty := .int) (C := RX8) (T := TX8) (N := 52) hx hb hts w_1 tyX8 tyX8_ok nmX8 hown hK hP hD hS 0 rfl rfl 36 (by decide) w_2 (fun _ h9 => h9) rfl (by decide +kernel) rfl rfl (Nat.le_of_ble_eq_true rfl) dX8_take_264 (fun H locs hP hD hS => ?_)
                have hP : va_P D vwCl [((y 0), .inr (8, [.ref (y 1), .int (nI m_tapeSize), .int m_thrown, .ref (y 2), .int m_cycleMany, .int m_vote, .int m_low, .int m_high, .int m_wear, .int m_spare, .int m_places, .int m_cycleNext, .int m_fault, .int m_faultPlace, .int (nI m_givers), .ref (y 3), .ref (y 4), .int m_giverNext, .int (nI m_children), .ref (y 5), .ref (y 6), .ref (y 7), .ref (y 8), .ref (y 9), .int (nI m_coats), .ref (y 10), .ref (y 11), .ref (y 12), .ref (y 13), .int m_years, .int (nI m_legacies), .ref (y 14), .ref (y 15), .ref (y 16), .ref (y 17), .int m_end, .int (i_0 + 1), .int 4, .int m_which, .int i_0, .int m_read, .ref (y 18), .ref (y 19), .int m_readMany, .int m_readHigh, .ref (y 20), .int (nI m_insideMany), .ref (y 21), .ref (y 22), .ref (y 23), .ref (y 24), .ref (y 25)])), ((y 1), .inl (cI, 300, .inl m_tape)), ((y 17), .inl (cI, 43, .inl m_words))] H := hP
                have hD : va_D A [((y 0), .inr (8, [.ref (y 1), .int (nI m_tapeSize), .int m_thrown, .ref (y 2), .int m_cycleMany, .int m_vote, .int m_low, .int m_high, .int m_wear, .int m_spare, .int m_places, .int m_cycleNext, .int m_fault, .int m_faultPlace, .int (nI m_givers), .ref (y 3), .ref (y 4), .int m_giverNext, .int (nI m_children), .ref (y 5), .ref (y 6), .ref (y 7), .ref (y 8), .ref (y 9), .int (nI m_coats), .ref (y 10), .ref (y 11), .ref (y 12), .ref (y 13), .int m_years, .int (nI m_legacies), .ref (y 14), .ref (y 15), .ref (y 16), .ref (y 17), .int m_end, .int (i_0 + 1), .int 4, .int m_which, .int i_0, .int m_read, .ref (y 18), .ref (y 19), .int m_readMany, .int m_readHigh, .ref (y 20), .int (nI m_insideMany), .ref (y 21), .ref (y 22), .ref (y 23), .ref (y 24), .ref (y 25)])), ((y 1), .inl (cI, 300, .inl m_tape)), ((y 17), .inl (cI, 43, .inl m_words))] := hD
                rw [← hQ]
                have hP9 := hP.sub (ws' := [((y 0), .inr (8, [.ref (y 1), .int (nI m_tapeSize), .int m_thrown, .ref (y 2), .int m_cycleMany, .int m_vote, .int m_low, .int m_high, .int m_wear, .int m_spare, .int m_places, .int m_cycleNext, .int m_fault, .int m_faultPlace, .int (nI m_givers), .ref (y 3), .ref (y 4), .int m_giverNext, .int (nI m_children), .ref (y 5), .ref (y 6), .ref (y 7), .ref (y 8), .ref (y 9), .int (nI m_coats), .ref (y 10), .ref (y 11), .ref (y 12), .ref (y 13), .int m_years, .int (nI m_legacies), .ref (y 14), .ref (y 15), .ref (y 16), .ref (y 17), .int m_end, .int (i_0 + 1), .int 4, .int m_which, .int i_0, .int m_read, .ref (y 18), .ref (y 19), .int m_readMany, .int m_readHigh, .ref (y 20), .int (nI m_insideMany), .ref (y 21), .ref (y 22), .ref (y 23), .ref (y 24), .ref (y 25)])), ((y 1), .inl (cI, 300, .inl m_tape)), ((y 17), .inl (cI, 43, .inl m_words))]) [0, 1, 2] rfl
                have hD9 := hD.sub (ws' := [((y 0), .inr (8, [.ref (y 1), .int (nI m_tapeSize), .int m_thrown, .ref (y 2), .int m_cycleMany, .int m_vote, .int m_low, .int m_high, .int m_wear, .int m_spare, .int m_places, .int m_cycleNext, .int m_fault, .int m_faultPlace, .int (nI m_givers), .ref (y 3), .ref (y 4), .int m_giverNext, .int (nI m_children), .ref (y 5), .ref (y 6), .ref (y 7), .ref (y 8), .ref (y 9), .int (nI m_coats), .ref (y 10), .ref (y 11), .ref (y 12), .ref (y 13), .int m_years, .int (nI m_legacies), .ref (y 14), .ref (y 15), .ref (y 16), .ref (y 17), .int m_end, .int (i_0 + 1), .int 4, .int m_which, .int i_0, .int m_read, .ref (y 18), .ref (y 19), .int m_readMany, .int m_readHigh, .ref (y 20), .int (nI m_insideMany), .ref (y 21), .ref (y 22), .ref (y 23), .ref (y 24), .ref (y 25)])), ((y 1), .inl (cI, 300, .inl m_tape)), ((y 17), .inl (cI, 43, .inl m_words))]) [0, 1, 2] (by decide) rfl
                exact W.vret hx hb hr (fun t ht hW => ⟨⟨((i_0 + 1 : Int32), (i_0 : Int32), (m_which : Int32), (4 : Int32)), rfl, (tk_one hi_0 (ne_lt hi_0.2 c_68) (by decide)), by rw [ht]; exact hP9, va_K.moved hW.alike hK, hD9⟩, hS.F ht⟩) hS.2.2 dX8_take_267
              ·
                refine lv_iconst (v := 3) hx hb dX8_take_249 (by decide) ?_
                refine lv_goto (tgt := 254) hx hb dX8_take_250 (by decide) ?_
                refine va_put (D := D) (ci := 8) (v := .int 3) (ty := .int) (C := RX8) (T := TX8) (N := 52) hx hb hts w_1 tyX8 tyX8_ok nmX8 hown hK hP hD hS 0 rfl rfl 37 (by decide) w_6 (fun _ h9 => h9) rfl (by decide +kernel) rfl rfl (Nat.le_of_ble_eq_true rfl) dX8_take_254 (fun H locs hP hD hS => ?_)
                have hP : va_P D vwCl [((y 0), .inr (8, [.ref (y 1), .int (nI m_tapeSize), .int m_thrown, .ref (y 2), .int m_cycleMany, .int m_vote, .int m_low, .int m_high, .int m_wear, .int m_spare, .int m_places, .int m_cycleNext, .int m_fault, .int m_faultPlace, .int (nI m_givers), .ref (y 3), .ref (y 4), .int m_giverNext, .int (nI m_children), .ref (y 5), .ref (y 6), .ref (y 7), .ref (y 8), .ref (y 9), .int (nI m_coats), .ref (y 10), .ref (y 11), .ref (y 12), .ref (y 13), .int m_years, .int (nI m_legacies), .ref (y 14), .ref (y 15), .ref (y 16), .ref (y 17), .int m_end, .int i_0, .int 3, .int m_which, .int i_0, .int m_read, .ref (y 18), .ref (y 19), .int m_readMany, .int m_readHigh, .ref (y 20), .int (nI m_insideMany), .ref (y 21), .ref (y 22), .ref (y 23), .ref (y 24), .ref (y 25)])), ((y 1), .inl (cI, 300, .inl m_tape)), ((y 17), .inl (cI, 43, .inl m_words))] H := hP
                have hD : va_D A [((y 0), .inr (8, [.ref (y 1), .int (nI m_tapeSize), .int m_thrown, .ref (y 2), .int m_cycleMany, .int m_vote, .int m_low, .int m_high, .int m_wear, .int m_spare, .int m_places, .int m_cycleNext, .int m_fault, .int m_faultPlace, .int (nI m_givers), .ref (y 3), .ref (y 4), .int m_giverNext, .int (nI m_children), .ref (y 5), .ref (y 6), .ref (y 7), .ref (y 8), .ref (y 9), .int (nI m_coats), .ref (y 10), .ref (y 11), .ref (y 12), .ref (y 13), .int m_years, .int (nI m_legacies), .ref (y 14), .ref (y 15), .ref (y 16), .ref (y 17), .int m_end, .int i_0, .int 3, .int m_which, .int i_0, .int m_read, .ref (y 18), .ref (y 19), .int m_readMany, .int m_readHigh, .ref (y 20), .int (nI m_insideMany), .ref (y 21), .ref (y 22), .ref (y 23), .ref (y 24), .ref (y 25)])), ((y 1), .inl (cI, 300, .inl m_tape)), ((y 17), .inl (cI, 43, .inl m_words))] := hD
                refine lv_aload_n hx hb dX8_take_257 rfl (lv_at hl 0 rfl) ?_
                refine lv_dup hx hb dX8_take_258 rfl ?_
                refine va_get (D := D) (ci := 8) (v := .int i_0) (C := RX8) (T := TX8) (N := 52) hx hb hts w_1 hown hK hP 0 rfl rfl 36 (by decide) w_2 (fun _ h9 => h9) rfl dX8_take_259 ?_
                refine lv_iconst (v := 1) hx hb dX8_take_262 (by decide) ?_
                refine sv_iadd (v := i_0 + 1) hx hb dX8_take_263 rfl ?_
                refine va_put (D := D) (ci := 8) (v := .int (i_0 + 1)) (ty := .int) (C := RX8) (T := TX8) (N := 52) hx hb hts w_1 tyX8 tyX8_ok nmX8 hown hK hP hD hS 0 rfl rfl 36 (by decide) w_2 (fun _ h9 => h9) rfl (by decide +kernel) rfl rfl (Nat.le_of_ble_eq_true rfl) dX8_take_264 (fun H locs hP hD hS => ?_)
                have hP : va_P D vwCl [((y 0), .inr (8, [.ref (y 1), .int (nI m_tapeSize), .int m_thrown, .ref (y 2), .int m_cycleMany, .int m_vote, .int m_low, .int m_high, .int m_wear, .int m_spare, .int m_places, .int m_cycleNext, .int m_fault, .int m_faultPlace, .int (nI m_givers), .ref (y 3), .ref (y 4), .int m_giverNext, .int (nI m_children), .ref (y 5), .ref (y 6), .ref (y 7), .ref (y 8), .ref (y 9), .int (nI m_coats), .ref (y 10), .ref (y 11), .ref (y 12), .ref (y 13), .int m_years, .int (nI m_legacies), .ref (y 14), .ref (y 15), .ref (y 16), .ref (y 17), .int m_end, .int (i_0 + 1), .int 3, .int m_which, .int i_0, .int m_read, .ref (y 18), .ref (y 19), .int m_readMany, .int m_readHigh, .ref (y 20), .int (nI m_insideMany), .ref (y 21), .ref (y 22), .ref (y 23), .ref (y 24), .ref (y 25)])), ((y 1), .inl (cI, 300, .inl m_tape)), ((y 17), .inl (cI, 43, .inl m_words))] H := hP
                have hD : va_D A [((y 0), .inr (8, [.ref (y 1), .int (nI m_tapeSize), .int m_thrown, .ref (y 2), .int m_cycleMany, .int m_vote, .int m_low, .int m_high, .int m_wear, .int m_spare, .int m_places, .int m_cycleNext, .int m_fault, .int m_faultPlace, .int (nI m_givers), .ref (y 3), .ref (y 4), .int m_giverNext, .int (nI m_children), .ref (y 5), .ref (y 6), .ref (y 7), .ref (y 8), .ref (y 9), .int (nI m_coats), .ref (y 10), .ref (y 11), .ref (y 12), .ref (y 13), .int m_years, .int (nI m_legacies), .ref (y 14), .ref (y 15), .ref (y 16), .ref (y 17), .int m_end, .int (i_0 + 1), .int 3, .int m_which, .int i_0, .int m_read, .ref (y 18), .ref (y 19), .int m_readMany, .int m_readHigh, .ref (y 20), .int (nI m_insideMany), .ref (y 21), .ref (y 22), .ref (y 23), .ref (y 24), .ref (y 25)])), ((y 1), .inl (cI, 300, .inl m_tape)), ((y 17), .inl (cI, 43, .inl m_words))] := hD
                rw [← hQ]
                have hP9 := hP.sub (ws' := [((y 0), .inr (8, [.ref (y 1), .int (nI m_tapeSize), .int m_thrown, .ref (y 2), .int m_cycleMany, .int m_vote, .int m_low, .int m_high, .int m_wear, .int m_spare, .int m_places, .int m_cycleNext, .int m_fault, .int m_faultPlace, .int (nI m_givers), .ref (y 3), .ref (y 4), .int m_giverNext, .int (nI m_children), .ref (y 5), .ref (y 6), .ref (y 7), .ref (y 8), .ref (y 9), .int (nI m_coats), .ref (y 10), .ref (y 11), .ref (y 12), .ref (y 13), .int m_years, .int (nI m_legacies), .ref (y 14), .ref (y 15), .ref (y 16), .ref (y 17), .int m_end, .int (i_0 + 1), .int 3, .int m_which, .int i_0, .int m_read, .ref (y 18), .ref (y 19), .int m_readMany, .int m_readHigh, .ref (y 20), .int (nI m_insideMany), .ref (y 21), .ref (y 22), .ref (y 23), .ref (y 24), .ref (y 25)])), ((y 1), .inl (cI, 300, .inl m_tape)), ((y 17), .inl (cI, 43, .inl m_words))]) [0, 1, 2] rfl
                have hD9 := hD.sub (ws' := [((y 0), .inr (8, [.ref (y 1), .int (nI m_tapeSize), .int m_thrown, .ref (y 2), .int m_cycleMany, .int m_vote, .int m_low, .int m_high, .int m_wear, .int m_spare, .int m_places, .int m_cycleNext, .int m_fault, .int m_faultPlace, .int (nI m_givers), .ref (y 3), .ref (y 4), .int m_giverNext, .int (nI m_children), .ref (y 5), .ref (y 6), .ref (y 7), .ref (y 8), .ref (y 9), .int (nI m_coats), .ref (y 10), .ref (y 11), .ref (y 12), .ref (y 13), .int m_years, .int (nI m_legacies), .ref (y 14), .ref (y 15), .ref (y 16), .ref (y 17), .int m_end, .int (i_0 + 1), .int 3, .int m_which, .int i_0, .int m_read, .ref (y 18), .ref (y 19), .int m_readMany, .int m_readHigh, .ref (y 20), .int (nI m_insideMany), .ref (y 21), .ref (y 22), .ref (y 23), .ref (y 24), .ref (y 25)])), ((y 1), .inl (cI, 300, .inl m_tape)), ((y 17), .inl (cI, 43, .inl m_words))]) [0, 1, 2] (by decide) rfl
                exact W.vret hx hb hr (fun t ht hW => ⟨⟨((i_0 + 1 : Int32), (i_0 : Int32), (m_which : Int32), (3 : Int32)), rfl, (tk_one hi_0 (ne_lt hi_0.2 c_68) (by decide)), by rw [ht]; exact hP9, va_K.moved hW.alike hK, hD9⟩, hS.F ht⟩) hS.2.2 dX8_take_267
            ·
              refine lv_aload_n hx hb dX8_take_160 rfl (lv_at hl 0 rfl) ?_
              refine lv_iconst (v := 2) hx hb dX8_take_161 (by decide) ?_
              refine va_put (D := D) (ci := 8) (v := .int 2) (ty := .int) (C := RX8) (T := TX8) (N := 52) hx hb hts w_1 tyX8 tyX8_ok nmX8 hown hK hP hD hS 0 rfl rfl 37 (by decide) w_6 (fun _ h9 => h9) rfl (by decide +kernel) rfl rfl (Nat.le_of_ble_eq_true rfl) dX8_take_162 (fun H locs hP hD hS => ?_)
              have hP : va_P D vwCl [((y 0), .inr (8, [.ref (y 1), .int (nI m_tapeSize), .int m_thrown, .ref (y 2), .int m_cycleMany, .int m_vote, .int m_low, .int m_high, .int m_wear, .int m_spare, .int m_places, .int m_cycleNext, .int m_fault, .int m_faultPlace, .int (nI m_givers), .ref (y 3), .ref (y 4), .int m_giverNext, .int (nI m_children), .ref (y 5), .ref (y 6), .ref (y 7), .ref (y 8), .ref (y 9), .int (nI m_coats), .ref (y 10), .ref (y 11), .ref (y 12), .ref (y 13), .int m_years, .int (nI m_legacies), .ref (y 14), .ref (y 15), .ref (y 16), .ref (y 17), .int m_end, .int i_0, .int 2, .int m_which, .int i_0, .int m_read, .ref (y 18), .ref (y 19), .int m_readMany, .int m_readHigh, .ref (y 20), .int (nI m_insideMany), .ref (y 21), .ref (y 22), .ref (y 23), .ref (y 24), .ref (y 25)])), ((y 1), .inl (cI, 300, .inl m_tape)), ((y 17), .inl (cI, 43, .inl m_words))] H := hP
              have hD : va_D A [((y 0), .inr (8, [.ref (y 1), .int (nI m_tapeSize), .int m_thrown, .ref (y 2), .int m_cycleMany, .int m_vote, .int m_low, .int m_high, .int m_wear, .int m_spare, .int m_places, .int m_cycleNext, .int m_fault, .int m_faultPlace, .int (nI m_givers), .ref (y 3), .ref (y 4), .int m_giverNext, .int (nI m_children), .ref (y 5), .ref (y 6), .ref (y 7), .ref (y 8), .ref (y 9), .int (nI m_coats), .ref (y 10), .ref (y 11), .ref (y 12), .ref (y 13), .int m_years, .int (nI m_legacies), .ref (y 14), .ref (y 15), .ref (y 16), .ref (y 17), .int m_end, .int i_0, .int 2, .int m_which, .int i_0, .int m_read, .ref (y 18), .ref (y 19), .int m_readMany, .int m_readHigh, .ref (y 20), .int (nI m_insideMany), .ref (y 21), .ref (y 22), .ref (y 23), .ref (y 24), .ref (y 25)])), ((y 1), .inl (cI, 300, .inl m_tape)), ((y 17), .inl (cI, 43, .inl m_words))] := hD
              refine lv_aload_n hx hb dX8_take_165 rfl (lv_at hl 0 rfl) ?_
              refine lv_iconst (v := 0) hx hb dX8_take_166 (by decide) ?_
              refine va_put (D := D) (ci := 8) (v := .int 0) (ty := .int) (C := RX8) (T := TX8) (N := 52) hx hb hts w_1 tyX8 tyX8_ok nmX8 hown hK hP hD hS 0 rfl rfl 38 (by decide) w_7 (fun _ h9 => h9) rfl (by decide +kernel) rfl rfl (Nat.le_of_ble_eq_true rfl) dX8_take_167 (fun H locs hP hD hS => ?_)
              have hP : va_P D vwCl [((y 0), .inr (8, [.ref (y 1), .int (nI m_tapeSize), .int m_thrown, .ref (y 2), .int m_cycleMany, .int m_vote, .int m_low, .int m_high, .int m_wear, .int m_spare, .int m_places, .int m_cycleNext, .int m_fault, .int m_faultPlace, .int (nI m_givers), .ref (y 3), .ref (y 4), .int m_giverNext, .int (nI m_children), .ref (y 5), .ref (y 6), .ref (y 7), .ref (y 8), .ref (y 9), .int (nI m_coats), .ref (y 10), .ref (y 11), .ref (y 12), .ref (y 13), .int m_years, .int (nI m_legacies), .ref (y 14), .ref (y 15), .ref (y 16), .ref (y 17), .int m_end, .int i_0, .int 2, .int 0, .int i_0, .int m_read, .ref (y 18), .ref (y 19), .int m_readMany, .int m_readHigh, .ref (y 20), .int (nI m_insideMany), .ref (y 21), .ref (y 22), .ref (y 23), .ref (y 24), .ref (y 25)])), ((y 1), .inl (cI, 300, .inl m_tape)), ((y 17), .inl (cI, 43, .inl m_words))] H := hP
              have hD : va_D A [((y 0), .inr (8, [.ref (y 1), .int (nI m_tapeSize), .int m_thrown, .ref (y 2), .int m_cycleMany, .int m_vote, .int m_low, .int m_high, .int m_wear, .int m_spare, .int m_places, .int m_cycleNext, .int m_fault, .int m_faultPlace, .int (nI m_givers), .ref (y 3), .ref (y 4), .int m_giverNext, .int (nI m_children), .ref (y 5), .ref (y 6), .ref (y 7), .ref (y 8), .ref (y 9), .int (nI m_coats), .ref (y 10), .ref (y 11), .ref (y 12), .ref (y 13), .int m_years, .int (nI m_legacies), .ref (y 14), .ref (y 15), .ref (y 16), .ref (y 17), .int m_end, .int i_0, .int 2, .int 0, .int i_0, .int m_read, .ref (y 18), .ref (y 19), .int m_readMany, .int m_readHigh, .ref (y 20), .int (nI m_insideMany), .ref (y 21), .ref (y 22), .ref (y 23), .ref (y 24), .ref (y 25)])), ((y 1), .inl (cI, 300, .inl m_tape)), ((y 17), .inl (cI, 43, .inl m_words))] := hD
              have L_5 : ∀ (n : Nat) (i_170 : Int32) (t_y0_38_170 : Int32) (H : Heap) (locs : List Loc) (ls : Array Slot), (Int32.toInt m_end - i_170.toInt).toNat < n → (i_0.toInt ≤ i_170.toInt ∧ i_170.toInt ≤ m_end.toInt) → va_P D vwCl [((y 0), .inr (8, [.ref (y 1), .int (nI m_tapeSize), .int m_thrown, .ref (y 2), .int m_cycleMany, .int m_vote, .int m_low, .int m_high, .int m_wear, .int m_spare, .int m_places, .int m_cycleNext, .int m_fault, .int m_faultPlace, .int (nI m_givers), .ref (y 3), .ref (y 4), .int m_giverNext, .int (nI m_children), .ref (y 5), .ref (y 6), .ref (y 7), .ref (y 8), .ref (y 9), .int (nI m_coats), .ref (y 10), .ref (y 11), .ref (y 12), .ref (y 13), .int m_years, .int (nI m_legacies), .ref (y 14), .ref (y 15), .ref (y 16), .ref (y 17), .int m_end, .int i_170, .int 2, .int t_y0_38_170, .int i_0, .int m_read, .ref (y 18), .ref (y 19), .int m_readMany, .int m_readHigh, .ref (y 20), .int (nI m_insideMany), .ref (y 21), .ref (y 22), .ref (y 23), .ref (y 24), .ref (y 25)])), ((y 1), .inl (cI, 300, .inl m_tape)), ((y 17), .inl (cI, 43, .inl m_words))] H → va_D A [((y 0), .inr (8, [.ref (y 1), .int (nI m_tapeSize), .int m_thrown, .ref (y 2), .int m_cycleMany, .int m_vote, .int m_low, .int m_high, .int m_wear, .int m_spare, .int m_places, .int m_cycleNext, .int m_fault, .int m_faultPlace, .int (nI m_givers), .ref (y 3), .ref (y 4), .int m_giverNext, .int (nI m_children), .ref (y 5), .ref (y 6), .ref (y 7), .ref (y 8), .ref (y 9), .int (nI m_coats), .ref (y 10), .ref (y 11), .ref (y 12), .ref (y 13), .int m_years, .int (nI m_legacies), .ref (y 14), .ref (y 15), .ref (y 16), .ref (y 17), .int m_end, .int i_170, .int 2, .int t_y0_38_170, .int i_0, .int m_read, .ref (y 18), .ref (y 19), .int m_readMany, .int m_readHigh, .ref (y 20), .int (nI m_insideMany), .ref (y 21), .ref (y 22), .ref (y 23), .ref (y 24), .ref (y 25)])), ((y 1), .inl (cI, 300, .inl m_tape)), ((y 17), .inl (cI, 43, .inl m_words))] → va_S A s.heap H locs → lv_has ls 1 [(0, .ref (y 0))] → W p l e (headSpec wsX8_take ({ frames := 1, cells := 0, slots := 0, locals := 27 } : Room)).room s m ([.ref (y 0)] : List Value).toArray below meth c H locs 0 0 Q0 (F0 m 170 ls []) := by
                intro n
                induction n with
                | zero => intro i_170 t_y0_38_170 H locs ls hn_170 hi_170 hP hD hS hl; exact absurd hn_170 (Nat.not_lt_zero _)
                | succ n ih_L_5 =>
                  intro i_170 t_y0_38_170 H locs ls hn_170 hi_170 hP hD hS hl
                  refine lv_aload_n hx hb dX8_take_170 rfl (lv_at hl 0 rfl) ?_
                  refine lv_aload_n hx hb dX8_take_171 rfl (lv_at hl 0 rfl) ?_
                  refine va_get (D := D) (ci := 8) (v := .int i_170) (C := RX8) (T := TX8) (N := 52) hx hb hts w_1 hown hK hP 0 rfl rfl 36 (by decide) w_2 (fun _ h9 => h9) rfl dX8_take_172 ?_
                  refine vp_callSi (va_Run.run (va_runV (As := [.int i_170]) (rest := []) ⟨hx, hb, hml, hown, hts⟩ (n_X8_isDigit l D cB cI cJ cZ y m_tapeSize m_givers m_children m_coats m_legacies m_insideMany m_thrown m_cycleMany m_vote m_low m_high m_wear m_spare m_places m_cycleNext m_fault m_faultPlace m_giverNext m_years m_end i_170 2 t_y0_38_170 i_0 m_read m_readMany m_readHigh m_tape i_170 (Int.le_trans hn0 (Int.le_trans hi_0.1 hi_170.1)) he) (cwV 1 hts gX8_take_X8_isDigit rfl rfl rfl (by decide +kernel) ⟨Nat.le_of_ble_eq_true rfl, Nat.le_of_ble_eq_true rfl⟩) (pre_VR (hP.sub (ws' := [((y 0), .inr (8, [.ref (y 1), .int (nI m_tapeSize), .int m_thrown, .ref (y 2), .int m_cycleMany, .int m_vote, .int m_low, .int m_high, .int m_wear, .int m_spare, .int m_places, .int m_cycleNext, .int m_fault, .int m_faultPlace, .int (nI m_givers), .ref (y 3), .ref (y 4), .int m_giverNext, .int (nI m_children), .ref (y 5), .ref (y 6), .ref (y 7), .ref (y 8), .ref (y 9), .int (nI m_coats), .ref (y 10), .ref (y 11), .ref (y 12), .ref (y 13), .int m_years, .int (nI m_legacies), .ref (y 14), .ref (y 15), .ref (y 16), .ref (y 17), .int m_end, .int i_170, .int 2, .int t_y0_38_170, .int i_0, .int m_read, .ref (y 18), .ref (y 19), .int m_readMany, .int m_readHigh, .ref (y 20), .int (nI m_insideMany), .ref (y 21), .ref (y 22), .ref (y 23), .ref (y 24), .ref (y 25)])), ((y 1), .inl (cI, 300, .inl m_tape))]) [0, 1] rfl) hK 0 rfl rfl rfl) rfl rfl hl.1 rfl (lv_room (Nat.le_of_ble_eq_true rfl)) dX8_take_175 ⟨Nat.le_of_ble_eq_true rfl, Nat.le_of_ble_eq_true rfl⟩)) (fun r_6 hw_r_6 => ?_)
                  refine lv_if_eq (tgt := 267) hx hb dX8_take_178 (by decide) (fun c_178 => ?_) (fun c_178 => ?_)
                  ·
                    rw [← hQ]
                    have hP9 := hP.sub (ws' := [((y 0), .inr (8, [.ref (y 1), .int (nI m_tapeSize), .int m_thrown, .ref (y 2), .int m_cycleMany, .int m_vote, .int m_low, .int m_high, .int m_wear, .int m_spare, .int m_places, .int m_cycleNext, .int m_fault, .int m_faultPlace, .int (nI m_givers), .ref (y 3), .ref (y 4), .int m_giverNext, .int (nI m_children), .ref (y 5), .ref (y 6), .ref (y 7), .ref (y 8), .ref (y 9), .int (nI m_coats), .ref (y 10), .ref (y 11), .ref (y 12), .ref (y 13), .int m_years, .int (nI m_legacies), .ref (y 14), .ref (y 15), .ref (y 16), .ref (y 17), .int m_end, .int i_170, .int 2, .int t_y0_38_170, .int i_0, .int m_read, .ref (y 18), .ref (y 19), .int m_readMany, .int m_readHigh, .ref (y 20), .int (nI m_insideMany), .ref (y 21), .ref (y 22), .ref (y 23), .ref (y 24), .ref (y 25)])), ((y 1), .inl (cI, 300, .inl m_tape)), ((y 17), .inl (cI, 43, .inl m_words))]) [0, 1, 2] rfl
                    have hD9 := hD.sub (ws' := [((y 0), .inr (8, [.ref (y 1), .int (nI m_tapeSize), .int m_thrown, .ref (y 2), .int m_cycleMany, .int m_vote, .int m_low, .int m_high, .int m_wear, .int m_spare, .int m_places, .int m_cycleNext, .int m_fault, .int m_faultPlace, .int (nI m_givers), .ref (y 3), .ref (y 4), .int m_giverNext, .int (nI m_children), .ref (y 5), .ref (y 6), .ref (y 7), .ref (y 8), .ref (y 9), .int (nI m_coats), .ref (y 10), .ref (y 11), .ref (y 12), .ref (y 13), .int m_years, .int (nI m_legacies), .ref (y 14), .ref (y 15), .ref (y 16), .ref (y 17), .int m_end, .int i_170, .int 2, .int t_y0_38_170, .int i_0, .int m_read, .ref (y 18), .ref (y 19), .int m_readMany, .int m_readHigh, .ref (y 20), .int (nI m_insideMany), .ref (y 21), .ref (y 22), .ref (y 23), .ref (y 24), .ref (y 25)])), ((y 1), .inl (cI, 300, .inl m_tape)), ((y 17), .inl (cI, 43, .inl m_words))]) [0, 1, 2] (by decide) rfl
                    exact W.vret hx hb hr (fun t ht hW => ⟨⟨((i_170 : Int32), (i_0 : Int32), (t_y0_38_170 : Int32), (2 : Int32)), rfl, ⟨Int.le_trans hi_0.1 hi_170.1, hi_170.2, Or.inr (Int.lt_of_le_of_lt hi_0.1 (tk_gone (sm_yes hw_r_3 c_157) (sm_no hw_r_6 c_178) hi_170)), fun h => absurd h (by decide)⟩, by rw [ht]; exact hP9, va_K.moved hW.alike hK, hD9⟩, hS.F ht⟩) hS.2.2 dX8_take_267
                  ·
                    refine lv_aload_n hx hb dX8_take_181 rfl (lv_at hl 0 rfl) ?_
                    refine lv_aload_n hx hb dX8_take_182 rfl (lv_at hl 0 rfl) ?_
                    refine va_get (D := D) (ci := 8) (v := .int t_y0_38_170) (C := RX8) (T := TX8) (N := 52) hx hb hts w_1 hown hK hP 0 rfl rfl 38 (by decide) w_7 (fun _ h9 => h9) rfl dX8_take_183 ?_
                    refine lv_ldc hx hb hown (w_8) dX8_take_186 ?_
                    refine lv_icmp_le (tgt := 198) hx hb dX8_take_188 (by decide) (fun c_188 => ?_) (fun c_188 => ?_)
                    ·
                      refine lv_bipush (v := 10) hx hb dX8_take_198 (by decide) ?_
                      refine lv_aload_n hx hb dX8_take_200 rfl (lv_at hl 0 rfl) ?_
                      refine va_get (D := D) (ci := 8) (v := .int t_y0_38_170) (C := RX8) (T := TX8) (N := 52) hx hb hts w_1 hown hK hP 0 rfl rfl 38 (by decide) w_7 (fun _ h9 => h9) rfl dX8_take_201 ?_
                      refine sv_imul (v := 10 * t_y0_38_170) hx hb dX8_take_204 rfl ?_
                      refine lv_topi (fun v_7 ev_7 => ?_)
                      refine lv_aload_n hx hb dX8_take_205 rfl (lv_at hl 0 rfl) ?_
                      refine va_get (D := D) (ci := 8) (v := .ref (y 1)) (C := RX8) (T := TX8) (N := 52) hx hb hts w_1 hown hK hP 0 rfl rfl 0 (by decide) w_5 (fun _ h9 => h9) rfl dX8_take_206 ?_
                      refine lv_aload_n hx hb dX8_take_209 rfl (lv_at hl 0 rfl) ?_
                      refine va_get (D := D) (ci := 8) (v := .int i_170) (C := RX8) (T := TX8) (N := 52) hx hb hts w_1 hown hK hP 0 rfl rfl 36 (by decide) w_2 (fun _ h9 => h9) rfl dX8_take_210 ?_
                      refine sv_iald (v := m_tape i_170.toNatClampNeg) hx hb hK hP 1 1 rfl rfl (sm_in (Int.le_trans hn0 (Int.le_trans hi_0.1 hi_170.1)) (sm_lt hw_r_6 c_178) he) rfl dX8_take_213 ?_
                      refine lv_topi (fun v_8 ev_8 => ?_)
                      refine sv_iadd (v := v_7 + v_8) hx hb dX8_take_214 rfl ?_
                      refine lv_topi (fun v_9 ev_9 => ?_)
                      refine lv_bipush (v := 48) hx hb dX8_take_215 (by decide) ?_
                      refine sv_isub (v := v_9 - 48) hx hb dX8_take_217 rfl ?_
                      refine lv_topi (fun v_10 ev_10 => ?_)
                      refine va_put (D := D) (ci := 8) (v := .int v_10) (ty := .int) (C := RX8) (T := TX8) (N := 52) hx hb hts w_1 tyX8 tyX8_ok nmX8 hown hK hP hD hS 0 rfl rfl 38 (by decide) w_7 (fun _ h9 => h9) rfl (by decide +kernel) rfl rfl (Nat.le_of_ble_eq_true rfl) dX8_take_218 (fun H locs hP hD hS => ?_)
                      have hP : va_P D vwCl [((y 0), .inr (8, [.ref (y 1), .int (nI m_tapeSize), .int m_thrown, .ref (y 2), .int m_cycleMany, .int m_vote, .int m_low, .int m_high, .int m_wear, .int m_spare, .int m_places, .int m_cycleNext, .int m_fault, .int m_faultPlace, .int (nI m_givers), .ref (y 3), .ref (y 4), .int m_giverNext, .int (nI m_children), .ref (y 5), .ref (y 6), .ref (y 7), .ref (y 8), .ref (y 9), .int (nI m_coats), .ref (y 10), .ref (y 11), .ref (y 12), .ref (y 13), .int m_years, .int (nI m_legacies), .ref (y 14), .ref (y 15), .ref (y 16), .ref (y 17), .int m_end, .int i_170, .int 2, .int v_10, .int i_0, .int m_read, .ref (y 18), .ref (y 19), .int m_readMany, .int m_readHigh, .ref (y 20), .int (nI m_insideMany), .ref (y 21), .ref (y 22), .ref (y 23), .ref (y 24), .ref (y 25)])), ((y 1), .inl (cI, 300, .inl m_tape)), ((y 17), .inl (cI, 43, .inl m_words))] H := hP
                      have hD : va_D A [((y 0), .inr (8, [.ref (y 1), .int (nI m_tapeSize), .int m_thrown, .ref (y 2), .int m_cycleMany, .int m_vote, .int m_low, .int m_high, .int m_wear, .int m_spare, .int m_places, .int m_cycleNext, .int m_fault, .int m_faultPlace, .int (nI m_givers), .ref (y 3), .ref (y 4), .int m_giverNext, .int (nI m_children), .ref (y 5), .ref (y 6), .ref (y 7), .ref (y 8), .ref (y 9), .int (nI m_coats), .ref (y 10), .ref (y 11), .ref (y 12), .ref (y 13), .int m_years, .int (nI m_legacies), .ref (y 14), .ref (y 15), .ref (y 16), .ref (y 17), .int m_end, .int i_170, .int 2, .int v_10, .int i_0, .int m_read, .ref (y 18), .ref (y 19), .int m_readMany, .int m_readHigh, .ref (y 20), .int (nI m_insideMany), .ref (y 21), .ref (y 22), .ref (y 23), .ref (y 24), .ref (y 25)])), ((y 1), .inl (cI, 300, .inl m_tape)), ((y 17), .inl (cI, 43, .inl m_words))] := hD
                      refine lv_aload_n hx hb dX8_take_221 rfl (lv_at hl 0 rfl) ?_
                      refine lv_dup hx hb dX8_take_222 rfl ?_
                      refine va_get (D := D) (ci := 8) (v := .int i_170) (C := RX8) (T := TX8) (N := 52) hx hb hts w_1 hown hK hP 0 rfl rfl 36 (by decide) w_2 (fun _ h9 => h9) rfl dX8_take_223 ?_
                      refine lv_iconst (v := 1) hx hb dX8_take_226 (by decide) ?_
                      refine sv_iadd (v := i_170 + 1) hx hb dX8_take_227 rfl ?_
                      refine va_put (D := D) (ci := 8) (v := .int (i_170 + 1)) (ty := .int) (C := RX8) (T := TX8) (N := 52) hx hb hts w_1 tyX8 tyX8_ok nmX8 hown hK hP hD hS 0 rfl rfl 36 (by decide) w_2 (fun _ h9 => h9) rfl (by decide +kernel) rfl rfl (Nat.le_of_ble_eq_true rfl) dX8_take_228 (fun H locs hP hD hS => ?_)
                      have hP : va_P D vwCl [((y 0), .inr (8, [.ref (y 1), .int (nI m_tapeSize), .int m_thrown, .ref (y 2), .int m_cycleMany, .int m_vote, .int m_low, .int m_high, .int m_wear, .int m_spare, .int m_places, .int m_cycleNext, .int m_fault, .int m_faultPlace, .int (nI m_givers), .ref (y 3), .ref (y 4), .int m_giverNext, .int (nI m_children), .ref (y 5), .ref (y 6), .ref (y 7), .ref (y 8), .ref (y 9), .int (nI m_coats), .ref (y 10), .ref (y 11), .ref (y 12), .ref (y 13), .int m_years, .int (nI m_legacies), .ref (y 14), .ref (y 15), .ref (y 16), .ref (y 17), .int m_end, .int (i_170 + 1), .int 2, .int v_10, .int i_0, .int m_read, .ref (y 18), .ref (y 19), .int m_readMany, .int m_readHigh, .ref (y 20), .int (nI m_insideMany), .ref (y 21), .ref (y 22), .ref (y 23), .ref (y 24), .ref (y 25)])), ((y 1), .inl (cI, 300, .inl m_tape)), ((y 17), .inl (cI, 43, .inl m_words))] H := hP
                      have hD : va_D A [((y 0), .inr (8, [.ref (y 1), .int (nI m_tapeSize), .int m_thrown, .ref (y 2), .int m_cycleMany, .int m_vote, .int m_low, .int m_high, .int m_wear, .int m_spare, .int m_places, .int m_cycleNext, .int m_fault, .int m_faultPlace, .int (nI m_givers), .ref (y 3), .ref (y 4), .int m_giverNext, .int (nI m_children), .ref (y 5), .ref (y 6), .ref (y 7), .ref (y 8), .ref (y 9), .int (nI m_coats), .ref (y 10), .ref (y 11), .ref (y 12), .ref (y 13), .int m_years, .int (nI m_legacies), .ref (y 14), .ref (y 15), .ref (y 16), .ref (y 17), .int m_end, .int (i_170 + 1), .int 2, .int v_10, .int i_0, .int m_read, .ref (y 18), .ref (y 19), .int m_readMany, .int m_readHigh, .ref (y 20), .int (nI m_insideMany), .ref (y 21), .ref (y 22), .ref (y 23), .ref (y 24), .ref (y 25)])), ((y 1), .inl (cI, 300, .inl m_tape)), ((y 17), .inl (cI, 43, .inl m_words))] := hD
                      refine lv_goto (tgt := 170) hx hb dX8_take_231 (by decide) ?_
                      exact ih_L_5 (i_170 + 1) v_10 _ _ ls (lp_dec hn_170 (sm_lt hw_r_6 c_178)) (tk_inc hi_170 (sm_lt hw_r_6 c_178)) hP hD hS (lv_sub hl [0] rfl)
                    ·
                      refine lv_aload_n hx hb dX8_take_191 rfl (lv_at hl 0 rfl) ?_
                      refine va_get (D := D) (ci := 8) (v := .int t_y0_38_170) (C := RX8) (T := TX8) (N := 52) hx hb hts w_1 hown hK hP 0 rfl rfl 38 (by decide) w_7 (fun _ h9 => h9) rfl dX8_take_192 ?_
                      refine lv_goto (tgt := 218) hx hb dX8_take_195 (by decide) ?_
                      refine va_put (D := D) (ci := 8) (v := .int t_y0_38_170) (ty := .int) (C := RX8) (T := TX8) (N := 52) hx hb hts w_1 tyX8 tyX8_ok nmX8 hown hK hP hD hS 0 rfl rfl 38 (by decide) w_7 (fun _ h9 => h9) rfl (by decide +kernel) rfl rfl (Nat.le_of_ble_eq_true rfl) dX8_take_218 (fun H locs hP hD hS => ?_)
                      have hP : va_P D vwCl [((y 0), .inr (8, [.ref (y 1), .int (nI m_tapeSize), .int m_thrown, .ref (y 2), .int m_cycleMany, .int m_vote, .int m_low, .int m_high, .int m_wear, .int m_spare, .int m_places, .int m_cycleNext, .int m_fault, .int m_faultPlace, .int (nI m_givers), .ref (y 3), .ref (y 4), .int m_giverNext, .int (nI m_children), .ref (y 5), .ref (y 6), .ref (y 7), .ref (y 8), .ref (y 9), .int (nI m_coats), .ref (y 10), .ref (y 11), .ref (y 12), .ref (y 13), .int m_years, .int (nI m_legacies), .ref (y 14), .ref (y 15), .ref (y 16), .ref (y 17), .int m_end, .int i_170, .int 2, .int t_y0_38_170, .int i_0, .int m_read, .ref (y 18), .ref (y 19), .int m_readMany, .int m_readHigh, .ref (y 20), .int (nI m_insideMany), .ref (y 21), .ref (y 22), .ref (y 23), .ref (y 24), .ref (y 25)])), ((y 1), .inl (cI, 300, .inl m_tape)), ((y 17), .inl (cI, 43, .inl m_words))] H := hP
                      have hD : va_D A [((y 0), .inr (8, [.ref (y 1), .int (nI m_tapeSize), .int m_thrown, .ref (y 2), .int m_cycleMany, .int m_vote, .int m_low, .int m_high, .int m_wear, .int m_spare, .int m_places, .int m_cycleNext, .int m_fault, .int m_faultPlace, .int (nI m_givers), .ref (y 3), .ref (y 4), .int m_giverNext, .int (nI m_children), .ref (y 5), .ref (y 6), .ref (y 7), .ref (y 8), .ref (y 9), .int (nI m_coats), .ref (y 10), .ref (y 11), .ref (y 12), .ref (y 13), .int m_years, .int (nI m_legacies), .ref (y 14), .ref (y 15), .ref (y 16), .ref (y 17), .int m_end, .int i_170, .int 2, .int t_y0_38_170, .int i_0, .int m_read, .ref (y 18), .ref (y 19), .int m_readMany, .int m_readHigh, .ref (y 20), .int (nI m_insideMany), .ref (y 21), .ref (y 22), .ref (y 23), .ref (y 24), .ref (y 25)])), ((y 1), .inl (cI, 300, .inl m_tape)), ((y 17), .inl (cI, 43, .inl m_words))] := hD
                      refine lv_aload_n hx hb dX8_take_221 rfl (lv_at hl 0 rfl) ?_
                      refine lv_dup hx hb dX8_take_222 rfl ?_
                      refine va_get (D := D) (ci := 8) (v := .int i_170) (C := RX8) (T := TX8) (N := 52) hx hb hts w_1 hown hK hP 0 rfl rfl 36 (by decide) w_2 (fun _ h9 => h9) rfl dX8_take_223 ?_
                      refine lv_iconst (v := 1) hx hb dX8_take_226 (by decide) ?_
                      refine sv_iadd (v := i_170 + 1) hx hb dX8_take_227 rfl ?_
                      refine va_put (D := D) (ci := 8) (v := .int (i_170 + 1)) (ty := .int) (C := RX8) (T := TX8) (N := 52) hx hb hts w_1 tyX8 tyX8_ok nmX8 hown hK hP hD hS 0 rfl rfl 36 (by decide) w_2 (fun _ h9 => h9) rfl (by decide +kernel) rfl rfl (Nat.le_of_ble_eq_true rfl) dX8_take_228 (fun H locs hP hD hS => ?_)
                      have hP : va_P D vwCl [((y 0), .inr (8, [.ref (y 1), .int (nI m_tapeSize), .int m_thrown, .ref (y 2), .int m_cycleMany, .int m_vote, .int m_low, .int m_high, .int m_wear, .int m_spare, .int m_places, .int m_cycleNext, .int m_fault, .int m_faultPlace, .int (nI m_givers), .ref (y 3), .ref (y 4), .int m_giverNext, .int (nI m_children), .ref (y 5), .ref (y 6), .ref (y 7), .ref (y 8), .ref (y 9), .int (nI m_coats), .ref (y 10), .ref (y 11), .ref (y 12), .ref (y 13), .int m_years, .int (nI m_legacies), .ref (y 14), .ref (y 15), .ref (y 16), .ref (y 17), .int m_end, .int (i_170 + 1), .int 2, .int t_y0_38_170, .int i_0, .int m_read, .ref (y 18), .ref (y 19), .int m_readMany, .int m_readHigh, .ref (y 20), .int (nI m_insideMany), .ref (y 21), .ref (y 22), .ref (y 23), .ref (y 24), .ref (y 25)])), ((y 1), .inl (cI, 300, .inl m_tape)), ((y 17), .inl (cI, 43, .inl m_words))] H := hP
                      have hD : va_D A [((y 0), .inr (8, [.ref (y 1), .int (nI m_tapeSize), .int m_thrown, .ref (y 2), .int m_cycleMany, .int m_vote, .int m_low, .int m_high, .int m_wear, .int m_spare, .int m_places, .int m_cycleNext, .int m_fault, .int m_faultPlace, .int (nI m_givers), .ref (y 3), .ref (y 4), .int m_giverNext, .int (nI m_children), .ref (y 5), .ref (y 6), .ref (y 7), .ref (y 8), .ref (y 9), .int (nI m_coats), .ref (y 10), .ref (y 11), .ref (y 12), .ref (y 13), .int m_years, .int (nI m_legacies), .ref (y 14), .ref (y 15), .ref (y 16), .ref (y 17), .int m_end, .int (i_170 + 1), .int 2, .int t_y0_38_170, .int i_0, .int m_read, .ref (y 18), .ref (y 19), .int m_readMany, .int m_readHigh, .ref (y 20), .int (nI m_insideMany), .ref (y 21), .ref (y 22), .ref (y 23), .ref (y 24), .ref (y 25)])), ((y 1), .inl (cI, 300, .inl m_tape)), ((y 17), .inl (cI, 43, .inl m_words))] := hD
                      refine lv_goto (tgt := 170) hx hb dX8_take_231 (by decide) ?_
                      exact ih_L_5 (i_170 + 1) t_y0_38_170 _ _ ls (lp_dec hn_170 (sm_lt hw_r_6 c_178)) (tk_inc hi_170 (sm_lt hw_r_6 c_178)) hP hD hS (lv_sub hl [0] rfl)
              exact L_5 _ i_0 0 _ _ ls (Nat.lt_succ_self _) ⟨Int.le_refl _, hi_0.2⟩ hP hD hS (lv_sub hl [0] rfl)
          ·
            have L_11 : ∀ (n : Nat) (i_90 : Int32)  (H : Heap) (locs : List Loc) (ls : Array Slot), (Int32.toInt m_end - i_90.toInt).toNat < n → (i_0.toInt ≤ i_90.toInt ∧ i_90.toInt ≤ m_end.toInt) → va_P D vwCl [((y 0), .inr (8, [.ref (y 1), .int (nI m_tapeSize), .int m_thrown, .ref (y 2), .int m_cycleMany, .int m_vote, .int m_low, .int m_high, .int m_wear, .int m_spare, .int m_places, .int m_cycleNext, .int m_fault, .int m_faultPlace, .int (nI m_givers), .ref (y 3), .ref (y 4), .int m_giverNext, .int (nI m_children), .ref (y 5), .ref (y 6), .ref (y 7), .ref (y 8), .ref (y 9), .int (nI m_coats), .ref (y 10), .ref (y 11), .ref (y 12), .ref (y 13), .int m_years, .int (nI m_legacies), .ref (y 14), .ref (y 15), .ref (y 16), .ref (y 17), .int m_end, .int i_90, .int m_kind, .int m_which, .int i_0, .int m_read, .ref (y 18), .ref (y 19), .int m_readMany, .int m_readHigh, .ref (y 20), .int (nI m_insideMany), .ref (y 21), .ref (y 22), .ref (y 23), .ref (y 24), .ref (y 25)])), ((y 1), .inl (cI, 300, .inl m_tape)), ((y 17), .inl (cI, 43, .inl m_words))] H → va_D A [((y 0), .inr (8, [.ref (y 1), .int (nI m_tapeSize), .int m_thrown, .ref (y 2), .int m_cycleMany, .int m_vote, .int m_low, .int m_high, .int m_wear, .int m_spare, .int m_places, .int m_cycleNext, .int m_fault, .int m_faultPlace, .int (nI m_givers), .ref (y 3), .ref (y 4), .int m_giverNext, .int (nI m_children), .ref (y 5), .ref (y 6), .ref (y 7), .ref (y 8), .ref (y 9), .int (nI m_coats), .ref (y 10), .ref (y 11), .ref (y 12), .ref (y 13), .int m_years, .int (nI m_legacies), .ref (y 14), .ref (y 15), .ref (y 16), .ref (y 17), .int m_end, .int i_90, .int m_kind, .int m_which, .int i_0, .int m_read, .ref (y 18), .ref (y 19), .int m_readMany, .int m_readHigh, .ref (y 20), .int (nI m_insideMany), .ref (y 21), .ref (y 22), .ref (y 23), .ref (y 24), .ref (y 25)])), ((y 1), .inl (cI, 300, .inl m_tape)), ((y 17), .inl (cI, 43, .inl m_words))] → va_S A s.heap H locs → lv_has ls 1 [(0, .ref (y 0))] → W p l e (headSpec wsX8_take ({ frames := 1, cells := 0, slots := 0, locals := 27 } : Room)).room s m ([.ref (y 0)] : List Value).toArray below meth c H locs 0 0 Q0 (F0 m 90 ls []) := by
              intro n
              induction n with
              | zero => intro i_90 H locs ls hn_90 hi_90 hP hD hS hl; exact absurd hn_90 (Nat.not_lt_zero _)
              | succ n ih_L_11 =>
                intro i_90 H locs ls hn_90 hi_90 hP hD hS hl
                refine lv_aload_n hx hb dX8_take_90 rfl (lv_at hl 0 rfl) ?_
                refine lv_aload_n hx hb dX8_take_91 rfl (lv_at hl 0 rfl) ?_
                refine va_get (D := D) (ci := 8) (v := .int i_90) (C := RX8) (T := TX8) (N := 52) hx hb hts w_1 hown hK hP 0 rfl rfl 36 (by decide) w_2 (fun _ h9 => h9) rfl dX8_take_92 ?_
                refine vp_callSi (va_Run.run (va_runV (As := [.int i_90]) (rest := []) ⟨hx, hb, hml, hown, hts⟩ (n_X8_isSmall l D cB cI cJ cZ y m_tapeSize m_givers m_children m_coats m_legacies m_insideMany m_thrown m_cycleMany m_vote m_low m_high m_wear m_spare m_places m_cycleNext m_fault m_faultPlace m_giverNext m_years m_end i_90 m_kind m_which i_0 m_read m_readMany m_readHigh m_tape i_90 (Int.le_trans hn0 (Int.le_trans hi_0.1 hi_90.1)) he) (cwV 1 hts gX8_take_X8_isSmall rfl rfl rfl (by decide +kernel) ⟨Nat.le_of_ble_eq_true rfl, Nat.le_of_ble_eq_true rfl⟩) (pre_VR (hP.sub (ws' := [((y 0), .inr (8, [.ref (y 1), .int (nI m_tapeSize), .int m_thrown, .ref (y 2), .int m_cycleMany, .int m_vote, .int m_low, .int m_high, .int m_wear, .int m_spare, .int m_places, .int m_cycleNext, .int m_fault, .int m_faultPlace, .int (nI m_givers), .ref (y 3), .ref (y 4), .int m_giverNext, .int (nI m_children), .ref (y 5), .ref (y 6), .ref (y 7), .ref (y 8), .ref (y 9), .int (nI m_coats), .ref (y 10), .ref (y 11), .ref (y 12), .ref (y 13), .int m_years, .int (nI m_legacies), .ref (y 14), .ref (y 15), .ref (y 16), .ref (y 17), .int m_end, .int i_90, .int m_kind, .int m_which, .int i_0, .int m_read, .ref (y 18), .ref (y 19), .int m_readMany, .int m_readHigh, .ref (y 20), .int (nI m_insideMany), .ref (y 21), .ref (y 22), .ref (y 23), .ref (y 24), .ref (y 25)])), ((y 1), .inl (cI, 300, .inl m_tape))]) [0, 1] rfl) hK 0 rfl rfl rfl) rfl rfl hl.1 rfl (lv_room (Nat.le_of_ble_eq_true rfl)) dX8_take_95 ⟨Nat.le_of_ble_eq_true rfl, Nat.le_of_ble_eq_true rfl⟩)) (fun r_12 hw_r_12 => ?_)
                refine lv_if_eq (tgt := 114) hx hb dX8_take_98 (by decide) (fun c_98 => ?_) (fun c_98 => ?_)
                ·
                  refine lv_aload_n hx hb dX8_take_114 rfl (lv_at hl 0 rfl) ?_
                  refine lv_aload_n hx hb dX8_take_115 rfl (lv_at hl 0 rfl) ?_
                  refine lv_aload_n hx hb dX8_take_116 rfl (lv_at hl 0 rfl) ?_
                  refine va_get (D := D) (ci := 8) (v := .int i_0) (C := RX8) (T := TX8) (N := 52) hx hb hts w_1 hown hK hP 0 rfl rfl 39 (by decide) w_4 (fun _ h9 => h9) rfl dX8_take_117 ?_
                  refine lv_aload_n hx hb dX8_take_120 rfl (lv_at hl 0 rfl) ?_
                  refine va_get (D := D) (ci := 8) (v := .int i_90) (C := RX8) (T := TX8) (N := 52) hx hb hts w_1 hown hK hP 0 rfl rfl 36 (by decide) w_2 (fun _ h9 => h9) rfl dX8_take_121 ?_
                  refine vp_callSi (va_Run.run (va_runV (As := [.int i_0, .int i_90]) (rest := [.ref (y 0)]) ⟨hx, hb, hml, hown, hts⟩ (n_X8_wordAt l D cB cI cJ cZ y m_tapeSize m_givers m_children m_coats m_legacies m_insideMany m_thrown m_cycleMany m_vote m_low m_high m_wear m_spare m_places m_cycleNext m_fault m_faultPlace m_giverNext m_years m_end i_90 m_kind m_which i_0 m_read m_readMany m_readHigh m_tape m_words i_0 i_90 (Int.le_trans hn0 hi_0.1) hi_90.1 (Int.le_trans hi_90.2 he) hwf) (cwV 2 hts gX8_take_X8_wordAt rfl rfl rfl (by decide +kernel) ⟨Nat.le_of_ble_eq_true rfl, Nat.le_of_ble_eq_true rfl⟩) (pre_VR (hP.sub (ws' := [((y 0), .inr (8, [.ref (y 1), .int (nI m_tapeSize), .int m_thrown, .ref (y 2), .int m_cycleMany, .int m_vote, .int m_low, .int m_high, .int m_wear, .int m_spare, .int m_places, .int m_cycleNext, .int m_fault, .int m_faultPlace, .int (nI m_givers), .ref (y 3), .ref (y 4), .int m_giverNext, .int (nI m_children), .ref (y 5), .ref (y 6), .ref (y 7), .ref (y 8), .ref (y 9), .int (nI m_coats), .ref (y 10), .ref (y 11), .ref (y 12), .ref (y 13), .int m_years, .int (nI m_legacies), .ref (y 14), .ref (y 15), .ref (y 16), .ref (y 17), .int m_end, .int i_90, .int m_kind, .int m_which, .int i_0, .int m_read, .ref (y 18), .ref (y 19), .int m_readMany, .int m_readHigh, .ref (y 20), .int (nI m_insideMany), .ref (y 21), .ref (y 22), .ref (y 23), .ref (y 24), .ref (y 25)])), ((y 1), .inl (cI, 300, .inl m_tape)), ((y 17), .inl (cI, 43, .inl m_words))]) [0, 1, 2] rfl) hK 0 rfl rfl rfl) rfl rfl hl.1 rfl (lv_room (Nat.le_of_ble_eq_true rfl)) dX8_take_124 ⟨Nat.le_of_ble_eq_true rfl, Nat.le_of_ble_eq_true rfl⟩)) (fun r_13 hw_r_13 => ?_)
                  refine va_put (D := D) (ci := 8) (v := .int r_13) (ty := .int) (C := RX8) (T := TX8) (N := 52) hx hb hts w_1 tyX8 tyX8_ok nmX8 hown hK hP hD hS 0 rfl rfl 38 (by decide) w_7 (fun _ h9 => h9) rfl (by decide +kernel) rfl rfl (Nat.le_of_ble_eq_true rfl) dX8_take_127 (fun H locs hP hD hS => ?_)
                  have hP : va_P D vwCl [((y 0), .inr (8, [.ref (y 1), .int (nI m_tapeSize), .int m_thrown, .ref (y 2), .int m_cycleMany, .int m_vote, .int m_low, .int m_high, .int m_wear, .int m_spare, .int m_places, .int m_cycleNext, .int m_fault, .int m_faultPlace, .int (nI m_givers), .ref (y 3), .ref (y 4), .int m_giverNext, .int (nI m_children), .ref (y 5), .ref (y 6), .ref (y 7), .ref (y 8), .ref (y 9), .int (nI m_coats), .ref (y 10), .ref (y 11), .ref (y 12), .ref (y 13), .int m_years, .int (nI m_legacies), .ref (y 14), .ref (y 15), .ref (y 16), .ref (y 17), .int m_end, .int i_90, .int m_kind, .int r_13, .int i_0, .int m_read, .ref (y 18), .ref (y 19), .int m_readMany, .int m_readHigh, .ref (y 20), .int (nI m_insideMany), .ref (y 21), .ref (y 22), .ref (y 23), .ref (y 24), .ref (y 25)])), ((y 1), .inl (cI, 300, .inl m_tape)), ((y 17), .inl (cI, 43, .inl m_words))] H := hP
                  have hD : va_D A [((y 0), .inr (8, [.ref (y 1), .int (nI m_tapeSize), .int m_thrown, .ref (y 2), .int m_cycleMany, .int m_vote, .int m_low, .int m_high, .int m_wear, .int m_spare, .int m_places, .int m_cycleNext, .int m_fault, .int m_faultPlace, .int (nI m_givers), .ref (y 3), .ref (y 4), .int m_giverNext, .int (nI m_children), .ref (y 5), .ref (y 6), .ref (y 7), .ref (y 8), .ref (y 9), .int (nI m_coats), .ref (y 10), .ref (y 11), .ref (y 12), .ref (y 13), .int m_years, .int (nI m_legacies), .ref (y 14), .ref (y 15), .ref (y 16), .ref (y 17), .int m_end, .int i_90, .int m_kind, .int r_13, .int i_0, .int m_read, .ref (y 18), .ref (y 19), .int m_readMany, .int m_readHigh, .ref (y 20), .int (nI m_insideMany), .ref (y 21), .ref (y 22), .ref (y 23), .ref (y 24), .ref (y 25)])), ((y 1), .inl (cI, 300, .inl m_tape)), ((y 17), .inl (cI, 43, .inl m_words))] := hD
                  refine lv_aload_n hx hb dX8_take_130 rfl (lv_at hl 0 rfl) ?_
                  refine lv_aload_n hx hb dX8_take_131 rfl (lv_at hl 0 rfl) ?_
                  refine va_get (D := D) (ci := 8) (v := .int r_13) (C := RX8) (T := TX8) (N := 52) hx hb hts w_1 hown hK hP 0 rfl rfl 38 (by decide) w_7 (fun _ h9 => h9) rfl dX8_take_132 ?_
                  refine lv_if_ge (tgt := 142) hx hb dX8_take_135 (by decide) (fun c_135 => ?_) (fun c_135 => ?_)
                  ·
                    refine lv_iconst (v := 1) hx hb dX8_take_142 (by decide) ?_
                    refine va_put (D := D) (ci := 8) (v := .int 1) (ty := .int) (C := RX8) (T := TX8) (N := 52) hx hb hts w_1 tyX8 tyX8_ok nmX8 hown hK hP hD hS 0 rfl rfl 37 (by decide) w_6 (fun _ h9 => h9) rfl (by decide +kernel) rfl rfl (Nat.le_of_ble_eq_true rfl) dX8_take_143 (fun H locs hP hD hS => ?_)
                    have hP : va_P D vwCl [((y 0), .inr (8, [.ref (y 1), .int (nI m_tapeSize), .int m_thrown, .ref (y 2), .int m_cycleMany, .int m_vote, .int m_low, .int m_high, .int m_wear, .int m_spare, .int m_places, .int m_cycleNext, .int m_fault, .int m_faultPlace, .int (nI m_givers), .ref (y 3), .ref (y 4), .int m_giverNext, .int (nI m_children), .ref (y 5), .ref (y 6), .ref (y 7), .ref (y 8), .ref (y 9), .int (nI m_coats), .ref (y 10), .ref (y 11), .ref (y 12), .ref (y 13), .int m_years, .int (nI m_legacies), .ref (y 14), .ref (y 15), .ref (y 16), .ref (y 17), .int m_end, .int i_90, .int 1, .int r_13, .int i_0, .int m_read, .ref (y 18), .ref (y 19), .int m_readMany, .int m_readHigh, .ref (y 20), .int (nI m_insideMany), .ref (y 21), .ref (y 22), .ref (y 23), .ref (y 24), .ref (y 25)])), ((y 1), .inl (cI, 300, .inl m_tape)), ((y 17), .inl (cI, 43, .inl m_words))] H := hP
                    have hD : va_D A [((y 0), .inr (8, [.ref (y 1), .int (nI m_tapeSize), .int m_thrown, .ref (y 2), .int m_cycleMany, .int m_vote, .int m_low, .int m_high, .int m_wear, .int m_spare, .int m_places, .int m_cycleNext, .int m_fault, .int m_faultPlace, .int (nI m_givers), .ref (y 3), .ref (y 4), .int m_giverNext, .int (nI m_children), .ref (y 5), .ref (y 6), .ref (y 7), .ref (y 8), .ref (y 9), .int (nI m_coats), .ref (y 10), .ref (y 11), .ref (y 12), .ref (y 13), .int m_years, .int (nI m_legacies), .ref (y 14), .ref (y 15), .ref (y 16), .ref (y 17), .int m_end, .int i_90, .int 1, .int r_13, .int i_0, .int m_read, .ref (y 18), .ref (y 19), .int m_readMany, .int m_readHigh, .ref (y 20), .int (nI m_insideMany), .ref (y 21), .ref (y 22), .ref (y 23), .ref (y 24), .ref (y 25)])), ((y 1), .inl (cI, 300, .inl m_tape)), ((y 17), .inl (cI, 43, .inl m_words))] := hD
                    refine lv_goto (tgt := 267) hx hb dX8_take_146 (by decide) ?_
                    rw [← hQ]
                    have hP9 := hP.sub (ws' := [((y 0), .inr (8, [.ref (y 1), .int (nI m_tapeSize), .int m_thrown, .ref (y 2), .int m_cycleMany, .int m_vote, .int m_low, .int m_high, .int m_wear, .int m_spare, .int m_places, .int m_cycleNext, .int m_fault, .int m_faultPlace, .int (nI m_givers), .ref (y 3), .ref (y 4), .int m_giverNext, .int (nI m_children), .ref (y 5), .ref (y 6), .ref (y 7), .ref (y 8), .ref (y 9), .int (nI m_coats), .ref (y 10), .ref (y 11), .ref (y 12), .ref (y 13), .int m_years, .int (nI m_legacies), .ref (y 14), .ref (y 15), .ref (y 16), .ref (y 17), .int m_end, .int i_90, .int 1, .int r_13, .int i_0, .int m_read, .ref (y 18), .ref (y 19), .int m_readMany, .int m_readHigh, .ref (y 20), .int (nI m_insideMany), .ref (y 21), .ref (y 22), .ref (y 23), .ref (y 24), .ref (y 25)])), ((y 1), .inl (cI, 300, .inl m_tape)), ((y 17), .inl (cI, 43, .inl m_words))]) [0, 1, 2] rfl
                    have hD9 := hD.sub (ws' := [((y 0), .inr (8, [.ref (y 1), .int (nI m_tapeSize), .int m_thrown, .ref (y 2), .int m_cycleMany, .int m_vote, .int m_low, .int m_high, .int m_wear, .int m_spare, .int m_places, .int m_cycleNext, .int m_fault, .int m_faultPlace, .int (nI m_givers), .ref (y 3), .ref (y 4), .int m_giverNext, .int (nI m_children), .ref (y 5), .ref (y 6), .ref (y 7), .ref (y 8), .ref (y 9), .int (nI m_coats), .ref (y 10), .ref (y 11), .ref (y 12), .ref (y 13), .int m_years, .int (nI m_legacies), .ref (y 14), .ref (y 15), .ref (y 16), .ref (y 17), .int m_end, .int i_90, .int 1, .int r_13, .int i_0, .int m_read, .ref (y 18), .ref (y 19), .int m_readMany, .int m_readHigh, .ref (y 20), .int (nI m_insideMany), .ref (y 21), .ref (y 22), .ref (y 23), .ref (y 24), .ref (y 25)])), ((y 1), .inl (cI, 300, .inl m_tape)), ((y 17), .inl (cI, 43, .inl m_words))]) [0, 1, 2] (by decide) rfl
                    exact W.vret hx hb hr (fun t ht hW => ⟨⟨((i_90 : Int32), (i_0 : Int32), (r_13 : Int32), (1 : Int32)), rfl, ⟨Int.le_trans hi_0.1 hi_90.1, hi_90.2, Or.inr (Int.lt_of_le_of_lt hi_0.1 (tk_gone (sm_yes hw_r_2 c_87) (sm_no hw_r_12 c_98) hi_90)), fun _ => ge_ne hw_r_13 c_135⟩, by rw [ht]; exact hP9, va_K.moved hW.alike hK, hD9⟩, hS.F ht⟩) hS.2.2 dX8_take_267
                  ·
                    refine lv_iconst (v := 4) hx hb dX8_take_138 (by decide) ?_
                    refine lv_goto (tgt := 143) hx hb dX8_take_139 (by decide) ?_
                    refine va_put (D := D) (ci := 8) (v := .int 4) (ty := .int) (C := RX8) (T := TX8) (N := 52) hx hb hts w_1 tyX8 tyX8_ok nmX8 hown hK hP hD hS 0 rfl rfl 37 (by decide) w_6 (fun _ h9 => h9) rfl (by decide +kernel) rfl rfl (Nat.le_of_ble_eq_true rfl) dX8_take_143 (fun H locs hP hD hS => ?_)
                    have hP : va_P D vwCl [((y 0), .inr (8, [.ref (y 1), .int (nI m_tapeSize), .int m_thrown, .ref (y 2), .int m_cycleMany, .int m_vote, .int m_low, .int m_high, .int m_wear, .int m_spare, .int m_places, .int m_cycleNext, .int m_fault, .int m_faultPlace, .int (nI m_givers), .ref (y 3), .ref (y 4), .int m_giverNext, .int (nI m_children), .ref (y 5), .ref (y 6), .ref (y 7), .ref (y 8), .ref (y 9), .int (nI m_coats), .ref (y 10), .ref (y 11), .ref (y 12), .ref (y 13), .int m_years, .int (nI m_legacies), .ref (y 14), .ref (y 15), .ref (y 16), .ref (y 17), .int m_end, .int i_90, .int 4, .int r_13, .int i_0, .int m_read, .ref (y 18), .ref (y 19), .int m_readMany, .int m_readHigh, .ref (y 20), .int (nI m_insideMany), .ref (y 21), .ref (y 22), .ref (y 23), .ref (y 24), .ref (y 25)])), ((y 1), .inl (cI, 300, .inl m_tape)), ((y 17), .inl (cI, 43, .inl m_words))] H := hP
                    have hD : va_D A [((y 0), .inr (8, [.ref (y 1), .int (nI m_tapeSize), .int m_thrown, .ref (y 2), .int m_cycleMany, .int m_vote, .int m_low, .int m_high, .int m_wear, .int m_spare, .int m_places, .int m_cycleNext, .int m_fault, .int m_faultPlace, .int (nI m_givers), .ref (y 3), .ref (y 4), .int m_giverNext, .int (nI m_children), .ref (y 5), .ref (y 6), .ref (y 7), .ref (y 8), .ref (y 9), .int (nI m_coats), .ref (y 10), .ref (y 11), .ref (y 12), .ref (y 13), .int m_years, .int (nI m_legacies), .ref (y 14), .ref (y 15), .ref (y 16), .ref (y 17), .int m_end, .int i_90, .int 4, .int r_13, .int i_0, .int m_read, .ref (y 18), .ref (y 19), .int m_readMany, .int m_readHigh, .ref (y 20), .int (nI m_insideMany), .ref (y 21), .ref (y 22), .ref (y 23), .ref (y 24), .ref (y 25)])), ((y 1), .inl (cI, 300, .inl m_tape)), ((y 17), .inl (cI, 43, .inl m_words))] := hD
                    refine lv_goto (tgt := 267) hx hb dX8_take_146 (by decide) ?_
                    rw [← hQ]
                    have hP9 := hP.sub (ws' := [((y 0), .inr (8, [.ref (y 1), .int (nI m_tapeSize), .int m_thrown, .ref (y 2), .int m_cycleMany, .int m_vote, .int m_low, .int m_high, .int m_wear, .int m_spare, .int m_places, .int m_cycleNext, .int m_fault, .int m_faultPlace, .int (nI m_givers), .ref (y 3), .ref (y 4), .int m_giverNext, .int (nI m_children), .ref (y 5), .ref (y 6), .ref (y 7), .ref (y 8), .ref (y 9), .int (nI m_coats), .ref (y 10), .ref (y 11), .ref (y 12), .ref (y 13), .int m_years, .int (nI m_legacies), .ref (y 14), .ref (y 15), .ref (y 16), .ref (y 17), .int m_end, .int i_90, .int 4, .int r_13, .int i_0, .int m_read, .ref (y 18), .ref (y 19), .int m_readMany, .int m_readHigh, .ref (y 20), .int (nI m_insideMany), .ref (y 21), .ref (y 22), .ref (y 23), .ref (y 24), .ref (y 25)])), ((y 1), .inl (cI, 300, .inl m_tape)), ((y 17), .inl (cI, 43, .inl m_words))]) [0, 1, 2] rfl
                    have hD9 := hD.sub (ws' := [((y 0), .inr (8, [.ref (y 1), .int (nI m_tapeSize), .int m_thrown, .ref (y 2), .int m_cycleMany, .int m_vote, .int m_low, .int m_high, .int m_wear, .int m_spare, .int m_places, .int m_cycleNext, .int m_fault, .int m_faultPlace, .int (nI m_givers), .ref (y 3), .ref (y 4), .int m_giverNext, .int (nI m_children), .ref (y 5), .ref (y 6), .ref (y 7), .ref (y 8), .ref (y 9), .int (nI m_coats), .ref (y 10), .ref (y 11), .ref (y 12), .ref (y 13), .int m_years, .int (nI m_legacies), .ref (y 14), .ref (y 15), .ref (y 16), .ref (y 17), .int m_end, .int i_90, .int 4, .int r_13, .int i_0, .int m_read, .ref (y 18), .ref (y 19), .int m_readMany, .int m_readHigh, .ref (y 20), .int (nI m_insideMany), .ref (y 21), .ref (y 22), .ref (y 23), .ref (y 24), .ref (y 25)])), ((y 1), .inl (cI, 300, .inl m_tape)), ((y 17), .inl (cI, 43, .inl m_words))]) [0, 1, 2] (by decide) rfl
                    exact W.vret hx hb hr (fun t ht hW => ⟨⟨((i_90 : Int32), (i_0 : Int32), (r_13 : Int32), (4 : Int32)), rfl, ⟨Int.le_trans hi_0.1 hi_90.1, hi_90.2, Or.inr (Int.lt_of_le_of_lt hi_0.1 (tk_gone (sm_yes hw_r_2 c_87) (sm_no hw_r_12 c_98) hi_90)), fun h => absurd h (by decide)⟩, by rw [ht]; exact hP9, va_K.moved hW.alike hK, hD9⟩, hS.F ht⟩) hS.2.2 dX8_take_267
                ·
                  refine lv_aload_n hx hb dX8_take_101 rfl (lv_at hl 0 rfl) ?_
                  refine lv_dup hx hb dX8_take_102 rfl ?_
                  refine va_get (D := D) (ci := 8) (v := .int i_90) (C := RX8) (T := TX8) (N := 52) hx hb hts w_1 hown hK hP 0 rfl rfl 36 (by decide) w_2 (fun _ h9 => h9) rfl dX8_take_103 ?_
                  refine lv_iconst (v := 1) hx hb dX8_take_106 (by decide) ?_
                  refine sv_iadd (v := i_90 + 1) hx hb dX8_take_107 rfl ?_
                  refine va_put (D := D) (ci := 8) (v := .int (i_90 + 1)) (ty := .int) (C := RX8) (T := TX8) (N := 52) hx hb hts w_1 tyX8 tyX8_ok nmX8 hown hK hP hD hS 0 rfl rfl 36 (by decide) w_2 (fun _ h9 => h9) rfl (by decide +kernel) rfl rfl (Nat.le_of_ble_eq_true rfl) dX8_take_108 (fun H locs hP hD hS => ?_)
                  have hP : va_P D vwCl [((y 0), .inr (8, [.ref (y 1), .int (nI m_tapeSize), .int m_thrown, .ref (y 2), .int m_cycleMany, .int m_vote, .int m_low, .int m_high, .int m_wear, .int m_spare, .int m_places, .int m_cycleNext, .int m_fault, .int m_faultPlace, .int (nI m_givers), .ref (y 3), .ref (y 4), .int m_giverNext, .int (nI m_children), .ref (y 5), .ref (y 6), .ref (y 7), .ref (y 8), .ref (y 9), .int (nI m_coats), .ref (y 10), .ref (y 11), .ref (y 12), .ref (y 13), .int m_years, .int (nI m_legacies), .ref (y 14), .ref (y 15), .ref (y 16), .ref (y 17), .int m_end, .int (i_90 + 1), .int m_kind, .int m_which, .int i_0, .int m_read, .ref (y 18), .ref (y 19), .int m_readMany, .int m_readHigh, .ref (y 20), .int (nI m_insideMany), .ref (y 21), .ref (y 22), .ref (y 23), .ref (y 24), .ref (y 25)])), ((y 1), .inl (cI, 300, .inl m_tape)), ((y 17), .inl (cI, 43, .inl m_words))] H := hP
                  have hD : va_D A [((y 0), .inr (8, [.ref (y 1), .int (nI m_tapeSize), .int m_thrown, .ref (y 2), .int m_cycleMany, .int m_vote, .int m_low, .int m_high, .int m_wear, .int m_spare, .int m_places, .int m_cycleNext, .int m_fault, .int m_faultPlace, .int (nI m_givers), .ref (y 3), .ref (y 4), .int m_giverNext, .int (nI m_children), .ref (y 5), .ref (y 6), .ref (y 7), .ref (y 8), .ref (y 9), .int (nI m_coats), .ref (y 10), .ref (y 11), .ref (y 12), .ref (y 13), .int m_years, .int (nI m_legacies), .ref (y 14), .ref (y 15), .ref (y 16), .ref (y 17), .int m_end, .int (i_90 + 1), .int m_kind, .int m_which, .int i_0, .int m_read, .ref (y 18), .ref (y 19), .int m_readMany, .int m_readHigh, .ref (y 20), .int (nI m_insideMany), .ref (y 21), .ref (y 22), .ref (y 23), .ref (y 24), .ref (y 25)])), ((y 1), .inl (cI, 300, .inl m_tape)), ((y 17), .inl (cI, 43, .inl m_words))] := hD
                  refine lv_goto (tgt := 90) hx hb dX8_take_111 (by decide) ?_
                  exact ih_L_11 (i_90 + 1) _ _ ls (lp_dec hn_90 (sm_lt hw_r_12 c_98)) (tk_inc hi_90 (sm_lt hw_r_12 c_98)) hP hD hS (lv_sub hl [0] rfl)
            exact L_11 _ i_0 _ _ ls (Nat.lt_succ_self _) ⟨Int.le_refl _, hi_0.2⟩ hP hD hS (lv_sub hl [0] rfl)
        ·
          refine lv_aload_n hx hb dX8_take_71 rfl (lv_at hl 0 rfl) ?_
          refine lv_iconst (v := 0) hx hb dX8_take_72 (by decide) ?_
          refine va_put (D := D) (ci := 8) (v := .int 0) (ty := .int) (C := RX8) (T := TX8) (N := 52) hx hb hts w_1 tyX8 tyX8_ok nmX8 hown hK hP hD hS 0 rfl rfl 37 (by decide) w_6 (fun _ h9 => h9) rfl (by decide +kernel) rfl rfl (Nat.le_of_ble_eq_true rfl) dX8_take_73 (fun H locs hP hD hS => ?_)
          have hP : va_P D vwCl [((y 0), .inr (8, [.ref (y 1), .int (nI m_tapeSize), .int m_thrown, .ref (y 2), .int m_cycleMany, .int m_vote, .int m_low, .int m_high, .int m_wear, .int m_spare, .int m_places, .int m_cycleNext, .int m_fault, .int m_faultPlace, .int (nI m_givers), .ref (y 3), .ref (y 4), .int m_giverNext, .int (nI m_children), .ref (y 5), .ref (y 6), .ref (y 7), .ref (y 8), .ref (y 9), .int (nI m_coats), .ref (y 10), .ref (y 11), .ref (y 12), .ref (y 13), .int m_years, .int (nI m_legacies), .ref (y 14), .ref (y 15), .ref (y 16), .ref (y 17), .int m_end, .int i_0, .int 0, .int m_which, .int i_0, .int m_read, .ref (y 18), .ref (y 19), .int m_readMany, .int m_readHigh, .ref (y 20), .int (nI m_insideMany), .ref (y 21), .ref (y 22), .ref (y 23), .ref (y 24), .ref (y 25)])), ((y 1), .inl (cI, 300, .inl m_tape)), ((y 17), .inl (cI, 43, .inl m_words))] H := hP
          have hD : va_D A [((y 0), .inr (8, [.ref (y 1), .int (nI m_tapeSize), .int m_thrown, .ref (y 2), .int m_cycleMany, .int m_vote, .int m_low, .int m_high, .int m_wear, .int m_spare, .int m_places, .int m_cycleNext, .int m_fault, .int m_faultPlace, .int (nI m_givers), .ref (y 3), .ref (y 4), .int m_giverNext, .int (nI m_children), .ref (y 5), .ref (y 6), .ref (y 7), .ref (y 8), .ref (y 9), .int (nI m_coats), .ref (y 10), .ref (y 11), .ref (y 12), .ref (y 13), .int m_years, .int (nI m_legacies), .ref (y 14), .ref (y 15), .ref (y 16), .ref (y 17), .int m_end, .int i_0, .int 0, .int m_which, .int i_0, .int m_read, .ref (y 18), .ref (y 19), .int m_readMany, .int m_readHigh, .ref (y 20), .int (nI m_insideMany), .ref (y 21), .ref (y 22), .ref (y 23), .ref (y 24), .ref (y 25)])), ((y 1), .inl (cI, 300, .inl m_tape)), ((y 17), .inl (cI, 43, .inl m_words))] := hD
          refine lv_goto (tgt := 267) hx hb dX8_take_76 (by decide) ?_
          rw [← hQ]
          have hP9 := hP.sub (ws' := [((y 0), .inr (8, [.ref (y 1), .int (nI m_tapeSize), .int m_thrown, .ref (y 2), .int m_cycleMany, .int m_vote, .int m_low, .int m_high, .int m_wear, .int m_spare, .int m_places, .int m_cycleNext, .int m_fault, .int m_faultPlace, .int (nI m_givers), .ref (y 3), .ref (y 4), .int m_giverNext, .int (nI m_children), .ref (y 5), .ref (y 6), .ref (y 7), .ref (y 8), .ref (y 9), .int (nI m_coats), .ref (y 10), .ref (y 11), .ref (y 12), .ref (y 13), .int m_years, .int (nI m_legacies), .ref (y 14), .ref (y 15), .ref (y 16), .ref (y 17), .int m_end, .int i_0, .int 0, .int m_which, .int i_0, .int m_read, .ref (y 18), .ref (y 19), .int m_readMany, .int m_readHigh, .ref (y 20), .int (nI m_insideMany), .ref (y 21), .ref (y 22), .ref (y 23), .ref (y 24), .ref (y 25)])), ((y 1), .inl (cI, 300, .inl m_tape)), ((y 17), .inl (cI, 43, .inl m_words))]) [0, 1, 2] rfl
          have hD9 := hD.sub (ws' := [((y 0), .inr (8, [.ref (y 1), .int (nI m_tapeSize), .int m_thrown, .ref (y 2), .int m_cycleMany, .int m_vote, .int m_low, .int m_high, .int m_wear, .int m_spare, .int m_places, .int m_cycleNext, .int m_fault, .int m_faultPlace, .int (nI m_givers), .ref (y 3), .ref (y 4), .int m_giverNext, .int (nI m_children), .ref (y 5), .ref (y 6), .ref (y 7), .ref (y 8), .ref (y 9), .int (nI m_coats), .ref (y 10), .ref (y 11), .ref (y 12), .ref (y 13), .int m_years, .int (nI m_legacies), .ref (y 14), .ref (y 15), .ref (y 16), .ref (y 17), .int m_end, .int i_0, .int 0, .int m_which, .int i_0, .int m_read, .ref (y 18), .ref (y 19), .int m_readMany, .int m_readHigh, .ref (y 20), .int (nI m_insideMany), .ref (y 21), .ref (y 22), .ref (y 23), .ref (y 24), .ref (y 25)])), ((y 1), .inl (cI, 300, .inl m_tape)), ((y 17), .inl (cI, 43, .inl m_words))]) [0, 1, 2] (by decide) rfl
          exact W.vret hx hb hr (fun t ht hW => ⟨⟨((i_0 : Int32), (i_0 : Int32), (m_which : Int32), (0 : Int32)), rfl, ⟨hi_0.1, hi_0.2, Or.inl rfl, fun h => absurd h (by decide)⟩, by rw [ht]; exact hP9, va_K.moved hW.alike hK, hD9⟩, hS.F ht⟩) hS.2.2 dX8_take_267
      ·
        refine lv_aload_n hx hb dX8_take_11 rfl (lv_at hl 0 rfl) ?_
        refine va_get (D := D) (ci := 8) (v := .ref (y 1)) (C := RX8) (T := TX8) (N := 52) hx hb hts w_1 hown hK hP 0 rfl rfl 0 (by decide) w_5 (fun _ h9 => h9) rfl dX8_take_12 ?_
        refine lv_aload_n hx hb dX8_take_15 rfl (lv_at hl 0 rfl) ?_
        refine va_get (D := D) (ci := 8) (v := .int i_0) (C := RX8) (T := TX8) (N := 52) hx hb hts w_1 hown hK hP 0 rfl rfl 36 (by decide) w_2 (fun _ h9 => h9) rfl dX8_take_16 ?_
        refine sv_iald (v := m_tape i_0.toNatClampNeg) hx hb hK hP 1 1 rfl rfl (sm_in (Int.le_trans hn0 hi_0.1) c_8 he) rfl dX8_take_19 ?_
        refine lv_topi (fun v_14 ev_14 => ?_)
        refine lv_bipush (v := 10) hx hb dX8_take_20 (by decide) ?_
        refine lv_icmp_eq (tgt := 39) hx hb dX8_take_22 (by decide) (fun c_22 => ?_) (fun c_22 => ?_)
        ·
          refine lv_aload_n hx hb dX8_take_39 rfl (lv_at hl 0 rfl) ?_
          refine lv_dup hx hb dX8_take_40 rfl ?_
          refine va_get (D := D) (ci := 8) (v := .int i_0) (C := RX8) (T := TX8) (N := 52) hx hb hts w_1 hown hK hP 0 rfl rfl 36 (by decide) w_2 (fun _ h9 => h9) rfl dX8_take_41 ?_
          refine lv_iconst (v := 1) hx hb dX8_take_44 (by decide) ?_
          refine sv_iadd (v := i_0 + 1) hx hb dX8_take_45 rfl ?_
          refine va_put (D := D) (ci := 8) (v := .int (i_0 + 1)) (ty := .int) (C := RX8) (T := TX8) (N := 52) hx hb hts w_1 tyX8 tyX8_ok nmX8 hown hK hP hD hS 0 rfl rfl 36 (by decide) w_2 (fun _ h9 => h9) rfl (by decide +kernel) rfl rfl (Nat.le_of_ble_eq_true rfl) dX8_take_46 (fun H locs hP hD hS => ?_)
          have hP : va_P D vwCl [((y 0), .inr (8, [.ref (y 1), .int (nI m_tapeSize), .int m_thrown, .ref (y 2), .int m_cycleMany, .int m_vote, .int m_low, .int m_high, .int m_wear, .int m_spare, .int m_places, .int m_cycleNext, .int m_fault, .int m_faultPlace, .int (nI m_givers), .ref (y 3), .ref (y 4), .int m_giverNext, .int (nI m_children), .ref (y 5), .ref (y 6), .ref (y 7), .ref (y 8), .ref (y 9), .int (nI m_coats), .ref (y 10), .ref (y 11), .ref (y 12), .ref (y 13), .int m_years, .int (nI m_legacies), .ref (y 14), .ref (y 15), .ref (y 16), .ref (y 17), .int m_end, .int (i_0 + 1), .int m_kind, .int m_which, .int m_place, .int m_read, .ref (y 18), .ref (y 19), .int m_readMany, .int m_readHigh, .ref (y 20), .int (nI m_insideMany), .ref (y 21), .ref (y 22), .ref (y 23), .ref (y 24), .ref (y 25)])), ((y 1), .inl (cI, 300, .inl m_tape)), ((y 17), .inl (cI, 43, .inl m_words))] H := hP
          have hD : va_D A [((y 0), .inr (8, [.ref (y 1), .int (nI m_tapeSize), .int m_thrown, .ref (y 2), .int m_cycleMany, .int m_vote, .int m_low, .int m_high, .int m_wear, .int m_spare, .int m_places, .int m_cycleNext, .int m_fault, .int m_faultPlace, .int (nI m_givers), .ref (y 3), .ref (y 4), .int m_giverNext, .int (nI m_children), .ref (y 5), .ref (y 6), .ref (y 7), .ref (y 8), .ref (y 9), .int (nI m_coats), .ref (y 10), .ref (y 11), .ref (y 12), .ref (y 13), .int m_years, .int (nI m_legacies), .ref (y 14), .ref (y 15), .ref (y 16), .ref (y 17), .int m_end, .int (i_0 + 1), .int m_kind, .int m_which, .int m_place, .int m_read, .ref (y 18), .ref (y 19), .int m_readMany, .int m_readHigh, .ref (y 20), .int (nI m_insideMany), .ref (y 21), .ref (y 22), .ref (y 23), .ref (y 24), .ref (y 25)])), ((y 1), .inl (cI, 300, .inl m_tape)), ((y 17), .inl (cI, 43, .inl m_words))] := hD
          refine lv_goto (tgt := 0) hx hb dX8_take_49 (by decide) ?_
          exact ih_L_1 (i_0 + 1) _ _ ls (lp_dec hn_0 c_8) (tk_inc hi_0 c_8) hP hD hS (lv_sub hl [0] rfl)
        ·
          refine lv_aload_n hx hb dX8_take_25 rfl (lv_at hl 0 rfl) ?_
          refine va_get (D := D) (ci := 8) (v := .ref (y 1)) (C := RX8) (T := TX8) (N := 52) hx hb hts w_1 hown hK hP 0 rfl rfl 0 (by decide) w_5 (fun _ h9 => h9) rfl dX8_take_26 ?_
          refine lv_aload_n hx hb dX8_take_29 rfl (lv_at hl 0 rfl) ?_
          refine va_get (D := D) (ci := 8) (v := .int i_0) (C := RX8) (T := TX8) (N := 52) hx hb hts w_1 hown hK hP 0 rfl rfl 36 (by decide) w_2 (fun _ h9 => h9) rfl dX8_take_30 ?_
          refine sv_iald (v := m_tape i_0.toNatClampNeg) hx hb hK hP 1 1 rfl rfl (sm_in (Int.le_trans hn0 hi_0.1) c_8 he) rfl dX8_take_33 ?_
          refine lv_topi (fun v_15 ev_15 => ?_)
          refine lv_bipush (v := 32) hx hb dX8_take_34 (by decide) ?_
          refine lv_icmp_ne (tgt := 52) hx hb dX8_take_36 (by decide) (fun c_36 => ?_) (fun c_36 => ?_)
          ·
            refine lv_aload_n hx hb dX8_take_52 rfl (lv_at hl 0 rfl) ?_
            refine lv_aload_n hx hb dX8_take_53 rfl (lv_at hl 0 rfl) ?_
            refine va_get (D := D) (ci := 8) (v := .int i_0) (C := RX8) (T := TX8) (N := 52) hx hb hts w_1 hown hK hP 0 rfl rfl 36 (by decide) w_2 (fun _ h9 => h9) rfl dX8_take_54 ?_
            refine va_put (D := D) (ci := 8) (v := .int i_0) (ty := .int) (C := RX8) (T := TX8) (N := 52) hx hb hts w_1 tyX8 tyX8_ok nmX8 hown hK hP hD hS 0 rfl rfl 39 (by decide) w_4 (fun _ h9 => h9) rfl (by decide +kernel) rfl rfl (Nat.le_of_ble_eq_true rfl) dX8_take_57 (fun H locs hP hD hS => ?_)
            have hP : va_P D vwCl [((y 0), .inr (8, [.ref (y 1), .int (nI m_tapeSize), .int m_thrown, .ref (y 2), .int m_cycleMany, .int m_vote, .int m_low, .int m_high, .int m_wear, .int m_spare, .int m_places, .int m_cycleNext, .int m_fault, .int m_faultPlace, .int (nI m_givers), .ref (y 3), .ref (y 4), .int m_giverNext, .int (nI m_children), .ref (y 5), .ref (y 6), .ref (y 7), .ref (y 8), .ref (y 9), .int (nI m_coats), .ref (y 10), .ref (y 11), .ref (y 12), .ref (y 13), .int m_years, .int (nI m_legacies), .ref (y 14), .ref (y 15), .ref (y 16), .ref (y 17), .int m_end, .int i_0, .int m_kind, .int m_which, .int i_0, .int m_read, .ref (y 18), .ref (y 19), .int m_readMany, .int m_readHigh, .ref (y 20), .int (nI m_insideMany), .ref (y 21), .ref (y 22), .ref (y 23), .ref (y 24), .ref (y 25)])), ((y 1), .inl (cI, 300, .inl m_tape)), ((y 17), .inl (cI, 43, .inl m_words))] H := hP
            have hD : va_D A [((y 0), .inr (8, [.ref (y 1), .int (nI m_tapeSize), .int m_thrown, .ref (y 2), .int m_cycleMany, .int m_vote, .int m_low, .int m_high, .int m_wear, .int m_spare, .int m_places, .int m_cycleNext, .int m_fault, .int m_faultPlace, .int (nI m_givers), .ref (y 3), .ref (y 4), .int m_giverNext, .int (nI m_children), .ref (y 5), .ref (y 6), .ref (y 7), .ref (y 8), .ref (y 9), .int (nI m_coats), .ref (y 10), .ref (y 11), .ref (y 12), .ref (y 13), .int m_years, .int (nI m_legacies), .ref (y 14), .ref (y 15), .ref (y 16), .ref (y 17), .int m_end, .int i_0, .int m_kind, .int m_which, .int i_0, .int m_read, .ref (y 18), .ref (y 19), .int m_readMany, .int m_readHigh, .ref (y 20), .int (nI m_insideMany), .ref (y 21), .ref (y 22), .ref (y 23), .ref (y 24), .ref (y 25)])), ((y 1), .inl (cI, 300, .inl m_tape)), ((y 17), .inl (cI, 43, .inl m_words))] := hD
            refine lv_aload_n hx hb dX8_take_60 rfl (lv_at hl 0 rfl) ?_
            refine va_get (D := D) (ci := 8) (v := .int i_0) (C := RX8) (T := TX8) (N := 52) hx hb hts w_1 hown hK hP 0 rfl rfl 36 (by decide) w_2 (fun _ h9 => h9) rfl dX8_take_61 ?_
            refine lv_aload_n hx hb dX8_take_64 rfl (lv_at hl 0 rfl) ?_
            refine va_get (D := D) (ci := 8) (v := .int m_end) (C := RX8) (T := TX8) (N := 52) hx hb hts w_1 hown hK hP 0 rfl rfl 35 (by decide) w_3 (fun _ h9 => h9) rfl dX8_take_65 ?_
            refine lv_icmp_ne (tgt := 79) hx hb dX8_take_68 (by decide) (fun c_68 => ?_) (fun c_68 => ?_)
            ·
              refine lv_aload_n hx hb dX8_take_79 rfl (lv_at hl 0 rfl) ?_
              refine lv_aload_n hx hb dX8_take_80 rfl (lv_at hl 0 rfl) ?_
              refine va_get (D := D) (ci := 8) (v := .int i_0) (C := RX8) (T := TX8) (N := 52) hx hb hts w_1 hown hK hP 0 rfl rfl 36 (by decide) w_2 (fun _ h9 => h9) rfl dX8_take_81 ?_
              refine vp_callSi (va_Run.run (va_runV (As := [.int i_0]) (rest := []) ⟨hx, hb, hml, hown, hts⟩ (n_X8_isSmall l D cB cI cJ cZ y m_tapeSize m_givers m_children m_coats m_legacies m_insideMany m_thrown m_cycleMany m_vote m_low m_high m_wear m_spare m_places m_cycleNext m_fault m_faultPlace m_giverNext m_years m_end i_0 m_kind m_which i_0 m_read m_readMany m_readHigh m_tape i_0 (Int.le_trans hn0 hi_0.1) he) (cwV 1 hts gX8_take_X8_isSmall rfl rfl rfl (by decide +kernel) ⟨Nat.le_of_ble_eq_true rfl, Nat.le_of_ble_eq_true rfl⟩) (pre_VR (hP.sub (ws' := [((y 0), .inr (8, [.ref (y 1), .int (nI m_tapeSize), .int m_thrown, .ref (y 2), .int m_cycleMany, .int m_vote, .int m_low, .int m_high, .int m_wear, .int m_spare, .int m_places, .int m_cycleNext, .int m_fault, .int m_faultPlace, .int (nI m_givers), .ref (y 3), .ref (y 4), .int m_giverNext, .int (nI m_children), .ref (y 5), .ref (y 6), .ref (y 7), .ref (y 8), .ref (y 9), .int (nI m_coats), .ref (y 10), .ref (y 11), .ref (y 12), .ref (y 13), .int m_years, .int (nI m_legacies), .ref (y 14), .ref (y 15), .ref (y 16), .ref (y 17), .int m_end, .int i_0, .int m_kind, .int m_which, .int i_0, .int m_read, .ref (y 18), .ref (y 19), .int m_readMany, .int m_readHigh, .ref (y 20), .int (nI m_insideMany), .ref (y 21), .ref (y 22), .ref (y 23), .ref (y 24), .ref (y 25)])), ((y 1), .inl (cI, 300, .inl m_tape))]) [0, 1] rfl) hK 0 rfl rfl rfl) rfl rfl hl.1 rfl (lv_room (Nat.le_of_ble_eq_true rfl)) dX8_take_84 ⟨Nat.le_of_ble_eq_true rfl, Nat.le_of_ble_eq_true rfl⟩)) (fun r_16 hw_r_16 => ?_)
              refine lv_if_eq (tgt := 149) hx hb dX8_take_87 (by decide) (fun c_87 => ?_) (fun c_87 => ?_)
              ·
                refine lv_aload_n hx hb dX8_take_149 rfl (lv_at hl 0 rfl) ?_
                refine lv_aload_n hx hb dX8_take_150 rfl (lv_at hl 0 rfl) ?_
                refine va_get (D := D) (ci := 8) (v := .int i_0) (C := RX8) (T := TX8) (N := 52) hx hb hts w_1 hown hK hP 0 rfl rfl 36 (by decide) w_2 (fun _ h9 => h9) rfl dX8_take_151 ?_
                refine vp_callSi (va_Run.run (va_runV (As := [.int i_0]) (rest := []) ⟨hx, hb, hml, hown, hts⟩ (n_X8_isDigit l D cB cI cJ cZ y m_tapeSize m_givers m_children m_coats m_legacies m_insideMany m_thrown m_cycleMany m_vote m_low m_high m_wear m_spare m_places m_cycleNext m_fault m_faultPlace m_giverNext m_years m_end i_0 m_kind m_which i_0 m_read m_readMany m_readHigh m_tape i_0 (Int.le_trans hn0 hi_0.1) he) (cwV 1 hts gX8_take_X8_isDigit rfl rfl rfl (by decide +kernel) ⟨Nat.le_of_ble_eq_true rfl, Nat.le_of_ble_eq_true rfl⟩) (pre_VR (hP.sub (ws' := [((y 0), .inr (8, [.ref (y 1), .int (nI m_tapeSize), .int m_thrown, .ref (y 2), .int m_cycleMany, .int m_vote, .int m_low, .int m_high, .int m_wear, .int m_spare, .int m_places, .int m_cycleNext, .int m_fault, .int m_faultPlace, .int (nI m_givers), .ref (y 3), .ref (y 4), .int m_giverNext, .int (nI m_children), .ref (y 5), .ref (y 6), .ref (y 7), .ref (y 8), .ref (y 9), .int (nI m_coats), .ref (y 10), .ref (y 11), .ref (y 12), .ref (y 13), .int m_years, .int (nI m_legacies), .ref (y 14), .ref (y 15), .ref (y 16), .ref (y 17), .int m_end, .int i_0, .int m_kind, .int m_which, .int i_0, .int m_read, .ref (y 18), .ref (y 19), .int m_readMany, .int m_readHigh, .ref (y 20), .int (nI m_insideMany), .ref (y 21), .ref (y 22), .ref (y 23), .ref (y 24), .ref (y 25)])), ((y 1), .inl (cI, 300, .inl m_tape))]) [0, 1] rfl) hK 0 rfl rfl rfl) rfl rfl hl.1 rfl (lv_room (Nat.le_of_ble_eq_true rfl)) dX8_take_154 ⟨Nat.le_of_ble_eq_true rfl, Nat.le_of_ble_eq_true rfl⟩)) (fun r_17 hw_r_17 => ?_)
                refine lv_if_eq (tgt := 234) hx hb dX8_take_157 (by decide) (fun c_157 => ?_) (fun c_157 => ?_)
                ·
                  refine lv_aload_n hx hb dX8_take_234 rfl (lv_at hl 0 rfl) ?_
                  refine lv_aload_n hx hb dX8_take_235 rfl (lv_at hl 0 rfl) ?_
                  refine va_get (D := D) (ci := 8) (v := .ref (y 1)) (C := RX8) (T := TX8) (N := 52) hx hb hts w_1 hown hK hP 0 rfl rfl 0 (by decide) w_5 (fun _ h9 => h9) rfl dX8_take_236 ?_
                  refine lv_aload_n hx hb dX8_take_239 rfl (lv_at hl 0 rfl) ?_
                  refine va_get (D := D) (ci := 8) (v := .int i_0) (C := RX8) (T := TX8) (N := 52) hx hb hts w_1 hown hK hP 0 rfl rfl 36 (by decide) w_2 (fun _ h9 => h9) rfl dX8_take_240 ?_
                  refine sv_iald (v := m_tape i_0.toNatClampNeg) hx hb hK hP 1 1 rfl rfl (sm_in (Int.le_trans hn0 hi_0.1) (ne_lt hi_0.2 c_68) he) rfl dX8_take_243 ?_
                  refine lv_topi (fun v_18 ev_18 => ?_)
                  refine lv_bipush (v := 59) hx hb dX8_take_244 (by decide) ?_
                  refine lv_icmp_ne (tgt := 253) hx hb dX8_take_246 (by decide) (fun c_246 => ?_) (fun c_246 => ?_)
                  ·
                    refine lv_iconst (v := 4) hx hb dX8_take_253 (by decide) ?_
                    refine va_put (D := D) (ci := 8) (v := .int 4) (ty := .int) (C := RX8) (T := TX8) (N := 52) hx hb hts w_1 tyX8 tyX8_ok nmX8 hown hK hP hD hS 0 rfl rfl 37 (by decide) w_6 (fun _ h9 => h9) rfl (by decide +kernel) rfl rfl (Nat.le_of_ble_eq_true rfl) dX8_take_254 (fun H locs hP hD hS => ?_)
                    have hP : va_P D vwCl [((y 0), .inr (8, [.ref (y 1), .int (nI m_tapeSize), .int m_thrown, .ref (y 2), .int m_cycleMany, .int m_vote, .int m_low, .int m_high, .int m_wear, .int m_spare, .int m_places, .int m_cycleNext, .int m_fault, .int m_faultPlace, .int (nI m_givers), .ref (y 3), .ref (y 4), .int m_giverNext, .int (nI m_children), .ref (y 5), .ref (y 6), .ref (y 7), .ref (y 8), .ref (y 9), .int (nI m_coats), .ref (y 10), .ref (y 11), .ref (y 12), .ref (y 13), .int m_years, .int (nI m_legacies), .ref (y 14), .ref (y 15), .ref (y 16), .ref (y 17), .int m_end, .int i_0, .int 4, .int m_which, .int i_0, .int m_read, .ref (y 18), .ref (y 19), .int m_readMany, .int m_readHigh, .ref (y 20), .int (nI m_insideMany), .ref (y 21), .ref (y 22), .ref (y 23), .ref (y 24), .ref (y 25)])), ((y 1), .inl (cI, 300, .inl m_tape)), ((y 17), .inl (cI, 43, .inl m_words))] H := hP
                    have hD : va_D A [((y 0), .inr (8, [.ref (y 1), .int (nI m_tapeSize), .int m_thrown, .ref (y 2), .int m_cycleMany, .int m_vote, .int m_low, .int m_high, .int m_wear, .int m_spare, .int m_places, .int m_cycleNext, .int m_fault, .int m_faultPlace, .int (nI m_givers), .ref (y 3), .ref (y 4), .int m_giverNext, .int (nI m_children), .ref (y 5), .ref (y 6), .ref (y 7), .ref (y 8), .ref (y 9), .int (nI m_coats), .ref (y 10), .ref (y 11), .ref (y 12), .ref (y 13), .int m_years, .int (nI m_legacies), .ref (y 14), .ref (y 15), .ref (y 16), .ref (y 17), .int m_end, .int i_0, .int 4, .int m_which, .int i_0, .int m_read, .ref (y 18), .ref (y 19), .int m_readMany, .int m_readHigh, .ref (y 20), .int (nI m_insideMany), .ref (y 21), .ref (y 22), .ref (y 23), .ref (y 24), .ref (y 25)])), ((y 1), .inl (cI, 300, .inl m_tape)), ((y 17), .inl (cI, 43, .inl m_words))] := hD
                    refine lv_aload_n hx hb dX8_take_257 rfl (lv_at hl 0 rfl) ?_
                    refine lv_dup hx hb dX8_take_258 rfl ?_
                    refine va_get (D := D) (ci := 8) (v := .int i_0) (C := RX8) (T := TX8) (N := 52) hx hb hts w_1 hown hK hP 0 rfl rfl 36 (by decide) w_2 (fun _ h9 => h9) rfl dX8_take_259 ?_
                    refine lv_iconst (v := 1) hx hb dX8_take_262 (by decide) ?_
                    refine sv_iadd (v := i_0 + 1) hx hb dX8_take_263 rfl ?_
                    refine va_put (D := D) (ci := 8) (v := .int (i_0 + 1)) (ty := .int) (C := RX8) (T := TX8) (N := 52) hx hb hts w_1 tyX8 tyX8_ok nmX8 hown hK hP hD hS 0 rfl rfl 36 (by decide) w_2 (fun _ h9 => h9) rfl (by decide +kernel) rfl rfl (Nat.le_of_ble_eq_true rfl) dX8_take_264 (fun H locs hP hD hS => ?_)
                    have hP : va_P D vwCl [((y 0), .inr (8, [.ref (y 1), .int (nI m_tapeSize), .int m_thrown, .ref (y 2), .int m_cycleMany, .int m_vote, .int m_low, .int m_high, .int m_wear, .int m_spare, .int m_places, .int m_cycleNext, .int m_fault, .int m_faultPlace, .int (nI m_givers), .ref (y 3), .ref (y 4), .int m_giverNext, .int (nI m_children), .ref (y 5), .ref (y 6), .ref (y 7), .ref (y 8), .ref (y 9), .int (nI m_coats), .ref (y 10), .ref (y 11), .ref (y 12), .ref (y 13), .int m_years, .int (nI m_legacies), .ref (y 14), .ref (y 15), .ref (y 16), .ref (y 17), .int m_end, .int (i_0 + 1), .int 4, .int m_which, .int i_0, .int m_read, .ref (y 18), .ref (y 19), .int m_readMany, .int m_readHigh, .ref (y 20), .int (nI m_insideMany), .ref (y 21), .ref (y 22), .ref (y 23), .ref (y 24), .ref (y 25)])), ((y 1), .inl (cI, 300, .inl m_tape)), ((y 17), .inl (cI, 43, .inl m_words))] H := hP
                    have hD : va_D A [((y 0), .inr (8, [.ref (y 1), .int (nI m_tapeSize), .int m_thrown, .ref (y 2), .int m_cycleMany, .int m_vote, .int m_low, .int m_high, .int m_wear, .int m_spare, .int m_places, .int m_cycleNext, .int m_fault, .int m_faultPlace, .int (nI m_givers), .ref (y 3), .ref (y 4), .int m_giverNext, .int (nI m_children), .ref (y 5), .ref (y 6), .ref (y 7), .ref (y 8), .ref (y 9), .int (nI m_coats), .ref (y 10), .ref (y 11), .ref (y 12), .ref (y 13), .int m_years, .int (nI m_legacies), .ref (y 14), .ref (y 15), .ref (y 16), .ref (y 17), .int m_end, .int (i_0 + 1), .int 4, .int m_which, .int i_0, .int m_read, .ref (y 18), .ref (y 19), .int m_readMany, .int m_readHigh, .ref (y 20), .int (nI m_insideMany), .ref (y 21), .ref (y 22), .ref (y 23), .ref (y 24), .ref (y 25)])), ((y 1), .inl (cI, 300, .inl m_tape)), ((y 17), .inl (cI, 43, .inl m_words))] := hD
                    rw [← hQ]
                    have hP9 := hP.sub (ws' := [((y 0), .inr (8, [.ref (y 1), .int (nI m_tapeSize), .int m_thrown, .ref (y 2), .int m_cycleMany, .int m_vote, .int m_low, .int m_high, .int m_wear, .int m_spare, .int m_places, .int m_cycleNext, .int m_fault, .int m_faultPlace, .int (nI m_givers), .ref (y 3), .ref (y 4), .int m_giverNext, .int (nI m_children), .ref (y 5), .ref (y 6), .ref (y 7), .ref (y 8), .ref (y 9), .int (nI m_coats), .ref (y 10), .ref (y 11), .ref (y 12), .ref (y 13), .int m_years, .int (nI m_legacies), .ref (y 14), .ref (y 15), .ref (y 16), .ref (y 17), .int m_end, .int (i_0 + 1), .int 4, .int m_which, .int i_0, .int m_read, .ref (y 18), .ref (y 19), .int m_readMany, .int m_readHigh, .ref (y 20), .int (nI m_insideMany), .ref (y 21), .ref (y 22), .ref (y 23), .ref (y 24), .ref (y 25)])), ((y 1), .inl (cI, 300, .inl m_tape)), ((y 17), .inl (cI, 43, .inl m_words))]) [0, 1, 2] rfl
                    have hD9 := hD.sub (ws' := [((y 0), .inr (8, [.ref (y 1), .int (nI m_tapeSize), .int m_thrown, .ref (y 2), .int m_cycleMany, .int m_vote, .int m_low, .int m_high, .int m_wear, .int m_spare, .int m_places, .int m_cycleNext, .int m_fault, .int m_faultPlace, .int (nI m_givers), .ref (y 3), .ref (y 4), .int m_giverNext, .int (nI m_children), .ref (y 5), .ref (y 6), .ref (y 7), .ref (y 8), .ref (y 9), .int (nI m_coats), .ref (y 10), .ref (y 11), .ref (y 12), .ref (y 13), .int m_years, .int (nI m_legacies), .ref (y 14), .ref (y 15), .ref (y 16), .ref (y 17), .int m_end, .int (i_0 + 1), .int 4, .int m_which, .int i_0, .int m_read, .ref (y 18), .ref (y 19), .int m_readMany, .int m_readHigh, .ref (y 20), .int (nI m_insideMany), .ref (y 21), .ref (y 22), .ref (y 23), .ref (y 24), .ref (y 25)])), ((y 1), .inl (cI, 300, .inl m_tape)), ((y 17), .inl (cI, 43, .inl m_words))]) [0, 1, 2] (by decide) rfl
                    exact W.vret hx hb hr (fun t ht hW => ⟨⟨((i_0 + 1 : Int32), (i_0 : Int32), (m_which : Int32), (4 : Int32)), rfl, (tk_one hi_0 (ne_lt hi_0.2 c_68) (by decide)), by rw [ht]; exact hP9, va_K.moved hW.alike hK, hD9⟩, hS.F ht⟩) hS.2.2 dX8_take_267
                  ·
                    refine lv_iconst (v := 3) hx hb dX8_take_249 (by decide) ?_
                    refine lv_goto (tgt := 254) hx hb dX8_take_250 (by decide) ?_
                    refine va_put (D := D) (ci := 8) (v := .int 3) (ty := .int) (C := RX8) (T := TX8) (N := 52) hx hb hts w_1 tyX8 tyX8_ok nmX8 hown hK hP hD hS 0 rfl rfl 37 (by decide) w_6 (fun _ h9 => h9) rfl (by decide +kernel) rfl rfl (Nat.le_of_ble_eq_true rfl) dX8_take_254 (fun H locs hP hD hS => ?_)
                    have hP : va_P D vwCl [((y 0), .inr (8, [.ref (y 1), .int (nI m_tapeSize), .int m_thrown, .ref (y 2), .int m_cycleMany, .int m_vote, .int m_low, .int m_high, .int m_wear, .int m_spare, .int m_places, .int m_cycleNext, .int m_fault, .int m_faultPlace, .int (nI m_givers), .ref (y 3), .ref (y 4), .int m_giverNext, .int (nI m_children), .ref (y 5), .ref (y 6), .ref (y 7), .ref (y 8), .ref (y 9), .int (nI m_coats), .ref (y 10), .ref (y 11), .ref (y 12), .ref (y 13), .int m_years, .int (nI m_legacies), .ref (y 14), .ref (y 15), .ref (y 16), .ref (y 17), .int m_end, .int i_0, .int 3, .int m_which, .int i_0, .int m_read, .ref (y 18), .ref (y 19), .int m_readMany, .int m_readHigh, .ref (y 20), .int (nI m_insideMany), .ref (y 21), .ref (y 22), .ref (y 23), .ref (y 24), .ref (y 25)])), ((y 1), .inl (cI, 300, .inl m_tape)), ((y 17), .inl (cI, 43, .inl m_words))] H := hP
                    have hD : va_D A [((y 0), .inr (8, [.ref (y 1), .int (nI m_tapeSize), .int m_thrown, .ref (y 2), .int m_cycleMany, .int m_vote, .int m_low, .int m_high, .int m_wear, .int m_spare, .int m_places, .int m_cycleNext, .int m_fault, .int m_faultPlace, .int (nI m_givers), .ref (y 3), .ref (y 4), .int m_giverNext, .int (nI m_children), .ref (y 5), .ref (y 6), .ref (y 7), .ref (y 8), .ref (y 9), .int (nI m_coats), .ref (y 10), .ref (y 11), .ref (y 12), .ref (y 13), .int m_years, .int (nI m_legacies), .ref (y 14), .ref (y 15), .ref (y 16), .ref (y 17), .int m_end, .int i_0, .int 3, .int m_which, .int i_0, .int m_read, .ref (y 18), .ref (y 19), .int m_readMany, .int m_readHigh, .ref (y 20), .int (nI m_insideMany), .ref (y 21), .ref (y 22), .ref (y 23), .ref (y 24), .ref (y 25)])), ((y 1), .inl (cI, 300, .inl m_tape)), ((y 17), .inl (cI, 43, .inl m_words))] := hD
                    refine lv_aload_n hx hb dX8_take_257 rfl (lv_at hl 0 rfl) ?_
                    refine lv_dup hx hb dX8_take_258 rfl ?_
                    refine va_get (D := D) (ci := 8) (v := .int i_0) (C := RX8) (T := TX8) (N := 52) hx hb hts w_1 hown hK hP 0 rfl rfl 36 (by decide) w_2 (fun _ h9 => h9) rfl dX8_take_259 ?_
                    refine lv_iconst (v := 1) hx hb dX8_take_262 (by decide) ?_
                    refine sv_iadd (v := i_0 + 1) hx hb dX8_take_263 rfl ?_
                    refine va_put (D := D) (ci := 8) (v := .int (i_0 + 1)) (ty := .int) (C := RX8) (T := TX8) (N := 52) hx hb hts w_1 tyX8 tyX8_ok nmX8 hown hK hP hD hS 0 rfl rfl 36 (by decide) w_2 (fun _ h9 => h9) rfl (by decide +kernel) rfl rfl (Nat.le_of_ble_eq_true rfl) dX8_take_264 (fun H locs hP hD hS => ?_)
                    have hP : va_P D vwCl [((y 0), .inr (8, [.ref (y 1), .int (nI m_tapeSize), .int m_thrown, .ref (y 2), .int m_cycleMany, .int m_vote, .int m_low, .int m_high, .int m_wear, .int m_spare, .int m_places, .int m_cycleNext, .int m_fault, .int m_faultPlace, .int (nI m_givers), .ref (y 3), .ref (y 4), .int m_giverNext, .int (nI m_children), .ref (y 5), .ref (y 6), .ref (y 7), .ref (y 8), .ref (y 9), .int (nI m_coats), .ref (y 10), .ref (y 11), .ref (y 12), .ref (y 13), .int m_years, .int (nI m_legacies), .ref (y 14), .ref (y 15), .ref (y 16), .ref (y 17), .int m_end, .int (i_0 + 1), .int 3, .int m_which, .int i_0, .int m_read, .ref (y 18), .ref (y 19), .int m_readMany, .int m_readHigh, .ref (y 20), .int (nI m_insideMany), .ref (y 21), .ref (y 22), .ref (y 23), .ref (y 24), .ref (y 25)])), ((y 1), .inl (cI, 300, .inl m_tape)), ((y 17), .inl (cI, 43, .inl m_words))] H := hP
                    have hD : va_D A [((y 0), .inr (8, [.ref (y 1), .int (nI m_tapeSize), .int m_thrown, .ref (y 2), .int m_cycleMany, .int m_vote, .int m_low, .int m_high, .int m_wear, .int m_spare, .int m_places, .int m_cycleNext, .int m_fault, .int m_faultPlace, .int (nI m_givers), .ref (y 3), .ref (y 4), .int m_giverNext, .int (nI m_children), .ref (y 5), .ref (y 6), .ref (y 7), .ref (y 8), .ref (y 9), .int (nI m_coats), .ref (y 10), .ref (y 11), .ref (y 12), .ref (y 13), .int m_years, .int (nI m_legacies), .ref (y 14), .ref (y 15), .ref (y 16), .ref (y 17), .int m_end, .int (i_0 + 1), .int 3, .int m_which, .int i_0, .int m_read, .ref (y 18), .ref (y 19), .int m_readMany, .int m_readHigh, .ref (y 20), .int (nI m_insideMany), .ref (y 21), .ref (y 22), .ref (y 23), .ref (y 24), .ref (y 25)])), ((y 1), .inl (cI, 300, .inl m_tape)), ((y 17), .inl (cI, 43, .inl m_words))] := hD
                    rw [← hQ]
                    have hP9 := hP.sub (ws' := [((y 0), .inr (8, [.ref (y 1), .int (nI m_tapeSize), .int m_thrown, .ref (y 2), .int m_cycleMany, .int m_vote, .int m_low, .int m_high, .int m_wear, .int m_spare, .int m_places, .int m_cycleNext, .int m_fault, .int m_faultPlace, .int (nI m_givers), .ref (y 3), .ref (y 4), .int m_giverNext, .int (nI m_children), .ref (y 5), .ref (y 6), .ref (y 7), .ref (y 8), .ref (y 9), .int (nI m_coats), .ref (y 10), .ref (y 11), .ref (y 12), .ref (y 13), .int m_years, .int (nI m_legacies), .ref (y 14), .ref (y 15), .ref (y 16), .ref (y 17), .int m_end, .int (i_0 + 1), .int 3, .int m_which, .int i_0, .int m_read, .ref (y 18), .ref (y 19), .int m_readMany, .int m_readHigh, .ref (y 20), .int (nI m_insideMany), .ref (y 21), .ref (y 22), .ref (y 23), .ref (y 24), .ref (y 25)])), ((y 1), .inl (cI, 300, .inl m_tape)), ((y 17), .inl (cI, 43, .inl m_words))]) [0, 1, 2] rfl
                    have hD9 := hD.sub (ws' := [((y 0), .inr (8, [.ref (y 1), .int (nI m_tapeSize), .int m_thrown, .ref (y 2), .int m_cycleMany, .int m_vote, .int m_low, .int m_high, .int m_wear, .int m_spare, .int m_places, .int m_cycleNext, .int m_fault, .int m_faultPlace, .int (nI m_givers), .ref (y 3), .ref (y 4), .int m_giverNext, .int (nI m_children), .ref (y 5), .ref (y 6), .ref (y 7), .ref (y 8), .ref (y 9), .int (nI m_coats), .ref (y 10), .ref (y 11), .ref (y 12), .ref (y 13), .int m_years, .int (nI m_legacies), .ref (y 14), .ref (y 15), .ref (y 16), .ref (y 17), .int m_end, .int (i_0 + 1), .int 3, .int m_which, .int i_0, .int m_read, .ref (y 18), .ref (y 19), .int m_readMany, .int m_readHigh, .ref (y 20), .int (nI m_insideMany), .ref (y 21), .ref (y 22), .ref (y 23), .ref (y 24), .ref (y 25)])), ((y 1), .inl (cI, 300, .inl m_tape)), ((y 17), .inl (cI, 43, .inl m_words))]) [0, 1, 2] (by decide) rfl
                    exact W.vret hx hb hr (fun t ht hW => ⟨⟨((i_0 + 1 : Int32), (i_0 : Int32), (m_which : Int32), (3 : Int32)), rfl, (tk_one hi_0 (ne_lt hi_0.2 c_68) (by decide)), by rw [ht]; exact hP9, va_K.moved hW.alike hK, hD9⟩, hS.F ht⟩) hS.2.2 dX8_take_267
                ·
                  refine lv_aload_n hx hb dX8_take_160 rfl (lv_at hl 0 rfl) ?_
                  refine lv_iconst (v := 2) hx hb dX8_take_161 (by decide) ?_
                  refine va_put (D := D) (ci := 8) (v := .int 2) (ty := .int) (C := RX8) (T := TX8) (N := 52) hx hb hts w_1 tyX8 tyX8_ok nmX8 hown hK hP hD hS 0 rfl rfl 37 (by decide) w_6 (fun _ h9 => h9) rfl (by decide +kernel) rfl rfl (Nat.le_of_ble_eq_true rfl) dX8_take_162 (fun H locs hP hD hS => ?_)
                  have hP : va_P D vwCl [((y 0), .inr (8, [.ref (y 1), .int (nI m_tapeSize), .int m_thrown, .ref (y 2), .int m_cycleMany, .int m_vote, .int m_low, .int m_high, .int m_wear, .int m_spare, .int m_places, .int m_cycleNext, .int m_fault, .int m_faultPlace, .int (nI m_givers), .ref (y 3), .ref (y 4), .int m_giverNext, .int (nI m_children), .ref (y 5), .ref (y 6), .ref (y 7), .ref (y 8), .ref (y 9), .int (nI m_coats), .ref (y 10), .ref (y 11), .ref (y 12), .ref (y 13), .int m_years, .int (nI m_legacies), .ref (y 14), .ref (y 15), .ref (y 16), .ref (y 17), .int m_end, .int i_0, .int 2, .int m_which, .int i_0, .int m_read, .ref (y 18), .ref (y 19), .int m_readMany, .int m_readHigh, .ref (y 20), .int (nI m_insideMany), .ref (y 21), .ref (y 22), .ref (y 23), .ref (y 24), .ref (y 25)])), ((y 1), .inl (cI, 300, .inl m_tape)), ((y 17), .inl (cI, 43, .inl m_words))] H := hP
                  have hD : va_D A [((y 0), .inr (8, [.ref (y 1), .int (nI m_tapeSize), .int m_thrown, .ref (y 2), .int m_cycleMany, .int m_vote, .int m_low, .int m_high, .int m_wear, .int m_spare, .int m_places, .int m_cycleNext, .int m_fault, .int m_faultPlace, .int (nI m_givers), .ref (y 3), .ref (y 4), .int m_giverNext, .int (nI m_children), .ref (y 5), .ref (y 6), .ref (y 7), .ref (y 8), .ref (y 9), .int (nI m_coats), .ref (y 10), .ref (y 11), .ref (y 12), .ref (y 13), .int m_years, .int (nI m_legacies), .ref (y 14), .ref (y 15), .ref (y 16), .ref (y 17), .int m_end, .int i_0, .int 2, .int m_which, .int i_0, .int m_read, .ref (y 18), .ref (y 19), .int m_readMany, .int m_readHigh, .ref (y 20), .int (nI m_insideMany), .ref (y 21), .ref (y 22), .ref (y 23), .ref (y 24), .ref (y 25)])), ((y 1), .inl (cI, 300, .inl m_tape)), ((y 17), .inl (cI, 43, .inl m_words))] := hD
                  refine lv_aload_n hx hb dX8_take_165 rfl (lv_at hl 0 rfl) ?_
                  refine lv_iconst (v := 0) hx hb dX8_take_166 (by decide) ?_
                  refine va_put (D := D) (ci := 8) (v := .int 0) (ty := .int) (C := RX8) (T := TX8) (N := 52) hx hb hts w_1 tyX8 tyX8_ok nmX8 hown hK hP hD hS 0 rfl rfl 38 (by decide) w_7 (fun _ h9 => h9) rfl (by decide +kernel) rfl rfl (Nat.le_of_ble_eq_true rfl) dX8_take_167 (fun H locs hP hD hS => ?_)
                  have hP : va_P D vwCl [((y 0), .inr (8, [.ref (y 1), .int (nI m_tapeSize), .int m_thrown, .ref (y 2), .int m_cycleMany, .int m_vote, .int m_low, .int m_high, .int m_wear, .int m_spare, .int m_places, .int m_cycleNext, .int m_fault, .int m_faultPlace, .int (nI m_givers), .ref (y 3), .ref (y 4), .int m_giverNext, .int (nI m_children), .ref (y 5), .ref (y 6), .ref (y 7), .ref (y 8), .ref (y 9), .int (nI m_coats), .ref (y 10), .ref (y 11), .ref (y 12), .ref (y 13), .int m_years, .int (nI m_legacies), .ref (y 14), .ref (y 15), .ref (y 16), .ref (y 17), .int m_end, .int i_0, .int 2, .int 0, .int i_0, .int m_read, .ref (y 18), .ref (y 19), .int m_readMany, .int m_readHigh, .ref (y 20), .int (nI m_insideMany), .ref (y 21), .ref (y 22), .ref (y 23), .ref (y 24), .ref (y 25)])), ((y 1), .inl (cI, 300, .inl m_tape)), ((y 17), .inl (cI, 43, .inl m_words))] H := hP
                  have hD : va_D A [((y 0), .inr (8, [.ref (y 1), .int (nI m_tapeSize), .int m_thrown, .ref (y 2), .int m_cycleMany, .int m_vote, .int m_low, .int m_high, .int m_wear, .int m_spare, .int m_places, .int m_cycleNext, .int m_fault, .int m_faultPlace, .int (nI m_givers), .ref (y 3), .ref (y 4), .int m_giverNext, .int (nI m_children), .ref (y 5), .ref (y 6), .ref (y 7), .ref (y 8), .ref (y 9), .int (nI m_coats), .ref (y 10), .ref (y 11), .ref (y 12), .ref (y 13), .int m_years, .int (nI m_legacies), .ref (y 14), .ref (y 15), .ref (y 16), .ref (y 17), .int m_end, .int i_0, .int 2, .int 0, .int i_0, .int m_read, .ref (y 18), .ref (y 19), .int m_readMany, .int m_readHigh, .ref (y 20), .int (nI m_insideMany), .ref (y 21), .ref (y 22), .ref (y 23), .ref (y 24), .ref (y 25)])), ((y 1), .inl (cI, 300, .inl m_tape)), ((y 17), .inl (cI, 43, .inl m_words))] := hD
                  have L_19 : ∀ (n : Nat) (i_170 : Int32) (t_y0_38_170 : Int32) (H : Heap) (locs : List Loc) (ls : Array Slot), (Int32.toInt m_end - i_170.toInt).toNat < n → (i_0.toInt ≤ i_170.toInt ∧ i_170.toInt ≤ m_end.toInt) → va_P D vwCl [((y 0), .inr (8, [.ref (y 1), .int (nI m_tapeSize), .int m_thrown, .ref (y 2), .int m_cycleMany, .int m_vote, .int m_low, .int m_high, .int m_wear, .int m_spare, .int m_places, .int m_cycleNext, .int m_fault, .int m_faultPlace, .int (nI m_givers), .ref (y 3), .ref (y 4), .int m_giverNext, .int (nI m_children), .ref (y 5), .ref (y 6), .ref (y 7), .ref (y 8), .ref (y 9), .int (nI m_coats), .ref (y 10), .ref (y 11), .ref (y 12), .ref (y 13), .int m_years, .int (nI m_legacies), .ref (y 14), .ref (y 15), .ref (y 16), .ref (y 17), .int m_end, .int i_170, .int 2, .int t_y0_38_170, .int i_0, .int m_read, .ref (y 18), .ref (y 19), .int m_readMany, .int m_readHigh, .ref (y 20), .int (nI m_insideMany), .ref (y 21), .ref (y 22), .ref (y 23), .ref (y 24), .ref (y 25)])), ((y 1), .inl (cI, 300, .inl m_tape)), ((y 17), .inl (cI, 43, .inl m_words))] H → va_D A [((y 0), .inr (8, [.ref (y 1), .int (nI m_tapeSize), .int m_thrown, .ref (y 2), .int m_cycleMany, .int m_vote, .int m_low, .int m_high, .int m_wear, .int m_spare, .int m_places, .int m_cycleNext, .int m_fault, .int m_faultPlace, .int (nI m_givers), .ref (y 3), .ref (y 4), .int m_giverNext, .int (nI m_children), .ref (y 5), .ref (y 6), .ref (y 7), .ref (y 8), .ref (y 9), .int (nI m_coats), .ref (y 10), .ref (y 11), .ref (y 12), .ref (y 13), .int m_years, .int (nI m_legacies), .ref (y 14), .ref (y 15), .ref (y 16), .ref (y 17), .int m_end, .int i_170, .int 2, .int t_y0_38_170, .int i_0, .int m_read, .ref (y 18), .ref (y 19), .int m_readMany, .int m_readHigh, .ref (y 20), .int (nI m_insideMany), .ref (y 21), .ref (y 22), .ref (y 23), .ref (y 24), .ref (y 25)])), ((y 1), .inl (cI, 300, .inl m_tape)), ((y 17), .inl (cI, 43, .inl m_words))] → va_S A s.heap H locs → lv_has ls 1 [(0, .ref (y 0))] → W p l e (headSpec wsX8_take ({ frames := 1, cells := 0, slots := 0, locals := 27 } : Room)).room s m ([.ref (y 0)] : List Value).toArray below meth c H locs 0 0 Q0 (F0 m 170 ls []) := by
                    intro n
                    induction n with
                    | zero => intro i_170 t_y0_38_170 H locs ls hn_170 hi_170 hP hD hS hl; exact absurd hn_170 (Nat.not_lt_zero _)
                    | succ n ih_L_19 =>
                      intro i_170 t_y0_38_170 H locs ls hn_170 hi_170 hP hD hS hl
                      refine lv_aload_n hx hb dX8_take_170 rfl (lv_at hl 0 rfl) ?_
                      refine lv_aload_n hx hb dX8_take_171 rfl (lv_at hl 0 rfl) ?_
                      refine va_get (D := D) (ci := 8) (v := .int i_170) (C := RX8) (T := TX8) (N := 52) hx hb hts w_1 hown hK hP 0 rfl rfl 36 (by decide) w_2 (fun _ h9 => h9) rfl dX8_take_172 ?_
                      refine vp_callSi (va_Run.run (va_runV (As := [.int i_170]) (rest := []) ⟨hx, hb, hml, hown, hts⟩ (n_X8_isDigit l D cB cI cJ cZ y m_tapeSize m_givers m_children m_coats m_legacies m_insideMany m_thrown m_cycleMany m_vote m_low m_high m_wear m_spare m_places m_cycleNext m_fault m_faultPlace m_giverNext m_years m_end i_170 2 t_y0_38_170 i_0 m_read m_readMany m_readHigh m_tape i_170 (Int.le_trans hn0 (Int.le_trans hi_0.1 hi_170.1)) he) (cwV 1 hts gX8_take_X8_isDigit rfl rfl rfl (by decide +kernel) ⟨Nat.le_of_ble_eq_true rfl, Nat.le_of_ble_eq_true rfl⟩) (pre_VR (hP.sub (ws' := [((y 0), .inr (8, [.ref (y 1), .int (nI m_tapeSize), .int m_thrown, .ref (y 2), .int m_cycleMany, .int m_vote, .int m_low, .int m_high, .int m_wear, .int m_spare, .int m_places, .int m_cycleNext, .int m_fault, .int m_faultPlace, .int (nI m_givers), .ref (y 3), .ref (y 4), .int m_giverNext, .int (nI m_children), .ref (y 5), .ref (y 6), .ref (y 7), .ref (y 8), .ref (y 9), .int (nI m_coats), .ref (y 10), .ref (y 11), .ref (y 12), .ref (y 13), .int m_years, .int (nI m_legacies), .ref (y 14), .ref (y 15), .ref (y 16), .ref (y 17), .int m_end, .int i_170, .int 2, .int t_y0_38_170, .int i_0, .int m_read, .ref (y 18), .ref (y 19), .int m_readMany, .int m_readHigh, .ref (y 20), .int (nI m_insideMany), .ref (y 21), .ref (y 22), .ref (y 23), .ref (y 24), .ref (y 25)])), ((y 1), .inl (cI, 300, .inl m_tape))]) [0, 1] rfl) hK 0 rfl rfl rfl) rfl rfl hl.1 rfl (lv_room (Nat.le_of_ble_eq_true rfl)) dX8_take_175 ⟨Nat.le_of_ble_eq_true rfl, Nat.le_of_ble_eq_true rfl⟩)) (fun r_20 hw_r_20 => ?_)
                      refine lv_if_eq (tgt := 267) hx hb dX8_take_178 (by decide) (fun c_178 => ?_) (fun c_178 => ?_)
                      ·
                        rw [← hQ]
                        have hP9 := hP.sub (ws' := [((y 0), .inr (8, [.ref (y 1), .int (nI m_tapeSize), .int m_thrown, .ref (y 2), .int m_cycleMany, .int m_vote, .int m_low, .int m_high, .int m_wear, .int m_spare, .int m_places, .int m_cycleNext, .int m_fault, .int m_faultPlace, .int (nI m_givers), .ref (y 3), .ref (y 4), .int m_giverNext, .int (nI m_children), .ref (y 5), .ref (y 6), .ref (y 7), .ref (y 8), .ref (y 9), .int (nI m_coats), .ref (y 10), .ref (y 11), .ref (y 12), .ref (y 13), .int m_years, .int (nI m_legacies), .ref (y 14), .ref (y 15), .ref (y 16), .ref (y 17), .int m_end, .int i_170, .int 2, .int t_y0_38_170, .int i_0, .int m_read, .ref (y 18), .ref (y 19), .int m_readMany, .int m_readHigh, .ref (y 20), .int (nI m_insideMany), .ref (y 21), .ref (y 22), .ref (y 23), .ref (y 24), .ref (y 25)])), ((y 1), .inl (cI, 300, .inl m_tape)), ((y 17), .inl (cI, 43, .inl m_words))]) [0, 1, 2] rfl
                        have hD9 := hD.sub (ws' := [((y 0), .inr (8, [.ref (y 1), .int (nI m_tapeSize), .int m_thrown, .ref (y 2), .int m_cycleMany, .int m_vote, .int m_low, .int m_high, .int m_wear, .int m_spare, .int m_places, .int m_cycleNext, .int m_fault, .int m_faultPlace, .int (nI m_givers), .ref (y 3), .ref (y 4), .int m_giverNext, .int (nI m_children), .ref (y 5), .ref (y 6), .ref (y 7), .ref (y 8), .ref (y 9), .int (nI m_coats), .ref (y 10), .ref (y 11), .ref (y 12), .ref (y 13), .int m_years, .int (nI m_legacies), .ref (y 14), .ref (y 15), .ref (y 16), .ref (y 17), .int m_end, .int i_170, .int 2, .int t_y0_38_170, .int i_0, .int m_read, .ref (y 18), .ref (y 19), .int m_readMany, .int m_readHigh, .ref (y 20), .int (nI m_insideMany), .ref (y 21), .ref (y 22), .ref (y 23), .ref (y 24), .ref (y 25)])), ((y 1), .inl (cI, 300, .inl m_tape)), ((y 17), .inl (cI, 43, .inl m_words))]) [0, 1, 2] (by decide) rfl
                        exact W.vret hx hb hr (fun t ht hW => ⟨⟨((i_170 : Int32), (i_0 : Int32), (t_y0_38_170 : Int32), (2 : Int32)), rfl, ⟨Int.le_trans hi_0.1 hi_170.1, hi_170.2, Or.inr (Int.lt_of_le_of_lt hi_0.1 (tk_gone (sm_yes hw_r_17 c_157) (sm_no hw_r_20 c_178) hi_170)), fun h => absurd h (by decide)⟩, by rw [ht]; exact hP9, va_K.moved hW.alike hK, hD9⟩, hS.F ht⟩) hS.2.2 dX8_take_267
                      ·
                        refine lv_aload_n hx hb dX8_take_181 rfl (lv_at hl 0 rfl) ?_
                        refine lv_aload_n hx hb dX8_take_182 rfl (lv_at hl 0 rfl) ?_
                        refine va_get (D := D) (ci := 8) (v := .int t_y0_38_170) (C := RX8) (T := TX8) (N := 52) hx hb hts w_1 hown hK hP 0 rfl rfl 38 (by decide) w_7 (fun _ h9 => h9) rfl dX8_take_183 ?_
                        refine lv_ldc hx hb hown (w_8) dX8_take_186 ?_
                        refine lv_icmp_le (tgt := 198) hx hb dX8_take_188 (by decide) (fun c_188 => ?_) (fun c_188 => ?_)
                        ·
                          refine lv_bipush (v := 10) hx hb dX8_take_198 (by decide) ?_
                          refine lv_aload_n hx hb dX8_take_200 rfl (lv_at hl 0 rfl) ?_
                          refine va_get (D := D) (ci := 8) (v := .int t_y0_38_170) (C := RX8) (T := TX8) (N := 52) hx hb hts w_1 hown hK hP 0 rfl rfl 38 (by decide) w_7 (fun _ h9 => h9) rfl dX8_take_201 ?_
                          refine sv_imul (v := 10 * t_y0_38_170) hx hb dX8_take_204 rfl ?_
                          refine lv_topi (fun v_21 ev_21 => ?_)
                          refine lv_aload_n hx hb dX8_take_205 rfl (lv_at hl 0 rfl) ?_
                          refine va_get (D := D) (ci := 8) (v := .ref (y 1)) (C := RX8) (T := TX8) (N := 52) hx hb hts w_1 hown hK hP 0 rfl rfl 0 (by decide) w_5 (fun _ h9 => h9) rfl dX8_take_206 ?_
                          refine lv_aload_n hx hb dX8_take_209 rfl (lv_at hl 0 rfl) ?_
                          refine va_get (D := D) (ci := 8) (v := .int i_170) (C := RX8) (T := TX8) (N := 52) hx hb hts w_1 hown hK hP 0 rfl rfl 36 (by decide) w_2 (fun _ h9 => h9) rfl dX8_take_210 ?_
                          refine sv_iald (v := m_tape i_170.toNatClampNeg) hx hb hK hP 1 1 rfl rfl (sm_in (Int.le_trans hn0 (Int.le_trans hi_0.1 hi_170.1)) (sm_lt hw_r_20 c_178) he) rfl dX8_take_213 ?_
                          refine lv_topi (fun v_22 ev_22 => ?_)
                          refine sv_iadd (v := v_21 + v_22) hx hb dX8_take_214 rfl ?_
                          refine lv_topi (fun v_23 ev_23 => ?_)
                          refine lv_bipush (v := 48) hx hb dX8_take_215 (by decide) ?_
                          refine sv_isub (v := v_23 - 48) hx hb dX8_take_217 rfl ?_
                          refine lv_topi (fun v_24 ev_24 => ?_)
                          refine va_put (D := D) (ci := 8) (v := .int v_24) (ty := .int) (C := RX8) (T := TX8) (N := 52) hx hb hts w_1 tyX8 tyX8_ok nmX8 hown hK hP hD hS 0 rfl rfl 38 (by decide) w_7 (fun _ h9 => h9) rfl (by decide +kernel) rfl rfl (Nat.le_of_ble_eq_true rfl) dX8_take_218 (fun H locs hP hD hS => ?_)
                          have hP : va_P D vwCl [((y 0), .inr (8, [.ref (y 1), .int (nI m_tapeSize), .int m_thrown, .ref (y 2), .int m_cycleMany, .int m_vote, .int m_low, .int m_high, .int m_wear, .int m_spare, .int m_places, .int m_cycleNext, .int m_fault, .int m_faultPlace, .int (nI m_givers), .ref (y 3), .ref (y 4), .int m_giverNext, .int (nI m_children), .ref (y 5), .ref (y 6), .ref (y 7), .ref (y 8), .ref (y 9), .int (nI m_coats), .ref (y 10), .ref (y 11), .ref (y 12), .ref (y 13), .int m_years, .int (nI m_legacies), .ref (y 14), .ref (y 15), .ref (y 16), .ref (y 17), .int m_end, .int i_170, .int 2, .int v_24, .int i_0, .int m_read, .ref (y 18), .ref (y 19), .int m_readMany, .int m_readHigh, .ref (y 20), .int (nI m_insideMany), .ref (y 21), .ref (y 22), .ref (y 23), .ref (y 24), .ref (y 25)])), ((y 1), .inl (cI, 300, .inl m_tape)), ((y 17), .inl (cI, 43, .inl m_words))] H := hP
                          have hD : va_D A [((y 0), .inr (8, [.ref (y 1), .int (nI m_tapeSize), .int m_thrown, .ref (y 2), .int m_cycleMany, .int m_vote, .int m_low, .int m_high, .int m_wear, .int m_spare, .int m_places, .int m_cycleNext, .int m_fault, .int m_faultPlace, .int (nI m_givers), .ref (y 3), .ref (y 4), .int m_giverNext, .int (nI m_children), .ref (y 5), .ref (y 6), .ref (y 7), .ref (y 8), .ref (y 9), .int (nI m_coats), .ref (y 10), .ref (y 11), .ref (y 12), .ref (y 13), .int m_years, .int (nI m_legacies), .ref (y 14), .ref (y 15), .ref (y 16), .ref (y 17), .int m_end, .int i_170, .int 2, .int v_24, .int i_0, .int m_read, .ref (y 18), .ref (y 19), .int m_readMany, .int m_readHigh, .ref (y 20), .int (nI m_insideMany), .ref (y 21), .ref (y 22), .ref (y 23), .ref (y 24), .ref (y 25)])), ((y 1), .inl (cI, 300, .inl m_tape)), ((y 17), .inl (cI, 43, .inl m_words))] := hD
                          refine lv_aload_n hx hb dX8_take_221 rfl (lv_at hl 0 rfl) ?_
                          refine lv_dup hx hb dX8_take_222 rfl ?_
                          refine va_get (D := D) (ci := 8) (v := .int i_170) (C := RX8) (T := TX8) (N := 52) hx hb hts w_1 hown hK hP 0 rfl rfl 36 (by decide) w_2 (fun _ h9 => h9) rfl dX8_take_223 ?_
                          refine lv_iconst (v := 1) hx hb dX8_take_226 (by decide) ?_
                          refine sv_iadd (v := i_170 + 1) hx hb dX8_take_227 rfl ?_
                          refine va_put (D := D) (ci := 8) (v := .int (i_170 + 1)) (ty := .int) (C := RX8) (T := TX8) (N := 52) hx hb hts w_1 tyX8 tyX8_ok nmX8 hown hK hP hD hS 0 rfl rfl 36 (by decide) w_2 (fun _ h9 => h9) rfl (by decide +kernel) rfl rfl (Nat.le_of_ble_eq_true rfl) dX8_take_228 (fun H locs hP hD hS => ?_)
                          have hP : va_P D vwCl [((y 0), .inr (8, [.ref (y 1), .int (nI m_tapeSize), .int m_thrown, .ref (y 2), .int m_cycleMany, .int m_vote, .int m_low, .int m_high, .int m_wear, .int m_spare, .int m_places, .int m_cycleNext, .int m_fault, .int m_faultPlace, .int (nI m_givers), .ref (y 3), .ref (y 4), .int m_giverNext, .int (nI m_children), .ref (y 5), .ref (y 6), .ref (y 7), .ref (y 8), .ref (y 9), .int (nI m_coats), .ref (y 10), .ref (y 11), .ref (y 12), .ref (y 13), .int m_years, .int (nI m_legacies), .ref (y 14), .ref (y 15), .ref (y 16), .ref (y 17), .int m_end, .int (i_170 + 1), .int 2, .int v_24, .int i_0, .int m_read, .ref (y 18), .ref (y 19), .int m_readMany, .int m_readHigh, .ref (y 20), .int (nI m_insideMany), .ref (y 21), .ref (y 22), .ref (y 23), .ref (y 24), .ref (y 25)])), ((y 1), .inl (cI, 300, .inl m_tape)), ((y 17), .inl (cI, 43, .inl m_words))] H := hP
                          have hD : va_D A [((y 0), .inr (8, [.ref (y 1), .int (nI m_tapeSize), .int m_thrown, .ref (y 2), .int m_cycleMany, .int m_vote, .int m_low, .int m_high, .int m_wear, .int m_spare, .int m_places, .int m_cycleNext, .int m_fault, .int m_faultPlace, .int (nI m_givers), .ref (y 3), .ref (y 4), .int m_giverNext, .int (nI m_children), .ref (y 5), .ref (y 6), .ref (y 7), .ref (y 8), .ref (y 9), .int (nI m_coats), .ref (y 10), .ref (y 11), .ref (y 12), .ref (y 13), .int m_years, .int (nI m_legacies), .ref (y 14), .ref (y 15), .ref (y 16), .ref (y 17), .int m_end, .int (i_170 + 1), .int 2, .int v_24, .int i_0, .int m_read, .ref (y 18), .ref (y 19), .int m_readMany, .int m_readHigh, .ref (y 20), .int (nI m_insideMany), .ref (y 21), .ref (y 22), .ref (y 23), .ref (y 24), .ref (y 25)])), ((y 1), .inl (cI, 300, .inl m_tape)), ((y 17), .inl (cI, 43, .inl m_words))] := hD
                          refine lv_goto (tgt := 170) hx hb dX8_take_231 (by decide) ?_
                          exact ih_L_19 (i_170 + 1) v_24 _ _ ls (lp_dec hn_170 (sm_lt hw_r_20 c_178)) (tk_inc hi_170 (sm_lt hw_r_20 c_178)) hP hD hS (lv_sub hl [0] rfl)
                        ·
                          refine lv_aload_n hx hb dX8_take_191 rfl (lv_at hl 0 rfl) ?_
                          refine va_get (D := D) (ci := 8) (v := .int t_y0_38_170) (C := RX8) (T := TX8) (N := 52) hx hb hts w_1 hown hK hP 0 rfl rfl 38 (by decide) w_7 (fun _ h9 => h9) rfl dX8_take_192 ?_
                          refine lv_goto (tgt := 218) hx hb dX8_take_195 (by decide) ?_
                          refine va_put (D := D) (ci := 8) (v := .int t_y0_38_170) (ty := .int) (C := RX8) (T := TX8) (N := 52) hx hb hts w_1 tyX8 tyX8_ok nmX8 hown hK hP hD hS 0 rfl rfl 38 (by decide) w_7 (fun _ h9 => h9) rfl (by decide +kernel) rfl rfl (Nat.le_of_ble_eq_true rfl) dX8_take_218 (fun H locs hP hD hS => ?_)
                          have hP : va_P D vwCl [((y 0), .inr (8, [.ref (y 1), .int (nI m_tapeSize), .int m_thrown, .ref (y 2), .int m_cycleMany, .int m_vote, .int m_low, .int m_high, .int m_wear, .int m_spare, .int m_places, .int m_cycleNext, .int m_fault, .int m_faultPlace, .int (nI m_givers), .ref (y 3), .ref (y 4), .int m_giverNext, .int (nI m_children), .ref (y 5), .ref (y 6), .ref (y 7), .ref (y 8), .ref (y 9), .int (nI m_coats), .ref (y 10), .ref (y 11), .ref (y 12), .ref (y 13), .int m_years, .int (nI m_legacies), .ref (y 14), .ref (y 15), .ref (y 16), .ref (y 17), .int m_end, .int i_170, .int 2, .int t_y0_38_170, .int i_0, .int m_read, .ref (y 18), .ref (y 19), .int m_readMany, .int m_readHigh, .ref (y 20), .int (nI m_insideMany), .ref (y 21), .ref (y 22), .ref (y 23), .ref (y 24), .ref (y 25)])), ((y 1), .inl (cI, 300, .inl m_tape)), ((y 17), .inl (cI, 43, .inl m_words))] H := hP
                          have hD : va_D A [((y 0), .inr (8, [.ref (y 1), .int (nI m_tapeSize), .int m_thrown, .ref (y 2), .int m_cycleMany, .int m_vote, .int m_low, .int m_high, .int m_wear, .int m_spare, .int m_places, .int m_cycleNext, .int m_fault, .int m_faultPlace, .int (nI m_givers), .ref (y 3), .ref (y 4), .int m_giverNext, .int (nI m_children), .ref (y 5), .ref (y 6), .ref (y 7), .ref (y 8), .ref (y 9), .int (nI m_coats), .ref (y 10), .ref (y 11), .ref (y 12), .ref (y 13), .int m_years, .int (nI m_legacies), .ref (y 14), .ref (y 15), .ref (y 16), .ref (y 17), .int m_end, .int i_170, .int 2, .int t_y0_38_170, .int i_0, .int m_read, .ref (y 18), .ref (y 19), .int m_readMany, .int m_readHigh, .ref (y 20), .int (nI m_insideMany), .ref (y 21), .ref (y 22), .ref (y 23), .ref (y 24), .ref (y 25)])), ((y 1), .inl (cI, 300, .inl m_tape)), ((y 17), .inl (cI, 43, .inl m_words))] := hD
                          refine lv_aload_n hx hb dX8_take_221 rfl (lv_at hl 0 rfl) ?_
                          refine lv_dup hx hb dX8_take_222 rfl ?_
                          refine va_get (D := D) (ci := 8) (v := .int i_170) (C := RX8) (T := TX8) (N := 52) hx hb hts w_1 hown hK hP 0 rfl rfl 36 (by decide) w_2 (fun _ h9 => h9) rfl dX8_take_223 ?_
                          refine lv_iconst (v := 1) hx hb dX8_take_226 (by decide) ?_
                          refine sv_iadd (v := i_170 + 1) hx hb dX8_take_227 rfl ?_
                          refine va_put (D := D) (ci := 8) (v := .int (i_170 + 1)) (ty := .int) (C := RX8) (T := TX8) (N := 52) hx hb hts w_1 tyX8 tyX8_ok nmX8 hown hK hP hD hS 0 rfl rfl 36 (by decide) w_2 (fun _ h9 => h9) rfl (by decide +kernel) rfl rfl (Nat.le_of_ble_eq_true rfl) dX8_take_228 (fun H locs hP hD hS => ?_)
                          have hP : va_P D vwCl [((y 0), .inr (8, [.ref (y 1), .int (nI m_tapeSize), .int m_thrown, .ref (y 2), .int m_cycleMany, .int m_vote, .int m_low, .int m_high, .int m_wear, .int m_spare, .int m_places, .int m_cycleNext, .int m_fault, .int m_faultPlace, .int (nI m_givers), .ref (y 3), .ref (y 4), .int m_giverNext, .int (nI m_children), .ref (y 5), .ref (y 6), .ref (y 7), .ref (y 8), .ref (y 9), .int (nI m_coats), .ref (y 10), .ref (y 11), .ref (y 12), .ref (y 13), .int m_years, .int (nI m_legacies), .ref (y 14), .ref (y 15), .ref (y 16), .ref (y 17), .int m_end, .int (i_170 + 1), .int 2, .int t_y0_38_170, .int i_0, .int m_read, .ref (y 18), .ref (y 19), .int m_readMany, .int m_readHigh, .ref (y 20), .int (nI m_insideMany), .ref (y 21), .ref (y 22), .ref (y 23), .ref (y 24), .ref (y 25)])), ((y 1), .inl (cI, 300, .inl m_tape)), ((y 17), .inl (cI, 43, .inl m_words))] H := hP
                          have hD : va_D A [((y 0), .inr (8, [.ref (y 1), .int (nI m_tapeSize), .int m_thrown, .ref (y 2), .int m_cycleMany, .int m_vote, .int m_low, .int m_high, .int m_wear, .int m_spare, .int m_places, .int m_cycleNext, .int m_fault, .int m_faultPlace, .int (nI m_givers), .ref (y 3), .ref (y 4), .int m_giverNext, .int (nI m_children), .ref (y 5), .ref (y 6), .ref (y 7), .ref (y 8), .ref (y 9), .int (nI m_coats), .ref (y 10), .ref (y 11), .ref (y 12), .ref (y 13), .int m_years, .int (nI m_legacies), .ref (y 14), .ref (y 15), .ref (y 16), .ref (y 17), .int m_end, .int (i_170 + 1), .int 2, .int t_y0_38_170, .int i_0, .int m_read, .ref (y 18), .ref (y 19), .int m_readMany, .int m_readHigh, .ref (y 20), .int (nI m_insideMany), .ref (y 21), .ref (y 22), .ref (y 23), .ref (y 24), .ref (y 25)])), ((y 1), .inl (cI, 300, .inl m_tape)), ((y 17), .inl (cI, 43, .inl m_words))] := hD
                          refine lv_goto (tgt := 170) hx hb dX8_take_231 (by decide) ?_
                          exact ih_L_19 (i_170 + 1) t_y0_38_170 _ _ ls (lp_dec hn_170 (sm_lt hw_r_20 c_178)) (tk_inc hi_170 (sm_lt hw_r_20 c_178)) hP hD hS (lv_sub hl [0] rfl)
                  exact L_19 _ i_0 0 _ _ ls (Nat.lt_succ_self _) ⟨Int.le_refl _, hi_0.2⟩ hP hD hS (lv_sub hl [0] rfl)
              ·
                have L_25 : ∀ (n : Nat) (i_90 : Int32)  (H : Heap) (locs : List Loc) (ls : Array Slot), (Int32.toInt m_end - i_90.toInt).toNat < n → (i_0.toInt ≤ i_90.toInt ∧ i_90.toInt ≤ m_end.toInt) → va_P D vwCl [((y 0), .inr (8, [.ref (y 1), .int (nI m_tapeSize), .int m_thrown, .ref (y 2), .int m_cycleMany, .int m_vote, .int m_low, .int m_high, .int m_wear, .int m_spare, .int m_places, .int m_cycleNext, .int m_fault, .int m_faultPlace, .int (nI m_givers), .ref (y 3), .ref (y 4), .int m_giverNext, .int (nI m_children), .ref (y 5), .ref (y 6), .ref (y 7), .ref (y 8), .ref (y 9), .int (nI m_coats), .ref (y 10), .ref (y 11), .ref (y 12), .ref (y 13), .int m_years, .int (nI m_legacies), .ref (y 14), .ref (y 15), .ref (y 16), .ref (y 17), .int m_end, .int i_90, .int m_kind, .int m_which, .int i_0, .int m_read, .ref (y 18), .ref (y 19), .int m_readMany, .int m_readHigh, .ref (y 20), .int (nI m_insideMany), .ref (y 21), .ref (y 22), .ref (y 23), .ref (y 24), .ref (y 25)])), ((y 1), .inl (cI, 300, .inl m_tape)), ((y 17), .inl (cI, 43, .inl m_words))] H → va_D A [((y 0), .inr (8, [.ref (y 1), .int (nI m_tapeSize), .int m_thrown, .ref (y 2), .int m_cycleMany, .int m_vote, .int m_low, .int m_high, .int m_wear, .int m_spare, .int m_places, .int m_cycleNext, .int m_fault, .int m_faultPlace, .int (nI m_givers), .ref (y 3), .ref (y 4), .int m_giverNext, .int (nI m_children), .ref (y 5), .ref (y 6), .ref (y 7), .ref (y 8), .ref (y 9), .int (nI m_coats), .ref (y 10), .ref (y 11), .ref (y 12), .ref (y 13), .int m_years, .int (nI m_legacies), .ref (y 14), .ref (y 15), .ref (y 16), .ref (y 17), .int m_end, .int i_90, .int m_kind, .int m_which, .int i_0, .int m_read, .ref (y 18), .ref (y 19), .int m_readMany, .int m_readHigh, .ref (y 20), .int (nI m_insideMany), .ref (y 21), .ref (y 22), .ref (y 23), .ref (y 24), .ref (y 25)])), ((y 1), .inl (cI, 300, .inl m_tape)), ((y 17), .inl (cI, 43, .inl m_words))] → va_S A s.heap H locs → lv_has ls 1 [(0, .ref (y 0))] → W p l e (headSpec wsX8_take ({ frames := 1, cells := 0, slots := 0, locals := 27 } : Room)).room s m ([.ref (y 0)] : List Value).toArray below meth c H locs 0 0 Q0 (F0 m 90 ls []) := by
                  intro n
                  induction n with
                  | zero => intro i_90 H locs ls hn_90 hi_90 hP hD hS hl; exact absurd hn_90 (Nat.not_lt_zero _)
                  | succ n ih_L_25 =>
                    intro i_90 H locs ls hn_90 hi_90 hP hD hS hl
                    refine lv_aload_n hx hb dX8_take_90 rfl (lv_at hl 0 rfl) ?_
                    refine lv_aload_n hx hb dX8_take_91 rfl (lv_at hl 0 rfl) ?_
                    refine va_get (D := D) (ci := 8) (v := .int i_90) (C := RX8) (T := TX8) (N := 52) hx hb hts w_1 hown hK hP 0 rfl rfl 36 (by decide) w_2 (fun _ h9 => h9) rfl dX8_take_92 ?_
                    refine vp_callSi (va_Run.run (va_runV (As := [.int i_90]) (rest := []) ⟨hx, hb, hml, hown, hts⟩ (n_X8_isSmall l D cB cI cJ cZ y m_tapeSize m_givers m_children m_coats m_legacies m_insideMany m_thrown m_cycleMany m_vote m_low m_high m_wear m_spare m_places m_cycleNext m_fault m_faultPlace m_giverNext m_years m_end i_90 m_kind m_which i_0 m_read m_readMany m_readHigh m_tape i_90 (Int.le_trans hn0 (Int.le_trans hi_0.1 hi_90.1)) he) (cwV 1 hts gX8_take_X8_isSmall rfl rfl rfl (by decide +kernel) ⟨Nat.le_of_ble_eq_true rfl, Nat.le_of_ble_eq_true rfl⟩) (pre_VR (hP.sub (ws' := [((y 0), .inr (8, [.ref (y 1), .int (nI m_tapeSize), .int m_thrown, .ref (y 2), .int m_cycleMany, .int m_vote, .int m_low, .int m_high, .int m_wear, .int m_spare, .int m_places, .int m_cycleNext, .int m_fault, .int m_faultPlace, .int (nI m_givers), .ref (y 3), .ref (y 4), .int m_giverNext, .int (nI m_children), .ref (y 5), .ref (y 6), .ref (y 7), .ref (y 8), .ref (y 9), .int (nI m_coats), .ref (y 10), .ref (y 11), .ref (y 12), .ref (y 13), .int m_years, .int (nI m_legacies), .ref (y 14), .ref (y 15), .ref (y 16), .ref (y 17), .int m_end, .int i_90, .int m_kind, .int m_which, .int i_0, .int m_read, .ref (y 18), .ref (y 19), .int m_readMany, .int m_readHigh, .ref (y 20), .int (nI m_insideMany), .ref (y 21), .ref (y 22), .ref (y 23), .ref (y 24), .ref (y 25)])), ((y 1), .inl (cI, 300, .inl m_tape))]) [0, 1] rfl) hK 0 rfl rfl rfl) rfl rfl hl.1 rfl (lv_room (Nat.le_of_ble_eq_true rfl)) dX8_take_95 ⟨Nat.le_of_ble_eq_true rfl, Nat.le_of_ble_eq_true rfl⟩)) (fun r_26 hw_r_26 => ?_)
                    refine lv_if_eq (tgt := 114) hx hb dX8_take_98 (by decide) (fun c_98 => ?_) (fun c_98 => ?_)
                    ·
                      refine lv_aload_n hx hb dX8_take_114 rfl (lv_at hl 0 rfl) ?_
                      refine lv_aload_n hx hb dX8_take_115 rfl (lv_at hl 0 rfl) ?_
                      refine lv_aload_n hx hb dX8_take_116 rfl (lv_at hl 0 rfl) ?_
                      refine va_get (D := D) (ci := 8) (v := .int i_0) (C := RX8) (T := TX8) (N := 52) hx hb hts w_1 hown hK hP 0 rfl rfl 39 (by decide) w_4 (fun _ h9 => h9) rfl dX8_take_117 ?_
                      refine lv_aload_n hx hb dX8_take_120 rfl (lv_at hl 0 rfl) ?_
                      refine va_get (D := D) (ci := 8) (v := .int i_90) (C := RX8) (T := TX8) (N := 52) hx hb hts w_1 hown hK hP 0 rfl rfl 36 (by decide) w_2 (fun _ h9 => h9) rfl dX8_take_121 ?_
                      refine vp_callSi (va_Run.run (va_runV (As := [.int i_0, .int i_90]) (rest := [.ref (y 0)]) ⟨hx, hb, hml, hown, hts⟩ (n_X8_wordAt l D cB cI cJ cZ y m_tapeSize m_givers m_children m_coats m_legacies m_insideMany m_thrown m_cycleMany m_vote m_low m_high m_wear m_spare m_places m_cycleNext m_fault m_faultPlace m_giverNext m_years m_end i_90 m_kind m_which i_0 m_read m_readMany m_readHigh m_tape m_words i_0 i_90 (Int.le_trans hn0 hi_0.1) hi_90.1 (Int.le_trans hi_90.2 he) hwf) (cwV 2 hts gX8_take_X8_wordAt rfl rfl rfl (by decide +kernel) ⟨Nat.le_of_ble_eq_true rfl, Nat.le_of_ble_eq_true rfl⟩) (pre_VR (hP.sub (ws' := [((y 0), .inr (8, [.ref (y 1), .int (nI m_tapeSize), .int m_thrown, .ref (y 2), .int m_cycleMany, .int m_vote, .int m_low, .int m_high, .int m_wear, .int m_spare, .int m_places, .int m_cycleNext, .int m_fault, .int m_faultPlace, .int (nI m_givers), .ref (y 3), .ref (y 4), .int m_giverNext, .int (nI m_children), .ref (y 5), .ref (y 6), .ref (y 7), .ref (y 8), .ref (y 9), .int (nI m_coats), .ref (y 10), .ref (y 11), .ref (y 12), .ref (y 13), .int m_years, .int (nI m_legacies), .ref (y 14), .ref (y 15), .ref (y 16), .ref (y 17), .int m_end, .int i_90, .int m_kind, .int m_which, .int i_0, .int m_read, .ref (y 18), .ref (y 19), .int m_readMany, .int m_readHigh, .ref (y 20), .int (nI m_insideMany), .ref (y 21), .ref (y 22), .ref (y 23), .ref (y 24), .ref (y 25)])), ((y 1), .inl (cI, 300, .inl m_tape)), ((y 17), .inl (cI, 43, .inl m_words))]) [0, 1, 2] rfl) hK 0 rfl rfl rfl) rfl rfl hl.1 rfl (lv_room (Nat.le_of_ble_eq_true rfl)) dX8_take_124 ⟨Nat.le_of_ble_eq_true rfl, Nat.le_of_ble_eq_true rfl⟩)) (fun r_27 hw_r_27 => ?_)
                      refine va_put (D := D) (ci := 8) (v := .int r_27) (ty := .int) (C := RX8) (T := TX8) (N := 52) hx hb hts w_1 tyX8 tyX8_ok nmX8 hown hK hP hD hS 0 rfl rfl 38 (by decide) w_7 (fun _ h9 => h9) rfl (by decide +kernel) rfl rfl (Nat.le_of_ble_eq_true rfl) dX8_take_127 (fun H locs hP hD hS => ?_)
                      have hP : va_P D vwCl [((y 0), .inr (8, [.ref (y 1), .int (nI m_tapeSize), .int m_thrown, .ref (y 2), .int m_cycleMany, .int m_vote, .int m_low, .int m_high, .int m_wear, .int m_spare, .int m_places, .int m_cycleNext, .int m_fault, .int m_faultPlace, .int (nI m_givers), .ref (y 3), .ref (y 4), .int m_giverNext, .int (nI m_children), .ref (y 5), .ref (y 6), .ref (y 7), .ref (y 8), .ref (y 9), .int (nI m_coats), .ref (y 10), .ref (y 11), .ref (y 12), .ref (y 13), .int m_years, .int (nI m_legacies), .ref (y 14), .ref (y 15), .ref (y 16), .ref (y 17), .int m_end, .int i_90, .int m_kind, .int r_27, .int i_0, .int m_read, .ref (y 18), .ref (y 19), .int m_readMany, .int m_readHigh, .ref (y 20), .int (nI m_insideMany), .ref (y 21), .ref (y 22), .ref (y 23), .ref (y 24), .ref (y 25)])), ((y 1), .inl (cI, 300, .inl m_tape)), ((y 17), .inl (cI, 43, .inl m_words))] H := hP
                      have hD : va_D A [((y 0), .inr (8, [.ref (y 1), .int (nI m_tapeSize), .int m_thrown, .ref (y 2), .int m_cycleMany, .int m_vote, .int m_low, .int m_high, .int m_wear, .int m_spare, .int m_places, .int m_cycleNext, .int m_fault, .int m_faultPlace, .int (nI m_givers), .ref (y 3), .ref (y 4), .int m_giverNext, .int (nI m_children), .ref (y 5), .ref (y 6), .ref (y 7), .ref (y 8), .ref (y 9), .int (nI m_coats), .ref (y 10), .ref (y 11), .ref (y 12), .ref (y 13), .int m_years, .int (nI m_legacies), .ref (y 14), .ref (y 15), .ref (y 16), .ref (y 17), .int m_end, .int i_90, .int m_kind, .int r_27, .int i_0, .int m_read, .ref (y 18), .ref (y 19), .int m_readMany, .int m_readHigh, .ref (y 20), .int (nI m_insideMany), .ref (y 21), .ref (y 22), .ref (y 23), .ref (y 24), .ref (y 25)])), ((y 1), .inl (cI, 300, .inl m_tape)), ((y 17), .inl (cI, 43, .inl m_words))] := hD
                      refine lv_aload_n hx hb dX8_take_130 rfl (lv_at hl 0 rfl) ?_
                      refine lv_aload_n hx hb dX8_take_131 rfl (lv_at hl 0 rfl) ?_
                      refine va_get (D := D) (ci := 8) (v := .int r_27) (C := RX8) (T := TX8) (N := 52) hx hb hts w_1 hown hK hP 0 rfl rfl 38 (by decide) w_7 (fun _ h9 => h9) rfl dX8_take_132 ?_
                      refine lv_if_ge (tgt := 142) hx hb dX8_take_135 (by decide) (fun c_135 => ?_) (fun c_135 => ?_)
                      ·
                        refine lv_iconst (v := 1) hx hb dX8_take_142 (by decide) ?_
                        refine va_put (D := D) (ci := 8) (v := .int 1) (ty := .int) (C := RX8) (T := TX8) (N := 52) hx hb hts w_1 tyX8 tyX8_ok nmX8 hown hK hP hD hS 0 rfl rfl 37 (by decide) w_6 (fun _ h9 => h9) rfl (by decide +kernel) rfl rfl (Nat.le_of_ble_eq_true rfl) dX8_take_143 (fun H locs hP hD hS => ?_)
                        have hP : va_P D vwCl [((y 0), .inr (8, [.ref (y 1), .int (nI m_tapeSize), .int m_thrown, .ref (y 2), .int m_cycleMany, .int m_vote, .int m_low, .int m_high, .int m_wear, .int m_spare, .int m_places, .int m_cycleNext, .int m_fault, .int m_faultPlace, .int (nI m_givers), .ref (y 3), .ref (y 4), .int m_giverNext, .int (nI m_children), .ref (y 5), .ref (y 6), .ref (y 7), .ref (y 8), .ref (y 9), .int (nI m_coats), .ref (y 10), .ref (y 11), .ref (y 12), .ref (y 13), .int m_years, .int (nI m_legacies), .ref (y 14), .ref (y 15), .ref (y 16), .ref (y 17), .int m_end, .int i_90, .int 1, .int r_27, .int i_0, .int m_read, .ref (y 18), .ref (y 19), .int m_readMany, .int m_readHigh, .ref (y 20), .int (nI m_insideMany), .ref (y 21), .ref (y 22), .ref (y 23), .ref (y 24), .ref (y 25)])), ((y 1), .inl (cI, 300, .inl m_tape)), ((y 17), .inl (cI, 43, .inl m_words))] H := hP
                        have hD : va_D A [((y 0), .inr (8, [.ref (y 1), .int (nI m_tapeSize), .int m_thrown, .ref (y 2), .int m_cycleMany, .int m_vote, .int m_low, .int m_high, .int m_wear, .int m_spare, .int m_places, .int m_cycleNext, .int m_fault, .int m_faultPlace, .int (nI m_givers), .ref (y 3), .ref (y 4), .int m_giverNext, .int (nI m_children), .ref (y 5), .ref (y 6), .ref (y 7), .ref (y 8), .ref (y 9), .int (nI m_coats), .ref (y 10), .ref (y 11), .ref (y 12), .ref (y 13), .int m_years, .int (nI m_legacies), .ref (y 14), .ref (y 15), .ref (y 16), .ref (y 17), .int m_end, .int i_90, .int 1, .int r_27, .int i_0, .int m_read, .ref (y 18), .ref (y 19), .int m_readMany, .int m_readHigh, .ref (y 20), .int (nI m_insideMany), .ref (y 21), .ref (y 22), .ref (y 23), .ref (y 24), .ref (y 25)])), ((y 1), .inl (cI, 300, .inl m_tape)), ((y 17), .inl (cI, 43, .inl m_words))] := hD
                        refine lv_goto (tgt := 267) hx hb dX8_take_146 (by decide) ?_
                        rw [← hQ]
                        have hP9 := hP.sub (ws' := [((y 0), .inr (8, [.ref (y 1), .int (nI m_tapeSize), .int m_thrown, .ref (y 2), .int m_cycleMany, .int m_vote, .int m_low, .int m_high, .int m_wear, .int m_spare, .int m_places, .int m_cycleNext, .int m_fault, .int m_faultPlace, .int (nI m_givers), .ref (y 3), .ref (y 4), .int m_giverNext, .int (nI m_children), .ref (y 5), .ref (y 6), .ref (y 7), .ref (y 8), .ref (y 9), .int (nI m_coats), .ref (y 10), .ref (y 11), .ref (y 12), .ref (y 13), .int m_years, .int (nI m_legacies), .ref (y 14), .ref (y 15), .ref (y 16), .ref (y 17), .int m_end, .int i_90, .int 1, .int r_27, .int i_0, .int m_read, .ref (y 18), .ref (y 19), .int m_readMany, .int m_readHigh, .ref (y 20), .int (nI m_insideMany), .ref (y 21), .ref (y 22), .ref (y 23), .ref (y 24), .ref (y 25)])), ((y 1), .inl (cI, 300, .inl m_tape)), ((y 17), .inl (cI, 43, .inl m_words))]) [0, 1, 2] rfl
                        have hD9 := hD.sub (ws' := [((y 0), .inr (8, [.ref (y 1), .int (nI m_tapeSize), .int m_thrown, .ref (y 2), .int m_cycleMany, .int m_vote, .int m_low, .int m_high, .int m_wear, .int m_spare, .int m_places, .int m_cycleNext, .int m_fault, .int m_faultPlace, .int (nI m_givers), .ref (y 3), .ref (y 4), .int m_giverNext, .int (nI m_children), .ref (y 5), .ref (y 6), .ref (y 7), .ref (y 8), .ref (y 9), .int (nI m_coats), .ref (y 10), .ref (y 11), .ref (y 12), .ref (y 13), .int m_years, .int (nI m_legacies), .ref (y 14), .ref (y 15), .ref (y 16), .ref (y 17), .int m_end, .int i_90, .int 1, .int r_27, .int i_0, .int m_read, .ref (y 18), .ref (y 19), .int m_readMany, .int m_readHigh, .ref (y 20), .int (nI m_insideMany), .ref (y 21), .ref (y 22), .ref (y 23), .ref (y 24), .ref (y 25)])), ((y 1), .inl (cI, 300, .inl m_tape)), ((y 17), .inl (cI, 43, .inl m_words))]) [0, 1, 2] (by decide) rfl
                        exact W.vret hx hb hr (fun t ht hW => ⟨⟨((i_90 : Int32), (i_0 : Int32), (r_27 : Int32), (1 : Int32)), rfl, ⟨Int.le_trans hi_0.1 hi_90.1, hi_90.2, Or.inr (Int.lt_of_le_of_lt hi_0.1 (tk_gone (sm_yes hw_r_16 c_87) (sm_no hw_r_26 c_98) hi_90)), fun _ => ge_ne hw_r_27 c_135⟩, by rw [ht]; exact hP9, va_K.moved hW.alike hK, hD9⟩, hS.F ht⟩) hS.2.2 dX8_take_267
                      ·
                        refine lv_iconst (v := 4) hx hb dX8_take_138 (by decide) ?_
                        refine lv_goto (tgt := 143) hx hb dX8_take_139 (by decide) ?_
                        refine va_put (D := D) (ci := 8) (v := .int 4) (ty := .int) (C := RX8) (T := TX8) (N := 52) hx hb hts w_1 tyX8 tyX8_ok nmX8 hown hK hP hD hS 0 rfl rfl 37 (by decide) w_6 (fun _ h9 => h9) rfl (by decide +kernel) rfl rfl (Nat.le_of_ble_eq_true rfl) dX8_take_143 (fun H locs hP hD hS => ?_)
                        have hP : va_P D vwCl [((y 0), .inr (8, [.ref (y 1), .int (nI m_tapeSize), .int m_thrown, .ref (y 2), .int m_cycleMany, .int m_vote, .int m_low, .int m_high, .int m_wear, .int m_spare, .int m_places, .int m_cycleNext, .int m_fault, .int m_faultPlace, .int (nI m_givers), .ref (y 3), .ref (y 4), .int m_giverNext, .int (nI m_children), .ref (y 5), .ref (y 6), .ref (y 7), .ref (y 8), .ref (y 9), .int (nI m_coats), .ref (y 10), .ref (y 11), .ref (y 12), .ref (y 13), .int m_years, .int (nI m_legacies), .ref (y 14), .ref (y 15), .ref (y 16), .ref (y 17), .int m_end, .int i_90, .int 4, .int r_27, .int i_0, .int m_read, .ref (y 18), .ref (y 19), .int m_readMany, .int m_readHigh, .ref (y 20), .int (nI m_insideMany), .ref (y 21), .ref (y 22), .ref (y 23), .ref (y 24), .ref (y 25)])), ((y 1), .inl (cI, 300, .inl m_tape)), ((y 17), .inl (cI, 43, .inl m_words))] H := hP
                        have hD : va_D A [((y 0), .inr (8, [.ref (y 1), .int (nI m_tapeSize), .int m_thrown, .ref (y 2), .int m_cycleMany, .int m_vote, .int m_low, .int m_high, .int m_wear, .int m_spare, .int m_places, .int m_cycleNext, .int m_fault, .int m_faultPlace, .int (nI m_givers), .ref (y 3), .ref (y 4), .int m_giverNext, .int (nI m_children), .ref (y 5), .ref (y 6), .ref (y 7), .ref (y 8), .ref (y 9), .int (nI m_coats), .ref (y 10), .ref (y 11), .ref (y 12), .ref (y 13), .int m_years, .int (nI m_legacies), .ref (y 14), .ref (y 15), .ref (y 16), .ref (y 17), .int m_end, .int i_90, .int 4, .int r_27, .int i_0, .int m_read, .ref (y 18), .ref (y 19), .int m_readMany, .int m_readHigh, .ref (y 20), .int (nI m_insideMany), .ref (y 21), .ref (y 22), .ref (y 23), .ref (y 24), .ref (y 25)])), ((y 1), .inl (cI, 300, .inl m_tape)), ((y 17), .inl (cI, 43, .inl m_words))] := hD
                        refine lv_goto (tgt := 267) hx hb dX8_take_146 (by decide) ?_
                        rw [← hQ]
                        have hP9 := hP.sub (ws' := [((y 0), .inr (8, [.ref (y 1), .int (nI m_tapeSize), .int m_thrown, .ref (y 2), .int m_cycleMany, .int m_vote, .int m_low, .int m_high, .int m_wear, .int m_spare, .int m_places, .int m_cycleNext, .int m_fault, .int m_faultPlace, .int (nI m_givers), .ref (y 3), .ref (y 4), .int m_giverNext, .int (nI m_children), .ref (y 5), .ref (y 6), .ref (y 7), .ref (y 8), .ref (y 9), .int (nI m_coats), .ref (y 10), .ref (y 11), .ref (y 12), .ref (y 13), .int m_years, .int (nI m_legacies), .ref (y 14), .ref (y 15), .ref (y 16), .ref (y 17), .int m_end, .int i_90, .int 4, .int r_27, .int i_0, .int m_read, .ref (y 18), .ref (y 19), .int m_readMany, .int m_readHigh, .ref (y 20), .int (nI m_insideMany), .ref (y 21), .ref (y 22), .ref (y 23), .ref (y 24), .ref (y 25)])), ((y 1), .inl (cI, 300, .inl m_tape)), ((y 17), .inl (cI, 43, .inl m_words))]) [0, 1, 2] rfl
                        have hD9 := hD.sub (ws' := [((y 0), .inr (8, [.ref (y 1), .int (nI m_tapeSize), .int m_thrown, .ref (y 2), .int m_cycleMany, .int m_vote, .int m_low, .int m_high, .int m_wear, .int m_spare, .int m_places, .int m_cycleNext, .int m_fault, .int m_faultPlace, .int (nI m_givers), .ref (y 3), .ref (y 4), .int m_giverNext, .int (nI m_children), .ref (y 5), .ref (y 6), .ref (y 7), .ref (y 8), .ref (y 9), .int (nI m_coats), .ref (y 10), .ref (y 11), .ref (y 12), .ref (y 13), .int m_years, .int (nI m_legacies), .ref (y 14), .ref (y 15), .ref (y 16), .ref (y 17), .int m_end, .int i_90, .int 4, .int r_27, .int i_0, .int m_read, .ref (y 18), .ref (y 19), .int m_readMany, .int m_readHigh, .ref (y 20), .int (nI m_insideMany), .ref (y 21), .ref (y 22), .ref (y 23), .ref (y 24), .ref (y 25)])), ((y 1), .inl (cI, 300, .inl m_tape)), ((y 17), .inl (cI, 43, .inl m_words))]) [0, 1, 2] (by decide) rfl
                        exact W.vret hx hb hr (fun t ht hW => ⟨⟨((i_90 : Int32), (i_0 : Int32), (r_27 : Int32), (4 : Int32)), rfl, ⟨Int.le_trans hi_0.1 hi_90.1, hi_90.2, Or.inr (Int.lt_of_le_of_lt hi_0.1 (tk_gone (sm_yes hw_r_16 c_87) (sm_no hw_r_26 c_98) hi_90)), fun h => absurd h (by decide)⟩, by rw [ht]; exact hP9, va_K.moved hW.alike hK, hD9⟩, hS.F ht⟩) hS.2.2 dX8_take_267
                    ·
                      refine lv_aload_n hx hb dX8_take_101 rfl (lv_at hl 0 rfl) ?_
                      refine lv_dup hx hb dX8_take_102 rfl ?_
                      refine va_get (D := D) (ci := 8) (v := .int i_90) (C := RX8) (T := TX8) (N := 52) hx hb hts w_1 hown hK hP 0 rfl rfl 36 (by decide) w_2 (fun _ h9 => h9) rfl dX8_take_103 ?_
                      refine lv_iconst (v := 1) hx hb dX8_take_106 (by decide) ?_
                      refine sv_iadd (v := i_90 + 1) hx hb dX8_take_107 rfl ?_
                      refine va_put (D := D) (ci := 8) (v := .int (i_90 + 1)) (ty := .int) (C := RX8) (T := TX8) (N := 52) hx hb hts w_1 tyX8 tyX8_ok nmX8 hown hK hP hD hS 0 rfl rfl 36 (by decide) w_2 (fun _ h9 => h9) rfl (by decide +kernel) rfl rfl (Nat.le_of_ble_eq_true rfl) dX8_take_108 (fun H locs hP hD hS => ?_)
                      have hP : va_P D vwCl [((y 0), .inr (8, [.ref (y 1), .int (nI m_tapeSize), .int m_thrown, .ref (y 2), .int m_cycleMany, .int m_vote, .int m_low, .int m_high, .int m_wear, .int m_spare, .int m_places, .int m_cycleNext, .int m_fault, .int m_faultPlace, .int (nI m_givers), .ref (y 3), .ref (y 4), .int m_giverNext, .int (nI m_children), .ref (y 5), .ref (y 6), .ref (y 7), .ref (y 8), .ref (y 9), .int (nI m_coats), .ref (y 10), .ref (y 11), .ref (y 12), .ref (y 13), .int m_years, .int (nI m_legacies), .ref (y 14), .ref (y 15), .ref (y 16), .ref (y 17), .int m_end, .int (i_90 + 1), .int m_kind, .int m_which, .int i_0, .int m_read, .ref (y 18), .ref (y 19), .int m_readMany, .int m_readHigh, .ref (y 20), .int (nI m_insideMany), .ref (y 21), .ref (y 22), .ref (y 23), .ref (y 24), .ref (y 25)])), ((y 1), .inl (cI, 300, .inl m_tape)), ((y 17), .inl (cI, 43, .inl m_words))] H := hP
                      have hD : va_D A [((y 0), .inr (8, [.ref (y 1), .int (nI m_tapeSize), .int m_thrown, .ref (y 2), .int m_cycleMany, .int m_vote, .int m_low, .int m_high, .int m_wear, .int m_spare, .int m_places, .int m_cycleNext, .int m_fault, .int m_faultPlace, .int (nI m_givers), .ref (y 3), .ref (y 4), .int m_giverNext, .int (nI m_children), .ref (y 5), .ref (y 6), .ref (y 7), .ref (y 8), .ref (y 9), .int (nI m_coats), .ref (y 10), .ref (y 11), .ref (y 12), .ref (y 13), .int m_years, .int (nI m_legacies), .ref (y 14), .ref (y 15), .ref (y 16), .ref (y 17), .int m_end, .int (i_90 + 1), .int m_kind, .int m_which, .int i_0, .int m_read, .ref (y 18), .ref (y 19), .int m_readMany, .int m_readHigh, .ref (y 20), .int (nI m_insideMany), .ref (y 21), .ref (y 22), .ref (y 23), .ref (y 24), .ref (y 25)])), ((y 1), .inl (cI, 300, .inl m_tape)), ((y 17), .inl (cI, 43, .inl m_words))] := hD
                      refine lv_goto (tgt := 90) hx hb dX8_take_111 (by decide) ?_
                      exact ih_L_25 (i_90 + 1) _ _ ls (lp_dec hn_90 (sm_lt hw_r_26 c_98)) (tk_inc hi_90 (sm_lt hw_r_26 c_98)) hP hD hS (lv_sub hl [0] rfl)
                exact L_25 _ i_0 _ _ ls (Nat.lt_succ_self _) ⟨Int.le_refl _, hi_0.2⟩ hP hD hS (lv_sub hl [0] rfl)
            ·
              refine lv_aload_n hx hb dX8_take_71 rfl (lv_at hl 0 rfl) ?_
              refine lv_iconst (v := 0) hx hb dX8_take_72 (by decide) ?_
              refine va_put (D := D) (ci := 8) (v := .int 0) (ty := .int) (C := RX8) (T := TX8) (N := 52) hx hb hts w_1 tyX8 tyX8_ok nmX8 hown hK hP hD hS 0 rfl rfl 37 (by decide) w_6 (fun _ h9 => h9) rfl (by decide +kernel) rfl rfl (Nat.le_of_ble_eq_true rfl) dX8_take_73 (fun H locs hP hD hS => ?_)
              have hP : va_P D vwCl [((y 0), .inr (8, [.ref (y 1), .int (nI m_tapeSize), .int m_thrown, .ref (y 2), .int m_cycleMany, .int m_vote, .int m_low, .int m_high, .int m_wear, .int m_spare, .int m_places, .int m_cycleNext, .int m_fault, .int m_faultPlace, .int (nI m_givers), .ref (y 3), .ref (y 4), .int m_giverNext, .int (nI m_children), .ref (y 5), .ref (y 6), .ref (y 7), .ref (y 8), .ref (y 9), .int (nI m_coats), .ref (y 10), .ref (y 11), .ref (y 12), .ref (y 13), .int m_years, .int (nI m_legacies), .ref (y 14), .ref (y 15), .ref (y 16), .ref (y 17), .int m_end, .int i_0, .int 0, .int m_which, .int i_0, .int m_read, .ref (y 18), .ref (y 19), .int m_readMany, .int m_readHigh, .ref (y 20), .int (nI m_insideMany), .ref (y 21), .ref (y 22), .ref (y 23), .ref (y 24), .ref (y 25)])), ((y 1), .inl (cI, 300, .inl m_tape)), ((y 17), .inl (cI, 43, .inl m_words))] H := hP
              have hD : va_D A [((y 0), .inr (8, [.ref (y 1), .int (nI m_tapeSize), .int m_thrown, .ref (y 2), .int m_cycleMany, .int m_vote, .int m_low, .int m_high, .int m_wear, .int m_spare, .int m_places, .int m_cycleNext, .int m_fault, .int m_faultPlace, .int (nI m_givers), .ref (y 3), .ref (y 4), .int m_giverNext, .int (nI m_children), .ref (y 5), .ref (y 6), .ref (y 7), .ref (y 8), .ref (y 9), .int (nI m_coats), .ref (y 10), .ref (y 11), .ref (y 12), .ref (y 13), .int m_years, .int (nI m_legacies), .ref (y 14), .ref (y 15), .ref (y 16), .ref (y 17), .int m_end, .int i_0, .int 0, .int m_which, .int i_0, .int m_read, .ref (y 18), .ref (y 19), .int m_readMany, .int m_readHigh, .ref (y 20), .int (nI m_insideMany), .ref (y 21), .ref (y 22), .ref (y 23), .ref (y 24), .ref (y 25)])), ((y 1), .inl (cI, 300, .inl m_tape)), ((y 17), .inl (cI, 43, .inl m_words))] := hD
              refine lv_goto (tgt := 267) hx hb dX8_take_76 (by decide) ?_
              rw [← hQ]
              have hP9 := hP.sub (ws' := [((y 0), .inr (8, [.ref (y 1), .int (nI m_tapeSize), .int m_thrown, .ref (y 2), .int m_cycleMany, .int m_vote, .int m_low, .int m_high, .int m_wear, .int m_spare, .int m_places, .int m_cycleNext, .int m_fault, .int m_faultPlace, .int (nI m_givers), .ref (y 3), .ref (y 4), .int m_giverNext, .int (nI m_children), .ref (y 5), .ref (y 6), .ref (y 7), .ref (y 8), .ref (y 9), .int (nI m_coats), .ref (y 10), .ref (y 11), .ref (y 12), .ref (y 13), .int m_years, .int (nI m_legacies), .ref (y 14), .ref (y 15), .ref (y 16), .ref (y 17), .int m_end, .int i_0, .int 0, .int m_which, .int i_0, .int m_read, .ref (y 18), .ref (y 19), .int m_readMany, .int m_readHigh, .ref (y 20), .int (nI m_insideMany), .ref (y 21), .ref (y 22), .ref (y 23), .ref (y 24), .ref (y 25)])), ((y 1), .inl (cI, 300, .inl m_tape)), ((y 17), .inl (cI, 43, .inl m_words))]) [0, 1, 2] rfl
              have hD9 := hD.sub (ws' := [((y 0), .inr (8, [.ref (y 1), .int (nI m_tapeSize), .int m_thrown, .ref (y 2), .int m_cycleMany, .int m_vote, .int m_low, .int m_high, .int m_wear, .int m_spare, .int m_places, .int m_cycleNext, .int m_fault, .int m_faultPlace, .int (nI m_givers), .ref (y 3), .ref (y 4), .int m_giverNext, .int (nI m_children), .ref (y 5), .ref (y 6), .ref (y 7), .ref (y 8), .ref (y 9), .int (nI m_coats), .ref (y 10), .ref (y 11), .ref (y 12), .ref (y 13), .int m_years, .int (nI m_legacies), .ref (y 14), .ref (y 15), .ref (y 16), .ref (y 17), .int m_end, .int i_0, .int 0, .int m_which, .int i_0, .int m_read, .ref (y 18), .ref (y 19), .int m_readMany, .int m_readHigh, .ref (y 20), .int (nI m_insideMany), .ref (y 21), .ref (y 22), .ref (y 23), .ref (y 24), .ref (y 25)])), ((y 1), .inl (cI, 300, .inl m_tape)), ((y 17), .inl (cI, 43, .inl m_words))]) [0, 1, 2] (by decide) rfl
              exact W.vret hx hb hr (fun t ht hW => ⟨⟨((i_0 : Int32), (i_0 : Int32), (m_which : Int32), (0 : Int32)), rfl, ⟨hi_0.1, hi_0.2, Or.inl rfl, fun h => absurd h (by decide)⟩, by rw [ht]; exact hP9, va_K.moved hW.alike hK, hD9⟩, hS.F ht⟩) hS.2.2 dX8_take_267
          ·
            refine lv_aload_n hx hb dX8_take_39 rfl (lv_at hl 0 rfl) ?_
            refine lv_dup hx hb dX8_take_40 rfl ?_
            refine va_get (D := D) (ci := 8) (v := .int i_0) (C := RX8) (T := TX8) (N := 52) hx hb hts w_1 hown hK hP 0 rfl rfl 36 (by decide) w_2 (fun _ h9 => h9) rfl dX8_take_41 ?_
            refine lv_iconst (v := 1) hx hb dX8_take_44 (by decide) ?_
            refine sv_iadd (v := i_0 + 1) hx hb dX8_take_45 rfl ?_
            refine va_put (D := D) (ci := 8) (v := .int (i_0 + 1)) (ty := .int) (C := RX8) (T := TX8) (N := 52) hx hb hts w_1 tyX8 tyX8_ok nmX8 hown hK hP hD hS 0 rfl rfl 36 (by decide) w_2 (fun _ h9 => h9) rfl (by decide +kernel) rfl rfl (Nat.le_of_ble_eq_true rfl) dX8_take_46 (fun H locs hP hD hS => ?_)
            have hP : va_P D vwCl [((y 0), .inr (8, [.ref (y 1), .int (nI m_tapeSize), .int m_thrown, .ref (y 2), .int m_cycleMany, .int m_vote, .int m_low, .int m_high, .int m_wear, .int m_spare, .int m_places, .int m_cycleNext, .int m_fault, .int m_faultPlace, .int (nI m_givers), .ref (y 3), .ref (y 4), .int m_giverNext, .int (nI m_children), .ref (y 5), .ref (y 6), .ref (y 7), .ref (y 8), .ref (y 9), .int (nI m_coats), .ref (y 10), .ref (y 11), .ref (y 12), .ref (y 13), .int m_years, .int (nI m_legacies), .ref (y 14), .ref (y 15), .ref (y 16), .ref (y 17), .int m_end, .int (i_0 + 1), .int m_kind, .int m_which, .int m_place, .int m_read, .ref (y 18), .ref (y 19), .int m_readMany, .int m_readHigh, .ref (y 20), .int (nI m_insideMany), .ref (y 21), .ref (y 22), .ref (y 23), .ref (y 24), .ref (y 25)])), ((y 1), .inl (cI, 300, .inl m_tape)), ((y 17), .inl (cI, 43, .inl m_words))] H := hP
            have hD : va_D A [((y 0), .inr (8, [.ref (y 1), .int (nI m_tapeSize), .int m_thrown, .ref (y 2), .int m_cycleMany, .int m_vote, .int m_low, .int m_high, .int m_wear, .int m_spare, .int m_places, .int m_cycleNext, .int m_fault, .int m_faultPlace, .int (nI m_givers), .ref (y 3), .ref (y 4), .int m_giverNext, .int (nI m_children), .ref (y 5), .ref (y 6), .ref (y 7), .ref (y 8), .ref (y 9), .int (nI m_coats), .ref (y 10), .ref (y 11), .ref (y 12), .ref (y 13), .int m_years, .int (nI m_legacies), .ref (y 14), .ref (y 15), .ref (y 16), .ref (y 17), .int m_end, .int (i_0 + 1), .int m_kind, .int m_which, .int m_place, .int m_read, .ref (y 18), .ref (y 19), .int m_readMany, .int m_readHigh, .ref (y 20), .int (nI m_insideMany), .ref (y 21), .ref (y 22), .ref (y 23), .ref (y 24), .ref (y 25)])), ((y 1), .inl (cI, 300, .inl m_tape)), ((y 17), .inl (cI, 43, .inl m_words))] := hD
            refine lv_goto (tgt := 0) hx hb dX8_take_49 (by decide) ?_
            exact ih_L_1 (i_0 + 1) _ _ ls (lp_dec hn_0 c_8) (tk_inc hi_0 c_8) hP hD hS (lv_sub hl [0] rfl)
  exact L_1 _ m_next _ _ ls (Nat.lt_succ_self _) ⟨Int.le_refl _, hne⟩ hP hD hS (lv_sub hl [0] rfl)

