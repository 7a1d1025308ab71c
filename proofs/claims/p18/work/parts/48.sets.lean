/-! The reference's row of sets. -/
theorem lt3 {i B : Nat} (hB : B < 2147483648) (hle : i ≤ B) (c : ¬ nI B ≤ nI i) : i < B := Nat.not_le.mp (fun q => c (nI_le q (by omega)))
theorem ge3 {i B : Nat} (hB : B < 2147483648) (hle : i ≤ B) (c : nI B ≤ nI i) : B ≤ i := (nI_leI hB (by omega)).mp c
theorem gt3 {i B : Nat} (hB : B < 2147483648) (hi : i < 2147483648) (c : ¬ nI B < nI i) : i ≤ B := Nat.not_lt.mp (fun q => c (nI_lt q hi))
theorem gt3' {i B : Nat} (hB : B < 2147483648) (hi : i < 2147483648) (c : nI B < nI i) : B < i := (nI_ltI hB hi).mp c
theorem pos3 {s : Nat} (c : ¬ nI s ≤ 0) : 0 < s := Nat.pos_of_ne_zero (fun q => c (by rw [q]; decide))
theorem zero3 {s : Nat} (hs : s < 2147483648) (c : nI s ≤ 0) : s = 0 := by
  have := (nI_leI (b := 0) hs (by decide)).mp c
  omega
theorem canI_eq {f : Nat → Int32} {n am i c : Nat} {av : Nat → Prop} {su : Nat → Nat → Prop} (h : canI f n am (mM av su i)) (e : i = c) : canI f n am (mM av su c) := by rw [← e]; exact h

set_option maxHeartbeats 4000000 in
set_option maxRecDepth 100000 in
theorem f_X8_suits (l : Launch) (D : va_G) (cB cI cJ cZ : ClassId) (y : Nat → Nat) (m_tapeSize m_givers m_children m_coats m_legacies m_insideMany : Nat) (m_thrown m_cycleMany m_vote m_low m_high m_wear m_spare m_places m_cycleNext m_fault m_faultPlace m_giverNext m_years m_end m_next m_kind m_which m_place m_read m_readMany m_readHigh : Int32) (m_coatSize m_size : Nat → Int32) (q q2 : Int32) (hq : vp_in q 40) (hq2 : vp_in q2 16) : Met l yX8_suits wsX8_suits ({ frames := 0, cells := 0, slots := 0, locals := 0 } : Room) (cRd D (aTy cB cI cJ cZ) [((y 0), .inr (8, [.ref (y 1), .int (nI m_tapeSize), .int m_thrown, .ref (y 2), .int m_cycleMany, .int m_vote, .int m_low, .int m_high, .int m_wear, .int m_spare, .int m_places, .int m_cycleNext, .int m_fault, .int m_faultPlace, .int (nI m_givers), .ref (y 3), .ref (y 4), .int m_giverNext, .int (nI m_children), .ref (y 5), .ref (y 6), .ref (y 7), .ref (y 8), .ref (y 9), .int (nI m_coats), .ref (y 10), .ref (y 11), .ref (y 12), .ref (y 13), .int m_years, .int (nI m_legacies), .ref (y 14), .ref (y 15), .ref (y 16), .ref (y 17), .int m_end, .int m_next, .int m_kind, .int m_which, .int m_place, .int m_read, .ref (y 18), .ref (y 19), .int m_readMany, .int m_readHigh, .ref (y 20), .int (nI m_insideMany), .ref (y 21), .ref (y 22), .ref (y 23), .ref (y 24), .ref (y 25)])), ((y 10), .inl (cI, 40, .inl m_coatSize)), ((y 7), .inl (cI, 16, .inl m_size))] [.ref (y 0), .int q, .int q2]) (vp_Si (fun r : Int32 => isB r (suQ m_coatSize m_size m_spare q q2))) 0 0 (fun _ => False) := by
  refine Met.ofW (cc := cX8_suits) (maxL := 3) (ret := (some .boolean)) (by decide) rfl ?_
  intro p e s m args below meth c s₁ B hml hv
  obtain ⟨rfl, hP, hK⟩ := hv
  have hx := B.exec
  have hb := B.bytes
  have hr := B.returns
  have hts := atoms_spec (ws := wsX8_suits) B.pre
  have hown : s.vm.findClass RX8 = some m.cls := findClass_of_methodNamed B.named
  have hlocks := B.notSynchronized
  have hP : va_P D vwCl [((y 0), .inr (8, [.ref (y 1), .int (nI m_tapeSize), .int m_thrown, .ref (y 2), .int m_cycleMany, .int m_vote, .int m_low, .int m_high, .int m_wear, .int m_spare, .int m_places, .int m_cycleNext, .int m_fault, .int m_faultPlace, .int (nI m_givers), .ref (y 3), .ref (y 4), .int m_giverNext, .int (nI m_children), .ref (y 5), .ref (y 6), .ref (y 7), .ref (y 8), .ref (y 9), .int (nI m_coats), .ref (y 10), .ref (y 11), .ref (y 12), .ref (y 13), .int m_years, .int (nI m_legacies), .ref (y 14), .ref (y 15), .ref (y 16), .ref (y 17), .int m_end, .int m_next, .int m_kind, .int m_which, .int m_place, .int m_read, .ref (y 18), .ref (y 19), .int m_readMany, .int m_readHigh, .ref (y 20), .int (nI m_insideMany), .ref (y 21), .ref (y 22), .ref (y 23), .ref (y 24), .ref (y 25)])), ((y 10), .inl (cI, 40, .inl m_coatSize)), ((y 7), .inl (cI, 16, .inl m_size))] s.heap := hP
  have w_1 : ∀ w ∈ wsX80, w ∈ wsX8_suits := by decide +kernel
  have w_2 := hts (Cond.fieldLink RX8 62 "BlueCoatsModel" "coatSize" "[I") (by decide +kernel)
  have w_3 := hts (Cond.fieldLink RX8 53 "BlueCoatsModel" "size" "[I") (by decide +kernel)
  have w_4 := hts (Cond.fieldLink RX8 32 "BlueCoatsModel" "spare" "I") (by decide +kernel)
  have hl := lv_entry ([.ref (y 0), .int q, .int q2]) (n := 3) (Nat.le_of_ble_eq_true rfl)
  rw [lg_entry_eq]
  generalize (lg_sl ([.ref (y 0), .int q, .int q2]) ++ List.replicate (3 - (lg_sl ([.ref (y 0), .int q, .int q2])).length) Slot.unset).toArray = ls at hl ⊢
  have hl : lv_has ls 3 [(0, .ref (y 0)), (1, .int q), (2, .int q2)] := hl
  refine lv_aload_n hx hb dX8_suits_0 rfl (lv_at hl 0 rfl) ?_
  refine va_get (D := D) (ci := 8) (v := .ref (y 10)) (C := RX8) (T := TX8) (N := 52) hx hb hts w_1 hown hK hP 0 rfl rfl 25 (by decide) w_2 (fun _ h9 => h9) rfl dX8_suits_1 ?_
  refine lv_iload_n hx hb dX8_suits_4 rfl (lv_at hl 1 rfl) ?_
  refine sv_iald (v := m_coatSize q.toNatClampNeg) hx hb hK hP 1 1 rfl rfl hq rfl dX8_suits_5 ?_
  refine lv_aload_n hx hb dX8_suits_6 rfl (lv_at hl 0 rfl) ?_
  refine va_get (D := D) (ci := 8) (v := .ref (y 7)) (C := RX8) (T := TX8) (N := 52) hx hb hts w_1 hown hK hP 0 rfl rfl 21 (by decide) w_3 (fun _ h9 => h9) rfl dX8_suits_7 ?_
  refine lv_iload_n hx hb dX8_suits_10 rfl (lv_at hl 2 rfl) ?_
  refine sv_iald (v := m_size q2.toNatClampNeg) hx hb hK hP 2 1 rfl rfl hq2 rfl dX8_suits_11 ?_
  refine lv_icmp_lt (tgt := 39) hx hb dX8_suits_12 (by decide) (fun c_12 => ?_) (fun c_12 => ?_)
  ·
    refine lv_iconst (v := 0) hx hb dX8_suits_39 (by decide) ?_
    exact W.zret (v := 0) hx hb hr rfl (fun t ht hW => ⟨_, rfl, Or.inr ⟨rfl, fun h => absurd c_12 (Int32.not_lt.mpr h.1)⟩, ht⟩) (fun q h => nomatch h) dX8_suits_40
  ·
    refine lv_aload_n hx hb dX8_suits_15 rfl (lv_at hl 0 rfl) ?_
    refine va_get (D := D) (ci := 8) (v := .ref (y 10)) (C := RX8) (T := TX8) (N := 52) hx hb hts w_1 hown hK hP 0 rfl rfl 25 (by decide) w_2 (fun _ h9 => h9) rfl dX8_suits_16 ?_
    refine lv_iload_n hx hb dX8_suits_19 rfl (lv_at hl 1 rfl) ?_
    refine sv_iald (v := m_coatSize q.toNatClampNeg) hx hb hK hP 1 1 rfl rfl hq rfl dX8_suits_20 ?_
    refine lv_aload_n hx hb dX8_suits_21 rfl (lv_at hl 0 rfl) ?_
    refine va_get (D := D) (ci := 8) (v := .ref (y 7)) (C := RX8) (T := TX8) (N := 52) hx hb hts w_1 hown hK hP 0 rfl rfl 21 (by decide) w_3 (fun _ h9 => h9) rfl dX8_suits_22 ?_
    refine lv_iload_n hx hb dX8_suits_25 rfl (lv_at hl 2 rfl) ?_
    refine sv_iald (v := m_size q2.toNatClampNeg) hx hb hK hP 2 1 rfl rfl hq2 rfl dX8_suits_26 ?_
    refine lv_aload_n hx hb dX8_suits_27 rfl (lv_at hl 0 rfl) ?_
    refine va_get (D := D) (ci := 8) (v := .int m_spare) (C := RX8) (T := TX8) (N := 52) hx hb hts w_1 hown hK hP 0 rfl rfl 9 (by decide) w_4 (fun _ h9 => h9) rfl dX8_suits_28 ?_
    refine sv_iadd (v := (m_size q2.toNatClampNeg) + m_spare) hx hb dX8_suits_31 rfl ?_
    refine lv_icmp_gt (tgt := 39) hx hb dX8_suits_32 (by decide) (fun c_32 => ?_) (fun c_32 => ?_)
    ·
      refine lv_iconst (v := 0) hx hb dX8_suits_39 (by decide) ?_
      exact W.zret (v := 0) hx hb hr rfl (fun t ht hW => ⟨_, rfl, Or.inr ⟨rfl, fun h => absurd c_32 (Int32.not_lt.mpr h.2)⟩, ht⟩) (fun q h => nomatch h) dX8_suits_40
    ·
      refine lv_iconst (v := 1) hx hb dX8_suits_35 (by decide) ?_
      refine lv_goto (tgt := 40) hx hb dX8_suits_36 (by decide) ?_
      exact W.zret (v := 1) hx hb hr rfl (fun t ht hW => ⟨_, rfl, Or.inl ⟨rfl, Int32.not_lt.mp c_12, Int32.not_lt.mp c_32⟩, ht⟩) (fun q h => nomatch h) dX8_suits_40

set_option maxHeartbeats 4000000 in
set_option maxRecDepth 100000 in
theorem n_X8_sets (l : Launch) (D : va_G) (cB cI cJ cZ : ClassId) (sz : Nat) (y : Nat → Nat) (m_tapeSize m_givers m_children m_coats m_legacies m_insideMany : Nat) (m_thrown m_cycleMany m_vote m_low m_high m_wear m_spare m_places m_cycleNext m_fault m_faultPlace m_giverNext m_years m_end m_next m_kind m_which m_place m_read m_readMany m_readHigh : Int32) (m_coatSize m_size m_gone m_inside m_can m_used : Nat → Int32) (am : Nat) (b_coats : m_coats ≤ 40) (b_insideMany : m_insideMany ≤ 16) (hgi : gI m_inside m_insideMany) (ham : am < 65536) : Met l yX8_sets wsX8_sets ({ frames := 1, cells := 0, slots := 0, locals := 22 } : Room) (cPre D (aTy cB cI cJ cZ) [((y 0), .inr (8, [.ref (y 1), .int (nI m_tapeSize), .int m_thrown, .ref (y 2), .int m_cycleMany, .int m_vote, .int m_low, .int m_high, .int m_wear, .int m_spare, .int m_places, .int m_cycleNext, .int m_fault, .int m_faultPlace, .int (nI m_givers), .ref (y 3), .ref (y 4), .int m_giverNext, .int (nI m_children), .ref (y 5), .ref (y 6), .ref (y 7), .ref (y 8), .ref (y 9), .int (nI m_coats), .ref (y 10), .ref (y 11), .ref (y 12), .ref (y 13), .int m_years, .int (nI m_legacies), .ref (y 14), .ref (y 15), .ref (y 16), .ref (y 17), .int m_end, .int m_next, .int m_kind, .int m_which, .int m_place, .int m_read, .ref (y 18), .ref (y 19), .int m_readMany, .int m_readHigh, .ref (y 20), .int (nI m_insideMany), .ref (y 21), .ref (y 22), .ref (y 23), .ref (y 24), .ref (y 25)])), ((y 10), .inl (cI, 40, .inl m_coatSize)), ((y 7), .inl (cI, 16, .inl m_size)), ((y 12), .inl (cZ, 40, .inl m_gone)), ((y 20), .inl (cI, 16, .inl m_inside)), ((y 21), .inl (cZ, 65536, .inl m_can)), ((y 22), .inl (cZ, 40, .inl m_used))] sz [.ref (y 0), .int (nI am)]) (va_Qv (fun (u : (Nat → Int32)) => canI u m_insideMany am (mM (avP m_gone m_used) (suP m_coatSize m_size m_inside m_spare) m_coats)) (cB_ D (aTy cB cI cJ cZ) (va_A [((y 0), .inr (8, [.ref (y 1), .int (nI m_tapeSize), .int m_thrown, .ref (y 2), .int m_cycleMany, .int m_vote, .int m_low, .int m_high, .int m_wear, .int m_spare, .int m_places, .int m_cycleNext, .int m_fault, .int m_faultPlace, .int (nI m_givers), .ref (y 3), .ref (y 4), .int m_giverNext, .int (nI m_children), .ref (y 5), .ref (y 6), .ref (y 7), .ref (y 8), .ref (y 9), .int (nI m_coats), .ref (y 10), .ref (y 11), .ref (y 12), .ref (y 13), .int m_years, .int (nI m_legacies), .ref (y 14), .ref (y 15), .ref (y 16), .ref (y 17), .int m_end, .int m_next, .int m_kind, .int m_which, .int m_place, .int m_read, .ref (y 18), .ref (y 19), .int m_readMany, .int m_readHigh, .ref (y 20), .int (nI m_insideMany), .ref (y 21), .ref (y 22), .ref (y 23), .ref (y 24), .ref (y 25)])), ((y 10), .inl (cI, 40, .inl m_coatSize)), ((y 7), .inl (cI, 16, .inl m_size)), ((y 12), .inl (cZ, 40, .inl m_gone)), ((y 20), .inl (cI, 16, .inl m_inside)), ((y 21), .inl (cZ, 65536, .inl m_can)), ((y 22), .inl (cZ, 40, .inl m_used))] sz) (fun u => [((y 0), .inr (8, [.ref (y 1), .int (nI m_tapeSize), .int m_thrown, .ref (y 2), .int m_cycleMany, .int m_vote, .int m_low, .int m_high, .int m_wear, .int m_spare, .int m_places, .int m_cycleNext, .int m_fault, .int m_faultPlace, .int (nI m_givers), .ref (y 3), .ref (y 4), .int m_giverNext, .int (nI m_children), .ref (y 5), .ref (y 6), .ref (y 7), .ref (y 8), .ref (y 9), .int (nI m_coats), .ref (y 10), .ref (y 11), .ref (y 12), .ref (y 13), .int m_years, .int (nI m_legacies), .ref (y 14), .ref (y 15), .ref (y 16), .ref (y 17), .int m_end, .int m_next, .int m_kind, .int m_which, .int m_place, .int m_read, .ref (y 18), .ref (y 19), .int m_readMany, .int m_readHigh, .ref (y 20), .int (nI m_insideMany), .ref (y 21), .ref (y 22), .ref (y 23), .ref (y 24), .ref (y 25)])), ((y 10), .inl (cI, 40, .inl m_coatSize)), ((y 7), .inl (cI, 16, .inl m_size)), ((y 12), .inl (cZ, 40, .inl m_gone)), ((y 20), .inl (cI, 16, .inl m_inside)), ((y 21), .inl (cZ, 65536, .inl u)), ((y 22), .inl (cZ, 40, .inl m_used))])) (va_A [((y 0), .inr (8, [.ref (y 1), .int (nI m_tapeSize), .int m_thrown, .ref (y 2), .int m_cycleMany, .int m_vote, .int m_low, .int m_high, .int m_wear, .int m_spare, .int m_places, .int m_cycleNext, .int m_fault, .int m_faultPlace, .int (nI m_givers), .ref (y 3), .ref (y 4), .int m_giverNext, .int (nI m_children), .ref (y 5), .ref (y 6), .ref (y 7), .ref (y 8), .ref (y 9), .int (nI m_coats), .ref (y 10), .ref (y 11), .ref (y 12), .ref (y 13), .int m_years, .int (nI m_legacies), .ref (y 14), .ref (y 15), .ref (y 16), .ref (y 17), .int m_end, .int m_next, .int m_kind, .int m_which, .int m_place, .int m_read, .ref (y 18), .ref (y 19), .int m_readMany, .int m_readHigh, .ref (y 20), .int (nI m_insideMany), .ref (y 21), .ref (y 22), .ref (y 23), .ref (y 24), .ref (y 25)])), ((y 10), .inl (cI, 40, .inl m_coatSize)), ((y 7), .inl (cI, 16, .inl m_size)), ((y 12), .inl (cZ, 40, .inl m_gone)), ((y 20), .inl (cI, 16, .inl m_inside)), ((y 21), .inl (cZ, 65536, .inl m_can)), ((y 22), .inl (cZ, 40, .inl m_used))] sz)) 0 0 (va_A [((y 0), .inr (8, [.ref (y 1), .int (nI m_tapeSize), .int m_thrown, .ref (y 2), .int m_cycleMany, .int m_vote, .int m_low, .int m_high, .int m_wear, .int m_spare, .int m_places, .int m_cycleNext, .int m_fault, .int m_faultPlace, .int (nI m_givers), .ref (y 3), .ref (y 4), .int m_giverNext, .int (nI m_children), .ref (y 5), .ref (y 6), .ref (y 7), .ref (y 8), .ref (y 9), .int (nI m_coats), .ref (y 10), .ref (y 11), .ref (y 12), .ref (y 13), .int m_years, .int (nI m_legacies), .ref (y 14), .ref (y 15), .ref (y 16), .ref (y 17), .int m_end, .int m_next, .int m_kind, .int m_which, .int m_place, .int m_read, .ref (y 18), .ref (y 19), .int m_readMany, .int m_readHigh, .ref (y 20), .int (nI m_insideMany), .ref (y 21), .ref (y 22), .ref (y 23), .ref (y 24), .ref (y 25)])), ((y 10), .inl (cI, 40, .inl m_coatSize)), ((y 7), .inl (cI, 16, .inl m_size)), ((y 12), .inl (cZ, 40, .inl m_gone)), ((y 20), .inl (cI, 16, .inl m_inside)), ((y 21), .inl (cZ, 65536, .inl m_can)), ((y 22), .inl (cZ, 40, .inl m_used))] sz) := by
  refine Met.ofW (cc := cX8_sets) (maxL := 6) (ret := none) (by decide) rfl ?_
  intro p e s m args below meth c s₁ B hml hv
  obtain ⟨rfl, hsz, hP, hK, hD0⟩ := hv
  have hx := B.exec
  have hb := B.bytes
  have hr := B.returns
  have hts := atoms_spec (ws := wsX8_sets) B.pre
  have hown : s.vm.findClass RX8 = some m.cls := findClass_of_methodNamed B.named
  have hlocks := B.notSynchronized
  subst hsz
  have hD := hD0.self (sz := s.heap.size)
  generalize hAe : va_A [((y 0), .inr (8, [.ref (y 1), .int (nI m_tapeSize), .int m_thrown, .ref (y 2), .int m_cycleMany, .int m_vote, .int m_low, .int m_high, .int m_wear, .int m_spare, .int m_places, .int m_cycleNext, .int m_fault, .int m_faultPlace, .int (nI m_givers), .ref (y 3), .ref (y 4), .int m_giverNext, .int (nI m_children), .ref (y 5), .ref (y 6), .ref (y 7), .ref (y 8), .ref (y 9), .int (nI m_coats), .ref (y 10), .ref (y 11), .ref (y 12), .ref (y 13), .int m_years, .int (nI m_legacies), .ref (y 14), .ref (y 15), .ref (y 16), .ref (y 17), .int m_end, .int m_next, .int m_kind, .int m_which, .int m_place, .int m_read, .ref (y 18), .ref (y 19), .int m_readMany, .int m_readHigh, .ref (y 20), .int (nI m_insideMany), .ref (y 21), .ref (y 22), .ref (y 23), .ref (y 24), .ref (y 25)])), ((y 10), .inl (cI, 40, .inl m_coatSize)), ((y 7), .inl (cI, 16, .inl m_size)), ((y 12), .inl (cZ, 40, .inl m_gone)), ((y 20), .inl (cI, 16, .inl m_inside)), ((y 21), .inl (cZ, 65536, .inl m_can)), ((y 22), .inl (cZ, 40, .inl m_used))] s.heap.size = A at hD ⊢
  have hA : ∀ q : Nat, s.heap.size ≤ q → A q := fun q h => by rw [← hAe]; exact Or.inr h
  have hS : va_S A s.heap s.heap [] := va_S.rf
  have hP : va_P D vwCl [((y 0), .inr (8, [.ref (y 1), .int (nI m_tapeSize), .int m_thrown, .ref (y 2), .int m_cycleMany, .int m_vote, .int m_low, .int m_high, .int m_wear, .int m_spare, .int m_places, .int m_cycleNext, .int m_fault, .int m_faultPlace, .int (nI m_givers), .ref (y 3), .ref (y 4), .int m_giverNext, .int (nI m_children), .ref (y 5), .ref (y 6), .ref (y 7), .ref (y 8), .ref (y 9), .int (nI m_coats), .ref (y 10), .ref (y 11), .ref (y 12), .ref (y 13), .int m_years, .int (nI m_legacies), .ref (y 14), .ref (y 15), .ref (y 16), .ref (y 17), .int m_end, .int m_next, .int m_kind, .int m_which, .int m_place, .int m_read, .ref (y 18), .ref (y 19), .int m_readMany, .int m_readHigh, .ref (y 20), .int (nI m_insideMany), .ref (y 21), .ref (y 22), .ref (y 23), .ref (y 24), .ref (y 25)])), ((y 10), .inl (cI, 40, .inl m_coatSize)), ((y 7), .inl (cI, 16, .inl m_size)), ((y 12), .inl (cZ, 40, .inl m_gone)), ((y 20), .inl (cI, 16, .inl m_inside)), ((y 21), .inl (cZ, 65536, .inl m_can)), ((y 22), .inl (cZ, 40, .inl m_used))] s.heap := hP
  have hp16 := pow16 b_insideMany
  have w_1 : ∀ w ∈ wsX80, w ∈ wsX8_sets := by decide +kernel
  have w_2 := hts (Cond.fieldLink RX8 213 "BlueCoatsModel" "insideMany" "I") (by decide +kernel)
  have w_3 := hts (Cond.fieldLink RX8 210 "BlueCoatsModel" "coats" "I") (by decide +kernel)
  have w_4 := hts (Cond.fieldLink RX8 68 "BlueCoatsModel" "gone" "[Z") (by decide +kernel)
  have w_5 := hts (Cond.fieldLink RX8 100 "BlueCoatsModel" "used" "[Z") (by decide +kernel)
  have w_6 := hts (Cond.fieldLink RX8 97 "BlueCoatsModel" "can" "[Z") (by decide +kernel)
  have w_7 := hts (Cond.fieldLink RX8 93 "BlueCoatsModel" "inside" "[I") (by decide +kernel)
  have hl := lv_entry ([.ref (y 0), .int (nI am)]) (n := 6) (Nat.le_of_ble_eq_true rfl)
  rw [lg_entry_eq]
  generalize (lg_sl ([.ref (y 0), .int (nI am)]) ++ List.replicate (6 - (lg_sl ([.ref (y 0), .int (nI am)])).length) Slot.unset).toArray = ls at hl ⊢
  have hl : lv_has ls 6 [(0, .ref (y 0)), (1, .int (nI am))] := hl
  generalize hQ : MQ below _ _ s _ _ _ = Q0
  refine lv_iconst (v := 0) hx hb dX8_sets_0 (by decide) ?_
  refine lv_istore_n (lv' := [(2, .int 0), (0, .ref (y 0)), (1, .int (nI am))]) hx hb dX8_sets_1 rfl hl (by decide) rfl (fun ls hl => ?_)
  have L_1 : ∀ (n : Nat) (i_2 : Nat) (f_y21_2 : Nat → Int32) (H : Heap) (locs : List Loc) (ls : Array Slot), (2 ^ m_insideMany) - i_2 < n → (i_2 ≤ 2 ^ m_insideMany) → (saA f_y21_2 i_2) → va_P D vwCl [((y 0), .inr (8, [.ref (y 1), .int (nI m_tapeSize), .int m_thrown, .ref (y 2), .int m_cycleMany, .int m_vote, .int m_low, .int m_high, .int m_wear, .int m_spare, .int m_places, .int m_cycleNext, .int m_fault, .int m_faultPlace, .int (nI m_givers), .ref (y 3), .ref (y 4), .int m_giverNext, .int (nI m_children), .ref (y 5), .ref (y 6), .ref (y 7), .ref (y 8), .ref (y 9), .int (nI m_coats), .ref (y 10), .ref (y 11), .ref (y 12), .ref (y 13), .int m_years, .int (nI m_legacies), .ref (y 14), .ref (y 15), .ref (y 16), .ref (y 17), .int m_end, .int m_next, .int m_kind, .int m_which, .int m_place, .int m_read, .ref (y 18), .ref (y 19), .int m_readMany, .int m_readHigh, .ref (y 20), .int (nI m_insideMany), .ref (y 21), .ref (y 22), .ref (y 23), .ref (y 24), .ref (y 25)])), ((y 10), .inl (cI, 40, .inl m_coatSize)), ((y 7), .inl (cI, 16, .inl m_size)), ((y 12), .inl (cZ, 40, .inl m_gone)), ((y 20), .inl (cI, 16, .inl m_inside)), ((y 21), .inl (cZ, 65536, .inl f_y21_2)), ((y 22), .inl (cZ, 40, .inl m_used))] H → va_D A [((y 0), .inr (8, [.ref (y 1), .int (nI m_tapeSize), .int m_thrown, .ref (y 2), .int m_cycleMany, .int m_vote, .int m_low, .int m_high, .int m_wear, .int m_spare, .int m_places, .int m_cycleNext, .int m_fault, .int m_faultPlace, .int (nI m_givers), .ref (y 3), .ref (y 4), .int m_giverNext, .int (nI m_children), .ref (y 5), .ref (y 6), .ref (y 7), .ref (y 8), .ref (y 9), .int (nI m_coats), .ref (y 10), .ref (y 11), .ref (y 12), .ref (y 13), .int m_years, .int (nI m_legacies), .ref (y 14), .ref (y 15), .ref (y 16), .ref (y 17), .int m_end, .int m_next, .int m_kind, .int m_which, .int m_place, .int m_read, .ref (y 18), .ref (y 19), .int m_readMany, .int m_readHigh, .ref (y 20), .int (nI m_insideMany), .ref (y 21), .ref (y 22), .ref (y 23), .ref (y 24), .ref (y 25)])), ((y 10), .inl (cI, 40, .inl m_coatSize)), ((y 7), .inl (cI, 16, .inl m_size)), ((y 12), .inl (cZ, 40, .inl m_gone)), ((y 20), .inl (cI, 16, .inl m_inside)), ((y 21), .inl (cZ, 65536, .inl f_y21_2)), ((y 22), .inl (cZ, 40, .inl m_used))] → va_S A s.heap H locs → lv_has ls 6 [(0, .ref (y 0)), (1, .int (nI am)), (2, .int (nI i_2))] → W p l e (headSpec wsX8_sets ({ frames := 1, cells := 0, slots := 0, locals := 22 } : Room)).room s m ([.ref (y 0), .int (nI am)] : List Value).toArray below meth c H locs 0 0 Q0 (F0 m 2 ls []) := by
    intro n
    induction n with
    | zero => intro i_2 f_y21_2 H locs ls hn_2 hle_2 hA_2 hP hD hS hl; exact absurd hn_2 (Nat.not_lt_zero _)
    | succ n ih_L_1 =>
      intro i_2 f_y21_2 H locs ls hn_2 hle_2 hA_2 hP hD hS hl
      refine lv_iload_n hx hb dX8_sets_2 rfl (lv_at hl 2 rfl) ?_
      refine lv_iconst (v := 1) hx hb dX8_sets_3 (by decide) ?_
      refine lv_aload_n hx hb dX8_sets_4 rfl (lv_at hl 0 rfl) ?_
      refine va_get (D := D) (ci := 8) (v := .int (nI m_insideMany)) (C := RX8) (T := TX8) (N := 52) hx hb hts w_1 hown hK hP 0 rfl rfl 46 (by decide) w_2 (fun _ h9 => h9) rfl dX8_sets_5 ?_
      refine sv_ishl (v := nI (2 ^ m_insideMany)) hx hb dX8_sets_8 (sh16 b_insideMany) ?_
      refine lv_icmp_ge (tgt := 33) hx hb dX8_sets_9 (by decide) (fun c_9 => ?_) (fun c_9 => ?_)
      ·
        refine lv_iconst (v := 0) hx hb dX8_sets_33 (by decide) ?_
        refine lv_istore_n (lv' := [(2, .int 0), (0, .ref (y 0)), (1, .int (nI am))]) hx hb dX8_sets_34 rfl hl (by decide) rfl (fun ls hl => ?_)
        have L_2 : ∀ (n : Nat) (i_35 : Nat) (f_y21_35 : Nat → Int32) (H : Heap) (locs : List Loc) (ls : Array Slot), m_coats - i_35 < n → (i_35 ≤ m_coats) → (canI f_y21_35 m_insideMany am (mM (avP m_gone m_used) (suP m_coatSize m_size m_inside m_spare) i_35)) → va_P D vwCl [((y 0), .inr (8, [.ref (y 1), .int (nI m_tapeSize), .int m_thrown, .ref (y 2), .int m_cycleMany, .int m_vote, .int m_low, .int m_high, .int m_wear, .int m_spare, .int m_places, .int m_cycleNext, .int m_fault, .int m_faultPlace, .int (nI m_givers), .ref (y 3), .ref (y 4), .int m_giverNext, .int (nI m_children), .ref (y 5), .ref (y 6), .ref (y 7), .ref (y 8), .ref (y 9), .int (nI m_coats), .ref (y 10), .ref (y 11), .ref (y 12), .ref (y 13), .int m_years, .int (nI m_legacies), .ref (y 14), .ref (y 15), .ref (y 16), .ref (y 17), .int m_end, .int m_next, .int m_kind, .int m_which, .int m_place, .int m_read, .ref (y 18), .ref (y 19), .int m_readMany, .int m_readHigh, .ref (y 20), .int (nI m_insideMany), .ref (y 21), .ref (y 22), .ref (y 23), .ref (y 24), .ref (y 25)])), ((y 10), .inl (cI, 40, .inl m_coatSize)), ((y 7), .inl (cI, 16, .inl m_size)), ((y 12), .inl (cZ, 40, .inl m_gone)), ((y 20), .inl (cI, 16, .inl m_inside)), ((y 21), .inl (cZ, 65536, .inl f_y21_35)), ((y 22), .inl (cZ, 40, .inl m_used))] H → va_D A [((y 0), .inr (8, [.ref (y 1), .int (nI m_tapeSize), .int m_thrown, .ref (y 2), .int m_cycleMany, .int m_vote, .int m_low, .int m_high, .int m_wear, .int m_spare, .int m_places, .int m_cycleNext, .int m_fault, .int m_faultPlace, .int (nI m_givers), .ref (y 3), .ref (y 4), .int m_giverNext, .int (nI m_children), .ref (y 5), .ref (y 6), .ref (y 7), .ref (y 8), .ref (y 9), .int (nI m_coats), .ref (y 10), .ref (y 11), .ref (y 12), .ref (y 13), .int m_years, .int (nI m_legacies), .ref (y 14), .ref (y 15), .ref (y 16), .ref (y 17), .int m_end, .int m_next, .int m_kind, .int m_which, .int m_place, .int m_read, .ref (y 18), .ref (y 19), .int m_readMany, .int m_readHigh, .ref (y 20), .int (nI m_insideMany), .ref (y 21), .ref (y 22), .ref (y 23), .ref (y 24), .ref (y 25)])), ((y 10), .inl (cI, 40, .inl m_coatSize)), ((y 7), .inl (cI, 16, .inl m_size)), ((y 12), .inl (cZ, 40, .inl m_gone)), ((y 20), .inl (cI, 16, .inl m_inside)), ((y 21), .inl (cZ, 65536, .inl f_y21_35)), ((y 22), .inl (cZ, 40, .inl m_used))] → va_S A s.heap H locs → lv_has ls 6 [(0, .ref (y 0)), (1, .int (nI am)), (2, .int (nI i_35))] → W p l e (headSpec wsX8_sets ({ frames := 1, cells := 0, slots := 0, locals := 22 } : Room)).room s m ([.ref (y 0), .int (nI am)] : List Value).toArray below meth c H locs 0 0 Q0 (F0 m 35 ls []) := by
          intro n
          induction n with
          | zero => intro i_35 f_y21_35 H locs ls hn_35 hle_35 hB_35 hP hD hS hl; exact absurd hn_35 (Nat.not_lt_zero _)
          | succ n ih_L_2 =>
            intro i_35 f_y21_35 H locs ls hn_35 hle_35 hB_35 hP hD hS hl
            refine lv_iload_n hx hb dX8_sets_35 rfl (lv_at hl 2 rfl) ?_
            refine lv_aload_n hx hb dX8_sets_36 rfl (lv_at hl 0 rfl) ?_
            refine va_get (D := D) (ci := 8) (v := .int (nI m_coats)) (C := RX8) (T := TX8) (N := 52) hx hb hts w_1 hown hK hP 0 rfl rfl 24 (by decide) w_3 (fun _ h9 => h9) rfl dX8_sets_37 ?_
            refine lv_icmp_ge (tgt := 191) hx hb dX8_sets_40 (by decide) (fun c_40 => ?_) (fun c_40 => ?_)
            ·
              rw [← hQ]
              have hP9 := hP.sub (ws' := [((y 0), .inr (8, [.ref (y 1), .int (nI m_tapeSize), .int m_thrown, .ref (y 2), .int m_cycleMany, .int m_vote, .int m_low, .int m_high, .int m_wear, .int m_spare, .int m_places, .int m_cycleNext, .int m_fault, .int m_faultPlace, .int (nI m_givers), .ref (y 3), .ref (y 4), .int m_giverNext, .int (nI m_children), .ref (y 5), .ref (y 6), .ref (y 7), .ref (y 8), .ref (y 9), .int (nI m_coats), .ref (y 10), .ref (y 11), .ref (y 12), .ref (y 13), .int m_years, .int (nI m_legacies), .ref (y 14), .ref (y 15), .ref (y 16), .ref (y 17), .int m_end, .int m_next, .int m_kind, .int m_which, .int m_place, .int m_read, .ref (y 18), .ref (y 19), .int m_readMany, .int m_readHigh, .ref (y 20), .int (nI m_insideMany), .ref (y 21), .ref (y 22), .ref (y 23), .ref (y 24), .ref (y 25)])), ((y 10), .inl (cI, 40, .inl m_coatSize)), ((y 7), .inl (cI, 16, .inl m_size)), ((y 12), .inl (cZ, 40, .inl m_gone)), ((y 20), .inl (cI, 16, .inl m_inside)), ((y 21), .inl (cZ, 65536, .inl f_y21_35)), ((y 22), .inl (cZ, 40, .inl m_used))]) [0, 1, 2, 3, 4, 5, 6] rfl
              have hD9 := hD.sub (ws' := [((y 0), .inr (8, [.ref (y 1), .int (nI m_tapeSize), .int m_thrown, .ref (y 2), .int m_cycleMany, .int m_vote, .int m_low, .int m_high, .int m_wear, .int m_spare, .int m_places, .int m_cycleNext, .int m_fault, .int m_faultPlace, .int (nI m_givers), .ref (y 3), .ref (y 4), .int m_giverNext, .int (nI m_children), .ref (y 5), .ref (y 6), .ref (y 7), .ref (y 8), .ref (y 9), .int (nI m_coats), .ref (y 10), .ref (y 11), .ref (y 12), .ref (y 13), .int m_years, .int (nI m_legacies), .ref (y 14), .ref (y 15), .ref (y 16), .ref (y 17), .int m_end, .int m_next, .int m_kind, .int m_which, .int m_place, .int m_read, .ref (y 18), .ref (y 19), .int m_readMany, .int m_readHigh, .ref (y 20), .int (nI m_insideMany), .ref (y 21), .ref (y 22), .ref (y 23), .ref (y 24), .ref (y 25)])), ((y 10), .inl (cI, 40, .inl m_coatSize)), ((y 7), .inl (cI, 16, .inl m_size)), ((y 12), .inl (cZ, 40, .inl m_gone)), ((y 20), .inl (cI, 16, .inl m_inside)), ((y 21), .inl (cZ, 65536, .inl f_y21_35)), ((y 22), .inl (cZ, 40, .inl m_used))]) [0, 1, 2, 3, 4, 5, 6] (by decide) rfl
              exact W.vret hx hb hr (fun t ht hW => ⟨⟨f_y21_35, rfl, (canI_eq hB_35 (Nat.le_antisymm hle_35 (ge3 (by omega) hle_35 c_40))), by rw [ht]; exact hP9, va_K.moved hW.alike hK, hD9⟩, hS.F ht⟩) hS.2.2 dX8_sets_191
            ·
              have hb_35 : i_35 < m_coats := lt3 (by omega) hle_35 c_40
              refine lv_aload_n hx hb dX8_sets_43 rfl (lv_at hl 0 rfl) ?_
              refine va_get (D := D) (ci := 8) (v := .ref (y 12)) (C := RX8) (T := TX8) (N := 52) hx hb hts w_1 hown hK hP 0 rfl rfl 27 (by decide) w_4 (fun _ h9 => h9) rfl dX8_sets_44 ?_
              refine lv_iload_n hx hb dX8_sets_47 rfl (lv_at hl 2 rfl) ?_
              refine sv_zald (v := m_gone i_35) hx hb hK hP 3 3 rfl rfl (vp_in_nI (by omega) (by decide)) (congrArg _ (nI_clamp (by omega))) dX8_sets_48 ?_
              refine lv_if_ne (tgt := 185) hx hb dX8_sets_49 (by decide) (fun c_49 => ?_) (fun c_49 => ?_)
              ·
                refine lv_iinc (v := nI (i_35 + 1)) (lv' := [(2, .int (nI (i_35 + 1))), (0, .ref (y 0)), (1, .int (nI am))]) hx hb dX8_sets_185 hl (k := 2) rfl (ax_add _ 1) (by decide) rfl (fun ls hl => ?_)
                refine lv_goto (tgt := 35) hx hb dX8_sets_188 (by decide) ?_
                exact ih_L_2 (i_35 + 1) f_y21_35 _ _ ls (by omega) (by omega) (sB_skip hB_35 (fun h => c_49 h.1)) hP hD hS (lv_sub hl [1, 2, 0] rfl)
              ·
                refine lv_aload_n hx hb dX8_sets_52 rfl (lv_at hl 0 rfl) ?_
                refine va_get (D := D) (ci := 8) (v := .ref (y 22)) (C := RX8) (T := TX8) (N := 52) hx hb hts w_1 hown hK hP 0 rfl rfl 48 (by decide) w_5 (fun _ h9 => h9) rfl dX8_sets_53 ?_
                refine lv_iload_n hx hb dX8_sets_56 rfl (lv_at hl 2 rfl) ?_
                refine sv_zald (v := m_used i_35) hx hb hK hP 6 3 rfl rfl (vp_in_nI (by omega) (by decide)) (congrArg _ (nI_clamp (by omega))) dX8_sets_57 ?_
                refine lv_if_eq (tgt := 64) hx hb dX8_sets_58 (by decide) (fun c_58 => ?_) (fun c_58 => ?_)
                ·
                  refine lv_iconst (v := 1) hx hb dX8_sets_64 (by decide) ?_
                  refine lv_aload_n hx hb dX8_sets_65 rfl (lv_at hl 0 rfl) ?_
                  refine va_get (D := D) (ci := 8) (v := .int (nI m_insideMany)) (C := RX8) (T := TX8) (N := 52) hx hb hts w_1 hown hK hP 0 rfl rfl 46 (by decide) w_2 (fun _ h9 => h9) rfl dX8_sets_66 ?_
                  refine sv_ishl (v := nI (2 ^ m_insideMany)) hx hb dX8_sets_69 (sh16 b_insideMany) ?_
                  refine lv_iconst (v := 1) hx hb dX8_sets_70 (by decide) ?_
                  refine sv_isub (v := nI (2 ^ m_insideMany - 1)) hx hb dX8_sets_71 (nI_m1 (pow_pos2 _)) ?_
                  refine lv_istore_n (lv' := [(3, .int (nI (2 ^ m_insideMany - 1))), (0, .ref (y 0)), (1, .int (nI am)), (2, .int (nI i_35))]) hx hb dX8_sets_72 rfl hl (by decide) rfl (fun ls hl => ?_)
                  have L_3 : ∀ (n : Nat) (i_73 : Nat) (f_y21_73 : Nat → Int32) (H : Heap) (locs : List Loc) (ls : Array Slot), i_73 < n → (i_73 < 2 ^ m_insideMany) → (canC f_y21_73 m_insideMany am (mM (avP m_gone m_used) (suP m_coatSize m_size m_inside m_spare) i_35) (mM (avP m_gone m_used) (suP m_coatSize m_size m_inside m_spare) (i_35 + 1)) i_73) → va_P D vwCl [((y 0), .inr (8, [.ref (y 1), .int (nI m_tapeSize), .int m_thrown, .ref (y 2), .int m_cycleMany, .int m_vote, .int m_low, .int m_high, .int m_wear, .int m_spare, .int m_places, .int m_cycleNext, .int m_fault, .int m_faultPlace, .int (nI m_givers), .ref (y 3), .ref (y 4), .int m_giverNext, .int (nI m_children), .ref (y 5), .ref (y 6), .ref (y 7), .ref (y 8), .ref (y 9), .int (nI m_coats), .ref (y 10), .ref (y 11), .ref (y 12), .ref (y 13), .int m_years, .int (nI m_legacies), .ref (y 14), .ref (y 15), .ref (y 16), .ref (y 17), .int m_end, .int m_next, .int m_kind, .int m_which, .int m_place, .int m_read, .ref (y 18), .ref (y 19), .int m_readMany, .int m_readHigh, .ref (y 20), .int (nI m_insideMany), .ref (y 21), .ref (y 22), .ref (y 23), .ref (y 24), .ref (y 25)])), ((y 10), .inl (cI, 40, .inl m_coatSize)), ((y 7), .inl (cI, 16, .inl m_size)), ((y 12), .inl (cZ, 40, .inl m_gone)), ((y 20), .inl (cI, 16, .inl m_inside)), ((y 21), .inl (cZ, 65536, .inl f_y21_73)), ((y 22), .inl (cZ, 40, .inl m_used))] H → va_D A [((y 0), .inr (8, [.ref (y 1), .int (nI m_tapeSize), .int m_thrown, .ref (y 2), .int m_cycleMany, .int m_vote, .int m_low, .int m_high, .int m_wear, .int m_spare, .int m_places, .int m_cycleNext, .int m_fault, .int m_faultPlace, .int (nI m_givers), .ref (y 3), .ref (y 4), .int m_giverNext, .int (nI m_children), .ref (y 5), .ref (y 6), .ref (y 7), .ref (y 8), .ref (y 9), .int (nI m_coats), .ref (y 10), .ref (y 11), .ref (y 12), .ref (y 13), .int m_years, .int (nI m_legacies), .ref (y 14), .ref (y 15), .ref (y 16), .ref (y 17), .int m_end, .int m_next, .int m_kind, .int m_which, .int m_place, .int m_read, .ref (y 18), .ref (y 19), .int m_readMany, .int m_readHigh, .ref (y 20), .int (nI m_insideMany), .ref (y 21), .ref (y 22), .ref (y 23), .ref (y 24), .ref (y 25)])), ((y 10), .inl (cI, 40, .inl m_coatSize)), ((y 7), .inl (cI, 16, .inl m_size)), ((y 12), .inl (cZ, 40, .inl m_gone)), ((y 20), .inl (cI, 16, .inl m_inside)), ((y 21), .inl (cZ, 65536, .inl f_y21_73)), ((y 22), .inl (cZ, 40, .inl m_used))] → va_S A s.heap H locs → lv_has ls 6 [(0, .ref (y 0)), (1, .int (nI am)), (2, .int (nI i_35)), (3, .int (nI i_73))] → W p l e (headSpec wsX8_sets ({ frames := 1, cells := 0, slots := 0, locals := 22 } : Room)).room s m ([.ref (y 0), .int (nI am)] : List Value).toArray below meth c H locs 0 0 Q0 (F0 m 73 ls []) := by
                    intro n
                    induction n with
                    | zero => intro i_73 f_y21_73 H locs ls hn_73 hs_73 hC_73 hP hD hS hl; exact absurd hn_73 (Nat.not_lt_zero _)
                    | succ n ih_L_3 =>
                      intro i_73 f_y21_73 H locs ls hn_73 hs_73 hC_73 hP hD hS hl
                      refine lv_iload_n hx hb dX8_sets_73 rfl (lv_at hl 3 rfl) ?_
                      refine lv_if_le (tgt := 185) hx hb dX8_sets_74 (by decide) (fun c_74 => ?_) (fun c_74 => ?_)
                      ·
                        refine lv_iinc (v := nI (i_35 + 1)) (lv' := [(2, .int (nI (i_35 + 1))), (0, .ref (y 0)), (1, .int (nI am)), (3, .int (nI i_73))]) hx hb dX8_sets_185 hl (k := 2) rfl (ax_add _ 1) (by decide) rfl (fun ls hl => ?_)
                        refine lv_goto (tgt := 35) hx hb dX8_sets_188 (by decide) ?_
                        exact ih_L_2 (i_35 + 1) f_y21_73 _ _ ls (by omega) (by omega) (sC_end hC_73 (zero3 (by omega) c_74)) hP hD hS (lv_sub hl [1, 2, 0] rfl)
                      ·
                        have hb_73 : 0 < i_73 := pos3 c_74
                        refine lv_aload_n hx hb dX8_sets_77 rfl (lv_at hl 0 rfl) ?_
                        refine va_get (D := D) (ci := 8) (v := .ref (y 21)) (C := RX8) (T := TX8) (N := 52) hx hb hts w_1 hown hK hP 0 rfl rfl 47 (by decide) w_6 (fun _ h9 => h9) rfl dX8_sets_78 ?_
                        refine lv_iload_n hx hb dX8_sets_81 rfl (lv_at hl 3 rfl) ?_
                        refine sv_zald (v := f_y21_73 i_73) hx hb hK hP 5 3 rfl rfl (vp_in_nI (by omega) (by decide)) (congrArg _ (nI_clamp (by omega))) dX8_sets_82 ?_
                        refine lv_if_ne (tgt := 179) hx hb dX8_sets_83 (by decide) (fun c_83 => ?_) (fun c_83 => ?_)
                        ·
                          refine lv_iinc (v := nI (i_73 - 1)) (lv' := [(3, .int (nI (i_73 - 1))), (0, .ref (y 0)), (1, .int (nI am)), (2, .int (nI i_35))]) hx hb dX8_sets_179 hl (k := 3) rfl (nI_dec hb_73) (by decide) rfl (fun ls hl => ?_)
                          refine lv_goto (tgt := 73) hx hb dX8_sets_182 (by decide) ?_
                          exact ih_L_3 (i_73 - 1) f_y21_73 _ _ ls (by omega) (by omega) (sC_has hC_73 hb_73 c_83) hP hD hS (lv_sub hl [1, 2, 3, 0] rfl)
                        ·
                          refine lv_iload_n hx hb dX8_sets_86 rfl (lv_at hl 3 rfl) ?_
                          refine lv_iload_n hx hb dX8_sets_87 rfl (lv_at hl 1 rfl) ?_
                          refine lv_iconst (v := (-1)) hx hb dX8_sets_88 (by decide) ?_
                          refine sv_ixor (v := (nI am) ^^^ (-1)) hx hb dX8_sets_89 rfl ?_
                          refine sv_iand (v := (nI i_73) &&& ((nI am) ^^^ (-1))) hx hb dX8_sets_90 rfl ?_
                          refine lv_if_eq (tgt := 97) hx hb dX8_sets_91 (by decide) (fun c_91 => ?_) (fun c_91 => ?_)
                          ·
                            refine lv_iconst (v := 0) hx hb dX8_sets_97 (by decide) ?_
                            refine lv_istore (lv' := [(4, .int 0), (0, .ref (y 0)), (1, .int (nI am)), (2, .int (nI i_35)), (3, .int (nI i_73))]) hx hb dX8_sets_98 hl (by decide) rfl (fun ls hl => ?_)
                            refine lv_iconst (v := 0) hx hb dX8_sets_100 (by decide) ?_
                            refine lv_istore (lv' := [(5, .int 0), (4, .int 0), (0, .ref (y 0)), (1, .int (nI am)), (2, .int (nI i_35)), (3, .int (nI i_73))]) hx hb dX8_sets_101 hl (by decide) rfl (fun ls hl => ?_)
                            have L_4 : ∀ (n : Nat) (i_103 : Nat) (l_4_103 : Int32) (H : Heap) (locs : List Loc) (ls : Array Slot), m_insideMany - i_103 < n → (i_103 ≤ m_insideMany) → (orD l_4_103 f_y21_73 (suP m_coatSize m_size m_inside m_spare) i_73 i_35 i_103) → va_P D vwCl [((y 0), .inr (8, [.ref (y 1), .int (nI m_tapeSize), .int m_thrown, .ref (y 2), .int m_cycleMany, .int m_vote, .int m_low, .int m_high, .int m_wear, .int m_spare, .int m_places, .int m_cycleNext, .int m_fault, .int m_faultPlace, .int (nI m_givers), .ref (y 3), .ref (y 4), .int m_giverNext, .int (nI m_children), .ref (y 5), .ref (y 6), .ref (y 7), .ref (y 8), .ref (y 9), .int (nI m_coats), .ref (y 10), .ref (y 11), .ref (y 12), .ref (y 13), .int m_years, .int (nI m_legacies), .ref (y 14), .ref (y 15), .ref (y 16), .ref (y 17), .int m_end, .int m_next, .int m_kind, .int m_which, .int m_place, .int m_read, .ref (y 18), .ref (y 19), .int m_readMany, .int m_readHigh, .ref (y 20), .int (nI m_insideMany), .ref (y 21), .ref (y 22), .ref (y 23), .ref (y 24), .ref (y 25)])), ((y 10), .inl (cI, 40, .inl m_coatSize)), ((y 7), .inl (cI, 16, .inl m_size)), ((y 12), .inl (cZ, 40, .inl m_gone)), ((y 20), .inl (cI, 16, .inl m_inside)), ((y 21), .inl (cZ, 65536, .inl f_y21_73)), ((y 22), .inl (cZ, 40, .inl m_used))] H → va_D A [((y 0), .inr (8, [.ref (y 1), .int (nI m_tapeSize), .int m_thrown, .ref (y 2), .int m_cycleMany, .int m_vote, .int m_low, .int m_high, .int m_wear, .int m_spare, .int m_places, .int m_cycleNext, .int m_fault, .int m_faultPlace, .int (nI m_givers), .ref (y 3), .ref (y 4), .int m_giverNext, .int (nI m_children), .ref (y 5), .ref (y 6), .ref (y 7), .ref (y 8), .ref (y 9), .int (nI m_coats), .ref (y 10), .ref (y 11), .ref (y 12), .ref (y 13), .int m_years, .int (nI m_legacies), .ref (y 14), .ref (y 15), .ref (y 16), .ref (y 17), .int m_end, .int m_next, .int m_kind, .int m_which, .int m_place, .int m_read, .ref (y 18), .ref (y 19), .int m_readMany, .int m_readHigh, .ref (y 20), .int (nI m_insideMany), .ref (y 21), .ref (y 22), .ref (y 23), .ref (y 24), .ref (y 25)])), ((y 10), .inl (cI, 40, .inl m_coatSize)), ((y 7), .inl (cI, 16, .inl m_size)), ((y 12), .inl (cZ, 40, .inl m_gone)), ((y 20), .inl (cI, 16, .inl m_inside)), ((y 21), .inl (cZ, 65536, .inl f_y21_73)), ((y 22), .inl (cZ, 40, .inl m_used))] → va_S A s.heap H locs → lv_has ls 6 [(0, .ref (y 0)), (1, .int (nI am)), (2, .int (nI i_35)), (3, .int (nI i_73)), (4, .int l_4_103), (5, .int (nI i_103))] → W p l e (headSpec wsX8_sets ({ frames := 1, cells := 0, slots := 0, locals := 22 } : Room)).room s m ([.ref (y 0), .int (nI am)] : List Value).toArray below meth c H locs 0 0 Q0 (F0 m 103 ls []) := by
                              intro n
                              induction n with
                              | zero => intro i_103 l_4_103 H locs ls hn_103 hle_103 hD_103 hP hD hS hl; exact absurd hn_103 (Nat.not_lt_zero _)
                              | succ n ih_L_4 =>
                                intro i_103 l_4_103 H locs ls hn_103 hle_103 hD_103 hP hD hS hl
                                refine lv_iload hx hb dX8_sets_103 (lv_at hl 5 rfl) ?_
                                refine lv_aload_n hx hb dX8_sets_105 rfl (lv_at hl 0 rfl) ?_
                                refine va_get (D := D) (ci := 8) (v := .int (nI m_insideMany)) (C := RX8) (T := TX8) (N := 52) hx hb hts w_1 hown hK hP 0 rfl rfl 46 (by decide) w_2 (fun _ h9 => h9) rfl dX8_sets_106 ?_
                                refine lv_icmp_ge (tgt := 171) hx hb dX8_sets_109 (by decide) (fun c_109 => ?_) (fun c_109 => ?_)
                                ·
                                  refine lv_aload_n hx hb dX8_sets_171 rfl (lv_at hl 0 rfl) ?_
                                  refine va_get (D := D) (ci := 8) (v := .ref (y 21)) (C := RX8) (T := TX8) (N := 52) hx hb hts w_1 hown hK hP 0 rfl rfl 47 (by decide) w_6 (fun _ h9 => h9) rfl dX8_sets_172 ?_
                                  refine lv_iload_n hx hb dX8_sets_175 rfl (lv_at hl 3 rfl) ?_
                                  refine lv_iload hx hb dX8_sets_176 (lv_at hl 4 rfl) ?_
                                  refine sv_zast hx hb hK hP hD hS 5 3 rfl rfl (vp_in_nI (by omega) (by decide)) dX8_sets_178 (fun g_5 H locs eg_5 hP hD hS => ?_)
                                  have eg_5 : g_5 = upd f_y21_73 i_73 l_4_103 := zst eg_5 (by omega) hD_103.b
                                  subst eg_5
                                  have hP : va_P D vwCl [((y 0), .inr (8, [.ref (y 1), .int (nI m_tapeSize), .int m_thrown, .ref (y 2), .int m_cycleMany, .int m_vote, .int m_low, .int m_high, .int m_wear, .int m_spare, .int m_places, .int m_cycleNext, .int m_fault, .int m_faultPlace, .int (nI m_givers), .ref (y 3), .ref (y 4), .int m_giverNext, .int (nI m_children), .ref (y 5), .ref (y 6), .ref (y 7), .ref (y 8), .ref (y 9), .int (nI m_coats), .ref (y 10), .ref (y 11), .ref (y 12), .ref (y 13), .int m_years, .int (nI m_legacies), .ref (y 14), .ref (y 15), .ref (y 16), .ref (y 17), .int m_end, .int m_next, .int m_kind, .int m_which, .int m_place, .int m_read, .ref (y 18), .ref (y 19), .int m_readMany, .int m_readHigh, .ref (y 20), .int (nI m_insideMany), .ref (y 21), .ref (y 22), .ref (y 23), .ref (y 24), .ref (y 25)])), ((y 10), .inl (cI, 40, .inl m_coatSize)), ((y 7), .inl (cI, 16, .inl m_size)), ((y 12), .inl (cZ, 40, .inl m_gone)), ((y 20), .inl (cI, 16, .inl m_inside)), ((y 21), .inl (cZ, 65536, .inl (upd f_y21_73 i_73 l_4_103))), ((y 22), .inl (cZ, 40, .inl m_used))] H := hP
                                  have hD : va_D A [((y 0), .inr (8, [.ref (y 1), .int (nI m_tapeSize), .int m_thrown, .ref (y 2), .int m_cycleMany, .int m_vote, .int m_low, .int m_high, .int m_wear, .int m_spare, .int m_places, .int m_cycleNext, .int m_fault, .int m_faultPlace, .int (nI m_givers), .ref (y 3), .ref (y 4), .int m_giverNext, .int (nI m_children), .ref (y 5), .ref (y 6), .ref (y 7), .ref (y 8), .ref (y 9), .int (nI m_coats), .ref (y 10), .ref (y 11), .ref (y 12), .ref (y 13), .int m_years, .int (nI m_legacies), .ref (y 14), .ref (y 15), .ref (y 16), .ref (y 17), .int m_end, .int m_next, .int m_kind, .int m_which, .int m_place, .int m_read, .ref (y 18), .ref (y 19), .int m_readMany, .int m_readHigh, .ref (y 20), .int (nI m_insideMany), .ref (y 21), .ref (y 22), .ref (y 23), .ref (y 24), .ref (y 25)])), ((y 10), .inl (cI, 40, .inl m_coatSize)), ((y 7), .inl (cI, 16, .inl m_size)), ((y 12), .inl (cZ, 40, .inl m_gone)), ((y 20), .inl (cI, 16, .inl m_inside)), ((y 21), .inl (cZ, 65536, .inl (upd f_y21_73 i_73 l_4_103))), ((y 22), .inl (cZ, 40, .inl m_used))] := hD
                                  refine lv_iinc (v := nI (i_73 - 1)) (lv' := [(3, .int (nI (i_73 - 1))), (0, .ref (y 0)), (1, .int (nI am)), (2, .int (nI i_35)), (4, .int l_4_103), (5, .int (nI i_103))]) hx hb dX8_sets_179 hl (k := 3) rfl (nI_dec hb_73) (by decide) rfl (fun ls hl => ?_)
                                  refine lv_goto (tgt := 73) hx hb dX8_sets_182 (by decide) ?_
                                  exact ih_L_3 (i_73 - 1) (upd f_y21_73 i_73 l_4_103) _ _ ls (by omega) (by omega) (sC_put b_insideMany hC_73 hb_73 hs_73 ((nI_and1 (by omega) ham).mp c_91) c_83 ⟨c_49, c_58⟩ hD_103 (Or.inl (ge3 (by omega) hle_103 c_109))) hP hD hS (lv_sub hl [1, 2, 3, 0] rfl)
                                ·
                                  have hb_103 : i_103 < m_insideMany := lt3 (by omega) hle_103 c_109
                                  refine lv_iload hx hb dX8_sets_112 (lv_at hl 4 rfl) ?_
                                  refine lv_if_ne (tgt := 171) hx hb dX8_sets_114 (by decide) (fun c_114 => ?_) (fun c_114 => ?_)
                                  ·
                                    refine lv_aload_n hx hb dX8_sets_171 rfl (lv_at hl 0 rfl) ?_
                                    refine va_get (D := D) (ci := 8) (v := .ref (y 21)) (C := RX8) (T := TX8) (N := 52) hx hb hts w_1 hown hK hP 0 rfl rfl 47 (by decide) w_6 (fun _ h9 => h9) rfl dX8_sets_172 ?_
                                    refine lv_iload_n hx hb dX8_sets_175 rfl (lv_at hl 3 rfl) ?_
                                    refine lv_iload hx hb dX8_sets_176 (lv_at hl 4 rfl) ?_
                                    refine sv_zast hx hb hK hP hD hS 5 3 rfl rfl (vp_in_nI (by omega) (by decide)) dX8_sets_178 (fun g_6 H locs eg_6 hP hD hS => ?_)
                                    have eg_6 : g_6 = upd f_y21_73 i_73 l_4_103 := zst eg_6 (by omega) hD_103.b
                                    subst eg_6
                                    have hP : va_P D vwCl [((y 0), .inr (8, [.ref (y 1), .int (nI m_tapeSize), .int m_thrown, .ref (y 2), .int m_cycleMany, .int m_vote, .int m_low, .int m_high, .int m_wear, .int m_spare, .int m_places, .int m_cycleNext, .int m_fault, .int m_faultPlace, .int (nI m_givers), .ref (y 3), .ref (y 4), .int m_giverNext, .int (nI m_children), .ref (y 5), .ref (y 6), .ref (y 7), .ref (y 8), .ref (y 9), .int (nI m_coats), .ref (y 10), .ref (y 11), .ref (y 12), .ref (y 13), .int m_years, .int (nI m_legacies), .ref (y 14), .ref (y 15), .ref (y 16), .ref (y 17), .int m_end, .int m_next, .int m_kind, .int m_which, .int m_place, .int m_read, .ref (y 18), .ref (y 19), .int m_readMany, .int m_readHigh, .ref (y 20), .int (nI m_insideMany), .ref (y 21), .ref (y 22), .ref (y 23), .ref (y 24), .ref (y 25)])), ((y 10), .inl (cI, 40, .inl m_coatSize)), ((y 7), .inl (cI, 16, .inl m_size)), ((y 12), .inl (cZ, 40, .inl m_gone)), ((y 20), .inl (cI, 16, .inl m_inside)), ((y 21), .inl (cZ, 65536, .inl (upd f_y21_73 i_73 l_4_103))), ((y 22), .inl (cZ, 40, .inl m_used))] H := hP
                                    have hD : va_D A [((y 0), .inr (8, [.ref (y 1), .int (nI m_tapeSize), .int m_thrown, .ref (y 2), .int m_cycleMany, .int m_vote, .int m_low, .int m_high, .int m_wear, .int m_spare, .int m_places, .int m_cycleNext, .int m_fault, .int m_faultPlace, .int (nI m_givers), .ref (y 3), .ref (y 4), .int m_giverNext, .int (nI m_children), .ref (y 5), .ref (y 6), .ref (y 7), .ref (y 8), .ref (y 9), .int (nI m_coats), .ref (y 10), .ref (y 11), .ref (y 12), .ref (y 13), .int m_years, .int (nI m_legacies), .ref (y 14), .ref (y 15), .ref (y 16), .ref (y 17), .int m_end, .int m_next, .int m_kind, .int m_which, .int m_place, .int m_read, .ref (y 18), .ref (y 19), .int m_readMany, .int m_readHigh, .ref (y 20), .int (nI m_insideMany), .ref (y 21), .ref (y 22), .ref (y 23), .ref (y 24), .ref (y 25)])), ((y 10), .inl (cI, 40, .inl m_coatSize)), ((y 7), .inl (cI, 16, .inl m_size)), ((y 12), .inl (cZ, 40, .inl m_gone)), ((y 20), .inl (cI, 16, .inl m_inside)), ((y 21), .inl (cZ, 65536, .inl (upd f_y21_73 i_73 l_4_103))), ((y 22), .inl (cZ, 40, .inl m_used))] := hD
                                    refine lv_iinc (v := nI (i_73 - 1)) (lv' := [(3, .int (nI (i_73 - 1))), (0, .ref (y 0)), (1, .int (nI am)), (2, .int (nI i_35)), (4, .int l_4_103), (5, .int (nI i_103))]) hx hb dX8_sets_179 hl (k := 3) rfl (nI_dec hb_73) (by decide) rfl (fun ls hl => ?_)
                                    refine lv_goto (tgt := 73) hx hb dX8_sets_182 (by decide) ?_
                                    exact ih_L_3 (i_73 - 1) (upd f_y21_73 i_73 l_4_103) _ _ ls (by omega) (by omega) (sC_put b_insideMany hC_73 hb_73 hs_73 ((nI_and1 (by omega) ham).mp c_91) c_83 ⟨c_49, c_58⟩ hD_103 (Or.inr c_114)) hP hD hS (lv_sub hl [1, 2, 3, 0] rfl)
                                  ·
                                    refine lv_iload_n hx hb dX8_sets_117 rfl (lv_at hl 3 rfl) ?_
                                    refine lv_iload hx hb dX8_sets_118 (lv_at hl 5 rfl) ?_
                                    refine sv_ishr (v := (nI i_73) >>> (nI i_103 &&& 31)) hx hb dX8_sets_120 rfl ?_
                                    refine lv_iconst (v := 1) hx hb dX8_sets_121 (by decide) ?_
                                    refine sv_iand (v := bI i_73 i_103) hx hb dX8_sets_122 (bI_shr (by omega) (by omega)) ?_
                                    refine lv_iconst (v := 1) hx hb dX8_sets_123 (by decide) ?_
                                    refine lv_icmp_ne (tgt := 162) hx hb dX8_sets_124 (by decide) (fun c_124 => ?_) (fun c_124 => ?_)
                                    ·
                                      refine lv_iconst (v := 0) hx hb dX8_sets_162 (by decide) ?_
                                      refine lv_istore (lv' := [(4, .int 0), (0, .ref (y 0)), (1, .int (nI am)), (2, .int (nI i_35)), (3, .int (nI i_73)), (5, .int (nI i_103))]) hx hb dX8_sets_163 hl (by decide) rfl (fun ls hl => ?_)
                                      refine lv_iinc (v := nI (i_103 + 1)) (lv' := [(5, .int (nI (i_103 + 1))), (4, .int 0), (0, .ref (y 0)), (1, .int (nI am)), (2, .int (nI i_35)), (3, .int (nI i_73))]) hx hb dX8_sets_165 hl (k := 5) rfl (ax_add _ 1) (by decide) rfl (fun ls hl => ?_)
                                      refine lv_goto (tgt := 103) hx hb dX8_sets_168 (by decide) ?_
                                      exact ih_L_4 (i_103 + 1) 0 _ _ ls (by omega) (by omega) (orD_no hD_103 c_114 (fun h => c_124 (bI_1.mpr h.1))) hP hD hS (lv_sub hl [2, 3, 4, 5, 1, 0] rfl)
                                    ·
                                      refine lv_aload_n hx hb dX8_sets_127 rfl (lv_at hl 0 rfl) ?_
                                      refine va_get (D := D) (ci := 8) (v := .ref (y 21)) (C := RX8) (T := TX8) (N := 52) hx hb hts w_1 hown hK hP 0 rfl rfl 47 (by decide) w_6 (fun _ h9 => h9) rfl dX8_sets_128 ?_
                                      refine lv_iload_n hx hb dX8_sets_131 rfl (lv_at hl 3 rfl) ?_
                                      refine lv_iconst (v := 1) hx hb dX8_sets_132 (by decide) ?_
                                      refine lv_iload hx hb dX8_sets_133 (lv_at hl 5 rfl) ?_
                                      refine sv_ishl (v := 1 <<< (nI i_103 &&& 31)) hx hb dX8_sets_135 rfl ?_
                                      refine lv_iconst (v := (-1)) hx hb dX8_sets_136 (by decide) ?_
                                      refine sv_ixor (v := (1 <<< (nI i_103 &&& 31)) ^^^ (-1)) hx hb dX8_sets_137 rfl ?_
                                      refine sv_iand (v := nI (clr i_73 i_103)) hx hb dX8_sets_138 (clrI (by omega)) ?_
                                      refine sv_zald (v := f_y21_73 (clr i_73 i_103)) hx hb hK hP 5 3 rfl rfl (vp_in_nI (Nat.lt_of_le_of_lt (clr_le _ _) (by omega)) (by decide)) (congrArg _ (nI_clamp (Nat.lt_of_le_of_lt (clr_le _ _) (by omega)))) dX8_sets_139 ?_
                                      refine lv_if_eq (tgt := 162) hx hb dX8_sets_140 (by decide) (fun c_140 => ?_) (fun c_140 => ?_)
                                      ·
                                        refine lv_iconst (v := 0) hx hb dX8_sets_162 (by decide) ?_
                                        refine lv_istore (lv' := [(4, .int 0), (0, .ref (y 0)), (1, .int (nI am)), (2, .int (nI i_35)), (3, .int (nI i_73)), (5, .int (nI i_103))]) hx hb dX8_sets_163 hl (by decide) rfl (fun ls hl => ?_)
                                        refine lv_iinc (v := nI (i_103 + 1)) (lv' := [(5, .int (nI (i_103 + 1))), (4, .int 0), (0, .ref (y 0)), (1, .int (nI am)), (2, .int (nI i_35)), (3, .int (nI i_73))]) hx hb dX8_sets_165 hl (k := 5) rfl (ax_add _ 1) (by decide) rfl (fun ls hl => ?_)
                                        refine lv_goto (tgt := 103) hx hb dX8_sets_168 (by decide) ?_
                                        exact ih_L_4 (i_103 + 1) 0 _ _ ls (by omega) (by omega) (orD_no hD_103 c_114 (fun h => h.2.1 c_140)) hP hD hS (lv_sub hl [2, 3, 4, 5, 1, 0] rfl)
                                      ·
                                        refine lv_aload_n hx hb dX8_sets_143 rfl (lv_at hl 0 rfl) ?_
                                        refine lv_iload_n hx hb dX8_sets_144 rfl (lv_at hl 2 rfl) ?_
                                        refine lv_aload_n hx hb dX8_sets_145 rfl (lv_at hl 0 rfl) ?_
                                        refine va_get (D := D) (ci := 8) (v := .ref (y 20)) (C := RX8) (T := TX8) (N := 52) hx hb hts w_1 hown hK hP 0 rfl rfl 45 (by decide) w_7 (fun _ h9 => h9) rfl dX8_sets_146 ?_
                                        refine lv_iload hx hb dX8_sets_149 (lv_at hl 5 rfl) ?_
                                        refine sv_iald (v := m_inside i_103) hx hb hK hP 4 1 rfl rfl (vp_in_nI (by omega) (by decide)) (congrArg _ (nI_clamp (by omega))) dX8_sets_151 ?_
                                        refine vp_callSi (va_Run.run (va_runV (As := [.int (nI i_35), .int (m_inside i_103)]) (rest := []) ⟨hx, hb, hml, hown, hts⟩ (f_X8_suits l D cB cI cJ cZ y m_tapeSize m_givers m_children m_coats m_legacies m_insideMany m_thrown m_cycleMany m_vote m_low m_high m_wear m_spare m_places m_cycleNext m_fault m_faultPlace m_giverNext m_years m_end m_next m_kind m_which m_place m_read m_readMany m_readHigh m_coatSize m_size (nI i_35) (m_inside i_103) (vp_in_nI (by omega) (by decide)) (hgi i_103 hb_103)) (cwV 2 hts gX8_sets_X8_suits rfl rfl rfl (by decide +kernel) ⟨Nat.le_of_ble_eq_true rfl, Nat.le_of_ble_eq_true rfl⟩) (pre_VR (hP.sub (ws' := [((y 0), .inr (8, [.ref (y 1), .int (nI m_tapeSize), .int m_thrown, .ref (y 2), .int m_cycleMany, .int m_vote, .int m_low, .int m_high, .int m_wear, .int m_spare, .int m_places, .int m_cycleNext, .int m_fault, .int m_faultPlace, .int (nI m_givers), .ref (y 3), .ref (y 4), .int m_giverNext, .int (nI m_children), .ref (y 5), .ref (y 6), .ref (y 7), .ref (y 8), .ref (y 9), .int (nI m_coats), .ref (y 10), .ref (y 11), .ref (y 12), .ref (y 13), .int m_years, .int (nI m_legacies), .ref (y 14), .ref (y 15), .ref (y 16), .ref (y 17), .int m_end, .int m_next, .int m_kind, .int m_which, .int m_place, .int m_read, .ref (y 18), .ref (y 19), .int m_readMany, .int m_readHigh, .ref (y 20), .int (nI m_insideMany), .ref (y 21), .ref (y 22), .ref (y 23), .ref (y 24), .ref (y 25)])), ((y 10), .inl (cI, 40, .inl m_coatSize)), ((y 7), .inl (cI, 16, .inl m_size))]) [0, 1, 2] rfl) hK 0 rfl rfl rfl) rfl rfl hl.1 rfl (lv_room (Nat.le_of_ble_eq_true rfl)) dX8_sets_152 ⟨Nat.le_of_ble_eq_true rfl, Nat.le_of_ble_eq_true rfl⟩)) (fun r_7 hw_r_7 => ?_)
                                        refine lv_if_eq (tgt := 162) hx hb dX8_sets_155 (by decide) (fun c_155 => ?_) (fun c_155 => ?_)
                                        ·
                                          refine lv_iconst (v := 0) hx hb dX8_sets_162 (by decide) ?_
                                          refine lv_istore (lv' := [(4, .int 0), (0, .ref (y 0)), (1, .int (nI am)), (2, .int (nI i_35)), (3, .int (nI i_73)), (5, .int (nI i_103))]) hx hb dX8_sets_163 hl (by decide) rfl (fun ls hl => ?_)
                                          refine lv_iinc (v := nI (i_103 + 1)) (lv' := [(5, .int (nI (i_103 + 1))), (4, .int 0), (0, .ref (y 0)), (1, .int (nI am)), (2, .int (nI i_35)), (3, .int (nI i_73))]) hx hb dX8_sets_165 hl (k := 5) rfl (ax_add _ 1) (by decide) rfl (fun ls hl => ?_)
                                          refine lv_goto (tgt := 103) hx hb dX8_sets_168 (by decide) ?_
                                          exact ih_L_4 (i_103 + 1) 0 _ _ ls (by omega) (by omega) (orD_no hD_103 c_114 (fun h => hw_r_7.eq c_155 h.2.2)) hP hD hS (lv_sub hl [2, 3, 4, 5, 1, 0] rfl)
                                        ·
                                          refine lv_iconst (v := 1) hx hb dX8_sets_158 (by decide) ?_
                                          refine lv_goto (tgt := 163) hx hb dX8_sets_159 (by decide) ?_
                                          refine lv_istore (lv' := [(4, .int 1), (0, .ref (y 0)), (1, .int (nI am)), (2, .int (nI i_35)), (3, .int (nI i_73)), (5, .int (nI i_103))]) hx hb dX8_sets_163 hl (by decide) rfl (fun ls hl => ?_)
                                          refine lv_iinc (v := nI (i_103 + 1)) (lv' := [(5, .int (nI (i_103 + 1))), (4, .int 1), (0, .ref (y 0)), (1, .int (nI am)), (2, .int (nI i_35)), (3, .int (nI i_73))]) hx hb dX8_sets_165 hl (k := 5) rfl (ax_add _ 1) (by decide) rfl (fun ls hl => ?_)
                                          refine lv_goto (tgt := 103) hx hb dX8_sets_168 (by decide) ?_
                                          exact ih_L_4 (i_103 + 1) 1 _ _ ls (by omega) (by omega) (orD_yes ⟨bI_1.mp c_124, c_140, hw_r_7.ne c_155⟩) hP hD hS (lv_sub hl [2, 3, 4, 5, 1, 0] rfl)
                            exact L_4 _ 0 0 _ _ ls (Nat.lt_succ_self _) (by first | exact Nat.zero_le _ | omega) orD_0 hP hD hS (lv_sub hl [2, 3, 4, 5, 1, 0] rfl)
                          ·
                            refine lv_goto (tgt := 179) hx hb dX8_sets_94 (by decide) ?_
                            refine lv_iinc (v := nI (i_73 - 1)) (lv' := [(3, .int (nI (i_73 - 1))), (0, .ref (y 0)), (1, .int (nI am)), (2, .int (nI i_35))]) hx hb dX8_sets_179 hl (k := 3) rfl (nI_dec hb_73) (by decide) rfl (fun ls hl => ?_)
                            refine lv_goto (tgt := 73) hx hb dX8_sets_182 (by decide) ?_
                            exact ih_L_3 (i_73 - 1) f_y21_73 _ _ ls (by omega) (by omega) (sC_out hC_73 hb_73 (fun h => c_91 ((nI_and1 (by omega) ham).mpr h))) hP hD hS (lv_sub hl [1, 2, 3, 0] rfl)
                  exact L_3 _ (2 ^ m_insideMany - 1) f_y21_35 _ _ ls (Nat.lt_succ_self _) (by have := pow_pos2 m_insideMany; omega) (sC_0 hB_35) hP hD hS (lv_sub hl [1, 2, 3, 0] rfl)
                ·
                  refine lv_goto (tgt := 185) hx hb dX8_sets_61 (by decide) ?_
                  refine lv_iinc (v := nI (i_35 + 1)) (lv' := [(2, .int (nI (i_35 + 1))), (0, .ref (y 0)), (1, .int (nI am))]) hx hb dX8_sets_185 hl (k := 2) rfl (ax_add _ 1) (by decide) rfl (fun ls hl => ?_)
                  refine lv_goto (tgt := 35) hx hb dX8_sets_188 (by decide) ?_
                  exact ih_L_2 (i_35 + 1) f_y21_35 _ _ ls (by omega) (by omega) (sB_skip hB_35 (fun h => c_58 h.2)) hP hD hS (lv_sub hl [1, 2, 0] rfl)
        exact L_2 _ 0 f_y21_2 _ _ ls (Nat.lt_succ_self _) (by first | exact Nat.zero_le _ | omega) (sB_0 hA_2 (ge3 (by omega) hle_2 c_9)) hP hD hS (lv_sub hl [1, 2, 0] rfl)
      ·
        have hb_2 : i_2 < 2 ^ m_insideMany := lt3 (by omega) hle_2 c_9
        refine lv_aload_n hx hb dX8_sets_12 rfl (lv_at hl 0 rfl) ?_
        refine va_get (D := D) (ci := 8) (v := .ref (y 21)) (C := RX8) (T := TX8) (N := 52) hx hb hts w_1 hown hK hP 0 rfl rfl 47 (by decide) w_6 (fun _ h9 => h9) rfl dX8_sets_13 ?_
        refine lv_iload_n hx hb dX8_sets_16 rfl (lv_at hl 2 rfl) ?_
        refine lv_iload_n hx hb dX8_sets_17 rfl (lv_at hl 2 rfl) ?_
        refine lv_if_ne (tgt := 25) hx hb dX8_sets_18 (by decide) (fun c_18 => ?_) (fun c_18 => ?_)
        ·
          refine lv_iconst (v := 0) hx hb dX8_sets_25 (by decide) ?_
          refine sv_zast hx hb hK hP hD hS 5 3 rfl rfl (vp_in_nI (by omega) (by decide)) dX8_sets_26 (fun g_8 H locs eg_8 hP hD hS => ?_)
          have eg_8 : g_8 = upd f_y21_2 i_2 0 := zst eg_8 (by omega) (Or.inl rfl)
          subst eg_8
          have hP : va_P D vwCl [((y 0), .inr (8, [.ref (y 1), .int (nI m_tapeSize), .int m_thrown, .ref (y 2), .int m_cycleMany, .int m_vote, .int m_low, .int m_high, .int m_wear, .int m_spare, .int m_places, .int m_cycleNext, .int m_fault, .int m_faultPlace, .int (nI m_givers), .ref (y 3), .ref (y 4), .int m_giverNext, .int (nI m_children), .ref (y 5), .ref (y 6), .ref (y 7), .ref (y 8), .ref (y 9), .int (nI m_coats), .ref (y 10), .ref (y 11), .ref (y 12), .ref (y 13), .int m_years, .int (nI m_legacies), .ref (y 14), .ref (y 15), .ref (y 16), .ref (y 17), .int m_end, .int m_next, .int m_kind, .int m_which, .int m_place, .int m_read, .ref (y 18), .ref (y 19), .int m_readMany, .int m_readHigh, .ref (y 20), .int (nI m_insideMany), .ref (y 21), .ref (y 22), .ref (y 23), .ref (y 24), .ref (y 25)])), ((y 10), .inl (cI, 40, .inl m_coatSize)), ((y 7), .inl (cI, 16, .inl m_size)), ((y 12), .inl (cZ, 40, .inl m_gone)), ((y 20), .inl (cI, 16, .inl m_inside)), ((y 21), .inl (cZ, 65536, .inl (upd f_y21_2 i_2 0))), ((y 22), .inl (cZ, 40, .inl m_used))] H := hP
          have hD : va_D A [((y 0), .inr (8, [.ref (y 1), .int (nI m_tapeSize), .int m_thrown, .ref (y 2), .int m_cycleMany, .int m_vote, .int m_low, .int m_high, .int m_wear, .int m_spare, .int m_places, .int m_cycleNext, .int m_fault, .int m_faultPlace, .int (nI m_givers), .ref (y 3), .ref (y 4), .int m_giverNext, .int (nI m_children), .ref (y 5), .ref (y 6), .ref (y 7), .ref (y 8), .ref (y 9), .int (nI m_coats), .ref (y 10), .ref (y 11), .ref (y 12), .ref (y 13), .int m_years, .int (nI m_legacies), .ref (y 14), .ref (y 15), .ref (y 16), .ref (y 17), .int m_end, .int m_next, .int m_kind, .int m_which, .int m_place, .int m_read, .ref (y 18), .ref (y 19), .int m_readMany, .int m_readHigh, .ref (y 20), .int (nI m_insideMany), .ref (y 21), .ref (y 22), .ref (y 23), .ref (y 24), .ref (y 25)])), ((y 10), .inl (cI, 40, .inl m_coatSize)), ((y 7), .inl (cI, 16, .inl m_size)), ((y 12), .inl (cZ, 40, .inl m_gone)), ((y 20), .inl (cI, 16, .inl m_inside)), ((y 21), .inl (cZ, 65536, .inl (upd f_y21_2 i_2 0))), ((y 22), .inl (cZ, 40, .inl m_used))] := hD
          refine lv_iinc (v := nI (i_2 + 1)) (lv' := [(2, .int (nI (i_2 + 1))), (0, .ref (y 0)), (1, .int (nI am))]) hx hb dX8_sets_27 hl (k := 2) rfl (ax_add _ 1) (by decide) rfl (fun ls hl => ?_)
          refine lv_goto (tgt := 2) hx hb dX8_sets_30 (by decide) ?_
          exact ih_L_1 (i_2 + 1) (upd f_y21_2 i_2 0) _ _ ls (by omega) (by omega) (saA_step hA_2 (saA_n c_18)) hP hD hS (lv_sub hl [1, 2, 0] rfl)
        ·
          refine lv_iconst (v := 1) hx hb dX8_sets_21 (by decide) ?_
          refine lv_goto (tgt := 26) hx hb dX8_sets_22 (by decide) ?_
          refine sv_zast hx hb hK hP hD hS 5 3 rfl rfl (vp_in_nI (by omega) (by decide)) dX8_sets_26 (fun g_9 H locs eg_9 hP hD hS => ?_)
          have eg_9 : g_9 = upd f_y21_2 i_2 1 := zst eg_9 (by omega) (Or.inr rfl)
          subst eg_9
          have hP : va_P D vwCl [((y 0), .inr (8, [.ref (y 1), .int (nI m_tapeSize), .int m_thrown, .ref (y 2), .int m_cycleMany, .int m_vote, .int m_low, .int m_high, .int m_wear, .int m_spare, .int m_places, .int m_cycleNext, .int m_fault, .int m_faultPlace, .int (nI m_givers), .ref (y 3), .ref (y 4), .int m_giverNext, .int (nI m_children), .ref (y 5), .ref (y 6), .ref (y 7), .ref (y 8), .ref (y 9), .int (nI m_coats), .ref (y 10), .ref (y 11), .ref (y 12), .ref (y 13), .int m_years, .int (nI m_legacies), .ref (y 14), .ref (y 15), .ref (y 16), .ref (y 17), .int m_end, .int m_next, .int m_kind, .int m_which, .int m_place, .int m_read, .ref (y 18), .ref (y 19), .int m_readMany, .int m_readHigh, .ref (y 20), .int (nI m_insideMany), .ref (y 21), .ref (y 22), .ref (y 23), .ref (y 24), .ref (y 25)])), ((y 10), .inl (cI, 40, .inl m_coatSize)), ((y 7), .inl (cI, 16, .inl m_size)), ((y 12), .inl (cZ, 40, .inl m_gone)), ((y 20), .inl (cI, 16, .inl m_inside)), ((y 21), .inl (cZ, 65536, .inl (upd f_y21_2 i_2 1))), ((y 22), .inl (cZ, 40, .inl m_used))] H := hP
          have hD : va_D A [((y 0), .inr (8, [.ref (y 1), .int (nI m_tapeSize), .int m_thrown, .ref (y 2), .int m_cycleMany, .int m_vote, .int m_low, .int m_high, .int m_wear, .int m_spare, .int m_places, .int m_cycleNext, .int m_fault, .int m_faultPlace, .int (nI m_givers), .ref (y 3), .ref (y 4), .int m_giverNext, .int (nI m_children), .ref (y 5), .ref (y 6), .ref (y 7), .ref (y 8), .ref (y 9), .int (nI m_coats), .ref (y 10), .ref (y 11), .ref (y 12), .ref (y 13), .int m_years, .int (nI m_legacies), .ref (y 14), .ref (y 15), .ref (y 16), .ref (y 17), .int m_end, .int m_next, .int m_kind, .int m_which, .int m_place, .int m_read, .ref (y 18), .ref (y 19), .int m_readMany, .int m_readHigh, .ref (y 20), .int (nI m_insideMany), .ref (y 21), .ref (y 22), .ref (y 23), .ref (y 24), .ref (y 25)])), ((y 10), .inl (cI, 40, .inl m_coatSize)), ((y 7), .inl (cI, 16, .inl m_size)), ((y 12), .inl (cZ, 40, .inl m_gone)), ((y 20), .inl (cI, 16, .inl m_inside)), ((y 21), .inl (cZ, 65536, .inl (upd f_y21_2 i_2 1))), ((y 22), .inl (cZ, 40, .inl m_used))] := hD
          refine lv_iinc (v := nI (i_2 + 1)) (lv' := [(2, .int (nI (i_2 + 1))), (0, .ref (y 0)), (1, .int (nI am))]) hx hb dX8_sets_27 hl (k := 2) rfl (ax_add _ 1) (by decide) rfl (fun ls hl => ?_)
          refine lv_goto (tgt := 2) hx hb dX8_sets_30 (by decide) ?_
          exact ih_L_1 (i_2 + 1) (upd f_y21_2 i_2 1) _ _ ls (by omega) (by omega) (saA_step hA_2 (saA_y (by omega) c_18)) hP hD hS (lv_sub hl [1, 2, 0] rfl)
  exact L_1 _ 0 m_can _ _ ls (Nat.lt_succ_self _) (by first | exact Nat.zero_le _ | omega) saA_0 hP hD hS (lv_sub hl [1, 2, 0] rfl)

