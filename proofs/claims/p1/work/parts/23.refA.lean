set_option maxHeartbeats 4000000 in
set_option maxRecDepth 100000 in
theorem m_X8_giver (l : Launch) (D : va_G) (cB cI cJ cZ : ClassId) (sz : Nat) (y : Nat → Nat) : Met l yX8_giver wsX8_giver ({ frames := 0, cells := 0, slots := 0, locals := 0 } : Room) (cPre D (aTy cB cI cJ cZ) [((y 0), .inr (8, [.ref (y 1), .int 0, .int 0, .ref (y 2), .int 1, .int 100, .int 7, .int 14, .int 3, .int 1, .int 8, .int 0, .int 0, .int (-1), .int 0, .ref (y 3), .ref (y 4), .int 0, .int 0, .ref (y 5), .ref (y 6), .ref (y 7), .ref (y 8), .ref (y 9), .int 0, .ref (y 10), .ref (y 11), .ref (y 12), .ref (y 13), .int 0, .int 0, .ref (y 14), .ref (y 15), .ref (y 16), .ref (y 17), .int 0, .int 0, .int 0, .int 0, .int 0, .int 0, .ref (y 18), .ref (y 19), .int 0, .int 0, .ref (y 20), .int 0, .ref (y 21), .ref (y 22), .ref (y 23), .ref (y 24), .ref (y 25)])), ((y 3), .inl (cI, 8, .inl (fun _ => 0))), ((y 4), .inl (cI, 8, .inl (fun _ => 0)))] sz [.ref (y 0)]) (va_Qi (fun (r : Int32) (u : Unit) => r = 0) (cB_ D (aTy cB cI cJ cZ) (va_A [((y 0), .inr (8, [.ref (y 1), .int 0, .int 0, .ref (y 2), .int 1, .int 100, .int 7, .int 14, .int 3, .int 1, .int 8, .int 0, .int 0, .int (-1), .int 0, .ref (y 3), .ref (y 4), .int 0, .int 0, .ref (y 5), .ref (y 6), .ref (y 7), .ref (y 8), .ref (y 9), .int 0, .ref (y 10), .ref (y 11), .ref (y 12), .ref (y 13), .int 0, .int 0, .ref (y 14), .ref (y 15), .ref (y 16), .ref (y 17), .int 0, .int 0, .int 0, .int 0, .int 0, .int 0, .ref (y 18), .ref (y 19), .int 0, .int 0, .ref (y 20), .int 0, .ref (y 21), .ref (y 22), .ref (y 23), .ref (y 24), .ref (y 25)])), ((y 3), .inl (cI, 8, .inl (fun _ => 0))), ((y 4), .inl (cI, 8, .inl (fun _ => 0)))] sz) (fun _ => [])) (va_A [((y 0), .inr (8, [.ref (y 1), .int 0, .int 0, .ref (y 2), .int 1, .int 100, .int 7, .int 14, .int 3, .int 1, .int 8, .int 0, .int 0, .int (-1), .int 0, .ref (y 3), .ref (y 4), .int 0, .int 0, .ref (y 5), .ref (y 6), .ref (y 7), .ref (y 8), .ref (y 9), .int 0, .ref (y 10), .ref (y 11), .ref (y 12), .ref (y 13), .int 0, .int 0, .ref (y 14), .ref (y 15), .ref (y 16), .ref (y 17), .int 0, .int 0, .int 0, .int 0, .int 0, .int 0, .ref (y 18), .ref (y 19), .int 0, .int 0, .ref (y 20), .int 0, .ref (y 21), .ref (y 22), .ref (y 23), .ref (y 24), .ref (y 25)])), ((y 3), .inl (cI, 8, .inl (fun _ => 0))), ((y 4), .inl (cI, 8, .inl (fun _ => 0)))] sz)) 0 0 (va_A [((y 0), .inr (8, [.ref (y 1), .int 0, .int 0, .ref (y 2), .int 1, .int 100, .int 7, .int 14, .int 3, .int 1, .int 8, .int 0, .int 0, .int (-1), .int 0, .ref (y 3), .ref (y 4), .int 0, .int 0, .ref (y 5), .ref (y 6), .ref (y 7), .ref (y 8), .ref (y 9), .int 0, .ref (y 10), .ref (y 11), .ref (y 12), .ref (y 13), .int 0, .int 0, .ref (y 14), .ref (y 15), .ref (y 16), .ref (y 17), .int 0, .int 0, .int 0, .int 0, .int 0, .int 0, .ref (y 18), .ref (y 19), .int 0, .int 0, .ref (y 20), .int 0, .ref (y 21), .ref (y 22), .ref (y 23), .ref (y 24), .ref (y 25)])), ((y 3), .inl (cI, 8, .inl (fun _ => 0))), ((y 4), .inl (cI, 8, .inl (fun _ => 0)))] sz) := by
  refine Met.ofW (cc := cX8_giver) (maxL := 1) (ret := (some .int)) (by decide) rfl ?_
  intro p e s m args below meth c s₁ B hml hv
  obtain ⟨rfl, hsz, hP, hK, hD0⟩ := hv
  have hx := B.exec
  have hb := B.bytes
  have hr := B.returns
  have hts := atoms_spec (ws := wsX8_giver) B.pre
  have hown : s.vm.findClass RX8 = some m.cls := findClass_of_methodNamed B.named
  have hlocks := B.notSynchronized
  subst hsz
  have hD := hD0.self (sz := s.heap.size)
  generalize hAe : va_A [((y 0), .inr (8, [.ref (y 1), .int 0, .int 0, .ref (y 2), .int 1, .int 100, .int 7, .int 14, .int 3, .int 1, .int 8, .int 0, .int 0, .int (-1), .int 0, .ref (y 3), .ref (y 4), .int 0, .int 0, .ref (y 5), .ref (y 6), .ref (y 7), .ref (y 8), .ref (y 9), .int 0, .ref (y 10), .ref (y 11), .ref (y 12), .ref (y 13), .int 0, .int 0, .ref (y 14), .ref (y 15), .ref (y 16), .ref (y 17), .int 0, .int 0, .int 0, .int 0, .int 0, .int 0, .ref (y 18), .ref (y 19), .int 0, .int 0, .ref (y 20), .int 0, .ref (y 21), .ref (y 22), .ref (y 23), .ref (y 24), .ref (y 25)])), ((y 3), .inl (cI, 8, .inl (fun _ => 0))), ((y 4), .inl (cI, 8, .inl (fun _ => 0)))] s.heap.size = A at hD ⊢
  have hA : ∀ q : Nat, s.heap.size ≤ q → A q := fun q h => by rw [← hAe]; exact Or.inr h
  have hS : va_S A s.heap s.heap [] := va_S.rf
  have hP : va_P D vwCl [((y 0), .inr (8, [.ref (y 1), .int 0, .int 0, .ref (y 2), .int 1, .int 100, .int 7, .int 14, .int 3, .int 1, .int 8, .int 0, .int 0, .int (-1), .int 0, .ref (y 3), .ref (y 4), .int 0, .int 0, .ref (y 5), .ref (y 6), .ref (y 7), .ref (y 8), .ref (y 9), .int 0, .ref (y 10), .ref (y 11), .ref (y 12), .ref (y 13), .int 0, .int 0, .ref (y 14), .ref (y 15), .ref (y 16), .ref (y 17), .int 0, .int 0, .int 0, .int 0, .int 0, .int 0, .ref (y 18), .ref (y 19), .int 0, .int 0, .ref (y 20), .int 0, .ref (y 21), .ref (y 22), .ref (y 23), .ref (y 24), .ref (y 25)])), ((y 3), .inl (cI, 8, .inl (fun _ => 0))), ((y 4), .inl (cI, 8, .inl (fun _ => 0)))] s.heap := hP
  have w_1 : ∀ w ∈ wsX80, w ∈ wsX8_giver := by decide +kernel
  have w_2 := hts (Cond.fieldLink RX8 112 "BlueCoatsModel" "thrown" "I") (by decide +kernel)
  have w_3 := hts (Cond.fieldLink RX8 177 "BlueCoatsModel" "givers" "I") (by decide +kernel)
  have w_4 := hts (Cond.fieldLink RX8 41 "BlueCoatsModel" "gave" "[I") (by decide +kernel)
  have w_5 := hts (Cond.fieldLink RX8 44 "BlueCoatsModel" "supports" "[I") (by decide +kernel)
  have hl := lv_entry ([.ref (y 0)]) (n := 1) (Nat.le_of_ble_eq_true rfl)
  rw [lg_entry_eq]
  generalize (lg_sl ([.ref (y 0)]) ++ List.replicate (1 - (lg_sl ([.ref (y 0)])).length) Slot.unset).toArray = ls at hl ⊢
  have hl : lv_has ls 1 [(0, .ref (y 0))] := hl
  refine lv_aload_n hx hb dX8_giver_0 rfl (lv_at hl 0 rfl) ?_
  refine lv_iconst (v := 0) hx hb dX8_giver_1 (by decide) ?_
  refine va_put (D := D) (ci := 8) (v := .int 0) (ty := .int) (C := RX8) (T := TX8) (N := 52) hx hb hts w_1 tyX8 tyX8_ok nmX8 hown hK hP hD hS 0 rfl rfl 2 (by decide) w_2 (fun _ h9 => h9) rfl (by decide +kernel) rfl rfl (Nat.le_of_ble_eq_true rfl) dX8_giver_2 (fun H locs hP hD hS => ?_)
  have hP : va_P D vwCl [((y 0), .inr (8, [.ref (y 1), .int 0, .int 0, .ref (y 2), .int 1, .int 100, .int 7, .int 14, .int 3, .int 1, .int 8, .int 0, .int 0, .int (-1), .int 0, .ref (y 3), .ref (y 4), .int 0, .int 0, .ref (y 5), .ref (y 6), .ref (y 7), .ref (y 8), .ref (y 9), .int 0, .ref (y 10), .ref (y 11), .ref (y 12), .ref (y 13), .int 0, .int 0, .ref (y 14), .ref (y 15), .ref (y 16), .ref (y 17), .int 0, .int 0, .int 0, .int 0, .int 0, .int 0, .ref (y 18), .ref (y 19), .int 0, .int 0, .ref (y 20), .int 0, .ref (y 21), .ref (y 22), .ref (y 23), .ref (y 24), .ref (y 25)])), ((y 3), .inl (cI, 8, .inl (fun _ => 0))), ((y 4), .inl (cI, 8, .inl (fun _ => 0)))] H := hP
  have hD : va_D A [((y 0), .inr (8, [.ref (y 1), .int 0, .int 0, .ref (y 2), .int 1, .int 100, .int 7, .int 14, .int 3, .int 1, .int 8, .int 0, .int 0, .int (-1), .int 0, .ref (y 3), .ref (y 4), .int 0, .int 0, .ref (y 5), .ref (y 6), .ref (y 7), .ref (y 8), .ref (y 9), .int 0, .ref (y 10), .ref (y 11), .ref (y 12), .ref (y 13), .int 0, .int 0, .ref (y 14), .ref (y 15), .ref (y 16), .ref (y 17), .int 0, .int 0, .int 0, .int 0, .int 0, .int 0, .ref (y 18), .ref (y 19), .int 0, .int 0, .ref (y 20), .int 0, .ref (y 21), .ref (y 22), .ref (y 23), .ref (y 24), .ref (y 25)])), ((y 3), .inl (cI, 8, .inl (fun _ => 0))), ((y 4), .inl (cI, 8, .inl (fun _ => 0)))] := hD
  refine lv_aload_n hx hb dX8_giver_5 rfl (lv_at hl 0 rfl) ?_
  refine va_get (D := D) (ci := 8) (v := .int 0) (C := RX8) (T := TX8) (N := 52) hx hb hts w_1 hown hK hP 0 rfl rfl 14 (by decide) w_3 (fun _ h9 => h9) rfl dX8_giver_6 ?_
  refine lv_bipush (v := 8) hx hb dX8_giver_9 (by decide) ?_
  refine lv_icmp_ne (tgt := 16) hx hb dX8_giver_11 (by decide) (fun _ => ?_) (fun h => absurd h (by decide))
  refine lv_aload_n hx hb dX8_giver_16 rfl (lv_at hl 0 rfl) ?_
  refine va_get (D := D) (ci := 8) (v := .ref (y 3)) (C := RX8) (T := TX8) (N := 52) hx hb hts w_1 hown hK hP 0 rfl rfl 15 (by decide) w_4 (fun _ h9 => h9) rfl dX8_giver_17 ?_
  refine lv_aload_n hx hb dX8_giver_20 rfl (lv_at hl 0 rfl) ?_
  refine va_get (D := D) (ci := 8) (v := .int 0) (C := RX8) (T := TX8) (N := 52) hx hb hts w_1 hown hK hP 0 rfl rfl 14 (by decide) w_3 (fun _ h9 => h9) rfl dX8_giver_21 ?_
  refine lv_iconst (v := 0) hx hb dX8_giver_24 (by decide) ?_
  refine sv_iast hx hb hK hP hD hS 1 1 rfl rfl (vp_in_iff.mpr (by decide)) dX8_giver_25 (fun g_1 H locs eg_1 hP hD hS => ?_)
  have hP : va_P D vwCl [((y 0), .inr (8, [.ref (y 1), .int 0, .int 0, .ref (y 2), .int 1, .int 100, .int 7, .int 14, .int 3, .int 1, .int 8, .int 0, .int 0, .int (-1), .int 0, .ref (y 3), .ref (y 4), .int 0, .int 0, .ref (y 5), .ref (y 6), .ref (y 7), .ref (y 8), .ref (y 9), .int 0, .ref (y 10), .ref (y 11), .ref (y 12), .ref (y 13), .int 0, .int 0, .ref (y 14), .ref (y 15), .ref (y 16), .ref (y 17), .int 0, .int 0, .int 0, .int 0, .int 0, .int 0, .ref (y 18), .ref (y 19), .int 0, .int 0, .ref (y 20), .int 0, .ref (y 21), .ref (y 22), .ref (y 23), .ref (y 24), .ref (y 25)])), ((y 3), .inl (cI, 8, .inl g_1)), ((y 4), .inl (cI, 8, .inl (fun _ => 0)))] H := hP
  have hD : va_D A [((y 0), .inr (8, [.ref (y 1), .int 0, .int 0, .ref (y 2), .int 1, .int 100, .int 7, .int 14, .int 3, .int 1, .int 8, .int 0, .int 0, .int (-1), .int 0, .ref (y 3), .ref (y 4), .int 0, .int 0, .ref (y 5), .ref (y 6), .ref (y 7), .ref (y 8), .ref (y 9), .int 0, .ref (y 10), .ref (y 11), .ref (y 12), .ref (y 13), .int 0, .int 0, .ref (y 14), .ref (y 15), .ref (y 16), .ref (y 17), .int 0, .int 0, .int 0, .int 0, .int 0, .int 0, .ref (y 18), .ref (y 19), .int 0, .int 0, .ref (y 20), .int 0, .ref (y 21), .ref (y 22), .ref (y 23), .ref (y 24), .ref (y 25)])), ((y 3), .inl (cI, 8, .inl g_1)), ((y 4), .inl (cI, 8, .inl (fun _ => 0)))] := hD
  refine lv_aload_n hx hb dX8_giver_26 rfl (lv_at hl 0 rfl) ?_
  refine va_get (D := D) (ci := 8) (v := .ref (y 4)) (C := RX8) (T := TX8) (N := 52) hx hb hts w_1 hown hK hP 0 rfl rfl 16 (by decide) w_5 (fun _ h9 => h9) rfl dX8_giver_27 ?_
  refine lv_aload_n hx hb dX8_giver_30 rfl (lv_at hl 0 rfl) ?_
  refine va_get (D := D) (ci := 8) (v := .int 0) (C := RX8) (T := TX8) (N := 52) hx hb hts w_1 hown hK hP 0 rfl rfl 14 (by decide) w_3 (fun _ h9 => h9) rfl dX8_giver_31 ?_
  refine lv_iconst (v := (-1)) hx hb dX8_giver_34 (by decide) ?_
  refine sv_iast hx hb hK hP hD hS 2 1 rfl rfl (vp_in_iff.mpr (by decide)) dX8_giver_35 (fun g_2 H locs eg_2 hP hD hS => ?_)
  have hP : va_P D vwCl [((y 0), .inr (8, [.ref (y 1), .int 0, .int 0, .ref (y 2), .int 1, .int 100, .int 7, .int 14, .int 3, .int 1, .int 8, .int 0, .int 0, .int (-1), .int 0, .ref (y 3), .ref (y 4), .int 0, .int 0, .ref (y 5), .ref (y 6), .ref (y 7), .ref (y 8), .ref (y 9), .int 0, .ref (y 10), .ref (y 11), .ref (y 12), .ref (y 13), .int 0, .int 0, .ref (y 14), .ref (y 15), .ref (y 16), .ref (y 17), .int 0, .int 0, .int 0, .int 0, .int 0, .int 0, .ref (y 18), .ref (y 19), .int 0, .int 0, .ref (y 20), .int 0, .ref (y 21), .ref (y 22), .ref (y 23), .ref (y 24), .ref (y 25)])), ((y 3), .inl (cI, 8, .inl g_1)), ((y 4), .inl (cI, 8, .inl g_2))] H := hP
  have hD : va_D A [((y 0), .inr (8, [.ref (y 1), .int 0, .int 0, .ref (y 2), .int 1, .int 100, .int 7, .int 14, .int 3, .int 1, .int 8, .int 0, .int 0, .int (-1), .int 0, .ref (y 3), .ref (y 4), .int 0, .int 0, .ref (y 5), .ref (y 6), .ref (y 7), .ref (y 8), .ref (y 9), .int 0, .ref (y 10), .ref (y 11), .ref (y 12), .ref (y 13), .int 0, .int 0, .ref (y 14), .ref (y 15), .ref (y 16), .ref (y 17), .int 0, .int 0, .int 0, .int 0, .int 0, .int 0, .ref (y 18), .ref (y 19), .int 0, .int 0, .ref (y 20), .int 0, .ref (y 21), .ref (y 22), .ref (y 23), .ref (y 24), .ref (y 25)])), ((y 3), .inl (cI, 8, .inl g_1)), ((y 4), .inl (cI, 8, .inl g_2))] := hD
  refine lv_aload_n hx hb dX8_giver_36 rfl (lv_at hl 0 rfl) ?_
  refine lv_dup hx hb dX8_giver_37 rfl ?_
  refine va_get (D := D) (ci := 8) (v := .int 0) (C := RX8) (T := TX8) (N := 52) hx hb hts w_1 hown hK hP 0 rfl rfl 14 (by decide) w_3 (fun _ h9 => h9) rfl dX8_giver_38 ?_
  refine lv_iconst (v := 1) hx hb dX8_giver_41 (by decide) ?_
  refine sv_iadd (v := 1) hx hb dX8_giver_42 (by decide) ?_
  refine va_put (D := D) (ci := 8) (v := .int 1) (ty := .int) (C := RX8) (T := TX8) (N := 52) hx hb hts w_1 tyX8 tyX8_ok nmX8 hown hK hP hD hS 0 rfl rfl 14 (by decide) w_3 (fun _ h9 => h9) rfl (by decide +kernel) rfl rfl (Nat.le_of_ble_eq_true rfl) dX8_giver_43 (fun H locs hP hD hS => ?_)
  have hP : va_P D vwCl [((y 0), .inr (8, [.ref (y 1), .int 0, .int 0, .ref (y 2), .int 1, .int 100, .int 7, .int 14, .int 3, .int 1, .int 8, .int 0, .int 0, .int (-1), .int 1, .ref (y 3), .ref (y 4), .int 0, .int 0, .ref (y 5), .ref (y 6), .ref (y 7), .ref (y 8), .ref (y 9), .int 0, .ref (y 10), .ref (y 11), .ref (y 12), .ref (y 13), .int 0, .int 0, .ref (y 14), .ref (y 15), .ref (y 16), .ref (y 17), .int 0, .int 0, .int 0, .int 0, .int 0, .int 0, .ref (y 18), .ref (y 19), .int 0, .int 0, .ref (y 20), .int 0, .ref (y 21), .ref (y 22), .ref (y 23), .ref (y 24), .ref (y 25)])), ((y 3), .inl (cI, 8, .inl g_1)), ((y 4), .inl (cI, 8, .inl g_2))] H := hP
  have hD : va_D A [((y 0), .inr (8, [.ref (y 1), .int 0, .int 0, .ref (y 2), .int 1, .int 100, .int 7, .int 14, .int 3, .int 1, .int 8, .int 0, .int 0, .int (-1), .int 1, .ref (y 3), .ref (y 4), .int 0, .int 0, .ref (y 5), .ref (y 6), .ref (y 7), .ref (y 8), .ref (y 9), .int 0, .ref (y 10), .ref (y 11), .ref (y 12), .ref (y 13), .int 0, .int 0, .ref (y 14), .ref (y 15), .ref (y 16), .ref (y 17), .int 0, .int 0, .int 0, .int 0, .int 0, .int 0, .ref (y 18), .ref (y 19), .int 0, .int 0, .ref (y 20), .int 0, .ref (y 21), .ref (y 22), .ref (y 23), .ref (y 24), .ref (y 25)])), ((y 3), .inl (cI, 8, .inl g_1)), ((y 4), .inl (cI, 8, .inl g_2))] := hD
  refine lv_aload_n hx hb dX8_giver_46 rfl (lv_at hl 0 rfl) ?_
  refine va_get (D := D) (ci := 8) (v := .int 1) (C := RX8) (T := TX8) (N := 52) hx hb hts w_1 hown hK hP 0 rfl rfl 14 (by decide) w_3 (fun _ h9 => h9) rfl dX8_giver_47 ?_
  refine lv_iconst (v := 1) hx hb dX8_giver_50 (by decide) ?_
  refine sv_isub (v := 0) hx hb dX8_giver_51 (by decide) ?_
  have hP9 := hP.sub (ws' := []) [] rfl
  have hD9 := hD.sub (ws' := []) [] (by decide) rfl
  exact W.iret (v := 0) hx hb hr (fun t ht hW => ⟨⟨_, (), rfl, rfl, by rw [ht]; exact hP9, va_K.moved hW.alike hK, hD9⟩, hS.F ht⟩) hS.2.2 dX8_giver_52

set_option maxHeartbeats 4000000 in
set_option maxRecDepth 100000 in
theorem m_X8_gift (l : Launch) (D : va_G) (cB cI cJ cZ : ClassId) (sz : Nat) (y : Nat → Nat) (g n : Int32) : Met l yX8_gift wsX8_gift ({ frames := 0, cells := 0, slots := 0, locals := 0 } : Room) (cPre D (aTy cB cI cJ cZ) [((y 0), .inr (8, [.ref (y 1), .int 0, .int 0, .ref (y 2), .int 1, .int 100, .int 7, .int 14, .int 3, .int 1, .int 8, .int 0, .int 0, .int (-1), .int 0, .ref (y 3), .ref (y 4), .int 0, .int 0, .ref (y 5), .ref (y 6), .ref (y 7), .ref (y 8), .ref (y 9), .int 0, .ref (y 10), .ref (y 11), .ref (y 12), .ref (y 13), .int 0, .int 0, .ref (y 14), .ref (y 15), .ref (y 16), .ref (y 17), .int 0, .int 0, .int 0, .int 0, .int 0, .int 0, .ref (y 18), .ref (y 19), .int 0, .int 0, .ref (y 20), .int 0, .ref (y 21), .ref (y 22), .ref (y 23), .ref (y 24), .ref (y 25)]))] sz [.ref (y 0), .int g, .int n]) (va_Qi (fun (r : Int32) (u : Unit) => r = -1) (cB_ D (aTy cB cI cJ cZ) (va_A [((y 0), .inr (8, [.ref (y 1), .int 0, .int 0, .ref (y 2), .int 1, .int 100, .int 7, .int 14, .int 3, .int 1, .int 8, .int 0, .int 0, .int (-1), .int 0, .ref (y 3), .ref (y 4), .int 0, .int 0, .ref (y 5), .ref (y 6), .ref (y 7), .ref (y 8), .ref (y 9), .int 0, .ref (y 10), .ref (y 11), .ref (y 12), .ref (y 13), .int 0, .int 0, .ref (y 14), .ref (y 15), .ref (y 16), .ref (y 17), .int 0, .int 0, .int 0, .int 0, .int 0, .int 0, .ref (y 18), .ref (y 19), .int 0, .int 0, .ref (y 20), .int 0, .ref (y 21), .ref (y 22), .ref (y 23), .ref (y 24), .ref (y 25)]))] sz) (fun _ => [])) (va_A [((y 0), .inr (8, [.ref (y 1), .int 0, .int 0, .ref (y 2), .int 1, .int 100, .int 7, .int 14, .int 3, .int 1, .int 8, .int 0, .int 0, .int (-1), .int 0, .ref (y 3), .ref (y 4), .int 0, .int 0, .ref (y 5), .ref (y 6), .ref (y 7), .ref (y 8), .ref (y 9), .int 0, .ref (y 10), .ref (y 11), .ref (y 12), .ref (y 13), .int 0, .int 0, .ref (y 14), .ref (y 15), .ref (y 16), .ref (y 17), .int 0, .int 0, .int 0, .int 0, .int 0, .int 0, .ref (y 18), .ref (y 19), .int 0, .int 0, .ref (y 20), .int 0, .ref (y 21), .ref (y 22), .ref (y 23), .ref (y 24), .ref (y 25)]))] sz)) 0 0 (va_A [((y 0), .inr (8, [.ref (y 1), .int 0, .int 0, .ref (y 2), .int 1, .int 100, .int 7, .int 14, .int 3, .int 1, .int 8, .int 0, .int 0, .int (-1), .int 0, .ref (y 3), .ref (y 4), .int 0, .int 0, .ref (y 5), .ref (y 6), .ref (y 7), .ref (y 8), .ref (y 9), .int 0, .ref (y 10), .ref (y 11), .ref (y 12), .ref (y 13), .int 0, .int 0, .ref (y 14), .ref (y 15), .ref (y 16), .ref (y 17), .int 0, .int 0, .int 0, .int 0, .int 0, .int 0, .ref (y 18), .ref (y 19), .int 0, .int 0, .ref (y 20), .int 0, .ref (y 21), .ref (y 22), .ref (y 23), .ref (y 24), .ref (y 25)]))] sz) := by
  refine Met.ofW (cc := cX8_gift) (maxL := 3) (ret := (some .int)) (by decide) rfl ?_
  intro p e s m args below meth c s₁ B hml hv
  obtain ⟨rfl, hsz, hP, hK, hD0⟩ := hv
  have hx := B.exec
  have hb := B.bytes
  have hr := B.returns
  have hts := atoms_spec (ws := wsX8_gift) B.pre
  have hown : s.vm.findClass RX8 = some m.cls := findClass_of_methodNamed B.named
  have hlocks := B.notSynchronized
  subst hsz
  have hD := hD0.self (sz := s.heap.size)
  generalize hAe : va_A [((y 0), .inr (8, [.ref (y 1), .int 0, .int 0, .ref (y 2), .int 1, .int 100, .int 7, .int 14, .int 3, .int 1, .int 8, .int 0, .int 0, .int (-1), .int 0, .ref (y 3), .ref (y 4), .int 0, .int 0, .ref (y 5), .ref (y 6), .ref (y 7), .ref (y 8), .ref (y 9), .int 0, .ref (y 10), .ref (y 11), .ref (y 12), .ref (y 13), .int 0, .int 0, .ref (y 14), .ref (y 15), .ref (y 16), .ref (y 17), .int 0, .int 0, .int 0, .int 0, .int 0, .int 0, .ref (y 18), .ref (y 19), .int 0, .int 0, .ref (y 20), .int 0, .ref (y 21), .ref (y 22), .ref (y 23), .ref (y 24), .ref (y 25)]))] s.heap.size = A at hD ⊢
  have hA : ∀ q : Nat, s.heap.size ≤ q → A q := fun q h => by rw [← hAe]; exact Or.inr h
  have hS : va_S A s.heap s.heap [] := va_S.rf
  have hP : va_P D vwCl [((y 0), .inr (8, [.ref (y 1), .int 0, .int 0, .ref (y 2), .int 1, .int 100, .int 7, .int 14, .int 3, .int 1, .int 8, .int 0, .int 0, .int (-1), .int 0, .ref (y 3), .ref (y 4), .int 0, .int 0, .ref (y 5), .ref (y 6), .ref (y 7), .ref (y 8), .ref (y 9), .int 0, .ref (y 10), .ref (y 11), .ref (y 12), .ref (y 13), .int 0, .int 0, .ref (y 14), .ref (y 15), .ref (y 16), .ref (y 17), .int 0, .int 0, .int 0, .int 0, .int 0, .int 0, .ref (y 18), .ref (y 19), .int 0, .int 0, .ref (y 20), .int 0, .ref (y 21), .ref (y 22), .ref (y 23), .ref (y 24), .ref (y 25)]))] s.heap := hP
  have w_1 : ∀ w ∈ wsX80, w ∈ wsX8_gift := by decide +kernel
  have w_2 := hts (Cond.fieldLink RX8 112 "BlueCoatsModel" "thrown" "I") (by decide +kernel)
  have w_3 := hts (Cond.fieldLink RX8 177 "BlueCoatsModel" "givers" "I") (by decide +kernel)
  have hl := lv_entry ([.ref (y 0), .int g, .int n]) (n := 3) (Nat.le_of_ble_eq_true rfl)
  rw [lg_entry_eq]
  generalize (lg_sl ([.ref (y 0), .int g, .int n]) ++ List.replicate (3 - (lg_sl ([.ref (y 0), .int g, .int n])).length) Slot.unset).toArray = ls at hl ⊢
  have hl : lv_has ls 3 [(0, .ref (y 0)), (1, .int g), (2, .int n)] := hl
  refine lv_aload_n hx hb dX8_gift_0 rfl (lv_at hl 0 rfl) ?_
  refine lv_iconst (v := 0) hx hb dX8_gift_1 (by decide) ?_
  refine va_put (D := D) (ci := 8) (v := .int 0) (ty := .int) (C := RX8) (T := TX8) (N := 52) hx hb hts w_1 tyX8 tyX8_ok nmX8 hown hK hP hD hS 0 rfl rfl 2 (by decide) w_2 (fun _ h9 => h9) rfl (by decide +kernel) rfl rfl (Nat.le_of_ble_eq_true rfl) dX8_gift_2 (fun H locs hP hD hS => ?_)
  have hP : va_P D vwCl [((y 0), .inr (8, [.ref (y 1), .int 0, .int 0, .ref (y 2), .int 1, .int 100, .int 7, .int 14, .int 3, .int 1, .int 8, .int 0, .int 0, .int (-1), .int 0, .ref (y 3), .ref (y 4), .int 0, .int 0, .ref (y 5), .ref (y 6), .ref (y 7), .ref (y 8), .ref (y 9), .int 0, .ref (y 10), .ref (y 11), .ref (y 12), .ref (y 13), .int 0, .int 0, .ref (y 14), .ref (y 15), .ref (y 16), .ref (y 17), .int 0, .int 0, .int 0, .int 0, .int 0, .int 0, .ref (y 18), .ref (y 19), .int 0, .int 0, .ref (y 20), .int 0, .ref (y 21), .ref (y 22), .ref (y 23), .ref (y 24), .ref (y 25)]))] H := hP
  have hD : va_D A [((y 0), .inr (8, [.ref (y 1), .int 0, .int 0, .ref (y 2), .int 1, .int 100, .int 7, .int 14, .int 3, .int 1, .int 8, .int 0, .int 0, .int (-1), .int 0, .ref (y 3), .ref (y 4), .int 0, .int 0, .ref (y 5), .ref (y 6), .ref (y 7), .ref (y 8), .ref (y 9), .int 0, .ref (y 10), .ref (y 11), .ref (y 12), .ref (y 13), .int 0, .int 0, .ref (y 14), .ref (y 15), .ref (y 16), .ref (y 17), .int 0, .int 0, .int 0, .int 0, .int 0, .int 0, .ref (y 18), .ref (y 19), .int 0, .int 0, .ref (y 20), .int 0, .ref (y 21), .ref (y 22), .ref (y 23), .ref (y 24), .ref (y 25)]))] := hD
  refine lv_iload_n hx hb dX8_gift_5 rfl (lv_at hl 1 rfl) ?_
  refine lv_if_lt (tgt := 35) hx hb dX8_gift_6 (by decide) (fun c_6 => ?_) (fun c_6 => ?_)
  ·
    refine lv_iconst (v := (-1)) hx hb dX8_gift_35 (by decide) ?_
    have hP9 := hP.sub (ws' := []) [] rfl
    have hD9 := hD.sub (ws' := []) [] (by decide) rfl
    exact W.iret (v := (-1)) hx hb hr (fun t ht hW => ⟨⟨_, (), rfl, rfl, by rw [ht]; exact hP9, va_K.moved hW.alike hK, hD9⟩, hS.F ht⟩) hS.2.2 dX8_gift_36
  ·
    refine lv_iload_n hx hb dX8_gift_9 rfl (lv_at hl 1 rfl) ?_
    refine lv_aload_n hx hb dX8_gift_10 rfl (lv_at hl 0 rfl) ?_
    refine va_get (D := D) (ci := 8) (v := .int 0) (C := RX8) (T := TX8) (N := 52) hx hb hts w_1 hown hK hP 0 rfl rfl 14 (by decide) w_3 (fun _ h9 => h9) rfl dX8_gift_11 ?_
    refine lv_icmp_ge (tgt := 35) hx hb dX8_gift_14 (by decide) (fun _ => ?_) (fun h => absurd (Int32.not_lt.mp c_6) h)
    refine lv_iconst (v := (-1)) hx hb dX8_gift_35 (by decide) ?_
    have hP9 := hP.sub (ws' := []) [] rfl
    have hD9 := hD.sub (ws' := []) [] (by decide) rfl
    exact W.iret (v := (-1)) hx hb hr (fun t ht hW => ⟨⟨_, (), rfl, rfl, by rw [ht]; exact hP9, va_K.moved hW.alike hK, hD9⟩, hS.F ht⟩) hS.2.2 dX8_gift_36

set_option maxHeartbeats 4000000 in
set_option maxRecDepth 100000 in
theorem m_X8_support (l : Launch) (D : va_G) (cB cI cJ cZ : ClassId) (sz : Nat) (y : Nat → Nat) (g n : Int32) : Met l yX8_support wsX8_support ({ frames := 0, cells := 0, slots := 0, locals := 0 } : Room) (cPre D (aTy cB cI cJ cZ) [((y 0), .inr (8, [.ref (y 1), .int 0, .int 0, .ref (y 2), .int 1, .int 100, .int 7, .int 14, .int 3, .int 1, .int 8, .int 0, .int 0, .int (-1), .int 0, .ref (y 3), .ref (y 4), .int 0, .int 0, .ref (y 5), .ref (y 6), .ref (y 7), .ref (y 8), .ref (y 9), .int 0, .ref (y 10), .ref (y 11), .ref (y 12), .ref (y 13), .int 0, .int 0, .ref (y 14), .ref (y 15), .ref (y 16), .ref (y 17), .int 0, .int 0, .int 0, .int 0, .int 0, .int 0, .ref (y 18), .ref (y 19), .int 0, .int 0, .ref (y 20), .int 0, .ref (y 21), .ref (y 22), .ref (y 23), .ref (y 24), .ref (y 25)]))] sz [.ref (y 0), .int g, .int n]) (va_Qi (fun (r : Int32) (u : Unit) => r = 0) (cB_ D (aTy cB cI cJ cZ) (va_A [((y 0), .inr (8, [.ref (y 1), .int 0, .int 0, .ref (y 2), .int 1, .int 100, .int 7, .int 14, .int 3, .int 1, .int 8, .int 0, .int 0, .int (-1), .int 0, .ref (y 3), .ref (y 4), .int 0, .int 0, .ref (y 5), .ref (y 6), .ref (y 7), .ref (y 8), .ref (y 9), .int 0, .ref (y 10), .ref (y 11), .ref (y 12), .ref (y 13), .int 0, .int 0, .ref (y 14), .ref (y 15), .ref (y 16), .ref (y 17), .int 0, .int 0, .int 0, .int 0, .int 0, .int 0, .ref (y 18), .ref (y 19), .int 0, .int 0, .ref (y 20), .int 0, .ref (y 21), .ref (y 22), .ref (y 23), .ref (y 24), .ref (y 25)]))] sz) (fun _ => [])) (va_A [((y 0), .inr (8, [.ref (y 1), .int 0, .int 0, .ref (y 2), .int 1, .int 100, .int 7, .int 14, .int 3, .int 1, .int 8, .int 0, .int 0, .int (-1), .int 0, .ref (y 3), .ref (y 4), .int 0, .int 0, .ref (y 5), .ref (y 6), .ref (y 7), .ref (y 8), .ref (y 9), .int 0, .ref (y 10), .ref (y 11), .ref (y 12), .ref (y 13), .int 0, .int 0, .ref (y 14), .ref (y 15), .ref (y 16), .ref (y 17), .int 0, .int 0, .int 0, .int 0, .int 0, .int 0, .ref (y 18), .ref (y 19), .int 0, .int 0, .ref (y 20), .int 0, .ref (y 21), .ref (y 22), .ref (y 23), .ref (y 24), .ref (y 25)]))] sz)) 0 0 (va_A [((y 0), .inr (8, [.ref (y 1), .int 0, .int 0, .ref (y 2), .int 1, .int 100, .int 7, .int 14, .int 3, .int 1, .int 8, .int 0, .int 0, .int (-1), .int 0, .ref (y 3), .ref (y 4), .int 0, .int 0, .ref (y 5), .ref (y 6), .ref (y 7), .ref (y 8), .ref (y 9), .int 0, .ref (y 10), .ref (y 11), .ref (y 12), .ref (y 13), .int 0, .int 0, .ref (y 14), .ref (y 15), .ref (y 16), .ref (y 17), .int 0, .int 0, .int 0, .int 0, .int 0, .int 0, .ref (y 18), .ref (y 19), .int 0, .int 0, .ref (y 20), .int 0, .ref (y 21), .ref (y 22), .ref (y 23), .ref (y 24), .ref (y 25)]))] sz) := by
  refine Met.ofW (cc := cX8_support) (maxL := 3) (ret := (some .boolean)) (by decide) rfl ?_
  intro p e s m args below meth c s₁ B hml hv
  obtain ⟨rfl, hsz, hP, hK, hD0⟩ := hv
  have hx := B.exec
  have hb := B.bytes
  have hr := B.returns
  have hts := atoms_spec (ws := wsX8_support) B.pre
  have hown : s.vm.findClass RX8 = some m.cls := findClass_of_methodNamed B.named
  have hlocks := B.notSynchronized
  subst hsz
  have hD := hD0.self (sz := s.heap.size)
  generalize hAe : va_A [((y 0), .inr (8, [.ref (y 1), .int 0, .int 0, .ref (y 2), .int 1, .int 100, .int 7, .int 14, .int 3, .int 1, .int 8, .int 0, .int 0, .int (-1), .int 0, .ref (y 3), .ref (y 4), .int 0, .int 0, .ref (y 5), .ref (y 6), .ref (y 7), .ref (y 8), .ref (y 9), .int 0, .ref (y 10), .ref (y 11), .ref (y 12), .ref (y 13), .int 0, .int 0, .ref (y 14), .ref (y 15), .ref (y 16), .ref (y 17), .int 0, .int 0, .int 0, .int 0, .int 0, .int 0, .ref (y 18), .ref (y 19), .int 0, .int 0, .ref (y 20), .int 0, .ref (y 21), .ref (y 22), .ref (y 23), .ref (y 24), .ref (y 25)]))] s.heap.size = A at hD ⊢
  have hA : ∀ q : Nat, s.heap.size ≤ q → A q := fun q h => by rw [← hAe]; exact Or.inr h
  have hS : va_S A s.heap s.heap [] := va_S.rf
  have hP : va_P D vwCl [((y 0), .inr (8, [.ref (y 1), .int 0, .int 0, .ref (y 2), .int 1, .int 100, .int 7, .int 14, .int 3, .int 1, .int 8, .int 0, .int 0, .int (-1), .int 0, .ref (y 3), .ref (y 4), .int 0, .int 0, .ref (y 5), .ref (y 6), .ref (y 7), .ref (y 8), .ref (y 9), .int 0, .ref (y 10), .ref (y 11), .ref (y 12), .ref (y 13), .int 0, .int 0, .ref (y 14), .ref (y 15), .ref (y 16), .ref (y 17), .int 0, .int 0, .int 0, .int 0, .int 0, .int 0, .ref (y 18), .ref (y 19), .int 0, .int 0, .ref (y 20), .int 0, .ref (y 21), .ref (y 22), .ref (y 23), .ref (y 24), .ref (y 25)]))] s.heap := hP
  have w_1 : ∀ w ∈ wsX80, w ∈ wsX8_support := by decide +kernel
  have w_2 := hts (Cond.fieldLink RX8 112 "BlueCoatsModel" "thrown" "I") (by decide +kernel)
  have w_3 := hts (Cond.fieldLink RX8 177 "BlueCoatsModel" "givers" "I") (by decide +kernel)
  have hl := lv_entry ([.ref (y 0), .int g, .int n]) (n := 3) (Nat.le_of_ble_eq_true rfl)
  rw [lg_entry_eq]
  generalize (lg_sl ([.ref (y 0), .int g, .int n]) ++ List.replicate (3 - (lg_sl ([.ref (y 0), .int g, .int n])).length) Slot.unset).toArray = ls at hl ⊢
  have hl : lv_has ls 3 [(0, .ref (y 0)), (1, .int g), (2, .int n)] := hl
  refine lv_aload_n hx hb dX8_support_0 rfl (lv_at hl 0 rfl) ?_
  refine lv_iconst (v := 0) hx hb dX8_support_1 (by decide) ?_
  refine va_put (D := D) (ci := 8) (v := .int 0) (ty := .int) (C := RX8) (T := TX8) (N := 52) hx hb hts w_1 tyX8 tyX8_ok nmX8 hown hK hP hD hS 0 rfl rfl 2 (by decide) w_2 (fun _ h9 => h9) rfl (by decide +kernel) rfl rfl (Nat.le_of_ble_eq_true rfl) dX8_support_2 (fun H locs hP hD hS => ?_)
  have hP : va_P D vwCl [((y 0), .inr (8, [.ref (y 1), .int 0, .int 0, .ref (y 2), .int 1, .int 100, .int 7, .int 14, .int 3, .int 1, .int 8, .int 0, .int 0, .int (-1), .int 0, .ref (y 3), .ref (y 4), .int 0, .int 0, .ref (y 5), .ref (y 6), .ref (y 7), .ref (y 8), .ref (y 9), .int 0, .ref (y 10), .ref (y 11), .ref (y 12), .ref (y 13), .int 0, .int 0, .ref (y 14), .ref (y 15), .ref (y 16), .ref (y 17), .int 0, .int 0, .int 0, .int 0, .int 0, .int 0, .ref (y 18), .ref (y 19), .int 0, .int 0, .ref (y 20), .int 0, .ref (y 21), .ref (y 22), .ref (y 23), .ref (y 24), .ref (y 25)]))] H := hP
  have hD : va_D A [((y 0), .inr (8, [.ref (y 1), .int 0, .int 0, .ref (y 2), .int 1, .int 100, .int 7, .int 14, .int 3, .int 1, .int 8, .int 0, .int 0, .int (-1), .int 0, .ref (y 3), .ref (y 4), .int 0, .int 0, .ref (y 5), .ref (y 6), .ref (y 7), .ref (y 8), .ref (y 9), .int 0, .ref (y 10), .ref (y 11), .ref (y 12), .ref (y 13), .int 0, .int 0, .ref (y 14), .ref (y 15), .ref (y 16), .ref (y 17), .int 0, .int 0, .int 0, .int 0, .int 0, .int 0, .ref (y 18), .ref (y 19), .int 0, .int 0, .ref (y 20), .int 0, .ref (y 21), .ref (y 22), .ref (y 23), .ref (y 24), .ref (y 25)]))] := hD
  refine lv_iload_n hx hb dX8_support_5 rfl (lv_at hl 1 rfl) ?_
  refine lv_if_lt (tgt := 30) hx hb dX8_support_6 (by decide) (fun c_6 => ?_) (fun c_6 => ?_)
  ·
    refine lv_iconst (v := 0) hx hb dX8_support_30 (by decide) ?_
    have hP9 := hP.sub (ws' := []) [] rfl
    have hD9 := hD.sub (ws' := []) [] (by decide) rfl
    exact W.zret (v := 0) hx hb hr rfl (fun t ht hW => ⟨⟨_, (), rfl, rfl, by rw [ht]; exact hP9, va_K.moved hW.alike hK, hD9⟩, hS.F ht⟩) hS.2.2 dX8_support_31
  ·
    refine lv_iload_n hx hb dX8_support_9 rfl (lv_at hl 1 rfl) ?_
    refine lv_aload_n hx hb dX8_support_10 rfl (lv_at hl 0 rfl) ?_
    refine va_get (D := D) (ci := 8) (v := .int 0) (C := RX8) (T := TX8) (N := 52) hx hb hts w_1 hown hK hP 0 rfl rfl 14 (by decide) w_3 (fun _ h9 => h9) rfl dX8_support_11 ?_
    refine lv_icmp_ge (tgt := 30) hx hb dX8_support_14 (by decide) (fun _ => ?_) (fun h => absurd (Int32.not_lt.mp c_6) h)
    refine lv_iconst (v := 0) hx hb dX8_support_30 (by decide) ?_
    have hP9 := hP.sub (ws' := []) [] rfl
    have hD9 := hD.sub (ws' := []) [] (by decide) rfl
    exact W.zret (v := 0) hx hb hr rfl (fun t ht hW => ⟨⟨_, (), rfl, rfl, by rw [ht]; exact hP9, va_K.moved hW.alike hK, hD9⟩, hS.F ht⟩) hS.2.2 dX8_support_31

set_option maxHeartbeats 4000000 in
set_option maxRecDepth 100000 in
theorem m_X8_coat (l : Launch) (D : va_G) (cB cI cJ cZ : ClassId) (sz : Nat) (y : Nat → Nat) (g n : Int32) : Met l yX8_coat wsX8_coat ({ frames := 0, cells := 0, slots := 0, locals := 0 } : Room) (cPre D (aTy cB cI cJ cZ) [((y 0), .inr (8, [.ref (y 1), .int 0, .int 0, .ref (y 2), .int 1, .int 100, .int 7, .int 14, .int 3, .int 1, .int 8, .int 0, .int 0, .int (-1), .int 0, .ref (y 3), .ref (y 4), .int 0, .int 0, .ref (y 5), .ref (y 6), .ref (y 7), .ref (y 8), .ref (y 9), .int 0, .ref (y 10), .ref (y 11), .ref (y 12), .ref (y 13), .int 0, .int 0, .ref (y 14), .ref (y 15), .ref (y 16), .ref (y 17), .int 0, .int 0, .int 0, .int 0, .int 0, .int 0, .ref (y 18), .ref (y 19), .int 0, .int 0, .ref (y 20), .int 0, .ref (y 21), .ref (y 22), .ref (y 23), .ref (y 24), .ref (y 25)]))] sz [.ref (y 0), .int g, .int n]) (va_Qi (fun (r : Int32) (u : Unit) => r = -1) (cB_ D (aTy cB cI cJ cZ) (va_A [((y 0), .inr (8, [.ref (y 1), .int 0, .int 0, .ref (y 2), .int 1, .int 100, .int 7, .int 14, .int 3, .int 1, .int 8, .int 0, .int 0, .int (-1), .int 0, .ref (y 3), .ref (y 4), .int 0, .int 0, .ref (y 5), .ref (y 6), .ref (y 7), .ref (y 8), .ref (y 9), .int 0, .ref (y 10), .ref (y 11), .ref (y 12), .ref (y 13), .int 0, .int 0, .ref (y 14), .ref (y 15), .ref (y 16), .ref (y 17), .int 0, .int 0, .int 0, .int 0, .int 0, .int 0, .ref (y 18), .ref (y 19), .int 0, .int 0, .ref (y 20), .int 0, .ref (y 21), .ref (y 22), .ref (y 23), .ref (y 24), .ref (y 25)]))] sz) (fun _ => [])) (va_A [((y 0), .inr (8, [.ref (y 1), .int 0, .int 0, .ref (y 2), .int 1, .int 100, .int 7, .int 14, .int 3, .int 1, .int 8, .int 0, .int 0, .int (-1), .int 0, .ref (y 3), .ref (y 4), .int 0, .int 0, .ref (y 5), .ref (y 6), .ref (y 7), .ref (y 8), .ref (y 9), .int 0, .ref (y 10), .ref (y 11), .ref (y 12), .ref (y 13), .int 0, .int 0, .ref (y 14), .ref (y 15), .ref (y 16), .ref (y 17), .int 0, .int 0, .int 0, .int 0, .int 0, .int 0, .ref (y 18), .ref (y 19), .int 0, .int 0, .ref (y 20), .int 0, .ref (y 21), .ref (y 22), .ref (y 23), .ref (y 24), .ref (y 25)]))] sz)) 0 0 (va_A [((y 0), .inr (8, [.ref (y 1), .int 0, .int 0, .ref (y 2), .int 1, .int 100, .int 7, .int 14, .int 3, .int 1, .int 8, .int 0, .int 0, .int (-1), .int 0, .ref (y 3), .ref (y 4), .int 0, .int 0, .ref (y 5), .ref (y 6), .ref (y 7), .ref (y 8), .ref (y 9), .int 0, .ref (y 10), .ref (y 11), .ref (y 12), .ref (y 13), .int 0, .int 0, .ref (y 14), .ref (y 15), .ref (y 16), .ref (y 17), .int 0, .int 0, .int 0, .int 0, .int 0, .int 0, .ref (y 18), .ref (y 19), .int 0, .int 0, .ref (y 20), .int 0, .ref (y 21), .ref (y 22), .ref (y 23), .ref (y 24), .ref (y 25)]))] sz) := by
  refine Met.ofW (cc := cX8_coat) (maxL := 3) (ret := (some .int)) (by decide) rfl ?_
  intro p e s m args below meth c s₁ B hml hv
  obtain ⟨rfl, hsz, hP, hK, hD0⟩ := hv
  have hx := B.exec
  have hb := B.bytes
  have hr := B.returns
  have hts := atoms_spec (ws := wsX8_coat) B.pre
  have hown : s.vm.findClass RX8 = some m.cls := findClass_of_methodNamed B.named
  have hlocks := B.notSynchronized
  subst hsz
  have hD := hD0.self (sz := s.heap.size)
  generalize hAe : va_A [((y 0), .inr (8, [.ref (y 1), .int 0, .int 0, .ref (y 2), .int 1, .int 100, .int 7, .int 14, .int 3, .int 1, .int 8, .int 0, .int 0, .int (-1), .int 0, .ref (y 3), .ref (y 4), .int 0, .int 0, .ref (y 5), .ref (y 6), .ref (y 7), .ref (y 8), .ref (y 9), .int 0, .ref (y 10), .ref (y 11), .ref (y 12), .ref (y 13), .int 0, .int 0, .ref (y 14), .ref (y 15), .ref (y 16), .ref (y 17), .int 0, .int 0, .int 0, .int 0, .int 0, .int 0, .ref (y 18), .ref (y 19), .int 0, .int 0, .ref (y 20), .int 0, .ref (y 21), .ref (y 22), .ref (y 23), .ref (y 24), .ref (y 25)]))] s.heap.size = A at hD ⊢
  have hA : ∀ q : Nat, s.heap.size ≤ q → A q := fun q h => by rw [← hAe]; exact Or.inr h
  have hS : va_S A s.heap s.heap [] := va_S.rf
  have hP : va_P D vwCl [((y 0), .inr (8, [.ref (y 1), .int 0, .int 0, .ref (y 2), .int 1, .int 100, .int 7, .int 14, .int 3, .int 1, .int 8, .int 0, .int 0, .int (-1), .int 0, .ref (y 3), .ref (y 4), .int 0, .int 0, .ref (y 5), .ref (y 6), .ref (y 7), .ref (y 8), .ref (y 9), .int 0, .ref (y 10), .ref (y 11), .ref (y 12), .ref (y 13), .int 0, .int 0, .ref (y 14), .ref (y 15), .ref (y 16), .ref (y 17), .int 0, .int 0, .int 0, .int 0, .int 0, .int 0, .ref (y 18), .ref (y 19), .int 0, .int 0, .ref (y 20), .int 0, .ref (y 21), .ref (y 22), .ref (y 23), .ref (y 24), .ref (y 25)]))] s.heap := hP
  have w_1 : ∀ w ∈ wsX80, w ∈ wsX8_coat := by decide +kernel
  have w_2 := hts (Cond.fieldLink RX8 112 "BlueCoatsModel" "thrown" "I") (by decide +kernel)
  have w_3 := hts (Cond.fieldLink RX8 210 "BlueCoatsModel" "coats" "I") (by decide +kernel)
  have hl := lv_entry ([.ref (y 0), .int g, .int n]) (n := 3) (Nat.le_of_ble_eq_true rfl)
  rw [lg_entry_eq]
  generalize (lg_sl ([.ref (y 0), .int g, .int n]) ++ List.replicate (3 - (lg_sl ([.ref (y 0), .int g, .int n])).length) Slot.unset).toArray = ls at hl ⊢
  have hl : lv_has ls 3 [(0, .ref (y 0)), (1, .int g), (2, .int n)] := hl
  refine lv_aload_n hx hb dX8_coat_0 rfl (lv_at hl 0 rfl) ?_
  refine lv_iconst (v := 0) hx hb dX8_coat_1 (by decide) ?_
  refine va_put (D := D) (ci := 8) (v := .int 0) (ty := .int) (C := RX8) (T := TX8) (N := 52) hx hb hts w_1 tyX8 tyX8_ok nmX8 hown hK hP hD hS 0 rfl rfl 2 (by decide) w_2 (fun _ h9 => h9) rfl (by decide +kernel) rfl rfl (Nat.le_of_ble_eq_true rfl) dX8_coat_2 (fun H locs hP hD hS => ?_)
  have hP : va_P D vwCl [((y 0), .inr (8, [.ref (y 1), .int 0, .int 0, .ref (y 2), .int 1, .int 100, .int 7, .int 14, .int 3, .int 1, .int 8, .int 0, .int 0, .int (-1), .int 0, .ref (y 3), .ref (y 4), .int 0, .int 0, .ref (y 5), .ref (y 6), .ref (y 7), .ref (y 8), .ref (y 9), .int 0, .ref (y 10), .ref (y 11), .ref (y 12), .ref (y 13), .int 0, .int 0, .ref (y 14), .ref (y 15), .ref (y 16), .ref (y 17), .int 0, .int 0, .int 0, .int 0, .int 0, .int 0, .ref (y 18), .ref (y 19), .int 0, .int 0, .ref (y 20), .int 0, .ref (y 21), .ref (y 22), .ref (y 23), .ref (y 24), .ref (y 25)]))] H := hP
  have hD : va_D A [((y 0), .inr (8, [.ref (y 1), .int 0, .int 0, .ref (y 2), .int 1, .int 100, .int 7, .int 14, .int 3, .int 1, .int 8, .int 0, .int 0, .int (-1), .int 0, .ref (y 3), .ref (y 4), .int 0, .int 0, .ref (y 5), .ref (y 6), .ref (y 7), .ref (y 8), .ref (y 9), .int 0, .ref (y 10), .ref (y 11), .ref (y 12), .ref (y 13), .int 0, .int 0, .ref (y 14), .ref (y 15), .ref (y 16), .ref (y 17), .int 0, .int 0, .int 0, .int 0, .int 0, .int 0, .ref (y 18), .ref (y 19), .int 0, .int 0, .ref (y 20), .int 0, .ref (y 21), .ref (y 22), .ref (y 23), .ref (y 24), .ref (y 25)]))] := hD
  refine lv_iload_n hx hb dX8_coat_5 rfl (lv_at hl 1 rfl) ?_
  refine lv_if_lt (tgt := 17) hx hb dX8_coat_6 (by decide) (fun c_6 => ?_) (fun c_6 => ?_)
  ·
    refine lv_iconst (v := (-1)) hx hb dX8_coat_17 (by decide) ?_
    have hP9 := hP.sub (ws' := []) [] rfl
    have hD9 := hD.sub (ws' := []) [] (by decide) rfl
    exact W.iret (v := (-1)) hx hb hr (fun t ht hW => ⟨⟨_, (), rfl, rfl, by rw [ht]; exact hP9, va_K.moved hW.alike hK, hD9⟩, hS.F ht⟩) hS.2.2 dX8_coat_18
  ·
    refine lv_iload_n hx hb dX8_coat_9 rfl (lv_at hl 1 rfl) ?_
    refine lv_aload_n hx hb dX8_coat_10 rfl (lv_at hl 0 rfl) ?_
    refine va_get (D := D) (ci := 8) (v := .int 0) (C := RX8) (T := TX8) (N := 52) hx hb hts w_1 hown hK hP 0 rfl rfl 24 (by decide) w_3 (fun _ h9 => h9) rfl dX8_coat_11 ?_
    refine lv_icmp_lt (tgt := 19) hx hb dX8_coat_14 (by decide) (fun h => absurd h c_6) (fun _ => ?_)
    refine lv_iconst (v := (-1)) hx hb dX8_coat_17 (by decide) ?_
    have hP9 := hP.sub (ws' := []) [] rfl
    have hD9 := hD.sub (ws' := []) [] (by decide) rfl
    exact W.iret (v := (-1)) hx hb hr (fun t ht hW => ⟨⟨_, (), rfl, rfl, by rw [ht]; exact hP9, va_K.moved hW.alike hK, hD9⟩, hS.F ht⟩) hS.2.2 dX8_coat_18

set_option maxHeartbeats 4000000 in
set_option maxRecDepth 100000 in
theorem m_X8_child (l : Launch) (D : va_G) (cB cI cJ cZ : ClassId) (sz : Nat) (y : Nat → Nat) (a n z g : Int32) : Met l yX8_child wsX8_child ({ frames := 0, cells := 0, slots := 0, locals := 0 } : Room) (cPre D (aTy cB cI cJ cZ) [((y 0), .inr (8, [.ref (y 1), .int 0, .int 0, .ref (y 2), .int 1, .int 100, .int 7, .int 14, .int 3, .int 1, .int 8, .int 0, .int 0, .int (-1), .int 0, .ref (y 3), .ref (y 4), .int 0, .int 0, .ref (y 5), .ref (y 6), .ref (y 7), .ref (y 8), .ref (y 9), .int 0, .ref (y 10), .ref (y 11), .ref (y 12), .ref (y 13), .int 0, .int 0, .ref (y 14), .ref (y 15), .ref (y 16), .ref (y 17), .int 0, .int 0, .int 0, .int 0, .int 0, .int 0, .ref (y 18), .ref (y 19), .int 0, .int 0, .ref (y 20), .int 0, .ref (y 21), .ref (y 22), .ref (y 23), .ref (y 24), .ref (y 25)])), ((y 5), .inl (cI, 16, .inl (fun _ => 0))), ((y 6), .inl (cI, 16, .inl (fun _ => 0))), ((y 7), .inl (cI, 16, .inl (fun _ => 0))), ((y 8), .inl (cI, 16, .inl (fun _ => 0))), ((y 9), .inl (cI, 16, .inl (fun _ => 0)))] sz [.ref (y 0), .int a, .int n, .int z, .int g]) (va_Qi (fun (r : Int32) (u : Unit) => r = if okC a n z g then 0 else -1) (cB_ D (aTy cB cI cJ cZ) (va_A [((y 0), .inr (8, [.ref (y 1), .int 0, .int 0, .ref (y 2), .int 1, .int 100, .int 7, .int 14, .int 3, .int 1, .int 8, .int 0, .int 0, .int (-1), .int 0, .ref (y 3), .ref (y 4), .int 0, .int 0, .ref (y 5), .ref (y 6), .ref (y 7), .ref (y 8), .ref (y 9), .int 0, .ref (y 10), .ref (y 11), .ref (y 12), .ref (y 13), .int 0, .int 0, .ref (y 14), .ref (y 15), .ref (y 16), .ref (y 17), .int 0, .int 0, .int 0, .int 0, .int 0, .int 0, .ref (y 18), .ref (y 19), .int 0, .int 0, .ref (y 20), .int 0, .ref (y 21), .ref (y 22), .ref (y 23), .ref (y 24), .ref (y 25)])), ((y 5), .inl (cI, 16, .inl (fun _ => 0))), ((y 6), .inl (cI, 16, .inl (fun _ => 0))), ((y 7), .inl (cI, 16, .inl (fun _ => 0))), ((y 8), .inl (cI, 16, .inl (fun _ => 0))), ((y 9), .inl (cI, 16, .inl (fun _ => 0)))] sz) (fun _ => [])) (va_A [((y 0), .inr (8, [.ref (y 1), .int 0, .int 0, .ref (y 2), .int 1, .int 100, .int 7, .int 14, .int 3, .int 1, .int 8, .int 0, .int 0, .int (-1), .int 0, .ref (y 3), .ref (y 4), .int 0, .int 0, .ref (y 5), .ref (y 6), .ref (y 7), .ref (y 8), .ref (y 9), .int 0, .ref (y 10), .ref (y 11), .ref (y 12), .ref (y 13), .int 0, .int 0, .ref (y 14), .ref (y 15), .ref (y 16), .ref (y 17), .int 0, .int 0, .int 0, .int 0, .int 0, .int 0, .ref (y 18), .ref (y 19), .int 0, .int 0, .ref (y 20), .int 0, .ref (y 21), .ref (y 22), .ref (y 23), .ref (y 24), .ref (y 25)])), ((y 5), .inl (cI, 16, .inl (fun _ => 0))), ((y 6), .inl (cI, 16, .inl (fun _ => 0))), ((y 7), .inl (cI, 16, .inl (fun _ => 0))), ((y 8), .inl (cI, 16, .inl (fun _ => 0))), ((y 9), .inl (cI, 16, .inl (fun _ => 0)))] sz)) 0 0 (va_A [((y 0), .inr (8, [.ref (y 1), .int 0, .int 0, .ref (y 2), .int 1, .int 100, .int 7, .int 14, .int 3, .int 1, .int 8, .int 0, .int 0, .int (-1), .int 0, .ref (y 3), .ref (y 4), .int 0, .int 0, .ref (y 5), .ref (y 6), .ref (y 7), .ref (y 8), .ref (y 9), .int 0, .ref (y 10), .ref (y 11), .ref (y 12), .ref (y 13), .int 0, .int 0, .ref (y 14), .ref (y 15), .ref (y 16), .ref (y 17), .int 0, .int 0, .int 0, .int 0, .int 0, .int 0, .ref (y 18), .ref (y 19), .int 0, .int 0, .ref (y 20), .int 0, .ref (y 21), .ref (y 22), .ref (y 23), .ref (y 24), .ref (y 25)])), ((y 5), .inl (cI, 16, .inl (fun _ => 0))), ((y 6), .inl (cI, 16, .inl (fun _ => 0))), ((y 7), .inl (cI, 16, .inl (fun _ => 0))), ((y 8), .inl (cI, 16, .inl (fun _ => 0))), ((y 9), .inl (cI, 16, .inl (fun _ => 0)))] sz) := by
  refine Met.ofW (cc := cX8_child) (maxL := 5) (ret := (some .int)) (by decide) rfl ?_
  intro p e s m args below meth c s₁ B hml hv
  obtain ⟨rfl, hsz, hP, hK, hD0⟩ := hv
  have hx := B.exec
  have hb := B.bytes
  have hr := B.returns
  have hts := atoms_spec (ws := wsX8_child) B.pre
  have hown : s.vm.findClass RX8 = some m.cls := findClass_of_methodNamed B.named
  have hlocks := B.notSynchronized
  subst hsz
  have hD := hD0.self (sz := s.heap.size)
  generalize hAe : va_A [((y 0), .inr (8, [.ref (y 1), .int 0, .int 0, .ref (y 2), .int 1, .int 100, .int 7, .int 14, .int 3, .int 1, .int 8, .int 0, .int 0, .int (-1), .int 0, .ref (y 3), .ref (y 4), .int 0, .int 0, .ref (y 5), .ref (y 6), .ref (y 7), .ref (y 8), .ref (y 9), .int 0, .ref (y 10), .ref (y 11), .ref (y 12), .ref (y 13), .int 0, .int 0, .ref (y 14), .ref (y 15), .ref (y 16), .ref (y 17), .int 0, .int 0, .int 0, .int 0, .int 0, .int 0, .ref (y 18), .ref (y 19), .int 0, .int 0, .ref (y 20), .int 0, .ref (y 21), .ref (y 22), .ref (y 23), .ref (y 24), .ref (y 25)])), ((y 5), .inl (cI, 16, .inl (fun _ => 0))), ((y 6), .inl (cI, 16, .inl (fun _ => 0))), ((y 7), .inl (cI, 16, .inl (fun _ => 0))), ((y 8), .inl (cI, 16, .inl (fun _ => 0))), ((y 9), .inl (cI, 16, .inl (fun _ => 0)))] s.heap.size = A at hD ⊢
  have hA : ∀ q : Nat, s.heap.size ≤ q → A q := fun q h => by rw [← hAe]; exact Or.inr h
  have hS : va_S A s.heap s.heap [] := va_S.rf
  have hP : va_P D vwCl [((y 0), .inr (8, [.ref (y 1), .int 0, .int 0, .ref (y 2), .int 1, .int 100, .int 7, .int 14, .int 3, .int 1, .int 8, .int 0, .int 0, .int (-1), .int 0, .ref (y 3), .ref (y 4), .int 0, .int 0, .ref (y 5), .ref (y 6), .ref (y 7), .ref (y 8), .ref (y 9), .int 0, .ref (y 10), .ref (y 11), .ref (y 12), .ref (y 13), .int 0, .int 0, .ref (y 14), .ref (y 15), .ref (y 16), .ref (y 17), .int 0, .int 0, .int 0, .int 0, .int 0, .int 0, .ref (y 18), .ref (y 19), .int 0, .int 0, .ref (y 20), .int 0, .ref (y 21), .ref (y 22), .ref (y 23), .ref (y 24), .ref (y 25)])), ((y 5), .inl (cI, 16, .inl (fun _ => 0))), ((y 6), .inl (cI, 16, .inl (fun _ => 0))), ((y 7), .inl (cI, 16, .inl (fun _ => 0))), ((y 8), .inl (cI, 16, .inl (fun _ => 0))), ((y 9), .inl (cI, 16, .inl (fun _ => 0)))] s.heap := hP
  have w_1 : ∀ w ∈ wsX80, w ∈ wsX8_child := by decide +kernel
  have w_2 := hts (Cond.fieldLink RX8 112 "BlueCoatsModel" "thrown" "I") (by decide +kernel)
  have w_3 := hts (Cond.fieldLink RX8 180 "BlueCoatsModel" "children" "I") (by decide +kernel)
  have w_4 := hts (Cond.fieldLink RX8 47 "BlueCoatsModel" "age" "[I") (by decide +kernel)
  have w_5 := hts (Cond.fieldLink RX8 50 "BlueCoatsModel" "want" "[I") (by decide +kernel)
  have w_6 := hts (Cond.fieldLink RX8 53 "BlueCoatsModel" "size" "[I") (by decide +kernel)
  have w_7 := hts (Cond.fieldLink RX8 56 "BlueCoatsModel" "growth" "[I") (by decide +kernel)
  have w_8 := hts (Cond.fieldLink RX8 59 "BlueCoatsModel" "state" "[I") (by decide +kernel)
  have hl := lv_entry ([.ref (y 0), .int a, .int n, .int z, .int g]) (n := 5) (Nat.le_of_ble_eq_true rfl)
  rw [lg_entry_eq]
  generalize (lg_sl ([.ref (y 0), .int a, .int n, .int z, .int g]) ++ List.replicate (5 - (lg_sl ([.ref (y 0), .int a, .int n, .int z, .int g])).length) Slot.unset).toArray = ls at hl ⊢
  have hl : lv_has ls 5 [(0, .ref (y 0)), (1, .int a), (2, .int n), (3, .int z), (4, .int g)] := hl
  refine lv_aload_n hx hb dX8_child_0 rfl (lv_at hl 0 rfl) ?_
  refine lv_iconst (v := 0) hx hb dX8_child_1 (by decide) ?_
  refine va_put (D := D) (ci := 8) (v := .int 0) (ty := .int) (C := RX8) (T := TX8) (N := 52) hx hb hts w_1 tyX8 tyX8_ok nmX8 hown hK hP hD hS 0 rfl rfl 2 (by decide) w_2 (fun _ h9 => h9) rfl (by decide +kernel) rfl rfl (Nat.le_of_ble_eq_true rfl) dX8_child_2 (fun H locs hP hD hS => ?_)
  have hP : va_P D vwCl [((y 0), .inr (8, [.ref (y 1), .int 0, .int 0, .ref (y 2), .int 1, .int 100, .int 7, .int 14, .int 3, .int 1, .int 8, .int 0, .int 0, .int (-1), .int 0, .ref (y 3), .ref (y 4), .int 0, .int 0, .ref (y 5), .ref (y 6), .ref (y 7), .ref (y 8), .ref (y 9), .int 0, .ref (y 10), .ref (y 11), .ref (y 12), .ref (y 13), .int 0, .int 0, .ref (y 14), .ref (y 15), .ref (y 16), .ref (y 17), .int 0, .int 0, .int 0, .int 0, .int 0, .int 0, .ref (y 18), .ref (y 19), .int 0, .int 0, .ref (y 20), .int 0, .ref (y 21), .ref (y 22), .ref (y 23), .ref (y 24), .ref (y 25)])), ((y 5), .inl (cI, 16, .inl (fun _ => 0))), ((y 6), .inl (cI, 16, .inl (fun _ => 0))), ((y 7), .inl (cI, 16, .inl (fun _ => 0))), ((y 8), .inl (cI, 16, .inl (fun _ => 0))), ((y 9), .inl (cI, 16, .inl (fun _ => 0)))] H := hP
  have hD : va_D A [((y 0), .inr (8, [.ref (y 1), .int 0, .int 0, .ref (y 2), .int 1, .int 100, .int 7, .int 14, .int 3, .int 1, .int 8, .int 0, .int 0, .int (-1), .int 0, .ref (y 3), .ref (y 4), .int 0, .int 0, .ref (y 5), .ref (y 6), .ref (y 7), .ref (y 8), .ref (y 9), .int 0, .ref (y 10), .ref (y 11), .ref (y 12), .ref (y 13), .int 0, .int 0, .ref (y 14), .ref (y 15), .ref (y 16), .ref (y 17), .int 0, .int 0, .int 0, .int 0, .int 0, .int 0, .ref (y 18), .ref (y 19), .int 0, .int 0, .ref (y 20), .int 0, .ref (y 21), .ref (y 22), .ref (y 23), .ref (y 24), .ref (y 25)])), ((y 5), .inl (cI, 16, .inl (fun _ => 0))), ((y 6), .inl (cI, 16, .inl (fun _ => 0))), ((y 7), .inl (cI, 16, .inl (fun _ => 0))), ((y 8), .inl (cI, 16, .inl (fun _ => 0))), ((y 9), .inl (cI, 16, .inl (fun _ => 0)))] := hD
  refine lv_aload_n hx hb dX8_child_5 rfl (lv_at hl 0 rfl) ?_
  refine va_get (D := D) (ci := 8) (v := .int 0) (C := RX8) (T := TX8) (N := 52) hx hb hts w_1 hown hK hP 0 rfl rfl 18 (by decide) w_3 (fun _ h9 => h9) rfl dX8_child_6 ?_
  refine lv_bipush (v := 16) hx hb dX8_child_9 (by decide) ?_
  refine lv_icmp_eq (tgt := 57) hx hb dX8_child_11 (by decide) (fun h => absurd h (by decide)) (fun _ => ?_)
  refine lv_iload_n hx hb dX8_child_14 rfl (lv_at hl 1 rfl) ?_
  refine lv_if_lt (tgt := 57) hx hb dX8_child_15 (by decide) (fun c_15 => ?_) (fun c_15 => ?_)
  ·
    refine lv_iconst (v := (-1)) hx hb dX8_child_57 (by decide) ?_
    have hP9 := hP.sub (ws' := []) [] rfl
    have hD9 := hD.sub (ws' := []) [] (by decide) rfl
    exact W.iret (v := (-1)) hx hb hr (fun t ht hW => ⟨⟨_, (), rfl, (if_neg (fun h => h.1 c_15)).symm, by rw [ht]; exact hP9, va_K.moved hW.alike hK, hD9⟩, hS.F ht⟩) hS.2.2 dX8_child_58
  ·
    refine lv_iload_n hx hb dX8_child_18 rfl (lv_at hl 1 rfl) ?_
    refine lv_bipush (v := 20) hx hb dX8_child_19 (by decide) ?_
    refine lv_icmp_gt (tgt := 57) hx hb dX8_child_21 (by decide) (fun c_21 => ?_) (fun c_21 => ?_)
    ·
      refine lv_iconst (v := (-1)) hx hb dX8_child_57 (by decide) ?_
      have hP9 := hP.sub (ws' := []) [] rfl
      have hD9 := hD.sub (ws' := []) [] (by decide) rfl
      exact W.iret (v := (-1)) hx hb hr (fun t ht hW => ⟨⟨_, (), rfl, (if_neg (fun h => h.2.1 c_21)).symm, by rw [ht]; exact hP9, va_K.moved hW.alike hK, hD9⟩, hS.F ht⟩) hS.2.2 dX8_child_58
    ·
      refine lv_iload_n hx hb dX8_child_24 rfl (lv_at hl 2 rfl) ?_
      refine lv_if_lt (tgt := 57) hx hb dX8_child_25 (by decide) (fun c_25 => ?_) (fun c_25 => ?_)
      ·
        refine lv_iconst (v := (-1)) hx hb dX8_child_57 (by decide) ?_
        have hP9 := hP.sub (ws' := []) [] rfl
        have hD9 := hD.sub (ws' := []) [] (by decide) rfl
        exact W.iret (v := (-1)) hx hb hr (fun t ht hW => ⟨⟨_, (), rfl, (if_neg (fun h => h.2.2.1 c_25)).symm, by rw [ht]; exact hP9, va_K.moved hW.alike hK, hD9⟩, hS.F ht⟩) hS.2.2 dX8_child_58
      ·
        refine lv_iload_n hx hb dX8_child_28 rfl (lv_at hl 2 rfl) ?_
        refine lv_bipush (v := 99) hx hb dX8_child_29 (by decide) ?_
        refine lv_icmp_gt (tgt := 57) hx hb dX8_child_31 (by decide) (fun c_31 => ?_) (fun c_31 => ?_)
        ·
          refine lv_iconst (v := (-1)) hx hb dX8_child_57 (by decide) ?_
          have hP9 := hP.sub (ws' := []) [] rfl
          have hD9 := hD.sub (ws' := []) [] (by decide) rfl
          exact W.iret (v := (-1)) hx hb hr (fun t ht hW => ⟨⟨_, (), rfl, (if_neg (fun h => h.2.2.2.1 c_31)).symm, by rw [ht]; exact hP9, va_K.moved hW.alike hK, hD9⟩, hS.F ht⟩) hS.2.2 dX8_child_58
        ·
          refine lv_iload_n hx hb dX8_child_34 rfl (lv_at hl 3 rfl) ?_
          refine lv_bipush (v := 10) hx hb dX8_child_35 (by decide) ?_
          refine lv_icmp_lt (tgt := 57) hx hb dX8_child_37 (by decide) (fun c_37 => ?_) (fun c_37 => ?_)
          ·
            refine lv_iconst (v := (-1)) hx hb dX8_child_57 (by decide) ?_
            have hP9 := hP.sub (ws' := []) [] rfl
            have hD9 := hD.sub (ws' := []) [] (by decide) rfl
            exact W.iret (v := (-1)) hx hb hr (fun t ht hW => ⟨⟨_, (), rfl, (if_neg (fun h => h.2.2.2.2.1 c_37)).symm, by rw [ht]; exact hP9, va_K.moved hW.alike hK, hD9⟩, hS.F ht⟩) hS.2.2 dX8_child_58
          ·
            refine lv_iload_n hx hb dX8_child_40 rfl (lv_at hl 3 rfl) ?_
            refine lv_bipush (v := 60) hx hb dX8_child_41 (by decide) ?_
            refine lv_icmp_gt (tgt := 57) hx hb dX8_child_43 (by decide) (fun c_43 => ?_) (fun c_43 => ?_)
            ·
              refine lv_iconst (v := (-1)) hx hb dX8_child_57 (by decide) ?_
              have hP9 := hP.sub (ws' := []) [] rfl
              have hD9 := hD.sub (ws' := []) [] (by decide) rfl
              exact W.iret (v := (-1)) hx hb hr (fun t ht hW => ⟨⟨_, (), rfl, (if_neg (fun h => h.2.2.2.2.2.1 c_43)).symm, by rw [ht]; exact hP9, va_K.moved hW.alike hK, hD9⟩, hS.F ht⟩) hS.2.2 dX8_child_58
            ·
              refine lv_iload hx hb dX8_child_46 (lv_at hl 4 rfl) ?_
              refine lv_if_lt (tgt := 57) hx hb dX8_child_48 (by decide) (fun c_48 => ?_) (fun c_48 => ?_)
              ·
                refine lv_iconst (v := (-1)) hx hb dX8_child_57 (by decide) ?_
                have hP9 := hP.sub (ws' := []) [] rfl
                have hD9 := hD.sub (ws' := []) [] (by decide) rfl
                exact W.iret (v := (-1)) hx hb hr (fun t ht hW => ⟨⟨_, (), rfl, (if_neg (fun h => h.2.2.2.2.2.2.1 c_48)).symm, by rw [ht]; exact hP9, va_K.moved hW.alike hK, hD9⟩, hS.F ht⟩) hS.2.2 dX8_child_58
              ·
                refine lv_iload hx hb dX8_child_51 (lv_at hl 4 rfl) ?_
                refine lv_iconst (v := 4) hx hb dX8_child_53 (by decide) ?_
                refine lv_icmp_le (tgt := 59) hx hb dX8_child_54 (by decide) (fun c_54 => ?_) (fun c_54 => ?_)
                ·
                  refine lv_aload_n hx hb dX8_child_59 rfl (lv_at hl 0 rfl) ?_
                  refine va_get (D := D) (ci := 8) (v := .ref (y 5)) (C := RX8) (T := TX8) (N := 52) hx hb hts w_1 hown hK hP 0 rfl rfl 19 (by decide) w_4 (fun _ h9 => h9) rfl dX8_child_60 ?_
                  refine lv_aload_n hx hb dX8_child_63 rfl (lv_at hl 0 rfl) ?_
                  refine va_get (D := D) (ci := 8) (v := .int 0) (C := RX8) (T := TX8) (N := 52) hx hb hts w_1 hown hK hP 0 rfl rfl 18 (by decide) w_3 (fun _ h9 => h9) rfl dX8_child_64 ?_
                  refine lv_iload_n hx hb dX8_child_67 rfl (lv_at hl 1 rfl) ?_
                  refine sv_iast hx hb hK hP hD hS 1 1 rfl rfl (vp_in_iff.mpr (by decide)) dX8_child_68 (fun g_1 H locs eg_1 hP hD hS => ?_)
                  have hP : va_P D vwCl [((y 0), .inr (8, [.ref (y 1), .int 0, .int 0, .ref (y 2), .int 1, .int 100, .int 7, .int 14, .int 3, .int 1, .int 8, .int 0, .int 0, .int (-1), .int 0, .ref (y 3), .ref (y 4), .int 0, .int 0, .ref (y 5), .ref (y 6), .ref (y 7), .ref (y 8), .ref (y 9), .int 0, .ref (y 10), .ref (y 11), .ref (y 12), .ref (y 13), .int 0, .int 0, .ref (y 14), .ref (y 15), .ref (y 16), .ref (y 17), .int 0, .int 0, .int 0, .int 0, .int 0, .int 0, .ref (y 18), .ref (y 19), .int 0, .int 0, .ref (y 20), .int 0, .ref (y 21), .ref (y 22), .ref (y 23), .ref (y 24), .ref (y 25)])), ((y 5), .inl (cI, 16, .inl g_1)), ((y 6), .inl (cI, 16, .inl (fun _ => 0))), ((y 7), .inl (cI, 16, .inl (fun _ => 0))), ((y 8), .inl (cI, 16, .inl (fun _ => 0))), ((y 9), .inl (cI, 16, .inl (fun _ => 0)))] H := hP
                  have hD : va_D A [((y 0), .inr (8, [.ref (y 1), .int 0, .int 0, .ref (y 2), .int 1, .int 100, .int 7, .int 14, .int 3, .int 1, .int 8, .int 0, .int 0, .int (-1), .int 0, .ref (y 3), .ref (y 4), .int 0, .int 0, .ref (y 5), .ref (y 6), .ref (y 7), .ref (y 8), .ref (y 9), .int 0, .ref (y 10), .ref (y 11), .ref (y 12), .ref (y 13), .int 0, .int 0, .ref (y 14), .ref (y 15), .ref (y 16), .ref (y 17), .int 0, .int 0, .int 0, .int 0, .int 0, .int 0, .ref (y 18), .ref (y 19), .int 0, .int 0, .ref (y 20), .int 0, .ref (y 21), .ref (y 22), .ref (y 23), .ref (y 24), .ref (y 25)])), ((y 5), .inl (cI, 16, .inl g_1)), ((y 6), .inl (cI, 16, .inl (fun _ => 0))), ((y 7), .inl (cI, 16, .inl (fun _ => 0))), ((y 8), .inl (cI, 16, .inl (fun _ => 0))), ((y 9), .inl (cI, 16, .inl (fun _ => 0)))] := hD
                  refine lv_aload_n hx hb dX8_child_69 rfl (lv_at hl 0 rfl) ?_
                  refine va_get (D := D) (ci := 8) (v := .ref (y 6)) (C := RX8) (T := TX8) (N := 52) hx hb hts w_1 hown hK hP 0 rfl rfl 20 (by decide) w_5 (fun _ h9 => h9) rfl dX8_child_70 ?_
                  refine lv_aload_n hx hb dX8_child_73 rfl (lv_at hl 0 rfl) ?_
                  refine va_get (D := D) (ci := 8) (v := .int 0) (C := RX8) (T := TX8) (N := 52) hx hb hts w_1 hown hK hP 0 rfl rfl 18 (by decide) w_3 (fun _ h9 => h9) rfl dX8_child_74 ?_
                  refine lv_iload_n hx hb dX8_child_77 rfl (lv_at hl 2 rfl) ?_
                  refine sv_iast hx hb hK hP hD hS 2 1 rfl rfl (vp_in_iff.mpr (by decide)) dX8_child_78 (fun g_2 H locs eg_2 hP hD hS => ?_)
                  have hP : va_P D vwCl [((y 0), .inr (8, [.ref (y 1), .int 0, .int 0, .ref (y 2), .int 1, .int 100, .int 7, .int 14, .int 3, .int 1, .int 8, .int 0, .int 0, .int (-1), .int 0, .ref (y 3), .ref (y 4), .int 0, .int 0, .ref (y 5), .ref (y 6), .ref (y 7), .ref (y 8), .ref (y 9), .int 0, .ref (y 10), .ref (y 11), .ref (y 12), .ref (y 13), .int 0, .int 0, .ref (y 14), .ref (y 15), .ref (y 16), .ref (y 17), .int 0, .int 0, .int 0, .int 0, .int 0, .int 0, .ref (y 18), .ref (y 19), .int 0, .int 0, .ref (y 20), .int 0, .ref (y 21), .ref (y 22), .ref (y 23), .ref (y 24), .ref (y 25)])), ((y 5), .inl (cI, 16, .inl g_1)), ((y 6), .inl (cI, 16, .inl g_2)), ((y 7), .inl (cI, 16, .inl (fun _ => 0))), ((y 8), .inl (cI, 16, .inl (fun _ => 0))), ((y 9), .inl (cI, 16, .inl (fun _ => 0)))] H := hP
                  have hD : va_D A [((y 0), .inr (8, [.ref (y 1), .int 0, .int 0, .ref (y 2), .int 1, .int 100, .int 7, .int 14, .int 3, .int 1, .int 8, .int 0, .int 0, .int (-1), .int 0, .ref (y 3), .ref (y 4), .int 0, .int 0, .ref (y 5), .ref (y 6), .ref (y 7), .ref (y 8), .ref (y 9), .int 0, .ref (y 10), .ref (y 11), .ref (y 12), .ref (y 13), .int 0, .int 0, .ref (y 14), .ref (y 15), .ref (y 16), .ref (y 17), .int 0, .int 0, .int 0, .int 0, .int 0, .int 0, .ref (y 18), .ref (y 19), .int 0, .int 0, .ref (y 20), .int 0, .ref (y 21), .ref (y 22), .ref (y 23), .ref (y 24), .ref (y 25)])), ((y 5), .inl (cI, 16, .inl g_1)), ((y 6), .inl (cI, 16, .inl g_2)), ((y 7), .inl (cI, 16, .inl (fun _ => 0))), ((y 8), .inl (cI, 16, .inl (fun _ => 0))), ((y 9), .inl (cI, 16, .inl (fun _ => 0)))] := hD
                  refine lv_aload_n hx hb dX8_child_79 rfl (lv_at hl 0 rfl) ?_
                  refine va_get (D := D) (ci := 8) (v := .ref (y 7)) (C := RX8) (T := TX8) (N := 52) hx hb hts w_1 hown hK hP 0 rfl rfl 21 (by decide) w_6 (fun _ h9 => h9) rfl dX8_child_80 ?_
                  refine lv_aload_n hx hb dX8_child_83 rfl (lv_at hl 0 rfl) ?_
                  refine va_get (D := D) (ci := 8) (v := .int 0) (C := RX8) (T := TX8) (N := 52) hx hb hts w_1 hown hK hP 0 rfl rfl 18 (by decide) w_3 (fun _ h9 => h9) rfl dX8_child_84 ?_
                  refine lv_iload_n hx hb dX8_child_87 rfl (lv_at hl 3 rfl) ?_
                  refine sv_iast hx hb hK hP hD hS 3 1 rfl rfl (vp_in_iff.mpr (by decide)) dX8_child_88 (fun g_3 H locs eg_3 hP hD hS => ?_)
                  have hP : va_P D vwCl [((y 0), .inr (8, [.ref (y 1), .int 0, .int 0, .ref (y 2), .int 1, .int 100, .int 7, .int 14, .int 3, .int 1, .int 8, .int 0, .int 0, .int (-1), .int 0, .ref (y 3), .ref (y 4), .int 0, .int 0, .ref (y 5), .ref (y 6), .ref (y 7), .ref (y 8), .ref (y 9), .int 0, .ref (y 10), .ref (y 11), .ref (y 12), .ref (y 13), .int 0, .int 0, .ref (y 14), .ref (y 15), .ref (y 16), .ref (y 17), .int 0, .int 0, .int 0, .int 0, .int 0, .int 0, .ref (y 18), .ref (y 19), .int 0, .int 0, .ref (y 20), .int 0, .ref (y 21), .ref (y 22), .ref (y 23), .ref (y 24), .ref (y 25)])), ((y 5), .inl (cI, 16, .inl g_1)), ((y 6), .inl (cI, 16, .inl g_2)), ((y 7), .inl (cI, 16, .inl g_3)), ((y 8), .inl (cI, 16, .inl (fun _ => 0))), ((y 9), .inl (cI, 16, .inl (fun _ => 0)))] H := hP
                  have hD : va_D A [((y 0), .inr (8, [.ref (y 1), .int 0, .int 0, .ref (y 2), .int 1, .int 100, .int 7, .int 14, .int 3, .int 1, .int 8, .int 0, .int 0, .int (-1), .int 0, .ref (y 3), .ref (y 4), .int 0, .int 0, .ref (y 5), .ref (y 6), .ref (y 7), .ref (y 8), .ref (y 9), .int 0, .ref (y 10), .ref (y 11), .ref (y 12), .ref (y 13), .int 0, .int 0, .ref (y 14), .ref (y 15), .ref (y 16), .ref (y 17), .int 0, .int 0, .int 0, .int 0, .int 0, .int 0, .ref (y 18), .ref (y 19), .int 0, .int 0, .ref (y 20), .int 0, .ref (y 21), .ref (y 22), .ref (y 23), .ref (y 24), .ref (y 25)])), ((y 5), .inl (cI, 16, .inl g_1)), ((y 6), .inl (cI, 16, .inl g_2)), ((y 7), .inl (cI, 16, .inl g_3)), ((y 8), .inl (cI, 16, .inl (fun _ => 0))), ((y 9), .inl (cI, 16, .inl (fun _ => 0)))] := hD
                  refine lv_aload_n hx hb dX8_child_89 rfl (lv_at hl 0 rfl) ?_
                  refine va_get (D := D) (ci := 8) (v := .ref (y 8)) (C := RX8) (T := TX8) (N := 52) hx hb hts w_1 hown hK hP 0 rfl rfl 22 (by decide) w_7 (fun _ h9 => h9) rfl dX8_child_90 ?_
                  refine lv_aload_n hx hb dX8_child_93 rfl (lv_at hl 0 rfl) ?_
                  refine va_get (D := D) (ci := 8) (v := .int 0) (C := RX8) (T := TX8) (N := 52) hx hb hts w_1 hown hK hP 0 rfl rfl 18 (by decide) w_3 (fun _ h9 => h9) rfl dX8_child_94 ?_
                  refine lv_iload hx hb dX8_child_97 (lv_at hl 4 rfl) ?_
                  refine sv_iast hx hb hK hP hD hS 4 1 rfl rfl (vp_in_iff.mpr (by decide)) dX8_child_99 (fun g_4 H locs eg_4 hP hD hS => ?_)
                  have hP : va_P D vwCl [((y 0), .inr (8, [.ref (y 1), .int 0, .int 0, .ref (y 2), .int 1, .int 100, .int 7, .int 14, .int 3, .int 1, .int 8, .int 0, .int 0, .int (-1), .int 0, .ref (y 3), .ref (y 4), .int 0, .int 0, .ref (y 5), .ref (y 6), .ref (y 7), .ref (y 8), .ref (y 9), .int 0, .ref (y 10), .ref (y 11), .ref (y 12), .ref (y 13), .int 0, .int 0, .ref (y 14), .ref (y 15), .ref (y 16), .ref (y 17), .int 0, .int 0, .int 0, .int 0, .int 0, .int 0, .ref (y 18), .ref (y 19), .int 0, .int 0, .ref (y 20), .int 0, .ref (y 21), .ref (y 22), .ref (y 23), .ref (y 24), .ref (y 25)])), ((y 5), .inl (cI, 16, .inl g_1)), ((y 6), .inl (cI, 16, .inl g_2)), ((y 7), .inl (cI, 16, .inl g_3)), ((y 8), .inl (cI, 16, .inl g_4)), ((y 9), .inl (cI, 16, .inl (fun _ => 0)))] H := hP
                  have hD : va_D A [((y 0), .inr (8, [.ref (y 1), .int 0, .int 0, .ref (y 2), .int 1, .int 100, .int 7, .int 14, .int 3, .int 1, .int 8, .int 0, .int 0, .int (-1), .int 0, .ref (y 3), .ref (y 4), .int 0, .int 0, .ref (y 5), .ref (y 6), .ref (y 7), .ref (y 8), .ref (y 9), .int 0, .ref (y 10), .ref (y 11), .ref (y 12), .ref (y 13), .int 0, .int 0, .ref (y 14), .ref (y 15), .ref (y 16), .ref (y 17), .int 0, .int 0, .int 0, .int 0, .int 0, .int 0, .ref (y 18), .ref (y 19), .int 0, .int 0, .ref (y 20), .int 0, .ref (y 21), .ref (y 22), .ref (y 23), .ref (y 24), .ref (y 25)])), ((y 5), .inl (cI, 16, .inl g_1)), ((y 6), .inl (cI, 16, .inl g_2)), ((y 7), .inl (cI, 16, .inl g_3)), ((y 8), .inl (cI, 16, .inl g_4)), ((y 9), .inl (cI, 16, .inl (fun _ => 0)))] := hD
                  refine lv_aload_n hx hb dX8_child_100 rfl (lv_at hl 0 rfl) ?_
                  refine va_get (D := D) (ci := 8) (v := .ref (y 9)) (C := RX8) (T := TX8) (N := 52) hx hb hts w_1 hown hK hP 0 rfl rfl 23 (by decide) w_8 (fun _ h9 => h9) rfl dX8_child_101 ?_
                  refine lv_aload_n hx hb dX8_child_104 rfl (lv_at hl 0 rfl) ?_
                  refine va_get (D := D) (ci := 8) (v := .int 0) (C := RX8) (T := TX8) (N := 52) hx hb hts w_1 hown hK hP 0 rfl rfl 18 (by decide) w_3 (fun _ h9 => h9) rfl dX8_child_105 ?_
                  refine lv_iconst (v := 0) hx hb dX8_child_108 (by decide) ?_
                  refine sv_iast hx hb hK hP hD hS 5 1 rfl rfl (vp_in_iff.mpr (by decide)) dX8_child_109 (fun g_5 H locs eg_5 hP hD hS => ?_)
                  have hP : va_P D vwCl [((y 0), .inr (8, [.ref (y 1), .int 0, .int 0, .ref (y 2), .int 1, .int 100, .int 7, .int 14, .int 3, .int 1, .int 8, .int 0, .int 0, .int (-1), .int 0, .ref (y 3), .ref (y 4), .int 0, .int 0, .ref (y 5), .ref (y 6), .ref (y 7), .ref (y 8), .ref (y 9), .int 0, .ref (y 10), .ref (y 11), .ref (y 12), .ref (y 13), .int 0, .int 0, .ref (y 14), .ref (y 15), .ref (y 16), .ref (y 17), .int 0, .int 0, .int 0, .int 0, .int 0, .int 0, .ref (y 18), .ref (y 19), .int 0, .int 0, .ref (y 20), .int 0, .ref (y 21), .ref (y 22), .ref (y 23), .ref (y 24), .ref (y 25)])), ((y 5), .inl (cI, 16, .inl g_1)), ((y 6), .inl (cI, 16, .inl g_2)), ((y 7), .inl (cI, 16, .inl g_3)), ((y 8), .inl (cI, 16, .inl g_4)), ((y 9), .inl (cI, 16, .inl g_5))] H := hP
                  have hD : va_D A [((y 0), .inr (8, [.ref (y 1), .int 0, .int 0, .ref (y 2), .int 1, .int 100, .int 7, .int 14, .int 3, .int 1, .int 8, .int 0, .int 0, .int (-1), .int 0, .ref (y 3), .ref (y 4), .int 0, .int 0, .ref (y 5), .ref (y 6), .ref (y 7), .ref (y 8), .ref (y 9), .int 0, .ref (y 10), .ref (y 11), .ref (y 12), .ref (y 13), .int 0, .int 0, .ref (y 14), .ref (y 15), .ref (y 16), .ref (y 17), .int 0, .int 0, .int 0, .int 0, .int 0, .int 0, .ref (y 18), .ref (y 19), .int 0, .int 0, .ref (y 20), .int 0, .ref (y 21), .ref (y 22), .ref (y 23), .ref (y 24), .ref (y 25)])), ((y 5), .inl (cI, 16, .inl g_1)), ((y 6), .inl (cI, 16, .inl g_2)), ((y 7), .inl (cI, 16, .inl g_3)), ((y 8), .inl (cI, 16, .inl g_4)), ((y 9), .inl (cI, 16, .inl g_5))] := hD
                  refine lv_aload_n hx hb dX8_child_110 rfl (lv_at hl 0 rfl) ?_
                  refine lv_dup hx hb dX8_child_111 rfl ?_
                  refine va_get (D := D) (ci := 8) (v := .int 0) (C := RX8) (T := TX8) (N := 52) hx hb hts w_1 hown hK hP 0 rfl rfl 18 (by decide) w_3 (fun _ h9 => h9) rfl dX8_child_112 ?_
                  refine lv_iconst (v := 1) hx hb dX8_child_115 (by decide) ?_
                  refine sv_iadd (v := 1) hx hb dX8_child_116 (by decide) ?_
                  refine va_put (D := D) (ci := 8) (v := .int 1) (ty := .int) (C := RX8) (T := TX8) (N := 52) hx hb hts w_1 tyX8 tyX8_ok nmX8 hown hK hP hD hS 0 rfl rfl 18 (by decide) w_3 (fun _ h9 => h9) rfl (by decide +kernel) rfl rfl (Nat.le_of_ble_eq_true rfl) dX8_child_117 (fun H locs hP hD hS => ?_)
                  have hP : va_P D vwCl [((y 0), .inr (8, [.ref (y 1), .int 0, .int 0, .ref (y 2), .int 1, .int 100, .int 7, .int 14, .int 3, .int 1, .int 8, .int 0, .int 0, .int (-1), .int 0, .ref (y 3), .ref (y 4), .int 0, .int 1, .ref (y 5), .ref (y 6), .ref (y 7), .ref (y 8), .ref (y 9), .int 0, .ref (y 10), .ref (y 11), .ref (y 12), .ref (y 13), .int 0, .int 0, .ref (y 14), .ref (y 15), .ref (y 16), .ref (y 17), .int 0, .int 0, .int 0, .int 0, .int 0, .int 0, .ref (y 18), .ref (y 19), .int 0, .int 0, .ref (y 20), .int 0, .ref (y 21), .ref (y 22), .ref (y 23), .ref (y 24), .ref (y 25)])), ((y 5), .inl (cI, 16, .inl g_1)), ((y 6), .inl (cI, 16, .inl g_2)), ((y 7), .inl (cI, 16, .inl g_3)), ((y 8), .inl (cI, 16, .inl g_4)), ((y 9), .inl (cI, 16, .inl g_5))] H := hP
                  have hD : va_D A [((y 0), .inr (8, [.ref (y 1), .int 0, .int 0, .ref (y 2), .int 1, .int 100, .int 7, .int 14, .int 3, .int 1, .int 8, .int 0, .int 0, .int (-1), .int 0, .ref (y 3), .ref (y 4), .int 0, .int 1, .ref (y 5), .ref (y 6), .ref (y 7), .ref (y 8), .ref (y 9), .int 0, .ref (y 10), .ref (y 11), .ref (y 12), .ref (y 13), .int 0, .int 0, .ref (y 14), .ref (y 15), .ref (y 16), .ref (y 17), .int 0, .int 0, .int 0, .int 0, .int 0, .int 0, .ref (y 18), .ref (y 19), .int 0, .int 0, .ref (y 20), .int 0, .ref (y 21), .ref (y 22), .ref (y 23), .ref (y 24), .ref (y 25)])), ((y 5), .inl (cI, 16, .inl g_1)), ((y 6), .inl (cI, 16, .inl g_2)), ((y 7), .inl (cI, 16, .inl g_3)), ((y 8), .inl (cI, 16, .inl g_4)), ((y 9), .inl (cI, 16, .inl g_5))] := hD
                  refine lv_aload_n hx hb dX8_child_120 rfl (lv_at hl 0 rfl) ?_
                  refine va_get (D := D) (ci := 8) (v := .int 1) (C := RX8) (T := TX8) (N := 52) hx hb hts w_1 hown hK hP 0 rfl rfl 18 (by decide) w_3 (fun _ h9 => h9) rfl dX8_child_121 ?_
                  refine lv_iconst (v := 1) hx hb dX8_child_124 (by decide) ?_
                  refine sv_isub (v := 0) hx hb dX8_child_125 (by decide) ?_
                  have hP9 := hP.sub (ws' := []) [] rfl
                  have hD9 := hD.sub (ws' := []) [] (by decide) rfl
                  exact W.iret (v := 0) hx hb hr (fun t ht hW => ⟨⟨_, (), rfl, (if_pos ⟨c_15, c_21, c_25, c_31, c_37, c_43, c_48, (Int32.not_lt.mpr c_54)⟩).symm, by rw [ht]; exact hP9, va_K.moved hW.alike hK, hD9⟩, hS.F ht⟩) hS.2.2 dX8_child_126
                ·
                  refine lv_iconst (v := (-1)) hx hb dX8_child_57 (by decide) ?_
                  have hP9 := hP.sub (ws' := []) [] rfl
                  have hD9 := hD.sub (ws' := []) [] (by decide) rfl
                  exact W.iret (v := (-1)) hx hb hr (fun t ht hW => ⟨⟨_, (), rfl, (if_neg (fun h => h.2.2.2.2.2.2.2 (Int32.not_le.mp c_54))).symm, by rw [ht]; exact hP9, va_K.moved hW.alike hK, hD9⟩, hS.F ht⟩) hS.2.2 dX8_child_58

set_option maxHeartbeats 4000000 in
set_option maxRecDepth 100000 in
theorem m_X8_legacy (l : Launch) (D : va_G) (cB cI cJ cZ : ClassId) (sz : Nat) (y : Nat → Nat) (n ee : Int32) : Met l yX8_legacy wsX8_legacy ({ frames := 0, cells := 0, slots := 0, locals := 0 } : Room) (cPre D (aTy cB cI cJ cZ) [((y 0), .inr (8, [.ref (y 1), .int 0, .int 0, .ref (y 2), .int 1, .int 100, .int 7, .int 14, .int 3, .int 1, .int 8, .int 0, .int 0, .int (-1), .int 0, .ref (y 3), .ref (y 4), .int 0, .int 0, .ref (y 5), .ref (y 6), .ref (y 7), .ref (y 8), .ref (y 9), .int 0, .ref (y 10), .ref (y 11), .ref (y 12), .ref (y 13), .int 0, .int 0, .ref (y 14), .ref (y 15), .ref (y 16), .ref (y 17), .int 0, .int 0, .int 0, .int 0, .int 0, .int 0, .ref (y 18), .ref (y 19), .int 0, .int 0, .ref (y 20), .int 0, .ref (y 21), .ref (y 22), .ref (y 23), .ref (y 24), .ref (y 25)])), ((y 14), .inl (cI, 8, .inl (fun _ => 0))), ((y 15), .inl (cI, 8, .inl (fun _ => 0)))] sz [.ref (y 0), .int n, .int ee]) (va_Qi (fun (r : Int32) (u : Unit) => r = if okL n ee then 0 else -1) (cB_ D (aTy cB cI cJ cZ) (va_A [((y 0), .inr (8, [.ref (y 1), .int 0, .int 0, .ref (y 2), .int 1, .int 100, .int 7, .int 14, .int 3, .int 1, .int 8, .int 0, .int 0, .int (-1), .int 0, .ref (y 3), .ref (y 4), .int 0, .int 0, .ref (y 5), .ref (y 6), .ref (y 7), .ref (y 8), .ref (y 9), .int 0, .ref (y 10), .ref (y 11), .ref (y 12), .ref (y 13), .int 0, .int 0, .ref (y 14), .ref (y 15), .ref (y 16), .ref (y 17), .int 0, .int 0, .int 0, .int 0, .int 0, .int 0, .ref (y 18), .ref (y 19), .int 0, .int 0, .ref (y 20), .int 0, .ref (y 21), .ref (y 22), .ref (y 23), .ref (y 24), .ref (y 25)])), ((y 14), .inl (cI, 8, .inl (fun _ => 0))), ((y 15), .inl (cI, 8, .inl (fun _ => 0)))] sz) (fun _ => [])) (va_A [((y 0), .inr (8, [.ref (y 1), .int 0, .int 0, .ref (y 2), .int 1, .int 100, .int 7, .int 14, .int 3, .int 1, .int 8, .int 0, .int 0, .int (-1), .int 0, .ref (y 3), .ref (y 4), .int 0, .int 0, .ref (y 5), .ref (y 6), .ref (y 7), .ref (y 8), .ref (y 9), .int 0, .ref (y 10), .ref (y 11), .ref (y 12), .ref (y 13), .int 0, .int 0, .ref (y 14), .ref (y 15), .ref (y 16), .ref (y 17), .int 0, .int 0, .int 0, .int 0, .int 0, .int 0, .ref (y 18), .ref (y 19), .int 0, .int 0, .ref (y 20), .int 0, .ref (y 21), .ref (y 22), .ref (y 23), .ref (y 24), .ref (y 25)])), ((y 14), .inl (cI, 8, .inl (fun _ => 0))), ((y 15), .inl (cI, 8, .inl (fun _ => 0)))] sz)) 0 0 (va_A [((y 0), .inr (8, [.ref (y 1), .int 0, .int 0, .ref (y 2), .int 1, .int 100, .int 7, .int 14, .int 3, .int 1, .int 8, .int 0, .int 0, .int (-1), .int 0, .ref (y 3), .ref (y 4), .int 0, .int 0, .ref (y 5), .ref (y 6), .ref (y 7), .ref (y 8), .ref (y 9), .int 0, .ref (y 10), .ref (y 11), .ref (y 12), .ref (y 13), .int 0, .int 0, .ref (y 14), .ref (y 15), .ref (y 16), .ref (y 17), .int 0, .int 0, .int 0, .int 0, .int 0, .int 0, .ref (y 18), .ref (y 19), .int 0, .int 0, .ref (y 20), .int 0, .ref (y 21), .ref (y 22), .ref (y 23), .ref (y 24), .ref (y 25)])), ((y 14), .inl (cI, 8, .inl (fun _ => 0))), ((y 15), .inl (cI, 8, .inl (fun _ => 0)))] sz) := by
  refine Met.ofW (cc := cX8_legacy) (maxL := 3) (ret := (some .int)) (by decide) rfl ?_
  intro p e s m args below meth c s₁ B hml hv
  obtain ⟨rfl, hsz, hP, hK, hD0⟩ := hv
  have hx := B.exec
  have hb := B.bytes
  have hr := B.returns
  have hts := atoms_spec (ws := wsX8_legacy) B.pre
  have hown : s.vm.findClass RX8 = some m.cls := findClass_of_methodNamed B.named
  have hlocks := B.notSynchronized
  subst hsz
  have hD := hD0.self (sz := s.heap.size)
  generalize hAe : va_A [((y 0), .inr (8, [.ref (y 1), .int 0, .int 0, .ref (y 2), .int 1, .int 100, .int 7, .int 14, .int 3, .int 1, .int 8, .int 0, .int 0, .int (-1), .int 0, .ref (y 3), .ref (y 4), .int 0, .int 0, .ref (y 5), .ref (y 6), .ref (y 7), .ref (y 8), .ref (y 9), .int 0, .ref (y 10), .ref (y 11), .ref (y 12), .ref (y 13), .int 0, .int 0, .ref (y 14), .ref (y 15), .ref (y 16), .ref (y 17), .int 0, .int 0, .int 0, .int 0, .int 0, .int 0, .ref (y 18), .ref (y 19), .int 0, .int 0, .ref (y 20), .int 0, .ref (y 21), .ref (y 22), .ref (y 23), .ref (y 24), .ref (y 25)])), ((y 14), .inl (cI, 8, .inl (fun _ => 0))), ((y 15), .inl (cI, 8, .inl (fun _ => 0)))] s.heap.size = A at hD ⊢
  have hA : ∀ q : Nat, s.heap.size ≤ q → A q := fun q h => by rw [← hAe]; exact Or.inr h
  have hS : va_S A s.heap s.heap [] := va_S.rf
  have hP : va_P D vwCl [((y 0), .inr (8, [.ref (y 1), .int 0, .int 0, .ref (y 2), .int 1, .int 100, .int 7, .int 14, .int 3, .int 1, .int 8, .int 0, .int 0, .int (-1), .int 0, .ref (y 3), .ref (y 4), .int 0, .int 0, .ref (y 5), .ref (y 6), .ref (y 7), .ref (y 8), .ref (y 9), .int 0, .ref (y 10), .ref (y 11), .ref (y 12), .ref (y 13), .int 0, .int 0, .ref (y 14), .ref (y 15), .ref (y 16), .ref (y 17), .int 0, .int 0, .int 0, .int 0, .int 0, .int 0, .ref (y 18), .ref (y 19), .int 0, .int 0, .ref (y 20), .int 0, .ref (y 21), .ref (y 22), .ref (y 23), .ref (y 24), .ref (y 25)])), ((y 14), .inl (cI, 8, .inl (fun _ => 0))), ((y 15), .inl (cI, 8, .inl (fun _ => 0)))] s.heap := hP
  have w_1 : ∀ w ∈ wsX80, w ∈ wsX8_legacy := by decide +kernel
  have w_2 := hts (Cond.fieldLink RX8 112 "BlueCoatsModel" "thrown" "I") (by decide +kernel)
  have w_3 := hts (Cond.fieldLink RX8 229 "BlueCoatsModel" "legacies" "I") (by decide +kernel)
  have w_4 := hts (Cond.fieldLink RX8 75 "BlueCoatsModel" "coins" "[I") (by decide +kernel)
  have w_5 := hts (Cond.fieldLink RX8 78 "BlueCoatsModel" "ends" "[I") (by decide +kernel)
  have hl := lv_entry ([.ref (y 0), .int n, .int ee]) (n := 3) (Nat.le_of_ble_eq_true rfl)
  rw [lg_entry_eq]
  generalize (lg_sl ([.ref (y 0), .int n, .int ee]) ++ List.replicate (3 - (lg_sl ([.ref (y 0), .int n, .int ee])).length) Slot.unset).toArray = ls at hl ⊢
  have hl : lv_has ls 3 [(0, .ref (y 0)), (1, .int n), (2, .int ee)] := hl
  refine lv_aload_n hx hb dX8_legacy_0 rfl (lv_at hl 0 rfl) ?_
  refine lv_iconst (v := 0) hx hb dX8_legacy_1 (by decide) ?_
  refine va_put (D := D) (ci := 8) (v := .int 0) (ty := .int) (C := RX8) (T := TX8) (N := 52) hx hb hts w_1 tyX8 tyX8_ok nmX8 hown hK hP hD hS 0 rfl rfl 2 (by decide) w_2 (fun _ h9 => h9) rfl (by decide +kernel) rfl rfl (Nat.le_of_ble_eq_true rfl) dX8_legacy_2 (fun H locs hP hD hS => ?_)
  have hP : va_P D vwCl [((y 0), .inr (8, [.ref (y 1), .int 0, .int 0, .ref (y 2), .int 1, .int 100, .int 7, .int 14, .int 3, .int 1, .int 8, .int 0, .int 0, .int (-1), .int 0, .ref (y 3), .ref (y 4), .int 0, .int 0, .ref (y 5), .ref (y 6), .ref (y 7), .ref (y 8), .ref (y 9), .int 0, .ref (y 10), .ref (y 11), .ref (y 12), .ref (y 13), .int 0, .int 0, .ref (y 14), .ref (y 15), .ref (y 16), .ref (y 17), .int 0, .int 0, .int 0, .int 0, .int 0, .int 0, .ref (y 18), .ref (y 19), .int 0, .int 0, .ref (y 20), .int 0, .ref (y 21), .ref (y 22), .ref (y 23), .ref (y 24), .ref (y 25)])), ((y 14), .inl (cI, 8, .inl (fun _ => 0))), ((y 15), .inl (cI, 8, .inl (fun _ => 0)))] H := hP
  have hD : va_D A [((y 0), .inr (8, [.ref (y 1), .int 0, .int 0, .ref (y 2), .int 1, .int 100, .int 7, .int 14, .int 3, .int 1, .int 8, .int 0, .int 0, .int (-1), .int 0, .ref (y 3), .ref (y 4), .int 0, .int 0, .ref (y 5), .ref (y 6), .ref (y 7), .ref (y 8), .ref (y 9), .int 0, .ref (y 10), .ref (y 11), .ref (y 12), .ref (y 13), .int 0, .int 0, .ref (y 14), .ref (y 15), .ref (y 16), .ref (y 17), .int 0, .int 0, .int 0, .int 0, .int 0, .int 0, .ref (y 18), .ref (y 19), .int 0, .int 0, .ref (y 20), .int 0, .ref (y 21), .ref (y 22), .ref (y 23), .ref (y 24), .ref (y 25)])), ((y 14), .inl (cI, 8, .inl (fun _ => 0))), ((y 15), .inl (cI, 8, .inl (fun _ => 0)))] := hD
  refine lv_aload_n hx hb dX8_legacy_5 rfl (lv_at hl 0 rfl) ?_
  refine va_get (D := D) (ci := 8) (v := .int 0) (C := RX8) (T := TX8) (N := 52) hx hb hts w_1 hown hK hP 0 rfl rfl 30 (by decide) w_3 (fun _ h9 => h9) rfl dX8_legacy_6 ?_
  refine lv_bipush (v := 8) hx hb dX8_legacy_9 (by decide) ?_
  refine lv_icmp_eq (tgt := 35) hx hb dX8_legacy_11 (by decide) (fun h => absurd h (by decide)) (fun _ => ?_)
  refine lv_iload_n hx hb dX8_legacy_14 rfl (lv_at hl 1 rfl) ?_
  refine lv_if_lt (tgt := 35) hx hb dX8_legacy_15 (by decide) (fun c_15 => ?_) (fun c_15 => ?_)
  ·
    refine lv_iconst (v := (-1)) hx hb dX8_legacy_35 (by decide) ?_
    have hP9 := hP.sub (ws' := []) [] rfl
    have hD9 := hD.sub (ws' := []) [] (by decide) rfl
    exact W.iret (v := (-1)) hx hb hr (fun t ht hW => ⟨⟨_, (), rfl, (if_neg (fun h => h.1 c_15)).symm, by rw [ht]; exact hP9, va_K.moved hW.alike hK, hD9⟩, hS.F ht⟩) hS.2.2 dX8_legacy_36
  ·
    refine lv_iload_n hx hb dX8_legacy_18 rfl (lv_at hl 1 rfl) ?_
    refine lv_sipush (v := 9999) hx hb dX8_legacy_19 (by decide) ?_
    refine lv_icmp_gt (tgt := 35) hx hb dX8_legacy_22 (by decide) (fun c_22 => ?_) (fun c_22 => ?_)
    ·
      refine lv_iconst (v := (-1)) hx hb dX8_legacy_35 (by decide) ?_
      have hP9 := hP.sub (ws' := []) [] rfl
      have hD9 := hD.sub (ws' := []) [] (by decide) rfl
      exact W.iret (v := (-1)) hx hb hr (fun t ht hW => ⟨⟨_, (), rfl, (if_neg (fun h => h.2.1 c_22)).symm, by rw [ht]; exact hP9, va_K.moved hW.alike hK, hD9⟩, hS.F ht⟩) hS.2.2 dX8_legacy_36
    ·
      refine lv_iload_n hx hb dX8_legacy_25 rfl (lv_at hl 2 rfl) ?_
      refine lv_if_lt (tgt := 35) hx hb dX8_legacy_26 (by decide) (fun c_26 => ?_) (fun c_26 => ?_)
      ·
        refine lv_iconst (v := (-1)) hx hb dX8_legacy_35 (by decide) ?_
        have hP9 := hP.sub (ws' := []) [] rfl
        have hD9 := hD.sub (ws' := []) [] (by decide) rfl
        exact W.iret (v := (-1)) hx hb hr (fun t ht hW => ⟨⟨_, (), rfl, (if_neg (fun h => h.2.2.1 c_26)).symm, by rw [ht]; exact hP9, va_K.moved hW.alike hK, hD9⟩, hS.F ht⟩) hS.2.2 dX8_legacy_36
      ·
        refine lv_iload_n hx hb dX8_legacy_29 rfl (lv_at hl 2 rfl) ?_
        refine lv_bipush (v := 63) hx hb dX8_legacy_30 (by decide) ?_
        refine lv_icmp_le (tgt := 37) hx hb dX8_legacy_32 (by decide) (fun c_32 => ?_) (fun c_32 => ?_)
        ·
          refine lv_aload_n hx hb dX8_legacy_37 rfl (lv_at hl 0 rfl) ?_
          refine va_get (D := D) (ci := 8) (v := .ref (y 14)) (C := RX8) (T := TX8) (N := 52) hx hb hts w_1 hown hK hP 0 rfl rfl 31 (by decide) w_4 (fun _ h9 => h9) rfl dX8_legacy_38 ?_
          refine lv_aload_n hx hb dX8_legacy_41 rfl (lv_at hl 0 rfl) ?_
          refine va_get (D := D) (ci := 8) (v := .int 0) (C := RX8) (T := TX8) (N := 52) hx hb hts w_1 hown hK hP 0 rfl rfl 30 (by decide) w_3 (fun _ h9 => h9) rfl dX8_legacy_42 ?_
          refine lv_iload_n hx hb dX8_legacy_45 rfl (lv_at hl 1 rfl) ?_
          refine sv_iast hx hb hK hP hD hS 1 1 rfl rfl (vp_in_iff.mpr (by decide)) dX8_legacy_46 (fun g_1 H locs eg_1 hP hD hS => ?_)
          have hP : va_P D vwCl [((y 0), .inr (8, [.ref (y 1), .int 0, .int 0, .ref (y 2), .int 1, .int 100, .int 7, .int 14, .int 3, .int 1, .int 8, .int 0, .int 0, .int (-1), .int 0, .ref (y 3), .ref (y 4), .int 0, .int 0, .ref (y 5), .ref (y 6), .ref (y 7), .ref (y 8), .ref (y 9), .int 0, .ref (y 10), .ref (y 11), .ref (y 12), .ref (y 13), .int 0, .int 0, .ref (y 14), .ref (y 15), .ref (y 16), .ref (y 17), .int 0, .int 0, .int 0, .int 0, .int 0, .int 0, .ref (y 18), .ref (y 19), .int 0, .int 0, .ref (y 20), .int 0, .ref (y 21), .ref (y 22), .ref (y 23), .ref (y 24), .ref (y 25)])), ((y 14), .inl (cI, 8, .inl g_1)), ((y 15), .inl (cI, 8, .inl (fun _ => 0)))] H := hP
          have hD : va_D A [((y 0), .inr (8, [.ref (y 1), .int 0, .int 0, .ref (y 2), .int 1, .int 100, .int 7, .int 14, .int 3, .int 1, .int 8, .int 0, .int 0, .int (-1), .int 0, .ref (y 3), .ref (y 4), .int 0, .int 0, .ref (y 5), .ref (y 6), .ref (y 7), .ref (y 8), .ref (y 9), .int 0, .ref (y 10), .ref (y 11), .ref (y 12), .ref (y 13), .int 0, .int 0, .ref (y 14), .ref (y 15), .ref (y 16), .ref (y 17), .int 0, .int 0, .int 0, .int 0, .int 0, .int 0, .ref (y 18), .ref (y 19), .int 0, .int 0, .ref (y 20), .int 0, .ref (y 21), .ref (y 22), .ref (y 23), .ref (y 24), .ref (y 25)])), ((y 14), .inl (cI, 8, .inl g_1)), ((y 15), .inl (cI, 8, .inl (fun _ => 0)))] := hD
          refine lv_aload_n hx hb dX8_legacy_47 rfl (lv_at hl 0 rfl) ?_
          refine va_get (D := D) (ci := 8) (v := .ref (y 15)) (C := RX8) (T := TX8) (N := 52) hx hb hts w_1 hown hK hP 0 rfl rfl 32 (by decide) w_5 (fun _ h9 => h9) rfl dX8_legacy_48 ?_
          refine lv_aload_n hx hb dX8_legacy_51 rfl (lv_at hl 0 rfl) ?_
          refine va_get (D := D) (ci := 8) (v := .int 0) (C := RX8) (T := TX8) (N := 52) hx hb hts w_1 hown hK hP 0 rfl rfl 30 (by decide) w_3 (fun _ h9 => h9) rfl dX8_legacy_52 ?_
          refine lv_iload_n hx hb dX8_legacy_55 rfl (lv_at hl 2 rfl) ?_
          refine sv_iast hx hb hK hP hD hS 2 1 rfl rfl (vp_in_iff.mpr (by decide)) dX8_legacy_56 (fun g_2 H locs eg_2 hP hD hS => ?_)
          have hP : va_P D vwCl [((y 0), .inr (8, [.ref (y 1), .int 0, .int 0, .ref (y 2), .int 1, .int 100, .int 7, .int 14, .int 3, .int 1, .int 8, .int 0, .int 0, .int (-1), .int 0, .ref (y 3), .ref (y 4), .int 0, .int 0, .ref (y 5), .ref (y 6), .ref (y 7), .ref (y 8), .ref (y 9), .int 0, .ref (y 10), .ref (y 11), .ref (y 12), .ref (y 13), .int 0, .int 0, .ref (y 14), .ref (y 15), .ref (y 16), .ref (y 17), .int 0, .int 0, .int 0, .int 0, .int 0, .int 0, .ref (y 18), .ref (y 19), .int 0, .int 0, .ref (y 20), .int 0, .ref (y 21), .ref (y 22), .ref (y 23), .ref (y 24), .ref (y 25)])), ((y 14), .inl (cI, 8, .inl g_1)), ((y 15), .inl (cI, 8, .inl g_2))] H := hP
          have hD : va_D A [((y 0), .inr (8, [.ref (y 1), .int 0, .int 0, .ref (y 2), .int 1, .int 100, .int 7, .int 14, .int 3, .int 1, .int 8, .int 0, .int 0, .int (-1), .int 0, .ref (y 3), .ref (y 4), .int 0, .int 0, .ref (y 5), .ref (y 6), .ref (y 7), .ref (y 8), .ref (y 9), .int 0, .ref (y 10), .ref (y 11), .ref (y 12), .ref (y 13), .int 0, .int 0, .ref (y 14), .ref (y 15), .ref (y 16), .ref (y 17), .int 0, .int 0, .int 0, .int 0, .int 0, .int 0, .ref (y 18), .ref (y 19), .int 0, .int 0, .ref (y 20), .int 0, .ref (y 21), .ref (y 22), .ref (y 23), .ref (y 24), .ref (y 25)])), ((y 14), .inl (cI, 8, .inl g_1)), ((y 15), .inl (cI, 8, .inl g_2))] := hD
          refine lv_aload_n hx hb dX8_legacy_57 rfl (lv_at hl 0 rfl) ?_
          refine lv_dup hx hb dX8_legacy_58 rfl ?_
          refine va_get (D := D) (ci := 8) (v := .int 0) (C := RX8) (T := TX8) (N := 52) hx hb hts w_1 hown hK hP 0 rfl rfl 30 (by decide) w_3 (fun _ h9 => h9) rfl dX8_legacy_59 ?_
          refine lv_iconst (v := 1) hx hb dX8_legacy_62 (by decide) ?_
          refine sv_iadd (v := 1) hx hb dX8_legacy_63 (by decide) ?_
          refine va_put (D := D) (ci := 8) (v := .int 1) (ty := .int) (C := RX8) (T := TX8) (N := 52) hx hb hts w_1 tyX8 tyX8_ok nmX8 hown hK hP hD hS 0 rfl rfl 30 (by decide) w_3 (fun _ h9 => h9) rfl (by decide +kernel) rfl rfl (Nat.le_of_ble_eq_true rfl) dX8_legacy_64 (fun H locs hP hD hS => ?_)
          have hP : va_P D vwCl [((y 0), .inr (8, [.ref (y 1), .int 0, .int 0, .ref (y 2), .int 1, .int 100, .int 7, .int 14, .int 3, .int 1, .int 8, .int 0, .int 0, .int (-1), .int 0, .ref (y 3), .ref (y 4), .int 0, .int 0, .ref (y 5), .ref (y 6), .ref (y 7), .ref (y 8), .ref (y 9), .int 0, .ref (y 10), .ref (y 11), .ref (y 12), .ref (y 13), .int 0, .int 1, .ref (y 14), .ref (y 15), .ref (y 16), .ref (y 17), .int 0, .int 0, .int 0, .int 0, .int 0, .int 0, .ref (y 18), .ref (y 19), .int 0, .int 0, .ref (y 20), .int 0, .ref (y 21), .ref (y 22), .ref (y 23), .ref (y 24), .ref (y 25)])), ((y 14), .inl (cI, 8, .inl g_1)), ((y 15), .inl (cI, 8, .inl g_2))] H := hP
          have hD : va_D A [((y 0), .inr (8, [.ref (y 1), .int 0, .int 0, .ref (y 2), .int 1, .int 100, .int 7, .int 14, .int 3, .int 1, .int 8, .int 0, .int 0, .int (-1), .int 0, .ref (y 3), .ref (y 4), .int 0, .int 0, .ref (y 5), .ref (y 6), .ref (y 7), .ref (y 8), .ref (y 9), .int 0, .ref (y 10), .ref (y 11), .ref (y 12), .ref (y 13), .int 0, .int 1, .ref (y 14), .ref (y 15), .ref (y 16), .ref (y 17), .int 0, .int 0, .int 0, .int 0, .int 0, .int 0, .ref (y 18), .ref (y 19), .int 0, .int 0, .ref (y 20), .int 0, .ref (y 21), .ref (y 22), .ref (y 23), .ref (y 24), .ref (y 25)])), ((y 14), .inl (cI, 8, .inl g_1)), ((y 15), .inl (cI, 8, .inl g_2))] := hD
          refine lv_aload_n hx hb dX8_legacy_67 rfl (lv_at hl 0 rfl) ?_
          refine va_get (D := D) (ci := 8) (v := .int 1) (C := RX8) (T := TX8) (N := 52) hx hb hts w_1 hown hK hP 0 rfl rfl 30 (by decide) w_3 (fun _ h9 => h9) rfl dX8_legacy_68 ?_
          refine lv_iconst (v := 1) hx hb dX8_legacy_71 (by decide) ?_
          refine sv_isub (v := 0) hx hb dX8_legacy_72 (by decide) ?_
          have hP9 := hP.sub (ws' := []) [] rfl
          have hD9 := hD.sub (ws' := []) [] (by decide) rfl
          exact W.iret (v := 0) hx hb hr (fun t ht hW => ⟨⟨_, (), rfl, (if_pos ⟨c_15, c_22, c_26, (Int32.not_lt.mpr c_32)⟩).symm, by rw [ht]; exact hP9, va_K.moved hW.alike hK, hD9⟩, hS.F ht⟩) hS.2.2 dX8_legacy_73
        ·
          refine lv_iconst (v := (-1)) hx hb dX8_legacy_35 (by decide) ?_
          have hP9 := hP.sub (ws' := []) [] rfl
          have hD9 := hD.sub (ws' := []) [] (by decide) rfl
          exact W.iret (v := (-1)) hx hb hr (fun t ht hW => ⟨⟨_, (), rfl, (if_neg (fun h => h.2.2.2 (Int32.not_le.mp c_32))).symm, by rw [ht]; exact hP9, va_K.moved hW.alike hK, hD9⟩, hS.F ht⟩) hS.2.2 dX8_legacy_36

set_option maxHeartbeats 4000000 in
set_option maxRecDepth 100000 in
theorem m_X8_need (l : Launch) (D : va_G) (cB cI cJ cZ : ClassId) (sz : Nat) (y : Nat → Nat) (ee n : Int32) : Met l yX8_need wsX8_need ({ frames := 0, cells := 0, slots := 0, locals := 0 } : Room) (cPre D (aTy cB cI cJ cZ) [((y 0), .inr (8, [.ref (y 1), .int 0, .int 0, .ref (y 2), .int 1, .int 100, .int 7, .int 14, .int 3, .int 1, .int 8, .int 0, .int 0, .int (-1), .int 0, .ref (y 3), .ref (y 4), .int 0, .int 0, .ref (y 5), .ref (y 6), .ref (y 7), .ref (y 8), .ref (y 9), .int 0, .ref (y 10), .ref (y 11), .ref (y 12), .ref (y 13), .int 0, .int 0, .ref (y 14), .ref (y 15), .ref (y 16), .ref (y 17), .int 0, .int 0, .int 0, .int 0, .int 0, .int 0, .ref (y 18), .ref (y 19), .int 0, .int 0, .ref (y 20), .int 0, .ref (y 21), .ref (y 22), .ref (y 23), .ref (y 24), .ref (y 25)])), ((y 16), .inl (cI, 6, .inl (fun _ => 0)))] sz [.ref (y 0), .int ee, .int n]) (va_Qi (fun (r : Int32) (u : Unit) => r = if okN ee n then 1 else 0) (cB_ D (aTy cB cI cJ cZ) (va_A [((y 0), .inr (8, [.ref (y 1), .int 0, .int 0, .ref (y 2), .int 1, .int 100, .int 7, .int 14, .int 3, .int 1, .int 8, .int 0, .int 0, .int (-1), .int 0, .ref (y 3), .ref (y 4), .int 0, .int 0, .ref (y 5), .ref (y 6), .ref (y 7), .ref (y 8), .ref (y 9), .int 0, .ref (y 10), .ref (y 11), .ref (y 12), .ref (y 13), .int 0, .int 0, .ref (y 14), .ref (y 15), .ref (y 16), .ref (y 17), .int 0, .int 0, .int 0, .int 0, .int 0, .int 0, .ref (y 18), .ref (y 19), .int 0, .int 0, .ref (y 20), .int 0, .ref (y 21), .ref (y 22), .ref (y 23), .ref (y 24), .ref (y 25)])), ((y 16), .inl (cI, 6, .inl (fun _ => 0)))] sz) (fun _ => [])) (va_A [((y 0), .inr (8, [.ref (y 1), .int 0, .int 0, .ref (y 2), .int 1, .int 100, .int 7, .int 14, .int 3, .int 1, .int 8, .int 0, .int 0, .int (-1), .int 0, .ref (y 3), .ref (y 4), .int 0, .int 0, .ref (y 5), .ref (y 6), .ref (y 7), .ref (y 8), .ref (y 9), .int 0, .ref (y 10), .ref (y 11), .ref (y 12), .ref (y 13), .int 0, .int 0, .ref (y 14), .ref (y 15), .ref (y 16), .ref (y 17), .int 0, .int 0, .int 0, .int 0, .int 0, .int 0, .ref (y 18), .ref (y 19), .int 0, .int 0, .ref (y 20), .int 0, .ref (y 21), .ref (y 22), .ref (y 23), .ref (y 24), .ref (y 25)])), ((y 16), .inl (cI, 6, .inl (fun _ => 0)))] sz)) 0 0 (va_A [((y 0), .inr (8, [.ref (y 1), .int 0, .int 0, .ref (y 2), .int 1, .int 100, .int 7, .int 14, .int 3, .int 1, .int 8, .int 0, .int 0, .int (-1), .int 0, .ref (y 3), .ref (y 4), .int 0, .int 0, .ref (y 5), .ref (y 6), .ref (y 7), .ref (y 8), .ref (y 9), .int 0, .ref (y 10), .ref (y 11), .ref (y 12), .ref (y 13), .int 0, .int 0, .ref (y 14), .ref (y 15), .ref (y 16), .ref (y 17), .int 0, .int 0, .int 0, .int 0, .int 0, .int 0, .ref (y 18), .ref (y 19), .int 0, .int 0, .ref (y 20), .int 0, .ref (y 21), .ref (y 22), .ref (y 23), .ref (y 24), .ref (y 25)])), ((y 16), .inl (cI, 6, .inl (fun _ => 0)))] sz) := by
  refine Met.ofW (cc := cX8_need) (maxL := 3) (ret := (some .boolean)) (by decide) rfl ?_
  intro p e s m args below meth c s₁ B hml hv
  obtain ⟨rfl, hsz, hP, hK, hD0⟩ := hv
  have hx := B.exec
  have hb := B.bytes
  have hr := B.returns
  have hts := atoms_spec (ws := wsX8_need) B.pre
  have hown : s.vm.findClass RX8 = some m.cls := findClass_of_methodNamed B.named
  have hlocks := B.notSynchronized
  subst hsz
  have hD := hD0.self (sz := s.heap.size)
  generalize hAe : va_A [((y 0), .inr (8, [.ref (y 1), .int 0, .int 0, .ref (y 2), .int 1, .int 100, .int 7, .int 14, .int 3, .int 1, .int 8, .int 0, .int 0, .int (-1), .int 0, .ref (y 3), .ref (y 4), .int 0, .int 0, .ref (y 5), .ref (y 6), .ref (y 7), .ref (y 8), .ref (y 9), .int 0, .ref (y 10), .ref (y 11), .ref (y 12), .ref (y 13), .int 0, .int 0, .ref (y 14), .ref (y 15), .ref (y 16), .ref (y 17), .int 0, .int 0, .int 0, .int 0, .int 0, .int 0, .ref (y 18), .ref (y 19), .int 0, .int 0, .ref (y 20), .int 0, .ref (y 21), .ref (y 22), .ref (y 23), .ref (y 24), .ref (y 25)])), ((y 16), .inl (cI, 6, .inl (fun _ => 0)))] s.heap.size = A at hD ⊢
  have hA : ∀ q : Nat, s.heap.size ≤ q → A q := fun q h => by rw [← hAe]; exact Or.inr h
  have hS : va_S A s.heap s.heap [] := va_S.rf
  have hP : va_P D vwCl [((y 0), .inr (8, [.ref (y 1), .int 0, .int 0, .ref (y 2), .int 1, .int 100, .int 7, .int 14, .int 3, .int 1, .int 8, .int 0, .int 0, .int (-1), .int 0, .ref (y 3), .ref (y 4), .int 0, .int 0, .ref (y 5), .ref (y 6), .ref (y 7), .ref (y 8), .ref (y 9), .int 0, .ref (y 10), .ref (y 11), .ref (y 12), .ref (y 13), .int 0, .int 0, .ref (y 14), .ref (y 15), .ref (y 16), .ref (y 17), .int 0, .int 0, .int 0, .int 0, .int 0, .int 0, .ref (y 18), .ref (y 19), .int 0, .int 0, .ref (y 20), .int 0, .ref (y 21), .ref (y 22), .ref (y 23), .ref (y 24), .ref (y 25)])), ((y 16), .inl (cI, 6, .inl (fun _ => 0)))] s.heap := hP
  have w_1 : ∀ w ∈ wsX80, w ∈ wsX8_need := by decide +kernel
  have w_2 := hts (Cond.fieldLink RX8 112 "BlueCoatsModel" "thrown" "I") (by decide +kernel)
  have w_3 := hts (Cond.fieldLink RX8 81 "BlueCoatsModel" "needs" "[I") (by decide +kernel)
  have hl := lv_entry ([.ref (y 0), .int ee, .int n]) (n := 3) (Nat.le_of_ble_eq_true rfl)
  rw [lg_entry_eq]
  generalize (lg_sl ([.ref (y 0), .int ee, .int n]) ++ List.replicate (3 - (lg_sl ([.ref (y 0), .int ee, .int n])).length) Slot.unset).toArray = ls at hl ⊢
  have hl : lv_has ls 3 [(0, .ref (y 0)), (1, .int ee), (2, .int n)] := hl
  refine lv_aload_n hx hb dX8_need_0 rfl (lv_at hl 0 rfl) ?_
  refine lv_iconst (v := 0) hx hb dX8_need_1 (by decide) ?_
  refine va_put (D := D) (ci := 8) (v := .int 0) (ty := .int) (C := RX8) (T := TX8) (N := 52) hx hb hts w_1 tyX8 tyX8_ok nmX8 hown hK hP hD hS 0 rfl rfl 2 (by decide) w_2 (fun _ h9 => h9) rfl (by decide +kernel) rfl rfl (Nat.le_of_ble_eq_true rfl) dX8_need_2 (fun H locs hP hD hS => ?_)
  have hP : va_P D vwCl [((y 0), .inr (8, [.ref (y 1), .int 0, .int 0, .ref (y 2), .int 1, .int 100, .int 7, .int 14, .int 3, .int 1, .int 8, .int 0, .int 0, .int (-1), .int 0, .ref (y 3), .ref (y 4), .int 0, .int 0, .ref (y 5), .ref (y 6), .ref (y 7), .ref (y 8), .ref (y 9), .int 0, .ref (y 10), .ref (y 11), .ref (y 12), .ref (y 13), .int 0, .int 0, .ref (y 14), .ref (y 15), .ref (y 16), .ref (y 17), .int 0, .int 0, .int 0, .int 0, .int 0, .int 0, .ref (y 18), .ref (y 19), .int 0, .int 0, .ref (y 20), .int 0, .ref (y 21), .ref (y 22), .ref (y 23), .ref (y 24), .ref (y 25)])), ((y 16), .inl (cI, 6, .inl (fun _ => 0)))] H := hP
  have hD : va_D A [((y 0), .inr (8, [.ref (y 1), .int 0, .int 0, .ref (y 2), .int 1, .int 100, .int 7, .int 14, .int 3, .int 1, .int 8, .int 0, .int 0, .int (-1), .int 0, .ref (y 3), .ref (y 4), .int 0, .int 0, .ref (y 5), .ref (y 6), .ref (y 7), .ref (y 8), .ref (y 9), .int 0, .ref (y 10), .ref (y 11), .ref (y 12), .ref (y 13), .int 0, .int 0, .ref (y 14), .ref (y 15), .ref (y 16), .ref (y 17), .int 0, .int 0, .int 0, .int 0, .int 0, .int 0, .ref (y 18), .ref (y 19), .int 0, .int 0, .ref (y 20), .int 0, .ref (y 21), .ref (y 22), .ref (y 23), .ref (y 24), .ref (y 25)])), ((y 16), .inl (cI, 6, .inl (fun _ => 0)))] := hD
  refine lv_iload_n hx hb dX8_need_5 rfl (lv_at hl 1 rfl) ?_
  refine lv_if_lt (tgt := 25) hx hb dX8_need_6 (by decide) (fun c_6 => ?_) (fun c_6 => ?_)
  ·
    refine lv_iconst (v := 0) hx hb dX8_need_25 (by decide) ?_
    have hP9 := hP.sub (ws' := []) [] rfl
    have hD9 := hD.sub (ws' := []) [] (by decide) rfl
    exact W.zret (v := 0) hx hb hr rfl (fun t ht hW => ⟨⟨_, (), rfl, (if_neg (fun h => h.1 c_6)).symm, by rw [ht]; exact hP9, va_K.moved hW.alike hK, hD9⟩, hS.F ht⟩) hS.2.2 dX8_need_26
  ·
    refine lv_iload_n hx hb dX8_need_9 rfl (lv_at hl 1 rfl) ?_
    refine lv_iconst (v := 5) hx hb dX8_need_10 (by decide) ?_
    refine lv_icmp_gt (tgt := 25) hx hb dX8_need_11 (by decide) (fun c_11 => ?_) (fun c_11 => ?_)
    ·
      refine lv_iconst (v := 0) hx hb dX8_need_25 (by decide) ?_
      have hP9 := hP.sub (ws' := []) [] rfl
      have hD9 := hD.sub (ws' := []) [] (by decide) rfl
      exact W.zret (v := 0) hx hb hr rfl (fun t ht hW => ⟨⟨_, (), rfl, (if_neg (fun h => h.2.1 c_11)).symm, by rw [ht]; exact hP9, va_K.moved hW.alike hK, hD9⟩, hS.F ht⟩) hS.2.2 dX8_need_26
    ·
      refine lv_iload_n hx hb dX8_need_14 rfl (lv_at hl 2 rfl) ?_
      refine lv_if_lt (tgt := 25) hx hb dX8_need_15 (by decide) (fun c_15 => ?_) (fun c_15 => ?_)
      ·
        refine lv_iconst (v := 0) hx hb dX8_need_25 (by decide) ?_
        have hP9 := hP.sub (ws' := []) [] rfl
        have hD9 := hD.sub (ws' := []) [] (by decide) rfl
        exact W.zret (v := 0) hx hb hr rfl (fun t ht hW => ⟨⟨_, (), rfl, (if_neg (fun h => h.2.2.1 c_15)).symm, by rw [ht]; exact hP9, va_K.moved hW.alike hK, hD9⟩, hS.F ht⟩) hS.2.2 dX8_need_26
      ·
        refine lv_iload_n hx hb dX8_need_18 rfl (lv_at hl 2 rfl) ?_
        refine lv_sipush (v := 9999) hx hb dX8_need_19 (by decide) ?_
        refine lv_icmp_le (tgt := 27) hx hb dX8_need_22 (by decide) (fun c_22 => ?_) (fun c_22 => ?_)
        ·
          refine lv_aload_n hx hb dX8_need_27 rfl (lv_at hl 0 rfl) ?_
          refine va_get (D := D) (ci := 8) (v := .ref (y 16)) (C := RX8) (T := TX8) (N := 52) hx hb hts w_1 hown hK hP 0 rfl rfl 33 (by decide) w_3 (fun _ h9 => h9) rfl dX8_need_28 ?_
          refine lv_iload_n hx hb dX8_need_31 rfl (lv_at hl 1 rfl) ?_
          refine lv_iload_n hx hb dX8_need_32 rfl (lv_at hl 2 rfl) ?_
          refine sv_iast hx hb hK hP hD hS 1 1 rfl rfl (i_in6' c_6 c_11) dX8_need_33 (fun g_1 H locs eg_1 hP hD hS => ?_)
          have hP : va_P D vwCl [((y 0), .inr (8, [.ref (y 1), .int 0, .int 0, .ref (y 2), .int 1, .int 100, .int 7, .int 14, .int 3, .int 1, .int 8, .int 0, .int 0, .int (-1), .int 0, .ref (y 3), .ref (y 4), .int 0, .int 0, .ref (y 5), .ref (y 6), .ref (y 7), .ref (y 8), .ref (y 9), .int 0, .ref (y 10), .ref (y 11), .ref (y 12), .ref (y 13), .int 0, .int 0, .ref (y 14), .ref (y 15), .ref (y 16), .ref (y 17), .int 0, .int 0, .int 0, .int 0, .int 0, .int 0, .ref (y 18), .ref (y 19), .int 0, .int 0, .ref (y 20), .int 0, .ref (y 21), .ref (y 22), .ref (y 23), .ref (y 24), .ref (y 25)])), ((y 16), .inl (cI, 6, .inl g_1))] H := hP
          have hD : va_D A [((y 0), .inr (8, [.ref (y 1), .int 0, .int 0, .ref (y 2), .int 1, .int 100, .int 7, .int 14, .int 3, .int 1, .int 8, .int 0, .int 0, .int (-1), .int 0, .ref (y 3), .ref (y 4), .int 0, .int 0, .ref (y 5), .ref (y 6), .ref (y 7), .ref (y 8), .ref (y 9), .int 0, .ref (y 10), .ref (y 11), .ref (y 12), .ref (y 13), .int 0, .int 0, .ref (y 14), .ref (y 15), .ref (y 16), .ref (y 17), .int 0, .int 0, .int 0, .int 0, .int 0, .int 0, .ref (y 18), .ref (y 19), .int 0, .int 0, .ref (y 20), .int 0, .ref (y 21), .ref (y 22), .ref (y 23), .ref (y 24), .ref (y 25)])), ((y 16), .inl (cI, 6, .inl g_1))] := hD
          refine lv_iconst (v := 1) hx hb dX8_need_34 (by decide) ?_
          have hP9 := hP.sub (ws' := []) [] rfl
          have hD9 := hD.sub (ws' := []) [] (by decide) rfl
          exact W.zret (v := 1) hx hb hr rfl (fun t ht hW => ⟨⟨_, (), rfl, (if_pos ⟨c_6, c_11, c_15, (Int32.not_lt.mpr c_22)⟩).symm, by rw [ht]; exact hP9, va_K.moved hW.alike hK, hD9⟩, hS.F ht⟩) hS.2.2 dX8_need_35
        ·
          refine lv_iconst (v := 0) hx hb dX8_need_25 (by decide) ?_
          have hP9 := hP.sub (ws' := []) [] rfl
          have hD9 := hD.sub (ws' := []) [] (by decide) rfl
          exact W.zret (v := 0) hx hb hr rfl (fun t ht hW => ⟨⟨_, (), rfl, (if_neg (fun h => h.2.2.2 (Int32.not_le.mp c_22))).symm, by rw [ht]; exact hP9, va_K.moved hW.alike hK, hD9⟩, hS.F ht⟩) hS.2.2 dX8_need_26

set_option maxHeartbeats 4000000 in
set_option maxRecDepth 100000 in
theorem m_X8_fault (l : Launch) (D : va_G) (cB cI cJ cZ : ClassId) (sz : Nat) (y : Nat → Nat) (q : Int32) : Met l yX8_fault wsX8_fault ({ frames := 0, cells := 0, slots := 0, locals := 0 } : Room) (cPre D (aTy cB cI cJ cZ) [((y 0), .inr (8, [.ref (y 1), .int 0, .int 0, .ref (y 2), .int 1, .int 100, .int 7, .int 14, .int 3, .int 1, .int 8, .int 0, .int 0, .int (-1), .int 0, .ref (y 3), .ref (y 4), .int 0, .int 0, .ref (y 5), .ref (y 6), .ref (y 7), .ref (y 8), .ref (y 9), .int 0, .ref (y 10), .ref (y 11), .ref (y 12), .ref (y 13), .int 0, .int 0, .ref (y 14), .ref (y 15), .ref (y 16), .ref (y 17), .int 0, .int 0, .int 0, .int 0, .int 0, .int 0, .ref (y 18), .ref (y 19), .int 0, .int 0, .ref (y 20), .int 0, .ref (y 21), .ref (y 22), .ref (y 23), .ref (y 24), .ref (y 25)]))] sz [.ref (y 0), .int q]) (va_Qi (fun (r : Int32) (u : Unit) => r = sFault q) (cB_ D (aTy cB cI cJ cZ) (va_A [((y 0), .inr (8, [.ref (y 1), .int 0, .int 0, .ref (y 2), .int 1, .int 100, .int 7, .int 14, .int 3, .int 1, .int 8, .int 0, .int 0, .int (-1), .int 0, .ref (y 3), .ref (y 4), .int 0, .int 0, .ref (y 5), .ref (y 6), .ref (y 7), .ref (y 8), .ref (y 9), .int 0, .ref (y 10), .ref (y 11), .ref (y 12), .ref (y 13), .int 0, .int 0, .ref (y 14), .ref (y 15), .ref (y 16), .ref (y 17), .int 0, .int 0, .int 0, .int 0, .int 0, .int 0, .ref (y 18), .ref (y 19), .int 0, .int 0, .ref (y 20), .int 0, .ref (y 21), .ref (y 22), .ref (y 23), .ref (y 24), .ref (y 25)]))] sz) (fun _ => [])) (va_A [((y 0), .inr (8, [.ref (y 1), .int 0, .int 0, .ref (y 2), .int 1, .int 100, .int 7, .int 14, .int 3, .int 1, .int 8, .int 0, .int 0, .int (-1), .int 0, .ref (y 3), .ref (y 4), .int 0, .int 0, .ref (y 5), .ref (y 6), .ref (y 7), .ref (y 8), .ref (y 9), .int 0, .ref (y 10), .ref (y 11), .ref (y 12), .ref (y 13), .int 0, .int 0, .ref (y 14), .ref (y 15), .ref (y 16), .ref (y 17), .int 0, .int 0, .int 0, .int 0, .int 0, .int 0, .ref (y 18), .ref (y 19), .int 0, .int 0, .ref (y 20), .int 0, .ref (y 21), .ref (y 22), .ref (y 23), .ref (y 24), .ref (y 25)]))] sz)) 0 0 (va_A [((y 0), .inr (8, [.ref (y 1), .int 0, .int 0, .ref (y 2), .int 1, .int 100, .int 7, .int 14, .int 3, .int 1, .int 8, .int 0, .int 0, .int (-1), .int 0, .ref (y 3), .ref (y 4), .int 0, .int 0, .ref (y 5), .ref (y 6), .ref (y 7), .ref (y 8), .ref (y 9), .int 0, .ref (y 10), .ref (y 11), .ref (y 12), .ref (y 13), .int 0, .int 0, .ref (y 14), .ref (y 15), .ref (y 16), .ref (y 17), .int 0, .int 0, .int 0, .int 0, .int 0, .int 0, .ref (y 18), .ref (y 19), .int 0, .int 0, .ref (y 20), .int 0, .ref (y 21), .ref (y 22), .ref (y 23), .ref (y 24), .ref (y 25)]))] sz) := by
  refine Met.ofW (cc := cX8_fault) (maxL := 2) (ret := (some .int)) (by decide) rfl ?_
  intro p e s m args below meth c s₁ B hml hv
  obtain ⟨rfl, hsz, hP, hK, hD0⟩ := hv
  have hx := B.exec
  have hb := B.bytes
  have hr := B.returns
  have hts := atoms_spec (ws := wsX8_fault) B.pre
  have hown : s.vm.findClass RX8 = some m.cls := findClass_of_methodNamed B.named
  have hlocks := B.notSynchronized
  subst hsz
  have hD := hD0.self (sz := s.heap.size)
  generalize hAe : va_A [((y 0), .inr (8, [.ref (y 1), .int 0, .int 0, .ref (y 2), .int 1, .int 100, .int 7, .int 14, .int 3, .int 1, .int 8, .int 0, .int 0, .int (-1), .int 0, .ref (y 3), .ref (y 4), .int 0, .int 0, .ref (y 5), .ref (y 6), .ref (y 7), .ref (y 8), .ref (y 9), .int 0, .ref (y 10), .ref (y 11), .ref (y 12), .ref (y 13), .int 0, .int 0, .ref (y 14), .ref (y 15), .ref (y 16), .ref (y 17), .int 0, .int 0, .int 0, .int 0, .int 0, .int 0, .ref (y 18), .ref (y 19), .int 0, .int 0, .ref (y 20), .int 0, .ref (y 21), .ref (y 22), .ref (y 23), .ref (y 24), .ref (y 25)]))] s.heap.size = A at hD ⊢
  have hA : ∀ q : Nat, s.heap.size ≤ q → A q := fun q h => by rw [← hAe]; exact Or.inr h
  have hS : va_S A s.heap s.heap [] := va_S.rf
  have hP : va_P D vwCl [((y 0), .inr (8, [.ref (y 1), .int 0, .int 0, .ref (y 2), .int 1, .int 100, .int 7, .int 14, .int 3, .int 1, .int 8, .int 0, .int 0, .int (-1), .int 0, .ref (y 3), .ref (y 4), .int 0, .int 0, .ref (y 5), .ref (y 6), .ref (y 7), .ref (y 8), .ref (y 9), .int 0, .ref (y 10), .ref (y 11), .ref (y 12), .ref (y 13), .int 0, .int 0, .ref (y 14), .ref (y 15), .ref (y 16), .ref (y 17), .int 0, .int 0, .int 0, .int 0, .int 0, .int 0, .ref (y 18), .ref (y 19), .int 0, .int 0, .ref (y 20), .int 0, .ref (y 21), .ref (y 22), .ref (y 23), .ref (y 24), .ref (y 25)]))] s.heap := hP
  have w_1 : ∀ w ∈ wsX80, w ∈ wsX8_fault := by decide +kernel
  have w_2 := hts (Cond.fieldLink RX8 112 "BlueCoatsModel" "thrown" "I") (by decide +kernel)
  have w_3 := hts (Cond.fieldLink RX8 38 "BlueCoatsModel" "faultPlace" "I") (by decide +kernel)
  have w_4 := hts (Cond.fieldLink RX8 118 "BlueCoatsModel" "fault" "I") (by decide +kernel)
  have hl := lv_entry ([.ref (y 0), .int q]) (n := 2) (Nat.le_of_ble_eq_true rfl)
  rw [lg_entry_eq]
  generalize (lg_sl ([.ref (y 0), .int q]) ++ List.replicate (2 - (lg_sl ([.ref (y 0), .int q])).length) Slot.unset).toArray = ls at hl ⊢
  have hl : lv_has ls 2 [(0, .ref (y 0)), (1, .int q)] := hl
  refine lv_aload_n hx hb dX8_fault_0 rfl (lv_at hl 0 rfl) ?_
  refine lv_iconst (v := 0) hx hb dX8_fault_1 (by decide) ?_
  refine va_put (D := D) (ci := 8) (v := .int 0) (ty := .int) (C := RX8) (T := TX8) (N := 52) hx hb hts w_1 tyX8 tyX8_ok nmX8 hown hK hP hD hS 0 rfl rfl 2 (by decide) w_2 (fun _ h9 => h9) rfl (by decide +kernel) rfl rfl (Nat.le_of_ble_eq_true rfl) dX8_fault_2 (fun H locs hP hD hS => ?_)
  have hP : va_P D vwCl [((y 0), .inr (8, [.ref (y 1), .int 0, .int 0, .ref (y 2), .int 1, .int 100, .int 7, .int 14, .int 3, .int 1, .int 8, .int 0, .int 0, .int (-1), .int 0, .ref (y 3), .ref (y 4), .int 0, .int 0, .ref (y 5), .ref (y 6), .ref (y 7), .ref (y 8), .ref (y 9), .int 0, .ref (y 10), .ref (y 11), .ref (y 12), .ref (y 13), .int 0, .int 0, .ref (y 14), .ref (y 15), .ref (y 16), .ref (y 17), .int 0, .int 0, .int 0, .int 0, .int 0, .int 0, .ref (y 18), .ref (y 19), .int 0, .int 0, .ref (y 20), .int 0, .ref (y 21), .ref (y 22), .ref (y 23), .ref (y 24), .ref (y 25)]))] H := hP
  have hD : va_D A [((y 0), .inr (8, [.ref (y 1), .int 0, .int 0, .ref (y 2), .int 1, .int 100, .int 7, .int 14, .int 3, .int 1, .int 8, .int 0, .int 0, .int (-1), .int 0, .ref (y 3), .ref (y 4), .int 0, .int 0, .ref (y 5), .ref (y 6), .ref (y 7), .ref (y 8), .ref (y 9), .int 0, .ref (y 10), .ref (y 11), .ref (y 12), .ref (y 13), .int 0, .int 0, .ref (y 14), .ref (y 15), .ref (y 16), .ref (y 17), .int 0, .int 0, .int 0, .int 0, .int 0, .int 0, .ref (y 18), .ref (y 19), .int 0, .int 0, .ref (y 20), .int 0, .ref (y 21), .ref (y 22), .ref (y 23), .ref (y 24), .ref (y 25)]))] := hD
  refine lv_iload_n hx hb dX8_fault_5 rfl (lv_at hl 1 rfl) ?_
  refine lv_if_ne (tgt := 16) hx hb dX8_fault_6 (by decide) (fun c_6 => ?_) (fun c_6 => ?_)
  ·
    refine lv_iload_n hx hb dX8_fault_16 rfl (lv_at hl 1 rfl) ?_
    refine lv_iconst (v := 1) hx hb dX8_fault_17 (by decide) ?_
    refine lv_icmp_ne (tgt := 28) hx hb dX8_fault_18 (by decide) (fun c_18 => ?_) (fun c_18 => ?_)
    ·
      refine lv_iconst (v := (-1)) hx hb dX8_fault_28 (by decide) ?_
      have hP9 := hP.sub (ws' := []) [] rfl
      have hD9 := hD.sub (ws' := []) [] (by decide) rfl
      exact W.iret (v := (-1)) hx hb hr (fun t ht hW => ⟨⟨_, (), rfl, (sFaultN c_6), by rw [ht]; exact hP9, va_K.moved hW.alike hK, hD9⟩, hS.F ht⟩) hS.2.2 dX8_fault_29
    ·
      refine lv_aload_n hx hb dX8_fault_21 rfl (lv_at hl 0 rfl) ?_
      refine va_get (D := D) (ci := 8) (v := .int (-1)) (C := RX8) (T := TX8) (N := 52) hx hb hts w_1 hown hK hP 0 rfl rfl 13 (by decide) w_3 (fun _ h9 => h9) rfl dX8_fault_22 ?_
      refine lv_goto (tgt := 29) hx hb dX8_fault_25 (by decide) ?_
      have hP9 := hP.sub (ws' := []) [] rfl
      have hD9 := hD.sub (ws' := []) [] (by decide) rfl
      exact W.iret (v := (-1)) hx hb hr (fun t ht hW => ⟨⟨_, (), rfl, (sFaultN c_6), by rw [ht]; exact hP9, va_K.moved hW.alike hK, hD9⟩, hS.F ht⟩) hS.2.2 dX8_fault_29
  ·
    refine lv_aload_n hx hb dX8_fault_9 rfl (lv_at hl 0 rfl) ?_
    refine va_get (D := D) (ci := 8) (v := .int 0) (C := RX8) (T := TX8) (N := 52) hx hb hts w_1 hown hK hP 0 rfl rfl 12 (by decide) w_4 (fun _ h9 => h9) rfl dX8_fault_10 ?_
    refine lv_goto (tgt := 29) hx hb dX8_fault_13 (by decide) ?_
    have hP9 := hP.sub (ws' := []) [] rfl
    have hD9 := hD.sub (ws' := []) [] (by decide) rfl
    exact W.iret (v := 0) hx hb hr (fun t ht hW => ⟨⟨_, (), rfl, (sFault0 c_6), by rw [ht]; exact hP9, va_K.moved hW.alike hK, hD9⟩, hS.F ht⟩) hS.2.2 dX8_fault_29

set_option maxHeartbeats 4000000 in
set_option maxRecDepth 100000 in
theorem m_X8_inMany (l : Launch) (D : va_G) (cB cI cJ cZ : ClassId) (y : Nat → Nat) : Met l yX8_inMany wsX8_inMany ({ frames := 0, cells := 0, slots := 0, locals := 0 } : Room) (cRd D (aTy cB cI cJ cZ) [((y 0), .inr (8, [.ref (y 1), .int 0, .int 0, .ref (y 2), .int 1, .int 100, .int 7, .int 14, .int 3, .int 1, .int 8, .int 0, .int 0, .int (-1), .int 0, .ref (y 3), .ref (y 4), .int 0, .int 0, .ref (y 5), .ref (y 6), .ref (y 7), .ref (y 8), .ref (y 9), .int 0, .ref (y 10), .ref (y 11), .ref (y 12), .ref (y 13), .int 0, .int 0, .ref (y 14), .ref (y 15), .ref (y 16), .ref (y 17), .int 0, .int 0, .int 0, .int 0, .int 0, .int 0, .ref (y 18), .ref (y 19), .int 0, .int 0, .ref (y 20), .int 0, .ref (y 21), .ref (y 22), .ref (y 23), .ref (y 24), .ref (y 25)]))] [.ref (y 0)]) (vp_Si (fun r : Int32 => r = 0)) 0 0 (fun _ => False) := by
  refine Met.ofW (cc := cX8_inMany) (maxL := 3) (ret := (some .int)) (by decide) rfl ?_
  intro p e s m args below meth c s₁ B hml hv
  obtain ⟨rfl, hP, hK⟩ := hv
  have hx := B.exec
  have hb := B.bytes
  have hr := B.returns
  have hts := atoms_spec (ws := wsX8_inMany) B.pre
  have hown : s.vm.findClass RX8 = some m.cls := findClass_of_methodNamed B.named
  have hlocks := B.notSynchronized
  have hP : va_P D vwCl [((y 0), .inr (8, [.ref (y 1), .int 0, .int 0, .ref (y 2), .int 1, .int 100, .int 7, .int 14, .int 3, .int 1, .int 8, .int 0, .int 0, .int (-1), .int 0, .ref (y 3), .ref (y 4), .int 0, .int 0, .ref (y 5), .ref (y 6), .ref (y 7), .ref (y 8), .ref (y 9), .int 0, .ref (y 10), .ref (y 11), .ref (y 12), .ref (y 13), .int 0, .int 0, .ref (y 14), .ref (y 15), .ref (y 16), .ref (y 17), .int 0, .int 0, .int 0, .int 0, .int 0, .int 0, .ref (y 18), .ref (y 19), .int 0, .int 0, .ref (y 20), .int 0, .ref (y 21), .ref (y 22), .ref (y 23), .ref (y 24), .ref (y 25)]))] s.heap := hP
  have w_1 : ∀ w ∈ wsX80, w ∈ wsX8_inMany := by decide +kernel
  have w_2 := hts (Cond.fieldLink RX8 180 "BlueCoatsModel" "children" "I") (by decide +kernel)
  have hl := lv_entry ([.ref (y 0)]) (n := 3) (Nat.le_of_ble_eq_true rfl)
  rw [lg_entry_eq]
  generalize (lg_sl ([.ref (y 0)]) ++ List.replicate (3 - (lg_sl ([.ref (y 0)])).length) Slot.unset).toArray = ls at hl ⊢
  have hl : lv_has ls 3 [(0, .ref (y 0))] := hl
  refine lv_iconst (v := 0) hx hb dX8_inMany_0 (by decide) ?_
  refine lv_istore_n (lv' := [(1, .int 0), (0, .ref (y 0))]) hx hb dX8_inMany_1 rfl hl (by decide) rfl (fun ls hl => ?_)
  refine lv_iconst (v := 0) hx hb dX8_inMany_2 (by decide) ?_
  refine lv_istore_n (lv' := [(2, .int 0), (1, .int 0), (0, .ref (y 0))]) hx hb dX8_inMany_3 rfl hl (by decide) rfl (fun ls hl => ?_)
  refine lv_iload_n hx hb dX8_inMany_4 rfl (lv_at hl 0 rfl) ?_
  refine lv_aload_n hx hb dX8_inMany_5 rfl (lv_at hl 2 rfl) ?_
  refine va_get (D := D) (ci := 8) (v := .int 0) (C := RX8) (T := TX8) (N := 52) hx hb hts w_1 hown hK hP 0 rfl rfl 18 (by decide) w_2 (fun _ h9 => h9) rfl dX8_inMany_6 ?_
  refine lv_icmp_ge (tgt := 36) hx hb dX8_inMany_9 (by decide) (fun _ => ?_) (fun h => absurd (by decide) h)
  refine lv_iload_n hx hb dX8_inMany_36 rfl (lv_at hl 1 rfl) ?_
  exact W.iret (v := 0) hx hb hr (fun t ht hW => ⟨_, rfl, rfl, ht⟩) (fun q h => nomatch h) dX8_inMany_37

set_option maxHeartbeats 4000000 in
set_option maxRecDepth 100000 in
theorem m_X8_comes (l : Launch) (D : va_G) (cB cI cJ cZ : ClassId) (y : Nat → Nat) : Met l yX8_comes wsX8_comes ({ frames := 0, cells := 0, slots := 0, locals := 0 } : Room) (cRd D (aTy cB cI cJ cZ) [((y 0), .inr (8, [.ref (y 1), .int 0, .int 0, .ref (y 2), .int 1, .int 100, .int 7, .int 14, .int 3, .int 1, .int 8, .int 0, .int 0, .int (-1), .int 0, .ref (y 3), .ref (y 4), .int 0, .int 0, .ref (y 5), .ref (y 6), .ref (y 7), .ref (y 8), .ref (y 9), .int 0, .ref (y 10), .ref (y 11), .ref (y 12), .ref (y 13), .int 0, .int 0, .ref (y 14), .ref (y 15), .ref (y 16), .ref (y 17), .int 0, .int 0, .int 0, .int 0, .int 0, .int 0, .ref (y 18), .ref (y 19), .int 0, .int 0, .ref (y 20), .int 0, .ref (y 21), .ref (y 22), .ref (y 23), .ref (y 24), .ref (y 25)])), ((y 2), .inl (cI, 16, .inl cyc0))] [.ref (y 0)]) (vp_Si (fun r : Int32 => r = -1)) 0 0 (fun _ => False) := by
  refine Met.ofW (cc := cX8_comes) (maxL := 4) (ret := (some .int)) (by decide) rfl ?_
  intro p e s m args below meth c s₁ B hml hv
  obtain ⟨rfl, hP, hK⟩ := hv
  have hx := B.exec
  have hb := B.bytes
  have hr := B.returns
  have hts := atoms_spec (ws := wsX8_comes) B.pre
  have hown : s.vm.findClass RX8 = some m.cls := findClass_of_methodNamed B.named
  have hlocks := B.notSynchronized
  have hP : va_P D vwCl [((y 0), .inr (8, [.ref (y 1), .int 0, .int 0, .ref (y 2), .int 1, .int 100, .int 7, .int 14, .int 3, .int 1, .int 8, .int 0, .int 0, .int (-1), .int 0, .ref (y 3), .ref (y 4), .int 0, .int 0, .ref (y 5), .ref (y 6), .ref (y 7), .ref (y 8), .ref (y 9), .int 0, .ref (y 10), .ref (y 11), .ref (y 12), .ref (y 13), .int 0, .int 0, .ref (y 14), .ref (y 15), .ref (y 16), .ref (y 17), .int 0, .int 0, .int 0, .int 0, .int 0, .int 0, .ref (y 18), .ref (y 19), .int 0, .int 0, .ref (y 20), .int 0, .ref (y 21), .ref (y 22), .ref (y 23), .ref (y 24), .ref (y 25)])), ((y 2), .inl (cI, 16, .inl cyc0))] s.heap := hP
  have w_1 : ∀ w ∈ wsX80, w ∈ wsX8_comes := by decide +kernel
  have w_2 := hts (Cond.fieldLink RX8 13 "BlueCoatsModel" "cycle" "[I") (by decide +kernel)
  have w_3 := hts (Cond.fieldLink RX8 174 "BlueCoatsModel" "cycleNext" "I") (by decide +kernel)
  have w_4 := hts (Cond.fieldLink RX8 180 "BlueCoatsModel" "children" "I") (by decide +kernel)
  have hl := lv_entry ([.ref (y 0)]) (n := 4) (Nat.le_of_ble_eq_true rfl)
  rw [lg_entry_eq]
  generalize (lg_sl ([.ref (y 0)]) ++ List.replicate (4 - (lg_sl ([.ref (y 0)])).length) Slot.unset).toArray = ls at hl ⊢
  have hl : lv_has ls 4 [(0, .ref (y 0))] := hl
  refine lv_aload_n hx hb dX8_comes_0 rfl (lv_at hl 0 rfl) ?_
  refine va_get (D := D) (ci := 8) (v := .ref (y 2)) (C := RX8) (T := TX8) (N := 52) hx hb hts w_1 hown hK hP 0 rfl rfl 3 (by decide) w_2 (fun _ h9 => h9) rfl dX8_comes_1 ?_
  refine lv_aload_n hx hb dX8_comes_4 rfl (lv_at hl 0 rfl) ?_
  refine va_get (D := D) (ci := 8) (v := .int 0) (C := RX8) (T := TX8) (N := 52) hx hb hts w_1 hown hK hP 0 rfl rfl 11 (by decide) w_3 (fun _ h9 => h9) rfl dX8_comes_5 ?_
  refine sv_iald (v := 2) hx hb hK hP 1 1 rfl rfl (vp_in_iff.mpr (by decide)) rfl dX8_comes_8 ?_
  refine lv_istore_n (lv' := [(1, .int 2), (0, .ref (y 0))]) hx hb dX8_comes_9 rfl hl (by decide) rfl (fun ls hl => ?_)
  refine lv_iload_n hx hb dX8_comes_10 rfl (lv_at hl 0 rfl) ?_
  refine lv_if_ne (tgt := 79) hx hb dX8_comes_11 (by decide) (fun _ => ?_) (fun h => absurd h (by decide))
  refine lv_iconst (v := (-1)) hx hb dX8_comes_79 (by decide) ?_
  refine lv_istore_n (lv' := [(2, .int (-1)), (1, .int 2), (0, .ref (y 0))]) hx hb dX8_comes_80 rfl hl (by decide) rfl (fun ls hl => ?_)
  refine lv_iconst (v := 0) hx hb dX8_comes_81 (by decide) ?_
  refine lv_istore_n (lv' := [(3, .int 0), (2, .int (-1)), (1, .int 2), (0, .ref (y 0))]) hx hb dX8_comes_82 rfl hl (by decide) rfl (fun ls hl => ?_)
  refine lv_iload_n hx hb dX8_comes_83 rfl (lv_at hl 0 rfl) ?_
  refine lv_aload_n hx hb dX8_comes_84 rfl (lv_at hl 3 rfl) ?_
  refine va_get (D := D) (ci := 8) (v := .int 0) (C := RX8) (T := TX8) (N := 52) hx hb hts w_1 hown hK hP 0 rfl rfl 18 (by decide) w_4 (fun _ h9 => h9) rfl dX8_comes_85 ?_
  refine lv_icmp_ge (tgt := 146) hx hb dX8_comes_88 (by decide) (fun _ => ?_) (fun h => absurd (by decide) h)
  refine lv_iload_n hx hb dX8_comes_146 rfl (lv_at hl 1 rfl) ?_
  exact W.iret (v := (-1)) hx hb hr (fun t ht hW => ⟨_, rfl, rfl, ht⟩) (fun q h => nomatch h) dX8_comes_147

set_option maxHeartbeats 4000000 in
set_option maxRecDepth 100000 in
theorem m_X8_fill (l : Launch) (D : va_G) (cB cI cJ cZ : ClassId) (sz : Nat) (y : Nat → Nat) : Met l yX8_fill wsX8_fill ({ frames := 1, cells := 0, slots := 0, locals := 23 } : Room) (cPre D (aTy cB cI cJ cZ) [((y 0), .inr (8, [.ref (y 1), .int 0, .int 0, .ref (y 2), .int 1, .int 100, .int 7, .int 14, .int 3, .int 1, .int 8, .int 0, .int 0, .int (-1), .int 0, .ref (y 3), .ref (y 4), .int 0, .int 0, .ref (y 5), .ref (y 6), .ref (y 7), .ref (y 8), .ref (y 9), .int 0, .ref (y 10), .ref (y 11), .ref (y 12), .ref (y 13), .int 0, .int 0, .ref (y 14), .ref (y 15), .ref (y 16), .ref (y 17), .int 0, .int 0, .int 0, .int 0, .int 0, .int 0, .ref (y 18), .ref (y 19), .int 0, .int 0, .ref (y 20), .int 0, .ref (y 21), .ref (y 22), .ref (y 23), .ref (y 24), .ref (y 25)])), ((y 2), .inl (cI, 16, .inl cyc0))] sz [.ref (y 0)]) (va_Qi (fun (r : Int32) (u : Unit) => r = -1) (cB_ D (aTy cB cI cJ cZ) (va_A [((y 0), .inr (8, [.ref (y 1), .int 0, .int 0, .ref (y 2), .int 1, .int 100, .int 7, .int 14, .int 3, .int 1, .int 8, .int 0, .int 0, .int (-1), .int 0, .ref (y 3), .ref (y 4), .int 0, .int 0, .ref (y 5), .ref (y 6), .ref (y 7), .ref (y 8), .ref (y 9), .int 0, .ref (y 10), .ref (y 11), .ref (y 12), .ref (y 13), .int 0, .int 0, .ref (y 14), .ref (y 15), .ref (y 16), .ref (y 17), .int 0, .int 0, .int 0, .int 0, .int 0, .int 0, .ref (y 18), .ref (y 19), .int 0, .int 0, .ref (y 20), .int 0, .ref (y 21), .ref (y 22), .ref (y 23), .ref (y 24), .ref (y 25)])), ((y 2), .inl (cI, 16, .inl cyc0))] sz) (fun _ => [])) (va_A [((y 0), .inr (8, [.ref (y 1), .int 0, .int 0, .ref (y 2), .int 1, .int 100, .int 7, .int 14, .int 3, .int 1, .int 8, .int 0, .int 0, .int (-1), .int 0, .ref (y 3), .ref (y 4), .int 0, .int 0, .ref (y 5), .ref (y 6), .ref (y 7), .ref (y 8), .ref (y 9), .int 0, .ref (y 10), .ref (y 11), .ref (y 12), .ref (y 13), .int 0, .int 0, .ref (y 14), .ref (y 15), .ref (y 16), .ref (y 17), .int 0, .int 0, .int 0, .int 0, .int 0, .int 0, .ref (y 18), .ref (y 19), .int 0, .int 0, .ref (y 20), .int 0, .ref (y 21), .ref (y 22), .ref (y 23), .ref (y 24), .ref (y 25)])), ((y 2), .inl (cI, 16, .inl cyc0))] sz)) 0 0 (va_A [((y 0), .inr (8, [.ref (y 1), .int 0, .int 0, .ref (y 2), .int 1, .int 100, .int 7, .int 14, .int 3, .int 1, .int 8, .int 0, .int 0, .int (-1), .int 0, .ref (y 3), .ref (y 4), .int 0, .int 0, .ref (y 5), .ref (y 6), .ref (y 7), .ref (y 8), .ref (y 9), .int 0, .ref (y 10), .ref (y 11), .ref (y 12), .ref (y 13), .int 0, .int 0, .ref (y 14), .ref (y 15), .ref (y 16), .ref (y 17), .int 0, .int 0, .int 0, .int 0, .int 0, .int 0, .ref (y 18), .ref (y 19), .int 0, .int 0, .ref (y 20), .int 0, .ref (y 21), .ref (y 22), .ref (y 23), .ref (y 24), .ref (y 25)])), ((y 2), .inl (cI, 16, .inl cyc0))] sz) := by
  refine Met.ofW (cc := cX8_fill) (maxL := 2) (ret := (some .int)) (by decide) rfl ?_
  intro p e s m args below meth c s₁ B hml hv
  obtain ⟨rfl, hsz, hP, hK, hD0⟩ := hv
  have hx := B.exec
  have hb := B.bytes
  have hr := B.returns
  have hts := atoms_spec (ws := wsX8_fill) B.pre
  have hown : s.vm.findClass RX8 = some m.cls := findClass_of_methodNamed B.named
  have hlocks := B.notSynchronized
  subst hsz
  have hD := hD0.self (sz := s.heap.size)
  generalize hAe : va_A [((y 0), .inr (8, [.ref (y 1), .int 0, .int 0, .ref (y 2), .int 1, .int 100, .int 7, .int 14, .int 3, .int 1, .int 8, .int 0, .int 0, .int (-1), .int 0, .ref (y 3), .ref (y 4), .int 0, .int 0, .ref (y 5), .ref (y 6), .ref (y 7), .ref (y 8), .ref (y 9), .int 0, .ref (y 10), .ref (y 11), .ref (y 12), .ref (y 13), .int 0, .int 0, .ref (y 14), .ref (y 15), .ref (y 16), .ref (y 17), .int 0, .int 0, .int 0, .int 0, .int 0, .int 0, .ref (y 18), .ref (y 19), .int 0, .int 0, .ref (y 20), .int 0, .ref (y 21), .ref (y 22), .ref (y 23), .ref (y 24), .ref (y 25)])), ((y 2), .inl (cI, 16, .inl cyc0))] s.heap.size = A at hD ⊢
  have hA : ∀ q : Nat, s.heap.size ≤ q → A q := fun q h => by rw [← hAe]; exact Or.inr h
  have hS : va_S A s.heap s.heap [] := va_S.rf
  have hP : va_P D vwCl [((y 0), .inr (8, [.ref (y 1), .int 0, .int 0, .ref (y 2), .int 1, .int 100, .int 7, .int 14, .int 3, .int 1, .int 8, .int 0, .int 0, .int (-1), .int 0, .ref (y 3), .ref (y 4), .int 0, .int 0, .ref (y 5), .ref (y 6), .ref (y 7), .ref (y 8), .ref (y 9), .int 0, .ref (y 10), .ref (y 11), .ref (y 12), .ref (y 13), .int 0, .int 0, .ref (y 14), .ref (y 15), .ref (y 16), .ref (y 17), .int 0, .int 0, .int 0, .int 0, .int 0, .int 0, .ref (y 18), .ref (y 19), .int 0, .int 0, .ref (y 20), .int 0, .ref (y 21), .ref (y 22), .ref (y 23), .ref (y 24), .ref (y 25)])), ((y 2), .inl (cI, 16, .inl cyc0))] s.heap := hP
  have w_1 : ∀ w ∈ wsX80, w ∈ wsX8_fill := by decide +kernel
  have w_2 := hts (Cond.fieldLink RX8 112 "BlueCoatsModel" "thrown" "I") (by decide +kernel)
  have w_3 := hts (Cond.fieldLink RX8 35 "BlueCoatsModel" "places" "I") (by decide +kernel)
  have hl := lv_entry ([.ref (y 0)]) (n := 2) (Nat.le_of_ble_eq_true rfl)
  rw [lg_entry_eq]
  generalize (lg_sl ([.ref (y 0)]) ++ List.replicate (2 - (lg_sl ([.ref (y 0)])).length) Slot.unset).toArray = ls at hl ⊢
  have hl : lv_has ls 2 [(0, .ref (y 0))] := hl
  refine lv_aload_n hx hb dX8_fill_0 rfl (lv_at hl 0 rfl) ?_
  refine lv_iconst (v := 0) hx hb dX8_fill_1 (by decide) ?_
  refine va_put (D := D) (ci := 8) (v := .int 0) (ty := .int) (C := RX8) (T := TX8) (N := 52) hx hb hts w_1 tyX8 tyX8_ok nmX8 hown hK hP hD hS 0 rfl rfl 2 (by decide) w_2 (fun _ h9 => h9) rfl (by decide +kernel) rfl rfl (Nat.le_of_ble_eq_true rfl) dX8_fill_2 (fun H locs hP hD hS => ?_)
  have hP : va_P D vwCl [((y 0), .inr (8, [.ref (y 1), .int 0, .int 0, .ref (y 2), .int 1, .int 100, .int 7, .int 14, .int 3, .int 1, .int 8, .int 0, .int 0, .int (-1), .int 0, .ref (y 3), .ref (y 4), .int 0, .int 0, .ref (y 5), .ref (y 6), .ref (y 7), .ref (y 8), .ref (y 9), .int 0, .ref (y 10), .ref (y 11), .ref (y 12), .ref (y 13), .int 0, .int 0, .ref (y 14), .ref (y 15), .ref (y 16), .ref (y 17), .int 0, .int 0, .int 0, .int 0, .int 0, .int 0, .ref (y 18), .ref (y 19), .int 0, .int 0, .ref (y 20), .int 0, .ref (y 21), .ref (y 22), .ref (y 23), .ref (y 24), .ref (y 25)])), ((y 2), .inl (cI, 16, .inl cyc0))] H := hP
  have hD : va_D A [((y 0), .inr (8, [.ref (y 1), .int 0, .int 0, .ref (y 2), .int 1, .int 100, .int 7, .int 14, .int 3, .int 1, .int 8, .int 0, .int 0, .int (-1), .int 0, .ref (y 3), .ref (y 4), .int 0, .int 0, .ref (y 5), .ref (y 6), .ref (y 7), .ref (y 8), .ref (y 9), .int 0, .ref (y 10), .ref (y 11), .ref (y 12), .ref (y 13), .int 0, .int 0, .ref (y 14), .ref (y 15), .ref (y 16), .ref (y 17), .int 0, .int 0, .int 0, .int 0, .int 0, .int 0, .ref (y 18), .ref (y 19), .int 0, .int 0, .ref (y 20), .int 0, .ref (y 21), .ref (y 22), .ref (y 23), .ref (y 24), .ref (y 25)])), ((y 2), .inl (cI, 16, .inl cyc0))] := hD
  refine lv_aload_n hx hb dX8_fill_5 rfl (lv_at hl 0 rfl) ?_
  refine vp_callSi (va_Run.run (va_runV (As := []) (rest := []) ⟨hx, hb, hml, hown, hts⟩ (m_X8_inMany l D cB cI cJ cZ y) (cwV 0 hts gX8_fill_X8_inMany rfl rfl rfl (by decide +kernel) ⟨Nat.le_of_ble_eq_true rfl, Nat.le_of_ble_eq_true rfl⟩) (pre_VR (hP.sub (ws' := [((y 0), .inr (8, [.ref (y 1), .int 0, .int 0, .ref (y 2), .int 1, .int 100, .int 7, .int 14, .int 3, .int 1, .int 8, .int 0, .int 0, .int (-1), .int 0, .ref (y 3), .ref (y 4), .int 0, .int 0, .ref (y 5), .ref (y 6), .ref (y 7), .ref (y 8), .ref (y 9), .int 0, .ref (y 10), .ref (y 11), .ref (y 12), .ref (y 13), .int 0, .int 0, .ref (y 14), .ref (y 15), .ref (y 16), .ref (y 17), .int 0, .int 0, .int 0, .int 0, .int 0, .int 0, .ref (y 18), .ref (y 19), .int 0, .int 0, .ref (y 20), .int 0, .ref (y 21), .ref (y 22), .ref (y 23), .ref (y 24), .ref (y 25)]))]) [0] rfl) hK 0 rfl rfl rfl) rfl rfl hl.1 rfl (lv_room (Nat.le_of_ble_eq_true rfl)) dX8_fill_6 ⟨Nat.le_of_ble_eq_true rfl, Nat.le_of_ble_eq_true rfl⟩)) (fun r_1 hw_r_1 => ?_)
  subst hw_r_1
  refine lv_aload_n hx hb dX8_fill_9 rfl (lv_at hl 0 rfl) ?_
  refine va_get (D := D) (ci := 8) (v := .int 8) (C := RX8) (T := TX8) (N := 52) hx hb hts w_1 hown hK hP 0 rfl rfl 10 (by decide) w_3 (fun _ h9 => h9) rfl dX8_fill_10 ?_
  refine lv_icmp_lt (tgt := 18) hx hb dX8_fill_13 (by decide) (fun _ => ?_) (fun h => absurd (by decide) h)
  refine lv_aload_n hx hb dX8_fill_18 rfl (lv_at hl 0 rfl) ?_
  refine vp_callSi (va_Run.run (va_runV (As := []) (rest := []) ⟨hx, hb, hml, hown, hts⟩ (m_X8_comes l D cB cI cJ cZ y) (cwV 0 hts gX8_fill_X8_comes rfl rfl rfl (by decide +kernel) ⟨Nat.le_of_ble_eq_true rfl, Nat.le_of_ble_eq_true rfl⟩) (pre_VR (hP.sub (ws' := [((y 0), .inr (8, [.ref (y 1), .int 0, .int 0, .ref (y 2), .int 1, .int 100, .int 7, .int 14, .int 3, .int 1, .int 8, .int 0, .int 0, .int (-1), .int 0, .ref (y 3), .ref (y 4), .int 0, .int 0, .ref (y 5), .ref (y 6), .ref (y 7), .ref (y 8), .ref (y 9), .int 0, .ref (y 10), .ref (y 11), .ref (y 12), .ref (y 13), .int 0, .int 0, .ref (y 14), .ref (y 15), .ref (y 16), .ref (y 17), .int 0, .int 0, .int 0, .int 0, .int 0, .int 0, .ref (y 18), .ref (y 19), .int 0, .int 0, .ref (y 20), .int 0, .ref (y 21), .ref (y 22), .ref (y 23), .ref (y 24), .ref (y 25)])), ((y 2), .inl (cI, 16, .inl cyc0))]) [0, 1] rfl) hK 0 rfl rfl rfl) rfl rfl hl.1 rfl (lv_room (Nat.le_of_ble_eq_true rfl)) dX8_fill_19 ⟨Nat.le_of_ble_eq_true rfl, Nat.le_of_ble_eq_true rfl⟩)) (fun r_2 hw_r_2 => ?_)
  subst hw_r_2
  refine lv_istore_n (lv' := [(1, .int (-1)), (0, .ref (y 0))]) hx hb dX8_fill_22 rfl hl (by decide) rfl (fun ls hl => ?_)
  refine lv_iload_n hx hb dX8_fill_23 rfl (lv_at hl 0 rfl) ?_
  refine lv_if_ge (tgt := 29) hx hb dX8_fill_24 (by decide) (fun h => absurd h (by decide)) (fun _ => ?_)
  refine lv_iconst (v := (-1)) hx hb dX8_fill_27 (by decide) ?_
  have hP9 := hP.sub (ws' := []) [] rfl
  have hD9 := hD.sub (ws' := []) [] (by decide) rfl
  exact W.iret (v := (-1)) hx hb hr (fun t ht hW => ⟨⟨_, (), rfl, rfl, by rw [ht]; exact hP9, va_K.moved hW.alike hK, hD9⟩, hS.F ht⟩) hS.2.2 dX8_fill_28

set_option maxHeartbeats 4000000 in
set_option maxRecDepth 100000 in
theorem m_X8_count (l : Launch) (D : va_G) (cB cI cJ cZ : ClassId) (sz : Nat) (y : Nat → Nat) (q : Int32) : Met l yX8_count wsX8_count ({ frames := 1, cells := 0, slots := 0, locals := 22 } : Room) (cPre D (aTy cB cI cJ cZ) [((y 0), .inr (8, [.ref (y 1), .int 0, .int 0, .ref (y 2), .int 1, .int 100, .int 7, .int 14, .int 3, .int 1, .int 8, .int 0, .int 0, .int (-1), .int 0, .ref (y 3), .ref (y 4), .int 0, .int 0, .ref (y 5), .ref (y 6), .ref (y 7), .ref (y 8), .ref (y 9), .int 0, .ref (y 10), .ref (y 11), .ref (y 12), .ref (y 13), .int 0, .int 0, .ref (y 14), .ref (y 15), .ref (y 16), .ref (y 17), .int 0, .int 0, .int 0, .int 0, .int 0, .int 0, .ref (y 18), .ref (y 19), .int 0, .int 0, .ref (y 20), .int 0, .ref (y 21), .ref (y 22), .ref (y 23), .ref (y 24), .ref (y 25)])), ((y 2), .inl (cI, 16, .inl cyc0))] sz [.ref (y 0), .int q]) (va_Qi (fun (r : Int32) (u : Unit) => r = sCount q) (cB_ D (aTy cB cI cJ cZ) (va_A [((y 0), .inr (8, [.ref (y 1), .int 0, .int 0, .ref (y 2), .int 1, .int 100, .int 7, .int 14, .int 3, .int 1, .int 8, .int 0, .int 0, .int (-1), .int 0, .ref (y 3), .ref (y 4), .int 0, .int 0, .ref (y 5), .ref (y 6), .ref (y 7), .ref (y 8), .ref (y 9), .int 0, .ref (y 10), .ref (y 11), .ref (y 12), .ref (y 13), .int 0, .int 0, .ref (y 14), .ref (y 15), .ref (y 16), .ref (y 17), .int 0, .int 0, .int 0, .int 0, .int 0, .int 0, .ref (y 18), .ref (y 19), .int 0, .int 0, .ref (y 20), .int 0, .ref (y 21), .ref (y 22), .ref (y 23), .ref (y 24), .ref (y 25)])), ((y 2), .inl (cI, 16, .inl cyc0))] sz) (fun _ => [])) (va_A [((y 0), .inr (8, [.ref (y 1), .int 0, .int 0, .ref (y 2), .int 1, .int 100, .int 7, .int 14, .int 3, .int 1, .int 8, .int 0, .int 0, .int (-1), .int 0, .ref (y 3), .ref (y 4), .int 0, .int 0, .ref (y 5), .ref (y 6), .ref (y 7), .ref (y 8), .ref (y 9), .int 0, .ref (y 10), .ref (y 11), .ref (y 12), .ref (y 13), .int 0, .int 0, .ref (y 14), .ref (y 15), .ref (y 16), .ref (y 17), .int 0, .int 0, .int 0, .int 0, .int 0, .int 0, .ref (y 18), .ref (y 19), .int 0, .int 0, .ref (y 20), .int 0, .ref (y 21), .ref (y 22), .ref (y 23), .ref (y 24), .ref (y 25)])), ((y 2), .inl (cI, 16, .inl cyc0))] sz)) 0 0 (va_A [((y 0), .inr (8, [.ref (y 1), .int 0, .int 0, .ref (y 2), .int 1, .int 100, .int 7, .int 14, .int 3, .int 1, .int 8, .int 0, .int 0, .int (-1), .int 0, .ref (y 3), .ref (y 4), .int 0, .int 0, .ref (y 5), .ref (y 6), .ref (y 7), .ref (y 8), .ref (y 9), .int 0, .ref (y 10), .ref (y 11), .ref (y 12), .ref (y 13), .int 0, .int 0, .ref (y 14), .ref (y 15), .ref (y 16), .ref (y 17), .int 0, .int 0, .int 0, .int 0, .int 0, .int 0, .ref (y 18), .ref (y 19), .int 0, .int 0, .ref (y 20), .int 0, .ref (y 21), .ref (y 22), .ref (y 23), .ref (y 24), .ref (y 25)])), ((y 2), .inl (cI, 16, .inl cyc0))] sz) := by
  refine Met.ofW (cc := cX8_count) (maxL := 2) (ret := (some .int)) (by decide) rfl ?_
  intro p e s m args below meth c s₁ B hml hv
  obtain ⟨rfl, hsz, hP, hK, hD0⟩ := hv
  have hx := B.exec
  have hb := B.bytes
  have hr := B.returns
  have hts := atoms_spec (ws := wsX8_count) B.pre
  have hown : s.vm.findClass RX8 = some m.cls := findClass_of_methodNamed B.named
  have hlocks := B.notSynchronized
  subst hsz
  have hD := hD0.self (sz := s.heap.size)
  generalize hAe : va_A [((y 0), .inr (8, [.ref (y 1), .int 0, .int 0, .ref (y 2), .int 1, .int 100, .int 7, .int 14, .int 3, .int 1, .int 8, .int 0, .int 0, .int (-1), .int 0, .ref (y 3), .ref (y 4), .int 0, .int 0, .ref (y 5), .ref (y 6), .ref (y 7), .ref (y 8), .ref (y 9), .int 0, .ref (y 10), .ref (y 11), .ref (y 12), .ref (y 13), .int 0, .int 0, .ref (y 14), .ref (y 15), .ref (y 16), .ref (y 17), .int 0, .int 0, .int 0, .int 0, .int 0, .int 0, .ref (y 18), .ref (y 19), .int 0, .int 0, .ref (y 20), .int 0, .ref (y 21), .ref (y 22), .ref (y 23), .ref (y 24), .ref (y 25)])), ((y 2), .inl (cI, 16, .inl cyc0))] s.heap.size = A at hD ⊢
  have hA : ∀ q : Nat, s.heap.size ≤ q → A q := fun q h => by rw [← hAe]; exact Or.inr h
  have hS : va_S A s.heap s.heap [] := va_S.rf
  have hP : va_P D vwCl [((y 0), .inr (8, [.ref (y 1), .int 0, .int 0, .ref (y 2), .int 1, .int 100, .int 7, .int 14, .int 3, .int 1, .int 8, .int 0, .int 0, .int (-1), .int 0, .ref (y 3), .ref (y 4), .int 0, .int 0, .ref (y 5), .ref (y 6), .ref (y 7), .ref (y 8), .ref (y 9), .int 0, .ref (y 10), .ref (y 11), .ref (y 12), .ref (y 13), .int 0, .int 0, .ref (y 14), .ref (y 15), .ref (y 16), .ref (y 17), .int 0, .int 0, .int 0, .int 0, .int 0, .int 0, .ref (y 18), .ref (y 19), .int 0, .int 0, .ref (y 20), .int 0, .ref (y 21), .ref (y 22), .ref (y 23), .ref (y 24), .ref (y 25)])), ((y 2), .inl (cI, 16, .inl cyc0))] s.heap := hP
  have w_1 : ∀ w ∈ wsX80, w ∈ wsX8_count := by decide +kernel
  have w_2 := hts (Cond.fieldLink RX8 112 "BlueCoatsModel" "thrown" "I") (by decide +kernel)
  have w_3 := hts (Cond.fieldLink RX8 177 "BlueCoatsModel" "givers" "I") (by decide +kernel)
  have w_4 := hts (Cond.fieldLink RX8 180 "BlueCoatsModel" "children" "I") (by decide +kernel)
  have w_5 := hts (Cond.fieldLink RX8 210 "BlueCoatsModel" "coats" "I") (by decide +kernel)
  have w_6 := hts (Cond.fieldLink RX8 229 "BlueCoatsModel" "legacies" "I") (by decide +kernel)
  have w_7 := hts (Cond.fieldLink RX8 190 "BlueCoatsModel" "giverNext" "I") (by decide +kernel)
  have w_8 := hts (Cond.fieldLink RX8 13 "BlueCoatsModel" "cycle" "[I") (by decide +kernel)
  have w_9 := hts (Cond.fieldLink RX8 174 "BlueCoatsModel" "cycleNext" "I") (by decide +kernel)
  have w_10 := hts (Cond.fieldLink RX8 207 "BlueCoatsModel" "years" "I") (by decide +kernel)
  have hl := lv_entry ([.ref (y 0), .int q]) (n := 2) (Nat.le_of_ble_eq_true rfl)
  rw [lg_entry_eq]
  generalize (lg_sl ([.ref (y 0), .int q]) ++ List.replicate (2 - (lg_sl ([.ref (y 0), .int q])).length) Slot.unset).toArray = ls at hl ⊢
  have hl : lv_has ls 2 [(0, .ref (y 0)), (1, .int q)] := hl
  refine lv_aload_n hx hb dX8_count_0 rfl (lv_at hl 0 rfl) ?_
  refine lv_iconst (v := 0) hx hb dX8_count_1 (by decide) ?_
  refine va_put (D := D) (ci := 8) (v := .int 0) (ty := .int) (C := RX8) (T := TX8) (N := 52) hx hb hts w_1 tyX8 tyX8_ok nmX8 hown hK hP hD hS 0 rfl rfl 2 (by decide) w_2 (fun _ h9 => h9) rfl (by decide +kernel) rfl rfl (Nat.le_of_ble_eq_true rfl) dX8_count_2 (fun H locs hP hD hS => ?_)
  have hP : va_P D vwCl [((y 0), .inr (8, [.ref (y 1), .int 0, .int 0, .ref (y 2), .int 1, .int 100, .int 7, .int 14, .int 3, .int 1, .int 8, .int 0, .int 0, .int (-1), .int 0, .ref (y 3), .ref (y 4), .int 0, .int 0, .ref (y 5), .ref (y 6), .ref (y 7), .ref (y 8), .ref (y 9), .int 0, .ref (y 10), .ref (y 11), .ref (y 12), .ref (y 13), .int 0, .int 0, .ref (y 14), .ref (y 15), .ref (y 16), .ref (y 17), .int 0, .int 0, .int 0, .int 0, .int 0, .int 0, .ref (y 18), .ref (y 19), .int 0, .int 0, .ref (y 20), .int 0, .ref (y 21), .ref (y 22), .ref (y 23), .ref (y 24), .ref (y 25)])), ((y 2), .inl (cI, 16, .inl cyc0))] H := hP
  have hD : va_D A [((y 0), .inr (8, [.ref (y 1), .int 0, .int 0, .ref (y 2), .int 1, .int 100, .int 7, .int 14, .int 3, .int 1, .int 8, .int 0, .int 0, .int (-1), .int 0, .ref (y 3), .ref (y 4), .int 0, .int 0, .ref (y 5), .ref (y 6), .ref (y 7), .ref (y 8), .ref (y 9), .int 0, .ref (y 10), .ref (y 11), .ref (y 12), .ref (y 13), .int 0, .int 0, .ref (y 14), .ref (y 15), .ref (y 16), .ref (y 17), .int 0, .int 0, .int 0, .int 0, .int 0, .int 0, .ref (y 18), .ref (y 19), .int 0, .int 0, .ref (y 20), .int 0, .ref (y 21), .ref (y 22), .ref (y 23), .ref (y 24), .ref (y 25)])), ((y 2), .inl (cI, 16, .inl cyc0))] := hD
  refine lv_iload_n hx hb dX8_count_5 rfl (lv_at hl 1 rfl) ?_
  by_cases k_60 : q = 0
  ·
    subst k_60
    refine lv_tableIn (off := 46) (tgt := 52) hx hb dX8_count_6 (by decide) (by decide) rfl (by decide) ?_
    refine lv_aload_n hx hb dX8_count_52 rfl (lv_at hl 0 rfl) ?_
    refine va_get (D := D) (ci := 8) (v := .int 0) (C := RX8) (T := TX8) (N := 52) hx hb hts w_1 hown hK hP 0 rfl rfl 14 (by decide) w_3 (fun _ h9 => h9) rfl dX8_count_53 ?_
    have hP9 := hP.sub (ws' := []) [] rfl
    have hD9 := hD.sub (ws' := []) [] (by decide) rfl
    exact W.iret (v := 0) hx hb hr (fun t ht hW => ⟨⟨_, (), rfl, (by decide), by rw [ht]; exact hP9, va_K.moved hW.alike hK, hD9⟩, hS.F ht⟩) hS.2.2 dX8_count_56
  by_cases k_61 : q = 1
  ·
    subst k_61
    refine lv_tableIn (off := 51) (tgt := 57) hx hb dX8_count_6 (by decide) (by decide) rfl (by decide) ?_
    refine lv_aload_n hx hb dX8_count_57 rfl (lv_at hl 0 rfl) ?_
    refine va_get (D := D) (ci := 8) (v := .int 0) (C := RX8) (T := TX8) (N := 52) hx hb hts w_1 hown hK hP 0 rfl rfl 18 (by decide) w_4 (fun _ h9 => h9) rfl dX8_count_58 ?_
    have hP9 := hP.sub (ws' := []) [] rfl
    have hD9 := hD.sub (ws' := []) [] (by decide) rfl
    exact W.iret (v := 0) hx hb hr (fun t ht hW => ⟨⟨_, (), rfl, (by decide), by rw [ht]; exact hP9, va_K.moved hW.alike hK, hD9⟩, hS.F ht⟩) hS.2.2 dX8_count_61
  by_cases k_62 : q = 2
  ·
    subst k_62
    refine lv_tableIn (off := 56) (tgt := 62) hx hb dX8_count_6 (by decide) (by decide) rfl (by decide) ?_
    refine lv_aload_n hx hb dX8_count_62 rfl (lv_at hl 0 rfl) ?_
    refine vp_callSi (va_Run.run (va_runV (As := []) (rest := []) ⟨hx, hb, hml, hown, hts⟩ (m_X8_inMany l D cB cI cJ cZ y) (cwV 0 hts gX8_count_X8_inMany rfl rfl rfl (by decide +kernel) ⟨Nat.le_of_ble_eq_true rfl, Nat.le_of_ble_eq_true rfl⟩) (pre_VR (hP.sub (ws' := [((y 0), .inr (8, [.ref (y 1), .int 0, .int 0, .ref (y 2), .int 1, .int 100, .int 7, .int 14, .int 3, .int 1, .int 8, .int 0, .int 0, .int (-1), .int 0, .ref (y 3), .ref (y 4), .int 0, .int 0, .ref (y 5), .ref (y 6), .ref (y 7), .ref (y 8), .ref (y 9), .int 0, .ref (y 10), .ref (y 11), .ref (y 12), .ref (y 13), .int 0, .int 0, .ref (y 14), .ref (y 15), .ref (y 16), .ref (y 17), .int 0, .int 0, .int 0, .int 0, .int 0, .int 0, .ref (y 18), .ref (y 19), .int 0, .int 0, .ref (y 20), .int 0, .ref (y 21), .ref (y 22), .ref (y 23), .ref (y 24), .ref (y 25)]))]) [0] rfl) hK 0 rfl rfl rfl) rfl rfl hl.1 rfl (lv_room (Nat.le_of_ble_eq_true rfl)) dX8_count_63 ⟨Nat.le_of_ble_eq_true rfl, Nat.le_of_ble_eq_true rfl⟩)) (fun r_1 hw_r_1 => ?_)
    subst hw_r_1
    have hP9 := hP.sub (ws' := []) [] rfl
    have hD9 := hD.sub (ws' := []) [] (by decide) rfl
    exact W.iret (v := 0) hx hb hr (fun t ht hW => ⟨⟨_, (), rfl, (by decide), by rw [ht]; exact hP9, va_K.moved hW.alike hK, hD9⟩, hS.F ht⟩) hS.2.2 dX8_count_66
  by_cases k_63 : q = 3
  ·
    subst k_63
    refine lv_tableIn (off := 61) (tgt := 67) hx hb dX8_count_6 (by decide) (by decide) rfl (by decide) ?_
    refine lv_aload_n hx hb dX8_count_67 rfl (lv_at hl 0 rfl) ?_
    refine va_get (D := D) (ci := 8) (v := .int 0) (C := RX8) (T := TX8) (N := 52) hx hb hts w_1 hown hK hP 0 rfl rfl 24 (by decide) w_5 (fun _ h9 => h9) rfl dX8_count_68 ?_
    have hP9 := hP.sub (ws' := []) [] rfl
    have hD9 := hD.sub (ws' := []) [] (by decide) rfl
    exact W.iret (v := 0) hx hb hr (fun t ht hW => ⟨⟨_, (), rfl, (by decide), by rw [ht]; exact hP9, va_K.moved hW.alike hK, hD9⟩, hS.F ht⟩) hS.2.2 dX8_count_71
  by_cases k_64 : q = 4
  ·
    subst k_64
    refine lv_tableIn (off := 66) (tgt := 72) hx hb dX8_count_6 (by decide) (by decide) rfl (by decide) ?_
    refine lv_aload_n hx hb dX8_count_72 rfl (lv_at hl 0 rfl) ?_
    refine va_get (D := D) (ci := 8) (v := .int 0) (C := RX8) (T := TX8) (N := 52) hx hb hts w_1 hown hK hP 0 rfl rfl 30 (by decide) w_6 (fun _ h9 => h9) rfl dX8_count_73 ?_
    have hP9 := hP.sub (ws' := []) [] rfl
    have hD9 := hD.sub (ws' := []) [] (by decide) rfl
    exact W.iret (v := 0) hx hb hr (fun t ht hW => ⟨⟨_, (), rfl, (by decide), by rw [ht]; exact hP9, va_K.moved hW.alike hK, hD9⟩, hS.F ht⟩) hS.2.2 dX8_count_76
  by_cases k_65 : q = 5
  ·
    subst k_65
    refine lv_tableIn (off := 71) (tgt := 77) hx hb dX8_count_6 (by decide) (by decide) rfl (by decide) ?_
    refine lv_aload_n hx hb dX8_count_77 rfl (lv_at hl 0 rfl) ?_
    refine va_get (D := D) (ci := 8) (v := .int 0) (C := RX8) (T := TX8) (N := 52) hx hb hts w_1 hown hK hP 0 rfl rfl 17 (by decide) w_7 (fun _ h9 => h9) rfl dX8_count_78 ?_
    have hP9 := hP.sub (ws' := []) [] rfl
    have hD9 := hD.sub (ws' := []) [] (by decide) rfl
    exact W.iret (v := 0) hx hb hr (fun t ht hW => ⟨⟨_, (), rfl, (by decide), by rw [ht]; exact hP9, va_K.moved hW.alike hK, hD9⟩, hS.F ht⟩) hS.2.2 dX8_count_81
  by_cases k_66 : q = 6
  ·
    subst k_66
    refine lv_tableIn (off := 76) (tgt := 82) hx hb dX8_count_6 (by decide) (by decide) rfl (by decide) ?_
    refine lv_aload_n hx hb dX8_count_82 rfl (lv_at hl 0 rfl) ?_
    refine va_get (D := D) (ci := 8) (v := .ref (y 2)) (C := RX8) (T := TX8) (N := 52) hx hb hts w_1 hown hK hP 0 rfl rfl 3 (by decide) w_8 (fun _ h9 => h9) rfl dX8_count_83 ?_
    refine lv_aload_n hx hb dX8_count_86 rfl (lv_at hl 0 rfl) ?_
    refine va_get (D := D) (ci := 8) (v := .int 0) (C := RX8) (T := TX8) (N := 52) hx hb hts w_1 hown hK hP 0 rfl rfl 11 (by decide) w_9 (fun _ h9 => h9) rfl dX8_count_87 ?_
    refine sv_iald (v := 2) hx hb hK hP 1 1 rfl rfl (vp_in_iff.mpr (by decide)) rfl dX8_count_90 ?_
    have hP9 := hP.sub (ws' := []) [] rfl
    have hD9 := hD.sub (ws' := []) [] (by decide) rfl
    exact W.iret (v := 2) hx hb hr (fun t ht hW => ⟨⟨_, (), rfl, (by decide), by rw [ht]; exact hP9, va_K.moved hW.alike hK, hD9⟩, hS.F ht⟩) hS.2.2 dX8_count_91
  by_cases k_67 : q = 7
  ·
    subst k_67
    refine lv_tableIn (off := 86) (tgt := 92) hx hb dX8_count_6 (by decide) (by decide) rfl (by decide) ?_
    refine lv_aload_n hx hb dX8_count_92 rfl (lv_at hl 0 rfl) ?_
    refine va_get (D := D) (ci := 8) (v := .int 0) (C := RX8) (T := TX8) (N := 52) hx hb hts w_1 hown hK hP 0 rfl rfl 29 (by decide) w_10 (fun _ h9 => h9) rfl dX8_count_93 ?_
    have hP9 := hP.sub (ws' := []) [] rfl
    have hD9 := hD.sub (ws' := []) [] (by decide) rfl
    exact W.iret (v := 0) hx hb hr (fun t ht hW => ⟨⟨_, (), rfl, (by decide), by rw [ht]; exact hP9, va_K.moved hW.alike hK, hD9⟩, hS.F ht⟩) hS.2.2 dX8_count_96
  refine lv_tableOut (tgt := 97) hx hb dX8_count_6 (sw_out8 k_60 k_61 k_62 k_63 k_64 k_65 k_66 k_67) (by decide) ?_
  refine lv_iconst (v := (-1)) hx hb dX8_count_97 (by decide) ?_
  have hP9 := hP.sub (ws' := []) [] rfl
  have hD9 := hD.sub (ws' := []) [] (by decide) rfl
  exact W.iret (v := (-1)) hx hb hr (fun t ht hW => ⟨⟨_, (), rfl, (by simp [sCount, k_60, k_61, k_62, k_63, k_64, k_65, k_66, k_67]), by rw [ht]; exact hP9, va_K.moved hW.alike hK, hD9⟩, hS.F ht⟩) hS.2.2 dX8_count_98

set_option maxHeartbeats 4000000 in
set_option maxRecDepth 100000 in
theorem m_X8_year (l : Launch) (D : va_G) (cB cI cJ cZ : ClassId) (sz : Nat) (y : Nat → Nat) : Met l yX8_year wsX8_year ({ frames := 0, cells := 0, slots := 0, locals := 0 } : Room) (cPre D (aTy cB cI cJ cZ) [((y 0), .inr (8, [.ref (y 1), .int 0, .int 0, .ref (y 2), .int 1, .int 100, .int 7, .int 14, .int 3, .int 1, .int 8, .int 0, .int 0, .int (-1), .int 0, .ref (y 3), .ref (y 4), .int 0, .int 0, .ref (y 5), .ref (y 6), .ref (y 7), .ref (y 8), .ref (y 9), .int 0, .ref (y 10), .ref (y 11), .ref (y 12), .ref (y 13), .int 0, .int 0, .ref (y 14), .ref (y 15), .ref (y 16), .ref (y 17), .int 0, .int 0, .int 0, .int 0, .int 0, .int 0, .ref (y 18), .ref (y 19), .int 0, .int 0, .ref (y 20), .int 0, .ref (y 21), .ref (y 22), .ref (y 23), .ref (y 24), .ref (y 25)]))] sz [.ref (y 0)]) (va_Qi (fun (r : Int32) (u : Unit) => r = 0) (cB_ D (aTy cB cI cJ cZ) (va_A [((y 0), .inr (8, [.ref (y 1), .int 0, .int 0, .ref (y 2), .int 1, .int 100, .int 7, .int 14, .int 3, .int 1, .int 8, .int 0, .int 0, .int (-1), .int 0, .ref (y 3), .ref (y 4), .int 0, .int 0, .ref (y 5), .ref (y 6), .ref (y 7), .ref (y 8), .ref (y 9), .int 0, .ref (y 10), .ref (y 11), .ref (y 12), .ref (y 13), .int 0, .int 0, .ref (y 14), .ref (y 15), .ref (y 16), .ref (y 17), .int 0, .int 0, .int 0, .int 0, .int 0, .int 0, .ref (y 18), .ref (y 19), .int 0, .int 0, .ref (y 20), .int 0, .ref (y 21), .ref (y 22), .ref (y 23), .ref (y 24), .ref (y 25)]))] sz) (fun _ => [])) (va_A [((y 0), .inr (8, [.ref (y 1), .int 0, .int 0, .ref (y 2), .int 1, .int 100, .int 7, .int 14, .int 3, .int 1, .int 8, .int 0, .int 0, .int (-1), .int 0, .ref (y 3), .ref (y 4), .int 0, .int 0, .ref (y 5), .ref (y 6), .ref (y 7), .ref (y 8), .ref (y 9), .int 0, .ref (y 10), .ref (y 11), .ref (y 12), .ref (y 13), .int 0, .int 0, .ref (y 14), .ref (y 15), .ref (y 16), .ref (y 17), .int 0, .int 0, .int 0, .int 0, .int 0, .int 0, .ref (y 18), .ref (y 19), .int 0, .int 0, .ref (y 20), .int 0, .ref (y 21), .ref (y 22), .ref (y 23), .ref (y 24), .ref (y 25)]))] sz)) 0 0 (va_A [((y 0), .inr (8, [.ref (y 1), .int 0, .int 0, .ref (y 2), .int 1, .int 100, .int 7, .int 14, .int 3, .int 1, .int 8, .int 0, .int 0, .int (-1), .int 0, .ref (y 3), .ref (y 4), .int 0, .int 0, .ref (y 5), .ref (y 6), .ref (y 7), .ref (y 8), .ref (y 9), .int 0, .ref (y 10), .ref (y 11), .ref (y 12), .ref (y 13), .int 0, .int 0, .ref (y 14), .ref (y 15), .ref (y 16), .ref (y 17), .int 0, .int 0, .int 0, .int 0, .int 0, .int 0, .ref (y 18), .ref (y 19), .int 0, .int 0, .ref (y 20), .int 0, .ref (y 21), .ref (y 22), .ref (y 23), .ref (y 24), .ref (y 25)]))] sz) := by
  refine Met.ofW (cc := cX8_year) (maxL := 4) (ret := (some .int)) (by decide) rfl ?_
  intro p e s m args below meth c s₁ B hml hv
  obtain ⟨rfl, hsz, hP, hK, hD0⟩ := hv
  have hx := B.exec
  have hb := B.bytes
  have hr := B.returns
  have hts := atoms_spec (ws := wsX8_year) B.pre
  have hown : s.vm.findClass RX8 = some m.cls := findClass_of_methodNamed B.named
  have hlocks := B.notSynchronized
  subst hsz
  have hD := hD0.self (sz := s.heap.size)
  generalize hAe : va_A [((y 0), .inr (8, [.ref (y 1), .int 0, .int 0, .ref (y 2), .int 1, .int 100, .int 7, .int 14, .int 3, .int 1, .int 8, .int 0, .int 0, .int (-1), .int 0, .ref (y 3), .ref (y 4), .int 0, .int 0, .ref (y 5), .ref (y 6), .ref (y 7), .ref (y 8), .ref (y 9), .int 0, .ref (y 10), .ref (y 11), .ref (y 12), .ref (y 13), .int 0, .int 0, .ref (y 14), .ref (y 15), .ref (y 16), .ref (y 17), .int 0, .int 0, .int 0, .int 0, .int 0, .int 0, .ref (y 18), .ref (y 19), .int 0, .int 0, .ref (y 20), .int 0, .ref (y 21), .ref (y 22), .ref (y 23), .ref (y 24), .ref (y 25)]))] s.heap.size = A at hD ⊢
  have hA : ∀ q : Nat, s.heap.size ≤ q → A q := fun q h => by rw [← hAe]; exact Or.inr h
  have hS : va_S A s.heap s.heap [] := va_S.rf
  have hP : va_P D vwCl [((y 0), .inr (8, [.ref (y 1), .int 0, .int 0, .ref (y 2), .int 1, .int 100, .int 7, .int 14, .int 3, .int 1, .int 8, .int 0, .int 0, .int (-1), .int 0, .ref (y 3), .ref (y 4), .int 0, .int 0, .ref (y 5), .ref (y 6), .ref (y 7), .ref (y 8), .ref (y 9), .int 0, .ref (y 10), .ref (y 11), .ref (y 12), .ref (y 13), .int 0, .int 0, .ref (y 14), .ref (y 15), .ref (y 16), .ref (y 17), .int 0, .int 0, .int 0, .int 0, .int 0, .int 0, .ref (y 18), .ref (y 19), .int 0, .int 0, .ref (y 20), .int 0, .ref (y 21), .ref (y 22), .ref (y 23), .ref (y 24), .ref (y 25)]))] s.heap := hP
  have w_1 : ∀ w ∈ wsX80, w ∈ wsX8_year := by decide +kernel
  have w_2 := hts (Cond.fieldLink RX8 112 "BlueCoatsModel" "thrown" "I") (by decide +kernel)
  have w_3 := hts (Cond.fieldLink RX8 207 "BlueCoatsModel" "years" "I") (by decide +kernel)
  have w_4 := hts (Cond.fieldLink RX8 180 "BlueCoatsModel" "children" "I") (by decide +kernel)
  have w_5 := hts (Cond.fieldLink RX8 210 "BlueCoatsModel" "coats" "I") (by decide +kernel)
  have hl := lv_entry ([.ref (y 0)]) (n := 4) (Nat.le_of_ble_eq_true rfl)
  rw [lg_entry_eq]
  generalize (lg_sl ([.ref (y 0)]) ++ List.replicate (4 - (lg_sl ([.ref (y 0)])).length) Slot.unset).toArray = ls at hl ⊢
  have hl : lv_has ls 4 [(0, .ref (y 0))] := hl
  refine lv_aload_n hx hb dX8_year_0 rfl (lv_at hl 0 rfl) ?_
  refine lv_iconst (v := 0) hx hb dX8_year_1 (by decide) ?_
  refine va_put (D := D) (ci := 8) (v := .int 0) (ty := .int) (C := RX8) (T := TX8) (N := 52) hx hb hts w_1 tyX8 tyX8_ok nmX8 hown hK hP hD hS 0 rfl rfl 2 (by decide) w_2 (fun _ h9 => h9) rfl (by decide +kernel) rfl rfl (Nat.le_of_ble_eq_true rfl) dX8_year_2 (fun H locs hP hD hS => ?_)
  have hP : va_P D vwCl [((y 0), .inr (8, [.ref (y 1), .int 0, .int 0, .ref (y 2), .int 1, .int 100, .int 7, .int 14, .int 3, .int 1, .int 8, .int 0, .int 0, .int (-1), .int 0, .ref (y 3), .ref (y 4), .int 0, .int 0, .ref (y 5), .ref (y 6), .ref (y 7), .ref (y 8), .ref (y 9), .int 0, .ref (y 10), .ref (y 11), .ref (y 12), .ref (y 13), .int 0, .int 0, .ref (y 14), .ref (y 15), .ref (y 16), .ref (y 17), .int 0, .int 0, .int 0, .int 0, .int 0, .int 0, .ref (y 18), .ref (y 19), .int 0, .int 0, .ref (y 20), .int 0, .ref (y 21), .ref (y 22), .ref (y 23), .ref (y 24), .ref (y 25)]))] H := hP
  have hD : va_D A [((y 0), .inr (8, [.ref (y 1), .int 0, .int 0, .ref (y 2), .int 1, .int 100, .int 7, .int 14, .int 3, .int 1, .int 8, .int 0, .int 0, .int (-1), .int 0, .ref (y 3), .ref (y 4), .int 0, .int 0, .ref (y 5), .ref (y 6), .ref (y 7), .ref (y 8), .ref (y 9), .int 0, .ref (y 10), .ref (y 11), .ref (y 12), .ref (y 13), .int 0, .int 0, .ref (y 14), .ref (y 15), .ref (y 16), .ref (y 17), .int 0, .int 0, .int 0, .int 0, .int 0, .int 0, .ref (y 18), .ref (y 19), .int 0, .int 0, .ref (y 20), .int 0, .ref (y 21), .ref (y 22), .ref (y 23), .ref (y 24), .ref (y 25)]))] := hD
  refine lv_aload_n hx hb dX8_year_5 rfl (lv_at hl 0 rfl) ?_
  refine lv_dup hx hb dX8_year_6 rfl ?_
  refine va_get (D := D) (ci := 8) (v := .int 0) (C := RX8) (T := TX8) (N := 52) hx hb hts w_1 hown hK hP 0 rfl rfl 29 (by decide) w_3 (fun _ h9 => h9) rfl dX8_year_7 ?_
  refine lv_iconst (v := 1) hx hb dX8_year_10 (by decide) ?_
  refine sv_iadd (v := 1) hx hb dX8_year_11 (by decide) ?_
  refine va_put (D := D) (ci := 8) (v := .int 1) (ty := .int) (C := RX8) (T := TX8) (N := 52) hx hb hts w_1 tyX8 tyX8_ok nmX8 hown hK hP hD hS 0 rfl rfl 29 (by decide) w_3 (fun _ h9 => h9) rfl (by decide +kernel) rfl rfl (Nat.le_of_ble_eq_true rfl) dX8_year_12 (fun H locs hP hD hS => ?_)
  have hP : va_P D vwCl [((y 0), .inr (8, [.ref (y 1), .int 0, .int 0, .ref (y 2), .int 1, .int 100, .int 7, .int 14, .int 3, .int 1, .int 8, .int 0, .int 0, .int (-1), .int 0, .ref (y 3), .ref (y 4), .int 0, .int 0, .ref (y 5), .ref (y 6), .ref (y 7), .ref (y 8), .ref (y 9), .int 0, .ref (y 10), .ref (y 11), .ref (y 12), .ref (y 13), .int 1, .int 0, .ref (y 14), .ref (y 15), .ref (y 16), .ref (y 17), .int 0, .int 0, .int 0, .int 0, .int 0, .int 0, .ref (y 18), .ref (y 19), .int 0, .int 0, .ref (y 20), .int 0, .ref (y 21), .ref (y 22), .ref (y 23), .ref (y 24), .ref (y 25)]))] H := hP
  have hD : va_D A [((y 0), .inr (8, [.ref (y 1), .int 0, .int 0, .ref (y 2), .int 1, .int 100, .int 7, .int 14, .int 3, .int 1, .int 8, .int 0, .int 0, .int (-1), .int 0, .ref (y 3), .ref (y 4), .int 0, .int 0, .ref (y 5), .ref (y 6), .ref (y 7), .ref (y 8), .ref (y 9), .int 0, .ref (y 10), .ref (y 11), .ref (y 12), .ref (y 13), .int 1, .int 0, .ref (y 14), .ref (y 15), .ref (y 16), .ref (y 17), .int 0, .int 0, .int 0, .int 0, .int 0, .int 0, .ref (y 18), .ref (y 19), .int 0, .int 0, .ref (y 20), .int 0, .ref (y 21), .ref (y 22), .ref (y 23), .ref (y 24), .ref (y 25)]))] := hD
  refine lv_iconst (v := 0) hx hb dX8_year_15 (by decide) ?_
  refine lv_istore_n (lv' := [(1, .int 0), (0, .ref (y 0))]) hx hb dX8_year_16 rfl hl (by decide) rfl (fun ls hl => ?_)
  refine lv_iconst (v := 0) hx hb dX8_year_17 (by decide) ?_
  refine lv_istore_n (lv' := [(2, .int 0), (1, .int 0), (0, .ref (y 0))]) hx hb dX8_year_18 rfl hl (by decide) rfl (fun ls hl => ?_)
  refine lv_iload_n hx hb dX8_year_19 rfl (lv_at hl 0 rfl) ?_
  refine lv_aload_n hx hb dX8_year_20 rfl (lv_at hl 2 rfl) ?_
  refine va_get (D := D) (ci := 8) (v := .int 0) (C := RX8) (T := TX8) (N := 52) hx hb hts w_1 hown hK hP 0 rfl rfl 18 (by decide) w_4 (fun _ h9 => h9) rfl dX8_year_21 ?_
  refine lv_icmp_ge (tgt := 174) hx hb dX8_year_24 (by decide) (fun _ => ?_) (fun h => absurd (by decide) h)
  refine lv_iconst (v := 0) hx hb dX8_year_174 (by decide) ?_
  refine lv_istore_n (lv' := [(2, .int 0), (1, .int 0), (0, .ref (y 0))]) hx hb dX8_year_175 rfl hl (by decide) rfl (fun ls hl => ?_)
  refine lv_iload_n hx hb dX8_year_176 rfl (lv_at hl 0 rfl) ?_
  refine lv_aload_n hx hb dX8_year_177 rfl (lv_at hl 2 rfl) ?_
  refine va_get (D := D) (ci := 8) (v := .int 0) (C := RX8) (T := TX8) (N := 52) hx hb hts w_1 hown hK hP 0 rfl rfl 24 (by decide) w_5 (fun _ h9 => h9) rfl dX8_year_178 ?_
  refine lv_icmp_ge (tgt := 242) hx hb dX8_year_181 (by decide) (fun _ => ?_) (fun h => absurd (by decide) h)
  refine lv_iload_n hx hb dX8_year_242 rfl (lv_at hl 1 rfl) ?_
  have hP9 := hP.sub (ws' := []) [] rfl
  have hD9 := hD.sub (ws' := []) [] (by decide) rfl
  exact W.iret (v := 0) hx hb hr (fun t ht hW => ⟨⟨_, (), rfl, rfl, by rw [ht]; exact hP9, va_K.moved hW.alike hK, hD9⟩, hS.F ht⟩) hS.2.2 dX8_year_243

set_option maxHeartbeats 4000000 in
set_option maxRecDepth 100000 in
theorem m_X8_feed (l : Launch) (D : va_G) (cB cI cJ cZ : ClassId) (sz : Nat) (y : Nat → Nat) (v1 v2 v3 v4 v5 : Int32) : Met l yX8_feed wsX8_feed ({ frames := 0, cells := 0, slots := 0, locals := 0 } : Room) (cPre D (aTy cB cI cJ cZ) [((y 0), .inr (8, [.ref (y 1), .int 0, .int 0, .ref (y 2), .int 1, .int 100, .int 7, .int 14, .int 3, .int 1, .int 8, .int 0, .int 0, .int (-1), .int 0, .ref (y 3), .ref (y 4), .int 0, .int 0, .ref (y 5), .ref (y 6), .ref (y 7), .ref (y 8), .ref (y 9), .int 0, .ref (y 10), .ref (y 11), .ref (y 12), .ref (y 13), .int 0, .int 0, .ref (y 14), .ref (y 15), .ref (y 16), .ref (y 17), .int 0, .int 0, .int 0, .int 0, .int 0, .int 0, .ref (y 18), .ref (y 19), .int 0, .int 0, .ref (y 20), .int 0, .ref (y 21), .ref (y 22), .ref (y 23), .ref (y 24), .ref (y 25)])), ((y 1), .inl (cI, 300, .inl (fun _ => 0)))] sz [.ref (y 0), .int v1, .int v2, .int v3, .int v4, .int v5]) (va_Qi (fun (r : Int32) (u : Unit) => r = 20) (cB_ D (aTy cB cI cJ cZ) (va_A [((y 0), .inr (8, [.ref (y 1), .int 0, .int 0, .ref (y 2), .int 1, .int 100, .int 7, .int 14, .int 3, .int 1, .int 8, .int 0, .int 0, .int (-1), .int 0, .ref (y 3), .ref (y 4), .int 0, .int 0, .ref (y 5), .ref (y 6), .ref (y 7), .ref (y 8), .ref (y 9), .int 0, .ref (y 10), .ref (y 11), .ref (y 12), .ref (y 13), .int 0, .int 0, .ref (y 14), .ref (y 15), .ref (y 16), .ref (y 17), .int 0, .int 0, .int 0, .int 0, .int 0, .int 0, .ref (y 18), .ref (y 19), .int 0, .int 0, .ref (y 20), .int 0, .ref (y 21), .ref (y 22), .ref (y 23), .ref (y 24), .ref (y 25)])), ((y 1), .inl (cI, 300, .inl (fun _ => 0)))] sz) (fun _ => [])) (va_A [((y 0), .inr (8, [.ref (y 1), .int 0, .int 0, .ref (y 2), .int 1, .int 100, .int 7, .int 14, .int 3, .int 1, .int 8, .int 0, .int 0, .int (-1), .int 0, .ref (y 3), .ref (y 4), .int 0, .int 0, .ref (y 5), .ref (y 6), .ref (y 7), .ref (y 8), .ref (y 9), .int 0, .ref (y 10), .ref (y 11), .ref (y 12), .ref (y 13), .int 0, .int 0, .ref (y 14), .ref (y 15), .ref (y 16), .ref (y 17), .int 0, .int 0, .int 0, .int 0, .int 0, .int 0, .ref (y 18), .ref (y 19), .int 0, .int 0, .ref (y 20), .int 0, .ref (y 21), .ref (y 22), .ref (y 23), .ref (y 24), .ref (y 25)])), ((y 1), .inl (cI, 300, .inl (fun _ => 0)))] sz)) 0 0 (va_A [((y 0), .inr (8, [.ref (y 1), .int 0, .int 0, .ref (y 2), .int 1, .int 100, .int 7, .int 14, .int 3, .int 1, .int 8, .int 0, .int 0, .int (-1), .int 0, .ref (y 3), .ref (y 4), .int 0, .int 0, .ref (y 5), .ref (y 6), .ref (y 7), .ref (y 8), .ref (y 9), .int 0, .ref (y 10), .ref (y 11), .ref (y 12), .ref (y 13), .int 0, .int 0, .ref (y 14), .ref (y 15), .ref (y 16), .ref (y 17), .int 0, .int 0, .int 0, .int 0, .int 0, .int 0, .ref (y 18), .ref (y 19), .int 0, .int 0, .ref (y 20), .int 0, .ref (y 21), .ref (y 22), .ref (y 23), .ref (y 24), .ref (y 25)])), ((y 1), .inl (cI, 300, .inl (fun _ => 0)))] sz) := by
  refine Met.ofW (cc := cX8_feed) (maxL := 8) (ret := (some .int)) (by decide) rfl ?_
  intro p e s m args below meth c s₁ B hml hv
  obtain ⟨rfl, hsz, hP, hK, hD0⟩ := hv
  have hx := B.exec
  have hb := B.bytes
  have hr := B.returns
  have hts := atoms_spec (ws := wsX8_feed) B.pre
  have hown : s.vm.findClass RX8 = some m.cls := findClass_of_methodNamed B.named
  have hlocks := B.notSynchronized
  subst hsz
  have hD := hD0.self (sz := s.heap.size)
  generalize hAe : va_A [((y 0), .inr (8, [.ref (y 1), .int 0, .int 0, .ref (y 2), .int 1, .int 100, .int 7, .int 14, .int 3, .int 1, .int 8, .int 0, .int 0, .int (-1), .int 0, .ref (y 3), .ref (y 4), .int 0, .int 0, .ref (y 5), .ref (y 6), .ref (y 7), .ref (y 8), .ref (y 9), .int 0, .ref (y 10), .ref (y 11), .ref (y 12), .ref (y 13), .int 0, .int 0, .ref (y 14), .ref (y 15), .ref (y 16), .ref (y 17), .int 0, .int 0, .int 0, .int 0, .int 0, .int 0, .ref (y 18), .ref (y 19), .int 0, .int 0, .ref (y 20), .int 0, .ref (y 21), .ref (y 22), .ref (y 23), .ref (y 24), .ref (y 25)])), ((y 1), .inl (cI, 300, .inl (fun _ => 0)))] s.heap.size = A at hD ⊢
  have hA : ∀ q : Nat, s.heap.size ≤ q → A q := fun q h => by rw [← hAe]; exact Or.inr h
  have hS : va_S A s.heap s.heap [] := va_S.rf
  have hP : va_P D vwCl [((y 0), .inr (8, [.ref (y 1), .int 0, .int 0, .ref (y 2), .int 1, .int 100, .int 7, .int 14, .int 3, .int 1, .int 8, .int 0, .int 0, .int (-1), .int 0, .ref (y 3), .ref (y 4), .int 0, .int 0, .ref (y 5), .ref (y 6), .ref (y 7), .ref (y 8), .ref (y 9), .int 0, .ref (y 10), .ref (y 11), .ref (y 12), .ref (y 13), .int 0, .int 0, .ref (y 14), .ref (y 15), .ref (y 16), .ref (y 17), .int 0, .int 0, .int 0, .int 0, .int 0, .int 0, .ref (y 18), .ref (y 19), .int 0, .int 0, .ref (y 20), .int 0, .ref (y 21), .ref (y 22), .ref (y 23), .ref (y 24), .ref (y 25)])), ((y 1), .inl (cI, 300, .inl (fun _ => 0)))] s.heap := hP
  have w_1 : ∀ w ∈ wsX80, w ∈ wsX8_feed := by decide +kernel
  have w_2 := hts (Cond.fieldLink RX8 112 "BlueCoatsModel" "thrown" "I") (by decide +kernel)
  have w_3 := hts (Cond.fieldLink RX8 115 "BlueCoatsModel" "tapeSize" "I") (by decide +kernel)
  have w_4 := hts (Cond.fieldLink RX8 7 "BlueCoatsModel" "tape" "[I") (by decide +kernel)
  have hl := lv_entry ([.ref (y 0), .int v1, .int v2, .int v3, .int v4, .int v5]) (n := 8) (Nat.le_of_ble_eq_true rfl)
  rw [lg_entry_eq]
  generalize (lg_sl ([.ref (y 0), .int v1, .int v2, .int v3, .int v4, .int v5]) ++ List.replicate (8 - (lg_sl ([.ref (y 0), .int v1, .int v2, .int v3, .int v4, .int v5])).length) Slot.unset).toArray = ls at hl ⊢
  have hl : lv_has ls 8 [(0, .ref (y 0)), (1, .int v1), (2, .int v2), (3, .int v3), (4, .int v4), (5, .int v5)] := hl
  generalize hQ : MQ below _ _ s _ _ _ = Q0
  refine lv_aload_n hx hb dX8_feed_0 rfl (lv_at hl 0 rfl) ?_
  refine lv_iconst (v := 0) hx hb dX8_feed_1 (by decide) ?_
  refine va_put (D := D) (ci := 8) (v := .int 0) (ty := .int) (C := RX8) (T := TX8) (N := 52) hx hb hts w_1 tyX8 tyX8_ok nmX8 hown hK hP hD hS 0 rfl rfl 2 (by decide) w_2 (fun _ h9 => h9) rfl (by decide +kernel) rfl rfl (Nat.le_of_ble_eq_true rfl) dX8_feed_2 (fun H locs hP hD hS => ?_)
  have hP : va_P D vwCl [((y 0), .inr (8, [.ref (y 1), .int 0, .int 0, .ref (y 2), .int 1, .int 100, .int 7, .int 14, .int 3, .int 1, .int 8, .int 0, .int 0, .int (-1), .int 0, .ref (y 3), .ref (y 4), .int 0, .int 0, .ref (y 5), .ref (y 6), .ref (y 7), .ref (y 8), .ref (y 9), .int 0, .ref (y 10), .ref (y 11), .ref (y 12), .ref (y 13), .int 0, .int 0, .ref (y 14), .ref (y 15), .ref (y 16), .ref (y 17), .int 0, .int 0, .int 0, .int 0, .int 0, .int 0, .ref (y 18), .ref (y 19), .int 0, .int 0, .ref (y 20), .int 0, .ref (y 21), .ref (y 22), .ref (y 23), .ref (y 24), .ref (y 25)])), ((y 1), .inl (cI, 300, .inl (fun _ => 0)))] H := hP
  have hD : va_D A [((y 0), .inr (8, [.ref (y 1), .int 0, .int 0, .ref (y 2), .int 1, .int 100, .int 7, .int 14, .int 3, .int 1, .int 8, .int 0, .int 0, .int (-1), .int 0, .ref (y 3), .ref (y 4), .int 0, .int 0, .ref (y 5), .ref (y 6), .ref (y 7), .ref (y 8), .ref (y 9), .int 0, .ref (y 10), .ref (y 11), .ref (y 12), .ref (y 13), .int 0, .int 0, .ref (y 14), .ref (y 15), .ref (y 16), .ref (y 17), .int 0, .int 0, .int 0, .int 0, .int 0, .int 0, .ref (y 18), .ref (y 19), .int 0, .int 0, .ref (y 20), .int 0, .ref (y 21), .ref (y 22), .ref (y 23), .ref (y 24), .ref (y 25)])), ((y 1), .inl (cI, 300, .inl (fun _ => 0)))] := hD
  refine lv_aload_n hx hb dX8_feed_5 rfl (lv_at hl 0 rfl) ?_
  refine va_get (D := D) (ci := 8) (v := .int 0) (C := RX8) (T := TX8) (N := 52) hx hb hts w_1 hown hK hP 0 rfl rfl 1 (by decide) w_3 (fun _ h9 => h9) rfl dX8_feed_6 ?_
  refine lv_bipush (v := 20) hx hb dX8_feed_9 (by decide) ?_
  refine sv_iadd (v := 20) hx hb dX8_feed_11 (by decide) ?_
  refine lv_sipush (v := 300) hx hb dX8_feed_12 (by decide) ?_
  refine lv_icmp_le (tgt := 20) hx hb dX8_feed_15 (by decide) (fun _ => ?_) (fun h => absurd (by decide) h)
  refine lv_iconst (v := 0) hx hb dX8_feed_20 (by decide) ?_
  refine lv_istore (lv' := [(6, .int 0), (0, .ref (y 0)), (1, .int v1), (2, .int v2), (3, .int v3), (4, .int v4), (5, .int v5)]) hx hb dX8_feed_21 hl (by decide) rfl (fun ls hl => ?_)
  have L_1 : ∀ (n : Nat) (i_23 : Int32) (f_y1_23 : Nat → Int32) (H : Heap) (locs : List Loc) (ls : Array Slot), (Int32.toInt 20 - i_23.toInt).toNat < n → 0 ≤ i_23.toInt → va_P D vwCl [((y 0), .inr (8, [.ref (y 1), .int 0, .int 0, .ref (y 2), .int 1, .int 100, .int 7, .int 14, .int 3, .int 1, .int 8, .int 0, .int 0, .int (-1), .int 0, .ref (y 3), .ref (y 4), .int 0, .int 0, .ref (y 5), .ref (y 6), .ref (y 7), .ref (y 8), .ref (y 9), .int 0, .ref (y 10), .ref (y 11), .ref (y 12), .ref (y 13), .int 0, .int 0, .ref (y 14), .ref (y 15), .ref (y 16), .ref (y 17), .int 0, .int 0, .int 0, .int 0, .int 0, .int 0, .ref (y 18), .ref (y 19), .int 0, .int 0, .ref (y 20), .int 0, .ref (y 21), .ref (y 22), .ref (y 23), .ref (y 24), .ref (y 25)])), ((y 1), .inl (cI, 300, .inl f_y1_23))] H → va_D A [((y 0), .inr (8, [.ref (y 1), .int 0, .int 0, .ref (y 2), .int 1, .int 100, .int 7, .int 14, .int 3, .int 1, .int 8, .int 0, .int 0, .int (-1), .int 0, .ref (y 3), .ref (y 4), .int 0, .int 0, .ref (y 5), .ref (y 6), .ref (y 7), .ref (y 8), .ref (y 9), .int 0, .ref (y 10), .ref (y 11), .ref (y 12), .ref (y 13), .int 0, .int 0, .ref (y 14), .ref (y 15), .ref (y 16), .ref (y 17), .int 0, .int 0, .int 0, .int 0, .int 0, .int 0, .ref (y 18), .ref (y 19), .int 0, .int 0, .ref (y 20), .int 0, .ref (y 21), .ref (y 22), .ref (y 23), .ref (y 24), .ref (y 25)])), ((y 1), .inl (cI, 300, .inl f_y1_23))] → va_S A s.heap H locs → lv_has ls 8 [(0, .ref (y 0)), (1, .int v1), (2, .int v2), (3, .int v3), (4, .int v4), (5, .int v5), (6, .int i_23)] → W p l e (headSpec wsX8_feed ({ frames := 0, cells := 0, slots := 0, locals := 0 } : Room)).room s m ([.ref (y 0), .int v1, .int v2, .int v3, .int v4, .int v5] : List Value).toArray below meth c H locs 0 0 Q0 (F0 m 23 ls []) := by
    intro n
    induction n with
    | zero => intro i_23 f_y1_23 H locs ls hn_23 hlo_23 hP hD hS hl; exact absurd hn_23 (Nat.not_lt_zero _)
    | succ n ih_L_1 =>
      intro i_23 f_y1_23 H locs ls hn_23 hlo_23 hP hD hS hl
      refine lv_iload hx hb dX8_feed_23 (lv_at hl 6 rfl) ?_
      refine lv_bipush (v := 20) hx hb dX8_feed_25 (by decide) ?_
      refine lv_icmp_ge (tgt := 113) hx hb dX8_feed_27 (by decide) (fun c_27 => ?_) (fun c_27 => ?_)
      ·
        refine lv_aload_n hx hb dX8_feed_113 rfl (lv_at hl 0 rfl) ?_
        refine lv_dup hx hb dX8_feed_114 rfl ?_
        refine va_get (D := D) (ci := 8) (v := .int 0) (C := RX8) (T := TX8) (N := 52) hx hb hts w_1 hown hK hP 0 rfl rfl 1 (by decide) w_3 (fun _ h9 => h9) rfl dX8_feed_115 ?_
        refine lv_bipush (v := 20) hx hb dX8_feed_118 (by decide) ?_
        refine sv_iadd (v := 20) hx hb dX8_feed_120 (by decide) ?_
        refine va_put (D := D) (ci := 8) (v := .int 20) (ty := .int) (C := RX8) (T := TX8) (N := 52) hx hb hts w_1 tyX8 tyX8_ok nmX8 hown hK hP hD hS 0 rfl rfl 1 (by decide) w_3 (fun _ h9 => h9) rfl (by decide +kernel) rfl rfl (Nat.le_of_ble_eq_true rfl) dX8_feed_121 (fun H locs hP hD hS => ?_)
        have hP : va_P D vwCl [((y 0), .inr (8, [.ref (y 1), .int 20, .int 0, .ref (y 2), .int 1, .int 100, .int 7, .int 14, .int 3, .int 1, .int 8, .int 0, .int 0, .int (-1), .int 0, .ref (y 3), .ref (y 4), .int 0, .int 0, .ref (y 5), .ref (y 6), .ref (y 7), .ref (y 8), .ref (y 9), .int 0, .ref (y 10), .ref (y 11), .ref (y 12), .ref (y 13), .int 0, .int 0, .ref (y 14), .ref (y 15), .ref (y 16), .ref (y 17), .int 0, .int 0, .int 0, .int 0, .int 0, .int 0, .ref (y 18), .ref (y 19), .int 0, .int 0, .ref (y 20), .int 0, .ref (y 21), .ref (y 22), .ref (y 23), .ref (y 24), .ref (y 25)])), ((y 1), .inl (cI, 300, .inl f_y1_23))] H := hP
        have hD : va_D A [((y 0), .inr (8, [.ref (y 1), .int 20, .int 0, .ref (y 2), .int 1, .int 100, .int 7, .int 14, .int 3, .int 1, .int 8, .int 0, .int 0, .int (-1), .int 0, .ref (y 3), .ref (y 4), .int 0, .int 0, .ref (y 5), .ref (y 6), .ref (y 7), .ref (y 8), .ref (y 9), .int 0, .ref (y 10), .ref (y 11), .ref (y 12), .ref (y 13), .int 0, .int 0, .ref (y 14), .ref (y 15), .ref (y 16), .ref (y 17), .int 0, .int 0, .int 0, .int 0, .int 0, .int 0, .ref (y 18), .ref (y 19), .int 0, .int 0, .ref (y 20), .int 0, .ref (y 21), .ref (y 22), .ref (y 23), .ref (y 24), .ref (y 25)])), ((y 1), .inl (cI, 300, .inl f_y1_23))] := hD
        refine lv_aload_n hx hb dX8_feed_124 rfl (lv_at hl 0 rfl) ?_
        refine va_get (D := D) (ci := 8) (v := .int 20) (C := RX8) (T := TX8) (N := 52) hx hb hts w_1 hown hK hP 0 rfl rfl 1 (by decide) w_3 (fun _ h9 => h9) rfl dX8_feed_125 ?_
        rw [← hQ]
        have hP9 := hP.sub (ws' := []) [] rfl
        have hD9 := hD.sub (ws' := []) [] (by decide) rfl
        exact W.iret (v := 20) hx hb hr (fun t ht hW => ⟨⟨_, (), rfl, rfl, by rw [ht]; exact hP9, va_K.moved hW.alike hK, hD9⟩, hS.F ht⟩) hS.2.2 dX8_feed_128
      ·
        refine lv_iload hx hb dX8_feed_30 (lv_at hl 6 rfl) ?_
        refine lv_iconst (v := 4) hx hb dX8_feed_32 (by decide) ?_
        refine lv_icmp_ge (tgt := 40) hx hb dX8_feed_33 (by decide) (fun c_33 => ?_) (fun c_33 => ?_)
        ·
          refine lv_iload hx hb dX8_feed_40 (lv_at hl 6 rfl) ?_
          refine lv_bipush (v := 8) hx hb dX8_feed_42 (by decide) ?_
          refine lv_icmp_ge (tgt := 51) hx hb dX8_feed_44 (by decide) (fun c_44 => ?_) (fun c_44 => ?_)
          ·
            refine lv_iload hx hb dX8_feed_51 (lv_at hl 6 rfl) ?_
            refine lv_bipush (v := 12) hx hb dX8_feed_53 (by decide) ?_
            refine lv_icmp_ge (tgt := 62) hx hb dX8_feed_55 (by decide) (fun c_55 => ?_) (fun c_55 => ?_)
            ·
              refine lv_iload hx hb dX8_feed_62 (lv_at hl 6 rfl) ?_
              refine lv_bipush (v := 16) hx hb dX8_feed_64 (by decide) ?_
              refine lv_icmp_ge (tgt := 74) hx hb dX8_feed_66 (by decide) (fun c_66 => ?_) (fun c_66 => ?_)
              ·
                refine lv_iload hx hb dX8_feed_74 (lv_at hl 5 rfl) ?_
                refine lv_istore (lv' := [(7, .int v5), (0, .ref (y 0)), (1, .int v1), (2, .int v2), (3, .int v3), (4, .int v4), (5, .int v5), (6, .int i_23)]) hx hb dX8_feed_76 hl (by decide) rfl (fun ls hl => ?_)
                refine lv_aload_n hx hb dX8_feed_78 rfl (lv_at hl 1 rfl) ?_
                refine va_get (D := D) (ci := 8) (v := .ref (y 1)) (C := RX8) (T := TX8) (N := 52) hx hb hts w_1 hown hK hP 0 rfl rfl 0 (by decide) w_4 (fun _ h9 => h9) rfl dX8_feed_79 ?_
                refine lv_aload_n hx hb dX8_feed_82 rfl (lv_at hl 1 rfl) ?_
                refine va_get (D := D) (ci := 8) (v := .int 0) (C := RX8) (T := TX8) (N := 52) hx hb hts w_1 hown hK hP 0 rfl rfl 1 (by decide) w_3 (fun _ h9 => h9) rfl dX8_feed_83 ?_
                refine lv_iload hx hb dX8_feed_86 (lv_at hl 7 rfl) ?_
                refine sv_iadd (v := i_23) hx hb dX8_feed_88 (Int32.zero_add _) ?_
                refine lv_iload hx hb dX8_feed_89 (lv_at hl 0 rfl) ?_
                refine lv_bipush (v := 24) hx hb dX8_feed_91 (by decide) ?_
                refine lv_bipush (v := 8) hx hb dX8_feed_93 (by decide) ?_
                refine lv_iload hx hb dX8_feed_95 (lv_at hl 7 rfl) ?_
                refine lv_iconst (v := 4) hx hb dX8_feed_97 (by decide) ?_
                refine sv_irem (v := i_23 - i_23 / 4 * 4) hx hb dX8_feed_98 (by decide) rfl ?_
                refine sv_imul (v := 8 * (i_23 - i_23 / 4 * 4)) hx hb dX8_feed_99 rfl ?_
                refine sv_isub (v := 24 - (8 * (i_23 - i_23 / 4 * 4))) hx hb dX8_feed_100 rfl ?_
                refine sv_ishr (v := v5 >>> (24 - (8 * (i_23 - i_23 / 4 * 4)) &&& 31)) hx hb dX8_feed_101 rfl ?_
                refine lv_sipush (v := 255) hx hb dX8_feed_102 (by decide) ?_
                refine sv_iand (v := (v5 >>> (24 - (8 * (i_23 - i_23 / 4 * 4)) &&& 31)) &&& 255) hx hb dX8_feed_105 rfl ?_
                refine sv_iast hx hb hK hP hD hS 1 1 rfl rfl (lp_in hlo_23 c_27 (by decide)) dX8_feed_106 (fun g_2 H locs eg_2 hP hD hS => ?_)
                have hP : va_P D vwCl [((y 0), .inr (8, [.ref (y 1), .int 0, .int 0, .ref (y 2), .int 1, .int 100, .int 7, .int 14, .int 3, .int 1, .int 8, .int 0, .int 0, .int (-1), .int 0, .ref (y 3), .ref (y 4), .int 0, .int 0, .ref (y 5), .ref (y 6), .ref (y 7), .ref (y 8), .ref (y 9), .int 0, .ref (y 10), .ref (y 11), .ref (y 12), .ref (y 13), .int 0, .int 0, .ref (y 14), .ref (y 15), .ref (y 16), .ref (y 17), .int 0, .int 0, .int 0, .int 0, .int 0, .int 0, .ref (y 18), .ref (y 19), .int 0, .int 0, .ref (y 20), .int 0, .ref (y 21), .ref (y 22), .ref (y 23), .ref (y 24), .ref (y 25)])), ((y 1), .inl (cI, 300, .inl g_2))] H := hP
                have hD : va_D A [((y 0), .inr (8, [.ref (y 1), .int 0, .int 0, .ref (y 2), .int 1, .int 100, .int 7, .int 14, .int 3, .int 1, .int 8, .int 0, .int 0, .int (-1), .int 0, .ref (y 3), .ref (y 4), .int 0, .int 0, .ref (y 5), .ref (y 6), .ref (y 7), .ref (y 8), .ref (y 9), .int 0, .ref (y 10), .ref (y 11), .ref (y 12), .ref (y 13), .int 0, .int 0, .ref (y 14), .ref (y 15), .ref (y 16), .ref (y 17), .int 0, .int 0, .int 0, .int 0, .int 0, .int 0, .ref (y 18), .ref (y 19), .int 0, .int 0, .ref (y 20), .int 0, .ref (y 21), .ref (y 22), .ref (y 23), .ref (y 24), .ref (y 25)])), ((y 1), .inl (cI, 300, .inl g_2))] := hD
                refine lv_iinc (v := i_23 + 1) (lv' := [(6, .int (i_23 + 1)), (7, .int v5), (0, .ref (y 0)), (1, .int v1), (2, .int v2), (3, .int v3), (4, .int v4), (5, .int v5)]) hx hb dX8_feed_107 hl (k := 7) rfl rfl (by decide) rfl (fun ls hl => ?_)
                refine lv_goto (tgt := 23) hx hb dX8_feed_110 (by decide) ?_
                exact ih_L_1 (i_23 + 1) g_2 _ _ ls (lp_dec hn_23 c_27) (by have h9 := lp_inc c_27; omega) hP hD hS (lv_sub hl [2, 3, 4, 5, 6, 7, 0] rfl)
              ·
                refine lv_iload hx hb dX8_feed_69 (lv_at hl 4 rfl) ?_
                refine lv_goto (tgt := 76) hx hb dX8_feed_71 (by decide) ?_
                refine lv_istore (lv' := [(7, .int v4), (0, .ref (y 0)), (1, .int v1), (2, .int v2), (3, .int v3), (4, .int v4), (5, .int v5), (6, .int i_23)]) hx hb dX8_feed_76 hl (by decide) rfl (fun ls hl => ?_)
                refine lv_aload_n hx hb dX8_feed_78 rfl (lv_at hl 1 rfl) ?_
                refine va_get (D := D) (ci := 8) (v := .ref (y 1)) (C := RX8) (T := TX8) (N := 52) hx hb hts w_1 hown hK hP 0 rfl rfl 0 (by decide) w_4 (fun _ h9 => h9) rfl dX8_feed_79 ?_
                refine lv_aload_n hx hb dX8_feed_82 rfl (lv_at hl 1 rfl) ?_
                refine va_get (D := D) (ci := 8) (v := .int 0) (C := RX8) (T := TX8) (N := 52) hx hb hts w_1 hown hK hP 0 rfl rfl 1 (by decide) w_3 (fun _ h9 => h9) rfl dX8_feed_83 ?_
                refine lv_iload hx hb dX8_feed_86 (lv_at hl 7 rfl) ?_
                refine sv_iadd (v := i_23) hx hb dX8_feed_88 (Int32.zero_add _) ?_
                refine lv_iload hx hb dX8_feed_89 (lv_at hl 0 rfl) ?_
                refine lv_bipush (v := 24) hx hb dX8_feed_91 (by decide) ?_
                refine lv_bipush (v := 8) hx hb dX8_feed_93 (by decide) ?_
                refine lv_iload hx hb dX8_feed_95 (lv_at hl 7 rfl) ?_
                refine lv_iconst (v := 4) hx hb dX8_feed_97 (by decide) ?_
                refine sv_irem (v := i_23 - i_23 / 4 * 4) hx hb dX8_feed_98 (by decide) rfl ?_
                refine sv_imul (v := 8 * (i_23 - i_23 / 4 * 4)) hx hb dX8_feed_99 rfl ?_
                refine sv_isub (v := 24 - (8 * (i_23 - i_23 / 4 * 4))) hx hb dX8_feed_100 rfl ?_
                refine sv_ishr (v := v4 >>> (24 - (8 * (i_23 - i_23 / 4 * 4)) &&& 31)) hx hb dX8_feed_101 rfl ?_
                refine lv_sipush (v := 255) hx hb dX8_feed_102 (by decide) ?_
                refine sv_iand (v := (v4 >>> (24 - (8 * (i_23 - i_23 / 4 * 4)) &&& 31)) &&& 255) hx hb dX8_feed_105 rfl ?_
                refine sv_iast hx hb hK hP hD hS 1 1 rfl rfl (lp_in hlo_23 c_27 (by decide)) dX8_feed_106 (fun g_3 H locs eg_3 hP hD hS => ?_)
                have hP : va_P D vwCl [((y 0), .inr (8, [.ref (y 1), .int 0, .int 0, .ref (y 2), .int 1, .int 100, .int 7, .int 14, .int 3, .int 1, .int 8, .int 0, .int 0, .int (-1), .int 0, .ref (y 3), .ref (y 4), .int 0, .int 0, .ref (y 5), .ref (y 6), .ref (y 7), .ref (y 8), .ref (y 9), .int 0, .ref (y 10), .ref (y 11), .ref (y 12), .ref (y 13), .int 0, .int 0, .ref (y 14), .ref (y 15), .ref (y 16), .ref (y 17), .int 0, .int 0, .int 0, .int 0, .int 0, .int 0, .ref (y 18), .ref (y 19), .int 0, .int 0, .ref (y 20), .int 0, .ref (y 21), .ref (y 22), .ref (y 23), .ref (y 24), .ref (y 25)])), ((y 1), .inl (cI, 300, .inl g_3))] H := hP
                have hD : va_D A [((y 0), .inr (8, [.ref (y 1), .int 0, .int 0, .ref (y 2), .int 1, .int 100, .int 7, .int 14, .int 3, .int 1, .int 8, .int 0, .int 0, .int (-1), .int 0, .ref (y 3), .ref (y 4), .int 0, .int 0, .ref (y 5), .ref (y 6), .ref (y 7), .ref (y 8), .ref (y 9), .int 0, .ref (y 10), .ref (y 11), .ref (y 12), .ref (y 13), .int 0, .int 0, .ref (y 14), .ref (y 15), .ref (y 16), .ref (y 17), .int 0, .int 0, .int 0, .int 0, .int 0, .int 0, .ref (y 18), .ref (y 19), .int 0, .int 0, .ref (y 20), .int 0, .ref (y 21), .ref (y 22), .ref (y 23), .ref (y 24), .ref (y 25)])), ((y 1), .inl (cI, 300, .inl g_3))] := hD
                refine lv_iinc (v := i_23 + 1) (lv' := [(6, .int (i_23 + 1)), (7, .int v4), (0, .ref (y 0)), (1, .int v1), (2, .int v2), (3, .int v3), (4, .int v4), (5, .int v5)]) hx hb dX8_feed_107 hl (k := 7) rfl rfl (by decide) rfl (fun ls hl => ?_)
                refine lv_goto (tgt := 23) hx hb dX8_feed_110 (by decide) ?_
                exact ih_L_1 (i_23 + 1) g_3 _ _ ls (lp_dec hn_23 c_27) (by have h9 := lp_inc c_27; omega) hP hD hS (lv_sub hl [2, 3, 4, 5, 6, 7, 0] rfl)
            ·
              refine lv_iload_n hx hb dX8_feed_58 rfl (lv_at hl 3 rfl) ?_
              refine lv_goto (tgt := 76) hx hb dX8_feed_59 (by decide) ?_
              refine lv_istore (lv' := [(7, .int v3), (0, .ref (y 0)), (1, .int v1), (2, .int v2), (3, .int v3), (4, .int v4), (5, .int v5), (6, .int i_23)]) hx hb dX8_feed_76 hl (by decide) rfl (fun ls hl => ?_)
              refine lv_aload_n hx hb dX8_feed_78 rfl (lv_at hl 1 rfl) ?_
              refine va_get (D := D) (ci := 8) (v := .ref (y 1)) (C := RX8) (T := TX8) (N := 52) hx hb hts w_1 hown hK hP 0 rfl rfl 0 (by decide) w_4 (fun _ h9 => h9) rfl dX8_feed_79 ?_
              refine lv_aload_n hx hb dX8_feed_82 rfl (lv_at hl 1 rfl) ?_
              refine va_get (D := D) (ci := 8) (v := .int 0) (C := RX8) (T := TX8) (N := 52) hx hb hts w_1 hown hK hP 0 rfl rfl 1 (by decide) w_3 (fun _ h9 => h9) rfl dX8_feed_83 ?_
              refine lv_iload hx hb dX8_feed_86 (lv_at hl 7 rfl) ?_
              refine sv_iadd (v := i_23) hx hb dX8_feed_88 (Int32.zero_add _) ?_
              refine lv_iload hx hb dX8_feed_89 (lv_at hl 0 rfl) ?_
              refine lv_bipush (v := 24) hx hb dX8_feed_91 (by decide) ?_
              refine lv_bipush (v := 8) hx hb dX8_feed_93 (by decide) ?_
              refine lv_iload hx hb dX8_feed_95 (lv_at hl 7 rfl) ?_
              refine lv_iconst (v := 4) hx hb dX8_feed_97 (by decide) ?_
              refine sv_irem (v := i_23 - i_23 / 4 * 4) hx hb dX8_feed_98 (by decide) rfl ?_
              refine sv_imul (v := 8 * (i_23 - i_23 / 4 * 4)) hx hb dX8_feed_99 rfl ?_
              refine sv_isub (v := 24 - (8 * (i_23 - i_23 / 4 * 4))) hx hb dX8_feed_100 rfl ?_
              refine sv_ishr (v := v3 >>> (24 - (8 * (i_23 - i_23 / 4 * 4)) &&& 31)) hx hb dX8_feed_101 rfl ?_
              refine lv_sipush (v := 255) hx hb dX8_feed_102 (by decide) ?_
              refine sv_iand (v := (v3 >>> (24 - (8 * (i_23 - i_23 / 4 * 4)) &&& 31)) &&& 255) hx hb dX8_feed_105 rfl ?_
              refine sv_iast hx hb hK hP hD hS 1 1 rfl rfl (lp_in hlo_23 c_27 (by decide)) dX8_feed_106 (fun g_4 H locs eg_4 hP hD hS => ?_)
              have hP : va_P D vwCl [((y 0), .inr (8, [.ref (y 1), .int 0, .int 0, .ref (y 2), .int 1, .int 100, .int 7, .int 14, .int 3, .int 1, .int 8, .int 0, .int 0, .int (-1), .int 0, .ref (y 3), .ref (y 4), .int 0, .int 0, .ref (y 5), .ref (y 6), .ref (y 7), .ref (y 8), .ref (y 9), .int 0, .ref (y 10), .ref (y 11), .ref (y 12), .ref (y 13), .int 0, .int 0, .ref (y 14), .ref (y 15), .ref (y 16), .ref (y 17), .int 0, .int 0, .int 0, .int 0, .int 0, .int 0, .ref (y 18), .ref (y 19), .int 0, .int 0, .ref (y 20), .int 0, .ref (y 21), .ref (y 22), .ref (y 23), .ref (y 24), .ref (y 25)])), ((y 1), .inl (cI, 300, .inl g_4))] H := hP
              have hD : va_D A [((y 0), .inr (8, [.ref (y 1), .int 0, .int 0, .ref (y 2), .int 1, .int 100, .int 7, .int 14, .int 3, .int 1, .int 8, .int 0, .int 0, .int (-1), .int 0, .ref (y 3), .ref (y 4), .int 0, .int 0, .ref (y 5), .ref (y 6), .ref (y 7), .ref (y 8), .ref (y 9), .int 0, .ref (y 10), .ref (y 11), .ref (y 12), .ref (y 13), .int 0, .int 0, .ref (y 14), .ref (y 15), .ref (y 16), .ref (y 17), .int 0, .int 0, .int 0, .int 0, .int 0, .int 0, .ref (y 18), .ref (y 19), .int 0, .int 0, .ref (y 20), .int 0, .ref (y 21), .ref (y 22), .ref (y 23), .ref (y 24), .ref (y 25)])), ((y 1), .inl (cI, 300, .inl g_4))] := hD
              refine lv_iinc (v := i_23 + 1) (lv' := [(6, .int (i_23 + 1)), (7, .int v3), (0, .ref (y 0)), (1, .int v1), (2, .int v2), (3, .int v3), (4, .int v4), (5, .int v5)]) hx hb dX8_feed_107 hl (k := 7) rfl rfl (by decide) rfl (fun ls hl => ?_)
              refine lv_goto (tgt := 23) hx hb dX8_feed_110 (by decide) ?_
              exact ih_L_1 (i_23 + 1) g_4 _ _ ls (lp_dec hn_23 c_27) (by have h9 := lp_inc c_27; omega) hP hD hS (lv_sub hl [2, 3, 4, 5, 6, 7, 0] rfl)
          ·
            refine lv_iload_n hx hb dX8_feed_47 rfl (lv_at hl 2 rfl) ?_
            refine lv_goto (tgt := 76) hx hb dX8_feed_48 (by decide) ?_
            refine lv_istore (lv' := [(7, .int v2), (0, .ref (y 0)), (1, .int v1), (2, .int v2), (3, .int v3), (4, .int v4), (5, .int v5), (6, .int i_23)]) hx hb dX8_feed_76 hl (by decide) rfl (fun ls hl => ?_)
            refine lv_aload_n hx hb dX8_feed_78 rfl (lv_at hl 1 rfl) ?_
            refine va_get (D := D) (ci := 8) (v := .ref (y 1)) (C := RX8) (T := TX8) (N := 52) hx hb hts w_1 hown hK hP 0 rfl rfl 0 (by decide) w_4 (fun _ h9 => h9) rfl dX8_feed_79 ?_
            refine lv_aload_n hx hb dX8_feed_82 rfl (lv_at hl 1 rfl) ?_
            refine va_get (D := D) (ci := 8) (v := .int 0) (C := RX8) (T := TX8) (N := 52) hx hb hts w_1 hown hK hP 0 rfl rfl 1 (by decide) w_3 (fun _ h9 => h9) rfl dX8_feed_83 ?_
            refine lv_iload hx hb dX8_feed_86 (lv_at hl 7 rfl) ?_
            refine sv_iadd (v := i_23) hx hb dX8_feed_88 (Int32.zero_add _) ?_
            refine lv_iload hx hb dX8_feed_89 (lv_at hl 0 rfl) ?_
            refine lv_bipush (v := 24) hx hb dX8_feed_91 (by decide) ?_
            refine lv_bipush (v := 8) hx hb dX8_feed_93 (by decide) ?_
            refine lv_iload hx hb dX8_feed_95 (lv_at hl 7 rfl) ?_
            refine lv_iconst (v := 4) hx hb dX8_feed_97 (by decide) ?_
            refine sv_irem (v := i_23 - i_23 / 4 * 4) hx hb dX8_feed_98 (by decide) rfl ?_
            refine sv_imul (v := 8 * (i_23 - i_23 / 4 * 4)) hx hb dX8_feed_99 rfl ?_
            refine sv_isub (v := 24 - (8 * (i_23 - i_23 / 4 * 4))) hx hb dX8_feed_100 rfl ?_
            refine sv_ishr (v := v2 >>> (24 - (8 * (i_23 - i_23 / 4 * 4)) &&& 31)) hx hb dX8_feed_101 rfl ?_
            refine lv_sipush (v := 255) hx hb dX8_feed_102 (by decide) ?_
            refine sv_iand (v := (v2 >>> (24 - (8 * (i_23 - i_23 / 4 * 4)) &&& 31)) &&& 255) hx hb dX8_feed_105 rfl ?_
            refine sv_iast hx hb hK hP hD hS 1 1 rfl rfl (lp_in hlo_23 c_27 (by decide)) dX8_feed_106 (fun g_5 H locs eg_5 hP hD hS => ?_)
            have hP : va_P D vwCl [((y 0), .inr (8, [.ref (y 1), .int 0, .int 0, .ref (y 2), .int 1, .int 100, .int 7, .int 14, .int 3, .int 1, .int 8, .int 0, .int 0, .int (-1), .int 0, .ref (y 3), .ref (y 4), .int 0, .int 0, .ref (y 5), .ref (y 6), .ref (y 7), .ref (y 8), .ref (y 9), .int 0, .ref (y 10), .ref (y 11), .ref (y 12), .ref (y 13), .int 0, .int 0, .ref (y 14), .ref (y 15), .ref (y 16), .ref (y 17), .int 0, .int 0, .int 0, .int 0, .int 0, .int 0, .ref (y 18), .ref (y 19), .int 0, .int 0, .ref (y 20), .int 0, .ref (y 21), .ref (y 22), .ref (y 23), .ref (y 24), .ref (y 25)])), ((y 1), .inl (cI, 300, .inl g_5))] H := hP
            have hD : va_D A [((y 0), .inr (8, [.ref (y 1), .int 0, .int 0, .ref (y 2), .int 1, .int 100, .int 7, .int 14, .int 3, .int 1, .int 8, .int 0, .int 0, .int (-1), .int 0, .ref (y 3), .ref (y 4), .int 0, .int 0, .ref (y 5), .ref (y 6), .ref (y 7), .ref (y 8), .ref (y 9), .int 0, .ref (y 10), .ref (y 11), .ref (y 12), .ref (y 13), .int 0, .int 0, .ref (y 14), .ref (y 15), .ref (y 16), .ref (y 17), .int 0, .int 0, .int 0, .int 0, .int 0, .int 0, .ref (y 18), .ref (y 19), .int 0, .int 0, .ref (y 20), .int 0, .ref (y 21), .ref (y 22), .ref (y 23), .ref (y 24), .ref (y 25)])), ((y 1), .inl (cI, 300, .inl g_5))] := hD
            refine lv_iinc (v := i_23 + 1) (lv' := [(6, .int (i_23 + 1)), (7, .int v2), (0, .ref (y 0)), (1, .int v1), (2, .int v2), (3, .int v3), (4, .int v4), (5, .int v5)]) hx hb dX8_feed_107 hl (k := 7) rfl rfl (by decide) rfl (fun ls hl => ?_)
            refine lv_goto (tgt := 23) hx hb dX8_feed_110 (by decide) ?_
            exact ih_L_1 (i_23 + 1) g_5 _ _ ls (lp_dec hn_23 c_27) (by have h9 := lp_inc c_27; omega) hP hD hS (lv_sub hl [2, 3, 4, 5, 6, 7, 0] rfl)
        ·
          refine lv_iload_n hx hb dX8_feed_36 rfl (lv_at hl 1 rfl) ?_
          refine lv_goto (tgt := 76) hx hb dX8_feed_37 (by decide) ?_
          refine lv_istore (lv' := [(7, .int v1), (0, .ref (y 0)), (1, .int v1), (2, .int v2), (3, .int v3), (4, .int v4), (5, .int v5), (6, .int i_23)]) hx hb dX8_feed_76 hl (by decide) rfl (fun ls hl => ?_)
          refine lv_aload_n hx hb dX8_feed_78 rfl (lv_at hl 1 rfl) ?_
          refine va_get (D := D) (ci := 8) (v := .ref (y 1)) (C := RX8) (T := TX8) (N := 52) hx hb hts w_1 hown hK hP 0 rfl rfl 0 (by decide) w_4 (fun _ h9 => h9) rfl dX8_feed_79 ?_
          refine lv_aload_n hx hb dX8_feed_82 rfl (lv_at hl 1 rfl) ?_
          refine va_get (D := D) (ci := 8) (v := .int 0) (C := RX8) (T := TX8) (N := 52) hx hb hts w_1 hown hK hP 0 rfl rfl 1 (by decide) w_3 (fun _ h9 => h9) rfl dX8_feed_83 ?_
          refine lv_iload hx hb dX8_feed_86 (lv_at hl 7 rfl) ?_
          refine sv_iadd (v := i_23) hx hb dX8_feed_88 (Int32.zero_add _) ?_
          refine lv_iload hx hb dX8_feed_89 (lv_at hl 0 rfl) ?_
          refine lv_bipush (v := 24) hx hb dX8_feed_91 (by decide) ?_
          refine lv_bipush (v := 8) hx hb dX8_feed_93 (by decide) ?_
          refine lv_iload hx hb dX8_feed_95 (lv_at hl 7 rfl) ?_
          refine lv_iconst (v := 4) hx hb dX8_feed_97 (by decide) ?_
          refine sv_irem (v := i_23 - i_23 / 4 * 4) hx hb dX8_feed_98 (by decide) rfl ?_
          refine sv_imul (v := 8 * (i_23 - i_23 / 4 * 4)) hx hb dX8_feed_99 rfl ?_
          refine sv_isub (v := 24 - (8 * (i_23 - i_23 / 4 * 4))) hx hb dX8_feed_100 rfl ?_
          refine sv_ishr (v := v1 >>> (24 - (8 * (i_23 - i_23 / 4 * 4)) &&& 31)) hx hb dX8_feed_101 rfl ?_
          refine lv_sipush (v := 255) hx hb dX8_feed_102 (by decide) ?_
          refine sv_iand (v := (v1 >>> (24 - (8 * (i_23 - i_23 / 4 * 4)) &&& 31)) &&& 255) hx hb dX8_feed_105 rfl ?_
          refine sv_iast hx hb hK hP hD hS 1 1 rfl rfl (lp_in hlo_23 c_27 (by decide)) dX8_feed_106 (fun g_6 H locs eg_6 hP hD hS => ?_)
          have hP : va_P D vwCl [((y 0), .inr (8, [.ref (y 1), .int 0, .int 0, .ref (y 2), .int 1, .int 100, .int 7, .int 14, .int 3, .int 1, .int 8, .int 0, .int 0, .int (-1), .int 0, .ref (y 3), .ref (y 4), .int 0, .int 0, .ref (y 5), .ref (y 6), .ref (y 7), .ref (y 8), .ref (y 9), .int 0, .ref (y 10), .ref (y 11), .ref (y 12), .ref (y 13), .int 0, .int 0, .ref (y 14), .ref (y 15), .ref (y 16), .ref (y 17), .int 0, .int 0, .int 0, .int 0, .int 0, .int 0, .ref (y 18), .ref (y 19), .int 0, .int 0, .ref (y 20), .int 0, .ref (y 21), .ref (y 22), .ref (y 23), .ref (y 24), .ref (y 25)])), ((y 1), .inl (cI, 300, .inl g_6))] H := hP
          have hD : va_D A [((y 0), .inr (8, [.ref (y 1), .int 0, .int 0, .ref (y 2), .int 1, .int 100, .int 7, .int 14, .int 3, .int 1, .int 8, .int 0, .int 0, .int (-1), .int 0, .ref (y 3), .ref (y 4), .int 0, .int 0, .ref (y 5), .ref (y 6), .ref (y 7), .ref (y 8), .ref (y 9), .int 0, .ref (y 10), .ref (y 11), .ref (y 12), .ref (y 13), .int 0, .int 0, .ref (y 14), .ref (y 15), .ref (y 16), .ref (y 17), .int 0, .int 0, .int 0, .int 0, .int 0, .int 0, .ref (y 18), .ref (y 19), .int 0, .int 0, .ref (y 20), .int 0, .ref (y 21), .ref (y 22), .ref (y 23), .ref (y 24), .ref (y 25)])), ((y 1), .inl (cI, 300, .inl g_6))] := hD
          refine lv_iinc (v := i_23 + 1) (lv' := [(6, .int (i_23 + 1)), (7, .int v1), (0, .ref (y 0)), (1, .int v1), (2, .int v2), (3, .int v3), (4, .int v4), (5, .int v5)]) hx hb dX8_feed_107 hl (k := 7) rfl rfl (by decide) rfl (fun ls hl => ?_)
          refine lv_goto (tgt := 23) hx hb dX8_feed_110 (by decide) ?_
          exact ih_L_1 (i_23 + 1) g_6 _ _ ls (lp_dec hn_23 c_27) (by have h9 := lp_inc c_27; omega) hP hD hS (lv_sub hl [2, 3, 4, 5, 6, 7, 0] rfl)
  exact L_1 _ 0 (fun _ => 0) _ _ ls (Nat.lt_succ_self _) (by decide) hP hD hS (lv_sub hl [1, 2, 3, 4, 5, 6, 0] rfl)

