set_option maxHeartbeats 4000000 in
set_option maxRecDepth 100000 in
/-- advance() at the end -/
theorem k_X4_adv (l : Launch) (D : va_G) (cB cI cJ cZ : ClassId) (sz : Nat) (h0 dr tp : Nat) : Met l yX4_advance wsX4_advance ({ frames := 0, cells := 0, slots := 0, locals := 0 } : Room) (cPre D (aTy cB cI cJ cZ) [(h0, .inr (4, [.ref dr, .int 0, .int (-1), .int 0, .ref tp, .int 0, .int 0, .int 0, .int 0, .int 0, .int 0]))] sz [.ref h0]) (va_Qv (fun (u : Unit) => True) (cB_ D (aTy cB cI cJ cZ) (va_A [(h0, .inr (4, [.ref dr, .int 0, .int (-1), .int 0, .ref tp, .int 0, .int 0, .int 0, .int 0, .int 0, .int 0]))] sz) (fun _ => [(h0, .inr (4, [.ref dr, .int 0, .int (-1), .int 0, .ref tp, .int 0, .int 0, .int 0, .int 0, .int 0, .int 0]))])) (va_A [(h0, .inr (4, [.ref dr, .int 0, .int (-1), .int 0, .ref tp, .int 0, .int 0, .int 0, .int 0, .int 0, .int 0]))] sz)) 0 0 (va_A [(h0, .inr (4, [.ref dr, .int 0, .int (-1), .int 0, .ref tp, .int 0, .int 0, .int 0, .int 0, .int 0, .int 0]))] sz) := by
  refine Met.ofW (cc := cX4_advance) (maxL := 2) (ret := none) (by decide) rfl ?_
  intro p e s m args below meth c s₁ B hml hv
  obtain ⟨rfl, hsz, hP, hK, hD0⟩ := hv
  have hx := B.exec
  have hb := B.bytes
  have hr := B.returns
  have hts := atoms_spec (ws := wsX4_advance) B.pre
  have hown : s.vm.findClass RX4 = some m.cls := findClass_of_methodNamed B.named
  have hlocks := B.notSynchronized
  subst hsz
  have hD := hD0.self (sz := s.heap.size)
  generalize hAe : va_A [(h0, .inr (4, [.ref dr, .int 0, .int (-1), .int 0, .ref tp, .int 0, .int 0, .int 0, .int 0, .int 0, .int 0]))] s.heap.size = A at hD ⊢
  have hA : ∀ q : Nat, s.heap.size ≤ q → A q := fun q h => by rw [← hAe]; exact Or.inr h
  have hS : va_S A s.heap s.heap [] := va_S.rf
  have hP : va_P D vwCl [(h0, .inr (4, [.ref dr, .int 0, .int (-1), .int 0, .ref tp, .int 0, .int 0, .int 0, .int 0, .int 0, .int 0]))] s.heap := hP
  have w_1 : ∀ w ∈ wsX40, w ∈ wsX4_advance := by decide +kernel
  have w_2 := hts (Cond.fieldLink RX4 41 "BlueCoats$Reader" "end" "I") (by decide +kernel)
  have w_3 := hts (Cond.fieldLink RX4 67 "BlueCoats$Reader" "start" "I") (by decide +kernel)
  have w_4 := hts (Cond.fieldLink RX4 38 "BlueCoats$Reader" "length" "I") (by decide +kernel)
  have w_5 := hts (Cond.fieldLink RX4 53 "BlueCoats$Reader" "kind" "I") (by decide +kernel)
  have hl := lv_entry ([.ref h0]) (n := 2) (Nat.le_of_ble_eq_true rfl)
  rw [lg_entry_eq]
  generalize (lg_sl ([.ref h0]) ++ List.replicate (2 - (lg_sl ([.ref h0])).length) Slot.unset).toArray = ls at hl ⊢
  have hl : lv_has ls 2 [(0, .ref h0)] := hl
  refine lv_aload_n hx hb dX4_advance_0 rfl (lv_at hl 0 rfl) ?_
  refine lv_aload_n hx hb dX4_advance_1 rfl (lv_at hl 0 rfl) ?_
  refine va_get (D := D) (ci := 4) (v := .int 0) (C := RX4) (T := TX4) (N := 11) hx hb hts w_1 hown hK hP 0 rfl rfl 8 (by decide) w_2 (fun _ h9 => h9) rfl dX4_advance_2 ?_
  refine va_put (D := D) (ci := 4) (v := .int 0) (ty := .int) (C := RX4) (T := TX4) (N := 11) hx hb hts w_1 tyX4 tyX4_ok nmX4 hown hK hP hD hS 0 rfl rfl 7 (by decide) w_3 (fun _ h9 => h9) rfl (by decide +kernel) rfl rfl (Nat.le_of_ble_eq_true rfl) dX4_advance_5 (fun H locs hP hD hS => ?_)
  have hP : va_P D vwCl [(h0, .inr (4, [.ref dr, .int 0, .int (-1), .int 0, .ref tp, .int 0, .int 0, .int 0, .int 0, .int 0, .int 0]))] H := hP
  have hD : va_D A [(h0, .inr (4, [.ref dr, .int 0, .int (-1), .int 0, .ref tp, .int 0, .int 0, .int 0, .int 0, .int 0, .int 0]))] := hD
  refine lv_aload_n hx hb dX4_advance_8 rfl (lv_at hl 0 rfl) ?_
  refine va_get (D := D) (ci := 4) (v := .int 0) (C := RX4) (T := TX4) (N := 11) hx hb hts w_1 hown hK hP 0 rfl rfl 7 (by decide) w_3 (fun _ h9 => h9) rfl dX4_advance_9 ?_
  refine lv_aload_n hx hb dX4_advance_12 rfl (lv_at hl 0 rfl) ?_
  refine va_get (D := D) (ci := 4) (v := .int 0) (C := RX4) (T := TX4) (N := 11) hx hb hts w_1 hown hK hP 0 rfl rfl 5 (by decide) w_4 (fun _ h9 => h9) rfl dX4_advance_13 ?_
  refine lv_icmp_ge (tgt := 46) hx hb dX4_advance_16 (by decide) (fun _ => ?_) (fun h => absurd (by decide) h)
  refine lv_aload_n hx hb dX4_advance_46 rfl (lv_at hl 0 rfl) ?_
  refine lv_aload_n hx hb dX4_advance_47 rfl (lv_at hl 0 rfl) ?_
  refine va_get (D := D) (ci := 4) (v := .int 0) (C := RX4) (T := TX4) (N := 11) hx hb hts w_1 hown hK hP 0 rfl rfl 7 (by decide) w_3 (fun _ h9 => h9) rfl dX4_advance_48 ?_
  refine va_put (D := D) (ci := 4) (v := .int 0) (ty := .int) (C := RX4) (T := TX4) (N := 11) hx hb hts w_1 tyX4 tyX4_ok nmX4 hown hK hP hD hS 0 rfl rfl 8 (by decide) w_2 (fun _ h9 => h9) rfl (by decide +kernel) rfl rfl (Nat.le_of_ble_eq_true rfl) dX4_advance_51 (fun H locs hP hD hS => ?_)
  have hP : va_P D vwCl [(h0, .inr (4, [.ref dr, .int 0, .int (-1), .int 0, .ref tp, .int 0, .int 0, .int 0, .int 0, .int 0, .int 0]))] H := hP
  have hD : va_D A [(h0, .inr (4, [.ref dr, .int 0, .int (-1), .int 0, .ref tp, .int 0, .int 0, .int 0, .int 0, .int 0, .int 0]))] := hD
  refine lv_aload_n hx hb dX4_advance_54 rfl (lv_at hl 0 rfl) ?_
  refine va_get (D := D) (ci := 4) (v := .int 0) (C := RX4) (T := TX4) (N := 11) hx hb hts w_1 hown hK hP 0 rfl rfl 7 (by decide) w_3 (fun _ h9 => h9) rfl dX4_advance_55 ?_
  refine lv_aload_n hx hb dX4_advance_58 rfl (lv_at hl 0 rfl) ?_
  refine va_get (D := D) (ci := 4) (v := .int 0) (C := RX4) (T := TX4) (N := 11) hx hb hts w_1 hown hK hP 0 rfl rfl 5 (by decide) w_4 (fun _ h9 => h9) rfl dX4_advance_59 ?_
  refine lv_icmp_lt (tgt := 71) hx hb dX4_advance_62 (by decide) (fun h => absurd h (by decide)) (fun _ => ?_)
  refine lv_aload_n hx hb dX4_advance_65 rfl (lv_at hl 0 rfl) ?_
  refine lv_iconst (v := 0) hx hb dX4_advance_66 (by decide) ?_
  refine va_put (D := D) (ci := 4) (v := .int 0) (ty := .int) (C := RX4) (T := TX4) (N := 11) hx hb hts w_1 tyX4 tyX4_ok nmX4 hown hK hP hD hS 0 rfl rfl 6 (by decide) w_5 (fun _ h9 => h9) rfl (by decide +kernel) rfl rfl (Nat.le_of_ble_eq_true rfl) dX4_advance_67 (fun H locs hP hD hS => ?_)
  have hP : va_P D vwCl [(h0, .inr (4, [.ref dr, .int 0, .int (-1), .int 0, .ref tp, .int 0, .int 0, .int 0, .int 0, .int 0, .int 0]))] H := hP
  have hD : va_D A [(h0, .inr (4, [.ref dr, .int 0, .int (-1), .int 0, .ref tp, .int 0, .int 0, .int 0, .int 0, .int 0, .int 0]))] := hD
  have hP9 := hP.sub (ws' := [(h0, .inr (4, [.ref dr, .int 0, .int (-1), .int 0, .ref tp, .int 0, .int 0, .int 0, .int 0, .int 0, .int 0]))]) [0] rfl
  have hD9 := hD.sub (ws' := [(h0, .inr (4, [.ref dr, .int 0, .int (-1), .int 0, .ref tp, .int 0, .int 0, .int 0, .int 0, .int 0, .int 0]))]) [0] (by decide) rfl
  exact W.vret hx hb hr (fun t ht hW => ⟨⟨(), rfl, trivial, by rw [ht]; exact hP9, va_K.moved hW.alike hK, hD9⟩, hS.F ht⟩) hS.2.2 dX4_advance_70

set_option maxHeartbeats 4000000 in
set_option maxRecDepth 100000 in
/-- read(0) -/
theorem k_X4_read (l : Launch) (D : va_G) (cB cI cJ cZ : ClassId) (sz : Nat) (h0 dr tp cy : Nat) : Met l yX4_read wsX4_read ({ frames := 1, cells := 0, slots := 0, locals := 21 } : Room) (cPre D (aTy cB cI cJ cZ) [(h0, .inr (4, [.ref dr, .int 0, .int (-1), .int 0, .ref tp, .int 0, .int 0, .int 0, .int 0, .int 0, .int 0])), (dr, .inr (5, [.ref cy, .int 1, .int 0, .int 100, .int 7, .int 14, .int 3, .int 1, .int 8])), (cy, .inl (cI, 8, .inl cyc0))] sz [.ref h0, .int 0]) (va_Qi (fun (r : Int32) (u : Unit) => r = 0) (cB_ D (aTy cB cI cJ cZ) (va_A [(h0, .inr (4, [.ref dr, .int 0, .int (-1), .int 0, .ref tp, .int 0, .int 0, .int 0, .int 0, .int 0, .int 0])), (dr, .inr (5, [.ref cy, .int 1, .int 0, .int 100, .int 7, .int 14, .int 3, .int 1, .int 8])), (cy, .inl (cI, 8, .inl cyc0))] sz) (fun _ => [(h0, .inr (4, [.ref dr, .int 0, .int (-1), .int 0, .ref tp, .int 0, .int 0, .int 0, .int 0, .int 0, .int 0])), (dr, .inr (5, [.ref cy, .int 1, .int 0, .int 100, .int 7, .int 14, .int 3, .int 1, .int 8])), (cy, .inl (cI, 8, .inl (upd cyc0 0 2)))])) (va_A [(h0, .inr (4, [.ref dr, .int 0, .int (-1), .int 0, .ref tp, .int 0, .int 0, .int 0, .int 0, .int 0, .int 0])), (dr, .inr (5, [.ref cy, .int 1, .int 0, .int 100, .int 7, .int 14, .int 3, .int 1, .int 8])), (cy, .inl (cI, 8, .inl cyc0))] sz)) 0 0 (va_A [(h0, .inr (4, [.ref dr, .int 0, .int (-1), .int 0, .ref tp, .int 0, .int 0, .int 0, .int 0, .int 0, .int 0])), (dr, .inr (5, [.ref cy, .int 1, .int 0, .int 100, .int 7, .int 14, .int 3, .int 1, .int 8])), (cy, .inl (cI, 8, .inl cyc0))] sz) := by
  refine Met.ofW (cc := cX4_read) (maxL := 3) (ret := (some .int)) (by decide) rfl ?_
  intro p e s m args below meth c s₁ B hml hv
  obtain ⟨rfl, hsz, hP, hK, hD0⟩ := hv
  have hx := B.exec
  have hb := B.bytes
  have hr := B.returns
  have hts := atoms_spec (ws := wsX4_read) B.pre
  have hown : s.vm.findClass RX4 = some m.cls := findClass_of_methodNamed B.named
  have hlocks := B.notSynchronized
  subst hsz
  have hD := hD0.self (sz := s.heap.size)
  generalize hAe : va_A [(h0, .inr (4, [.ref dr, .int 0, .int (-1), .int 0, .ref tp, .int 0, .int 0, .int 0, .int 0, .int 0, .int 0])), (dr, .inr (5, [.ref cy, .int 1, .int 0, .int 100, .int 7, .int 14, .int 3, .int 1, .int 8])), (cy, .inl (cI, 8, .inl cyc0))] s.heap.size = A at hD ⊢
  have hA : ∀ q : Nat, s.heap.size ≤ q → A q := fun q h => by rw [← hAe]; exact Or.inr h
  have hS : va_S A s.heap s.heap [] := va_S.rf
  have hP : va_P D vwCl [(h0, .inr (4, [.ref dr, .int 0, .int (-1), .int 0, .ref tp, .int 0, .int 0, .int 0, .int 0, .int 0, .int 0])), (dr, .inr (5, [.ref cy, .int 1, .int 0, .int 100, .int 7, .int 14, .int 3, .int 1, .int 8])), (cy, .inl (cI, 8, .inl cyc0))] s.heap := hP
  have w_1 : ∀ w ∈ wsX40, w ∈ wsX4_read := by decide +kernel
  have w_2 := hts (Cond.fieldLink RX4 29 "BlueCoats$Reader" "taped" "I") (by decide +kernel)
  have w_3 := hts (Cond.methodLink RX4 32 Lib.Math.min.name) (by decide +kernel)
  have w_4 := hts (Cond.static Lib.Math.min.name) (by decide +kernel)
  have w_5 := hts (Cond.initialized "java/lang/Math") (by decide +kernel)
  have w_6 := hts (Cond.code Lib.Math.min.name Lib.Math.min.code 2 (some .int)) (by decide +kernel)
  have w_7 := hts (Cond.fieldLink RX4 38 "BlueCoats$Reader" "length" "I") (by decide +kernel)
  have w_8 := hts (Cond.fieldLink RX4 41 "BlueCoats$Reader" "end" "I") (by decide +kernel)
  have w_9 := hts (Cond.fieldLink RX4 44 "BlueCoats$Reader" "told" "I") (by decide +kernel)
  have w_10 := hts (Cond.fieldLink RX4 18 "BlueCoats$Reader" "fault" "I") (by decide +kernel)
  have w_11 := hts (Cond.fieldLink RX4 22 "BlueCoats$Reader" "faultPlace" "I") (by decide +kernel)
  have w_12 := hts (Cond.fieldLink RX4 12 "BlueCoats$Reader" "draft" "LBlueCoats$Statutes;") (by decide +kernel)
  have w_13 := hts (Cond.fieldLink RX4 53 "BlueCoats$Reader" "kind" "I") (by decide +kernel)
  have hl := lv_entry ([.ref h0, .int 0]) (n := 3) (Nat.le_of_ble_eq_true rfl)
  rw [lg_entry_eq]
  generalize (lg_sl ([.ref h0, .int 0]) ++ List.replicate (3 - (lg_sl ([.ref h0, .int 0])).length) Slot.unset).toArray = ls at hl ⊢
  have hl : lv_has ls 3 [(0, .ref h0), (1, .int 0)] := hl
  refine lv_aload_n hx hb dX4_read_0 rfl (lv_at hl 0 rfl) ?_
  refine lv_iload_n hx hb dX4_read_1 rfl (lv_at hl 1 rfl) ?_
  refine lv_aload_n hx hb dX4_read_2 rfl (lv_at hl 0 rfl) ?_
  refine va_get (D := D) (ci := 4) (v := .int 0) (C := RX4) (T := TX4) (N := 11) hx hb hts w_1 hown hK hP 0 rfl rfl 3 (by decide) w_2 (fun _ h9 => h9) rfl dX4_read_3 ?_
  refine va_mmin (x := 0) (y := 0) hx hb (by rw [hml]; exact hl.1.symm) hown w_3 w_4 w_5 w_6 (Nat.le_of_ble_eq_true rfl) (Nat.le_of_ble_eq_true rfl) (Nat.le_of_ble_eq_true rfl) (Nat.le_of_ble_eq_true rfl) dX4_read_6 ?_
  refine W.eq (g2 := F0 m 9 ls [.int 0, .ref h0]) rfl ?_
  refine va_put (D := D) (ci := 4) (v := .int 0) (ty := .int) (C := RX4) (T := TX4) (N := 11) hx hb hts w_1 tyX4 tyX4_ok nmX4 hown hK hP hD hS 0 rfl rfl 5 (by decide) w_7 (fun _ h9 => h9) rfl (by decide +kernel) rfl rfl (Nat.le_of_ble_eq_true rfl) dX4_read_9 (fun H locs hP hD hS => ?_)
  have hP : va_P D vwCl [(h0, .inr (4, [.ref dr, .int 0, .int (-1), .int 0, .ref tp, .int 0, .int 0, .int 0, .int 0, .int 0, .int 0])), (dr, .inr (5, [.ref cy, .int 1, .int 0, .int 100, .int 7, .int 14, .int 3, .int 1, .int 8])), (cy, .inl (cI, 8, .inl cyc0))] H := hP
  have hD : va_D A [(h0, .inr (4, [.ref dr, .int 0, .int (-1), .int 0, .ref tp, .int 0, .int 0, .int 0, .int 0, .int 0, .int 0])), (dr, .inr (5, [.ref cy, .int 1, .int 0, .int 100, .int 7, .int 14, .int 3, .int 1, .int 8])), (cy, .inl (cI, 8, .inl cyc0))] := hD
  refine lv_aload_n hx hb dX4_read_12 rfl (lv_at hl 0 rfl) ?_
  refine lv_iconst (v := 0) hx hb dX4_read_13 (by decide) ?_
  refine va_put (D := D) (ci := 4) (v := .int 0) (ty := .int) (C := RX4) (T := TX4) (N := 11) hx hb hts w_1 tyX4 tyX4_ok nmX4 hown hK hP hD hS 0 rfl rfl 3 (by decide) w_2 (fun _ h9 => h9) rfl (by decide +kernel) rfl rfl (Nat.le_of_ble_eq_true rfl) dX4_read_14 (fun H locs hP hD hS => ?_)
  have hP : va_P D vwCl [(h0, .inr (4, [.ref dr, .int 0, .int (-1), .int 0, .ref tp, .int 0, .int 0, .int 0, .int 0, .int 0, .int 0])), (dr, .inr (5, [.ref cy, .int 1, .int 0, .int 100, .int 7, .int 14, .int 3, .int 1, .int 8])), (cy, .inl (cI, 8, .inl cyc0))] H := hP
  have hD : va_D A [(h0, .inr (4, [.ref dr, .int 0, .int (-1), .int 0, .ref tp, .int 0, .int 0, .int 0, .int 0, .int 0, .int 0])), (dr, .inr (5, [.ref cy, .int 1, .int 0, .int 100, .int 7, .int 14, .int 3, .int 1, .int 8])), (cy, .inl (cI, 8, .inl cyc0))] := hD
  refine lv_aload_n hx hb dX4_read_17 rfl (lv_at hl 0 rfl) ?_
  refine lv_iconst (v := 0) hx hb dX4_read_18 (by decide) ?_
  refine va_put (D := D) (ci := 4) (v := .int 0) (ty := .int) (C := RX4) (T := TX4) (N := 11) hx hb hts w_1 tyX4 tyX4_ok nmX4 hown hK hP hD hS 0 rfl rfl 8 (by decide) w_8 (fun _ h9 => h9) rfl (by decide +kernel) rfl rfl (Nat.le_of_ble_eq_true rfl) dX4_read_19 (fun H locs hP hD hS => ?_)
  have hP : va_P D vwCl [(h0, .inr (4, [.ref dr, .int 0, .int (-1), .int 0, .ref tp, .int 0, .int 0, .int 0, .int 0, .int 0, .int 0])), (dr, .inr (5, [.ref cy, .int 1, .int 0, .int 100, .int 7, .int 14, .int 3, .int 1, .int 8])), (cy, .inl (cI, 8, .inl cyc0))] H := hP
  have hD : va_D A [(h0, .inr (4, [.ref dr, .int 0, .int (-1), .int 0, .ref tp, .int 0, .int 0, .int 0, .int 0, .int 0, .int 0])), (dr, .inr (5, [.ref cy, .int 1, .int 0, .int 100, .int 7, .int 14, .int 3, .int 1, .int 8])), (cy, .inl (cI, 8, .inl cyc0))] := hD
  refine lv_aload_n hx hb dX4_read_22 rfl (lv_at hl 0 rfl) ?_
  refine lv_iconst (v := 0) hx hb dX4_read_23 (by decide) ?_
  refine va_put (D := D) (ci := 4) (v := .int 0) (ty := .int) (C := RX4) (T := TX4) (N := 11) hx hb hts w_1 tyX4 tyX4_ok nmX4 hown hK hP hD hS 0 rfl rfl 10 (by decide) w_9 (fun _ h9 => h9) rfl (by decide +kernel) rfl rfl (Nat.le_of_ble_eq_true rfl) dX4_read_24 (fun H locs hP hD hS => ?_)
  have hP : va_P D vwCl [(h0, .inr (4, [.ref dr, .int 0, .int (-1), .int 0, .ref tp, .int 0, .int 0, .int 0, .int 0, .int 0, .int 0])), (dr, .inr (5, [.ref cy, .int 1, .int 0, .int 100, .int 7, .int 14, .int 3, .int 1, .int 8])), (cy, .inl (cI, 8, .inl cyc0))] H := hP
  have hD : va_D A [(h0, .inr (4, [.ref dr, .int 0, .int (-1), .int 0, .ref tp, .int 0, .int 0, .int 0, .int 0, .int 0, .int 0])), (dr, .inr (5, [.ref cy, .int 1, .int 0, .int 100, .int 7, .int 14, .int 3, .int 1, .int 8])), (cy, .inl (cI, 8, .inl cyc0))] := hD
  refine lv_aload_n hx hb dX4_read_27 rfl (lv_at hl 0 rfl) ?_
  refine lv_iconst (v := 0) hx hb dX4_read_28 (by decide) ?_
  refine va_put (D := D) (ci := 4) (v := .int 0) (ty := .int) (C := RX4) (T := TX4) (N := 11) hx hb hts w_1 tyX4 tyX4_ok nmX4 hown hK hP hD hS 0 rfl rfl 1 (by decide) w_10 (fun _ h9 => h9) rfl (by decide +kernel) rfl rfl (Nat.le_of_ble_eq_true rfl) dX4_read_29 (fun H locs hP hD hS => ?_)
  have hP : va_P D vwCl [(h0, .inr (4, [.ref dr, .int 0, .int (-1), .int 0, .ref tp, .int 0, .int 0, .int 0, .int 0, .int 0, .int 0])), (dr, .inr (5, [.ref cy, .int 1, .int 0, .int 100, .int 7, .int 14, .int 3, .int 1, .int 8])), (cy, .inl (cI, 8, .inl cyc0))] H := hP
  have hD : va_D A [(h0, .inr (4, [.ref dr, .int 0, .int (-1), .int 0, .ref tp, .int 0, .int 0, .int 0, .int 0, .int 0, .int 0])), (dr, .inr (5, [.ref cy, .int 1, .int 0, .int 100, .int 7, .int 14, .int 3, .int 1, .int 8])), (cy, .inl (cI, 8, .inl cyc0))] := hD
  refine lv_aload_n hx hb dX4_read_32 rfl (lv_at hl 0 rfl) ?_
  refine lv_iconst (v := (-1)) hx hb dX4_read_33 (by decide) ?_
  refine va_put (D := D) (ci := 4) (v := .int (-1)) (ty := .int) (C := RX4) (T := TX4) (N := 11) hx hb hts w_1 tyX4 tyX4_ok nmX4 hown hK hP hD hS 0 rfl rfl 2 (by decide) w_11 (fun _ h9 => h9) rfl (by decide +kernel) rfl rfl (Nat.le_of_ble_eq_true rfl) dX4_read_34 (fun H locs hP hD hS => ?_)
  have hP : va_P D vwCl [(h0, .inr (4, [.ref dr, .int 0, .int (-1), .int 0, .ref tp, .int 0, .int 0, .int 0, .int 0, .int 0, .int 0])), (dr, .inr (5, [.ref cy, .int 1, .int 0, .int 100, .int 7, .int 14, .int 3, .int 1, .int 8])), (cy, .inl (cI, 8, .inl cyc0))] H := hP
  have hD : va_D A [(h0, .inr (4, [.ref dr, .int 0, .int (-1), .int 0, .ref tp, .int 0, .int 0, .int 0, .int 0, .int 0, .int 0])), (dr, .inr (5, [.ref cy, .int 1, .int 0, .int 100, .int 7, .int 14, .int 3, .int 1, .int 8])), (cy, .inl (cI, 8, .inl cyc0))] := hD
  refine lv_aload_n hx hb dX4_read_37 rfl (lv_at hl 0 rfl) ?_
  refine va_get (D := D) (ci := 4) (v := .ref dr) (C := RX4) (T := TX4) (N := 11) hx hb hts w_1 hown hK hP 0 rfl rfl 0 (by decide) w_12 (fun _ h9 => h9) rfl dX4_read_38 ?_
  refine cl_v (wc := [(dr, .inr (5, [.ref cy, .int 1, .int 0, .int 100, .int 7, .int 14, .int 3, .int 1, .int 8])), (cy, .inl (cI, 8, .inl cyc0))]) (wr := [(h0, .inr (4, [.ref dr, .int 0, .int (-1), .int 0, .ref tp, .int 0, .int 0, .int 0, .int 0, .int 0, .int 0]))]) (va_runV (As := []) (rest := []) ⟨hx, hb, hml, hown, hts⟩ (k_X5_say l D cB cI cJ cZ H.size dr cy 1 0 100 7 14 3 1 8 cyc0) (cwV 0 hts gX4_read_X5_sayNothing rfl rfl rfl (by decide +kernel) ⟨Nat.le_of_ble_eq_true rfl, Nat.le_of_ble_eq_true rfl⟩) (pre_V (hP.sub (ws' := [(dr, .inr (5, [.ref cy, .int 1, .int 0, .int 100, .int 7, .int 14, .int 3, .int 1, .int 8])), (cy, .inl (cI, 8, .inl cyc0))]) [1, 2] rfl) hK (hD.sub (ws' := [(dr, .inr (5, [.ref cy, .int 1, .int 0, .int 100, .int 7, .int 14, .int 3, .int 1, .int 8])), (cy, .inl (cI, 8, .inl cyc0))]) [1, 2] (by decide) rfl) 0 rfl rfl rfl) rfl rfl hl.1 rfl (lv_room (Nat.le_of_ble_eq_true rfl)) dX4_read_41 ⟨Nat.le_of_ble_eq_true rfl, Nat.le_of_ble_eq_true rfl⟩) hP hD hS hA [1, 2] [0] rfl rfl (by decide) (by decide) 0 0 rfl rfl (fun u_2 H locs hw_u_2 hP hD hS => ?_)
  have hP : va_P D vwCl [(h0, .inr (4, [.ref dr, .int 0, .int (-1), .int 0, .ref tp, .int 0, .int 0, .int 0, .int 0, .int 0, .int 0])), (dr, .inr (5, [.ref cy, .int 1, .int 0, .int 100, .int 7, .int 14, .int 3, .int 1, .int 8])), (cy, .inl (cI, 8, .inl (upd cyc0 0 2)))] H := hP
  have hD : va_D A [(h0, .inr (4, [.ref dr, .int 0, .int (-1), .int 0, .ref tp, .int 0, .int 0, .int 0, .int 0, .int 0, .int 0])), (dr, .inr (5, [.ref cy, .int 1, .int 0, .int 100, .int 7, .int 14, .int 3, .int 1, .int 8])), (cy, .inl (cI, 8, .inl (upd cyc0 0 2)))] := hD
  refine lv_aload_n hx hb dX4_read_44 rfl (lv_at hl 0 rfl) ?_
  refine cl_v (wc := [(h0, .inr (4, [.ref dr, .int 0, .int (-1), .int 0, .ref tp, .int 0, .int 0, .int 0, .int 0, .int 0, .int 0]))]) (wr := [(dr, .inr (5, [.ref cy, .int 1, .int 0, .int 100, .int 7, .int 14, .int 3, .int 1, .int 8])), (cy, .inl (cI, 8, .inl (upd cyc0 0 2)))]) (va_runV (As := []) (rest := []) ⟨hx, hb, hml, hown, hts⟩ (k_X4_adv l D cB cI cJ cZ H.size h0 dr tp) (cwV 0 hts gX4_read_X4_advance rfl rfl rfl (by decide +kernel) ⟨Nat.le_of_ble_eq_true rfl, Nat.le_of_ble_eq_true rfl⟩) (pre_V (hP.sub (ws' := [(h0, .inr (4, [.ref dr, .int 0, .int (-1), .int 0, .ref tp, .int 0, .int 0, .int 0, .int 0, .int 0, .int 0]))]) [0] rfl) hK (hD.sub (ws' := [(h0, .inr (4, [.ref dr, .int 0, .int (-1), .int 0, .ref tp, .int 0, .int 0, .int 0, .int 0, .int 0, .int 0]))]) [0] (by decide) rfl) 0 rfl rfl rfl) rfl rfl hl.1 rfl (lv_room (Nat.le_of_ble_eq_true rfl)) dX4_read_45 ⟨Nat.le_of_ble_eq_true rfl, Nat.le_of_ble_eq_true rfl⟩) hP hD hS hA [0] [1, 2] rfl rfl (by decide) (by decide) 0 0 rfl rfl (fun u_4 H locs hw_u_4 hP hD hS => ?_)
  have hP : va_P D vwCl [(dr, .inr (5, [.ref cy, .int 1, .int 0, .int 100, .int 7, .int 14, .int 3, .int 1, .int 8])), (cy, .inl (cI, 8, .inl (upd cyc0 0 2))), (h0, .inr (4, [.ref dr, .int 0, .int (-1), .int 0, .ref tp, .int 0, .int 0, .int 0, .int 0, .int 0, .int 0]))] H := hP
  have hD : va_D A [(dr, .inr (5, [.ref cy, .int 1, .int 0, .int 100, .int 7, .int 14, .int 3, .int 1, .int 8])), (cy, .inl (cI, 8, .inl (upd cyc0 0 2))), (h0, .inr (4, [.ref dr, .int 0, .int (-1), .int 0, .ref tp, .int 0, .int 0, .int 0, .int 0, .int 0, .int 0]))] := hD
  refine lv_iconst (v := 0) hx hb dX4_read_48 (by decide) ?_
  refine lv_istore_n (lv' := [(2, .int 0), (0, .ref h0), (1, .int 0)]) hx hb dX4_read_49 rfl hl (by decide) rfl (fun ls hl => ?_)
  refine lv_aload_n hx hb dX4_read_50 rfl (lv_at hl 1 rfl) ?_
  refine va_get (D := D) (ci := 4) (v := .int 0) (C := RX4) (T := TX4) (N := 11) hx hb hts w_1 hown hK hP 2 rfl rfl 6 (by decide) w_13 (fun _ h9 => h9) rfl dX4_read_51 ?_
  refine lv_if_eq (tgt := 90) hx hb dX4_read_54 (by decide) (fun _ => ?_) (fun h => absurd (by decide) h)
  refine lv_aload_n hx hb dX4_read_90 rfl (lv_at hl 1 rfl) ?_
  refine va_get (D := D) (ci := 4) (v := .int 0) (C := RX4) (T := TX4) (N := 11) hx hb hts w_1 hown hK hP 2 rfl rfl 1 (by decide) w_10 (fun _ h9 => h9) rfl dX4_read_91 ?_
  refine lv_if_ne (tgt := 101) hx hb dX4_read_94 (by decide) (fun h => absurd h (by decide)) (fun _ => ?_)
  refine lv_iload_n hx hb dX4_read_97 rfl (lv_at hl 0 rfl) ?_
  refine lv_goto (tgt := 102) hx hb dX4_read_98 (by decide) ?_
  have hP9 := hP.sub (ws' := [(h0, .inr (4, [.ref dr, .int 0, .int (-1), .int 0, .ref tp, .int 0, .int 0, .int 0, .int 0, .int 0, .int 0])), (dr, .inr (5, [.ref cy, .int 1, .int 0, .int 100, .int 7, .int 14, .int 3, .int 1, .int 8])), (cy, .inl (cI, 8, .inl (upd cyc0 0 2)))]) [2, 0, 1] rfl
  have hD9 := hD.sub (ws' := [(h0, .inr (4, [.ref dr, .int 0, .int (-1), .int 0, .ref tp, .int 0, .int 0, .int 0, .int 0, .int 0, .int 0])), (dr, .inr (5, [.ref cy, .int 1, .int 0, .int 100, .int 7, .int 14, .int 3, .int 1, .int 8])), (cy, .inl (cI, 8, .inl (upd cyc0 0 2)))]) [2, 0, 1] (by decide) rfl
  exact W.iret (v := 0) hx hb hr (fun t ht hW => ⟨⟨_, (), rfl, rfl, by rw [ht]; exact hP9, va_K.moved hW.alike hK, hD9⟩, hS.F ht⟩) hS.2.2 dX4_read_102

set_option maxHeartbeats 4000000 in
set_option maxRecDepth 100000 in
/-- takeOver() -/
theorem k_X5_take (l : Launch) (D : va_G) (cB cI cJ cZ : ClassId) (sz : Nat) (h0 h1 o0 o1 : Nat) (f g : Nat → Int32) : Met l yX5_takeOver wsX5_takeOver ({ frames := 1, cells := 0, slots := 0, locals := 60 } : Room) (cPre D (aTy cB cI cJ cZ) [(h0, .inr (5, [.ref h1, .int 1, .int 0, .int 100, .int 7, .int 14, .int 3, .int 1, .int 8])), (h1, .inl (cI, 8, .inl f)), (o0, .inr (5, [.ref o1, .int 1, .int 0, .int 100, .int 7, .int 14, .int 3, .int 1, .int 8])), (o1, .inl (cI, 8, .inl g))] sz [.ref h0, .ref o0]) (va_Qv (fun (u : Unit) => True) (cB_ D (aTy cB cI cJ cZ) (va_A [(h0, .inr (5, [.ref h1, .int 1, .int 0, .int 100, .int 7, .int 14, .int 3, .int 1, .int 8])), (h1, .inl (cI, 8, .inl f)), (o0, .inr (5, [.ref o1, .int 1, .int 0, .int 100, .int 7, .int 14, .int 3, .int 1, .int 8])), (o1, .inl (cI, 8, .inl g))] sz) (fun _ => [])) (va_A [(h0, .inr (5, [.ref h1, .int 1, .int 0, .int 100, .int 7, .int 14, .int 3, .int 1, .int 8])), (h1, .inl (cI, 8, .inl f)), (o0, .inr (5, [.ref o1, .int 1, .int 0, .int 100, .int 7, .int 14, .int 3, .int 1, .int 8])), (o1, .inl (cI, 8, .inl g))] sz)) 0 0 (va_A [(h0, .inr (5, [.ref h1, .int 1, .int 0, .int 100, .int 7, .int 14, .int 3, .int 1, .int 8])), (h1, .inl (cI, 8, .inl f)), (o0, .inr (5, [.ref o1, .int 1, .int 0, .int 100, .int 7, .int 14, .int 3, .int 1, .int 8])), (o1, .inl (cI, 8, .inl g))] sz) := by
  refine Met.ofW (cc := cX5_takeOver) (maxL := 2) (ret := none) (by decide) rfl ?_
  intro p e s m args below meth c s₁ B hml hv
  obtain ⟨rfl, hsz, hP, hK, hD0⟩ := hv
  have hx := B.exec
  have hb := B.bytes
  have hr := B.returns
  have hts := atoms_spec (ws := wsX5_takeOver) B.pre
  have hown : s.vm.findClass RX5 = some m.cls := findClass_of_methodNamed B.named
  have hlocks := B.notSynchronized
  subst hsz
  have hD := hD0.self (sz := s.heap.size)
  generalize hAe : va_A [(h0, .inr (5, [.ref h1, .int 1, .int 0, .int 100, .int 7, .int 14, .int 3, .int 1, .int 8])), (h1, .inl (cI, 8, .inl f)), (o0, .inr (5, [.ref o1, .int 1, .int 0, .int 100, .int 7, .int 14, .int 3, .int 1, .int 8])), (o1, .inl (cI, 8, .inl g))] s.heap.size = A at hD ⊢
  have hA : ∀ q : Nat, s.heap.size ≤ q → A q := fun q h => by rw [← hAe]; exact Or.inr h
  have hS : va_S A s.heap s.heap [] := va_S.rf
  have hP : va_P D vwCl [(h0, .inr (5, [.ref h1, .int 1, .int 0, .int 100, .int 7, .int 14, .int 3, .int 1, .int 8])), (h1, .inl (cI, 8, .inl f)), (o0, .inr (5, [.ref o1, .int 1, .int 0, .int 100, .int 7, .int 14, .int 3, .int 1, .int 8])), (o1, .inl (cI, 8, .inl g))] s.heap := hP
  have w_1 : ∀ w ∈ wsX50, w ∈ wsX5_takeOver := by decide +kernel
  have w_2 := hts (Cond.fieldLink RX5 11 "BlueCoats$Statutes" "cycle" "[I") (by decide +kernel)
  have w_3 := hts (Cond.methodLink RX5 43 arraycopyName) (by decide +kernel)
  have w_4 := hts (Cond.native arraycopyName) (by decide +kernel)
  have w_5 := hts (Cond.static arraycopyName) (by decide +kernel)
  have w_6 := hts (Cond.initialized "java/lang/System") (by decide +kernel)
  have w_7 := hts (Cond.fieldLink RX5 18 "BlueCoats$Statutes" "ways" "I") (by decide +kernel)
  have w_8 := hts (Cond.fieldLink RX5 22 "BlueCoats$Statutes" "next" "I") (by decide +kernel)
  have w_9 := hts (Cond.fieldLink RX5 25 "BlueCoats$Statutes" "vote" "I") (by decide +kernel)
  have w_10 := hts (Cond.fieldLink RX5 28 "BlueCoats$Statutes" "ageFrom" "I") (by decide +kernel)
  have w_11 := hts (Cond.fieldLink RX5 31 "BlueCoats$Statutes" "ageTo" "I") (by decide +kernel)
  have w_12 := hts (Cond.fieldLink RX5 34 "BlueCoats$Statutes" "wear" "I") (by decide +kernel)
  have w_13 := hts (Cond.fieldLink RX5 37 "BlueCoats$Statutes" "spare" "I") (by decide +kernel)
  have w_14 := hts (Cond.fieldLink RX5 40 "BlueCoats$Statutes" "places" "I") (by decide +kernel)
  have hl := lv_entry ([.ref h0, .ref o0]) (n := 2) (Nat.le_of_ble_eq_true rfl)
  rw [lg_entry_eq]
  generalize (lg_sl ([.ref h0, .ref o0]) ++ List.replicate (2 - (lg_sl ([.ref h0, .ref o0])).length) Slot.unset).toArray = ls at hl ⊢
  have hl : lv_has ls 2 [(0, .ref h0), (1, .ref o0)] := hl
  refine lv_aload_n hx hb dX5_takeOver_0 rfl (lv_at hl 1 rfl) ?_
  refine va_get (D := D) (ci := 5) (v := .ref o1) (C := RX5) (T := TX5) (N := 9) hx hb hts w_1 hown hK hP 2 rfl rfl 0 (by decide) w_2 (fun _ h9 => h9) rfl dX5_takeOver_1 ?_
  refine lv_iconst (v := 0) hx hb dX5_takeOver_4 (by decide) ?_
  refine lv_aload_n hx hb dX5_takeOver_5 rfl (lv_at hl 0 rfl) ?_
  refine va_get (D := D) (ci := 5) (v := .ref h1) (C := RX5) (T := TX5) (N := 9) hx hb hts w_1 hown hK hP 0 rfl rfl 0 (by decide) w_2 (fun _ h9 => h9) rfl dX5_takeOver_6 ?_
  refine lv_iconst (v := 0) hx hb dX5_takeOver_9 (by decide) ?_
  refine lv_bipush (v := 8) hx hb dX5_takeOver_10 (by decide) ?_
  refine va_copyi hx hb (by rw [hml]; exact hl.1.symm) hown w_3 w_4 w_5 w_6 hK hP hD hS 3 1 1 1 rfl rfl rfl rfl rfl (by decide) (by decide) (by decide) (by decide) (by decide) (fun _ _ => rfl) (Nat.le_of_ble_eq_true rfl) (by decide) dX5_takeOver_12 (fun H locs hP hD hS => ?_)
  have hP : va_P D vwCl [(h0, .inr (5, [.ref h1, .int 1, .int 0, .int 100, .int 7, .int 14, .int 3, .int 1, .int 8])), (h1, .inl (cI, 8, .inl (va_cpy g f 0 0 8))), (o0, .inr (5, [.ref o1, .int 1, .int 0, .int 100, .int 7, .int 14, .int 3, .int 1, .int 8])), (o1, .inl (cI, 8, .inl g))] H := hP
  have hD : va_D A [(h0, .inr (5, [.ref h1, .int 1, .int 0, .int 100, .int 7, .int 14, .int 3, .int 1, .int 8])), (h1, .inl (cI, 8, .inl (va_cpy g f 0 0 8))), (o0, .inr (5, [.ref o1, .int 1, .int 0, .int 100, .int 7, .int 14, .int 3, .int 1, .int 8])), (o1, .inl (cI, 8, .inl g))] := hD
  refine lv_aload_n hx hb dX5_takeOver_15 rfl (lv_at hl 0 rfl) ?_
  refine lv_aload_n hx hb dX5_takeOver_16 rfl (lv_at hl 1 rfl) ?_
  refine va_get (D := D) (ci := 5) (v := .int 1) (C := RX5) (T := TX5) (N := 9) hx hb hts w_1 hown hK hP 2 rfl rfl 1 (by decide) w_7 (fun _ h9 => h9) rfl dX5_takeOver_17 ?_
  refine va_put (D := D) (ci := 5) (v := .int 1) (ty := .int) (C := RX5) (T := TX5) (N := 9) hx hb hts w_1 tyX5 tyX5_ok nmX5 hown hK hP hD hS 0 rfl rfl 1 (by decide) w_7 (fun _ h9 => h9) rfl (by decide +kernel) rfl rfl (Nat.le_of_ble_eq_true rfl) dX5_takeOver_20 (fun H locs hP hD hS => ?_)
  have hP : va_P D vwCl [(h0, .inr (5, [.ref h1, .int 1, .int 0, .int 100, .int 7, .int 14, .int 3, .int 1, .int 8])), (h1, .inl (cI, 8, .inl (va_cpy g f 0 0 8))), (o0, .inr (5, [.ref o1, .int 1, .int 0, .int 100, .int 7, .int 14, .int 3, .int 1, .int 8])), (o1, .inl (cI, 8, .inl g))] H := hP
  have hD : va_D A [(h0, .inr (5, [.ref h1, .int 1, .int 0, .int 100, .int 7, .int 14, .int 3, .int 1, .int 8])), (h1, .inl (cI, 8, .inl (va_cpy g f 0 0 8))), (o0, .inr (5, [.ref o1, .int 1, .int 0, .int 100, .int 7, .int 14, .int 3, .int 1, .int 8])), (o1, .inl (cI, 8, .inl g))] := hD
  refine lv_aload_n hx hb dX5_takeOver_23 rfl (lv_at hl 0 rfl) ?_
  refine lv_iconst (v := 0) hx hb dX5_takeOver_24 (by decide) ?_
  refine va_put (D := D) (ci := 5) (v := .int 0) (ty := .int) (C := RX5) (T := TX5) (N := 9) hx hb hts w_1 tyX5 tyX5_ok nmX5 hown hK hP hD hS 0 rfl rfl 2 (by decide) w_8 (fun _ h9 => h9) rfl (by decide +kernel) rfl rfl (Nat.le_of_ble_eq_true rfl) dX5_takeOver_25 (fun H locs hP hD hS => ?_)
  have hP : va_P D vwCl [(h0, .inr (5, [.ref h1, .int 1, .int 0, .int 100, .int 7, .int 14, .int 3, .int 1, .int 8])), (h1, .inl (cI, 8, .inl (va_cpy g f 0 0 8))), (o0, .inr (5, [.ref o1, .int 1, .int 0, .int 100, .int 7, .int 14, .int 3, .int 1, .int 8])), (o1, .inl (cI, 8, .inl g))] H := hP
  have hD : va_D A [(h0, .inr (5, [.ref h1, .int 1, .int 0, .int 100, .int 7, .int 14, .int 3, .int 1, .int 8])), (h1, .inl (cI, 8, .inl (va_cpy g f 0 0 8))), (o0, .inr (5, [.ref o1, .int 1, .int 0, .int 100, .int 7, .int 14, .int 3, .int 1, .int 8])), (o1, .inl (cI, 8, .inl g))] := hD
  refine lv_aload_n hx hb dX5_takeOver_28 rfl (lv_at hl 0 rfl) ?_
  refine lv_aload_n hx hb dX5_takeOver_29 rfl (lv_at hl 1 rfl) ?_
  refine va_get (D := D) (ci := 5) (v := .int 100) (C := RX5) (T := TX5) (N := 9) hx hb hts w_1 hown hK hP 2 rfl rfl 3 (by decide) w_9 (fun _ h9 => h9) rfl dX5_takeOver_30 ?_
  refine va_put (D := D) (ci := 5) (v := .int 100) (ty := .int) (C := RX5) (T := TX5) (N := 9) hx hb hts w_1 tyX5 tyX5_ok nmX5 hown hK hP hD hS 0 rfl rfl 3 (by decide) w_9 (fun _ h9 => h9) rfl (by decide +kernel) rfl rfl (Nat.le_of_ble_eq_true rfl) dX5_takeOver_33 (fun H locs hP hD hS => ?_)
  have hP : va_P D vwCl [(h0, .inr (5, [.ref h1, .int 1, .int 0, .int 100, .int 7, .int 14, .int 3, .int 1, .int 8])), (h1, .inl (cI, 8, .inl (va_cpy g f 0 0 8))), (o0, .inr (5, [.ref o1, .int 1, .int 0, .int 100, .int 7, .int 14, .int 3, .int 1, .int 8])), (o1, .inl (cI, 8, .inl g))] H := hP
  have hD : va_D A [(h0, .inr (5, [.ref h1, .int 1, .int 0, .int 100, .int 7, .int 14, .int 3, .int 1, .int 8])), (h1, .inl (cI, 8, .inl (va_cpy g f 0 0 8))), (o0, .inr (5, [.ref o1, .int 1, .int 0, .int 100, .int 7, .int 14, .int 3, .int 1, .int 8])), (o1, .inl (cI, 8, .inl g))] := hD
  refine lv_aload_n hx hb dX5_takeOver_36 rfl (lv_at hl 0 rfl) ?_
  refine lv_aload_n hx hb dX5_takeOver_37 rfl (lv_at hl 1 rfl) ?_
  refine va_get (D := D) (ci := 5) (v := .int 7) (C := RX5) (T := TX5) (N := 9) hx hb hts w_1 hown hK hP 2 rfl rfl 4 (by decide) w_10 (fun _ h9 => h9) rfl dX5_takeOver_38 ?_
  refine va_put (D := D) (ci := 5) (v := .int 7) (ty := .int) (C := RX5) (T := TX5) (N := 9) hx hb hts w_1 tyX5 tyX5_ok nmX5 hown hK hP hD hS 0 rfl rfl 4 (by decide) w_10 (fun _ h9 => h9) rfl (by decide +kernel) rfl rfl (Nat.le_of_ble_eq_true rfl) dX5_takeOver_41 (fun H locs hP hD hS => ?_)
  have hP : va_P D vwCl [(h0, .inr (5, [.ref h1, .int 1, .int 0, .int 100, .int 7, .int 14, .int 3, .int 1, .int 8])), (h1, .inl (cI, 8, .inl (va_cpy g f 0 0 8))), (o0, .inr (5, [.ref o1, .int 1, .int 0, .int 100, .int 7, .int 14, .int 3, .int 1, .int 8])), (o1, .inl (cI, 8, .inl g))] H := hP
  have hD : va_D A [(h0, .inr (5, [.ref h1, .int 1, .int 0, .int 100, .int 7, .int 14, .int 3, .int 1, .int 8])), (h1, .inl (cI, 8, .inl (va_cpy g f 0 0 8))), (o0, .inr (5, [.ref o1, .int 1, .int 0, .int 100, .int 7, .int 14, .int 3, .int 1, .int 8])), (o1, .inl (cI, 8, .inl g))] := hD
  refine lv_aload_n hx hb dX5_takeOver_44 rfl (lv_at hl 0 rfl) ?_
  refine lv_aload_n hx hb dX5_takeOver_45 rfl (lv_at hl 1 rfl) ?_
  refine va_get (D := D) (ci := 5) (v := .int 14) (C := RX5) (T := TX5) (N := 9) hx hb hts w_1 hown hK hP 2 rfl rfl 5 (by decide) w_11 (fun _ h9 => h9) rfl dX5_takeOver_46 ?_
  refine va_put (D := D) (ci := 5) (v := .int 14) (ty := .int) (C := RX5) (T := TX5) (N := 9) hx hb hts w_1 tyX5 tyX5_ok nmX5 hown hK hP hD hS 0 rfl rfl 5 (by decide) w_11 (fun _ h9 => h9) rfl (by decide +kernel) rfl rfl (Nat.le_of_ble_eq_true rfl) dX5_takeOver_49 (fun H locs hP hD hS => ?_)
  have hP : va_P D vwCl [(h0, .inr (5, [.ref h1, .int 1, .int 0, .int 100, .int 7, .int 14, .int 3, .int 1, .int 8])), (h1, .inl (cI, 8, .inl (va_cpy g f 0 0 8))), (o0, .inr (5, [.ref o1, .int 1, .int 0, .int 100, .int 7, .int 14, .int 3, .int 1, .int 8])), (o1, .inl (cI, 8, .inl g))] H := hP
  have hD : va_D A [(h0, .inr (5, [.ref h1, .int 1, .int 0, .int 100, .int 7, .int 14, .int 3, .int 1, .int 8])), (h1, .inl (cI, 8, .inl (va_cpy g f 0 0 8))), (o0, .inr (5, [.ref o1, .int 1, .int 0, .int 100, .int 7, .int 14, .int 3, .int 1, .int 8])), (o1, .inl (cI, 8, .inl g))] := hD
  refine lv_aload_n hx hb dX5_takeOver_52 rfl (lv_at hl 0 rfl) ?_
  refine lv_aload_n hx hb dX5_takeOver_53 rfl (lv_at hl 1 rfl) ?_
  refine va_get (D := D) (ci := 5) (v := .int 3) (C := RX5) (T := TX5) (N := 9) hx hb hts w_1 hown hK hP 2 rfl rfl 6 (by decide) w_12 (fun _ h9 => h9) rfl dX5_takeOver_54 ?_
  refine va_put (D := D) (ci := 5) (v := .int 3) (ty := .int) (C := RX5) (T := TX5) (N := 9) hx hb hts w_1 tyX5 tyX5_ok nmX5 hown hK hP hD hS 0 rfl rfl 6 (by decide) w_12 (fun _ h9 => h9) rfl (by decide +kernel) rfl rfl (Nat.le_of_ble_eq_true rfl) dX5_takeOver_57 (fun H locs hP hD hS => ?_)
  have hP : va_P D vwCl [(h0, .inr (5, [.ref h1, .int 1, .int 0, .int 100, .int 7, .int 14, .int 3, .int 1, .int 8])), (h1, .inl (cI, 8, .inl (va_cpy g f 0 0 8))), (o0, .inr (5, [.ref o1, .int 1, .int 0, .int 100, .int 7, .int 14, .int 3, .int 1, .int 8])), (o1, .inl (cI, 8, .inl g))] H := hP
  have hD : va_D A [(h0, .inr (5, [.ref h1, .int 1, .int 0, .int 100, .int 7, .int 14, .int 3, .int 1, .int 8])), (h1, .inl (cI, 8, .inl (va_cpy g f 0 0 8))), (o0, .inr (5, [.ref o1, .int 1, .int 0, .int 100, .int 7, .int 14, .int 3, .int 1, .int 8])), (o1, .inl (cI, 8, .inl g))] := hD
  refine lv_aload_n hx hb dX5_takeOver_60 rfl (lv_at hl 0 rfl) ?_
  refine lv_aload_n hx hb dX5_takeOver_61 rfl (lv_at hl 1 rfl) ?_
  refine va_get (D := D) (ci := 5) (v := .int 1) (C := RX5) (T := TX5) (N := 9) hx hb hts w_1 hown hK hP 2 rfl rfl 7 (by decide) w_13 (fun _ h9 => h9) rfl dX5_takeOver_62 ?_
  refine va_put (D := D) (ci := 5) (v := .int 1) (ty := .int) (C := RX5) (T := TX5) (N := 9) hx hb hts w_1 tyX5 tyX5_ok nmX5 hown hK hP hD hS 0 rfl rfl 7 (by decide) w_13 (fun _ h9 => h9) rfl (by decide +kernel) rfl rfl (Nat.le_of_ble_eq_true rfl) dX5_takeOver_65 (fun H locs hP hD hS => ?_)
  have hP : va_P D vwCl [(h0, .inr (5, [.ref h1, .int 1, .int 0, .int 100, .int 7, .int 14, .int 3, .int 1, .int 8])), (h1, .inl (cI, 8, .inl (va_cpy g f 0 0 8))), (o0, .inr (5, [.ref o1, .int 1, .int 0, .int 100, .int 7, .int 14, .int 3, .int 1, .int 8])), (o1, .inl (cI, 8, .inl g))] H := hP
  have hD : va_D A [(h0, .inr (5, [.ref h1, .int 1, .int 0, .int 100, .int 7, .int 14, .int 3, .int 1, .int 8])), (h1, .inl (cI, 8, .inl (va_cpy g f 0 0 8))), (o0, .inr (5, [.ref o1, .int 1, .int 0, .int 100, .int 7, .int 14, .int 3, .int 1, .int 8])), (o1, .inl (cI, 8, .inl g))] := hD
  refine lv_aload_n hx hb dX5_takeOver_68 rfl (lv_at hl 0 rfl) ?_
  refine lv_aload_n hx hb dX5_takeOver_69 rfl (lv_at hl 1 rfl) ?_
  refine va_get (D := D) (ci := 5) (v := .int 8) (C := RX5) (T := TX5) (N := 9) hx hb hts w_1 hown hK hP 2 rfl rfl 8 (by decide) w_14 (fun _ h9 => h9) rfl dX5_takeOver_70 ?_
  refine va_put (D := D) (ci := 5) (v := .int 8) (ty := .int) (C := RX5) (T := TX5) (N := 9) hx hb hts w_1 tyX5 tyX5_ok nmX5 hown hK hP hD hS 0 rfl rfl 8 (by decide) w_14 (fun _ h9 => h9) rfl (by decide +kernel) rfl rfl (Nat.le_of_ble_eq_true rfl) dX5_takeOver_73 (fun H locs hP hD hS => ?_)
  have hP : va_P D vwCl [(h0, .inr (5, [.ref h1, .int 1, .int 0, .int 100, .int 7, .int 14, .int 3, .int 1, .int 8])), (h1, .inl (cI, 8, .inl (va_cpy g f 0 0 8))), (o0, .inr (5, [.ref o1, .int 1, .int 0, .int 100, .int 7, .int 14, .int 3, .int 1, .int 8])), (o1, .inl (cI, 8, .inl g))] H := hP
  have hD : va_D A [(h0, .inr (5, [.ref h1, .int 1, .int 0, .int 100, .int 7, .int 14, .int 3, .int 1, .int 8])), (h1, .inl (cI, 8, .inl (va_cpy g f 0 0 8))), (o0, .inr (5, [.ref o1, .int 1, .int 0, .int 100, .int 7, .int 14, .int 3, .int 1, .int 8])), (o1, .inl (cI, 8, .inl g))] := hD
  have hP9 := hP.sub (ws' := []) [] rfl
  have hD9 := hD.sub (ws' := []) [] (by decide) rfl
  exact W.vret hx hb hr (fun t ht hW => ⟨⟨(), rfl, trivial, by rw [ht]; exact hP9, va_K.moved hW.alike hK, hD9⟩, hS.F ht⟩) hS.2.2 dX5_takeOver_76

set_option maxHeartbeats 4000000 in
set_option maxRecDepth 100000 in
theorem m_X7_statutes (l : Launch) (D : va_G) (cB cI cJ cZ : ClassId) (sz : Nat) (x : Nat → Nat) (q : Int32) : Met l yX7_statutes wsX7_statutes ({ frames := 2, cells := 0, slots := 0, locals := 81 } : Room) (cPre D (aTy cB cI cJ cZ) (freshX cB cI cJ cZ x) sz [.ref (x 0), .int q]) (va_Qi (fun (r : Int32) (u : Unit) => r = sStat q) (cB_ D (aTy cB cI cJ cZ) (va_A (freshX cB cI cJ cZ x) sz) (fun _ => [])) (va_A (freshX cB cI cJ cZ x) sz)) 0 0 (va_A (freshX cB cI cJ cZ x) sz) := by
  refine Met.ofW (cc := cX7_statutes) (maxL := 3) (ret := (some .int)) (by decide) rfl ?_
  intro p e s m args below meth c s₁ B hml hv
  obtain ⟨rfl, hsz, hP, hK, hD0⟩ := hv
  have hx := B.exec
  have hb := B.bytes
  have hr := B.returns
  have hts := atoms_spec (ws := wsX7_statutes) B.pre
  have hown : s.vm.findClass RX7 = some m.cls := findClass_of_methodNamed B.named
  have hlocks := B.notSynchronized
  subst hsz
  have hD := hD0.self (sz := s.heap.size)
  generalize hAe : va_A (freshX cB cI cJ cZ x) s.heap.size = A at hD ⊢
  have hA : ∀ q : Nat, s.heap.size ≤ q → A q := fun q h => by rw [← hAe]; exact Or.inr h
  have hS : va_S A s.heap s.heap [] := va_S.rf
  have hP : va_P D vwCl [((x 0), .inr (7, [.ref (x 1), .ref (x 5), .ref (x 7), .ref (x 10), .ref (x 17), .ref (x 22), .ref (x 27), .int 0])), ((x 1), .inr (4, [.ref (x 2), .int 0, .int (-1), .int 0, .ref (x 4), .int 0, .int 0, .int 0, .int 0, .int 0, .int 0])), ((x 2), .inr (5, [.ref (x 3), .int 1, .int 0, .int 100, .int 7, .int 14, .int 3, .int 1, .int 8])), ((x 3), .inl (cI, 8, .inl cyc0)), ((x 4), .inl (cB, 300, .inl (fun _ => 0))), ((x 5), .inr (5, [.ref (x 6), .int 1, .int 0, .int 100, .int 7, .int 14, .int 3, .int 1, .int 8])), ((x 6), .inl (cI, 8, .inl cyc0)), ((x 7), .inr (3, [.ref (x 8), .ref (x 9), .int 0, .int 0])), ((x 8), .inl (cI, 8, .inl (fun _ => 0))), ((x 9), .inl (cI, 8, .inl (fun _ => 0))), ((x 10), .inr (1, [.ref (x 11), .ref (x 12), .ref (x 13), .ref (x 14), .ref (x 15), .ref (x 16), .int 0])), ((x 11), .inl (cI, 16, .inl (fun _ => 0))), ((x 12), .inl (cI, 16, .inl (fun _ => 0))), ((x 13), .inl (cI, 16, .inl (fun _ => 0))), ((x 14), .inl (cI, 16, .inl (fun _ => 0))), ((x 15), .inl (cI, 16, .inl (fun _ => 0))), ((x 16), .inl (cI, 16, .inl (fun _ => 0))), ((x 17), .inr (6, [.ref (x 18), .ref (x 19), .ref (x 20), .ref (x 21), .int 0])), ((x 18), .inl (cI, 40, .inl (fun _ => 0))), ((x 19), .inl (cI, 40, .inl (fun _ => 0))), ((x 20), .inl (cZ, 40, .inl (fun _ => 0))), ((x 21), .inl (cI, 40, .inl (fun _ => 0))), ((x 22), .inr (2, [.ref (x 23), .ref (x 24), .int 0, .ref (x 25), .ref (x 26), .int 0])), ((x 23), .inl (cI, 8, .inl (fun _ => 0))), ((x 24), .inl (cI, 8, .inl (fun _ => 0))), ((x 25), .inl (cI, 8, .inl (fun _ => 0))), ((x 26), .inl (cJ, 256, .inr (.inl (fun _ => 0)))), ((x 27), .inr (0, [.ref (x 28), .ref (x 29), .ref (x 30), .int 0, .int 0, .int 0, .ref (x 31), .ref (x 32), .ref (x 33)])), ((x 28), .inl (cI, 6, .inl (fun _ => 0))), ((x 29), .inl (cI, 6, .inl (fun _ => 0))), ((x 30), .inl (cI, 8, .inl (fun _ => 0))), ((x 31), .inl (cI, 8, .inl (fun _ => 0))), ((x 32), .inl (cI, 8, .inl (fun _ => 0))), ((x 33), .inl (cI, 64, .inl (fun _ => 0)))] s.heap := hP
  have hD : va_D A [((x 0), .inr (7, [.ref (x 1), .ref (x 5), .ref (x 7), .ref (x 10), .ref (x 17), .ref (x 22), .ref (x 27), .int 0])), ((x 1), .inr (4, [.ref (x 2), .int 0, .int (-1), .int 0, .ref (x 4), .int 0, .int 0, .int 0, .int 0, .int 0, .int 0])), ((x 2), .inr (5, [.ref (x 3), .int 1, .int 0, .int 100, .int 7, .int 14, .int 3, .int 1, .int 8])), ((x 3), .inl (cI, 8, .inl cyc0)), ((x 4), .inl (cB, 300, .inl (fun _ => 0))), ((x 5), .inr (5, [.ref (x 6), .int 1, .int 0, .int 100, .int 7, .int 14, .int 3, .int 1, .int 8])), ((x 6), .inl (cI, 8, .inl cyc0)), ((x 7), .inr (3, [.ref (x 8), .ref (x 9), .int 0, .int 0])), ((x 8), .inl (cI, 8, .inl (fun _ => 0))), ((x 9), .inl (cI, 8, .inl (fun _ => 0))), ((x 10), .inr (1, [.ref (x 11), .ref (x 12), .ref (x 13), .ref (x 14), .ref (x 15), .ref (x 16), .int 0])), ((x 11), .inl (cI, 16, .inl (fun _ => 0))), ((x 12), .inl (cI, 16, .inl (fun _ => 0))), ((x 13), .inl (cI, 16, .inl (fun _ => 0))), ((x 14), .inl (cI, 16, .inl (fun _ => 0))), ((x 15), .inl (cI, 16, .inl (fun _ => 0))), ((x 16), .inl (cI, 16, .inl (fun _ => 0))), ((x 17), .inr (6, [.ref (x 18), .ref (x 19), .ref (x 20), .ref (x 21), .int 0])), ((x 18), .inl (cI, 40, .inl (fun _ => 0))), ((x 19), .inl (cI, 40, .inl (fun _ => 0))), ((x 20), .inl (cZ, 40, .inl (fun _ => 0))), ((x 21), .inl (cI, 40, .inl (fun _ => 0))), ((x 22), .inr (2, [.ref (x 23), .ref (x 24), .int 0, .ref (x 25), .ref (x 26), .int 0])), ((x 23), .inl (cI, 8, .inl (fun _ => 0))), ((x 24), .inl (cI, 8, .inl (fun _ => 0))), ((x 25), .inl (cI, 8, .inl (fun _ => 0))), ((x 26), .inl (cJ, 256, .inr (.inl (fun _ => 0)))), ((x 27), .inr (0, [.ref (x 28), .ref (x 29), .ref (x 30), .int 0, .int 0, .int 0, .ref (x 31), .ref (x 32), .ref (x 33)])), ((x 28), .inl (cI, 6, .inl (fun _ => 0))), ((x 29), .inl (cI, 6, .inl (fun _ => 0))), ((x 30), .inl (cI, 8, .inl (fun _ => 0))), ((x 31), .inl (cI, 8, .inl (fun _ => 0))), ((x 32), .inl (cI, 8, .inl (fun _ => 0))), ((x 33), .inl (cI, 64, .inl (fun _ => 0)))] := hD
  have w_1 : ∀ w ∈ wsX70, w ∈ wsX7_statutes := by decide +kernel
  have w_2 := hts (Cond.fieldLink RX7 10 "BlueCoats" "reader" "LBlueCoats$Reader;") (by decide +kernel)
  have w_3 : ∀ w ∈ wsX40, w ∈ wsX7_statutes := by decide +kernel
  have w_4 := hts (Cond.fieldLink RX7 62 "BlueCoats$Reader" "taped" "I") (by decide +kernel)
  have w_5 := hts (Cond.fieldLink RX7 19 "BlueCoats" "law" "LBlueCoats$Statutes;") (by decide +kernel)
  have w_6 := hts (Cond.fieldLink RX7 73 "BlueCoats$Reader" "draft" "LBlueCoats$Statutes;") (by decide +kernel)
  have hl := lv_entry ([.ref (x 0), .int q]) (n := 3) (Nat.le_of_ble_eq_true rfl)
  rw [lg_entry_eq]
  generalize (lg_sl ([.ref (x 0), .int q]) ++ List.replicate (3 - (lg_sl ([.ref (x 0), .int q])).length) Slot.unset).toArray = ls at hl ⊢
  have hl : lv_has ls 3 [(0, .ref (x 0)), (1, .int q)] := hl
  refine lv_iload_n hx hb dX7_statutes_0 rfl (lv_at hl 1 rfl) ?_
  refine lv_if_lt (tgt := 15) hx hb dX7_statutes_1 (by decide) (fun c_1 => ?_) (fun c_1 => ?_)
  ·
    refine lv_bipush (v := (-2)) hx hb dX7_statutes_15 (by decide) ?_
    have hP9 := hP.sub (ws' := []) [] rfl
    have hD9 := hD.sub (ws' := []) [] (by decide) rfl
    exact W.iret (v := (-2)) hx hb hr (fun t ht hW => ⟨⟨_, (), rfl, (sStat_n (i_nz1 c_1)), by rw [ht]; exact hP9, va_K.moved hW.alike hK, hD9⟩, hS.F ht⟩) hS.2.2 dX7_statutes_17
  ·
    refine lv_iload_n hx hb dX7_statutes_4 rfl (lv_at hl 1 rfl) ?_
    refine lv_aload_n hx hb dX7_statutes_5 rfl (lv_at hl 0 rfl) ?_
    refine va_get (D := D) (ci := 7) (v := .ref (x 1)) (C := RX7) (T := TX7) (N := 8) hx hb hts w_1 hown hK hP 0 rfl rfl 0 (by decide) w_2 (fun _ h9 => h9) rfl dX7_statutes_6 ?_
    refine va_get (D := D) (ci := 4) (v := .int 0) (C := RX4) (T := TX4) (N := 11) hx hb hts w_3 hown hK hP 1 rfl rfl 3 (by decide) w_4 (fun _ h9 => h9) rfl dX7_statutes_9 ?_
    refine lv_icmp_le (tgt := 18) hx hb dX7_statutes_12 (by decide) (fun c_12 => ?_) (fun c_12 => ?_)
    ·
      have h0q : q = 0 := i_zero' c_1 c_12
      subst h0q
      refine lv_aload_n hx hb dX7_statutes_18 rfl (lv_at hl 0 rfl) ?_
      refine va_get (D := D) (ci := 7) (v := .ref (x 1)) (C := RX7) (T := TX7) (N := 8) hx hb hts w_1 hown hK hP 0 rfl rfl 0 (by decide) w_2 (fun _ h9 => h9) rfl dX7_statutes_19 ?_
      refine lv_iload_n hx hb dX7_statutes_22 rfl (lv_at hl 1 rfl) ?_
      refine cl_i (wc := [((x 1), .inr (4, [.ref (x 2), .int 0, .int (-1), .int 0, .ref (x 4), .int 0, .int 0, .int 0, .int 0, .int 0, .int 0])), ((x 2), .inr (5, [.ref (x 3), .int 1, .int 0, .int 100, .int 7, .int 14, .int 3, .int 1, .int 8])), ((x 3), .inl (cI, 8, .inl cyc0))]) (wr := [((x 0), .inr (7, [.ref (x 1), .ref (x 5), .ref (x 7), .ref (x 10), .ref (x 17), .ref (x 22), .ref (x 27), .int 0])), ((x 4), .inl (cB, 300, .inl (fun _ => 0))), ((x 5), .inr (5, [.ref (x 6), .int 1, .int 0, .int 100, .int 7, .int 14, .int 3, .int 1, .int 8])), ((x 6), .inl (cI, 8, .inl cyc0)), ((x 7), .inr (3, [.ref (x 8), .ref (x 9), .int 0, .int 0])), ((x 8), .inl (cI, 8, .inl (fun _ => 0))), ((x 9), .inl (cI, 8, .inl (fun _ => 0))), ((x 10), .inr (1, [.ref (x 11), .ref (x 12), .ref (x 13), .ref (x 14), .ref (x 15), .ref (x 16), .int 0])), ((x 11), .inl (cI, 16, .inl (fun _ => 0))), ((x 12), .inl (cI, 16, .inl (fun _ => 0))), ((x 13), .inl (cI, 16, .inl (fun _ => 0))), ((x 14), .inl (cI, 16, .inl (fun _ => 0))), ((x 15), .inl (cI, 16, .inl (fun _ => 0))), ((x 16), .inl (cI, 16, .inl (fun _ => 0))), ((x 17), .inr (6, [.ref (x 18), .ref (x 19), .ref (x 20), .ref (x 21), .int 0])), ((x 18), .inl (cI, 40, .inl (fun _ => 0))), ((x 19), .inl (cI, 40, .inl (fun _ => 0))), ((x 20), .inl (cZ, 40, .inl (fun _ => 0))), ((x 21), .inl (cI, 40, .inl (fun _ => 0))), ((x 22), .inr (2, [.ref (x 23), .ref (x 24), .int 0, .ref (x 25), .ref (x 26), .int 0])), ((x 23), .inl (cI, 8, .inl (fun _ => 0))), ((x 24), .inl (cI, 8, .inl (fun _ => 0))), ((x 25), .inl (cI, 8, .inl (fun _ => 0))), ((x 26), .inl (cJ, 256, .inr (.inl (fun _ => 0)))), ((x 27), .inr (0, [.ref (x 28), .ref (x 29), .ref (x 30), .int 0, .int 0, .int 0, .ref (x 31), .ref (x 32), .ref (x 33)])), ((x 28), .inl (cI, 6, .inl (fun _ => 0))), ((x 29), .inl (cI, 6, .inl (fun _ => 0))), ((x 30), .inl (cI, 8, .inl (fun _ => 0))), ((x 31), .inl (cI, 8, .inl (fun _ => 0))), ((x 32), .inl (cI, 8, .inl (fun _ => 0))), ((x 33), .inl (cI, 64, .inl (fun _ => 0)))]) (va_runV (As := [.int 0]) (rest := []) ⟨hx, hb, hml, hown, hts⟩ (k_X4_read l D cB cI cJ cZ s.heap.size (x 1) (x 2) (x 4) (x 3)) (cwV 1 hts gX7_statutes_X4_read rfl rfl rfl (by decide +kernel) ⟨Nat.le_of_ble_eq_true rfl, Nat.le_of_ble_eq_true rfl⟩) (pre_V (hP.sub (ws' := [((x 1), .inr (4, [.ref (x 2), .int 0, .int (-1), .int 0, .ref (x 4), .int 0, .int 0, .int 0, .int 0, .int 0, .int 0])), ((x 2), .inr (5, [.ref (x 3), .int 1, .int 0, .int 100, .int 7, .int 14, .int 3, .int 1, .int 8])), ((x 3), .inl (cI, 8, .inl cyc0))]) [1, 2, 3] rfl) hK (hD.sub (ws' := [((x 1), .inr (4, [.ref (x 2), .int 0, .int (-1), .int 0, .ref (x 4), .int 0, .int 0, .int 0, .int 0, .int 0, .int 0])), ((x 2), .inr (5, [.ref (x 3), .int 1, .int 0, .int 100, .int 7, .int 14, .int 3, .int 1, .int 8])), ((x 3), .inl (cI, 8, .inl cyc0))]) [1, 2, 3] (by decide) rfl) 0 rfl rfl rfl) rfl rfl hl.1 rfl (lv_room (Nat.le_of_ble_eq_true rfl)) dX7_statutes_23 ⟨Nat.le_of_ble_eq_true rfl, Nat.le_of_ble_eq_true rfl⟩) hP hD hS hA [1, 2, 3] [0, 4, 5, 6, 7, 8, 9, 10, 11, 12, 13, 14, 15, 16, 17, 18, 19, 20, 21, 22, 23, 24, 25, 26, 27, 28, 29, 30, 31, 32, 33] rfl rfl (by decide) (by decide) 0 0 rfl rfl (fun r_1 u_2 H locs hw_u_2 hP hD hS => ?_)
      have hP : va_P D vwCl [((x 0), .inr (7, [.ref (x 1), .ref (x 5), .ref (x 7), .ref (x 10), .ref (x 17), .ref (x 22), .ref (x 27), .int 0])), ((x 4), .inl (cB, 300, .inl (fun _ => 0))), ((x 5), .inr (5, [.ref (x 6), .int 1, .int 0, .int 100, .int 7, .int 14, .int 3, .int 1, .int 8])), ((x 6), .inl (cI, 8, .inl cyc0)), ((x 7), .inr (3, [.ref (x 8), .ref (x 9), .int 0, .int 0])), ((x 8), .inl (cI, 8, .inl (fun _ => 0))), ((x 9), .inl (cI, 8, .inl (fun _ => 0))), ((x 10), .inr (1, [.ref (x 11), .ref (x 12), .ref (x 13), .ref (x 14), .ref (x 15), .ref (x 16), .int 0])), ((x 11), .inl (cI, 16, .inl (fun _ => 0))), ((x 12), .inl (cI, 16, .inl (fun _ => 0))), ((x 13), .inl (cI, 16, .inl (fun _ => 0))), ((x 14), .inl (cI, 16, .inl (fun _ => 0))), ((x 15), .inl (cI, 16, .inl (fun _ => 0))), ((x 16), .inl (cI, 16, .inl (fun _ => 0))), ((x 17), .inr (6, [.ref (x 18), .ref (x 19), .ref (x 20), .ref (x 21), .int 0])), ((x 18), .inl (cI, 40, .inl (fun _ => 0))), ((x 19), .inl (cI, 40, .inl (fun _ => 0))), ((x 20), .inl (cZ, 40, .inl (fun _ => 0))), ((x 21), .inl (cI, 40, .inl (fun _ => 0))), ((x 22), .inr (2, [.ref (x 23), .ref (x 24), .int 0, .ref (x 25), .ref (x 26), .int 0])), ((x 23), .inl (cI, 8, .inl (fun _ => 0))), ((x 24), .inl (cI, 8, .inl (fun _ => 0))), ((x 25), .inl (cI, 8, .inl (fun _ => 0))), ((x 26), .inl (cJ, 256, .inr (.inl (fun _ => 0)))), ((x 27), .inr (0, [.ref (x 28), .ref (x 29), .ref (x 30), .int 0, .int 0, .int 0, .ref (x 31), .ref (x 32), .ref (x 33)])), ((x 28), .inl (cI, 6, .inl (fun _ => 0))), ((x 29), .inl (cI, 6, .inl (fun _ => 0))), ((x 30), .inl (cI, 8, .inl (fun _ => 0))), ((x 31), .inl (cI, 8, .inl (fun _ => 0))), ((x 32), .inl (cI, 8, .inl (fun _ => 0))), ((x 33), .inl (cI, 64, .inl (fun _ => 0))), ((x 1), .inr (4, [.ref (x 2), .int 0, .int (-1), .int 0, .ref (x 4), .int 0, .int 0, .int 0, .int 0, .int 0, .int 0])), ((x 2), .inr (5, [.ref (x 3), .int 1, .int 0, .int 100, .int 7, .int 14, .int 3, .int 1, .int 8])), ((x 3), .inl (cI, 8, .inl (upd cyc0 0 2)))] H := hP
      have hD : va_D A [((x 0), .inr (7, [.ref (x 1), .ref (x 5), .ref (x 7), .ref (x 10), .ref (x 17), .ref (x 22), .ref (x 27), .int 0])), ((x 4), .inl (cB, 300, .inl (fun _ => 0))), ((x 5), .inr (5, [.ref (x 6), .int 1, .int 0, .int 100, .int 7, .int 14, .int 3, .int 1, .int 8])), ((x 6), .inl (cI, 8, .inl cyc0)), ((x 7), .inr (3, [.ref (x 8), .ref (x 9), .int 0, .int 0])), ((x 8), .inl (cI, 8, .inl (fun _ => 0))), ((x 9), .inl (cI, 8, .inl (fun _ => 0))), ((x 10), .inr (1, [.ref (x 11), .ref (x 12), .ref (x 13), .ref (x 14), .ref (x 15), .ref (x 16), .int 0])), ((x 11), .inl (cI, 16, .inl (fun _ => 0))), ((x 12), .inl (cI, 16, .inl (fun _ => 0))), ((x 13), .inl (cI, 16, .inl (fun _ => 0))), ((x 14), .inl (cI, 16, .inl (fun _ => 0))), ((x 15), .inl (cI, 16, .inl (fun _ => 0))), ((x 16), .inl (cI, 16, .inl (fun _ => 0))), ((x 17), .inr (6, [.ref (x 18), .ref (x 19), .ref (x 20), .ref (x 21), .int 0])), ((x 18), .inl (cI, 40, .inl (fun _ => 0))), ((x 19), .inl (cI, 40, .inl (fun _ => 0))), ((x 20), .inl (cZ, 40, .inl (fun _ => 0))), ((x 21), .inl (cI, 40, .inl (fun _ => 0))), ((x 22), .inr (2, [.ref (x 23), .ref (x 24), .int 0, .ref (x 25), .ref (x 26), .int 0])), ((x 23), .inl (cI, 8, .inl (fun _ => 0))), ((x 24), .inl (cI, 8, .inl (fun _ => 0))), ((x 25), .inl (cI, 8, .inl (fun _ => 0))), ((x 26), .inl (cJ, 256, .inr (.inl (fun _ => 0)))), ((x 27), .inr (0, [.ref (x 28), .ref (x 29), .ref (x 30), .int 0, .int 0, .int 0, .ref (x 31), .ref (x 32), .ref (x 33)])), ((x 28), .inl (cI, 6, .inl (fun _ => 0))), ((x 29), .inl (cI, 6, .inl (fun _ => 0))), ((x 30), .inl (cI, 8, .inl (fun _ => 0))), ((x 31), .inl (cI, 8, .inl (fun _ => 0))), ((x 32), .inl (cI, 8, .inl (fun _ => 0))), ((x 33), .inl (cI, 64, .inl (fun _ => 0))), ((x 1), .inr (4, [.ref (x 2), .int 0, .int (-1), .int 0, .ref (x 4), .int 0, .int 0, .int 0, .int 0, .int 0, .int 0])), ((x 2), .inr (5, [.ref (x 3), .int 1, .int 0, .int 100, .int 7, .int 14, .int 3, .int 1, .int 8])), ((x 3), .inl (cI, 8, .inl (upd cyc0 0 2)))] := hD
      obtain ⟨rfl⟩ : r_1 = 0 := hw_u_2
      refine lv_istore_n (lv' := [(2, .int 0), (0, .ref (x 0)), (1, .int 0)]) hx hb dX7_statutes_26 rfl hl (by decide) rfl (fun ls hl => ?_)
      refine lv_iload_n hx hb dX7_statutes_27 rfl (lv_at hl 0 rfl) ?_
      refine lv_iconst (v := (-1)) hx hb dX7_statutes_28 (by decide) ?_
      refine lv_icmp_eq (tgt := 46) hx hb dX7_statutes_29 (by decide) (fun h => absurd h (by decide)) (fun _ => ?_)
      refine lv_aload_n hx hb dX7_statutes_32 rfl (lv_at hl 1 rfl) ?_
      refine va_get (D := D) (ci := 7) (v := .ref (x 5)) (C := RX7) (T := TX7) (N := 8) hx hb hts w_1 hown hK hP 0 rfl rfl 1 (by decide) w_5 (fun _ h9 => h9) rfl dX7_statutes_33 ?_
      refine lv_aload_n hx hb dX7_statutes_36 rfl (lv_at hl 1 rfl) ?_
      refine va_get (D := D) (ci := 7) (v := .ref (x 1)) (C := RX7) (T := TX7) (N := 8) hx hb hts w_1 hown hK hP 0 rfl rfl 0 (by decide) w_2 (fun _ h9 => h9) rfl dX7_statutes_37 ?_
      refine va_get (D := D) (ci := 4) (v := .ref (x 2)) (C := RX4) (T := TX4) (N := 11) hx hb hts w_3 hown hK hP 31 rfl rfl 0 (by decide) w_6 (fun _ h9 => h9) rfl dX7_statutes_40 ?_
      refine cl_v (wc := [((x 5), .inr (5, [.ref (x 6), .int 1, .int 0, .int 100, .int 7, .int 14, .int 3, .int 1, .int 8])), ((x 6), .inl (cI, 8, .inl cyc0)), ((x 2), .inr (5, [.ref (x 3), .int 1, .int 0, .int 100, .int 7, .int 14, .int 3, .int 1, .int 8])), ((x 3), .inl (cI, 8, .inl (upd cyc0 0 2)))]) (wr := []) (va_runV (As := [.ref (x 2)]) (rest := []) ⟨hx, hb, hml, hown, hts⟩ (k_X5_take l D cB cI cJ cZ H.size (x 5) (x 6) (x 2) (x 3) cyc0 (upd cyc0 0 2)) (cwV 1 hts gX7_statutes_X5_takeOver rfl rfl rfl (by decide +kernel) ⟨Nat.le_of_ble_eq_true rfl, Nat.le_of_ble_eq_true rfl⟩) (pre_V (hP.sub (ws' := [((x 5), .inr (5, [.ref (x 6), .int 1, .int 0, .int 100, .int 7, .int 14, .int 3, .int 1, .int 8])), ((x 6), .inl (cI, 8, .inl cyc0)), ((x 2), .inr (5, [.ref (x 3), .int 1, .int 0, .int 100, .int 7, .int 14, .int 3, .int 1, .int 8])), ((x 3), .inl (cI, 8, .inl (upd cyc0 0 2)))]) [2, 3, 32, 33] rfl) hK (hD.sub (ws' := [((x 5), .inr (5, [.ref (x 6), .int 1, .int 0, .int 100, .int 7, .int 14, .int 3, .int 1, .int 8])), ((x 6), .inl (cI, 8, .inl cyc0)), ((x 2), .inr (5, [.ref (x 3), .int 1, .int 0, .int 100, .int 7, .int 14, .int 3, .int 1, .int 8])), ((x 3), .inl (cI, 8, .inl (upd cyc0 0 2)))]) [2, 3, 32, 33] (by decide) rfl) 0 rfl rfl rfl) rfl rfl hl.1 rfl (lv_room (Nat.le_of_ble_eq_true rfl)) dX7_statutes_43 ⟨Nat.le_of_ble_eq_true rfl, Nat.le_of_ble_eq_true rfl⟩) hP hD hS hA [2, 3, 32, 33] [] rfl rfl (by decide) (by decide) 0 0 rfl rfl (fun u_4 H locs hw_u_4 hP hD hS => ?_)
      have hP : va_P D vwCl [] H := hP
      have hD : va_D A [] := hD
      refine lv_iload_n hx hb dX7_statutes_46 rfl (lv_at hl 0 rfl) ?_
      have hP9 := hP.sub (ws' := []) [] rfl
      have hD9 := hD.sub (ws' := []) [] (by decide) rfl
      exact W.iret (v := 0) hx hb hr (fun t ht hW => ⟨⟨_, (), rfl, (by decide), by rw [ht]; exact hP9, va_K.moved hW.alike hK, hD9⟩, hS.F ht⟩) hS.2.2 dX7_statutes_47
    ·
      refine lv_bipush (v := (-2)) hx hb dX7_statutes_15 (by decide) ?_
      have hP9 := hP.sub (ws' := []) [] rfl
      have hD9 := hD.sub (ws' := []) [] (by decide) rfl
      exact W.iret (v := (-2)) hx hb hr (fun t ht hW => ⟨⟨_, (), rfl, (sStat_n (i_nz2 (Int32.not_le.mp c_12))), by rw [ht]; exact hP9, va_K.moved hW.alike hK, hD9⟩, hS.F ht⟩) hS.2.2 dX7_statutes_17

