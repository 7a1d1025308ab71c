set_option maxHeartbeats 4000000 in
set_option maxRecDepth 100000 in
theorem g_X3_add (l : Launch) (D : va_G) (cB cI cJ cZ : ClassId) (sz : Nat) (h0 p0 p1 a : Nat) (b3 : Int32) (f0 f1 : Nat → Int32) (ha : a ≤ 8) : Met l yX3_add wsX3_add ({ frames := 0, cells := 0, slots := 0, locals := 0 } : Room) (cPre D (aTy cB cI cJ cZ) [(h0, .inr (3, [.ref p0, .ref p1, .int (nI a), .int b3])), (p0, .inl (cI, 8, .inl f0)), (p1, .inl (cI, 8, .inl f1))] sz [.ref h0]) (va_Qi (fun (r : Int32) (u : Nat × (Nat → Int32) × (Nat → Int32)) => (a = 8 ∧ r = -1 ∧ u.1 = a ∧ u.2.1 = f0 ∧ u.2.2 = f1) ∨ (a < 8 ∧ r = nI a ∧ u.1 = a + 1 ∧ u.2.1 = upd f0 a 0 ∧ u.2.2 = upd f1 a (-1))) (cB_ D (aTy cB cI cJ cZ) (va_A [(h0, .inr (3, [.ref p0, .ref p1, .int (nI a), .int b3])), (p0, .inl (cI, 8, .inl f0)), (p1, .inl (cI, 8, .inl f1))] sz) (fun u => [(h0, .inr (3, [.ref p0, .ref p1, .int (nI (u.1)), .int b3])), (p0, .inl (cI, 8, .inl u.2.1)), (p1, .inl (cI, 8, .inl u.2.2))])) (va_A [(h0, .inr (3, [.ref p0, .ref p1, .int (nI a), .int b3])), (p0, .inl (cI, 8, .inl f0)), (p1, .inl (cI, 8, .inl f1))] sz)) 0 0 (va_A [(h0, .inr (3, [.ref p0, .ref p1, .int (nI a), .int b3])), (p0, .inl (cI, 8, .inl f0)), (p1, .inl (cI, 8, .inl f1))] sz) := by
  refine Met.ofW (cc := cX3_add) (maxL := 1) (ret := (some .int)) (by decide) rfl ?_
  intro p e s m args below meth c s₁ B hml hv
  obtain ⟨rfl, hsz, hP, hK, hD0⟩ := hv
  have hx := B.exec
  have hb := B.bytes
  have hr := B.returns
  have hts := atoms_spec (ws := wsX3_add) B.pre
  have hown : s.vm.findClass RX3 = some m.cls := findClass_of_methodNamed B.named
  have hlocks := B.notSynchronized
  subst hsz
  have hD := hD0.self (sz := s.heap.size)
  generalize hAe : va_A [(h0, .inr (3, [.ref p0, .ref p1, .int (nI a), .int b3])), (p0, .inl (cI, 8, .inl f0)), (p1, .inl (cI, 8, .inl f1))] s.heap.size = A at hD ⊢
  have hA : ∀ q : Nat, s.heap.size ≤ q → A q := fun q h => by rw [← hAe]; exact Or.inr h
  have hS : va_S A s.heap s.heap [] := va_S.rf
  have hP : va_P D vwCl [(h0, .inr (3, [.ref p0, .ref p1, .int (nI a), .int b3])), (p0, .inl (cI, 8, .inl f0)), (p1, .inl (cI, 8, .inl f1))] s.heap := hP
  have w_1 : ∀ w ∈ wsX30, w ∈ wsX3_add := by decide +kernel
  have w_2 := hts (Cond.fieldLink RX3 18 "BlueCoats$Givers" "number" "I") (by decide +kernel)
  have w_3 := hts (Cond.fieldLink RX3 11 "BlueCoats$Givers" "gave" "[I") (by decide +kernel)
  have w_4 := hts (Cond.fieldLink RX3 15 "BlueCoats$Givers" "supported" "[I") (by decide +kernel)
  have hl := lv_entry ([.ref h0]) (n := 1) (Nat.le_of_ble_eq_true rfl)
  rw [lg_entry_eq]
  generalize (lg_sl ([.ref h0]) ++ List.replicate (1 - (lg_sl ([.ref h0])).length) Slot.unset).toArray = ls at hl ⊢
  have hl : lv_has ls 1 [(0, .ref h0)] := hl
  refine lv_aload_n hx hb dX3_add_0 rfl (lv_at hl 0 rfl) ?_
  refine va_get (D := D) (ci := 3) (v := .int (nI a)) (C := RX3) (T := TX3) (N := 4) hx hb hts w_1 hown hK hP 0 rfl rfl 2 (by decide) w_2 (fun _ h9 => h9) rfl dX3_add_1 ?_
  refine lv_bipush (v := 8) hx hb dX3_add_4 (by decide) ?_
  refine lv_icmp_lt (tgt := 11) hx hb dX3_add_6 (by decide) (fun c_6 => ?_) (fun c_6 => ?_)
  ·
    have h6 : a < 8 := nI_ltc 8 (by omega) (by decide) c_6
    refine lv_aload_n hx hb dX3_add_11 rfl (lv_at hl 0 rfl) ?_
    refine va_get (D := D) (ci := 3) (v := .ref p0) (C := RX3) (T := TX3) (N := 4) hx hb hts w_1 hown hK hP 0 rfl rfl 0 (by decide) w_3 (fun _ h9 => h9) rfl dX3_add_12 ?_
    refine lv_aload_n hx hb dX3_add_15 rfl (lv_at hl 0 rfl) ?_
    refine va_get (D := D) (ci := 3) (v := .int (nI a)) (C := RX3) (T := TX3) (N := 4) hx hb hts w_1 hown hK hP 0 rfl rfl 2 (by decide) w_2 (fun _ h9 => h9) rfl dX3_add_16 ?_
    refine lv_iconst (v := 0) hx hb dX3_add_19 (by decide) ?_
    refine sv_iast hx hb hK hP hD hS 1 1 rfl rfl (vp_in_nI (by omega) (by omega)) dX3_add_20 (fun g_1 H locs eg_1 hP hD hS => ?_)
    have eg_1 : g_1 = upd f0 a 0 := by rw [eg_1, nI_clamp (by omega)]
    subst eg_1
    have hP : va_P D vwCl [(h0, .inr (3, [.ref p0, .ref p1, .int (nI a), .int b3])), (p0, .inl (cI, 8, .inl (upd f0 a 0))), (p1, .inl (cI, 8, .inl f1))] H := hP
    have hD : va_D A [(h0, .inr (3, [.ref p0, .ref p1, .int (nI a), .int b3])), (p0, .inl (cI, 8, .inl (upd f0 a 0))), (p1, .inl (cI, 8, .inl f1))] := hD
    refine lv_aload_n hx hb dX3_add_21 rfl (lv_at hl 0 rfl) ?_
    refine va_get (D := D) (ci := 3) (v := .ref p1) (C := RX3) (T := TX3) (N := 4) hx hb hts w_1 hown hK hP 0 rfl rfl 1 (by decide) w_4 (fun _ h9 => h9) rfl dX3_add_22 ?_
    refine lv_aload_n hx hb dX3_add_25 rfl (lv_at hl 0 rfl) ?_
    refine va_get (D := D) (ci := 3) (v := .int (nI a)) (C := RX3) (T := TX3) (N := 4) hx hb hts w_1 hown hK hP 0 rfl rfl 2 (by decide) w_2 (fun _ h9 => h9) rfl dX3_add_26 ?_
    refine lv_iconst (v := (-1)) hx hb dX3_add_29 (by decide) ?_
    refine sv_iast hx hb hK hP hD hS 2 1 rfl rfl (vp_in_nI (by omega) (by omega)) dX3_add_30 (fun g_2 H locs eg_2 hP hD hS => ?_)
    have eg_2 : g_2 = upd f1 a (-1) := by rw [eg_2, nI_clamp (by omega)]
    subst eg_2
    have hP : va_P D vwCl [(h0, .inr (3, [.ref p0, .ref p1, .int (nI a), .int b3])), (p0, .inl (cI, 8, .inl (upd f0 a 0))), (p1, .inl (cI, 8, .inl (upd f1 a (-1))))] H := hP
    have hD : va_D A [(h0, .inr (3, [.ref p0, .ref p1, .int (nI a), .int b3])), (p0, .inl (cI, 8, .inl (upd f0 a 0))), (p1, .inl (cI, 8, .inl (upd f1 a (-1))))] := hD
    refine lv_aload_n hx hb dX3_add_31 rfl (lv_at hl 0 rfl) ?_
    refine lv_dup hx hb dX3_add_32 rfl ?_
    refine va_get (D := D) (ci := 3) (v := .int (nI a)) (C := RX3) (T := TX3) (N := 4) hx hb hts w_1 hown hK hP 0 rfl rfl 2 (by decide) w_2 (fun _ h9 => h9) rfl dX3_add_33 ?_
    refine lv_iconst (v := 1) hx hb dX3_add_36 (by decide) ?_
    refine sv_iadd (v := nI (a + 1)) hx hb dX3_add_37 (ax_add _ 1) ?_
    refine va_put (D := D) (ci := 3) (v := .int (nI (a + 1))) (ty := .int) (C := RX3) (T := TX3) (N := 4) hx hb hts w_1 tyX3 tyX3_ok nmX3 hown hK hP hD hS 0 rfl rfl 2 (by decide) w_2 (fun _ h9 => h9) rfl (by decide +kernel) rfl rfl (Nat.le_of_ble_eq_true rfl) dX3_add_38 (fun H locs hP hD hS => ?_)
    have hP : va_P D vwCl [(h0, .inr (3, [.ref p0, .ref p1, .int (nI (a + 1)), .int b3])), (p0, .inl (cI, 8, .inl (upd f0 a 0))), (p1, .inl (cI, 8, .inl (upd f1 a (-1))))] H := hP
    have hD : va_D A [(h0, .inr (3, [.ref p0, .ref p1, .int (nI (a + 1)), .int b3])), (p0, .inl (cI, 8, .inl (upd f0 a 0))), (p1, .inl (cI, 8, .inl (upd f1 a (-1))))] := hD
    refine lv_aload_n hx hb dX3_add_41 rfl (lv_at hl 0 rfl) ?_
    refine va_get (D := D) (ci := 3) (v := .int (nI (a + 1))) (C := RX3) (T := TX3) (N := 4) hx hb hts w_1 hown hK hP 0 rfl rfl 2 (by decide) w_2 (fun _ h9 => h9) rfl dX3_add_42 ?_
    refine lv_iconst (v := 1) hx hb dX3_add_45 (by decide) ?_
    refine sv_isub (v := nI a) hx hb dX3_add_46 (nI_sub1 a) ?_
    have hP9 := hP.sub (ws' := [(h0, .inr (3, [.ref p0, .ref p1, .int (nI (a + 1)), .int b3])), (p0, .inl (cI, 8, .inl (upd f0 a 0))), (p1, .inl (cI, 8, .inl (upd f1 a (-1))))]) [0, 1, 2] rfl
    have hD9 := hD.sub (ws' := [(h0, .inr (3, [.ref p0, .ref p1, .int (nI (a + 1)), .int b3])), (p0, .inl (cI, 8, .inl (upd f0 a 0))), (p1, .inl (cI, 8, .inl (upd f1 a (-1))))]) [0, 1, 2] (by decide) rfl
    exact W.iret (v := nI a) hx hb hr (fun t ht hW => ⟨⟨_, ((a + 1), upd f0 a 0, upd f1 a (-1)), rfl, Or.inr ⟨h6, rfl, rfl, rfl, rfl⟩, by rw [ht]; exact hP9, va_K.moved hW.alike hK, hD9⟩, hS.F ht⟩) hS.2.2 dX3_add_47
  ·
    refine lv_iconst (v := (-1)) hx hb dX3_add_9 (by decide) ?_
    have hP9 := hP.sub (ws' := [(h0, .inr (3, [.ref p0, .ref p1, .int (nI a), .int b3])), (p0, .inl (cI, 8, .inl f0)), (p1, .inl (cI, 8, .inl f1))]) [0, 1, 2] rfl
    have hD9 := hD.sub (ws' := [(h0, .inr (3, [.ref p0, .ref p1, .int (nI a), .int b3])), (p0, .inl (cI, 8, .inl f0)), (p1, .inl (cI, 8, .inl f1))]) [0, 1, 2] (by decide) rfl
    exact W.iret (v := (-1)) hx hb hr (fun t ht hW => ⟨⟨_, (a, f0, f1), rfl, Or.inl ⟨Nat.le_antisymm ha (nI_gec 8 (by omega) (by decide) c_6), rfl, rfl, rfl, rfl⟩, by rw [ht]; exact hP9, va_K.moved hW.alike hK, hD9⟩, hS.F ht⟩) hS.2.2 dX3_add_10

set_option maxHeartbeats 4000000 in
set_option maxRecDepth 100000 in
theorem g_X3_take (l : Launch) (D : va_G) (cB cI cJ cZ : ClassId) (sz : Nat) (h0 p0 p1 a : Nat) (b3 : Int32) (f0 f1 : Nat → Int32) (g n : Int32) (ha : a ≤ 8) : Met l yX3_take wsX3_take ({ frames := 1, cells := 0, slots := 0, locals := 21 } : Room) (cPre D (aTy cB cI cJ cZ) [(h0, .inr (3, [.ref p0, .ref p1, .int (nI a), .int b3])), (p0, .inl (cI, 8, .inl f0)), (p1, .inl (cI, 8, .inl f1))] sz [.ref h0, .int g, .int n]) (va_Qi (fun (r : Int32) (u : (Nat → Int32)) => (r = -1 ∧ u = f0 ∧ ¬ (vp_in g a ∧ n ≤ 99999 - f0 g.toNatClampNeg)) ∨ ((vp_in g a ∧ n ≤ 99999 - f0 g.toNatClampNeg) ∧ u = upd f0 g.toNatClampNeg (f0 g.toNatClampNeg + n) ∧ r = f0 g.toNatClampNeg + n)) (cB_ D (aTy cB cI cJ cZ) (va_A [(h0, .inr (3, [.ref p0, .ref p1, .int (nI a), .int b3])), (p0, .inl (cI, 8, .inl f0)), (p1, .inl (cI, 8, .inl f1))] sz) (fun u => [(h0, .inr (3, [.ref p0, .ref p1, .int (nI a), .int b3])), (p0, .inl (cI, 8, .inl u)), (p1, .inl (cI, 8, .inl f1))])) (va_A [(h0, .inr (3, [.ref p0, .ref p1, .int (nI a), .int b3])), (p0, .inl (cI, 8, .inl f0)), (p1, .inl (cI, 8, .inl f1))] sz)) 0 0 (va_A [(h0, .inr (3, [.ref p0, .ref p1, .int (nI a), .int b3])), (p0, .inl (cI, 8, .inl f0)), (p1, .inl (cI, 8, .inl f1))] sz) := by
  refine Met.ofW (cc := cX3_take) (maxL := 3) (ret := (some .int)) (by decide) rfl ?_
  intro p e s m args below meth c s₁ B hml hv
  obtain ⟨rfl, hsz, hP, hK, hD0⟩ := hv
  have hx := B.exec
  have hb := B.bytes
  have hr := B.returns
  have hts := atoms_spec (ws := wsX3_take) B.pre
  have hown : s.vm.findClass RX3 = some m.cls := findClass_of_methodNamed B.named
  have hlocks := B.notSynchronized
  subst hsz
  have hD := hD0.self (sz := s.heap.size)
  generalize hAe : va_A [(h0, .inr (3, [.ref p0, .ref p1, .int (nI a), .int b3])), (p0, .inl (cI, 8, .inl f0)), (p1, .inl (cI, 8, .inl f1))] s.heap.size = A at hD ⊢
  have hA : ∀ q : Nat, s.heap.size ≤ q → A q := fun q h => by rw [← hAe]; exact Or.inr h
  have hS : va_S A s.heap s.heap [] := va_S.rf
  have hP : va_P D vwCl [(h0, .inr (3, [.ref p0, .ref p1, .int (nI a), .int b3])), (p0, .inl (cI, 8, .inl f0)), (p1, .inl (cI, 8, .inl f1))] s.heap := hP
  have w_1 := hts (Cond.constant RX3 26 (99999)) (by decide +kernel)
  have w_2 : ∀ w ∈ wsX30, w ∈ wsX3_take := by decide +kernel
  have w_3 := hts (Cond.fieldLink RX3 11 "BlueCoats$Givers" "gave" "[I") (by decide +kernel)
  have hl := lv_entry ([.ref h0, .int g, .int n]) (n := 3) (Nat.le_of_ble_eq_true rfl)
  rw [lg_entry_eq]
  generalize (lg_sl ([.ref h0, .int g, .int n]) ++ List.replicate (3 - (lg_sl ([.ref h0, .int g, .int n])).length) Slot.unset).toArray = ls at hl ⊢
  have hl : lv_has ls 3 [(0, .ref h0), (1, .int g), (2, .int n)] := hl
  refine lv_aload_n hx hb dX3_take_0 rfl (lv_at hl 0 rfl) ?_
  refine lv_iload_n hx hb dX3_take_1 rfl (lv_at hl 1 rfl) ?_
  refine vp_callSi (va_Run.run (va_runV (As := [.int g]) (rest := []) ⟨hx, hb, hml, hown, hts⟩ (g_X3_has l D cB cI cJ cZ h0 p0 p1 a b3 g (by omega)) (cwV 1 hts gX3_take_X3_has rfl rfl rfl (by decide +kernel) ⟨Nat.le_of_ble_eq_true rfl, Nat.le_of_ble_eq_true rfl⟩) (pre_VR (hP.sub (ws' := [(h0, .inr (3, [.ref p0, .ref p1, .int (nI a), .int b3]))]) [0] rfl) hK 0 rfl rfl rfl) rfl rfl hl.1 rfl (lv_room (Nat.le_of_ble_eq_true rfl)) dX3_take_2 ⟨Nat.le_of_ble_eq_true rfl, Nat.le_of_ble_eq_true rfl⟩)) (fun r_1 hw_r_1 => ?_)
  refine lv_if_eq (tgt := 21) hx hb dX3_take_5 (by decide) (fun c_5 => ?_) (fun c_5 => ?_)
  ·
    refine lv_iconst (v := (-1)) hx hb dX3_take_21 (by decide) ?_
    have hP9 := hP.sub (ws' := [(h0, .inr (3, [.ref p0, .ref p1, .int (nI a), .int b3])), (p0, .inl (cI, 8, .inl f0)), (p1, .inl (cI, 8, .inl f1))]) [0, 1, 2] rfl
    have hD9 := hD.sub (ws' := [(h0, .inr (3, [.ref p0, .ref p1, .int (nI a), .int b3])), (p0, .inl (cI, 8, .inl f0)), (p1, .inl (cI, 8, .inl f1))]) [0, 1, 2] (by decide) rfl
    exact W.iret (v := (-1)) hx hb hr (fun t ht hW => ⟨⟨_, f0, rfl, Or.inl ⟨rfl, rfl, fun h => has_out hw_r_1 c_5 h.1⟩, by rw [ht]; exact hP9, va_K.moved hW.alike hK, hD9⟩, hS.F ht⟩) hS.2.2 dX3_take_22
  ·
    refine lv_iload_n hx hb dX3_take_8 rfl (lv_at hl 2 rfl) ?_
    refine lv_ldc hx hb hown (w_1) dX3_take_9 ?_
    refine lv_aload_n hx hb dX3_take_11 rfl (lv_at hl 0 rfl) ?_
    refine va_get (D := D) (ci := 3) (v := .ref p0) (C := RX3) (T := TX3) (N := 4) hx hb hts w_2 hown hK hP 0 rfl rfl 0 (by decide) w_3 (fun _ h9 => h9) rfl dX3_take_12 ?_
    refine lv_iload_n hx hb dX3_take_15 rfl (lv_at hl 1 rfl) ?_
    refine sv_iald (v := f0 g.toNatClampNeg) hx hb hK hP 1 1 rfl rfl (in_up (has_in hw_r_1 c_5) ha) rfl dX3_take_16 ?_
    refine sv_isub (v := 99999 - (f0 g.toNatClampNeg)) hx hb dX3_take_17 rfl ?_
    refine lv_icmp_le (tgt := 23) hx hb dX3_take_18 (by decide) (fun c_18 => ?_) (fun c_18 => ?_)
    ·
      refine lv_aload_n hx hb dX3_take_23 rfl (lv_at hl 0 rfl) ?_
      refine va_get (D := D) (ci := 3) (v := .ref p0) (C := RX3) (T := TX3) (N := 4) hx hb hts w_2 hown hK hP 0 rfl rfl 0 (by decide) w_3 (fun _ h9 => h9) rfl dX3_take_24 ?_
      refine lv_iload_n hx hb dX3_take_27 rfl (lv_at hl 1 rfl) ?_
      refine lv_dup2_11 hx hb dX3_take_28 rfl rfl ?_
      refine sv_iald (v := f0 g.toNatClampNeg) hx hb hK hP 1 1 rfl rfl (in_up (has_in hw_r_1 c_5) ha) rfl dX3_take_29 ?_
      refine lv_iload_n hx hb dX3_take_30 rfl (lv_at hl 2 rfl) ?_
      refine sv_iadd (v := (f0 g.toNatClampNeg) + n) hx hb dX3_take_31 rfl ?_
      refine sv_iast hx hb hK hP hD hS 1 1 rfl rfl (in_up (has_in hw_r_1 c_5) ha) dX3_take_32 (fun g_2 H locs eg_2 hP hD hS => ?_)
      have eg_2 : g_2 = upd f0 g.toNatClampNeg ((f0 g.toNatClampNeg) + n) := eg_2
      subst eg_2
      have hP : va_P D vwCl [(h0, .inr (3, [.ref p0, .ref p1, .int (nI a), .int b3])), (p0, .inl (cI, 8, .inl (upd f0 g.toNatClampNeg ((f0 g.toNatClampNeg) + n)))), (p1, .inl (cI, 8, .inl f1))] H := hP
      have hD : va_D A [(h0, .inr (3, [.ref p0, .ref p1, .int (nI a), .int b3])), (p0, .inl (cI, 8, .inl (upd f0 g.toNatClampNeg ((f0 g.toNatClampNeg) + n)))), (p1, .inl (cI, 8, .inl f1))] := hD
      refine lv_aload_n hx hb dX3_take_33 rfl (lv_at hl 0 rfl) ?_
      refine va_get (D := D) (ci := 3) (v := .ref p0) (C := RX3) (T := TX3) (N := 4) hx hb hts w_2 hown hK hP 0 rfl rfl 0 (by decide) w_3 (fun _ h9 => h9) rfl dX3_take_34 ?_
      refine lv_iload_n hx hb dX3_take_37 rfl (lv_at hl 1 rfl) ?_
      refine sv_iald (v := f0 g.toNatClampNeg + n) hx hb hK hP 1 1 rfl rfl (in_up (has_in hw_r_1 c_5) ha) pk_us dX3_take_38 ?_
      have hP9 := hP.sub (ws' := [(h0, .inr (3, [.ref p0, .ref p1, .int (nI a), .int b3])), (p0, .inl (cI, 8, .inl (upd f0 g.toNatClampNeg ((f0 g.toNatClampNeg) + n)))), (p1, .inl (cI, 8, .inl f1))]) [0, 1, 2] rfl
      have hD9 := hD.sub (ws' := [(h0, .inr (3, [.ref p0, .ref p1, .int (nI a), .int b3])), (p0, .inl (cI, 8, .inl (upd f0 g.toNatClampNeg ((f0 g.toNatClampNeg) + n)))), (p1, .inl (cI, 8, .inl f1))]) [0, 1, 2] (by decide) rfl
      exact W.iret (v := f0 g.toNatClampNeg + n) hx hb hr (fun t ht hW => ⟨⟨_, upd f0 g.toNatClampNeg ((f0 g.toNatClampNeg) + n), rfl, Or.inr ⟨⟨has_in hw_r_1 c_5, c_18⟩, rfl, rfl⟩, by rw [ht]; exact hP9, va_K.moved hW.alike hK, hD9⟩, hS.F ht⟩) hS.2.2 dX3_take_39
    ·
      refine lv_iconst (v := (-1)) hx hb dX3_take_21 (by decide) ?_
      have hP9 := hP.sub (ws' := [(h0, .inr (3, [.ref p0, .ref p1, .int (nI a), .int b3])), (p0, .inl (cI, 8, .inl f0)), (p1, .inl (cI, 8, .inl f1))]) [0, 1, 2] rfl
      have hD9 := hD.sub (ws' := [(h0, .inr (3, [.ref p0, .ref p1, .int (nI a), .int b3])), (p0, .inl (cI, 8, .inl f0)), (p1, .inl (cI, 8, .inl f1))]) [0, 1, 2] (by decide) rfl
      exact W.iret (v := (-1)) hx hb hr (fun t ht hW => ⟨⟨_, f0, rfl, Or.inl ⟨rfl, rfl, fun h => c_18 h.2⟩, by rw [ht]; exact hP9, va_K.moved hW.alike hK, hD9⟩, hS.F ht⟩) hS.2.2 dX3_take_22

set_option maxHeartbeats 4000000 in
set_option maxRecDepth 100000 in
theorem g_X3_childOf (l : Launch) (D : va_G) (cB cI cJ cZ : ClassId) (h0 p0 p1 a : Nat) (b3 : Int32) (f0 f1 : Nat → Int32) (g : Int32) (ha : a ≤ 8) : Met l yX3_childOf wsX3_childOf ({ frames := 1, cells := 0, slots := 0, locals := 21 } : Room) (cRd D (aTy cB cI cJ cZ) [(h0, .inr (3, [.ref p0, .ref p1, .int (nI a), .int b3])), (p1, .inl (cI, 8, .inl f1))] [.ref h0, .int g]) (vp_Si (fun r : Int32 => True)) 0 0 (fun _ => False) := by
  refine Met.ofW (cc := cX3_childOf) (maxL := 2) (ret := (some .int)) (by decide) rfl ?_
  intro p e s m args below meth c s₁ B hml hv
  obtain ⟨rfl, hP, hK⟩ := hv
  have hx := B.exec
  have hb := B.bytes
  have hr := B.returns
  have hts := atoms_spec (ws := wsX3_childOf) B.pre
  have hown : s.vm.findClass RX3 = some m.cls := findClass_of_methodNamed B.named
  have hlocks := B.notSynchronized
  have hP : va_P D vwCl [(h0, .inr (3, [.ref p0, .ref p1, .int (nI a), .int b3])), (p1, .inl (cI, 8, .inl f1))] s.heap := hP
  have w_1 : ∀ w ∈ wsX30, w ∈ wsX3_childOf := by decide +kernel
  have w_2 := hts (Cond.fieldLink RX3 15 "BlueCoats$Givers" "supported" "[I") (by decide +kernel)
  have hl := lv_entry ([.ref h0, .int g]) (n := 2) (Nat.le_of_ble_eq_true rfl)
  rw [lg_entry_eq]
  generalize (lg_sl ([.ref h0, .int g]) ++ List.replicate (2 - (lg_sl ([.ref h0, .int g])).length) Slot.unset).toArray = ls at hl ⊢
  have hl : lv_has ls 2 [(0, .ref h0), (1, .int g)] := hl
  refine lv_aload_n hx hb dX3_childOf_0 rfl (lv_at hl 0 rfl) ?_
  refine lv_iload_n hx hb dX3_childOf_1 rfl (lv_at hl 1 rfl) ?_
  refine vp_callSi (va_Run.run (va_runV (As := [.int g]) (rest := []) ⟨hx, hb, hml, hown, hts⟩ (g_X3_has l D cB cI cJ cZ h0 p0 p1 a b3 g (by omega)) (cwV 1 hts gX3_childOf_X3_has rfl rfl rfl (by decide +kernel) ⟨Nat.le_of_ble_eq_true rfl, Nat.le_of_ble_eq_true rfl⟩) (pre_VR (hP.sub (ws' := [(h0, .inr (3, [.ref p0, .ref p1, .int (nI a), .int b3]))]) [0] rfl) hK 0 rfl rfl rfl) rfl rfl hl.1 rfl (lv_room (Nat.le_of_ble_eq_true rfl)) dX3_childOf_2 ⟨Nat.le_of_ble_eq_true rfl, Nat.le_of_ble_eq_true rfl⟩)) (fun r_1 hw_r_1 => ?_)
  refine lv_if_eq (tgt := 17) hx hb dX3_childOf_5 (by decide) (fun c_5 => ?_) (fun c_5 => ?_)
  ·
    refine lv_iconst (v := (-1)) hx hb dX3_childOf_17 (by decide) ?_
    exact W.iret (v := (-1)) hx hb hr (fun t ht hW => ⟨_, rfl, trivial, ht⟩) (fun q h => nomatch h) dX3_childOf_18
  ·
    refine lv_aload_n hx hb dX3_childOf_8 rfl (lv_at hl 0 rfl) ?_
    refine va_get (D := D) (ci := 3) (v := .ref p1) (C := RX3) (T := TX3) (N := 4) hx hb hts w_1 hown hK hP 0 rfl rfl 1 (by decide) w_2 (fun _ h9 => h9) rfl dX3_childOf_9 ?_
    refine lv_iload_n hx hb dX3_childOf_12 rfl (lv_at hl 1 rfl) ?_
    refine sv_iald (v := f1 g.toNatClampNeg) hx hb hK hP 1 1 rfl rfl (in_up (has_in hw_r_1 c_5) ha) rfl dX3_childOf_13 ?_
    refine lv_topi (fun v_2 ev_2 => ?_)
    refine lv_goto (tgt := 18) hx hb dX3_childOf_14 (by decide) ?_
    exact W.iret (v := v_2) hx hb hr (fun t ht hW => ⟨_, rfl, trivial, ht⟩) (fun q h => nomatch h) dX3_childOf_18

set_option maxHeartbeats 4000000 in
set_option maxRecDepth 100000 in
theorem g_X3_votes (l : Launch) (D : va_G) (cB cI cJ cZ : ClassId) (h0 p0 p1 a : Nat) (b3 : Int32) (f0 f1 : Nat → Int32) (ch pr : Int32) (ha : a ≤ 8) : Met l yX3_votesFor wsX3_votesFor ({ frames := 0, cells := 0, slots := 0, locals := 0 } : Room) (cRd D (aTy cB cI cJ cZ) [(h0, .inr (3, [.ref p0, .ref p1, .int (nI a), .int b3])), (p0, .inl (cI, 8, .inl f0)), (p1, .inl (cI, 8, .inl f1))] [.ref h0, .int ch, .int pr]) (vp_Si (fun r : Int32 => True)) 0 0 (fun _ => False) := by
  refine Met.ofW (cc := cX3_votesFor) (maxL := 5) (ret := (some .int)) (by decide) rfl ?_
  intro p e s m args below meth c s₁ B hml hv
  obtain ⟨rfl, hP, hK⟩ := hv
  have hx := B.exec
  have hb := B.bytes
  have hr := B.returns
  have hts := atoms_spec (ws := wsX3_votesFor) B.pre
  have hown : s.vm.findClass RX3 = some m.cls := findClass_of_methodNamed B.named
  have hlocks := B.notSynchronized
  have hP : va_P D vwCl [(h0, .inr (3, [.ref p0, .ref p1, .int (nI a), .int b3])), (p0, .inl (cI, 8, .inl f0)), (p1, .inl (cI, 8, .inl f1))] s.heap := hP
  have w_1 : ∀ w ∈ wsX30, w ∈ wsX3_votesFor := by decide +kernel
  have w_2 := hts (Cond.fieldLink RX3 18 "BlueCoats$Givers" "number" "I") (by decide +kernel)
  have w_3 := hts (Cond.fieldLink RX3 15 "BlueCoats$Givers" "supported" "[I") (by decide +kernel)
  have w_4 := hts (Cond.fieldLink RX3 11 "BlueCoats$Givers" "gave" "[I") (by decide +kernel)
  have hl := lv_entry ([.ref h0, .int ch, .int pr]) (n := 5) (Nat.le_of_ble_eq_true rfl)
  rw [lg_entry_eq]
  generalize (lg_sl ([.ref h0, .int ch, .int pr]) ++ List.replicate (5 - (lg_sl ([.ref h0, .int ch, .int pr])).length) Slot.unset).toArray = ls at hl ⊢
  have hl : lv_has ls 5 [(0, .ref h0), (1, .int ch), (2, .int pr)] := hl
  generalize hQ : MQ below _ _ s _ _ _ = Q0
  refine lv_iconst (v := 0) hx hb dX3_votesFor_0 (by decide) ?_
  refine lv_istore_n (lv' := [(3, .int 0), (0, .ref h0), (1, .int ch), (2, .int pr)]) hx hb dX3_votesFor_1 rfl hl (by decide) rfl (fun ls hl => ?_)
  refine lv_iconst (v := 0) hx hb dX3_votesFor_2 (by decide) ?_
  refine lv_istore (lv' := [(4, .int 0), (3, .int 0), (0, .ref h0), (1, .int ch), (2, .int pr)]) hx hb dX3_votesFor_3 hl (by decide) rfl (fun ls hl => ?_)
  have L_1 : ∀ (n : Nat) (i_5 : Int32) (l_3_5 : Int32) (ls : Array Slot), (Int32.toInt (nI a) - i_5.toInt).toNat < n → 0 ≤ i_5.toInt → va_P D vwCl [(h0, .inr (3, [.ref p0, .ref p1, .int (nI a), .int b3])), (p0, .inl (cI, 8, .inl f0)), (p1, .inl (cI, 8, .inl f1))] s.heap → lv_has ls 5 [(0, .ref h0), (1, .int ch), (2, .int pr), (3, .int l_3_5), (4, .int i_5)] → W p l e (headSpec wsX3_votesFor ({ frames := 0, cells := 0, slots := 0, locals := 0 } : Room)).room s m ([.ref h0, .int ch, .int pr] : List Value).toArray below meth c s.heap [] 0 0 Q0 (F0 m 5 ls []) := by
    intro n
    induction n with
    | zero => intro i_5 l_3_5 ls hn_5 hlo_5 hP hl; exact absurd hn_5 (Nat.not_lt_zero _)
    | succ n ih_L_1 =>
      intro i_5 l_3_5 ls hn_5 hlo_5 hP hl
      refine lv_iload hx hb dX3_votesFor_5 (lv_at hl 4 rfl) ?_
      refine lv_aload_n hx hb dX3_votesFor_7 rfl (lv_at hl 0 rfl) ?_
      refine va_get (D := D) (ci := 3) (v := .int (nI a)) (C := RX3) (T := TX3) (N := 4) hx hb hts w_1 hown hK hP 0 rfl rfl 2 (by decide) w_2 (fun _ h9 => h9) rfl dX3_votesFor_8 ?_
      refine lv_icmp_ge (tgt := 47) hx hb dX3_votesFor_11 (by decide) (fun c_11 => ?_) (fun c_11 => ?_)
      ·
        refine lv_iload_n hx hb dX3_votesFor_47 rfl (lv_at hl 3 rfl) ?_
        rw [← hQ]
        exact W.iret (v := l_3_5) hx hb hr (fun t ht hW => ⟨_, rfl, trivial, ht⟩) (fun q h => nomatch h) dX3_votesFor_48
      ·
        refine lv_aload_n hx hb dX3_votesFor_14 rfl (lv_at hl 0 rfl) ?_
        refine va_get (D := D) (ci := 3) (v := .ref p1) (C := RX3) (T := TX3) (N := 4) hx hb hts w_1 hown hK hP 0 rfl rfl 1 (by decide) w_3 (fun _ h9 => h9) rfl dX3_votesFor_15 ?_
        refine lv_iload hx hb dX3_votesFor_18 (lv_at hl 4 rfl) ?_
        refine sv_iald (v := f1 i_5.toNatClampNeg) hx hb hK hP 2 1 rfl rfl (lp_inN hlo_5 c_11 ha (by decide)) rfl dX3_votesFor_20 ?_
        refine lv_topi (fun v_2 ev_2 => ?_)
        refine lv_iload_n hx hb dX3_votesFor_21 rfl (lv_at hl 1 rfl) ?_
        refine lv_icmp_ne (tgt := 41) hx hb dX3_votesFor_22 (by decide) (fun c_22 => ?_) (fun c_22 => ?_)
        ·
          refine lv_iinc (v := i_5 + 1) (lv' := [(4, .int (i_5 + 1)), (0, .ref h0), (1, .int ch), (2, .int pr), (3, .int l_3_5)]) hx hb dX3_votesFor_41 hl (k := 4) rfl rfl (by decide) rfl (fun ls hl => ?_)
          refine lv_goto (tgt := 5) hx hb dX3_votesFor_44 (by decide) ?_
          exact ih_L_1 (i_5 + 1) l_3_5 ls (lp_dec hn_5 c_11) (by have h9 := lp_inc c_11; omega) hP (lv_sub hl [1, 2, 3, 4, 0] rfl)
        ·
          refine lv_iload_n hx hb dX3_votesFor_25 rfl (lv_at hl 2 rfl) ?_
          refine lv_if_le (tgt := 41) hx hb dX3_votesFor_26 (by decide) (fun c_26 => ?_) (fun c_26 => ?_)
          ·
            refine lv_iinc (v := i_5 + 1) (lv' := [(4, .int (i_5 + 1)), (0, .ref h0), (1, .int ch), (2, .int pr), (3, .int l_3_5)]) hx hb dX3_votesFor_41 hl (k := 4) rfl rfl (by decide) rfl (fun ls hl => ?_)
            refine lv_goto (tgt := 5) hx hb dX3_votesFor_44 (by decide) ?_
            exact ih_L_1 (i_5 + 1) l_3_5 ls (lp_dec hn_5 c_11) (by have h9 := lp_inc c_11; omega) hP (lv_sub hl [1, 2, 3, 4, 0] rfl)
          ·
            refine lv_iload_n hx hb dX3_votesFor_29 rfl (lv_at hl 3 rfl) ?_
            refine lv_aload_n hx hb dX3_votesFor_30 rfl (lv_at hl 0 rfl) ?_
            refine va_get (D := D) (ci := 3) (v := .ref p0) (C := RX3) (T := TX3) (N := 4) hx hb hts w_1 hown hK hP 0 rfl rfl 0 (by decide) w_4 (fun _ h9 => h9) rfl dX3_votesFor_31 ?_
            refine lv_iload hx hb dX3_votesFor_34 (lv_at hl 4 rfl) ?_
            refine sv_iald (v := f0 i_5.toNatClampNeg) hx hb hK hP 1 1 rfl rfl (lp_inN hlo_5 c_11 ha (by decide)) rfl dX3_votesFor_36 ?_
            refine lv_topi (fun v_3 ev_3 => ?_)
            refine lv_iload_n hx hb dX3_votesFor_37 rfl (lv_at hl 2 rfl) ?_
            refine sv_idiv (v := v_3 / pr) hx hb dX3_votesFor_38 (fun h => c_26 (by rw [h]; decide)) rfl ?_
            refine lv_topi (fun v_4 ev_4 => ?_)
            refine sv_iadd (v := l_3_5 + v_4) hx hb dX3_votesFor_39 rfl ?_
            refine lv_topi (fun v_5 ev_5 => ?_)
            refine lv_istore_n (lv' := [(3, .int v_5), (0, .ref h0), (1, .int ch), (2, .int pr), (4, .int i_5)]) hx hb dX3_votesFor_40 rfl hl (by decide) rfl (fun ls hl => ?_)
            refine lv_iinc (v := i_5 + 1) (lv' := [(4, .int (i_5 + 1)), (3, .int v_5), (0, .ref h0), (1, .int ch), (2, .int pr)]) hx hb dX3_votesFor_41 hl (k := 4) rfl rfl (by decide) rfl (fun ls hl => ?_)
            refine lv_goto (tgt := 5) hx hb dX3_votesFor_44 (by decide) ?_
            exact ih_L_1 (i_5 + 1) v_5 ls (lp_dec hn_5 c_11) (by have h9 := lp_inc c_11; omega) hP (lv_sub hl [2, 3, 4, 1, 0] rfl)
  exact L_1 _ 0 0 ls (Nat.lt_succ_self _) (by decide) hP (lv_sub hl [2, 3, 4, 1, 0] rfl)

