set_option maxHeartbeats 4000000 in
set_option maxRecDepth 100000 in
theorem g_X0_add (l : Launch) (D : va_G) (cB cI cJ cZ : ClassId) (sz : Nat) (h0 p0 p1 p2 p6 p7 p8 a : Nat) (b4 b5 : Int32) (f0 f1 f2 f6 f7 f8 : Nat → Int32) (q0 q1 : Int32) (ha : a ≤ 8) : Met l yX0_add wsX0_add ({ frames := 0, cells := 0, slots := 0, locals := 0 } : Room) (cPre D (aTy cB cI cJ cZ) [(h0, .inr (0, [.ref p0, .ref p1, .ref p2, .int (nI a), .int b4, .int b5, .ref p6, .ref p7, .ref p8])), (p6, .inl (cI, 8, .inl f6)), (p7, .inl (cI, 8, .inl f7))] sz [.ref h0, .int q0, .int q1]) (va_Qi (fun (r : Int32) (u : Nat × (Nat → Int32) × (Nat → Int32)) => (r = -1 ∧ u.1 = a ∧ (a = 8 ∨ ¬ okL q0 q1)) ∨ (a < 8 ∧ okL q0 q1 ∧ u.1 = a + 1 ∧ r = nI a)) (cB_ D (aTy cB cI cJ cZ) (va_A [(h0, .inr (0, [.ref p0, .ref p1, .ref p2, .int (nI a), .int b4, .int b5, .ref p6, .ref p7, .ref p8])), (p6, .inl (cI, 8, .inl f6)), (p7, .inl (cI, 8, .inl f7))] sz) (fun u => [(h0, .inr (0, [.ref p0, .ref p1, .ref p2, .int (nI (u.1)), .int b4, .int b5, .ref p6, .ref p7, .ref p8])), (p6, .inl (cI, 8, .inl u.2.1)), (p7, .inl (cI, 8, .inl u.2.2))])) (va_A [(h0, .inr (0, [.ref p0, .ref p1, .ref p2, .int (nI a), .int b4, .int b5, .ref p6, .ref p7, .ref p8])), (p6, .inl (cI, 8, .inl f6)), (p7, .inl (cI, 8, .inl f7))] sz)) 0 0 (va_A [(h0, .inr (0, [.ref p0, .ref p1, .ref p2, .int (nI a), .int b4, .int b5, .ref p6, .ref p7, .ref p8])), (p6, .inl (cI, 8, .inl f6)), (p7, .inl (cI, 8, .inl f7))] sz) := by
  refine Met.ofW (cc := cX0_add) (maxL := 3) (ret := (some .int)) (by decide) rfl ?_
  intro p e s m args below meth c s₁ B hml hv
  obtain ⟨rfl, hsz, hP, hK, hD0⟩ := hv
  have hx := B.exec
  have hb := B.bytes
  have hr := B.returns
  have hts := atoms_spec (ws := wsX0_add) B.pre
  have hown : s.vm.findClass RX0 = some m.cls := findClass_of_methodNamed B.named
  have hlocks := B.notSynchronized
  subst hsz
  have hD := hD0.self (sz := s.heap.size)
  generalize hAe : va_A [(h0, .inr (0, [.ref p0, .ref p1, .ref p2, .int (nI a), .int b4, .int b5, .ref p6, .ref p7, .ref p8])), (p6, .inl (cI, 8, .inl f6)), (p7, .inl (cI, 8, .inl f7))] s.heap.size = A at hD ⊢
  have hA : ∀ q : Nat, s.heap.size ≤ q → A q := fun q h => by rw [← hAe]; exact Or.inr h
  have hS : va_S A s.heap s.heap [] := va_S.rf
  have hP : va_P D vwCl [(h0, .inr (0, [.ref p0, .ref p1, .ref p2, .int (nI a), .int b4, .int b5, .ref p6, .ref p7, .ref p8])), (p6, .inl (cI, 8, .inl f6)), (p7, .inl (cI, 8, .inl f7))] s.heap := hP
  have w_1 : ∀ w ∈ wsX00, w ∈ wsX0_add := by decide +kernel
  have w_2 := hts (Cond.fieldLink RX0 30 "BlueCoats$Chest" "number" "I") (by decide +kernel)
  have w_3 := hts (Cond.fieldLink RX0 21 "BlueCoats$Chest" "coins" "[I") (by decide +kernel)
  have w_4 := hts (Cond.fieldLink RX0 24 "BlueCoats$Chest" "ends" "[I") (by decide +kernel)
  have hl := lv_entry ([.ref h0, .int q0, .int q1]) (n := 3) (Nat.le_of_ble_eq_true rfl)
  rw [lg_entry_eq]
  generalize (lg_sl ([.ref h0, .int q0, .int q1]) ++ List.replicate (3 - (lg_sl ([.ref h0, .int q0, .int q1])).length) Slot.unset).toArray = ls at hl ⊢
  have hl : lv_has ls 3 [(0, .ref h0), (1, .int q0), (2, .int q1)] := hl
  refine lv_aload_n hx hb dX0_add_0 rfl (lv_at hl 0 rfl) ?_
  refine va_get (D := D) (ci := 0) (v := .int (nI a)) (C := RX0) (T := TX0) (N := 9) hx hb hts w_1 hown hK hP 0 rfl rfl 3 (by decide) w_2 (fun _ h9 => h9) rfl dX0_add_1 ?_
  refine lv_bipush (v := 8) hx hb dX0_add_4 (by decide) ?_
  refine lv_icmp_ge (tgt := 30) hx hb dX0_add_6 (by decide) (fun c_6 => ?_) (fun c_6 => ?_)
  ·
    refine lv_iconst (v := (-1)) hx hb dX0_add_30 (by decide) ?_
    have hP9 := hP.sub (ws' := [(h0, .inr (0, [.ref p0, .ref p1, .ref p2, .int (nI a), .int b4, .int b5, .ref p6, .ref p7, .ref p8])), (p6, .inl (cI, 8, .inl f6)), (p7, .inl (cI, 8, .inl f7))]) [0, 1, 2] rfl
    have hD9 := hD.sub (ws' := [(h0, .inr (0, [.ref p0, .ref p1, .ref p2, .int (nI a), .int b4, .int b5, .ref p6, .ref p7, .ref p8])), (p6, .inl (cI, 8, .inl f6)), (p7, .inl (cI, 8, .inl f7))]) [0, 1, 2] (by decide) rfl
    exact W.iret (v := (-1)) hx hb hr (fun t ht hW => ⟨⟨_, (a, f6, f7), rfl, Or.inl ⟨rfl, rfl, Or.inl (Nat.le_antisymm ha (nI_geg 8 (by omega) (by decide) c_6))⟩, by rw [ht]; exact hP9, va_K.moved hW.alike hK, hD9⟩, hS.F ht⟩) hS.2.2 dX0_add_31
  ·
    refine lv_iload_n hx hb dX0_add_9 rfl (lv_at hl 1 rfl) ?_
    refine lv_if_lt (tgt := 30) hx hb dX0_add_10 (by decide) (fun c_10 => ?_) (fun c_10 => ?_)
    ·
      refine lv_iconst (v := (-1)) hx hb dX0_add_30 (by decide) ?_
      have hP9 := hP.sub (ws' := [(h0, .inr (0, [.ref p0, .ref p1, .ref p2, .int (nI a), .int b4, .int b5, .ref p6, .ref p7, .ref p8])), (p6, .inl (cI, 8, .inl f6)), (p7, .inl (cI, 8, .inl f7))]) [0, 1, 2] rfl
      have hD9 := hD.sub (ws' := [(h0, .inr (0, [.ref p0, .ref p1, .ref p2, .int (nI a), .int b4, .int b5, .ref p6, .ref p7, .ref p8])), (p6, .inl (cI, 8, .inl f6)), (p7, .inl (cI, 8, .inl f7))]) [0, 1, 2] (by decide) rfl
      exact W.iret (v := (-1)) hx hb hr (fun t ht hW => ⟨⟨_, (a, f6, f7), rfl, Or.inl ⟨rfl, rfl, Or.inr (fun h => h.1 c_10)⟩, by rw [ht]; exact hP9, va_K.moved hW.alike hK, hD9⟩, hS.F ht⟩) hS.2.2 dX0_add_31
    ·
      refine lv_iload_n hx hb dX0_add_13 rfl (lv_at hl 1 rfl) ?_
      refine lv_sipush (v := 9999) hx hb dX0_add_14 (by decide) ?_
      refine lv_icmp_gt (tgt := 30) hx hb dX0_add_17 (by decide) (fun c_17 => ?_) (fun c_17 => ?_)
      ·
        refine lv_iconst (v := (-1)) hx hb dX0_add_30 (by decide) ?_
        have hP9 := hP.sub (ws' := [(h0, .inr (0, [.ref p0, .ref p1, .ref p2, .int (nI a), .int b4, .int b5, .ref p6, .ref p7, .ref p8])), (p6, .inl (cI, 8, .inl f6)), (p7, .inl (cI, 8, .inl f7))]) [0, 1, 2] rfl
        have hD9 := hD.sub (ws' := [(h0, .inr (0, [.ref p0, .ref p1, .ref p2, .int (nI a), .int b4, .int b5, .ref p6, .ref p7, .ref p8])), (p6, .inl (cI, 8, .inl f6)), (p7, .inl (cI, 8, .inl f7))]) [0, 1, 2] (by decide) rfl
        exact W.iret (v := (-1)) hx hb hr (fun t ht hW => ⟨⟨_, (a, f6, f7), rfl, Or.inl ⟨rfl, rfl, Or.inr (fun h => h.2.1 c_17)⟩, by rw [ht]; exact hP9, va_K.moved hW.alike hK, hD9⟩, hS.F ht⟩) hS.2.2 dX0_add_31
      ·
        refine lv_iload_n hx hb dX0_add_20 rfl (lv_at hl 2 rfl) ?_
        refine lv_if_lt (tgt := 30) hx hb dX0_add_21 (by decide) (fun c_21 => ?_) (fun c_21 => ?_)
        ·
          refine lv_iconst (v := (-1)) hx hb dX0_add_30 (by decide) ?_
          have hP9 := hP.sub (ws' := [(h0, .inr (0, [.ref p0, .ref p1, .ref p2, .int (nI a), .int b4, .int b5, .ref p6, .ref p7, .ref p8])), (p6, .inl (cI, 8, .inl f6)), (p7, .inl (cI, 8, .inl f7))]) [0, 1, 2] rfl
          have hD9 := hD.sub (ws' := [(h0, .inr (0, [.ref p0, .ref p1, .ref p2, .int (nI a), .int b4, .int b5, .ref p6, .ref p7, .ref p8])), (p6, .inl (cI, 8, .inl f6)), (p7, .inl (cI, 8, .inl f7))]) [0, 1, 2] (by decide) rfl
          exact W.iret (v := (-1)) hx hb hr (fun t ht hW => ⟨⟨_, (a, f6, f7), rfl, Or.inl ⟨rfl, rfl, Or.inr (fun h => h.2.2.1 c_21)⟩, by rw [ht]; exact hP9, va_K.moved hW.alike hK, hD9⟩, hS.F ht⟩) hS.2.2 dX0_add_31
        ·
          refine lv_iload_n hx hb dX0_add_24 rfl (lv_at hl 2 rfl) ?_
          refine lv_bipush (v := 64) hx hb dX0_add_25 (by decide) ?_
          refine lv_icmp_lt (tgt := 32) hx hb dX0_add_27 (by decide) (fun c_27 => ?_) (fun c_27 => ?_)
          ·
            have h6 : a < 8 := nI_ltg 8 (by omega) (by decide) c_6
            refine lv_aload_n hx hb dX0_add_32 rfl (lv_at hl 0 rfl) ?_
            refine va_get (D := D) (ci := 0) (v := .ref p6) (C := RX0) (T := TX0) (N := 9) hx hb hts w_1 hown hK hP 0 rfl rfl 6 (by decide) w_3 (fun _ h9 => h9) rfl dX0_add_33 ?_
            refine lv_aload_n hx hb dX0_add_36 rfl (lv_at hl 0 rfl) ?_
            refine va_get (D := D) (ci := 0) (v := .int (nI a)) (C := RX0) (T := TX0) (N := 9) hx hb hts w_1 hown hK hP 0 rfl rfl 3 (by decide) w_2 (fun _ h9 => h9) rfl dX0_add_37 ?_
            refine lv_iload_n hx hb dX0_add_40 rfl (lv_at hl 1 rfl) ?_
            refine sv_iast hx hb hK hP hD hS 1 1 rfl rfl (vp_in_nI (by omega) (by omega)) dX0_add_41 (fun g_1 H locs eg_1 hP hD hS => ?_)
            have hP : va_P D vwCl [(h0, .inr (0, [.ref p0, .ref p1, .ref p2, .int (nI a), .int b4, .int b5, .ref p6, .ref p7, .ref p8])), (p6, .inl (cI, 8, .inl g_1)), (p7, .inl (cI, 8, .inl f7))] H := hP
            have hD : va_D A [(h0, .inr (0, [.ref p0, .ref p1, .ref p2, .int (nI a), .int b4, .int b5, .ref p6, .ref p7, .ref p8])), (p6, .inl (cI, 8, .inl g_1)), (p7, .inl (cI, 8, .inl f7))] := hD
            refine lv_aload_n hx hb dX0_add_42 rfl (lv_at hl 0 rfl) ?_
            refine va_get (D := D) (ci := 0) (v := .ref p7) (C := RX0) (T := TX0) (N := 9) hx hb hts w_1 hown hK hP 0 rfl rfl 7 (by decide) w_4 (fun _ h9 => h9) rfl dX0_add_43 ?_
            refine lv_aload_n hx hb dX0_add_46 rfl (lv_at hl 0 rfl) ?_
            refine va_get (D := D) (ci := 0) (v := .int (nI a)) (C := RX0) (T := TX0) (N := 9) hx hb hts w_1 hown hK hP 0 rfl rfl 3 (by decide) w_2 (fun _ h9 => h9) rfl dX0_add_47 ?_
            refine lv_iload_n hx hb dX0_add_50 rfl (lv_at hl 2 rfl) ?_
            refine sv_iast hx hb hK hP hD hS 2 1 rfl rfl (vp_in_nI (by omega) (by omega)) dX0_add_51 (fun g_2 H locs eg_2 hP hD hS => ?_)
            have hP : va_P D vwCl [(h0, .inr (0, [.ref p0, .ref p1, .ref p2, .int (nI a), .int b4, .int b5, .ref p6, .ref p7, .ref p8])), (p6, .inl (cI, 8, .inl g_1)), (p7, .inl (cI, 8, .inl g_2))] H := hP
            have hD : va_D A [(h0, .inr (0, [.ref p0, .ref p1, .ref p2, .int (nI a), .int b4, .int b5, .ref p6, .ref p7, .ref p8])), (p6, .inl (cI, 8, .inl g_1)), (p7, .inl (cI, 8, .inl g_2))] := hD
            refine lv_aload_n hx hb dX0_add_52 rfl (lv_at hl 0 rfl) ?_
            refine lv_dup hx hb dX0_add_53 rfl ?_
            refine va_get (D := D) (ci := 0) (v := .int (nI a)) (C := RX0) (T := TX0) (N := 9) hx hb hts w_1 hown hK hP 0 rfl rfl 3 (by decide) w_2 (fun _ h9 => h9) rfl dX0_add_54 ?_
            refine lv_iconst (v := 1) hx hb dX0_add_57 (by decide) ?_
            refine sv_iadd (v := nI (a + 1)) hx hb dX0_add_58 (ax_add _ 1) ?_
            refine va_put (D := D) (ci := 0) (v := .int (nI (a + 1))) (ty := .int) (C := RX0) (T := TX0) (N := 9) hx hb hts w_1 tyX0 tyX0_ok nmX0 hown hK hP hD hS 0 rfl rfl 3 (by decide) w_2 (fun _ h9 => h9) rfl (by decide +kernel) rfl rfl (Nat.le_of_ble_eq_true rfl) dX0_add_59 (fun H locs hP hD hS => ?_)
            have hP : va_P D vwCl [(h0, .inr (0, [.ref p0, .ref p1, .ref p2, .int (nI (a + 1)), .int b4, .int b5, .ref p6, .ref p7, .ref p8])), (p6, .inl (cI, 8, .inl g_1)), (p7, .inl (cI, 8, .inl g_2))] H := hP
            have hD : va_D A [(h0, .inr (0, [.ref p0, .ref p1, .ref p2, .int (nI (a + 1)), .int b4, .int b5, .ref p6, .ref p7, .ref p8])), (p6, .inl (cI, 8, .inl g_1)), (p7, .inl (cI, 8, .inl g_2))] := hD
            refine lv_aload_n hx hb dX0_add_62 rfl (lv_at hl 0 rfl) ?_
            refine va_get (D := D) (ci := 0) (v := .int (nI (a + 1))) (C := RX0) (T := TX0) (N := 9) hx hb hts w_1 hown hK hP 0 rfl rfl 3 (by decide) w_2 (fun _ h9 => h9) rfl dX0_add_63 ?_
            refine lv_iconst (v := 1) hx hb dX0_add_66 (by decide) ?_
            refine sv_isub (v := nI a) hx hb dX0_add_67 (nI_sub1 a) ?_
            have hP9 := hP.sub (ws' := [(h0, .inr (0, [.ref p0, .ref p1, .ref p2, .int (nI (a + 1)), .int b4, .int b5, .ref p6, .ref p7, .ref p8])), (p6, .inl (cI, 8, .inl g_1)), (p7, .inl (cI, 8, .inl g_2))]) [0, 1, 2] rfl
            have hD9 := hD.sub (ws' := [(h0, .inr (0, [.ref p0, .ref p1, .ref p2, .int (nI (a + 1)), .int b4, .int b5, .ref p6, .ref p7, .ref p8])), (p6, .inl (cI, 8, .inl g_1)), (p7, .inl (cI, 8, .inl g_2))]) [0, 1, 2] (by decide) rfl
            exact W.iret (v := nI a) hx hb hr (fun t ht hW => ⟨⟨_, ((a + 1), g_1, g_2), rfl, Or.inr ⟨h6, ⟨c_10, c_17, c_21, i_lt64 c_27⟩, rfl, rfl⟩, by rw [ht]; exact hP9, va_K.moved hW.alike hK, hD9⟩, hS.F ht⟩) hS.2.2 dX0_add_68
          ·
            refine lv_iconst (v := (-1)) hx hb dX0_add_30 (by decide) ?_
            have hP9 := hP.sub (ws' := [(h0, .inr (0, [.ref p0, .ref p1, .ref p2, .int (nI a), .int b4, .int b5, .ref p6, .ref p7, .ref p8])), (p6, .inl (cI, 8, .inl f6)), (p7, .inl (cI, 8, .inl f7))]) [0, 1, 2] rfl
            have hD9 := hD.sub (ws' := [(h0, .inr (0, [.ref p0, .ref p1, .ref p2, .int (nI a), .int b4, .int b5, .ref p6, .ref p7, .ref p8])), (p6, .inl (cI, 8, .inl f6)), (p7, .inl (cI, 8, .inl f7))]) [0, 1, 2] (by decide) rfl
            exact W.iret (v := (-1)) hx hb hr (fun t ht hW => ⟨⟨_, (a, f6, f7), rfl, Or.inl ⟨rfl, rfl, Or.inr (fun h => h.2.2.2 (i_ge64 c_27))⟩, by rw [ht]; exact hP9, va_K.moved hW.alike hK, hD9⟩, hS.F ht⟩) hS.2.2 dX0_add_31

set_option maxHeartbeats 4000000 in
set_option maxRecDepth 100000 in
theorem g_X0_setLack (l : Launch) (D : va_G) (cB cI cJ cZ : ClassId) (sz : Nat) (h0 p0 p1 p2 p6 p7 p8 a : Nat) (b4 b5 : Int32) (am : Nat) (fa f8 : Nat → Int32) : Met l yX0_setLack wsX0_setLack ({ frames := 0, cells := 0, slots := 0, locals := 0 } : Room) (cPre D (aTy cB cI cJ cZ) [(h0, .inr (0, [.ref p0, .ref p1, .ref p2, .int (nI a), .int b4, .int b5, .ref p6, .ref p7, .ref p8])), (am, .inl (cI, 6, .inl fa)), (p8, .inl (cI, 64, .inl f8))] sz [.ref h0, .ref am]) (va_Qv (fun (u : (Nat → Int32)) => True) (cB_ D (aTy cB cI cJ cZ) (va_A [(h0, .inr (0, [.ref p0, .ref p1, .ref p2, .int (nI a), .int b4, .int b5, .ref p6, .ref p7, .ref p8])), (am, .inl (cI, 6, .inl fa)), (p8, .inl (cI, 64, .inl f8))] sz) (fun u => [(h0, .inr (0, [.ref p0, .ref p1, .ref p2, .int (nI a), .int b4, .int b5, .ref p6, .ref p7, .ref p8])), (am, .inl (cI, 6, .inl fa)), (p8, .inl (cI, 64, .inl u))])) (va_A [(h0, .inr (0, [.ref p0, .ref p1, .ref p2, .int (nI a), .int b4, .int b5, .ref p6, .ref p7, .ref p8])), (am, .inl (cI, 6, .inl fa)), (p8, .inl (cI, 64, .inl f8))] sz)) 0 0 (va_A [(h0, .inr (0, [.ref p0, .ref p1, .ref p2, .int (nI a), .int b4, .int b5, .ref p6, .ref p7, .ref p8])), (am, .inl (cI, 6, .inl fa)), (p8, .inl (cI, 64, .inl f8))] sz) := by
  refine Met.ofW (cc := cX0_setLack) (maxL := 4) (ret := none) (by decide) rfl ?_
  intro p e s m args below meth c s₁ B hml hv
  obtain ⟨rfl, hsz, hP, hK, hD0⟩ := hv
  have hx := B.exec
  have hb := B.bytes
  have hr := B.returns
  have hts := atoms_spec (ws := wsX0_setLack) B.pre
  have hown : s.vm.findClass RX0 = some m.cls := findClass_of_methodNamed B.named
  have hlocks := B.notSynchronized
  subst hsz
  have hD := hD0.self (sz := s.heap.size)
  generalize hAe : va_A [(h0, .inr (0, [.ref p0, .ref p1, .ref p2, .int (nI a), .int b4, .int b5, .ref p6, .ref p7, .ref p8])), (am, .inl (cI, 6, .inl fa)), (p8, .inl (cI, 64, .inl f8))] s.heap.size = A at hD ⊢
  have hA : ∀ q : Nat, s.heap.size ≤ q → A q := fun q h => by rw [← hAe]; exact Or.inr h
  have hS : va_S A s.heap s.heap [] := va_S.rf
  have hP : va_P D vwCl [(h0, .inr (0, [.ref p0, .ref p1, .ref p2, .int (nI a), .int b4, .int b5, .ref p6, .ref p7, .ref p8])), (am, .inl (cI, 6, .inl fa)), (p8, .inl (cI, 64, .inl f8))] s.heap := hP
  have w_1 : ∀ w ∈ wsX00, w ∈ wsX0_setLack := by decide +kernel
  have w_2 := hts (Cond.fieldLink RX0 27 "BlueCoats$Chest" "lack" "[I") (by decide +kernel)
  have hl := lv_entry ([.ref h0, .ref am]) (n := 4) (Nat.le_of_ble_eq_true rfl)
  rw [lg_entry_eq]
  generalize (lg_sl ([.ref h0, .ref am]) ++ List.replicate (4 - (lg_sl ([.ref h0, .ref am])).length) Slot.unset).toArray = ls at hl ⊢
  have hl : lv_has ls 4 [(0, .ref h0), (1, .ref am)] := hl
  generalize hQ : MQ below _ _ s _ _ _ = Q0
  refine lv_aload_n hx hb dX0_setLack_0 rfl (lv_at hl 0 rfl) ?_
  refine va_get (D := D) (ci := 0) (v := .ref p8) (C := RX0) (T := TX0) (N := 9) hx hb hts w_1 hown hK hP 0 rfl rfl 8 (by decide) w_2 (fun _ h9 => h9) rfl dX0_setLack_1 ?_
  refine lv_iconst (v := 0) hx hb dX0_setLack_4 (by decide) ?_
  refine lv_iconst (v := 0) hx hb dX0_setLack_5 (by decide) ?_
  refine sv_iast hx hb hK hP hD hS 2 1 rfl rfl (vp_in_iff.mpr (by decide)) dX0_setLack_6 (fun g_1 H locs eg_1 hP hD hS => ?_)
  have hP : va_P D vwCl [(h0, .inr (0, [.ref p0, .ref p1, .ref p2, .int (nI a), .int b4, .int b5, .ref p6, .ref p7, .ref p8])), (am, .inl (cI, 6, .inl fa)), (p8, .inl (cI, 64, .inl g_1))] H := hP
  have hD : va_D A [(h0, .inr (0, [.ref p0, .ref p1, .ref p2, .int (nI a), .int b4, .int b5, .ref p6, .ref p7, .ref p8])), (am, .inl (cI, 6, .inl fa)), (p8, .inl (cI, 64, .inl g_1))] := hD
  refine lv_iconst (v := 0) hx hb dX0_setLack_7 (by decide) ?_
  refine lv_istore_n (lv' := [(2, .int 0), (0, .ref h0), (1, .ref am)]) hx hb dX0_setLack_8 rfl hl (by decide) rfl (fun ls hl => ?_)
  refine lv_iload_n hx hb dX0_setLack_9 rfl (lv_at hl 0 rfl) ?_
  refine lv_bipush (v := 6) hx hb dX0_setLack_10 (by decide) ?_
  refine lv_icmp_ge (tgt := 62) hx hb dX0_setLack_12 (by decide) (fun h => absurd h (by decide)) (fun _ => ?_)
  refine lv_iload_n hx hb dX0_setLack_15 rfl (lv_at hl 0 rfl) ?_
  refine lv_aload_n hx hb dX0_setLack_16 rfl (lv_at hl 2 rfl) ?_
  refine va_alen (v := 6) hx hb hK hP 1 1 rfl rfl rfl dX0_setLack_17 ?_
  refine lv_icmp_ge (tgt := 62) hx hb dX0_setLack_18 (by decide) (fun h => absurd h (by decide)) (fun _ => ?_)
  refine lv_iconst (v := 0) hx hb dX0_setLack_21 (by decide) ?_
  refine lv_istore_n (lv' := [(3, .int 0), (2, .int 0), (0, .ref h0), (1, .ref am)]) hx hb dX0_setLack_22 rfl hl (by decide) rfl (fun ls hl => ?_)
  have L_2 : ∀ (n : Nat) (i_23 : Int32) (f_p8_23 : Nat → Int32) (H : Heap) (locs : List Loc) (ls : Array Slot), (Int32.toInt 1 - i_23.toInt).toNat < n → 0 ≤ i_23.toInt → va_P D vwCl [(h0, .inr (0, [.ref p0, .ref p1, .ref p2, .int (nI a), .int b4, .int b5, .ref p6, .ref p7, .ref p8])), (am, .inl (cI, 6, .inl fa)), (p8, .inl (cI, 64, .inl f_p8_23))] H → va_D A [(h0, .inr (0, [.ref p0, .ref p1, .ref p2, .int (nI a), .int b4, .int b5, .ref p6, .ref p7, .ref p8])), (am, .inl (cI, 6, .inl fa)), (p8, .inl (cI, 64, .inl f_p8_23))] → va_S A s.heap H locs → lv_has ls 4 [(0, .ref h0), (1, .ref am), (2, .int 0), (3, .int i_23)] → W p l e (headSpec wsX0_setLack ({ frames := 0, cells := 0, slots := 0, locals := 0 } : Room)).room s m ([.ref h0, .ref am] : List Value).toArray below meth c H locs 0 0 Q0 (F0 m 23 ls []) := by
    intro n
    induction n with
    | zero => intro i_23 f_p8_23 H locs ls hn_23 hlo_23 hP hD hS hl; exact absurd hn_23 (Nat.not_lt_zero _)
    | succ n ih_L_2 =>
      intro i_23 f_p8_23 H locs ls hn_23 hlo_23 hP hD hS hl
      refine lv_iload_n hx hb dX0_setLack_23 rfl (lv_at hl 3 rfl) ?_
      refine lv_iconst (v := 1) hx hb dX0_setLack_24 (by decide) ?_
      refine lv_iload_n hx hb dX0_setLack_25 rfl (lv_at hl 2 rfl) ?_
      refine sv_ishl (v := 1) hx hb dX0_setLack_26 (by decide) ?_
      refine lv_icmp_ge (tgt := 56) hx hb dX0_setLack_27 (by decide) (fun c_27 => ?_) (fun c_27 => ?_)
      ·
        refine lv_iinc (v := 1) (lv' := [(2, .int 1), (0, .ref h0), (1, .ref am), (3, .int i_23)]) hx hb dX0_setLack_56 hl (k := 2) rfl (by decide) (by decide) rfl (fun ls hl => ?_)
        refine lv_goto (tgt := 9) hx hb dX0_setLack_59 (by decide) ?_
        refine lv_iload_n hx hb dX0_setLack_9 rfl (lv_at hl 0 rfl) ?_
        refine lv_bipush (v := 6) hx hb dX0_setLack_10 (by decide) ?_
        refine lv_icmp_ge (tgt := 62) hx hb dX0_setLack_12 (by decide) (fun h => absurd h (by decide)) (fun _ => ?_)
        refine lv_iload_n hx hb dX0_setLack_15 rfl (lv_at hl 0 rfl) ?_
        refine lv_aload_n hx hb dX0_setLack_16 rfl (lv_at hl 2 rfl) ?_
        refine va_alen (v := 6) hx hb hK hP 1 1 rfl rfl rfl dX0_setLack_17 ?_
        refine lv_icmp_ge (tgt := 62) hx hb dX0_setLack_18 (by decide) (fun h => absurd h (by decide)) (fun _ => ?_)
        refine lv_iconst (v := 0) hx hb dX0_setLack_21 (by decide) ?_
        refine lv_istore_n (lv' := [(3, .int 0), (2, .int 1), (0, .ref h0), (1, .ref am)]) hx hb dX0_setLack_22 rfl hl (by decide) rfl (fun ls hl => ?_)
        have L_3 : ∀ (n : Nat) (i_23 : Int32) (f_p8_23 : Nat → Int32) (H : Heap) (locs : List Loc) (ls : Array Slot), (Int32.toInt 2 - i_23.toInt).toNat < n → 0 ≤ i_23.toInt → va_P D vwCl [(h0, .inr (0, [.ref p0, .ref p1, .ref p2, .int (nI a), .int b4, .int b5, .ref p6, .ref p7, .ref p8])), (am, .inl (cI, 6, .inl fa)), (p8, .inl (cI, 64, .inl f_p8_23))] H → va_D A [(h0, .inr (0, [.ref p0, .ref p1, .ref p2, .int (nI a), .int b4, .int b5, .ref p6, .ref p7, .ref p8])), (am, .inl (cI, 6, .inl fa)), (p8, .inl (cI, 64, .inl f_p8_23))] → va_S A s.heap H locs → lv_has ls 4 [(0, .ref h0), (1, .ref am), (2, .int 1), (3, .int i_23)] → W p l e (headSpec wsX0_setLack ({ frames := 0, cells := 0, slots := 0, locals := 0 } : Room)).room s m ([.ref h0, .ref am] : List Value).toArray below meth c H locs 0 0 Q0 (F0 m 23 ls []) := by
          intro n
          induction n with
          | zero => intro i_23 f_p8_23 H locs ls hn_23 hlo_23 hP hD hS hl; exact absurd hn_23 (Nat.not_lt_zero _)
          | succ n ih_L_3 =>
            intro i_23 f_p8_23 H locs ls hn_23 hlo_23 hP hD hS hl
            refine lv_iload_n hx hb dX0_setLack_23 rfl (lv_at hl 3 rfl) ?_
            refine lv_iconst (v := 1) hx hb dX0_setLack_24 (by decide) ?_
            refine lv_iload_n hx hb dX0_setLack_25 rfl (lv_at hl 2 rfl) ?_
            refine sv_ishl (v := 2) hx hb dX0_setLack_26 (by decide) ?_
            refine lv_icmp_ge (tgt := 56) hx hb dX0_setLack_27 (by decide) (fun c_27 => ?_) (fun c_27 => ?_)
            ·
              refine lv_iinc (v := 2) (lv' := [(2, .int 2), (0, .ref h0), (1, .ref am), (3, .int i_23)]) hx hb dX0_setLack_56 hl (k := 2) rfl (by decide) (by decide) rfl (fun ls hl => ?_)
              refine lv_goto (tgt := 9) hx hb dX0_setLack_59 (by decide) ?_
              refine lv_iload_n hx hb dX0_setLack_9 rfl (lv_at hl 0 rfl) ?_
              refine lv_bipush (v := 6) hx hb dX0_setLack_10 (by decide) ?_
              refine lv_icmp_ge (tgt := 62) hx hb dX0_setLack_12 (by decide) (fun h => absurd h (by decide)) (fun _ => ?_)
              refine lv_iload_n hx hb dX0_setLack_15 rfl (lv_at hl 0 rfl) ?_
              refine lv_aload_n hx hb dX0_setLack_16 rfl (lv_at hl 2 rfl) ?_
              refine va_alen (v := 6) hx hb hK hP 1 1 rfl rfl rfl dX0_setLack_17 ?_
              refine lv_icmp_ge (tgt := 62) hx hb dX0_setLack_18 (by decide) (fun h => absurd h (by decide)) (fun _ => ?_)
              refine lv_iconst (v := 0) hx hb dX0_setLack_21 (by decide) ?_
              refine lv_istore_n (lv' := [(3, .int 0), (2, .int 2), (0, .ref h0), (1, .ref am)]) hx hb dX0_setLack_22 rfl hl (by decide) rfl (fun ls hl => ?_)
              have L_4 : ∀ (n : Nat) (i_23 : Int32) (f_p8_23 : Nat → Int32) (H : Heap) (locs : List Loc) (ls : Array Slot), (Int32.toInt 4 - i_23.toInt).toNat < n → 0 ≤ i_23.toInt → va_P D vwCl [(h0, .inr (0, [.ref p0, .ref p1, .ref p2, .int (nI a), .int b4, .int b5, .ref p6, .ref p7, .ref p8])), (am, .inl (cI, 6, .inl fa)), (p8, .inl (cI, 64, .inl f_p8_23))] H → va_D A [(h0, .inr (0, [.ref p0, .ref p1, .ref p2, .int (nI a), .int b4, .int b5, .ref p6, .ref p7, .ref p8])), (am, .inl (cI, 6, .inl fa)), (p8, .inl (cI, 64, .inl f_p8_23))] → va_S A s.heap H locs → lv_has ls 4 [(0, .ref h0), (1, .ref am), (2, .int 2), (3, .int i_23)] → W p l e (headSpec wsX0_setLack ({ frames := 0, cells := 0, slots := 0, locals := 0 } : Room)).room s m ([.ref h0, .ref am] : List Value).toArray below meth c H locs 0 0 Q0 (F0 m 23 ls []) := by
                intro n
                induction n with
                | zero => intro i_23 f_p8_23 H locs ls hn_23 hlo_23 hP hD hS hl; exact absurd hn_23 (Nat.not_lt_zero _)
                | succ n ih_L_4 =>
                  intro i_23 f_p8_23 H locs ls hn_23 hlo_23 hP hD hS hl
                  refine lv_iload_n hx hb dX0_setLack_23 rfl (lv_at hl 3 rfl) ?_
                  refine lv_iconst (v := 1) hx hb dX0_setLack_24 (by decide) ?_
                  refine lv_iload_n hx hb dX0_setLack_25 rfl (lv_at hl 2 rfl) ?_
                  refine sv_ishl (v := 4) hx hb dX0_setLack_26 (by decide) ?_
                  refine lv_icmp_ge (tgt := 56) hx hb dX0_setLack_27 (by decide) (fun c_27 => ?_) (fun c_27 => ?_)
                  ·
                    refine lv_iinc (v := 3) (lv' := [(2, .int 3), (0, .ref h0), (1, .ref am), (3, .int i_23)]) hx hb dX0_setLack_56 hl (k := 2) rfl (by decide) (by decide) rfl (fun ls hl => ?_)
                    refine lv_goto (tgt := 9) hx hb dX0_setLack_59 (by decide) ?_
                    refine lv_iload_n hx hb dX0_setLack_9 rfl (lv_at hl 0 rfl) ?_
                    refine lv_bipush (v := 6) hx hb dX0_setLack_10 (by decide) ?_
                    refine lv_icmp_ge (tgt := 62) hx hb dX0_setLack_12 (by decide) (fun h => absurd h (by decide)) (fun _ => ?_)
                    refine lv_iload_n hx hb dX0_setLack_15 rfl (lv_at hl 0 rfl) ?_
                    refine lv_aload_n hx hb dX0_setLack_16 rfl (lv_at hl 2 rfl) ?_
                    refine va_alen (v := 6) hx hb hK hP 1 1 rfl rfl rfl dX0_setLack_17 ?_
                    refine lv_icmp_ge (tgt := 62) hx hb dX0_setLack_18 (by decide) (fun h => absurd h (by decide)) (fun _ => ?_)
                    refine lv_iconst (v := 0) hx hb dX0_setLack_21 (by decide) ?_
                    refine lv_istore_n (lv' := [(3, .int 0), (2, .int 3), (0, .ref h0), (1, .ref am)]) hx hb dX0_setLack_22 rfl hl (by decide) rfl (fun ls hl => ?_)
                    have L_5 : ∀ (n : Nat) (i_23 : Int32) (f_p8_23 : Nat → Int32) (H : Heap) (locs : List Loc) (ls : Array Slot), (Int32.toInt 8 - i_23.toInt).toNat < n → 0 ≤ i_23.toInt → va_P D vwCl [(h0, .inr (0, [.ref p0, .ref p1, .ref p2, .int (nI a), .int b4, .int b5, .ref p6, .ref p7, .ref p8])), (am, .inl (cI, 6, .inl fa)), (p8, .inl (cI, 64, .inl f_p8_23))] H → va_D A [(h0, .inr (0, [.ref p0, .ref p1, .ref p2, .int (nI a), .int b4, .int b5, .ref p6, .ref p7, .ref p8])), (am, .inl (cI, 6, .inl fa)), (p8, .inl (cI, 64, .inl f_p8_23))] → va_S A s.heap H locs → lv_has ls 4 [(0, .ref h0), (1, .ref am), (2, .int 3), (3, .int i_23)] → W p l e (headSpec wsX0_setLack ({ frames := 0, cells := 0, slots := 0, locals := 0 } : Room)).room s m ([.ref h0, .ref am] : List Value).toArray below meth c H locs 0 0 Q0 (F0 m 23 ls []) := by
                      intro n
                      induction n with
                      | zero => intro i_23 f_p8_23 H locs ls hn_23 hlo_23 hP hD hS hl; exact absurd hn_23 (Nat.not_lt_zero _)
                      | succ n ih_L_5 =>
                        intro i_23 f_p8_23 H locs ls hn_23 hlo_23 hP hD hS hl
                        refine lv_iload_n hx hb dX0_setLack_23 rfl (lv_at hl 3 rfl) ?_
                        refine lv_iconst (v := 1) hx hb dX0_setLack_24 (by decide) ?_
                        refine lv_iload_n hx hb dX0_setLack_25 rfl (lv_at hl 2 rfl) ?_
                        refine sv_ishl (v := 8) hx hb dX0_setLack_26 (by decide) ?_
                        refine lv_icmp_ge (tgt := 56) hx hb dX0_setLack_27 (by decide) (fun c_27 => ?_) (fun c_27 => ?_)
                        ·
                          refine lv_iinc (v := 4) (lv' := [(2, .int 4), (0, .ref h0), (1, .ref am), (3, .int i_23)]) hx hb dX0_setLack_56 hl (k := 2) rfl (by decide) (by decide) rfl (fun ls hl => ?_)
                          refine lv_goto (tgt := 9) hx hb dX0_setLack_59 (by decide) ?_
                          refine lv_iload_n hx hb dX0_setLack_9 rfl (lv_at hl 0 rfl) ?_
                          refine lv_bipush (v := 6) hx hb dX0_setLack_10 (by decide) ?_
                          refine lv_icmp_ge (tgt := 62) hx hb dX0_setLack_12 (by decide) (fun h => absurd h (by decide)) (fun _ => ?_)
                          refine lv_iload_n hx hb dX0_setLack_15 rfl (lv_at hl 0 rfl) ?_
                          refine lv_aload_n hx hb dX0_setLack_16 rfl (lv_at hl 2 rfl) ?_
                          refine va_alen (v := 6) hx hb hK hP 1 1 rfl rfl rfl dX0_setLack_17 ?_
                          refine lv_icmp_ge (tgt := 62) hx hb dX0_setLack_18 (by decide) (fun h => absurd h (by decide)) (fun _ => ?_)
                          refine lv_iconst (v := 0) hx hb dX0_setLack_21 (by decide) ?_
                          refine lv_istore_n (lv' := [(3, .int 0), (2, .int 4), (0, .ref h0), (1, .ref am)]) hx hb dX0_setLack_22 rfl hl (by decide) rfl (fun ls hl => ?_)
                          have L_6 : ∀ (n : Nat) (i_23 : Int32) (f_p8_23 : Nat → Int32) (H : Heap) (locs : List Loc) (ls : Array Slot), (Int32.toInt 16 - i_23.toInt).toNat < n → 0 ≤ i_23.toInt → va_P D vwCl [(h0, .inr (0, [.ref p0, .ref p1, .ref p2, .int (nI a), .int b4, .int b5, .ref p6, .ref p7, .ref p8])), (am, .inl (cI, 6, .inl fa)), (p8, .inl (cI, 64, .inl f_p8_23))] H → va_D A [(h0, .inr (0, [.ref p0, .ref p1, .ref p2, .int (nI a), .int b4, .int b5, .ref p6, .ref p7, .ref p8])), (am, .inl (cI, 6, .inl fa)), (p8, .inl (cI, 64, .inl f_p8_23))] → va_S A s.heap H locs → lv_has ls 4 [(0, .ref h0), (1, .ref am), (2, .int 4), (3, .int i_23)] → W p l e (headSpec wsX0_setLack ({ frames := 0, cells := 0, slots := 0, locals := 0 } : Room)).room s m ([.ref h0, .ref am] : List Value).toArray below meth c H locs 0 0 Q0 (F0 m 23 ls []) := by
                            intro n
                            induction n with
                            | zero => intro i_23 f_p8_23 H locs ls hn_23 hlo_23 hP hD hS hl; exact absurd hn_23 (Nat.not_lt_zero _)
                            | succ n ih_L_6 =>
                              intro i_23 f_p8_23 H locs ls hn_23 hlo_23 hP hD hS hl
                              refine lv_iload_n hx hb dX0_setLack_23 rfl (lv_at hl 3 rfl) ?_
                              refine lv_iconst (v := 1) hx hb dX0_setLack_24 (by decide) ?_
                              refine lv_iload_n hx hb dX0_setLack_25 rfl (lv_at hl 2 rfl) ?_
                              refine sv_ishl (v := 16) hx hb dX0_setLack_26 (by decide) ?_
                              refine lv_icmp_ge (tgt := 56) hx hb dX0_setLack_27 (by decide) (fun c_27 => ?_) (fun c_27 => ?_)
                              ·
                                refine lv_iinc (v := 5) (lv' := [(2, .int 5), (0, .ref h0), (1, .ref am), (3, .int i_23)]) hx hb dX0_setLack_56 hl (k := 2) rfl (by decide) (by decide) rfl (fun ls hl => ?_)
                                refine lv_goto (tgt := 9) hx hb dX0_setLack_59 (by decide) ?_
                                refine lv_iload_n hx hb dX0_setLack_9 rfl (lv_at hl 0 rfl) ?_
                                refine lv_bipush (v := 6) hx hb dX0_setLack_10 (by decide) ?_
                                refine lv_icmp_ge (tgt := 62) hx hb dX0_setLack_12 (by decide) (fun h => absurd h (by decide)) (fun _ => ?_)
                                refine lv_iload_n hx hb dX0_setLack_15 rfl (lv_at hl 0 rfl) ?_
                                refine lv_aload_n hx hb dX0_setLack_16 rfl (lv_at hl 2 rfl) ?_
                                refine va_alen (v := 6) hx hb hK hP 1 1 rfl rfl rfl dX0_setLack_17 ?_
                                refine lv_icmp_ge (tgt := 62) hx hb dX0_setLack_18 (by decide) (fun h => absurd h (by decide)) (fun _ => ?_)
                                refine lv_iconst (v := 0) hx hb dX0_setLack_21 (by decide) ?_
                                refine lv_istore_n (lv' := [(3, .int 0), (2, .int 5), (0, .ref h0), (1, .ref am)]) hx hb dX0_setLack_22 rfl hl (by decide) rfl (fun ls hl => ?_)
                                have L_7 : ∀ (n : Nat) (i_23 : Int32) (f_p8_23 : Nat → Int32) (H : Heap) (locs : List Loc) (ls : Array Slot), (Int32.toInt 32 - i_23.toInt).toNat < n → 0 ≤ i_23.toInt → va_P D vwCl [(h0, .inr (0, [.ref p0, .ref p1, .ref p2, .int (nI a), .int b4, .int b5, .ref p6, .ref p7, .ref p8])), (am, .inl (cI, 6, .inl fa)), (p8, .inl (cI, 64, .inl f_p8_23))] H → va_D A [(h0, .inr (0, [.ref p0, .ref p1, .ref p2, .int (nI a), .int b4, .int b5, .ref p6, .ref p7, .ref p8])), (am, .inl (cI, 6, .inl fa)), (p8, .inl (cI, 64, .inl f_p8_23))] → va_S A s.heap H locs → lv_has ls 4 [(0, .ref h0), (1, .ref am), (2, .int 5), (3, .int i_23)] → W p l e (headSpec wsX0_setLack ({ frames := 0, cells := 0, slots := 0, locals := 0 } : Room)).room s m ([.ref h0, .ref am] : List Value).toArray below meth c H locs 0 0 Q0 (F0 m 23 ls []) := by
                                  intro n
                                  induction n with
                                  | zero => intro i_23 f_p8_23 H locs ls hn_23 hlo_23 hP hD hS hl; exact absurd hn_23 (Nat.not_lt_zero _)
                                  | succ n ih_L_7 =>
                                    intro i_23 f_p8_23 H locs ls hn_23 hlo_23 hP hD hS hl
                                    refine lv_iload_n hx hb dX0_setLack_23 rfl (lv_at hl 3 rfl) ?_
                                    refine lv_iconst (v := 1) hx hb dX0_setLack_24 (by decide) ?_
                                    refine lv_iload_n hx hb dX0_setLack_25 rfl (lv_at hl 2 rfl) ?_
                                    refine sv_ishl (v := 32) hx hb dX0_setLack_26 (by decide) ?_
                                    refine lv_icmp_ge (tgt := 56) hx hb dX0_setLack_27 (by decide) (fun c_27 => ?_) (fun c_27 => ?_)
                                    ·
                                      refine lv_iinc (v := 6) (lv' := [(2, .int 6), (0, .ref h0), (1, .ref am), (3, .int i_23)]) hx hb dX0_setLack_56 hl (k := 2) rfl (by decide) (by decide) rfl (fun ls hl => ?_)
                                      refine lv_goto (tgt := 9) hx hb dX0_setLack_59 (by decide) ?_
                                      refine lv_iload_n hx hb dX0_setLack_9 rfl (lv_at hl 0 rfl) ?_
                                      refine lv_bipush (v := 6) hx hb dX0_setLack_10 (by decide) ?_
                                      refine lv_icmp_ge (tgt := 62) hx hb dX0_setLack_12 (by decide) (fun _ => ?_) (fun h => absurd (by decide) h)
                                      rw [← hQ]
                                      have hP9 := hP.sub (ws' := [(h0, .inr (0, [.ref p0, .ref p1, .ref p2, .int (nI a), .int b4, .int b5, .ref p6, .ref p7, .ref p8])), (am, .inl (cI, 6, .inl fa)), (p8, .inl (cI, 64, .inl f_p8_23))]) [0, 1, 2] rfl
                                      have hD9 := hD.sub (ws' := [(h0, .inr (0, [.ref p0, .ref p1, .ref p2, .int (nI a), .int b4, .int b5, .ref p6, .ref p7, .ref p8])), (am, .inl (cI, 6, .inl fa)), (p8, .inl (cI, 64, .inl f_p8_23))]) [0, 1, 2] (by decide) rfl
                                      exact W.vret hx hb hr (fun t ht hW => ⟨⟨f_p8_23, rfl, trivial, by rw [ht]; exact hP9, va_K.moved hW.alike hK, hD9⟩, hS.F ht⟩) hS.2.2 dX0_setLack_62
                                    ·
                                      refine lv_aload_n hx hb dX0_setLack_30 rfl (lv_at hl 0 rfl) ?_
                                      refine va_get (D := D) (ci := 0) (v := .ref p8) (C := RX0) (T := TX0) (N := 9) hx hb hts w_1 hown hK hP 0 rfl rfl 8 (by decide) w_2 (fun _ h9 => h9) rfl dX0_setLack_31 ?_
                                      refine lv_iload_n hx hb dX0_setLack_34 rfl (lv_at hl 3 rfl) ?_
                                      refine lv_iconst (v := 1) hx hb dX0_setLack_35 (by decide) ?_
                                      refine lv_iload_n hx hb dX0_setLack_36 rfl (lv_at hl 2 rfl) ?_
                                      refine sv_ishl (v := 32) hx hb dX0_setLack_37 (by decide) ?_
                                      refine sv_ior (v := i_23 ||| 32) hx hb dX0_setLack_38 rfl ?_
                                      refine lv_topi (fun v_8 ev_8 => ?_)
                                      refine lv_aload_n hx hb dX0_setLack_39 rfl (lv_at hl 0 rfl) ?_
                                      refine va_get (D := D) (ci := 0) (v := .ref p8) (C := RX0) (T := TX0) (N := 9) hx hb hts w_1 hown hK hP 0 rfl rfl 8 (by decide) w_2 (fun _ h9 => h9) rfl dX0_setLack_40 ?_
                                      refine lv_iload_n hx hb dX0_setLack_43 rfl (lv_at hl 3 rfl) ?_
                                      refine sv_iald (v := f_p8_23 i_23.toNatClampNeg) hx hb hK hP 2 1 rfl rfl (lp_in hlo_23 c_27 (by decide)) rfl dX0_setLack_44 ?_
                                      refine lv_topi (fun v_9 ev_9 => ?_)
                                      refine lv_aload_n hx hb dX0_setLack_45 rfl (lv_at hl 1 rfl) ?_
                                      refine lv_iload_n hx hb dX0_setLack_46 rfl (lv_at hl 2 rfl) ?_
                                      refine sv_iald (v := fa (5 : Int32).toNatClampNeg) hx hb hK hP 1 1 rfl rfl (vp_in_iff.mpr (by decide)) rfl dX0_setLack_47 ?_
                                      refine lv_topi (fun v_10 ev_10 => ?_)
                                      refine sv_iadd (v := v_9 + v_10) hx hb dX0_setLack_48 rfl ?_
                                      refine lv_topi (fun v_11 ev_11 => ?_)
                                      refine sv_iast hx hb hK hP hD hS 2 1 rfl rfl (by rw [ev_8]; exact (i_or64 (lp_in hlo_23 c_27 (by decide)) (vp_in_iff.mpr (by decide)))) dX0_setLack_49 (fun g_12 H locs eg_12 hP hD hS => ?_)
                                      have hP : va_P D vwCl [(h0, .inr (0, [.ref p0, .ref p1, .ref p2, .int (nI a), .int b4, .int b5, .ref p6, .ref p7, .ref p8])), (am, .inl (cI, 6, .inl fa)), (p8, .inl (cI, 64, .inl g_12))] H := hP
                                      have hD : va_D A [(h0, .inr (0, [.ref p0, .ref p1, .ref p2, .int (nI a), .int b4, .int b5, .ref p6, .ref p7, .ref p8])), (am, .inl (cI, 6, .inl fa)), (p8, .inl (cI, 64, .inl g_12))] := hD
                                      refine lv_iinc (v := i_23 + 1) (lv' := [(3, .int (i_23 + 1)), (0, .ref h0), (1, .ref am), (2, .int 5)]) hx hb dX0_setLack_50 hl (k := 3) rfl rfl (by decide) rfl (fun ls hl => ?_)
                                      refine lv_goto (tgt := 23) hx hb dX0_setLack_53 (by decide) ?_
                                      exact ih_L_7 (i_23 + 1) g_12 _ _ ls (lp_dec hn_23 c_27) (by have h9 := lp_inc c_27; omega) hP hD hS (lv_sub hl [1, 2, 3, 0] rfl)
                                exact L_7 _ 0 f_p8_23 _ _ ls (Nat.lt_succ_self _) (by decide) hP hD hS (lv_sub hl [2, 3, 1, 0] rfl)
                              ·
                                refine lv_aload_n hx hb dX0_setLack_30 rfl (lv_at hl 0 rfl) ?_
                                refine va_get (D := D) (ci := 0) (v := .ref p8) (C := RX0) (T := TX0) (N := 9) hx hb hts w_1 hown hK hP 0 rfl rfl 8 (by decide) w_2 (fun _ h9 => h9) rfl dX0_setLack_31 ?_
                                refine lv_iload_n hx hb dX0_setLack_34 rfl (lv_at hl 3 rfl) ?_
                                refine lv_iconst (v := 1) hx hb dX0_setLack_35 (by decide) ?_
                                refine lv_iload_n hx hb dX0_setLack_36 rfl (lv_at hl 2 rfl) ?_
                                refine sv_ishl (v := 16) hx hb dX0_setLack_37 (by decide) ?_
                                refine sv_ior (v := i_23 ||| 16) hx hb dX0_setLack_38 rfl ?_
                                refine lv_topi (fun v_13 ev_13 => ?_)
                                refine lv_aload_n hx hb dX0_setLack_39 rfl (lv_at hl 0 rfl) ?_
                                refine va_get (D := D) (ci := 0) (v := .ref p8) (C := RX0) (T := TX0) (N := 9) hx hb hts w_1 hown hK hP 0 rfl rfl 8 (by decide) w_2 (fun _ h9 => h9) rfl dX0_setLack_40 ?_
                                refine lv_iload_n hx hb dX0_setLack_43 rfl (lv_at hl 3 rfl) ?_
                                refine sv_iald (v := f_p8_23 i_23.toNatClampNeg) hx hb hK hP 2 1 rfl rfl (lp_in hlo_23 c_27 (by decide)) rfl dX0_setLack_44 ?_
                                refine lv_topi (fun v_14 ev_14 => ?_)
                                refine lv_aload_n hx hb dX0_setLack_45 rfl (lv_at hl 1 rfl) ?_
                                refine lv_iload_n hx hb dX0_setLack_46 rfl (lv_at hl 2 rfl) ?_
                                refine sv_iald (v := fa (4 : Int32).toNatClampNeg) hx hb hK hP 1 1 rfl rfl (vp_in_iff.mpr (by decide)) rfl dX0_setLack_47 ?_
                                refine lv_topi (fun v_15 ev_15 => ?_)
                                refine sv_iadd (v := v_14 + v_15) hx hb dX0_setLack_48 rfl ?_
                                refine lv_topi (fun v_16 ev_16 => ?_)
                                refine sv_iast hx hb hK hP hD hS 2 1 rfl rfl (by rw [ev_13]; exact (i_or64 (lp_in hlo_23 c_27 (by decide)) (vp_in_iff.mpr (by decide)))) dX0_setLack_49 (fun g_17 H locs eg_17 hP hD hS => ?_)
                                have hP : va_P D vwCl [(h0, .inr (0, [.ref p0, .ref p1, .ref p2, .int (nI a), .int b4, .int b5, .ref p6, .ref p7, .ref p8])), (am, .inl (cI, 6, .inl fa)), (p8, .inl (cI, 64, .inl g_17))] H := hP
                                have hD : va_D A [(h0, .inr (0, [.ref p0, .ref p1, .ref p2, .int (nI a), .int b4, .int b5, .ref p6, .ref p7, .ref p8])), (am, .inl (cI, 6, .inl fa)), (p8, .inl (cI, 64, .inl g_17))] := hD
                                refine lv_iinc (v := i_23 + 1) (lv' := [(3, .int (i_23 + 1)), (0, .ref h0), (1, .ref am), (2, .int 4)]) hx hb dX0_setLack_50 hl (k := 3) rfl rfl (by decide) rfl (fun ls hl => ?_)
                                refine lv_goto (tgt := 23) hx hb dX0_setLack_53 (by decide) ?_
                                exact ih_L_6 (i_23 + 1) g_17 _ _ ls (lp_dec hn_23 c_27) (by have h9 := lp_inc c_27; omega) hP hD hS (lv_sub hl [1, 2, 3, 0] rfl)
                          exact L_6 _ 0 f_p8_23 _ _ ls (Nat.lt_succ_self _) (by decide) hP hD hS (lv_sub hl [2, 3, 1, 0] rfl)
                        ·
                          refine lv_aload_n hx hb dX0_setLack_30 rfl (lv_at hl 0 rfl) ?_
                          refine va_get (D := D) (ci := 0) (v := .ref p8) (C := RX0) (T := TX0) (N := 9) hx hb hts w_1 hown hK hP 0 rfl rfl 8 (by decide) w_2 (fun _ h9 => h9) rfl dX0_setLack_31 ?_
                          refine lv_iload_n hx hb dX0_setLack_34 rfl (lv_at hl 3 rfl) ?_
                          refine lv_iconst (v := 1) hx hb dX0_setLack_35 (by decide) ?_
                          refine lv_iload_n hx hb dX0_setLack_36 rfl (lv_at hl 2 rfl) ?_
                          refine sv_ishl (v := 8) hx hb dX0_setLack_37 (by decide) ?_
                          refine sv_ior (v := i_23 ||| 8) hx hb dX0_setLack_38 rfl ?_
                          refine lv_topi (fun v_18 ev_18 => ?_)
                          refine lv_aload_n hx hb dX0_setLack_39 rfl (lv_at hl 0 rfl) ?_
                          refine va_get (D := D) (ci := 0) (v := .ref p8) (C := RX0) (T := TX0) (N := 9) hx hb hts w_1 hown hK hP 0 rfl rfl 8 (by decide) w_2 (fun _ h9 => h9) rfl dX0_setLack_40 ?_
                          refine lv_iload_n hx hb dX0_setLack_43 rfl (lv_at hl 3 rfl) ?_
                          refine sv_iald (v := f_p8_23 i_23.toNatClampNeg) hx hb hK hP 2 1 rfl rfl (lp_in hlo_23 c_27 (by decide)) rfl dX0_setLack_44 ?_
                          refine lv_topi (fun v_19 ev_19 => ?_)
                          refine lv_aload_n hx hb dX0_setLack_45 rfl (lv_at hl 1 rfl) ?_
                          refine lv_iload_n hx hb dX0_setLack_46 rfl (lv_at hl 2 rfl) ?_
                          refine sv_iald (v := fa (3 : Int32).toNatClampNeg) hx hb hK hP 1 1 rfl rfl (vp_in_iff.mpr (by decide)) rfl dX0_setLack_47 ?_
                          refine lv_topi (fun v_20 ev_20 => ?_)
                          refine sv_iadd (v := v_19 + v_20) hx hb dX0_setLack_48 rfl ?_
                          refine lv_topi (fun v_21 ev_21 => ?_)
                          refine sv_iast hx hb hK hP hD hS 2 1 rfl rfl (by rw [ev_18]; exact (i_or64 (lp_in hlo_23 c_27 (by decide)) (vp_in_iff.mpr (by decide)))) dX0_setLack_49 (fun g_22 H locs eg_22 hP hD hS => ?_)
                          have hP : va_P D vwCl [(h0, .inr (0, [.ref p0, .ref p1, .ref p2, .int (nI a), .int b4, .int b5, .ref p6, .ref p7, .ref p8])), (am, .inl (cI, 6, .inl fa)), (p8, .inl (cI, 64, .inl g_22))] H := hP
                          have hD : va_D A [(h0, .inr (0, [.ref p0, .ref p1, .ref p2, .int (nI a), .int b4, .int b5, .ref p6, .ref p7, .ref p8])), (am, .inl (cI, 6, .inl fa)), (p8, .inl (cI, 64, .inl g_22))] := hD
                          refine lv_iinc (v := i_23 + 1) (lv' := [(3, .int (i_23 + 1)), (0, .ref h0), (1, .ref am), (2, .int 3)]) hx hb dX0_setLack_50 hl (k := 3) rfl rfl (by decide) rfl (fun ls hl => ?_)
                          refine lv_goto (tgt := 23) hx hb dX0_setLack_53 (by decide) ?_
                          exact ih_L_5 (i_23 + 1) g_22 _ _ ls (lp_dec hn_23 c_27) (by have h9 := lp_inc c_27; omega) hP hD hS (lv_sub hl [1, 2, 3, 0] rfl)
                    exact L_5 _ 0 f_p8_23 _ _ ls (Nat.lt_succ_self _) (by decide) hP hD hS (lv_sub hl [2, 3, 1, 0] rfl)
                  ·
                    refine lv_aload_n hx hb dX0_setLack_30 rfl (lv_at hl 0 rfl) ?_
                    refine va_get (D := D) (ci := 0) (v := .ref p8) (C := RX0) (T := TX0) (N := 9) hx hb hts w_1 hown hK hP 0 rfl rfl 8 (by decide) w_2 (fun _ h9 => h9) rfl dX0_setLack_31 ?_
                    refine lv_iload_n hx hb dX0_setLack_34 rfl (lv_at hl 3 rfl) ?_
                    refine lv_iconst (v := 1) hx hb dX0_setLack_35 (by decide) ?_
                    refine lv_iload_n hx hb dX0_setLack_36 rfl (lv_at hl 2 rfl) ?_
                    refine sv_ishl (v := 4) hx hb dX0_setLack_37 (by decide) ?_
                    refine sv_ior (v := i_23 ||| 4) hx hb dX0_setLack_38 rfl ?_
                    refine lv_topi (fun v_23 ev_23 => ?_)
                    refine lv_aload_n hx hb dX0_setLack_39 rfl (lv_at hl 0 rfl) ?_
                    refine va_get (D := D) (ci := 0) (v := .ref p8) (C := RX0) (T := TX0) (N := 9) hx hb hts w_1 hown hK hP 0 rfl rfl 8 (by decide) w_2 (fun _ h9 => h9) rfl dX0_setLack_40 ?_
                    refine lv_iload_n hx hb dX0_setLack_43 rfl (lv_at hl 3 rfl) ?_
                    refine sv_iald (v := f_p8_23 i_23.toNatClampNeg) hx hb hK hP 2 1 rfl rfl (lp_in hlo_23 c_27 (by decide)) rfl dX0_setLack_44 ?_
                    refine lv_topi (fun v_24 ev_24 => ?_)
                    refine lv_aload_n hx hb dX0_setLack_45 rfl (lv_at hl 1 rfl) ?_
                    refine lv_iload_n hx hb dX0_setLack_46 rfl (lv_at hl 2 rfl) ?_
                    refine sv_iald (v := fa (2 : Int32).toNatClampNeg) hx hb hK hP 1 1 rfl rfl (vp_in_iff.mpr (by decide)) rfl dX0_setLack_47 ?_
                    refine lv_topi (fun v_25 ev_25 => ?_)
                    refine sv_iadd (v := v_24 + v_25) hx hb dX0_setLack_48 rfl ?_
                    refine lv_topi (fun v_26 ev_26 => ?_)
                    refine sv_iast hx hb hK hP hD hS 2 1 rfl rfl (by rw [ev_23]; exact (i_or64 (lp_in hlo_23 c_27 (by decide)) (vp_in_iff.mpr (by decide)))) dX0_setLack_49 (fun g_27 H locs eg_27 hP hD hS => ?_)
                    have hP : va_P D vwCl [(h0, .inr (0, [.ref p0, .ref p1, .ref p2, .int (nI a), .int b4, .int b5, .ref p6, .ref p7, .ref p8])), (am, .inl (cI, 6, .inl fa)), (p8, .inl (cI, 64, .inl g_27))] H := hP
                    have hD : va_D A [(h0, .inr (0, [.ref p0, .ref p1, .ref p2, .int (nI a), .int b4, .int b5, .ref p6, .ref p7, .ref p8])), (am, .inl (cI, 6, .inl fa)), (p8, .inl (cI, 64, .inl g_27))] := hD
                    refine lv_iinc (v := i_23 + 1) (lv' := [(3, .int (i_23 + 1)), (0, .ref h0), (1, .ref am), (2, .int 2)]) hx hb dX0_setLack_50 hl (k := 3) rfl rfl (by decide) rfl (fun ls hl => ?_)
                    refine lv_goto (tgt := 23) hx hb dX0_setLack_53 (by decide) ?_
                    exact ih_L_4 (i_23 + 1) g_27 _ _ ls (lp_dec hn_23 c_27) (by have h9 := lp_inc c_27; omega) hP hD hS (lv_sub hl [1, 2, 3, 0] rfl)
              exact L_4 _ 0 f_p8_23 _ _ ls (Nat.lt_succ_self _) (by decide) hP hD hS (lv_sub hl [2, 3, 1, 0] rfl)
            ·
              refine lv_aload_n hx hb dX0_setLack_30 rfl (lv_at hl 0 rfl) ?_
              refine va_get (D := D) (ci := 0) (v := .ref p8) (C := RX0) (T := TX0) (N := 9) hx hb hts w_1 hown hK hP 0 rfl rfl 8 (by decide) w_2 (fun _ h9 => h9) rfl dX0_setLack_31 ?_
              refine lv_iload_n hx hb dX0_setLack_34 rfl (lv_at hl 3 rfl) ?_
              refine lv_iconst (v := 1) hx hb dX0_setLack_35 (by decide) ?_
              refine lv_iload_n hx hb dX0_setLack_36 rfl (lv_at hl 2 rfl) ?_
              refine sv_ishl (v := 2) hx hb dX0_setLack_37 (by decide) ?_
              refine sv_ior (v := i_23 ||| 2) hx hb dX0_setLack_38 rfl ?_
              refine lv_topi (fun v_28 ev_28 => ?_)
              refine lv_aload_n hx hb dX0_setLack_39 rfl (lv_at hl 0 rfl) ?_
              refine va_get (D := D) (ci := 0) (v := .ref p8) (C := RX0) (T := TX0) (N := 9) hx hb hts w_1 hown hK hP 0 rfl rfl 8 (by decide) w_2 (fun _ h9 => h9) rfl dX0_setLack_40 ?_
              refine lv_iload_n hx hb dX0_setLack_43 rfl (lv_at hl 3 rfl) ?_
              refine sv_iald (v := f_p8_23 i_23.toNatClampNeg) hx hb hK hP 2 1 rfl rfl (lp_in hlo_23 c_27 (by decide)) rfl dX0_setLack_44 ?_
              refine lv_topi (fun v_29 ev_29 => ?_)
              refine lv_aload_n hx hb dX0_setLack_45 rfl (lv_at hl 1 rfl) ?_
              refine lv_iload_n hx hb dX0_setLack_46 rfl (lv_at hl 2 rfl) ?_
              refine sv_iald (v := fa (1 : Int32).toNatClampNeg) hx hb hK hP 1 1 rfl rfl (vp_in_iff.mpr (by decide)) rfl dX0_setLack_47 ?_
              refine lv_topi (fun v_30 ev_30 => ?_)
              refine sv_iadd (v := v_29 + v_30) hx hb dX0_setLack_48 rfl ?_
              refine lv_topi (fun v_31 ev_31 => ?_)
              refine sv_iast hx hb hK hP hD hS 2 1 rfl rfl (by rw [ev_28]; exact (i_or64 (lp_in hlo_23 c_27 (by decide)) (vp_in_iff.mpr (by decide)))) dX0_setLack_49 (fun g_32 H locs eg_32 hP hD hS => ?_)
              have hP : va_P D vwCl [(h0, .inr (0, [.ref p0, .ref p1, .ref p2, .int (nI a), .int b4, .int b5, .ref p6, .ref p7, .ref p8])), (am, .inl (cI, 6, .inl fa)), (p8, .inl (cI, 64, .inl g_32))] H := hP
              have hD : va_D A [(h0, .inr (0, [.ref p0, .ref p1, .ref p2, .int (nI a), .int b4, .int b5, .ref p6, .ref p7, .ref p8])), (am, .inl (cI, 6, .inl fa)), (p8, .inl (cI, 64, .inl g_32))] := hD
              refine lv_iinc (v := i_23 + 1) (lv' := [(3, .int (i_23 + 1)), (0, .ref h0), (1, .ref am), (2, .int 1)]) hx hb dX0_setLack_50 hl (k := 3) rfl rfl (by decide) rfl (fun ls hl => ?_)
              refine lv_goto (tgt := 23) hx hb dX0_setLack_53 (by decide) ?_
              exact ih_L_3 (i_23 + 1) g_32 _ _ ls (lp_dec hn_23 c_27) (by have h9 := lp_inc c_27; omega) hP hD hS (lv_sub hl [1, 2, 3, 0] rfl)
        exact L_3 _ 0 f_p8_23 _ _ ls (Nat.lt_succ_self _) (by decide) hP hD hS (lv_sub hl [2, 3, 1, 0] rfl)
      ·
        refine lv_aload_n hx hb dX0_setLack_30 rfl (lv_at hl 0 rfl) ?_
        refine va_get (D := D) (ci := 0) (v := .ref p8) (C := RX0) (T := TX0) (N := 9) hx hb hts w_1 hown hK hP 0 rfl rfl 8 (by decide) w_2 (fun _ h9 => h9) rfl dX0_setLack_31 ?_
        refine lv_iload_n hx hb dX0_setLack_34 rfl (lv_at hl 3 rfl) ?_
        refine lv_iconst (v := 1) hx hb dX0_setLack_35 (by decide) ?_
        refine lv_iload_n hx hb dX0_setLack_36 rfl (lv_at hl 2 rfl) ?_
        refine sv_ishl (v := 1) hx hb dX0_setLack_37 (by decide) ?_
        refine sv_ior (v := i_23 ||| 1) hx hb dX0_setLack_38 rfl ?_
        refine lv_topi (fun v_33 ev_33 => ?_)
        refine lv_aload_n hx hb dX0_setLack_39 rfl (lv_at hl 0 rfl) ?_
        refine va_get (D := D) (ci := 0) (v := .ref p8) (C := RX0) (T := TX0) (N := 9) hx hb hts w_1 hown hK hP 0 rfl rfl 8 (by decide) w_2 (fun _ h9 => h9) rfl dX0_setLack_40 ?_
        refine lv_iload_n hx hb dX0_setLack_43 rfl (lv_at hl 3 rfl) ?_
        refine sv_iald (v := f_p8_23 i_23.toNatClampNeg) hx hb hK hP 2 1 rfl rfl (lp_in hlo_23 c_27 (by decide)) rfl dX0_setLack_44 ?_
        refine lv_topi (fun v_34 ev_34 => ?_)
        refine lv_aload_n hx hb dX0_setLack_45 rfl (lv_at hl 1 rfl) ?_
        refine lv_iload_n hx hb dX0_setLack_46 rfl (lv_at hl 2 rfl) ?_
        refine sv_iald (v := fa (0 : Int32).toNatClampNeg) hx hb hK hP 1 1 rfl rfl (vp_in_iff.mpr (by decide)) rfl dX0_setLack_47 ?_
        refine lv_topi (fun v_35 ev_35 => ?_)
        refine sv_iadd (v := v_34 + v_35) hx hb dX0_setLack_48 rfl ?_
        refine lv_topi (fun v_36 ev_36 => ?_)
        refine sv_iast hx hb hK hP hD hS 2 1 rfl rfl (by rw [ev_33]; exact (i_or64 (lp_in hlo_23 c_27 (by decide)) (vp_in_iff.mpr (by decide)))) dX0_setLack_49 (fun g_37 H locs eg_37 hP hD hS => ?_)
        have hP : va_P D vwCl [(h0, .inr (0, [.ref p0, .ref p1, .ref p2, .int (nI a), .int b4, .int b5, .ref p6, .ref p7, .ref p8])), (am, .inl (cI, 6, .inl fa)), (p8, .inl (cI, 64, .inl g_37))] H := hP
        have hD : va_D A [(h0, .inr (0, [.ref p0, .ref p1, .ref p2, .int (nI a), .int b4, .int b5, .ref p6, .ref p7, .ref p8])), (am, .inl (cI, 6, .inl fa)), (p8, .inl (cI, 64, .inl g_37))] := hD
        refine lv_iinc (v := i_23 + 1) (lv' := [(3, .int (i_23 + 1)), (0, .ref h0), (1, .ref am), (2, .int 0)]) hx hb dX0_setLack_50 hl (k := 3) rfl rfl (by decide) rfl (fun ls hl => ?_)
        refine lv_goto (tgt := 23) hx hb dX0_setLack_53 (by decide) ?_
        exact ih_L_2 (i_23 + 1) g_37 _ _ ls (lp_dec hn_23 c_27) (by have h9 := lp_inc c_27; omega) hP hD hS (lv_sub hl [1, 2, 3, 0] rfl)
  exact L_2 _ 0 g_1 _ _ ls (Nat.lt_succ_self _) (by decide) hP hD hS (lv_sub hl [2, 3, 1, 0] rfl)

set_option maxHeartbeats 4000000 in
set_option maxRecDepth 100000 in
theorem g_X0_lessen (l : Launch) (D : va_G) (cB cI cJ cZ : ClassId) (sz : Nat) (h0 p0 p1 p2 p6 p7 p8 a : Nat) (b4 b5 : Int32) (f0 f1 f2 f6 f7 f8 : Nat → Int32) (q : Int32) (hl8 : vp_in q 8) : Met l yX0_lessenLack wsX0_lessenLack ({ frames := 0, cells := 0, slots := 0, locals := 0 } : Room) (cPre D (aTy cB cI cJ cZ) [(h0, .inr (0, [.ref p0, .ref p1, .ref p2, .int (nI a), .int b4, .int b5, .ref p6, .ref p7, .ref p8])), (p6, .inl (cI, 8, .inl f6)), (p7, .inl (cI, 8, .inl f7)), (p8, .inl (cI, 64, .inl f8))] sz [.ref h0, .int q]) (va_Qv (fun (u : (Nat → Int32)) => True) (cB_ D (aTy cB cI cJ cZ) (va_A [(h0, .inr (0, [.ref p0, .ref p1, .ref p2, .int (nI a), .int b4, .int b5, .ref p6, .ref p7, .ref p8])), (p6, .inl (cI, 8, .inl f6)), (p7, .inl (cI, 8, .inl f7)), (p8, .inl (cI, 64, .inl f8))] sz) (fun u => [(h0, .inr (0, [.ref p0, .ref p1, .ref p2, .int (nI a), .int b4, .int b5, .ref p6, .ref p7, .ref p8])), (p6, .inl (cI, 8, .inl f6)), (p7, .inl (cI, 8, .inl f7)), (p8, .inl (cI, 64, .inl u))])) (va_A [(h0, .inr (0, [.ref p0, .ref p1, .ref p2, .int (nI a), .int b4, .int b5, .ref p6, .ref p7, .ref p8])), (p6, .inl (cI, 8, .inl f6)), (p7, .inl (cI, 8, .inl f7)), (p8, .inl (cI, 64, .inl f8))] sz)) 0 0 (va_A [(h0, .inr (0, [.ref p0, .ref p1, .ref p2, .int (nI a), .int b4, .int b5, .ref p6, .ref p7, .ref p8])), (p6, .inl (cI, 8, .inl f6)), (p7, .inl (cI, 8, .inl f7)), (p8, .inl (cI, 64, .inl f8))] sz) := by
  refine Met.ofW (cc := cX0_lessenLack) (maxL := 3) (ret := none) (by decide) rfl ?_
  intro p e s m args below meth c s₁ B hml hv
  obtain ⟨rfl, hsz, hP, hK, hD0⟩ := hv
  have hx := B.exec
  have hb := B.bytes
  have hr := B.returns
  have hts := atoms_spec (ws := wsX0_lessenLack) B.pre
  have hown : s.vm.findClass RX0 = some m.cls := findClass_of_methodNamed B.named
  have hlocks := B.notSynchronized
  subst hsz
  have hD := hD0.self (sz := s.heap.size)
  generalize hAe : va_A [(h0, .inr (0, [.ref p0, .ref p1, .ref p2, .int (nI a), .int b4, .int b5, .ref p6, .ref p7, .ref p8])), (p6, .inl (cI, 8, .inl f6)), (p7, .inl (cI, 8, .inl f7)), (p8, .inl (cI, 64, .inl f8))] s.heap.size = A at hD ⊢
  have hA : ∀ q : Nat, s.heap.size ≤ q → A q := fun q h => by rw [← hAe]; exact Or.inr h
  have hS : va_S A s.heap s.heap [] := va_S.rf
  have hP : va_P D vwCl [(h0, .inr (0, [.ref p0, .ref p1, .ref p2, .int (nI a), .int b4, .int b5, .ref p6, .ref p7, .ref p8])), (p6, .inl (cI, 8, .inl f6)), (p7, .inl (cI, 8, .inl f7)), (p8, .inl (cI, 64, .inl f8))] s.heap := hP
  have w_1 : ∀ w ∈ wsX00, w ∈ wsX0_lessenLack := by decide +kernel
  have w_2 := hts (Cond.fieldLink RX0 24 "BlueCoats$Chest" "ends" "[I") (by decide +kernel)
  have w_3 := hts (Cond.fieldLink RX0 27 "BlueCoats$Chest" "lack" "[I") (by decide +kernel)
  have w_4 := hts (Cond.fieldLink RX0 21 "BlueCoats$Chest" "coins" "[I") (by decide +kernel)
  have hl := lv_entry ([.ref h0, .int q]) (n := 3) (Nat.le_of_ble_eq_true rfl)
  rw [lg_entry_eq]
  generalize (lg_sl ([.ref h0, .int q]) ++ List.replicate (3 - (lg_sl ([.ref h0, .int q])).length) Slot.unset).toArray = ls at hl ⊢
  have hl : lv_has ls 3 [(0, .ref h0), (1, .int q)] := hl
  generalize hQ : MQ below _ _ s _ _ _ = Q0
  refine lv_iconst (v := 1) hx hb dX0_lessenLack_0 (by decide) ?_
  refine lv_istore_n (lv' := [(2, .int 1), (0, .ref h0), (1, .int q)]) hx hb dX0_lessenLack_1 rfl hl (by decide) rfl (fun ls hl => ?_)
  have L_1 : ∀ (n : Nat) (i_2 : Int32) (f_p8_2 : Nat → Int32) (H : Heap) (locs : List Loc) (ls : Array Slot), (Int32.toInt 64 - i_2.toInt).toNat < n → 0 ≤ i_2.toInt → va_P D vwCl [(h0, .inr (0, [.ref p0, .ref p1, .ref p2, .int (nI a), .int b4, .int b5, .ref p6, .ref p7, .ref p8])), (p6, .inl (cI, 8, .inl f6)), (p7, .inl (cI, 8, .inl f7)), (p8, .inl (cI, 64, .inl f_p8_2))] H → va_D A [(h0, .inr (0, [.ref p0, .ref p1, .ref p2, .int (nI a), .int b4, .int b5, .ref p6, .ref p7, .ref p8])), (p6, .inl (cI, 8, .inl f6)), (p7, .inl (cI, 8, .inl f7)), (p8, .inl (cI, 64, .inl f_p8_2))] → va_S A s.heap H locs → lv_has ls 3 [(0, .ref h0), (1, .int q), (2, .int i_2)] → W p l e (headSpec wsX0_lessenLack ({ frames := 0, cells := 0, slots := 0, locals := 0 } : Room)).room s m ([.ref h0, .int q] : List Value).toArray below meth c H locs 0 0 Q0 (F0 m 2 ls []) := by
    intro n
    induction n with
    | zero => intro i_2 f_p8_2 H locs ls hn_2 hlo_2 hP hD hS hl; exact absurd hn_2 (Nat.not_lt_zero _)
    | succ n ih_L_1 =>
      intro i_2 f_p8_2 H locs ls hn_2 hlo_2 hP hD hS hl
      refine lv_iload_n hx hb dX0_lessenLack_2 rfl (lv_at hl 2 rfl) ?_
      refine lv_bipush (v := 64) hx hb dX0_lessenLack_3 (by decide) ?_
      refine lv_icmp_ge (tgt := 40) hx hb dX0_lessenLack_5 (by decide) (fun c_5 => ?_) (fun c_5 => ?_)
      ·
        rw [← hQ]
        have hP9 := hP.sub (ws' := [(h0, .inr (0, [.ref p0, .ref p1, .ref p2, .int (nI a), .int b4, .int b5, .ref p6, .ref p7, .ref p8])), (p6, .inl (cI, 8, .inl f6)), (p7, .inl (cI, 8, .inl f7)), (p8, .inl (cI, 64, .inl f_p8_2))]) [0, 1, 2, 3] rfl
        have hD9 := hD.sub (ws' := [(h0, .inr (0, [.ref p0, .ref p1, .ref p2, .int (nI a), .int b4, .int b5, .ref p6, .ref p7, .ref p8])), (p6, .inl (cI, 8, .inl f6)), (p7, .inl (cI, 8, .inl f7)), (p8, .inl (cI, 64, .inl f_p8_2))]) [0, 1, 2, 3] (by decide) rfl
        exact W.vret hx hb hr (fun t ht hW => ⟨⟨f_p8_2, rfl, trivial, by rw [ht]; exact hP9, va_K.moved hW.alike hK, hD9⟩, hS.F ht⟩) hS.2.2 dX0_lessenLack_40
      ·
        refine lv_iload_n hx hb dX0_lessenLack_8 rfl (lv_at hl 2 rfl) ?_
        refine lv_aload_n hx hb dX0_lessenLack_9 rfl (lv_at hl 0 rfl) ?_
        refine va_get (D := D) (ci := 0) (v := .ref p7) (C := RX0) (T := TX0) (N := 9) hx hb hts w_1 hown hK hP 0 rfl rfl 7 (by decide) w_2 (fun _ h9 => h9) rfl dX0_lessenLack_10 ?_
        refine lv_iload_n hx hb dX0_lessenLack_13 rfl (lv_at hl 1 rfl) ?_
        refine sv_iald (v := f7 q.toNatClampNeg) hx hb hK hP 2 1 rfl rfl hl8 rfl dX0_lessenLack_14 ?_
        refine lv_topi (fun v_2 ev_2 => ?_)
        refine sv_iand (v := i_2 &&& v_2) hx hb dX0_lessenLack_15 rfl ?_
        refine lv_topi (fun v_3 ev_3 => ?_)
        refine lv_if_eq (tgt := 34) hx hb dX0_lessenLack_16 (by decide) (fun c_16 => ?_) (fun c_16 => ?_)
        ·
          refine lv_iinc (v := i_2 + 1) (lv' := [(2, .int (i_2 + 1)), (0, .ref h0), (1, .int q)]) hx hb dX0_lessenLack_34 hl (k := 2) rfl rfl (by decide) rfl (fun ls hl => ?_)
          refine lv_goto (tgt := 2) hx hb dX0_lessenLack_37 (by decide) ?_
          exact ih_L_1 (i_2 + 1) f_p8_2 _ _ ls (lp_dec hn_2 c_5) (by have h9 := lp_inc c_5; omega) hP hD hS (lv_sub hl [1, 2, 0] rfl)
        ·
          refine lv_aload_n hx hb dX0_lessenLack_19 rfl (lv_at hl 0 rfl) ?_
          refine va_get (D := D) (ci := 0) (v := .ref p8) (C := RX0) (T := TX0) (N := 9) hx hb hts w_1 hown hK hP 0 rfl rfl 8 (by decide) w_3 (fun _ h9 => h9) rfl dX0_lessenLack_20 ?_
          refine lv_iload_n hx hb dX0_lessenLack_23 rfl (lv_at hl 2 rfl) ?_
          refine lv_dup2_11 hx hb dX0_lessenLack_24 rfl rfl ?_
          refine sv_iald (v := f_p8_2 i_2.toNatClampNeg) hx hb hK hP 3 1 rfl rfl (lp_in hlo_2 c_5 (by decide)) rfl dX0_lessenLack_25 ?_
          refine lv_topi (fun v_4 ev_4 => ?_)
          refine lv_aload_n hx hb dX0_lessenLack_26 rfl (lv_at hl 0 rfl) ?_
          refine va_get (D := D) (ci := 0) (v := .ref p6) (C := RX0) (T := TX0) (N := 9) hx hb hts w_1 hown hK hP 0 rfl rfl 6 (by decide) w_4 (fun _ h9 => h9) rfl dX0_lessenLack_27 ?_
          refine lv_iload_n hx hb dX0_lessenLack_30 rfl (lv_at hl 1 rfl) ?_
          refine sv_iald (v := f6 q.toNatClampNeg) hx hb hK hP 1 1 rfl rfl hl8 rfl dX0_lessenLack_31 ?_
          refine lv_topi (fun v_5 ev_5 => ?_)
          refine sv_isub (v := v_4 - v_5) hx hb dX0_lessenLack_32 rfl ?_
          refine lv_topi (fun v_6 ev_6 => ?_)
          refine sv_iast hx hb hK hP hD hS 3 1 rfl rfl (lp_in hlo_2 c_5 (by decide)) dX0_lessenLack_33 (fun g_7 H locs eg_7 hP hD hS => ?_)
          have hP : va_P D vwCl [(h0, .inr (0, [.ref p0, .ref p1, .ref p2, .int (nI a), .int b4, .int b5, .ref p6, .ref p7, .ref p8])), (p6, .inl (cI, 8, .inl f6)), (p7, .inl (cI, 8, .inl f7)), (p8, .inl (cI, 64, .inl g_7))] H := hP
          have hD : va_D A [(h0, .inr (0, [.ref p0, .ref p1, .ref p2, .int (nI a), .int b4, .int b5, .ref p6, .ref p7, .ref p8])), (p6, .inl (cI, 8, .inl f6)), (p7, .inl (cI, 8, .inl f7)), (p8, .inl (cI, 64, .inl g_7))] := hD
          refine lv_iinc (v := i_2 + 1) (lv' := [(2, .int (i_2 + 1)), (0, .ref h0), (1, .int q)]) hx hb dX0_lessenLack_34 hl (k := 2) rfl rfl (by decide) rfl (fun ls hl => ?_)
          refine lv_goto (tgt := 2) hx hb dX0_lessenLack_37 (by decide) ?_
          exact ih_L_1 (i_2 + 1) g_7 _ _ ls (lp_dec hn_2 c_5) (by have h9 := lp_inc c_5; omega) hP hD hS (lv_sub hl [1, 2, 0] rfl)
  exact L_1 _ 1 f8 _ _ ls (Nat.lt_succ_self _) (by decide) hP hD hS (lv_sub hl [1, 2, 0] rfl)

set_option maxHeartbeats 4000000 in
set_option maxRecDepth 100000 in
theorem g_X0_greatest (l : Launch) (D : va_G) (cB cI cJ cZ : ClassId) (h0 p0 p1 p2 p6 p7 p8 a : Nat) (b4 b5 : Int32) (f0 f1 f2 f6 f7 f8 : Nat → Int32) : Met l yX0_greatestLack wsX0_greatestLack ({ frames := 1, cells := 0, slots := 0, locals := 21 } : Room) (cRd D (aTy cB cI cJ cZ) [(h0, .inr (0, [.ref p0, .ref p1, .ref p2, .int (nI a), .int b4, .int b5, .ref p6, .ref p7, .ref p8])), (p8, .inl (cI, 64, .inl f8))] [.ref h0]) (vp_Si (fun r : Int32 => True)) 0 0 (fun _ => False) := by
  refine Met.ofW (cc := cX0_greatestLack) (maxL := 3) (ret := (some .int)) (by decide) rfl ?_
  intro p e s m args below meth c s₁ B hml hv
  obtain ⟨rfl, hP, hK⟩ := hv
  have hx := B.exec
  have hb := B.bytes
  have hr := B.returns
  have hts := atoms_spec (ws := wsX0_greatestLack) B.pre
  have hown : s.vm.findClass RX0 = some m.cls := findClass_of_methodNamed B.named
  have hlocks := B.notSynchronized
  have hP : va_P D vwCl [(h0, .inr (0, [.ref p0, .ref p1, .ref p2, .int (nI a), .int b4, .int b5, .ref p6, .ref p7, .ref p8])), (p8, .inl (cI, 64, .inl f8))] s.heap := hP
  have w_1 : ∀ w ∈ wsX00, w ∈ wsX0_greatestLack := by decide +kernel
  have w_2 := hts (Cond.fieldLink RX0 27 "BlueCoats$Chest" "lack" "[I") (by decide +kernel)
  have w_3 := hts (Cond.methodLink RX0 58 Lib.Math.max.name) (by decide +kernel)
  have w_4 := hts (Cond.static Lib.Math.max.name) (by decide +kernel)
  have w_5 := hts (Cond.initialized "java/lang/Math") (by decide +kernel)
  have w_6 := hts (Cond.code Lib.Math.max.name Lib.Math.max.code 2 (some .int)) (by decide +kernel)
  have hl := lv_entry ([.ref h0]) (n := 3) (Nat.le_of_ble_eq_true rfl)
  rw [lg_entry_eq]
  generalize (lg_sl ([.ref h0]) ++ List.replicate (3 - (lg_sl ([.ref h0])).length) Slot.unset).toArray = ls at hl ⊢
  have hl : lv_has ls 3 [(0, .ref h0)] := hl
  generalize hQ : MQ below _ _ s _ _ _ = Q0
  refine lv_iconst (v := 0) hx hb dX0_greatestLack_0 (by decide) ?_
  refine lv_istore_n (lv' := [(1, .int 0), (0, .ref h0)]) hx hb dX0_greatestLack_1 rfl hl (by decide) rfl (fun ls hl => ?_)
  refine lv_iconst (v := 1) hx hb dX0_greatestLack_2 (by decide) ?_
  refine lv_istore_n (lv' := [(2, .int 1), (1, .int 0), (0, .ref h0)]) hx hb dX0_greatestLack_3 rfl hl (by decide) rfl (fun ls hl => ?_)
  have L_1 : ∀ (n : Nat) (i_4 : Int32) (l_1_4 : Int32) (ls : Array Slot), (Int32.toInt 64 - i_4.toInt).toNat < n → 0 ≤ i_4.toInt → va_P D vwCl [(h0, .inr (0, [.ref p0, .ref p1, .ref p2, .int (nI a), .int b4, .int b5, .ref p6, .ref p7, .ref p8])), (p8, .inl (cI, 64, .inl f8))] s.heap → lv_has ls 3 [(0, .ref h0), (1, .int l_1_4), (2, .int i_4)] → W p l e (headSpec wsX0_greatestLack ({ frames := 1, cells := 0, slots := 0, locals := 21 } : Room)).room s m ([.ref h0] : List Value).toArray below meth c s.heap [] 0 0 Q0 (F0 m 4 ls []) := by
    intro n
    induction n with
    | zero => intro i_4 l_1_4 ls hn_4 hlo_4 hP hl; exact absurd hn_4 (Nat.not_lt_zero _)
    | succ n ih_L_1 =>
      intro i_4 l_1_4 ls hn_4 hlo_4 hP hl
      refine lv_iload_n hx hb dX0_greatestLack_4 rfl (lv_at hl 2 rfl) ?_
      refine lv_bipush (v := 64) hx hb dX0_greatestLack_5 (by decide) ?_
      refine lv_icmp_ge (tgt := 27) hx hb dX0_greatestLack_7 (by decide) (fun c_7 => ?_) (fun c_7 => ?_)
      ·
        refine lv_iload_n hx hb dX0_greatestLack_27 rfl (lv_at hl 1 rfl) ?_
        rw [← hQ]
        exact W.iret (v := l_1_4) hx hb hr (fun t ht hW => ⟨_, rfl, trivial, ht⟩) (fun q h => nomatch h) dX0_greatestLack_28
      ·
        refine lv_iload_n hx hb dX0_greatestLack_10 rfl (lv_at hl 1 rfl) ?_
        refine lv_aload_n hx hb dX0_greatestLack_11 rfl (lv_at hl 0 rfl) ?_
        refine va_get (D := D) (ci := 0) (v := .ref p8) (C := RX0) (T := TX0) (N := 9) hx hb hts w_1 hown hK hP 0 rfl rfl 8 (by decide) w_2 (fun _ h9 => h9) rfl dX0_greatestLack_12 ?_
        refine lv_iload_n hx hb dX0_greatestLack_15 rfl (lv_at hl 2 rfl) ?_
        refine sv_iald (v := f8 i_4.toNatClampNeg) hx hb hK hP 1 1 rfl rfl (lp_in hlo_4 c_7 (by decide)) rfl dX0_greatestLack_16 ?_
        refine lv_topi (fun v_2 ev_2 => ?_)
        refine va_mmax (x := l_1_4) (y := v_2) hx hb (by rw [hml]; exact hl.1.symm) hown w_3 w_4 w_5 w_6 (Nat.le_of_ble_eq_true rfl) (Nat.le_of_ble_eq_true rfl) (Nat.le_of_ble_eq_true rfl) (Nat.le_of_ble_eq_true rfl) dX0_greatestLack_17 ?_
        refine lv_topi (fun v_3 ev_3 => ?_)
        refine lv_istore_n (lv' := [(1, .int v_3), (0, .ref h0), (2, .int i_4)]) hx hb dX0_greatestLack_20 rfl hl (by decide) rfl (fun ls hl => ?_)
        refine lv_iinc (v := i_4 + 1) (lv' := [(2, .int (i_4 + 1)), (1, .int v_3), (0, .ref h0)]) hx hb dX0_greatestLack_21 hl (k := 2) rfl rfl (by decide) rfl (fun ls hl => ?_)
        refine lv_goto (tgt := 4) hx hb dX0_greatestLack_24 (by decide) ?_
        exact ih_L_1 (i_4 + 1) v_3 ls (lp_dec hn_4 c_7) (by have h9 := lp_inc c_7; omega) hP (lv_sub hl [2, 1, 0] rfl)
  exact L_1 _ 1 0 ls (Nat.lt_succ_self _) (by decide) hP (lv_sub hl [2, 1, 0] rfl)

