/-! The class' chest, with what it computes. -/

set_option maxHeartbeats 4000000 in
set_option maxRecDepth 100000 in
theorem f_X0_add (l : Launch) (D : va_G) (cB cI cJ cZ : ClassId) (sz : Nat) (h0 p0 p1 p2 p6 p7 p8 a : Nat) (b4 b5 : Int32) (f0 f1 f2 f6 f7 f8 : Nat → Int32) (q0 q1 : Int32) (ha : a ≤ 8) : Met l yX0_add wsX0_add ({ frames := 0, cells := 0, slots := 0, locals := 0 } : Room) (cPre D (aTy cB cI cJ cZ) [(h0, .inr (0, [.ref p0, .ref p1, .ref p2, .int (nI a), .int b4, .int b5, .ref p6, .ref p7, .ref p8])), (p6, .inl (cI, 8, .inl f6)), (p7, .inl (cI, 8, .inl f7))] sz [.ref h0, .int q0, .int q1]) (va_Qi (fun (r : Int32) (u : Nat × (Nat → Int32) × (Nat → Int32)) => lgQ a f6 f7 q0 q1 r u.1 u.2.1 u.2.2) (cB_ D (aTy cB cI cJ cZ) (va_A [(h0, .inr (0, [.ref p0, .ref p1, .ref p2, .int (nI a), .int b4, .int b5, .ref p6, .ref p7, .ref p8])), (p6, .inl (cI, 8, .inl f6)), (p7, .inl (cI, 8, .inl f7))] sz) (fun u => [(h0, .inr (0, [.ref p0, .ref p1, .ref p2, .int (nI (u.1)), .int b4, .int b5, .ref p6, .ref p7, .ref p8])), (p6, .inl (cI, 8, .inl u.2.1)), (p7, .inl (cI, 8, .inl u.2.2))])) (va_A [(h0, .inr (0, [.ref p0, .ref p1, .ref p2, .int (nI a), .int b4, .int b5, .ref p6, .ref p7, .ref p8])), (p6, .inl (cI, 8, .inl f6)), (p7, .inl (cI, 8, .inl f7))] sz)) 0 0 (va_A [(h0, .inr (0, [.ref p0, .ref p1, .ref p2, .int (nI a), .int b4, .int b5, .ref p6, .ref p7, .ref p8])), (p6, .inl (cI, 8, .inl f6)), (p7, .inl (cI, 8, .inl f7))] sz) := by
  refine Met.ofW (cc := cX0_add) (maxL := 3) (ret := (some .int)) (by decide) rfl ?_
  intro p e s m args below meth c s₁ B hml hv
  obtain ⟨rfl, hsz, hP, hK, hD0⟩ := hv
  have hx := B.exec
  have hb := B.bytes
  have hr := B.returns
  have hts := atoms_spec (ws := wsX0_add) B.pre
  have hown : s.vm.findClass RX0 = some m.cls := findClass_of_methodNamed B.named
  have hlocks := B.notSynchronized
  subst hsz
  have hD := hD0.self (sz := s.heap.size)
  generalize hAe : va_A [(h0, .inr (0, [.ref p0, .ref p1, .ref p2, .int (nI a), .int b4, .int b5, .ref p6, .ref p7, .ref p8])), (p6, .inl (cI, 8, .inl f6)), (p7, .inl (cI, 8, .inl f7))] s.heap.size = A at hD ⊢
  have hA : ∀ q : Nat, s.heap.size ≤ q → A q := fun q h => by rw [← hAe]; exact Or.inr h
  have hS : va_S A s.heap s.heap [] := va_S.rf
  have hP : va_P D vwCl [(h0, .inr (0, [.ref p0, .ref p1, .ref p2, .int (nI a), .int b4, .int b5, .ref p6, .ref p7, .ref p8])), (p6, .inl (cI, 8, .inl f6)), (p7, .inl (cI, 8, .inl f7))] s.heap := hP
  have w_1 : ∀ w ∈ wsX00, w ∈ wsX0_add := by decide +kernel
  have w_2 := hts (Cond.fieldLink RX0 30 "BlueCoats$Chest" "number" "I") (by decide +kernel)
  have w_3 := hts (Cond.fieldLink RX0 21 "BlueCoats$Chest" "coins" "[I") (by decide +kernel)
  have w_4 := hts (Cond.fieldLink RX0 24 "BlueCoats$Chest" "ends" "[I") (by decide +kernel)
  have hl := lv_entry ([.ref h0, .int q0, .int q1]) (n := 3) (Nat.le_of_ble_eq_true rfl)
  rw [lg_entry_eq]
  generalize (lg_sl ([.ref h0, .int q0, .int q1]) ++ List.replicate (3 - (lg_sl ([.ref h0, .int q0, .int q1])).length) Slot.unset).toArray = ls at hl ⊢
  have hl : lv_has ls 3 [(0, .ref h0), (1, .int q0), (2, .int q1)] := hl
  refine lv_aload_n hx hb dX0_add_0 rfl (lv_at hl 0 rfl) ?_
  refine va_get (D := D) (ci := 0) (v := .int (nI a)) (C := RX0) (T := TX0) (N := 9) hx hb hts w_1 hown hK hP 0 rfl rfl 3 (by decide) w_2 (fun _ h9 => h9) rfl dX0_add_1 ?_
  refine lv_bipush (v := 8) hx hb dX0_add_4 (by decide) ?_
  refine lv_icmp_ge (tgt := 30) hx hb dX0_add_6 (by decide) (fun c_6 => ?_) (fun c_6 => ?_)
  ·
    refine lv_iconst (v := (-1)) hx hb dX0_add_30 (by decide) ?_
    have hP9 := hP.sub (ws' := [(h0, .inr (0, [.ref p0, .ref p1, .ref p2, .int (nI a), .int b4, .int b5, .ref p6, .ref p7, .ref p8])), (p6, .inl (cI, 8, .inl f6)), (p7, .inl (cI, 8, .inl f7))]) [0, 1, 2] rfl
    have hD9 := hD.sub (ws' := [(h0, .inr (0, [.ref p0, .ref p1, .ref p2, .int (nI a), .int b4, .int b5, .ref p6, .ref p7, .ref p8])), (p6, .inl (cI, 8, .inl f6)), (p7, .inl (cI, 8, .inl f7))]) [0, 1, 2] (by decide) rfl
    exact W.iret (v := (-1)) hx hb hr (fun t ht hW => ⟨⟨_, (a, f6, f7), rfl, Or.inl ⟨rfl, rfl, rfl, rfl, Or.inl (Nat.le_antisymm ha (nI_geg 8 (by omega) (by decide) c_6))⟩, by rw [ht]; exact hP9, va_K.moved hW.alike hK, hD9⟩, hS.F ht⟩) hS.2.2 dX0_add_31
  ·
    refine lv_iload_n hx hb dX0_add_9 rfl (lv_at hl 1 rfl) ?_
    refine lv_if_lt (tgt := 30) hx hb dX0_add_10 (by decide) (fun c_10 => ?_) (fun c_10 => ?_)
    ·
      refine lv_iconst (v := (-1)) hx hb dX0_add_30 (by decide) ?_
      have hP9 := hP.sub (ws' := [(h0, .inr (0, [.ref p0, .ref p1, .ref p2, .int (nI a), .int b4, .int b5, .ref p6, .ref p7, .ref p8])), (p6, .inl (cI, 8, .inl f6)), (p7, .inl (cI, 8, .inl f7))]) [0, 1, 2] rfl
      have hD9 := hD.sub (ws' := [(h0, .inr (0, [.ref p0, .ref p1, .ref p2, .int (nI a), .int b4, .int b5, .ref p6, .ref p7, .ref p8])), (p6, .inl (cI, 8, .inl f6)), (p7, .inl (cI, 8, .inl f7))]) [0, 1, 2] (by decide) rfl
      exact W.iret (v := (-1)) hx hb hr (fun t ht hW => ⟨⟨_, (a, f6, f7), rfl, Or.inl ⟨rfl, rfl, rfl, rfl, Or.inr (fun h => h.1 c_10)⟩, by rw [ht]; exact hP9, va_K.moved hW.alike hK, hD9⟩, hS.F ht⟩) hS.2.2 dX0_add_31
    ·
      refine lv_iload_n hx hb dX0_add_13 rfl (lv_at hl 1 rfl) ?_
      refine lv_sipush (v := 9999) hx hb dX0_add_14 (by decide) ?_
      refine lv_icmp_gt (tgt := 30) hx hb dX0_add_17 (by decide) (fun c_17 => ?_) (fun c_17 => ?_)
      ·
        refine lv_iconst (v := (-1)) hx hb dX0_add_30 (by decide) ?_
        have hP9 := hP.sub (ws' := [(h0, .inr (0, [.ref p0, .ref p1, .ref p2, .int (nI a), .int b4, .int b5, .ref p6, .ref p7, .ref p8])), (p6, .inl (cI, 8, .inl f6)), (p7, .inl (cI, 8, .inl f7))]) [0, 1, 2] rfl
        have hD9 := hD.sub (ws' := [(h0, .inr (0, [.ref p0, .ref p1, .ref p2, .int (nI a), .int b4, .int b5, .ref p6, .ref p7, .ref p8])), (p6, .inl (cI, 8, .inl f6)), (p7, .inl (cI, 8, .inl f7))]) [0, 1, 2] (by decide) rfl
        exact W.iret (v := (-1)) hx hb hr (fun t ht hW => ⟨⟨_, (a, f6, f7), rfl, Or.inl ⟨rfl, rfl, rfl, rfl, Or.inr (fun h => h.2.1 c_17)⟩, by rw [ht]; exact hP9, va_K.moved hW.alike hK, hD9⟩, hS.F ht⟩) hS.2.2 dX0_add_31
      ·
        refine lv_iload_n hx hb dX0_add_20 rfl (lv_at hl 2 rfl) ?_
        refine lv_if_lt (tgt := 30) hx hb dX0_add_21 (by decide) (fun c_21 => ?_) (fun c_21 => ?_)
        ·
          refine lv_iconst (v := (-1)) hx hb dX0_add_30 (by decide) ?_
          have hP9 := hP.sub (ws' := [(h0, .inr (0, [.ref p0, .ref p1, .ref p2, .int (nI a), .int b4, .int b5, .ref p6, .ref p7, .ref p8])), (p6, .inl (cI, 8, .inl f6)), (p7, .inl (cI, 8, .inl f7))]) [0, 1, 2] rfl
          have hD9 := hD.sub (ws' := [(h0, .inr (0, [.ref p0, .ref p1, .ref p2, .int (nI a), .int b4, .int b5, .ref p6, .ref p7, .ref p8])), (p6, .inl (cI, 8, .inl f6)), (p7, .inl (cI, 8, .inl f7))]) [0, 1, 2] (by decide) rfl
          exact W.iret (v := (-1)) hx hb hr (fun t ht hW => ⟨⟨_, (a, f6, f7), rfl, Or.inl ⟨rfl, rfl, rfl, rfl, Or.inr (fun h => h.2.2.1 c_21)⟩, by rw [ht]; exact hP9, va_K.moved hW.alike hK, hD9⟩, hS.F ht⟩) hS.2.2 dX0_add_31
        ·
          refine lv_iload_n hx hb dX0_add_24 rfl (lv_at hl 2 rfl) ?_
          refine lv_bipush (v := 64) hx hb dX0_add_25 (by decide) ?_
          refine lv_icmp_lt (tgt := 32) hx hb dX0_add_27 (by decide) (fun c_27 => ?_) (fun c_27 => ?_)
          ·
            have h6 : a < 8 := nI_ltg 8 (by omega) (by decide) c_6
            refine lv_aload_n hx hb dX0_add_32 rfl (lv_at hl 0 rfl) ?_
            refine va_get (D := D) (ci := 0) (v := .ref p6) (C := RX0) (T := TX0) (N := 9) hx hb hts w_1 hown hK hP 0 rfl rfl 6 (by decide) w_3 (fun _ h9 => h9) rfl dX0_add_33 ?_
            refine lv_aload_n hx hb dX0_add_36 rfl (lv_at hl 0 rfl) ?_
            refine va_get (D := D) (ci := 0) (v := .int (nI a)) (C := RX0) (T := TX0) (N := 9) hx hb hts w_1 hown hK hP 0 rfl rfl 3 (by decide) w_2 (fun _ h9 => h9) rfl dX0_add_37 ?_
            refine lv_iload_n hx hb dX0_add_40 rfl (lv_at hl 1 rfl) ?_
            refine sv_iast hx hb hK hP hD hS 1 1 rfl rfl (vp_in_nI (by omega) (by decide)) dX0_add_41 (fun g_1 H locs eg_1 hP hD hS => ?_)
            have eg_1 : g_1 = upd f6 a q0 := ist eg_1 (by omega)
            subst eg_1
            have hP : va_P D vwCl [(h0, .inr (0, [.ref p0, .ref p1, .ref p2, .int (nI a), .int b4, .int b5, .ref p6, .ref p7, .ref p8])), (p6, .inl (cI, 8, .inl (upd f6 a q0))), (p7, .inl (cI, 8, .inl f7))] H := hP
            have hD : va_D A [(h0, .inr (0, [.ref p0, .ref p1, .ref p2, .int (nI a), .int b4, .int b5, .ref p6, .ref p7, .ref p8])), (p6, .inl (cI, 8, .inl (upd f6 a q0))), (p7, .inl (cI, 8, .inl f7))] := hD
            refine lv_aload_n hx hb dX0_add_42 rfl (lv_at hl 0 rfl) ?_
            refine va_get (D := D) (ci := 0) (v := .ref p7) (C := RX0) (T := TX0) (N := 9) hx hb hts w_1 hown hK hP 0 rfl rfl 7 (by decide) w_4 (fun _ h9 => h9) rfl dX0_add_43 ?_
            refine lv_aload_n hx hb dX0_add_46 rfl (lv_at hl 0 rfl) ?_
            refine va_get (D := D) (ci := 0) (v := .int (nI a)) (C := RX0) (T := TX0) (N := 9) hx hb hts w_1 hown hK hP 0 rfl rfl 3 (by decide) w_2 (fun _ h9 => h9) rfl dX0_add_47 ?_
            refine lv_iload_n hx hb dX0_add_50 rfl (lv_at hl 2 rfl) ?_
            refine sv_iast hx hb hK hP hD hS 2 1 rfl rfl (vp_in_nI (by omega) (by decide)) dX0_add_51 (fun g_2 H locs eg_2 hP hD hS => ?_)
            have eg_2 : g_2 = upd f7 a q1 := ist eg_2 (by omega)
            subst eg_2
            have hP : va_P D vwCl [(h0, .inr (0, [.ref p0, .ref p1, .ref p2, .int (nI a), .int b4, .int b5, .ref p6, .ref p7, .ref p8])), (p6, .inl (cI, 8, .inl (upd f6 a q0))), (p7, .inl (cI, 8, .inl (upd f7 a q1)))] H := hP
            have hD : va_D A [(h0, .inr (0, [.ref p0, .ref p1, .ref p2, .int (nI a), .int b4, .int b5, .ref p6, .ref p7, .ref p8])), (p6, .inl (cI, 8, .inl (upd f6 a q0))), (p7, .inl (cI, 8, .inl (upd f7 a q1)))] := hD
            refine lv_aload_n hx hb dX0_add_52 rfl (lv_at hl 0 rfl) ?_
            refine lv_dup hx hb dX0_add_53 rfl ?_
            refine va_get (D := D) (ci := 0) (v := .int (nI a)) (C := RX0) (T := TX0) (N := 9) hx hb hts w_1 hown hK hP 0 rfl rfl 3 (by decide) w_2 (fun _ h9 => h9) rfl dX0_add_54 ?_
            refine lv_iconst (v := 1) hx hb dX0_add_57 (by decide) ?_
            refine sv_iadd (v := nI (a + 1)) hx hb dX0_add_58 (ax_add _ 1) ?_
            refine va_put (D := D) (ci := 0) (v := .int (nI (a + 1))) (ty := .int) (C := RX0) (T := TX0) (N := 9) hx hb hts w_1 tyX0 tyX0_ok nmX0 hown hK hP hD hS 0 rfl rfl 3 (by decide) w_2 (fun _ h9 => h9) rfl (by decide +kernel) rfl rfl (Nat.le_of_ble_eq_true rfl) dX0_add_59 (fun H locs hP hD hS => ?_)
            have hP : va_P D vwCl [(h0, .inr (0, [.ref p0, .ref p1, .ref p2, .int (nI (a + 1)), .int b4, .int b5, .ref p6, .ref p7, .ref p8])), (p6, .inl (cI, 8, .inl (upd f6 a q0))), (p7, .inl (cI, 8, .inl (upd f7 a q1)))] H := hP
            have hD : va_D A [(h0, .inr (0, [.ref p0, .ref p1, .ref p2, .int (nI (a + 1)), .int b4, .int b5, .ref p6, .ref p7, .ref p8])), (p6, .inl (cI, 8, .inl (upd f6 a q0))), (p7, .inl (cI, 8, .inl (upd f7 a q1)))] := hD
            refine lv_aload_n hx hb dX0_add_62 rfl (lv_at hl 0 rfl) ?_
            refine va_get (D := D) (ci := 0) (v := .int (nI (a + 1))) (C := RX0) (T := TX0) (N := 9) hx hb hts w_1 hown hK hP 0 rfl rfl 3 (by decide) w_2 (fun _ h9 => h9) rfl dX0_add_63 ?_
            refine lv_iconst (v := 1) hx hb dX0_add_66 (by decide) ?_
            refine sv_isub (v := nI a) hx hb dX0_add_67 (nI_sub1 a) ?_
            have hP9 := hP.sub (ws' := [(h0, .inr (0, [.ref p0, .ref p1, .ref p2, .int (nI (a + 1)), .int b4, .int b5, .ref p6, .ref p7, .ref p8])), (p6, .inl (cI, 8, .inl (upd f6 a q0))), (p7, .inl (cI, 8, .inl (upd f7 a q1)))]) [0, 1, 2] rfl
            have hD9 := hD.sub (ws' := [(h0, .inr (0, [.ref p0, .ref p1, .ref p2, .int (nI (a + 1)), .int b4, .int b5, .ref p6, .ref p7, .ref p8])), (p6, .inl (cI, 8, .inl (upd f6 a q0))), (p7, .inl (cI, 8, .inl (upd f7 a q1)))]) [0, 1, 2] (by decide) rfl
            exact W.iret (v := nI a) hx hb hr (fun t ht hW => ⟨⟨_, ((a + 1), upd f6 a q0, upd f7 a q1), rfl, Or.inr ⟨h6, ⟨c_10, c_17, c_21, i_lt64 c_27⟩, rfl, rfl, rfl, rfl⟩, by rw [ht]; exact hP9, va_K.moved hW.alike hK, hD9⟩, hS.F ht⟩) hS.2.2 dX0_add_68
          ·
            refine lv_iconst (v := (-1)) hx hb dX0_add_30 (by decide) ?_
            have hP9 := hP.sub (ws' := [(h0, .inr (0, [.ref p0, .ref p1, .ref p2, .int (nI a), .int b4, .int b5, .ref p6, .ref p7, .ref p8])), (p6, .inl (cI, 8, .inl f6)), (p7, .inl (cI, 8, .inl f7))]) [0, 1, 2] rfl
            have hD9 := hD.sub (ws' := [(h0, .inr (0, [.ref p0, .ref p1, .ref p2, .int (nI a), .int b4, .int b5, .ref p6, .ref p7, .ref p8])), (p6, .inl (cI, 8, .inl f6)), (p7, .inl (cI, 8, .inl f7))]) [0, 1, 2] (by decide) rfl
            exact W.iret (v := (-1)) hx hb hr (fun t ht hW => ⟨⟨_, (a, f6, f7), rfl, Or.inl ⟨rfl, rfl, rfl, rfl, Or.inr (fun h => h.2.2.2 (i_ge64 c_27))⟩, by rw [ht]; exact hP9, va_K.moved hW.alike hK, hD9⟩, hS.F ht⟩) hS.2.2 dX0_add_31

set_option maxHeartbeats 4000000 in
set_option maxRecDepth 100000 in
theorem f_X0_setLack (l : Launch) (D : va_G) (cB cI cJ cZ : ClassId) (sz : Nat) (h0 p0 p1 p2 p6 p7 p8 a : Nat) (b4 b5 : Int32) (am : Nat) (fa f8 : Nat → Int32) (hbf : bdP fa 6 1000000) : Met l yX0_setLack wsX0_setLack ({ frames := 0, cells := 0, slots := 0, locals := 0 } : Room) (cPre D (aTy cB cI cJ cZ) [(h0, .inr (0, [.ref p0, .ref p1, .ref p2, .int (nI a), .int b4, .int b5, .ref p6, .ref p7, .ref p8])), (am, .inl (cI, 6, .inl fa)), (p8, .inl (cI, 64, .inl f8))] sz [.ref h0, .ref am]) (va_Qv (fun (u : (Nat → Int32)) => slP u fa 64) (cB_ D (aTy cB cI cJ cZ) (va_A [(h0, .inr (0, [.ref p0, .ref p1, .ref p2, .int (nI a), .int b4, .int b5, .ref p6, .ref p7, .ref p8])), (am, .inl (cI, 6, .inl fa)), (p8, .inl (cI, 64, .inl f8))] sz) (fun u => [(h0, .inr (0, [.ref p0, .ref p1, .ref p2, .int (nI a), .int b4, .int b5, .ref p6, .ref p7, .ref p8])), (am, .inl (cI, 6, .inl fa)), (p8, .inl (cI, 64, .inl u))])) (va_A [(h0, .inr (0, [.ref p0, .ref p1, .ref p2, .int (nI a), .int b4, .int b5, .ref p6, .ref p7, .ref p8])), (am, .inl (cI, 6, .inl fa)), (p8, .inl (cI, 64, .inl f8))] sz)) 0 0 (va_A [(h0, .inr (0, [.ref p0, .ref p1, .ref p2, .int (nI a), .int b4, .int b5, .ref p6, .ref p7, .ref p8])), (am, .inl (cI, 6, .inl fa)), (p8, .inl (cI, 64, .inl f8))] sz) := by
  refine Met.ofW (cc := cX0_setLack) (maxL := 4) (ret := none) (by decide) rfl ?_
  intro p e s m args below meth c s₁ B hml hv
  obtain ⟨rfl, hsz, hP, hK, hD0⟩ := hv
  have hx := B.exec
  have hb := B.bytes
  have hr := B.returns
  have hts := atoms_spec (ws := wsX0_setLack) B.pre
  have hown : s.vm.findClass RX0 = some m.cls := findClass_of_methodNamed B.named
  have hlocks := B.notSynchronized
  subst hsz
  have hD := hD0.self (sz := s.heap.size)
  generalize hAe : va_A [(h0, .inr (0, [.ref p0, .ref p1, .ref p2, .int (nI a), .int b4, .int b5, .ref p6, .ref p7, .ref p8])), (am, .inl (cI, 6, .inl fa)), (p8, .inl (cI, 64, .inl f8))] s.heap.size = A at hD ⊢
  have hA : ∀ q : Nat, s.heap.size ≤ q → A q := fun q h => by rw [← hAe]; exact Or.inr h
  have hS : va_S A s.heap s.heap [] := va_S.rf
  have hP : va_P D vwCl [(h0, .inr (0, [.ref p0, .ref p1, .ref p2, .int (nI a), .int b4, .int b5, .ref p6, .ref p7, .ref p8])), (am, .inl (cI, 6, .inl fa)), (p8, .inl (cI, 64, .inl f8))] s.heap := hP
  have w_1 : ∀ w ∈ wsX00, w ∈ wsX0_setLack := by decide +kernel
  have w_2 := hts (Cond.fieldLink RX0 27 "BlueCoats$Chest" "lack" "[I") (by decide +kernel)
  have hl := lv_entry ([.ref h0, .ref am]) (n := 4) (Nat.le_of_ble_eq_true rfl)
  rw [lg_entry_eq]
  generalize (lg_sl ([.ref h0, .ref am]) ++ List.replicate (4 - (lg_sl ([.ref h0, .ref am])).length) Slot.unset).toArray = ls at hl ⊢
  have hl : lv_has ls 4 [(0, .ref h0), (1, .ref am)] := hl
  generalize hQ : MQ below _ _ s _ _ _ = Q0
  refine lv_aload_n hx hb dX0_setLack_0 rfl (lv_at hl 0 rfl) ?_
  refine va_get (D := D) (ci := 0) (v := .ref p8) (C := RX0) (T := TX0) (N := 9) hx hb hts w_1 hown hK hP 0 rfl rfl 8 (by decide) w_2 (fun _ h9 => h9) rfl dX0_setLack_1 ?_
  refine lv_iconst (v := 0) hx hb dX0_setLack_4 (by decide) ?_
  refine lv_iconst (v := 0) hx hb dX0_setLack_5 (by decide) ?_
  refine sv_iast hx hb hK hP hD hS 2 1 rfl rfl (vp_in_iff.mpr (by decide)) dX0_setLack_6 (fun g_1 H locs eg_1 hP hD hS => ?_)
  have eg_1 : g_1 = upd f8 0 0 := eg_1
  subst eg_1
  have hP : va_P D vwCl [(h0, .inr (0, [.ref p0, .ref p1, .ref p2, .int (nI a), .int b4, .int b5, .ref p6, .ref p7, .ref p8])), (am, .inl (cI, 6, .inl fa)), (p8, .inl (cI, 64, .inl (upd f8 0 0)))] H := hP
  have hD : va_D A [(h0, .inr (0, [.ref p0, .ref p1, .ref p2, .int (nI a), .int b4, .int b5, .ref p6, .ref p7, .ref p8])), (am, .inl (cI, 6, .inl fa)), (p8, .inl (cI, 64, .inl (upd f8 0 0)))] := hD
  refine lv_iconst (v := 0) hx hb dX0_setLack_7 (by decide) ?_
  refine lv_istore_n (lv' := [(2, .int 0), (0, .ref h0), (1, .ref am)]) hx hb dX0_setLack_8 rfl hl (by decide) rfl (fun ls hl => ?_)
  have L_2 : ∀ (n : Nat) (i_9 : Nat) (f_p8_9 : Nat → Int32) (H : Heap) (locs : List Loc) (ls : Array Slot), 6 - i_9 < n → (i_9 ≤ 6) → (slP f_p8_9 fa (2 ^ i_9)) → va_P D vwCl [(h0, .inr (0, [.ref p0, .ref p1, .ref p2, .int (nI a), .int b4, .int b5, .ref p6, .ref p7, .ref p8])), (am, .inl (cI, 6, .inl fa)), (p8, .inl (cI, 64, .inl f_p8_9))] H → va_D A [(h0, .inr (0, [.ref p0, .ref p1, .ref p2, .int (nI a), .int b4, .int b5, .ref p6, .ref p7, .ref p8])), (am, .inl (cI, 6, .inl fa)), (p8, .inl (cI, 64, .inl f_p8_9))] → va_S A s.heap H locs → lv_has ls 4 [(0, .ref h0), (1, .ref am), (2, .int (nI i_9))] → W p l e (headSpec wsX0_setLack ({ frames := 0, cells := 0, slots := 0, locals := 0 } : Room)).room s m ([.ref h0, .ref am] : List Value).toArray below meth c H locs 0 0 Q0 (F0 m 9 ls []) := by
    intro n
    induction n with
    | zero => intro i_9 f_p8_9 H locs ls hn_9 hle_9 hS_9 hP hD hS hl; exact absurd hn_9 (Nat.not_lt_zero _)
    | succ n ih_L_2 =>
      intro i_9 f_p8_9 H locs ls hn_9 hle_9 hS_9 hP hD hS hl
      refine lv_iload_n hx hb dX0_setLack_9 rfl (lv_at hl 2 rfl) ?_
      refine lv_bipush (v := 6) hx hb dX0_setLack_10 (by decide) ?_
      refine lv_icmp_ge (tgt := 62) hx hb dX0_setLack_12 (by decide) (fun c_12 => ?_) (fun c_12 => ?_)
      ·
        rw [← hQ]
        have hP9 := hP.sub (ws' := [(h0, .inr (0, [.ref p0, .ref p1, .ref p2, .int (nI a), .int b4, .int b5, .ref p6, .ref p7, .ref p8])), (am, .inl (cI, 6, .inl fa)), (p8, .inl (cI, 64, .inl f_p8_9))]) [0, 1, 2] rfl
        have hD9 := hD.sub (ws' := [(h0, .inr (0, [.ref p0, .ref p1, .ref p2, .int (nI a), .int b4, .int b5, .ref p6, .ref p7, .ref p8])), (am, .inl (cI, 6, .inl fa)), (p8, .inl (cI, 64, .inl f_p8_9))]) [0, 1, 2] (by decide) rfl
        exact W.vret hx hb hr (fun t ht hW => ⟨⟨f_p8_9, rfl, sl_e hS_9 (by rw [(Nat.le_antisymm hle_9 (ge3 (by omega) hle_9 c_12))]), by rw [ht]; exact hP9, va_K.moved hW.alike hK, hD9⟩, hS.F ht⟩) hS.2.2 dX0_setLack_62
      ·
        have hb_9 : i_9 < 6 := lt3 (by omega) hle_9 c_12
        refine lv_iload_n hx hb dX0_setLack_15 rfl (lv_at hl 2 rfl) ?_
        refine lv_aload_n hx hb dX0_setLack_16 rfl (lv_at hl 1 rfl) ?_
        refine va_alen (v := 6) hx hb hK hP 1 1 rfl rfl rfl dX0_setLack_17 ?_
        refine lv_icmp_ge (tgt := 62) hx hb dX0_setLack_18 (by decide) (fun h => absurd h (fun h => absurd (nI_geg 6 (by omega) (by decide) h) (by omega))) (fun _ => ?_)
        have hpw := pw32 hb_9
        refine lv_iconst (v := 0) hx hb dX0_setLack_21 (by decide) ?_
        refine lv_istore_n (lv' := [(3, .int 0), (0, .ref h0), (1, .ref am), (2, .int (nI i_9))]) hx hb dX0_setLack_22 rfl hl (by decide) rfl (fun ls hl => ?_)
        have L_3 : ∀ (n : Nat) (i_23 : Nat) (f_p8_23 : Nat → Int32) (H : Heap) (locs : List Loc) (ls : Array Slot), (2 ^ i_9) - i_23 < n → (i_23 ≤ 2 ^ i_9) → (slP f_p8_23 fa (2 ^ i_9 + i_23)) → va_P D vwCl [(h0, .inr (0, [.ref p0, .ref p1, .ref p2, .int (nI a), .int b4, .int b5, .ref p6, .ref p7, .ref p8])), (am, .inl (cI, 6, .inl fa)), (p8, .inl (cI, 64, .inl f_p8_23))] H → va_D A [(h0, .inr (0, [.ref p0, .ref p1, .ref p2, .int (nI a), .int b4, .int b5, .ref p6, .ref p7, .ref p8])), (am, .inl (cI, 6, .inl fa)), (p8, .inl (cI, 64, .inl f_p8_23))] → va_S A s.heap H locs → lv_has ls 4 [(0, .ref h0), (1, .ref am), (2, .int (nI i_9)), (3, .int (nI i_23))] → W p l e (headSpec wsX0_setLack ({ frames := 0, cells := 0, slots := 0, locals := 0 } : Room)).room s m ([.ref h0, .ref am] : List Value).toArray below meth c H locs 0 0 Q0 (F0 m 23 ls []) := by
          intro n
          induction n with
          | zero => intro i_23 f_p8_23 H locs ls hn_23 hle_23 hS_23 hP hD hS hl; exact absurd hn_23 (Nat.not_lt_zero _)
          | succ n ih_L_3 =>
            intro i_23 f_p8_23 H locs ls hn_23 hle_23 hS_23 hP hD hS hl
            refine lv_iload_n hx hb dX0_setLack_23 rfl (lv_at hl 3 rfl) ?_
            refine lv_iconst (v := 1) hx hb dX0_setLack_24 (by decide) ?_
            refine lv_iload_n hx hb dX0_setLack_25 rfl (lv_at hl 2 rfl) ?_
            refine sv_ishl (v := nI (2 ^ i_9)) hx hb dX0_setLack_26 (sh16 (by omega)) ?_
            refine lv_icmp_ge (tgt := 56) hx hb dX0_setLack_27 (by decide) (fun c_27 => ?_) (fun c_27 => ?_)
            ·
              refine lv_iinc (v := nI (i_9 + 1)) (lv' := [(2, .int (nI (i_9 + 1))), (0, .ref h0), (1, .ref am), (3, .int (nI i_23))]) hx hb dX0_setLack_56 hl (k := 2) rfl (ax_add _ 1) (by decide) rfl (fun ls hl => ?_)
              refine lv_goto (tgt := 9) hx hb dX0_setLack_59 (by decide) ?_
              exact ih_L_2 (i_9 + 1) f_p8_23 _ _ ls (by omega) (by omega) (sl_e hS_23 (by rw [pw2, (Nat.le_antisymm hle_23 (ge3 (by omega) hle_23 c_27))])) hP hD hS (lv_sub hl [1, 2, 0] rfl)
            ·
              have hb_23 : i_23 < 2 ^ i_9 := lt3 (by omega) hle_23 c_27
              refine lv_aload_n hx hb dX0_setLack_30 rfl (lv_at hl 0 rfl) ?_
              refine va_get (D := D) (ci := 0) (v := .ref p8) (C := RX0) (T := TX0) (N := 9) hx hb hts w_1 hown hK hP 0 rfl rfl 8 (by decide) w_2 (fun _ h9 => h9) rfl dX0_setLack_31 ?_
              refine lv_iload_n hx hb dX0_setLack_34 rfl (lv_at hl 3 rfl) ?_
              refine lv_iconst (v := 1) hx hb dX0_setLack_35 (by decide) ?_
              refine lv_iload_n hx hb dX0_setLack_36 rfl (lv_at hl 2 rfl) ?_
              refine sv_ishl (v := nI (2 ^ i_9)) hx hb dX0_setLack_37 (sh16 (by omega)) ?_
              refine sv_ior (v := nI (2 ^ i_9 + i_23)) hx hb dX0_setLack_38 (or_pw hb_23) ?_
              refine lv_aload_n hx hb dX0_setLack_39 rfl (lv_at hl 0 rfl) ?_
              refine va_get (D := D) (ci := 0) (v := .ref p8) (C := RX0) (T := TX0) (N := 9) hx hb hts w_1 hown hK hP 0 rfl rfl 8 (by decide) w_2 (fun _ h9 => h9) rfl dX0_setLack_40 ?_
              refine lv_iload_n hx hb dX0_setLack_43 rfl (lv_at hl 3 rfl) ?_
              refine sv_iald (v := f_p8_23 i_23) hx hb hK hP 2 1 rfl rfl (vp_in_nI (by omega) (by decide)) (congrArg _ (nI_clamp (by omega))) dX0_setLack_44 ?_
              refine lv_aload_n hx hb dX0_setLack_45 rfl (lv_at hl 1 rfl) ?_
              refine lv_iload_n hx hb dX0_setLack_46 rfl (lv_at hl 2 rfl) ?_
              refine sv_iald (v := fa i_9) hx hb hK hP 1 1 rfl rfl (vp_in_nI (by omega) (by decide)) (congrArg _ (nI_clamp (by omega))) dX0_setLack_47 ?_
              refine sv_iadd (v := (f_p8_23 i_23) + (fa i_9)) hx hb dX0_setLack_48 rfl ?_
              refine sv_iast hx hb hK hP hD hS 2 1 rfl rfl (vp_in_nI (by omega) (by decide)) dX0_setLack_49 (fun g_4 H locs eg_4 hP hD hS => ?_)
              have eg_4 : g_4 = upd f_p8_23 (2 ^ i_9 + i_23) ((f_p8_23 i_23) + (fa i_9)) := ist eg_4 (by omega)
              subst eg_4
              have hP : va_P D vwCl [(h0, .inr (0, [.ref p0, .ref p1, .ref p2, .int (nI a), .int b4, .int b5, .ref p6, .ref p7, .ref p8])), (am, .inl (cI, 6, .inl fa)), (p8, .inl (cI, 64, .inl (upd f_p8_23 (2 ^ i_9 + i_23) ((f_p8_23 i_23) + (fa i_9)))))] H := hP
              have hD : va_D A [(h0, .inr (0, [.ref p0, .ref p1, .ref p2, .int (nI a), .int b4, .int b5, .ref p6, .ref p7, .ref p8])), (am, .inl (cI, 6, .inl fa)), (p8, .inl (cI, 64, .inl (upd f_p8_23 (2 ^ i_9 + i_23) ((f_p8_23 i_23) + (fa i_9)))))] := hD
              refine lv_iinc (v := nI (i_23 + 1)) (lv' := [(3, .int (nI (i_23 + 1))), (0, .ref h0), (1, .ref am), (2, .int (nI i_9))]) hx hb dX0_setLack_50 hl (k := 3) rfl (ax_add _ 1) (by decide) rfl (fun ls hl => ?_)
              refine lv_goto (tgt := 23) hx hb dX0_setLack_53 (by decide) ?_
              exact ih_L_3 (i_23 + 1) (upd f_p8_23 (2 ^ i_9 + i_23) ((f_p8_23 i_23) + (fa i_9))) _ _ ls (by omega) (by omega) (sl_s hb_9 hb_23 hbf hS_23) hP hD hS (lv_sub hl [1, 2, 3, 0] rfl)
        exact L_3 _ 0 f_p8_9 _ _ ls (Nat.lt_succ_self _) (by first | exact Nat.zero_le _ | omega) hS_9 hP hD hS (lv_sub hl [1, 2, 3, 0] rfl)
  exact L_2 _ 0 (upd f8 0 0) _ _ ls (Nat.lt_succ_self _) (by first | exact Nat.zero_le _ | omega) sl_0 hP hD hS (lv_sub hl [1, 2, 0] rfl)

set_option maxHeartbeats 4000000 in
set_option maxRecDepth 100000 in
theorem f_X0_lessen (l : Launch) (D : va_G) (cB cI cJ cZ : ClassId) (sz : Nat) (h0 p0 p1 p2 p6 p7 p8 a : Nat) (b4 b5 : Int32) (f0 f1 f2 f6 f7 f8 : Nat → Int32) (j : Nat) (hj : j < 8) (hen : vp_in (f7 j) 64) : Met l yX0_lessenLack wsX0_lessenLack ({ frames := 0, cells := 0, slots := 0, locals := 0 } : Room) (cPre D (aTy cB cI cJ cZ) [(h0, .inr (0, [.ref p0, .ref p1, .ref p2, .int (nI a), .int b4, .int b5, .ref p6, .ref p7, .ref p8])), (p6, .inl (cI, 8, .inl f6)), (p7, .inl (cI, 8, .inl f7)), (p8, .inl (cI, 64, .inl f8))] sz [.ref h0, .int (nI j)]) (va_Qv (fun (u : (Nat → Int32)) => ∀ S, S < 64 → u S = if nv f7 j &&& S = 0 then f8 S else f8 S - f6 j) (cB_ D (aTy cB cI cJ cZ) (va_A [(h0, .inr (0, [.ref p0, .ref p1, .ref p2, .int (nI a), .int b4, .int b5, .ref p6, .ref p7, .ref p8])), (p6, .inl (cI, 8, .inl f6)), (p7, .inl (cI, 8, .inl f7)), (p8, .inl (cI, 64, .inl f8))] sz) (fun u => [(h0, .inr (0, [.ref p0, .ref p1, .ref p2, .int (nI a), .int b4, .int b5, .ref p6, .ref p7, .ref p8])), (p6, .inl (cI, 8, .inl f6)), (p7, .inl (cI, 8, .inl f7)), (p8, .inl (cI, 64, .inl u))])) (va_A [(h0, .inr (0, [.ref p0, .ref p1, .ref p2, .int (nI a), .int b4, .int b5, .ref p6, .ref p7, .ref p8])), (p6, .inl (cI, 8, .inl f6)), (p7, .inl (cI, 8, .inl f7)), (p8, .inl (cI, 64, .inl f8))] sz)) 0 0 (va_A [(h0, .inr (0, [.ref p0, .ref p1, .ref p2, .int (nI a), .int b4, .int b5, .ref p6, .ref p7, .ref p8])), (p6, .inl (cI, 8, .inl f6)), (p7, .inl (cI, 8, .inl f7)), (p8, .inl (cI, 64, .inl f8))] sz) := by
  refine Met.ofW (cc := cX0_lessenLack) (maxL := 3) (ret := none) (by decide) rfl ?_
  intro p e s m args below meth c s₁ B hml hv
  obtain ⟨rfl, hsz, hP, hK, hD0⟩ := hv
  have hx := B.exec
  have hb := B.bytes
  have hr := B.returns
  have hts := atoms_spec (ws := wsX0_lessenLack) B.pre
  have hown : s.vm.findClass RX0 = some m.cls := findClass_of_methodNamed B.named
  have hlocks := B.notSynchronized
  subst hsz
  have hD := hD0.self (sz := s.heap.size)
  generalize hAe : va_A [(h0, .inr (0, [.ref p0, .ref p1, .ref p2, .int (nI a), .int b4, .int b5, .ref p6, .ref p7, .ref p8])), (p6, .inl (cI, 8, .inl f6)), (p7, .inl (cI, 8, .inl f7)), (p8, .inl (cI, 64, .inl f8))] s.heap.size = A at hD ⊢
  have hA : ∀ q : Nat, s.heap.size ≤ q → A q := fun q h => by rw [← hAe]; exact Or.inr h
  have hS : va_S A s.heap s.heap [] := va_S.rf
  have hP : va_P D vwCl [(h0, .inr (0, [.ref p0, .ref p1, .ref p2, .int (nI a), .int b4, .int b5, .ref p6, .ref p7, .ref p8])), (p6, .inl (cI, 8, .inl f6)), (p7, .inl (cI, 8, .inl f7)), (p8, .inl (cI, 64, .inl f8))] s.heap := hP
  have w_1 : ∀ w ∈ wsX00, w ∈ wsX0_lessenLack := by decide +kernel
  have w_2 := hts (Cond.fieldLink RX0 24 "BlueCoats$Chest" "ends" "[I") (by decide +kernel)
  have w_3 := hts (Cond.fieldLink RX0 27 "BlueCoats$Chest" "lack" "[I") (by decide +kernel)
  have w_4 := hts (Cond.fieldLink RX0 21 "BlueCoats$Chest" "coins" "[I") (by decide +kernel)
  have hl := lv_entry ([.ref h0, .int (nI j)]) (n := 3) (Nat.le_of_ble_eq_true rfl)
  rw [lg_entry_eq]
  generalize (lg_sl ([.ref h0, .int (nI j)]) ++ List.replicate (3 - (lg_sl ([.ref h0, .int (nI j)])).length) Slot.unset).toArray = ls at hl ⊢
  have hl : lv_has ls 3 [(0, .ref h0), (1, .int (nI j))] := hl
  generalize hQ : MQ below _ _ s _ _ _ = Q0
  refine lv_iconst (v := 1) hx hb dX0_lessenLack_0 (by decide) ?_
  refine lv_istore_n (lv' := [(2, .int 1), (0, .ref h0), (1, .int (nI j))]) hx hb dX0_lessenLack_1 rfl hl (by decide) rfl (fun ls hl => ?_)
  have L_1 : ∀ (n : Nat) (i_2 : Nat) (f_p8_2 : Nat → Int32) (H : Heap) (locs : List Loc) (ls : Array Slot), 64 - i_2 < n → (i_2 ≤ 64) → (lsP f_p8_2 f8 f6 f7 j i_2) → va_P D vwCl [(h0, .inr (0, [.ref p0, .ref p1, .ref p2, .int (nI a), .int b4, .int b5, .ref p6, .ref p7, .ref p8])), (p6, .inl (cI, 8, .inl f6)), (p7, .inl (cI, 8, .inl f7)), (p8, .inl (cI, 64, .inl f_p8_2))] H → va_D A [(h0, .inr (0, [.ref p0, .ref p1, .ref p2, .int (nI a), .int b4, .int b5, .ref p6, .ref p7, .ref p8])), (p6, .inl (cI, 8, .inl f6)), (p7, .inl (cI, 8, .inl f7)), (p8, .inl (cI, 64, .inl f_p8_2))] → va_S A s.heap H locs → lv_has ls 3 [(0, .ref h0), (1, .int (nI j)), (2, .int (nI i_2))] → W p l e (headSpec wsX0_lessenLack ({ frames := 0, cells := 0, slots := 0, locals := 0 } : Room)).room s m ([.ref h0, .int (nI j)] : List Value).toArray below meth c H locs 0 0 Q0 (F0 m 2 ls []) := by
    intro n
    induction n with
    | zero => intro i_2 f_p8_2 H locs ls hn_2 hle_2 hL_2 hP hD hS hl; exact absurd hn_2 (Nat.not_lt_zero _)
    | succ n ih_L_1 =>
      intro i_2 f_p8_2 H locs ls hn_2 hle_2 hL_2 hP hD hS hl
      refine lv_iload_n hx hb dX0_lessenLack_2 rfl (lv_at hl 2 rfl) ?_
      refine lv_bipush (v := 64) hx hb dX0_lessenLack_3 (by decide) ?_
      refine lv_icmp_ge (tgt := 40) hx hb dX0_lessenLack_5 (by decide) (fun c_5 => ?_) (fun c_5 => ?_)
      ·
        rw [← hQ]
        have hP9 := hP.sub (ws' := [(h0, .inr (0, [.ref p0, .ref p1, .ref p2, .int (nI a), .int b4, .int b5, .ref p6, .ref p7, .ref p8])), (p6, .inl (cI, 8, .inl f6)), (p7, .inl (cI, 8, .inl f7)), (p8, .inl (cI, 64, .inl f_p8_2))]) [0, 1, 2, 3] rfl
        have hD9 := hD.sub (ws' := [(h0, .inr (0, [.ref p0, .ref p1, .ref p2, .int (nI a), .int b4, .int b5, .ref p6, .ref p7, .ref p8])), (p6, .inl (cI, 8, .inl f6)), (p7, .inl (cI, 8, .inl f7)), (p8, .inl (cI, 64, .inl f_p8_2))]) [0, 1, 2, 3] (by decide) rfl
        exact W.vret hx hb hr (fun t ht hW => ⟨⟨f_p8_2, rfl, (ls_e hL_2 (Nat.le_antisymm hle_2 (ge3 (by omega) hle_2 c_5))), by rw [ht]; exact hP9, va_K.moved hW.alike hK, hD9⟩, hS.F ht⟩) hS.2.2 dX0_lessenLack_40
      ·
        have hb_2 : i_2 < 64 := lt3 (by omega) hle_2 c_5
        refine lv_iload_n hx hb dX0_lessenLack_8 rfl (lv_at hl 2 rfl) ?_
        refine lv_aload_n hx hb dX0_lessenLack_9 rfl (lv_at hl 0 rfl) ?_
        refine va_get (D := D) (ci := 0) (v := .ref p7) (C := RX0) (T := TX0) (N := 9) hx hb hts w_1 hown hK hP 0 rfl rfl 7 (by decide) w_2 (fun _ h9 => h9) rfl dX0_lessenLack_10 ?_
        refine lv_iload_n hx hb dX0_lessenLack_13 rfl (lv_at hl 1 rfl) ?_
        refine sv_iald (v := f7 j) hx hb hK hP 2 1 rfl rfl (vp_in_nI (by omega) (by decide)) (congrArg _ (nI_clamp (by omega))) dX0_lessenLack_14 ?_
        refine sv_iand (v := (nI i_2) &&& (f7 j)) hx hb dX0_lessenLack_15 rfl ?_
        refine lv_if_eq (tgt := 34) hx hb dX0_lessenLack_16 (by decide) (fun c_16 => ?_) (fun c_16 => ?_)
        ·
          refine lv_iinc (v := nI (i_2 + 1)) (lv' := [(2, .int (nI (i_2 + 1))), (0, .ref h0), (1, .int (nI j))]) hx hb dX0_lessenLack_34 hl (k := 2) rfl (ax_add _ 1) (by decide) rfl (fun ls hl => ?_)
          refine lv_goto (tgt := 2) hx hb dX0_lessenLack_37 (by decide) ?_
          exact ih_L_1 (i_2 + 1) f_p8_2 _ _ ls (by omega) (by omega) (ls_n hL_2 hen c_16) hP hD hS (lv_sub hl [1, 2, 0] rfl)
        ·
          refine lv_aload_n hx hb dX0_lessenLack_19 rfl (lv_at hl 0 rfl) ?_
          refine va_get (D := D) (ci := 0) (v := .ref p8) (C := RX0) (T := TX0) (N := 9) hx hb hts w_1 hown hK hP 0 rfl rfl 8 (by decide) w_3 (fun _ h9 => h9) rfl dX0_lessenLack_20 ?_
          refine lv_iload_n hx hb dX0_lessenLack_23 rfl (lv_at hl 2 rfl) ?_
          refine lv_dup2_11 hx hb dX0_lessenLack_24 rfl rfl ?_
          refine sv_iald (v := f_p8_2 i_2) hx hb hK hP 3 1 rfl rfl (vp_in_nI (by omega) (by decide)) (congrArg _ (nI_clamp (by omega))) dX0_lessenLack_25 ?_
          refine lv_aload_n hx hb dX0_lessenLack_26 rfl (lv_at hl 0 rfl) ?_
          refine va_get (D := D) (ci := 0) (v := .ref p6) (C := RX0) (T := TX0) (N := 9) hx hb hts w_1 hown hK hP 0 rfl rfl 6 (by decide) w_4 (fun _ h9 => h9) rfl dX0_lessenLack_27 ?_
          refine lv_iload_n hx hb dX0_lessenLack_30 rfl (lv_at hl 1 rfl) ?_
          refine sv_iald (v := f6 j) hx hb hK hP 1 1 rfl rfl (vp_in_nI (by omega) (by decide)) (congrArg _ (nI_clamp (by omega))) dX0_lessenLack_31 ?_
          refine sv_isub (v := (f_p8_2 i_2) - (f6 j)) hx hb dX0_lessenLack_32 rfl ?_
          refine sv_iast hx hb hK hP hD hS 3 1 rfl rfl (vp_in_nI (by omega) (by decide)) dX0_lessenLack_33 (fun g_2 H locs eg_2 hP hD hS => ?_)
          have eg_2 : g_2 = upd f_p8_2 i_2 ((f_p8_2 i_2) - (f6 j)) := ist eg_2 (by omega)
          subst eg_2
          have hP : va_P D vwCl [(h0, .inr (0, [.ref p0, .ref p1, .ref p2, .int (nI a), .int b4, .int b5, .ref p6, .ref p7, .ref p8])), (p6, .inl (cI, 8, .inl f6)), (p7, .inl (cI, 8, .inl f7)), (p8, .inl (cI, 64, .inl (upd f_p8_2 i_2 ((f_p8_2 i_2) - (f6 j)))))] H := hP
          have hD : va_D A [(h0, .inr (0, [.ref p0, .ref p1, .ref p2, .int (nI a), .int b4, .int b5, .ref p6, .ref p7, .ref p8])), (p6, .inl (cI, 8, .inl f6)), (p7, .inl (cI, 8, .inl f7)), (p8, .inl (cI, 64, .inl (upd f_p8_2 i_2 ((f_p8_2 i_2) - (f6 j)))))] := hD
          refine lv_iinc (v := nI (i_2 + 1)) (lv' := [(2, .int (nI (i_2 + 1))), (0, .ref h0), (1, .int (nI j))]) hx hb dX0_lessenLack_34 hl (k := 2) rfl (ax_add _ 1) (by decide) rfl (fun ls hl => ?_)
          refine lv_goto (tgt := 2) hx hb dX0_lessenLack_37 (by decide) ?_
          exact ih_L_1 (i_2 + 1) (upd f_p8_2 i_2 ((f_p8_2 i_2) - (f6 j))) _ _ ls (by omega) (by omega) (ls_y hL_2 hen c_16) hP hD hS (lv_sub hl [1, 2, 0] rfl)
  exact L_1 _ 1 f8 _ _ ls (Nat.lt_succ_self _) (by first | exact Nat.zero_le _ | omega) ls_0 hP hD hS (lv_sub hl [1, 2, 0] rfl)

set_option maxHeartbeats 4000000 in
set_option maxRecDepth 100000 in
theorem f_X0_greatest (l : Launch) (D : va_G) (cB cI cJ cZ : ClassId) (h0 p0 p1 p2 p6 p7 p8 a : Nat) (b4 b5 : Int32) (f0 f1 f2 f6 f7 f8 : Nat → Int32) (hz0 : iv f8 0 = 0) : Met l yX0_greatestLack wsX0_greatestLack ({ frames := 1, cells := 0, slots := 0, locals := 21 } : Room) (cRd D (aTy cB cI cJ cZ) [(h0, .inr (0, [.ref p0, .ref p1, .ref p2, .int (nI a), .int b4, .int b5, .ref p6, .ref p7, .ref p8])), (p8, .inl (cI, 64, .inl f8))] [.ref h0]) (vp_Si (fun r : Int32 => mxE (iv f8) 64 r.toInt)) 0 0 (fun _ => False) := by
  refine Met.ofW (cc := cX0_greatestLack) (maxL := 3) (ret := (some .int)) (by decide) rfl ?_
  intro p e s m args below meth c s₁ B hml hv
  obtain ⟨rfl, hP, hK⟩ := hv
  have hx := B.exec
  have hb := B.bytes
  have hr := B.returns
  have hts := atoms_spec (ws := wsX0_greatestLack) B.pre
  have hown : s.vm.findClass RX0 = some m.cls := findClass_of_methodNamed B.named
  have hlocks := B.notSynchronized
  have hP : va_P D vwCl [(h0, .inr (0, [.ref p0, .ref p1, .ref p2, .int (nI a), .int b4, .int b5, .ref p6, .ref p7, .ref p8])), (p8, .inl (cI, 64, .inl f8))] s.heap := hP
  have w_1 : ∀ w ∈ wsX00, w ∈ wsX0_greatestLack := by decide +kernel
  have w_2 := hts (Cond.fieldLink RX0 27 "BlueCoats$Chest" "lack" "[I") (by decide +kernel)
  have w_3 := hts (Cond.methodLink RX0 58 Lib.Math.max.name) (by decide +kernel)
  have w_4 := hts (Cond.static Lib.Math.max.name) (by decide +kernel)
  have w_5 := hts (Cond.initialized "java/lang/Math") (by decide +kernel)
  have w_6 := hts (Cond.code Lib.Math.max.name Lib.Math.max.code 2 (some .int)) (by decide +kernel)
  have hl := lv_entry ([.ref h0]) (n := 3) (Nat.le_of_ble_eq_true rfl)
  rw [lg_entry_eq]
  generalize (lg_sl ([.ref h0]) ++ List.replicate (3 - (lg_sl ([.ref h0])).length) Slot.unset).toArray = ls at hl ⊢
  have hl : lv_has ls 3 [(0, .ref h0)] := hl
  generalize hQ : MQ below _ _ s _ _ _ = Q0
  refine lv_iconst (v := 0) hx hb dX0_greatestLack_0 (by decide) ?_
  refine lv_istore_n (lv' := [(1, .int 0), (0, .ref h0)]) hx hb dX0_greatestLack_1 rfl hl (by decide) rfl (fun ls hl => ?_)
  refine lv_iconst (v := 1) hx hb dX0_greatestLack_2 (by decide) ?_
  refine lv_istore_n (lv' := [(2, .int 1), (1, .int 0), (0, .ref h0)]) hx hb dX0_greatestLack_3 rfl hl (by decide) rfl (fun ls hl => ?_)
  have L_1 : ∀ (n : Nat) (i_4 : Nat) (l_1_4 : Int32) (ls : Array Slot), 64 - i_4 < n → (i_4 ≤ 64) → (mxE (iv f8) i_4 l_1_4.toInt) → va_P D vwCl [(h0, .inr (0, [.ref p0, .ref p1, .ref p2, .int (nI a), .int b4, .int b5, .ref p6, .ref p7, .ref p8])), (p8, .inl (cI, 64, .inl f8))] s.heap → lv_has ls 3 [(0, .ref h0), (1, .int l_1_4), (2, .int (nI i_4))] → W p l e (headSpec wsX0_greatestLack ({ frames := 1, cells := 0, slots := 0, locals := 21 } : Room)).room s m ([.ref h0] : List Value).toArray below meth c s.heap [] 0 0 Q0 (F0 m 4 ls []) := by
    intro n
    induction n with
    | zero => intro i_4 l_1_4 ls hn_4 hle_4 hG_4 hP hl; exact absurd hn_4 (Nat.not_lt_zero _)
    | succ n ih_L_1 =>
      intro i_4 l_1_4 ls hn_4 hle_4 hG_4 hP hl
      refine lv_iload_n hx hb dX0_greatestLack_4 rfl (lv_at hl 2 rfl) ?_
      refine lv_bipush (v := 64) hx hb dX0_greatestLack_5 (by decide) ?_
      refine lv_icmp_ge (tgt := 27) hx hb dX0_greatestLack_7 (by decide) (fun c_7 => ?_) (fun c_7 => ?_)
      ·
        refine lv_iload_n hx hb dX0_greatestLack_27 rfl (lv_at hl 1 rfl) ?_
        rw [← hQ]
        exact W.iret (v := l_1_4) hx hb hr (fun t ht hW => ⟨_, rfl, (me_e hG_4 (Nat.le_antisymm hle_4 (ge3 (by omega) hle_4 c_7))), ht⟩) (fun q h => nomatch h) dX0_greatestLack_28
      ·
        have hb_4 : i_4 < 64 := lt3 (by omega) hle_4 c_7
        refine lv_iload_n hx hb dX0_greatestLack_10 rfl (lv_at hl 1 rfl) ?_
        refine lv_aload_n hx hb dX0_greatestLack_11 rfl (lv_at hl 0 rfl) ?_
        refine va_get (D := D) (ci := 0) (v := .ref p8) (C := RX0) (T := TX0) (N := 9) hx hb hts w_1 hown hK hP 0 rfl rfl 8 (by decide) w_2 (fun _ h9 => h9) rfl dX0_greatestLack_12 ?_
        refine lv_iload_n hx hb dX0_greatestLack_15 rfl (lv_at hl 2 rfl) ?_
        refine sv_iald (v := f8 i_4) hx hb hK hP 1 1 rfl rfl (vp_in_nI (by omega) (by decide)) (congrArg _ (nI_clamp (by omega))) dX0_greatestLack_16 ?_
        refine va_mmax (x := l_1_4) (y := f8 i_4) hx hb (by rw [hml]; exact hl.1.symm) hown w_3 w_4 w_5 w_6 (Nat.le_of_ble_eq_true rfl) (Nat.le_of_ble_eq_true rfl) (Nat.le_of_ble_eq_true rfl) (Nat.le_of_ble_eq_true rfl) dX0_greatestLack_17 ?_
        refine lv_topi (fun v_2 ev_2 => ?_)
        refine lv_istore_n (lv' := [(1, .int v_2), (0, .ref h0), (2, .int (nI i_4))]) hx hb dX0_greatestLack_20 rfl hl (by decide) rfl (fun ls hl => ?_)
        refine lv_iinc (v := nI (i_4 + 1)) (lv' := [(2, .int (nI (i_4 + 1))), (1, .int v_2), (0, .ref h0)]) hx hb dX0_greatestLack_21 hl (k := 2) rfl (ax_add _ 1) (by decide) rfl (fun ls hl => ?_)
        refine lv_goto (tgt := 4) hx hb dX0_greatestLack_24 (by decide) ?_
        exact ih_L_1 (i_4 + 1) v_2 ls (by omega) (by omega) (gl_s hG_4 ev_2) hP (lv_sub hl [2, 1, 0] rfl)
  exact L_1 _ 1 0 ls (Nat.lt_succ_self _) (by first | exact Nat.zero_le _ | omega) (gl_0 hz0) hP (lv_sub hl [2, 1, 0] rfl)

set_option maxHeartbeats 4000000 in
set_option maxRecDepth 100000 in
theorem f_X0_planEnds (l : Launch) (D : va_G) (cB cI cJ cZ : ClassId) (sz : Nat) (h0 p0 p1 p2 p6 p7 p8 a : Nat) (b4 b5 : Int32) (f0 f1 f2 f6 f7 f8 : Nat → Int32) (ha : a ≤ 8) (hnd : ndP f0) (hlg : lgP f6 f7 a) : Met l yX0_planEnds wsX0_planEnds ({ frames := 1, cells := 0, slots := 0, locals := 23 } : Room) (cPre D (aTy cB cI cJ cZ) [(h0, .inr (0, [.ref p0, .ref p1, .ref p2, .int (nI a), .int b4, .int b5, .ref p6, .ref p7, .ref p8])), (p0, .inl (cI, 6, .inl f0)), (p1, .inl (cI, 6, .inl f1)), (p6, .inl (cI, 8, .inl f6)), (p7, .inl (cI, 8, .inl f7)), (p8, .inl (cI, 64, .inl f8))] sz [.ref h0]) (va_Qv (fun (u : (Nat → Int32) × (Nat → Int32) × Int32 × Int32) => peP f0 f6 f7 a u.1 6 ∧ mxF (vP f0 f6 f7 a) 64 u.2.2.1 u.2.2.2) (cB_ D (aTy cB cI cJ cZ) (va_A [(h0, .inr (0, [.ref p0, .ref p1, .ref p2, .int (nI a), .int b4, .int b5, .ref p6, .ref p7, .ref p8])), (p0, .inl (cI, 6, .inl f0)), (p1, .inl (cI, 6, .inl f1)), (p6, .inl (cI, 8, .inl f6)), (p7, .inl (cI, 8, .inl f7)), (p8, .inl (cI, 64, .inl f8))] sz) (fun u => [(h0, .inr (0, [.ref p0, .ref p1, .ref p2, .int (nI a), .int (u.2.2.1), .int (u.2.2.2), .ref p6, .ref p7, .ref p8])), (p0, .inl (cI, 6, .inl f0)), (p1, .inl (cI, 6, .inl u.1)), (p6, .inl (cI, 8, .inl f6)), (p7, .inl (cI, 8, .inl f7)), (p8, .inl (cI, 64, .inl u.2.1))])) (va_A [(h0, .inr (0, [.ref p0, .ref p1, .ref p2, .int (nI a), .int b4, .int b5, .ref p6, .ref p7, .ref p8])), (p0, .inl (cI, 6, .inl f0)), (p1, .inl (cI, 6, .inl f1)), (p6, .inl (cI, 8, .inl f6)), (p7, .inl (cI, 8, .inl f7)), (p8, .inl (cI, 64, .inl f8))] sz)) 0 0 (va_A [(h0, .inr (0, [.ref p0, .ref p1, .ref p2, .int (nI a), .int b4, .int b5, .ref p6, .ref p7, .ref p8])), (p0, .inl (cI, 6, .inl f0)), (p1, .inl (cI, 6, .inl f1)), (p6, .inl (cI, 8, .inl f6)), (p7, .inl (cI, 8, .inl f7)), (p8, .inl (cI, 64, .inl f8))] sz) := by
  refine Met.ofW (cc := cX0_planEnds) (maxL := 5) (ret := none) (by decide) rfl ?_
  intro p e s m args below meth c s₁ B hml hv
  obtain ⟨rfl, hsz, hP, hK, hD0⟩ := hv
  have hx := B.exec
  have hb := B.bytes
  have hr := B.returns
  have hts := atoms_spec (ws := wsX0_planEnds) B.pre
  have hown : s.vm.findClass RX0 = some m.cls := findClass_of_methodNamed B.named
  have hlocks := B.notSynchronized
  subst hsz
  have hD := hD0.self (sz := s.heap.size)
  generalize hAe : va_A [(h0, .inr (0, [.ref p0, .ref p1, .ref p2, .int (nI a), .int b4, .int b5, .ref p6, .ref p7, .ref p8])), (p0, .inl (cI, 6, .inl f0)), (p1, .inl (cI, 6, .inl f1)), (p6, .inl (cI, 8, .inl f6)), (p7, .inl (cI, 8, .inl f7)), (p8, .inl (cI, 64, .inl f8))] s.heap.size = A at hD ⊢
  have hA : ∀ q : Nat, s.heap.size ≤ q → A q := fun q h => by rw [← hAe]; exact Or.inr h
  have hS : va_S A s.heap s.heap [] := va_S.rf
  have hP : va_P D vwCl [(h0, .inr (0, [.ref p0, .ref p1, .ref p2, .int (nI a), .int b4, .int b5, .ref p6, .ref p7, .ref p8])), (p0, .inl (cI, 6, .inl f0)), (p1, .inl (cI, 6, .inl f1)), (p6, .inl (cI, 8, .inl f6)), (p7, .inl (cI, 8, .inl f7)), (p8, .inl (cI, 64, .inl f8))] s.heap := hP
  have w_1 : ∀ w ∈ wsX00, w ∈ wsX0_planEnds := by decide +kernel
  have w_2 := hts (Cond.fieldLink RX0 11 "BlueCoats$Chest" "need" "[I") (by decide +kernel)
  have w_3 := hts (Cond.fieldLink RX0 30 "BlueCoats$Chest" "number" "I") (by decide +kernel)
  have w_4 := hts (Cond.fieldLink RX0 48 "BlueCoats$Chest" "shortfall" "I") (by decide +kernel)
  have w_5 := hts (Cond.fieldLink RX0 51 "BlueCoats$Chest" "proof" "I") (by decide +kernel)
  have w_6 := hts (Cond.fieldLink RX0 15 "BlueCoats$Chest" "toEnd" "[I") (by decide +kernel)
  have w_7 := hts (Cond.fieldLink RX0 27 "BlueCoats$Chest" "lack" "[I") (by decide +kernel)
  have hl := lv_entry ([.ref h0]) (n := 5) (Nat.le_of_ble_eq_true rfl)
  rw [lg_entry_eq]
  generalize (lg_sl ([.ref h0]) ++ List.replicate (5 - (lg_sl ([.ref h0])).length) Slot.unset).toArray = ls at hl ⊢
  have hl : lv_has ls 5 [(0, .ref h0)] := hl
  generalize hQ : MQ below _ _ s _ _ _ = Q0
  refine lv_aload_n hx hb dX0_planEnds_0 rfl (lv_at hl 0 rfl) ?_
  refine lv_aload_n hx hb dX0_planEnds_1 rfl (lv_at hl 0 rfl) ?_
  refine va_get (D := D) (ci := 0) (v := .ref p0) (C := RX0) (T := TX0) (N := 9) hx hb hts w_1 hown hK hP 0 rfl rfl 0 (by decide) w_2 (fun _ h9 => h9) rfl dX0_planEnds_2 ?_
  refine cl_v (wc := [(h0, .inr (0, [.ref p0, .ref p1, .ref p2, .int (nI a), .int b4, .int b5, .ref p6, .ref p7, .ref p8])), (p0, .inl (cI, 6, .inl f0)), (p8, .inl (cI, 64, .inl f8))]) (wr := [(p1, .inl (cI, 6, .inl f1)), (p6, .inl (cI, 8, .inl f6)), (p7, .inl (cI, 8, .inl f7))]) (va_runV (As := [.ref p0]) (rest := []) ⟨hx, hb, hml, hown, hts⟩ (f_X0_setLack l D cB cI cJ cZ s.heap.size h0 p0 p1 p2 p6 p7 p8 a b4 b5 p0 f0 f8 (nd_bm hnd)) (cwV 1 hts gX0_planEnds_X0_setLack rfl rfl rfl (by decide +kernel) ⟨Nat.le_of_ble_eq_true rfl, Nat.le_of_ble_eq_true rfl⟩) (pre_V (hP.sub (ws' := [(h0, .inr (0, [.ref p0, .ref p1, .ref p2, .int (nI a), .int b4, .int b5, .ref p6, .ref p7, .ref p8])), (p0, .inl (cI, 6, .inl f0)), (p8, .inl (cI, 64, .inl f8))]) [0, 1, 5] rfl) hK (hD.sub (ws' := [(h0, .inr (0, [.ref p0, .ref p1, .ref p2, .int (nI a), .int b4, .int b5, .ref p6, .ref p7, .ref p8])), (p0, .inl (cI, 6, .inl f0)), (p8, .inl (cI, 64, .inl f8))]) [0, 1, 5] (by decide) rfl) 0 rfl rfl rfl) rfl rfl hl.1 rfl (lv_room (Nat.le_of_ble_eq_true rfl)) dX0_planEnds_5 ⟨Nat.le_of_ble_eq_true rfl, Nat.le_of_ble_eq_true rfl⟩) hP hD hS hA [0, 1, 5] [2, 3, 4] rfl rfl (by decide) (by decide) 0 0 rfl rfl (fun u_2 H locs hw_u_2 hP hD hS => ?_)
  have hP : va_P D vwCl [(p1, .inl (cI, 6, .inl f1)), (p6, .inl (cI, 8, .inl f6)), (p7, .inl (cI, 8, .inl f7)), (h0, .inr (0, [.ref p0, .ref p1, .ref p2, .int (nI a), .int b4, .int b5, .ref p6, .ref p7, .ref p8])), (p0, .inl (cI, 6, .inl f0)), (p8, .inl (cI, 64, .inl u_2))] H := hP
  have hD : va_D A [(p1, .inl (cI, 6, .inl f1)), (p6, .inl (cI, 8, .inl f6)), (p7, .inl (cI, 8, .inl f7)), (h0, .inr (0, [.ref p0, .ref p1, .ref p2, .int (nI a), .int b4, .int b5, .ref p6, .ref p7, .ref p8])), (p0, .inl (cI, 6, .inl f0)), (p8, .inl (cI, 64, .inl u_2))] := hD
  refine lv_iconst (v := 0) hx hb dX0_planEnds_8 (by decide) ?_
  refine lv_istore_n (lv' := [(1, .int 0), (0, .ref h0)]) hx hb dX0_planEnds_9 rfl hl (by decide) rfl (fun ls hl => ?_)
  have L_3 : ∀ (n : Nat) (i_10 : Nat) (f_p8_10 : Nat → Int32) (H : Heap) (locs : List Loc) (ls : Array Slot), a - i_10 < n → (i_10 ≤ a) → (lkP f_p8_10 f0 f6 f7 i_10) → va_P D vwCl [(p1, .inl (cI, 6, .inl f1)), (p6, .inl (cI, 8, .inl f6)), (p7, .inl (cI, 8, .inl f7)), (h0, .inr (0, [.ref p0, .ref p1, .ref p2, .int (nI a), .int b4, .int b5, .ref p6, .ref p7, .ref p8])), (p0, .inl (cI, 6, .inl f0)), (p8, .inl (cI, 64, .inl f_p8_10))] H → va_D A [(p1, .inl (cI, 6, .inl f1)), (p6, .inl (cI, 8, .inl f6)), (p7, .inl (cI, 8, .inl f7)), (h0, .inr (0, [.ref p0, .ref p1, .ref p2, .int (nI a), .int b4, .int b5, .ref p6, .ref p7, .ref p8])), (p0, .inl (cI, 6, .inl f0)), (p8, .inl (cI, 64, .inl f_p8_10))] → va_S A s.heap H locs → lv_has ls 5 [(0, .ref h0), (1, .int (nI i_10))] → W p l e (headSpec wsX0_planEnds ({ frames := 1, cells := 0, slots := 0, locals := 23 } : Room)).room s m ([.ref h0] : List Value).toArray below meth c H locs 0 0 Q0 (F0 m 10 ls []) := by
    intro n
    induction n with
    | zero => intro i_10 f_p8_10 H locs ls hn_10 hle_10 hk_10 hP hD hS hl; exact absurd hn_10 (Nat.not_lt_zero _)
    | succ n ih_L_3 =>
      intro i_10 f_p8_10 H locs ls hn_10 hle_10 hk_10 hP hD hS hl
      refine lv_iload_n hx hb dX0_planEnds_10 rfl (lv_at hl 1 rfl) ?_
      refine lv_aload_n hx hb dX0_planEnds_11 rfl (lv_at hl 0 rfl) ?_
      refine va_get (D := D) (ci := 0) (v := .int (nI a)) (C := RX0) (T := TX0) (N := 9) hx hb hts w_1 hown hK hP 3 rfl rfl 3 (by decide) w_3 (fun _ h9 => h9) rfl dX0_planEnds_12 ?_
      refine lv_icmp_ge (tgt := 29) hx hb dX0_planEnds_15 (by decide) (fun c_15 => ?_) (fun c_15 => ?_)
      ·
        have hka := lk_e hk_10 (Nat.le_antisymm hle_10 (ge3 (by omega) hle_10 c_15))
        refine lv_aload_n hx hb dX0_planEnds_29 rfl (lv_at hl 0 rfl) ?_
        refine lv_iconst (v := 0) hx hb dX0_planEnds_30 (by decide) ?_
        refine va_put (D := D) (ci := 0) (v := .int 0) (ty := .int) (C := RX0) (T := TX0) (N := 9) hx hb hts w_1 tyX0 tyX0_ok nmX0 hown hK hP hD hS 3 rfl rfl 4 (by decide) w_4 (fun _ h9 => h9) rfl (by decide +kernel) rfl rfl (Nat.le_of_ble_eq_true rfl) dX0_planEnds_31 (fun H locs hP hD hS => ?_)
        have hP : va_P D vwCl [(p1, .inl (cI, 6, .inl f1)), (p6, .inl (cI, 8, .inl f6)), (p7, .inl (cI, 8, .inl f7)), (h0, .inr (0, [.ref p0, .ref p1, .ref p2, .int (nI a), .int 0, .int b5, .ref p6, .ref p7, .ref p8])), (p0, .inl (cI, 6, .inl f0)), (p8, .inl (cI, 64, .inl f_p8_10))] H := hP
        have hD : va_D A [(p1, .inl (cI, 6, .inl f1)), (p6, .inl (cI, 8, .inl f6)), (p7, .inl (cI, 8, .inl f7)), (h0, .inr (0, [.ref p0, .ref p1, .ref p2, .int (nI a), .int 0, .int b5, .ref p6, .ref p7, .ref p8])), (p0, .inl (cI, 6, .inl f0)), (p8, .inl (cI, 64, .inl f_p8_10))] := hD
        refine lv_aload_n hx hb dX0_planEnds_34 rfl (lv_at hl 0 rfl) ?_
        refine lv_iconst (v := 0) hx hb dX0_planEnds_35 (by decide) ?_
        refine va_put (D := D) (ci := 0) (v := .int 0) (ty := .int) (C := RX0) (T := TX0) (N := 9) hx hb hts w_1 tyX0 tyX0_ok nmX0 hown hK hP hD hS 3 rfl rfl 5 (by decide) w_5 (fun _ h9 => h9) rfl (by decide +kernel) rfl rfl (Nat.le_of_ble_eq_true rfl) dX0_planEnds_36 (fun H locs hP hD hS => ?_)
        have hP : va_P D vwCl [(p1, .inl (cI, 6, .inl f1)), (p6, .inl (cI, 8, .inl f6)), (p7, .inl (cI, 8, .inl f7)), (h0, .inr (0, [.ref p0, .ref p1, .ref p2, .int (nI a), .int 0, .int 0, .ref p6, .ref p7, .ref p8])), (p0, .inl (cI, 6, .inl f0)), (p8, .inl (cI, 64, .inl f_p8_10))] H := hP
        have hD : va_D A [(p1, .inl (cI, 6, .inl f1)), (p6, .inl (cI, 8, .inl f6)), (p7, .inl (cI, 8, .inl f7)), (h0, .inr (0, [.ref p0, .ref p1, .ref p2, .int (nI a), .int 0, .int 0, .ref p6, .ref p7, .ref p8])), (p0, .inl (cI, 6, .inl f0)), (p8, .inl (cI, 64, .inl f_p8_10))] := hD
        refine lv_iconst (v := 0) hx hb dX0_planEnds_39 (by decide) ?_
        refine lv_istore_n (lv' := [(1, .int 0), (0, .ref h0)]) hx hb dX0_planEnds_40 rfl hl (by decide) rfl (fun ls hl => ?_)
        refine lv_iconst (v := 0) hx hb dX0_planEnds_41 (by decide) ?_
        refine lv_istore_n (lv' := [(2, .int 0), (1, .int 0), (0, .ref h0)]) hx hb dX0_planEnds_42 rfl hl (by decide) rfl (fun ls hl => ?_)
        refine lv_iconst (v := 0) hx hb dX0_planEnds_43 (by decide) ?_
        refine lv_istore_n (lv' := [(3, .int 0), (2, .int 0), (1, .int 0), (0, .ref h0)]) hx hb dX0_planEnds_44 rfl hl (by decide) rfl (fun ls hl => ?_)
        have L_4 : ∀ (n : Nat) (i_45 : Nat) (f_p1_45 : Nat → Int32) (t_h0_4_45 : Int32) (t_h0_5_45 : Int32) (l_1_45 : Int32) (l_2_45 : Int32) (H : Heap) (locs : List Loc) (ls : Array Slot), 6 - i_45 < n → (i_45 ≤ 6) → (peP f0 f6 f7 a f_p1_45 i_45) → (mxF (vP f0 f6 f7 a) (2 ^ i_45) t_h0_4_45 t_h0_5_45) → (l_1_45.toInt = py_p (iv f0) i_45) → (l_2_45.toInt = py_p (iv f_p1_45) i_45) → va_P D vwCl [(p1, .inl (cI, 6, .inl f_p1_45)), (p6, .inl (cI, 8, .inl f6)), (p7, .inl (cI, 8, .inl f7)), (h0, .inr (0, [.ref p0, .ref p1, .ref p2, .int (nI a), .int t_h0_4_45, .int t_h0_5_45, .ref p6, .ref p7, .ref p8])), (p0, .inl (cI, 6, .inl f0)), (p8, .inl (cI, 64, .inl f_p8_10))] H → va_D A [(p1, .inl (cI, 6, .inl f_p1_45)), (p6, .inl (cI, 8, .inl f6)), (p7, .inl (cI, 8, .inl f7)), (h0, .inr (0, [.ref p0, .ref p1, .ref p2, .int (nI a), .int t_h0_4_45, .int t_h0_5_45, .ref p6, .ref p7, .ref p8])), (p0, .inl (cI, 6, .inl f0)), (p8, .inl (cI, 64, .inl f_p8_10))] → va_S A s.heap H locs → lv_has ls 5 [(0, .ref h0), (1, .int l_1_45), (2, .int l_2_45), (3, .int (nI i_45))] → W p l e (headSpec wsX0_planEnds ({ frames := 1, cells := 0, slots := 0, locals := 23 } : Room)).room s m ([.ref h0] : List Value).toArray below meth c H locs 0 0 Q0 (F0 m 45 ls []) := by
          intro n
          induction n with
          | zero => intro i_45 f_p1_45 t_h0_4_45 t_h0_5_45 l_1_45 l_2_45 H locs ls hn_45 hle_45 hE_45 hM_45 hN_45 hQ_45 hP hD hS hl; exact absurd hn_45 (Nat.not_lt_zero _)
          | succ n ih_L_4 =>
            intro i_45 f_p1_45 t_h0_4_45 t_h0_5_45 l_1_45 l_2_45 H locs ls hn_45 hle_45 hE_45 hM_45 hN_45 hQ_45 hP hD hS hl
            refine lv_iload_n hx hb dX0_planEnds_45 rfl (lv_at hl 3 rfl) ?_
            refine lv_bipush (v := 6) hx hb dX0_planEnds_46 (by decide) ?_
            refine lv_icmp_ge (tgt := 137) hx hb dX0_planEnds_48 (by decide) (fun c_48 => ?_) (fun c_48 => ?_)
            ·
              rw [← hQ]
              have hP9 := hP.sub (ws' := [(h0, .inr (0, [.ref p0, .ref p1, .ref p2, .int (nI a), .int t_h0_4_45, .int t_h0_5_45, .ref p6, .ref p7, .ref p8])), (p0, .inl (cI, 6, .inl f0)), (p1, .inl (cI, 6, .inl f_p1_45)), (p6, .inl (cI, 8, .inl f6)), (p7, .inl (cI, 8, .inl f7)), (p8, .inl (cI, 64, .inl f_p8_10))]) [3, 4, 0, 1, 2, 5] rfl
              have hD9 := hD.sub (ws' := [(h0, .inr (0, [.ref p0, .ref p1, .ref p2, .int (nI a), .int t_h0_4_45, .int t_h0_5_45, .ref p6, .ref p7, .ref p8])), (p0, .inl (cI, 6, .inl f0)), (p1, .inl (cI, 6, .inl f_p1_45)), (p6, .inl (cI, 8, .inl f6)), (p7, .inl (cI, 8, .inl f7)), (p8, .inl (cI, 64, .inl f_p8_10))]) [3, 4, 0, 1, 2, 5] (by decide) rfl
              exact W.vret hx hb hr (fun t ht hW => ⟨⟨(f_p1_45, f_p8_10, (t_h0_4_45 : Int32), (t_h0_5_45 : Int32)), rfl, ⟨pe_e hE_45 (Nat.le_antisymm hle_45 (ge3 (by omega) hle_45 c_48)), mf_e hM_45 (by rw [(Nat.le_antisymm hle_45 (ge3 (by omega) hle_45 c_48))])⟩, by rw [ht]; exact hP9, va_K.moved hW.alike hK, hD9⟩, hS.F ht⟩) hS.2.2 dX0_planEnds_137
            ·
              have hb_45 : i_45 < 6 := lt3 (by omega) hle_45 c_48
              refine lv_iload_n hx hb dX0_planEnds_51 rfl (lv_at hl 1 rfl) ?_
              refine lv_aload_n hx hb dX0_planEnds_52 rfl (lv_at hl 0 rfl) ?_
              refine va_get (D := D) (ci := 0) (v := .ref p0) (C := RX0) (T := TX0) (N := 9) hx hb hts w_1 hown hK hP 3 rfl rfl 0 (by decide) w_2 (fun _ h9 => h9) rfl dX0_planEnds_53 ?_
              refine lv_iload_n hx hb dX0_planEnds_56 rfl (lv_at hl 3 rfl) ?_
              refine sv_iald (v := f0 i_45) hx hb hK hP 4 1 rfl rfl (vp_in_nI (by omega) (by decide)) (congrArg _ (nI_clamp (by omega))) dX0_planEnds_57 ?_
              refine sv_iadd (v := l_1_45 + (f0 i_45)) hx hb dX0_planEnds_58 rfl ?_
              refine lv_istore_n (lv' := [(1, .int (l_1_45 + (f0 i_45))), (0, .ref h0), (2, .int l_2_45), (3, .int (nI i_45))]) hx hb dX0_planEnds_59 rfl hl (by decide) rfl (fun ls hl => ?_)
              have hN1 := pe_n hnd hb_45 hN_45
              have hpw := pw32 hb_45
              have hpw2 := pw2 i_45
              have hpos := pow_pos2 i_45
              refine lv_iconst (v := 1) hx hb dX0_planEnds_60 (by decide) ?_
              refine lv_iload_n hx hb dX0_planEnds_61 rfl (lv_at hl 3 rfl) ?_
              refine sv_ishl (v := nI (2 ^ i_45)) hx hb dX0_planEnds_62 (sh16 (by omega)) ?_
              refine lv_istore (lv' := [(4, .int (nI (2 ^ i_45))), (1, .int (l_1_45 + (f0 i_45))), (0, .ref h0), (2, .int l_2_45), (3, .int (nI i_45))]) hx hb dX0_planEnds_63 hl (by decide) rfl (fun ls hl => ?_)
              have L_5 : ∀ (n : Nat) (i_65 : Nat) (t_h0_4_65 : Int32) (t_h0_5_65 : Int32) (H : Heap) (locs : List Loc) (ls : Array Slot), (2 ^ (i_45 + 1)) - i_65 < n → (i_65 ≤ 2 ^ (i_45 + 1)) → (mxF (vP f0 f6 f7 a) i_65 t_h0_4_65 t_h0_5_65) → va_P D vwCl [(p1, .inl (cI, 6, .inl f_p1_45)), (p6, .inl (cI, 8, .inl f6)), (p7, .inl (cI, 8, .inl f7)), (h0, .inr (0, [.ref p0, .ref p1, .ref p2, .int (nI a), .int t_h0_4_65, .int t_h0_5_65, .ref p6, .ref p7, .ref p8])), (p0, .inl (cI, 6, .inl f0)), (p8, .inl (cI, 64, .inl f_p8_10))] H → va_D A [(p1, .inl (cI, 6, .inl f_p1_45)), (p6, .inl (cI, 8, .inl f6)), (p7, .inl (cI, 8, .inl f7)), (h0, .inr (0, [.ref p0, .ref p1, .ref p2, .int (nI a), .int t_h0_4_65, .int t_h0_5_65, .ref p6, .ref p7, .ref p8])), (p0, .inl (cI, 6, .inl f0)), (p8, .inl (cI, 64, .inl f_p8_10))] → va_S A s.heap H locs → lv_has ls 5 [(0, .ref h0), (1, .int (l_1_45 + (f0 i_45))), (2, .int l_2_45), (3, .int (nI i_45)), (4, .int (nI i_65))] → W p l e (headSpec wsX0_planEnds ({ frames := 1, cells := 0, slots := 0, locals := 23 } : Room)).room s m ([.ref h0] : List Value).toArray below meth c H locs 0 0 Q0 (F0 m 65 ls []) := by
                intro n
                induction n with
                | zero => intro i_65 t_h0_4_65 t_h0_5_65 H locs ls hn_65 hle_65 hM_65 hP hD hS hl; exact absurd hn_65 (Nat.not_lt_zero _)
                | succ n ih_L_5 =>
                  intro i_65 t_h0_4_65 t_h0_5_65 H locs ls hn_65 hle_65 hM_65 hP hD hS hl
                  refine lv_iload hx hb dX0_planEnds_65 (lv_at hl 4 rfl) ?_
                  refine lv_iconst (v := 2) hx hb dX0_planEnds_67 (by decide) ?_
                  refine lv_iload_n hx hb dX0_planEnds_68 rfl (lv_at hl 3 rfl) ?_
                  refine sv_ishl (v := nI (2 ^ (i_45 + 1))) hx hb dX0_planEnds_69 (sh2 (by omega)) ?_
                  refine lv_icmp_ge (tgt := 110) hx hb dX0_planEnds_70 (by decide) (fun c_70 => ?_) (fun c_70 => ?_)
                  ·
                    refine lv_aload_n hx hb dX0_planEnds_110 rfl (lv_at hl 0 rfl) ?_
                    refine va_get (D := D) (ci := 0) (v := .ref p1) (C := RX0) (T := TX0) (N := 9) hx hb hts w_1 hown hK hP 3 rfl rfl 1 (by decide) w_6 (fun _ h9 => h9) rfl dX0_planEnds_111 ?_
                    refine lv_iload_n hx hb dX0_planEnds_114 rfl (lv_at hl 3 rfl) ?_
                    refine lv_iload_n hx hb dX0_planEnds_115 rfl (lv_at hl 1 rfl) ?_
                    refine lv_aload_n hx hb dX0_planEnds_116 rfl (lv_at hl 0 rfl) ?_
                    refine va_get (D := D) (ci := 0) (v := .int t_h0_4_65) (C := RX0) (T := TX0) (N := 9) hx hb hts w_1 hown hK hP 3 rfl rfl 4 (by decide) w_4 (fun _ h9 => h9) rfl dX0_planEnds_117 ?_
                    refine sv_isub (v := (l_1_45 + (f0 i_45)) - t_h0_4_65) hx hb dX0_planEnds_120 rfl ?_
                    refine lv_iload_n hx hb dX0_planEnds_121 rfl (lv_at hl 2 rfl) ?_
                    refine sv_isub (v := ((l_1_45 + (f0 i_45)) - t_h0_4_65) - l_2_45) hx hb dX0_planEnds_122 rfl ?_
                    refine sv_iast hx hb hK hP hD hS 0 1 rfl rfl (vp_in_nI (by omega) (by decide)) dX0_planEnds_123 (fun g_6 H locs eg_6 hP hD hS => ?_)
                    have eg_6 : g_6 = upd f_p1_45 i_45 (((l_1_45 + (f0 i_45)) - t_h0_4_65) - l_2_45) := ist eg_6 (by omega)
                    subst eg_6
                    have hP : va_P D vwCl [(p1, .inl (cI, 6, .inl (upd f_p1_45 i_45 (((l_1_45 + (f0 i_45)) - t_h0_4_65) - l_2_45)))), (p6, .inl (cI, 8, .inl f6)), (p7, .inl (cI, 8, .inl f7)), (h0, .inr (0, [.ref p0, .ref p1, .ref p2, .int (nI a), .int t_h0_4_65, .int t_h0_5_65, .ref p6, .ref p7, .ref p8])), (p0, .inl (cI, 6, .inl f0)), (p8, .inl (cI, 64, .inl f_p8_10))] H := hP
                    have hD : va_D A [(p1, .inl (cI, 6, .inl (upd f_p1_45 i_45 (((l_1_45 + (f0 i_45)) - t_h0_4_65) - l_2_45)))), (p6, .inl (cI, 8, .inl f6)), (p7, .inl (cI, 8, .inl f7)), (h0, .inr (0, [.ref p0, .ref p1, .ref p2, .int (nI a), .int t_h0_4_65, .int t_h0_5_65, .ref p6, .ref p7, .ref p8])), (p0, .inl (cI, 6, .inl f0)), (p8, .inl (cI, 64, .inl f_p8_10))] := hD
                    refine lv_iload_n hx hb dX0_planEnds_124 rfl (lv_at hl 1 rfl) ?_
                    refine lv_aload_n hx hb dX0_planEnds_125 rfl (lv_at hl 0 rfl) ?_
                    refine va_get (D := D) (ci := 0) (v := .int t_h0_4_65) (C := RX0) (T := TX0) (N := 9) hx hb hts w_1 hown hK hP 3 rfl rfl 4 (by decide) w_4 (fun _ h9 => h9) rfl dX0_planEnds_126 ?_
                    refine sv_isub (v := (l_1_45 + (f0 i_45)) - t_h0_4_65) hx hb dX0_planEnds_129 rfl ?_
                    refine lv_istore_n (lv' := [(2, .int ((l_1_45 + (f0 i_45)) - t_h0_4_65)), (0, .ref h0), (1, .int (l_1_45 + (f0 i_45))), (3, .int (nI i_45)), (4, .int (nI i_65))]) hx hb dX0_planEnds_130 rfl hl (by decide) rfl (fun ls hl => ?_)
                    refine lv_iinc (v := nI (i_45 + 1)) (lv' := [(3, .int (nI (i_45 + 1))), (2, .int ((l_1_45 + (f0 i_45)) - t_h0_4_65)), (0, .ref h0), (1, .int (l_1_45 + (f0 i_45))), (4, .int (nI i_65))]) hx hb dX0_planEnds_131 hl (k := 3) rfl (ax_add _ 1) (by decide) rfl (fun ls hl => ?_)
                    refine lv_goto (tgt := 45) hx hb dX0_planEnds_134 (by decide) ?_
                    exact ih_L_4 (i_45 + 1) (upd f_p1_45 i_45 (((l_1_45 + (f0 i_45)) - t_h0_4_65) - l_2_45)) t_h0_4_65 t_h0_5_65 (l_1_45 + (f0 i_45)) ((l_1_45 + (f0 i_45)) - t_h0_4_65) _ _ ls (by omega) (by omega) (pe_s hnd hlg ha hb_45 hE_45 hM_65 (Nat.le_antisymm hle_65 (ge3 (by omega) hle_65 c_70)) hN1 hQ_45).2 (mf_e hM_65 (Nat.le_antisymm hle_65 (ge3 (by omega) hle_65 c_70)).symm) hN1 (pe_s hnd hlg ha hb_45 hE_45 hM_65 (Nat.le_antisymm hle_65 (ge3 (by omega) hle_65 c_70)) hN1 hQ_45).1 hP hD hS (lv_sub hl [2, 3, 1, 0] rfl)
                  ·
                    have hb_65 : i_65 < 2 ^ (i_45 + 1) := lt3 (by omega) hle_65 c_70
                    refine lv_aload_n hx hb dX0_planEnds_73 rfl (lv_at hl 0 rfl) ?_
                    refine va_get (D := D) (ci := 0) (v := .ref p8) (C := RX0) (T := TX0) (N := 9) hx hb hts w_1 hown hK hP 3 rfl rfl 8 (by decide) w_7 (fun _ h9 => h9) rfl dX0_planEnds_74 ?_
                    refine lv_iload hx hb dX0_planEnds_77 (lv_at hl 4 rfl) ?_
                    refine sv_iald (v := f_p8_10 i_65) hx hb hK hP 5 1 rfl rfl (vp_in_nI (by omega) (by decide)) (congrArg _ (nI_clamp (by omega))) dX0_planEnds_79 ?_
                    refine lv_aload_n hx hb dX0_planEnds_80 rfl (lv_at hl 0 rfl) ?_
                    refine va_get (D := D) (ci := 0) (v := .int t_h0_4_65) (C := RX0) (T := TX0) (N := 9) hx hb hts w_1 hown hK hP 3 rfl rfl 4 (by decide) w_4 (fun _ h9 => h9) rfl dX0_planEnds_81 ?_
                    refine lv_icmp_le (tgt := 104) hx hb dX0_planEnds_84 (by decide) (fun c_84 => ?_) (fun c_84 => ?_)
                    ·
                      refine lv_iinc (v := nI (i_65 + 1)) (lv' := [(4, .int (nI (i_65 + 1))), (0, .ref h0), (1, .int (l_1_45 + (f0 i_45))), (2, .int l_2_45), (3, .int (nI i_45))]) hx hb dX0_planEnds_104 hl (k := 4) rfl (ax_add _ 1) (by decide) rfl (fun ls hl => ?_)
                      refine lv_goto (tgt := 65) hx hb dX0_planEnds_107 (by decide) ?_
                      exact ih_L_5 (i_65 + 1) t_h0_4_65 t_h0_5_65 _ _ ls (by omega) (by omega) (mf_n hM_65 (hka i_65 (by omega)) c_84) hP hD hS (lv_sub hl [1, 2, 3, 4, 0] rfl)
                    ·
                      refine lv_aload_n hx hb dX0_planEnds_87 rfl (lv_at hl 0 rfl) ?_
                      refine lv_aload_n hx hb dX0_planEnds_88 rfl (lv_at hl 0 rfl) ?_
                      refine va_get (D := D) (ci := 0) (v := .ref p8) (C := RX0) (T := TX0) (N := 9) hx hb hts w_1 hown hK hP 3 rfl rfl 8 (by decide) w_7 (fun _ h9 => h9) rfl dX0_planEnds_89 ?_
                      refine lv_iload hx hb dX0_planEnds_92 (lv_at hl 4 rfl) ?_
                      refine sv_iald (v := f_p8_10 i_65) hx hb hK hP 5 1 rfl rfl (vp_in_nI (by omega) (by decide)) (congrArg _ (nI_clamp (by omega))) dX0_planEnds_94 ?_
                      refine va_put (D := D) (ci := 0) (v := .int (f_p8_10 i_65)) (ty := .int) (C := RX0) (T := TX0) (N := 9) hx hb hts w_1 tyX0 tyX0_ok nmX0 hown hK hP hD hS 3 rfl rfl 4 (by decide) w_4 (fun _ h9 => h9) rfl (by decide +kernel) rfl rfl (Nat.le_of_ble_eq_true rfl) dX0_planEnds_95 (fun H locs hP hD hS => ?_)
                      have hP : va_P D vwCl [(p1, .inl (cI, 6, .inl f_p1_45)), (p6, .inl (cI, 8, .inl f6)), (p7, .inl (cI, 8, .inl f7)), (h0, .inr (0, [.ref p0, .ref p1, .ref p2, .int (nI a), .int (f_p8_10 i_65), .int t_h0_5_65, .ref p6, .ref p7, .ref p8])), (p0, .inl (cI, 6, .inl f0)), (p8, .inl (cI, 64, .inl f_p8_10))] H := hP
                      have hD : va_D A [(p1, .inl (cI, 6, .inl f_p1_45)), (p6, .inl (cI, 8, .inl f6)), (p7, .inl (cI, 8, .inl f7)), (h0, .inr (0, [.ref p0, .ref p1, .ref p2, .int (nI a), .int (f_p8_10 i_65), .int t_h0_5_65, .ref p6, .ref p7, .ref p8])), (p0, .inl (cI, 6, .inl f0)), (p8, .inl (cI, 64, .inl f_p8_10))] := hD
                      refine lv_aload_n hx hb dX0_planEnds_98 rfl (lv_at hl 0 rfl) ?_
                      refine lv_iload hx hb dX0_planEnds_99 (lv_at hl 4 rfl) ?_
                      refine va_put (D := D) (ci := 0) (v := .int (nI i_65)) (ty := .int) (C := RX0) (T := TX0) (N := 9) hx hb hts w_1 tyX0 tyX0_ok nmX0 hown hK hP hD hS 3 rfl rfl 5 (by decide) w_5 (fun _ h9 => h9) rfl (by decide +kernel) rfl rfl (Nat.le_of_ble_eq_true rfl) dX0_planEnds_101 (fun H locs hP hD hS => ?_)
                      have hP : va_P D vwCl [(p1, .inl (cI, 6, .inl f_p1_45)), (p6, .inl (cI, 8, .inl f6)), (p7, .inl (cI, 8, .inl f7)), (h0, .inr (0, [.ref p0, .ref p1, .ref p2, .int (nI a), .int (f_p8_10 i_65), .int (nI i_65), .ref p6, .ref p7, .ref p8])), (p0, .inl (cI, 6, .inl f0)), (p8, .inl (cI, 64, .inl f_p8_10))] H := hP
                      have hD : va_D A [(p1, .inl (cI, 6, .inl f_p1_45)), (p6, .inl (cI, 8, .inl f6)), (p7, .inl (cI, 8, .inl f7)), (h0, .inr (0, [.ref p0, .ref p1, .ref p2, .int (nI a), .int (f_p8_10 i_65), .int (nI i_65), .ref p6, .ref p7, .ref p8])), (p0, .inl (cI, 6, .inl f0)), (p8, .inl (cI, 64, .inl f_p8_10))] := hD
                      refine lv_iinc (v := nI (i_65 + 1)) (lv' := [(4, .int (nI (i_65 + 1))), (0, .ref h0), (1, .int (l_1_45 + (f0 i_45))), (2, .int l_2_45), (3, .int (nI i_45))]) hx hb dX0_planEnds_104 hl (k := 4) rfl (ax_add _ 1) (by decide) rfl (fun ls hl => ?_)
                      refine lv_goto (tgt := 65) hx hb dX0_planEnds_107 (by decide) ?_
                      exact ih_L_5 (i_65 + 1) (f_p8_10 i_65) (nI i_65) _ _ ls (by omega) (by omega) (mf_y hM_65 (hka i_65 (by omega)) c_84) hP hD hS (lv_sub hl [1, 2, 3, 4, 0] rfl)
              exact L_5 _ (2 ^ i_45) t_h0_4_45 t_h0_5_45 _ _ ls (Nat.lt_succ_self _) (by first | exact Nat.zero_le _ | omega) hM_45 hP hD hS (lv_sub hl [2, 1, 3, 4, 0] rfl)
        exact L_4 _ 0 f1 0 0 0 0 _ _ ls (Nat.lt_succ_self _) (by first | exact Nat.zero_le _ | omega) pe_0 mf_0 ti_0 ti_0 hP hD hS (lv_sub hl [3, 2, 1, 0] rfl)
      ·
        have hb_10 : i_10 < a := lt3 (by omega) hle_10 c_15
        refine lv_aload_n hx hb dX0_planEnds_18 rfl (lv_at hl 0 rfl) ?_
        refine lv_iload_n hx hb dX0_planEnds_19 rfl (lv_at hl 1 rfl) ?_
        refine cl_v (wc := [(h0, .inr (0, [.ref p0, .ref p1, .ref p2, .int (nI a), .int b4, .int b5, .ref p6, .ref p7, .ref p8])), (p6, .inl (cI, 8, .inl f6)), (p7, .inl (cI, 8, .inl f7)), (p8, .inl (cI, 64, .inl f_p8_10))]) (wr := [(p1, .inl (cI, 6, .inl f1)), (p0, .inl (cI, 6, .inl f0))]) (va_runV (As := [.int (nI i_10)]) (rest := []) ⟨hx, hb, hml, hown, hts⟩ (f_X0_lessen l D cB cI cJ cZ H.size h0 p0 p1 p2 p6 p7 p8 a b4 b5 (fun _ => 0) (fun _ => 0) (fun _ => 0) f6 f7 f_p8_10 i_10 (by omega) (hlg i_10 hb_10).2) (cwV 1 hts gX0_planEnds_X0_lessenLack rfl rfl rfl (by decide +kernel) ⟨Nat.le_of_ble_eq_true rfl, Nat.le_of_ble_eq_true rfl⟩) (pre_V (hP.sub (ws' := [(h0, .inr (0, [.ref p0, .ref p1, .ref p2, .int (nI a), .int b4, .int b5, .ref p6, .ref p7, .ref p8])), (p6, .inl (cI, 8, .inl f6)), (p7, .inl (cI, 8, .inl f7)), (p8, .inl (cI, 64, .inl f_p8_10))]) [3, 1, 2, 5] rfl) hK (hD.sub (ws' := [(h0, .inr (0, [.ref p0, .ref p1, .ref p2, .int (nI a), .int b4, .int b5, .ref p6, .ref p7, .ref p8])), (p6, .inl (cI, 8, .inl f6)), (p7, .inl (cI, 8, .inl f7)), (p8, .inl (cI, 64, .inl f_p8_10))]) [3, 1, 2, 5] (by decide) rfl) 0 rfl rfl rfl) rfl rfl hl.1 rfl (lv_room (Nat.le_of_ble_eq_true rfl)) dX0_planEnds_20 ⟨Nat.le_of_ble_eq_true rfl, Nat.le_of_ble_eq_true rfl⟩) hP hD hS hA [3, 1, 2, 5] [0, 4] rfl rfl (by decide) (by decide) 0 0 rfl rfl (fun u_8 H locs hw_u_8 hP hD hS => ?_)
        have hP : va_P D vwCl [(p1, .inl (cI, 6, .inl f1)), (p0, .inl (cI, 6, .inl f0)), (h0, .inr (0, [.ref p0, .ref p1, .ref p2, .int (nI a), .int b4, .int b5, .ref p6, .ref p7, .ref p8])), (p6, .inl (cI, 8, .inl f6)), (p7, .inl (cI, 8, .inl f7)), (p8, .inl (cI, 64, .inl u_8))] H := hP
        have hD : va_D A [(p1, .inl (cI, 6, .inl f1)), (p0, .inl (cI, 6, .inl f0)), (h0, .inr (0, [.ref p0, .ref p1, .ref p2, .int (nI a), .int b4, .int b5, .ref p6, .ref p7, .ref p8])), (p6, .inl (cI, 8, .inl f6)), (p7, .inl (cI, 8, .inl f7)), (p8, .inl (cI, 64, .inl u_8))] := hD
        have hk1 := lk_s hk_10 (nd_bm hnd) hlg ha hb_10 hw_u_8
        refine lv_iinc (v := nI (i_10 + 1)) (lv' := [(1, .int (nI (i_10 + 1))), (0, .ref h0)]) hx hb dX0_planEnds_23 hl (k := 1) rfl (ax_add _ 1) (by decide) rfl (fun ls hl => ?_)
        refine lv_goto (tgt := 10) hx hb dX0_planEnds_26 (by decide) ?_
        exact ih_L_3 (i_10 + 1) u_8 _ _ ls (by omega) (by omega) hk1 (hP.sub [0, 3, 4, 2, 1, 5] rfl) (hD.sub [0, 3, 4, 2, 1, 5] (by decide) rfl) hS (lv_sub hl [1, 0] rfl)
  exact L_3 _ 0 u_2 _ _ ls (Nat.lt_succ_self _) (by first | exact Nat.zero_le _ | omega) (lk_0 hw_u_2) hP hD hS (lv_sub hl [1, 0] rfl)

set_option maxHeartbeats 4000000 in
set_option maxRecDepth 100000 in
theorem f_X0_planLeg (l : Launch) (D : va_G) (cB cI cJ cZ : ClassId) (sz : Nat) (h0 p0 p1 p2 p6 p7 p8 a : Nat) (b4 b5 : Int32) (f0 f1 f2 f6 f7 f8 : Nat → Int32) (ha : a ≤ 8) (hbt : bdP f1 6 1000000) (hlg : lgP f6 f7 a) : Met l yX0_planLegacies wsX0_planLegacies ({ frames := 2, cells := 0, slots := 0, locals := 43 } : Room) (cPre D (aTy cB cI cJ cZ) [(h0, .inr (0, [.ref p0, .ref p1, .ref p2, .int (nI a), .int b4, .int b5, .ref p6, .ref p7, .ref p8])), (p1, .inl (cI, 6, .inl f1)), (p2, .inl (cI, 8, .inl f2)), (p6, .inl (cI, 8, .inl f6)), (p7, .inl (cI, 8, .inl f7)), (p8, .inl (cI, 64, .inl f8))] sz [.ref h0]) (va_Qv (fun (u : (Nat → Int32) × (Nat → Int32)) => pfP f1 f6 f7 a u.1 a) (cB_ D (aTy cB cI cJ cZ) (va_A [(h0, .inr (0, [.ref p0, .ref p1, .ref p2, .int (nI a), .int b4, .int b5, .ref p6, .ref p7, .ref p8])), (p1, .inl (cI, 6, .inl f1)), (p2, .inl (cI, 8, .inl f2)), (p6, .inl (cI, 8, .inl f6)), (p7, .inl (cI, 8, .inl f7)), (p8, .inl (cI, 64, .inl f8))] sz) (fun u => [(h0, .inr (0, [.ref p0, .ref p1, .ref p2, .int (nI a), .int b4, .int b5, .ref p6, .ref p7, .ref p8])), (p1, .inl (cI, 6, .inl f1)), (p2, .inl (cI, 8, .inl u.1)), (p6, .inl (cI, 8, .inl f6)), (p7, .inl (cI, 8, .inl f7)), (p8, .inl (cI, 64, .inl u.2))])) (va_A [(h0, .inr (0, [.ref p0, .ref p1, .ref p2, .int (nI a), .int b4, .int b5, .ref p6, .ref p7, .ref p8])), (p1, .inl (cI, 6, .inl f1)), (p2, .inl (cI, 8, .inl f2)), (p6, .inl (cI, 8, .inl f6)), (p7, .inl (cI, 8, .inl f7)), (p8, .inl (cI, 64, .inl f8))] sz)) 0 0 (va_A [(h0, .inr (0, [.ref p0, .ref p1, .ref p2, .int (nI a), .int b4, .int b5, .ref p6, .ref p7, .ref p8])), (p1, .inl (cI, 6, .inl f1)), (p2, .inl (cI, 8, .inl f2)), (p6, .inl (cI, 8, .inl f6)), (p7, .inl (cI, 8, .inl f7)), (p8, .inl (cI, 64, .inl f8))] sz) := by
  refine Met.ofW (cc := cX0_planLegacies) (maxL := 5) (ret := none) (by decide) rfl ?_
  intro p e s m args below meth c s₁ B hml hv
  obtain ⟨rfl, hsz, hP, hK, hD0⟩ := hv
  have hx := B.exec
  have hb := B.bytes
  have hr := B.returns
  have hts := atoms_spec (ws := wsX0_planLegacies) B.pre
  have hown : s.vm.findClass RX0 = some m.cls := findClass_of_methodNamed B.named
  have hlocks := B.notSynchronized
  subst hsz
  have hD := hD0.self (sz := s.heap.size)
  generalize hAe : va_A [(h0, .inr (0, [.ref p0, .ref p1, .ref p2, .int (nI a), .int b4, .int b5, .ref p6, .ref p7, .ref p8])), (p1, .inl (cI, 6, .inl f1)), (p2, .inl (cI, 8, .inl f2)), (p6, .inl (cI, 8, .inl f6)), (p7, .inl (cI, 8, .inl f7)), (p8, .inl (cI, 64, .inl f8))] s.heap.size = A at hD ⊢
  have hA : ∀ q : Nat, s.heap.size ≤ q → A q := fun q h => by rw [← hAe]; exact Or.inr h
  have hS : va_S A s.heap s.heap [] := va_S.rf
  have hP : va_P D vwCl [(h0, .inr (0, [.ref p0, .ref p1, .ref p2, .int (nI a), .int b4, .int b5, .ref p6, .ref p7, .ref p8])), (p1, .inl (cI, 6, .inl f1)), (p2, .inl (cI, 8, .inl f2)), (p6, .inl (cI, 8, .inl f6)), (p7, .inl (cI, 8, .inl f7)), (p8, .inl (cI, 64, .inl f8))] s.heap := hP
  have w_1 : ∀ w ∈ wsX00, w ∈ wsX0_planLegacies := by decide +kernel
  have w_2 := hts (Cond.fieldLink RX0 15 "BlueCoats$Chest" "toEnd" "[I") (by decide +kernel)
  have w_3 := hts (Cond.fieldLink RX0 27 "BlueCoats$Chest" "lack" "[I") (by decide +kernel)
  have w_4 := hts (Cond.fieldLink RX0 30 "BlueCoats$Chest" "number" "I") (by decide +kernel)
  have w_5 := hts (Cond.fieldLink RX0 18 "BlueCoats$Chest" "fromLegacy" "[I") (by decide +kernel)
  have hl := lv_entry ([.ref h0]) (n := 5) (Nat.le_of_ble_eq_true rfl)
  rw [lg_entry_eq]
  generalize (lg_sl ([.ref h0]) ++ List.replicate (5 - (lg_sl ([.ref h0])).length) Slot.unset).toArray = ls at hl ⊢
  have hl : lv_has ls 5 [(0, .ref h0)] := hl
  generalize hQ : MQ below _ _ s _ _ _ = Q0
  refine lv_aload_n hx hb dX0_planLegacies_0 rfl (lv_at hl 0 rfl) ?_
  refine lv_aload_n hx hb dX0_planLegacies_1 rfl (lv_at hl 0 rfl) ?_
  refine va_get (D := D) (ci := 0) (v := .ref p1) (C := RX0) (T := TX0) (N := 9) hx hb hts w_1 hown hK hP 0 rfl rfl 1 (by decide) w_2 (fun _ h9 => h9) rfl dX0_planLegacies_2 ?_
  refine cl_v (wc := [(h0, .inr (0, [.ref p0, .ref p1, .ref p2, .int (nI a), .int b4, .int b5, .ref p6, .ref p7, .ref p8])), (p1, .inl (cI, 6, .inl f1)), (p8, .inl (cI, 64, .inl f8))]) (wr := [(p2, .inl (cI, 8, .inl f2)), (p6, .inl (cI, 8, .inl f6)), (p7, .inl (cI, 8, .inl f7))]) (va_runV (As := [.ref p1]) (rest := []) ⟨hx, hb, hml, hown, hts⟩ (f_X0_setLack l D cB cI cJ cZ s.heap.size h0 p0 p1 p2 p6 p7 p8 a b4 b5 p1 f1 f8 hbt) (cwV 1 hts gX0_planLegacies_X0_setLack rfl rfl rfl (by decide +kernel) ⟨Nat.le_of_ble_eq_true rfl, Nat.le_of_ble_eq_true rfl⟩) (pre_V (hP.sub (ws' := [(h0, .inr (0, [.ref p0, .ref p1, .ref p2, .int (nI a), .int b4, .int b5, .ref p6, .ref p7, .ref p8])), (p1, .inl (cI, 6, .inl f1)), (p8, .inl (cI, 64, .inl f8))]) [0, 1, 5] rfl) hK (hD.sub (ws' := [(h0, .inr (0, [.ref p0, .ref p1, .ref p2, .int (nI a), .int b4, .int b5, .ref p6, .ref p7, .ref p8])), (p1, .inl (cI, 6, .inl f1)), (p8, .inl (cI, 64, .inl f8))]) [0, 1, 5] (by decide) rfl) 0 rfl rfl rfl) rfl rfl hl.1 rfl (lv_room (Nat.le_of_ble_eq_true rfl)) dX0_planLegacies_5 ⟨Nat.le_of_ble_eq_true rfl, Nat.le_of_ble_eq_true rfl⟩) hP hD hS hA [0, 1, 5] [2, 3, 4] rfl rfl (by decide) (by decide) 0 0 rfl rfl (fun u_2 H locs hw_u_2 hP hD hS => ?_)
  have hP : va_P D vwCl [(p2, .inl (cI, 8, .inl f2)), (p6, .inl (cI, 8, .inl f6)), (p7, .inl (cI, 8, .inl f7)), (h0, .inr (0, [.ref p0, .ref p1, .ref p2, .int (nI a), .int b4, .int b5, .ref p6, .ref p7, .ref p8])), (p1, .inl (cI, 6, .inl f1)), (p8, .inl (cI, 64, .inl u_2))] H := hP
  have hD : va_D A [(p2, .inl (cI, 8, .inl f2)), (p6, .inl (cI, 8, .inl f6)), (p7, .inl (cI, 8, .inl f7)), (h0, .inr (0, [.ref p0, .ref p1, .ref p2, .int (nI a), .int b4, .int b5, .ref p6, .ref p7, .ref p8])), (p1, .inl (cI, 6, .inl f1)), (p8, .inl (cI, 64, .inl u_2))] := hD
  refine lv_aload_n hx hb dX0_planLegacies_8 rfl (lv_at hl 0 rfl) ?_
  refine va_get (D := D) (ci := 0) (v := .ref p8) (C := RX0) (T := TX0) (N := 9) hx hb hts w_1 hown hK hP 3 rfl rfl 8 (by decide) w_3 (fun _ h9 => h9) rfl dX0_planLegacies_9 ?_
  refine lv_bipush (v := 63) hx hb dX0_planLegacies_12 (by decide) ?_
  refine sv_iald (v := u_2 63) hx hb hK hP 5 1 rfl rfl (vp_in_iff.mpr (by decide)) (congrArg _ (by decide)) dX0_planLegacies_14 ?_
  refine lv_istore_n (lv' := [(1, .int (u_2 63)), (0, .ref h0)]) hx hb dX0_planLegacies_15 rfl hl (by decide) rfl (fun ls hl => ?_)
  refine lv_iconst (v := 0) hx hb dX0_planLegacies_16 (by decide) ?_
  refine lv_istore_n (lv' := [(2, .int 0), (1, .int (u_2 63)), (0, .ref h0)]) hx hb dX0_planLegacies_17 rfl hl (by decide) rfl (fun ls hl => ?_)
  refine lv_iconst (v := 0) hx hb dX0_planLegacies_18 (by decide) ?_
  refine lv_istore_n (lv' := [(3, .int 0), (2, .int 0), (1, .int (u_2 63)), (0, .ref h0)]) hx hb dX0_planLegacies_19 rfl hl (by decide) rfl (fun ls hl => ?_)
  have L_3 : ∀ (n : Nat) (i_20 : Nat) (f_p8_20 : Nat → Int32) (f_p2_20 : Nat → Int32) (l_2_20 : Int32) (H : Heap) (locs : List Loc) (ls : Array Slot), a - i_20 < n → (i_20 ≤ a) → (lkP f_p8_20 f1 f6 f7 i_20) → (pfP f1 f6 f7 a f_p2_20 i_20) → (l_2_20.toInt = py_p (iv f_p2_20) i_20) → (-20000000 ≤ py_p (iv f_p2_20) i_20 ∧ py_p (iv f_p2_20) i_20 ≤ 20000000) → va_P D vwCl [(p2, .inl (cI, 8, .inl f_p2_20)), (p6, .inl (cI, 8, .inl f6)), (p7, .inl (cI, 8, .inl f7)), (h0, .inr (0, [.ref p0, .ref p1, .ref p2, .int (nI a), .int b4, .int b5, .ref p6, .ref p7, .ref p8])), (p1, .inl (cI, 6, .inl f1)), (p8, .inl (cI, 64, .inl f_p8_20))] H → va_D A [(p2, .inl (cI, 8, .inl f_p2_20)), (p6, .inl (cI, 8, .inl f6)), (p7, .inl (cI, 8, .inl f7)), (h0, .inr (0, [.ref p0, .ref p1, .ref p2, .int (nI a), .int b4, .int b5, .ref p6, .ref p7, .ref p8])), (p1, .inl (cI, 6, .inl f1)), (p8, .inl (cI, 64, .inl f_p8_20))] → va_S A s.heap H locs → lv_has ls 5 [(0, .ref h0), (1, .int (u_2 63)), (2, .int l_2_20), (3, .int (nI i_20))] → W p l e (headSpec wsX0_planLegacies ({ frames := 2, cells := 0, slots := 0, locals := 43 } : Room)).room s m ([.ref h0] : List Value).toArray below meth c H locs 0 0 Q0 (F0 m 20 ls []) := by
    intro n
    induction n with
    | zero => intro i_20 f_p8_20 f_p2_20 l_2_20 H locs ls hn_20 hle_20 hk_20 hF_20 hQ_20 hB_20 hP hD hS hl; exact absurd hn_20 (Nat.not_lt_zero _)
    | succ n ih_L_3 =>
      intro i_20 f_p8_20 f_p2_20 l_2_20 H locs ls hn_20 hle_20 hk_20 hF_20 hQ_20 hB_20 hP hD hS hl
      refine lv_iload_n hx hb dX0_planLegacies_20 rfl (lv_at hl 3 rfl) ?_
      refine lv_aload_n hx hb dX0_planLegacies_21 rfl (lv_at hl 0 rfl) ?_
      refine va_get (D := D) (ci := 0) (v := .int (nI a)) (C := RX0) (T := TX0) (N := 9) hx hb hts w_1 hown hK hP 3 rfl rfl 3 (by decide) w_4 (fun _ h9 => h9) rfl dX0_planLegacies_22 ?_
      refine lv_icmp_ge (tgt := 60) hx hb dX0_planLegacies_25 (by decide) (fun c_25 => ?_) (fun c_25 => ?_)
      ·
        rw [← hQ]
        have hP9 := hP.sub (ws' := [(h0, .inr (0, [.ref p0, .ref p1, .ref p2, .int (nI a), .int b4, .int b5, .ref p6, .ref p7, .ref p8])), (p1, .inl (cI, 6, .inl f1)), (p2, .inl (cI, 8, .inl f_p2_20)), (p6, .inl (cI, 8, .inl f6)), (p7, .inl (cI, 8, .inl f7)), (p8, .inl (cI, 64, .inl f_p8_20))]) [3, 4, 0, 1, 2, 5] rfl
        have hD9 := hD.sub (ws' := [(h0, .inr (0, [.ref p0, .ref p1, .ref p2, .int (nI a), .int b4, .int b5, .ref p6, .ref p7, .ref p8])), (p1, .inl (cI, 6, .inl f1)), (p2, .inl (cI, 8, .inl f_p2_20)), (p6, .inl (cI, 8, .inl f6)), (p7, .inl (cI, 8, .inl f7)), (p8, .inl (cI, 64, .inl f_p8_20))]) [3, 4, 0, 1, 2, 5] (by decide) rfl
        exact W.vret hx hb hr (fun t ht hW => ⟨⟨(f_p2_20, f_p8_20), rfl, (pf_e hF_20 (Nat.le_antisymm hle_20 (ge3 (by omega) hle_20 c_25))), by rw [ht]; exact hP9, va_K.moved hW.alike hK, hD9⟩, hS.F ht⟩) hS.2.2 dX0_planLegacies_60
      ·
        have hb_20 : i_20 < a := lt3 (by omega) hle_20 c_25
        refine lv_aload_n hx hb dX0_planLegacies_28 rfl (lv_at hl 0 rfl) ?_
        refine lv_iload_n hx hb dX0_planLegacies_29 rfl (lv_at hl 3 rfl) ?_
        refine cl_v (wc := [(h0, .inr (0, [.ref p0, .ref p1, .ref p2, .int (nI a), .int b4, .int b5, .ref p6, .ref p7, .ref p8])), (p6, .inl (cI, 8, .inl f6)), (p7, .inl (cI, 8, .inl f7)), (p8, .inl (cI, 64, .inl f_p8_20))]) (wr := [(p2, .inl (cI, 8, .inl f_p2_20)), (p1, .inl (cI, 6, .inl f1))]) (va_runV (As := [.int (nI i_20)]) (rest := []) ⟨hx, hb, hml, hown, hts⟩ (f_X0_lessen l D cB cI cJ cZ H.size h0 p0 p1 p2 p6 p7 p8 a b4 b5 (fun _ => 0) (fun _ => 0) (fun _ => 0) f6 f7 f_p8_20 i_20 (by omega) (hlg i_20 hb_20).2) (cwV 1 hts gX0_planLegacies_X0_lessenLack rfl rfl rfl (by decide +kernel) ⟨Nat.le_of_ble_eq_true rfl, Nat.le_of_ble_eq_true rfl⟩) (pre_V (hP.sub (ws' := [(h0, .inr (0, [.ref p0, .ref p1, .ref p2, .int (nI a), .int b4, .int b5, .ref p6, .ref p7, .ref p8])), (p6, .inl (cI, 8, .inl f6)), (p7, .inl (cI, 8, .inl f7)), (p8, .inl (cI, 64, .inl f_p8_20))]) [3, 1, 2, 5] rfl) hK (hD.sub (ws' := [(h0, .inr (0, [.ref p0, .ref p1, .ref p2, .int (nI a), .int b4, .int b5, .ref p6, .ref p7, .ref p8])), (p6, .inl (cI, 8, .inl f6)), (p7, .inl (cI, 8, .inl f7)), (p8, .inl (cI, 64, .inl f_p8_20))]) [3, 1, 2, 5] (by decide) rfl) 0 rfl rfl rfl) rfl rfl hl.1 rfl (lv_room (Nat.le_of_ble_eq_true rfl)) dX0_planLegacies_30 ⟨Nat.le_of_ble_eq_true rfl, Nat.le_of_ble_eq_true rfl⟩) hP hD hS hA [3, 1, 2, 5] [0, 4] rfl rfl (by decide) (by decide) 0 0 rfl rfl (fun u_5 H locs hw_u_5 hP hD hS => ?_)
        have hP : va_P D vwCl [(p2, .inl (cI, 8, .inl f_p2_20)), (p1, .inl (cI, 6, .inl f1)), (h0, .inr (0, [.ref p0, .ref p1, .ref p2, .int (nI a), .int b4, .int b5, .ref p6, .ref p7, .ref p8])), (p6, .inl (cI, 8, .inl f6)), (p7, .inl (cI, 8, .inl f7)), (p8, .inl (cI, 64, .inl u_5))] H := hP
        have hD : va_D A [(p2, .inl (cI, 8, .inl f_p2_20)), (p1, .inl (cI, 6, .inl f1)), (h0, .inr (0, [.ref p0, .ref p1, .ref p2, .int (nI a), .int b4, .int b5, .ref p6, .ref p7, .ref p8])), (p6, .inl (cI, 8, .inl f6)), (p7, .inl (cI, 8, .inl f7)), (p8, .inl (cI, 64, .inl u_5))] := hD
        have hk1 := lk_s hk_20 hbt hlg ha hb_20 hw_u_5
        refine lv_iload_n hx hb dX0_planLegacies_33 rfl (lv_at hl 1 rfl) ?_
        refine lv_aload_n hx hb dX0_planLegacies_34 rfl (lv_at hl 0 rfl) ?_
        refine vp_callSi (va_Run.run (va_runV (As := []) (rest := [.int (u_2 63)]) ⟨hx, hb, hml, hown, hts⟩ (f_X0_greatest l D cB cI cJ cZ h0 p0 p1 p2 p6 p7 p8 a b4 b5 (fun _ => 0) (fun _ => 0) (fun _ => 0) (fun _ => 0) (fun _ => 0) u_5 (lk_z hk1)) (cwV 0 hts gX0_planLegacies_X0_greatestLack rfl rfl rfl (by decide +kernel) ⟨Nat.le_of_ble_eq_true rfl, Nat.le_of_ble_eq_true rfl⟩) (pre_VR (hP.sub (ws' := [(h0, .inr (0, [.ref p0, .ref p1, .ref p2, .int (nI a), .int b4, .int b5, .ref p6, .ref p7, .ref p8])), (p8, .inl (cI, 64, .inl u_5))]) [2, 5] rfl) hK 0 rfl rfl rfl) rfl rfl hl.1 rfl (lv_room (Nat.le_of_ble_eq_true rfl)) dX0_planLegacies_35 ⟨Nat.le_of_ble_eq_true rfl, Nat.le_of_ble_eq_true rfl⟩)) (fun r_6 hw_r_6 => ?_)
        refine sv_isub (v := (u_2 63) - r_6) hx hb dX0_planLegacies_38 rfl ?_
        refine lv_istore (lv' := [(4, .int ((u_2 63) - r_6)), (0, .ref h0), (1, .int (u_2 63)), (2, .int l_2_20), (3, .int (nI i_20))]) hx hb dX0_planLegacies_39 hl (by decide) rfl (fun ls hl => ?_)
        refine lv_aload_n hx hb dX0_planLegacies_41 rfl (lv_at hl 1 rfl) ?_
        refine va_get (D := D) (ci := 0) (v := .ref p2) (C := RX0) (T := TX0) (N := 9) hx hb hts w_1 hown hK hP 2 rfl rfl 2 (by decide) w_5 (fun _ h9 => h9) rfl dX0_planLegacies_42 ?_
        refine lv_iload_n hx hb dX0_planLegacies_45 rfl (lv_at hl 4 rfl) ?_
        refine lv_iload hx hb dX0_planLegacies_46 (lv_at hl 0 rfl) ?_
        refine lv_iload_n hx hb dX0_planLegacies_48 rfl (lv_at hl 3 rfl) ?_
        refine sv_isub (v := ((u_2 63) - r_6) - l_2_20) hx hb dX0_planLegacies_49 rfl ?_
        refine sv_iast hx hb hK hP hD hS 0 1 rfl rfl (vp_in_nI (by omega) (by decide)) dX0_planLegacies_50 (fun g_7 H locs eg_7 hP hD hS => ?_)
        have eg_7 : g_7 = upd f_p2_20 i_20 (((u_2 63) - r_6) - l_2_20) := ist eg_7 (by omega)
        subst eg_7
        have hP : va_P D vwCl [(p2, .inl (cI, 8, .inl (upd f_p2_20 i_20 (((u_2 63) - r_6) - l_2_20)))), (p1, .inl (cI, 6, .inl f1)), (h0, .inr (0, [.ref p0, .ref p1, .ref p2, .int (nI a), .int b4, .int b5, .ref p6, .ref p7, .ref p8])), (p6, .inl (cI, 8, .inl f6)), (p7, .inl (cI, 8, .inl f7)), (p8, .inl (cI, 64, .inl u_5))] H := hP
        have hD : va_D A [(p2, .inl (cI, 8, .inl (upd f_p2_20 i_20 (((u_2 63) - r_6) - l_2_20)))), (p1, .inl (cI, 6, .inl f1)), (h0, .inr (0, [.ref p0, .ref p1, .ref p2, .int (nI a), .int b4, .int b5, .ref p6, .ref p7, .ref p8])), (p6, .inl (cI, 8, .inl f6)), (p7, .inl (cI, 8, .inl f7)), (p8, .inl (cI, 64, .inl u_5))] := hD
        refine lv_iload hx hb dX0_planLegacies_51 (lv_at hl 0 rfl) ?_
        refine lv_istore_n (lv' := [(2, .int ((u_2 63) - r_6)), (4, .int ((u_2 63) - r_6)), (0, .ref h0), (1, .int (u_2 63)), (3, .int (nI i_20))]) hx hb dX0_planLegacies_53 rfl hl (by decide) rfl (fun ls hl => ?_)
        refine lv_iinc (v := nI (i_20 + 1)) (lv' := [(3, .int (nI (i_20 + 1))), (2, .int ((u_2 63) - r_6)), (4, .int ((u_2 63) - r_6)), (0, .ref h0), (1, .int (u_2 63))]) hx hb dX0_planLegacies_54 hl (k := 4) rfl (ax_add _ 1) (by decide) rfl (fun ls hl => ?_)
        refine lv_goto (tgt := 20) hx hb dX0_planLegacies_57 (by decide) ?_
        exact ih_L_3 (i_20 + 1) u_5 (upd f_p2_20 i_20 (((u_2 63) - r_6) - l_2_20)) ((u_2 63) - r_6) _ _ ls (by omega) (by omega) hk1 (pf_s hbt hlg ha hb_20 hF_20 hk1 hw_r_6 (sl_63 hw_u_2) hQ_20 hB_20).2.1 (pf_s hbt hlg ha hb_20 hF_20 hk1 hw_r_6 (sl_63 hw_u_2) hQ_20 hB_20).1 (pf_s hbt hlg ha hb_20 hF_20 hk1 hw_r_6 (sl_63 hw_u_2) hQ_20 hB_20).2.2 (hP.sub [0, 3, 4, 2, 1, 5] rfl) (hD.sub [0, 3, 4, 2, 1, 5] (by decide) rfl) hS (lv_sub hl [3, 4, 1, 0] rfl)
  exact L_3 _ 0 u_2 f2 0 _ _ ls (Nat.lt_succ_self _) (by first | exact Nat.zero_le _ | omega) (lk_0 hw_u_2) (fun j h1 h2 => absurd h1 (by omega)) ti_0 pp0 hP hD hS (lv_sub hl [3, 2, 1, 0] rfl)

set_option maxHeartbeats 4000000 in
set_option maxRecDepth 100000 in
theorem f_X0_plan (l : Launch) (D : va_G) (cB cI cJ cZ : ClassId) (sz : Nat) (h0 p0 p1 p2 p6 p7 p8 a : Nat) (b4 b5 : Int32) (f0 f1 f2 f6 f7 f8 : Nat → Int32) (ha : a ≤ 8) (hnd : ndP f0) (hlg : lgP f6 f7 a) : Met l yX0_plan wsX0_plan ({ frames := 3, cells := 0, slots := 0, locals := 67 } : Room) (cPre D (aTy cB cI cJ cZ) [(h0, .inr (0, [.ref p0, .ref p1, .ref p2, .int (nI a), .int b4, .int b5, .ref p6, .ref p7, .ref p8])), (p0, .inl (cI, 6, .inl f0)), (p1, .inl (cI, 6, .inl f1)), (p2, .inl (cI, 8, .inl f2)), (p6, .inl (cI, 8, .inl f6)), (p7, .inl (cI, 8, .inl f7)), (p8, .inl (cI, 64, .inl f8))] sz [.ref h0]) (va_Qv (fun (u : (Nat → Int32) × (Nat → Int32) × (Nat → Int32) × Int32 × Int32) => planP f0 f6 f7 a u.1 u.2.1 ∧ mxF (vP f0 f6 f7 a) 64 u.2.2.2.1 u.2.2.2.2) (cB_ D (aTy cB cI cJ cZ) (va_A [(h0, .inr (0, [.ref p0, .ref p1, .ref p2, .int (nI a), .int b4, .int b5, .ref p6, .ref p7, .ref p8])), (p0, .inl (cI, 6, .inl f0)), (p1, .inl (cI, 6, .inl f1)), (p2, .inl (cI, 8, .inl f2)), (p6, .inl (cI, 8, .inl f6)), (p7, .inl (cI, 8, .inl f7)), (p8, .inl (cI, 64, .inl f8))] sz) (fun u => [(h0, .inr (0, [.ref p0, .ref p1, .ref p2, .int (nI a), .int (u.2.2.2.1), .int (u.2.2.2.2), .ref p6, .ref p7, .ref p8])), (p0, .inl (cI, 6, .inl f0)), (p1, .inl (cI, 6, .inl u.1)), (p2, .inl (cI, 8, .inl u.2.1)), (p6, .inl (cI, 8, .inl f6)), (p7, .inl (cI, 8, .inl f7)), (p8, .inl (cI, 64, .inl u.2.2.1))])) (va_A [(h0, .inr (0, [.ref p0, .ref p1, .ref p2, .int (nI a), .int b4, .int b5, .ref p6, .ref p7, .ref p8])), (p0, .inl (cI, 6, .inl f0)), (p1, .inl (cI, 6, .inl f1)), (p2, .inl (cI, 8, .inl f2)), (p6, .inl (cI, 8, .inl f6)), (p7, .inl (cI, 8, .inl f7)), (p8, .inl (cI, 64, .inl f8))] sz)) 0 0 (va_A [(h0, .inr (0, [.ref p0, .ref p1, .ref p2, .int (nI a), .int b4, .int b5, .ref p6, .ref p7, .ref p8])), (p0, .inl (cI, 6, .inl f0)), (p1, .inl (cI, 6, .inl f1)), (p2, .inl (cI, 8, .inl f2)), (p6, .inl (cI, 8, .inl f6)), (p7, .inl (cI, 8, .inl f7)), (p8, .inl (cI, 64, .inl f8))] sz) := by
  refine Met.ofW (cc := cX0_plan) (maxL := 1) (ret := none) (by decide) rfl ?_
  intro p e s m args below meth c s₁ B hml hv
  obtain ⟨rfl, hsz, hP, hK, hD0⟩ := hv
  have hx := B.exec
  have hb := B.bytes
  have hr := B.returns
  have hts := atoms_spec (ws := wsX0_plan) B.pre
  have hown : s.vm.findClass RX0 = some m.cls := findClass_of_methodNamed B.named
  have hlocks := B.notSynchronized
  subst hsz
  have hD := hD0.self (sz := s.heap.size)
  generalize hAe : va_A [(h0, .inr (0, [.ref p0, .ref p1, .ref p2, .int (nI a), .int b4, .int b5, .ref p6, .ref p7, .ref p8])), (p0, .inl (cI, 6, .inl f0)), (p1, .inl (cI, 6, .inl f1)), (p2, .inl (cI, 8, .inl f2)), (p6, .inl (cI, 8, .inl f6)), (p7, .inl (cI, 8, .inl f7)), (p8, .inl (cI, 64, .inl f8))] s.heap.size = A at hD ⊢
  have hA : ∀ q : Nat, s.heap.size ≤ q → A q := fun q h => by rw [← hAe]; exact Or.inr h
  have hS : va_S A s.heap s.heap [] := va_S.rf
  have hP : va_P D vwCl [(h0, .inr (0, [.ref p0, .ref p1, .ref p2, .int (nI a), .int b4, .int b5, .ref p6, .ref p7, .ref p8])), (p0, .inl (cI, 6, .inl f0)), (p1, .inl (cI, 6, .inl f1)), (p2, .inl (cI, 8, .inl f2)), (p6, .inl (cI, 8, .inl f6)), (p7, .inl (cI, 8, .inl f7)), (p8, .inl (cI, 64, .inl f8))] s.heap := hP
  have hl := lv_entry ([.ref h0]) (n := 1) (Nat.le_of_ble_eq_true rfl)
  rw [lg_entry_eq]
  generalize (lg_sl ([.ref h0]) ++ List.replicate (1 - (lg_sl ([.ref h0])).length) Slot.unset).toArray = ls at hl ⊢
  have hl : lv_has ls 1 [(0, .ref h0)] := hl
  refine lv_aload_n hx hb dX0_plan_0 rfl (lv_at hl 0 rfl) ?_
  refine cl_v (wc := [(h0, .inr (0, [.ref p0, .ref p1, .ref p2, .int (nI a), .int b4, .int b5, .ref p6, .ref p7, .ref p8])), (p0, .inl (cI, 6, .inl f0)), (p1, .inl (cI, 6, .inl f1)), (p6, .inl (cI, 8, .inl f6)), (p7, .inl (cI, 8, .inl f7)), (p8, .inl (cI, 64, .inl f8))]) (wr := [(p2, .inl (cI, 8, .inl f2))]) (va_runV (As := []) (rest := []) ⟨hx, hb, hml, hown, hts⟩ (f_X0_planEnds l D cB cI cJ cZ s.heap.size h0 p0 p1 p2 p6 p7 p8 a b4 b5 f0 f1 f2 f6 f7 f8 ha hnd hlg) (cwV 0 hts gX0_plan_X0_planEnds rfl rfl rfl (by decide +kernel) ⟨Nat.le_of_ble_eq_true rfl, Nat.le_of_ble_eq_true rfl⟩) (pre_V (hP.sub (ws' := [(h0, .inr (0, [.ref p0, .ref p1, .ref p2, .int (nI a), .int b4, .int b5, .ref p6, .ref p7, .ref p8])), (p0, .inl (cI, 6, .inl f0)), (p1, .inl (cI, 6, .inl f1)), (p6, .inl (cI, 8, .inl f6)), (p7, .inl (cI, 8, .inl f7)), (p8, .inl (cI, 64, .inl f8))]) [0, 1, 2, 4, 5, 6] rfl) hK (hD.sub (ws' := [(h0, .inr (0, [.ref p0, .ref p1, .ref p2, .int (nI a), .int b4, .int b5, .ref p6, .ref p7, .ref p8])), (p0, .inl (cI, 6, .inl f0)), (p1, .inl (cI, 6, .inl f1)), (p6, .inl (cI, 8, .inl f6)), (p7, .inl (cI, 8, .inl f7)), (p8, .inl (cI, 64, .inl f8))]) [0, 1, 2, 4, 5, 6] (by decide) rfl) 0 rfl rfl rfl) rfl rfl hl.1 rfl (lv_room (Nat.le_of_ble_eq_true rfl)) dX0_plan_1 ⟨Nat.le_of_ble_eq_true rfl, Nat.le_of_ble_eq_true rfl⟩) hP hD hS hA [0, 1, 2, 4, 5, 6] [3] rfl rfl (by decide) (by decide) 0 0 rfl rfl (fun u_2 H locs hw_u_2 hP hD hS => ?_)
  have hP : va_P D vwCl [(p2, .inl (cI, 8, .inl f2)), (h0, .inr (0, [.ref p0, .ref p1, .ref p2, .int (nI a), .int u_2.2.2.1, .int u_2.2.2.2, .ref p6, .ref p7, .ref p8])), (p0, .inl (cI, 6, .inl f0)), (p1, .inl (cI, 6, .inl u_2.1)), (p6, .inl (cI, 8, .inl f6)), (p7, .inl (cI, 8, .inl f7)), (p8, .inl (cI, 64, .inl u_2.2.1))] H := hP
  have hD : va_D A [(p2, .inl (cI, 8, .inl f2)), (h0, .inr (0, [.ref p0, .ref p1, .ref p2, .int (nI a), .int u_2.2.2.1, .int u_2.2.2.2, .ref p6, .ref p7, .ref p8])), (p0, .inl (cI, 6, .inl f0)), (p1, .inl (cI, 6, .inl u_2.1)), (p6, .inl (cI, 8, .inl f6)), (p7, .inl (cI, 8, .inl f7)), (p8, .inl (cI, 64, .inl u_2.2.1))] := hD
  refine lv_aload_n hx hb dX0_plan_4 rfl (lv_at hl 0 rfl) ?_
  refine cl_v (wc := [(h0, .inr (0, [.ref p0, .ref p1, .ref p2, .int (nI a), .int u_2.2.2.1, .int u_2.2.2.2, .ref p6, .ref p7, .ref p8])), (p1, .inl (cI, 6, .inl u_2.1)), (p2, .inl (cI, 8, .inl f2)), (p6, .inl (cI, 8, .inl f6)), (p7, .inl (cI, 8, .inl f7)), (p8, .inl (cI, 64, .inl u_2.2.1))]) (wr := [(p0, .inl (cI, 6, .inl f0))]) (va_runV (As := []) (rest := []) ⟨hx, hb, hml, hown, hts⟩ (f_X0_planLeg l D cB cI cJ cZ H.size h0 p0 p1 p2 p6 p7 p8 a u_2.2.2.1 u_2.2.2.2 f0 u_2.1 f2 f6 f7 u_2.2.1 ha (te_b hnd hlg ha hw_u_2.1) hlg) (cwV 0 hts gX0_plan_X0_planLegacies rfl rfl rfl (by decide +kernel) ⟨Nat.le_of_ble_eq_true rfl, Nat.le_of_ble_eq_true rfl⟩) (pre_V (hP.sub (ws' := [(h0, .inr (0, [.ref p0, .ref p1, .ref p2, .int (nI a), .int u_2.2.2.1, .int u_2.2.2.2, .ref p6, .ref p7, .ref p8])), (p1, .inl (cI, 6, .inl u_2.1)), (p2, .inl (cI, 8, .inl f2)), (p6, .inl (cI, 8, .inl f6)), (p7, .inl (cI, 8, .inl f7)), (p8, .inl (cI, 64, .inl u_2.2.1))]) [1, 3, 0, 4, 5, 6] rfl) hK (hD.sub (ws' := [(h0, .inr (0, [.ref p0, .ref p1, .ref p2, .int (nI a), .int u_2.2.2.1, .int u_2.2.2.2, .ref p6, .ref p7, .ref p8])), (p1, .inl (cI, 6, .inl u_2.1)), (p2, .inl (cI, 8, .inl f2)), (p6, .inl (cI, 8, .inl f6)), (p7, .inl (cI, 8, .inl f7)), (p8, .inl (cI, 64, .inl u_2.2.1))]) [1, 3, 0, 4, 5, 6] (by decide) rfl) 0 rfl rfl rfl) rfl rfl hl.1 rfl (lv_room (Nat.le_of_ble_eq_true rfl)) dX0_plan_5 ⟨Nat.le_of_ble_eq_true rfl, Nat.le_of_ble_eq_true rfl⟩) hP hD hS hA [1, 3, 0, 4, 5, 6] [2] rfl rfl (by decide) (by decide) 0 0 rfl rfl (fun u_4 H locs hw_u_4 hP hD hS => ?_)
  have hP : va_P D vwCl [(p0, .inl (cI, 6, .inl f0)), (h0, .inr (0, [.ref p0, .ref p1, .ref p2, .int (nI a), .int u_2.2.2.1, .int u_2.2.2.2, .ref p6, .ref p7, .ref p8])), (p1, .inl (cI, 6, .inl u_2.1)), (p2, .inl (cI, 8, .inl u_4.1)), (p6, .inl (cI, 8, .inl f6)), (p7, .inl (cI, 8, .inl f7)), (p8, .inl (cI, 64, .inl u_4.2))] H := hP
  have hD : va_D A [(p0, .inl (cI, 6, .inl f0)), (h0, .inr (0, [.ref p0, .ref p1, .ref p2, .int (nI a), .int u_2.2.2.1, .int u_2.2.2.2, .ref p6, .ref p7, .ref p8])), (p1, .inl (cI, 6, .inl u_2.1)), (p2, .inl (cI, 8, .inl u_4.1)), (p6, .inl (cI, 8, .inl f6)), (p7, .inl (cI, 8, .inl f7)), (p8, .inl (cI, 64, .inl u_4.2))] := hD
  have hP9 := hP.sub (ws' := [(h0, .inr (0, [.ref p0, .ref p1, .ref p2, .int (nI a), .int u_2.2.2.1, .int u_2.2.2.2, .ref p6, .ref p7, .ref p8])), (p0, .inl (cI, 6, .inl f0)), (p1, .inl (cI, 6, .inl u_2.1)), (p2, .inl (cI, 8, .inl u_4.1)), (p6, .inl (cI, 8, .inl f6)), (p7, .inl (cI, 8, .inl f7)), (p8, .inl (cI, 64, .inl u_4.2))]) [1, 0, 2, 3, 4, 5, 6] rfl
  have hD9 := hD.sub (ws' := [(h0, .inr (0, [.ref p0, .ref p1, .ref p2, .int (nI a), .int u_2.2.2.1, .int u_2.2.2.2, .ref p6, .ref p7, .ref p8])), (p0, .inl (cI, 6, .inl f0)), (p1, .inl (cI, 6, .inl u_2.1)), (p2, .inl (cI, 8, .inl u_4.1)), (p6, .inl (cI, 8, .inl f6)), (p7, .inl (cI, 8, .inl f7)), (p8, .inl (cI, 64, .inl u_4.2))]) [1, 0, 2, 3, 4, 5, 6] (by decide) rfl
  exact W.vret hx hb hr (fun t ht hW => ⟨⟨(u_2.1, u_4.1, u_4.2, (u_2.2.2.1 : Int32), (u_2.2.2.2 : Int32)), rfl, ⟨⟨hw_u_2.1, hw_u_4⟩, hw_u_2.2⟩, by rw [ht]; exact hP9, va_K.moved hW.alike hK, hD9⟩, hS.F ht⟩) hS.2.2 dX0_plan_8

set_option maxHeartbeats 4000000 in
set_option maxRecDepth 100000 in
theorem f_X0_payP (l : Launch) (D : va_G) (cB cI cJ cZ : ClassId) (sz : Nat) (h0 p0 p1 p2 p6 p7 p8 a : Nat) (b4 b5 : Int32) (f0 f1 f2 f6 f7 f8 : Nat → Int32) (ha : a ≤ 8) : Met l yX0_payPlanned wsX0_payPlanned ({ frames := 0, cells := 0, slots := 0, locals := 0 } : Room) (cPre D (aTy cB cI cJ cZ) [(h0, .inr (0, [.ref p0, .ref p1, .ref p2, .int (nI a), .int b4, .int b5, .ref p6, .ref p7, .ref p8])), (p0, .inl (cI, 6, .inl f0)), (p1, .inl (cI, 6, .inl f1)), (p2, .inl (cI, 8, .inl f2)), (p6, .inl (cI, 8, .inl f6)), (p7, .inl (cI, 8, .inl f7)), (p8, .inl (cI, 64, .inl f8))] sz [.ref h0]) (va_Qi (fun (r : Int32) (u : (Nat → Int32) × (Nat → Int32)) => r = sI f1 6 ∧ sbP u.1 f0 f1 6 ∧ sbP u.2 f6 f2 a) (cB_ D (aTy cB cI cJ cZ) (va_A [(h0, .inr (0, [.ref p0, .ref p1, .ref p2, .int (nI a), .int b4, .int b5, .ref p6, .ref p7, .ref p8])), (p0, .inl (cI, 6, .inl f0)), (p1, .inl (cI, 6, .inl f1)), (p2, .inl (cI, 8, .inl f2)), (p6, .inl (cI, 8, .inl f6)), (p7, .inl (cI, 8, .inl f7)), (p8, .inl (cI, 64, .inl f8))] sz) (fun u => [(h0, .inr (0, [.ref p0, .ref p1, .ref p2, .int (nI a), .int b4, .int b5, .ref p6, .ref p7, .ref p8])), (p0, .inl (cI, 6, .inl u.1)), (p1, .inl (cI, 6, .inl f1)), (p2, .inl (cI, 8, .inl f2)), (p6, .inl (cI, 8, .inl u.2)), (p7, .inl (cI, 8, .inl f7)), (p8, .inl (cI, 64, .inl f8))])) (va_A [(h0, .inr (0, [.ref p0, .ref p1, .ref p2, .int (nI a), .int b4, .int b5, .ref p6, .ref p7, .ref p8])), (p0, .inl (cI, 6, .inl f0)), (p1, .inl (cI, 6, .inl f1)), (p2, .inl (cI, 8, .inl f2)), (p6, .inl (cI, 8, .inl f6)), (p7, .inl (cI, 8, .inl f7)), (p8, .inl (cI, 64, .inl f8))] sz)) 0 0 (va_A [(h0, .inr (0, [.ref p0, .ref p1, .ref p2, .int (nI a), .int b4, .int b5, .ref p6, .ref p7, .ref p8])), (p0, .inl (cI, 6, .inl f0)), (p1, .inl (cI, 6, .inl f1)), (p2, .inl (cI, 8, .inl f2)), (p6, .inl (cI, 8, .inl f6)), (p7, .inl (cI, 8, .inl f7)), (p8, .inl (cI, 64, .inl f8))] sz) := by
  refine Met.ofW (cc := cX0_payPlanned) (maxL := 3) (ret := (some .int)) (by decide) rfl ?_
  intro p e s m args below meth c s₁ B hml hv
  obtain ⟨rfl, hsz, hP, hK, hD0⟩ := hv
  have hx := B.exec
  have hb := B.bytes
  have hr := B.returns
  have hts := atoms_spec (ws := wsX0_payPlanned) B.pre
  have hown : s.vm.findClass RX0 = some m.cls := findClass_of_methodNamed B.named
  have hlocks := B.notSynchronized
  subst hsz
  have hD := hD0.self (sz := s.heap.size)
  generalize hAe : va_A [(h0, .inr (0, [.ref p0, .ref p1, .ref p2, .int (nI a), .int b4, .int b5, .ref p6, .ref p7, .ref p8])), (p0, .inl (cI, 6, .inl f0)), (p1, .inl (cI, 6, .inl f1)), (p2, .inl (cI, 8, .inl f2)), (p6, .inl (cI, 8, .inl f6)), (p7, .inl (cI, 8, .inl f7)), (p8, .inl (cI, 64, .inl f8))] s.heap.size = A at hD ⊢
  have hA : ∀ q : Nat, s.heap.size ≤ q → A q := fun q h => by rw [← hAe]; exact Or.inr h
  have hS : va_S A s.heap s.heap [] := va_S.rf
  have hP : va_P D vwCl [(h0, .inr (0, [.ref p0, .ref p1, .ref p2, .int (nI a), .int b4, .int b5, .ref p6, .ref p7, .ref p8])), (p0, .inl (cI, 6, .inl f0)), (p1, .inl (cI, 6, .inl f1)), (p2, .inl (cI, 8, .inl f2)), (p6, .inl (cI, 8, .inl f6)), (p7, .inl (cI, 8, .inl f7)), (p8, .inl (cI, 64, .inl f8))] s.heap := hP
  have w_1 : ∀ w ∈ wsX00, w ∈ wsX0_payPlanned := by decide +kernel
  have w_2 := hts (Cond.fieldLink RX0 30 "BlueCoats$Chest" "number" "I") (by decide +kernel)
  have w_3 := hts (Cond.fieldLink RX0 21 "BlueCoats$Chest" "coins" "[I") (by decide +kernel)
  have w_4 := hts (Cond.fieldLink RX0 18 "BlueCoats$Chest" "fromLegacy" "[I") (by decide +kernel)
  have w_5 := hts (Cond.fieldLink RX0 11 "BlueCoats$Chest" "need" "[I") (by decide +kernel)
  have w_6 := hts (Cond.fieldLink RX0 15 "BlueCoats$Chest" "toEnd" "[I") (by decide +kernel)
  have hl := lv_entry ([.ref h0]) (n := 3) (Nat.le_of_ble_eq_true rfl)
  rw [lg_entry_eq]
  generalize (lg_sl ([.ref h0]) ++ List.replicate (3 - (lg_sl ([.ref h0])).length) Slot.unset).toArray = ls at hl ⊢
  have hl : lv_has ls 3 [(0, .ref h0)] := hl
  generalize hQ : MQ below _ _ s _ _ _ = Q0
  refine lv_iconst (v := 0) hx hb dX0_payPlanned_0 (by decide) ?_
  refine lv_istore_n (lv' := [(1, .int 0), (0, .ref h0)]) hx hb dX0_payPlanned_1 rfl hl (by decide) rfl (fun ls hl => ?_)
  refine lv_iconst (v := 0) hx hb dX0_payPlanned_2 (by decide) ?_
  refine lv_istore_n (lv' := [(2, .int 0), (1, .int 0), (0, .ref h0)]) hx hb dX0_payPlanned_3 rfl hl (by decide) rfl (fun ls hl => ?_)
  have L_1 : ∀ (n : Nat) (i_4 : Nat) (f_p0_4 : Nat → Int32) (l_1_4 : Int32) (H : Heap) (locs : List Loc) (ls : Array Slot), 6 - i_4 < n → (i_4 ≤ 6) → (sbP f_p0_4 f0 f1 i_4) → (l_1_4 = sI f1 i_4) → va_P D vwCl [(h0, .inr (0, [.ref p0, .ref p1, .ref p2, .int (nI a), .int b4, .int b5, .ref p6, .ref p7, .ref p8])), (p0, .inl (cI, 6, .inl f_p0_4)), (p1, .inl (cI, 6, .inl f1)), (p2, .inl (cI, 8, .inl f2)), (p6, .inl (cI, 8, .inl f6)), (p7, .inl (cI, 8, .inl f7)), (p8, .inl (cI, 64, .inl f8))] H → va_D A [(h0, .inr (0, [.ref p0, .ref p1, .ref p2, .int (nI a), .int b4, .int b5, .ref p6, .ref p7, .ref p8])), (p0, .inl (cI, 6, .inl f_p0_4)), (p1, .inl (cI, 6, .inl f1)), (p2, .inl (cI, 8, .inl f2)), (p6, .inl (cI, 8, .inl f6)), (p7, .inl (cI, 8, .inl f7)), (p8, .inl (cI, 64, .inl f8))] → va_S A s.heap H locs → lv_has ls 3 [(0, .ref h0), (1, .int l_1_4), (2, .int (nI i_4))] → W p l e (headSpec wsX0_payPlanned ({ frames := 0, cells := 0, slots := 0, locals := 0 } : Room)).room s m ([.ref h0] : List Value).toArray below meth c H locs 0 0 Q0 (F0 m 4 ls []) := by
    intro n
    induction n with
    | zero => intro i_4 f_p0_4 l_1_4 H locs ls hn_4 hle_4 hS_4 hr_4 hP hD hS hl; exact absurd hn_4 (Nat.not_lt_zero _)
    | succ n ih_L_1 =>
      intro i_4 f_p0_4 l_1_4 H locs ls hn_4 hle_4 hS_4 hr_4 hP hD hS hl
      refine lv_iload_n hx hb dX0_payPlanned_4 rfl (lv_at hl 2 rfl) ?_
      refine lv_bipush (v := 6) hx hb dX0_payPlanned_5 (by decide) ?_
      refine lv_icmp_ge (tgt := 40) hx hb dX0_payPlanned_7 (by decide) (fun c_7 => ?_) (fun c_7 => ?_)
      ·
        refine lv_iconst (v := 0) hx hb dX0_payPlanned_40 (by decide) ?_
        refine lv_istore_n (lv' := [(2, .int 0), (0, .ref h0), (1, .int l_1_4)]) hx hb dX0_payPlanned_41 rfl hl (by decide) rfl (fun ls hl => ?_)
        have L_2 : ∀ (n : Nat) (i_42 : Nat) (f_p6_42 : Nat → Int32) (H : Heap) (locs : List Loc) (ls : Array Slot), a - i_42 < n → (i_42 ≤ a) → (sbP f_p6_42 f6 f2 i_42) → va_P D vwCl [(h0, .inr (0, [.ref p0, .ref p1, .ref p2, .int (nI a), .int b4, .int b5, .ref p6, .ref p7, .ref p8])), (p0, .inl (cI, 6, .inl f_p0_4)), (p1, .inl (cI, 6, .inl f1)), (p2, .inl (cI, 8, .inl f2)), (p6, .inl (cI, 8, .inl f_p6_42)), (p7, .inl (cI, 8, .inl f7)), (p8, .inl (cI, 64, .inl f8))] H → va_D A [(h0, .inr (0, [.ref p0, .ref p1, .ref p2, .int (nI a), .int b4, .int b5, .ref p6, .ref p7, .ref p8])), (p0, .inl (cI, 6, .inl f_p0_4)), (p1, .inl (cI, 6, .inl f1)), (p2, .inl (cI, 8, .inl f2)), (p6, .inl (cI, 8, .inl f_p6_42)), (p7, .inl (cI, 8, .inl f7)), (p8, .inl (cI, 64, .inl f8))] → va_S A s.heap H locs → lv_has ls 3 [(0, .ref h0), (1, .int l_1_4), (2, .int (nI i_42))] → W p l e (headSpec wsX0_payPlanned ({ frames := 0, cells := 0, slots := 0, locals := 0 } : Room)).room s m ([.ref h0] : List Value).toArray below meth c H locs 0 0 Q0 (F0 m 42 ls []) := by
          intro n
          induction n with
          | zero => intro i_42 f_p6_42 H locs ls hn_42 hle_42 hT_42 hP hD hS hl; exact absurd hn_42 (Nat.not_lt_zero _)
          | succ n ih_L_2 =>
            intro i_42 f_p6_42 H locs ls hn_42 hle_42 hT_42 hP hD hS hl
            refine lv_iload_n hx hb dX0_payPlanned_42 rfl (lv_at hl 2 rfl) ?_
            refine lv_aload_n hx hb dX0_payPlanned_43 rfl (lv_at hl 0 rfl) ?_
            refine va_get (D := D) (ci := 0) (v := .int (nI a)) (C := RX0) (T := TX0) (N := 9) hx hb hts w_1 hown hK hP 0 rfl rfl 3 (by decide) w_2 (fun _ h9 => h9) rfl dX0_payPlanned_44 ?_
            refine lv_icmp_ge (tgt := 71) hx hb dX0_payPlanned_47 (by decide) (fun c_47 => ?_) (fun c_47 => ?_)
            ·
              refine lv_iload_n hx hb dX0_payPlanned_71 rfl (lv_at hl 1 rfl) ?_
              rw [← hQ]
              have hP9 := hP.sub (ws' := [(h0, .inr (0, [.ref p0, .ref p1, .ref p2, .int (nI a), .int b4, .int b5, .ref p6, .ref p7, .ref p8])), (p0, .inl (cI, 6, .inl f_p0_4)), (p1, .inl (cI, 6, .inl f1)), (p2, .inl (cI, 8, .inl f2)), (p6, .inl (cI, 8, .inl f_p6_42)), (p7, .inl (cI, 8, .inl f7)), (p8, .inl (cI, 64, .inl f8))]) [0, 1, 2, 3, 4, 5, 6] rfl
              have hD9 := hD.sub (ws' := [(h0, .inr (0, [.ref p0, .ref p1, .ref p2, .int (nI a), .int b4, .int b5, .ref p6, .ref p7, .ref p8])), (p0, .inl (cI, 6, .inl f_p0_4)), (p1, .inl (cI, 6, .inl f1)), (p2, .inl (cI, 8, .inl f2)), (p6, .inl (cI, 8, .inl f_p6_42)), (p7, .inl (cI, 8, .inl f7)), (p8, .inl (cI, 64, .inl f8))]) [0, 1, 2, 3, 4, 5, 6] (by decide) rfl
              exact W.iret (v := l_1_4) hx hb hr (fun t ht hW => ⟨⟨_, (f_p0_4, f_p6_42), rfl, ⟨by rw [hr_4, (Nat.le_antisymm hle_4 (ge3 (by omega) hle_4 c_7))], sb_e hS_4 (Nat.le_antisymm hle_4 (ge3 (by omega) hle_4 c_7)), sb_e hT_42 (Nat.le_antisymm hle_42 (ge3 (by omega) hle_42 c_47))⟩, by rw [ht]; exact hP9, va_K.moved hW.alike hK, hD9⟩, hS.F ht⟩) hS.2.2 dX0_payPlanned_72
            ·
              have hb_42 : i_42 < a := lt3 (by omega) hle_42 c_47
              refine lv_aload_n hx hb dX0_payPlanned_50 rfl (lv_at hl 0 rfl) ?_
              refine va_get (D := D) (ci := 0) (v := .ref p6) (C := RX0) (T := TX0) (N := 9) hx hb hts w_1 hown hK hP 0 rfl rfl 6 (by decide) w_3 (fun _ h9 => h9) rfl dX0_payPlanned_51 ?_
              refine lv_iload_n hx hb dX0_payPlanned_54 rfl (lv_at hl 2 rfl) ?_
              refine lv_dup2_11 hx hb dX0_payPlanned_55 rfl rfl ?_
              refine sv_iald (v := f_p6_42 i_42) hx hb hK hP 4 1 rfl rfl (vp_in_nI (by omega) (by decide)) (congrArg _ (nI_clamp (by omega))) dX0_payPlanned_56 ?_
              refine lv_aload_n hx hb dX0_payPlanned_57 rfl (lv_at hl 0 rfl) ?_
              refine va_get (D := D) (ci := 0) (v := .ref p2) (C := RX0) (T := TX0) (N := 9) hx hb hts w_1 hown hK hP 0 rfl rfl 2 (by decide) w_4 (fun _ h9 => h9) rfl dX0_payPlanned_58 ?_
              refine lv_iload_n hx hb dX0_payPlanned_61 rfl (lv_at hl 2 rfl) ?_
              refine sv_iald (v := f2 i_42) hx hb hK hP 3 1 rfl rfl (vp_in_nI (by omega) (by decide)) (congrArg _ (nI_clamp (by omega))) dX0_payPlanned_62 ?_
              refine sv_isub (v := (f_p6_42 i_42) - (f2 i_42)) hx hb dX0_payPlanned_63 rfl ?_
              refine sv_iast hx hb hK hP hD hS 4 1 rfl rfl (vp_in_nI (by omega) (by decide)) dX0_payPlanned_64 (fun g_3 H locs eg_3 hP hD hS => ?_)
              have eg_3 : g_3 = upd f_p6_42 i_42 ((f_p6_42 i_42) - (f2 i_42)) := ist eg_3 (by omega)
              subst eg_3
              have hP : va_P D vwCl [(h0, .inr (0, [.ref p0, .ref p1, .ref p2, .int (nI a), .int b4, .int b5, .ref p6, .ref p7, .ref p8])), (p0, .inl (cI, 6, .inl f_p0_4)), (p1, .inl (cI, 6, .inl f1)), (p2, .inl (cI, 8, .inl f2)), (p6, .inl (cI, 8, .inl (upd f_p6_42 i_42 ((f_p6_42 i_42) - (f2 i_42))))), (p7, .inl (cI, 8, .inl f7)), (p8, .inl (cI, 64, .inl f8))] H := hP
              have hD : va_D A [(h0, .inr (0, [.ref p0, .ref p1, .ref p2, .int (nI a), .int b4, .int b5, .ref p6, .ref p7, .ref p8])), (p0, .inl (cI, 6, .inl f_p0_4)), (p1, .inl (cI, 6, .inl f1)), (p2, .inl (cI, 8, .inl f2)), (p6, .inl (cI, 8, .inl (upd f_p6_42 i_42 ((f_p6_42 i_42) - (f2 i_42))))), (p7, .inl (cI, 8, .inl f7)), (p8, .inl (cI, 64, .inl f8))] := hD
              refine lv_iinc (v := nI (i_42 + 1)) (lv' := [(2, .int (nI (i_42 + 1))), (0, .ref h0), (1, .int l_1_4)]) hx hb dX0_payPlanned_65 hl (k := 2) rfl (ax_add _ 1) (by decide) rfl (fun ls hl => ?_)
              refine lv_goto (tgt := 42) hx hb dX0_payPlanned_68 (by decide) ?_
              exact ih_L_2 (i_42 + 1) (upd f_p6_42 i_42 ((f_p6_42 i_42) - (f2 i_42))) _ _ ls (by omega) (by omega) (sb_s hT_42) hP hD hS (lv_sub hl [1, 2, 0] rfl)
        exact L_2 _ 0 f6 _ _ ls (Nat.lt_succ_self _) (by first | exact Nat.zero_le _ | omega) sb_0 hP hD hS (lv_sub hl [1, 2, 0] rfl)
      ·
        have hb_4 : i_4 < 6 := lt3 (by omega) hle_4 c_7
        refine lv_aload_n hx hb dX0_payPlanned_10 rfl (lv_at hl 0 rfl) ?_
        refine va_get (D := D) (ci := 0) (v := .ref p0) (C := RX0) (T := TX0) (N := 9) hx hb hts w_1 hown hK hP 0 rfl rfl 0 (by decide) w_5 (fun _ h9 => h9) rfl dX0_payPlanned_11 ?_
        refine lv_iload_n hx hb dX0_payPlanned_14 rfl (lv_at hl 2 rfl) ?_
        refine lv_dup2_11 hx hb dX0_payPlanned_15 rfl rfl ?_
        refine sv_iald (v := f_p0_4 i_4) hx hb hK hP 1 1 rfl rfl (vp_in_nI (by omega) (by decide)) (congrArg _ (nI_clamp (by omega))) dX0_payPlanned_16 ?_
        refine lv_aload_n hx hb dX0_payPlanned_17 rfl (lv_at hl 0 rfl) ?_
        refine va_get (D := D) (ci := 0) (v := .ref p1) (C := RX0) (T := TX0) (N := 9) hx hb hts w_1 hown hK hP 0 rfl rfl 1 (by decide) w_6 (fun _ h9 => h9) rfl dX0_payPlanned_18 ?_
        refine lv_iload_n hx hb dX0_payPlanned_21 rfl (lv_at hl 2 rfl) ?_
        refine sv_iald (v := f1 i_4) hx hb hK hP 2 1 rfl rfl (vp_in_nI (by omega) (by decide)) (congrArg _ (nI_clamp (by omega))) dX0_payPlanned_22 ?_
        refine sv_isub (v := (f_p0_4 i_4) - (f1 i_4)) hx hb dX0_payPlanned_23 rfl ?_
        refine sv_iast hx hb hK hP hD hS 1 1 rfl rfl (vp_in_nI (by omega) (by decide)) dX0_payPlanned_24 (fun g_4 H locs eg_4 hP hD hS => ?_)
        have eg_4 : g_4 = upd f_p0_4 i_4 ((f_p0_4 i_4) - (f1 i_4)) := ist eg_4 (by omega)
        subst eg_4
        have hP : va_P D vwCl [(h0, .inr (0, [.ref p0, .ref p1, .ref p2, .int (nI a), .int b4, .int b5, .ref p6, .ref p7, .ref p8])), (p0, .inl (cI, 6, .inl (upd f_p0_4 i_4 ((f_p0_4 i_4) - (f1 i_4))))), (p1, .inl (cI, 6, .inl f1)), (p2, .inl (cI, 8, .inl f2)), (p6, .inl (cI, 8, .inl f6)), (p7, .inl (cI, 8, .inl f7)), (p8, .inl (cI, 64, .inl f8))] H := hP
        have hD : va_D A [(h0, .inr (0, [.ref p0, .ref p1, .ref p2, .int (nI a), .int b4, .int b5, .ref p6, .ref p7, .ref p8])), (p0, .inl (cI, 6, .inl (upd f_p0_4 i_4 ((f_p0_4 i_4) - (f1 i_4))))), (p1, .inl (cI, 6, .inl f1)), (p2, .inl (cI, 8, .inl f2)), (p6, .inl (cI, 8, .inl f6)), (p7, .inl (cI, 8, .inl f7)), (p8, .inl (cI, 64, .inl f8))] := hD
        refine lv_iload_n hx hb dX0_payPlanned_25 rfl (lv_at hl 1 rfl) ?_
        refine lv_aload_n hx hb dX0_payPlanned_26 rfl (lv_at hl 0 rfl) ?_
        refine va_get (D := D) (ci := 0) (v := .ref p1) (C := RX0) (T := TX0) (N := 9) hx hb hts w_1 hown hK hP 0 rfl rfl 1 (by decide) w_6 (fun _ h9 => h9) rfl dX0_payPlanned_27 ?_
        refine lv_iload_n hx hb dX0_payPlanned_30 rfl (lv_at hl 2 rfl) ?_
        refine sv_iald (v := f1 i_4) hx hb hK hP 2 1 rfl rfl (vp_in_nI (by omega) (by decide)) (congrArg _ (nI_clamp (by omega))) dX0_payPlanned_31 ?_
        refine sv_iadd (v := l_1_4 + (f1 i_4)) hx hb dX0_payPlanned_32 rfl ?_
        refine lv_istore_n (lv' := [(1, .int (l_1_4 + (f1 i_4))), (0, .ref h0), (2, .int (nI i_4))]) hx hb dX0_payPlanned_33 rfl hl (by decide) rfl (fun ls hl => ?_)
        refine lv_iinc (v := nI (i_4 + 1)) (lv' := [(2, .int (nI (i_4 + 1))), (1, .int (l_1_4 + (f1 i_4))), (0, .ref h0)]) hx hb dX0_payPlanned_34 hl (k := 2) rfl (ax_add _ 1) (by decide) rfl (fun ls hl => ?_)
        refine lv_goto (tgt := 4) hx hb dX0_payPlanned_37 (by decide) ?_
        exact ih_L_1 (i_4 + 1) (upd f_p0_4 i_4 ((f_p0_4 i_4) - (f1 i_4))) (l_1_4 + (f1 i_4)) _ _ ls (by omega) (by omega) (sb_s hS_4) (by rw [hr_4]; rfl) hP hD hS (lv_sub hl [2, 1, 0] rfl)
  exact L_1 _ 0 f0 0 _ _ ls (Nat.lt_succ_self _) (by first | exact Nat.zero_le _ | omega) sb_0 rfl hP hD hS (lv_sub hl [2, 1, 0] rfl)

set_option maxHeartbeats 4000000 in
set_option maxRecDepth 100000 in
theorem f_X7_legacy (l : Launch) (D : va_G) (cB cI cJ cZ : ClassId) (sz : Nat) (x : Nat → Nat) (yr : Int32) (hn : Nat) (h4 : Int32) (h5 : Int32) (n28 : Nat → Int32) (n29 : Nat → Int32) (n30 : Nat → Int32) (n31 : Nat → Int32) (n32 : Nat → Int32) (n33 : Nat → Int32) (q0 q1 : Int32) (b_hn : hn ≤ 8) : Met l yX7_legacy wsX7_legacy ({ frames := 1, cells := 0, slots := 0, locals := 22 } : Room) (cPre D (aTy cB cI cJ cZ) [((x 0), .inr (7, [.ref (x 1), .ref (x 5), .ref (x 7), .ref (x 10), .ref (x 17), .ref (x 22), .ref (x 27), .int yr])), ((x 27), .inr (0, [.ref (x 28), .ref (x 29), .ref (x 30), .int (nI hn), .int h4, .int h5, .ref (x 31), .ref (x 32), .ref (x 33)])), ((x 28), .inl (cI, 6, .inl n28)), ((x 29), .inl (cI, 6, .inl n29)), ((x 30), .inl (cI, 8, .inl n30)), ((x 31), .inl (cI, 8, .inl n31)), ((x 32), .inl (cI, 8, .inl n32)), ((x 33), .inl (cI, 64, .inl n33))] sz [.ref (x 0), .int q0, .int q1]) (va_Qi (fun (r : Int32) (u : Nat × (Nat → Int32) × (Nat → Int32)) => lgQ hn n31 n32 q0 q1 r u.1 u.2.1 u.2.2) (cB_ D (aTy cB cI cJ cZ) (va_A [((x 0), .inr (7, [.ref (x 1), .ref (x 5), .ref (x 7), .ref (x 10), .ref (x 17), .ref (x 22), .ref (x 27), .int yr])), ((x 27), .inr (0, [.ref (x 28), .ref (x 29), .ref (x 30), .int (nI hn), .int h4, .int h5, .ref (x 31), .ref (x 32), .ref (x 33)])), ((x 28), .inl (cI, 6, .inl n28)), ((x 29), .inl (cI, 6, .inl n29)), ((x 30), .inl (cI, 8, .inl n30)), ((x 31), .inl (cI, 8, .inl n31)), ((x 32), .inl (cI, 8, .inl n32)), ((x 33), .inl (cI, 64, .inl n33))] sz) (fun u => [((x 0), .inr (7, [.ref (x 1), .ref (x 5), .ref (x 7), .ref (x 10), .ref (x 17), .ref (x 22), .ref (x 27), .int yr])), ((x 27), .inr (0, [.ref (x 28), .ref (x 29), .ref (x 30), .int (nI (u.1)), .int h4, .int h5, .ref (x 31), .ref (x 32), .ref (x 33)])), ((x 28), .inl (cI, 6, .inl n28)), ((x 29), .inl (cI, 6, .inl n29)), ((x 30), .inl (cI, 8, .inl n30)), ((x 31), .inl (cI, 8, .inl u.2.1)), ((x 32), .inl (cI, 8, .inl u.2.2)), ((x 33), .inl (cI, 64, .inl n33))])) (va_A [((x 0), .inr (7, [.ref (x 1), .ref (x 5), .ref (x 7), .ref (x 10), .ref (x 17), .ref (x 22), .ref (x 27), .int yr])), ((x 27), .inr (0, [.ref (x 28), .ref (x 29), .ref (x 30), .int (nI hn), .int h4, .int h5, .ref (x 31), .ref (x 32), .ref (x 33)])), ((x 28), .inl (cI, 6, .inl n28)), ((x 29), .inl (cI, 6, .inl n29)), ((x 30), .inl (cI, 8, .inl n30)), ((x 31), .inl (cI, 8, .inl n31)), ((x 32), .inl (cI, 8, .inl n32)), ((x 33), .inl (cI, 64, .inl n33))] sz)) 0 0 (va_A [((x 0), .inr (7, [.ref (x 1), .ref (x 5), .ref (x 7), .ref (x 10), .ref (x 17), .ref (x 22), .ref (x 27), .int yr])), ((x 27), .inr (0, [.ref (x 28), .ref (x 29), .ref (x 30), .int (nI hn), .int h4, .int h5, .ref (x 31), .ref (x 32), .ref (x 33)])), ((x 28), .inl (cI, 6, .inl n28)), ((x 29), .inl (cI, 6, .inl n29)), ((x 30), .inl (cI, 8, .inl n30)), ((x 31), .inl (cI, 8, .inl n31)), ((x 32), .inl (cI, 8, .inl n32)), ((x 33), .inl (cI, 64, .inl n33))] sz) := by
  refine Met.ofW (cc := cX7_legacy) (maxL := 3) (ret := (some .int)) (by decide) rfl ?_
  intro p e s m args below meth c s₁ B hml hv
  obtain ⟨rfl, hsz, hP, hK, hD0⟩ := hv
  have hx := B.exec
  have hb := B.bytes
  have hr := B.returns
  have hts := atoms_spec (ws := wsX7_legacy) B.pre
  have hown : s.vm.findClass RX7 = some m.cls := findClass_of_methodNamed B.named
  have hlocks := B.notSynchronized
  subst hsz
  have hD := hD0.self (sz := s.heap.size)
  generalize hAe : va_A [((x 0), .inr (7, [.ref (x 1), .ref (x 5), .ref (x 7), .ref (x 10), .ref (x 17), .ref (x 22), .ref (x 27), .int yr])), ((x 27), .inr (0, [.ref (x 28), .ref (x 29), .ref (x 30), .int (nI hn), .int h4, .int h5, .ref (x 31), .ref (x 32), .ref (x 33)])), ((x 28), .inl (cI, 6, .inl n28)), ((x 29), .inl (cI, 6, .inl n29)), ((x 30), .inl (cI, 8, .inl n30)), ((x 31), .inl (cI, 8, .inl n31)), ((x 32), .inl (cI, 8, .inl n32)), ((x 33), .inl (cI, 64, .inl n33))] s.heap.size = A at hD ⊢
  have hA : ∀ q : Nat, s.heap.size ≤ q → A q := fun q h => by rw [← hAe]; exact Or.inr h
  have hS : va_S A s.heap s.heap [] := va_S.rf
  have hP : va_P D vwCl [((x 0), .inr (7, [.ref (x 1), .ref (x 5), .ref (x 7), .ref (x 10), .ref (x 17), .ref (x 22), .ref (x 27), .int yr])), ((x 27), .inr (0, [.ref (x 28), .ref (x 29), .ref (x 30), .int (nI hn), .int h4, .int h5, .ref (x 31), .ref (x 32), .ref (x 33)])), ((x 28), .inl (cI, 6, .inl n28)), ((x 29), .inl (cI, 6, .inl n29)), ((x 30), .inl (cI, 8, .inl n30)), ((x 31), .inl (cI, 8, .inl n31)), ((x 32), .inl (cI, 8, .inl n32)), ((x 33), .inl (cI, 64, .inl n33))] s.heap := hP
  have w_1 : ∀ w ∈ wsX70, w ∈ wsX7_legacy := by decide +kernel
  have w_2 := hts (Cond.fieldLink RX7 54 "BlueCoats" "chest" "LBlueCoats$Chest;") (by decide +kernel)
  have hl := lv_entry ([.ref (x 0), .int q0, .int q1]) (n := 3) (Nat.le_of_ble_eq_true rfl)
  rw [lg_entry_eq]
  generalize (lg_sl ([.ref (x 0), .int q0, .int q1]) ++ List.replicate (3 - (lg_sl ([.ref (x 0), .int q0, .int q1])).length) Slot.unset).toArray = ls at hl ⊢
  have hl : lv_has ls 3 [(0, .ref (x 0)), (1, .int q0), (2, .int q1)] := hl
  refine lv_aload_n hx hb dX7_legacy_0 rfl (lv_at hl 0 rfl) ?_
  refine va_get (D := D) (ci := 7) (v := .ref (x 27)) (C := RX7) (T := TX7) (N := 8) hx hb hts w_1 hown hK hP 0 rfl rfl 6 (by decide) w_2 (fun _ h9 => h9) rfl dX7_legacy_1 ?_
  refine lv_iload_n hx hb dX7_legacy_4 rfl (lv_at hl 1 rfl) ?_
  refine lv_iload_n hx hb dX7_legacy_5 rfl (lv_at hl 2 rfl) ?_
  refine cl_i (wc := [((x 27), .inr (0, [.ref (x 28), .ref (x 29), .ref (x 30), .int (nI hn), .int h4, .int h5, .ref (x 31), .ref (x 32), .ref (x 33)])), ((x 31), .inl (cI, 8, .inl n31)), ((x 32), .inl (cI, 8, .inl n32))]) (wr := [((x 0), .inr (7, [.ref (x 1), .ref (x 5), .ref (x 7), .ref (x 10), .ref (x 17), .ref (x 22), .ref (x 27), .int yr])), ((x 28), .inl (cI, 6, .inl n28)), ((x 29), .inl (cI, 6, .inl n29)), ((x 30), .inl (cI, 8, .inl n30)), ((x 33), .inl (cI, 64, .inl n33))]) (va_runV (As := [.int q0, .int q1]) (rest := []) ⟨hx, hb, hml, hown, hts⟩ (f_X0_add l D cB cI cJ cZ s.heap.size (x 27) (x 28) (x 29) (x 30) (x 31) (x 32) (x 33) hn h4 h5 n28 n29 n30 n31 n32 n33 q0 q1 b_hn) (cwV 2 hts gX7_legacy_X0_add rfl rfl rfl (by decide +kernel) ⟨Nat.le_of_ble_eq_true rfl, Nat.le_of_ble_eq_true rfl⟩) (pre_V (hP.sub (ws' := [((x 27), .inr (0, [.ref (x 28), .ref (x 29), .ref (x 30), .int (nI hn), .int h4, .int h5, .ref (x 31), .ref (x 32), .ref (x 33)])), ((x 31), .inl (cI, 8, .inl n31)), ((x 32), .inl (cI, 8, .inl n32))]) [1, 5, 6] rfl) hK (hD.sub (ws' := [((x 27), .inr (0, [.ref (x 28), .ref (x 29), .ref (x 30), .int (nI hn), .int h4, .int h5, .ref (x 31), .ref (x 32), .ref (x 33)])), ((x 31), .inl (cI, 8, .inl n31)), ((x 32), .inl (cI, 8, .inl n32))]) [1, 5, 6] (by decide) rfl) 0 rfl rfl rfl) rfl rfl hl.1 rfl (lv_room (Nat.le_of_ble_eq_true rfl)) dX7_legacy_6 ⟨Nat.le_of_ble_eq_true rfl, Nat.le_of_ble_eq_true rfl⟩) hP hD hS hA [1, 5, 6] [0, 2, 3, 4, 7] rfl rfl (by decide) (by decide) 0 0 rfl rfl (fun r_1 u_2 H locs hw_u_2 hP hD hS => ?_)
  have hP : va_P D vwCl [((x 0), .inr (7, [.ref (x 1), .ref (x 5), .ref (x 7), .ref (x 10), .ref (x 17), .ref (x 22), .ref (x 27), .int yr])), ((x 28), .inl (cI, 6, .inl n28)), ((x 29), .inl (cI, 6, .inl n29)), ((x 30), .inl (cI, 8, .inl n30)), ((x 33), .inl (cI, 64, .inl n33)), ((x 27), .inr (0, [.ref (x 28), .ref (x 29), .ref (x 30), .int (nI (u_2.1)), .int h4, .int h5, .ref (x 31), .ref (x 32), .ref (x 33)])), ((x 31), .inl (cI, 8, .inl u_2.2.1)), ((x 32), .inl (cI, 8, .inl u_2.2.2))] H := hP
  have hD : va_D A [((x 0), .inr (7, [.ref (x 1), .ref (x 5), .ref (x 7), .ref (x 10), .ref (x 17), .ref (x 22), .ref (x 27), .int yr])), ((x 28), .inl (cI, 6, .inl n28)), ((x 29), .inl (cI, 6, .inl n29)), ((x 30), .inl (cI, 8, .inl n30)), ((x 33), .inl (cI, 64, .inl n33)), ((x 27), .inr (0, [.ref (x 28), .ref (x 29), .ref (x 30), .int (nI (u_2.1)), .int h4, .int h5, .ref (x 31), .ref (x 32), .ref (x 33)])), ((x 31), .inl (cI, 8, .inl u_2.2.1)), ((x 32), .inl (cI, 8, .inl u_2.2.2))] := hD
  have hP9 := hP.sub (ws' := [((x 0), .inr (7, [.ref (x 1), .ref (x 5), .ref (x 7), .ref (x 10), .ref (x 17), .ref (x 22), .ref (x 27), .int yr])), ((x 27), .inr (0, [.ref (x 28), .ref (x 29), .ref (x 30), .int (nI (u_2.1)), .int h4, .int h5, .ref (x 31), .ref (x 32), .ref (x 33)])), ((x 28), .inl (cI, 6, .inl n28)), ((x 29), .inl (cI, 6, .inl n29)), ((x 30), .inl (cI, 8, .inl n30)), ((x 31), .inl (cI, 8, .inl u_2.2.1)), ((x 32), .inl (cI, 8, .inl u_2.2.2)), ((x 33), .inl (cI, 64, .inl n33))]) [0, 5, 1, 2, 3, 6, 7, 4] rfl
  have hD9 := hD.sub (ws' := [((x 0), .inr (7, [.ref (x 1), .ref (x 5), .ref (x 7), .ref (x 10), .ref (x 17), .ref (x 22), .ref (x 27), .int yr])), ((x 27), .inr (0, [.ref (x 28), .ref (x 29), .ref (x 30), .int (nI (u_2.1)), .int h4, .int h5, .ref (x 31), .ref (x 32), .ref (x 33)])), ((x 28), .inl (cI, 6, .inl n28)), ((x 29), .inl (cI, 6, .inl n29)), ((x 30), .inl (cI, 8, .inl n30)), ((x 31), .inl (cI, 8, .inl u_2.2.1)), ((x 32), .inl (cI, 8, .inl u_2.2.2)), ((x 33), .inl (cI, 64, .inl n33))]) [0, 5, 1, 2, 3, 6, 7, 4] (by decide) rfl
  exact W.iret (v := r_1) hx hb hr (fun t ht hW => ⟨⟨_, ((u_2.1), u_2.2.1, u_2.2.2), rfl, hw_u_2, by rw [ht]; exact hP9, va_K.moved hW.alike hK, hD9⟩, hS.F ht⟩) hS.2.2 dX7_legacy_9

set_option maxHeartbeats 4000000 in
set_option maxRecDepth 100000 in
theorem f_X7_need (l : Launch) (D : va_G) (cB cI cJ cZ : ClassId) (sz : Nat) (x : Nat → Nat) (yr : Int32) (hn : Nat) (h4 : Int32) (h5 : Int32) (n28 : Nat → Int32) (ee q2 : Int32) (b_hn : hn ≤ 8) : Met l yX7_need wsX7_need ({ frames := 0, cells := 0, slots := 0, locals := 0 } : Room) (cPre D (aTy cB cI cJ cZ) [((x 0), .inr (7, [.ref (x 1), .ref (x 5), .ref (x 7), .ref (x 10), .ref (x 17), .ref (x 22), .ref (x 27), .int yr])), ((x 27), .inr (0, [.ref (x 28), .ref (x 29), .ref (x 30), .int (nI hn), .int h4, .int h5, .ref (x 31), .ref (x 32), .ref (x 33)])), ((x 28), .inl (cI, 6, .inl n28))] sz [.ref (x 0), .int ee, .int q2]) (va_Qi (fun (r : Int32) (u : (Nat → Int32)) => ndQ n28 ee q2 r u) (cB_ D (aTy cB cI cJ cZ) (va_A [((x 0), .inr (7, [.ref (x 1), .ref (x 5), .ref (x 7), .ref (x 10), .ref (x 17), .ref (x 22), .ref (x 27), .int yr])), ((x 27), .inr (0, [.ref (x 28), .ref (x 29), .ref (x 30), .int (nI hn), .int h4, .int h5, .ref (x 31), .ref (x 32), .ref (x 33)])), ((x 28), .inl (cI, 6, .inl n28))] sz) (fun u => [((x 0), .inr (7, [.ref (x 1), .ref (x 5), .ref (x 7), .ref (x 10), .ref (x 17), .ref (x 22), .ref (x 27), .int yr])), ((x 27), .inr (0, [.ref (x 28), .ref (x 29), .ref (x 30), .int (nI hn), .int h4, .int h5, .ref (x 31), .ref (x 32), .ref (x 33)])), ((x 28), .inl (cI, 6, .inl u))])) (va_A [((x 0), .inr (7, [.ref (x 1), .ref (x 5), .ref (x 7), .ref (x 10), .ref (x 17), .ref (x 22), .ref (x 27), .int yr])), ((x 27), .inr (0, [.ref (x 28), .ref (x 29), .ref (x 30), .int (nI hn), .int h4, .int h5, .ref (x 31), .ref (x 32), .ref (x 33)])), ((x 28), .inl (cI, 6, .inl n28))] sz)) 0 0 (va_A [((x 0), .inr (7, [.ref (x 1), .ref (x 5), .ref (x 7), .ref (x 10), .ref (x 17), .ref (x 22), .ref (x 27), .int yr])), ((x 27), .inr (0, [.ref (x 28), .ref (x 29), .ref (x 30), .int (nI hn), .int h4, .int h5, .ref (x 31), .ref (x 32), .ref (x 33)])), ((x 28), .inl (cI, 6, .inl n28))] sz) := by
  refine Met.ofW (cc := cX7_need) (maxL := 3) (ret := (some .boolean)) (by decide) rfl ?_
  intro p e s m args below meth c s₁ B hml hv
  obtain ⟨rfl, hsz, hP, hK, hD0⟩ := hv
  have hx := B.exec
  have hb := B.bytes
  have hr := B.returns
  have hts := atoms_spec (ws := wsX7_need) B.pre
  have hown : s.vm.findClass RX7 = some m.cls := findClass_of_methodNamed B.named
  have hlocks := B.notSynchronized
  subst hsz
  have hD := hD0.self (sz := s.heap.size)
  generalize hAe : va_A [((x 0), .inr (7, [.ref (x 1), .ref (x 5), .ref (x 7), .ref (x 10), .ref (x 17), .ref (x 22), .ref (x 27), .int yr])), ((x 27), .inr (0, [.ref (x 28), .ref (x 29), .ref (x 30), .int (nI hn), .int h4, .int h5, .ref (x 31), .ref (x 32), .ref (x 33)])), ((x 28), .inl (cI, 6, .inl n28))] s.heap.size = A at hD ⊢
  have hA : ∀ q : Nat, s.heap.size ≤ q → A q := fun q h => by rw [← hAe]; exact Or.inr h
  have hS : va_S A s.heap s.heap [] := va_S.rf
  have hP : va_P D vwCl [((x 0), .inr (7, [.ref (x 1), .ref (x 5), .ref (x 7), .ref (x 10), .ref (x 17), .ref (x 22), .ref (x 27), .int yr])), ((x 27), .inr (0, [.ref (x 28), .ref (x 29), .ref (x 30), .int (nI hn), .int h4, .int h5, .ref (x 31), .ref (x 32), .ref (x 33)])), ((x 28), .inl (cI, 6, .inl n28))] s.heap := hP
  have w_1 : ∀ w ∈ wsX70, w ∈ wsX7_need := by decide +kernel
  have w_2 := hts (Cond.fieldLink RX7 54 "BlueCoats" "chest" "LBlueCoats$Chest;") (by decide +kernel)
  have w_3 : ∀ w ∈ wsX00, w ∈ wsX7_need := by decide +kernel
  have w_4 := hts (Cond.fieldLink RX7 216 "BlueCoats$Chest" "need" "[I") (by decide +kernel)
  have hl := lv_entry ([.ref (x 0), .int ee, .int q2]) (n := 3) (Nat.le_of_ble_eq_true rfl)
  rw [lg_entry_eq]
  generalize (lg_sl ([.ref (x 0), .int ee, .int q2]) ++ List.replicate (3 - (lg_sl ([.ref (x 0), .int ee, .int q2])).length) Slot.unset).toArray = ls at hl ⊢
  have hl : lv_has ls 3 [(0, .ref (x 0)), (1, .int ee), (2, .int q2)] := hl
  refine lv_iload_n hx hb dX7_need_0 rfl (lv_at hl 1 rfl) ?_
  refine lv_if_lt (tgt := 21) hx hb dX7_need_1 (by decide) (fun c_1 => ?_) (fun c_1 => ?_)
  ·
    refine lv_iconst (v := 0) hx hb dX7_need_21 (by decide) ?_
    have hP9 := hP.sub (ws' := [((x 0), .inr (7, [.ref (x 1), .ref (x 5), .ref (x 7), .ref (x 10), .ref (x 17), .ref (x 22), .ref (x 27), .int yr])), ((x 27), .inr (0, [.ref (x 28), .ref (x 29), .ref (x 30), .int (nI hn), .int h4, .int h5, .ref (x 31), .ref (x 32), .ref (x 33)])), ((x 28), .inl (cI, 6, .inl n28))]) [0, 1, 2] rfl
    have hD9 := hD.sub (ws' := [((x 0), .inr (7, [.ref (x 1), .ref (x 5), .ref (x 7), .ref (x 10), .ref (x 17), .ref (x 22), .ref (x 27), .int yr])), ((x 27), .inr (0, [.ref (x 28), .ref (x 29), .ref (x 30), .int (nI hn), .int h4, .int h5, .ref (x 31), .ref (x 32), .ref (x 33)])), ((x 28), .inl (cI, 6, .inl n28))]) [0, 1, 2] (by decide) rfl
    exact W.zret (v := 0) hx hb hr rfl (fun t ht hW => ⟨⟨_, n28, rfl, ⟨(if_neg (fun h => h.1 c_1)).symm, (if_neg (fun h => h.1 c_1)).symm⟩, by rw [ht]; exact hP9, va_K.moved hW.alike hK, hD9⟩, hS.F ht⟩) hS.2.2 dX7_need_22
  ·
    refine lv_iload_n hx hb dX7_need_4 rfl (lv_at hl 1 rfl) ?_
    refine lv_bipush (v := 6) hx hb dX7_need_5 (by decide) ?_
    refine lv_icmp_ge (tgt := 21) hx hb dX7_need_7 (by decide) (fun c_7 => ?_) (fun c_7 => ?_)
    ·
      refine lv_iconst (v := 0) hx hb dX7_need_21 (by decide) ?_
      have hP9 := hP.sub (ws' := [((x 0), .inr (7, [.ref (x 1), .ref (x 5), .ref (x 7), .ref (x 10), .ref (x 17), .ref (x 22), .ref (x 27), .int yr])), ((x 27), .inr (0, [.ref (x 28), .ref (x 29), .ref (x 30), .int (nI hn), .int h4, .int h5, .ref (x 31), .ref (x 32), .ref (x 33)])), ((x 28), .inl (cI, 6, .inl n28))]) [0, 1, 2] rfl
      have hD9 := hD.sub (ws' := [((x 0), .inr (7, [.ref (x 1), .ref (x 5), .ref (x 7), .ref (x 10), .ref (x 17), .ref (x 22), .ref (x 27), .int yr])), ((x 27), .inr (0, [.ref (x 28), .ref (x 29), .ref (x 30), .int (nI hn), .int h4, .int h5, .ref (x 31), .ref (x 32), .ref (x 33)])), ((x 28), .inl (cI, 6, .inl n28))]) [0, 1, 2] (by decide) rfl
      exact W.zret (v := 0) hx hb hr rfl (fun t ht hW => ⟨⟨_, n28, rfl, ⟨(if_neg (fun h => h.2.1 (i_le6.mp c_7))).symm, (if_neg (fun h => h.2.1 (i_le6.mp c_7))).symm⟩, by rw [ht]; exact hP9, va_K.moved hW.alike hK, hD9⟩, hS.F ht⟩) hS.2.2 dX7_need_22
    ·
      refine lv_iload_n hx hb dX7_need_10 rfl (lv_at hl 2 rfl) ?_
      refine lv_if_lt (tgt := 21) hx hb dX7_need_11 (by decide) (fun c_11 => ?_) (fun c_11 => ?_)
      ·
        refine lv_iconst (v := 0) hx hb dX7_need_21 (by decide) ?_
        have hP9 := hP.sub (ws' := [((x 0), .inr (7, [.ref (x 1), .ref (x 5), .ref (x 7), .ref (x 10), .ref (x 17), .ref (x 22), .ref (x 27), .int yr])), ((x 27), .inr (0, [.ref (x 28), .ref (x 29), .ref (x 30), .int (nI hn), .int h4, .int h5, .ref (x 31), .ref (x 32), .ref (x 33)])), ((x 28), .inl (cI, 6, .inl n28))]) [0, 1, 2] rfl
        have hD9 := hD.sub (ws' := [((x 0), .inr (7, [.ref (x 1), .ref (x 5), .ref (x 7), .ref (x 10), .ref (x 17), .ref (x 22), .ref (x 27), .int yr])), ((x 27), .inr (0, [.ref (x 28), .ref (x 29), .ref (x 30), .int (nI hn), .int h4, .int h5, .ref (x 31), .ref (x 32), .ref (x 33)])), ((x 28), .inl (cI, 6, .inl n28))]) [0, 1, 2] (by decide) rfl
        exact W.zret (v := 0) hx hb hr rfl (fun t ht hW => ⟨⟨_, n28, rfl, ⟨(if_neg (fun h => h.2.2.1 c_11)).symm, (if_neg (fun h => h.2.2.1 c_11)).symm⟩, by rw [ht]; exact hP9, va_K.moved hW.alike hK, hD9⟩, hS.F ht⟩) hS.2.2 dX7_need_22
      ·
        refine lv_iload_n hx hb dX7_need_14 rfl (lv_at hl 2 rfl) ?_
        refine lv_sipush (v := 9999) hx hb dX7_need_15 (by decide) ?_
        refine lv_icmp_le (tgt := 23) hx hb dX7_need_18 (by decide) (fun c_18 => ?_) (fun c_18 => ?_)
        ·
          refine lv_aload_n hx hb dX7_need_23 rfl (lv_at hl 0 rfl) ?_
          refine va_get (D := D) (ci := 7) (v := .ref (x 27)) (C := RX7) (T := TX7) (N := 8) hx hb hts w_1 hown hK hP 0 rfl rfl 6 (by decide) w_2 (fun _ h9 => h9) rfl dX7_need_24 ?_
          refine va_get (D := D) (ci := 0) (v := .ref (x 28)) (C := RX0) (T := TX0) (N := 9) hx hb hts w_3 hown hK hP 1 rfl rfl 0 (by decide) w_4 (fun _ h9 => h9) rfl dX7_need_27 ?_
          refine lv_iload_n hx hb dX7_need_30 rfl (lv_at hl 1 rfl) ?_
          refine lv_iload_n hx hb dX7_need_31 rfl (lv_at hl 2 rfl) ?_
          refine sv_iast hx hb hK hP hD hS 2 1 rfl rfl (i_in6 c_1 c_7) dX7_need_32 (fun g_1 H locs eg_1 hP hD hS => ?_)
          have eg_1 : g_1 = upd n28 ee.toNatClampNeg q2 := eg_1
          subst eg_1
          have hP : va_P D vwCl [((x 0), .inr (7, [.ref (x 1), .ref (x 5), .ref (x 7), .ref (x 10), .ref (x 17), .ref (x 22), .ref (x 27), .int yr])), ((x 27), .inr (0, [.ref (x 28), .ref (x 29), .ref (x 30), .int (nI hn), .int h4, .int h5, .ref (x 31), .ref (x 32), .ref (x 33)])), ((x 28), .inl (cI, 6, .inl (upd n28 ee.toNatClampNeg q2)))] H := hP
          have hD : va_D A [((x 0), .inr (7, [.ref (x 1), .ref (x 5), .ref (x 7), .ref (x 10), .ref (x 17), .ref (x 22), .ref (x 27), .int yr])), ((x 27), .inr (0, [.ref (x 28), .ref (x 29), .ref (x 30), .int (nI hn), .int h4, .int h5, .ref (x 31), .ref (x 32), .ref (x 33)])), ((x 28), .inl (cI, 6, .inl (upd n28 ee.toNatClampNeg q2)))] := hD
          refine lv_iconst (v := 1) hx hb dX7_need_33 (by decide) ?_
          have hP9 := hP.sub (ws' := [((x 0), .inr (7, [.ref (x 1), .ref (x 5), .ref (x 7), .ref (x 10), .ref (x 17), .ref (x 22), .ref (x 27), .int yr])), ((x 27), .inr (0, [.ref (x 28), .ref (x 29), .ref (x 30), .int (nI hn), .int h4, .int h5, .ref (x 31), .ref (x 32), .ref (x 33)])), ((x 28), .inl (cI, 6, .inl (upd n28 ee.toNatClampNeg q2)))]) [0, 1, 2] rfl
          have hD9 := hD.sub (ws' := [((x 0), .inr (7, [.ref (x 1), .ref (x 5), .ref (x 7), .ref (x 10), .ref (x 17), .ref (x 22), .ref (x 27), .int yr])), ((x 27), .inr (0, [.ref (x 28), .ref (x 29), .ref (x 30), .int (nI hn), .int h4, .int h5, .ref (x 31), .ref (x 32), .ref (x 33)])), ((x 28), .inl (cI, 6, .inl (upd n28 ee.toNatClampNeg q2)))]) [0, 1, 2] (by decide) rfl
          exact W.zret (v := 1) hx hb hr rfl (fun t ht hW => ⟨⟨_, upd n28 ee.toNatClampNeg q2, rfl, ⟨(if_pos ⟨c_1, (fun h => c_7 (i_le6.mpr h)), c_11, (Int32.not_lt.mpr c_18)⟩).symm, (if_pos ⟨c_1, (fun h => c_7 (i_le6.mpr h)), c_11, (Int32.not_lt.mpr c_18)⟩).symm⟩, by rw [ht]; exact hP9, va_K.moved hW.alike hK, hD9⟩, hS.F ht⟩) hS.2.2 dX7_need_34
        ·
          refine lv_iconst (v := 0) hx hb dX7_need_21 (by decide) ?_
          have hP9 := hP.sub (ws' := [((x 0), .inr (7, [.ref (x 1), .ref (x 5), .ref (x 7), .ref (x 10), .ref (x 17), .ref (x 22), .ref (x 27), .int yr])), ((x 27), .inr (0, [.ref (x 28), .ref (x 29), .ref (x 30), .int (nI hn), .int h4, .int h5, .ref (x 31), .ref (x 32), .ref (x 33)])), ((x 28), .inl (cI, 6, .inl n28))]) [0, 1, 2] rfl
          have hD9 := hD.sub (ws' := [((x 0), .inr (7, [.ref (x 1), .ref (x 5), .ref (x 7), .ref (x 10), .ref (x 17), .ref (x 22), .ref (x 27), .int yr])), ((x 27), .inr (0, [.ref (x 28), .ref (x 29), .ref (x 30), .int (nI hn), .int h4, .int h5, .ref (x 31), .ref (x 32), .ref (x 33)])), ((x 28), .inl (cI, 6, .inl n28))]) [0, 1, 2] (by decide) rfl
          exact W.zret (v := 0) hx hb hr rfl (fun t ht hW => ⟨⟨_, n28, rfl, ⟨(if_neg (fun h => h.2.2.2 (Int32.not_le.mp c_18))).symm, (if_neg (fun h => h.2.2.2 (Int32.not_le.mp c_18))).symm⟩, by rw [ht]; exact hP9, va_K.moved hW.alike hK, hD9⟩, hS.F ht⟩) hS.2.2 dX7_need_22

set_option maxHeartbeats 4000000 in
set_option maxRecDepth 100000 in
theorem f_X7_owed (l : Launch) (D : va_G) (cB cI cJ cZ : ClassId) (sz : Nat) (x : Nat → Nat) (yr : Int32) (hn : Nat) (h4 : Int32) (h5 : Int32) (n28 : Nat → Int32) (n29 : Nat → Int32) (n30 : Nat → Int32) (n31 : Nat → Int32) (n32 : Nat → Int32) (n33 : Nat → Int32) (q k : Int32) (b_hn : hn ≤ 8) (hnd : ndP n28) (hlg : lgP n31 n32 hn) : Met l yX7_owed wsX7_owed ({ frames := 4, cells := 0, slots := 0, locals := 87 } : Room) (cPre D (aTy cB cI cJ cZ) [((x 0), .inr (7, [.ref (x 1), .ref (x 5), .ref (x 7), .ref (x 10), .ref (x 17), .ref (x 22), .ref (x 27), .int yr])), ((x 27), .inr (0, [.ref (x 28), .ref (x 29), .ref (x 30), .int (nI hn), .int h4, .int h5, .ref (x 31), .ref (x 32), .ref (x 33)])), ((x 28), .inl (cI, 6, .inl n28)), ((x 29), .inl (cI, 6, .inl n29)), ((x 30), .inl (cI, 8, .inl n30)), ((x 31), .inl (cI, 8, .inl n31)), ((x 32), .inl (cI, 8, .inl n32)), ((x 33), .inl (cI, 64, .inl n33))] sz [.ref (x 0), .int q, .int k]) (va_Qi (fun (r : Int32) (u : (Nat → Int32) × (Nat → Int32) × (Nat → Int32) × Int32 × Int32) => ocP n28 n31 n32 hn u.1 u.2.1 u.2.2.2.1 u.2.2.2.2 q k r) (cB_ D (aTy cB cI cJ cZ) (va_A [((x 0), .inr (7, [.ref (x 1), .ref (x 5), .ref (x 7), .ref (x 10), .ref (x 17), .ref (x 22), .ref (x 27), .int yr])), ((x 27), .inr (0, [.ref (x 28), .ref (x 29), .ref (x 30), .int (nI hn), .int h4, .int h5, .ref (x 31), .ref (x 32), .ref (x 33)])), ((x 28), .inl (cI, 6, .inl n28)), ((x 29), .inl (cI, 6, .inl n29)), ((x 30), .inl (cI, 8, .inl n30)), ((x 31), .inl (cI, 8, .inl n31)), ((x 32), .inl (cI, 8, .inl n32)), ((x 33), .inl (cI, 64, .inl n33))] sz) (fun u => [((x 0), .inr (7, [.ref (x 1), .ref (x 5), .ref (x 7), .ref (x 10), .ref (x 17), .ref (x 22), .ref (x 27), .int yr])), ((x 27), .inr (0, [.ref (x 28), .ref (x 29), .ref (x 30), .int (nI hn), .int (u.2.2.2.1), .int (u.2.2.2.2), .ref (x 31), .ref (x 32), .ref (x 33)])), ((x 28), .inl (cI, 6, .inl n28)), ((x 29), .inl (cI, 6, .inl u.1)), ((x 30), .inl (cI, 8, .inl u.2.1)), ((x 31), .inl (cI, 8, .inl n31)), ((x 32), .inl (cI, 8, .inl n32)), ((x 33), .inl (cI, 64, .inl u.2.2.1))])) (va_A [((x 0), .inr (7, [.ref (x 1), .ref (x 5), .ref (x 7), .ref (x 10), .ref (x 17), .ref (x 22), .ref (x 27), .int yr])), ((x 27), .inr (0, [.ref (x 28), .ref (x 29), .ref (x 30), .int (nI hn), .int h4, .int h5, .ref (x 31), .ref (x 32), .ref (x 33)])), ((x 28), .inl (cI, 6, .inl n28)), ((x 29), .inl (cI, 6, .inl n29)), ((x 30), .inl (cI, 8, .inl n30)), ((x 31), .inl (cI, 8, .inl n31)), ((x 32), .inl (cI, 8, .inl n32)), ((x 33), .inl (cI, 64, .inl n33))] sz)) 0 0 (va_A [((x 0), .inr (7, [.ref (x 1), .ref (x 5), .ref (x 7), .ref (x 10), .ref (x 17), .ref (x 22), .ref (x 27), .int yr])), ((x 27), .inr (0, [.ref (x 28), .ref (x 29), .ref (x 30), .int (nI hn), .int h4, .int h5, .ref (x 31), .ref (x 32), .ref (x 33)])), ((x 28), .inl (cI, 6, .inl n28)), ((x 29), .inl (cI, 6, .inl n29)), ((x 30), .inl (cI, 8, .inl n30)), ((x 31), .inl (cI, 8, .inl n31)), ((x 32), .inl (cI, 8, .inl n32)), ((x 33), .inl (cI, 64, .inl n33))] sz) := by
  refine Met.ofW (cc := cX7_owed) (maxL := 3) (ret := (some .int)) (by decide) rfl ?_
  intro p e s m args below meth c s₁ B hml hv
  obtain ⟨rfl, hsz, hP, hK, hD0⟩ := hv
  have hx := B.exec
  have hb := B.bytes
  have hr := B.returns
  have hts := atoms_spec (ws := wsX7_owed) B.pre
  have hown : s.vm.findClass RX7 = some m.cls := findClass_of_methodNamed B.named
  have hlocks := B.notSynchronized
  subst hsz
  have hD := hD0.self (sz := s.heap.size)
  generalize hAe : va_A [((x 0), .inr (7, [.ref (x 1), .ref (x 5), .ref (x 7), .ref (x 10), .ref (x 17), .ref (x 22), .ref (x 27), .int yr])), ((x 27), .inr (0, [.ref (x 28), .ref (x 29), .ref (x 30), .int (nI hn), .int h4, .int h5, .ref (x 31), .ref (x 32), .ref (x 33)])), ((x 28), .inl (cI, 6, .inl n28)), ((x 29), .inl (cI, 6, .inl n29)), ((x 30), .inl (cI, 8, .inl n30)), ((x 31), .inl (cI, 8, .inl n31)), ((x 32), .inl (cI, 8, .inl n32)), ((x 33), .inl (cI, 64, .inl n33))] s.heap.size = A at hD ⊢
  have hA : ∀ q : Nat, s.heap.size ≤ q → A q := fun q h => by rw [← hAe]; exact Or.inr h
  have hS : va_S A s.heap s.heap [] := va_S.rf
  have hP : va_P D vwCl [((x 0), .inr (7, [.ref (x 1), .ref (x 5), .ref (x 7), .ref (x 10), .ref (x 17), .ref (x 22), .ref (x 27), .int yr])), ((x 27), .inr (0, [.ref (x 28), .ref (x 29), .ref (x 30), .int (nI hn), .int h4, .int h5, .ref (x 31), .ref (x 32), .ref (x 33)])), ((x 28), .inl (cI, 6, .inl n28)), ((x 29), .inl (cI, 6, .inl n29)), ((x 30), .inl (cI, 8, .inl n30)), ((x 31), .inl (cI, 8, .inl n31)), ((x 32), .inl (cI, 8, .inl n32)), ((x 33), .inl (cI, 64, .inl n33))] s.heap := hP
  have w_1 : ∀ w ∈ wsX70, w ∈ wsX7_owed := by decide +kernel
  have w_2 := hts (Cond.fieldLink RX7 54 "BlueCoats" "chest" "LBlueCoats$Chest;") (by decide +kernel)
  have w_3 : ∀ w ∈ wsX00, w ∈ wsX7_owed := by decide +kernel
  have w_4 := hts (Cond.fieldLink RX7 219 "BlueCoats$Chest" "toEnd" "[I") (by decide +kernel)
  have w_5 := hts (Cond.fieldLink RX7 222 "BlueCoats$Chest" "number" "I") (by decide +kernel)
  have w_6 := hts (Cond.fieldLink RX7 223 "BlueCoats$Chest" "fromLegacy" "[I") (by decide +kernel)
  have w_7 := hts (Cond.fieldLink RX7 226 "BlueCoats$Chest" "shortfall" "I") (by decide +kernel)
  have w_8 := hts (Cond.fieldLink RX7 229 "BlueCoats$Chest" "proof" "I") (by decide +kernel)
  have hl := lv_entry ([.ref (x 0), .int q, .int k]) (n := 3) (Nat.le_of_ble_eq_true rfl)
  rw [lg_entry_eq]
  generalize (lg_sl ([.ref (x 0), .int q, .int k]) ++ List.replicate (3 - (lg_sl ([.ref (x 0), .int q, .int k])).length) Slot.unset).toArray = ls at hl ⊢
  have hl : lv_has ls 3 [(0, .ref (x 0)), (1, .int q), (2, .int k)] := hl
  refine lv_aload_n hx hb dX7_owed_0 rfl (lv_at hl 0 rfl) ?_
  refine va_get (D := D) (ci := 7) (v := .ref (x 27)) (C := RX7) (T := TX7) (N := 8) hx hb hts w_1 hown hK hP 0 rfl rfl 6 (by decide) w_2 (fun _ h9 => h9) rfl dX7_owed_1 ?_
  refine cl_v (wc := [((x 27), .inr (0, [.ref (x 28), .ref (x 29), .ref (x 30), .int (nI hn), .int h4, .int h5, .ref (x 31), .ref (x 32), .ref (x 33)])), ((x 28), .inl (cI, 6, .inl n28)), ((x 29), .inl (cI, 6, .inl n29)), ((x 30), .inl (cI, 8, .inl n30)), ((x 31), .inl (cI, 8, .inl n31)), ((x 32), .inl (cI, 8, .inl n32)), ((x 33), .inl (cI, 64, .inl n33))]) (wr := [((x 0), .inr (7, [.ref (x 1), .ref (x 5), .ref (x 7), .ref (x 10), .ref (x 17), .ref (x 22), .ref (x 27), .int yr]))]) (va_runV (As := []) (rest := []) ⟨hx, hb, hml, hown, hts⟩ (f_X0_plan l D cB cI cJ cZ s.heap.size (x 27) (x 28) (x 29) (x 30) (x 31) (x 32) (x 33) hn h4 h5 n28 n29 n30 n31 n32 n33 b_hn hnd hlg) (cwV 0 hts gX7_owed_X0_plan rfl rfl rfl (by decide +kernel) ⟨Nat.le_of_ble_eq_true rfl, Nat.le_of_ble_eq_true rfl⟩) (pre_V (hP.sub (ws' := [((x 27), .inr (0, [.ref (x 28), .ref (x 29), .ref (x 30), .int (nI hn), .int h4, .int h5, .ref (x 31), .ref (x 32), .ref (x 33)])), ((x 28), .inl (cI, 6, .inl n28)), ((x 29), .inl (cI, 6, .inl n29)), ((x 30), .inl (cI, 8, .inl n30)), ((x 31), .inl (cI, 8, .inl n31)), ((x 32), .inl (cI, 8, .inl n32)), ((x 33), .inl (cI, 64, .inl n33))]) [1, 2, 3, 4, 5, 6, 7] rfl) hK (hD.sub (ws' := [((x 27), .inr (0, [.ref (x 28), .ref (x 29), .ref (x 30), .int (nI hn), .int h4, .int h5, .ref (x 31), .ref (x 32), .ref (x 33)])), ((x 28), .inl (cI, 6, .inl n28)), ((x 29), .inl (cI, 6, .inl n29)), ((x 30), .inl (cI, 8, .inl n30)), ((x 31), .inl (cI, 8, .inl n31)), ((x 32), .inl (cI, 8, .inl n32)), ((x 33), .inl (cI, 64, .inl n33))]) [1, 2, 3, 4, 5, 6, 7] (by decide) rfl) 0 rfl rfl rfl) rfl rfl hl.1 rfl (lv_room (Nat.le_of_ble_eq_true rfl)) dX7_owed_4 ⟨Nat.le_of_ble_eq_true rfl, Nat.le_of_ble_eq_true rfl⟩) hP hD hS hA [1, 2, 3, 4, 5, 6, 7] [0] rfl rfl (by decide) (by decide) 0 0 rfl rfl (fun u_2 H locs hw_u_2 hP hD hS => ?_)
  have hP : va_P D vwCl [((x 0), .inr (7, [.ref (x 1), .ref (x 5), .ref (x 7), .ref (x 10), .ref (x 17), .ref (x 22), .ref (x 27), .int yr])), ((x 27), .inr (0, [.ref (x 28), .ref (x 29), .ref (x 30), .int (nI hn), .int u_2.2.2.2.1, .int u_2.2.2.2.2, .ref (x 31), .ref (x 32), .ref (x 33)])), ((x 28), .inl (cI, 6, .inl n28)), ((x 29), .inl (cI, 6, .inl u_2.1)), ((x 30), .inl (cI, 8, .inl u_2.2.1)), ((x 31), .inl (cI, 8, .inl n31)), ((x 32), .inl (cI, 8, .inl n32)), ((x 33), .inl (cI, 64, .inl u_2.2.2.1))] H := hP
  have hD : va_D A [((x 0), .inr (7, [.ref (x 1), .ref (x 5), .ref (x 7), .ref (x 10), .ref (x 17), .ref (x 22), .ref (x 27), .int yr])), ((x 27), .inr (0, [.ref (x 28), .ref (x 29), .ref (x 30), .int (nI hn), .int u_2.2.2.2.1, .int u_2.2.2.2.2, .ref (x 31), .ref (x 32), .ref (x 33)])), ((x 28), .inl (cI, 6, .inl n28)), ((x 29), .inl (cI, 6, .inl u_2.1)), ((x 30), .inl (cI, 8, .inl u_2.2.1)), ((x 31), .inl (cI, 8, .inl n31)), ((x 32), .inl (cI, 8, .inl n32)), ((x 33), .inl (cI, 64, .inl u_2.2.2.1))] := hD
  refine lv_iload_n hx hb dX7_owed_7 rfl (lv_at hl 1 rfl) ?_
  by_cases k_80 : q = 0
  ·
    subst k_80
    refine lv_tableIn (off := 32) (tgt := 40) hx hb dX7_owed_8 (by decide) (by decide) rfl (by decide) ?_
    refine lv_iload_n hx hb dX7_owed_40 rfl (lv_at hl 2 rfl) ?_
    refine lv_if_lt (tgt := 62) hx hb dX7_owed_41 (by decide) (fun c_41 => ?_) (fun c_41 => ?_)
    ·
      refine lv_iconst (v := (-1)) hx hb dX7_owed_62 (by decide) ?_
      have hP9 := hP.sub (ws' := [((x 0), .inr (7, [.ref (x 1), .ref (x 5), .ref (x 7), .ref (x 10), .ref (x 17), .ref (x 22), .ref (x 27), .int yr])), ((x 27), .inr (0, [.ref (x 28), .ref (x 29), .ref (x 30), .int (nI hn), .int u_2.2.2.2.1, .int u_2.2.2.2.2, .ref (x 31), .ref (x 32), .ref (x 33)])), ((x 28), .inl (cI, 6, .inl n28)), ((x 29), .inl (cI, 6, .inl u_2.1)), ((x 30), .inl (cI, 8, .inl u_2.2.1)), ((x 31), .inl (cI, 8, .inl n31)), ((x 32), .inl (cI, 8, .inl n32)), ((x 33), .inl (cI, 64, .inl u_2.2.2.1))]) [0, 1, 2, 3, 4, 5, 6, 7] rfl
      have hD9 := hD.sub (ws' := [((x 0), .inr (7, [.ref (x 1), .ref (x 5), .ref (x 7), .ref (x 10), .ref (x 17), .ref (x 22), .ref (x 27), .int yr])), ((x 27), .inr (0, [.ref (x 28), .ref (x 29), .ref (x 30), .int (nI hn), .int u_2.2.2.2.1, .int u_2.2.2.2.2, .ref (x 31), .ref (x 32), .ref (x 33)])), ((x 28), .inl (cI, 6, .inl n28)), ((x 29), .inl (cI, 6, .inl u_2.1)), ((x 30), .inl (cI, 8, .inl u_2.2.1)), ((x 31), .inl (cI, 8, .inl n31)), ((x 32), .inl (cI, 8, .inl n32)), ((x 33), .inl (cI, 64, .inl u_2.2.2.1))]) [0, 1, 2, 3, 4, 5, 6, 7] (by decide) rfl
      exact W.iret (v := (-1)) hx hb hr (fun t ht hW => ⟨⟨_, (u_2.1, u_2.2.1, u_2.2.2.1, (u_2.2.2.2.1 : Int32), (u_2.2.2.2.2 : Int32)), rfl, ⟨hw_u_2, Or.inr (Or.inr (Or.inr (Or.inr ⟨rfl, nq_0 rfl (in_no1 c_41)⟩)))⟩, by rw [ht]; exact hP9, va_K.moved hW.alike hK, hD9⟩, hS.F ht⟩) hS.2.2 dX7_owed_63
    ·
      refine lv_iload_n hx hb dX7_owed_44 rfl (lv_at hl 2 rfl) ?_
      refine lv_bipush (v := 6) hx hb dX7_owed_45 (by decide) ?_
      refine lv_icmp_ge (tgt := 62) hx hb dX7_owed_47 (by decide) (fun c_47 => ?_) (fun c_47 => ?_)
      ·
        refine lv_iconst (v := (-1)) hx hb dX7_owed_62 (by decide) ?_
        have hP9 := hP.sub (ws' := [((x 0), .inr (7, [.ref (x 1), .ref (x 5), .ref (x 7), .ref (x 10), .ref (x 17), .ref (x 22), .ref (x 27), .int yr])), ((x 27), .inr (0, [.ref (x 28), .ref (x 29), .ref (x 30), .int (nI hn), .int u_2.2.2.2.1, .int u_2.2.2.2.2, .ref (x 31), .ref (x 32), .ref (x 33)])), ((x 28), .inl (cI, 6, .inl n28)), ((x 29), .inl (cI, 6, .inl u_2.1)), ((x 30), .inl (cI, 8, .inl u_2.2.1)), ((x 31), .inl (cI, 8, .inl n31)), ((x 32), .inl (cI, 8, .inl n32)), ((x 33), .inl (cI, 64, .inl u_2.2.2.1))]) [0, 1, 2, 3, 4, 5, 6, 7] rfl
        have hD9 := hD.sub (ws' := [((x 0), .inr (7, [.ref (x 1), .ref (x 5), .ref (x 7), .ref (x 10), .ref (x 17), .ref (x 22), .ref (x 27), .int yr])), ((x 27), .inr (0, [.ref (x 28), .ref (x 29), .ref (x 30), .int (nI hn), .int u_2.2.2.2.1, .int u_2.2.2.2.2, .ref (x 31), .ref (x 32), .ref (x 33)])), ((x 28), .inl (cI, 6, .inl n28)), ((x 29), .inl (cI, 6, .inl u_2.1)), ((x 30), .inl (cI, 8, .inl u_2.2.1)), ((x 31), .inl (cI, 8, .inl n31)), ((x 32), .inl (cI, 8, .inl n32)), ((x 33), .inl (cI, 64, .inl u_2.2.2.1))]) [0, 1, 2, 3, 4, 5, 6, 7] (by decide) rfl
        exact W.iret (v := (-1)) hx hb hr (fun t ht hW => ⟨⟨_, (u_2.1, u_2.2.1, u_2.2.2.1, (u_2.2.2.2.1 : Int32), (u_2.2.2.2.2 : Int32)), rfl, ⟨hw_u_2, Or.inr (Or.inr (Or.inr (Or.inr ⟨rfl, nq_0 rfl (in_no2 (a := 6) (by decide) c_47)⟩)))⟩, by rw [ht]; exact hP9, va_K.moved hW.alike hK, hD9⟩, hS.F ht⟩) hS.2.2 dX7_owed_63
      ·
        refine lv_aload_n hx hb dX7_owed_50 rfl (lv_at hl 0 rfl) ?_
        refine va_get (D := D) (ci := 7) (v := .ref (x 27)) (C := RX7) (T := TX7) (N := 8) hx hb hts w_1 hown hK hP 0 rfl rfl 6 (by decide) w_2 (fun _ h9 => h9) rfl dX7_owed_51 ?_
        refine va_get (D := D) (ci := 0) (v := .ref (x 29)) (C := RX0) (T := TX0) (N := 9) hx hb hts w_3 hown hK hP 1 rfl rfl 1 (by decide) w_4 (fun _ h9 => h9) rfl dX7_owed_54 ?_
        refine lv_iload_n hx hb dX7_owed_57 rfl (lv_at hl 2 rfl) ?_
        refine sv_iald (v := u_2.1 k.toNatClampNeg) hx hb hK hP 3 1 rfl rfl (i_in6 c_41 c_47) rfl dX7_owed_58 ?_
        refine lv_goto (tgt := 63) hx hb dX7_owed_59 (by decide) ?_
        have hP9 := hP.sub (ws' := [((x 0), .inr (7, [.ref (x 1), .ref (x 5), .ref (x 7), .ref (x 10), .ref (x 17), .ref (x 22), .ref (x 27), .int yr])), ((x 27), .inr (0, [.ref (x 28), .ref (x 29), .ref (x 30), .int (nI hn), .int u_2.2.2.2.1, .int u_2.2.2.2.2, .ref (x 31), .ref (x 32), .ref (x 33)])), ((x 28), .inl (cI, 6, .inl n28)), ((x 29), .inl (cI, 6, .inl u_2.1)), ((x 30), .inl (cI, 8, .inl u_2.2.1)), ((x 31), .inl (cI, 8, .inl n31)), ((x 32), .inl (cI, 8, .inl n32)), ((x 33), .inl (cI, 64, .inl u_2.2.2.1))]) [0, 1, 2, 3, 4, 5, 6, 7] rfl
        have hD9 := hD.sub (ws' := [((x 0), .inr (7, [.ref (x 1), .ref (x 5), .ref (x 7), .ref (x 10), .ref (x 17), .ref (x 22), .ref (x 27), .int yr])), ((x 27), .inr (0, [.ref (x 28), .ref (x 29), .ref (x 30), .int (nI hn), .int u_2.2.2.2.1, .int u_2.2.2.2.2, .ref (x 31), .ref (x 32), .ref (x 33)])), ((x 28), .inl (cI, 6, .inl n28)), ((x 29), .inl (cI, 6, .inl u_2.1)), ((x 30), .inl (cI, 8, .inl u_2.2.1)), ((x 31), .inl (cI, 8, .inl n31)), ((x 32), .inl (cI, 8, .inl n32)), ((x 33), .inl (cI, 64, .inl u_2.2.2.1))]) [0, 1, 2, 3, 4, 5, 6, 7] (by decide) rfl
        exact W.iret (v := u_2.1 k.toNatClampNeg) hx hb hr (fun t ht hW => ⟨⟨_, (u_2.1, u_2.2.1, u_2.2.2.1, (u_2.2.2.2.1 : Int32), (u_2.2.2.2.2 : Int32)), rfl, ⟨hw_u_2, Or.inl ⟨rfl, i_in6 c_41 c_47, rfl⟩⟩, by rw [ht]; exact hP9, va_K.moved hW.alike hK, hD9⟩, hS.F ht⟩) hS.2.2 dX7_owed_63
  by_cases k_81 : q = 1
  ·
    subst k_81
    refine lv_tableIn (off := 56) (tgt := 64) hx hb dX7_owed_8 (by decide) (by decide) rfl (by decide) ?_
    refine lv_iload_n hx hb dX7_owed_64 rfl (lv_at hl 2 rfl) ?_
    refine lv_if_lt (tgt := 91) hx hb dX7_owed_65 (by decide) (fun c_65 => ?_) (fun c_65 => ?_)
    ·
      refine lv_iconst (v := (-1)) hx hb dX7_owed_91 (by decide) ?_
      have hP9 := hP.sub (ws' := [((x 0), .inr (7, [.ref (x 1), .ref (x 5), .ref (x 7), .ref (x 10), .ref (x 17), .ref (x 22), .ref (x 27), .int yr])), ((x 27), .inr (0, [.ref (x 28), .ref (x 29), .ref (x 30), .int (nI hn), .int u_2.2.2.2.1, .int u_2.2.2.2.2, .ref (x 31), .ref (x 32), .ref (x 33)])), ((x 28), .inl (cI, 6, .inl n28)), ((x 29), .inl (cI, 6, .inl u_2.1)), ((x 30), .inl (cI, 8, .inl u_2.2.1)), ((x 31), .inl (cI, 8, .inl n31)), ((x 32), .inl (cI, 8, .inl n32)), ((x 33), .inl (cI, 64, .inl u_2.2.2.1))]) [0, 1, 2, 3, 4, 5, 6, 7] rfl
      have hD9 := hD.sub (ws' := [((x 0), .inr (7, [.ref (x 1), .ref (x 5), .ref (x 7), .ref (x 10), .ref (x 17), .ref (x 22), .ref (x 27), .int yr])), ((x 27), .inr (0, [.ref (x 28), .ref (x 29), .ref (x 30), .int (nI hn), .int u_2.2.2.2.1, .int u_2.2.2.2.2, .ref (x 31), .ref (x 32), .ref (x 33)])), ((x 28), .inl (cI, 6, .inl n28)), ((x 29), .inl (cI, 6, .inl u_2.1)), ((x 30), .inl (cI, 8, .inl u_2.2.1)), ((x 31), .inl (cI, 8, .inl n31)), ((x 32), .inl (cI, 8, .inl n32)), ((x 33), .inl (cI, 64, .inl u_2.2.2.1))]) [0, 1, 2, 3, 4, 5, 6, 7] (by decide) rfl
      exact W.iret (v := (-1)) hx hb hr (fun t ht hW => ⟨⟨_, (u_2.1, u_2.2.1, u_2.2.2.1, (u_2.2.2.2.1 : Int32), (u_2.2.2.2.2 : Int32)), rfl, ⟨hw_u_2, Or.inr (Or.inr (Or.inr (Or.inr ⟨rfl, nq_1 rfl (in_no1 c_65)⟩)))⟩, by rw [ht]; exact hP9, va_K.moved hW.alike hK, hD9⟩, hS.F ht⟩) hS.2.2 dX7_owed_92
    ·
      refine lv_iload_n hx hb dX7_owed_68 rfl (lv_at hl 2 rfl) ?_
      refine lv_aload_n hx hb dX7_owed_69 rfl (lv_at hl 0 rfl) ?_
      refine va_get (D := D) (ci := 7) (v := .ref (x 27)) (C := RX7) (T := TX7) (N := 8) hx hb hts w_1 hown hK hP 0 rfl rfl 6 (by decide) w_2 (fun _ h9 => h9) rfl dX7_owed_70 ?_
      refine va_get (D := D) (ci := 0) (v := .int (nI hn)) (C := RX0) (T := TX0) (N := 9) hx hb hts w_3 hown hK hP 1 rfl rfl 3 (by decide) w_5 (fun _ h9 => h9) rfl dX7_owed_73 ?_
      refine lv_icmp_ge (tgt := 91) hx hb dX7_owed_76 (by decide) (fun c_76 => ?_) (fun c_76 => ?_)
      ·
        refine lv_iconst (v := (-1)) hx hb dX7_owed_91 (by decide) ?_
        have hP9 := hP.sub (ws' := [((x 0), .inr (7, [.ref (x 1), .ref (x 5), .ref (x 7), .ref (x 10), .ref (x 17), .ref (x 22), .ref (x 27), .int yr])), ((x 27), .inr (0, [.ref (x 28), .ref (x 29), .ref (x 30), .int (nI hn), .int u_2.2.2.2.1, .int u_2.2.2.2.2, .ref (x 31), .ref (x 32), .ref (x 33)])), ((x 28), .inl (cI, 6, .inl n28)), ((x 29), .inl (cI, 6, .inl u_2.1)), ((x 30), .inl (cI, 8, .inl u_2.2.1)), ((x 31), .inl (cI, 8, .inl n31)), ((x 32), .inl (cI, 8, .inl n32)), ((x 33), .inl (cI, 64, .inl u_2.2.2.1))]) [0, 1, 2, 3, 4, 5, 6, 7] rfl
        have hD9 := hD.sub (ws' := [((x 0), .inr (7, [.ref (x 1), .ref (x 5), .ref (x 7), .ref (x 10), .ref (x 17), .ref (x 22), .ref (x 27), .int yr])), ((x 27), .inr (0, [.ref (x 28), .ref (x 29), .ref (x 30), .int (nI hn), .int u_2.2.2.2.1, .int u_2.2.2.2.2, .ref (x 31), .ref (x 32), .ref (x 33)])), ((x 28), .inl (cI, 6, .inl n28)), ((x 29), .inl (cI, 6, .inl u_2.1)), ((x 30), .inl (cI, 8, .inl u_2.2.1)), ((x 31), .inl (cI, 8, .inl n31)), ((x 32), .inl (cI, 8, .inl n32)), ((x 33), .inl (cI, 64, .inl u_2.2.2.1))]) [0, 1, 2, 3, 4, 5, 6, 7] (by decide) rfl
        exact W.iret (v := (-1)) hx hb hr (fun t ht hW => ⟨⟨_, (u_2.1, u_2.2.1, u_2.2.2.1, (u_2.2.2.2.1 : Int32), (u_2.2.2.2.2 : Int32)), rfl, ⟨hw_u_2, Or.inr (Or.inr (Or.inr (Or.inr ⟨rfl, nq_1 rfl (in_no2 (by omega) c_76)⟩)))⟩, by rw [ht]; exact hP9, va_K.moved hW.alike hK, hD9⟩, hS.F ht⟩) hS.2.2 dX7_owed_92
      ·
        refine lv_aload_n hx hb dX7_owed_79 rfl (lv_at hl 0 rfl) ?_
        refine va_get (D := D) (ci := 7) (v := .ref (x 27)) (C := RX7) (T := TX7) (N := 8) hx hb hts w_1 hown hK hP 0 rfl rfl 6 (by decide) w_2 (fun _ h9 => h9) rfl dX7_owed_80 ?_
        refine va_get (D := D) (ci := 0) (v := .ref (x 30)) (C := RX0) (T := TX0) (N := 9) hx hb hts w_3 hown hK hP 1 rfl rfl 2 (by decide) w_6 (fun _ h9 => h9) rfl dX7_owed_83 ?_
        refine lv_iload_n hx hb dX7_owed_86 rfl (lv_at hl 2 rfl) ?_
        refine sv_iald (v := u_2.2.1 k.toNatClampNeg) hx hb hK hP 4 1 rfl rfl (in_up (in_yes (a := hn) (by omega) c_65 c_76) b_hn) rfl dX7_owed_87 ?_
        refine lv_goto (tgt := 92) hx hb dX7_owed_88 (by decide) ?_
        have hP9 := hP.sub (ws' := [((x 0), .inr (7, [.ref (x 1), .ref (x 5), .ref (x 7), .ref (x 10), .ref (x 17), .ref (x 22), .ref (x 27), .int yr])), ((x 27), .inr (0, [.ref (x 28), .ref (x 29), .ref (x 30), .int (nI hn), .int u_2.2.2.2.1, .int u_2.2.2.2.2, .ref (x 31), .ref (x 32), .ref (x 33)])), ((x 28), .inl (cI, 6, .inl n28)), ((x 29), .inl (cI, 6, .inl u_2.1)), ((x 30), .inl (cI, 8, .inl u_2.2.1)), ((x 31), .inl (cI, 8, .inl n31)), ((x 32), .inl (cI, 8, .inl n32)), ((x 33), .inl (cI, 64, .inl u_2.2.2.1))]) [0, 1, 2, 3, 4, 5, 6, 7] rfl
        have hD9 := hD.sub (ws' := [((x 0), .inr (7, [.ref (x 1), .ref (x 5), .ref (x 7), .ref (x 10), .ref (x 17), .ref (x 22), .ref (x 27), .int yr])), ((x 27), .inr (0, [.ref (x 28), .ref (x 29), .ref (x 30), .int (nI hn), .int u_2.2.2.2.1, .int u_2.2.2.2.2, .ref (x 31), .ref (x 32), .ref (x 33)])), ((x 28), .inl (cI, 6, .inl n28)), ((x 29), .inl (cI, 6, .inl u_2.1)), ((x 30), .inl (cI, 8, .inl u_2.2.1)), ((x 31), .inl (cI, 8, .inl n31)), ((x 32), .inl (cI, 8, .inl n32)), ((x 33), .inl (cI, 64, .inl u_2.2.2.1))]) [0, 1, 2, 3, 4, 5, 6, 7] (by decide) rfl
        exact W.iret (v := u_2.2.1 k.toNatClampNeg) hx hb hr (fun t ht hW => ⟨⟨_, (u_2.1, u_2.2.1, u_2.2.2.1, (u_2.2.2.2.1 : Int32), (u_2.2.2.2.2 : Int32)), rfl, ⟨hw_u_2, Or.inr (Or.inl ⟨rfl, in_yes (a := hn) (by omega) c_65 c_76, rfl⟩)⟩, by rw [ht]; exact hP9, va_K.moved hW.alike hK, hD9⟩, hS.F ht⟩) hS.2.2 dX7_owed_92
  by_cases k_82 : q = 2
  ·
    subst k_82
    refine lv_tableIn (off := 85) (tgt := 93) hx hb dX7_owed_8 (by decide) (by decide) rfl (by decide) ?_
    refine lv_aload_n hx hb dX7_owed_93 rfl (lv_at hl 0 rfl) ?_
    refine va_get (D := D) (ci := 7) (v := .ref (x 27)) (C := RX7) (T := TX7) (N := 8) hx hb hts w_1 hown hK hP 0 rfl rfl 6 (by decide) w_2 (fun _ h9 => h9) rfl dX7_owed_94 ?_
    refine va_get (D := D) (ci := 0) (v := .int u_2.2.2.2.1) (C := RX0) (T := TX0) (N := 9) hx hb hts w_3 hown hK hP 1 rfl rfl 4 (by decide) w_7 (fun _ h9 => h9) rfl dX7_owed_97 ?_
    have hP9 := hP.sub (ws' := [((x 0), .inr (7, [.ref (x 1), .ref (x 5), .ref (x 7), .ref (x 10), .ref (x 17), .ref (x 22), .ref (x 27), .int yr])), ((x 27), .inr (0, [.ref (x 28), .ref (x 29), .ref (x 30), .int (nI hn), .int u_2.2.2.2.1, .int u_2.2.2.2.2, .ref (x 31), .ref (x 32), .ref (x 33)])), ((x 28), .inl (cI, 6, .inl n28)), ((x 29), .inl (cI, 6, .inl u_2.1)), ((x 30), .inl (cI, 8, .inl u_2.2.1)), ((x 31), .inl (cI, 8, .inl n31)), ((x 32), .inl (cI, 8, .inl n32)), ((x 33), .inl (cI, 64, .inl u_2.2.2.1))]) [0, 1, 2, 3, 4, 5, 6, 7] rfl
    have hD9 := hD.sub (ws' := [((x 0), .inr (7, [.ref (x 1), .ref (x 5), .ref (x 7), .ref (x 10), .ref (x 17), .ref (x 22), .ref (x 27), .int yr])), ((x 27), .inr (0, [.ref (x 28), .ref (x 29), .ref (x 30), .int (nI hn), .int u_2.2.2.2.1, .int u_2.2.2.2.2, .ref (x 31), .ref (x 32), .ref (x 33)])), ((x 28), .inl (cI, 6, .inl n28)), ((x 29), .inl (cI, 6, .inl u_2.1)), ((x 30), .inl (cI, 8, .inl u_2.2.1)), ((x 31), .inl (cI, 8, .inl n31)), ((x 32), .inl (cI, 8, .inl n32)), ((x 33), .inl (cI, 64, .inl u_2.2.2.1))]) [0, 1, 2, 3, 4, 5, 6, 7] (by decide) rfl
    exact W.iret (v := u_2.2.2.2.1) hx hb hr (fun t ht hW => ⟨⟨_, (u_2.1, u_2.2.1, u_2.2.2.1, (u_2.2.2.2.1 : Int32), (u_2.2.2.2.2 : Int32)), rfl, ⟨hw_u_2, Or.inr (Or.inr (Or.inl ⟨rfl, rfl⟩))⟩, by rw [ht]; exact hP9, va_K.moved hW.alike hK, hD9⟩, hS.F ht⟩) hS.2.2 dX7_owed_100
  by_cases k_83 : q = 3
  ·
    subst k_83
    refine lv_tableIn (off := 93) (tgt := 101) hx hb dX7_owed_8 (by decide) (by decide) rfl (by decide) ?_
    refine lv_aload_n hx hb dX7_owed_101 rfl (lv_at hl 0 rfl) ?_
    refine va_get (D := D) (ci := 7) (v := .ref (x 27)) (C := RX7) (T := TX7) (N := 8) hx hb hts w_1 hown hK hP 0 rfl rfl 6 (by decide) w_2 (fun _ h9 => h9) rfl dX7_owed_102 ?_
    refine va_get (D := D) (ci := 0) (v := .int u_2.2.2.2.2) (C := RX0) (T := TX0) (N := 9) hx hb hts w_3 hown hK hP 1 rfl rfl 5 (by decide) w_8 (fun _ h9 => h9) rfl dX7_owed_105 ?_
    have hP9 := hP.sub (ws' := [((x 0), .inr (7, [.ref (x 1), .ref (x 5), .ref (x 7), .ref (x 10), .ref (x 17), .ref (x 22), .ref (x 27), .int yr])), ((x 27), .inr (0, [.ref (x 28), .ref (x 29), .ref (x 30), .int (nI hn), .int u_2.2.2.2.1, .int u_2.2.2.2.2, .ref (x 31), .ref (x 32), .ref (x 33)])), ((x 28), .inl (cI, 6, .inl n28)), ((x 29), .inl (cI, 6, .inl u_2.1)), ((x 30), .inl (cI, 8, .inl u_2.2.1)), ((x 31), .inl (cI, 8, .inl n31)), ((x 32), .inl (cI, 8, .inl n32)), ((x 33), .inl (cI, 64, .inl u_2.2.2.1))]) [0, 1, 2, 3, 4, 5, 6, 7] rfl
    have hD9 := hD.sub (ws' := [((x 0), .inr (7, [.ref (x 1), .ref (x 5), .ref (x 7), .ref (x 10), .ref (x 17), .ref (x 22), .ref (x 27), .int yr])), ((x 27), .inr (0, [.ref (x 28), .ref (x 29), .ref (x 30), .int (nI hn), .int u_2.2.2.2.1, .int u_2.2.2.2.2, .ref (x 31), .ref (x 32), .ref (x 33)])), ((x 28), .inl (cI, 6, .inl n28)), ((x 29), .inl (cI, 6, .inl u_2.1)), ((x 30), .inl (cI, 8, .inl u_2.2.1)), ((x 31), .inl (cI, 8, .inl n31)), ((x 32), .inl (cI, 8, .inl n32)), ((x 33), .inl (cI, 64, .inl u_2.2.2.1))]) [0, 1, 2, 3, 4, 5, 6, 7] (by decide) rfl
    exact W.iret (v := u_2.2.2.2.2) hx hb hr (fun t ht hW => ⟨⟨_, (u_2.1, u_2.2.1, u_2.2.2.1, (u_2.2.2.2.1 : Int32), (u_2.2.2.2.2 : Int32)), rfl, ⟨hw_u_2, Or.inr (Or.inr (Or.inr (Or.inl ⟨rfl, rfl⟩)))⟩, by rw [ht]; exact hP9, va_K.moved hW.alike hK, hD9⟩, hS.F ht⟩) hS.2.2 dX7_owed_108
  refine lv_tableOut (tgt := 109) hx hb dX7_owed_8 (sw_out4 k_80 k_81 k_82 k_83) (by decide) ?_
  refine lv_iconst (v := (-1)) hx hb dX7_owed_109 (by decide) ?_
  have hP9 := hP.sub (ws' := [((x 0), .inr (7, [.ref (x 1), .ref (x 5), .ref (x 7), .ref (x 10), .ref (x 17), .ref (x 22), .ref (x 27), .int yr])), ((x 27), .inr (0, [.ref (x 28), .ref (x 29), .ref (x 30), .int (nI hn), .int u_2.2.2.2.1, .int u_2.2.2.2.2, .ref (x 31), .ref (x 32), .ref (x 33)])), ((x 28), .inl (cI, 6, .inl n28)), ((x 29), .inl (cI, 6, .inl u_2.1)), ((x 30), .inl (cI, 8, .inl u_2.2.1)), ((x 31), .inl (cI, 8, .inl n31)), ((x 32), .inl (cI, 8, .inl n32)), ((x 33), .inl (cI, 64, .inl u_2.2.2.1))]) [0, 1, 2, 3, 4, 5, 6, 7] rfl
  have hD9 := hD.sub (ws' := [((x 0), .inr (7, [.ref (x 1), .ref (x 5), .ref (x 7), .ref (x 10), .ref (x 17), .ref (x 22), .ref (x 27), .int yr])), ((x 27), .inr (0, [.ref (x 28), .ref (x 29), .ref (x 30), .int (nI hn), .int u_2.2.2.2.1, .int u_2.2.2.2.2, .ref (x 31), .ref (x 32), .ref (x 33)])), ((x 28), .inl (cI, 6, .inl n28)), ((x 29), .inl (cI, 6, .inl u_2.1)), ((x 30), .inl (cI, 8, .inl u_2.2.1)), ((x 31), .inl (cI, 8, .inl n31)), ((x 32), .inl (cI, 8, .inl n32)), ((x 33), .inl (cI, 64, .inl u_2.2.2.1))]) [0, 1, 2, 3, 4, 5, 6, 7] (by decide) rfl
  exact W.iret (v := (-1)) hx hb hr (fun t ht hW => ⟨⟨_, (u_2.1, u_2.2.1, u_2.2.2.1, (u_2.2.2.2.1 : Int32), (u_2.2.2.2.2 : Int32)), rfl, ⟨hw_u_2, Or.inr (Or.inr (Or.inr (Or.inr ⟨rfl, nq_o k_80 k_81 k_82 k_83⟩)))⟩, by rw [ht]; exact hP9, va_K.moved hW.alike hK, hD9⟩, hS.F ht⟩) hS.2.2 dX7_owed_110

set_option maxHeartbeats 4000000 in
set_option maxRecDepth 100000 in
theorem f_X7_pay (l : Launch) (D : va_G) (cB cI cJ cZ : ClassId) (sz : Nat) (x : Nat → Nat) (yr : Int32) (hn : Nat) (h4 : Int32) (h5 : Int32) (n28 : Nat → Int32) (n29 : Nat → Int32) (n30 : Nat → Int32) (n31 : Nat → Int32) (n32 : Nat → Int32) (n33 : Nat → Int32) (b_hn : hn ≤ 8) (hnd : ndP n28) (hlg : lgP n31 n32 hn) : Met l yX7_pay wsX7_pay ({ frames := 4, cells := 0, slots := 0, locals := 87 } : Room) (cPre D (aTy cB cI cJ cZ) [((x 0), .inr (7, [.ref (x 1), .ref (x 5), .ref (x 7), .ref (x 10), .ref (x 17), .ref (x 22), .ref (x 27), .int yr])), ((x 27), .inr (0, [.ref (x 28), .ref (x 29), .ref (x 30), .int (nI hn), .int h4, .int h5, .ref (x 31), .ref (x 32), .ref (x 33)])), ((x 28), .inl (cI, 6, .inl n28)), ((x 29), .inl (cI, 6, .inl n29)), ((x 30), .inl (cI, 8, .inl n30)), ((x 31), .inl (cI, 8, .inl n31)), ((x 32), .inl (cI, 8, .inl n32)), ((x 33), .inl (cI, 64, .inl n33))] sz [.ref (x 0)]) (va_Qi (fun (r : Int32) (u : (Nat → Int32) × (Nat → Int32) × (Nat → Int32) × (Nat → Int32) × (Nat → Int32) × Int32 × Int32) => pcP n28 n31 n32 hn u.2.1 u.2.2.1 u.1 u.2.2.2.1 r) (cB_ D (aTy cB cI cJ cZ) (va_A [((x 0), .inr (7, [.ref (x 1), .ref (x 5), .ref (x 7), .ref (x 10), .ref (x 17), .ref (x 22), .ref (x 27), .int yr])), ((x 27), .inr (0, [.ref (x 28), .ref (x 29), .ref (x 30), .int (nI hn), .int h4, .int h5, .ref (x 31), .ref (x 32), .ref (x 33)])), ((x 28), .inl (cI, 6, .inl n28)), ((x 29), .inl (cI, 6, .inl n29)), ((x 30), .inl (cI, 8, .inl n30)), ((x 31), .inl (cI, 8, .inl n31)), ((x 32), .inl (cI, 8, .inl n32)), ((x 33), .inl (cI, 64, .inl n33))] sz) (fun u => [((x 0), .inr (7, [.ref (x 1), .ref (x 5), .ref (x 7), .ref (x 10), .ref (x 17), .ref (x 22), .ref (x 27), .int yr])), ((x 27), .inr (0, [.ref (x 28), .ref (x 29), .ref (x 30), .int (nI hn), .int (u.2.2.2.2.2.1), .int (u.2.2.2.2.2.2), .ref (x 31), .ref (x 32), .ref (x 33)])), ((x 28), .inl (cI, 6, .inl u.1)), ((x 29), .inl (cI, 6, .inl u.2.1)), ((x 30), .inl (cI, 8, .inl u.2.2.1)), ((x 31), .inl (cI, 8, .inl u.2.2.2.1)), ((x 32), .inl (cI, 8, .inl n32)), ((x 33), .inl (cI, 64, .inl u.2.2.2.2.1))])) (va_A [((x 0), .inr (7, [.ref (x 1), .ref (x 5), .ref (x 7), .ref (x 10), .ref (x 17), .ref (x 22), .ref (x 27), .int yr])), ((x 27), .inr (0, [.ref (x 28), .ref (x 29), .ref (x 30), .int (nI hn), .int h4, .int h5, .ref (x 31), .ref (x 32), .ref (x 33)])), ((x 28), .inl (cI, 6, .inl n28)), ((x 29), .inl (cI, 6, .inl n29)), ((x 30), .inl (cI, 8, .inl n30)), ((x 31), .inl (cI, 8, .inl n31)), ((x 32), .inl (cI, 8, .inl n32)), ((x 33), .inl (cI, 64, .inl n33))] sz)) 0 0 (va_A [((x 0), .inr (7, [.ref (x 1), .ref (x 5), .ref (x 7), .ref (x 10), .ref (x 17), .ref (x 22), .ref (x 27), .int yr])), ((x 27), .inr (0, [.ref (x 28), .ref (x 29), .ref (x 30), .int (nI hn), .int h4, .int h5, .ref (x 31), .ref (x 32), .ref (x 33)])), ((x 28), .inl (cI, 6, .inl n28)), ((x 29), .inl (cI, 6, .inl n29)), ((x 30), .inl (cI, 8, .inl n30)), ((x 31), .inl (cI, 8, .inl n31)), ((x 32), .inl (cI, 8, .inl n32)), ((x 33), .inl (cI, 64, .inl n33))] sz) := by
  refine Met.ofW (cc := cX7_pay) (maxL := 1) (ret := (some .int)) (by decide) rfl ?_
  intro p e s m args below meth c s₁ B hml hv
  obtain ⟨rfl, hsz, hP, hK, hD0⟩ := hv
  have hx := B.exec
  have hb := B.bytes
  have hr := B.returns
  have hts := atoms_spec (ws := wsX7_pay) B.pre
  have hown : s.vm.findClass RX7 = some m.cls := findClass_of_methodNamed B.named
  have hlocks := B.notSynchronized
  subst hsz
  have hD := hD0.self (sz := s.heap.size)
  generalize hAe : va_A [((x 0), .inr (7, [.ref (x 1), .ref (x 5), .ref (x 7), .ref (x 10), .ref (x 17), .ref (x 22), .ref (x 27), .int yr])), ((x 27), .inr (0, [.ref (x 28), .ref (x 29), .ref (x 30), .int (nI hn), .int h4, .int h5, .ref (x 31), .ref (x 32), .ref (x 33)])), ((x 28), .inl (cI, 6, .inl n28)), ((x 29), .inl (cI, 6, .inl n29)), ((x 30), .inl (cI, 8, .inl n30)), ((x 31), .inl (cI, 8, .inl n31)), ((x 32), .inl (cI, 8, .inl n32)), ((x 33), .inl (cI, 64, .inl n33))] s.heap.size = A at hD ⊢
  have hA : ∀ q : Nat, s.heap.size ≤ q → A q := fun q h => by rw [← hAe]; exact Or.inr h
  have hS : va_S A s.heap s.heap [] := va_S.rf
  have hP : va_P D vwCl [((x 0), .inr (7, [.ref (x 1), .ref (x 5), .ref (x 7), .ref (x 10), .ref (x 17), .ref (x 22), .ref (x 27), .int yr])), ((x 27), .inr (0, [.ref (x 28), .ref (x 29), .ref (x 30), .int (nI hn), .int h4, .int h5, .ref (x 31), .ref (x 32), .ref (x 33)])), ((x 28), .inl (cI, 6, .inl n28)), ((x 29), .inl (cI, 6, .inl n29)), ((x 30), .inl (cI, 8, .inl n30)), ((x 31), .inl (cI, 8, .inl n31)), ((x 32), .inl (cI, 8, .inl n32)), ((x 33), .inl (cI, 64, .inl n33))] s.heap := hP
  have w_1 : ∀ w ∈ wsX70, w ∈ wsX7_pay := by decide +kernel
  have w_2 := hts (Cond.fieldLink RX7 54 "BlueCoats" "chest" "LBlueCoats$Chest;") (by decide +kernel)
  have hl := lv_entry ([.ref (x 0)]) (n := 1) (Nat.le_of_ble_eq_true rfl)
  rw [lg_entry_eq]
  generalize (lg_sl ([.ref (x 0)]) ++ List.replicate (1 - (lg_sl ([.ref (x 0)])).length) Slot.unset).toArray = ls at hl ⊢
  have hl : lv_has ls 1 [(0, .ref (x 0))] := hl
  refine lv_aload_n hx hb dX7_pay_0 rfl (lv_at hl 0 rfl) ?_
  refine va_get (D := D) (ci := 7) (v := .ref (x 27)) (C := RX7) (T := TX7) (N := 8) hx hb hts w_1 hown hK hP 0 rfl rfl 6 (by decide) w_2 (fun _ h9 => h9) rfl dX7_pay_1 ?_
  refine cl_v (wc := [((x 27), .inr (0, [.ref (x 28), .ref (x 29), .ref (x 30), .int (nI hn), .int h4, .int h5, .ref (x 31), .ref (x 32), .ref (x 33)])), ((x 28), .inl (cI, 6, .inl n28)), ((x 29), .inl (cI, 6, .inl n29)), ((x 30), .inl (cI, 8, .inl n30)), ((x 31), .inl (cI, 8, .inl n31)), ((x 32), .inl (cI, 8, .inl n32)), ((x 33), .inl (cI, 64, .inl n33))]) (wr := [((x 0), .inr (7, [.ref (x 1), .ref (x 5), .ref (x 7), .ref (x 10), .ref (x 17), .ref (x 22), .ref (x 27), .int yr]))]) (va_runV (As := []) (rest := []) ⟨hx, hb, hml, hown, hts⟩ (f_X0_plan l D cB cI cJ cZ s.heap.size (x 27) (x 28) (x 29) (x 30) (x 31) (x 32) (x 33) hn h4 h5 n28 n29 n30 n31 n32 n33 b_hn hnd hlg) (cwV 0 hts gX7_pay_X0_plan rfl rfl rfl (by decide +kernel) ⟨Nat.le_of_ble_eq_true rfl, Nat.le_of_ble_eq_true rfl⟩) (pre_V (hP.sub (ws' := [((x 27), .inr (0, [.ref (x 28), .ref (x 29), .ref (x 30), .int (nI hn), .int h4, .int h5, .ref (x 31), .ref (x 32), .ref (x 33)])), ((x 28), .inl (cI, 6, .inl n28)), ((x 29), .inl (cI, 6, .inl n29)), ((x 30), .inl (cI, 8, .inl n30)), ((x 31), .inl (cI, 8, .inl n31)), ((x 32), .inl (cI, 8, .inl n32)), ((x 33), .inl (cI, 64, .inl n33))]) [1, 2, 3, 4, 5, 6, 7] rfl) hK (hD.sub (ws' := [((x 27), .inr (0, [.ref (x 28), .ref (x 29), .ref (x 30), .int (nI hn), .int h4, .int h5, .ref (x 31), .ref (x 32), .ref (x 33)])), ((x 28), .inl (cI, 6, .inl n28)), ((x 29), .inl (cI, 6, .inl n29)), ((x 30), .inl (cI, 8, .inl n30)), ((x 31), .inl (cI, 8, .inl n31)), ((x 32), .inl (cI, 8, .inl n32)), ((x 33), .inl (cI, 64, .inl n33))]) [1, 2, 3, 4, 5, 6, 7] (by decide) rfl) 0 rfl rfl rfl) rfl rfl hl.1 rfl (lv_room (Nat.le_of_ble_eq_true rfl)) dX7_pay_4 ⟨Nat.le_of_ble_eq_true rfl, Nat.le_of_ble_eq_true rfl⟩) hP hD hS hA [1, 2, 3, 4, 5, 6, 7] [0] rfl rfl (by decide) (by decide) 0 0 rfl rfl (fun u_2 H locs hw_u_2 hP hD hS => ?_)
  have hP : va_P D vwCl [((x 0), .inr (7, [.ref (x 1), .ref (x 5), .ref (x 7), .ref (x 10), .ref (x 17), .ref (x 22), .ref (x 27), .int yr])), ((x 27), .inr (0, [.ref (x 28), .ref (x 29), .ref (x 30), .int (nI hn), .int u_2.2.2.2.1, .int u_2.2.2.2.2, .ref (x 31), .ref (x 32), .ref (x 33)])), ((x 28), .inl (cI, 6, .inl n28)), ((x 29), .inl (cI, 6, .inl u_2.1)), ((x 30), .inl (cI, 8, .inl u_2.2.1)), ((x 31), .inl (cI, 8, .inl n31)), ((x 32), .inl (cI, 8, .inl n32)), ((x 33), .inl (cI, 64, .inl u_2.2.2.1))] H := hP
  have hD : va_D A [((x 0), .inr (7, [.ref (x 1), .ref (x 5), .ref (x 7), .ref (x 10), .ref (x 17), .ref (x 22), .ref (x 27), .int yr])), ((x 27), .inr (0, [.ref (x 28), .ref (x 29), .ref (x 30), .int (nI hn), .int u_2.2.2.2.1, .int u_2.2.2.2.2, .ref (x 31), .ref (x 32), .ref (x 33)])), ((x 28), .inl (cI, 6, .inl n28)), ((x 29), .inl (cI, 6, .inl u_2.1)), ((x 30), .inl (cI, 8, .inl u_2.2.1)), ((x 31), .inl (cI, 8, .inl n31)), ((x 32), .inl (cI, 8, .inl n32)), ((x 33), .inl (cI, 64, .inl u_2.2.2.1))] := hD
  refine lv_aload_n hx hb dX7_pay_7 rfl (lv_at hl 0 rfl) ?_
  refine va_get (D := D) (ci := 7) (v := .ref (x 27)) (C := RX7) (T := TX7) (N := 8) hx hb hts w_1 hown hK hP 0 rfl rfl 6 (by decide) w_2 (fun _ h9 => h9) rfl dX7_pay_8 ?_
  refine cl_i (wc := [((x 27), .inr (0, [.ref (x 28), .ref (x 29), .ref (x 30), .int (nI hn), .int u_2.2.2.2.1, .int u_2.2.2.2.2, .ref (x 31), .ref (x 32), .ref (x 33)])), ((x 28), .inl (cI, 6, .inl n28)), ((x 29), .inl (cI, 6, .inl u_2.1)), ((x 30), .inl (cI, 8, .inl u_2.2.1)), ((x 31), .inl (cI, 8, .inl n31)), ((x 32), .inl (cI, 8, .inl n32)), ((x 33), .inl (cI, 64, .inl u_2.2.2.1))]) (wr := [((x 0), .inr (7, [.ref (x 1), .ref (x 5), .ref (x 7), .ref (x 10), .ref (x 17), .ref (x 22), .ref (x 27), .int yr]))]) (va_runV (As := []) (rest := []) ⟨hx, hb, hml, hown, hts⟩ (f_X0_payP l D cB cI cJ cZ H.size (x 27) (x 28) (x 29) (x 30) (x 31) (x 32) (x 33) hn u_2.2.2.2.1 u_2.2.2.2.2 n28 u_2.1 u_2.2.1 n31 n32 u_2.2.2.1 b_hn) (cwV 0 hts gX7_pay_X0_payPlanned rfl rfl rfl (by decide +kernel) ⟨Nat.le_of_ble_eq_true rfl, Nat.le_of_ble_eq_true rfl⟩) (pre_V (hP.sub (ws' := [((x 27), .inr (0, [.ref (x 28), .ref (x 29), .ref (x 30), .int (nI hn), .int u_2.2.2.2.1, .int u_2.2.2.2.2, .ref (x 31), .ref (x 32), .ref (x 33)])), ((x 28), .inl (cI, 6, .inl n28)), ((x 29), .inl (cI, 6, .inl u_2.1)), ((x 30), .inl (cI, 8, .inl u_2.2.1)), ((x 31), .inl (cI, 8, .inl n31)), ((x 32), .inl (cI, 8, .inl n32)), ((x 33), .inl (cI, 64, .inl u_2.2.2.1))]) [1, 2, 3, 4, 5, 6, 7] rfl) hK (hD.sub (ws' := [((x 27), .inr (0, [.ref (x 28), .ref (x 29), .ref (x 30), .int (nI hn), .int u_2.2.2.2.1, .int u_2.2.2.2.2, .ref (x 31), .ref (x 32), .ref (x 33)])), ((x 28), .inl (cI, 6, .inl n28)), ((x 29), .inl (cI, 6, .inl u_2.1)), ((x 30), .inl (cI, 8, .inl u_2.2.1)), ((x 31), .inl (cI, 8, .inl n31)), ((x 32), .inl (cI, 8, .inl n32)), ((x 33), .inl (cI, 64, .inl u_2.2.2.1))]) [1, 2, 3, 4, 5, 6, 7] (by decide) rfl) 0 rfl rfl rfl) rfl rfl hl.1 rfl (lv_room (Nat.le_of_ble_eq_true rfl)) dX7_pay_11 ⟨Nat.le_of_ble_eq_true rfl, Nat.le_of_ble_eq_true rfl⟩) hP hD hS hA [1, 2, 3, 4, 5, 6, 7] [0] rfl rfl (by decide) (by decide) 0 0 rfl rfl (fun r_3 u_4 H locs hw_u_4 hP hD hS => ?_)
  have hP : va_P D vwCl [((x 0), .inr (7, [.ref (x 1), .ref (x 5), .ref (x 7), .ref (x 10), .ref (x 17), .ref (x 22), .ref (x 27), .int yr])), ((x 27), .inr (0, [.ref (x 28), .ref (x 29), .ref (x 30), .int (nI hn), .int u_2.2.2.2.1, .int u_2.2.2.2.2, .ref (x 31), .ref (x 32), .ref (x 33)])), ((x 28), .inl (cI, 6, .inl u_4.1)), ((x 29), .inl (cI, 6, .inl u_2.1)), ((x 30), .inl (cI, 8, .inl u_2.2.1)), ((x 31), .inl (cI, 8, .inl u_4.2)), ((x 32), .inl (cI, 8, .inl n32)), ((x 33), .inl (cI, 64, .inl u_2.2.2.1))] H := hP
  have hD : va_D A [((x 0), .inr (7, [.ref (x 1), .ref (x 5), .ref (x 7), .ref (x 10), .ref (x 17), .ref (x 22), .ref (x 27), .int yr])), ((x 27), .inr (0, [.ref (x 28), .ref (x 29), .ref (x 30), .int (nI hn), .int u_2.2.2.2.1, .int u_2.2.2.2.2, .ref (x 31), .ref (x 32), .ref (x 33)])), ((x 28), .inl (cI, 6, .inl u_4.1)), ((x 29), .inl (cI, 6, .inl u_2.1)), ((x 30), .inl (cI, 8, .inl u_2.2.1)), ((x 31), .inl (cI, 8, .inl u_4.2)), ((x 32), .inl (cI, 8, .inl n32)), ((x 33), .inl (cI, 64, .inl u_2.2.2.1))] := hD
  have hP9 := hP.sub (ws' := [((x 0), .inr (7, [.ref (x 1), .ref (x 5), .ref (x 7), .ref (x 10), .ref (x 17), .ref (x 22), .ref (x 27), .int yr])), ((x 27), .inr (0, [.ref (x 28), .ref (x 29), .ref (x 30), .int (nI hn), .int u_2.2.2.2.1, .int u_2.2.2.2.2, .ref (x 31), .ref (x 32), .ref (x 33)])), ((x 28), .inl (cI, 6, .inl u_4.1)), ((x 29), .inl (cI, 6, .inl u_2.1)), ((x 30), .inl (cI, 8, .inl u_2.2.1)), ((x 31), .inl (cI, 8, .inl u_4.2)), ((x 32), .inl (cI, 8, .inl n32)), ((x 33), .inl (cI, 64, .inl u_2.2.2.1))]) [0, 1, 2, 3, 4, 5, 6, 7] rfl
  have hD9 := hD.sub (ws' := [((x 0), .inr (7, [.ref (x 1), .ref (x 5), .ref (x 7), .ref (x 10), .ref (x 17), .ref (x 22), .ref (x 27), .int yr])), ((x 27), .inr (0, [.ref (x 28), .ref (x 29), .ref (x 30), .int (nI hn), .int u_2.2.2.2.1, .int u_2.2.2.2.2, .ref (x 31), .ref (x 32), .ref (x 33)])), ((x 28), .inl (cI, 6, .inl u_4.1)), ((x 29), .inl (cI, 6, .inl u_2.1)), ((x 30), .inl (cI, 8, .inl u_2.2.1)), ((x 31), .inl (cI, 8, .inl u_4.2)), ((x 32), .inl (cI, 8, .inl n32)), ((x 33), .inl (cI, 64, .inl u_2.2.2.1))]) [0, 1, 2, 3, 4, 5, 6, 7] (by decide) rfl
  exact W.iret (v := r_3) hx hb hr (fun t ht hW => ⟨⟨_, (u_4.1, u_2.1, u_2.2.1, u_4.2, u_2.2.2.1, (u_2.2.2.2.1 : Int32), (u_2.2.2.2.2 : Int32)), rfl, ⟨hw_u_2.1, hw_u_4⟩, by rw [ht]; exact hP9, va_K.moved hW.alike hK, hD9⟩, hS.F ht⟩) hS.2.2 dX7_pay_14

