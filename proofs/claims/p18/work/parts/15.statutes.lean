set_option maxHeartbeats 4000000 in
set_option maxRecDepth 100000 in
theorem g_X5_way (l : Launch) (D : va_G) (cB cI cJ cZ : ClassId) (h0 p0 : Nat) (b1 b2 b3 b4 b5 b6 b7 b8 : Int32) (f0 : Nat → Int32) : Met l yX5_wayNext wsX5_wayNext ({ frames := 0, cells := 0, slots := 0, locals := 0 } : Room) (cRd D (aTy cB cI cJ cZ) [(h0, .inr (5, [.ref p0, .int b1, .int b2, .int b3, .int b4, .int b5, .int b6, .int b7, .int b8])), (p0, .inl (cI, 8, .inl f0))] [.ref h0]) (vp_Si (fun r : Int32 => True)) 0 0 (fun _ => False) := by
  refine Met.ofW (cc := cX5_wayNext) (maxL := 1) (ret := (some .int)) (by decide) rfl ?_
  intro p e s m args below meth c s₁ B hml hv
  obtain ⟨rfl, hP, hK⟩ := hv
  have hx := B.exec
  have hb := B.bytes
  have hr := B.returns
  have hts := atoms_spec (ws := wsX5_wayNext) B.pre
  have hown : s.vm.findClass RX5 = some m.cls := findClass_of_methodNamed B.named
  have hlocks := B.notSynchronized
  have hP : va_P D vwCl [(h0, .inr (5, [.ref p0, .int b1, .int b2, .int b3, .int b4, .int b5, .int b6, .int b7, .int b8])), (p0, .inl (cI, 8, .inl f0))] s.heap := hP
  have w_1 : ∀ w ∈ wsX50, w ∈ wsX5_wayNext := by decide +kernel
  have w_2 := hts (Cond.fieldLink RX5 22 "BlueCoats$Statutes" "next" "I") (by decide +kernel)
  have w_3 := hts (Cond.fieldLink RX5 11 "BlueCoats$Statutes" "cycle" "[I") (by decide +kernel)
  have hl := lv_entry ([.ref h0]) (n := 1) (Nat.le_of_ble_eq_true rfl)
  rw [lg_entry_eq]
  generalize (lg_sl ([.ref h0]) ++ List.replicate (1 - (lg_sl ([.ref h0])).length) Slot.unset).toArray = ls at hl ⊢
  have hl : lv_has ls 1 [(0, .ref h0)] := hl
  refine lv_aload_n hx hb dX5_wayNext_0 rfl (lv_at hl 0 rfl) ?_
  refine va_get (D := D) (ci := 5) (v := .int b2) (C := RX5) (T := TX5) (N := 9) hx hb hts w_1 hown hK hP 0 rfl rfl 2 (by decide) w_2 (fun _ h9 => h9) rfl dX5_wayNext_1 ?_
  refine lv_if_lt (tgt := 28) hx hb dX5_wayNext_4 (by decide) (fun c_4 => ?_) (fun c_4 => ?_)
  ·
    refine lv_iconst (v := 2) hx hb dX5_wayNext_28 (by decide) ?_
    exact W.iret (v := 2) hx hb hr (fun t ht hW => ⟨_, rfl, trivial, ht⟩) (fun q h => nomatch h) dX5_wayNext_29
  ·
    refine lv_aload_n hx hb dX5_wayNext_7 rfl (lv_at hl 0 rfl) ?_
    refine va_get (D := D) (ci := 5) (v := .int b2) (C := RX5) (T := TX5) (N := 9) hx hb hts w_1 hown hK hP 0 rfl rfl 2 (by decide) w_2 (fun _ h9 => h9) rfl dX5_wayNext_8 ?_
    refine lv_bipush (v := 8) hx hb dX5_wayNext_11 (by decide) ?_
    refine lv_icmp_ge (tgt := 28) hx hb dX5_wayNext_13 (by decide) (fun c_13 => ?_) (fun c_13 => ?_)
    ·
      refine lv_iconst (v := 2) hx hb dX5_wayNext_28 (by decide) ?_
      exact W.iret (v := 2) hx hb hr (fun t ht hW => ⟨_, rfl, trivial, ht⟩) (fun q h => nomatch h) dX5_wayNext_29
    ·
      refine lv_aload_n hx hb dX5_wayNext_16 rfl (lv_at hl 0 rfl) ?_
      refine va_get (D := D) (ci := 5) (v := .ref p0) (C := RX5) (T := TX5) (N := 9) hx hb hts w_1 hown hK hP 0 rfl rfl 0 (by decide) w_3 (fun _ h9 => h9) rfl dX5_wayNext_17 ?_
      refine lv_aload_n hx hb dX5_wayNext_20 rfl (lv_at hl 0 rfl) ?_
      refine va_get (D := D) (ci := 5) (v := .int b2) (C := RX5) (T := TX5) (N := 9) hx hb hts w_1 hown hK hP 0 rfl rfl 2 (by decide) w_2 (fun _ h9 => h9) rfl dX5_wayNext_21 ?_
      refine sv_iald (v := f0 b2.toNatClampNeg) hx hb hK hP 1 1 rfl rfl (in_yes (a := 8) (by decide) c_4 c_13) rfl dX5_wayNext_24 ?_
      refine lv_topi (fun v_1 ev_1 => ?_)
      refine lv_goto (tgt := 29) hx hb dX5_wayNext_25 (by decide) ?_
      exact W.iret (v := v_1) hx hb hr (fun t ht hW => ⟨_, rfl, trivial, ht⟩) (fun q h => nomatch h) dX5_wayNext_29

set_option maxHeartbeats 4000000 in
set_option maxRecDepth 100000 in
theorem g_X5_goOn (l : Launch) (D : va_G) (cB cI cJ cZ : ClassId) (sz : Nat) (h0 p0 : Nat) (b1 b2 b3 b4 b5 b6 b7 b8 : Int32) (f0 : Nat → Int32) : Met l yX5_goOn wsX5_goOn ({ frames := 0, cells := 0, slots := 0, locals := 0 } : Room) (cPre D (aTy cB cI cJ cZ) [(h0, .inr (5, [.ref p0, .int b1, .int b2, .int b3, .int b4, .int b5, .int b6, .int b7, .int b8]))] sz [.ref h0]) (va_Qv (fun (u : Int32) => True) (cB_ D (aTy cB cI cJ cZ) (va_A [(h0, .inr (5, [.ref p0, .int b1, .int b2, .int b3, .int b4, .int b5, .int b6, .int b7, .int b8]))] sz) (fun u => [(h0, .inr (5, [.ref p0, .int b1, .int (u), .int b3, .int b4, .int b5, .int b6, .int b7, .int b8]))])) (va_A [(h0, .inr (5, [.ref p0, .int b1, .int b2, .int b3, .int b4, .int b5, .int b6, .int b7, .int b8]))] sz)) 0 0 (va_A [(h0, .inr (5, [.ref p0, .int b1, .int b2, .int b3, .int b4, .int b5, .int b6, .int b7, .int b8]))] sz) := by
  refine Met.ofW (cc := cX5_goOn) (maxL := 1) (ret := none) (by decide) rfl ?_
  intro p e s m args below meth c s₁ B hml hv
  obtain ⟨rfl, hsz, hP, hK, hD0⟩ := hv
  have hx := B.exec
  have hb := B.bytes
  have hr := B.returns
  have hts := atoms_spec (ws := wsX5_goOn) B.pre
  have hown : s.vm.findClass RX5 = some m.cls := findClass_of_methodNamed B.named
  have hlocks := B.notSynchronized
  subst hsz
  have hD := hD0.self (sz := s.heap.size)
  generalize hAe : va_A [(h0, .inr (5, [.ref p0, .int b1, .int b2, .int b3, .int b4, .int b5, .int b6, .int b7, .int b8]))] s.heap.size = A at hD ⊢
  have hA : ∀ q : Nat, s.heap.size ≤ q → A q := fun q h => by rw [← hAe]; exact Or.inr h
  have hS : va_S A s.heap s.heap [] := va_S.rf
  have hP : va_P D vwCl [(h0, .inr (5, [.ref p0, .int b1, .int b2, .int b3, .int b4, .int b5, .int b6, .int b7, .int b8]))] s.heap := hP
  have w_1 : ∀ w ∈ wsX50, w ∈ wsX5_goOn := by decide +kernel
  have w_2 := hts (Cond.fieldLink RX5 22 "BlueCoats$Statutes" "next" "I") (by decide +kernel)
  have w_3 := hts (Cond.fieldLink RX5 18 "BlueCoats$Statutes" "ways" "I") (by decide +kernel)
  have hl := lv_entry ([.ref h0]) (n := 1) (Nat.le_of_ble_eq_true rfl)
  rw [lg_entry_eq]
  generalize (lg_sl ([.ref h0]) ++ List.replicate (1 - (lg_sl ([.ref h0])).length) Slot.unset).toArray = ls at hl ⊢
  have hl : lv_has ls 1 [(0, .ref h0)] := hl
  refine lv_aload_n hx hb dX5_goOn_0 rfl (lv_at hl 0 rfl) ?_
  refine lv_aload_n hx hb dX5_goOn_1 rfl (lv_at hl 0 rfl) ?_
  refine va_get (D := D) (ci := 5) (v := .int b2) (C := RX5) (T := TX5) (N := 9) hx hb hts w_1 hown hK hP 0 rfl rfl 2 (by decide) w_2 (fun _ h9 => h9) rfl dX5_goOn_2 ?_
  refine lv_iconst (v := 1) hx hb dX5_goOn_5 (by decide) ?_
  refine sv_iadd (v := b2 + 1) hx hb dX5_goOn_6 rfl ?_
  refine lv_aload_n hx hb dX5_goOn_7 rfl (lv_at hl 0 rfl) ?_
  refine va_get (D := D) (ci := 5) (v := .int b1) (C := RX5) (T := TX5) (N := 9) hx hb hts w_1 hown hK hP 0 rfl rfl 1 (by decide) w_3 (fun _ h9 => h9) rfl dX5_goOn_8 ?_
  refine lv_icmp_ge (tgt := 23) hx hb dX5_goOn_11 (by decide) (fun c_11 => ?_) (fun c_11 => ?_)
  ·
    refine lv_iconst (v := 0) hx hb dX5_goOn_23 (by decide) ?_
    refine va_put (D := D) (ci := 5) (v := .int 0) (ty := .int) (C := RX5) (T := TX5) (N := 9) hx hb hts w_1 tyX5 tyX5_ok nmX5 hown hK hP hD hS 0 rfl rfl 2 (by decide) w_2 (fun _ h9 => h9) rfl (by decide +kernel) rfl rfl (Nat.le_of_ble_eq_true rfl) dX5_goOn_24 (fun H locs hP hD hS => ?_)
    have hP : va_P D vwCl [(h0, .inr (5, [.ref p0, .int b1, .int 0, .int b3, .int b4, .int b5, .int b6, .int b7, .int b8]))] H := hP
    have hD : va_D A [(h0, .inr (5, [.ref p0, .int b1, .int 0, .int b3, .int b4, .int b5, .int b6, .int b7, .int b8]))] := hD
    have hP9 := hP.sub (ws' := [(h0, .inr (5, [.ref p0, .int b1, .int 0, .int b3, .int b4, .int b5, .int b6, .int b7, .int b8]))]) [0] rfl
    have hD9 := hD.sub (ws' := [(h0, .inr (5, [.ref p0, .int b1, .int 0, .int b3, .int b4, .int b5, .int b6, .int b7, .int b8]))]) [0] (by decide) rfl
    exact W.vret hx hb hr (fun t ht hW => ⟨⟨(0 : Int32), rfl, trivial, by rw [ht]; exact hP9, va_K.moved hW.alike hK, hD9⟩, hS.F ht⟩) hS.2.2 dX5_goOn_27
  ·
    refine lv_aload_n hx hb dX5_goOn_14 rfl (lv_at hl 0 rfl) ?_
    refine va_get (D := D) (ci := 5) (v := .int b2) (C := RX5) (T := TX5) (N := 9) hx hb hts w_1 hown hK hP 0 rfl rfl 2 (by decide) w_2 (fun _ h9 => h9) rfl dX5_goOn_15 ?_
    refine lv_iconst (v := 1) hx hb dX5_goOn_18 (by decide) ?_
    refine sv_iadd (v := b2 + 1) hx hb dX5_goOn_19 rfl ?_
    refine lv_goto (tgt := 24) hx hb dX5_goOn_20 (by decide) ?_
    refine va_put (D := D) (ci := 5) (v := .int (b2 + 1)) (ty := .int) (C := RX5) (T := TX5) (N := 9) hx hb hts w_1 tyX5 tyX5_ok nmX5 hown hK hP hD hS 0 rfl rfl 2 (by decide) w_2 (fun _ h9 => h9) rfl (by decide +kernel) rfl rfl (Nat.le_of_ble_eq_true rfl) dX5_goOn_24 (fun H locs hP hD hS => ?_)
    have hP : va_P D vwCl [(h0, .inr (5, [.ref p0, .int b1, .int (b2 + 1), .int b3, .int b4, .int b5, .int b6, .int b7, .int b8]))] H := hP
    have hD : va_D A [(h0, .inr (5, [.ref p0, .int b1, .int (b2 + 1), .int b3, .int b4, .int b5, .int b6, .int b7, .int b8]))] := hD
    have hP9 := hP.sub (ws' := [(h0, .inr (5, [.ref p0, .int b1, .int (b2 + 1), .int b3, .int b4, .int b5, .int b6, .int b7, .int b8]))]) [0] rfl
    have hD9 := hD.sub (ws' := [(h0, .inr (5, [.ref p0, .int b1, .int (b2 + 1), .int b3, .int b4, .int b5, .int b6, .int b7, .int b8]))]) [0] (by decide) rfl
    exact W.vret hx hb hr (fun t ht hW => ⟨⟨(b2 + 1 : Int32), rfl, trivial, by rw [ht]; exact hP9, va_K.moved hW.alike hK, hD9⟩, hS.F ht⟩) hS.2.2 dX5_goOn_27

set_option maxHeartbeats 4000000 in
set_option maxRecDepth 100000 in
theorem g_X5_say (l : Launch) (D : va_G) (cB cI cJ cZ : ClassId) (sz : Nat) (h0 p0 : Nat) (b1 b2 b3 b4 b5 b6 b7 b8 : Int32) (f0 : Nat → Int32) : Met l yX5_sayNothing wsX5_sayNothing ({ frames := 0, cells := 0, slots := 0, locals := 0 } : Room) (cPre D (aTy cB cI cJ cZ) [(h0, .inr (5, [.ref p0, .int b1, .int b2, .int b3, .int b4, .int b5, .int b6, .int b7, .int b8])), (p0, .inl (cI, 8, .inl f0))] sz [.ref h0]) (va_Qv (fun (u : (Nat → Int32) × Int32 × Int32 × Int32 × Int32 × Int32 × Int32 × Int32 × Int32) => True) (cB_ D (aTy cB cI cJ cZ) (va_A [(h0, .inr (5, [.ref p0, .int b1, .int b2, .int b3, .int b4, .int b5, .int b6, .int b7, .int b8])), (p0, .inl (cI, 8, .inl f0))] sz) (fun u => [(h0, .inr (5, [.ref p0, .int (u.2.1), .int (u.2.2.1), .int (u.2.2.2.1), .int (u.2.2.2.2.1), .int (u.2.2.2.2.2.1), .int (u.2.2.2.2.2.2.1), .int (u.2.2.2.2.2.2.2.1), .int (u.2.2.2.2.2.2.2.2)])), (p0, .inl (cI, 8, .inl u.1))])) (va_A [(h0, .inr (5, [.ref p0, .int b1, .int b2, .int b3, .int b4, .int b5, .int b6, .int b7, .int b8])), (p0, .inl (cI, 8, .inl f0))] sz)) 0 0 (va_A [(h0, .inr (5, [.ref p0, .int b1, .int b2, .int b3, .int b4, .int b5, .int b6, .int b7, .int b8])), (p0, .inl (cI, 8, .inl f0))] sz) := by
  refine Met.ofW (cc := cX5_sayNothing) (maxL := 1) (ret := none) (by decide) rfl ?_
  intro p e s m args below meth c s₁ B hml hv
  obtain ⟨rfl, hsz, hP, hK, hD0⟩ := hv
  have hx := B.exec
  have hb := B.bytes
  have hr := B.returns
  have hts := atoms_spec (ws := wsX5_sayNothing) B.pre
  have hown : s.vm.findClass RX5 = some m.cls := findClass_of_methodNamed B.named
  have hlocks := B.notSynchronized
  subst hsz
  have hD := hD0.self (sz := s.heap.size)
  generalize hAe : va_A [(h0, .inr (5, [.ref p0, .int b1, .int b2, .int b3, .int b4, .int b5, .int b6, .int b7, .int b8])), (p0, .inl (cI, 8, .inl f0))] s.heap.size = A at hD ⊢
  have hA : ∀ q : Nat, s.heap.size ≤ q → A q := fun q h => by rw [← hAe]; exact Or.inr h
  have hS : va_S A s.heap s.heap [] := va_S.rf
  have hP : va_P D vwCl [(h0, .inr (5, [.ref p0, .int b1, .int b2, .int b3, .int b4, .int b5, .int b6, .int b7, .int b8])), (p0, .inl (cI, 8, .inl f0))] s.heap := hP
  have w_1 : ∀ w ∈ wsX50, w ∈ wsX5_sayNothing := by decide +kernel
  have w_2 := hts (Cond.fieldLink RX5 11 "BlueCoats$Statutes" "cycle" "[I") (by decide +kernel)
  have w_3 := hts (Cond.fieldLink RX5 18 "BlueCoats$Statutes" "ways" "I") (by decide +kernel)
  have w_4 := hts (Cond.fieldLink RX5 22 "BlueCoats$Statutes" "next" "I") (by decide +kernel)
  have w_5 := hts (Cond.fieldLink RX5 25 "BlueCoats$Statutes" "vote" "I") (by decide +kernel)
  have w_6 := hts (Cond.fieldLink RX5 28 "BlueCoats$Statutes" "ageFrom" "I") (by decide +kernel)
  have w_7 := hts (Cond.fieldLink RX5 31 "BlueCoats$Statutes" "ageTo" "I") (by decide +kernel)
  have w_8 := hts (Cond.fieldLink RX5 34 "BlueCoats$Statutes" "wear" "I") (by decide +kernel)
  have w_9 := hts (Cond.fieldLink RX5 37 "BlueCoats$Statutes" "spare" "I") (by decide +kernel)
  have w_10 := hts (Cond.fieldLink RX5 40 "BlueCoats$Statutes" "places" "I") (by decide +kernel)
  have hl := lv_entry ([.ref h0]) (n := 1) (Nat.le_of_ble_eq_true rfl)
  rw [lg_entry_eq]
  generalize (lg_sl ([.ref h0]) ++ List.replicate (1 - (lg_sl ([.ref h0])).length) Slot.unset).toArray = ls at hl ⊢
  have hl : lv_has ls 1 [(0, .ref h0)] := hl
  refine lv_aload_n hx hb dX5_sayNothing_0 rfl (lv_at hl 0 rfl) ?_
  refine va_get (D := D) (ci := 5) (v := .ref p0) (C := RX5) (T := TX5) (N := 9) hx hb hts w_1 hown hK hP 0 rfl rfl 0 (by decide) w_2 (fun _ h9 => h9) rfl dX5_sayNothing_1 ?_
  refine lv_iconst (v := 0) hx hb dX5_sayNothing_4 (by decide) ?_
  refine lv_iconst (v := 2) hx hb dX5_sayNothing_5 (by decide) ?_
  refine sv_iast hx hb hK hP hD hS 1 1 rfl rfl (vp_in_iff.mpr (by decide)) dX5_sayNothing_6 (fun g_1 H locs eg_1 hP hD hS => ?_)
  have eg_1 : g_1 = upd f0 0 2 := eg_1
  subst eg_1
  have hP : va_P D vwCl [(h0, .inr (5, [.ref p0, .int b1, .int b2, .int b3, .int b4, .int b5, .int b6, .int b7, .int b8])), (p0, .inl (cI, 8, .inl (upd f0 0 2)))] H := hP
  have hD : va_D A [(h0, .inr (5, [.ref p0, .int b1, .int b2, .int b3, .int b4, .int b5, .int b6, .int b7, .int b8])), (p0, .inl (cI, 8, .inl (upd f0 0 2)))] := hD
  refine lv_aload_n hx hb dX5_sayNothing_7 rfl (lv_at hl 0 rfl) ?_
  refine lv_iconst (v := 1) hx hb dX5_sayNothing_8 (by decide) ?_
  refine va_put (D := D) (ci := 5) (v := .int 1) (ty := .int) (C := RX5) (T := TX5) (N := 9) hx hb hts w_1 tyX5 tyX5_ok nmX5 hown hK hP hD hS 0 rfl rfl 1 (by decide) w_3 (fun _ h9 => h9) rfl (by decide +kernel) rfl rfl (Nat.le_of_ble_eq_true rfl) dX5_sayNothing_9 (fun H locs hP hD hS => ?_)
  have hP : va_P D vwCl [(h0, .inr (5, [.ref p0, .int 1, .int b2, .int b3, .int b4, .int b5, .int b6, .int b7, .int b8])), (p0, .inl (cI, 8, .inl (upd f0 0 2)))] H := hP
  have hD : va_D A [(h0, .inr (5, [.ref p0, .int 1, .int b2, .int b3, .int b4, .int b5, .int b6, .int b7, .int b8])), (p0, .inl (cI, 8, .inl (upd f0 0 2)))] := hD
  refine lv_aload_n hx hb dX5_sayNothing_12 rfl (lv_at hl 0 rfl) ?_
  refine lv_iconst (v := 0) hx hb dX5_sayNothing_13 (by decide) ?_
  refine va_put (D := D) (ci := 5) (v := .int 0) (ty := .int) (C := RX5) (T := TX5) (N := 9) hx hb hts w_1 tyX5 tyX5_ok nmX5 hown hK hP hD hS 0 rfl rfl 2 (by decide) w_4 (fun _ h9 => h9) rfl (by decide +kernel) rfl rfl (Nat.le_of_ble_eq_true rfl) dX5_sayNothing_14 (fun H locs hP hD hS => ?_)
  have hP : va_P D vwCl [(h0, .inr (5, [.ref p0, .int 1, .int 0, .int b3, .int b4, .int b5, .int b6, .int b7, .int b8])), (p0, .inl (cI, 8, .inl (upd f0 0 2)))] H := hP
  have hD : va_D A [(h0, .inr (5, [.ref p0, .int 1, .int 0, .int b3, .int b4, .int b5, .int b6, .int b7, .int b8])), (p0, .inl (cI, 8, .inl (upd f0 0 2)))] := hD
  refine lv_aload_n hx hb dX5_sayNothing_17 rfl (lv_at hl 0 rfl) ?_
  refine lv_bipush (v := 100) hx hb dX5_sayNothing_18 (by decide) ?_
  refine va_put (D := D) (ci := 5) (v := .int 100) (ty := .int) (C := RX5) (T := TX5) (N := 9) hx hb hts w_1 tyX5 tyX5_ok nmX5 hown hK hP hD hS 0 rfl rfl 3 (by decide) w_5 (fun _ h9 => h9) rfl (by decide +kernel) rfl rfl (Nat.le_of_ble_eq_true rfl) dX5_sayNothing_20 (fun H locs hP hD hS => ?_)
  have hP : va_P D vwCl [(h0, .inr (5, [.ref p0, .int 1, .int 0, .int 100, .int b4, .int b5, .int b6, .int b7, .int b8])), (p0, .inl (cI, 8, .inl (upd f0 0 2)))] H := hP
  have hD : va_D A [(h0, .inr (5, [.ref p0, .int 1, .int 0, .int 100, .int b4, .int b5, .int b6, .int b7, .int b8])), (p0, .inl (cI, 8, .inl (upd f0 0 2)))] := hD
  refine lv_aload_n hx hb dX5_sayNothing_23 rfl (lv_at hl 0 rfl) ?_
  refine lv_bipush (v := 7) hx hb dX5_sayNothing_24 (by decide) ?_
  refine va_put (D := D) (ci := 5) (v := .int 7) (ty := .int) (C := RX5) (T := TX5) (N := 9) hx hb hts w_1 tyX5 tyX5_ok nmX5 hown hK hP hD hS 0 rfl rfl 4 (by decide) w_6 (fun _ h9 => h9) rfl (by decide +kernel) rfl rfl (Nat.le_of_ble_eq_true rfl) dX5_sayNothing_26 (fun H locs hP hD hS => ?_)
  have hP : va_P D vwCl [(h0, .inr (5, [.ref p0, .int 1, .int 0, .int 100, .int 7, .int b5, .int b6, .int b7, .int b8])), (p0, .inl (cI, 8, .inl (upd f0 0 2)))] H := hP
  have hD : va_D A [(h0, .inr (5, [.ref p0, .int 1, .int 0, .int 100, .int 7, .int b5, .int b6, .int b7, .int b8])), (p0, .inl (cI, 8, .inl (upd f0 0 2)))] := hD
  refine lv_aload_n hx hb dX5_sayNothing_29 rfl (lv_at hl 0 rfl) ?_
  refine lv_bipush (v := 14) hx hb dX5_sayNothing_30 (by decide) ?_
  refine va_put (D := D) (ci := 5) (v := .int 14) (ty := .int) (C := RX5) (T := TX5) (N := 9) hx hb hts w_1 tyX5 tyX5_ok nmX5 hown hK hP hD hS 0 rfl rfl 5 (by decide) w_7 (fun _ h9 => h9) rfl (by decide +kernel) rfl rfl (Nat.le_of_ble_eq_true rfl) dX5_sayNothing_32 (fun H locs hP hD hS => ?_)
  have hP : va_P D vwCl [(h0, .inr (5, [.ref p0, .int 1, .int 0, .int 100, .int 7, .int 14, .int b6, .int b7, .int b8])), (p0, .inl (cI, 8, .inl (upd f0 0 2)))] H := hP
  have hD : va_D A [(h0, .inr (5, [.ref p0, .int 1, .int 0, .int 100, .int 7, .int 14, .int b6, .int b7, .int b8])), (p0, .inl (cI, 8, .inl (upd f0 0 2)))] := hD
  refine lv_aload_n hx hb dX5_sayNothing_35 rfl (lv_at hl 0 rfl) ?_
  refine lv_iconst (v := 3) hx hb dX5_sayNothing_36 (by decide) ?_
  refine va_put (D := D) (ci := 5) (v := .int 3) (ty := .int) (C := RX5) (T := TX5) (N := 9) hx hb hts w_1 tyX5 tyX5_ok nmX5 hown hK hP hD hS 0 rfl rfl 6 (by decide) w_8 (fun _ h9 => h9) rfl (by decide +kernel) rfl rfl (Nat.le_of_ble_eq_true rfl) dX5_sayNothing_37 (fun H locs hP hD hS => ?_)
  have hP : va_P D vwCl [(h0, .inr (5, [.ref p0, .int 1, .int 0, .int 100, .int 7, .int 14, .int 3, .int b7, .int b8])), (p0, .inl (cI, 8, .inl (upd f0 0 2)))] H := hP
  have hD : va_D A [(h0, .inr (5, [.ref p0, .int 1, .int 0, .int 100, .int 7, .int 14, .int 3, .int b7, .int b8])), (p0, .inl (cI, 8, .inl (upd f0 0 2)))] := hD
  refine lv_aload_n hx hb dX5_sayNothing_40 rfl (lv_at hl 0 rfl) ?_
  refine lv_iconst (v := 1) hx hb dX5_sayNothing_41 (by decide) ?_
  refine va_put (D := D) (ci := 5) (v := .int 1) (ty := .int) (C := RX5) (T := TX5) (N := 9) hx hb hts w_1 tyX5 tyX5_ok nmX5 hown hK hP hD hS 0 rfl rfl 7 (by decide) w_9 (fun _ h9 => h9) rfl (by decide +kernel) rfl rfl (Nat.le_of_ble_eq_true rfl) dX5_sayNothing_42 (fun H locs hP hD hS => ?_)
  have hP : va_P D vwCl [(h0, .inr (5, [.ref p0, .int 1, .int 0, .int 100, .int 7, .int 14, .int 3, .int 1, .int b8])), (p0, .inl (cI, 8, .inl (upd f0 0 2)))] H := hP
  have hD : va_D A [(h0, .inr (5, [.ref p0, .int 1, .int 0, .int 100, .int 7, .int 14, .int 3, .int 1, .int b8])), (p0, .inl (cI, 8, .inl (upd f0 0 2)))] := hD
  refine lv_aload_n hx hb dX5_sayNothing_45 rfl (lv_at hl 0 rfl) ?_
  refine lv_bipush (v := 8) hx hb dX5_sayNothing_46 (by decide) ?_
  refine va_put (D := D) (ci := 5) (v := .int 8) (ty := .int) (C := RX5) (T := TX5) (N := 9) hx hb hts w_1 tyX5 tyX5_ok nmX5 hown hK hP hD hS 0 rfl rfl 8 (by decide) w_10 (fun _ h9 => h9) rfl (by decide +kernel) rfl rfl (Nat.le_of_ble_eq_true rfl) dX5_sayNothing_48 (fun H locs hP hD hS => ?_)
  have hP : va_P D vwCl [(h0, .inr (5, [.ref p0, .int 1, .int 0, .int 100, .int 7, .int 14, .int 3, .int 1, .int 8])), (p0, .inl (cI, 8, .inl (upd f0 0 2)))] H := hP
  have hD : va_D A [(h0, .inr (5, [.ref p0, .int 1, .int 0, .int 100, .int 7, .int 14, .int 3, .int 1, .int 8])), (p0, .inl (cI, 8, .inl (upd f0 0 2)))] := hD
  have hP9 := hP.sub (ws' := [(h0, .inr (5, [.ref p0, .int 1, .int 0, .int 100, .int 7, .int 14, .int 3, .int 1, .int 8])), (p0, .inl (cI, 8, .inl (upd f0 0 2)))]) [0, 1] rfl
  have hD9 := hD.sub (ws' := [(h0, .inr (5, [.ref p0, .int 1, .int 0, .int 100, .int 7, .int 14, .int 3, .int 1, .int 8])), (p0, .inl (cI, 8, .inl (upd f0 0 2)))]) [0, 1] (by decide) rfl
  exact W.vret hx hb hr (fun t ht hW => ⟨⟨(upd f0 0 2, (1 : Int32), (0 : Int32), (100 : Int32), (7 : Int32), (14 : Int32), (3 : Int32), (1 : Int32), (8 : Int32)), rfl, trivial, by rw [ht]; exact hP9, va_K.moved hW.alike hK, hD9⟩, hS.F ht⟩) hS.2.2 dX5_sayNothing_51

set_option maxHeartbeats 4000000 in
set_option maxRecDepth 100000 in
theorem g_X5_take (l : Launch) (D : va_G) (cB cI cJ cZ : ClassId) (sz : Nat) (h0 p0 : Nat) (b1 b2 b3 b4 b5 b6 b7 b8 : Int32) (f0 : Nat → Int32) (o0 o1 : Nat) (d1 d2 d3 d4 d5 d6 d7 d8 : Int32) (f1 : Nat → Int32) : Met l yX5_takeOver wsX5_takeOver ({ frames := 1, cells := 0, slots := 0, locals := 60 } : Room) (cPre D (aTy cB cI cJ cZ) [(h0, .inr (5, [.ref p0, .int b1, .int b2, .int b3, .int b4, .int b5, .int b6, .int b7, .int b8])), (p0, .inl (cI, 8, .inl f0)), (o0, .inr (5, [.ref o1, .int d1, .int d2, .int d3, .int d4, .int d5, .int d6, .int d7, .int d8])), (o1, .inl (cI, 8, .inl f1))] sz [.ref h0, .ref o0]) (va_Qv (fun (u : (Nat → Int32) × Int32 × Int32 × Int32 × Int32 × Int32 × Int32 × Int32 × Int32) => True) (cB_ D (aTy cB cI cJ cZ) (va_A [(h0, .inr (5, [.ref p0, .int b1, .int b2, .int b3, .int b4, .int b5, .int b6, .int b7, .int b8])), (p0, .inl (cI, 8, .inl f0)), (o0, .inr (5, [.ref o1, .int d1, .int d2, .int d3, .int d4, .int d5, .int d6, .int d7, .int d8])), (o1, .inl (cI, 8, .inl f1))] sz) (fun u => [(h0, .inr (5, [.ref p0, .int (u.2.1), .int (u.2.2.1), .int (u.2.2.2.1), .int (u.2.2.2.2.1), .int (u.2.2.2.2.2.1), .int (u.2.2.2.2.2.2.1), .int (u.2.2.2.2.2.2.2.1), .int (u.2.2.2.2.2.2.2.2)])), (p0, .inl (cI, 8, .inl u.1)), (o0, .inr (5, [.ref o1, .int d1, .int d2, .int d3, .int d4, .int d5, .int d6, .int d7, .int d8])), (o1, .inl (cI, 8, .inl f1))])) (va_A [(h0, .inr (5, [.ref p0, .int b1, .int b2, .int b3, .int b4, .int b5, .int b6, .int b7, .int b8])), (p0, .inl (cI, 8, .inl f0)), (o0, .inr (5, [.ref o1, .int d1, .int d2, .int d3, .int d4, .int d5, .int d6, .int d7, .int d8])), (o1, .inl (cI, 8, .inl f1))] sz)) 0 0 (va_A [(h0, .inr (5, [.ref p0, .int b1, .int b2, .int b3, .int b4, .int b5, .int b6, .int b7, .int b8])), (p0, .inl (cI, 8, .inl f0)), (o0, .inr (5, [.ref o1, .int d1, .int d2, .int d3, .int d4, .int d5, .int d6, .int d7, .int d8])), (o1, .inl (cI, 8, .inl f1))] sz) := by
  refine Met.ofW (cc := cX5_takeOver) (maxL := 2) (ret := none) (by decide) rfl ?_
  intro p e s m args below meth c s₁ B hml hv
  obtain ⟨rfl, hsz, hP, hK, hD0⟩ := hv
  have hx := B.exec
  have hb := B.bytes
  have hr := B.returns
  have hts := atoms_spec (ws := wsX5_takeOver) B.pre
  have hown : s.vm.findClass RX5 = some m.cls := findClass_of_methodNamed B.named
  have hlocks := B.notSynchronized
  subst hsz
  have hD := hD0.self (sz := s.heap.size)
  generalize hAe : va_A [(h0, .inr (5, [.ref p0, .int b1, .int b2, .int b3, .int b4, .int b5, .int b6, .int b7, .int b8])), (p0, .inl (cI, 8, .inl f0)), (o0, .inr (5, [.ref o1, .int d1, .int d2, .int d3, .int d4, .int d5, .int d6, .int d7, .int d8])), (o1, .inl (cI, 8, .inl f1))] s.heap.size = A at hD ⊢
  have hA : ∀ q : Nat, s.heap.size ≤ q → A q := fun q h => by rw [← hAe]; exact Or.inr h
  have hS : va_S A s.heap s.heap [] := va_S.rf
  have hP : va_P D vwCl [(h0, .inr (5, [.ref p0, .int b1, .int b2, .int b3, .int b4, .int b5, .int b6, .int b7, .int b8])), (p0, .inl (cI, 8, .inl f0)), (o0, .inr (5, [.ref o1, .int d1, .int d2, .int d3, .int d4, .int d5, .int d6, .int d7, .int d8])), (o1, .inl (cI, 8, .inl f1))] s.heap := hP
  have w_1 : ∀ w ∈ wsX50, w ∈ wsX5_takeOver := by decide +kernel
  have w_2 := hts (Cond.fieldLink RX5 11 "BlueCoats$Statutes" "cycle" "[I") (by decide +kernel)
  have w_3 := hts (Cond.methodLink RX5 43 arraycopyName) (by decide +kernel)
  have w_4 := hts (Cond.native arraycopyName) (by decide +kernel)
  have w_5 := hts (Cond.static arraycopyName) (by decide +kernel)
  have w_6 := hts (Cond.initialized "java/lang/System") (by decide +kernel)
  have w_7 := hts (Cond.fieldLink RX5 18 "BlueCoats$Statutes" "ways" "I") (by decide +kernel)
  have w_8 := hts (Cond.fieldLink RX5 22 "BlueCoats$Statutes" "next" "I") (by decide +kernel)
  have w_9 := hts (Cond.fieldLink RX5 25 "BlueCoats$Statutes" "vote" "I") (by decide +kernel)
  have w_10 := hts (Cond.fieldLink RX5 28 "BlueCoats$Statutes" "ageFrom" "I") (by decide +kernel)
  have w_11 := hts (Cond.fieldLink RX5 31 "BlueCoats$Statutes" "ageTo" "I") (by decide +kernel)
  have w_12 := hts (Cond.fieldLink RX5 34 "BlueCoats$Statutes" "wear" "I") (by decide +kernel)
  have w_13 := hts (Cond.fieldLink RX5 37 "BlueCoats$Statutes" "spare" "I") (by decide +kernel)
  have w_14 := hts (Cond.fieldLink RX5 40 "BlueCoats$Statutes" "places" "I") (by decide +kernel)
  have hl := lv_entry ([.ref h0, .ref o0]) (n := 2) (Nat.le_of_ble_eq_true rfl)
  rw [lg_entry_eq]
  generalize (lg_sl ([.ref h0, .ref o0]) ++ List.replicate (2 - (lg_sl ([.ref h0, .ref o0])).length) Slot.unset).toArray = ls at hl ⊢
  have hl : lv_has ls 2 [(0, .ref h0), (1, .ref o0)] := hl
  refine lv_aload_n hx hb dX5_takeOver_0 rfl (lv_at hl 1 rfl) ?_
  refine va_get (D := D) (ci := 5) (v := .ref o1) (C := RX5) (T := TX5) (N := 9) hx hb hts w_1 hown hK hP 2 rfl rfl 0 (by decide) w_2 (fun _ h9 => h9) rfl dX5_takeOver_1 ?_
  refine lv_iconst (v := 0) hx hb dX5_takeOver_4 (by decide) ?_
  refine lv_aload_n hx hb dX5_takeOver_5 rfl (lv_at hl 0 rfl) ?_
  refine va_get (D := D) (ci := 5) (v := .ref p0) (C := RX5) (T := TX5) (N := 9) hx hb hts w_1 hown hK hP 0 rfl rfl 0 (by decide) w_2 (fun _ h9 => h9) rfl dX5_takeOver_6 ?_
  refine lv_iconst (v := 0) hx hb dX5_takeOver_9 (by decide) ?_
  refine lv_bipush (v := 8) hx hb dX5_takeOver_10 (by decide) ?_
  refine va_copyi hx hb (by rw [hml]; exact hl.1.symm) hown w_3 w_4 w_5 w_6 hK hP hD hS 3 1 1 1 rfl rfl rfl rfl rfl (by decide) (by decide) (by decide) (by decide) (by decide) (fun _ _ => rfl) (Nat.le_of_ble_eq_true rfl) (by decide) dX5_takeOver_12 (fun H locs hP hD hS => ?_)
  have hP : va_P D vwCl [(h0, .inr (5, [.ref p0, .int b1, .int b2, .int b3, .int b4, .int b5, .int b6, .int b7, .int b8])), (p0, .inl (cI, 8, .inl (va_cpy f1 f0 0 0 8))), (o0, .inr (5, [.ref o1, .int d1, .int d2, .int d3, .int d4, .int d5, .int d6, .int d7, .int d8])), (o1, .inl (cI, 8, .inl f1))] H := hP
  have hD : va_D A [(h0, .inr (5, [.ref p0, .int b1, .int b2, .int b3, .int b4, .int b5, .int b6, .int b7, .int b8])), (p0, .inl (cI, 8, .inl (va_cpy f1 f0 0 0 8))), (o0, .inr (5, [.ref o1, .int d1, .int d2, .int d3, .int d4, .int d5, .int d6, .int d7, .int d8])), (o1, .inl (cI, 8, .inl f1))] := hD
  refine lv_aload_n hx hb dX5_takeOver_15 rfl (lv_at hl 0 rfl) ?_
  refine lv_aload_n hx hb dX5_takeOver_16 rfl (lv_at hl 1 rfl) ?_
  refine va_get (D := D) (ci := 5) (v := .int d1) (C := RX5) (T := TX5) (N := 9) hx hb hts w_1 hown hK hP 2 rfl rfl 1 (by decide) w_7 (fun _ h9 => h9) rfl dX5_takeOver_17 ?_
  refine va_put (D := D) (ci := 5) (v := .int d1) (ty := .int) (C := RX5) (T := TX5) (N := 9) hx hb hts w_1 tyX5 tyX5_ok nmX5 hown hK hP hD hS 0 rfl rfl 1 (by decide) w_7 (fun _ h9 => h9) rfl (by decide +kernel) rfl rfl (Nat.le_of_ble_eq_true rfl) dX5_takeOver_20 (fun H locs hP hD hS => ?_)
  have hP : va_P D vwCl [(h0, .inr (5, [.ref p0, .int d1, .int b2, .int b3, .int b4, .int b5, .int b6, .int b7, .int b8])), (p0, .inl (cI, 8, .inl (va_cpy f1 f0 0 0 8))), (o0, .inr (5, [.ref o1, .int d1, .int d2, .int d3, .int d4, .int d5, .int d6, .int d7, .int d8])), (o1, .inl (cI, 8, .inl f1))] H := hP
  have hD : va_D A [(h0, .inr (5, [.ref p0, .int d1, .int b2, .int b3, .int b4, .int b5, .int b6, .int b7, .int b8])), (p0, .inl (cI, 8, .inl (va_cpy f1 f0 0 0 8))), (o0, .inr (5, [.ref o1, .int d1, .int d2, .int d3, .int d4, .int d5, .int d6, .int d7, .int d8])), (o1, .inl (cI, 8, .inl f1))] := hD
  refine lv_aload_n hx hb dX5_takeOver_23 rfl (lv_at hl 0 rfl) ?_
  refine lv_iconst (v := 0) hx hb dX5_takeOver_24 (by decide) ?_
  refine va_put (D := D) (ci := 5) (v := .int 0) (ty := .int) (C := RX5) (T := TX5) (N := 9) hx hb hts w_1 tyX5 tyX5_ok nmX5 hown hK hP hD hS 0 rfl rfl 2 (by decide) w_8 (fun _ h9 => h9) rfl (by decide +kernel) rfl rfl (Nat.le_of_ble_eq_true rfl) dX5_takeOver_25 (fun H locs hP hD hS => ?_)
  have hP : va_P D vwCl [(h0, .inr (5, [.ref p0, .int d1, .int 0, .int b3, .int b4, .int b5, .int b6, .int b7, .int b8])), (p0, .inl (cI, 8, .inl (va_cpy f1 f0 0 0 8))), (o0, .inr (5, [.ref o1, .int d1, .int d2, .int d3, .int d4, .int d5, .int d6, .int d7, .int d8])), (o1, .inl (cI, 8, .inl f1))] H := hP
  have hD : va_D A [(h0, .inr (5, [.ref p0, .int d1, .int 0, .int b3, .int b4, .int b5, .int b6, .int b7, .int b8])), (p0, .inl (cI, 8, .inl (va_cpy f1 f0 0 0 8))), (o0, .inr (5, [.ref o1, .int d1, .int d2, .int d3, .int d4, .int d5, .int d6, .int d7, .int d8])), (o1, .inl (cI, 8, .inl f1))] := hD
  refine lv_aload_n hx hb dX5_takeOver_28 rfl (lv_at hl 0 rfl) ?_
  refine lv_aload_n hx hb dX5_takeOver_29 rfl (lv_at hl 1 rfl) ?_
  refine va_get (D := D) (ci := 5) (v := .int d3) (C := RX5) (T := TX5) (N := 9) hx hb hts w_1 hown hK hP 2 rfl rfl 3 (by decide) w_9 (fun _ h9 => h9) rfl dX5_takeOver_30 ?_
  refine va_put (D := D) (ci := 5) (v := .int d3) (ty := .int) (C := RX5) (T := TX5) (N := 9) hx hb hts w_1 tyX5 tyX5_ok nmX5 hown hK hP hD hS 0 rfl rfl 3 (by decide) w_9 (fun _ h9 => h9) rfl (by decide +kernel) rfl rfl (Nat.le_of_ble_eq_true rfl) dX5_takeOver_33 (fun H locs hP hD hS => ?_)
  have hP : va_P D vwCl [(h0, .inr (5, [.ref p0, .int d1, .int 0, .int d3, .int b4, .int b5, .int b6, .int b7, .int b8])), (p0, .inl (cI, 8, .inl (va_cpy f1 f0 0 0 8))), (o0, .inr (5, [.ref o1, .int d1, .int d2, .int d3, .int d4, .int d5, .int d6, .int d7, .int d8])), (o1, .inl (cI, 8, .inl f1))] H := hP
  have hD : va_D A [(h0, .inr (5, [.ref p0, .int d1, .int 0, .int d3, .int b4, .int b5, .int b6, .int b7, .int b8])), (p0, .inl (cI, 8, .inl (va_cpy f1 f0 0 0 8))), (o0, .inr (5, [.ref o1, .int d1, .int d2, .int d3, .int d4, .int d5, .int d6, .int d7, .int d8])), (o1, .inl (cI, 8, .inl f1))] := hD
  refine lv_aload_n hx hb dX5_takeOver_36 rfl (lv_at hl 0 rfl) ?_
  refine lv_aload_n hx hb dX5_takeOver_37 rfl (lv_at hl 1 rfl) ?_
  refine va_get (D := D) (ci := 5) (v := .int d4) (C := RX5) (T := TX5) (N := 9) hx hb hts w_1 hown hK hP 2 rfl rfl 4 (by decide) w_10 (fun _ h9 => h9) rfl dX5_takeOver_38 ?_
  refine va_put (D := D) (ci := 5) (v := .int d4) (ty := .int) (C := RX5) (T := TX5) (N := 9) hx hb hts w_1 tyX5 tyX5_ok nmX5 hown hK hP hD hS 0 rfl rfl 4 (by decide) w_10 (fun _ h9 => h9) rfl (by decide +kernel) rfl rfl (Nat.le_of_ble_eq_true rfl) dX5_takeOver_41 (fun H locs hP hD hS => ?_)
  have hP : va_P D vwCl [(h0, .inr (5, [.ref p0, .int d1, .int 0, .int d3, .int d4, .int b5, .int b6, .int b7, .int b8])), (p0, .inl (cI, 8, .inl (va_cpy f1 f0 0 0 8))), (o0, .inr (5, [.ref o1, .int d1, .int d2, .int d3, .int d4, .int d5, .int d6, .int d7, .int d8])), (o1, .inl (cI, 8, .inl f1))] H := hP
  have hD : va_D A [(h0, .inr (5, [.ref p0, .int d1, .int 0, .int d3, .int d4, .int b5, .int b6, .int b7, .int b8])), (p0, .inl (cI, 8, .inl (va_cpy f1 f0 0 0 8))), (o0, .inr (5, [.ref o1, .int d1, .int d2, .int d3, .int d4, .int d5, .int d6, .int d7, .int d8])), (o1, .inl (cI, 8, .inl f1))] := hD
  refine lv_aload_n hx hb dX5_takeOver_44 rfl (lv_at hl 0 rfl) ?_
  refine lv_aload_n hx hb dX5_takeOver_45 rfl (lv_at hl 1 rfl) ?_
  refine va_get (D := D) (ci := 5) (v := .int d5) (C := RX5) (T := TX5) (N := 9) hx hb hts w_1 hown hK hP 2 rfl rfl 5 (by decide) w_11 (fun _ h9 => h9) rfl dX5_takeOver_46 ?_
  refine va_put (D := D) (ci := 5) (v := .int d5) (ty := .int) (C := RX5) (T := TX5) (N := 9) hx hb hts w_1 tyX5 tyX5_ok nmX5 hown hK hP hD hS 0 rfl rfl 5 (by decide) w_11 (fun _ h9 => h9) rfl (by decide +kernel) rfl rfl (Nat.le_of_ble_eq_true rfl) dX5_takeOver_49 (fun H locs hP hD hS => ?_)
  have hP : va_P D vwCl [(h0, .inr (5, [.ref p0, .int d1, .int 0, .int d3, .int d4, .int d5, .int b6, .int b7, .int b8])), (p0, .inl (cI, 8, .inl (va_cpy f1 f0 0 0 8))), (o0, .inr (5, [.ref o1, .int d1, .int d2, .int d3, .int d4, .int d5, .int d6, .int d7, .int d8])), (o1, .inl (cI, 8, .inl f1))] H := hP
  have hD : va_D A [(h0, .inr (5, [.ref p0, .int d1, .int 0, .int d3, .int d4, .int d5, .int b6, .int b7, .int b8])), (p0, .inl (cI, 8, .inl (va_cpy f1 f0 0 0 8))), (o0, .inr (5, [.ref o1, .int d1, .int d2, .int d3, .int d4, .int d5, .int d6, .int d7, .int d8])), (o1, .inl (cI, 8, .inl f1))] := hD
  refine lv_aload_n hx hb dX5_takeOver_52 rfl (lv_at hl 0 rfl) ?_
  refine lv_aload_n hx hb dX5_takeOver_53 rfl (lv_at hl 1 rfl) ?_
  refine va_get (D := D) (ci := 5) (v := .int d6) (C := RX5) (T := TX5) (N := 9) hx hb hts w_1 hown hK hP 2 rfl rfl 6 (by decide) w_12 (fun _ h9 => h9) rfl dX5_takeOver_54 ?_
  refine va_put (D := D) (ci := 5) (v := .int d6) (ty := .int) (C := RX5) (T := TX5) (N := 9) hx hb hts w_1 tyX5 tyX5_ok nmX5 hown hK hP hD hS 0 rfl rfl 6 (by decide) w_12 (fun _ h9 => h9) rfl (by decide +kernel) rfl rfl (Nat.le_of_ble_eq_true rfl) dX5_takeOver_57 (fun H locs hP hD hS => ?_)
  have hP : va_P D vwCl [(h0, .inr (5, [.ref p0, .int d1, .int 0, .int d3, .int d4, .int d5, .int d6, .int b7, .int b8])), (p0, .inl (cI, 8, .inl (va_cpy f1 f0 0 0 8))), (o0, .inr (5, [.ref o1, .int d1, .int d2, .int d3, .int d4, .int d5, .int d6, .int d7, .int d8])), (o1, .inl (cI, 8, .inl f1))] H := hP
  have hD : va_D A [(h0, .inr (5, [.ref p0, .int d1, .int 0, .int d3, .int d4, .int d5, .int d6, .int b7, .int b8])), (p0, .inl (cI, 8, .inl (va_cpy f1 f0 0 0 8))), (o0, .inr (5, [.ref o1, .int d1, .int d2, .int d3, .int d4, .int d5, .int d6, .int d7, .int d8])), (o1, .inl (cI, 8, .inl f1))] := hD
  refine lv_aload_n hx hb dX5_takeOver_60 rfl (lv_at hl 0 rfl) ?_
  refine lv_aload_n hx hb dX5_takeOver_61 rfl (lv_at hl 1 rfl) ?_
  refine va_get (D := D) (ci := 5) (v := .int d7) (C := RX5) (T := TX5) (N := 9) hx hb hts w_1 hown hK hP 2 rfl rfl 7 (by decide) w_13 (fun _ h9 => h9) rfl dX5_takeOver_62 ?_
  refine va_put (D := D) (ci := 5) (v := .int d7) (ty := .int) (C := RX5) (T := TX5) (N := 9) hx hb hts w_1 tyX5 tyX5_ok nmX5 hown hK hP hD hS 0 rfl rfl 7 (by decide) w_13 (fun _ h9 => h9) rfl (by decide +kernel) rfl rfl (Nat.le_of_ble_eq_true rfl) dX5_takeOver_65 (fun H locs hP hD hS => ?_)
  have hP : va_P D vwCl [(h0, .inr (5, [.ref p0, .int d1, .int 0, .int d3, .int d4, .int d5, .int d6, .int d7, .int b8])), (p0, .inl (cI, 8, .inl (va_cpy f1 f0 0 0 8))), (o0, .inr (5, [.ref o1, .int d1, .int d2, .int d3, .int d4, .int d5, .int d6, .int d7, .int d8])), (o1, .inl (cI, 8, .inl f1))] H := hP
  have hD : va_D A [(h0, .inr (5, [.ref p0, .int d1, .int 0, .int d3, .int d4, .int d5, .int d6, .int d7, .int b8])), (p0, .inl (cI, 8, .inl (va_cpy f1 f0 0 0 8))), (o0, .inr (5, [.ref o1, .int d1, .int d2, .int d3, .int d4, .int d5, .int d6, .int d7, .int d8])), (o1, .inl (cI, 8, .inl f1))] := hD
  refine lv_aload_n hx hb dX5_takeOver_68 rfl (lv_at hl 0 rfl) ?_
  refine lv_aload_n hx hb dX5_takeOver_69 rfl (lv_at hl 1 rfl) ?_
  refine va_get (D := D) (ci := 5) (v := .int d8) (C := RX5) (T := TX5) (N := 9) hx hb hts w_1 hown hK hP 2 rfl rfl 8 (by decide) w_14 (fun _ h9 => h9) rfl dX5_takeOver_70 ?_
  refine va_put (D := D) (ci := 5) (v := .int d8) (ty := .int) (C := RX5) (T := TX5) (N := 9) hx hb hts w_1 tyX5 tyX5_ok nmX5 hown hK hP hD hS 0 rfl rfl 8 (by decide) w_14 (fun _ h9 => h9) rfl (by decide +kernel) rfl rfl (Nat.le_of_ble_eq_true rfl) dX5_takeOver_73 (fun H locs hP hD hS => ?_)
  have hP : va_P D vwCl [(h0, .inr (5, [.ref p0, .int d1, .int 0, .int d3, .int d4, .int d5, .int d6, .int d7, .int d8])), (p0, .inl (cI, 8, .inl (va_cpy f1 f0 0 0 8))), (o0, .inr (5, [.ref o1, .int d1, .int d2, .int d3, .int d4, .int d5, .int d6, .int d7, .int d8])), (o1, .inl (cI, 8, .inl f1))] H := hP
  have hD : va_D A [(h0, .inr (5, [.ref p0, .int d1, .int 0, .int d3, .int d4, .int d5, .int d6, .int d7, .int d8])), (p0, .inl (cI, 8, .inl (va_cpy f1 f0 0 0 8))), (o0, .inr (5, [.ref o1, .int d1, .int d2, .int d3, .int d4, .int d5, .int d6, .int d7, .int d8])), (o1, .inl (cI, 8, .inl f1))] := hD
  have hP9 := hP.sub (ws' := [(h0, .inr (5, [.ref p0, .int d1, .int 0, .int d3, .int d4, .int d5, .int d6, .int d7, .int d8])), (p0, .inl (cI, 8, .inl (va_cpy f1 f0 0 0 8))), (o0, .inr (5, [.ref o1, .int d1, .int d2, .int d3, .int d4, .int d5, .int d6, .int d7, .int d8])), (o1, .inl (cI, 8, .inl f1))]) [0, 1, 2, 3] rfl
  have hD9 := hD.sub (ws' := [(h0, .inr (5, [.ref p0, .int d1, .int 0, .int d3, .int d4, .int d5, .int d6, .int d7, .int d8])), (p0, .inl (cI, 8, .inl (va_cpy f1 f0 0 0 8))), (o0, .inr (5, [.ref o1, .int d1, .int d2, .int d3, .int d4, .int d5, .int d6, .int d7, .int d8])), (o1, .inl (cI, 8, .inl f1))]) [0, 1, 2, 3] (by decide) rfl
  exact W.vret hx hb hr (fun t ht hW => ⟨⟨((va_cpy f1 f0 0 0 8), (d1 : Int32), (0 : Int32), (d3 : Int32), (d4 : Int32), (d5 : Int32), (d6 : Int32), (d7 : Int32), (d8 : Int32)), rfl, trivial, by rw [ht]; exact hP9, va_K.moved hW.alike hK, hD9⟩, hS.F ht⟩) hS.2.2 dX5_takeOver_76

