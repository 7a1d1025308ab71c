set_option maxHeartbeats 4000000 in
set_option maxRecDepth 100000 in
theorem g_X1_canBe (l : Launch) (D : va_G) (cB cI cJ cZ : ClassId) (q0 q1 q2 q3 : Int32) : Met l yX1_canBe wsX1_canBe ({ frames := 0, cells := 0, slots := 0, locals := 0 } : Room) (cRd D (aTy cB cI cJ cZ) [] [.int q0, .int q1, .int q2, .int q3]) (vp_Si (fun r : Int32 => r = if okC q0 q1 q2 q3 then 1 else 0)) 0 0 (fun _ => False) := by
  refine Met.ofW (cc := cX1_canBe) (maxL := 4) (ret := (some .boolean)) (by decide) rfl ?_
  intro p e s m args below meth c s₁ B hml hv
  obtain ⟨rfl, hP, hK⟩ := hv
  have hx := B.exec
  have hb := B.bytes
  have hr := B.returns
  have hts := atoms_spec (ws := wsX1_canBe) B.pre
  have hown : s.vm.findClass RX1 = some m.cls := findClass_of_methodNamed B.named
  have hlocks := B.notSynchronized
  have hP : va_P D vwCl [] s.heap := hP
  have hl := lv_entry ([.int q0, .int q1, .int q2, .int q3]) (n := 4) (Nat.le_of_ble_eq_true rfl)
  rw [lg_entry_eq]
  generalize (lg_sl ([.int q0, .int q1, .int q2, .int q3]) ++ List.replicate (4 - (lg_sl ([.int q0, .int q1, .int q2, .int q3])).length) Slot.unset).toArray = ls at hl ⊢
  have hl : lv_has ls 4 [(0, .int q0), (1, .int q1), (2, .int q2), (3, .int q3)] := hl
  refine lv_iload_n hx hb dX1_canBe_0 rfl (lv_at hl 0 rfl) ?_
  refine lv_if_lt (tgt := 45) hx hb dX1_canBe_1 (by decide) (fun c_1 => ?_) (fun c_1 => ?_)
  ·
    refine lv_iconst (v := 0) hx hb dX1_canBe_45 (by decide) ?_
    exact W.zret (v := 0) hx hb hr rfl (fun t ht hW => ⟨_, rfl, (if_neg (fun h => h.1 c_1)).symm, ht⟩) (fun q h => nomatch h) dX1_canBe_46
  ·
    refine lv_iload_n hx hb dX1_canBe_4 rfl (lv_at hl 0 rfl) ?_
    refine lv_bipush (v := 20) hx hb dX1_canBe_5 (by decide) ?_
    refine lv_icmp_gt (tgt := 45) hx hb dX1_canBe_7 (by decide) (fun c_7 => ?_) (fun c_7 => ?_)
    ·
      refine lv_iconst (v := 0) hx hb dX1_canBe_45 (by decide) ?_
      exact W.zret (v := 0) hx hb hr rfl (fun t ht hW => ⟨_, rfl, (if_neg (fun h => h.2.1 c_7)).symm, ht⟩) (fun q h => nomatch h) dX1_canBe_46
    ·
      refine lv_iload_n hx hb dX1_canBe_10 rfl (lv_at hl 1 rfl) ?_
      refine lv_if_lt (tgt := 45) hx hb dX1_canBe_11 (by decide) (fun c_11 => ?_) (fun c_11 => ?_)
      ·
        refine lv_iconst (v := 0) hx hb dX1_canBe_45 (by decide) ?_
        exact W.zret (v := 0) hx hb hr rfl (fun t ht hW => ⟨_, rfl, (if_neg (fun h => h.2.2.1 c_11)).symm, ht⟩) (fun q h => nomatch h) dX1_canBe_46
      ·
        refine lv_iload_n hx hb dX1_canBe_14 rfl (lv_at hl 1 rfl) ?_
        refine lv_bipush (v := 99) hx hb dX1_canBe_15 (by decide) ?_
        refine lv_icmp_gt (tgt := 45) hx hb dX1_canBe_17 (by decide) (fun c_17 => ?_) (fun c_17 => ?_)
        ·
          refine lv_iconst (v := 0) hx hb dX1_canBe_45 (by decide) ?_
          exact W.zret (v := 0) hx hb hr rfl (fun t ht hW => ⟨_, rfl, (if_neg (fun h => h.2.2.2.1 c_17)).symm, ht⟩) (fun q h => nomatch h) dX1_canBe_46
        ·
          refine lv_iload_n hx hb dX1_canBe_20 rfl (lv_at hl 2 rfl) ?_
          refine lv_bipush (v := 10) hx hb dX1_canBe_21 (by decide) ?_
          refine lv_icmp_lt (tgt := 45) hx hb dX1_canBe_23 (by decide) (fun c_23 => ?_) (fun c_23 => ?_)
          ·
            refine lv_iconst (v := 0) hx hb dX1_canBe_45 (by decide) ?_
            exact W.zret (v := 0) hx hb hr rfl (fun t ht hW => ⟨_, rfl, (if_neg (fun h => h.2.2.2.2.1 c_23)).symm, ht⟩) (fun q h => nomatch h) dX1_canBe_46
          ·
            refine lv_iload_n hx hb dX1_canBe_26 rfl (lv_at hl 2 rfl) ?_
            refine lv_bipush (v := 60) hx hb dX1_canBe_27 (by decide) ?_
            refine lv_icmp_gt (tgt := 45) hx hb dX1_canBe_29 (by decide) (fun c_29 => ?_) (fun c_29 => ?_)
            ·
              refine lv_iconst (v := 0) hx hb dX1_canBe_45 (by decide) ?_
              exact W.zret (v := 0) hx hb hr rfl (fun t ht hW => ⟨_, rfl, (if_neg (fun h => h.2.2.2.2.2.1 c_29)).symm, ht⟩) (fun q h => nomatch h) dX1_canBe_46
            ·
              refine lv_iload_n hx hb dX1_canBe_32 rfl (lv_at hl 3 rfl) ?_
              refine lv_if_lt (tgt := 45) hx hb dX1_canBe_33 (by decide) (fun c_33 => ?_) (fun c_33 => ?_)
              ·
                refine lv_iconst (v := 0) hx hb dX1_canBe_45 (by decide) ?_
                exact W.zret (v := 0) hx hb hr rfl (fun t ht hW => ⟨_, rfl, (if_neg (fun h => h.2.2.2.2.2.2.1 c_33)).symm, ht⟩) (fun q h => nomatch h) dX1_canBe_46
              ·
                refine lv_iload_n hx hb dX1_canBe_36 rfl (lv_at hl 3 rfl) ?_
                refine lv_iconst (v := 4) hx hb dX1_canBe_37 (by decide) ?_
                refine lv_icmp_gt (tgt := 45) hx hb dX1_canBe_38 (by decide) (fun c_38 => ?_) (fun c_38 => ?_)
                ·
                  refine lv_iconst (v := 0) hx hb dX1_canBe_45 (by decide) ?_
                  exact W.zret (v := 0) hx hb hr rfl (fun t ht hW => ⟨_, rfl, (if_neg (fun h => h.2.2.2.2.2.2.2 c_38)).symm, ht⟩) (fun q h => nomatch h) dX1_canBe_46
                ·
                  refine lv_iconst (v := 1) hx hb dX1_canBe_41 (by decide) ?_
                  refine lv_goto (tgt := 46) hx hb dX1_canBe_42 (by decide) ?_
                  exact W.zret (v := 1) hx hb hr rfl (fun t ht hW => ⟨_, rfl, (if_pos ⟨c_1, c_7, c_11, c_17, c_23, c_29, c_33, c_38⟩).symm, ht⟩) (fun q h => nomatch h) dX1_canBe_46

set_option maxHeartbeats 4000000 in
set_option maxRecDepth 100000 in
theorem g_X1_add (l : Launch) (D : va_G) (cB cI cJ cZ : ClassId) (sz : Nat) (h0 p0 p1 p2 p3 p4 p5 a : Nat) (f0 f1 f2 f3 f4 f5 : Nat → Int32) (q0 q1 q2 q3 : Int32) (ha : a ≤ 16) : Met l yX1_add wsX1_add ({ frames := 1, cells := 0, slots := 0, locals := 23 } : Room) (cPre D (aTy cB cI cJ cZ) [(h0, .inr (1, [.ref p0, .ref p1, .ref p2, .ref p3, .ref p4, .ref p5, .int (nI a)])), (p0, .inl (cI, 16, .inl f0)), (p1, .inl (cI, 16, .inl f1)), (p2, .inl (cI, 16, .inl f2)), (p3, .inl (cI, 16, .inl f3)), (p4, .inl (cI, 16, .inl f4)), (p5, .inl (cI, 16, .inl f5))] sz [.ref h0, .int q0, .int q1, .int q2, .int q3]) (va_Qi (fun (r : Int32) (u : Nat × (Nat → Int32) × (Nat → Int32) × (Nat → Int32) × (Nat → Int32) × (Nat → Int32) × (Nat → Int32)) => (r = -1 ∧ u.1 = a ∧ (a = 16 ∨ ¬ okC q0 q1 q2 q3)) ∨ (a < 16 ∧ okC q0 q1 q2 q3 ∧ u.1 = a + 1 ∧ r = nI a)) (cB_ D (aTy cB cI cJ cZ) (va_A [(h0, .inr (1, [.ref p0, .ref p1, .ref p2, .ref p3, .ref p4, .ref p5, .int (nI a)])), (p0, .inl (cI, 16, .inl f0)), (p1, .inl (cI, 16, .inl f1)), (p2, .inl (cI, 16, .inl f2)), (p3, .inl (cI, 16, .inl f3)), (p4, .inl (cI, 16, .inl f4)), (p5, .inl (cI, 16, .inl f5))] sz) (fun u => [(h0, .inr (1, [.ref p0, .ref p1, .ref p2, .ref p3, .ref p4, .ref p5, .int (nI (u.1))])), (p0, .inl (cI, 16, .inl u.2.1)), (p1, .inl (cI, 16, .inl u.2.2.1)), (p2, .inl (cI, 16, .inl u.2.2.2.1)), (p3, .inl (cI, 16, .inl u.2.2.2.2.1)), (p4, .inl (cI, 16, .inl u.2.2.2.2.2.1)), (p5, .inl (cI, 16, .inl u.2.2.2.2.2.2))])) (va_A [(h0, .inr (1, [.ref p0, .ref p1, .ref p2, .ref p3, .ref p4, .ref p5, .int (nI a)])), (p0, .inl (cI, 16, .inl f0)), (p1, .inl (cI, 16, .inl f1)), (p2, .inl (cI, 16, .inl f2)), (p3, .inl (cI, 16, .inl f3)), (p4, .inl (cI, 16, .inl f4)), (p5, .inl (cI, 16, .inl f5))] sz)) 0 0 (va_A [(h0, .inr (1, [.ref p0, .ref p1, .ref p2, .ref p3, .ref p4, .ref p5, .int (nI a)])), (p0, .inl (cI, 16, .inl f0)), (p1, .inl (cI, 16, .inl f1)), (p2, .inl (cI, 16, .inl f2)), (p3, .inl (cI, 16, .inl f3)), (p4, .inl (cI, 16, .inl f4)), (p5, .inl (cI, 16, .inl f5))] sz) := by
  refine Met.ofW (cc := cX1_add) (maxL := 5) (ret := (some .int)) (by decide) rfl ?_
  intro p e s m args below meth c s₁ B hml hv
  obtain ⟨rfl, hsz, hP, hK, hD0⟩ := hv
  have hx := B.exec
  have hb := B.bytes
  have hr := B.returns
  have hts := atoms_spec (ws := wsX1_add) B.pre
  have hown : s.vm.findClass RX1 = some m.cls := findClass_of_methodNamed B.named
  have hlocks := B.notSynchronized
  subst hsz
  have hD := hD0.self (sz := s.heap.size)
  generalize hAe : va_A [(h0, .inr (1, [.ref p0, .ref p1, .ref p2, .ref p3, .ref p4, .ref p5, .int (nI a)])), (p0, .inl (cI, 16, .inl f0)), (p1, .inl (cI, 16, .inl f1)), (p2, .inl (cI, 16, .inl f2)), (p3, .inl (cI, 16, .inl f3)), (p4, .inl (cI, 16, .inl f4)), (p5, .inl (cI, 16, .inl f5))] s.heap.size = A at hD ⊢
  have hA : ∀ q : Nat, s.heap.size ≤ q → A q := fun q h => by rw [← hAe]; exact Or.inr h
  have hS : va_S A s.heap s.heap [] := va_S.rf
  have hP : va_P D vwCl [(h0, .inr (1, [.ref p0, .ref p1, .ref p2, .ref p3, .ref p4, .ref p5, .int (nI a)])), (p0, .inl (cI, 16, .inl f0)), (p1, .inl (cI, 16, .inl f1)), (p2, .inl (cI, 16, .inl f2)), (p3, .inl (cI, 16, .inl f3)), (p4, .inl (cI, 16, .inl f4)), (p5, .inl (cI, 16, .inl f5))] s.heap := hP
  have w_1 : ∀ w ∈ wsX10, w ∈ wsX1_add := by decide +kernel
  have w_2 := hts (Cond.fieldLink RX1 30 "BlueCoats$Children" "number" "I") (by decide +kernel)
  have w_3 := hts (Cond.fieldLink RX1 11 "BlueCoats$Children" "age" "[I") (by decide +kernel)
  have w_4 := hts (Cond.fieldLink RX1 15 "BlueCoats$Children" "need" "[I") (by decide +kernel)
  have w_5 := hts (Cond.fieldLink RX1 18 "BlueCoats$Children" "size" "[I") (by decide +kernel)
  have w_6 := hts (Cond.fieldLink RX1 21 "BlueCoats$Children" "growth" "[I") (by decide +kernel)
  have w_7 := hts (Cond.fieldLink RX1 24 "BlueCoats$Children" "state" "[I") (by decide +kernel)
  have w_8 := hts (Cond.fieldLink RX1 27 "BlueCoats$Children" "coat" "[I") (by decide +kernel)
  have hl := lv_entry ([.ref h0, .int q0, .int q1, .int q2, .int q3]) (n := 5) (Nat.le_of_ble_eq_true rfl)
  rw [lg_entry_eq]
  generalize (lg_sl ([.ref h0, .int q0, .int q1, .int q2, .int q3]) ++ List.replicate (5 - (lg_sl ([.ref h0, .int q0, .int q1, .int q2, .int q3])).length) Slot.unset).toArray = ls at hl ⊢
  have hl : lv_has ls 5 [(0, .ref h0), (1, .int q0), (2, .int q1), (3, .int q2), (4, .int q3)] := hl
  refine lv_aload_n hx hb dX1_add_0 rfl (lv_at hl 0 rfl) ?_
  refine va_get (D := D) (ci := 1) (v := .int (nI a)) (C := RX1) (T := TX1) (N := 7) hx hb hts w_1 hown hK hP 0 rfl rfl 6 (by decide) w_2 (fun _ h9 => h9) rfl dX1_add_1 ?_
  refine lv_bipush (v := 16) hx hb dX1_add_4 (by decide) ?_
  refine lv_icmp_ge (tgt := 20) hx hb dX1_add_6 (by decide) (fun c_6 => ?_) (fun c_6 => ?_)
  ·
    refine lv_iconst (v := (-1)) hx hb dX1_add_20 (by decide) ?_
    have hP9 := hP.sub (ws' := [(h0, .inr (1, [.ref p0, .ref p1, .ref p2, .ref p3, .ref p4, .ref p5, .int (nI a)])), (p0, .inl (cI, 16, .inl f0)), (p1, .inl (cI, 16, .inl f1)), (p2, .inl (cI, 16, .inl f2)), (p3, .inl (cI, 16, .inl f3)), (p4, .inl (cI, 16, .inl f4)), (p5, .inl (cI, 16, .inl f5))]) [0, 1, 2, 3, 4, 5, 6] rfl
    have hD9 := hD.sub (ws' := [(h0, .inr (1, [.ref p0, .ref p1, .ref p2, .ref p3, .ref p4, .ref p5, .int (nI a)])), (p0, .inl (cI, 16, .inl f0)), (p1, .inl (cI, 16, .inl f1)), (p2, .inl (cI, 16, .inl f2)), (p3, .inl (cI, 16, .inl f3)), (p4, .inl (cI, 16, .inl f4)), (p5, .inl (cI, 16, .inl f5))]) [0, 1, 2, 3, 4, 5, 6] (by decide) rfl
    exact W.iret (v := (-1)) hx hb hr (fun t ht hW => ⟨⟨_, (a, f0, f1, f2, f3, f4, f5), rfl, Or.inl ⟨rfl, rfl, Or.inl (Nat.le_antisymm ha (nI_geg 16 (by omega) (by decide) c_6))⟩, by rw [ht]; exact hP9, va_K.moved hW.alike hK, hD9⟩, hS.F ht⟩) hS.2.2 dX1_add_21
  ·
    refine lv_iload_n hx hb dX1_add_9 rfl (lv_at hl 1 rfl) ?_
    refine lv_iload_n hx hb dX1_add_10 rfl (lv_at hl 2 rfl) ?_
    refine lv_iload_n hx hb dX1_add_11 rfl (lv_at hl 3 rfl) ?_
    refine lv_iload hx hb dX1_add_12 (lv_at hl 4 rfl) ?_
    refine vp_callSi (va_Run.run (va_runS (As := [.int q0, .int q1, .int q2, .int q3]) (rest := []) ⟨hx, hb, hml, hown, hts⟩ (g_X1_canBe l D cB cI cJ cZ q0 q1 q2 q3) (va_cwS 4 hts gX1_add_X1_canBe rfl rfl rfl (by decide +kernel) ⟨Nat.le_of_ble_eq_true rfl, Nat.le_of_ble_eq_true rfl⟩) (pre_SR (hP.sub (ws' := []) [] rfl) hK) rfl rfl hl.1 rfl (lv_room (Nat.le_of_ble_eq_true rfl)) dX1_add_14 ⟨Nat.le_of_ble_eq_true rfl, Nat.le_of_ble_eq_true rfl⟩)) (fun r_1 hw_r_1 => ?_)
    refine lv_if_ne (tgt := 22) hx hb dX1_add_17 (by decide) (fun c_17 => ?_) (fun c_17 => ?_)
    ·
      have h6 : a < 16 := nI_ltg 16 (by omega) (by decide) c_6
      refine lv_aload_n hx hb dX1_add_22 rfl (lv_at hl 0 rfl) ?_
      refine va_get (D := D) (ci := 1) (v := .ref p0) (C := RX1) (T := TX1) (N := 7) hx hb hts w_1 hown hK hP 0 rfl rfl 0 (by decide) w_3 (fun _ h9 => h9) rfl dX1_add_23 ?_
      refine lv_aload_n hx hb dX1_add_26 rfl (lv_at hl 0 rfl) ?_
      refine va_get (D := D) (ci := 1) (v := .int (nI a)) (C := RX1) (T := TX1) (N := 7) hx hb hts w_1 hown hK hP 0 rfl rfl 6 (by decide) w_2 (fun _ h9 => h9) rfl dX1_add_27 ?_
      refine lv_iload_n hx hb dX1_add_30 rfl (lv_at hl 1 rfl) ?_
      refine sv_iast hx hb hK hP hD hS 1 1 rfl rfl (vp_in_nI (by omega) (by omega)) dX1_add_31 (fun g_2 H locs eg_2 hP hD hS => ?_)
      have eg_2 : g_2 = upd f0 a q0 := by rw [eg_2, nI_clamp (by omega)]
      subst eg_2
      have hP : va_P D vwCl [(h0, .inr (1, [.ref p0, .ref p1, .ref p2, .ref p3, .ref p4, .ref p5, .int (nI a)])), (p0, .inl (cI, 16, .inl (upd f0 a q0))), (p1, .inl (cI, 16, .inl f1)), (p2, .inl (cI, 16, .inl f2)), (p3, .inl (cI, 16, .inl f3)), (p4, .inl (cI, 16, .inl f4)), (p5, .inl (cI, 16, .inl f5))] H := hP
      have hD : va_D A [(h0, .inr (1, [.ref p0, .ref p1, .ref p2, .ref p3, .ref p4, .ref p5, .int (nI a)])), (p0, .inl (cI, 16, .inl (upd f0 a q0))), (p1, .inl (cI, 16, .inl f1)), (p2, .inl (cI, 16, .inl f2)), (p3, .inl (cI, 16, .inl f3)), (p4, .inl (cI, 16, .inl f4)), (p5, .inl (cI, 16, .inl f5))] := hD
      refine lv_aload_n hx hb dX1_add_32 rfl (lv_at hl 0 rfl) ?_
      refine va_get (D := D) (ci := 1) (v := .ref p1) (C := RX1) (T := TX1) (N := 7) hx hb hts w_1 hown hK hP 0 rfl rfl 1 (by decide) w_4 (fun _ h9 => h9) rfl dX1_add_33 ?_
      refine lv_aload_n hx hb dX1_add_36 rfl (lv_at hl 0 rfl) ?_
      refine va_get (D := D) (ci := 1) (v := .int (nI a)) (C := RX1) (T := TX1) (N := 7) hx hb hts w_1 hown hK hP 0 rfl rfl 6 (by decide) w_2 (fun _ h9 => h9) rfl dX1_add_37 ?_
      refine lv_iload_n hx hb dX1_add_40 rfl (lv_at hl 2 rfl) ?_
      refine sv_iast hx hb hK hP hD hS 2 1 rfl rfl (vp_in_nI (by omega) (by omega)) dX1_add_41 (fun g_3 H locs eg_3 hP hD hS => ?_)
      have eg_3 : g_3 = upd f1 a q1 := by rw [eg_3, nI_clamp (by omega)]
      subst eg_3
      have hP : va_P D vwCl [(h0, .inr (1, [.ref p0, .ref p1, .ref p2, .ref p3, .ref p4, .ref p5, .int (nI a)])), (p0, .inl (cI, 16, .inl (upd f0 a q0))), (p1, .inl (cI, 16, .inl (upd f1 a q1))), (p2, .inl (cI, 16, .inl f2)), (p3, .inl (cI, 16, .inl f3)), (p4, .inl (cI, 16, .inl f4)), (p5, .inl (cI, 16, .inl f5))] H := hP
      have hD : va_D A [(h0, .inr (1, [.ref p0, .ref p1, .ref p2, .ref p3, .ref p4, .ref p5, .int (nI a)])), (p0, .inl (cI, 16, .inl (upd f0 a q0))), (p1, .inl (cI, 16, .inl (upd f1 a q1))), (p2, .inl (cI, 16, .inl f2)), (p3, .inl (cI, 16, .inl f3)), (p4, .inl (cI, 16, .inl f4)), (p5, .inl (cI, 16, .inl f5))] := hD
      refine lv_aload_n hx hb dX1_add_42 rfl (lv_at hl 0 rfl) ?_
      refine va_get (D := D) (ci := 1) (v := .ref p2) (C := RX1) (T := TX1) (N := 7) hx hb hts w_1 hown hK hP 0 rfl rfl 2 (by decide) w_5 (fun _ h9 => h9) rfl dX1_add_43 ?_
      refine lv_aload_n hx hb dX1_add_46 rfl (lv_at hl 0 rfl) ?_
      refine va_get (D := D) (ci := 1) (v := .int (nI a)) (C := RX1) (T := TX1) (N := 7) hx hb hts w_1 hown hK hP 0 rfl rfl 6 (by decide) w_2 (fun _ h9 => h9) rfl dX1_add_47 ?_
      refine lv_iload_n hx hb dX1_add_50 rfl (lv_at hl 3 rfl) ?_
      refine sv_iast hx hb hK hP hD hS 3 1 rfl rfl (vp_in_nI (by omega) (by omega)) dX1_add_51 (fun g_4 H locs eg_4 hP hD hS => ?_)
      have eg_4 : g_4 = upd f2 a q2 := by rw [eg_4, nI_clamp (by omega)]
      subst eg_4
      have hP : va_P D vwCl [(h0, .inr (1, [.ref p0, .ref p1, .ref p2, .ref p3, .ref p4, .ref p5, .int (nI a)])), (p0, .inl (cI, 16, .inl (upd f0 a q0))), (p1, .inl (cI, 16, .inl (upd f1 a q1))), (p2, .inl (cI, 16, .inl (upd f2 a q2))), (p3, .inl (cI, 16, .inl f3)), (p4, .inl (cI, 16, .inl f4)), (p5, .inl (cI, 16, .inl f5))] H := hP
      have hD : va_D A [(h0, .inr (1, [.ref p0, .ref p1, .ref p2, .ref p3, .ref p4, .ref p5, .int (nI a)])), (p0, .inl (cI, 16, .inl (upd f0 a q0))), (p1, .inl (cI, 16, .inl (upd f1 a q1))), (p2, .inl (cI, 16, .inl (upd f2 a q2))), (p3, .inl (cI, 16, .inl f3)), (p4, .inl (cI, 16, .inl f4)), (p5, .inl (cI, 16, .inl f5))] := hD
      refine lv_aload_n hx hb dX1_add_52 rfl (lv_at hl 0 rfl) ?_
      refine va_get (D := D) (ci := 1) (v := .ref p3) (C := RX1) (T := TX1) (N := 7) hx hb hts w_1 hown hK hP 0 rfl rfl 3 (by decide) w_6 (fun _ h9 => h9) rfl dX1_add_53 ?_
      refine lv_aload_n hx hb dX1_add_56 rfl (lv_at hl 0 rfl) ?_
      refine va_get (D := D) (ci := 1) (v := .int (nI a)) (C := RX1) (T := TX1) (N := 7) hx hb hts w_1 hown hK hP 0 rfl rfl 6 (by decide) w_2 (fun _ h9 => h9) rfl dX1_add_57 ?_
      refine lv_iload hx hb dX1_add_60 (lv_at hl 4 rfl) ?_
      refine sv_iast hx hb hK hP hD hS 4 1 rfl rfl (vp_in_nI (by omega) (by omega)) dX1_add_62 (fun g_5 H locs eg_5 hP hD hS => ?_)
      have eg_5 : g_5 = upd f3 a q3 := by rw [eg_5, nI_clamp (by omega)]
      subst eg_5
      have hP : va_P D vwCl [(h0, .inr (1, [.ref p0, .ref p1, .ref p2, .ref p3, .ref p4, .ref p5, .int (nI a)])), (p0, .inl (cI, 16, .inl (upd f0 a q0))), (p1, .inl (cI, 16, .inl (upd f1 a q1))), (p2, .inl (cI, 16, .inl (upd f2 a q2))), (p3, .inl (cI, 16, .inl (upd f3 a q3))), (p4, .inl (cI, 16, .inl f4)), (p5, .inl (cI, 16, .inl f5))] H := hP
      have hD : va_D A [(h0, .inr (1, [.ref p0, .ref p1, .ref p2, .ref p3, .ref p4, .ref p5, .int (nI a)])), (p0, .inl (cI, 16, .inl (upd f0 a q0))), (p1, .inl (cI, 16, .inl (upd f1 a q1))), (p2, .inl (cI, 16, .inl (upd f2 a q2))), (p3, .inl (cI, 16, .inl (upd f3 a q3))), (p4, .inl (cI, 16, .inl f4)), (p5, .inl (cI, 16, .inl f5))] := hD
      refine lv_aload_n hx hb dX1_add_63 rfl (lv_at hl 0 rfl) ?_
      refine va_get (D := D) (ci := 1) (v := .ref p4) (C := RX1) (T := TX1) (N := 7) hx hb hts w_1 hown hK hP 0 rfl rfl 4 (by decide) w_7 (fun _ h9 => h9) rfl dX1_add_64 ?_
      refine lv_aload_n hx hb dX1_add_67 rfl (lv_at hl 0 rfl) ?_
      refine va_get (D := D) (ci := 1) (v := .int (nI a)) (C := RX1) (T := TX1) (N := 7) hx hb hts w_1 hown hK hP 0 rfl rfl 6 (by decide) w_2 (fun _ h9 => h9) rfl dX1_add_68 ?_
      refine lv_iconst (v := 0) hx hb dX1_add_71 (by decide) ?_
      refine sv_iast hx hb hK hP hD hS 5 1 rfl rfl (vp_in_nI (by omega) (by omega)) dX1_add_72 (fun g_6 H locs eg_6 hP hD hS => ?_)
      have eg_6 : g_6 = upd f4 a 0 := by rw [eg_6, nI_clamp (by omega)]
      subst eg_6
      have hP : va_P D vwCl [(h0, .inr (1, [.ref p0, .ref p1, .ref p2, .ref p3, .ref p4, .ref p5, .int (nI a)])), (p0, .inl (cI, 16, .inl (upd f0 a q0))), (p1, .inl (cI, 16, .inl (upd f1 a q1))), (p2, .inl (cI, 16, .inl (upd f2 a q2))), (p3, .inl (cI, 16, .inl (upd f3 a q3))), (p4, .inl (cI, 16, .inl (upd f4 a 0))), (p5, .inl (cI, 16, .inl f5))] H := hP
      have hD : va_D A [(h0, .inr (1, [.ref p0, .ref p1, .ref p2, .ref p3, .ref p4, .ref p5, .int (nI a)])), (p0, .inl (cI, 16, .inl (upd f0 a q0))), (p1, .inl (cI, 16, .inl (upd f1 a q1))), (p2, .inl (cI, 16, .inl (upd f2 a q2))), (p3, .inl (cI, 16, .inl (upd f3 a q3))), (p4, .inl (cI, 16, .inl (upd f4 a 0))), (p5, .inl (cI, 16, .inl f5))] := hD
      refine lv_aload_n hx hb dX1_add_73 rfl (lv_at hl 0 rfl) ?_
      refine va_get (D := D) (ci := 1) (v := .ref p5) (C := RX1) (T := TX1) (N := 7) hx hb hts w_1 hown hK hP 0 rfl rfl 5 (by decide) w_8 (fun _ h9 => h9) rfl dX1_add_74 ?_
      refine lv_aload_n hx hb dX1_add_77 rfl (lv_at hl 0 rfl) ?_
      refine va_get (D := D) (ci := 1) (v := .int (nI a)) (C := RX1) (T := TX1) (N := 7) hx hb hts w_1 hown hK hP 0 rfl rfl 6 (by decide) w_2 (fun _ h9 => h9) rfl dX1_add_78 ?_
      refine lv_iconst (v := (-1)) hx hb dX1_add_81 (by decide) ?_
      refine sv_iast hx hb hK hP hD hS 6 1 rfl rfl (vp_in_nI (by omega) (by omega)) dX1_add_82 (fun g_7 H locs eg_7 hP hD hS => ?_)
      have eg_7 : g_7 = upd f5 a (-1) := by rw [eg_7, nI_clamp (by omega)]
      subst eg_7
      have hP : va_P D vwCl [(h0, .inr (1, [.ref p0, .ref p1, .ref p2, .ref p3, .ref p4, .ref p5, .int (nI a)])), (p0, .inl (cI, 16, .inl (upd f0 a q0))), (p1, .inl (cI, 16, .inl (upd f1 a q1))), (p2, .inl (cI, 16, .inl (upd f2 a q2))), (p3, .inl (cI, 16, .inl (upd f3 a q3))), (p4, .inl (cI, 16, .inl (upd f4 a 0))), (p5, .inl (cI, 16, .inl (upd f5 a (-1))))] H := hP
      have hD : va_D A [(h0, .inr (1, [.ref p0, .ref p1, .ref p2, .ref p3, .ref p4, .ref p5, .int (nI a)])), (p0, .inl (cI, 16, .inl (upd f0 a q0))), (p1, .inl (cI, 16, .inl (upd f1 a q1))), (p2, .inl (cI, 16, .inl (upd f2 a q2))), (p3, .inl (cI, 16, .inl (upd f3 a q3))), (p4, .inl (cI, 16, .inl (upd f4 a 0))), (p5, .inl (cI, 16, .inl (upd f5 a (-1))))] := hD
      refine lv_aload_n hx hb dX1_add_83 rfl (lv_at hl 0 rfl) ?_
      refine lv_dup hx hb dX1_add_84 rfl ?_
      refine va_get (D := D) (ci := 1) (v := .int (nI a)) (C := RX1) (T := TX1) (N := 7) hx hb hts w_1 hown hK hP 0 rfl rfl 6 (by decide) w_2 (fun _ h9 => h9) rfl dX1_add_85 ?_
      refine lv_iconst (v := 1) hx hb dX1_add_88 (by decide) ?_
      refine sv_iadd (v := nI (a + 1)) hx hb dX1_add_89 (ax_add _ 1) ?_
      refine va_put (D := D) (ci := 1) (v := .int (nI (a + 1))) (ty := .int) (C := RX1) (T := TX1) (N := 7) hx hb hts w_1 tyX1 tyX1_ok nmX1 hown hK hP hD hS 0 rfl rfl 6 (by decide) w_2 (fun _ h9 => h9) rfl (by decide +kernel) rfl rfl (Nat.le_of_ble_eq_true rfl) dX1_add_90 (fun H locs hP hD hS => ?_)
      have hP : va_P D vwCl [(h0, .inr (1, [.ref p0, .ref p1, .ref p2, .ref p3, .ref p4, .ref p5, .int (nI (a + 1))])), (p0, .inl (cI, 16, .inl (upd f0 a q0))), (p1, .inl (cI, 16, .inl (upd f1 a q1))), (p2, .inl (cI, 16, .inl (upd f2 a q2))), (p3, .inl (cI, 16, .inl (upd f3 a q3))), (p4, .inl (cI, 16, .inl (upd f4 a 0))), (p5, .inl (cI, 16, .inl (upd f5 a (-1))))] H := hP
      have hD : va_D A [(h0, .inr (1, [.ref p0, .ref p1, .ref p2, .ref p3, .ref p4, .ref p5, .int (nI (a + 1))])), (p0, .inl (cI, 16, .inl (upd f0 a q0))), (p1, .inl (cI, 16, .inl (upd f1 a q1))), (p2, .inl (cI, 16, .inl (upd f2 a q2))), (p3, .inl (cI, 16, .inl (upd f3 a q3))), (p4, .inl (cI, 16, .inl (upd f4 a 0))), (p5, .inl (cI, 16, .inl (upd f5 a (-1))))] := hD
      refine lv_aload_n hx hb dX1_add_93 rfl (lv_at hl 0 rfl) ?_
      refine va_get (D := D) (ci := 1) (v := .int (nI (a + 1))) (C := RX1) (T := TX1) (N := 7) hx hb hts w_1 hown hK hP 0 rfl rfl 6 (by decide) w_2 (fun _ h9 => h9) rfl dX1_add_94 ?_
      refine lv_iconst (v := 1) hx hb dX1_add_97 (by decide) ?_
      refine sv_isub (v := nI a) hx hb dX1_add_98 (nI_sub1 a) ?_
      have hP9 := hP.sub (ws' := [(h0, .inr (1, [.ref p0, .ref p1, .ref p2, .ref p3, .ref p4, .ref p5, .int (nI (a + 1))])), (p0, .inl (cI, 16, .inl (upd f0 a q0))), (p1, .inl (cI, 16, .inl (upd f1 a q1))), (p2, .inl (cI, 16, .inl (upd f2 a q2))), (p3, .inl (cI, 16, .inl (upd f3 a q3))), (p4, .inl (cI, 16, .inl (upd f4 a 0))), (p5, .inl (cI, 16, .inl (upd f5 a (-1))))]) [0, 1, 2, 3, 4, 5, 6] rfl
      have hD9 := hD.sub (ws' := [(h0, .inr (1, [.ref p0, .ref p1, .ref p2, .ref p3, .ref p4, .ref p5, .int (nI (a + 1))])), (p0, .inl (cI, 16, .inl (upd f0 a q0))), (p1, .inl (cI, 16, .inl (upd f1 a q1))), (p2, .inl (cI, 16, .inl (upd f2 a q2))), (p3, .inl (cI, 16, .inl (upd f3 a q3))), (p4, .inl (cI, 16, .inl (upd f4 a 0))), (p5, .inl (cI, 16, .inl (upd f5 a (-1))))]) [0, 1, 2, 3, 4, 5, 6] (by decide) rfl
      exact W.iret (v := nI a) hx hb hr (fun t ht hW => ⟨⟨_, ((a + 1), upd f0 a q0, upd f1 a q1, upd f2 a q2, upd f3 a q3, upd f4 a 0, upd f5 a (-1)), rfl, Or.inr ⟨h6, Classical.byContradiction (fun h9 => absurd (hw_r_1.trans (if_neg h9)) c_17), rfl, rfl⟩, by rw [ht]; exact hP9, va_K.moved hW.alike hK, hD9⟩, hS.F ht⟩) hS.2.2 dX1_add_99
    ·
      refine lv_iconst (v := (-1)) hx hb dX1_add_20 (by decide) ?_
      have hP9 := hP.sub (ws' := [(h0, .inr (1, [.ref p0, .ref p1, .ref p2, .ref p3, .ref p4, .ref p5, .int (nI a)])), (p0, .inl (cI, 16, .inl f0)), (p1, .inl (cI, 16, .inl f1)), (p2, .inl (cI, 16, .inl f2)), (p3, .inl (cI, 16, .inl f3)), (p4, .inl (cI, 16, .inl f4)), (p5, .inl (cI, 16, .inl f5))]) [0, 1, 2, 3, 4, 5, 6] rfl
      have hD9 := hD.sub (ws' := [(h0, .inr (1, [.ref p0, .ref p1, .ref p2, .ref p3, .ref p4, .ref p5, .int (nI a)])), (p0, .inl (cI, 16, .inl f0)), (p1, .inl (cI, 16, .inl f1)), (p2, .inl (cI, 16, .inl f2)), (p3, .inl (cI, 16, .inl f3)), (p4, .inl (cI, 16, .inl f4)), (p5, .inl (cI, 16, .inl f5))]) [0, 1, 2, 3, 4, 5, 6] (by decide) rfl
      exact W.iret (v := (-1)) hx hb hr (fun t ht hW => ⟨⟨_, (a, f0, f1, f2, f3, f4, f5), rfl, Or.inl ⟨rfl, rfl, Or.inr (fun h9 => absurd (c_17.symm.trans (hw_r_1.trans (if_pos h9))) (by decide))⟩, by rw [ht]; exact hP9, va_K.moved hW.alike hK, hD9⟩, hS.F ht⟩) hS.2.2 dX1_add_21

set_option maxHeartbeats 4000000 in
set_option maxRecDepth 100000 in
theorem g_X1_in (l : Launch) (D : va_G) (cB cI cJ cZ : ClassId) (h0 p0 p1 p2 p3 p4 p5 a : Nat) (f4 : Nat → Int32) (ha : a ≤ 16) : Met l yX1_in wsX1_in ({ frames := 0, cells := 0, slots := 0, locals := 0 } : Room) (cRd D (aTy cB cI cJ cZ) [(h0, .inr (1, [.ref p0, .ref p1, .ref p2, .ref p3, .ref p4, .ref p5, .int (nI a)])), (p4, .inl (cI, 16, .inl f4))] [.ref h0]) (vp_Si (fun r : Int32 => True)) 0 0 (fun _ => False) := by
  refine Met.ofW (cc := cX1_in) (maxL := 3) (ret := (some .int)) (by decide) rfl ?_
  intro p e s m args below meth c s₁ B hml hv
  obtain ⟨rfl, hP, hK⟩ := hv
  have hx := B.exec
  have hb := B.bytes
  have hr := B.returns
  have hts := atoms_spec (ws := wsX1_in) B.pre
  have hown : s.vm.findClass RX1 = some m.cls := findClass_of_methodNamed B.named
  have hlocks := B.notSynchronized
  have hP : va_P D vwCl [(h0, .inr (1, [.ref p0, .ref p1, .ref p2, .ref p3, .ref p4, .ref p5, .int (nI a)])), (p4, .inl (cI, 16, .inl f4))] s.heap := hP
  have w_1 : ∀ w ∈ wsX10, w ∈ wsX1_in := by decide +kernel
  have w_2 := hts (Cond.fieldLink RX1 30 "BlueCoats$Children" "number" "I") (by decide +kernel)
  have w_3 := hts (Cond.fieldLink RX1 24 "BlueCoats$Children" "state" "[I") (by decide +kernel)
  have hl := lv_entry ([.ref h0]) (n := 3) (Nat.le_of_ble_eq_true rfl)
  rw [lg_entry_eq]
  generalize (lg_sl ([.ref h0]) ++ List.replicate (3 - (lg_sl ([.ref h0])).length) Slot.unset).toArray = ls at hl ⊢
  have hl : lv_has ls 3 [(0, .ref h0)] := hl
  generalize hQ : MQ below _ _ s _ _ _ = Q0
  refine lv_iconst (v := 0) hx hb dX1_in_0 (by decide) ?_
  refine lv_istore_n (lv' := [(1, .int 0), (0, .ref h0)]) hx hb dX1_in_1 rfl hl (by decide) rfl (fun ls hl => ?_)
  refine lv_iconst (v := 0) hx hb dX1_in_2 (by decide) ?_
  refine lv_istore_n (lv' := [(2, .int 0), (1, .int 0), (0, .ref h0)]) hx hb dX1_in_3 rfl hl (by decide) rfl (fun ls hl => ?_)
  have L_1 : ∀ (n : Nat) (i_4 : Int32) (l_1_4 : Int32) (ls : Array Slot), (Int32.toInt (nI a) - i_4.toInt).toNat < n → 0 ≤ i_4.toInt → va_P D vwCl [(h0, .inr (1, [.ref p0, .ref p1, .ref p2, .ref p3, .ref p4, .ref p5, .int (nI a)])), (p4, .inl (cI, 16, .inl f4))] s.heap → lv_has ls 3 [(0, .ref h0), (1, .int l_1_4), (2, .int i_4)] → W p l e (headSpec wsX1_in ({ frames := 0, cells := 0, slots := 0, locals := 0 } : Room)).room s m ([.ref h0] : List Value).toArray below meth c s.heap [] 0 0 Q0 (F0 m 4 ls []) := by
    intro n
    induction n with
    | zero => intro i_4 l_1_4 ls hn_4 hlo_4 hP hl; exact absurd hn_4 (Nat.not_lt_zero _)
    | succ n ih_L_1 =>
      intro i_4 l_1_4 ls hn_4 hlo_4 hP hl
      refine lv_iload_n hx hb dX1_in_4 rfl (lv_at hl 2 rfl) ?_
      refine lv_aload_n hx hb dX1_in_5 rfl (lv_at hl 0 rfl) ?_
      refine va_get (D := D) (ci := 1) (v := .int (nI a)) (C := RX1) (T := TX1) (N := 7) hx hb hts w_1 hown hK hP 0 rfl rfl 6 (by decide) w_2 (fun _ h9 => h9) rfl dX1_in_6 ?_
      refine lv_icmp_ge (tgt := 31) hx hb dX1_in_9 (by decide) (fun c_9 => ?_) (fun c_9 => ?_)
      ·
        refine lv_iload_n hx hb dX1_in_31 rfl (lv_at hl 1 rfl) ?_
        rw [← hQ]
        exact W.iret (v := l_1_4) hx hb hr (fun t ht hW => ⟨_, rfl, trivial, ht⟩) (fun q h => nomatch h) dX1_in_32
      ·
        refine lv_aload_n hx hb dX1_in_12 rfl (lv_at hl 0 rfl) ?_
        refine va_get (D := D) (ci := 1) (v := .ref p4) (C := RX1) (T := TX1) (N := 7) hx hb hts w_1 hown hK hP 0 rfl rfl 4 (by decide) w_3 (fun _ h9 => h9) rfl dX1_in_13 ?_
        refine lv_iload_n hx hb dX1_in_16 rfl (lv_at hl 2 rfl) ?_
        refine sv_iald (v := f4 i_4.toNatClampNeg) hx hb hK hP 1 1 rfl rfl (lp_inN hlo_4 c_9 ha (by decide)) rfl dX1_in_17 ?_
        refine lv_topi (fun v_2 ev_2 => ?_)
        refine lv_iconst (v := 1) hx hb dX1_in_18 (by decide) ?_
        refine lv_icmp_ne (tgt := 25) hx hb dX1_in_19 (by decide) (fun c_19 => ?_) (fun c_19 => ?_)
        ·
          refine lv_iinc (v := i_4 + 1) (lv' := [(2, .int (i_4 + 1)), (0, .ref h0), (1, .int l_1_4)]) hx hb dX1_in_25 hl (k := 2) rfl rfl (by decide) rfl (fun ls hl => ?_)
          refine lv_goto (tgt := 4) hx hb dX1_in_28 (by decide) ?_
          exact ih_L_1 (i_4 + 1) l_1_4 ls (lp_dec hn_4 c_9) (by have h9 := lp_inc c_9; omega) hP (lv_sub hl [1, 2, 0] rfl)
        ·
          refine lv_iinc (v := l_1_4 + 1) (lv' := [(1, .int (l_1_4 + 1)), (0, .ref h0), (2, .int i_4)]) hx hb dX1_in_22 hl (k := 1) rfl rfl (by decide) rfl (fun ls hl => ?_)
          refine lv_iinc (v := i_4 + 1) (lv' := [(2, .int (i_4 + 1)), (1, .int (l_1_4 + 1)), (0, .ref h0)]) hx hb dX1_in_25 hl (k := 2) rfl rfl (by decide) rfl (fun ls hl => ?_)
          refine lv_goto (tgt := 4) hx hb dX1_in_28 (by decide) ?_
          exact ih_L_1 (i_4 + 1) (l_1_4 + 1) ls (lp_dec hn_4 c_9) (by have h9 := lp_inc c_9; omega) hP (lv_sub hl [2, 1, 0] rfl)
  exact L_1 _ 0 0 ls (Nat.lt_succ_self _) (by decide) hP (lv_sub hl [2, 1, 0] rfl)

set_option maxHeartbeats 4000000 in
set_option maxRecDepth 100000 in
theorem g_X1_grow (l : Launch) (D : va_G) (cB cI cJ cZ : ClassId) (sz : Nat) (h0 p0 p1 p2 p3 p4 p5 a : Nat) (f0 f2 f3 : Nat → Int32) (g : Int32) (ha : a ≤ 16) : Met l yX1_grow wsX1_grow ({ frames := 1, cells := 0, slots := 0, locals := 21 } : Room) (cPre D (aTy cB cI cJ cZ) [(h0, .inr (1, [.ref p0, .ref p1, .ref p2, .ref p3, .ref p4, .ref p5, .int (nI a)])), (p0, .inl (cI, 16, .inl f0)), (p2, .inl (cI, 16, .inl f2)), (p3, .inl (cI, 16, .inl f3))] sz [.ref h0, .int g]) (va_Qv (fun (u : (Nat → Int32) × (Nat → Int32)) => True) (cB_ D (aTy cB cI cJ cZ) (va_A [(h0, .inr (1, [.ref p0, .ref p1, .ref p2, .ref p3, .ref p4, .ref p5, .int (nI a)])), (p0, .inl (cI, 16, .inl f0)), (p2, .inl (cI, 16, .inl f2)), (p3, .inl (cI, 16, .inl f3))] sz) (fun u => [(h0, .inr (1, [.ref p0, .ref p1, .ref p2, .ref p3, .ref p4, .ref p5, .int (nI a)])), (p0, .inl (cI, 16, .inl u.1)), (p2, .inl (cI, 16, .inl u.2)), (p3, .inl (cI, 16, .inl f3))])) (va_A [(h0, .inr (1, [.ref p0, .ref p1, .ref p2, .ref p3, .ref p4, .ref p5, .int (nI a)])), (p0, .inl (cI, 16, .inl f0)), (p2, .inl (cI, 16, .inl f2)), (p3, .inl (cI, 16, .inl f3))] sz)) 0 0 (va_A [(h0, .inr (1, [.ref p0, .ref p1, .ref p2, .ref p3, .ref p4, .ref p5, .int (nI a)])), (p0, .inl (cI, 16, .inl f0)), (p2, .inl (cI, 16, .inl f2)), (p3, .inl (cI, 16, .inl f3))] sz) := by
  refine Met.ofW (cc := cX1_grow) (maxL := 2) (ret := none) (by decide) rfl ?_
  intro p e s m args below meth c s₁ B hml hv
  obtain ⟨rfl, hsz, hP, hK, hD0⟩ := hv
  have hx := B.exec
  have hb := B.bytes
  have hr := B.returns
  have hts := atoms_spec (ws := wsX1_grow) B.pre
  have hown : s.vm.findClass RX1 = some m.cls := findClass_of_methodNamed B.named
  have hlocks := B.notSynchronized
  subst hsz
  have hD := hD0.self (sz := s.heap.size)
  generalize hAe : va_A [(h0, .inr (1, [.ref p0, .ref p1, .ref p2, .ref p3, .ref p4, .ref p5, .int (nI a)])), (p0, .inl (cI, 16, .inl f0)), (p2, .inl (cI, 16, .inl f2)), (p3, .inl (cI, 16, .inl f3))] s.heap.size = A at hD ⊢
  have hA : ∀ q : Nat, s.heap.size ≤ q → A q := fun q h => by rw [← hAe]; exact Or.inr h
  have hS : va_S A s.heap s.heap [] := va_S.rf
  have hP : va_P D vwCl [(h0, .inr (1, [.ref p0, .ref p1, .ref p2, .ref p3, .ref p4, .ref p5, .int (nI a)])), (p0, .inl (cI, 16, .inl f0)), (p2, .inl (cI, 16, .inl f2)), (p3, .inl (cI, 16, .inl f3))] s.heap := hP
  have w_1 : ∀ w ∈ wsX10, w ∈ wsX1_grow := by decide +kernel
  have w_2 := hts (Cond.fieldLink RX1 11 "BlueCoats$Children" "age" "[I") (by decide +kernel)
  have w_3 := hts (Cond.methodLink RX1 42 Lib.Math.min.name) (by decide +kernel)
  have w_4 := hts (Cond.static Lib.Math.min.name) (by decide +kernel)
  have w_5 := hts (Cond.initialized "java/lang/Math") (by decide +kernel)
  have w_6 := hts (Cond.code Lib.Math.min.name Lib.Math.min.code 2 (some .int)) (by decide +kernel)
  have w_7 := hts (Cond.fieldLink RX1 18 "BlueCoats$Children" "size" "[I") (by decide +kernel)
  have w_8 := hts (Cond.fieldLink RX1 21 "BlueCoats$Children" "growth" "[I") (by decide +kernel)
  have hl := lv_entry ([.ref h0, .int g]) (n := 2) (Nat.le_of_ble_eq_true rfl)
  rw [lg_entry_eq]
  generalize (lg_sl ([.ref h0, .int g]) ++ List.replicate (2 - (lg_sl ([.ref h0, .int g])).length) Slot.unset).toArray = ls at hl ⊢
  have hl : lv_has ls 2 [(0, .ref h0), (1, .int g)] := hl
  refine lv_aload_n hx hb dX1_grow_0 rfl (lv_at hl 0 rfl) ?_
  refine lv_iload_n hx hb dX1_grow_1 rfl (lv_at hl 1 rfl) ?_
  refine vp_callSi (va_Run.run (va_runV (As := [.int g]) (rest := []) ⟨hx, hb, hml, hown, hts⟩ (g_X1_has l D cB cI cJ cZ h0 p0 p1 p2 p3 p4 p5 a g (by omega)) (cwV 1 hts gX1_grow_X1_has rfl rfl rfl (by decide +kernel) ⟨Nat.le_of_ble_eq_true rfl, Nat.le_of_ble_eq_true rfl⟩) (pre_VR (hP.sub (ws' := [(h0, .inr (1, [.ref p0, .ref p1, .ref p2, .ref p3, .ref p4, .ref p5, .int (nI a)]))]) [0] rfl) hK 0 rfl rfl rfl) rfl rfl hl.1 rfl (lv_room (Nat.le_of_ble_eq_true rfl)) dX1_grow_2 ⟨Nat.le_of_ble_eq_true rfl, Nat.le_of_ble_eq_true rfl⟩)) (fun r_1 hw_r_1 => ?_)
  refine lv_if_eq (tgt := 51) hx hb dX1_grow_5 (by decide) (fun c_5 => ?_) (fun c_5 => ?_)
  ·
    have hP9 := hP.sub (ws' := [(h0, .inr (1, [.ref p0, .ref p1, .ref p2, .ref p3, .ref p4, .ref p5, .int (nI a)])), (p0, .inl (cI, 16, .inl f0)), (p2, .inl (cI, 16, .inl f2)), (p3, .inl (cI, 16, .inl f3))]) [0, 1, 2, 3] rfl
    have hD9 := hD.sub (ws' := [(h0, .inr (1, [.ref p0, .ref p1, .ref p2, .ref p3, .ref p4, .ref p5, .int (nI a)])), (p0, .inl (cI, 16, .inl f0)), (p2, .inl (cI, 16, .inl f2)), (p3, .inl (cI, 16, .inl f3))]) [0, 1, 2, 3] (by decide) rfl
    exact W.vret hx hb hr (fun t ht hW => ⟨⟨(f0, f2), rfl, trivial, by rw [ht]; exact hP9, va_K.moved hW.alike hK, hD9⟩, hS.F ht⟩) hS.2.2 dX1_grow_51
  ·
    refine lv_aload_n hx hb dX1_grow_8 rfl (lv_at hl 0 rfl) ?_
    refine va_get (D := D) (ci := 1) (v := .ref p0) (C := RX1) (T := TX1) (N := 7) hx hb hts w_1 hown hK hP 0 rfl rfl 0 (by decide) w_2 (fun _ h9 => h9) rfl dX1_grow_9 ?_
    refine lv_iload_n hx hb dX1_grow_12 rfl (lv_at hl 1 rfl) ?_
    refine lv_bipush (v := 99) hx hb dX1_grow_13 (by decide) ?_
    refine lv_aload_n hx hb dX1_grow_15 rfl (lv_at hl 0 rfl) ?_
    refine va_get (D := D) (ci := 1) (v := .ref p0) (C := RX1) (T := TX1) (N := 7) hx hb hts w_1 hown hK hP 0 rfl rfl 0 (by decide) w_2 (fun _ h9 => h9) rfl dX1_grow_16 ?_
    refine lv_iload_n hx hb dX1_grow_19 rfl (lv_at hl 1 rfl) ?_
    refine sv_iald (v := f0 g.toNatClampNeg) hx hb hK hP 1 1 rfl rfl (in_up (has_in hw_r_1 c_5) ha) rfl dX1_grow_20 ?_
    refine lv_topi (fun v_2 ev_2 => ?_)
    refine lv_iconst (v := 1) hx hb dX1_grow_21 (by decide) ?_
    refine sv_iadd (v := v_2 + 1) hx hb dX1_grow_22 rfl ?_
    refine va_mmin (x := 99) (y := v_2 + 1) hx hb (by rw [hml]; exact hl.1.symm) hown w_3 w_4 w_5 w_6 (Nat.le_of_ble_eq_true rfl) (Nat.le_of_ble_eq_true rfl) (Nat.le_of_ble_eq_true rfl) (Nat.le_of_ble_eq_true rfl) dX1_grow_23 ?_
    refine lv_topi (fun v_3 ev_3 => ?_)
    refine sv_iast hx hb hK hP hD hS 1 1 rfl rfl (in_up (has_in hw_r_1 c_5) ha) dX1_grow_26 (fun g_4 H locs eg_4 hP hD hS => ?_)
    have hP : va_P D vwCl [(h0, .inr (1, [.ref p0, .ref p1, .ref p2, .ref p3, .ref p4, .ref p5, .int (nI a)])), (p0, .inl (cI, 16, .inl g_4)), (p2, .inl (cI, 16, .inl f2)), (p3, .inl (cI, 16, .inl f3))] H := hP
    have hD : va_D A [(h0, .inr (1, [.ref p0, .ref p1, .ref p2, .ref p3, .ref p4, .ref p5, .int (nI a)])), (p0, .inl (cI, 16, .inl g_4)), (p2, .inl (cI, 16, .inl f2)), (p3, .inl (cI, 16, .inl f3))] := hD
    refine lv_aload_n hx hb dX1_grow_27 rfl (lv_at hl 0 rfl) ?_
    refine va_get (D := D) (ci := 1) (v := .ref p2) (C := RX1) (T := TX1) (N := 7) hx hb hts w_1 hown hK hP 0 rfl rfl 2 (by decide) w_7 (fun _ h9 => h9) rfl dX1_grow_28 ?_
    refine lv_iload_n hx hb dX1_grow_31 rfl (lv_at hl 1 rfl) ?_
    refine lv_bipush (v := 99) hx hb dX1_grow_32 (by decide) ?_
    refine lv_aload_n hx hb dX1_grow_34 rfl (lv_at hl 0 rfl) ?_
    refine va_get (D := D) (ci := 1) (v := .ref p2) (C := RX1) (T := TX1) (N := 7) hx hb hts w_1 hown hK hP 0 rfl rfl 2 (by decide) w_7 (fun _ h9 => h9) rfl dX1_grow_35 ?_
    refine lv_iload_n hx hb dX1_grow_38 rfl (lv_at hl 1 rfl) ?_
    refine sv_iald (v := f2 g.toNatClampNeg) hx hb hK hP 2 1 rfl rfl (in_up (has_in hw_r_1 c_5) ha) rfl dX1_grow_39 ?_
    refine lv_topi (fun v_5 ev_5 => ?_)
    refine lv_aload_n hx hb dX1_grow_40 rfl (lv_at hl 0 rfl) ?_
    refine va_get (D := D) (ci := 1) (v := .ref p3) (C := RX1) (T := TX1) (N := 7) hx hb hts w_1 hown hK hP 0 rfl rfl 3 (by decide) w_8 (fun _ h9 => h9) rfl dX1_grow_41 ?_
    refine lv_iload_n hx hb dX1_grow_44 rfl (lv_at hl 1 rfl) ?_
    refine sv_iald (v := f3 g.toNatClampNeg) hx hb hK hP 3 1 rfl rfl (in_up (has_in hw_r_1 c_5) ha) rfl dX1_grow_45 ?_
    refine lv_topi (fun v_6 ev_6 => ?_)
    refine sv_iadd (v := v_5 + v_6) hx hb dX1_grow_46 rfl ?_
    refine lv_topi (fun v_7 ev_7 => ?_)
    refine va_mmin (x := 99) (y := v_7) hx hb (by rw [hml]; exact hl.1.symm) hown w_3 w_4 w_5 w_6 (Nat.le_of_ble_eq_true rfl) (Nat.le_of_ble_eq_true rfl) (Nat.le_of_ble_eq_true rfl) (Nat.le_of_ble_eq_true rfl) dX1_grow_47 ?_
    refine lv_topi (fun v_8 ev_8 => ?_)
    refine sv_iast hx hb hK hP hD hS 2 1 rfl rfl (in_up (has_in hw_r_1 c_5) ha) dX1_grow_50 (fun g_9 H locs eg_9 hP hD hS => ?_)
    have hP : va_P D vwCl [(h0, .inr (1, [.ref p0, .ref p1, .ref p2, .ref p3, .ref p4, .ref p5, .int (nI a)])), (p0, .inl (cI, 16, .inl g_4)), (p2, .inl (cI, 16, .inl g_9)), (p3, .inl (cI, 16, .inl f3))] H := hP
    have hD : va_D A [(h0, .inr (1, [.ref p0, .ref p1, .ref p2, .ref p3, .ref p4, .ref p5, .int (nI a)])), (p0, .inl (cI, 16, .inl g_4)), (p2, .inl (cI, 16, .inl g_9)), (p3, .inl (cI, 16, .inl f3))] := hD
    have hP9 := hP.sub (ws' := [(h0, .inr (1, [.ref p0, .ref p1, .ref p2, .ref p3, .ref p4, .ref p5, .int (nI a)])), (p0, .inl (cI, 16, .inl g_4)), (p2, .inl (cI, 16, .inl g_9)), (p3, .inl (cI, 16, .inl f3))]) [0, 1, 2, 3] rfl
    have hD9 := hD.sub (ws' := [(h0, .inr (1, [.ref p0, .ref p1, .ref p2, .ref p3, .ref p4, .ref p5, .int (nI a)])), (p0, .inl (cI, 16, .inl g_4)), (p2, .inl (cI, 16, .inl g_9)), (p3, .inl (cI, 16, .inl f3))]) [0, 1, 2, 3] (by decide) rfl
    exact W.vret hx hb hr (fun t ht hW => ⟨⟨(g_4, g_9), rfl, trivial, by rw [ht]; exact hP9, va_K.moved hW.alike hK, hD9⟩, hS.F ht⟩) hS.2.2 dX1_grow_51

