set_option maxHeartbeats 4000000 in
set_option maxRecDepth 100000 in
theorem n_X7_fault (l : Launch) (D : va_G) (cB cI cJ cZ : ClassId) (x : Nat → Nat) (yr : Int32) (t1 : Int32) (t2 : Int32) (tt : Nat) (ln : Nat) (t6 : Int32) (t7 : Int32) (t8 : Int32) (t9 : Int32) (t10 : Int32) (q : Int32) (b_tt : tt ≤ 300) (b_ln : ln ≤ 300) : Met l yX7_fault wsX7_fault ({ frames := 0, cells := 0, slots := 0, locals := 0 } : Room) (cRd D (aTy cB cI cJ cZ) [((x 0), .inr (7, [.ref (x 1), .ref (x 5), .ref (x 7), .ref (x 10), .ref (x 17), .ref (x 22), .ref (x 27), .int yr])), ((x 1), .inr (4, [.ref (x 2), .int t1, .int t2, .int (nI tt), .ref (x 4), .int (nI ln), .int t6, .int t7, .int t8, .int t9, .int t10]))] [.ref (x 0), .int q]) (vp_Si (fun r : Int32 => True)) 0 0 (fun _ => False) := by
  refine Met.ofW (cc := cX7_fault) (maxL := 2) (ret := (some .int)) (by decide) rfl ?_
  intro p e s m args below meth c s₁ B hml hv
  obtain ⟨rfl, hP, hK⟩ := hv
  have hx := B.exec
  have hb := B.bytes
  have hr := B.returns
  have hts := atoms_spec (ws := wsX7_fault) B.pre
  have hown : s.vm.findClass RX7 = some m.cls := findClass_of_methodNamed B.named
  have hlocks := B.notSynchronized
  have hP : va_P D vwCl [((x 0), .inr (7, [.ref (x 1), .ref (x 5), .ref (x 7), .ref (x 10), .ref (x 17), .ref (x 22), .ref (x 27), .int yr])), ((x 1), .inr (4, [.ref (x 2), .int t1, .int t2, .int (nI tt), .ref (x 4), .int (nI ln), .int t6, .int t7, .int t8, .int t9, .int t10]))] s.heap := hP
  have w_1 : ∀ w ∈ wsX70, w ∈ wsX7_fault := by decide +kernel
  have w_2 := hts (Cond.fieldLink RX7 10 "BlueCoats" "reader" "LBlueCoats$Reader;") (by decide +kernel)
  have w_3 : ∀ w ∈ wsX40, w ∈ wsX7_fault := by decide +kernel
  have w_4 := hts (Cond.fieldLink RX7 80 "BlueCoats$Reader" "fault" "I") (by decide +kernel)
  have w_5 := hts (Cond.fieldLink RX7 83 "BlueCoats$Reader" "faultPlace" "I") (by decide +kernel)
  have hl := lv_entry ([.ref (x 0), .int q]) (n := 2) (Nat.le_of_ble_eq_true rfl)
  rw [lg_entry_eq]
  generalize (lg_sl ([.ref (x 0), .int q]) ++ List.replicate (2 - (lg_sl ([.ref (x 0), .int q])).length) Slot.unset).toArray = ls at hl ⊢
  have hl : lv_has ls 2 [(0, .ref (x 0)), (1, .int q)] := hl
  refine lv_iload_n hx hb dX7_fault_0 rfl (lv_at hl 1 rfl) ?_
  by_cases k_10 : q = 0
  ·
    subst k_10
    refine lv_lookup (off := 27) (tgt := 28) hx hb dX7_fault_1 (by decide) (by decide) (by decide) ?_
    refine lv_aload_n hx hb dX7_fault_28 rfl (lv_at hl 0 rfl) ?_
    refine va_get (D := D) (ci := 7) (v := .ref (x 1)) (C := RX7) (T := TX7) (N := 8) hx hb hts w_1 hown hK hP 0 rfl rfl 0 (by decide) w_2 (fun _ h9 => h9) rfl dX7_fault_29 ?_
    refine va_get (D := D) (ci := 4) (v := .int t1) (C := RX4) (T := TX4) (N := 11) hx hb hts w_3 hown hK hP 1 rfl rfl 1 (by decide) w_4 (fun _ h9 => h9) rfl dX7_fault_32 ?_
    exact W.iret (v := t1) hx hb hr (fun t ht hW => ⟨_, rfl, trivial, ht⟩) (fun q h => nomatch h) dX7_fault_35
  by_cases k_11 : q = 1
  ·
    subst k_11
    refine lv_lookup (off := 35) (tgt := 36) hx hb dX7_fault_1 (by decide) (by decide) (by decide) ?_
    refine lv_aload_n hx hb dX7_fault_36 rfl (lv_at hl 0 rfl) ?_
    refine va_get (D := D) (ci := 7) (v := .ref (x 1)) (C := RX7) (T := TX7) (N := 8) hx hb hts w_1 hown hK hP 0 rfl rfl 0 (by decide) w_2 (fun _ h9 => h9) rfl dX7_fault_37 ?_
    refine va_get (D := D) (ci := 4) (v := .int t2) (C := RX4) (T := TX4) (N := 11) hx hb hts w_3 hown hK hP 1 rfl rfl 2 (by decide) w_5 (fun _ h9 => h9) rfl dX7_fault_40 ?_
    exact W.iret (v := t2) hx hb hr (fun t ht hW => ⟨_, rfl, trivial, ht⟩) (fun q h => nomatch h) dX7_fault_43
  refine lv_lookup (off := 43) (tgt := 44) hx hb dX7_fault_1 (by decide) (sw_lk2 k_10 k_11) (by decide) ?_
  refine lv_iconst (v := (-1)) hx hb dX7_fault_44 (by decide) ?_
  exact W.iret (v := (-1)) hx hb hr (fun t ht hW => ⟨_, rfl, trivial, ht⟩) (fun q h => nomatch h) dX7_fault_45

set_option maxHeartbeats 4000000 in
set_option maxRecDepth 100000 in
theorem n_X7_mayCome (l : Launch) (D : va_G) (cB cI cJ cZ : ClassId) (x : Nat → Nat) (yr : Int32) (e1 : Int32) (e2 : Int32) (e3 : Int32) (e4 : Int32) (e5 : Int32) (e6 : Int32) (e7 : Int32) (e8 : Int32) (ca : Nat) (k11 : Nat → Int32) (k15 : Nat → Int32) (q : Int32) (b_ca : ca ≤ 16) : Met l yX7_mayCome wsX7_mayCome ({ frames := 1, cells := 0, slots := 0, locals := 21 } : Room) (cRd D (aTy cB cI cJ cZ) [((x 0), .inr (7, [.ref (x 1), .ref (x 5), .ref (x 7), .ref (x 10), .ref (x 17), .ref (x 22), .ref (x 27), .int yr])), ((x 5), .inr (5, [.ref (x 6), .int e1, .int e2, .int e3, .int e4, .int e5, .int e6, .int e7, .int e8])), ((x 10), .inr (1, [.ref (x 11), .ref (x 12), .ref (x 13), .ref (x 14), .ref (x 15), .ref (x 16), .int (nI ca)])), ((x 11), .inl (cI, 16, .inl k11)), ((x 15), .inl (cI, 16, .inl k15))] [.ref (x 0), .int q]) (vp_Si (fun r : Int32 => True)) 0 0 (fun _ => False) := by
  refine Met.ofW (cc := cX7_mayCome) (maxL := 2) (ret := (some .boolean)) (by decide) rfl ?_
  intro p e s m args below meth c s₁ B hml hv
  obtain ⟨rfl, hP, hK⟩ := hv
  have hx := B.exec
  have hb := B.bytes
  have hr := B.returns
  have hts := atoms_spec (ws := wsX7_mayCome) B.pre
  have hown : s.vm.findClass RX7 = some m.cls := findClass_of_methodNamed B.named
  have hlocks := B.notSynchronized
  have hP : va_P D vwCl [((x 0), .inr (7, [.ref (x 1), .ref (x 5), .ref (x 7), .ref (x 10), .ref (x 17), .ref (x 22), .ref (x 27), .int yr])), ((x 5), .inr (5, [.ref (x 6), .int e1, .int e2, .int e3, .int e4, .int e5, .int e6, .int e7, .int e8])), ((x 10), .inr (1, [.ref (x 11), .ref (x 12), .ref (x 13), .ref (x 14), .ref (x 15), .ref (x 16), .int (nI ca)])), ((x 11), .inl (cI, 16, .inl k11)), ((x 15), .inl (cI, 16, .inl k15))] s.heap := hP
  have w_1 : ∀ w ∈ wsX70, w ∈ wsX7_mayCome := by decide +kernel
  have w_2 := hts (Cond.fieldLink RX7 33 "BlueCoats" "children" "LBlueCoats$Children;") (by decide +kernel)
  have w_3 : ∀ w ∈ wsX10, w ∈ wsX7_mayCome := by decide +kernel
  have w_4 := hts (Cond.fieldLink RX7 118 "BlueCoats$Children" "state" "[I") (by decide +kernel)
  have w_5 := hts (Cond.fieldLink RX7 155 "BlueCoats$Children" "age" "[I") (by decide +kernel)
  have w_6 := hts (Cond.fieldLink RX7 19 "BlueCoats" "law" "LBlueCoats$Statutes;") (by decide +kernel)
  have w_7 : ∀ w ∈ wsX50, w ∈ wsX7_mayCome := by decide +kernel
  have w_8 := hts (Cond.fieldLink RX7 158 "BlueCoats$Statutes" "ageFrom" "I") (by decide +kernel)
  have w_9 := hts (Cond.fieldLink RX7 161 "BlueCoats$Statutes" "ageTo" "I") (by decide +kernel)
  have hl := lv_entry ([.ref (x 0), .int q]) (n := 2) (Nat.le_of_ble_eq_true rfl)
  rw [lg_entry_eq]
  generalize (lg_sl ([.ref (x 0), .int q]) ++ List.replicate (2 - (lg_sl ([.ref (x 0), .int q])).length) Slot.unset).toArray = ls at hl ⊢
  have hl : lv_has ls 2 [(0, .ref (x 0)), (1, .int q)] := hl
  refine lv_aload_n hx hb dX7_mayCome_0 rfl (lv_at hl 0 rfl) ?_
  refine va_get (D := D) (ci := 7) (v := .ref (x 10)) (C := RX7) (T := TX7) (N := 8) hx hb hts w_1 hown hK hP 0 rfl rfl 3 (by decide) w_2 (fun _ h9 => h9) rfl dX7_mayCome_1 ?_
  refine lv_iload_n hx hb dX7_mayCome_4 rfl (lv_at hl 1 rfl) ?_
  refine vp_callSi (va_Run.run (va_runV (As := [.int q]) (rest := []) ⟨hx, hb, hml, hown, hts⟩ (g_X1_has l D cB cI cJ cZ (x 10) (x 11) (x 12) (x 13) (x 14) (x 15) (x 16) ca q (by omega)) (cwV 1 hts gX7_mayCome_X1_has rfl rfl rfl (by decide +kernel) ⟨Nat.le_of_ble_eq_true rfl, Nat.le_of_ble_eq_true rfl⟩) (pre_VR (hP.sub (ws' := [((x 10), .inr (1, [.ref (x 11), .ref (x 12), .ref (x 13), .ref (x 14), .ref (x 15), .ref (x 16), .int (nI ca)]))]) [2] rfl) hK 0 rfl rfl rfl) rfl rfl hl.1 rfl (lv_room (Nat.le_of_ble_eq_true rfl)) dX7_mayCome_5 ⟨Nat.le_of_ble_eq_true rfl, Nat.le_of_ble_eq_true rfl⟩)) (fun r_1 hw_r_1 => ?_)
  refine lv_if_eq (tgt := 65) hx hb dX7_mayCome_8 (by decide) (fun c_8 => ?_) (fun c_8 => ?_)
  ·
    refine lv_iconst (v := 0) hx hb dX7_mayCome_65 (by decide) ?_
    exact W.zret (v := 0) hx hb hr rfl (fun t ht hW => ⟨_, rfl, trivial, ht⟩) (fun q h => nomatch h) dX7_mayCome_66
  ·
    refine lv_aload_n hx hb dX7_mayCome_11 rfl (lv_at hl 0 rfl) ?_
    refine va_get (D := D) (ci := 7) (v := .ref (x 10)) (C := RX7) (T := TX7) (N := 8) hx hb hts w_1 hown hK hP 0 rfl rfl 3 (by decide) w_2 (fun _ h9 => h9) rfl dX7_mayCome_12 ?_
    refine va_get (D := D) (ci := 1) (v := .ref (x 15)) (C := RX1) (T := TX1) (N := 7) hx hb hts w_3 hown hK hP 2 rfl rfl 4 (by decide) w_4 (fun _ h9 => h9) rfl dX7_mayCome_15 ?_
    refine lv_iload_n hx hb dX7_mayCome_18 rfl (lv_at hl 1 rfl) ?_
    refine sv_iald (v := k15 q.toNatClampNeg) hx hb hK hP 4 1 rfl rfl (in_up (has_in hw_r_1 c_8) b_ca) rfl dX7_mayCome_19 ?_
    refine lv_topi (fun v_2 ev_2 => ?_)
    refine lv_if_ne (tgt := 65) hx hb dX7_mayCome_20 (by decide) (fun c_20 => ?_) (fun c_20 => ?_)
    ·
      refine lv_iconst (v := 0) hx hb dX7_mayCome_65 (by decide) ?_
      exact W.zret (v := 0) hx hb hr rfl (fun t ht hW => ⟨_, rfl, trivial, ht⟩) (fun q h => nomatch h) dX7_mayCome_66
    ·
      refine lv_aload_n hx hb dX7_mayCome_23 rfl (lv_at hl 0 rfl) ?_
      refine va_get (D := D) (ci := 7) (v := .ref (x 10)) (C := RX7) (T := TX7) (N := 8) hx hb hts w_1 hown hK hP 0 rfl rfl 3 (by decide) w_2 (fun _ h9 => h9) rfl dX7_mayCome_24 ?_
      refine va_get (D := D) (ci := 1) (v := .ref (x 11)) (C := RX1) (T := TX1) (N := 7) hx hb hts w_3 hown hK hP 2 rfl rfl 0 (by decide) w_5 (fun _ h9 => h9) rfl dX7_mayCome_27 ?_
      refine lv_iload_n hx hb dX7_mayCome_30 rfl (lv_at hl 1 rfl) ?_
      refine sv_iald (v := k11 q.toNatClampNeg) hx hb hK hP 3 1 rfl rfl (in_up (has_in hw_r_1 c_8) b_ca) rfl dX7_mayCome_31 ?_
      refine lv_topi (fun v_3 ev_3 => ?_)
      refine lv_aload_n hx hb dX7_mayCome_32 rfl (lv_at hl 0 rfl) ?_
      refine va_get (D := D) (ci := 7) (v := .ref (x 5)) (C := RX7) (T := TX7) (N := 8) hx hb hts w_1 hown hK hP 0 rfl rfl 1 (by decide) w_6 (fun _ h9 => h9) rfl dX7_mayCome_33 ?_
      refine va_get (D := D) (ci := 5) (v := .int e4) (C := RX5) (T := TX5) (N := 9) hx hb hts w_7 hown hK hP 1 rfl rfl 4 (by decide) w_8 (fun _ h9 => h9) rfl dX7_mayCome_36 ?_
      refine lv_icmp_lt (tgt := 65) hx hb dX7_mayCome_39 (by decide) (fun c_39 => ?_) (fun c_39 => ?_)
      ·
        refine lv_iconst (v := 0) hx hb dX7_mayCome_65 (by decide) ?_
        exact W.zret (v := 0) hx hb hr rfl (fun t ht hW => ⟨_, rfl, trivial, ht⟩) (fun q h => nomatch h) dX7_mayCome_66
      ·
        refine lv_aload_n hx hb dX7_mayCome_42 rfl (lv_at hl 0 rfl) ?_
        refine va_get (D := D) (ci := 7) (v := .ref (x 10)) (C := RX7) (T := TX7) (N := 8) hx hb hts w_1 hown hK hP 0 rfl rfl 3 (by decide) w_2 (fun _ h9 => h9) rfl dX7_mayCome_43 ?_
        refine va_get (D := D) (ci := 1) (v := .ref (x 11)) (C := RX1) (T := TX1) (N := 7) hx hb hts w_3 hown hK hP 2 rfl rfl 0 (by decide) w_5 (fun _ h9 => h9) rfl dX7_mayCome_46 ?_
        refine lv_iload_n hx hb dX7_mayCome_49 rfl (lv_at hl 1 rfl) ?_
        refine sv_iald (v := k11 q.toNatClampNeg) hx hb hK hP 3 1 rfl rfl (in_up (has_in hw_r_1 c_8) b_ca) rfl dX7_mayCome_50 ?_
        refine lv_topi (fun v_4 ev_4 => ?_)
        refine lv_aload_n hx hb dX7_mayCome_51 rfl (lv_at hl 0 rfl) ?_
        refine va_get (D := D) (ci := 7) (v := .ref (x 5)) (C := RX7) (T := TX7) (N := 8) hx hb hts w_1 hown hK hP 0 rfl rfl 1 (by decide) w_6 (fun _ h9 => h9) rfl dX7_mayCome_52 ?_
        refine va_get (D := D) (ci := 5) (v := .int e5) (C := RX5) (T := TX5) (N := 9) hx hb hts w_7 hown hK hP 1 rfl rfl 5 (by decide) w_9 (fun _ h9 => h9) rfl dX7_mayCome_55 ?_
        refine lv_icmp_ge (tgt := 65) hx hb dX7_mayCome_58 (by decide) (fun c_58 => ?_) (fun c_58 => ?_)
        ·
          refine lv_iconst (v := 0) hx hb dX7_mayCome_65 (by decide) ?_
          exact W.zret (v := 0) hx hb hr rfl (fun t ht hW => ⟨_, rfl, trivial, ht⟩) (fun q h => nomatch h) dX7_mayCome_66
        ·
          refine lv_iconst (v := 1) hx hb dX7_mayCome_61 (by decide) ?_
          refine lv_goto (tgt := 66) hx hb dX7_mayCome_62 (by decide) ?_
          exact W.zret (v := 1) hx hb hr rfl (fun t ht hW => ⟨_, rfl, trivial, ht⟩) (fun q h => nomatch h) dX7_mayCome_66

set_option maxHeartbeats 4000000 in
set_option maxRecDepth 100000 in
theorem n_X7_coat (l : Launch) (D : va_G) (cB cI cJ cZ : ClassId) (x : Nat → Nat) (yr : Int32) (wa : Nat) (w18 : Nat → Int32) (w19 : Nat → Int32) (w20 : Nat → Int32) (w21 : Nat → Int32) (q q2 : Int32) (b_wa : wa ≤ 40) (hz : ∀ k, w20 k = 0 ∨ w20 k = 1) : Met l yX7_coat wsX7_coat ({ frames := 1, cells := 0, slots := 0, locals := 21 } : Room) (cRd D (aTy cB cI cJ cZ) [((x 0), .inr (7, [.ref (x 1), .ref (x 5), .ref (x 7), .ref (x 10), .ref (x 17), .ref (x 22), .ref (x 27), .int yr])), ((x 17), .inr (6, [.ref (x 18), .ref (x 19), .ref (x 20), .ref (x 21), .int (nI wa)])), ((x 18), .inl (cI, 40, .inl w18)), ((x 19), .inl (cI, 40, .inl w19)), ((x 20), .inl (cZ, 40, .inl w20)), ((x 21), .inl (cI, 40, .inl w21))] [.ref (x 0), .int q, .int q2]) (vp_Si (fun r : Int32 => True)) 0 0 (fun _ => False) := by
  refine Met.ofW (cc := cX7_coat) (maxL := 3) (ret := (some .int)) (by decide) rfl ?_
  intro p e s m args below meth c s₁ B hml hv
  obtain ⟨rfl, hP, hK⟩ := hv
  have hx := B.exec
  have hb := B.bytes
  have hr := B.returns
  have hts := atoms_spec (ws := wsX7_coat) B.pre
  have hown : s.vm.findClass RX7 = some m.cls := findClass_of_methodNamed B.named
  have hlocks := B.notSynchronized
  have hP : va_P D vwCl [((x 0), .inr (7, [.ref (x 1), .ref (x 5), .ref (x 7), .ref (x 10), .ref (x 17), .ref (x 22), .ref (x 27), .int yr])), ((x 17), .inr (6, [.ref (x 18), .ref (x 19), .ref (x 20), .ref (x 21), .int (nI wa)])), ((x 18), .inl (cI, 40, .inl w18)), ((x 19), .inl (cI, 40, .inl w19)), ((x 20), .inl (cZ, 40, .inl w20)), ((x 21), .inl (cI, 40, .inl w21))] s.heap := hP
  have w_1 : ∀ w ∈ wsX70, w ∈ wsX7_coat := by decide +kernel
  have w_2 := hts (Cond.fieldLink RX7 40 "BlueCoats" "wardrobe" "LBlueCoats$Wardrobe;") (by decide +kernel)
  have w_3 : ∀ w ∈ wsX60, w ∈ wsX7_coat := by decide +kernel
  have w_4 := hts (Cond.fieldLink RX7 247 "BlueCoats$Wardrobe" "size" "[I") (by decide +kernel)
  have w_5 := hts (Cond.fieldLink RX7 248 "BlueCoats$Wardrobe" "worn" "[I") (by decide +kernel)
  have w_6 := hts (Cond.fieldLink RX7 251 "BlueCoats$Wardrobe" "gone" "[Z") (by decide +kernel)
  have w_7 := hts (Cond.fieldLink RX7 182 "BlueCoats$Wardrobe" "wearer" "[I") (by decide +kernel)
  have hl := lv_entry ([.ref (x 0), .int q, .int q2]) (n := 3) (Nat.le_of_ble_eq_true rfl)
  rw [lg_entry_eq]
  generalize (lg_sl ([.ref (x 0), .int q, .int q2]) ++ List.replicate (3 - (lg_sl ([.ref (x 0), .int q, .int q2])).length) Slot.unset).toArray = ls at hl ⊢
  have hl : lv_has ls 3 [(0, .ref (x 0)), (1, .int q), (2, .int q2)] := hl
  refine lv_aload_n hx hb dX7_coat_0 rfl (lv_at hl 0 rfl) ?_
  refine va_get (D := D) (ci := 7) (v := .ref (x 17)) (C := RX7) (T := TX7) (N := 8) hx hb hts w_1 hown hK hP 0 rfl rfl 4 (by decide) w_2 (fun _ h9 => h9) rfl dX7_coat_1 ?_
  refine lv_iload_n hx hb dX7_coat_4 rfl (lv_at hl 1 rfl) ?_
  refine vp_callSi (va_Run.run (va_runV (As := [.int q]) (rest := []) ⟨hx, hb, hml, hown, hts⟩ (g_X6_has l D cB cI cJ cZ (x 17) (x 18) (x 19) (x 20) (x 21) wa q (by omega)) (cwV 1 hts gX7_coat_X6_has rfl rfl rfl (by decide +kernel) ⟨Nat.le_of_ble_eq_true rfl, Nat.le_of_ble_eq_true rfl⟩) (pre_VR (hP.sub (ws' := [((x 17), .inr (6, [.ref (x 18), .ref (x 19), .ref (x 20), .ref (x 21), .int (nI wa)]))]) [1] rfl) hK 0 rfl rfl rfl) rfl rfl hl.1 rfl (lv_room (Nat.le_of_ble_eq_true rfl)) dX7_coat_5 ⟨Nat.le_of_ble_eq_true rfl, Nat.le_of_ble_eq_true rfl⟩)) (fun r_1 hw_r_1 => ?_)
  refine lv_if_ne (tgt := 13) hx hb dX7_coat_8 (by decide) (fun c_8 => ?_) (fun c_8 => ?_)
  ·
    refine lv_iload_n hx hb dX7_coat_13 rfl (lv_at hl 2 rfl) ?_
    by_cases k_140 : q2 = 0
    ·
      subst k_140
      refine lv_tableIn (off := 30) (tgt := 44) hx hb dX7_coat_14 (by decide) (by decide) rfl (by decide) ?_
      refine lv_aload_n hx hb dX7_coat_44 rfl (lv_at hl 0 rfl) ?_
      refine va_get (D := D) (ci := 7) (v := .ref (x 17)) (C := RX7) (T := TX7) (N := 8) hx hb hts w_1 hown hK hP 0 rfl rfl 4 (by decide) w_2 (fun _ h9 => h9) rfl dX7_coat_45 ?_
      refine va_get (D := D) (ci := 6) (v := .ref (x 18)) (C := RX6) (T := TX6) (N := 5) hx hb hts w_3 hown hK hP 1 rfl rfl 0 (by decide) w_4 (fun _ h9 => h9) rfl dX7_coat_48 ?_
      refine lv_iload_n hx hb dX7_coat_51 rfl (lv_at hl 1 rfl) ?_
      refine sv_iald (v := w18 q.toNatClampNeg) hx hb hK hP 2 1 rfl rfl (in_up (has_in hw_r_1 c_8) b_wa) rfl dX7_coat_52 ?_
      refine lv_topi (fun v_2 ev_2 => ?_)
      exact W.iret (v := v_2) hx hb hr (fun t ht hW => ⟨_, rfl, trivial, ht⟩) (fun q h => nomatch h) dX7_coat_53
    by_cases k_141 : q2 = 1
    ·
      subst k_141
      refine lv_tableIn (off := 40) (tgt := 54) hx hb dX7_coat_14 (by decide) (by decide) rfl (by decide) ?_
      refine lv_aload_n hx hb dX7_coat_54 rfl (lv_at hl 0 rfl) ?_
      refine va_get (D := D) (ci := 7) (v := .ref (x 17)) (C := RX7) (T := TX7) (N := 8) hx hb hts w_1 hown hK hP 0 rfl rfl 4 (by decide) w_2 (fun _ h9 => h9) rfl dX7_coat_55 ?_
      refine va_get (D := D) (ci := 6) (v := .ref (x 19)) (C := RX6) (T := TX6) (N := 5) hx hb hts w_3 hown hK hP 1 rfl rfl 1 (by decide) w_5 (fun _ h9 => h9) rfl dX7_coat_58 ?_
      refine lv_iload_n hx hb dX7_coat_61 rfl (lv_at hl 1 rfl) ?_
      refine sv_iald (v := w19 q.toNatClampNeg) hx hb hK hP 3 1 rfl rfl (in_up (has_in hw_r_1 c_8) b_wa) rfl dX7_coat_62 ?_
      refine lv_topi (fun v_3 ev_3 => ?_)
      exact W.iret (v := v_3) hx hb hr (fun t ht hW => ⟨_, rfl, trivial, ht⟩) (fun q h => nomatch h) dX7_coat_63
    by_cases k_142 : q2 = 2
    ·
      subst k_142
      refine lv_tableIn (off := 50) (tgt := 64) hx hb dX7_coat_14 (by decide) (by decide) rfl (by decide) ?_
      refine lv_aload_n hx hb dX7_coat_64 rfl (lv_at hl 0 rfl) ?_
      refine va_get (D := D) (ci := 7) (v := .ref (x 17)) (C := RX7) (T := TX7) (N := 8) hx hb hts w_1 hown hK hP 0 rfl rfl 4 (by decide) w_2 (fun _ h9 => h9) rfl dX7_coat_65 ?_
      refine va_get (D := D) (ci := 6) (v := .ref (x 20)) (C := RX6) (T := TX6) (N := 5) hx hb hts w_3 hown hK hP 1 rfl rfl 2 (by decide) w_6 (fun _ h9 => h9) rfl dX7_coat_68 ?_
      refine lv_iload_n hx hb dX7_coat_71 rfl (lv_at hl 1 rfl) ?_
      refine sv_zald (v := w20 q.toNatClampNeg) hx hb hK hP 4 3 rfl rfl (in_up (has_in hw_r_1 c_8) b_wa) rfl dX7_coat_72 ?_
      refine lv_topi (fun v_4 ev_4 => ?_)
      refine lv_if_eq (tgt := 80) hx hb dX7_coat_73 (by decide) (fun c_73 => ?_) (fun c_73 => ?_)
      ·
        refine lv_iconst (v := 0) hx hb dX7_coat_80 (by decide) ?_
        exact W.iret (v := 0) hx hb hr (fun t ht hW => ⟨_, rfl, trivial, ht⟩) (fun q h => nomatch h) dX7_coat_81
      ·
        refine lv_iconst (v := 1) hx hb dX7_coat_76 (by decide) ?_
        refine lv_goto (tgt := 81) hx hb dX7_coat_77 (by decide) ?_
        exact W.iret (v := 1) hx hb hr (fun t ht hW => ⟨_, rfl, trivial, ht⟩) (fun q h => nomatch h) dX7_coat_81
    by_cases k_143 : q2 = 3
    ·
      subst k_143
      refine lv_tableIn (off := 68) (tgt := 82) hx hb dX7_coat_14 (by decide) (by decide) rfl (by decide) ?_
      refine lv_aload_n hx hb dX7_coat_82 rfl (lv_at hl 0 rfl) ?_
      refine va_get (D := D) (ci := 7) (v := .ref (x 17)) (C := RX7) (T := TX7) (N := 8) hx hb hts w_1 hown hK hP 0 rfl rfl 4 (by decide) w_2 (fun _ h9 => h9) rfl dX7_coat_83 ?_
      refine va_get (D := D) (ci := 6) (v := .ref (x 21)) (C := RX6) (T := TX6) (N := 5) hx hb hts w_3 hown hK hP 1 rfl rfl 3 (by decide) w_7 (fun _ h9 => h9) rfl dX7_coat_86 ?_
      refine lv_iload_n hx hb dX7_coat_89 rfl (lv_at hl 1 rfl) ?_
      refine sv_iald (v := w21 q.toNatClampNeg) hx hb hK hP 5 1 rfl rfl (in_up (has_in hw_r_1 c_8) b_wa) rfl dX7_coat_90 ?_
      refine lv_topi (fun v_5 ev_5 => ?_)
      exact W.iret (v := v_5) hx hb hr (fun t ht hW => ⟨_, rfl, trivial, ht⟩) (fun q h => nomatch h) dX7_coat_91
    refine lv_tableOut (tgt := 92) hx hb dX7_coat_14 (sw_out4 k_140 k_141 k_142 k_143) (by decide) ?_
    refine lv_iconst (v := (-1)) hx hb dX7_coat_92 (by decide) ?_
    exact W.iret (v := (-1)) hx hb hr (fun t ht hW => ⟨_, rfl, trivial, ht⟩) (fun q h => nomatch h) dX7_coat_93
  ·
    refine lv_iconst (v := (-1)) hx hb dX7_coat_11 (by decide) ?_
    exact W.iret (v := (-1)) hx hb hr (fun t ht hW => ⟨_, rfl, trivial, ht⟩) (fun q h => nomatch h) dX7_coat_12

set_option maxHeartbeats 4000000 in
set_option maxRecDepth 100000 in
theorem n_X7_count (l : Launch) (D : va_G) (cB cI cJ cZ : ClassId) (x : Nat → Nat) (yr : Int32) (e1 : Int32) (e2 : Int32) (e3 : Int32) (e4 : Int32) (e5 : Int32) (e6 : Int32) (e7 : Int32) (e8 : Int32) (re : Nat → Int32) (ga : Nat) (gx : Int32) (ca : Nat) (k15 : Nat → Int32) (wa : Nat) (hn : Nat) (h4 : Int32) (h5 : Int32) (q : Int32) (b_ga : ga ≤ 8) (b_ca : ca ≤ 16) (b_wa : wa ≤ 40) (b_hn : hn ≤ 8) : Met l yX7_count wsX7_count ({ frames := 1, cells := 0, slots := 0, locals := 22 } : Room) (cRd D (aTy cB cI cJ cZ) [((x 0), .inr (7, [.ref (x 1), .ref (x 5), .ref (x 7), .ref (x 10), .ref (x 17), .ref (x 22), .ref (x 27), .int yr])), ((x 5), .inr (5, [.ref (x 6), .int e1, .int e2, .int e3, .int e4, .int e5, .int e6, .int e7, .int e8])), ((x 6), .inl (cI, 8, .inl re)), ((x 7), .inr (3, [.ref (x 8), .ref (x 9), .int (nI ga), .int gx])), ((x 10), .inr (1, [.ref (x 11), .ref (x 12), .ref (x 13), .ref (x 14), .ref (x 15), .ref (x 16), .int (nI ca)])), ((x 15), .inl (cI, 16, .inl k15)), ((x 17), .inr (6, [.ref (x 18), .ref (x 19), .ref (x 20), .ref (x 21), .int (nI wa)])), ((x 27), .inr (0, [.ref (x 28), .ref (x 29), .ref (x 30), .int (nI hn), .int h4, .int h5, .ref (x 31), .ref (x 32), .ref (x 33)]))] [.ref (x 0), .int q]) (vp_Si (fun r : Int32 => True)) 0 0 (fun _ => False) := by
  refine Met.ofW (cc := cX7_count) (maxL := 2) (ret := (some .int)) (by decide) rfl ?_
  intro p e s m args below meth c s₁ B hml hv
  obtain ⟨rfl, hP, hK⟩ := hv
  have hx := B.exec
  have hb := B.bytes
  have hr := B.returns
  have hts := atoms_spec (ws := wsX7_count) B.pre
  have hown : s.vm.findClass RX7 = some m.cls := findClass_of_methodNamed B.named
  have hlocks := B.notSynchronized
  have hP : va_P D vwCl [((x 0), .inr (7, [.ref (x 1), .ref (x 5), .ref (x 7), .ref (x 10), .ref (x 17), .ref (x 22), .ref (x 27), .int yr])), ((x 5), .inr (5, [.ref (x 6), .int e1, .int e2, .int e3, .int e4, .int e5, .int e6, .int e7, .int e8])), ((x 6), .inl (cI, 8, .inl re)), ((x 7), .inr (3, [.ref (x 8), .ref (x 9), .int (nI ga), .int gx])), ((x 10), .inr (1, [.ref (x 11), .ref (x 12), .ref (x 13), .ref (x 14), .ref (x 15), .ref (x 16), .int (nI ca)])), ((x 15), .inl (cI, 16, .inl k15)), ((x 17), .inr (6, [.ref (x 18), .ref (x 19), .ref (x 20), .ref (x 21), .int (nI wa)])), ((x 27), .inr (0, [.ref (x 28), .ref (x 29), .ref (x 30), .int (nI hn), .int h4, .int h5, .ref (x 31), .ref (x 32), .ref (x 33)]))] s.heap := hP
  have w_1 : ∀ w ∈ wsX70, w ∈ wsX7_count := by decide +kernel
  have w_2 := hts (Cond.fieldLink RX7 26 "BlueCoats" "givers" "LBlueCoats$Givers;") (by decide +kernel)
  have w_3 : ∀ w ∈ wsX30, w ∈ wsX7_count := by decide +kernel
  have w_4 := hts (Cond.fieldLink RX7 136 "BlueCoats$Givers" "number" "I") (by decide +kernel)
  have w_5 := hts (Cond.fieldLink RX7 33 "BlueCoats" "children" "LBlueCoats$Children;") (by decide +kernel)
  have w_6 : ∀ w ∈ wsX10, w ∈ wsX7_count := by decide +kernel
  have w_7 := hts (Cond.fieldLink RX7 145 "BlueCoats$Children" "number" "I") (by decide +kernel)
  have w_8 := hts (Cond.fieldLink RX7 40 "BlueCoats" "wardrobe" "LBlueCoats$Wardrobe;") (by decide +kernel)
  have w_9 : ∀ w ∈ wsX60, w ∈ wsX7_count := by decide +kernel
  have w_10 := hts (Cond.fieldLink RX7 173 "BlueCoats$Wardrobe" "number" "I") (by decide +kernel)
  have w_11 := hts (Cond.fieldLink RX7 54 "BlueCoats" "chest" "LBlueCoats$Chest;") (by decide +kernel)
  have w_12 : ∀ w ∈ wsX00, w ∈ wsX7_count := by decide +kernel
  have w_13 := hts (Cond.fieldLink RX7 222 "BlueCoats$Chest" "number" "I") (by decide +kernel)
  have w_14 := hts (Cond.fieldLink RX7 133 "BlueCoats$Givers" "next" "I") (by decide +kernel)
  have w_15 := hts (Cond.fieldLink RX7 19 "BlueCoats" "law" "LBlueCoats$Statutes;") (by decide +kernel)
  have w_16 := hts (Cond.fieldLink RX7 58 "BlueCoats" "years" "I") (by decide +kernel)
  have hl := lv_entry ([.ref (x 0), .int q]) (n := 2) (Nat.le_of_ble_eq_true rfl)
  rw [lg_entry_eq]
  generalize (lg_sl ([.ref (x 0), .int q]) ++ List.replicate (2 - (lg_sl ([.ref (x 0), .int q])).length) Slot.unset).toArray = ls at hl ⊢
  have hl : lv_has ls 2 [(0, .ref (x 0)), (1, .int q)] := hl
  refine lv_iload_n hx hb dX7_count_0 rfl (lv_at hl 1 rfl) ?_
  by_cases k_10 : q = 0
  ·
    subst k_10
    refine lv_tableIn (off := 47) (tgt := 48) hx hb dX7_count_1 (by decide) (by decide) rfl (by decide) ?_
    refine lv_aload_n hx hb dX7_count_48 rfl (lv_at hl 0 rfl) ?_
    refine va_get (D := D) (ci := 7) (v := .ref (x 7)) (C := RX7) (T := TX7) (N := 8) hx hb hts w_1 hown hK hP 0 rfl rfl 2 (by decide) w_2 (fun _ h9 => h9) rfl dX7_count_49 ?_
    refine va_get (D := D) (ci := 3) (v := .int (nI ga)) (C := RX3) (T := TX3) (N := 4) hx hb hts w_3 hown hK hP 3 rfl rfl 2 (by decide) w_4 (fun _ h9 => h9) rfl dX7_count_52 ?_
    exact W.iret (v := nI ga) hx hb hr (fun t ht hW => ⟨_, rfl, trivial, ht⟩) (fun q h => nomatch h) dX7_count_55
  by_cases k_11 : q = 1
  ·
    subst k_11
    refine lv_tableIn (off := 55) (tgt := 56) hx hb dX7_count_1 (by decide) (by decide) rfl (by decide) ?_
    refine lv_aload_n hx hb dX7_count_56 rfl (lv_at hl 0 rfl) ?_
    refine va_get (D := D) (ci := 7) (v := .ref (x 10)) (C := RX7) (T := TX7) (N := 8) hx hb hts w_1 hown hK hP 0 rfl rfl 3 (by decide) w_5 (fun _ h9 => h9) rfl dX7_count_57 ?_
    refine va_get (D := D) (ci := 1) (v := .int (nI ca)) (C := RX1) (T := TX1) (N := 7) hx hb hts w_6 hown hK hP 4 rfl rfl 6 (by decide) w_7 (fun _ h9 => h9) rfl dX7_count_60 ?_
    exact W.iret (v := nI ca) hx hb hr (fun t ht hW => ⟨_, rfl, trivial, ht⟩) (fun q h => nomatch h) dX7_count_63
  by_cases k_12 : q = 2
  ·
    subst k_12
    refine lv_tableIn (off := 63) (tgt := 64) hx hb dX7_count_1 (by decide) (by decide) rfl (by decide) ?_
    refine lv_aload_n hx hb dX7_count_64 rfl (lv_at hl 0 rfl) ?_
    refine va_get (D := D) (ci := 7) (v := .ref (x 10)) (C := RX7) (T := TX7) (N := 8) hx hb hts w_1 hown hK hP 0 rfl rfl 3 (by decide) w_5 (fun _ h9 => h9) rfl dX7_count_65 ?_
    refine vp_callSi (va_Run.run (va_runV (As := []) (rest := []) ⟨hx, hb, hml, hown, hts⟩ (g_X1_in l D cB cI cJ cZ (x 10) (x 11) (x 12) (x 13) (x 14) (x 15) (x 16) ca k15 b_ca) (cwV 0 hts gX7_count_X1_in rfl rfl rfl (by decide +kernel) ⟨Nat.le_of_ble_eq_true rfl, Nat.le_of_ble_eq_true rfl⟩) (pre_VR (hP.sub (ws' := [((x 10), .inr (1, [.ref (x 11), .ref (x 12), .ref (x 13), .ref (x 14), .ref (x 15), .ref (x 16), .int (nI ca)])), ((x 15), .inl (cI, 16, .inl k15))]) [4, 5] rfl) hK 0 rfl rfl rfl) rfl rfl hl.1 rfl (lv_room (Nat.le_of_ble_eq_true rfl)) dX7_count_68 ⟨Nat.le_of_ble_eq_true rfl, Nat.le_of_ble_eq_true rfl⟩)) (fun r_1 hw_r_1 => ?_)
    exact W.iret (v := r_1) hx hb hr (fun t ht hW => ⟨_, rfl, trivial, ht⟩) (fun q h => nomatch h) dX7_count_71
  by_cases k_13 : q = 3
  ·
    subst k_13
    refine lv_tableIn (off := 71) (tgt := 72) hx hb dX7_count_1 (by decide) (by decide) rfl (by decide) ?_
    refine lv_aload_n hx hb dX7_count_72 rfl (lv_at hl 0 rfl) ?_
    refine va_get (D := D) (ci := 7) (v := .ref (x 17)) (C := RX7) (T := TX7) (N := 8) hx hb hts w_1 hown hK hP 0 rfl rfl 4 (by decide) w_8 (fun _ h9 => h9) rfl dX7_count_73 ?_
    refine va_get (D := D) (ci := 6) (v := .int (nI wa)) (C := RX6) (T := TX6) (N := 5) hx hb hts w_9 hown hK hP 6 rfl rfl 4 (by decide) w_10 (fun _ h9 => h9) rfl dX7_count_76 ?_
    exact W.iret (v := nI wa) hx hb hr (fun t ht hW => ⟨_, rfl, trivial, ht⟩) (fun q h => nomatch h) dX7_count_79
  by_cases k_14 : q = 4
  ·
    subst k_14
    refine lv_tableIn (off := 79) (tgt := 80) hx hb dX7_count_1 (by decide) (by decide) rfl (by decide) ?_
    refine lv_aload_n hx hb dX7_count_80 rfl (lv_at hl 0 rfl) ?_
    refine va_get (D := D) (ci := 7) (v := .ref (x 27)) (C := RX7) (T := TX7) (N := 8) hx hb hts w_1 hown hK hP 0 rfl rfl 6 (by decide) w_11 (fun _ h9 => h9) rfl dX7_count_81 ?_
    refine va_get (D := D) (ci := 0) (v := .int (nI hn)) (C := RX0) (T := TX0) (N := 9) hx hb hts w_12 hown hK hP 7 rfl rfl 3 (by decide) w_13 (fun _ h9 => h9) rfl dX7_count_84 ?_
    exact W.iret (v := nI hn) hx hb hr (fun t ht hW => ⟨_, rfl, trivial, ht⟩) (fun q h => nomatch h) dX7_count_87
  by_cases k_15 : q = 5
  ·
    subst k_15
    refine lv_tableIn (off := 87) (tgt := 88) hx hb dX7_count_1 (by decide) (by decide) rfl (by decide) ?_
    refine lv_aload_n hx hb dX7_count_88 rfl (lv_at hl 0 rfl) ?_
    refine va_get (D := D) (ci := 7) (v := .ref (x 7)) (C := RX7) (T := TX7) (N := 8) hx hb hts w_1 hown hK hP 0 rfl rfl 2 (by decide) w_2 (fun _ h9 => h9) rfl dX7_count_89 ?_
    refine va_get (D := D) (ci := 3) (v := .int gx) (C := RX3) (T := TX3) (N := 4) hx hb hts w_3 hown hK hP 3 rfl rfl 3 (by decide) w_14 (fun _ h9 => h9) rfl dX7_count_92 ?_
    exact W.iret (v := gx) hx hb hr (fun t ht hW => ⟨_, rfl, trivial, ht⟩) (fun q h => nomatch h) dX7_count_95
  by_cases k_16 : q = 6
  ·
    subst k_16
    refine lv_tableIn (off := 95) (tgt := 96) hx hb dX7_count_1 (by decide) (by decide) rfl (by decide) ?_
    refine lv_aload_n hx hb dX7_count_96 rfl (lv_at hl 0 rfl) ?_
    refine va_get (D := D) (ci := 7) (v := .ref (x 5)) (C := RX7) (T := TX7) (N := 8) hx hb hts w_1 hown hK hP 0 rfl rfl 1 (by decide) w_15 (fun _ h9 => h9) rfl dX7_count_97 ?_
    refine vp_callSi (va_Run.run (va_runV (As := []) (rest := []) ⟨hx, hb, hml, hown, hts⟩ (g_X5_way l D cB cI cJ cZ (x 5) (x 6) e1 e2 e3 e4 e5 e6 e7 e8 re) (cwV 0 hts gX7_count_X5_wayNext rfl rfl rfl (by decide +kernel) ⟨Nat.le_of_ble_eq_true rfl, Nat.le_of_ble_eq_true rfl⟩) (pre_VR (hP.sub (ws' := [((x 5), .inr (5, [.ref (x 6), .int e1, .int e2, .int e3, .int e4, .int e5, .int e6, .int e7, .int e8])), ((x 6), .inl (cI, 8, .inl re))]) [1, 2] rfl) hK 0 rfl rfl rfl) rfl rfl hl.1 rfl (lv_room (Nat.le_of_ble_eq_true rfl)) dX7_count_100 ⟨Nat.le_of_ble_eq_true rfl, Nat.le_of_ble_eq_true rfl⟩)) (fun r_2 hw_r_2 => ?_)
    exact W.iret (v := r_2) hx hb hr (fun t ht hW => ⟨_, rfl, trivial, ht⟩) (fun q h => nomatch h) dX7_count_103
  by_cases k_17 : q = 7
  ·
    subst k_17
    refine lv_tableIn (off := 103) (tgt := 104) hx hb dX7_count_1 (by decide) (by decide) rfl (by decide) ?_
    refine lv_aload_n hx hb dX7_count_104 rfl (lv_at hl 0 rfl) ?_
    refine va_get (D := D) (ci := 7) (v := .int yr) (C := RX7) (T := TX7) (N := 8) hx hb hts w_1 hown hK hP 0 rfl rfl 7 (by decide) w_16 (fun _ h9 => h9) rfl dX7_count_105 ?_
    exact W.iret (v := yr) hx hb hr (fun t ht hW => ⟨_, rfl, trivial, ht⟩) (fun q h => nomatch h) dX7_count_108
  refine lv_tableOut (tgt := 109) hx hb dX7_count_1 (sw_out8 k_10 k_11 k_12 k_13 k_14 k_15 k_16 k_17) (by decide) ?_
  refine lv_iconst (v := (-1)) hx hb dX7_count_109 (by decide) ?_
  exact W.iret (v := (-1)) hx hb hr (fun t ht hW => ⟨_, rfl, trivial, ht⟩) (fun q h => nomatch h) dX7_count_110

set_option maxHeartbeats 4000000 in
set_option maxRecDepth 100000 in
theorem n_X7_giver (l : Launch) (D : va_G) (cB cI cJ cZ : ClassId) (sz : Nat) (x : Nat → Nat) (yr : Int32) (ga : Nat) (gx : Int32) (gv : Nat → Int32) (gs : Nat → Int32) (b_ga : ga ≤ 8) : Met l yX7_giver wsX7_giver ({ frames := 1, cells := 0, slots := 0, locals := 20 } : Room) (cPre D (aTy cB cI cJ cZ) [((x 0), .inr (7, [.ref (x 1), .ref (x 5), .ref (x 7), .ref (x 10), .ref (x 17), .ref (x 22), .ref (x 27), .int yr])), ((x 7), .inr (3, [.ref (x 8), .ref (x 9), .int (nI ga), .int gx])), ((x 8), .inl (cI, 8, .inl gv)), ((x 9), .inl (cI, 8, .inl gs))] sz [.ref (x 0)]) (va_Qi (fun (r : Int32) (u : Nat × (Nat → Int32) × (Nat → Int32)) => (ga = 8 ∧ r = -1 ∧ u.1 = ga ∧ u.2.1 = gv ∧ u.2.2 = gs) ∨ (ga < 8 ∧ r = nI ga ∧ u.1 = ga + 1 ∧ u.2.1 = upd gv ga 0 ∧ u.2.2 = upd gs ga (-1))) (cB_ D (aTy cB cI cJ cZ) (va_A [((x 0), .inr (7, [.ref (x 1), .ref (x 5), .ref (x 7), .ref (x 10), .ref (x 17), .ref (x 22), .ref (x 27), .int yr])), ((x 7), .inr (3, [.ref (x 8), .ref (x 9), .int (nI ga), .int gx])), ((x 8), .inl (cI, 8, .inl gv)), ((x 9), .inl (cI, 8, .inl gs))] sz) (fun u => [((x 0), .inr (7, [.ref (x 1), .ref (x 5), .ref (x 7), .ref (x 10), .ref (x 17), .ref (x 22), .ref (x 27), .int yr])), ((x 7), .inr (3, [.ref (x 8), .ref (x 9), .int (nI (u.1)), .int gx])), ((x 8), .inl (cI, 8, .inl u.2.1)), ((x 9), .inl (cI, 8, .inl u.2.2))])) (va_A [((x 0), .inr (7, [.ref (x 1), .ref (x 5), .ref (x 7), .ref (x 10), .ref (x 17), .ref (x 22), .ref (x 27), .int yr])), ((x 7), .inr (3, [.ref (x 8), .ref (x 9), .int (nI ga), .int gx])), ((x 8), .inl (cI, 8, .inl gv)), ((x 9), .inl (cI, 8, .inl gs))] sz)) 0 0 (va_A [((x 0), .inr (7, [.ref (x 1), .ref (x 5), .ref (x 7), .ref (x 10), .ref (x 17), .ref (x 22), .ref (x 27), .int yr])), ((x 7), .inr (3, [.ref (x 8), .ref (x 9), .int (nI ga), .int gx])), ((x 8), .inl (cI, 8, .inl gv)), ((x 9), .inl (cI, 8, .inl gs))] sz) := by
  refine Met.ofW (cc := cX7_giver) (maxL := 1) (ret := (some .int)) (by decide) rfl ?_
  intro p e s m args below meth c s₁ B hml hv
  obtain ⟨rfl, hsz, hP, hK, hD0⟩ := hv
  have hx := B.exec
  have hb := B.bytes
  have hr := B.returns
  have hts := atoms_spec (ws := wsX7_giver) B.pre
  have hown : s.vm.findClass RX7 = some m.cls := findClass_of_methodNamed B.named
  have hlocks := B.notSynchronized
  subst hsz
  have hD := hD0.self (sz := s.heap.size)
  generalize hAe : va_A [((x 0), .inr (7, [.ref (x 1), .ref (x 5), .ref (x 7), .ref (x 10), .ref (x 17), .ref (x 22), .ref (x 27), .int yr])), ((x 7), .inr (3, [.ref (x 8), .ref (x 9), .int (nI ga), .int gx])), ((x 8), .inl (cI, 8, .inl gv)), ((x 9), .inl (cI, 8, .inl gs))] s.heap.size = A at hD ⊢
  have hA : ∀ q : Nat, s.heap.size ≤ q → A q := fun q h => by rw [← hAe]; exact Or.inr h
  have hS : va_S A s.heap s.heap [] := va_S.rf
  have hP : va_P D vwCl [((x 0), .inr (7, [.ref (x 1), .ref (x 5), .ref (x 7), .ref (x 10), .ref (x 17), .ref (x 22), .ref (x 27), .int yr])), ((x 7), .inr (3, [.ref (x 8), .ref (x 9), .int (nI ga), .int gx])), ((x 8), .inl (cI, 8, .inl gv)), ((x 9), .inl (cI, 8, .inl gs))] s.heap := hP
  have w_1 : ∀ w ∈ wsX70, w ∈ wsX7_giver := by decide +kernel
  have w_2 := hts (Cond.fieldLink RX7 26 "BlueCoats" "givers" "LBlueCoats$Givers;") (by decide +kernel)
  have hl := lv_entry ([.ref (x 0)]) (n := 1) (Nat.le_of_ble_eq_true rfl)
  rw [lg_entry_eq]
  generalize (lg_sl ([.ref (x 0)]) ++ List.replicate (1 - (lg_sl ([.ref (x 0)])).length) Slot.unset).toArray = ls at hl ⊢
  have hl : lv_has ls 1 [(0, .ref (x 0))] := hl
  refine lv_aload_n hx hb dX7_giver_0 rfl (lv_at hl 0 rfl) ?_
  refine va_get (D := D) (ci := 7) (v := .ref (x 7)) (C := RX7) (T := TX7) (N := 8) hx hb hts w_1 hown hK hP 0 rfl rfl 2 (by decide) w_2 (fun _ h9 => h9) rfl dX7_giver_1 ?_
  refine cl_i (wc := [((x 7), .inr (3, [.ref (x 8), .ref (x 9), .int (nI ga), .int gx])), ((x 8), .inl (cI, 8, .inl gv)), ((x 9), .inl (cI, 8, .inl gs))]) (wr := [((x 0), .inr (7, [.ref (x 1), .ref (x 5), .ref (x 7), .ref (x 10), .ref (x 17), .ref (x 22), .ref (x 27), .int yr]))]) (va_runV (As := []) (rest := []) ⟨hx, hb, hml, hown, hts⟩ (g_X3_add l D cB cI cJ cZ s.heap.size (x 7) (x 8) (x 9) ga gx gv gs b_ga) (cwV 0 hts gX7_giver_X3_add rfl rfl rfl (by decide +kernel) ⟨Nat.le_of_ble_eq_true rfl, Nat.le_of_ble_eq_true rfl⟩) (pre_V (hP.sub (ws' := [((x 7), .inr (3, [.ref (x 8), .ref (x 9), .int (nI ga), .int gx])), ((x 8), .inl (cI, 8, .inl gv)), ((x 9), .inl (cI, 8, .inl gs))]) [1, 2, 3] rfl) hK (hD.sub (ws' := [((x 7), .inr (3, [.ref (x 8), .ref (x 9), .int (nI ga), .int gx])), ((x 8), .inl (cI, 8, .inl gv)), ((x 9), .inl (cI, 8, .inl gs))]) [1, 2, 3] (by decide) rfl) 0 rfl rfl rfl) rfl rfl hl.1 rfl (lv_room (Nat.le_of_ble_eq_true rfl)) dX7_giver_4 ⟨Nat.le_of_ble_eq_true rfl, Nat.le_of_ble_eq_true rfl⟩) hP hD hS hA [1, 2, 3] [0] rfl rfl (by decide) (by decide) 0 0 rfl rfl (fun r_1 u_2 H locs hw_u_2 hP hD hS => ?_)
  have hP : va_P D vwCl [((x 0), .inr (7, [.ref (x 1), .ref (x 5), .ref (x 7), .ref (x 10), .ref (x 17), .ref (x 22), .ref (x 27), .int yr])), ((x 7), .inr (3, [.ref (x 8), .ref (x 9), .int (nI (u_2.1)), .int gx])), ((x 8), .inl (cI, 8, .inl u_2.2.1)), ((x 9), .inl (cI, 8, .inl u_2.2.2))] H := hP
  have hD : va_D A [((x 0), .inr (7, [.ref (x 1), .ref (x 5), .ref (x 7), .ref (x 10), .ref (x 17), .ref (x 22), .ref (x 27), .int yr])), ((x 7), .inr (3, [.ref (x 8), .ref (x 9), .int (nI (u_2.1)), .int gx])), ((x 8), .inl (cI, 8, .inl u_2.2.1)), ((x 9), .inl (cI, 8, .inl u_2.2.2))] := hD
  have hP9 := hP.sub (ws' := [((x 0), .inr (7, [.ref (x 1), .ref (x 5), .ref (x 7), .ref (x 10), .ref (x 17), .ref (x 22), .ref (x 27), .int yr])), ((x 7), .inr (3, [.ref (x 8), .ref (x 9), .int (nI (u_2.1)), .int gx])), ((x 8), .inl (cI, 8, .inl u_2.2.1)), ((x 9), .inl (cI, 8, .inl u_2.2.2))]) [0, 1, 2, 3] rfl
  have hD9 := hD.sub (ws' := [((x 0), .inr (7, [.ref (x 1), .ref (x 5), .ref (x 7), .ref (x 10), .ref (x 17), .ref (x 22), .ref (x 27), .int yr])), ((x 7), .inr (3, [.ref (x 8), .ref (x 9), .int (nI (u_2.1)), .int gx])), ((x 8), .inl (cI, 8, .inl u_2.2.1)), ((x 9), .inl (cI, 8, .inl u_2.2.2))]) [0, 1, 2, 3] (by decide) rfl
  exact W.iret (v := r_1) hx hb hr (fun t ht hW => ⟨⟨_, ((u_2.1), u_2.2.1, u_2.2.2), rfl, hw_u_2, by rw [ht]; exact hP9, va_K.moved hW.alike hK, hD9⟩, hS.F ht⟩) hS.2.2 dX7_giver_7

set_option maxHeartbeats 4000000 in
set_option maxRecDepth 100000 in
theorem n_X7_gift (l : Launch) (D : va_G) (cB cI cJ cZ : ClassId) (sz : Nat) (x : Nat → Nat) (yr : Int32) (ga : Nat) (gx : Int32) (gv : Nat → Int32) (gs : Nat → Int32) (q q2 : Int32) (b_ga : ga ≤ 8) : Met l yX7_gift wsX7_gift ({ frames := 2, cells := 0, slots := 0, locals := 43 } : Room) (cPre D (aTy cB cI cJ cZ) [((x 0), .inr (7, [.ref (x 1), .ref (x 5), .ref (x 7), .ref (x 10), .ref (x 17), .ref (x 22), .ref (x 27), .int yr])), ((x 7), .inr (3, [.ref (x 8), .ref (x 9), .int (nI ga), .int gx])), ((x 8), .inl (cI, 8, .inl gv)), ((x 9), .inl (cI, 8, .inl gs))] sz [.ref (x 0), .int q, .int q2]) (va_Qi (fun (r : Int32) (u : (Nat → Int32)) => True) (cB_ D (aTy cB cI cJ cZ) (va_A [((x 0), .inr (7, [.ref (x 1), .ref (x 5), .ref (x 7), .ref (x 10), .ref (x 17), .ref (x 22), .ref (x 27), .int yr])), ((x 7), .inr (3, [.ref (x 8), .ref (x 9), .int (nI ga), .int gx])), ((x 8), .inl (cI, 8, .inl gv)), ((x 9), .inl (cI, 8, .inl gs))] sz) (fun u => [((x 0), .inr (7, [.ref (x 1), .ref (x 5), .ref (x 7), .ref (x 10), .ref (x 17), .ref (x 22), .ref (x 27), .int yr])), ((x 7), .inr (3, [.ref (x 8), .ref (x 9), .int (nI ga), .int gx])), ((x 8), .inl (cI, 8, .inl u)), ((x 9), .inl (cI, 8, .inl gs))])) (va_A [((x 0), .inr (7, [.ref (x 1), .ref (x 5), .ref (x 7), .ref (x 10), .ref (x 17), .ref (x 22), .ref (x 27), .int yr])), ((x 7), .inr (3, [.ref (x 8), .ref (x 9), .int (nI ga), .int gx])), ((x 8), .inl (cI, 8, .inl gv)), ((x 9), .inl (cI, 8, .inl gs))] sz)) 0 0 (va_A [((x 0), .inr (7, [.ref (x 1), .ref (x 5), .ref (x 7), .ref (x 10), .ref (x 17), .ref (x 22), .ref (x 27), .int yr])), ((x 7), .inr (3, [.ref (x 8), .ref (x 9), .int (nI ga), .int gx])), ((x 8), .inl (cI, 8, .inl gv)), ((x 9), .inl (cI, 8, .inl gs))] sz) := by
  refine Met.ofW (cc := cX7_gift) (maxL := 3) (ret := (some .int)) (by decide) rfl ?_
  intro p e s m args below meth c s₁ B hml hv
  obtain ⟨rfl, hsz, hP, hK, hD0⟩ := hv
  have hx := B.exec
  have hb := B.bytes
  have hr := B.returns
  have hts := atoms_spec (ws := wsX7_gift) B.pre
  have hown : s.vm.findClass RX7 = some m.cls := findClass_of_methodNamed B.named
  have hlocks := B.notSynchronized
  subst hsz
  have hD := hD0.self (sz := s.heap.size)
  generalize hAe : va_A [((x 0), .inr (7, [.ref (x 1), .ref (x 5), .ref (x 7), .ref (x 10), .ref (x 17), .ref (x 22), .ref (x 27), .int yr])), ((x 7), .inr (3, [.ref (x 8), .ref (x 9), .int (nI ga), .int gx])), ((x 8), .inl (cI, 8, .inl gv)), ((x 9), .inl (cI, 8, .inl gs))] s.heap.size = A at hD ⊢
  have hA : ∀ q : Nat, s.heap.size ≤ q → A q := fun q h => by rw [← hAe]; exact Or.inr h
  have hS : va_S A s.heap s.heap [] := va_S.rf
  have hP : va_P D vwCl [((x 0), .inr (7, [.ref (x 1), .ref (x 5), .ref (x 7), .ref (x 10), .ref (x 17), .ref (x 22), .ref (x 27), .int yr])), ((x 7), .inr (3, [.ref (x 8), .ref (x 9), .int (nI ga), .int gx])), ((x 8), .inl (cI, 8, .inl gv)), ((x 9), .inl (cI, 8, .inl gs))] s.heap := hP
  have w_1 : ∀ w ∈ wsX70, w ∈ wsX7_gift := by decide +kernel
  have w_2 := hts (Cond.fieldLink RX7 26 "BlueCoats" "givers" "LBlueCoats$Givers;") (by decide +kernel)
  have hl := lv_entry ([.ref (x 0), .int q, .int q2]) (n := 3) (Nat.le_of_ble_eq_true rfl)
  rw [lg_entry_eq]
  generalize (lg_sl ([.ref (x 0), .int q, .int q2]) ++ List.replicate (3 - (lg_sl ([.ref (x 0), .int q, .int q2])).length) Slot.unset).toArray = ls at hl ⊢
  have hl : lv_has ls 3 [(0, .ref (x 0)), (1, .int q), (2, .int q2)] := hl
  refine lv_aload_n hx hb dX7_gift_0 rfl (lv_at hl 0 rfl) ?_
  refine va_get (D := D) (ci := 7) (v := .ref (x 7)) (C := RX7) (T := TX7) (N := 8) hx hb hts w_1 hown hK hP 0 rfl rfl 2 (by decide) w_2 (fun _ h9 => h9) rfl dX7_gift_1 ?_
  refine lv_iload_n hx hb dX7_gift_4 rfl (lv_at hl 1 rfl) ?_
  refine vp_callSi (va_Run.run (va_runV (As := [.int q]) (rest := []) ⟨hx, hb, hml, hown, hts⟩ (g_X3_has l D cB cI cJ cZ (x 7) (x 8) (x 9) ga gx q (by omega)) (cwV 1 hts gX7_gift_X3_has rfl rfl rfl (by decide +kernel) ⟨Nat.le_of_ble_eq_true rfl, Nat.le_of_ble_eq_true rfl⟩) (pre_VR (hP.sub (ws' := [((x 7), .inr (3, [.ref (x 8), .ref (x 9), .int (nI ga), .int gx]))]) [1] rfl) hK 0 rfl rfl rfl) rfl rfl hl.1 rfl (lv_room (Nat.le_of_ble_eq_true rfl)) dX7_gift_5 ⟨Nat.le_of_ble_eq_true rfl, Nat.le_of_ble_eq_true rfl⟩)) (fun r_1 hw_r_1 => ?_)
  refine lv_if_eq (tgt := 16) hx hb dX7_gift_8 (by decide) (fun c_8 => ?_) (fun c_8 => ?_)
  ·
    refine lv_iconst (v := (-1)) hx hb dX7_gift_16 (by decide) ?_
    have hP9 := hP.sub (ws' := [((x 0), .inr (7, [.ref (x 1), .ref (x 5), .ref (x 7), .ref (x 10), .ref (x 17), .ref (x 22), .ref (x 27), .int yr])), ((x 7), .inr (3, [.ref (x 8), .ref (x 9), .int (nI ga), .int gx])), ((x 8), .inl (cI, 8, .inl gv)), ((x 9), .inl (cI, 8, .inl gs))]) [0, 1, 2, 3] rfl
    have hD9 := hD.sub (ws' := [((x 0), .inr (7, [.ref (x 1), .ref (x 5), .ref (x 7), .ref (x 10), .ref (x 17), .ref (x 22), .ref (x 27), .int yr])), ((x 7), .inr (3, [.ref (x 8), .ref (x 9), .int (nI ga), .int gx])), ((x 8), .inl (cI, 8, .inl gv)), ((x 9), .inl (cI, 8, .inl gs))]) [0, 1, 2, 3] (by decide) rfl
    exact W.iret (v := (-1)) hx hb hr (fun t ht hW => ⟨⟨_, gv, rfl, trivial, by rw [ht]; exact hP9, va_K.moved hW.alike hK, hD9⟩, hS.F ht⟩) hS.2.2 dX7_gift_17
  ·
    refine lv_iload_n hx hb dX7_gift_11 rfl (lv_at hl 2 rfl) ?_
    refine lv_iconst (v := 1) hx hb dX7_gift_12 (by decide) ?_
    refine lv_icmp_ge (tgt := 18) hx hb dX7_gift_13 (by decide) (fun c_13 => ?_) (fun c_13 => ?_)
    ·
      refine lv_aload_n hx hb dX7_gift_18 rfl (lv_at hl 0 rfl) ?_
      refine va_get (D := D) (ci := 7) (v := .ref (x 7)) (C := RX7) (T := TX7) (N := 8) hx hb hts w_1 hown hK hP 0 rfl rfl 2 (by decide) w_2 (fun _ h9 => h9) rfl dX7_gift_19 ?_
      refine lv_iload_n hx hb dX7_gift_22 rfl (lv_at hl 1 rfl) ?_
      refine lv_iload_n hx hb dX7_gift_23 rfl (lv_at hl 2 rfl) ?_
      refine cl_i (wc := [((x 7), .inr (3, [.ref (x 8), .ref (x 9), .int (nI ga), .int gx])), ((x 8), .inl (cI, 8, .inl gv)), ((x 9), .inl (cI, 8, .inl gs))]) (wr := [((x 0), .inr (7, [.ref (x 1), .ref (x 5), .ref (x 7), .ref (x 10), .ref (x 17), .ref (x 22), .ref (x 27), .int yr]))]) (va_runV (As := [.int q, .int q2]) (rest := []) ⟨hx, hb, hml, hown, hts⟩ (g_X3_take l D cB cI cJ cZ s.heap.size (x 7) (x 8) (x 9) ga gx gv gs q q2 b_ga) (cwV 2 hts gX7_gift_X3_take rfl rfl rfl (by decide +kernel) ⟨Nat.le_of_ble_eq_true rfl, Nat.le_of_ble_eq_true rfl⟩) (pre_V (hP.sub (ws' := [((x 7), .inr (3, [.ref (x 8), .ref (x 9), .int (nI ga), .int gx])), ((x 8), .inl (cI, 8, .inl gv)), ((x 9), .inl (cI, 8, .inl gs))]) [1, 2, 3] rfl) hK (hD.sub (ws' := [((x 7), .inr (3, [.ref (x 8), .ref (x 9), .int (nI ga), .int gx])), ((x 8), .inl (cI, 8, .inl gv)), ((x 9), .inl (cI, 8, .inl gs))]) [1, 2, 3] (by decide) rfl) 0 rfl rfl rfl) rfl rfl hl.1 rfl (lv_room (Nat.le_of_ble_eq_true rfl)) dX7_gift_24 ⟨Nat.le_of_ble_eq_true rfl, Nat.le_of_ble_eq_true rfl⟩) hP hD hS hA [1, 2, 3] [0] rfl rfl (by decide) (by decide) 0 0 rfl rfl (fun r_2 u_3 H locs hw_u_3 hP hD hS => ?_)
      have hP : va_P D vwCl [((x 0), .inr (7, [.ref (x 1), .ref (x 5), .ref (x 7), .ref (x 10), .ref (x 17), .ref (x 22), .ref (x 27), .int yr])), ((x 7), .inr (3, [.ref (x 8), .ref (x 9), .int (nI ga), .int gx])), ((x 8), .inl (cI, 8, .inl u_3)), ((x 9), .inl (cI, 8, .inl gs))] H := hP
      have hD : va_D A [((x 0), .inr (7, [.ref (x 1), .ref (x 5), .ref (x 7), .ref (x 10), .ref (x 17), .ref (x 22), .ref (x 27), .int yr])), ((x 7), .inr (3, [.ref (x 8), .ref (x 9), .int (nI ga), .int gx])), ((x 8), .inl (cI, 8, .inl u_3)), ((x 9), .inl (cI, 8, .inl gs))] := hD
      have hP9 := hP.sub (ws' := [((x 0), .inr (7, [.ref (x 1), .ref (x 5), .ref (x 7), .ref (x 10), .ref (x 17), .ref (x 22), .ref (x 27), .int yr])), ((x 7), .inr (3, [.ref (x 8), .ref (x 9), .int (nI ga), .int gx])), ((x 8), .inl (cI, 8, .inl u_3)), ((x 9), .inl (cI, 8, .inl gs))]) [0, 1, 2, 3] rfl
      have hD9 := hD.sub (ws' := [((x 0), .inr (7, [.ref (x 1), .ref (x 5), .ref (x 7), .ref (x 10), .ref (x 17), .ref (x 22), .ref (x 27), .int yr])), ((x 7), .inr (3, [.ref (x 8), .ref (x 9), .int (nI ga), .int gx])), ((x 8), .inl (cI, 8, .inl u_3)), ((x 9), .inl (cI, 8, .inl gs))]) [0, 1, 2, 3] (by decide) rfl
      exact W.iret (v := r_2) hx hb hr (fun t ht hW => ⟨⟨_, u_3, rfl, trivial, by rw [ht]; exact hP9, va_K.moved hW.alike hK, hD9⟩, hS.F ht⟩) hS.2.2 dX7_gift_27
    ·
      refine lv_iconst (v := (-1)) hx hb dX7_gift_16 (by decide) ?_
      have hP9 := hP.sub (ws' := [((x 0), .inr (7, [.ref (x 1), .ref (x 5), .ref (x 7), .ref (x 10), .ref (x 17), .ref (x 22), .ref (x 27), .int yr])), ((x 7), .inr (3, [.ref (x 8), .ref (x 9), .int (nI ga), .int gx])), ((x 8), .inl (cI, 8, .inl gv)), ((x 9), .inl (cI, 8, .inl gs))]) [0, 1, 2, 3] rfl
      have hD9 := hD.sub (ws' := [((x 0), .inr (7, [.ref (x 1), .ref (x 5), .ref (x 7), .ref (x 10), .ref (x 17), .ref (x 22), .ref (x 27), .int yr])), ((x 7), .inr (3, [.ref (x 8), .ref (x 9), .int (nI ga), .int gx])), ((x 8), .inl (cI, 8, .inl gv)), ((x 9), .inl (cI, 8, .inl gs))]) [0, 1, 2, 3] (by decide) rfl
      exact W.iret (v := (-1)) hx hb hr (fun t ht hW => ⟨⟨_, gv, rfl, trivial, by rw [ht]; exact hP9, va_K.moved hW.alike hK, hD9⟩, hS.F ht⟩) hS.2.2 dX7_gift_17

set_option maxHeartbeats 4000000 in
set_option maxRecDepth 100000 in
theorem n_X7_support (l : Launch) (D : va_G) (cB cI cJ cZ : ClassId) (sz : Nat) (x : Nat → Nat) (yr : Int32) (ga : Nat) (gx : Int32) (gs : Nat → Int32) (ca : Nat) (q q2 : Int32) (b_ga : ga ≤ 8) (b_ca : ca ≤ 16) : Met l yX7_support wsX7_support ({ frames := 1, cells := 0, slots := 0, locals := 21 } : Room) (cPre D (aTy cB cI cJ cZ) [((x 0), .inr (7, [.ref (x 1), .ref (x 5), .ref (x 7), .ref (x 10), .ref (x 17), .ref (x 22), .ref (x 27), .int yr])), ((x 7), .inr (3, [.ref (x 8), .ref (x 9), .int (nI ga), .int gx])), ((x 9), .inl (cI, 8, .inl gs)), ((x 10), .inr (1, [.ref (x 11), .ref (x 12), .ref (x 13), .ref (x 14), .ref (x 15), .ref (x 16), .int (nI ca)]))] sz [.ref (x 0), .int q, .int q2]) (va_Qi (fun (r : Int32) (u : (Nat → Int32)) => True) (cB_ D (aTy cB cI cJ cZ) (va_A [((x 0), .inr (7, [.ref (x 1), .ref (x 5), .ref (x 7), .ref (x 10), .ref (x 17), .ref (x 22), .ref (x 27), .int yr])), ((x 7), .inr (3, [.ref (x 8), .ref (x 9), .int (nI ga), .int gx])), ((x 9), .inl (cI, 8, .inl gs)), ((x 10), .inr (1, [.ref (x 11), .ref (x 12), .ref (x 13), .ref (x 14), .ref (x 15), .ref (x 16), .int (nI ca)]))] sz) (fun u => [((x 0), .inr (7, [.ref (x 1), .ref (x 5), .ref (x 7), .ref (x 10), .ref (x 17), .ref (x 22), .ref (x 27), .int yr])), ((x 7), .inr (3, [.ref (x 8), .ref (x 9), .int (nI ga), .int gx])), ((x 9), .inl (cI, 8, .inl u)), ((x 10), .inr (1, [.ref (x 11), .ref (x 12), .ref (x 13), .ref (x 14), .ref (x 15), .ref (x 16), .int (nI ca)]))])) (va_A [((x 0), .inr (7, [.ref (x 1), .ref (x 5), .ref (x 7), .ref (x 10), .ref (x 17), .ref (x 22), .ref (x 27), .int yr])), ((x 7), .inr (3, [.ref (x 8), .ref (x 9), .int (nI ga), .int gx])), ((x 9), .inl (cI, 8, .inl gs)), ((x 10), .inr (1, [.ref (x 11), .ref (x 12), .ref (x 13), .ref (x 14), .ref (x 15), .ref (x 16), .int (nI ca)]))] sz)) 0 0 (va_A [((x 0), .inr (7, [.ref (x 1), .ref (x 5), .ref (x 7), .ref (x 10), .ref (x 17), .ref (x 22), .ref (x 27), .int yr])), ((x 7), .inr (3, [.ref (x 8), .ref (x 9), .int (nI ga), .int gx])), ((x 9), .inl (cI, 8, .inl gs)), ((x 10), .inr (1, [.ref (x 11), .ref (x 12), .ref (x 13), .ref (x 14), .ref (x 15), .ref (x 16), .int (nI ca)]))] sz) := by
  refine Met.ofW (cc := cX7_support) (maxL := 3) (ret := (some .boolean)) (by decide) rfl ?_
  intro p e s m args below meth c s₁ B hml hv
  obtain ⟨rfl, hsz, hP, hK, hD0⟩ := hv
  have hx := B.exec
  have hb := B.bytes
  have hr := B.returns
  have hts := atoms_spec (ws := wsX7_support) B.pre
  have hown : s.vm.findClass RX7 = some m.cls := findClass_of_methodNamed B.named
  have hlocks := B.notSynchronized
  subst hsz
  have hD := hD0.self (sz := s.heap.size)
  generalize hAe : va_A [((x 0), .inr (7, [.ref (x 1), .ref (x 5), .ref (x 7), .ref (x 10), .ref (x 17), .ref (x 22), .ref (x 27), .int yr])), ((x 7), .inr (3, [.ref (x 8), .ref (x 9), .int (nI ga), .int gx])), ((x 9), .inl (cI, 8, .inl gs)), ((x 10), .inr (1, [.ref (x 11), .ref (x 12), .ref (x 13), .ref (x 14), .ref (x 15), .ref (x 16), .int (nI ca)]))] s.heap.size = A at hD ⊢
  have hA : ∀ q : Nat, s.heap.size ≤ q → A q := fun q h => by rw [← hAe]; exact Or.inr h
  have hS : va_S A s.heap s.heap [] := va_S.rf
  have hP : va_P D vwCl [((x 0), .inr (7, [.ref (x 1), .ref (x 5), .ref (x 7), .ref (x 10), .ref (x 17), .ref (x 22), .ref (x 27), .int yr])), ((x 7), .inr (3, [.ref (x 8), .ref (x 9), .int (nI ga), .int gx])), ((x 9), .inl (cI, 8, .inl gs)), ((x 10), .inr (1, [.ref (x 11), .ref (x 12), .ref (x 13), .ref (x 14), .ref (x 15), .ref (x 16), .int (nI ca)]))] s.heap := hP
  have w_1 : ∀ w ∈ wsX70, w ∈ wsX7_support := by decide +kernel
  have w_2 := hts (Cond.fieldLink RX7 26 "BlueCoats" "givers" "LBlueCoats$Givers;") (by decide +kernel)
  have w_3 : ∀ w ∈ wsX30, w ∈ wsX7_support := by decide +kernel
  have w_4 := hts (Cond.fieldLink RX7 99 "BlueCoats$Givers" "supported" "[I") (by decide +kernel)
  have w_5 := hts (Cond.fieldLink RX7 33 "BlueCoats" "children" "LBlueCoats$Children;") (by decide +kernel)
  have hl := lv_entry ([.ref (x 0), .int q, .int q2]) (n := 3) (Nat.le_of_ble_eq_true rfl)
  rw [lg_entry_eq]
  generalize (lg_sl ([.ref (x 0), .int q, .int q2]) ++ List.replicate (3 - (lg_sl ([.ref (x 0), .int q, .int q2])).length) Slot.unset).toArray = ls at hl ⊢
  have hl : lv_has ls 3 [(0, .ref (x 0)), (1, .int q), (2, .int q2)] := hl
  refine lv_aload_n hx hb dX7_support_0 rfl (lv_at hl 0 rfl) ?_
  refine va_get (D := D) (ci := 7) (v := .ref (x 7)) (C := RX7) (T := TX7) (N := 8) hx hb hts w_1 hown hK hP 0 rfl rfl 2 (by decide) w_2 (fun _ h9 => h9) rfl dX7_support_1 ?_
  refine lv_iload_n hx hb dX7_support_4 rfl (lv_at hl 1 rfl) ?_
  refine vp_callSi (va_Run.run (va_runV (As := [.int q]) (rest := []) ⟨hx, hb, hml, hown, hts⟩ (g_X3_has l D cB cI cJ cZ (x 7) (x 8) (x 9) ga gx q (by omega)) (cwV 1 hts gX7_support_X3_has rfl rfl rfl (by decide +kernel) ⟨Nat.le_of_ble_eq_true rfl, Nat.le_of_ble_eq_true rfl⟩) (pre_VR (hP.sub (ws' := [((x 7), .inr (3, [.ref (x 8), .ref (x 9), .int (nI ga), .int gx]))]) [1] rfl) hK 0 rfl rfl rfl) rfl rfl hl.1 rfl (lv_room (Nat.le_of_ble_eq_true rfl)) dX7_support_5 ⟨Nat.le_of_ble_eq_true rfl, Nat.le_of_ble_eq_true rfl⟩)) (fun r_1 hw_r_1 => ?_)
  refine lv_if_eq (tgt := 27) hx hb dX7_support_8 (by decide) (fun c_8 => ?_) (fun c_8 => ?_)
  ·
    refine lv_iconst (v := 0) hx hb dX7_support_27 (by decide) ?_
    have hP9 := hP.sub (ws' := [((x 0), .inr (7, [.ref (x 1), .ref (x 5), .ref (x 7), .ref (x 10), .ref (x 17), .ref (x 22), .ref (x 27), .int yr])), ((x 7), .inr (3, [.ref (x 8), .ref (x 9), .int (nI ga), .int gx])), ((x 9), .inl (cI, 8, .inl gs)), ((x 10), .inr (1, [.ref (x 11), .ref (x 12), .ref (x 13), .ref (x 14), .ref (x 15), .ref (x 16), .int (nI ca)]))]) [0, 1, 2, 3] rfl
    have hD9 := hD.sub (ws' := [((x 0), .inr (7, [.ref (x 1), .ref (x 5), .ref (x 7), .ref (x 10), .ref (x 17), .ref (x 22), .ref (x 27), .int yr])), ((x 7), .inr (3, [.ref (x 8), .ref (x 9), .int (nI ga), .int gx])), ((x 9), .inl (cI, 8, .inl gs)), ((x 10), .inr (1, [.ref (x 11), .ref (x 12), .ref (x 13), .ref (x 14), .ref (x 15), .ref (x 16), .int (nI ca)]))]) [0, 1, 2, 3] (by decide) rfl
    exact W.zret (v := 0) hx hb hr rfl (fun t ht hW => ⟨⟨_, gs, rfl, trivial, by rw [ht]; exact hP9, va_K.moved hW.alike hK, hD9⟩, hS.F ht⟩) hS.2.2 dX7_support_28
  ·
    refine lv_iload_n hx hb dX7_support_11 rfl (lv_at hl 2 rfl) ?_
    refine lv_iconst (v := (-1)) hx hb dX7_support_12 (by decide) ?_
    refine lv_icmp_eq (tgt := 29) hx hb dX7_support_13 (by decide) (fun c_13 => ?_) (fun c_13 => ?_)
    ·
      refine lv_aload_n hx hb dX7_support_29 rfl (lv_at hl 0 rfl) ?_
      refine va_get (D := D) (ci := 7) (v := .ref (x 7)) (C := RX7) (T := TX7) (N := 8) hx hb hts w_1 hown hK hP 0 rfl rfl 2 (by decide) w_2 (fun _ h9 => h9) rfl dX7_support_30 ?_
      refine va_get (D := D) (ci := 3) (v := .ref (x 9)) (C := RX3) (T := TX3) (N := 4) hx hb hts w_3 hown hK hP 1 rfl rfl 1 (by decide) w_4 (fun _ h9 => h9) rfl dX7_support_33 ?_
      refine lv_iload_n hx hb dX7_support_36 rfl (lv_at hl 1 rfl) ?_
      refine lv_iload_n hx hb dX7_support_37 rfl (lv_at hl 2 rfl) ?_
      refine sv_iast hx hb hK hP hD hS 2 1 rfl rfl (in_up (has_in hw_r_1 c_8) b_ga) dX7_support_38 (fun g_2 H locs eg_2 hP hD hS => ?_)
      have hP : va_P D vwCl [((x 0), .inr (7, [.ref (x 1), .ref (x 5), .ref (x 7), .ref (x 10), .ref (x 17), .ref (x 22), .ref (x 27), .int yr])), ((x 7), .inr (3, [.ref (x 8), .ref (x 9), .int (nI ga), .int gx])), ((x 9), .inl (cI, 8, .inl g_2)), ((x 10), .inr (1, [.ref (x 11), .ref (x 12), .ref (x 13), .ref (x 14), .ref (x 15), .ref (x 16), .int (nI ca)]))] H := hP
      have hD : va_D A [((x 0), .inr (7, [.ref (x 1), .ref (x 5), .ref (x 7), .ref (x 10), .ref (x 17), .ref (x 22), .ref (x 27), .int yr])), ((x 7), .inr (3, [.ref (x 8), .ref (x 9), .int (nI ga), .int gx])), ((x 9), .inl (cI, 8, .inl g_2)), ((x 10), .inr (1, [.ref (x 11), .ref (x 12), .ref (x 13), .ref (x 14), .ref (x 15), .ref (x 16), .int (nI ca)]))] := hD
      refine lv_iconst (v := 1) hx hb dX7_support_39 (by decide) ?_
      have hP9 := hP.sub (ws' := [((x 0), .inr (7, [.ref (x 1), .ref (x 5), .ref (x 7), .ref (x 10), .ref (x 17), .ref (x 22), .ref (x 27), .int yr])), ((x 7), .inr (3, [.ref (x 8), .ref (x 9), .int (nI ga), .int gx])), ((x 9), .inl (cI, 8, .inl g_2)), ((x 10), .inr (1, [.ref (x 11), .ref (x 12), .ref (x 13), .ref (x 14), .ref (x 15), .ref (x 16), .int (nI ca)]))]) [0, 1, 2, 3] rfl
      have hD9 := hD.sub (ws' := [((x 0), .inr (7, [.ref (x 1), .ref (x 5), .ref (x 7), .ref (x 10), .ref (x 17), .ref (x 22), .ref (x 27), .int yr])), ((x 7), .inr (3, [.ref (x 8), .ref (x 9), .int (nI ga), .int gx])), ((x 9), .inl (cI, 8, .inl g_2)), ((x 10), .inr (1, [.ref (x 11), .ref (x 12), .ref (x 13), .ref (x 14), .ref (x 15), .ref (x 16), .int (nI ca)]))]) [0, 1, 2, 3] (by decide) rfl
      exact W.zret (v := 1) hx hb hr rfl (fun t ht hW => ⟨⟨_, g_2, rfl, trivial, by rw [ht]; exact hP9, va_K.moved hW.alike hK, hD9⟩, hS.F ht⟩) hS.2.2 dX7_support_40
    ·
      refine lv_aload_n hx hb dX7_support_16 rfl (lv_at hl 0 rfl) ?_
      refine va_get (D := D) (ci := 7) (v := .ref (x 10)) (C := RX7) (T := TX7) (N := 8) hx hb hts w_1 hown hK hP 0 rfl rfl 3 (by decide) w_5 (fun _ h9 => h9) rfl dX7_support_17 ?_
      refine lv_iload_n hx hb dX7_support_20 rfl (lv_at hl 2 rfl) ?_
      refine vp_callSi (va_Run.run (va_runV (As := [.int q2]) (rest := []) ⟨hx, hb, hml, hown, hts⟩ (g_X1_has l D cB cI cJ cZ (x 10) (x 11) (x 12) (x 13) (x 14) (x 15) (x 16) ca q2 (by omega)) (cwV 1 hts gX7_support_X1_has rfl rfl rfl (by decide +kernel) ⟨Nat.le_of_ble_eq_true rfl, Nat.le_of_ble_eq_true rfl⟩) (pre_VR (hP.sub (ws' := [((x 10), .inr (1, [.ref (x 11), .ref (x 12), .ref (x 13), .ref (x 14), .ref (x 15), .ref (x 16), .int (nI ca)]))]) [3] rfl) hK 0 rfl rfl rfl) rfl rfl hl.1 rfl (lv_room (Nat.le_of_ble_eq_true rfl)) dX7_support_21 ⟨Nat.le_of_ble_eq_true rfl, Nat.le_of_ble_eq_true rfl⟩)) (fun r_3 hw_r_3 => ?_)
      refine lv_if_ne (tgt := 29) hx hb dX7_support_24 (by decide) (fun c_24 => ?_) (fun c_24 => ?_)
      ·
        refine lv_aload_n hx hb dX7_support_29 rfl (lv_at hl 0 rfl) ?_
        refine va_get (D := D) (ci := 7) (v := .ref (x 7)) (C := RX7) (T := TX7) (N := 8) hx hb hts w_1 hown hK hP 0 rfl rfl 2 (by decide) w_2 (fun _ h9 => h9) rfl dX7_support_30 ?_
        refine va_get (D := D) (ci := 3) (v := .ref (x 9)) (C := RX3) (T := TX3) (N := 4) hx hb hts w_3 hown hK hP 1 rfl rfl 1 (by decide) w_4 (fun _ h9 => h9) rfl dX7_support_33 ?_
        refine lv_iload_n hx hb dX7_support_36 rfl (lv_at hl 1 rfl) ?_
        refine lv_iload_n hx hb dX7_support_37 rfl (lv_at hl 2 rfl) ?_
        refine sv_iast hx hb hK hP hD hS 2 1 rfl rfl (in_up (has_in hw_r_1 c_8) b_ga) dX7_support_38 (fun g_4 H locs eg_4 hP hD hS => ?_)
        have hP : va_P D vwCl [((x 0), .inr (7, [.ref (x 1), .ref (x 5), .ref (x 7), .ref (x 10), .ref (x 17), .ref (x 22), .ref (x 27), .int yr])), ((x 7), .inr (3, [.ref (x 8), .ref (x 9), .int (nI ga), .int gx])), ((x 9), .inl (cI, 8, .inl g_4)), ((x 10), .inr (1, [.ref (x 11), .ref (x 12), .ref (x 13), .ref (x 14), .ref (x 15), .ref (x 16), .int (nI ca)]))] H := hP
        have hD : va_D A [((x 0), .inr (7, [.ref (x 1), .ref (x 5), .ref (x 7), .ref (x 10), .ref (x 17), .ref (x 22), .ref (x 27), .int yr])), ((x 7), .inr (3, [.ref (x 8), .ref (x 9), .int (nI ga), .int gx])), ((x 9), .inl (cI, 8, .inl g_4)), ((x 10), .inr (1, [.ref (x 11), .ref (x 12), .ref (x 13), .ref (x 14), .ref (x 15), .ref (x 16), .int (nI ca)]))] := hD
        refine lv_iconst (v := 1) hx hb dX7_support_39 (by decide) ?_
        have hP9 := hP.sub (ws' := [((x 0), .inr (7, [.ref (x 1), .ref (x 5), .ref (x 7), .ref (x 10), .ref (x 17), .ref (x 22), .ref (x 27), .int yr])), ((x 7), .inr (3, [.ref (x 8), .ref (x 9), .int (nI ga), .int gx])), ((x 9), .inl (cI, 8, .inl g_4)), ((x 10), .inr (1, [.ref (x 11), .ref (x 12), .ref (x 13), .ref (x 14), .ref (x 15), .ref (x 16), .int (nI ca)]))]) [0, 1, 2, 3] rfl
        have hD9 := hD.sub (ws' := [((x 0), .inr (7, [.ref (x 1), .ref (x 5), .ref (x 7), .ref (x 10), .ref (x 17), .ref (x 22), .ref (x 27), .int yr])), ((x 7), .inr (3, [.ref (x 8), .ref (x 9), .int (nI ga), .int gx])), ((x 9), .inl (cI, 8, .inl g_4)), ((x 10), .inr (1, [.ref (x 11), .ref (x 12), .ref (x 13), .ref (x 14), .ref (x 15), .ref (x 16), .int (nI ca)]))]) [0, 1, 2, 3] (by decide) rfl
        exact W.zret (v := 1) hx hb hr rfl (fun t ht hW => ⟨⟨_, g_4, rfl, trivial, by rw [ht]; exact hP9, va_K.moved hW.alike hK, hD9⟩, hS.F ht⟩) hS.2.2 dX7_support_40
      ·
        refine lv_iconst (v := 0) hx hb dX7_support_27 (by decide) ?_
        have hP9 := hP.sub (ws' := [((x 0), .inr (7, [.ref (x 1), .ref (x 5), .ref (x 7), .ref (x 10), .ref (x 17), .ref (x 22), .ref (x 27), .int yr])), ((x 7), .inr (3, [.ref (x 8), .ref (x 9), .int (nI ga), .int gx])), ((x 9), .inl (cI, 8, .inl gs)), ((x 10), .inr (1, [.ref (x 11), .ref (x 12), .ref (x 13), .ref (x 14), .ref (x 15), .ref (x 16), .int (nI ca)]))]) [0, 1, 2, 3] rfl
        have hD9 := hD.sub (ws' := [((x 0), .inr (7, [.ref (x 1), .ref (x 5), .ref (x 7), .ref (x 10), .ref (x 17), .ref (x 22), .ref (x 27), .int yr])), ((x 7), .inr (3, [.ref (x 8), .ref (x 9), .int (nI ga), .int gx])), ((x 9), .inl (cI, 8, .inl gs)), ((x 10), .inr (1, [.ref (x 11), .ref (x 12), .ref (x 13), .ref (x 14), .ref (x 15), .ref (x 16), .int (nI ca)]))]) [0, 1, 2, 3] (by decide) rfl
        exact W.zret (v := 0) hx hb hr rfl (fun t ht hW => ⟨⟨_, gs, rfl, trivial, by rw [ht]; exact hP9, va_K.moved hW.alike hK, hD9⟩, hS.F ht⟩) hS.2.2 dX7_support_28

set_option maxHeartbeats 4000000 in
set_option maxRecDepth 100000 in
theorem n_X7_child (l : Launch) (D : va_G) (cB cI cJ cZ : ClassId) (sz : Nat) (x : Nat → Nat) (yr : Int32) (ca : Nat) (k11 : Nat → Int32) (k12 : Nat → Int32) (k13 : Nat → Int32) (k14 : Nat → Int32) (k15 : Nat → Int32) (k16 : Nat → Int32) (q0 q1 q2 q3 : Int32) (b_ca : ca ≤ 16) : Met l yX7_child wsX7_child ({ frames := 2, cells := 0, slots := 0, locals := 47 } : Room) (cPre D (aTy cB cI cJ cZ) [((x 0), .inr (7, [.ref (x 1), .ref (x 5), .ref (x 7), .ref (x 10), .ref (x 17), .ref (x 22), .ref (x 27), .int yr])), ((x 10), .inr (1, [.ref (x 11), .ref (x 12), .ref (x 13), .ref (x 14), .ref (x 15), .ref (x 16), .int (nI ca)])), ((x 11), .inl (cI, 16, .inl k11)), ((x 12), .inl (cI, 16, .inl k12)), ((x 13), .inl (cI, 16, .inl k13)), ((x 14), .inl (cI, 16, .inl k14)), ((x 15), .inl (cI, 16, .inl k15)), ((x 16), .inl (cI, 16, .inl k16))] sz [.ref (x 0), .int q0, .int q1, .int q2, .int q3]) (va_Qi (fun (r : Int32) (u : Nat × (Nat → Int32) × (Nat → Int32) × (Nat → Int32) × (Nat → Int32) × (Nat → Int32) × (Nat → Int32)) => (r = -1 ∧ u.1 = ca ∧ (ca = 16 ∨ ¬ okC q0 q1 q2 q3)) ∨ (ca < 16 ∧ okC q0 q1 q2 q3 ∧ u.1 = ca + 1 ∧ r = nI ca)) (cB_ D (aTy cB cI cJ cZ) (va_A [((x 0), .inr (7, [.ref (x 1), .ref (x 5), .ref (x 7), .ref (x 10), .ref (x 17), .ref (x 22), .ref (x 27), .int yr])), ((x 10), .inr (1, [.ref (x 11), .ref (x 12), .ref (x 13), .ref (x 14), .ref (x 15), .ref (x 16), .int (nI ca)])), ((x 11), .inl (cI, 16, .inl k11)), ((x 12), .inl (cI, 16, .inl k12)), ((x 13), .inl (cI, 16, .inl k13)), ((x 14), .inl (cI, 16, .inl k14)), ((x 15), .inl (cI, 16, .inl k15)), ((x 16), .inl (cI, 16, .inl k16))] sz) (fun u => [((x 0), .inr (7, [.ref (x 1), .ref (x 5), .ref (x 7), .ref (x 10), .ref (x 17), .ref (x 22), .ref (x 27), .int yr])), ((x 10), .inr (1, [.ref (x 11), .ref (x 12), .ref (x 13), .ref (x 14), .ref (x 15), .ref (x 16), .int (nI (u.1))])), ((x 11), .inl (cI, 16, .inl u.2.1)), ((x 12), .inl (cI, 16, .inl u.2.2.1)), ((x 13), .inl (cI, 16, .inl u.2.2.2.1)), ((x 14), .inl (cI, 16, .inl u.2.2.2.2.1)), ((x 15), .inl (cI, 16, .inl u.2.2.2.2.2.1)), ((x 16), .inl (cI, 16, .inl u.2.2.2.2.2.2))])) (va_A [((x 0), .inr (7, [.ref (x 1), .ref (x 5), .ref (x 7), .ref (x 10), .ref (x 17), .ref (x 22), .ref (x 27), .int yr])), ((x 10), .inr (1, [.ref (x 11), .ref (x 12), .ref (x 13), .ref (x 14), .ref (x 15), .ref (x 16), .int (nI ca)])), ((x 11), .inl (cI, 16, .inl k11)), ((x 12), .inl (cI, 16, .inl k12)), ((x 13), .inl (cI, 16, .inl k13)), ((x 14), .inl (cI, 16, .inl k14)), ((x 15), .inl (cI, 16, .inl k15)), ((x 16), .inl (cI, 16, .inl k16))] sz)) 0 0 (va_A [((x 0), .inr (7, [.ref (x 1), .ref (x 5), .ref (x 7), .ref (x 10), .ref (x 17), .ref (x 22), .ref (x 27), .int yr])), ((x 10), .inr (1, [.ref (x 11), .ref (x 12), .ref (x 13), .ref (x 14), .ref (x 15), .ref (x 16), .int (nI ca)])), ((x 11), .inl (cI, 16, .inl k11)), ((x 12), .inl (cI, 16, .inl k12)), ((x 13), .inl (cI, 16, .inl k13)), ((x 14), .inl (cI, 16, .inl k14)), ((x 15), .inl (cI, 16, .inl k15)), ((x 16), .inl (cI, 16, .inl k16))] sz) := by
  refine Met.ofW (cc := cX7_child) (maxL := 5) (ret := (some .int)) (by decide) rfl ?_
  intro p e s m args below meth c s₁ B hml hv
  obtain ⟨rfl, hsz, hP, hK, hD0⟩ := hv
  have hx := B.exec
  have hb := B.bytes
  have hr := B.returns
  have hts := atoms_spec (ws := wsX7_child) B.pre
  have hown : s.vm.findClass RX7 = some m.cls := findClass_of_methodNamed B.named
  have hlocks := B.notSynchronized
  subst hsz
  have hD := hD0.self (sz := s.heap.size)
  generalize hAe : va_A [((x 0), .inr (7, [.ref (x 1), .ref (x 5), .ref (x 7), .ref (x 10), .ref (x 17), .ref (x 22), .ref (x 27), .int yr])), ((x 10), .inr (1, [.ref (x 11), .ref (x 12), .ref (x 13), .ref (x 14), .ref (x 15), .ref (x 16), .int (nI ca)])), ((x 11), .inl (cI, 16, .inl k11)), ((x 12), .inl (cI, 16, .inl k12)), ((x 13), .inl (cI, 16, .inl k13)), ((x 14), .inl (cI, 16, .inl k14)), ((x 15), .inl (cI, 16, .inl k15)), ((x 16), .inl (cI, 16, .inl k16))] s.heap.size = A at hD ⊢
  have hA : ∀ q : Nat, s.heap.size ≤ q → A q := fun q h => by rw [← hAe]; exact Or.inr h
  have hS : va_S A s.heap s.heap [] := va_S.rf
  have hP : va_P D vwCl [((x 0), .inr (7, [.ref (x 1), .ref (x 5), .ref (x 7), .ref (x 10), .ref (x 17), .ref (x 22), .ref (x 27), .int yr])), ((x 10), .inr (1, [.ref (x 11), .ref (x 12), .ref (x 13), .ref (x 14), .ref (x 15), .ref (x 16), .int (nI ca)])), ((x 11), .inl (cI, 16, .inl k11)), ((x 12), .inl (cI, 16, .inl k12)), ((x 13), .inl (cI, 16, .inl k13)), ((x 14), .inl (cI, 16, .inl k14)), ((x 15), .inl (cI, 16, .inl k15)), ((x 16), .inl (cI, 16, .inl k16))] s.heap := hP
  have w_1 : ∀ w ∈ wsX70, w ∈ wsX7_child := by decide +kernel
  have w_2 := hts (Cond.fieldLink RX7 33 "BlueCoats" "children" "LBlueCoats$Children;") (by decide +kernel)
  have hl := lv_entry ([.ref (x 0), .int q0, .int q1, .int q2, .int q3]) (n := 5) (Nat.le_of_ble_eq_true rfl)
  rw [lg_entry_eq]
  generalize (lg_sl ([.ref (x 0), .int q0, .int q1, .int q2, .int q3]) ++ List.replicate (5 - (lg_sl ([.ref (x 0), .int q0, .int q1, .int q2, .int q3])).length) Slot.unset).toArray = ls at hl ⊢
  have hl : lv_has ls 5 [(0, .ref (x 0)), (1, .int q0), (2, .int q1), (3, .int q2), (4, .int q3)] := hl
  refine lv_aload_n hx hb dX7_child_0 rfl (lv_at hl 0 rfl) ?_
  refine va_get (D := D) (ci := 7) (v := .ref (x 10)) (C := RX7) (T := TX7) (N := 8) hx hb hts w_1 hown hK hP 0 rfl rfl 3 (by decide) w_2 (fun _ h9 => h9) rfl dX7_child_1 ?_
  refine lv_iload_n hx hb dX7_child_4 rfl (lv_at hl 1 rfl) ?_
  refine lv_iload_n hx hb dX7_child_5 rfl (lv_at hl 2 rfl) ?_
  refine lv_iload_n hx hb dX7_child_6 rfl (lv_at hl 3 rfl) ?_
  refine lv_iload hx hb dX7_child_7 (lv_at hl 4 rfl) ?_
  refine cl_i (wc := [((x 10), .inr (1, [.ref (x 11), .ref (x 12), .ref (x 13), .ref (x 14), .ref (x 15), .ref (x 16), .int (nI ca)])), ((x 11), .inl (cI, 16, .inl k11)), ((x 12), .inl (cI, 16, .inl k12)), ((x 13), .inl (cI, 16, .inl k13)), ((x 14), .inl (cI, 16, .inl k14)), ((x 15), .inl (cI, 16, .inl k15)), ((x 16), .inl (cI, 16, .inl k16))]) (wr := [((x 0), .inr (7, [.ref (x 1), .ref (x 5), .ref (x 7), .ref (x 10), .ref (x 17), .ref (x 22), .ref (x 27), .int yr]))]) (va_runV (As := [.int q0, .int q1, .int q2, .int q3]) (rest := []) ⟨hx, hb, hml, hown, hts⟩ (g_X1_add l D cB cI cJ cZ s.heap.size (x 10) (x 11) (x 12) (x 13) (x 14) (x 15) (x 16) ca k11 k12 k13 k14 k15 k16 q0 q1 q2 q3 b_ca) (cwV 4 hts gX7_child_X1_add rfl rfl rfl (by decide +kernel) ⟨Nat.le_of_ble_eq_true rfl, Nat.le_of_ble_eq_true rfl⟩) (pre_V (hP.sub (ws' := [((x 10), .inr (1, [.ref (x 11), .ref (x 12), .ref (x 13), .ref (x 14), .ref (x 15), .ref (x 16), .int (nI ca)])), ((x 11), .inl (cI, 16, .inl k11)), ((x 12), .inl (cI, 16, .inl k12)), ((x 13), .inl (cI, 16, .inl k13)), ((x 14), .inl (cI, 16, .inl k14)), ((x 15), .inl (cI, 16, .inl k15)), ((x 16), .inl (cI, 16, .inl k16))]) [1, 2, 3, 4, 5, 6, 7] rfl) hK (hD.sub (ws' := [((x 10), .inr (1, [.ref (x 11), .ref (x 12), .ref (x 13), .ref (x 14), .ref (x 15), .ref (x 16), .int (nI ca)])), ((x 11), .inl (cI, 16, .inl k11)), ((x 12), .inl (cI, 16, .inl k12)), ((x 13), .inl (cI, 16, .inl k13)), ((x 14), .inl (cI, 16, .inl k14)), ((x 15), .inl (cI, 16, .inl k15)), ((x 16), .inl (cI, 16, .inl k16))]) [1, 2, 3, 4, 5, 6, 7] (by decide) rfl) 0 rfl rfl rfl) rfl rfl hl.1 rfl (lv_room (Nat.le_of_ble_eq_true rfl)) dX7_child_9 ⟨Nat.le_of_ble_eq_true rfl, Nat.le_of_ble_eq_true rfl⟩) hP hD hS hA [1, 2, 3, 4, 5, 6, 7] [0] rfl rfl (by decide) (by decide) 0 0 rfl rfl (fun r_1 u_2 H locs hw_u_2 hP hD hS => ?_)
  have hP : va_P D vwCl [((x 0), .inr (7, [.ref (x 1), .ref (x 5), .ref (x 7), .ref (x 10), .ref (x 17), .ref (x 22), .ref (x 27), .int yr])), ((x 10), .inr (1, [.ref (x 11), .ref (x 12), .ref (x 13), .ref (x 14), .ref (x 15), .ref (x 16), .int (nI (u_2.1))])), ((x 11), .inl (cI, 16, .inl u_2.2.1)), ((x 12), .inl (cI, 16, .inl u_2.2.2.1)), ((x 13), .inl (cI, 16, .inl u_2.2.2.2.1)), ((x 14), .inl (cI, 16, .inl u_2.2.2.2.2.1)), ((x 15), .inl (cI, 16, .inl u_2.2.2.2.2.2.1)), ((x 16), .inl (cI, 16, .inl u_2.2.2.2.2.2.2))] H := hP
  have hD : va_D A [((x 0), .inr (7, [.ref (x 1), .ref (x 5), .ref (x 7), .ref (x 10), .ref (x 17), .ref (x 22), .ref (x 27), .int yr])), ((x 10), .inr (1, [.ref (x 11), .ref (x 12), .ref (x 13), .ref (x 14), .ref (x 15), .ref (x 16), .int (nI (u_2.1))])), ((x 11), .inl (cI, 16, .inl u_2.2.1)), ((x 12), .inl (cI, 16, .inl u_2.2.2.1)), ((x 13), .inl (cI, 16, .inl u_2.2.2.2.1)), ((x 14), .inl (cI, 16, .inl u_2.2.2.2.2.1)), ((x 15), .inl (cI, 16, .inl u_2.2.2.2.2.2.1)), ((x 16), .inl (cI, 16, .inl u_2.2.2.2.2.2.2))] := hD
  have hP9 := hP.sub (ws' := [((x 0), .inr (7, [.ref (x 1), .ref (x 5), .ref (x 7), .ref (x 10), .ref (x 17), .ref (x 22), .ref (x 27), .int yr])), ((x 10), .inr (1, [.ref (x 11), .ref (x 12), .ref (x 13), .ref (x 14), .ref (x 15), .ref (x 16), .int (nI (u_2.1))])), ((x 11), .inl (cI, 16, .inl u_2.2.1)), ((x 12), .inl (cI, 16, .inl u_2.2.2.1)), ((x 13), .inl (cI, 16, .inl u_2.2.2.2.1)), ((x 14), .inl (cI, 16, .inl u_2.2.2.2.2.1)), ((x 15), .inl (cI, 16, .inl u_2.2.2.2.2.2.1)), ((x 16), .inl (cI, 16, .inl u_2.2.2.2.2.2.2))]) [0, 1, 2, 3, 4, 5, 6, 7] rfl
  have hD9 := hD.sub (ws' := [((x 0), .inr (7, [.ref (x 1), .ref (x 5), .ref (x 7), .ref (x 10), .ref (x 17), .ref (x 22), .ref (x 27), .int yr])), ((x 10), .inr (1, [.ref (x 11), .ref (x 12), .ref (x 13), .ref (x 14), .ref (x 15), .ref (x 16), .int (nI (u_2.1))])), ((x 11), .inl (cI, 16, .inl u_2.2.1)), ((x 12), .inl (cI, 16, .inl u_2.2.2.1)), ((x 13), .inl (cI, 16, .inl u_2.2.2.2.1)), ((x 14), .inl (cI, 16, .inl u_2.2.2.2.2.1)), ((x 15), .inl (cI, 16, .inl u_2.2.2.2.2.2.1)), ((x 16), .inl (cI, 16, .inl u_2.2.2.2.2.2.2))]) [0, 1, 2, 3, 4, 5, 6, 7] (by decide) rfl
  exact W.iret (v := r_1) hx hb hr (fun t ht hW => ⟨⟨_, ((u_2.1), u_2.2.1, u_2.2.2.1, u_2.2.2.2.1, u_2.2.2.2.2.1, u_2.2.2.2.2.2.1, u_2.2.2.2.2.2.2), rfl, hw_u_2, by rw [ht]; exact hP9, va_K.moved hW.alike hK, hD9⟩, hS.F ht⟩) hS.2.2 dX7_child_12

set_option maxHeartbeats 4000000 in
set_option maxRecDepth 100000 in
theorem n_X7_legacy (l : Launch) (D : va_G) (cB cI cJ cZ : ClassId) (sz : Nat) (x : Nat → Nat) (yr : Int32) (hn : Nat) (h4 : Int32) (h5 : Int32) (n28 : Nat → Int32) (n29 : Nat → Int32) (n30 : Nat → Int32) (n31 : Nat → Int32) (n32 : Nat → Int32) (n33 : Nat → Int32) (q0 q1 : Int32) (b_hn : hn ≤ 8) : Met l yX7_legacy wsX7_legacy ({ frames := 1, cells := 0, slots := 0, locals := 22 } : Room) (cPre D (aTy cB cI cJ cZ) [((x 0), .inr (7, [.ref (x 1), .ref (x 5), .ref (x 7), .ref (x 10), .ref (x 17), .ref (x 22), .ref (x 27), .int yr])), ((x 27), .inr (0, [.ref (x 28), .ref (x 29), .ref (x 30), .int (nI hn), .int h4, .int h5, .ref (x 31), .ref (x 32), .ref (x 33)])), ((x 28), .inl (cI, 6, .inl n28)), ((x 29), .inl (cI, 6, .inl n29)), ((x 30), .inl (cI, 8, .inl n30)), ((x 31), .inl (cI, 8, .inl n31)), ((x 32), .inl (cI, 8, .inl n32)), ((x 33), .inl (cI, 64, .inl n33))] sz [.ref (x 0), .int q0, .int q1]) (va_Qi (fun (r : Int32) (u : Nat × (Nat → Int32) × (Nat → Int32)) => (r = -1 ∧ u.1 = hn ∧ (hn = 8 ∨ ¬ okL q0 q1)) ∨ (hn < 8 ∧ okL q0 q1 ∧ u.1 = hn + 1 ∧ r = nI hn)) (cB_ D (aTy cB cI cJ cZ) (va_A [((x 0), .inr (7, [.ref (x 1), .ref (x 5), .ref (x 7), .ref (x 10), .ref (x 17), .ref (x 22), .ref (x 27), .int yr])), ((x 27), .inr (0, [.ref (x 28), .ref (x 29), .ref (x 30), .int (nI hn), .int h4, .int h5, .ref (x 31), .ref (x 32), .ref (x 33)])), ((x 28), .inl (cI, 6, .inl n28)), ((x 29), .inl (cI, 6, .inl n29)), ((x 30), .inl (cI, 8, .inl n30)), ((x 31), .inl (cI, 8, .inl n31)), ((x 32), .inl (cI, 8, .inl n32)), ((x 33), .inl (cI, 64, .inl n33))] sz) (fun u => [((x 0), .inr (7, [.ref (x 1), .ref (x 5), .ref (x 7), .ref (x 10), .ref (x 17), .ref (x 22), .ref (x 27), .int yr])), ((x 27), .inr (0, [.ref (x 28), .ref (x 29), .ref (x 30), .int (nI (u.1)), .int h4, .int h5, .ref (x 31), .ref (x 32), .ref (x 33)])), ((x 28), .inl (cI, 6, .inl n28)), ((x 29), .inl (cI, 6, .inl n29)), ((x 30), .inl (cI, 8, .inl n30)), ((x 31), .inl (cI, 8, .inl u.2.1)), ((x 32), .inl (cI, 8, .inl u.2.2)), ((x 33), .inl (cI, 64, .inl n33))])) (va_A [((x 0), .inr (7, [.ref (x 1), .ref (x 5), .ref (x 7), .ref (x 10), .ref (x 17), .ref (x 22), .ref (x 27), .int yr])), ((x 27), .inr (0, [.ref (x 28), .ref (x 29), .ref (x 30), .int (nI hn), .int h4, .int h5, .ref (x 31), .ref (x 32), .ref (x 33)])), ((x 28), .inl (cI, 6, .inl n28)), ((x 29), .inl (cI, 6, .inl n29)), ((x 30), .inl (cI, 8, .inl n30)), ((x 31), .inl (cI, 8, .inl n31)), ((x 32), .inl (cI, 8, .inl n32)), ((x 33), .inl (cI, 64, .inl n33))] sz)) 0 0 (va_A [((x 0), .inr (7, [.ref (x 1), .ref (x 5), .ref (x 7), .ref (x 10), .ref (x 17), .ref (x 22), .ref (x 27), .int yr])), ((x 27), .inr (0, [.ref (x 28), .ref (x 29), .ref (x 30), .int (nI hn), .int h4, .int h5, .ref (x 31), .ref (x 32), .ref (x 33)])), ((x 28), .inl (cI, 6, .inl n28)), ((x 29), .inl (cI, 6, .inl n29)), ((x 30), .inl (cI, 8, .inl n30)), ((x 31), .inl (cI, 8, .inl n31)), ((x 32), .inl (cI, 8, .inl n32)), ((x 33), .inl (cI, 64, .inl n33))] sz) := by
  refine Met.ofW (cc := cX7_legacy) (maxL := 3) (ret := (some .int)) (by decide) rfl ?_
  intro p e s m args below meth c s₁ B hml hv
  obtain ⟨rfl, hsz, hP, hK, hD0⟩ := hv
  have hx := B.exec
  have hb := B.bytes
  have hr := B.returns
  have hts := atoms_spec (ws := wsX7_legacy) B.pre
  have hown : s.vm.findClass RX7 = some m.cls := findClass_of_methodNamed B.named
  have hlocks := B.notSynchronized
  subst hsz
  have hD := hD0.self (sz := s.heap.size)
  generalize hAe : va_A [((x 0), .inr (7, [.ref (x 1), .ref (x 5), .ref (x 7), .ref (x 10), .ref (x 17), .ref (x 22), .ref (x 27), .int yr])), ((x 27), .inr (0, [.ref (x 28), .ref (x 29), .ref (x 30), .int (nI hn), .int h4, .int h5, .ref (x 31), .ref (x 32), .ref (x 33)])), ((x 28), .inl (cI, 6, .inl n28)), ((x 29), .inl (cI, 6, .inl n29)), ((x 30), .inl (cI, 8, .inl n30)), ((x 31), .inl (cI, 8, .inl n31)), ((x 32), .inl (cI, 8, .inl n32)), ((x 33), .inl (cI, 64, .inl n33))] s.heap.size = A at hD ⊢
  have hA : ∀ q : Nat, s.heap.size ≤ q → A q := fun q h => by rw [← hAe]; exact Or.inr h
  have hS : va_S A s.heap s.heap [] := va_S.rf
  have hP : va_P D vwCl [((x 0), .inr (7, [.ref (x 1), .ref (x 5), .ref (x 7), .ref (x 10), .ref (x 17), .ref (x 22), .ref (x 27), .int yr])), ((x 27), .inr (0, [.ref (x 28), .ref (x 29), .ref (x 30), .int (nI hn), .int h4, .int h5, .ref (x 31), .ref (x 32), .ref (x 33)])), ((x 28), .inl (cI, 6, .inl n28)), ((x 29), .inl (cI, 6, .inl n29)), ((x 30), .inl (cI, 8, .inl n30)), ((x 31), .inl (cI, 8, .inl n31)), ((x 32), .inl (cI, 8, .inl n32)), ((x 33), .inl (cI, 64, .inl n33))] s.heap := hP
  have w_1 : ∀ w ∈ wsX70, w ∈ wsX7_legacy := by decide +kernel
  have w_2 := hts (Cond.fieldLink RX7 54 "BlueCoats" "chest" "LBlueCoats$Chest;") (by decide +kernel)
  have hl := lv_entry ([.ref (x 0), .int q0, .int q1]) (n := 3) (Nat.le_of_ble_eq_true rfl)
  rw [lg_entry_eq]
  generalize (lg_sl ([.ref (x 0), .int q0, .int q1]) ++ List.replicate (3 - (lg_sl ([.ref (x 0), .int q0, .int q1])).length) Slot.unset).toArray = ls at hl ⊢
  have hl : lv_has ls 3 [(0, .ref (x 0)), (1, .int q0), (2, .int q1)] := hl
  refine lv_aload_n hx hb dX7_legacy_0 rfl (lv_at hl 0 rfl) ?_
  refine va_get (D := D) (ci := 7) (v := .ref (x 27)) (C := RX7) (T := TX7) (N := 8) hx hb hts w_1 hown hK hP 0 rfl rfl 6 (by decide) w_2 (fun _ h9 => h9) rfl dX7_legacy_1 ?_
  refine lv_iload_n hx hb dX7_legacy_4 rfl (lv_at hl 1 rfl) ?_
  refine lv_iload_n hx hb dX7_legacy_5 rfl (lv_at hl 2 rfl) ?_
  refine cl_i (wc := [((x 27), .inr (0, [.ref (x 28), .ref (x 29), .ref (x 30), .int (nI hn), .int h4, .int h5, .ref (x 31), .ref (x 32), .ref (x 33)])), ((x 31), .inl (cI, 8, .inl n31)), ((x 32), .inl (cI, 8, .inl n32))]) (wr := [((x 0), .inr (7, [.ref (x 1), .ref (x 5), .ref (x 7), .ref (x 10), .ref (x 17), .ref (x 22), .ref (x 27), .int yr])), ((x 28), .inl (cI, 6, .inl n28)), ((x 29), .inl (cI, 6, .inl n29)), ((x 30), .inl (cI, 8, .inl n30)), ((x 33), .inl (cI, 64, .inl n33))]) (va_runV (As := [.int q0, .int q1]) (rest := []) ⟨hx, hb, hml, hown, hts⟩ (g_X0_add l D cB cI cJ cZ s.heap.size (x 27) (x 28) (x 29) (x 30) (x 31) (x 32) (x 33) hn h4 h5 n28 n29 n30 n31 n32 n33 q0 q1 b_hn) (cwV 2 hts gX7_legacy_X0_add rfl rfl rfl (by decide +kernel) ⟨Nat.le_of_ble_eq_true rfl, Nat.le_of_ble_eq_true rfl⟩) (pre_V (hP.sub (ws' := [((x 27), .inr (0, [.ref (x 28), .ref (x 29), .ref (x 30), .int (nI hn), .int h4, .int h5, .ref (x 31), .ref (x 32), .ref (x 33)])), ((x 31), .inl (cI, 8, .inl n31)), ((x 32), .inl (cI, 8, .inl n32))]) [1, 5, 6] rfl) hK (hD.sub (ws' := [((x 27), .inr (0, [.ref (x 28), .ref (x 29), .ref (x 30), .int (nI hn), .int h4, .int h5, .ref (x 31), .ref (x 32), .ref (x 33)])), ((x 31), .inl (cI, 8, .inl n31)), ((x 32), .inl (cI, 8, .inl n32))]) [1, 5, 6] (by decide) rfl) 0 rfl rfl rfl) rfl rfl hl.1 rfl (lv_room (Nat.le_of_ble_eq_true rfl)) dX7_legacy_6 ⟨Nat.le_of_ble_eq_true rfl, Nat.le_of_ble_eq_true rfl⟩) hP hD hS hA [1, 5, 6] [0, 2, 3, 4, 7] rfl rfl (by decide) (by decide) 0 0 rfl rfl (fun r_1 u_2 H locs hw_u_2 hP hD hS => ?_)
  have hP : va_P D vwCl [((x 0), .inr (7, [.ref (x 1), .ref (x 5), .ref (x 7), .ref (x 10), .ref (x 17), .ref (x 22), .ref (x 27), .int yr])), ((x 28), .inl (cI, 6, .inl n28)), ((x 29), .inl (cI, 6, .inl n29)), ((x 30), .inl (cI, 8, .inl n30)), ((x 33), .inl (cI, 64, .inl n33)), ((x 27), .inr (0, [.ref (x 28), .ref (x 29), .ref (x 30), .int (nI (u_2.1)), .int h4, .int h5, .ref (x 31), .ref (x 32), .ref (x 33)])), ((x 31), .inl (cI, 8, .inl u_2.2.1)), ((x 32), .inl (cI, 8, .inl u_2.2.2))] H := hP
  have hD : va_D A [((x 0), .inr (7, [.ref (x 1), .ref (x 5), .ref (x 7), .ref (x 10), .ref (x 17), .ref (x 22), .ref (x 27), .int yr])), ((x 28), .inl (cI, 6, .inl n28)), ((x 29), .inl (cI, 6, .inl n29)), ((x 30), .inl (cI, 8, .inl n30)), ((x 33), .inl (cI, 64, .inl n33)), ((x 27), .inr (0, [.ref (x 28), .ref (x 29), .ref (x 30), .int (nI (u_2.1)), .int h4, .int h5, .ref (x 31), .ref (x 32), .ref (x 33)])), ((x 31), .inl (cI, 8, .inl u_2.2.1)), ((x 32), .inl (cI, 8, .inl u_2.2.2))] := hD
  have hP9 := hP.sub (ws' := [((x 0), .inr (7, [.ref (x 1), .ref (x 5), .ref (x 7), .ref (x 10), .ref (x 17), .ref (x 22), .ref (x 27), .int yr])), ((x 27), .inr (0, [.ref (x 28), .ref (x 29), .ref (x 30), .int (nI (u_2.1)), .int h4, .int h5, .ref (x 31), .ref (x 32), .ref (x 33)])), ((x 28), .inl (cI, 6, .inl n28)), ((x 29), .inl (cI, 6, .inl n29)), ((x 30), .inl (cI, 8, .inl n30)), ((x 31), .inl (cI, 8, .inl u_2.2.1)), ((x 32), .inl (cI, 8, .inl u_2.2.2)), ((x 33), .inl (cI, 64, .inl n33))]) [0, 5, 1, 2, 3, 6, 7, 4] rfl
  have hD9 := hD.sub (ws' := [((x 0), .inr (7, [.ref (x 1), .ref (x 5), .ref (x 7), .ref (x 10), .ref (x 17), .ref (x 22), .ref (x 27), .int yr])), ((x 27), .inr (0, [.ref (x 28), .ref (x 29), .ref (x 30), .int (nI (u_2.1)), .int h4, .int h5, .ref (x 31), .ref (x 32), .ref (x 33)])), ((x 28), .inl (cI, 6, .inl n28)), ((x 29), .inl (cI, 6, .inl n29)), ((x 30), .inl (cI, 8, .inl n30)), ((x 31), .inl (cI, 8, .inl u_2.2.1)), ((x 32), .inl (cI, 8, .inl u_2.2.2)), ((x 33), .inl (cI, 64, .inl n33))]) [0, 5, 1, 2, 3, 6, 7, 4] (by decide) rfl
  exact W.iret (v := r_1) hx hb hr (fun t ht hW => ⟨⟨_, ((u_2.1), u_2.2.1, u_2.2.2), rfl, hw_u_2, by rw [ht]; exact hP9, va_K.moved hW.alike hK, hD9⟩, hS.F ht⟩) hS.2.2 dX7_legacy_9

set_option maxHeartbeats 4000000 in
set_option maxRecDepth 100000 in
theorem n_X7_need (l : Launch) (D : va_G) (cB cI cJ cZ : ClassId) (sz : Nat) (x : Nat → Nat) (yr : Int32) (hn : Nat) (h4 : Int32) (h5 : Int32) (n28 : Nat → Int32) (ee q2 : Int32) (b_hn : hn ≤ 8) : Met l yX7_need wsX7_need ({ frames := 0, cells := 0, slots := 0, locals := 0 } : Room) (cPre D (aTy cB cI cJ cZ) [((x 0), .inr (7, [.ref (x 1), .ref (x 5), .ref (x 7), .ref (x 10), .ref (x 17), .ref (x 22), .ref (x 27), .int yr])), ((x 27), .inr (0, [.ref (x 28), .ref (x 29), .ref (x 30), .int (nI hn), .int h4, .int h5, .ref (x 31), .ref (x 32), .ref (x 33)])), ((x 28), .inl (cI, 6, .inl n28))] sz [.ref (x 0), .int ee, .int q2]) (va_Qi (fun (r : Int32) (u : (Nat → Int32)) => r = if okN ee q2 then 1 else 0) (cB_ D (aTy cB cI cJ cZ) (va_A [((x 0), .inr (7, [.ref (x 1), .ref (x 5), .ref (x 7), .ref (x 10), .ref (x 17), .ref (x 22), .ref (x 27), .int yr])), ((x 27), .inr (0, [.ref (x 28), .ref (x 29), .ref (x 30), .int (nI hn), .int h4, .int h5, .ref (x 31), .ref (x 32), .ref (x 33)])), ((x 28), .inl (cI, 6, .inl n28))] sz) (fun u => [((x 0), .inr (7, [.ref (x 1), .ref (x 5), .ref (x 7), .ref (x 10), .ref (x 17), .ref (x 22), .ref (x 27), .int yr])), ((x 27), .inr (0, [.ref (x 28), .ref (x 29), .ref (x 30), .int (nI hn), .int h4, .int h5, .ref (x 31), .ref (x 32), .ref (x 33)])), ((x 28), .inl (cI, 6, .inl u))])) (va_A [((x 0), .inr (7, [.ref (x 1), .ref (x 5), .ref (x 7), .ref (x 10), .ref (x 17), .ref (x 22), .ref (x 27), .int yr])), ((x 27), .inr (0, [.ref (x 28), .ref (x 29), .ref (x 30), .int (nI hn), .int h4, .int h5, .ref (x 31), .ref (x 32), .ref (x 33)])), ((x 28), .inl (cI, 6, .inl n28))] sz)) 0 0 (va_A [((x 0), .inr (7, [.ref (x 1), .ref (x 5), .ref (x 7), .ref (x 10), .ref (x 17), .ref (x 22), .ref (x 27), .int yr])), ((x 27), .inr (0, [.ref (x 28), .ref (x 29), .ref (x 30), .int (nI hn), .int h4, .int h5, .ref (x 31), .ref (x 32), .ref (x 33)])), ((x 28), .inl (cI, 6, .inl n28))] sz) := by
  refine Met.ofW (cc := cX7_need) (maxL := 3) (ret := (some .boolean)) (by decide) rfl ?_
  intro p e s m args below meth c s₁ B hml hv
  obtain ⟨rfl, hsz, hP, hK, hD0⟩ := hv
  have hx := B.exec
  have hb := B.bytes
  have hr := B.returns
  have hts := atoms_spec (ws := wsX7_need) B.pre
  have hown : s.vm.findClass RX7 = some m.cls := findClass_of_methodNamed B.named
  have hlocks := B.notSynchronized
  subst hsz
  have hD := hD0.self (sz := s.heap.size)
  generalize hAe : va_A [((x 0), .inr (7, [.ref (x 1), .ref (x 5), .ref (x 7), .ref (x 10), .ref (x 17), .ref (x 22), .ref (x 27), .int yr])), ((x 27), .inr (0, [.ref (x 28), .ref (x 29), .ref (x 30), .int (nI hn), .int h4, .int h5, .ref (x 31), .ref (x 32), .ref (x 33)])), ((x 28), .inl (cI, 6, .inl n28))] s.heap.size = A at hD ⊢
  have hA : ∀ q : Nat, s.heap.size ≤ q → A q := fun q h => by rw [← hAe]; exact Or.inr h
  have hS : va_S A s.heap s.heap [] := va_S.rf
  have hP : va_P D vwCl [((x 0), .inr (7, [.ref (x 1), .ref (x 5), .ref (x 7), .ref (x 10), .ref (x 17), .ref (x 22), .ref (x 27), .int yr])), ((x 27), .inr (0, [.ref (x 28), .ref (x 29), .ref (x 30), .int (nI hn), .int h4, .int h5, .ref (x 31), .ref (x 32), .ref (x 33)])), ((x 28), .inl (cI, 6, .inl n28))] s.heap := hP
  have w_1 : ∀ w ∈ wsX70, w ∈ wsX7_need := by decide +kernel
  have w_2 := hts (Cond.fieldLink RX7 54 "BlueCoats" "chest" "LBlueCoats$Chest;") (by decide +kernel)
  have w_3 : ∀ w ∈ wsX00, w ∈ wsX7_need := by decide +kernel
  have w_4 := hts (Cond.fieldLink RX7 216 "BlueCoats$Chest" "need" "[I") (by decide +kernel)
  have hl := lv_entry ([.ref (x 0), .int ee, .int q2]) (n := 3) (Nat.le_of_ble_eq_true rfl)
  rw [lg_entry_eq]
  generalize (lg_sl ([.ref (x 0), .int ee, .int q2]) ++ List.replicate (3 - (lg_sl ([.ref (x 0), .int ee, .int q2])).length) Slot.unset).toArray = ls at hl ⊢
  have hl : lv_has ls 3 [(0, .ref (x 0)), (1, .int ee), (2, .int q2)] := hl
  refine lv_iload_n hx hb dX7_need_0 rfl (lv_at hl 1 rfl) ?_
  refine lv_if_lt (tgt := 21) hx hb dX7_need_1 (by decide) (fun c_1 => ?_) (fun c_1 => ?_)
  ·
    refine lv_iconst (v := 0) hx hb dX7_need_21 (by decide) ?_
    have hP9 := hP.sub (ws' := [((x 0), .inr (7, [.ref (x 1), .ref (x 5), .ref (x 7), .ref (x 10), .ref (x 17), .ref (x 22), .ref (x 27), .int yr])), ((x 27), .inr (0, [.ref (x 28), .ref (x 29), .ref (x 30), .int (nI hn), .int h4, .int h5, .ref (x 31), .ref (x 32), .ref (x 33)])), ((x 28), .inl (cI, 6, .inl n28))]) [0, 1, 2] rfl
    have hD9 := hD.sub (ws' := [((x 0), .inr (7, [.ref (x 1), .ref (x 5), .ref (x 7), .ref (x 10), .ref (x 17), .ref (x 22), .ref (x 27), .int yr])), ((x 27), .inr (0, [.ref (x 28), .ref (x 29), .ref (x 30), .int (nI hn), .int h4, .int h5, .ref (x 31), .ref (x 32), .ref (x 33)])), ((x 28), .inl (cI, 6, .inl n28))]) [0, 1, 2] (by decide) rfl
    exact W.zret (v := 0) hx hb hr rfl (fun t ht hW => ⟨⟨_, n28, rfl, (if_neg (fun h => h.1 c_1)).symm, by rw [ht]; exact hP9, va_K.moved hW.alike hK, hD9⟩, hS.F ht⟩) hS.2.2 dX7_need_22
  ·
    refine lv_iload_n hx hb dX7_need_4 rfl (lv_at hl 1 rfl) ?_
    refine lv_bipush (v := 6) hx hb dX7_need_5 (by decide) ?_
    refine lv_icmp_ge (tgt := 21) hx hb dX7_need_7 (by decide) (fun c_7 => ?_) (fun c_7 => ?_)
    ·
      refine lv_iconst (v := 0) hx hb dX7_need_21 (by decide) ?_
      have hP9 := hP.sub (ws' := [((x 0), .inr (7, [.ref (x 1), .ref (x 5), .ref (x 7), .ref (x 10), .ref (x 17), .ref (x 22), .ref (x 27), .int yr])), ((x 27), .inr (0, [.ref (x 28), .ref (x 29), .ref (x 30), .int (nI hn), .int h4, .int h5, .ref (x 31), .ref (x 32), .ref (x 33)])), ((x 28), .inl (cI, 6, .inl n28))]) [0, 1, 2] rfl
      have hD9 := hD.sub (ws' := [((x 0), .inr (7, [.ref (x 1), .ref (x 5), .ref (x 7), .ref (x 10), .ref (x 17), .ref (x 22), .ref (x 27), .int yr])), ((x 27), .inr (0, [.ref (x 28), .ref (x 29), .ref (x 30), .int (nI hn), .int h4, .int h5, .ref (x 31), .ref (x 32), .ref (x 33)])), ((x 28), .inl (cI, 6, .inl n28))]) [0, 1, 2] (by decide) rfl
      exact W.zret (v := 0) hx hb hr rfl (fun t ht hW => ⟨⟨_, n28, rfl, (if_neg (fun h => h.2.1 (i_le6.mp c_7))).symm, by rw [ht]; exact hP9, va_K.moved hW.alike hK, hD9⟩, hS.F ht⟩) hS.2.2 dX7_need_22
    ·
      refine lv_iload_n hx hb dX7_need_10 rfl (lv_at hl 2 rfl) ?_
      refine lv_if_lt (tgt := 21) hx hb dX7_need_11 (by decide) (fun c_11 => ?_) (fun c_11 => ?_)
      ·
        refine lv_iconst (v := 0) hx hb dX7_need_21 (by decide) ?_
        have hP9 := hP.sub (ws' := [((x 0), .inr (7, [.ref (x 1), .ref (x 5), .ref (x 7), .ref (x 10), .ref (x 17), .ref (x 22), .ref (x 27), .int yr])), ((x 27), .inr (0, [.ref (x 28), .ref (x 29), .ref (x 30), .int (nI hn), .int h4, .int h5, .ref (x 31), .ref (x 32), .ref (x 33)])), ((x 28), .inl (cI, 6, .inl n28))]) [0, 1, 2] rfl
        have hD9 := hD.sub (ws' := [((x 0), .inr (7, [.ref (x 1), .ref (x 5), .ref (x 7), .ref (x 10), .ref (x 17), .ref (x 22), .ref (x 27), .int yr])), ((x 27), .inr (0, [.ref (x 28), .ref (x 29), .ref (x 30), .int (nI hn), .int h4, .int h5, .ref (x 31), .ref (x 32), .ref (x 33)])), ((x 28), .inl (cI, 6, .inl n28))]) [0, 1, 2] (by decide) rfl
        exact W.zret (v := 0) hx hb hr rfl (fun t ht hW => ⟨⟨_, n28, rfl, (if_neg (fun h => h.2.2.1 c_11)).symm, by rw [ht]; exact hP9, va_K.moved hW.alike hK, hD9⟩, hS.F ht⟩) hS.2.2 dX7_need_22
      ·
        refine lv_iload_n hx hb dX7_need_14 rfl (lv_at hl 2 rfl) ?_
        refine lv_sipush (v := 9999) hx hb dX7_need_15 (by decide) ?_
        refine lv_icmp_le (tgt := 23) hx hb dX7_need_18 (by decide) (fun c_18 => ?_) (fun c_18 => ?_)
        ·
          refine lv_aload_n hx hb dX7_need_23 rfl (lv_at hl 0 rfl) ?_
          refine va_get (D := D) (ci := 7) (v := .ref (x 27)) (C := RX7) (T := TX7) (N := 8) hx hb hts w_1 hown hK hP 0 rfl rfl 6 (by decide) w_2 (fun _ h9 => h9) rfl dX7_need_24 ?_
          refine va_get (D := D) (ci := 0) (v := .ref (x 28)) (C := RX0) (T := TX0) (N := 9) hx hb hts w_3 hown hK hP 1 rfl rfl 0 (by decide) w_4 (fun _ h9 => h9) rfl dX7_need_27 ?_
          refine lv_iload_n hx hb dX7_need_30 rfl (lv_at hl 1 rfl) ?_
          refine lv_iload_n hx hb dX7_need_31 rfl (lv_at hl 2 rfl) ?_
          refine sv_iast hx hb hK hP hD hS 2 1 rfl rfl (i_in6 c_1 c_7) dX7_need_32 (fun g_1 H locs eg_1 hP hD hS => ?_)
          have hP : va_P D vwCl [((x 0), .inr (7, [.ref (x 1), .ref (x 5), .ref (x 7), .ref (x 10), .ref (x 17), .ref (x 22), .ref (x 27), .int yr])), ((x 27), .inr (0, [.ref (x 28), .ref (x 29), .ref (x 30), .int (nI hn), .int h4, .int h5, .ref (x 31), .ref (x 32), .ref (x 33)])), ((x 28), .inl (cI, 6, .inl g_1))] H := hP
          have hD : va_D A [((x 0), .inr (7, [.ref (x 1), .ref (x 5), .ref (x 7), .ref (x 10), .ref (x 17), .ref (x 22), .ref (x 27), .int yr])), ((x 27), .inr (0, [.ref (x 28), .ref (x 29), .ref (x 30), .int (nI hn), .int h4, .int h5, .ref (x 31), .ref (x 32), .ref (x 33)])), ((x 28), .inl (cI, 6, .inl g_1))] := hD
          refine lv_iconst (v := 1) hx hb dX7_need_33 (by decide) ?_
          have hP9 := hP.sub (ws' := [((x 0), .inr (7, [.ref (x 1), .ref (x 5), .ref (x 7), .ref (x 10), .ref (x 17), .ref (x 22), .ref (x 27), .int yr])), ((x 27), .inr (0, [.ref (x 28), .ref (x 29), .ref (x 30), .int (nI hn), .int h4, .int h5, .ref (x 31), .ref (x 32), .ref (x 33)])), ((x 28), .inl (cI, 6, .inl g_1))]) [0, 1, 2] rfl
          have hD9 := hD.sub (ws' := [((x 0), .inr (7, [.ref (x 1), .ref (x 5), .ref (x 7), .ref (x 10), .ref (x 17), .ref (x 22), .ref (x 27), .int yr])), ((x 27), .inr (0, [.ref (x 28), .ref (x 29), .ref (x 30), .int (nI hn), .int h4, .int h5, .ref (x 31), .ref (x 32), .ref (x 33)])), ((x 28), .inl (cI, 6, .inl g_1))]) [0, 1, 2] (by decide) rfl
          exact W.zret (v := 1) hx hb hr rfl (fun t ht hW => ⟨⟨_, g_1, rfl, (if_pos ⟨c_1, (fun h => c_7 (i_le6.mpr h)), c_11, (Int32.not_lt.mpr c_18)⟩).symm, by rw [ht]; exact hP9, va_K.moved hW.alike hK, hD9⟩, hS.F ht⟩) hS.2.2 dX7_need_34
        ·
          refine lv_iconst (v := 0) hx hb dX7_need_21 (by decide) ?_
          have hP9 := hP.sub (ws' := [((x 0), .inr (7, [.ref (x 1), .ref (x 5), .ref (x 7), .ref (x 10), .ref (x 17), .ref (x 22), .ref (x 27), .int yr])), ((x 27), .inr (0, [.ref (x 28), .ref (x 29), .ref (x 30), .int (nI hn), .int h4, .int h5, .ref (x 31), .ref (x 32), .ref (x 33)])), ((x 28), .inl (cI, 6, .inl n28))]) [0, 1, 2] rfl
          have hD9 := hD.sub (ws' := [((x 0), .inr (7, [.ref (x 1), .ref (x 5), .ref (x 7), .ref (x 10), .ref (x 17), .ref (x 22), .ref (x 27), .int yr])), ((x 27), .inr (0, [.ref (x 28), .ref (x 29), .ref (x 30), .int (nI hn), .int h4, .int h5, .ref (x 31), .ref (x 32), .ref (x 33)])), ((x 28), .inl (cI, 6, .inl n28))]) [0, 1, 2] (by decide) rfl
          exact W.zret (v := 0) hx hb hr rfl (fun t ht hW => ⟨⟨_, n28, rfl, (if_neg (fun h => h.2.2.2 (Int32.not_le.mp c_18))).symm, by rw [ht]; exact hP9, va_K.moved hW.alike hK, hD9⟩, hS.F ht⟩) hS.2.2 dX7_need_22

set_option maxHeartbeats 4000000 in
set_option maxRecDepth 100000 in
theorem n_X7_owed (l : Launch) (D : va_G) (cB cI cJ cZ : ClassId) (sz : Nat) (x : Nat → Nat) (yr : Int32) (hn : Nat) (h4 : Int32) (h5 : Int32) (n28 : Nat → Int32) (n29 : Nat → Int32) (n30 : Nat → Int32) (n31 : Nat → Int32) (n32 : Nat → Int32) (n33 : Nat → Int32) (q k : Int32) (b_hn : hn ≤ 8) : Met l yX7_owed wsX7_owed ({ frames := 4, cells := 0, slots := 0, locals := 87 } : Room) (cPre D (aTy cB cI cJ cZ) [((x 0), .inr (7, [.ref (x 1), .ref (x 5), .ref (x 7), .ref (x 10), .ref (x 17), .ref (x 22), .ref (x 27), .int yr])), ((x 27), .inr (0, [.ref (x 28), .ref (x 29), .ref (x 30), .int (nI hn), .int h4, .int h5, .ref (x 31), .ref (x 32), .ref (x 33)])), ((x 28), .inl (cI, 6, .inl n28)), ((x 29), .inl (cI, 6, .inl n29)), ((x 30), .inl (cI, 8, .inl n30)), ((x 31), .inl (cI, 8, .inl n31)), ((x 32), .inl (cI, 8, .inl n32)), ((x 33), .inl (cI, 64, .inl n33))] sz [.ref (x 0), .int q, .int k]) (va_Qi (fun (r : Int32) (u : (Nat → Int32) × (Nat → Int32) × (Nat → Int32) × Int32 × Int32) => True) (cB_ D (aTy cB cI cJ cZ) (va_A [((x 0), .inr (7, [.ref (x 1), .ref (x 5), .ref (x 7), .ref (x 10), .ref (x 17), .ref (x 22), .ref (x 27), .int yr])), ((x 27), .inr (0, [.ref (x 28), .ref (x 29), .ref (x 30), .int (nI hn), .int h4, .int h5, .ref (x 31), .ref (x 32), .ref (x 33)])), ((x 28), .inl (cI, 6, .inl n28)), ((x 29), .inl (cI, 6, .inl n29)), ((x 30), .inl (cI, 8, .inl n30)), ((x 31), .inl (cI, 8, .inl n31)), ((x 32), .inl (cI, 8, .inl n32)), ((x 33), .inl (cI, 64, .inl n33))] sz) (fun u => [((x 0), .inr (7, [.ref (x 1), .ref (x 5), .ref (x 7), .ref (x 10), .ref (x 17), .ref (x 22), .ref (x 27), .int yr])), ((x 27), .inr (0, [.ref (x 28), .ref (x 29), .ref (x 30), .int (nI hn), .int (u.2.2.2.1), .int (u.2.2.2.2), .ref (x 31), .ref (x 32), .ref (x 33)])), ((x 28), .inl (cI, 6, .inl n28)), ((x 29), .inl (cI, 6, .inl u.1)), ((x 30), .inl (cI, 8, .inl u.2.1)), ((x 31), .inl (cI, 8, .inl n31)), ((x 32), .inl (cI, 8, .inl n32)), ((x 33), .inl (cI, 64, .inl u.2.2.1))])) (va_A [((x 0), .inr (7, [.ref (x 1), .ref (x 5), .ref (x 7), .ref (x 10), .ref (x 17), .ref (x 22), .ref (x 27), .int yr])), ((x 27), .inr (0, [.ref (x 28), .ref (x 29), .ref (x 30), .int (nI hn), .int h4, .int h5, .ref (x 31), .ref (x 32), .ref (x 33)])), ((x 28), .inl (cI, 6, .inl n28)), ((x 29), .inl (cI, 6, .inl n29)), ((x 30), .inl (cI, 8, .inl n30)), ((x 31), .inl (cI, 8, .inl n31)), ((x 32), .inl (cI, 8, .inl n32)), ((x 33), .inl (cI, 64, .inl n33))] sz)) 0 0 (va_A [((x 0), .inr (7, [.ref (x 1), .ref (x 5), .ref (x 7), .ref (x 10), .ref (x 17), .ref (x 22), .ref (x 27), .int yr])), ((x 27), .inr (0, [.ref (x 28), .ref (x 29), .ref (x 30), .int (nI hn), .int h4, .int h5, .ref (x 31), .ref (x 32), .ref (x 33)])), ((x 28), .inl (cI, 6, .inl n28)), ((x 29), .inl (cI, 6, .inl n29)), ((x 30), .inl (cI, 8, .inl n30)), ((x 31), .inl (cI, 8, .inl n31)), ((x 32), .inl (cI, 8, .inl n32)), ((x 33), .inl (cI, 64, .inl n33))] sz) := by
  refine Met.ofW (cc := cX7_owed) (maxL := 3) (ret := (some .int)) (by decide) rfl ?_
  intro p e s m args below meth c s₁ B hml hv
  obtain ⟨rfl, hsz, hP, hK, hD0⟩ := hv
  have hx := B.exec
  have hb := B.bytes
  have hr := B.returns
  have hts := atoms_spec (ws := wsX7_owed) B.pre
  have hown : s.vm.findClass RX7 = some m.cls := findClass_of_methodNamed B.named
  have hlocks := B.notSynchronized
  subst hsz
  have hD := hD0.self (sz := s.heap.size)
  generalize hAe : va_A [((x 0), .inr (7, [.ref (x 1), .ref (x 5), .ref (x 7), .ref (x 10), .ref (x 17), .ref (x 22), .ref (x 27), .int yr])), ((x 27), .inr (0, [.ref (x 28), .ref (x 29), .ref (x 30), .int (nI hn), .int h4, .int h5, .ref (x 31), .ref (x 32), .ref (x 33)])), ((x 28), .inl (cI, 6, .inl n28)), ((x 29), .inl (cI, 6, .inl n29)), ((x 30), .inl (cI, 8, .inl n30)), ((x 31), .inl (cI, 8, .inl n31)), ((x 32), .inl (cI, 8, .inl n32)), ((x 33), .inl (cI, 64, .inl n33))] s.heap.size = A at hD ⊢
  have hA : ∀ q : Nat, s.heap.size ≤ q → A q := fun q h => by rw [← hAe]; exact Or.inr h
  have hS : va_S A s.heap s.heap [] := va_S.rf
  have hP : va_P D vwCl [((x 0), .inr (7, [.ref (x 1), .ref (x 5), .ref (x 7), .ref (x 10), .ref (x 17), .ref (x 22), .ref (x 27), .int yr])), ((x 27), .inr (0, [.ref (x 28), .ref (x 29), .ref (x 30), .int (nI hn), .int h4, .int h5, .ref (x 31), .ref (x 32), .ref (x 33)])), ((x 28), .inl (cI, 6, .inl n28)), ((x 29), .inl (cI, 6, .inl n29)), ((x 30), .inl (cI, 8, .inl n30)), ((x 31), .inl (cI, 8, .inl n31)), ((x 32), .inl (cI, 8, .inl n32)), ((x 33), .inl (cI, 64, .inl n33))] s.heap := hP
  have w_1 : ∀ w ∈ wsX70, w ∈ wsX7_owed := by decide +kernel
  have w_2 := hts (Cond.fieldLink RX7 54 "BlueCoats" "chest" "LBlueCoats$Chest;") (by decide +kernel)
  have w_3 : ∀ w ∈ wsX00, w ∈ wsX7_owed := by decide +kernel
  have w_4 := hts (Cond.fieldLink RX7 219 "BlueCoats$Chest" "toEnd" "[I") (by decide +kernel)
  have w_5 := hts (Cond.fieldLink RX7 222 "BlueCoats$Chest" "number" "I") (by decide +kernel)
  have w_6 := hts (Cond.fieldLink RX7 223 "BlueCoats$Chest" "fromLegacy" "[I") (by decide +kernel)
  have w_7 := hts (Cond.fieldLink RX7 226 "BlueCoats$Chest" "shortfall" "I") (by decide +kernel)
  have w_8 := hts (Cond.fieldLink RX7 229 "BlueCoats$Chest" "proof" "I") (by decide +kernel)
  have hl := lv_entry ([.ref (x 0), .int q, .int k]) (n := 3) (Nat.le_of_ble_eq_true rfl)
  rw [lg_entry_eq]
  generalize (lg_sl ([.ref (x 0), .int q, .int k]) ++ List.replicate (3 - (lg_sl ([.ref (x 0), .int q, .int k])).length) Slot.unset).toArray = ls at hl ⊢
  have hl : lv_has ls 3 [(0, .ref (x 0)), (1, .int q), (2, .int k)] := hl
  refine lv_aload_n hx hb dX7_owed_0 rfl (lv_at hl 0 rfl) ?_
  refine va_get (D := D) (ci := 7) (v := .ref (x 27)) (C := RX7) (T := TX7) (N := 8) hx hb hts w_1 hown hK hP 0 rfl rfl 6 (by decide) w_2 (fun _ h9 => h9) rfl dX7_owed_1 ?_
  refine cl_v (wc := [((x 27), .inr (0, [.ref (x 28), .ref (x 29), .ref (x 30), .int (nI hn), .int h4, .int h5, .ref (x 31), .ref (x 32), .ref (x 33)])), ((x 28), .inl (cI, 6, .inl n28)), ((x 29), .inl (cI, 6, .inl n29)), ((x 30), .inl (cI, 8, .inl n30)), ((x 31), .inl (cI, 8, .inl n31)), ((x 32), .inl (cI, 8, .inl n32)), ((x 33), .inl (cI, 64, .inl n33))]) (wr := [((x 0), .inr (7, [.ref (x 1), .ref (x 5), .ref (x 7), .ref (x 10), .ref (x 17), .ref (x 22), .ref (x 27), .int yr]))]) (va_runV (As := []) (rest := []) ⟨hx, hb, hml, hown, hts⟩ (g_X0_plan l D cB cI cJ cZ s.heap.size (x 27) (x 28) (x 29) (x 30) (x 31) (x 32) (x 33) hn h4 h5 n28 n29 n30 n31 n32 n33 b_hn) (cwV 0 hts gX7_owed_X0_plan rfl rfl rfl (by decide +kernel) ⟨Nat.le_of_ble_eq_true rfl, Nat.le_of_ble_eq_true rfl⟩) (pre_V (hP.sub (ws' := [((x 27), .inr (0, [.ref (x 28), .ref (x 29), .ref (x 30), .int (nI hn), .int h4, .int h5, .ref (x 31), .ref (x 32), .ref (x 33)])), ((x 28), .inl (cI, 6, .inl n28)), ((x 29), .inl (cI, 6, .inl n29)), ((x 30), .inl (cI, 8, .inl n30)), ((x 31), .inl (cI, 8, .inl n31)), ((x 32), .inl (cI, 8, .inl n32)), ((x 33), .inl (cI, 64, .inl n33))]) [1, 2, 3, 4, 5, 6, 7] rfl) hK (hD.sub (ws' := [((x 27), .inr (0, [.ref (x 28), .ref (x 29), .ref (x 30), .int (nI hn), .int h4, .int h5, .ref (x 31), .ref (x 32), .ref (x 33)])), ((x 28), .inl (cI, 6, .inl n28)), ((x 29), .inl (cI, 6, .inl n29)), ((x 30), .inl (cI, 8, .inl n30)), ((x 31), .inl (cI, 8, .inl n31)), ((x 32), .inl (cI, 8, .inl n32)), ((x 33), .inl (cI, 64, .inl n33))]) [1, 2, 3, 4, 5, 6, 7] (by decide) rfl) 0 rfl rfl rfl) rfl rfl hl.1 rfl (lv_room (Nat.le_of_ble_eq_true rfl)) dX7_owed_4 ⟨Nat.le_of_ble_eq_true rfl, Nat.le_of_ble_eq_true rfl⟩) hP hD hS hA [1, 2, 3, 4, 5, 6, 7] [0] rfl rfl (by decide) (by decide) 0 0 rfl rfl (fun u_2 H locs hw_u_2 hP hD hS => ?_)
  have hP : va_P D vwCl [((x 0), .inr (7, [.ref (x 1), .ref (x 5), .ref (x 7), .ref (x 10), .ref (x 17), .ref (x 22), .ref (x 27), .int yr])), ((x 27), .inr (0, [.ref (x 28), .ref (x 29), .ref (x 30), .int (nI hn), .int u_2.2.2.2.1, .int u_2.2.2.2.2, .ref (x 31), .ref (x 32), .ref (x 33)])), ((x 28), .inl (cI, 6, .inl n28)), ((x 29), .inl (cI, 6, .inl u_2.1)), ((x 30), .inl (cI, 8, .inl u_2.2.1)), ((x 31), .inl (cI, 8, .inl n31)), ((x 32), .inl (cI, 8, .inl n32)), ((x 33), .inl (cI, 64, .inl u_2.2.2.1))] H := hP
  have hD : va_D A [((x 0), .inr (7, [.ref (x 1), .ref (x 5), .ref (x 7), .ref (x 10), .ref (x 17), .ref (x 22), .ref (x 27), .int yr])), ((x 27), .inr (0, [.ref (x 28), .ref (x 29), .ref (x 30), .int (nI hn), .int u_2.2.2.2.1, .int u_2.2.2.2.2, .ref (x 31), .ref (x 32), .ref (x 33)])), ((x 28), .inl (cI, 6, .inl n28)), ((x 29), .inl (cI, 6, .inl u_2.1)), ((x 30), .inl (cI, 8, .inl u_2.2.1)), ((x 31), .inl (cI, 8, .inl n31)), ((x 32), .inl (cI, 8, .inl n32)), ((x 33), .inl (cI, 64, .inl u_2.2.2.1))] := hD
  refine lv_iload_n hx hb dX7_owed_7 rfl (lv_at hl 1 rfl) ?_
  by_cases k_80 : q = 0
  ·
    subst k_80
    refine lv_tableIn (off := 32) (tgt := 40) hx hb dX7_owed_8 (by decide) (by decide) rfl (by decide) ?_
    refine lv_iload_n hx hb dX7_owed_40 rfl (lv_at hl 2 rfl) ?_
    refine lv_if_lt (tgt := 62) hx hb dX7_owed_41 (by decide) (fun c_41 => ?_) (fun c_41 => ?_)
    ·
      refine lv_iconst (v := (-1)) hx hb dX7_owed_62 (by decide) ?_
      have hP9 := hP.sub (ws' := [((x 0), .inr (7, [.ref (x 1), .ref (x 5), .ref (x 7), .ref (x 10), .ref (x 17), .ref (x 22), .ref (x 27), .int yr])), ((x 27), .inr (0, [.ref (x 28), .ref (x 29), .ref (x 30), .int (nI hn), .int u_2.2.2.2.1, .int u_2.2.2.2.2, .ref (x 31), .ref (x 32), .ref (x 33)])), ((x 28), .inl (cI, 6, .inl n28)), ((x 29), .inl (cI, 6, .inl u_2.1)), ((x 30), .inl (cI, 8, .inl u_2.2.1)), ((x 31), .inl (cI, 8, .inl n31)), ((x 32), .inl (cI, 8, .inl n32)), ((x 33), .inl (cI, 64, .inl u_2.2.2.1))]) [0, 1, 2, 3, 4, 5, 6, 7] rfl
      have hD9 := hD.sub (ws' := [((x 0), .inr (7, [.ref (x 1), .ref (x 5), .ref (x 7), .ref (x 10), .ref (x 17), .ref (x 22), .ref (x 27), .int yr])), ((x 27), .inr (0, [.ref (x 28), .ref (x 29), .ref (x 30), .int (nI hn), .int u_2.2.2.2.1, .int u_2.2.2.2.2, .ref (x 31), .ref (x 32), .ref (x 33)])), ((x 28), .inl (cI, 6, .inl n28)), ((x 29), .inl (cI, 6, .inl u_2.1)), ((x 30), .inl (cI, 8, .inl u_2.2.1)), ((x 31), .inl (cI, 8, .inl n31)), ((x 32), .inl (cI, 8, .inl n32)), ((x 33), .inl (cI, 64, .inl u_2.2.2.1))]) [0, 1, 2, 3, 4, 5, 6, 7] (by decide) rfl
      exact W.iret (v := (-1)) hx hb hr (fun t ht hW => ⟨⟨_, (u_2.1, u_2.2.1, u_2.2.2.1, (u_2.2.2.2.1 : Int32), (u_2.2.2.2.2 : Int32)), rfl, trivial, by rw [ht]; exact hP9, va_K.moved hW.alike hK, hD9⟩, hS.F ht⟩) hS.2.2 dX7_owed_63
    ·
      refine lv_iload_n hx hb dX7_owed_44 rfl (lv_at hl 2 rfl) ?_
      refine lv_bipush (v := 6) hx hb dX7_owed_45 (by decide) ?_
      refine lv_icmp_ge (tgt := 62) hx hb dX7_owed_47 (by decide) (fun c_47 => ?_) (fun c_47 => ?_)
      ·
        refine lv_iconst (v := (-1)) hx hb dX7_owed_62 (by decide) ?_
        have hP9 := hP.sub (ws' := [((x 0), .inr (7, [.ref (x 1), .ref (x 5), .ref (x 7), .ref (x 10), .ref (x 17), .ref (x 22), .ref (x 27), .int yr])), ((x 27), .inr (0, [.ref (x 28), .ref (x 29), .ref (x 30), .int (nI hn), .int u_2.2.2.2.1, .int u_2.2.2.2.2, .ref (x 31), .ref (x 32), .ref (x 33)])), ((x 28), .inl (cI, 6, .inl n28)), ((x 29), .inl (cI, 6, .inl u_2.1)), ((x 30), .inl (cI, 8, .inl u_2.2.1)), ((x 31), .inl (cI, 8, .inl n31)), ((x 32), .inl (cI, 8, .inl n32)), ((x 33), .inl (cI, 64, .inl u_2.2.2.1))]) [0, 1, 2, 3, 4, 5, 6, 7] rfl
        have hD9 := hD.sub (ws' := [((x 0), .inr (7, [.ref (x 1), .ref (x 5), .ref (x 7), .ref (x 10), .ref (x 17), .ref (x 22), .ref (x 27), .int yr])), ((x 27), .inr (0, [.ref (x 28), .ref (x 29), .ref (x 30), .int (nI hn), .int u_2.2.2.2.1, .int u_2.2.2.2.2, .ref (x 31), .ref (x 32), .ref (x 33)])), ((x 28), .inl (cI, 6, .inl n28)), ((x 29), .inl (cI, 6, .inl u_2.1)), ((x 30), .inl (cI, 8, .inl u_2.2.1)), ((x 31), .inl (cI, 8, .inl n31)), ((x 32), .inl (cI, 8, .inl n32)), ((x 33), .inl (cI, 64, .inl u_2.2.2.1))]) [0, 1, 2, 3, 4, 5, 6, 7] (by decide) rfl
        exact W.iret (v := (-1)) hx hb hr (fun t ht hW => ⟨⟨_, (u_2.1, u_2.2.1, u_2.2.2.1, (u_2.2.2.2.1 : Int32), (u_2.2.2.2.2 : Int32)), rfl, trivial, by rw [ht]; exact hP9, va_K.moved hW.alike hK, hD9⟩, hS.F ht⟩) hS.2.2 dX7_owed_63
      ·
        refine lv_aload_n hx hb dX7_owed_50 rfl (lv_at hl 0 rfl) ?_
        refine va_get (D := D) (ci := 7) (v := .ref (x 27)) (C := RX7) (T := TX7) (N := 8) hx hb hts w_1 hown hK hP 0 rfl rfl 6 (by decide) w_2 (fun _ h9 => h9) rfl dX7_owed_51 ?_
        refine va_get (D := D) (ci := 0) (v := .ref (x 29)) (C := RX0) (T := TX0) (N := 9) hx hb hts w_3 hown hK hP 1 rfl rfl 1 (by decide) w_4 (fun _ h9 => h9) rfl dX7_owed_54 ?_
        refine lv_iload_n hx hb dX7_owed_57 rfl (lv_at hl 2 rfl) ?_
        refine sv_iald (v := u_2.1 k.toNatClampNeg) hx hb hK hP 3 1 rfl rfl (i_in6 c_41 c_47) rfl dX7_owed_58 ?_
        refine lv_topi (fun v_3 ev_3 => ?_)
        refine lv_goto (tgt := 63) hx hb dX7_owed_59 (by decide) ?_
        have hP9 := hP.sub (ws' := [((x 0), .inr (7, [.ref (x 1), .ref (x 5), .ref (x 7), .ref (x 10), .ref (x 17), .ref (x 22), .ref (x 27), .int yr])), ((x 27), .inr (0, [.ref (x 28), .ref (x 29), .ref (x 30), .int (nI hn), .int u_2.2.2.2.1, .int u_2.2.2.2.2, .ref (x 31), .ref (x 32), .ref (x 33)])), ((x 28), .inl (cI, 6, .inl n28)), ((x 29), .inl (cI, 6, .inl u_2.1)), ((x 30), .inl (cI, 8, .inl u_2.2.1)), ((x 31), .inl (cI, 8, .inl n31)), ((x 32), .inl (cI, 8, .inl n32)), ((x 33), .inl (cI, 64, .inl u_2.2.2.1))]) [0, 1, 2, 3, 4, 5, 6, 7] rfl
        have hD9 := hD.sub (ws' := [((x 0), .inr (7, [.ref (x 1), .ref (x 5), .ref (x 7), .ref (x 10), .ref (x 17), .ref (x 22), .ref (x 27), .int yr])), ((x 27), .inr (0, [.ref (x 28), .ref (x 29), .ref (x 30), .int (nI hn), .int u_2.2.2.2.1, .int u_2.2.2.2.2, .ref (x 31), .ref (x 32), .ref (x 33)])), ((x 28), .inl (cI, 6, .inl n28)), ((x 29), .inl (cI, 6, .inl u_2.1)), ((x 30), .inl (cI, 8, .inl u_2.2.1)), ((x 31), .inl (cI, 8, .inl n31)), ((x 32), .inl (cI, 8, .inl n32)), ((x 33), .inl (cI, 64, .inl u_2.2.2.1))]) [0, 1, 2, 3, 4, 5, 6, 7] (by decide) rfl
        exact W.iret (v := v_3) hx hb hr (fun t ht hW => ⟨⟨_, (u_2.1, u_2.2.1, u_2.2.2.1, (u_2.2.2.2.1 : Int32), (u_2.2.2.2.2 : Int32)), rfl, trivial, by rw [ht]; exact hP9, va_K.moved hW.alike hK, hD9⟩, hS.F ht⟩) hS.2.2 dX7_owed_63
  by_cases k_81 : q = 1
  ·
    subst k_81
    refine lv_tableIn (off := 56) (tgt := 64) hx hb dX7_owed_8 (by decide) (by decide) rfl (by decide) ?_
    refine lv_iload_n hx hb dX7_owed_64 rfl (lv_at hl 2 rfl) ?_
    refine lv_if_lt (tgt := 91) hx hb dX7_owed_65 (by decide) (fun c_65 => ?_) (fun c_65 => ?_)
    ·
      refine lv_iconst (v := (-1)) hx hb dX7_owed_91 (by decide) ?_
      have hP9 := hP.sub (ws' := [((x 0), .inr (7, [.ref (x 1), .ref (x 5), .ref (x 7), .ref (x 10), .ref (x 17), .ref (x 22), .ref (x 27), .int yr])), ((x 27), .inr (0, [.ref (x 28), .ref (x 29), .ref (x 30), .int (nI hn), .int u_2.2.2.2.1, .int u_2.2.2.2.2, .ref (x 31), .ref (x 32), .ref (x 33)])), ((x 28), .inl (cI, 6, .inl n28)), ((x 29), .inl (cI, 6, .inl u_2.1)), ((x 30), .inl (cI, 8, .inl u_2.2.1)), ((x 31), .inl (cI, 8, .inl n31)), ((x 32), .inl (cI, 8, .inl n32)), ((x 33), .inl (cI, 64, .inl u_2.2.2.1))]) [0, 1, 2, 3, 4, 5, 6, 7] rfl
      have hD9 := hD.sub (ws' := [((x 0), .inr (7, [.ref (x 1), .ref (x 5), .ref (x 7), .ref (x 10), .ref (x 17), .ref (x 22), .ref (x 27), .int yr])), ((x 27), .inr (0, [.ref (x 28), .ref (x 29), .ref (x 30), .int (nI hn), .int u_2.2.2.2.1, .int u_2.2.2.2.2, .ref (x 31), .ref (x 32), .ref (x 33)])), ((x 28), .inl (cI, 6, .inl n28)), ((x 29), .inl (cI, 6, .inl u_2.1)), ((x 30), .inl (cI, 8, .inl u_2.2.1)), ((x 31), .inl (cI, 8, .inl n31)), ((x 32), .inl (cI, 8, .inl n32)), ((x 33), .inl (cI, 64, .inl u_2.2.2.1))]) [0, 1, 2, 3, 4, 5, 6, 7] (by decide) rfl
      exact W.iret (v := (-1)) hx hb hr (fun t ht hW => ⟨⟨_, (u_2.1, u_2.2.1, u_2.2.2.1, (u_2.2.2.2.1 : Int32), (u_2.2.2.2.2 : Int32)), rfl, trivial, by rw [ht]; exact hP9, va_K.moved hW.alike hK, hD9⟩, hS.F ht⟩) hS.2.2 dX7_owed_92
    ·
      refine lv_iload_n hx hb dX7_owed_68 rfl (lv_at hl 2 rfl) ?_
      refine lv_aload_n hx hb dX7_owed_69 rfl (lv_at hl 0 rfl) ?_
      refine va_get (D := D) (ci := 7) (v := .ref (x 27)) (C := RX7) (T := TX7) (N := 8) hx hb hts w_1 hown hK hP 0 rfl rfl 6 (by decide) w_2 (fun _ h9 => h9) rfl dX7_owed_70 ?_
      refine va_get (D := D) (ci := 0) (v := .int (nI hn)) (C := RX0) (T := TX0) (N := 9) hx hb hts w_3 hown hK hP 1 rfl rfl 3 (by decide) w_5 (fun _ h9 => h9) rfl dX7_owed_73 ?_
      refine lv_icmp_ge (tgt := 91) hx hb dX7_owed_76 (by decide) (fun c_76 => ?_) (fun c_76 => ?_)
      ·
        refine lv_iconst (v := (-1)) hx hb dX7_owed_91 (by decide) ?_
        have hP9 := hP.sub (ws' := [((x 0), .inr (7, [.ref (x 1), .ref (x 5), .ref (x 7), .ref (x 10), .ref (x 17), .ref (x 22), .ref (x 27), .int yr])), ((x 27), .inr (0, [.ref (x 28), .ref (x 29), .ref (x 30), .int (nI hn), .int u_2.2.2.2.1, .int u_2.2.2.2.2, .ref (x 31), .ref (x 32), .ref (x 33)])), ((x 28), .inl (cI, 6, .inl n28)), ((x 29), .inl (cI, 6, .inl u_2.1)), ((x 30), .inl (cI, 8, .inl u_2.2.1)), ((x 31), .inl (cI, 8, .inl n31)), ((x 32), .inl (cI, 8, .inl n32)), ((x 33), .inl (cI, 64, .inl u_2.2.2.1))]) [0, 1, 2, 3, 4, 5, 6, 7] rfl
        have hD9 := hD.sub (ws' := [((x 0), .inr (7, [.ref (x 1), .ref (x 5), .ref (x 7), .ref (x 10), .ref (x 17), .ref (x 22), .ref (x 27), .int yr])), ((x 27), .inr (0, [.ref (x 28), .ref (x 29), .ref (x 30), .int (nI hn), .int u_2.2.2.2.1, .int u_2.2.2.2.2, .ref (x 31), .ref (x 32), .ref (x 33)])), ((x 28), .inl (cI, 6, .inl n28)), ((x 29), .inl (cI, 6, .inl u_2.1)), ((x 30), .inl (cI, 8, .inl u_2.2.1)), ((x 31), .inl (cI, 8, .inl n31)), ((x 32), .inl (cI, 8, .inl n32)), ((x 33), .inl (cI, 64, .inl u_2.2.2.1))]) [0, 1, 2, 3, 4, 5, 6, 7] (by decide) rfl
        exact W.iret (v := (-1)) hx hb hr (fun t ht hW => ⟨⟨_, (u_2.1, u_2.2.1, u_2.2.2.1, (u_2.2.2.2.1 : Int32), (u_2.2.2.2.2 : Int32)), rfl, trivial, by rw [ht]; exact hP9, va_K.moved hW.alike hK, hD9⟩, hS.F ht⟩) hS.2.2 dX7_owed_92
      ·
        refine lv_aload_n hx hb dX7_owed_79 rfl (lv_at hl 0 rfl) ?_
        refine va_get (D := D) (ci := 7) (v := .ref (x 27)) (C := RX7) (T := TX7) (N := 8) hx hb hts w_1 hown hK hP 0 rfl rfl 6 (by decide) w_2 (fun _ h9 => h9) rfl dX7_owed_80 ?_
        refine va_get (D := D) (ci := 0) (v := .ref (x 30)) (C := RX0) (T := TX0) (N := 9) hx hb hts w_3 hown hK hP 1 rfl rfl 2 (by decide) w_6 (fun _ h9 => h9) rfl dX7_owed_83 ?_
        refine lv_iload_n hx hb dX7_owed_86 rfl (lv_at hl 2 rfl) ?_
        refine sv_iald (v := u_2.2.1 k.toNatClampNeg) hx hb hK hP 4 1 rfl rfl (in_up (in_yes (a := hn) (by omega) c_65 c_76) b_hn) rfl dX7_owed_87 ?_
        refine lv_topi (fun v_4 ev_4 => ?_)
        refine lv_goto (tgt := 92) hx hb dX7_owed_88 (by decide) ?_
        have hP9 := hP.sub (ws' := [((x 0), .inr (7, [.ref (x 1), .ref (x 5), .ref (x 7), .ref (x 10), .ref (x 17), .ref (x 22), .ref (x 27), .int yr])), ((x 27), .inr (0, [.ref (x 28), .ref (x 29), .ref (x 30), .int (nI hn), .int u_2.2.2.2.1, .int u_2.2.2.2.2, .ref (x 31), .ref (x 32), .ref (x 33)])), ((x 28), .inl (cI, 6, .inl n28)), ((x 29), .inl (cI, 6, .inl u_2.1)), ((x 30), .inl (cI, 8, .inl u_2.2.1)), ((x 31), .inl (cI, 8, .inl n31)), ((x 32), .inl (cI, 8, .inl n32)), ((x 33), .inl (cI, 64, .inl u_2.2.2.1))]) [0, 1, 2, 3, 4, 5, 6, 7] rfl
        have hD9 := hD.sub (ws' := [((x 0), .inr (7, [.ref (x 1), .ref (x 5), .ref (x 7), .ref (x 10), .ref (x 17), .ref (x 22), .ref (x 27), .int yr])), ((x 27), .inr (0, [.ref (x 28), .ref (x 29), .ref (x 30), .int (nI hn), .int u_2.2.2.2.1, .int u_2.2.2.2.2, .ref (x 31), .ref (x 32), .ref (x 33)])), ((x 28), .inl (cI, 6, .inl n28)), ((x 29), .inl (cI, 6, .inl u_2.1)), ((x 30), .inl (cI, 8, .inl u_2.2.1)), ((x 31), .inl (cI, 8, .inl n31)), ((x 32), .inl (cI, 8, .inl n32)), ((x 33), .inl (cI, 64, .inl u_2.2.2.1))]) [0, 1, 2, 3, 4, 5, 6, 7] (by decide) rfl
        exact W.iret (v := v_4) hx hb hr (fun t ht hW => ⟨⟨_, (u_2.1, u_2.2.1, u_2.2.2.1, (u_2.2.2.2.1 : Int32), (u_2.2.2.2.2 : Int32)), rfl, trivial, by rw [ht]; exact hP9, va_K.moved hW.alike hK, hD9⟩, hS.F ht⟩) hS.2.2 dX7_owed_92
  by_cases k_82 : q = 2
  ·
    subst k_82
    refine lv_tableIn (off := 85) (tgt := 93) hx hb dX7_owed_8 (by decide) (by decide) rfl (by decide) ?_
    refine lv_aload_n hx hb dX7_owed_93 rfl (lv_at hl 0 rfl) ?_
    refine va_get (D := D) (ci := 7) (v := .ref (x 27)) (C := RX7) (T := TX7) (N := 8) hx hb hts w_1 hown hK hP 0 rfl rfl 6 (by decide) w_2 (fun _ h9 => h9) rfl dX7_owed_94 ?_
    refine va_get (D := D) (ci := 0) (v := .int u_2.2.2.2.1) (C := RX0) (T := TX0) (N := 9) hx hb hts w_3 hown hK hP 1 rfl rfl 4 (by decide) w_7 (fun _ h9 => h9) rfl dX7_owed_97 ?_
    refine lv_topi (fun v_5 ev_5 => ?_)
    have hP9 := hP.sub (ws' := [((x 0), .inr (7, [.ref (x 1), .ref (x 5), .ref (x 7), .ref (x 10), .ref (x 17), .ref (x 22), .ref (x 27), .int yr])), ((x 27), .inr (0, [.ref (x 28), .ref (x 29), .ref (x 30), .int (nI hn), .int u_2.2.2.2.1, .int u_2.2.2.2.2, .ref (x 31), .ref (x 32), .ref (x 33)])), ((x 28), .inl (cI, 6, .inl n28)), ((x 29), .inl (cI, 6, .inl u_2.1)), ((x 30), .inl (cI, 8, .inl u_2.2.1)), ((x 31), .inl (cI, 8, .inl n31)), ((x 32), .inl (cI, 8, .inl n32)), ((x 33), .inl (cI, 64, .inl u_2.2.2.1))]) [0, 1, 2, 3, 4, 5, 6, 7] rfl
    have hD9 := hD.sub (ws' := [((x 0), .inr (7, [.ref (x 1), .ref (x 5), .ref (x 7), .ref (x 10), .ref (x 17), .ref (x 22), .ref (x 27), .int yr])), ((x 27), .inr (0, [.ref (x 28), .ref (x 29), .ref (x 30), .int (nI hn), .int u_2.2.2.2.1, .int u_2.2.2.2.2, .ref (x 31), .ref (x 32), .ref (x 33)])), ((x 28), .inl (cI, 6, .inl n28)), ((x 29), .inl (cI, 6, .inl u_2.1)), ((x 30), .inl (cI, 8, .inl u_2.2.1)), ((x 31), .inl (cI, 8, .inl n31)), ((x 32), .inl (cI, 8, .inl n32)), ((x 33), .inl (cI, 64, .inl u_2.2.2.1))]) [0, 1, 2, 3, 4, 5, 6, 7] (by decide) rfl
    exact W.iret (v := v_5) hx hb hr (fun t ht hW => ⟨⟨_, (u_2.1, u_2.2.1, u_2.2.2.1, (u_2.2.2.2.1 : Int32), (u_2.2.2.2.2 : Int32)), rfl, trivial, by rw [ht]; exact hP9, va_K.moved hW.alike hK, hD9⟩, hS.F ht⟩) hS.2.2 dX7_owed_100
  by_cases k_83 : q = 3
  ·
    subst k_83
    refine lv_tableIn (off := 93) (tgt := 101) hx hb dX7_owed_8 (by decide) (by decide) rfl (by decide) ?_
    refine lv_aload_n hx hb dX7_owed_101 rfl (lv_at hl 0 rfl) ?_
    refine va_get (D := D) (ci := 7) (v := .ref (x 27)) (C := RX7) (T := TX7) (N := 8) hx hb hts w_1 hown hK hP 0 rfl rfl 6 (by decide) w_2 (fun _ h9 => h9) rfl dX7_owed_102 ?_
    refine va_get (D := D) (ci := 0) (v := .int u_2.2.2.2.2) (C := RX0) (T := TX0) (N := 9) hx hb hts w_3 hown hK hP 1 rfl rfl 5 (by decide) w_8 (fun _ h9 => h9) rfl dX7_owed_105 ?_
    refine lv_topi (fun v_6 ev_6 => ?_)
    have hP9 := hP.sub (ws' := [((x 0), .inr (7, [.ref (x 1), .ref (x 5), .ref (x 7), .ref (x 10), .ref (x 17), .ref (x 22), .ref (x 27), .int yr])), ((x 27), .inr (0, [.ref (x 28), .ref (x 29), .ref (x 30), .int (nI hn), .int u_2.2.2.2.1, .int u_2.2.2.2.2, .ref (x 31), .ref (x 32), .ref (x 33)])), ((x 28), .inl (cI, 6, .inl n28)), ((x 29), .inl (cI, 6, .inl u_2.1)), ((x 30), .inl (cI, 8, .inl u_2.2.1)), ((x 31), .inl (cI, 8, .inl n31)), ((x 32), .inl (cI, 8, .inl n32)), ((x 33), .inl (cI, 64, .inl u_2.2.2.1))]) [0, 1, 2, 3, 4, 5, 6, 7] rfl
    have hD9 := hD.sub (ws' := [((x 0), .inr (7, [.ref (x 1), .ref (x 5), .ref (x 7), .ref (x 10), .ref (x 17), .ref (x 22), .ref (x 27), .int yr])), ((x 27), .inr (0, [.ref (x 28), .ref (x 29), .ref (x 30), .int (nI hn), .int u_2.2.2.2.1, .int u_2.2.2.2.2, .ref (x 31), .ref (x 32), .ref (x 33)])), ((x 28), .inl (cI, 6, .inl n28)), ((x 29), .inl (cI, 6, .inl u_2.1)), ((x 30), .inl (cI, 8, .inl u_2.2.1)), ((x 31), .inl (cI, 8, .inl n31)), ((x 32), .inl (cI, 8, .inl n32)), ((x 33), .inl (cI, 64, .inl u_2.2.2.1))]) [0, 1, 2, 3, 4, 5, 6, 7] (by decide) rfl
    exact W.iret (v := v_6) hx hb hr (fun t ht hW => ⟨⟨_, (u_2.1, u_2.2.1, u_2.2.2.1, (u_2.2.2.2.1 : Int32), (u_2.2.2.2.2 : Int32)), rfl, trivial, by rw [ht]; exact hP9, va_K.moved hW.alike hK, hD9⟩, hS.F ht⟩) hS.2.2 dX7_owed_108
  refine lv_tableOut (tgt := 109) hx hb dX7_owed_8 (sw_out4 k_80 k_81 k_82 k_83) (by decide) ?_
  refine lv_iconst (v := (-1)) hx hb dX7_owed_109 (by decide) ?_
  have hP9 := hP.sub (ws' := [((x 0), .inr (7, [.ref (x 1), .ref (x 5), .ref (x 7), .ref (x 10), .ref (x 17), .ref (x 22), .ref (x 27), .int yr])), ((x 27), .inr (0, [.ref (x 28), .ref (x 29), .ref (x 30), .int (nI hn), .int u_2.2.2.2.1, .int u_2.2.2.2.2, .ref (x 31), .ref (x 32), .ref (x 33)])), ((x 28), .inl (cI, 6, .inl n28)), ((x 29), .inl (cI, 6, .inl u_2.1)), ((x 30), .inl (cI, 8, .inl u_2.2.1)), ((x 31), .inl (cI, 8, .inl n31)), ((x 32), .inl (cI, 8, .inl n32)), ((x 33), .inl (cI, 64, .inl u_2.2.2.1))]) [0, 1, 2, 3, 4, 5, 6, 7] rfl
  have hD9 := hD.sub (ws' := [((x 0), .inr (7, [.ref (x 1), .ref (x 5), .ref (x 7), .ref (x 10), .ref (x 17), .ref (x 22), .ref (x 27), .int yr])), ((x 27), .inr (0, [.ref (x 28), .ref (x 29), .ref (x 30), .int (nI hn), .int u_2.2.2.2.1, .int u_2.2.2.2.2, .ref (x 31), .ref (x 32), .ref (x 33)])), ((x 28), .inl (cI, 6, .inl n28)), ((x 29), .inl (cI, 6, .inl u_2.1)), ((x 30), .inl (cI, 8, .inl u_2.2.1)), ((x 31), .inl (cI, 8, .inl n31)), ((x 32), .inl (cI, 8, .inl n32)), ((x 33), .inl (cI, 64, .inl u_2.2.2.1))]) [0, 1, 2, 3, 4, 5, 6, 7] (by decide) rfl
  exact W.iret (v := (-1)) hx hb hr (fun t ht hW => ⟨⟨_, (u_2.1, u_2.2.1, u_2.2.2.1, (u_2.2.2.2.1 : Int32), (u_2.2.2.2.2 : Int32)), rfl, trivial, by rw [ht]; exact hP9, va_K.moved hW.alike hK, hD9⟩, hS.F ht⟩) hS.2.2 dX7_owed_110

set_option maxHeartbeats 4000000 in
set_option maxRecDepth 100000 in
theorem n_X7_pay (l : Launch) (D : va_G) (cB cI cJ cZ : ClassId) (sz : Nat) (x : Nat → Nat) (yr : Int32) (hn : Nat) (h4 : Int32) (h5 : Int32) (n28 : Nat → Int32) (n29 : Nat → Int32) (n30 : Nat → Int32) (n31 : Nat → Int32) (n32 : Nat → Int32) (n33 : Nat → Int32) (b_hn : hn ≤ 8) : Met l yX7_pay wsX7_pay ({ frames := 4, cells := 0, slots := 0, locals := 87 } : Room) (cPre D (aTy cB cI cJ cZ) [((x 0), .inr (7, [.ref (x 1), .ref (x 5), .ref (x 7), .ref (x 10), .ref (x 17), .ref (x 22), .ref (x 27), .int yr])), ((x 27), .inr (0, [.ref (x 28), .ref (x 29), .ref (x 30), .int (nI hn), .int h4, .int h5, .ref (x 31), .ref (x 32), .ref (x 33)])), ((x 28), .inl (cI, 6, .inl n28)), ((x 29), .inl (cI, 6, .inl n29)), ((x 30), .inl (cI, 8, .inl n30)), ((x 31), .inl (cI, 8, .inl n31)), ((x 32), .inl (cI, 8, .inl n32)), ((x 33), .inl (cI, 64, .inl n33))] sz [.ref (x 0)]) (va_Qi (fun (r : Int32) (u : (Nat → Int32) × (Nat → Int32) × (Nat → Int32) × (Nat → Int32) × (Nat → Int32) × Int32 × Int32) => True) (cB_ D (aTy cB cI cJ cZ) (va_A [((x 0), .inr (7, [.ref (x 1), .ref (x 5), .ref (x 7), .ref (x 10), .ref (x 17), .ref (x 22), .ref (x 27), .int yr])), ((x 27), .inr (0, [.ref (x 28), .ref (x 29), .ref (x 30), .int (nI hn), .int h4, .int h5, .ref (x 31), .ref (x 32), .ref (x 33)])), ((x 28), .inl (cI, 6, .inl n28)), ((x 29), .inl (cI, 6, .inl n29)), ((x 30), .inl (cI, 8, .inl n30)), ((x 31), .inl (cI, 8, .inl n31)), ((x 32), .inl (cI, 8, .inl n32)), ((x 33), .inl (cI, 64, .inl n33))] sz) (fun u => [((x 0), .inr (7, [.ref (x 1), .ref (x 5), .ref (x 7), .ref (x 10), .ref (x 17), .ref (x 22), .ref (x 27), .int yr])), ((x 27), .inr (0, [.ref (x 28), .ref (x 29), .ref (x 30), .int (nI hn), .int (u.2.2.2.2.2.1), .int (u.2.2.2.2.2.2), .ref (x 31), .ref (x 32), .ref (x 33)])), ((x 28), .inl (cI, 6, .inl u.1)), ((x 29), .inl (cI, 6, .inl u.2.1)), ((x 30), .inl (cI, 8, .inl u.2.2.1)), ((x 31), .inl (cI, 8, .inl u.2.2.2.1)), ((x 32), .inl (cI, 8, .inl n32)), ((x 33), .inl (cI, 64, .inl u.2.2.2.2.1))])) (va_A [((x 0), .inr (7, [.ref (x 1), .ref (x 5), .ref (x 7), .ref (x 10), .ref (x 17), .ref (x 22), .ref (x 27), .int yr])), ((x 27), .inr (0, [.ref (x 28), .ref (x 29), .ref (x 30), .int (nI hn), .int h4, .int h5, .ref (x 31), .ref (x 32), .ref (x 33)])), ((x 28), .inl (cI, 6, .inl n28)), ((x 29), .inl (cI, 6, .inl n29)), ((x 30), .inl (cI, 8, .inl n30)), ((x 31), .inl (cI, 8, .inl n31)), ((x 32), .inl (cI, 8, .inl n32)), ((x 33), .inl (cI, 64, .inl n33))] sz)) 0 0 (va_A [((x 0), .inr (7, [.ref (x 1), .ref (x 5), .ref (x 7), .ref (x 10), .ref (x 17), .ref (x 22), .ref (x 27), .int yr])), ((x 27), .inr (0, [.ref (x 28), .ref (x 29), .ref (x 30), .int (nI hn), .int h4, .int h5, .ref (x 31), .ref (x 32), .ref (x 33)])), ((x 28), .inl (cI, 6, .inl n28)), ((x 29), .inl (cI, 6, .inl n29)), ((x 30), .inl (cI, 8, .inl n30)), ((x 31), .inl (cI, 8, .inl n31)), ((x 32), .inl (cI, 8, .inl n32)), ((x 33), .inl (cI, 64, .inl n33))] sz) := by
  refine Met.ofW (cc := cX7_pay) (maxL := 1) (ret := (some .int)) (by decide) rfl ?_
  intro p e s m args below meth c s₁ B hml hv
  obtain ⟨rfl, hsz, hP, hK, hD0⟩ := hv
  have hx := B.exec
  have hb := B.bytes
  have hr := B.returns
  have hts := atoms_spec (ws := wsX7_pay) B.pre
  have hown : s.vm.findClass RX7 = some m.cls := findClass_of_methodNamed B.named
  have hlocks := B.notSynchronized
  subst hsz
  have hD := hD0.self (sz := s.heap.size)
  generalize hAe : va_A [((x 0), .inr (7, [.ref (x 1), .ref (x 5), .ref (x 7), .ref (x 10), .ref (x 17), .ref (x 22), .ref (x 27), .int yr])), ((x 27), .inr (0, [.ref (x 28), .ref (x 29), .ref (x 30), .int (nI hn), .int h4, .int h5, .ref (x 31), .ref (x 32), .ref (x 33)])), ((x 28), .inl (cI, 6, .inl n28)), ((x 29), .inl (cI, 6, .inl n29)), ((x 30), .inl (cI, 8, .inl n30)), ((x 31), .inl (cI, 8, .inl n31)), ((x 32), .inl (cI, 8, .inl n32)), ((x 33), .inl (cI, 64, .inl n33))] s.heap.size = A at hD ⊢
  have hA : ∀ q : Nat, s.heap.size ≤ q → A q := fun q h => by rw [← hAe]; exact Or.inr h
  have hS : va_S A s.heap s.heap [] := va_S.rf
  have hP : va_P D vwCl [((x 0), .inr (7, [.ref (x 1), .ref (x 5), .ref (x 7), .ref (x 10), .ref (x 17), .ref (x 22), .ref (x 27), .int yr])), ((x 27), .inr (0, [.ref (x 28), .ref (x 29), .ref (x 30), .int (nI hn), .int h4, .int h5, .ref (x 31), .ref (x 32), .ref (x 33)])), ((x 28), .inl (cI, 6, .inl n28)), ((x 29), .inl (cI, 6, .inl n29)), ((x 30), .inl (cI, 8, .inl n30)), ((x 31), .inl (cI, 8, .inl n31)), ((x 32), .inl (cI, 8, .inl n32)), ((x 33), .inl (cI, 64, .inl n33))] s.heap := hP
  have w_1 : ∀ w ∈ wsX70, w ∈ wsX7_pay := by decide +kernel
  have w_2 := hts (Cond.fieldLink RX7 54 "BlueCoats" "chest" "LBlueCoats$Chest;") (by decide +kernel)
  have hl := lv_entry ([.ref (x 0)]) (n := 1) (Nat.le_of_ble_eq_true rfl)
  rw [lg_entry_eq]
  generalize (lg_sl ([.ref (x 0)]) ++ List.replicate (1 - (lg_sl ([.ref (x 0)])).length) Slot.unset).toArray = ls at hl ⊢
  have hl : lv_has ls 1 [(0, .ref (x 0))] := hl
  refine lv_aload_n hx hb dX7_pay_0 rfl (lv_at hl 0 rfl) ?_
  refine va_get (D := D) (ci := 7) (v := .ref (x 27)) (C := RX7) (T := TX7) (N := 8) hx hb hts w_1 hown hK hP 0 rfl rfl 6 (by decide) w_2 (fun _ h9 => h9) rfl dX7_pay_1 ?_
  refine cl_v (wc := [((x 27), .inr (0, [.ref (x 28), .ref (x 29), .ref (x 30), .int (nI hn), .int h4, .int h5, .ref (x 31), .ref (x 32), .ref (x 33)])), ((x 28), .inl (cI, 6, .inl n28)), ((x 29), .inl (cI, 6, .inl n29)), ((x 30), .inl (cI, 8, .inl n30)), ((x 31), .inl (cI, 8, .inl n31)), ((x 32), .inl (cI, 8, .inl n32)), ((x 33), .inl (cI, 64, .inl n33))]) (wr := [((x 0), .inr (7, [.ref (x 1), .ref (x 5), .ref (x 7), .ref (x 10), .ref (x 17), .ref (x 22), .ref (x 27), .int yr]))]) (va_runV (As := []) (rest := []) ⟨hx, hb, hml, hown, hts⟩ (g_X0_plan l D cB cI cJ cZ s.heap.size (x 27) (x 28) (x 29) (x 30) (x 31) (x 32) (x 33) hn h4 h5 n28 n29 n30 n31 n32 n33 b_hn) (cwV 0 hts gX7_pay_X0_plan rfl rfl rfl (by decide +kernel) ⟨Nat.le_of_ble_eq_true rfl, Nat.le_of_ble_eq_true rfl⟩) (pre_V (hP.sub (ws' := [((x 27), .inr (0, [.ref (x 28), .ref (x 29), .ref (x 30), .int (nI hn), .int h4, .int h5, .ref (x 31), .ref (x 32), .ref (x 33)])), ((x 28), .inl (cI, 6, .inl n28)), ((x 29), .inl (cI, 6, .inl n29)), ((x 30), .inl (cI, 8, .inl n30)), ((x 31), .inl (cI, 8, .inl n31)), ((x 32), .inl (cI, 8, .inl n32)), ((x 33), .inl (cI, 64, .inl n33))]) [1, 2, 3, 4, 5, 6, 7] rfl) hK (hD.sub (ws' := [((x 27), .inr (0, [.ref (x 28), .ref (x 29), .ref (x 30), .int (nI hn), .int h4, .int h5, .ref (x 31), .ref (x 32), .ref (x 33)])), ((x 28), .inl (cI, 6, .inl n28)), ((x 29), .inl (cI, 6, .inl n29)), ((x 30), .inl (cI, 8, .inl n30)), ((x 31), .inl (cI, 8, .inl n31)), ((x 32), .inl (cI, 8, .inl n32)), ((x 33), .inl (cI, 64, .inl n33))]) [1, 2, 3, 4, 5, 6, 7] (by decide) rfl) 0 rfl rfl rfl) rfl rfl hl.1 rfl (lv_room (Nat.le_of_ble_eq_true rfl)) dX7_pay_4 ⟨Nat.le_of_ble_eq_true rfl, Nat.le_of_ble_eq_true rfl⟩) hP hD hS hA [1, 2, 3, 4, 5, 6, 7] [0] rfl rfl (by decide) (by decide) 0 0 rfl rfl (fun u_2 H locs hw_u_2 hP hD hS => ?_)
  have hP : va_P D vwCl [((x 0), .inr (7, [.ref (x 1), .ref (x 5), .ref (x 7), .ref (x 10), .ref (x 17), .ref (x 22), .ref (x 27), .int yr])), ((x 27), .inr (0, [.ref (x 28), .ref (x 29), .ref (x 30), .int (nI hn), .int u_2.2.2.2.1, .int u_2.2.2.2.2, .ref (x 31), .ref (x 32), .ref (x 33)])), ((x 28), .inl (cI, 6, .inl n28)), ((x 29), .inl (cI, 6, .inl u_2.1)), ((x 30), .inl (cI, 8, .inl u_2.2.1)), ((x 31), .inl (cI, 8, .inl n31)), ((x 32), .inl (cI, 8, .inl n32)), ((x 33), .inl (cI, 64, .inl u_2.2.2.1))] H := hP
  have hD : va_D A [((x 0), .inr (7, [.ref (x 1), .ref (x 5), .ref (x 7), .ref (x 10), .ref (x 17), .ref (x 22), .ref (x 27), .int yr])), ((x 27), .inr (0, [.ref (x 28), .ref (x 29), .ref (x 30), .int (nI hn), .int u_2.2.2.2.1, .int u_2.2.2.2.2, .ref (x 31), .ref (x 32), .ref (x 33)])), ((x 28), .inl (cI, 6, .inl n28)), ((x 29), .inl (cI, 6, .inl u_2.1)), ((x 30), .inl (cI, 8, .inl u_2.2.1)), ((x 31), .inl (cI, 8, .inl n31)), ((x 32), .inl (cI, 8, .inl n32)), ((x 33), .inl (cI, 64, .inl u_2.2.2.1))] := hD
  refine lv_aload_n hx hb dX7_pay_7 rfl (lv_at hl 0 rfl) ?_
  refine va_get (D := D) (ci := 7) (v := .ref (x 27)) (C := RX7) (T := TX7) (N := 8) hx hb hts w_1 hown hK hP 0 rfl rfl 6 (by decide) w_2 (fun _ h9 => h9) rfl dX7_pay_8 ?_
  refine cl_i (wc := [((x 27), .inr (0, [.ref (x 28), .ref (x 29), .ref (x 30), .int (nI hn), .int u_2.2.2.2.1, .int u_2.2.2.2.2, .ref (x 31), .ref (x 32), .ref (x 33)])), ((x 28), .inl (cI, 6, .inl n28)), ((x 29), .inl (cI, 6, .inl u_2.1)), ((x 30), .inl (cI, 8, .inl u_2.2.1)), ((x 31), .inl (cI, 8, .inl n31)), ((x 32), .inl (cI, 8, .inl n32)), ((x 33), .inl (cI, 64, .inl u_2.2.2.1))]) (wr := [((x 0), .inr (7, [.ref (x 1), .ref (x 5), .ref (x 7), .ref (x 10), .ref (x 17), .ref (x 22), .ref (x 27), .int yr]))]) (va_runV (As := []) (rest := []) ⟨hx, hb, hml, hown, hts⟩ (g_X0_payP l D cB cI cJ cZ H.size (x 27) (x 28) (x 29) (x 30) (x 31) (x 32) (x 33) hn u_2.2.2.2.1 u_2.2.2.2.2 n28 u_2.1 u_2.2.1 n31 n32 u_2.2.2.1 b_hn) (cwV 0 hts gX7_pay_X0_payPlanned rfl rfl rfl (by decide +kernel) ⟨Nat.le_of_ble_eq_true rfl, Nat.le_of_ble_eq_true rfl⟩) (pre_V (hP.sub (ws' := [((x 27), .inr (0, [.ref (x 28), .ref (x 29), .ref (x 30), .int (nI hn), .int u_2.2.2.2.1, .int u_2.2.2.2.2, .ref (x 31), .ref (x 32), .ref (x 33)])), ((x 28), .inl (cI, 6, .inl n28)), ((x 29), .inl (cI, 6, .inl u_2.1)), ((x 30), .inl (cI, 8, .inl u_2.2.1)), ((x 31), .inl (cI, 8, .inl n31)), ((x 32), .inl (cI, 8, .inl n32)), ((x 33), .inl (cI, 64, .inl u_2.2.2.1))]) [1, 2, 3, 4, 5, 6, 7] rfl) hK (hD.sub (ws' := [((x 27), .inr (0, [.ref (x 28), .ref (x 29), .ref (x 30), .int (nI hn), .int u_2.2.2.2.1, .int u_2.2.2.2.2, .ref (x 31), .ref (x 32), .ref (x 33)])), ((x 28), .inl (cI, 6, .inl n28)), ((x 29), .inl (cI, 6, .inl u_2.1)), ((x 30), .inl (cI, 8, .inl u_2.2.1)), ((x 31), .inl (cI, 8, .inl n31)), ((x 32), .inl (cI, 8, .inl n32)), ((x 33), .inl (cI, 64, .inl u_2.2.2.1))]) [1, 2, 3, 4, 5, 6, 7] (by decide) rfl) 0 rfl rfl rfl) rfl rfl hl.1 rfl (lv_room (Nat.le_of_ble_eq_true rfl)) dX7_pay_11 ⟨Nat.le_of_ble_eq_true rfl, Nat.le_of_ble_eq_true rfl⟩) hP hD hS hA [1, 2, 3, 4, 5, 6, 7] [0] rfl rfl (by decide) (by decide) 0 0 rfl rfl (fun r_3 u_4 H locs hw_u_4 hP hD hS => ?_)
  have hP : va_P D vwCl [((x 0), .inr (7, [.ref (x 1), .ref (x 5), .ref (x 7), .ref (x 10), .ref (x 17), .ref (x 22), .ref (x 27), .int yr])), ((x 27), .inr (0, [.ref (x 28), .ref (x 29), .ref (x 30), .int (nI hn), .int u_2.2.2.2.1, .int u_2.2.2.2.2, .ref (x 31), .ref (x 32), .ref (x 33)])), ((x 28), .inl (cI, 6, .inl u_4.1)), ((x 29), .inl (cI, 6, .inl u_2.1)), ((x 30), .inl (cI, 8, .inl u_2.2.1)), ((x 31), .inl (cI, 8, .inl u_4.2)), ((x 32), .inl (cI, 8, .inl n32)), ((x 33), .inl (cI, 64, .inl u_2.2.2.1))] H := hP
  have hD : va_D A [((x 0), .inr (7, [.ref (x 1), .ref (x 5), .ref (x 7), .ref (x 10), .ref (x 17), .ref (x 22), .ref (x 27), .int yr])), ((x 27), .inr (0, [.ref (x 28), .ref (x 29), .ref (x 30), .int (nI hn), .int u_2.2.2.2.1, .int u_2.2.2.2.2, .ref (x 31), .ref (x 32), .ref (x 33)])), ((x 28), .inl (cI, 6, .inl u_4.1)), ((x 29), .inl (cI, 6, .inl u_2.1)), ((x 30), .inl (cI, 8, .inl u_2.2.1)), ((x 31), .inl (cI, 8, .inl u_4.2)), ((x 32), .inl (cI, 8, .inl n32)), ((x 33), .inl (cI, 64, .inl u_2.2.2.1))] := hD
  have hP9 := hP.sub (ws' := [((x 0), .inr (7, [.ref (x 1), .ref (x 5), .ref (x 7), .ref (x 10), .ref (x 17), .ref (x 22), .ref (x 27), .int yr])), ((x 27), .inr (0, [.ref (x 28), .ref (x 29), .ref (x 30), .int (nI hn), .int u_2.2.2.2.1, .int u_2.2.2.2.2, .ref (x 31), .ref (x 32), .ref (x 33)])), ((x 28), .inl (cI, 6, .inl u_4.1)), ((x 29), .inl (cI, 6, .inl u_2.1)), ((x 30), .inl (cI, 8, .inl u_2.2.1)), ((x 31), .inl (cI, 8, .inl u_4.2)), ((x 32), .inl (cI, 8, .inl n32)), ((x 33), .inl (cI, 64, .inl u_2.2.2.1))]) [0, 1, 2, 3, 4, 5, 6, 7] rfl
  have hD9 := hD.sub (ws' := [((x 0), .inr (7, [.ref (x 1), .ref (x 5), .ref (x 7), .ref (x 10), .ref (x 17), .ref (x 22), .ref (x 27), .int yr])), ((x 27), .inr (0, [.ref (x 28), .ref (x 29), .ref (x 30), .int (nI hn), .int u_2.2.2.2.1, .int u_2.2.2.2.2, .ref (x 31), .ref (x 32), .ref (x 33)])), ((x 28), .inl (cI, 6, .inl u_4.1)), ((x 29), .inl (cI, 6, .inl u_2.1)), ((x 30), .inl (cI, 8, .inl u_2.2.1)), ((x 31), .inl (cI, 8, .inl u_4.2)), ((x 32), .inl (cI, 8, .inl n32)), ((x 33), .inl (cI, 64, .inl u_2.2.2.1))]) [0, 1, 2, 3, 4, 5, 6, 7] (by decide) rfl
  exact W.iret (v := r_3) hx hb hr (fun t ht hW => ⟨⟨_, (u_4.1, u_2.1, u_2.2.1, u_4.2, u_2.2.2.1, (u_2.2.2.2.1 : Int32), (u_2.2.2.2.2 : Int32)), rfl, trivial, by rw [ht]; exact hP9, va_K.moved hW.alike hK, hD9⟩, hS.F ht⟩) hS.2.2 dX7_pay_14

