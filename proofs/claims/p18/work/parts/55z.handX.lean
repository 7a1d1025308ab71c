/-! Coats handed in and out. -/
def hiP (q : Int32) (wa ca : Nat) (we co we' co' : Nat → Int32) : Prop := (¬ vp_in q wa ∧ we' = we ∧ co' = co) ∨ (vp_in q wa ∧ we' = upd we q.toNatClampNeg (-1) ∧ ((vp_in (we q.toNatClampNeg) ca ∧ co' = upd co (we q.toNatClampNeg).toNatClampNeg (-1)) ∨ (¬ vp_in (we q.toNatClampNeg) ca ∧ co' = co)))
def hoP (q c : Int32) (wa ca : Nat) (we co we' co' : Nat → Int32) : Prop := (vp_in q wa ∧ vp_in c ca ∧ we' = upd we q.toNatClampNeg c ∧ co' = upd co c.toNatClampNeg q) ∨ (¬ (vp_in q wa ∧ vp_in c ca) ∧ we' = we ∧ co' = co)

set_option maxHeartbeats 4000000 in
set_option maxRecDepth 100000 in
theorem f_X7_handIn (l : Launch) (D : va_G) (cB cI cJ cZ : ClassId) (sz : Nat) (x : Nat → Nat) (yr : Int32) (ca : Nat) (k16 : Nat → Int32) (wa : Nat) (w21 : Nat → Int32) (q : Int32) (b_ca : ca ≤ 16) (b_wa : wa ≤ 40) : Met l yX7_handIn wsX7_handIn ({ frames := 1, cells := 0, slots := 0, locals := 21 } : Room) (cPre D (aTy cB cI cJ cZ) [((x 0), .inr (7, [.ref (x 1), .ref (x 5), .ref (x 7), .ref (x 10), .ref (x 17), .ref (x 22), .ref (x 27), .int yr])), ((x 10), .inr (1, [.ref (x 11), .ref (x 12), .ref (x 13), .ref (x 14), .ref (x 15), .ref (x 16), .int (nI ca)])), ((x 16), .inl (cI, 16, .inl k16)), ((x 17), .inr (6, [.ref (x 18), .ref (x 19), .ref (x 20), .ref (x 21), .int (nI wa)])), ((x 21), .inl (cI, 40, .inl w21))] sz [.ref (x 0), .int q]) (va_Qv (fun (u : (Nat → Int32) × (Nat → Int32)) => hiP q wa ca w21 k16 u.1 u.2) (cB_ D (aTy cB cI cJ cZ) (va_A [((x 0), .inr (7, [.ref (x 1), .ref (x 5), .ref (x 7), .ref (x 10), .ref (x 17), .ref (x 22), .ref (x 27), .int yr])), ((x 10), .inr (1, [.ref (x 11), .ref (x 12), .ref (x 13), .ref (x 14), .ref (x 15), .ref (x 16), .int (nI ca)])), ((x 16), .inl (cI, 16, .inl k16)), ((x 17), .inr (6, [.ref (x 18), .ref (x 19), .ref (x 20), .ref (x 21), .int (nI wa)])), ((x 21), .inl (cI, 40, .inl w21))] sz) (fun u => [((x 0), .inr (7, [.ref (x 1), .ref (x 5), .ref (x 7), .ref (x 10), .ref (x 17), .ref (x 22), .ref (x 27), .int yr])), ((x 10), .inr (1, [.ref (x 11), .ref (x 12), .ref (x 13), .ref (x 14), .ref (x 15), .ref (x 16), .int (nI ca)])), ((x 16), .inl (cI, 16, .inl u.2)), ((x 17), .inr (6, [.ref (x 18), .ref (x 19), .ref (x 20), .ref (x 21), .int (nI wa)])), ((x 21), .inl (cI, 40, .inl u.1))])) (va_A [((x 0), .inr (7, [.ref (x 1), .ref (x 5), .ref (x 7), .ref (x 10), .ref (x 17), .ref (x 22), .ref (x 27), .int yr])), ((x 10), .inr (1, [.ref (x 11), .ref (x 12), .ref (x 13), .ref (x 14), .ref (x 15), .ref (x 16), .int (nI ca)])), ((x 16), .inl (cI, 16, .inl k16)), ((x 17), .inr (6, [.ref (x 18), .ref (x 19), .ref (x 20), .ref (x 21), .int (nI wa)])), ((x 21), .inl (cI, 40, .inl w21))] sz)) 0 0 (va_A [((x 0), .inr (7, [.ref (x 1), .ref (x 5), .ref (x 7), .ref (x 10), .ref (x 17), .ref (x 22), .ref (x 27), .int yr])), ((x 10), .inr (1, [.ref (x 11), .ref (x 12), .ref (x 13), .ref (x 14), .ref (x 15), .ref (x 16), .int (nI ca)])), ((x 16), .inl (cI, 16, .inl k16)), ((x 17), .inr (6, [.ref (x 18), .ref (x 19), .ref (x 20), .ref (x 21), .int (nI wa)])), ((x 21), .inl (cI, 40, .inl w21))] sz) := by
  refine Met.ofW (cc := cX7_handIn) (maxL := 3) (ret := none) (by decide) rfl ?_
  intro p e s m args below meth c s₁ B hml hv
  obtain ⟨rfl, hsz, hP, hK, hD0⟩ := hv
  have hx := B.exec
  have hb := B.bytes
  have hr := B.returns
  have hts := atoms_spec (ws := wsX7_handIn) B.pre
  have hown : s.vm.findClass RX7 = some m.cls := findClass_of_methodNamed B.named
  have hlocks := B.notSynchronized
  subst hsz
  have hD := hD0.self (sz := s.heap.size)
  generalize hAe : va_A [((x 0), .inr (7, [.ref (x 1), .ref (x 5), .ref (x 7), .ref (x 10), .ref (x 17), .ref (x 22), .ref (x 27), .int yr])), ((x 10), .inr (1, [.ref (x 11), .ref (x 12), .ref (x 13), .ref (x 14), .ref (x 15), .ref (x 16), .int (nI ca)])), ((x 16), .inl (cI, 16, .inl k16)), ((x 17), .inr (6, [.ref (x 18), .ref (x 19), .ref (x 20), .ref (x 21), .int (nI wa)])), ((x 21), .inl (cI, 40, .inl w21))] s.heap.size = A at hD ⊢
  have hA : ∀ q : Nat, s.heap.size ≤ q → A q := fun q h => by rw [← hAe]; exact Or.inr h
  have hS : va_S A s.heap s.heap [] := va_S.rf
  have hP : va_P D vwCl [((x 0), .inr (7, [.ref (x 1), .ref (x 5), .ref (x 7), .ref (x 10), .ref (x 17), .ref (x 22), .ref (x 27), .int yr])), ((x 10), .inr (1, [.ref (x 11), .ref (x 12), .ref (x 13), .ref (x 14), .ref (x 15), .ref (x 16), .int (nI ca)])), ((x 16), .inl (cI, 16, .inl k16)), ((x 17), .inr (6, [.ref (x 18), .ref (x 19), .ref (x 20), .ref (x 21), .int (nI wa)])), ((x 21), .inl (cI, 40, .inl w21))] s.heap := hP
  have w_1 : ∀ w ∈ wsX70, w ∈ wsX7_handIn := by decide +kernel
  have w_2 := hts (Cond.fieldLink RX7 40 "BlueCoats" "wardrobe" "LBlueCoats$Wardrobe;") (by decide +kernel)
  have w_3 : ∀ w ∈ wsX60, w ∈ wsX7_handIn := by decide +kernel
  have w_4 := hts (Cond.fieldLink RX7 182 "BlueCoats$Wardrobe" "wearer" "[I") (by decide +kernel)
  have w_5 := hts (Cond.fieldLink RX7 33 "BlueCoats" "children" "LBlueCoats$Children;") (by decide +kernel)
  have w_6 : ∀ w ∈ wsX10, w ∈ wsX7_handIn := by decide +kernel
  have w_7 := hts (Cond.fieldLink RX7 167 "BlueCoats$Children" "coat" "[I") (by decide +kernel)
  have hl := lv_entry ([.ref (x 0), .int q]) (n := 3) (Nat.le_of_ble_eq_true rfl)
  rw [lg_entry_eq]
  generalize (lg_sl ([.ref (x 0), .int q]) ++ List.replicate (3 - (lg_sl ([.ref (x 0), .int q])).length) Slot.unset).toArray = ls at hl ⊢
  have hl : lv_has ls 3 [(0, .ref (x 0)), (1, .int q)] := hl
  refine lv_aload_n hx hb dX7_handIn_0 rfl (lv_at hl 0 rfl) ?_
  refine va_get (D := D) (ci := 7) (v := .ref (x 17)) (C := RX7) (T := TX7) (N := 8) hx hb hts w_1 hown hK hP 0 rfl rfl 4 (by decide) w_2 (fun _ h9 => h9) rfl dX7_handIn_1 ?_
  refine lv_iload_n hx hb dX7_handIn_4 rfl (lv_at hl 1 rfl) ?_
  refine vp_callSi (va_Run.run (va_runV (As := [.int q]) (rest := []) ⟨hx, hb, hml, hown, hts⟩ (g_X6_has l D cB cI cJ cZ (x 17) (x 18) (x 19) (x 20) (x 21) wa q (by omega)) (cwV 1 hts gX7_handIn_X6_has rfl rfl rfl (by decide +kernel) ⟨Nat.le_of_ble_eq_true rfl, Nat.le_of_ble_eq_true rfl⟩) (pre_VR (hP.sub (ws' := [((x 17), .inr (6, [.ref (x 18), .ref (x 19), .ref (x 20), .ref (x 21), .int (nI wa)]))]) [3] rfl) hK 0 rfl rfl rfl) rfl rfl hl.1 rfl (lv_room (Nat.le_of_ble_eq_true rfl)) dX7_handIn_5 ⟨Nat.le_of_ble_eq_true rfl, Nat.le_of_ble_eq_true rfl⟩)) (fun r_1 hw_r_1 => ?_)
  refine lv_if_ne (tgt := 12) hx hb dX7_handIn_8 (by decide) (fun c_8 => ?_) (fun c_8 => ?_)
  ·
    refine lv_aload_n hx hb dX7_handIn_12 rfl (lv_at hl 0 rfl) ?_
    refine va_get (D := D) (ci := 7) (v := .ref (x 17)) (C := RX7) (T := TX7) (N := 8) hx hb hts w_1 hown hK hP 0 rfl rfl 4 (by decide) w_2 (fun _ h9 => h9) rfl dX7_handIn_13 ?_
    refine va_get (D := D) (ci := 6) (v := .ref (x 21)) (C := RX6) (T := TX6) (N := 5) hx hb hts w_3 hown hK hP 3 rfl rfl 3 (by decide) w_4 (fun _ h9 => h9) rfl dX7_handIn_16 ?_
    refine lv_iload_n hx hb dX7_handIn_19 rfl (lv_at hl 1 rfl) ?_
    refine sv_iald (v := w21 q.toNatClampNeg) hx hb hK hP 4 1 rfl rfl (in_up (has_in hw_r_1 c_8) b_wa) rfl dX7_handIn_20 ?_
    refine lv_istore_n (lv' := [(2, .int (w21 q.toNatClampNeg)), (0, .ref (x 0)), (1, .int q)]) hx hb dX7_handIn_21 rfl hl (by decide) rfl (fun ls hl => ?_)
    refine lv_aload_n hx hb dX7_handIn_22 rfl (lv_at hl 1 rfl) ?_
    refine va_get (D := D) (ci := 7) (v := .ref (x 17)) (C := RX7) (T := TX7) (N := 8) hx hb hts w_1 hown hK hP 0 rfl rfl 4 (by decide) w_2 (fun _ h9 => h9) rfl dX7_handIn_23 ?_
    refine va_get (D := D) (ci := 6) (v := .ref (x 21)) (C := RX6) (T := TX6) (N := 5) hx hb hts w_3 hown hK hP 3 rfl rfl 3 (by decide) w_4 (fun _ h9 => h9) rfl dX7_handIn_26 ?_
    refine lv_iload_n hx hb dX7_handIn_29 rfl (lv_at hl 2 rfl) ?_
    refine lv_iconst (v := (-1)) hx hb dX7_handIn_30 (by decide) ?_
    refine sv_iast hx hb hK hP hD hS 4 1 rfl rfl (in_up (has_in hw_r_1 c_8) b_wa) dX7_handIn_31 (fun g_2 H locs eg_2 hP hD hS => ?_)
    have eg_2 : g_2 = upd w21 q.toNatClampNeg (-1) := eg_2
    subst eg_2
    have hP : va_P D vwCl [((x 0), .inr (7, [.ref (x 1), .ref (x 5), .ref (x 7), .ref (x 10), .ref (x 17), .ref (x 22), .ref (x 27), .int yr])), ((x 10), .inr (1, [.ref (x 11), .ref (x 12), .ref (x 13), .ref (x 14), .ref (x 15), .ref (x 16), .int (nI ca)])), ((x 16), .inl (cI, 16, .inl k16)), ((x 17), .inr (6, [.ref (x 18), .ref (x 19), .ref (x 20), .ref (x 21), .int (nI wa)])), ((x 21), .inl (cI, 40, .inl (upd w21 q.toNatClampNeg (-1))))] H := hP
    have hD : va_D A [((x 0), .inr (7, [.ref (x 1), .ref (x 5), .ref (x 7), .ref (x 10), .ref (x 17), .ref (x 22), .ref (x 27), .int yr])), ((x 10), .inr (1, [.ref (x 11), .ref (x 12), .ref (x 13), .ref (x 14), .ref (x 15), .ref (x 16), .int (nI ca)])), ((x 16), .inl (cI, 16, .inl k16)), ((x 17), .inr (6, [.ref (x 18), .ref (x 19), .ref (x 20), .ref (x 21), .int (nI wa)])), ((x 21), .inl (cI, 40, .inl (upd w21 q.toNatClampNeg (-1))))] := hD
    refine lv_aload_n hx hb dX7_handIn_32 rfl (lv_at hl 1 rfl) ?_
    refine va_get (D := D) (ci := 7) (v := .ref (x 10)) (C := RX7) (T := TX7) (N := 8) hx hb hts w_1 hown hK hP 0 rfl rfl 3 (by decide) w_5 (fun _ h9 => h9) rfl dX7_handIn_33 ?_
    refine lv_iload_n hx hb dX7_handIn_36 rfl (lv_at hl 0 rfl) ?_
    refine vp_callSi (va_Run.run (va_runV (As := [.int (w21 q.toNatClampNeg)]) (rest := []) ⟨hx, hb, hml, hown, hts⟩ (g_X1_has l D cB cI cJ cZ (x 10) (x 11) (x 12) (x 13) (x 14) (x 15) (x 16) ca (w21 q.toNatClampNeg) (by omega)) (cwV 1 hts gX7_handIn_X1_has rfl rfl rfl (by decide +kernel) ⟨Nat.le_of_ble_eq_true rfl, Nat.le_of_ble_eq_true rfl⟩) (pre_VR (hP.sub (ws' := [((x 10), .inr (1, [.ref (x 11), .ref (x 12), .ref (x 13), .ref (x 14), .ref (x 15), .ref (x 16), .int (nI ca)]))]) [1] rfl) hK 0 rfl rfl rfl) rfl rfl hl.1 rfl (lv_room (Nat.le_of_ble_eq_true rfl)) dX7_handIn_37 ⟨Nat.le_of_ble_eq_true rfl, Nat.le_of_ble_eq_true rfl⟩)) (fun r_3 hw_r_3 => ?_)
    refine lv_if_eq (tgt := 53) hx hb dX7_handIn_40 (by decide) (fun c_40 => ?_) (fun c_40 => ?_)
    ·
      have hP9 := hP.sub (ws' := [((x 0), .inr (7, [.ref (x 1), .ref (x 5), .ref (x 7), .ref (x 10), .ref (x 17), .ref (x 22), .ref (x 27), .int yr])), ((x 10), .inr (1, [.ref (x 11), .ref (x 12), .ref (x 13), .ref (x 14), .ref (x 15), .ref (x 16), .int (nI ca)])), ((x 16), .inl (cI, 16, .inl k16)), ((x 17), .inr (6, [.ref (x 18), .ref (x 19), .ref (x 20), .ref (x 21), .int (nI wa)])), ((x 21), .inl (cI, 40, .inl (upd w21 q.toNatClampNeg (-1))))]) [0, 1, 2, 3, 4] rfl
      have hD9 := hD.sub (ws' := [((x 0), .inr (7, [.ref (x 1), .ref (x 5), .ref (x 7), .ref (x 10), .ref (x 17), .ref (x 22), .ref (x 27), .int yr])), ((x 10), .inr (1, [.ref (x 11), .ref (x 12), .ref (x 13), .ref (x 14), .ref (x 15), .ref (x 16), .int (nI ca)])), ((x 16), .inl (cI, 16, .inl k16)), ((x 17), .inr (6, [.ref (x 18), .ref (x 19), .ref (x 20), .ref (x 21), .int (nI wa)])), ((x 21), .inl (cI, 40, .inl (upd w21 q.toNatClampNeg (-1))))]) [0, 1, 2, 3, 4] (by decide) rfl
      exact W.vret hx hb hr (fun t ht hW => ⟨⟨(upd w21 q.toNatClampNeg (-1), k16), rfl, Or.inr ⟨has_in hw_r_1 c_8, rfl, Or.inr ⟨has_out hw_r_3 c_40, rfl⟩⟩, by rw [ht]; exact hP9, va_K.moved hW.alike hK, hD9⟩, hS.F ht⟩) hS.2.2 dX7_handIn_53
    ·
      refine lv_aload_n hx hb dX7_handIn_43 rfl (lv_at hl 1 rfl) ?_
      refine va_get (D := D) (ci := 7) (v := .ref (x 10)) (C := RX7) (T := TX7) (N := 8) hx hb hts w_1 hown hK hP 0 rfl rfl 3 (by decide) w_5 (fun _ h9 => h9) rfl dX7_handIn_44 ?_
      refine va_get (D := D) (ci := 1) (v := .ref (x 16)) (C := RX1) (T := TX1) (N := 7) hx hb hts w_6 hown hK hP 1 rfl rfl 5 (by decide) w_7 (fun _ h9 => h9) rfl dX7_handIn_47 ?_
      refine lv_iload_n hx hb dX7_handIn_50 rfl (lv_at hl 0 rfl) ?_
      refine lv_iconst (v := (-1)) hx hb dX7_handIn_51 (by decide) ?_
      refine sv_iast hx hb hK hP hD hS 2 1 rfl rfl (in_up (has_in hw_r_3 c_40) b_ca) dX7_handIn_52 (fun g_4 H locs eg_4 hP hD hS => ?_)
      have eg_4 : g_4 = upd k16 (w21 q.toNatClampNeg).toNatClampNeg (-1) := eg_4
      subst eg_4
      have hP : va_P D vwCl [((x 0), .inr (7, [.ref (x 1), .ref (x 5), .ref (x 7), .ref (x 10), .ref (x 17), .ref (x 22), .ref (x 27), .int yr])), ((x 10), .inr (1, [.ref (x 11), .ref (x 12), .ref (x 13), .ref (x 14), .ref (x 15), .ref (x 16), .int (nI ca)])), ((x 16), .inl (cI, 16, .inl (upd k16 (w21 q.toNatClampNeg).toNatClampNeg (-1)))), ((x 17), .inr (6, [.ref (x 18), .ref (x 19), .ref (x 20), .ref (x 21), .int (nI wa)])), ((x 21), .inl (cI, 40, .inl (upd w21 q.toNatClampNeg (-1))))] H := hP
      have hD : va_D A [((x 0), .inr (7, [.ref (x 1), .ref (x 5), .ref (x 7), .ref (x 10), .ref (x 17), .ref (x 22), .ref (x 27), .int yr])), ((x 10), .inr (1, [.ref (x 11), .ref (x 12), .ref (x 13), .ref (x 14), .ref (x 15), .ref (x 16), .int (nI ca)])), ((x 16), .inl (cI, 16, .inl (upd k16 (w21 q.toNatClampNeg).toNatClampNeg (-1)))), ((x 17), .inr (6, [.ref (x 18), .ref (x 19), .ref (x 20), .ref (x 21), .int (nI wa)])), ((x 21), .inl (cI, 40, .inl (upd w21 q.toNatClampNeg (-1))))] := hD
      have hP9 := hP.sub (ws' := [((x 0), .inr (7, [.ref (x 1), .ref (x 5), .ref (x 7), .ref (x 10), .ref (x 17), .ref (x 22), .ref (x 27), .int yr])), ((x 10), .inr (1, [.ref (x 11), .ref (x 12), .ref (x 13), .ref (x 14), .ref (x 15), .ref (x 16), .int (nI ca)])), ((x 16), .inl (cI, 16, .inl (upd k16 (w21 q.toNatClampNeg).toNatClampNeg (-1)))), ((x 17), .inr (6, [.ref (x 18), .ref (x 19), .ref (x 20), .ref (x 21), .int (nI wa)])), ((x 21), .inl (cI, 40, .inl (upd w21 q.toNatClampNeg (-1))))]) [0, 1, 2, 3, 4] rfl
      have hD9 := hD.sub (ws' := [((x 0), .inr (7, [.ref (x 1), .ref (x 5), .ref (x 7), .ref (x 10), .ref (x 17), .ref (x 22), .ref (x 27), .int yr])), ((x 10), .inr (1, [.ref (x 11), .ref (x 12), .ref (x 13), .ref (x 14), .ref (x 15), .ref (x 16), .int (nI ca)])), ((x 16), .inl (cI, 16, .inl (upd k16 (w21 q.toNatClampNeg).toNatClampNeg (-1)))), ((x 17), .inr (6, [.ref (x 18), .ref (x 19), .ref (x 20), .ref (x 21), .int (nI wa)])), ((x 21), .inl (cI, 40, .inl (upd w21 q.toNatClampNeg (-1))))]) [0, 1, 2, 3, 4] (by decide) rfl
      exact W.vret hx hb hr (fun t ht hW => ⟨⟨(upd w21 q.toNatClampNeg (-1), upd k16 (w21 q.toNatClampNeg).toNatClampNeg (-1)), rfl, Or.inr ⟨has_in hw_r_1 c_8, rfl, Or.inl ⟨has_in hw_r_3 c_40, rfl⟩⟩, by rw [ht]; exact hP9, va_K.moved hW.alike hK, hD9⟩, hS.F ht⟩) hS.2.2 dX7_handIn_53
  ·
    have hP9 := hP.sub (ws' := [((x 0), .inr (7, [.ref (x 1), .ref (x 5), .ref (x 7), .ref (x 10), .ref (x 17), .ref (x 22), .ref (x 27), .int yr])), ((x 10), .inr (1, [.ref (x 11), .ref (x 12), .ref (x 13), .ref (x 14), .ref (x 15), .ref (x 16), .int (nI ca)])), ((x 16), .inl (cI, 16, .inl k16)), ((x 17), .inr (6, [.ref (x 18), .ref (x 19), .ref (x 20), .ref (x 21), .int (nI wa)])), ((x 21), .inl (cI, 40, .inl w21))]) [0, 1, 2, 3, 4] rfl
    have hD9 := hD.sub (ws' := [((x 0), .inr (7, [.ref (x 1), .ref (x 5), .ref (x 7), .ref (x 10), .ref (x 17), .ref (x 22), .ref (x 27), .int yr])), ((x 10), .inr (1, [.ref (x 11), .ref (x 12), .ref (x 13), .ref (x 14), .ref (x 15), .ref (x 16), .int (nI ca)])), ((x 16), .inl (cI, 16, .inl k16)), ((x 17), .inr (6, [.ref (x 18), .ref (x 19), .ref (x 20), .ref (x 21), .int (nI wa)])), ((x 21), .inl (cI, 40, .inl w21))]) [0, 1, 2, 3, 4] (by decide) rfl
    exact W.vret hx hb hr (fun t ht hW => ⟨⟨(w21, k16), rfl, Or.inl ⟨has_out hw_r_1 c_8, rfl, rfl⟩, by rw [ht]; exact hP9, va_K.moved hW.alike hK, hD9⟩, hS.F ht⟩) hS.2.2 dX7_handIn_11

set_option maxHeartbeats 4000000 in
set_option maxRecDepth 100000 in
theorem f_X7_handOut (l : Launch) (D : va_G) (cB cI cJ cZ : ClassId) (sz : Nat) (x : Nat → Nat) (yr : Int32) (ca : Nat) (k16 : Nat → Int32) (wa : Nat) (w21 : Nat → Int32) (q q2 : Int32) (b_ca : ca ≤ 16) (b_wa : wa ≤ 40) : Met l yX7_handOut wsX7_handOut ({ frames := 1, cells := 0, slots := 0, locals := 21 } : Room) (cPre D (aTy cB cI cJ cZ) [((x 0), .inr (7, [.ref (x 1), .ref (x 5), .ref (x 7), .ref (x 10), .ref (x 17), .ref (x 22), .ref (x 27), .int yr])), ((x 10), .inr (1, [.ref (x 11), .ref (x 12), .ref (x 13), .ref (x 14), .ref (x 15), .ref (x 16), .int (nI ca)])), ((x 16), .inl (cI, 16, .inl k16)), ((x 17), .inr (6, [.ref (x 18), .ref (x 19), .ref (x 20), .ref (x 21), .int (nI wa)])), ((x 21), .inl (cI, 40, .inl w21))] sz [.ref (x 0), .int q, .int q2]) (va_Qv (fun (u : (Nat → Int32) × (Nat → Int32)) => hoP q q2 wa ca w21 k16 u.1 u.2) (cB_ D (aTy cB cI cJ cZ) (va_A [((x 0), .inr (7, [.ref (x 1), .ref (x 5), .ref (x 7), .ref (x 10), .ref (x 17), .ref (x 22), .ref (x 27), .int yr])), ((x 10), .inr (1, [.ref (x 11), .ref (x 12), .ref (x 13), .ref (x 14), .ref (x 15), .ref (x 16), .int (nI ca)])), ((x 16), .inl (cI, 16, .inl k16)), ((x 17), .inr (6, [.ref (x 18), .ref (x 19), .ref (x 20), .ref (x 21), .int (nI wa)])), ((x 21), .inl (cI, 40, .inl w21))] sz) (fun u => [((x 0), .inr (7, [.ref (x 1), .ref (x 5), .ref (x 7), .ref (x 10), .ref (x 17), .ref (x 22), .ref (x 27), .int yr])), ((x 10), .inr (1, [.ref (x 11), .ref (x 12), .ref (x 13), .ref (x 14), .ref (x 15), .ref (x 16), .int (nI ca)])), ((x 16), .inl (cI, 16, .inl u.2)), ((x 17), .inr (6, [.ref (x 18), .ref (x 19), .ref (x 20), .ref (x 21), .int (nI wa)])), ((x 21), .inl (cI, 40, .inl u.1))])) (va_A [((x 0), .inr (7, [.ref (x 1), .ref (x 5), .ref (x 7), .ref (x 10), .ref (x 17), .ref (x 22), .ref (x 27), .int yr])), ((x 10), .inr (1, [.ref (x 11), .ref (x 12), .ref (x 13), .ref (x 14), .ref (x 15), .ref (x 16), .int (nI ca)])), ((x 16), .inl (cI, 16, .inl k16)), ((x 17), .inr (6, [.ref (x 18), .ref (x 19), .ref (x 20), .ref (x 21), .int (nI wa)])), ((x 21), .inl (cI, 40, .inl w21))] sz)) 0 0 (va_A [((x 0), .inr (7, [.ref (x 1), .ref (x 5), .ref (x 7), .ref (x 10), .ref (x 17), .ref (x 22), .ref (x 27), .int yr])), ((x 10), .inr (1, [.ref (x 11), .ref (x 12), .ref (x 13), .ref (x 14), .ref (x 15), .ref (x 16), .int (nI ca)])), ((x 16), .inl (cI, 16, .inl k16)), ((x 17), .inr (6, [.ref (x 18), .ref (x 19), .ref (x 20), .ref (x 21), .int (nI wa)])), ((x 21), .inl (cI, 40, .inl w21))] sz) := by
  refine Met.ofW (cc := cX7_handOut) (maxL := 3) (ret := none) (by decide) rfl ?_
  intro p e s m args below meth c s₁ B hml hv
  obtain ⟨rfl, hsz, hP, hK, hD0⟩ := hv
  have hx := B.exec
  have hb := B.bytes
  have hr := B.returns
  have hts := atoms_spec (ws := wsX7_handOut) B.pre
  have hown : s.vm.findClass RX7 = some m.cls := findClass_of_methodNamed B.named
  have hlocks := B.notSynchronized
  subst hsz
  have hD := hD0.self (sz := s.heap.size)
  generalize hAe : va_A [((x 0), .inr (7, [.ref (x 1), .ref (x 5), .ref (x 7), .ref (x 10), .ref (x 17), .ref (x 22), .ref (x 27), .int yr])), ((x 10), .inr (1, [.ref (x 11), .ref (x 12), .ref (x 13), .ref (x 14), .ref (x 15), .ref (x 16), .int (nI ca)])), ((x 16), .inl (cI, 16, .inl k16)), ((x 17), .inr (6, [.ref (x 18), .ref (x 19), .ref (x 20), .ref (x 21), .int (nI wa)])), ((x 21), .inl (cI, 40, .inl w21))] s.heap.size = A at hD ⊢
  have hA : ∀ q : Nat, s.heap.size ≤ q → A q := fun q h => by rw [← hAe]; exact Or.inr h
  have hS : va_S A s.heap s.heap [] := va_S.rf
  have hP : va_P D vwCl [((x 0), .inr (7, [.ref (x 1), .ref (x 5), .ref (x 7), .ref (x 10), .ref (x 17), .ref (x 22), .ref (x 27), .int yr])), ((x 10), .inr (1, [.ref (x 11), .ref (x 12), .ref (x 13), .ref (x 14), .ref (x 15), .ref (x 16), .int (nI ca)])), ((x 16), .inl (cI, 16, .inl k16)), ((x 17), .inr (6, [.ref (x 18), .ref (x 19), .ref (x 20), .ref (x 21), .int (nI wa)])), ((x 21), .inl (cI, 40, .inl w21))] s.heap := hP
  have w_1 : ∀ w ∈ wsX70, w ∈ wsX7_handOut := by decide +kernel
  have w_2 := hts (Cond.fieldLink RX7 40 "BlueCoats" "wardrobe" "LBlueCoats$Wardrobe;") (by decide +kernel)
  have w_3 := hts (Cond.fieldLink RX7 33 "BlueCoats" "children" "LBlueCoats$Children;") (by decide +kernel)
  have w_4 : ∀ w ∈ wsX60, w ∈ wsX7_handOut := by decide +kernel
  have w_5 := hts (Cond.fieldLink RX7 182 "BlueCoats$Wardrobe" "wearer" "[I") (by decide +kernel)
  have w_6 : ∀ w ∈ wsX10, w ∈ wsX7_handOut := by decide +kernel
  have w_7 := hts (Cond.fieldLink RX7 167 "BlueCoats$Children" "coat" "[I") (by decide +kernel)
  have hl := lv_entry ([.ref (x 0), .int q, .int q2]) (n := 3) (Nat.le_of_ble_eq_true rfl)
  rw [lg_entry_eq]
  generalize (lg_sl ([.ref (x 0), .int q, .int q2]) ++ List.replicate (3 - (lg_sl ([.ref (x 0), .int q, .int q2])).length) Slot.unset).toArray = ls at hl ⊢
  have hl : lv_has ls 3 [(0, .ref (x 0)), (1, .int q), (2, .int q2)] := hl
  refine lv_aload_n hx hb dX7_handOut_0 rfl (lv_at hl 0 rfl) ?_
  refine va_get (D := D) (ci := 7) (v := .ref (x 17)) (C := RX7) (T := TX7) (N := 8) hx hb hts w_1 hown hK hP 0 rfl rfl 4 (by decide) w_2 (fun _ h9 => h9) rfl dX7_handOut_1 ?_
  refine lv_iload_n hx hb dX7_handOut_4 rfl (lv_at hl 1 rfl) ?_
  refine vp_callSi (va_Run.run (va_runV (As := [.int q]) (rest := []) ⟨hx, hb, hml, hown, hts⟩ (g_X6_has l D cB cI cJ cZ (x 17) (x 18) (x 19) (x 20) (x 21) wa q (by omega)) (cwV 1 hts gX7_handOut_X6_has rfl rfl rfl (by decide +kernel) ⟨Nat.le_of_ble_eq_true rfl, Nat.le_of_ble_eq_true rfl⟩) (pre_VR (hP.sub (ws' := [((x 17), .inr (6, [.ref (x 18), .ref (x 19), .ref (x 20), .ref (x 21), .int (nI wa)]))]) [3] rfl) hK 0 rfl rfl rfl) rfl rfl hl.1 rfl (lv_room (Nat.le_of_ble_eq_true rfl)) dX7_handOut_5 ⟨Nat.le_of_ble_eq_true rfl, Nat.le_of_ble_eq_true rfl⟩)) (fun r_1 hw_r_1 => ?_)
  refine lv_if_eq (tgt := 42) hx hb dX7_handOut_8 (by decide) (fun c_8 => ?_) (fun c_8 => ?_)
  ·
    have hP9 := hP.sub (ws' := [((x 0), .inr (7, [.ref (x 1), .ref (x 5), .ref (x 7), .ref (x 10), .ref (x 17), .ref (x 22), .ref (x 27), .int yr])), ((x 10), .inr (1, [.ref (x 11), .ref (x 12), .ref (x 13), .ref (x 14), .ref (x 15), .ref (x 16), .int (nI ca)])), ((x 16), .inl (cI, 16, .inl k16)), ((x 17), .inr (6, [.ref (x 18), .ref (x 19), .ref (x 20), .ref (x 21), .int (nI wa)])), ((x 21), .inl (cI, 40, .inl w21))]) [0, 1, 2, 3, 4] rfl
    have hD9 := hD.sub (ws' := [((x 0), .inr (7, [.ref (x 1), .ref (x 5), .ref (x 7), .ref (x 10), .ref (x 17), .ref (x 22), .ref (x 27), .int yr])), ((x 10), .inr (1, [.ref (x 11), .ref (x 12), .ref (x 13), .ref (x 14), .ref (x 15), .ref (x 16), .int (nI ca)])), ((x 16), .inl (cI, 16, .inl k16)), ((x 17), .inr (6, [.ref (x 18), .ref (x 19), .ref (x 20), .ref (x 21), .int (nI wa)])), ((x 21), .inl (cI, 40, .inl w21))]) [0, 1, 2, 3, 4] (by decide) rfl
    exact W.vret hx hb hr (fun t ht hW => ⟨⟨(w21, k16), rfl, Or.inr ⟨fun h => has_out hw_r_1 c_8 h.1, rfl, rfl⟩, by rw [ht]; exact hP9, va_K.moved hW.alike hK, hD9⟩, hS.F ht⟩) hS.2.2 dX7_handOut_42
  ·
    refine lv_aload_n hx hb dX7_handOut_11 rfl (lv_at hl 0 rfl) ?_
    refine va_get (D := D) (ci := 7) (v := .ref (x 10)) (C := RX7) (T := TX7) (N := 8) hx hb hts w_1 hown hK hP 0 rfl rfl 3 (by decide) w_3 (fun _ h9 => h9) rfl dX7_handOut_12 ?_
    refine lv_iload_n hx hb dX7_handOut_15 rfl (lv_at hl 2 rfl) ?_
    refine vp_callSi (va_Run.run (va_runV (As := [.int q2]) (rest := []) ⟨hx, hb, hml, hown, hts⟩ (g_X1_has l D cB cI cJ cZ (x 10) (x 11) (x 12) (x 13) (x 14) (x 15) (x 16) ca q2 (by omega)) (cwV 1 hts gX7_handOut_X1_has rfl rfl rfl (by decide +kernel) ⟨Nat.le_of_ble_eq_true rfl, Nat.le_of_ble_eq_true rfl⟩) (pre_VR (hP.sub (ws' := [((x 10), .inr (1, [.ref (x 11), .ref (x 12), .ref (x 13), .ref (x 14), .ref (x 15), .ref (x 16), .int (nI ca)]))]) [1] rfl) hK 0 rfl rfl rfl) rfl rfl hl.1 rfl (lv_room (Nat.le_of_ble_eq_true rfl)) dX7_handOut_16 ⟨Nat.le_of_ble_eq_true rfl, Nat.le_of_ble_eq_true rfl⟩)) (fun r_2 hw_r_2 => ?_)
    refine lv_if_eq (tgt := 42) hx hb dX7_handOut_19 (by decide) (fun c_19 => ?_) (fun c_19 => ?_)
    ·
      have hP9 := hP.sub (ws' := [((x 0), .inr (7, [.ref (x 1), .ref (x 5), .ref (x 7), .ref (x 10), .ref (x 17), .ref (x 22), .ref (x 27), .int yr])), ((x 10), .inr (1, [.ref (x 11), .ref (x 12), .ref (x 13), .ref (x 14), .ref (x 15), .ref (x 16), .int (nI ca)])), ((x 16), .inl (cI, 16, .inl k16)), ((x 17), .inr (6, [.ref (x 18), .ref (x 19), .ref (x 20), .ref (x 21), .int (nI wa)])), ((x 21), .inl (cI, 40, .inl w21))]) [0, 1, 2, 3, 4] rfl
      have hD9 := hD.sub (ws' := [((x 0), .inr (7, [.ref (x 1), .ref (x 5), .ref (x 7), .ref (x 10), .ref (x 17), .ref (x 22), .ref (x 27), .int yr])), ((x 10), .inr (1, [.ref (x 11), .ref (x 12), .ref (x 13), .ref (x 14), .ref (x 15), .ref (x 16), .int (nI ca)])), ((x 16), .inl (cI, 16, .inl k16)), ((x 17), .inr (6, [.ref (x 18), .ref (x 19), .ref (x 20), .ref (x 21), .int (nI wa)])), ((x 21), .inl (cI, 40, .inl w21))]) [0, 1, 2, 3, 4] (by decide) rfl
      exact W.vret hx hb hr (fun t ht hW => ⟨⟨(w21, k16), rfl, Or.inr ⟨fun h => has_out hw_r_2 c_19 h.2, rfl, rfl⟩, by rw [ht]; exact hP9, va_K.moved hW.alike hK, hD9⟩, hS.F ht⟩) hS.2.2 dX7_handOut_42
    ·
      refine lv_aload_n hx hb dX7_handOut_22 rfl (lv_at hl 0 rfl) ?_
      refine va_get (D := D) (ci := 7) (v := .ref (x 17)) (C := RX7) (T := TX7) (N := 8) hx hb hts w_1 hown hK hP 0 rfl rfl 4 (by decide) w_2 (fun _ h9 => h9) rfl dX7_handOut_23 ?_
      refine va_get (D := D) (ci := 6) (v := .ref (x 21)) (C := RX6) (T := TX6) (N := 5) hx hb hts w_4 hown hK hP 3 rfl rfl 3 (by decide) w_5 (fun _ h9 => h9) rfl dX7_handOut_26 ?_
      refine lv_iload_n hx hb dX7_handOut_29 rfl (lv_at hl 1 rfl) ?_
      refine lv_iload_n hx hb dX7_handOut_30 rfl (lv_at hl 2 rfl) ?_
      refine sv_iast hx hb hK hP hD hS 4 1 rfl rfl (in_up (has_in hw_r_1 c_8) b_wa) dX7_handOut_31 (fun g_3 H locs eg_3 hP hD hS => ?_)
      have eg_3 : g_3 = upd w21 q.toNatClampNeg q2 := eg_3
      subst eg_3
      have hP : va_P D vwCl [((x 0), .inr (7, [.ref (x 1), .ref (x 5), .ref (x 7), .ref (x 10), .ref (x 17), .ref (x 22), .ref (x 27), .int yr])), ((x 10), .inr (1, [.ref (x 11), .ref (x 12), .ref (x 13), .ref (x 14), .ref (x 15), .ref (x 16), .int (nI ca)])), ((x 16), .inl (cI, 16, .inl k16)), ((x 17), .inr (6, [.ref (x 18), .ref (x 19), .ref (x 20), .ref (x 21), .int (nI wa)])), ((x 21), .inl (cI, 40, .inl (upd w21 q.toNatClampNeg q2)))] H := hP
      have hD : va_D A [((x 0), .inr (7, [.ref (x 1), .ref (x 5), .ref (x 7), .ref (x 10), .ref (x 17), .ref (x 22), .ref (x 27), .int yr])), ((x 10), .inr (1, [.ref (x 11), .ref (x 12), .ref (x 13), .ref (x 14), .ref (x 15), .ref (x 16), .int (nI ca)])), ((x 16), .inl (cI, 16, .inl k16)), ((x 17), .inr (6, [.ref (x 18), .ref (x 19), .ref (x 20), .ref (x 21), .int (nI wa)])), ((x 21), .inl (cI, 40, .inl (upd w21 q.toNatClampNeg q2)))] := hD
      refine lv_aload_n hx hb dX7_handOut_32 rfl (lv_at hl 0 rfl) ?_
      refine va_get (D := D) (ci := 7) (v := .ref (x 10)) (C := RX7) (T := TX7) (N := 8) hx hb hts w_1 hown hK hP 0 rfl rfl 3 (by decide) w_3 (fun _ h9 => h9) rfl dX7_handOut_33 ?_
      refine va_get (D := D) (ci := 1) (v := .ref (x 16)) (C := RX1) (T := TX1) (N := 7) hx hb hts w_6 hown hK hP 1 rfl rfl 5 (by decide) w_7 (fun _ h9 => h9) rfl dX7_handOut_36 ?_
      refine lv_iload_n hx hb dX7_handOut_39 rfl (lv_at hl 2 rfl) ?_
      refine lv_iload_n hx hb dX7_handOut_40 rfl (lv_at hl 1 rfl) ?_
      refine sv_iast hx hb hK hP hD hS 2 1 rfl rfl (in_up (has_in hw_r_2 c_19) b_ca) dX7_handOut_41 (fun g_4 H locs eg_4 hP hD hS => ?_)
      have eg_4 : g_4 = upd k16 q2.toNatClampNeg q := eg_4
      subst eg_4
      have hP : va_P D vwCl [((x 0), .inr (7, [.ref (x 1), .ref (x 5), .ref (x 7), .ref (x 10), .ref (x 17), .ref (x 22), .ref (x 27), .int yr])), ((x 10), .inr (1, [.ref (x 11), .ref (x 12), .ref (x 13), .ref (x 14), .ref (x 15), .ref (x 16), .int (nI ca)])), ((x 16), .inl (cI, 16, .inl (upd k16 q2.toNatClampNeg q))), ((x 17), .inr (6, [.ref (x 18), .ref (x 19), .ref (x 20), .ref (x 21), .int (nI wa)])), ((x 21), .inl (cI, 40, .inl (upd w21 q.toNatClampNeg q2)))] H := hP
      have hD : va_D A [((x 0), .inr (7, [.ref (x 1), .ref (x 5), .ref (x 7), .ref (x 10), .ref (x 17), .ref (x 22), .ref (x 27), .int yr])), ((x 10), .inr (1, [.ref (x 11), .ref (x 12), .ref (x 13), .ref (x 14), .ref (x 15), .ref (x 16), .int (nI ca)])), ((x 16), .inl (cI, 16, .inl (upd k16 q2.toNatClampNeg q))), ((x 17), .inr (6, [.ref (x 18), .ref (x 19), .ref (x 20), .ref (x 21), .int (nI wa)])), ((x 21), .inl (cI, 40, .inl (upd w21 q.toNatClampNeg q2)))] := hD
      have hP9 := hP.sub (ws' := [((x 0), .inr (7, [.ref (x 1), .ref (x 5), .ref (x 7), .ref (x 10), .ref (x 17), .ref (x 22), .ref (x 27), .int yr])), ((x 10), .inr (1, [.ref (x 11), .ref (x 12), .ref (x 13), .ref (x 14), .ref (x 15), .ref (x 16), .int (nI ca)])), ((x 16), .inl (cI, 16, .inl (upd k16 q2.toNatClampNeg q))), ((x 17), .inr (6, [.ref (x 18), .ref (x 19), .ref (x 20), .ref (x 21), .int (nI wa)])), ((x 21), .inl (cI, 40, .inl (upd w21 q.toNatClampNeg q2)))]) [0, 1, 2, 3, 4] rfl
      have hD9 := hD.sub (ws' := [((x 0), .inr (7, [.ref (x 1), .ref (x 5), .ref (x 7), .ref (x 10), .ref (x 17), .ref (x 22), .ref (x 27), .int yr])), ((x 10), .inr (1, [.ref (x 11), .ref (x 12), .ref (x 13), .ref (x 14), .ref (x 15), .ref (x 16), .int (nI ca)])), ((x 16), .inl (cI, 16, .inl (upd k16 q2.toNatClampNeg q))), ((x 17), .inr (6, [.ref (x 18), .ref (x 19), .ref (x 20), .ref (x 21), .int (nI wa)])), ((x 21), .inl (cI, 40, .inl (upd w21 q.toNatClampNeg q2)))]) [0, 1, 2, 3, 4] (by decide) rfl
      exact W.vret hx hb hr (fun t ht hW => ⟨⟨(upd w21 q.toNatClampNeg q2, upd k16 q2.toNatClampNeg q), rfl, Or.inl ⟨has_in hw_r_1 c_8, has_in hw_r_2 c_19, rfl, rfl⟩, by rw [ht]; exact hP9, va_K.moved hW.alike hK, hD9⟩, hS.F ht⟩) hS.2.2 dX7_handOut_42

def cuP (a : Nat) (f0 f1 f2 f3 : Nat → Int32) (q r : Int32) (a' : Nat) (g0 g1 g2 g3 : Nat → Int32) : Prop := (40 ≤ a ∧ r = -1 ∧ a' = a ∧ g0 = f0 ∧ g1 = f1 ∧ g2 = f2 ∧ g3 = f3) ∨ (a < 40 ∧ r = nI a ∧ a' = a + 1 ∧ g0 = upd f0 a q ∧ g1 = upd f1 a 0 ∧ g2 = upd f2 a 0 ∧ g3 = upd f3 a (-1))

set_option maxHeartbeats 4000000 in
set_option maxRecDepth 100000 in
theorem f_X6_cut (l : Launch) (D : va_G) (cB cI cJ cZ : ClassId) (sz : Nat) (h0 p0 p1 p2 p3 a : Nat) (f0 f1 f2 f3 : Nat → Int32) (q : Int32) (ha : a ≤ 40) (hz : ∀ k, f2 k = 0 ∨ f2 k = 1) : Met l yX6_cut wsX6_cut ({ frames := 0, cells := 0, slots := 0, locals := 0 } : Room) (cPre D (aTy cB cI cJ cZ) [(h0, .inr (6, [.ref p0, .ref p1, .ref p2, .ref p3, .int (nI a)])), (p0, .inl (cI, 40, .inl f0)), (p1, .inl (cI, 40, .inl f1)), (p2, .inl (cZ, 40, .inl f2)), (p3, .inl (cI, 40, .inl f3))] sz [.ref h0, .int q]) (va_Qi (fun (r : Int32) (u : Nat × (Nat → Int32) × (Nat → Int32) × (Nat → Int32) × (Nat → Int32)) => cuP a f0 f1 f2 f3 q r u.1 u.2.1 u.2.2.1 u.2.2.2.1 u.2.2.2.2) (cB_ D (aTy cB cI cJ cZ) (va_A [(h0, .inr (6, [.ref p0, .ref p1, .ref p2, .ref p3, .int (nI a)])), (p0, .inl (cI, 40, .inl f0)), (p1, .inl (cI, 40, .inl f1)), (p2, .inl (cZ, 40, .inl f2)), (p3, .inl (cI, 40, .inl f3))] sz) (fun u => [(h0, .inr (6, [.ref p0, .ref p1, .ref p2, .ref p3, .int (nI (u.1))])), (p0, .inl (cI, 40, .inl u.2.1)), (p1, .inl (cI, 40, .inl u.2.2.1)), (p2, .inl (cZ, 40, .inl u.2.2.2.1)), (p3, .inl (cI, 40, .inl u.2.2.2.2))])) (va_A [(h0, .inr (6, [.ref p0, .ref p1, .ref p2, .ref p3, .int (nI a)])), (p0, .inl (cI, 40, .inl f0)), (p1, .inl (cI, 40, .inl f1)), (p2, .inl (cZ, 40, .inl f2)), (p3, .inl (cI, 40, .inl f3))] sz)) 0 0 (va_A [(h0, .inr (6, [.ref p0, .ref p1, .ref p2, .ref p3, .int (nI a)])), (p0, .inl (cI, 40, .inl f0)), (p1, .inl (cI, 40, .inl f1)), (p2, .inl (cZ, 40, .inl f2)), (p3, .inl (cI, 40, .inl f3))] sz) := by
  refine Met.ofW (cc := cX6_cut) (maxL := 2) (ret := (some .int)) (by decide) rfl ?_
  intro p e s m args below meth c s₁ B hml hv
  obtain ⟨rfl, hsz, hP, hK, hD0⟩ := hv
  have hx := B.exec
  have hb := B.bytes
  have hr := B.returns
  have hts := atoms_spec (ws := wsX6_cut) B.pre
  have hown : s.vm.findClass RX6 = some m.cls := findClass_of_methodNamed B.named
  have hlocks := B.notSynchronized
  subst hsz
  have hD := hD0.self (sz := s.heap.size)
  generalize hAe : va_A [(h0, .inr (6, [.ref p0, .ref p1, .ref p2, .ref p3, .int (nI a)])), (p0, .inl (cI, 40, .inl f0)), (p1, .inl (cI, 40, .inl f1)), (p2, .inl (cZ, 40, .inl f2)), (p3, .inl (cI, 40, .inl f3))] s.heap.size = A at hD ⊢
  have hA : ∀ q : Nat, s.heap.size ≤ q → A q := fun q h => by rw [← hAe]; exact Or.inr h
  have hS : va_S A s.heap s.heap [] := va_S.rf
  have hP : va_P D vwCl [(h0, .inr (6, [.ref p0, .ref p1, .ref p2, .ref p3, .int (nI a)])), (p0, .inl (cI, 40, .inl f0)), (p1, .inl (cI, 40, .inl f1)), (p2, .inl (cZ, 40, .inl f2)), (p3, .inl (cI, 40, .inl f3))] s.heap := hP
  have w_1 : ∀ w ∈ wsX60, w ∈ wsX6_cut := by decide +kernel
  have w_2 := hts (Cond.fieldLink RX6 25 "BlueCoats$Wardrobe" "number" "I") (by decide +kernel)
  have w_3 := hts (Cond.fieldLink RX6 11 "BlueCoats$Wardrobe" "size" "[I") (by decide +kernel)
  have w_4 := hts (Cond.fieldLink RX6 15 "BlueCoats$Wardrobe" "worn" "[I") (by decide +kernel)
  have w_5 := hts (Cond.fieldLink RX6 18 "BlueCoats$Wardrobe" "gone" "[Z") (by decide +kernel)
  have w_6 := hts (Cond.fieldLink RX6 22 "BlueCoats$Wardrobe" "wearer" "[I") (by decide +kernel)
  have hl := lv_entry ([.ref h0, .int q]) (n := 2) (Nat.le_of_ble_eq_true rfl)
  rw [lg_entry_eq]
  generalize (lg_sl ([.ref h0, .int q]) ++ List.replicate (2 - (lg_sl ([.ref h0, .int q])).length) Slot.unset).toArray = ls at hl ⊢
  have hl : lv_has ls 2 [(0, .ref h0), (1, .int q)] := hl
  refine lv_aload_n hx hb dX6_cut_0 rfl (lv_at hl 0 rfl) ?_
  refine va_get (D := D) (ci := 6) (v := .int (nI a)) (C := RX6) (T := TX6) (N := 5) hx hb hts w_1 hown hK hP 0 rfl rfl 4 (by decide) w_2 (fun _ h9 => h9) rfl dX6_cut_1 ?_
  refine lv_bipush (v := 40) hx hb dX6_cut_4 (by decide) ?_
  refine lv_icmp_lt (tgt := 11) hx hb dX6_cut_6 (by decide) (fun c_6 => ?_) (fun c_6 => ?_)
  ·
    have h6 : a < 40 := nI_ltc 40 (by omega) (by decide) c_6
    refine lv_aload_n hx hb dX6_cut_11 rfl (lv_at hl 0 rfl) ?_
    refine va_get (D := D) (ci := 6) (v := .ref p0) (C := RX6) (T := TX6) (N := 5) hx hb hts w_1 hown hK hP 0 rfl rfl 0 (by decide) w_3 (fun _ h9 => h9) rfl dX6_cut_12 ?_
    refine lv_aload_n hx hb dX6_cut_15 rfl (lv_at hl 0 rfl) ?_
    refine va_get (D := D) (ci := 6) (v := .int (nI a)) (C := RX6) (T := TX6) (N := 5) hx hb hts w_1 hown hK hP 0 rfl rfl 4 (by decide) w_2 (fun _ h9 => h9) rfl dX6_cut_16 ?_
    refine lv_iload_n hx hb dX6_cut_19 rfl (lv_at hl 1 rfl) ?_
    refine sv_iast hx hb hK hP hD hS 1 1 rfl rfl (vp_in_nI (by omega) (by omega)) dX6_cut_20 (fun g_1 H locs eg_1 hP hD hS => ?_)
    have eg_1 : g_1 = upd f0 a q := by rw [eg_1, nI_clamp (by omega)]
    subst eg_1
    have hP : va_P D vwCl [(h0, .inr (6, [.ref p0, .ref p1, .ref p2, .ref p3, .int (nI a)])), (p0, .inl (cI, 40, .inl (upd f0 a q))), (p1, .inl (cI, 40, .inl f1)), (p2, .inl (cZ, 40, .inl f2)), (p3, .inl (cI, 40, .inl f3))] H := hP
    have hD : va_D A [(h0, .inr (6, [.ref p0, .ref p1, .ref p2, .ref p3, .int (nI a)])), (p0, .inl (cI, 40, .inl (upd f0 a q))), (p1, .inl (cI, 40, .inl f1)), (p2, .inl (cZ, 40, .inl f2)), (p3, .inl (cI, 40, .inl f3))] := hD
    refine lv_aload_n hx hb dX6_cut_21 rfl (lv_at hl 0 rfl) ?_
    refine va_get (D := D) (ci := 6) (v := .ref p1) (C := RX6) (T := TX6) (N := 5) hx hb hts w_1 hown hK hP 0 rfl rfl 1 (by decide) w_4 (fun _ h9 => h9) rfl dX6_cut_22 ?_
    refine lv_aload_n hx hb dX6_cut_25 rfl (lv_at hl 0 rfl) ?_
    refine va_get (D := D) (ci := 6) (v := .int (nI a)) (C := RX6) (T := TX6) (N := 5) hx hb hts w_1 hown hK hP 0 rfl rfl 4 (by decide) w_2 (fun _ h9 => h9) rfl dX6_cut_26 ?_
    refine lv_iconst (v := 0) hx hb dX6_cut_29 (by decide) ?_
    refine sv_iast hx hb hK hP hD hS 2 1 rfl rfl (vp_in_nI (by omega) (by omega)) dX6_cut_30 (fun g_2 H locs eg_2 hP hD hS => ?_)
    have eg_2 : g_2 = upd f1 a (0) := by rw [eg_2, nI_clamp (by omega)]
    subst eg_2
    have hP : va_P D vwCl [(h0, .inr (6, [.ref p0, .ref p1, .ref p2, .ref p3, .int (nI a)])), (p0, .inl (cI, 40, .inl (upd f0 a q))), (p1, .inl (cI, 40, .inl (upd f1 a (0)))), (p2, .inl (cZ, 40, .inl f2)), (p3, .inl (cI, 40, .inl f3))] H := hP
    have hD : va_D A [(h0, .inr (6, [.ref p0, .ref p1, .ref p2, .ref p3, .int (nI a)])), (p0, .inl (cI, 40, .inl (upd f0 a q))), (p1, .inl (cI, 40, .inl (upd f1 a (0)))), (p2, .inl (cZ, 40, .inl f2)), (p3, .inl (cI, 40, .inl f3))] := hD
    refine lv_aload_n hx hb dX6_cut_31 rfl (lv_at hl 0 rfl) ?_
    refine va_get (D := D) (ci := 6) (v := .ref p2) (C := RX6) (T := TX6) (N := 5) hx hb hts w_1 hown hK hP 0 rfl rfl 2 (by decide) w_5 (fun _ h9 => h9) rfl dX6_cut_32 ?_
    refine lv_aload_n hx hb dX6_cut_35 rfl (lv_at hl 0 rfl) ?_
    refine va_get (D := D) (ci := 6) (v := .int (nI a)) (C := RX6) (T := TX6) (N := 5) hx hb hts w_1 hown hK hP 0 rfl rfl 4 (by decide) w_2 (fun _ h9 => h9) rfl dX6_cut_36 ?_
    refine lv_iconst (v := 0) hx hb dX6_cut_39 (by decide) ?_
    refine sv_zast hx hb hK hP hD hS 3 3 rfl rfl (vp_in_nI (by omega) (by omega)) dX6_cut_40 (fun g_3 H locs eg_3 hP hD hS => ?_)
    have eg_3 : g_3 = upd f2 a 0 := zst eg_3 (by omega) (Or.inl rfl)
    subst eg_3
    have hP : va_P D vwCl [(h0, .inr (6, [.ref p0, .ref p1, .ref p2, .ref p3, .int (nI a)])), (p0, .inl (cI, 40, .inl (upd f0 a q))), (p1, .inl (cI, 40, .inl (upd f1 a (0)))), (p2, .inl (cZ, 40, .inl (upd f2 a 0))), (p3, .inl (cI, 40, .inl f3))] H := hP
    have hD : va_D A [(h0, .inr (6, [.ref p0, .ref p1, .ref p2, .ref p3, .int (nI a)])), (p0, .inl (cI, 40, .inl (upd f0 a q))), (p1, .inl (cI, 40, .inl (upd f1 a (0)))), (p2, .inl (cZ, 40, .inl (upd f2 a 0))), (p3, .inl (cI, 40, .inl f3))] := hD
    refine lv_aload_n hx hb dX6_cut_41 rfl (lv_at hl 0 rfl) ?_
    refine va_get (D := D) (ci := 6) (v := .ref p3) (C := RX6) (T := TX6) (N := 5) hx hb hts w_1 hown hK hP 0 rfl rfl 3 (by decide) w_6 (fun _ h9 => h9) rfl dX6_cut_42 ?_
    refine lv_aload_n hx hb dX6_cut_45 rfl (lv_at hl 0 rfl) ?_
    refine va_get (D := D) (ci := 6) (v := .int (nI a)) (C := RX6) (T := TX6) (N := 5) hx hb hts w_1 hown hK hP 0 rfl rfl 4 (by decide) w_2 (fun _ h9 => h9) rfl dX6_cut_46 ?_
    refine lv_iconst (v := (-1)) hx hb dX6_cut_49 (by decide) ?_
    refine sv_iast hx hb hK hP hD hS 4 1 rfl rfl (vp_in_nI (by omega) (by omega)) dX6_cut_50 (fun g_4 H locs eg_4 hP hD hS => ?_)
    have eg_4 : g_4 = upd f3 a ((-1)) := by rw [eg_4, nI_clamp (by omega)]
    subst eg_4
    have hP : va_P D vwCl [(h0, .inr (6, [.ref p0, .ref p1, .ref p2, .ref p3, .int (nI a)])), (p0, .inl (cI, 40, .inl (upd f0 a q))), (p1, .inl (cI, 40, .inl (upd f1 a (0)))), (p2, .inl (cZ, 40, .inl (upd f2 a 0))), (p3, .inl (cI, 40, .inl (upd f3 a ((-1)))))] H := hP
    have hD : va_D A [(h0, .inr (6, [.ref p0, .ref p1, .ref p2, .ref p3, .int (nI a)])), (p0, .inl (cI, 40, .inl (upd f0 a q))), (p1, .inl (cI, 40, .inl (upd f1 a (0)))), (p2, .inl (cZ, 40, .inl (upd f2 a 0))), (p3, .inl (cI, 40, .inl (upd f3 a ((-1)))))] := hD
    refine lv_aload_n hx hb dX6_cut_51 rfl (lv_at hl 0 rfl) ?_
    refine lv_dup hx hb dX6_cut_52 rfl ?_
    refine va_get (D := D) (ci := 6) (v := .int (nI a)) (C := RX6) (T := TX6) (N := 5) hx hb hts w_1 hown hK hP 0 rfl rfl 4 (by decide) w_2 (fun _ h9 => h9) rfl dX6_cut_53 ?_
    refine lv_iconst (v := 1) hx hb dX6_cut_56 (by decide) ?_
    refine sv_iadd (v := nI (a + 1)) hx hb dX6_cut_57 (ax_add _ 1) ?_
    refine va_put (D := D) (ci := 6) (v := .int (nI (a + 1))) (ty := .int) (C := RX6) (T := TX6) (N := 5) hx hb hts w_1 tyX6 tyX6_ok nmX6 hown hK hP hD hS 0 rfl rfl 4 (by decide) w_2 (fun _ h9 => h9) rfl (by decide +kernel) rfl rfl (Nat.le_of_ble_eq_true rfl) dX6_cut_58 (fun H locs hP hD hS => ?_)
    have hP : va_P D vwCl [(h0, .inr (6, [.ref p0, .ref p1, .ref p2, .ref p3, .int (nI (a + 1))])), (p0, .inl (cI, 40, .inl (upd f0 a q))), (p1, .inl (cI, 40, .inl (upd f1 a (0)))), (p2, .inl (cZ, 40, .inl (upd f2 a 0))), (p3, .inl (cI, 40, .inl (upd f3 a ((-1)))))] H := hP
    have hD : va_D A [(h0, .inr (6, [.ref p0, .ref p1, .ref p2, .ref p3, .int (nI (a + 1))])), (p0, .inl (cI, 40, .inl (upd f0 a q))), (p1, .inl (cI, 40, .inl (upd f1 a (0)))), (p2, .inl (cZ, 40, .inl (upd f2 a 0))), (p3, .inl (cI, 40, .inl (upd f3 a ((-1)))))] := hD
    refine lv_aload_n hx hb dX6_cut_61 rfl (lv_at hl 0 rfl) ?_
    refine va_get (D := D) (ci := 6) (v := .int (nI (a + 1))) (C := RX6) (T := TX6) (N := 5) hx hb hts w_1 hown hK hP 0 rfl rfl 4 (by decide) w_2 (fun _ h9 => h9) rfl dX6_cut_62 ?_
    refine lv_iconst (v := 1) hx hb dX6_cut_65 (by decide) ?_
    refine sv_isub (v := nI a) hx hb dX6_cut_66 (nI_sub1 a) ?_
    have hP9 := hP.sub (ws' := [(h0, .inr (6, [.ref p0, .ref p1, .ref p2, .ref p3, .int (nI (a + 1))])), (p0, .inl (cI, 40, .inl (upd f0 a q))), (p1, .inl (cI, 40, .inl (upd f1 a (0)))), (p2, .inl (cZ, 40, .inl (upd f2 a 0))), (p3, .inl (cI, 40, .inl (upd f3 a ((-1)))))]) [0, 1, 2, 3, 4] rfl
    have hD9 := hD.sub (ws' := [(h0, .inr (6, [.ref p0, .ref p1, .ref p2, .ref p3, .int (nI (a + 1))])), (p0, .inl (cI, 40, .inl (upd f0 a q))), (p1, .inl (cI, 40, .inl (upd f1 a (0)))), (p2, .inl (cZ, 40, .inl (upd f2 a 0))), (p3, .inl (cI, 40, .inl (upd f3 a ((-1)))))]) [0, 1, 2, 3, 4] (by decide) rfl
    exact W.iret (v := nI a) hx hb hr (fun t ht hW => ⟨⟨_, ((a + 1), upd f0 a q, upd f1 a (0), upd f2 a 0, upd f3 a ((-1))), rfl, Or.inr ⟨h6, rfl, rfl, rfl, rfl, rfl, rfl⟩, by rw [ht]; exact hP9, va_K.moved hW.alike hK, hD9⟩, hS.F ht⟩) hS.2.2 dX6_cut_67
  ·
    refine lv_iconst (v := (-1)) hx hb dX6_cut_9 (by decide) ?_
    have hP9 := hP.sub (ws' := [(h0, .inr (6, [.ref p0, .ref p1, .ref p2, .ref p3, .int (nI a)])), (p0, .inl (cI, 40, .inl f0)), (p1, .inl (cI, 40, .inl f1)), (p2, .inl (cZ, 40, .inl f2)), (p3, .inl (cI, 40, .inl f3))]) [0, 1, 2, 3, 4] rfl
    have hD9 := hD.sub (ws' := [(h0, .inr (6, [.ref p0, .ref p1, .ref p2, .ref p3, .int (nI a)])), (p0, .inl (cI, 40, .inl f0)), (p1, .inl (cI, 40, .inl f1)), (p2, .inl (cZ, 40, .inl f2)), (p3, .inl (cI, 40, .inl f3))]) [0, 1, 2, 3, 4] (by decide) rfl
    exact W.iret (v := (-1)) hx hb hr (fun t ht hW => ⟨⟨_, (a, f0, f1, f2, f3), rfl, Or.inl ⟨Nat.not_lt.mp (fun z => c_6 (nI_lt z (by decide))), rfl, rfl, rfl, rfl, rfl, rfl⟩, by rw [ht]; exact hP9, va_K.moved hW.alike hK, hD9⟩, hS.F ht⟩) hS.2.2 dX6_cut_10

def woP (a : Nat) (f1 f2 : Nat → Int32) (q mo r : Int32) (g1 g2 : Nat → Int32) : Prop := (¬ vp_in q a ∧ r = 0 ∧ g1 = f1 ∧ g2 = f2) ∨ (vp_in q a ∧ g1 = upd f1 q.toNatClampNeg (f1 q.toNatClampNeg + 1) ∧ ((mo ≤ f1 q.toNatClampNeg + 1 ∧ g2 = upd f2 q.toNatClampNeg 1 ∧ r = 1) ∨ (¬ mo ≤ f1 q.toNatClampNeg + 1 ∧ g2 = f2 ∧ r = f2 q.toNatClampNeg)))
theorem wo_y {f : Nat → Int32} {i : Nat} : upd f i 1 i = 1 := pk_us

set_option maxHeartbeats 4000000 in
set_option maxRecDepth 100000 in
theorem f_X6_wear (l : Launch) (D : va_G) (cB cI cJ cZ : ClassId) (sz : Nat) (h0 p0 p1 p2 p3 a : Nat) (f0 f1 f2 f3 : Nat → Int32) (q mo : Int32) (ha : a ≤ 40) (hz : ∀ k, f2 k = 0 ∨ f2 k = 1) : Met l yX6_wearOut wsX6_wearOut ({ frames := 1, cells := 0, slots := 0, locals := 21 } : Room) (cPre D (aTy cB cI cJ cZ) [(h0, .inr (6, [.ref p0, .ref p1, .ref p2, .ref p3, .int (nI a)])), (p0, .inl (cI, 40, .inl f0)), (p1, .inl (cI, 40, .inl f1)), (p2, .inl (cZ, 40, .inl f2)), (p3, .inl (cI, 40, .inl f3))] sz [.ref h0, .int q, .int mo]) (va_Qi (fun (r : Int32) (u : (Nat → Int32) × (Nat → Int32)) => woP a f1 f2 q mo r u.1 u.2) (cB_ D (aTy cB cI cJ cZ) (va_A [(h0, .inr (6, [.ref p0, .ref p1, .ref p2, .ref p3, .int (nI a)])), (p0, .inl (cI, 40, .inl f0)), (p1, .inl (cI, 40, .inl f1)), (p2, .inl (cZ, 40, .inl f2)), (p3, .inl (cI, 40, .inl f3))] sz) (fun u => [(h0, .inr (6, [.ref p0, .ref p1, .ref p2, .ref p3, .int (nI a)])), (p0, .inl (cI, 40, .inl f0)), (p1, .inl (cI, 40, .inl u.1)), (p2, .inl (cZ, 40, .inl u.2)), (p3, .inl (cI, 40, .inl f3))])) (va_A [(h0, .inr (6, [.ref p0, .ref p1, .ref p2, .ref p3, .int (nI a)])), (p0, .inl (cI, 40, .inl f0)), (p1, .inl (cI, 40, .inl f1)), (p2, .inl (cZ, 40, .inl f2)), (p3, .inl (cI, 40, .inl f3))] sz)) 0 0 (va_A [(h0, .inr (6, [.ref p0, .ref p1, .ref p2, .ref p3, .int (nI a)])), (p0, .inl (cI, 40, .inl f0)), (p1, .inl (cI, 40, .inl f1)), (p2, .inl (cZ, 40, .inl f2)), (p3, .inl (cI, 40, .inl f3))] sz) := by
  refine Met.ofW (cc := cX6_wearOut) (maxL := 3) (ret := (some .boolean)) (by decide) rfl ?_
  intro p e s m args below meth c s₁ B hml hv
  obtain ⟨rfl, hsz, hP, hK, hD0⟩ := hv
  have hx := B.exec
  have hb := B.bytes
  have hr := B.returns
  have hts := atoms_spec (ws := wsX6_wearOut) B.pre
  have hown : s.vm.findClass RX6 = some m.cls := findClass_of_methodNamed B.named
  have hlocks := B.notSynchronized
  subst hsz
  have hD := hD0.self (sz := s.heap.size)
  generalize hAe : va_A [(h0, .inr (6, [.ref p0, .ref p1, .ref p2, .ref p3, .int (nI a)])), (p0, .inl (cI, 40, .inl f0)), (p1, .inl (cI, 40, .inl f1)), (p2, .inl (cZ, 40, .inl f2)), (p3, .inl (cI, 40, .inl f3))] s.heap.size = A at hD ⊢
  have hA : ∀ q : Nat, s.heap.size ≤ q → A q := fun q h => by rw [← hAe]; exact Or.inr h
  have hS : va_S A s.heap s.heap [] := va_S.rf
  have hP : va_P D vwCl [(h0, .inr (6, [.ref p0, .ref p1, .ref p2, .ref p3, .int (nI a)])), (p0, .inl (cI, 40, .inl f0)), (p1, .inl (cI, 40, .inl f1)), (p2, .inl (cZ, 40, .inl f2)), (p3, .inl (cI, 40, .inl f3))] s.heap := hP
  have w_1 : ∀ w ∈ wsX60, w ∈ wsX6_wearOut := by decide +kernel
  have w_2 := hts (Cond.fieldLink RX6 15 "BlueCoats$Wardrobe" "worn" "[I") (by decide +kernel)
  have w_3 := hts (Cond.fieldLink RX6 18 "BlueCoats$Wardrobe" "gone" "[Z") (by decide +kernel)
  have hl := lv_entry ([.ref h0, .int q, .int mo]) (n := 3) (Nat.le_of_ble_eq_true rfl)
  rw [lg_entry_eq]
  generalize (lg_sl ([.ref h0, .int q, .int mo]) ++ List.replicate (3 - (lg_sl ([.ref h0, .int q, .int mo])).length) Slot.unset).toArray = ls at hl ⊢
  have hl : lv_has ls 3 [(0, .ref h0), (1, .int q), (2, .int mo)] := hl
  refine lv_aload_n hx hb dX6_wearOut_0 rfl (lv_at hl 0 rfl) ?_
  refine lv_iload_n hx hb dX6_wearOut_1 rfl (lv_at hl 1 rfl) ?_
  refine vp_callSi (va_Run.run (va_runV (As := [.int q]) (rest := []) ⟨hx, hb, hml, hown, hts⟩ (g_X6_has l D cB cI cJ cZ h0 p0 p1 p2 p3 a q (by omega)) (cwV 1 hts gX6_wearOut_X6_has rfl rfl rfl (by decide +kernel) ⟨Nat.le_of_ble_eq_true rfl, Nat.le_of_ble_eq_true rfl⟩) (pre_VR (hP.sub (ws' := [(h0, .inr (6, [.ref p0, .ref p1, .ref p2, .ref p3, .int (nI a)]))]) [0] rfl) hK 0 rfl rfl rfl) rfl rfl hl.1 rfl (lv_room (Nat.le_of_ble_eq_true rfl)) dX6_wearOut_2 ⟨Nat.le_of_ble_eq_true rfl, Nat.le_of_ble_eq_true rfl⟩)) (fun r_1 hw_r_1 => ?_)
  refine lv_if_ne (tgt := 10) hx hb dX6_wearOut_5 (by decide) (fun c_5 => ?_) (fun c_5 => ?_)
  ·
    refine lv_aload_n hx hb dX6_wearOut_10 rfl (lv_at hl 0 rfl) ?_
    refine va_get (D := D) (ci := 6) (v := .ref p1) (C := RX6) (T := TX6) (N := 5) hx hb hts w_1 hown hK hP 0 rfl rfl 1 (by decide) w_2 (fun _ h9 => h9) rfl dX6_wearOut_11 ?_
    refine lv_iload_n hx hb dX6_wearOut_14 rfl (lv_at hl 1 rfl) ?_
    refine lv_dup2_11 hx hb dX6_wearOut_15 rfl rfl ?_
    refine sv_iald (v := f1 q.toNatClampNeg) hx hb hK hP 2 1 rfl rfl (in_up (has_in hw_r_1 c_5) ha) rfl dX6_wearOut_16 ?_
    refine lv_iconst (v := 1) hx hb dX6_wearOut_17 (by decide) ?_
    refine sv_iadd (v := (f1 q.toNatClampNeg) + 1) hx hb dX6_wearOut_18 rfl ?_
    refine sv_iast hx hb hK hP hD hS 2 1 rfl rfl (in_up (has_in hw_r_1 c_5) ha) dX6_wearOut_19 (fun g_2 H locs eg_2 hP hD hS => ?_)
    have eg_2 : g_2 = upd f1 q.toNatClampNeg (f1 q.toNatClampNeg + 1) := eg_2
    subst eg_2
    have hP : va_P D vwCl [(h0, .inr (6, [.ref p0, .ref p1, .ref p2, .ref p3, .int (nI a)])), (p0, .inl (cI, 40, .inl f0)), (p1, .inl (cI, 40, .inl (upd f1 q.toNatClampNeg (f1 q.toNatClampNeg + 1)))), (p2, .inl (cZ, 40, .inl f2)), (p3, .inl (cI, 40, .inl f3))] H := hP
    have hD : va_D A [(h0, .inr (6, [.ref p0, .ref p1, .ref p2, .ref p3, .int (nI a)])), (p0, .inl (cI, 40, .inl f0)), (p1, .inl (cI, 40, .inl (upd f1 q.toNatClampNeg (f1 q.toNatClampNeg + 1)))), (p2, .inl (cZ, 40, .inl f2)), (p3, .inl (cI, 40, .inl f3))] := hD
    refine lv_aload_n hx hb dX6_wearOut_20 rfl (lv_at hl 0 rfl) ?_
    refine va_get (D := D) (ci := 6) (v := .ref p1) (C := RX6) (T := TX6) (N := 5) hx hb hts w_1 hown hK hP 0 rfl rfl 1 (by decide) w_2 (fun _ h9 => h9) rfl dX6_wearOut_21 ?_
    refine lv_iload_n hx hb dX6_wearOut_24 rfl (lv_at hl 1 rfl) ?_
    refine sv_iald (v := (upd f1 q.toNatClampNeg (f1 q.toNatClampNeg + 1)) q.toNatClampNeg) hx hb hK hP 2 1 rfl rfl (in_up (has_in hw_r_1 c_5) ha) rfl dX6_wearOut_25 ?_
    refine lv_iload_n hx hb dX6_wearOut_26 rfl (lv_at hl 2 rfl) ?_
    refine lv_icmp_lt (tgt := 37) hx hb dX6_wearOut_27 (by decide) (fun c_27 => ?_) (fun c_27 => ?_)
    ·
      refine lv_aload_n hx hb dX6_wearOut_37 rfl (lv_at hl 0 rfl) ?_
      refine va_get (D := D) (ci := 6) (v := .ref p2) (C := RX6) (T := TX6) (N := 5) hx hb hts w_1 hown hK hP 0 rfl rfl 2 (by decide) w_3 (fun _ h9 => h9) rfl dX6_wearOut_38 ?_
      refine lv_iload_n hx hb dX6_wearOut_41 rfl (lv_at hl 1 rfl) ?_
      refine sv_zald (v := f2 q.toNatClampNeg) hx hb hK hP 3 3 rfl rfl (in_up (has_in hw_r_1 c_5) ha) rfl dX6_wearOut_42 ?_
      have hP9 := hP.sub (ws' := [(h0, .inr (6, [.ref p0, .ref p1, .ref p2, .ref p3, .int (nI a)])), (p0, .inl (cI, 40, .inl f0)), (p1, .inl (cI, 40, .inl (upd f1 q.toNatClampNeg (f1 q.toNatClampNeg + 1)))), (p2, .inl (cZ, 40, .inl f2)), (p3, .inl (cI, 40, .inl f3))]) [0, 1, 2, 3, 4] rfl
      have hD9 := hD.sub (ws' := [(h0, .inr (6, [.ref p0, .ref p1, .ref p2, .ref p3, .int (nI a)])), (p0, .inl (cI, 40, .inl f0)), (p1, .inl (cI, 40, .inl (upd f1 q.toNatClampNeg (f1 q.toNatClampNeg + 1)))), (p2, .inl (cZ, 40, .inl f2)), (p3, .inl (cI, 40, .inl f3))]) [0, 1, 2, 3, 4] (by decide) rfl
      exact W.zret (v := f2 q.toNatClampNeg) hx hb hr (zb_nar (by exact hz _)) (fun t ht hW => ⟨⟨_, (upd f1 q.toNatClampNeg (f1 q.toNatClampNeg + 1), f2), rfl, Or.inr ⟨has_in hw_r_1 c_5, rfl, Or.inr ⟨by have h := c_27; rw [pk_us] at h; exact Int32.not_le.mpr h, rfl, rfl⟩⟩, by rw [ht]; exact hP9, va_K.moved hW.alike hK, hD9⟩, hS.F ht⟩) hS.2.2 dX6_wearOut_43
    ·
      refine lv_aload_n hx hb dX6_wearOut_30 rfl (lv_at hl 0 rfl) ?_
      refine va_get (D := D) (ci := 6) (v := .ref p2) (C := RX6) (T := TX6) (N := 5) hx hb hts w_1 hown hK hP 0 rfl rfl 2 (by decide) w_3 (fun _ h9 => h9) rfl dX6_wearOut_31 ?_
      refine lv_iload_n hx hb dX6_wearOut_34 rfl (lv_at hl 1 rfl) ?_
      refine lv_iconst (v := 1) hx hb dX6_wearOut_35 (by decide) ?_
      refine sv_zast hx hb hK hP hD hS 3 3 rfl rfl (in_up (has_in hw_r_1 c_5) ha) dX6_wearOut_36 (fun g_3 H locs eg_3 hP hD hS => ?_)
      have eg_3 : g_3 = upd f2 q.toNatClampNeg 1 := eg_3
      subst eg_3
      have hP : va_P D vwCl [(h0, .inr (6, [.ref p0, .ref p1, .ref p2, .ref p3, .int (nI a)])), (p0, .inl (cI, 40, .inl f0)), (p1, .inl (cI, 40, .inl (upd f1 q.toNatClampNeg (f1 q.toNatClampNeg + 1)))), (p2, .inl (cZ, 40, .inl (upd f2 q.toNatClampNeg 1))), (p3, .inl (cI, 40, .inl f3))] H := hP
      have hD : va_D A [(h0, .inr (6, [.ref p0, .ref p1, .ref p2, .ref p3, .int (nI a)])), (p0, .inl (cI, 40, .inl f0)), (p1, .inl (cI, 40, .inl (upd f1 q.toNatClampNeg (f1 q.toNatClampNeg + 1)))), (p2, .inl (cZ, 40, .inl (upd f2 q.toNatClampNeg 1))), (p3, .inl (cI, 40, .inl f3))] := hD
      refine lv_aload_n hx hb dX6_wearOut_37 rfl (lv_at hl 0 rfl) ?_
      refine va_get (D := D) (ci := 6) (v := .ref p2) (C := RX6) (T := TX6) (N := 5) hx hb hts w_1 hown hK hP 0 rfl rfl 2 (by decide) w_3 (fun _ h9 => h9) rfl dX6_wearOut_38 ?_
      refine lv_iload_n hx hb dX6_wearOut_41 rfl (lv_at hl 1 rfl) ?_
      refine sv_zald (v := (upd f2 q.toNatClampNeg 1) q.toNatClampNeg) hx hb hK hP 3 3 rfl rfl (in_up (has_in hw_r_1 c_5) ha) rfl dX6_wearOut_42 ?_
      have hP9 := hP.sub (ws' := [(h0, .inr (6, [.ref p0, .ref p1, .ref p2, .ref p3, .int (nI a)])), (p0, .inl (cI, 40, .inl f0)), (p1, .inl (cI, 40, .inl (upd f1 q.toNatClampNeg (f1 q.toNatClampNeg + 1)))), (p2, .inl (cZ, 40, .inl (upd f2 q.toNatClampNeg 1))), (p3, .inl (cI, 40, .inl f3))]) [0, 1, 2, 3, 4] rfl
      have hD9 := hD.sub (ws' := [(h0, .inr (6, [.ref p0, .ref p1, .ref p2, .ref p3, .int (nI a)])), (p0, .inl (cI, 40, .inl f0)), (p1, .inl (cI, 40, .inl (upd f1 q.toNatClampNeg (f1 q.toNatClampNeg + 1)))), (p2, .inl (cZ, 40, .inl (upd f2 q.toNatClampNeg 1))), (p3, .inl (cI, 40, .inl f3))]) [0, 1, 2, 3, 4] (by decide) rfl
      exact W.zret (v := (upd f2 q.toNatClampNeg 1) q.toNatClampNeg) hx hb hr (zb_nar (by exact (zb_upd hz _ (Or.inr rfl)) _)) (fun t ht hW => ⟨⟨_, (upd f1 q.toNatClampNeg (f1 q.toNatClampNeg + 1), upd f2 q.toNatClampNeg 1), rfl, Or.inr ⟨has_in hw_r_1 c_5, rfl, Or.inl ⟨by have h := c_27; rw [pk_us] at h; exact Int32.not_lt.mp h, rfl, pk_us⟩⟩, by rw [ht]; exact hP9, va_K.moved hW.alike hK, hD9⟩, hS.F ht⟩) hS.2.2 dX6_wearOut_43
  ·
    refine lv_iconst (v := 0) hx hb dX6_wearOut_8 (by decide) ?_
    have hP9 := hP.sub (ws' := [(h0, .inr (6, [.ref p0, .ref p1, .ref p2, .ref p3, .int (nI a)])), (p0, .inl (cI, 40, .inl f0)), (p1, .inl (cI, 40, .inl f1)), (p2, .inl (cZ, 40, .inl f2)), (p3, .inl (cI, 40, .inl f3))]) [0, 1, 2, 3, 4] rfl
    have hD9 := hD.sub (ws' := [(h0, .inr (6, [.ref p0, .ref p1, .ref p2, .ref p3, .int (nI a)])), (p0, .inl (cI, 40, .inl f0)), (p1, .inl (cI, 40, .inl f1)), (p2, .inl (cZ, 40, .inl f2)), (p3, .inl (cI, 40, .inl f3))]) [0, 1, 2, 3, 4] (by decide) rfl
    exact W.zret (v := 0) hx hb hr rfl (fun t ht hW => ⟨⟨_, (f1, f2), rfl, Or.inl ⟨has_out hw_r_1 c_5, rfl, rfl, rfl⟩, by rw [ht]; exact hP9, va_K.moved hW.alike hK, hD9⟩, hS.F ht⟩) hS.2.2 dX6_wearOut_9

