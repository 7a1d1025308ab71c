set_option maxHeartbeats 4000000 in
set_option maxRecDepth 100000 in
theorem g_X6_cut (l : Launch) (D : va_G) (cB cI cJ cZ : ClassId) (sz : Nat) (h0 p0 p1 p2 p3 a : Nat) (f0 f1 f2 f3 : Nat → Int32) (q : Int32) (ha : a ≤ 40) (hz : ∀ k, f2 k = 0 ∨ f2 k = 1) : Met l yX6_cut wsX6_cut ({ frames := 0, cells := 0, slots := 0, locals := 0 } : Room) (cPre D (aTy cB cI cJ cZ) [(h0, .inr (6, [.ref p0, .ref p1, .ref p2, .ref p3, .int (nI a)])), (p0, .inl (cI, 40, .inl f0)), (p1, .inl (cI, 40, .inl f1)), (p2, .inl (cZ, 40, .inl f2)), (p3, .inl (cI, 40, .inl f3))] sz [.ref h0, .int q]) (va_Qi (fun (r : Int32) (u : Nat × (Nat → Int32) × (Nat → Int32) × (Nat → Int32) × (Nat → Int32)) => (u.1 ≤ 40 ∧ a ≤ u.1) ∧ (∀ k, u.2.2.2.1 k = 0 ∨ u.2.2.2.1 k = 1) ∧ ((r = -1 ∧ u.1 = a) ∨ (r = nI a ∧ u.1 = a + 1))) (cB_ D (aTy cB cI cJ cZ) (va_A [(h0, .inr (6, [.ref p0, .ref p1, .ref p2, .ref p3, .int (nI a)])), (p0, .inl (cI, 40, .inl f0)), (p1, .inl (cI, 40, .inl f1)), (p2, .inl (cZ, 40, .inl f2)), (p3, .inl (cI, 40, .inl f3))] sz) (fun u => [(h0, .inr (6, [.ref p0, .ref p1, .ref p2, .ref p3, .int (nI (u.1))])), (p0, .inl (cI, 40, .inl u.2.1)), (p1, .inl (cI, 40, .inl u.2.2.1)), (p2, .inl (cZ, 40, .inl u.2.2.2.1)), (p3, .inl (cI, 40, .inl u.2.2.2.2))])) (va_A [(h0, .inr (6, [.ref p0, .ref p1, .ref p2, .ref p3, .int (nI a)])), (p0, .inl (cI, 40, .inl f0)), (p1, .inl (cI, 40, .inl f1)), (p2, .inl (cZ, 40, .inl f2)), (p3, .inl (cI, 40, .inl f3))] sz)) 0 0 (va_A [(h0, .inr (6, [.ref p0, .ref p1, .ref p2, .ref p3, .int (nI a)])), (p0, .inl (cI, 40, .inl f0)), (p1, .inl (cI, 40, .inl f1)), (p2, .inl (cZ, 40, .inl f2)), (p3, .inl (cI, 40, .inl f3))] sz) := by
  refine Met.ofW (cc := cX6_cut) (maxL := 2) (ret := (some .int)) (by decide) rfl ?_
  intro p e s m args below meth c s₁ B hml hv
  obtain ⟨rfl, hsz, hP, hK, hD0⟩ := hv
  have hx := B.exec
  have hb := B.bytes
  have hr := B.returns
  have hts := atoms_spec (ws := wsX6_cut) B.pre
  have hown : s.vm.findClass RX6 = some m.cls := findClass_of_methodNamed B.named
  have hlocks := B.notSynchronized
  subst hsz
  have hD := hD0.self (sz := s.heap.size)
  generalize hAe : va_A [(h0, .inr (6, [.ref p0, .ref p1, .ref p2, .ref p3, .int (nI a)])), (p0, .inl (cI, 40, .inl f0)), (p1, .inl (cI, 40, .inl f1)), (p2, .inl (cZ, 40, .inl f2)), (p3, .inl (cI, 40, .inl f3))] s.heap.size = A at hD ⊢
  have hA : ∀ q : Nat, s.heap.size ≤ q → A q := fun q h => by rw [← hAe]; exact Or.inr h
  have hS : va_S A s.heap s.heap [] := va_S.rf
  have hP : va_P D vwCl [(h0, .inr (6, [.ref p0, .ref p1, .ref p2, .ref p3, .int (nI a)])), (p0, .inl (cI, 40, .inl f0)), (p1, .inl (cI, 40, .inl f1)), (p2, .inl (cZ, 40, .inl f2)), (p3, .inl (cI, 40, .inl f3))] s.heap := hP
  have w_1 : ∀ w ∈ wsX60, w ∈ wsX6_cut := by decide +kernel
  have w_2 := hts (Cond.fieldLink RX6 25 "BlueCoats$Wardrobe" "number" "I") (by decide +kernel)
  have w_3 := hts (Cond.fieldLink RX6 11 "BlueCoats$Wardrobe" "size" "[I") (by decide +kernel)
  have w_4 := hts (Cond.fieldLink RX6 15 "BlueCoats$Wardrobe" "worn" "[I") (by decide +kernel)
  have w_5 := hts (Cond.fieldLink RX6 18 "BlueCoats$Wardrobe" "gone" "[Z") (by decide +kernel)
  have w_6 := hts (Cond.fieldLink RX6 22 "BlueCoats$Wardrobe" "wearer" "[I") (by decide +kernel)
  have hl := lv_entry ([.ref h0, .int q]) (n := 2) (Nat.le_of_ble_eq_true rfl)
  rw [lg_entry_eq]
  generalize (lg_sl ([.ref h0, .int q]) ++ List.replicate (2 - (lg_sl ([.ref h0, .int q])).length) Slot.unset).toArray = ls at hl ⊢
  have hl : lv_has ls 2 [(0, .ref h0), (1, .int q)] := hl
  refine lv_aload_n hx hb dX6_cut_0 rfl (lv_at hl 0 rfl) ?_
  refine va_get (D := D) (ci := 6) (v := .int (nI a)) (C := RX6) (T := TX6) (N := 5) hx hb hts w_1 hown hK hP 0 rfl rfl 4 (by decide) w_2 (fun _ h9 => h9) rfl dX6_cut_1 ?_
  refine lv_bipush (v := 40) hx hb dX6_cut_4 (by decide) ?_
  refine lv_icmp_lt (tgt := 11) hx hb dX6_cut_6 (by decide) (fun c_6 => ?_) (fun c_6 => ?_)
  ·
    have h6 : a < 40 := nI_ltc 40 (by omega) (by decide) c_6
    refine lv_aload_n hx hb dX6_cut_11 rfl (lv_at hl 0 rfl) ?_
    refine va_get (D := D) (ci := 6) (v := .ref p0) (C := RX6) (T := TX6) (N := 5) hx hb hts w_1 hown hK hP 0 rfl rfl 0 (by decide) w_3 (fun _ h9 => h9) rfl dX6_cut_12 ?_
    refine lv_aload_n hx hb dX6_cut_15 rfl (lv_at hl 0 rfl) ?_
    refine va_get (D := D) (ci := 6) (v := .int (nI a)) (C := RX6) (T := TX6) (N := 5) hx hb hts w_1 hown hK hP 0 rfl rfl 4 (by decide) w_2 (fun _ h9 => h9) rfl dX6_cut_16 ?_
    refine lv_iload_n hx hb dX6_cut_19 rfl (lv_at hl 1 rfl) ?_
    refine sv_iast hx hb hK hP hD hS 1 1 rfl rfl (vp_in_nI (by omega) (by omega)) dX6_cut_20 (fun g_1 H locs eg_1 hP hD hS => ?_)
    have hP : va_P D vwCl [(h0, .inr (6, [.ref p0, .ref p1, .ref p2, .ref p3, .int (nI a)])), (p0, .inl (cI, 40, .inl g_1)), (p1, .inl (cI, 40, .inl f1)), (p2, .inl (cZ, 40, .inl f2)), (p3, .inl (cI, 40, .inl f3))] H := hP
    have hD : va_D A [(h0, .inr (6, [.ref p0, .ref p1, .ref p2, .ref p3, .int (nI a)])), (p0, .inl (cI, 40, .inl g_1)), (p1, .inl (cI, 40, .inl f1)), (p2, .inl (cZ, 40, .inl f2)), (p3, .inl (cI, 40, .inl f3))] := hD
    refine lv_aload_n hx hb dX6_cut_21 rfl (lv_at hl 0 rfl) ?_
    refine va_get (D := D) (ci := 6) (v := .ref p1) (C := RX6) (T := TX6) (N := 5) hx hb hts w_1 hown hK hP 0 rfl rfl 1 (by decide) w_4 (fun _ h9 => h9) rfl dX6_cut_22 ?_
    refine lv_aload_n hx hb dX6_cut_25 rfl (lv_at hl 0 rfl) ?_
    refine va_get (D := D) (ci := 6) (v := .int (nI a)) (C := RX6) (T := TX6) (N := 5) hx hb hts w_1 hown hK hP 0 rfl rfl 4 (by decide) w_2 (fun _ h9 => h9) rfl dX6_cut_26 ?_
    refine lv_iconst (v := 0) hx hb dX6_cut_29 (by decide) ?_
    refine sv_iast hx hb hK hP hD hS 2 1 rfl rfl (vp_in_nI (by omega) (by omega)) dX6_cut_30 (fun g_2 H locs eg_2 hP hD hS => ?_)
    have hP : va_P D vwCl [(h0, .inr (6, [.ref p0, .ref p1, .ref p2, .ref p3, .int (nI a)])), (p0, .inl (cI, 40, .inl g_1)), (p1, .inl (cI, 40, .inl g_2)), (p2, .inl (cZ, 40, .inl f2)), (p3, .inl (cI, 40, .inl f3))] H := hP
    have hD : va_D A [(h0, .inr (6, [.ref p0, .ref p1, .ref p2, .ref p3, .int (nI a)])), (p0, .inl (cI, 40, .inl g_1)), (p1, .inl (cI, 40, .inl g_2)), (p2, .inl (cZ, 40, .inl f2)), (p3, .inl (cI, 40, .inl f3))] := hD
    refine lv_aload_n hx hb dX6_cut_31 rfl (lv_at hl 0 rfl) ?_
    refine va_get (D := D) (ci := 6) (v := .ref p2) (C := RX6) (T := TX6) (N := 5) hx hb hts w_1 hown hK hP 0 rfl rfl 2 (by decide) w_5 (fun _ h9 => h9) rfl dX6_cut_32 ?_
    refine lv_aload_n hx hb dX6_cut_35 rfl (lv_at hl 0 rfl) ?_
    refine va_get (D := D) (ci := 6) (v := .int (nI a)) (C := RX6) (T := TX6) (N := 5) hx hb hts w_1 hown hK hP 0 rfl rfl 4 (by decide) w_2 (fun _ h9 => h9) rfl dX6_cut_36 ?_
    refine lv_iconst (v := 0) hx hb dX6_cut_39 (by decide) ?_
    refine sv_zast hx hb hK hP hD hS 3 3 rfl rfl (vp_in_nI (by omega) (by omega)) dX6_cut_40 (fun g_3 H locs eg_3 hP hD hS => ?_)
    have eg_3 : g_3 = upd f2 (nI a).toNatClampNeg (vp_nar .boolean 0) := eg_3
    subst eg_3
    have hP : va_P D vwCl [(h0, .inr (6, [.ref p0, .ref p1, .ref p2, .ref p3, .int (nI a)])), (p0, .inl (cI, 40, .inl g_1)), (p1, .inl (cI, 40, .inl g_2)), (p2, .inl (cZ, 40, .inl (upd f2 (nI a).toNatClampNeg (vp_nar .boolean 0)))), (p3, .inl (cI, 40, .inl f3))] H := hP
    have hD : va_D A [(h0, .inr (6, [.ref p0, .ref p1, .ref p2, .ref p3, .int (nI a)])), (p0, .inl (cI, 40, .inl g_1)), (p1, .inl (cI, 40, .inl g_2)), (p2, .inl (cZ, 40, .inl (upd f2 (nI a).toNatClampNeg (vp_nar .boolean 0)))), (p3, .inl (cI, 40, .inl f3))] := hD
    refine lv_aload_n hx hb dX6_cut_41 rfl (lv_at hl 0 rfl) ?_
    refine va_get (D := D) (ci := 6) (v := .ref p3) (C := RX6) (T := TX6) (N := 5) hx hb hts w_1 hown hK hP 0 rfl rfl 3 (by decide) w_6 (fun _ h9 => h9) rfl dX6_cut_42 ?_
    refine lv_aload_n hx hb dX6_cut_45 rfl (lv_at hl 0 rfl) ?_
    refine va_get (D := D) (ci := 6) (v := .int (nI a)) (C := RX6) (T := TX6) (N := 5) hx hb hts w_1 hown hK hP 0 rfl rfl 4 (by decide) w_2 (fun _ h9 => h9) rfl dX6_cut_46 ?_
    refine lv_iconst (v := (-1)) hx hb dX6_cut_49 (by decide) ?_
    refine sv_iast hx hb hK hP hD hS 4 1 rfl rfl (vp_in_nI (by omega) (by omega)) dX6_cut_50 (fun g_4 H locs eg_4 hP hD hS => ?_)
    have hP : va_P D vwCl [(h0, .inr (6, [.ref p0, .ref p1, .ref p2, .ref p3, .int (nI a)])), (p0, .inl (cI, 40, .inl g_1)), (p1, .inl (cI, 40, .inl g_2)), (p2, .inl (cZ, 40, .inl (upd f2 (nI a).toNatClampNeg (vp_nar .boolean 0)))), (p3, .inl (cI, 40, .inl g_4))] H := hP
    have hD : va_D A [(h0, .inr (6, [.ref p0, .ref p1, .ref p2, .ref p3, .int (nI a)])), (p0, .inl (cI, 40, .inl g_1)), (p1, .inl (cI, 40, .inl g_2)), (p2, .inl (cZ, 40, .inl (upd f2 (nI a).toNatClampNeg (vp_nar .boolean 0)))), (p3, .inl (cI, 40, .inl g_4))] := hD
    refine lv_aload_n hx hb dX6_cut_51 rfl (lv_at hl 0 rfl) ?_
    refine lv_dup hx hb dX6_cut_52 rfl ?_
    refine va_get (D := D) (ci := 6) (v := .int (nI a)) (C := RX6) (T := TX6) (N := 5) hx hb hts w_1 hown hK hP 0 rfl rfl 4 (by decide) w_2 (fun _ h9 => h9) rfl dX6_cut_53 ?_
    refine lv_iconst (v := 1) hx hb dX6_cut_56 (by decide) ?_
    refine sv_iadd (v := nI (a + 1)) hx hb dX6_cut_57 (ax_add _ 1) ?_
    refine va_put (D := D) (ci := 6) (v := .int (nI (a + 1))) (ty := .int) (C := RX6) (T := TX6) (N := 5) hx hb hts w_1 tyX6 tyX6_ok nmX6 hown hK hP hD hS 0 rfl rfl 4 (by decide) w_2 (fun _ h9 => h9) rfl (by decide +kernel) rfl rfl (Nat.le_of_ble_eq_true rfl) dX6_cut_58 (fun H locs hP hD hS => ?_)
    have hP : va_P D vwCl [(h0, .inr (6, [.ref p0, .ref p1, .ref p2, .ref p3, .int (nI (a + 1))])), (p0, .inl (cI, 40, .inl g_1)), (p1, .inl (cI, 40, .inl g_2)), (p2, .inl (cZ, 40, .inl (upd f2 (nI a).toNatClampNeg (vp_nar .boolean 0)))), (p3, .inl (cI, 40, .inl g_4))] H := hP
    have hD : va_D A [(h0, .inr (6, [.ref p0, .ref p1, .ref p2, .ref p3, .int (nI (a + 1))])), (p0, .inl (cI, 40, .inl g_1)), (p1, .inl (cI, 40, .inl g_2)), (p2, .inl (cZ, 40, .inl (upd f2 (nI a).toNatClampNeg (vp_nar .boolean 0)))), (p3, .inl (cI, 40, .inl g_4))] := hD
    refine lv_aload_n hx hb dX6_cut_61 rfl (lv_at hl 0 rfl) ?_
    refine va_get (D := D) (ci := 6) (v := .int (nI (a + 1))) (C := RX6) (T := TX6) (N := 5) hx hb hts w_1 hown hK hP 0 rfl rfl 4 (by decide) w_2 (fun _ h9 => h9) rfl dX6_cut_62 ?_
    refine lv_iconst (v := 1) hx hb dX6_cut_65 (by decide) ?_
    refine sv_isub (v := nI a) hx hb dX6_cut_66 (nI_sub1 a) ?_
    have hP9 := hP.sub (ws' := [(h0, .inr (6, [.ref p0, .ref p1, .ref p2, .ref p3, .int (nI (a + 1))])), (p0, .inl (cI, 40, .inl g_1)), (p1, .inl (cI, 40, .inl g_2)), (p2, .inl (cZ, 40, .inl (upd f2 (nI a).toNatClampNeg (vp_nar .boolean 0)))), (p3, .inl (cI, 40, .inl g_4))]) [0, 1, 2, 3, 4] rfl
    have hD9 := hD.sub (ws' := [(h0, .inr (6, [.ref p0, .ref p1, .ref p2, .ref p3, .int (nI (a + 1))])), (p0, .inl (cI, 40, .inl g_1)), (p1, .inl (cI, 40, .inl g_2)), (p2, .inl (cZ, 40, .inl (upd f2 (nI a).toNatClampNeg (vp_nar .boolean 0)))), (p3, .inl (cI, 40, .inl g_4))]) [0, 1, 2, 3, 4] (by decide) rfl
    exact W.iret (v := nI a) hx hb hr (fun t ht hW => ⟨⟨_, ((a + 1), g_1, g_2, upd f2 (nI a).toNatClampNeg (vp_nar .boolean 0), g_4), rfl, ⟨⟨h6, Nat.le_succ _⟩, zb_upd hz _ (Or.inl rfl), Or.inr ⟨rfl, rfl⟩⟩, by rw [ht]; exact hP9, va_K.moved hW.alike hK, hD9⟩, hS.F ht⟩) hS.2.2 dX6_cut_67
  ·
    refine lv_iconst (v := (-1)) hx hb dX6_cut_9 (by decide) ?_
    have hP9 := hP.sub (ws' := [(h0, .inr (6, [.ref p0, .ref p1, .ref p2, .ref p3, .int (nI a)])), (p0, .inl (cI, 40, .inl f0)), (p1, .inl (cI, 40, .inl f1)), (p2, .inl (cZ, 40, .inl f2)), (p3, .inl (cI, 40, .inl f3))]) [0, 1, 2, 3, 4] rfl
    have hD9 := hD.sub (ws' := [(h0, .inr (6, [.ref p0, .ref p1, .ref p2, .ref p3, .int (nI a)])), (p0, .inl (cI, 40, .inl f0)), (p1, .inl (cI, 40, .inl f1)), (p2, .inl (cZ, 40, .inl f2)), (p3, .inl (cI, 40, .inl f3))]) [0, 1, 2, 3, 4] (by decide) rfl
    exact W.iret (v := (-1)) hx hb hr (fun t ht hW => ⟨⟨_, (a, f0, f1, f2, f3), rfl, ⟨⟨ha, Nat.le_refl _⟩, hz, Or.inl ⟨rfl, rfl⟩⟩, by rw [ht]; exact hP9, va_K.moved hW.alike hK, hD9⟩, hS.F ht⟩) hS.2.2 dX6_cut_10

set_option maxHeartbeats 4000000 in
set_option maxRecDepth 100000 in
theorem g_X6_wear (l : Launch) (D : va_G) (cB cI cJ cZ : ClassId) (sz : Nat) (h0 p0 p1 p2 p3 a : Nat) (f0 f1 f2 f3 : Nat → Int32) (q mo : Int32) (ha : a ≤ 40) (hz : ∀ k, f2 k = 0 ∨ f2 k = 1) : Met l yX6_wearOut wsX6_wearOut ({ frames := 1, cells := 0, slots := 0, locals := 21 } : Room) (cPre D (aTy cB cI cJ cZ) [(h0, .inr (6, [.ref p0, .ref p1, .ref p2, .ref p3, .int (nI a)])), (p0, .inl (cI, 40, .inl f0)), (p1, .inl (cI, 40, .inl f1)), (p2, .inl (cZ, 40, .inl f2)), (p3, .inl (cI, 40, .inl f3))] sz [.ref h0, .int q, .int mo]) (va_Qi (fun (r : Int32) (u : (Nat → Int32) × (Nat → Int32)) => ∀ k, u.2 k = 0 ∨ u.2 k = 1) (cB_ D (aTy cB cI cJ cZ) (va_A [(h0, .inr (6, [.ref p0, .ref p1, .ref p2, .ref p3, .int (nI a)])), (p0, .inl (cI, 40, .inl f0)), (p1, .inl (cI, 40, .inl f1)), (p2, .inl (cZ, 40, .inl f2)), (p3, .inl (cI, 40, .inl f3))] sz) (fun u => [(h0, .inr (6, [.ref p0, .ref p1, .ref p2, .ref p3, .int (nI a)])), (p0, .inl (cI, 40, .inl f0)), (p1, .inl (cI, 40, .inl u.1)), (p2, .inl (cZ, 40, .inl u.2)), (p3, .inl (cI, 40, .inl f3))])) (va_A [(h0, .inr (6, [.ref p0, .ref p1, .ref p2, .ref p3, .int (nI a)])), (p0, .inl (cI, 40, .inl f0)), (p1, .inl (cI, 40, .inl f1)), (p2, .inl (cZ, 40, .inl f2)), (p3, .inl (cI, 40, .inl f3))] sz)) 0 0 (va_A [(h0, .inr (6, [.ref p0, .ref p1, .ref p2, .ref p3, .int (nI a)])), (p0, .inl (cI, 40, .inl f0)), (p1, .inl (cI, 40, .inl f1)), (p2, .inl (cZ, 40, .inl f2)), (p3, .inl (cI, 40, .inl f3))] sz) := by
  refine Met.ofW (cc := cX6_wearOut) (maxL := 3) (ret := (some .boolean)) (by decide) rfl ?_
  intro p e s m args below meth c s₁ B hml hv
  obtain ⟨rfl, hsz, hP, hK, hD0⟩ := hv
  have hx := B.exec
  have hb := B.bytes
  have hr := B.returns
  have hts := atoms_spec (ws := wsX6_wearOut) B.pre
  have hown : s.vm.findClass RX6 = some m.cls := findClass_of_methodNamed B.named
  have hlocks := B.notSynchronized
  subst hsz
  have hD := hD0.self (sz := s.heap.size)
  generalize hAe : va_A [(h0, .inr (6, [.ref p0, .ref p1, .ref p2, .ref p3, .int (nI a)])), (p0, .inl (cI, 40, .inl f0)), (p1, .inl (cI, 40, .inl f1)), (p2, .inl (cZ, 40, .inl f2)), (p3, .inl (cI, 40, .inl f3))] s.heap.size = A at hD ⊢
  have hA : ∀ q : Nat, s.heap.size ≤ q → A q := fun q h => by rw [← hAe]; exact Or.inr h
  have hS : va_S A s.heap s.heap [] := va_S.rf
  have hP : va_P D vwCl [(h0, .inr (6, [.ref p0, .ref p1, .ref p2, .ref p3, .int (nI a)])), (p0, .inl (cI, 40, .inl f0)), (p1, .inl (cI, 40, .inl f1)), (p2, .inl (cZ, 40, .inl f2)), (p3, .inl (cI, 40, .inl f3))] s.heap := hP
  have w_1 : ∀ w ∈ wsX60, w ∈ wsX6_wearOut := by decide +kernel
  have w_2 := hts (Cond.fieldLink RX6 15 "BlueCoats$Wardrobe" "worn" "[I") (by decide +kernel)
  have w_3 := hts (Cond.fieldLink RX6 18 "BlueCoats$Wardrobe" "gone" "[Z") (by decide +kernel)
  have hl := lv_entry ([.ref h0, .int q, .int mo]) (n := 3) (Nat.le_of_ble_eq_true rfl)
  rw [lg_entry_eq]
  generalize (lg_sl ([.ref h0, .int q, .int mo]) ++ List.replicate (3 - (lg_sl ([.ref h0, .int q, .int mo])).length) Slot.unset).toArray = ls at hl ⊢
  have hl : lv_has ls 3 [(0, .ref h0), (1, .int q), (2, .int mo)] := hl
  refine lv_aload_n hx hb dX6_wearOut_0 rfl (lv_at hl 0 rfl) ?_
  refine lv_iload_n hx hb dX6_wearOut_1 rfl (lv_at hl 1 rfl) ?_
  refine vp_callSi (va_Run.run (va_runV (As := [.int q]) (rest := []) ⟨hx, hb, hml, hown, hts⟩ (g_X6_has l D cB cI cJ cZ h0 p0 p1 p2 p3 a q (by omega)) (cwV 1 hts gX6_wearOut_X6_has rfl rfl rfl (by decide +kernel) ⟨Nat.le_of_ble_eq_true rfl, Nat.le_of_ble_eq_true rfl⟩) (pre_VR (hP.sub (ws' := [(h0, .inr (6, [.ref p0, .ref p1, .ref p2, .ref p3, .int (nI a)]))]) [0] rfl) hK 0 rfl rfl rfl) rfl rfl hl.1 rfl (lv_room (Nat.le_of_ble_eq_true rfl)) dX6_wearOut_2 ⟨Nat.le_of_ble_eq_true rfl, Nat.le_of_ble_eq_true rfl⟩)) (fun r_1 hw_r_1 => ?_)
  refine lv_if_ne (tgt := 10) hx hb dX6_wearOut_5 (by decide) (fun c_5 => ?_) (fun c_5 => ?_)
  ·
    refine lv_aload_n hx hb dX6_wearOut_10 rfl (lv_at hl 0 rfl) ?_
    refine va_get (D := D) (ci := 6) (v := .ref p1) (C := RX6) (T := TX6) (N := 5) hx hb hts w_1 hown hK hP 0 rfl rfl 1 (by decide) w_2 (fun _ h9 => h9) rfl dX6_wearOut_11 ?_
    refine lv_iload_n hx hb dX6_wearOut_14 rfl (lv_at hl 1 rfl) ?_
    refine lv_dup2_11 hx hb dX6_wearOut_15 rfl rfl ?_
    refine sv_iald (v := f1 q.toNatClampNeg) hx hb hK hP 2 1 rfl rfl (in_up (has_in hw_r_1 c_5) ha) rfl dX6_wearOut_16 ?_
    refine lv_topi (fun v_2 ev_2 => ?_)
    refine lv_iconst (v := 1) hx hb dX6_wearOut_17 (by decide) ?_
    refine sv_iadd (v := v_2 + 1) hx hb dX6_wearOut_18 rfl ?_
    refine sv_iast hx hb hK hP hD hS 2 1 rfl rfl (in_up (has_in hw_r_1 c_5) ha) dX6_wearOut_19 (fun g_3 H locs eg_3 hP hD hS => ?_)
    have hP : va_P D vwCl [(h0, .inr (6, [.ref p0, .ref p1, .ref p2, .ref p3, .int (nI a)])), (p0, .inl (cI, 40, .inl f0)), (p1, .inl (cI, 40, .inl g_3)), (p2, .inl (cZ, 40, .inl f2)), (p3, .inl (cI, 40, .inl f3))] H := hP
    have hD : va_D A [(h0, .inr (6, [.ref p0, .ref p1, .ref p2, .ref p3, .int (nI a)])), (p0, .inl (cI, 40, .inl f0)), (p1, .inl (cI, 40, .inl g_3)), (p2, .inl (cZ, 40, .inl f2)), (p3, .inl (cI, 40, .inl f3))] := hD
    refine lv_aload_n hx hb dX6_wearOut_20 rfl (lv_at hl 0 rfl) ?_
    refine va_get (D := D) (ci := 6) (v := .ref p1) (C := RX6) (T := TX6) (N := 5) hx hb hts w_1 hown hK hP 0 rfl rfl 1 (by decide) w_2 (fun _ h9 => h9) rfl dX6_wearOut_21 ?_
    refine lv_iload_n hx hb dX6_wearOut_24 rfl (lv_at hl 1 rfl) ?_
    refine sv_iald (v := g_3 q.toNatClampNeg) hx hb hK hP 2 1 rfl rfl (in_up (has_in hw_r_1 c_5) ha) rfl dX6_wearOut_25 ?_
    refine lv_topi (fun v_4 ev_4 => ?_)
    refine lv_iload_n hx hb dX6_wearOut_26 rfl (lv_at hl 2 rfl) ?_
    refine lv_icmp_lt (tgt := 37) hx hb dX6_wearOut_27 (by decide) (fun c_27 => ?_) (fun c_27 => ?_)
    ·
      refine lv_aload_n hx hb dX6_wearOut_37 rfl (lv_at hl 0 rfl) ?_
      refine va_get (D := D) (ci := 6) (v := .ref p2) (C := RX6) (T := TX6) (N := 5) hx hb hts w_1 hown hK hP 0 rfl rfl 2 (by decide) w_3 (fun _ h9 => h9) rfl dX6_wearOut_38 ?_
      refine lv_iload_n hx hb dX6_wearOut_41 rfl (lv_at hl 1 rfl) ?_
      refine sv_zald (v := f2 q.toNatClampNeg) hx hb hK hP 3 3 rfl rfl (in_up (has_in hw_r_1 c_5) ha) rfl dX6_wearOut_42 ?_
      refine lv_topi (fun v_5 ev_5 => ?_)
      have hP9 := hP.sub (ws' := [(h0, .inr (6, [.ref p0, .ref p1, .ref p2, .ref p3, .int (nI a)])), (p0, .inl (cI, 40, .inl f0)), (p1, .inl (cI, 40, .inl g_3)), (p2, .inl (cZ, 40, .inl f2)), (p3, .inl (cI, 40, .inl f3))]) [0, 1, 2, 3, 4] rfl
      have hD9 := hD.sub (ws' := [(h0, .inr (6, [.ref p0, .ref p1, .ref p2, .ref p3, .int (nI a)])), (p0, .inl (cI, 40, .inl f0)), (p1, .inl (cI, 40, .inl g_3)), (p2, .inl (cZ, 40, .inl f2)), (p3, .inl (cI, 40, .inl f3))]) [0, 1, 2, 3, 4] (by decide) rfl
      exact W.zret (v := v_5) hx hb hr (zb_nar (by rw [ev_5]; exact hz _)) (fun t ht hW => ⟨⟨_, (g_3, f2), rfl, hz, by rw [ht]; exact hP9, va_K.moved hW.alike hK, hD9⟩, hS.F ht⟩) hS.2.2 dX6_wearOut_43
    ·
      refine lv_aload_n hx hb dX6_wearOut_30 rfl (lv_at hl 0 rfl) ?_
      refine va_get (D := D) (ci := 6) (v := .ref p2) (C := RX6) (T := TX6) (N := 5) hx hb hts w_1 hown hK hP 0 rfl rfl 2 (by decide) w_3 (fun _ h9 => h9) rfl dX6_wearOut_31 ?_
      refine lv_iload_n hx hb dX6_wearOut_34 rfl (lv_at hl 1 rfl) ?_
      refine lv_iconst (v := 1) hx hb dX6_wearOut_35 (by decide) ?_
      refine sv_zast hx hb hK hP hD hS 3 3 rfl rfl (in_up (has_in hw_r_1 c_5) ha) dX6_wearOut_36 (fun g_6 H locs eg_6 hP hD hS => ?_)
      have eg_6 : g_6 = upd f2 q.toNatClampNeg (vp_nar .boolean 1) := eg_6
      subst eg_6
      have hP : va_P D vwCl [(h0, .inr (6, [.ref p0, .ref p1, .ref p2, .ref p3, .int (nI a)])), (p0, .inl (cI, 40, .inl f0)), (p1, .inl (cI, 40, .inl g_3)), (p2, .inl (cZ, 40, .inl (upd f2 q.toNatClampNeg (vp_nar .boolean 1)))), (p3, .inl (cI, 40, .inl f3))] H := hP
      have hD : va_D A [(h0, .inr (6, [.ref p0, .ref p1, .ref p2, .ref p3, .int (nI a)])), (p0, .inl (cI, 40, .inl f0)), (p1, .inl (cI, 40, .inl g_3)), (p2, .inl (cZ, 40, .inl (upd f2 q.toNatClampNeg (vp_nar .boolean 1)))), (p3, .inl (cI, 40, .inl f3))] := hD
      refine lv_aload_n hx hb dX6_wearOut_37 rfl (lv_at hl 0 rfl) ?_
      refine va_get (D := D) (ci := 6) (v := .ref p2) (C := RX6) (T := TX6) (N := 5) hx hb hts w_1 hown hK hP 0 rfl rfl 2 (by decide) w_3 (fun _ h9 => h9) rfl dX6_wearOut_38 ?_
      refine lv_iload_n hx hb dX6_wearOut_41 rfl (lv_at hl 1 rfl) ?_
      refine sv_zald (v := (upd f2 q.toNatClampNeg (vp_nar .boolean 1)) q.toNatClampNeg) hx hb hK hP 3 3 rfl rfl (in_up (has_in hw_r_1 c_5) ha) rfl dX6_wearOut_42 ?_
      refine lv_topi (fun v_7 ev_7 => ?_)
      have hP9 := hP.sub (ws' := [(h0, .inr (6, [.ref p0, .ref p1, .ref p2, .ref p3, .int (nI a)])), (p0, .inl (cI, 40, .inl f0)), (p1, .inl (cI, 40, .inl g_3)), (p2, .inl (cZ, 40, .inl (upd f2 q.toNatClampNeg (vp_nar .boolean 1)))), (p3, .inl (cI, 40, .inl f3))]) [0, 1, 2, 3, 4] rfl
      have hD9 := hD.sub (ws' := [(h0, .inr (6, [.ref p0, .ref p1, .ref p2, .ref p3, .int (nI a)])), (p0, .inl (cI, 40, .inl f0)), (p1, .inl (cI, 40, .inl g_3)), (p2, .inl (cZ, 40, .inl (upd f2 q.toNatClampNeg (vp_nar .boolean 1)))), (p3, .inl (cI, 40, .inl f3))]) [0, 1, 2, 3, 4] (by decide) rfl
      exact W.zret (v := v_7) hx hb hr (zb_nar (by rw [ev_7]; exact (zb_upd hz _ (Or.inr rfl)) _)) (fun t ht hW => ⟨⟨_, (g_3, upd f2 q.toNatClampNeg (vp_nar .boolean 1)), rfl, zb_upd hz _ (Or.inr rfl), by rw [ht]; exact hP9, va_K.moved hW.alike hK, hD9⟩, hS.F ht⟩) hS.2.2 dX6_wearOut_43
  ·
    refine lv_iconst (v := 0) hx hb dX6_wearOut_8 (by decide) ?_
    have hP9 := hP.sub (ws' := [(h0, .inr (6, [.ref p0, .ref p1, .ref p2, .ref p3, .int (nI a)])), (p0, .inl (cI, 40, .inl f0)), (p1, .inl (cI, 40, .inl f1)), (p2, .inl (cZ, 40, .inl f2)), (p3, .inl (cI, 40, .inl f3))]) [0, 1, 2, 3, 4] rfl
    have hD9 := hD.sub (ws' := [(h0, .inr (6, [.ref p0, .ref p1, .ref p2, .ref p3, .int (nI a)])), (p0, .inl (cI, 40, .inl f0)), (p1, .inl (cI, 40, .inl f1)), (p2, .inl (cZ, 40, .inl f2)), (p3, .inl (cI, 40, .inl f3))]) [0, 1, 2, 3, 4] (by decide) rfl
    exact W.zret (v := 0) hx hb hr rfl (fun t ht hW => ⟨⟨_, (f1, f2), rfl, hz, by rw [ht]; exact hP9, va_K.moved hW.alike hK, hD9⟩, hS.F ht⟩) hS.2.2 dX6_wearOut_9

set_option maxHeartbeats 4000000 in
set_option maxRecDepth 100000 in
theorem g_X6_fit (l : Launch) (D : va_G) (cB cI cJ cZ : ClassId) (h0 p0 p1 p2 p3 a : Nat) (f0 f1 f2 f3 : Nat → Int32) (q sp : Int32) (ha : a ≤ 40) (hz : ∀ k, f2 k = 0 ∨ f2 k = 1) : Met l yX6_fitting wsX6_fitting ({ frames := 0, cells := 0, slots := 0, locals := 0 } : Room) (cRd D (aTy cB cI cJ cZ) [(h0, .inr (6, [.ref p0, .ref p1, .ref p2, .ref p3, .int (nI a)])), (p0, .inl (cI, 40, .inl f0)), (p2, .inl (cZ, 40, .inl f2))] [.ref h0, .int q, .int sp]) (vp_Sl (fun r : Int64 => True)) 0 0 (fun _ => False) := by
  refine Met.ofW (cc := cX6_fitting) (maxL := 6) (ret := (some .long)) (by decide) rfl ?_
  intro p e s m args below meth c s₁ B hml hv
  obtain ⟨rfl, hP, hK⟩ := hv
  have hx := B.exec
  have hb := B.bytes
  have hr := B.returns
  have hts := atoms_spec (ws := wsX6_fitting) B.pre
  have hown : s.vm.findClass RX6 = some m.cls := findClass_of_methodNamed B.named
  have hlocks := B.notSynchronized
  have hP : va_P D vwCl [(h0, .inr (6, [.ref p0, .ref p1, .ref p2, .ref p3, .int (nI a)])), (p0, .inl (cI, 40, .inl f0)), (p2, .inl (cZ, 40, .inl f2))] s.heap := hP
  have w_1 : ∀ w ∈ wsX60, w ∈ wsX6_fitting := by decide +kernel
  have w_2 := hts (Cond.fieldLink RX6 25 "BlueCoats$Wardrobe" "number" "I") (by decide +kernel)
  have w_3 := hts (Cond.fieldLink RX6 18 "BlueCoats$Wardrobe" "gone" "[Z") (by decide +kernel)
  have w_4 := hts (Cond.fieldLink RX6 11 "BlueCoats$Wardrobe" "size" "[I") (by decide +kernel)
  have hl := lv_entry ([.ref h0, .int q, .int sp]) (n := 6) (Nat.le_of_ble_eq_true rfl)
  rw [lg_entry_eq]
  generalize (lg_sl ([.ref h0, .int q, .int sp]) ++ List.replicate (6 - (lg_sl ([.ref h0, .int q, .int sp])).length) Slot.unset).toArray = ls at hl ⊢
  have hl : lv_has ls 6 [(0, .ref h0), (1, .int q), (2, .int sp)] := hl
  generalize hQ : MQ below _ _ s _ _ _ = Q0
  refine lv_lconst (v := 0) hx hb dX6_fitting_0 (by decide) ?_
  refine lv_lstore_n (lv' := [(3, .long 0), (0, .ref h0), (1, .int q), (2, .int sp)]) hx hb dX6_fitting_1 rfl hl (by decide) rfl (fun ls hl => ?_)
  refine lv_iconst (v := 0) hx hb dX6_fitting_2 (by decide) ?_
  refine lv_istore (lv' := [(5, .int 0), (3, .long 0), (0, .ref h0), (1, .int q), (2, .int sp)]) hx hb dX6_fitting_3 hl (by decide) rfl (fun ls hl => ?_)
  have L_1 : ∀ (n : Nat) (i_5 : Int32) (l_3_5 : Int64) (ls : Array Slot), (Int32.toInt (nI a) - i_5.toInt).toNat < n → 0 ≤ i_5.toInt → va_P D vwCl [(h0, .inr (6, [.ref p0, .ref p1, .ref p2, .ref p3, .int (nI a)])), (p0, .inl (cI, 40, .inl f0)), (p2, .inl (cZ, 40, .inl f2))] s.heap → lv_has ls 6 [(0, .ref h0), (1, .int q), (2, .int sp), (3, .long l_3_5), (5, .int i_5)] → W p l e (headSpec wsX6_fitting ({ frames := 0, cells := 0, slots := 0, locals := 0 } : Room)).room s m ([.ref h0, .int q, .int sp] : List Value).toArray below meth c s.heap [] 0 0 Q0 (F0 m 5 ls []) := by
    intro n
    induction n with
    | zero => intro i_5 l_3_5 ls hn_5 hlo_5 hP hl; exact absurd hn_5 (Nat.not_lt_zero _)
    | succ n ih_L_1 =>
      intro i_5 l_3_5 ls hn_5 hlo_5 hP hl
      refine lv_iload hx hb dX6_fitting_5 (lv_at hl 4 rfl) ?_
      refine lv_aload_n hx hb dX6_fitting_7 rfl (lv_at hl 0 rfl) ?_
      refine va_get (D := D) (ci := 6) (v := .int (nI a)) (C := RX6) (T := TX6) (N := 5) hx hb hts w_1 hown hK hP 0 rfl rfl 4 (by decide) w_2 (fun _ h9 => h9) rfl dX6_fitting_8 ?_
      refine lv_icmp_ge (tgt := 61) hx hb dX6_fitting_11 (by decide) (fun c_11 => ?_) (fun c_11 => ?_)
      ·
        refine lv_lload_n hx hb dX6_fitting_61 rfl (lv_at hl 3 rfl) ?_
        rw [← hQ]
        exact W.lret (v := l_3_5) hx hb hr (fun t ht hW => ⟨_, rfl, trivial, ht⟩) (fun q h => nomatch h) dX6_fitting_62
      ·
        refine lv_aload_n hx hb dX6_fitting_14 rfl (lv_at hl 0 rfl) ?_
        refine va_get (D := D) (ci := 6) (v := .ref p2) (C := RX6) (T := TX6) (N := 5) hx hb hts w_1 hown hK hP 0 rfl rfl 2 (by decide) w_3 (fun _ h9 => h9) rfl dX6_fitting_15 ?_
        refine lv_iload hx hb dX6_fitting_18 (lv_at hl 4 rfl) ?_
        refine sv_zald (v := f2 i_5.toNatClampNeg) hx hb hK hP 2 3 rfl rfl (lp_inN hlo_5 c_11 ha (by decide)) rfl dX6_fitting_20 ?_
        refine lv_topi (fun v_2 ev_2 => ?_)
        refine lv_if_ne (tgt := 55) hx hb dX6_fitting_21 (by decide) (fun c_21 => ?_) (fun c_21 => ?_)
        ·
          refine lv_iinc (v := i_5 + 1) (lv' := [(5, .int (i_5 + 1)), (0, .ref h0), (1, .int q), (2, .int sp), (3, .long l_3_5)]) hx hb dX6_fitting_55 hl (k := 4) rfl rfl (by decide) rfl (fun ls hl => ?_)
          refine lv_goto (tgt := 5) hx hb dX6_fitting_58 (by decide) ?_
          exact ih_L_1 (i_5 + 1) l_3_5 ls (lp_dec hn_5 c_11) (by have h9 := lp_inc c_11; omega) hP (lv_sub hl [1, 2, 3, 4, 0] rfl)
        ·
          refine lv_aload_n hx hb dX6_fitting_24 rfl (lv_at hl 0 rfl) ?_
          refine va_get (D := D) (ci := 6) (v := .ref p0) (C := RX6) (T := TX6) (N := 5) hx hb hts w_1 hown hK hP 0 rfl rfl 0 (by decide) w_4 (fun _ h9 => h9) rfl dX6_fitting_25 ?_
          refine lv_iload hx hb dX6_fitting_28 (lv_at hl 4 rfl) ?_
          refine sv_iald (v := f0 i_5.toNatClampNeg) hx hb hK hP 1 1 rfl rfl (lp_inN hlo_5 c_11 ha (by decide)) rfl dX6_fitting_30 ?_
          refine lv_topi (fun v_3 ev_3 => ?_)
          refine lv_iload_n hx hb dX6_fitting_31 rfl (lv_at hl 1 rfl) ?_
          refine lv_icmp_lt (tgt := 55) hx hb dX6_fitting_32 (by decide) (fun c_32 => ?_) (fun c_32 => ?_)
          ·
            refine lv_iinc (v := i_5 + 1) (lv' := [(5, .int (i_5 + 1)), (0, .ref h0), (1, .int q), (2, .int sp), (3, .long l_3_5)]) hx hb dX6_fitting_55 hl (k := 4) rfl rfl (by decide) rfl (fun ls hl => ?_)
            refine lv_goto (tgt := 5) hx hb dX6_fitting_58 (by decide) ?_
            exact ih_L_1 (i_5 + 1) l_3_5 ls (lp_dec hn_5 c_11) (by have h9 := lp_inc c_11; omega) hP (lv_sub hl [1, 2, 3, 4, 0] rfl)
          ·
            refine lv_aload_n hx hb dX6_fitting_35 rfl (lv_at hl 0 rfl) ?_
            refine va_get (D := D) (ci := 6) (v := .ref p0) (C := RX6) (T := TX6) (N := 5) hx hb hts w_1 hown hK hP 0 rfl rfl 0 (by decide) w_4 (fun _ h9 => h9) rfl dX6_fitting_36 ?_
            refine lv_iload hx hb dX6_fitting_39 (lv_at hl 4 rfl) ?_
            refine sv_iald (v := f0 i_5.toNatClampNeg) hx hb hK hP 1 1 rfl rfl (lp_inN hlo_5 c_11 ha (by decide)) rfl dX6_fitting_41 ?_
            refine lv_topi (fun v_4 ev_4 => ?_)
            refine lv_iload_n hx hb dX6_fitting_42 rfl (lv_at hl 1 rfl) ?_
            refine lv_iload_n hx hb dX6_fitting_43 rfl (lv_at hl 2 rfl) ?_
            refine sv_iadd (v := q + sp) hx hb dX6_fitting_44 rfl ?_
            refine lv_topi (fun v_5 ev_5 => ?_)
            refine lv_icmp_gt (tgt := 55) hx hb dX6_fitting_45 (by decide) (fun c_45 => ?_) (fun c_45 => ?_)
            ·
              refine lv_iinc (v := i_5 + 1) (lv' := [(5, .int (i_5 + 1)), (0, .ref h0), (1, .int q), (2, .int sp), (3, .long l_3_5)]) hx hb dX6_fitting_55 hl (k := 4) rfl rfl (by decide) rfl (fun ls hl => ?_)
              refine lv_goto (tgt := 5) hx hb dX6_fitting_58 (by decide) ?_
              exact ih_L_1 (i_5 + 1) l_3_5 ls (lp_dec hn_5 c_11) (by have h9 := lp_inc c_11; omega) hP (lv_sub hl [1, 2, 3, 4, 0] rfl)
            ·
              refine lv_lload_n hx hb dX6_fitting_48 rfl (lv_at hl 3 rfl) ?_
              refine lv_lconst (v := 1) hx hb dX6_fitting_49 (by decide) ?_
              refine lv_iload hx hb dX6_fitting_50 (lv_at hl 4 rfl) ?_
              refine lv_lshl (v := (1 : Int64) <<< (i_5.toInt64 &&& 63)) hx hb dX6_fitting_52 rfl ?_
              refine lv_topl (fun v_6 ev_6 => ?_)
              refine lv_lor hx hb dX6_fitting_53 ?_
              refine lv_topl (fun v_7 ev_7 => ?_)
              refine lv_lstore_n (lv' := [(3, .long v_7), (0, .ref h0), (1, .int q), (2, .int sp), (5, .int i_5)]) hx hb dX6_fitting_54 rfl hl (by decide) rfl (fun ls hl => ?_)
              refine lv_iinc (v := i_5 + 1) (lv' := [(5, .int (i_5 + 1)), (3, .long v_7), (0, .ref h0), (1, .int q), (2, .int sp)]) hx hb dX6_fitting_55 hl (k := 4) rfl rfl (by decide) rfl (fun ls hl => ?_)
              refine lv_goto (tgt := 5) hx hb dX6_fitting_58 (by decide) ?_
              exact ih_L_1 (i_5 + 1) v_7 ls (lp_dec hn_5 c_11) (by have h9 := lp_inc c_11; omega) hP (lv_sub hl [2, 3, 4, 1, 0] rfl)
  exact L_1 _ 0 0 ls (Nat.lt_succ_self _) (by decide) hP (lv_sub hl [2, 3, 4, 1, 0] rfl)

