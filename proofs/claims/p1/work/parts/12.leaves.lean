set_option maxHeartbeats 4000000 in
set_option maxRecDepth 100000 in
/-- nobody is there -/
theorem k_X3_has (l : Launch) (D : va_G) (cB cI cJ cZ : ClassId) (h0 p0 p1 : Nat) (g : Int32) : Met l yX3_has wsX3_has ({ frames := 0, cells := 0, slots := 0, locals := 0 } : Room) (cRd D (aTy cB cI cJ cZ) [(h0, .inr (3, [.ref p0, .ref p1, .int 0, .int 0]))] [.ref h0, .int g]) (vp_Si (fun r : Int32 => r = 0)) 0 0 (fun _ => False) := by
  refine Met.ofW (cc := cX3_has) (maxL := 2) (ret := (some .boolean)) (by decide) rfl ?_
  intro p e s m args below meth c s₁ B hml hv
  obtain ⟨rfl, hP, hK⟩ := hv
  have hx := B.exec
  have hb := B.bytes
  have hr := B.returns
  have hts := atoms_spec (ws := wsX3_has) B.pre
  have hown : s.vm.findClass RX3 = some m.cls := findClass_of_methodNamed B.named
  have hlocks := B.notSynchronized
  have hP : va_P D vwCl [(h0, .inr (3, [.ref p0, .ref p1, .int 0, .int 0]))] s.heap := hP
  have w_1 : ∀ w ∈ wsX30, w ∈ wsX3_has := by decide +kernel
  have w_2 := hts (Cond.fieldLink RX3 18 "BlueCoats$Givers" "number" "I") (by decide +kernel)
  have hl := lv_entry ([.ref h0, .int g]) (n := 2) (Nat.le_of_ble_eq_true rfl)
  rw [lg_entry_eq]
  generalize (lg_sl ([.ref h0, .int g]) ++ List.replicate (2 - (lg_sl ([.ref h0, .int g])).length) Slot.unset).toArray = ls at hl ⊢
  have hl : lv_has ls 2 [(0, .ref h0), (1, .int g)] := hl
  refine lv_iload_n hx hb dX3_has_0 rfl (lv_at hl 1 rfl) ?_
  refine lv_if_lt (tgt := 16) hx hb dX3_has_1 (by decide) (fun c_1 => ?_) (fun c_1 => ?_)
  ·
    refine lv_iconst (v := 0) hx hb dX3_has_16 (by decide) ?_
    exact W.zret (v := 0) hx hb hr rfl (fun t ht hW => ⟨_, rfl, rfl, ht⟩) (fun q h => nomatch h) dX3_has_17
  ·
    refine lv_iload_n hx hb dX3_has_4 rfl (lv_at hl 1 rfl) ?_
    refine lv_aload_n hx hb dX3_has_5 rfl (lv_at hl 0 rfl) ?_
    refine va_get (D := D) (ci := 3) (v := .int 0) (C := RX3) (T := TX3) (N := 4) hx hb hts w_1 hown hK hP 0 rfl rfl 2 (by decide) w_2 (fun _ h9 => h9) rfl dX3_has_6 ?_
    refine lv_icmp_ge (tgt := 16) hx hb dX3_has_9 (by decide) (fun c_9 => ?_) (fun c_9 => ?_)
    ·
      refine lv_iconst (v := 0) hx hb dX3_has_16 (by decide) ?_
      exact W.zret (v := 0) hx hb hr rfl (fun t ht hW => ⟨_, rfl, rfl, ht⟩) (fun q h => nomatch h) dX3_has_17
    ·
      refine lv_iconst (v := 1) hx hb dX3_has_12 (by decide) ?_
      refine lv_goto (tgt := 17) hx hb dX3_has_13 (by decide) ?_
      exact absurd (Int32.not_lt.mp c_1) c_9

set_option maxHeartbeats 4000000 in
set_option maxRecDepth 100000 in
/-- nobody is there -/
theorem k_X1_has (l : Launch) (D : va_G) (cB cI cJ cZ : ClassId) (h0 p0 p1 p2 p3 p4 p5 : Nat) (g : Int32) : Met l yX1_has wsX1_has ({ frames := 0, cells := 0, slots := 0, locals := 0 } : Room) (cRd D (aTy cB cI cJ cZ) [(h0, .inr (1, [.ref p0, .ref p1, .ref p2, .ref p3, .ref p4, .ref p5, .int 0]))] [.ref h0, .int g]) (vp_Si (fun r : Int32 => r = 0)) 0 0 (fun _ => False) := by
  refine Met.ofW (cc := cX1_has) (maxL := 2) (ret := (some .boolean)) (by decide) rfl ?_
  intro p e s m args below meth c s₁ B hml hv
  obtain ⟨rfl, hP, hK⟩ := hv
  have hx := B.exec
  have hb := B.bytes
  have hr := B.returns
  have hts := atoms_spec (ws := wsX1_has) B.pre
  have hown : s.vm.findClass RX1 = some m.cls := findClass_of_methodNamed B.named
  have hlocks := B.notSynchronized
  have hP : va_P D vwCl [(h0, .inr (1, [.ref p0, .ref p1, .ref p2, .ref p3, .ref p4, .ref p5, .int 0]))] s.heap := hP
  have w_1 : ∀ w ∈ wsX10, w ∈ wsX1_has := by decide +kernel
  have w_2 := hts (Cond.fieldLink RX1 30 "BlueCoats$Children" "number" "I") (by decide +kernel)
  have hl := lv_entry ([.ref h0, .int g]) (n := 2) (Nat.le_of_ble_eq_true rfl)
  rw [lg_entry_eq]
  generalize (lg_sl ([.ref h0, .int g]) ++ List.replicate (2 - (lg_sl ([.ref h0, .int g])).length) Slot.unset).toArray = ls at hl ⊢
  have hl : lv_has ls 2 [(0, .ref h0), (1, .int g)] := hl
  refine lv_iload_n hx hb dX1_has_0 rfl (lv_at hl 1 rfl) ?_
  refine lv_if_lt (tgt := 16) hx hb dX1_has_1 (by decide) (fun c_1 => ?_) (fun c_1 => ?_)
  ·
    refine lv_iconst (v := 0) hx hb dX1_has_16 (by decide) ?_
    exact W.zret (v := 0) hx hb hr rfl (fun t ht hW => ⟨_, rfl, rfl, ht⟩) (fun q h => nomatch h) dX1_has_17
  ·
    refine lv_iload_n hx hb dX1_has_4 rfl (lv_at hl 1 rfl) ?_
    refine lv_aload_n hx hb dX1_has_5 rfl (lv_at hl 0 rfl) ?_
    refine va_get (D := D) (ci := 1) (v := .int 0) (C := RX1) (T := TX1) (N := 7) hx hb hts w_1 hown hK hP 0 rfl rfl 6 (by decide) w_2 (fun _ h9 => h9) rfl dX1_has_6 ?_
    refine lv_icmp_ge (tgt := 16) hx hb dX1_has_9 (by decide) (fun c_9 => ?_) (fun c_9 => ?_)
    ·
      refine lv_iconst (v := 0) hx hb dX1_has_16 (by decide) ?_
      exact W.zret (v := 0) hx hb hr rfl (fun t ht hW => ⟨_, rfl, rfl, ht⟩) (fun q h => nomatch h) dX1_has_17
    ·
      refine lv_iconst (v := 1) hx hb dX1_has_12 (by decide) ?_
      refine lv_goto (tgt := 17) hx hb dX1_has_13 (by decide) ?_
      exact absurd (Int32.not_lt.mp c_1) c_9

set_option maxHeartbeats 4000000 in
set_option maxRecDepth 100000 in
/-- nobody is there -/
theorem k_X6_has (l : Launch) (D : va_G) (cB cI cJ cZ : ClassId) (h0 p0 p1 p2 p3 : Nat) (g : Int32) : Met l yX6_has wsX6_has ({ frames := 0, cells := 0, slots := 0, locals := 0 } : Room) (cRd D (aTy cB cI cJ cZ) [(h0, .inr (6, [.ref p0, .ref p1, .ref p2, .ref p3, .int 0]))] [.ref h0, .int g]) (vp_Si (fun r : Int32 => r = 0)) 0 0 (fun _ => False) := by
  refine Met.ofW (cc := cX6_has) (maxL := 2) (ret := (some .boolean)) (by decide) rfl ?_
  intro p e s m args below meth c s₁ B hml hv
  obtain ⟨rfl, hP, hK⟩ := hv
  have hx := B.exec
  have hb := B.bytes
  have hr := B.returns
  have hts := atoms_spec (ws := wsX6_has) B.pre
  have hown : s.vm.findClass RX6 = some m.cls := findClass_of_methodNamed B.named
  have hlocks := B.notSynchronized
  have hP : va_P D vwCl [(h0, .inr (6, [.ref p0, .ref p1, .ref p2, .ref p3, .int 0]))] s.heap := hP
  have w_1 : ∀ w ∈ wsX60, w ∈ wsX6_has := by decide +kernel
  have w_2 := hts (Cond.fieldLink RX6 25 "BlueCoats$Wardrobe" "number" "I") (by decide +kernel)
  have hl := lv_entry ([.ref h0, .int g]) (n := 2) (Nat.le_of_ble_eq_true rfl)
  rw [lg_entry_eq]
  generalize (lg_sl ([.ref h0, .int g]) ++ List.replicate (2 - (lg_sl ([.ref h0, .int g])).length) Slot.unset).toArray = ls at hl ⊢
  have hl : lv_has ls 2 [(0, .ref h0), (1, .int g)] := hl
  refine lv_iload_n hx hb dX6_has_0 rfl (lv_at hl 1 rfl) ?_
  refine lv_if_lt (tgt := 16) hx hb dX6_has_1 (by decide) (fun c_1 => ?_) (fun c_1 => ?_)
  ·
    refine lv_iconst (v := 0) hx hb dX6_has_16 (by decide) ?_
    exact W.zret (v := 0) hx hb hr rfl (fun t ht hW => ⟨_, rfl, rfl, ht⟩) (fun q h => nomatch h) dX6_has_17
  ·
    refine lv_iload_n hx hb dX6_has_4 rfl (lv_at hl 1 rfl) ?_
    refine lv_aload_n hx hb dX6_has_5 rfl (lv_at hl 0 rfl) ?_
    refine va_get (D := D) (ci := 6) (v := .int 0) (C := RX6) (T := TX6) (N := 5) hx hb hts w_1 hown hK hP 0 rfl rfl 4 (by decide) w_2 (fun _ h9 => h9) rfl dX6_has_6 ?_
    refine lv_icmp_ge (tgt := 16) hx hb dX6_has_9 (by decide) (fun c_9 => ?_) (fun c_9 => ?_)
    ·
      refine lv_iconst (v := 0) hx hb dX6_has_16 (by decide) ?_
      exact W.zret (v := 0) hx hb hr rfl (fun t ht hW => ⟨_, rfl, rfl, ht⟩) (fun q h => nomatch h) dX6_has_17
    ·
      refine lv_iconst (v := 1) hx hb dX6_has_12 (by decide) ?_
      refine lv_goto (tgt := 17) hx hb dX6_has_13 (by decide) ?_
      exact absurd (Int32.not_lt.mp c_1) c_9

set_option maxHeartbeats 4000000 in
set_option maxRecDepth 100000 in
/-- nobody is in -/
theorem k_X1_in (l : Launch) (D : va_G) (cB cI cJ cZ : ClassId) (h0 p0 p1 p2 p3 p4 p5 : Nat) : Met l yX1_in wsX1_in ({ frames := 0, cells := 0, slots := 0, locals := 0 } : Room) (cRd D (aTy cB cI cJ cZ) [(h0, .inr (1, [.ref p0, .ref p1, .ref p2, .ref p3, .ref p4, .ref p5, .int 0]))] [.ref h0]) (vp_Si (fun r : Int32 => r = 0)) 0 0 (fun _ => False) := by
  refine Met.ofW (cc := cX1_in) (maxL := 3) (ret := (some .int)) (by decide) rfl ?_
  intro p e s m args below meth c s₁ B hml hv
  obtain ⟨rfl, hP, hK⟩ := hv
  have hx := B.exec
  have hb := B.bytes
  have hr := B.returns
  have hts := atoms_spec (ws := wsX1_in) B.pre
  have hown : s.vm.findClass RX1 = some m.cls := findClass_of_methodNamed B.named
  have hlocks := B.notSynchronized
  have hP : va_P D vwCl [(h0, .inr (1, [.ref p0, .ref p1, .ref p2, .ref p3, .ref p4, .ref p5, .int 0]))] s.heap := hP
  have w_1 : ∀ w ∈ wsX10, w ∈ wsX1_in := by decide +kernel
  have w_2 := hts (Cond.fieldLink RX1 30 "BlueCoats$Children" "number" "I") (by decide +kernel)
  have hl := lv_entry ([.ref h0]) (n := 3) (Nat.le_of_ble_eq_true rfl)
  rw [lg_entry_eq]
  generalize (lg_sl ([.ref h0]) ++ List.replicate (3 - (lg_sl ([.ref h0])).length) Slot.unset).toArray = ls at hl ⊢
  have hl : lv_has ls 3 [(0, .ref h0)] := hl
  refine lv_iconst (v := 0) hx hb dX1_in_0 (by decide) ?_
  refine lv_istore_n (lv' := [(1, .int 0), (0, .ref h0)]) hx hb dX1_in_1 rfl hl (by decide) rfl (fun ls hl => ?_)
  refine lv_iconst (v := 0) hx hb dX1_in_2 (by decide) ?_
  refine lv_istore_n (lv' := [(2, .int 0), (1, .int 0), (0, .ref h0)]) hx hb dX1_in_3 rfl hl (by decide) rfl (fun ls hl => ?_)
  refine lv_iload_n hx hb dX1_in_4 rfl (lv_at hl 0 rfl) ?_
  refine lv_aload_n hx hb dX1_in_5 rfl (lv_at hl 2 rfl) ?_
  refine va_get (D := D) (ci := 1) (v := .int 0) (C := RX1) (T := TX1) (N := 7) hx hb hts w_1 hown hK hP 0 rfl rfl 6 (by decide) w_2 (fun _ h9 => h9) rfl dX1_in_6 ?_
  refine lv_icmp_ge (tgt := 31) hx hb dX1_in_9 (by decide) (fun _ => ?_) (fun h => absurd (by decide) h)
  refine lv_iload_n hx hb dX1_in_31 rfl (lv_at hl 1 rfl) ?_
  exact W.iret (v := 0) hx hb hr (fun t ht hW => ⟨_, rfl, rfl, ht⟩) (fun q h => nomatch h) dX1_in_32

set_option maxHeartbeats 4000000 in
set_option maxRecDepth 100000 in
/-- need is next -/
theorem k_X5_way (l : Launch) (D : va_G) (cB cI cJ cZ : ClassId) (h0 h1 : Nat) : Met l yX5_wayNext wsX5_wayNext ({ frames := 0, cells := 0, slots := 0, locals := 0 } : Room) (cRd D (aTy cB cI cJ cZ) [(h0, .inr (5, [.ref h1, .int 1, .int 0, .int 100, .int 7, .int 14, .int 3, .int 1, .int 8])), (h1, .inl (cI, 8, .inl cyc0))] [.ref h0]) (vp_Si (fun r : Int32 => r = 2)) 0 0 (fun _ => False) := by
  refine Met.ofW (cc := cX5_wayNext) (maxL := 1) (ret := (some .int)) (by decide) rfl ?_
  intro p e s m args below meth c s₁ B hml hv
  obtain ⟨rfl, hP, hK⟩ := hv
  have hx := B.exec
  have hb := B.bytes
  have hr := B.returns
  have hts := atoms_spec (ws := wsX5_wayNext) B.pre
  have hown : s.vm.findClass RX5 = some m.cls := findClass_of_methodNamed B.named
  have hlocks := B.notSynchronized
  have hP : va_P D vwCl [(h0, .inr (5, [.ref h1, .int 1, .int 0, .int 100, .int 7, .int 14, .int 3, .int 1, .int 8])), (h1, .inl (cI, 8, .inl cyc0))] s.heap := hP
  have w_1 : ∀ w ∈ wsX50, w ∈ wsX5_wayNext := by decide +kernel
  have w_2 := hts (Cond.fieldLink RX5 22 "BlueCoats$Statutes" "next" "I") (by decide +kernel)
  have w_3 := hts (Cond.fieldLink RX5 11 "BlueCoats$Statutes" "cycle" "[I") (by decide +kernel)
  have hl := lv_entry ([.ref h0]) (n := 1) (Nat.le_of_ble_eq_true rfl)
  rw [lg_entry_eq]
  generalize (lg_sl ([.ref h0]) ++ List.replicate (1 - (lg_sl ([.ref h0])).length) Slot.unset).toArray = ls at hl ⊢
  have hl : lv_has ls 1 [(0, .ref h0)] := hl
  refine lv_aload_n hx hb dX5_wayNext_0 rfl (lv_at hl 0 rfl) ?_
  refine va_get (D := D) (ci := 5) (v := .int 0) (C := RX5) (T := TX5) (N := 9) hx hb hts w_1 hown hK hP 0 rfl rfl 2 (by decide) w_2 (fun _ h9 => h9) rfl dX5_wayNext_1 ?_
  refine lv_if_lt (tgt := 28) hx hb dX5_wayNext_4 (by decide) (fun h => absurd h (by decide)) (fun _ => ?_)
  refine lv_aload_n hx hb dX5_wayNext_7 rfl (lv_at hl 0 rfl) ?_
  refine va_get (D := D) (ci := 5) (v := .int 0) (C := RX5) (T := TX5) (N := 9) hx hb hts w_1 hown hK hP 0 rfl rfl 2 (by decide) w_2 (fun _ h9 => h9) rfl dX5_wayNext_8 ?_
  refine lv_bipush (v := 8) hx hb dX5_wayNext_11 (by decide) ?_
  refine lv_icmp_ge (tgt := 28) hx hb dX5_wayNext_13 (by decide) (fun h => absurd h (by decide)) (fun _ => ?_)
  refine lv_aload_n hx hb dX5_wayNext_16 rfl (lv_at hl 0 rfl) ?_
  refine va_get (D := D) (ci := 5) (v := .ref h1) (C := RX5) (T := TX5) (N := 9) hx hb hts w_1 hown hK hP 0 rfl rfl 0 (by decide) w_3 (fun _ h9 => h9) rfl dX5_wayNext_17 ?_
  refine lv_aload_n hx hb dX5_wayNext_20 rfl (lv_at hl 0 rfl) ?_
  refine va_get (D := D) (ci := 5) (v := .int 0) (C := RX5) (T := TX5) (N := 9) hx hb hts w_1 hown hK hP 0 rfl rfl 2 (by decide) w_2 (fun _ h9 => h9) rfl dX5_wayNext_21 ?_
  refine sv_iald (v := 2) hx hb hK hP 1 1 rfl rfl (vp_in_iff.mpr (by decide)) rfl dX5_wayNext_24 ?_
  refine lv_goto (tgt := 29) hx hb dX5_wayNext_25 (by decide) ?_
  exact W.iret (v := 2) hx hb hr (fun t ht hW => ⟨_, rfl, rfl, ht⟩) (fun q h => nomatch h) dX5_wayNext_29

set_option maxHeartbeats 4000000 in
set_option maxRecDepth 100000 in
/-- a child that can be -/
theorem k_X1_canBe (l : Launch) (D : va_G) (cB cI cJ cZ : ClassId) (a n z g : Int32) : Met l yX1_canBe wsX1_canBe ({ frames := 0, cells := 0, slots := 0, locals := 0 } : Room) (cRd D (aTy cB cI cJ cZ) [] [.int a, .int n, .int z, .int g]) (vp_Si (fun r : Int32 => r = if okC a n z g then 1 else 0)) 0 0 (fun _ => False) := by
  refine Met.ofW (cc := cX1_canBe) (maxL := 4) (ret := (some .boolean)) (by decide) rfl ?_
  intro p e s m args below meth c s₁ B hml hv
  obtain ⟨rfl, hP, hK⟩ := hv
  have hx := B.exec
  have hb := B.bytes
  have hr := B.returns
  have hts := atoms_spec (ws := wsX1_canBe) B.pre
  have hown : s.vm.findClass RX1 = some m.cls := findClass_of_methodNamed B.named
  have hlocks := B.notSynchronized
  have hP : va_P D vwCl [] s.heap := hP
  have hl := lv_entry ([.int a, .int n, .int z, .int g]) (n := 4) (Nat.le_of_ble_eq_true rfl)
  rw [lg_entry_eq]
  generalize (lg_sl ([.int a, .int n, .int z, .int g]) ++ List.replicate (4 - (lg_sl ([.int a, .int n, .int z, .int g])).length) Slot.unset).toArray = ls at hl ⊢
  have hl : lv_has ls 4 [(0, .int a), (1, .int n), (2, .int z), (3, .int g)] := hl
  refine lv_iload_n hx hb dX1_canBe_0 rfl (lv_at hl 0 rfl) ?_
  refine lv_if_lt (tgt := 45) hx hb dX1_canBe_1 (by decide) (fun c_1 => ?_) (fun c_1 => ?_)
  ·
    refine lv_iconst (v := 0) hx hb dX1_canBe_45 (by decide) ?_
    exact W.zret (v := 0) hx hb hr rfl (fun t ht hW => ⟨_, rfl, (if_neg (fun h => h.1 c_1)).symm, ht⟩) (fun q h => nomatch h) dX1_canBe_46
  ·
    refine lv_iload_n hx hb dX1_canBe_4 rfl (lv_at hl 0 rfl) ?_
    refine lv_bipush (v := 20) hx hb dX1_canBe_5 (by decide) ?_
    refine lv_icmp_gt (tgt := 45) hx hb dX1_canBe_7 (by decide) (fun c_7 => ?_) (fun c_7 => ?_)
    ·
      refine lv_iconst (v := 0) hx hb dX1_canBe_45 (by decide) ?_
      exact W.zret (v := 0) hx hb hr rfl (fun t ht hW => ⟨_, rfl, (if_neg (fun h => h.2.1 c_7)).symm, ht⟩) (fun q h => nomatch h) dX1_canBe_46
    ·
      refine lv_iload_n hx hb dX1_canBe_10 rfl (lv_at hl 1 rfl) ?_
      refine lv_if_lt (tgt := 45) hx hb dX1_canBe_11 (by decide) (fun c_11 => ?_) (fun c_11 => ?_)
      ·
        refine lv_iconst (v := 0) hx hb dX1_canBe_45 (by decide) ?_
        exact W.zret (v := 0) hx hb hr rfl (fun t ht hW => ⟨_, rfl, (if_neg (fun h => h.2.2.1 c_11)).symm, ht⟩) (fun q h => nomatch h) dX1_canBe_46
      ·
        refine lv_iload_n hx hb dX1_canBe_14 rfl (lv_at hl 1 rfl) ?_
        refine lv_bipush (v := 99) hx hb dX1_canBe_15 (by decide) ?_
        refine lv_icmp_gt (tgt := 45) hx hb dX1_canBe_17 (by decide) (fun c_17 => ?_) (fun c_17 => ?_)
        ·
          refine lv_iconst (v := 0) hx hb dX1_canBe_45 (by decide) ?_
          exact W.zret (v := 0) hx hb hr rfl (fun t ht hW => ⟨_, rfl, (if_neg (fun h => h.2.2.2.1 c_17)).symm, ht⟩) (fun q h => nomatch h) dX1_canBe_46
        ·
          refine lv_iload_n hx hb dX1_canBe_20 rfl (lv_at hl 2 rfl) ?_
          refine lv_bipush (v := 10) hx hb dX1_canBe_21 (by decide) ?_
          refine lv_icmp_lt (tgt := 45) hx hb dX1_canBe_23 (by decide) (fun c_23 => ?_) (fun c_23 => ?_)
          ·
            refine lv_iconst (v := 0) hx hb dX1_canBe_45 (by decide) ?_
            exact W.zret (v := 0) hx hb hr rfl (fun t ht hW => ⟨_, rfl, (if_neg (fun h => h.2.2.2.2.1 c_23)).symm, ht⟩) (fun q h => nomatch h) dX1_canBe_46
          ·
            refine lv_iload_n hx hb dX1_canBe_26 rfl (lv_at hl 2 rfl) ?_
            refine lv_bipush (v := 60) hx hb dX1_canBe_27 (by decide) ?_
            refine lv_icmp_gt (tgt := 45) hx hb dX1_canBe_29 (by decide) (fun c_29 => ?_) (fun c_29 => ?_)
            ·
              refine lv_iconst (v := 0) hx hb dX1_canBe_45 (by decide) ?_
              exact W.zret (v := 0) hx hb hr rfl (fun t ht hW => ⟨_, rfl, (if_neg (fun h => h.2.2.2.2.2.1 c_29)).symm, ht⟩) (fun q h => nomatch h) dX1_canBe_46
            ·
              refine lv_iload_n hx hb dX1_canBe_32 rfl (lv_at hl 3 rfl) ?_
              refine lv_if_lt (tgt := 45) hx hb dX1_canBe_33 (by decide) (fun c_33 => ?_) (fun c_33 => ?_)
              ·
                refine lv_iconst (v := 0) hx hb dX1_canBe_45 (by decide) ?_
                exact W.zret (v := 0) hx hb hr rfl (fun t ht hW => ⟨_, rfl, (if_neg (fun h => h.2.2.2.2.2.2.1 c_33)).symm, ht⟩) (fun q h => nomatch h) dX1_canBe_46
              ·
                refine lv_iload_n hx hb dX1_canBe_36 rfl (lv_at hl 3 rfl) ?_
                refine lv_iconst (v := 4) hx hb dX1_canBe_37 (by decide) ?_
                refine lv_icmp_gt (tgt := 45) hx hb dX1_canBe_38 (by decide) (fun c_38 => ?_) (fun c_38 => ?_)
                ·
                  refine lv_iconst (v := 0) hx hb dX1_canBe_45 (by decide) ?_
                  exact W.zret (v := 0) hx hb hr rfl (fun t ht hW => ⟨_, rfl, (if_neg (fun h => h.2.2.2.2.2.2.2 c_38)).symm, ht⟩) (fun q h => nomatch h) dX1_canBe_46
                ·
                  refine lv_iconst (v := 1) hx hb dX1_canBe_41 (by decide) ?_
                  refine lv_goto (tgt := 46) hx hb dX1_canBe_42 (by decide) ?_
                  exact W.zret (v := 1) hx hb hr rfl (fun t ht hW => ⟨_, rfl, (if_pos ⟨c_1, c_7, c_11, c_17, c_23, c_29, c_33, c_38⟩).symm, ht⟩) (fun q h => nomatch h) dX1_canBe_46

set_option maxHeartbeats 4000000 in
set_option maxRecDepth 100000 in
/-- the first giver -/
theorem k_X3_add (l : Launch) (D : va_G) (cB cI cJ cZ : ClassId) (sz : Nat) (h0 p0 p1 : Nat) : Met l yX3_add wsX3_add ({ frames := 0, cells := 0, slots := 0, locals := 0 } : Room) (cPre D (aTy cB cI cJ cZ) [(h0, .inr (3, [.ref p0, .ref p1, .int 0, .int 0])), (p0, .inl (cI, 8, .inl (fun _ => 0))), (p1, .inl (cI, 8, .inl (fun _ => 0)))] sz [.ref h0]) (va_Qi (fun (r : Int32) (u : Unit) => r = 0) (cB_ D (aTy cB cI cJ cZ) (va_A [(h0, .inr (3, [.ref p0, .ref p1, .int 0, .int 0])), (p0, .inl (cI, 8, .inl (fun _ => 0))), (p1, .inl (cI, 8, .inl (fun _ => 0)))] sz) (fun _ => [])) (va_A [(h0, .inr (3, [.ref p0, .ref p1, .int 0, .int 0])), (p0, .inl (cI, 8, .inl (fun _ => 0))), (p1, .inl (cI, 8, .inl (fun _ => 0)))] sz)) 0 0 (va_A [(h0, .inr (3, [.ref p0, .ref p1, .int 0, .int 0])), (p0, .inl (cI, 8, .inl (fun _ => 0))), (p1, .inl (cI, 8, .inl (fun _ => 0)))] sz) := by
  refine Met.ofW (cc := cX3_add) (maxL := 1) (ret := (some .int)) (by decide) rfl ?_
  intro p e s m args below meth c s₁ B hml hv
  obtain ⟨rfl, hsz, hP, hK, hD0⟩ := hv
  have hx := B.exec
  have hb := B.bytes
  have hr := B.returns
  have hts := atoms_spec (ws := wsX3_add) B.pre
  have hown : s.vm.findClass RX3 = some m.cls := findClass_of_methodNamed B.named
  have hlocks := B.notSynchronized
  subst hsz
  have hD := hD0.self (sz := s.heap.size)
  generalize hAe : va_A [(h0, .inr (3, [.ref p0, .ref p1, .int 0, .int 0])), (p0, .inl (cI, 8, .inl (fun _ => 0))), (p1, .inl (cI, 8, .inl (fun _ => 0)))] s.heap.size = A at hD ⊢
  have hA : ∀ q : Nat, s.heap.size ≤ q → A q := fun q h => by rw [← hAe]; exact Or.inr h
  have hS : va_S A s.heap s.heap [] := va_S.rf
  have hP : va_P D vwCl [(h0, .inr (3, [.ref p0, .ref p1, .int 0, .int 0])), (p0, .inl (cI, 8, .inl (fun _ => 0))), (p1, .inl (cI, 8, .inl (fun _ => 0)))] s.heap := hP
  have w_1 : ∀ w ∈ wsX30, w ∈ wsX3_add := by decide +kernel
  have w_2 := hts (Cond.fieldLink RX3 18 "BlueCoats$Givers" "number" "I") (by decide +kernel)
  have w_3 := hts (Cond.fieldLink RX3 11 "BlueCoats$Givers" "gave" "[I") (by decide +kernel)
  have w_4 := hts (Cond.fieldLink RX3 15 "BlueCoats$Givers" "supported" "[I") (by decide +kernel)
  have hl := lv_entry ([.ref h0]) (n := 1) (Nat.le_of_ble_eq_true rfl)
  rw [lg_entry_eq]
  generalize (lg_sl ([.ref h0]) ++ List.replicate (1 - (lg_sl ([.ref h0])).length) Slot.unset).toArray = ls at hl ⊢
  have hl : lv_has ls 1 [(0, .ref h0)] := hl
  refine lv_aload_n hx hb dX3_add_0 rfl (lv_at hl 0 rfl) ?_
  refine va_get (D := D) (ci := 3) (v := .int 0) (C := RX3) (T := TX3) (N := 4) hx hb hts w_1 hown hK hP 0 rfl rfl 2 (by decide) w_2 (fun _ h9 => h9) rfl dX3_add_1 ?_
  refine lv_bipush (v := 8) hx hb dX3_add_4 (by decide) ?_
  refine lv_icmp_lt (tgt := 11) hx hb dX3_add_6 (by decide) (fun _ => ?_) (fun h => absurd (by decide) h)
  refine lv_aload_n hx hb dX3_add_11 rfl (lv_at hl 0 rfl) ?_
  refine va_get (D := D) (ci := 3) (v := .ref p0) (C := RX3) (T := TX3) (N := 4) hx hb hts w_1 hown hK hP 0 rfl rfl 0 (by decide) w_3 (fun _ h9 => h9) rfl dX3_add_12 ?_
  refine lv_aload_n hx hb dX3_add_15 rfl (lv_at hl 0 rfl) ?_
  refine va_get (D := D) (ci := 3) (v := .int 0) (C := RX3) (T := TX3) (N := 4) hx hb hts w_1 hown hK hP 0 rfl rfl 2 (by decide) w_2 (fun _ h9 => h9) rfl dX3_add_16 ?_
  refine lv_iconst (v := 0) hx hb dX3_add_19 (by decide) ?_
  refine sv_iast hx hb hK hP hD hS 1 1 rfl rfl (vp_in_iff.mpr (by decide)) dX3_add_20 (fun g_1 H locs eg_1 hP hD hS => ?_)
  have hP : va_P D vwCl [(h0, .inr (3, [.ref p0, .ref p1, .int 0, .int 0])), (p0, .inl (cI, 8, .inl g_1)), (p1, .inl (cI, 8, .inl (fun _ => 0)))] H := hP
  have hD : va_D A [(h0, .inr (3, [.ref p0, .ref p1, .int 0, .int 0])), (p0, .inl (cI, 8, .inl g_1)), (p1, .inl (cI, 8, .inl (fun _ => 0)))] := hD
  refine lv_aload_n hx hb dX3_add_21 rfl (lv_at hl 0 rfl) ?_
  refine va_get (D := D) (ci := 3) (v := .ref p1) (C := RX3) (T := TX3) (N := 4) hx hb hts w_1 hown hK hP 0 rfl rfl 1 (by decide) w_4 (fun _ h9 => h9) rfl dX3_add_22 ?_
  refine lv_aload_n hx hb dX3_add_25 rfl (lv_at hl 0 rfl) ?_
  refine va_get (D := D) (ci := 3) (v := .int 0) (C := RX3) (T := TX3) (N := 4) hx hb hts w_1 hown hK hP 0 rfl rfl 2 (by decide) w_2 (fun _ h9 => h9) rfl dX3_add_26 ?_
  refine lv_iconst (v := (-1)) hx hb dX3_add_29 (by decide) ?_
  refine sv_iast hx hb hK hP hD hS 2 1 rfl rfl (vp_in_iff.mpr (by decide)) dX3_add_30 (fun g_2 H locs eg_2 hP hD hS => ?_)
  have hP : va_P D vwCl [(h0, .inr (3, [.ref p0, .ref p1, .int 0, .int 0])), (p0, .inl (cI, 8, .inl g_1)), (p1, .inl (cI, 8, .inl g_2))] H := hP
  have hD : va_D A [(h0, .inr (3, [.ref p0, .ref p1, .int 0, .int 0])), (p0, .inl (cI, 8, .inl g_1)), (p1, .inl (cI, 8, .inl g_2))] := hD
  refine lv_aload_n hx hb dX3_add_31 rfl (lv_at hl 0 rfl) ?_
  refine lv_dup hx hb dX3_add_32 rfl ?_
  refine va_get (D := D) (ci := 3) (v := .int 0) (C := RX3) (T := TX3) (N := 4) hx hb hts w_1 hown hK hP 0 rfl rfl 2 (by decide) w_2 (fun _ h9 => h9) rfl dX3_add_33 ?_
  refine lv_iconst (v := 1) hx hb dX3_add_36 (by decide) ?_
  refine sv_iadd (v := 1) hx hb dX3_add_37 (by decide) ?_
  refine va_put (D := D) (ci := 3) (v := .int 1) (ty := .int) (C := RX3) (T := TX3) (N := 4) hx hb hts w_1 tyX3 tyX3_ok nmX3 hown hK hP hD hS 0 rfl rfl 2 (by decide) w_2 (fun _ h9 => h9) rfl (by decide +kernel) rfl rfl (Nat.le_of_ble_eq_true rfl) dX3_add_38 (fun H locs hP hD hS => ?_)
  have hP : va_P D vwCl [(h0, .inr (3, [.ref p0, .ref p1, .int 1, .int 0])), (p0, .inl (cI, 8, .inl g_1)), (p1, .inl (cI, 8, .inl g_2))] H := hP
  have hD : va_D A [(h0, .inr (3, [.ref p0, .ref p1, .int 1, .int 0])), (p0, .inl (cI, 8, .inl g_1)), (p1, .inl (cI, 8, .inl g_2))] := hD
  refine lv_aload_n hx hb dX3_add_41 rfl (lv_at hl 0 rfl) ?_
  refine va_get (D := D) (ci := 3) (v := .int 1) (C := RX3) (T := TX3) (N := 4) hx hb hts w_1 hown hK hP 0 rfl rfl 2 (by decide) w_2 (fun _ h9 => h9) rfl dX3_add_42 ?_
  refine lv_iconst (v := 1) hx hb dX3_add_45 (by decide) ?_
  refine sv_isub (v := 0) hx hb dX3_add_46 (by decide) ?_
  have hP9 := hP.sub (ws' := []) [] rfl
  have hD9 := hD.sub (ws' := []) [] (by decide) rfl
  exact W.iret (v := 0) hx hb hr (fun t ht hW => ⟨⟨_, (), rfl, rfl, by rw [ht]; exact hP9, va_K.moved hW.alike hK, hD9⟩, hS.F ht⟩) hS.2.2 dX3_add_47

set_option maxHeartbeats 4000000 in
set_option maxRecDepth 100000 in
/-- the first child -/
theorem k_X1_add (l : Launch) (D : va_G) (cB cI cJ cZ : ClassId) (sz : Nat) (h0 p0 p1 p2 p3 p4 p5 : Nat) (a n z g : Int32) : Met l yX1_add wsX1_add ({ frames := 1, cells := 0, slots := 0, locals := 23 } : Room) (cPre D (aTy cB cI cJ cZ) [(h0, .inr (1, [.ref p0, .ref p1, .ref p2, .ref p3, .ref p4, .ref p5, .int 0])), (p0, .inl (cI, 16, .inl (fun _ => 0))), (p1, .inl (cI, 16, .inl (fun _ => 0))), (p2, .inl (cI, 16, .inl (fun _ => 0))), (p3, .inl (cI, 16, .inl (fun _ => 0))), (p4, .inl (cI, 16, .inl (fun _ => 0))), (p5, .inl (cI, 16, .inl (fun _ => 0)))] sz [.ref h0, .int a, .int n, .int z, .int g]) (va_Qi (fun (r : Int32) (u : Unit) => r = if okC a n z g then 0 else -1) (cB_ D (aTy cB cI cJ cZ) (va_A [(h0, .inr (1, [.ref p0, .ref p1, .ref p2, .ref p3, .ref p4, .ref p5, .int 0])), (p0, .inl (cI, 16, .inl (fun _ => 0))), (p1, .inl (cI, 16, .inl (fun _ => 0))), (p2, .inl (cI, 16, .inl (fun _ => 0))), (p3, .inl (cI, 16, .inl (fun _ => 0))), (p4, .inl (cI, 16, .inl (fun _ => 0))), (p5, .inl (cI, 16, .inl (fun _ => 0)))] sz) (fun _ => [])) (va_A [(h0, .inr (1, [.ref p0, .ref p1, .ref p2, .ref p3, .ref p4, .ref p5, .int 0])), (p0, .inl (cI, 16, .inl (fun _ => 0))), (p1, .inl (cI, 16, .inl (fun _ => 0))), (p2, .inl (cI, 16, .inl (fun _ => 0))), (p3, .inl (cI, 16, .inl (fun _ => 0))), (p4, .inl (cI, 16, .inl (fun _ => 0))), (p5, .inl (cI, 16, .inl (fun _ => 0)))] sz)) 0 0 (va_A [(h0, .inr (1, [.ref p0, .ref p1, .ref p2, .ref p3, .ref p4, .ref p5, .int 0])), (p0, .inl (cI, 16, .inl (fun _ => 0))), (p1, .inl (cI, 16, .inl (fun _ => 0))), (p2, .inl (cI, 16, .inl (fun _ => 0))), (p3, .inl (cI, 16, .inl (fun _ => 0))), (p4, .inl (cI, 16, .inl (fun _ => 0))), (p5, .inl (cI, 16, .inl (fun _ => 0)))] sz) := by
  refine Met.ofW (cc := cX1_add) (maxL := 5) (ret := (some .int)) (by decide) rfl ?_
  intro p e s m args below meth c s₁ B hml hv
  obtain ⟨rfl, hsz, hP, hK, hD0⟩ := hv
  have hx := B.exec
  have hb := B.bytes
  have hr := B.returns
  have hts := atoms_spec (ws := wsX1_add) B.pre
  have hown : s.vm.findClass RX1 = some m.cls := findClass_of_methodNamed B.named
  have hlocks := B.notSynchronized
  subst hsz
  have hD := hD0.self (sz := s.heap.size)
  generalize hAe : va_A [(h0, .inr (1, [.ref p0, .ref p1, .ref p2, .ref p3, .ref p4, .ref p5, .int 0])), (p0, .inl (cI, 16, .inl (fun _ => 0))), (p1, .inl (cI, 16, .inl (fun _ => 0))), (p2, .inl (cI, 16, .inl (fun _ => 0))), (p3, .inl (cI, 16, .inl (fun _ => 0))), (p4, .inl (cI, 16, .inl (fun _ => 0))), (p5, .inl (cI, 16, .inl (fun _ => 0)))] s.heap.size = A at hD ⊢
  have hA : ∀ q : Nat, s.heap.size ≤ q → A q := fun q h => by rw [← hAe]; exact Or.inr h
  have hS : va_S A s.heap s.heap [] := va_S.rf
  have hP : va_P D vwCl [(h0, .inr (1, [.ref p0, .ref p1, .ref p2, .ref p3, .ref p4, .ref p5, .int 0])), (p0, .inl (cI, 16, .inl (fun _ => 0))), (p1, .inl (cI, 16, .inl (fun _ => 0))), (p2, .inl (cI, 16, .inl (fun _ => 0))), (p3, .inl (cI, 16, .inl (fun _ => 0))), (p4, .inl (cI, 16, .inl (fun _ => 0))), (p5, .inl (cI, 16, .inl (fun _ => 0)))] s.heap := hP
  have w_1 : ∀ w ∈ wsX10, w ∈ wsX1_add := by decide +kernel
  have w_2 := hts (Cond.fieldLink RX1 30 "BlueCoats$Children" "number" "I") (by decide +kernel)
  have w_3 := hts (Cond.fieldLink RX1 11 "BlueCoats$Children" "age" "[I") (by decide +kernel)
  have w_4 := hts (Cond.fieldLink RX1 15 "BlueCoats$Children" "need" "[I") (by decide +kernel)
  have w_5 := hts (Cond.fieldLink RX1 18 "BlueCoats$Children" "size" "[I") (by decide +kernel)
  have w_6 := hts (Cond.fieldLink RX1 21 "BlueCoats$Children" "growth" "[I") (by decide +kernel)
  have w_7 := hts (Cond.fieldLink RX1 24 "BlueCoats$Children" "state" "[I") (by decide +kernel)
  have w_8 := hts (Cond.fieldLink RX1 27 "BlueCoats$Children" "coat" "[I") (by decide +kernel)
  have hl := lv_entry ([.ref h0, .int a, .int n, .int z, .int g]) (n := 5) (Nat.le_of_ble_eq_true rfl)
  rw [lg_entry_eq]
  generalize (lg_sl ([.ref h0, .int a, .int n, .int z, .int g]) ++ List.replicate (5 - (lg_sl ([.ref h0, .int a, .int n, .int z, .int g])).length) Slot.unset).toArray = ls at hl ⊢
  have hl : lv_has ls 5 [(0, .ref h0), (1, .int a), (2, .int n), (3, .int z), (4, .int g)] := hl
  refine lv_aload_n hx hb dX1_add_0 rfl (lv_at hl 0 rfl) ?_
  refine va_get (D := D) (ci := 1) (v := .int 0) (C := RX1) (T := TX1) (N := 7) hx hb hts w_1 hown hK hP 0 rfl rfl 6 (by decide) w_2 (fun _ h9 => h9) rfl dX1_add_1 ?_
  refine lv_bipush (v := 16) hx hb dX1_add_4 (by decide) ?_
  refine lv_icmp_ge (tgt := 20) hx hb dX1_add_6 (by decide) (fun h => absurd h (by decide)) (fun _ => ?_)
  refine lv_iload_n hx hb dX1_add_9 rfl (lv_at hl 1 rfl) ?_
  refine lv_iload_n hx hb dX1_add_10 rfl (lv_at hl 2 rfl) ?_
  refine lv_iload_n hx hb dX1_add_11 rfl (lv_at hl 3 rfl) ?_
  refine lv_iload hx hb dX1_add_12 (lv_at hl 4 rfl) ?_
  refine vp_callSi (va_Run.run (va_runS (As := [.int a, .int n, .int z, .int g]) (rest := []) ⟨hx, hb, hml, hown, hts⟩ (k_X1_canBe l D cB cI cJ cZ a n z g) (va_cwS 4 hts gX1_add_X1_canBe rfl rfl rfl (by decide +kernel) ⟨Nat.le_of_ble_eq_true rfl, Nat.le_of_ble_eq_true rfl⟩) (pre_SR (hP.sub (ws' := []) [] rfl) hK) rfl rfl hl.1 rfl (lv_room (Nat.le_of_ble_eq_true rfl)) dX1_add_14 ⟨Nat.le_of_ble_eq_true rfl, Nat.le_of_ble_eq_true rfl⟩)) (fun r_1 hw_r_1 => ?_)
  refine lv_if_ne (tgt := 22) hx hb dX1_add_17 (by decide) (fun c_17 => ?_) (fun c_17 => ?_)
  ·
    refine lv_aload_n hx hb dX1_add_22 rfl (lv_at hl 0 rfl) ?_
    refine va_get (D := D) (ci := 1) (v := .ref p0) (C := RX1) (T := TX1) (N := 7) hx hb hts w_1 hown hK hP 0 rfl rfl 0 (by decide) w_3 (fun _ h9 => h9) rfl dX1_add_23 ?_
    refine lv_aload_n hx hb dX1_add_26 rfl (lv_at hl 0 rfl) ?_
    refine va_get (D := D) (ci := 1) (v := .int 0) (C := RX1) (T := TX1) (N := 7) hx hb hts w_1 hown hK hP 0 rfl rfl 6 (by decide) w_2 (fun _ h9 => h9) rfl dX1_add_27 ?_
    refine lv_iload_n hx hb dX1_add_30 rfl (lv_at hl 1 rfl) ?_
    refine sv_iast hx hb hK hP hD hS 1 1 rfl rfl (vp_in_iff.mpr (by decide)) dX1_add_31 (fun g_2 H locs eg_2 hP hD hS => ?_)
    have hP : va_P D vwCl [(h0, .inr (1, [.ref p0, .ref p1, .ref p2, .ref p3, .ref p4, .ref p5, .int 0])), (p0, .inl (cI, 16, .inl g_2)), (p1, .inl (cI, 16, .inl (fun _ => 0))), (p2, .inl (cI, 16, .inl (fun _ => 0))), (p3, .inl (cI, 16, .inl (fun _ => 0))), (p4, .inl (cI, 16, .inl (fun _ => 0))), (p5, .inl (cI, 16, .inl (fun _ => 0)))] H := hP
    have hD : va_D A [(h0, .inr (1, [.ref p0, .ref p1, .ref p2, .ref p3, .ref p4, .ref p5, .int 0])), (p0, .inl (cI, 16, .inl g_2)), (p1, .inl (cI, 16, .inl (fun _ => 0))), (p2, .inl (cI, 16, .inl (fun _ => 0))), (p3, .inl (cI, 16, .inl (fun _ => 0))), (p4, .inl (cI, 16, .inl (fun _ => 0))), (p5, .inl (cI, 16, .inl (fun _ => 0)))] := hD
    refine lv_aload_n hx hb dX1_add_32 rfl (lv_at hl 0 rfl) ?_
    refine va_get (D := D) (ci := 1) (v := .ref p1) (C := RX1) (T := TX1) (N := 7) hx hb hts w_1 hown hK hP 0 rfl rfl 1 (by decide) w_4 (fun _ h9 => h9) rfl dX1_add_33 ?_
    refine lv_aload_n hx hb dX1_add_36 rfl (lv_at hl 0 rfl) ?_
    refine va_get (D := D) (ci := 1) (v := .int 0) (C := RX1) (T := TX1) (N := 7) hx hb hts w_1 hown hK hP 0 rfl rfl 6 (by decide) w_2 (fun _ h9 => h9) rfl dX1_add_37 ?_
    refine lv_iload_n hx hb dX1_add_40 rfl (lv_at hl 2 rfl) ?_
    refine sv_iast hx hb hK hP hD hS 2 1 rfl rfl (vp_in_iff.mpr (by decide)) dX1_add_41 (fun g_3 H locs eg_3 hP hD hS => ?_)
    have hP : va_P D vwCl [(h0, .inr (1, [.ref p0, .ref p1, .ref p2, .ref p3, .ref p4, .ref p5, .int 0])), (p0, .inl (cI, 16, .inl g_2)), (p1, .inl (cI, 16, .inl g_3)), (p2, .inl (cI, 16, .inl (fun _ => 0))), (p3, .inl (cI, 16, .inl (fun _ => 0))), (p4, .inl (cI, 16, .inl (fun _ => 0))), (p5, .inl (cI, 16, .inl (fun _ => 0)))] H := hP
    have hD : va_D A [(h0, .inr (1, [.ref p0, .ref p1, .ref p2, .ref p3, .ref p4, .ref p5, .int 0])), (p0, .inl (cI, 16, .inl g_2)), (p1, .inl (cI, 16, .inl g_3)), (p2, .inl (cI, 16, .inl (fun _ => 0))), (p3, .inl (cI, 16, .inl (fun _ => 0))), (p4, .inl (cI, 16, .inl (fun _ => 0))), (p5, .inl (cI, 16, .inl (fun _ => 0)))] := hD
    refine lv_aload_n hx hb dX1_add_42 rfl (lv_at hl 0 rfl) ?_
    refine va_get (D := D) (ci := 1) (v := .ref p2) (C := RX1) (T := TX1) (N := 7) hx hb hts w_1 hown hK hP 0 rfl rfl 2 (by decide) w_5 (fun _ h9 => h9) rfl dX1_add_43 ?_
    refine lv_aload_n hx hb dX1_add_46 rfl (lv_at hl 0 rfl) ?_
    refine va_get (D := D) (ci := 1) (v := .int 0) (C := RX1) (T := TX1) (N := 7) hx hb hts w_1 hown hK hP 0 rfl rfl 6 (by decide) w_2 (fun _ h9 => h9) rfl dX1_add_47 ?_
    refine lv_iload_n hx hb dX1_add_50 rfl (lv_at hl 3 rfl) ?_
    refine sv_iast hx hb hK hP hD hS 3 1 rfl rfl (vp_in_iff.mpr (by decide)) dX1_add_51 (fun g_4 H locs eg_4 hP hD hS => ?_)
    have hP : va_P D vwCl [(h0, .inr (1, [.ref p0, .ref p1, .ref p2, .ref p3, .ref p4, .ref p5, .int 0])), (p0, .inl (cI, 16, .inl g_2)), (p1, .inl (cI, 16, .inl g_3)), (p2, .inl (cI, 16, .inl g_4)), (p3, .inl (cI, 16, .inl (fun _ => 0))), (p4, .inl (cI, 16, .inl (fun _ => 0))), (p5, .inl (cI, 16, .inl (fun _ => 0)))] H := hP
    have hD : va_D A [(h0, .inr (1, [.ref p0, .ref p1, .ref p2, .ref p3, .ref p4, .ref p5, .int 0])), (p0, .inl (cI, 16, .inl g_2)), (p1, .inl (cI, 16, .inl g_3)), (p2, .inl (cI, 16, .inl g_4)), (p3, .inl (cI, 16, .inl (fun _ => 0))), (p4, .inl (cI, 16, .inl (fun _ => 0))), (p5, .inl (cI, 16, .inl (fun _ => 0)))] := hD
    refine lv_aload_n hx hb dX1_add_52 rfl (lv_at hl 0 rfl) ?_
    refine va_get (D := D) (ci := 1) (v := .ref p3) (C := RX1) (T := TX1) (N := 7) hx hb hts w_1 hown hK hP 0 rfl rfl 3 (by decide) w_6 (fun _ h9 => h9) rfl dX1_add_53 ?_
    refine lv_aload_n hx hb dX1_add_56 rfl (lv_at hl 0 rfl) ?_
    refine va_get (D := D) (ci := 1) (v := .int 0) (C := RX1) (T := TX1) (N := 7) hx hb hts w_1 hown hK hP 0 rfl rfl 6 (by decide) w_2 (fun _ h9 => h9) rfl dX1_add_57 ?_
    refine lv_iload hx hb dX1_add_60 (lv_at hl 4 rfl) ?_
    refine sv_iast hx hb hK hP hD hS 4 1 rfl rfl (vp_in_iff.mpr (by decide)) dX1_add_62 (fun g_5 H locs eg_5 hP hD hS => ?_)
    have hP : va_P D vwCl [(h0, .inr (1, [.ref p0, .ref p1, .ref p2, .ref p3, .ref p4, .ref p5, .int 0])), (p0, .inl (cI, 16, .inl g_2)), (p1, .inl (cI, 16, .inl g_3)), (p2, .inl (cI, 16, .inl g_4)), (p3, .inl (cI, 16, .inl g_5)), (p4, .inl (cI, 16, .inl (fun _ => 0))), (p5, .inl (cI, 16, .inl (fun _ => 0)))] H := hP
    have hD : va_D A [(h0, .inr (1, [.ref p0, .ref p1, .ref p2, .ref p3, .ref p4, .ref p5, .int 0])), (p0, .inl (cI, 16, .inl g_2)), (p1, .inl (cI, 16, .inl g_3)), (p2, .inl (cI, 16, .inl g_4)), (p3, .inl (cI, 16, .inl g_5)), (p4, .inl (cI, 16, .inl (fun _ => 0))), (p5, .inl (cI, 16, .inl (fun _ => 0)))] := hD
    refine lv_aload_n hx hb dX1_add_63 rfl (lv_at hl 0 rfl) ?_
    refine va_get (D := D) (ci := 1) (v := .ref p4) (C := RX1) (T := TX1) (N := 7) hx hb hts w_1 hown hK hP 0 rfl rfl 4 (by decide) w_7 (fun _ h9 => h9) rfl dX1_add_64 ?_
    refine lv_aload_n hx hb dX1_add_67 rfl (lv_at hl 0 rfl) ?_
    refine va_get (D := D) (ci := 1) (v := .int 0) (C := RX1) (T := TX1) (N := 7) hx hb hts w_1 hown hK hP 0 rfl rfl 6 (by decide) w_2 (fun _ h9 => h9) rfl dX1_add_68 ?_
    refine lv_iconst (v := 0) hx hb dX1_add_71 (by decide) ?_
    refine sv_iast hx hb hK hP hD hS 5 1 rfl rfl (vp_in_iff.mpr (by decide)) dX1_add_72 (fun g_6 H locs eg_6 hP hD hS => ?_)
    have hP : va_P D vwCl [(h0, .inr (1, [.ref p0, .ref p1, .ref p2, .ref p3, .ref p4, .ref p5, .int 0])), (p0, .inl (cI, 16, .inl g_2)), (p1, .inl (cI, 16, .inl g_3)), (p2, .inl (cI, 16, .inl g_4)), (p3, .inl (cI, 16, .inl g_5)), (p4, .inl (cI, 16, .inl g_6)), (p5, .inl (cI, 16, .inl (fun _ => 0)))] H := hP
    have hD : va_D A [(h0, .inr (1, [.ref p0, .ref p1, .ref p2, .ref p3, .ref p4, .ref p5, .int 0])), (p0, .inl (cI, 16, .inl g_2)), (p1, .inl (cI, 16, .inl g_3)), (p2, .inl (cI, 16, .inl g_4)), (p3, .inl (cI, 16, .inl g_5)), (p4, .inl (cI, 16, .inl g_6)), (p5, .inl (cI, 16, .inl (fun _ => 0)))] := hD
    refine lv_aload_n hx hb dX1_add_73 rfl (lv_at hl 0 rfl) ?_
    refine va_get (D := D) (ci := 1) (v := .ref p5) (C := RX1) (T := TX1) (N := 7) hx hb hts w_1 hown hK hP 0 rfl rfl 5 (by decide) w_8 (fun _ h9 => h9) rfl dX1_add_74 ?_
    refine lv_aload_n hx hb dX1_add_77 rfl (lv_at hl 0 rfl) ?_
    refine va_get (D := D) (ci := 1) (v := .int 0) (C := RX1) (T := TX1) (N := 7) hx hb hts w_1 hown hK hP 0 rfl rfl 6 (by decide) w_2 (fun _ h9 => h9) rfl dX1_add_78 ?_
    refine lv_iconst (v := (-1)) hx hb dX1_add_81 (by decide) ?_
    refine sv_iast hx hb hK hP hD hS 6 1 rfl rfl (vp_in_iff.mpr (by decide)) dX1_add_82 (fun g_7 H locs eg_7 hP hD hS => ?_)
    have hP : va_P D vwCl [(h0, .inr (1, [.ref p0, .ref p1, .ref p2, .ref p3, .ref p4, .ref p5, .int 0])), (p0, .inl (cI, 16, .inl g_2)), (p1, .inl (cI, 16, .inl g_3)), (p2, .inl (cI, 16, .inl g_4)), (p3, .inl (cI, 16, .inl g_5)), (p4, .inl (cI, 16, .inl g_6)), (p5, .inl (cI, 16, .inl g_7))] H := hP
    have hD : va_D A [(h0, .inr (1, [.ref p0, .ref p1, .ref p2, .ref p3, .ref p4, .ref p5, .int 0])), (p0, .inl (cI, 16, .inl g_2)), (p1, .inl (cI, 16, .inl g_3)), (p2, .inl (cI, 16, .inl g_4)), (p3, .inl (cI, 16, .inl g_5)), (p4, .inl (cI, 16, .inl g_6)), (p5, .inl (cI, 16, .inl g_7))] := hD
    refine lv_aload_n hx hb dX1_add_83 rfl (lv_at hl 0 rfl) ?_
    refine lv_dup hx hb dX1_add_84 rfl ?_
    refine va_get (D := D) (ci := 1) (v := .int 0) (C := RX1) (T := TX1) (N := 7) hx hb hts w_1 hown hK hP 0 rfl rfl 6 (by decide) w_2 (fun _ h9 => h9) rfl dX1_add_85 ?_
    refine lv_iconst (v := 1) hx hb dX1_add_88 (by decide) ?_
    refine sv_iadd (v := 1) hx hb dX1_add_89 (by decide) ?_
    refine va_put (D := D) (ci := 1) (v := .int 1) (ty := .int) (C := RX1) (T := TX1) (N := 7) hx hb hts w_1 tyX1 tyX1_ok nmX1 hown hK hP hD hS 0 rfl rfl 6 (by decide) w_2 (fun _ h9 => h9) rfl (by decide +kernel) rfl rfl (Nat.le_of_ble_eq_true rfl) dX1_add_90 (fun H locs hP hD hS => ?_)
    have hP : va_P D vwCl [(h0, .inr (1, [.ref p0, .ref p1, .ref p2, .ref p3, .ref p4, .ref p5, .int 1])), (p0, .inl (cI, 16, .inl g_2)), (p1, .inl (cI, 16, .inl g_3)), (p2, .inl (cI, 16, .inl g_4)), (p3, .inl (cI, 16, .inl g_5)), (p4, .inl (cI, 16, .inl g_6)), (p5, .inl (cI, 16, .inl g_7))] H := hP
    have hD : va_D A [(h0, .inr (1, [.ref p0, .ref p1, .ref p2, .ref p3, .ref p4, .ref p5, .int 1])), (p0, .inl (cI, 16, .inl g_2)), (p1, .inl (cI, 16, .inl g_3)), (p2, .inl (cI, 16, .inl g_4)), (p3, .inl (cI, 16, .inl g_5)), (p4, .inl (cI, 16, .inl g_6)), (p5, .inl (cI, 16, .inl g_7))] := hD
    refine lv_aload_n hx hb dX1_add_93 rfl (lv_at hl 0 rfl) ?_
    refine va_get (D := D) (ci := 1) (v := .int 1) (C := RX1) (T := TX1) (N := 7) hx hb hts w_1 hown hK hP 0 rfl rfl 6 (by decide) w_2 (fun _ h9 => h9) rfl dX1_add_94 ?_
    refine lv_iconst (v := 1) hx hb dX1_add_97 (by decide) ?_
    refine sv_isub (v := 0) hx hb dX1_add_98 (by decide) ?_
    have hP9 := hP.sub (ws' := []) [] rfl
    have hD9 := hD.sub (ws' := []) [] (by decide) rfl
    exact W.iret (v := 0) hx hb hr (fun t ht hW => ⟨⟨_, (), rfl, (if_pos (Classical.byContradiction (fun h9 => absurd (hw_r_1.trans (if_neg h9)) c_17))).symm, by rw [ht]; exact hP9, va_K.moved hW.alike hK, hD9⟩, hS.F ht⟩) hS.2.2 dX1_add_99
  ·
    refine lv_iconst (v := (-1)) hx hb dX1_add_20 (by decide) ?_
    have hP9 := hP.sub (ws' := []) [] rfl
    have hD9 := hD.sub (ws' := []) [] (by decide) rfl
    exact W.iret (v := (-1)) hx hb hr (fun t ht hW => ⟨⟨_, (), rfl, (if_neg (fun h9 => absurd (c_17.symm.trans (hw_r_1.trans (if_pos h9))) (by decide))).symm, by rw [ht]; exact hP9, va_K.moved hW.alike hK, hD9⟩, hS.F ht⟩) hS.2.2 dX1_add_21

set_option maxHeartbeats 4000000 in
set_option maxRecDepth 100000 in
/-- the first legacy -/
theorem k_X0_add (l : Launch) (D : va_G) (cB cI cJ cZ : ClassId) (sz : Nat) (h0 p0 p1 p2 p6 p7 p8 : Nat) (n ee : Int32) : Met l yX0_add wsX0_add ({ frames := 0, cells := 0, slots := 0, locals := 0 } : Room) (cPre D (aTy cB cI cJ cZ) [(h0, .inr (0, [.ref p0, .ref p1, .ref p2, .int 0, .int 0, .int 0, .ref p6, .ref p7, .ref p8])), (p0, .inl (cI, 6, .inl (fun _ => 0))), (p1, .inl (cI, 6, .inl (fun _ => 0))), (p2, .inl (cI, 8, .inl (fun _ => 0))), (p6, .inl (cI, 8, .inl (fun _ => 0))), (p7, .inl (cI, 8, .inl (fun _ => 0))), (p8, .inl (cI, 64, .inl (fun _ => 0)))] sz [.ref h0, .int n, .int ee]) (va_Qi (fun (r : Int32) (u : Unit) => r = if okL n ee then 0 else -1) (cB_ D (aTy cB cI cJ cZ) (va_A [(h0, .inr (0, [.ref p0, .ref p1, .ref p2, .int 0, .int 0, .int 0, .ref p6, .ref p7, .ref p8])), (p0, .inl (cI, 6, .inl (fun _ => 0))), (p1, .inl (cI, 6, .inl (fun _ => 0))), (p2, .inl (cI, 8, .inl (fun _ => 0))), (p6, .inl (cI, 8, .inl (fun _ => 0))), (p7, .inl (cI, 8, .inl (fun _ => 0))), (p8, .inl (cI, 64, .inl (fun _ => 0)))] sz) (fun _ => [])) (va_A [(h0, .inr (0, [.ref p0, .ref p1, .ref p2, .int 0, .int 0, .int 0, .ref p6, .ref p7, .ref p8])), (p0, .inl (cI, 6, .inl (fun _ => 0))), (p1, .inl (cI, 6, .inl (fun _ => 0))), (p2, .inl (cI, 8, .inl (fun _ => 0))), (p6, .inl (cI, 8, .inl (fun _ => 0))), (p7, .inl (cI, 8, .inl (fun _ => 0))), (p8, .inl (cI, 64, .inl (fun _ => 0)))] sz)) 0 0 (va_A [(h0, .inr (0, [.ref p0, .ref p1, .ref p2, .int 0, .int 0, .int 0, .ref p6, .ref p7, .ref p8])), (p0, .inl (cI, 6, .inl (fun _ => 0))), (p1, .inl (cI, 6, .inl (fun _ => 0))), (p2, .inl (cI, 8, .inl (fun _ => 0))), (p6, .inl (cI, 8, .inl (fun _ => 0))), (p7, .inl (cI, 8, .inl (fun _ => 0))), (p8, .inl (cI, 64, .inl (fun _ => 0)))] sz) := by
  refine Met.ofW (cc := cX0_add) (maxL := 3) (ret := (some .int)) (by decide) rfl ?_
  intro p e s m args below meth c s₁ B hml hv
  obtain ⟨rfl, hsz, hP, hK, hD0⟩ := hv
  have hx := B.exec
  have hb := B.bytes
  have hr := B.returns
  have hts := atoms_spec (ws := wsX0_add) B.pre
  have hown : s.vm.findClass RX0 = some m.cls := findClass_of_methodNamed B.named
  have hlocks := B.notSynchronized
  subst hsz
  have hD := hD0.self (sz := s.heap.size)
  generalize hAe : va_A [(h0, .inr (0, [.ref p0, .ref p1, .ref p2, .int 0, .int 0, .int 0, .ref p6, .ref p7, .ref p8])), (p0, .inl (cI, 6, .inl (fun _ => 0))), (p1, .inl (cI, 6, .inl (fun _ => 0))), (p2, .inl (cI, 8, .inl (fun _ => 0))), (p6, .inl (cI, 8, .inl (fun _ => 0))), (p7, .inl (cI, 8, .inl (fun _ => 0))), (p8, .inl (cI, 64, .inl (fun _ => 0)))] s.heap.size = A at hD ⊢
  have hA : ∀ q : Nat, s.heap.size ≤ q → A q := fun q h => by rw [← hAe]; exact Or.inr h
  have hS : va_S A s.heap s.heap [] := va_S.rf
  have hP : va_P D vwCl [(h0, .inr (0, [.ref p0, .ref p1, .ref p2, .int 0, .int 0, .int 0, .ref p6, .ref p7, .ref p8])), (p0, .inl (cI, 6, .inl (fun _ => 0))), (p1, .inl (cI, 6, .inl (fun _ => 0))), (p2, .inl (cI, 8, .inl (fun _ => 0))), (p6, .inl (cI, 8, .inl (fun _ => 0))), (p7, .inl (cI, 8, .inl (fun _ => 0))), (p8, .inl (cI, 64, .inl (fun _ => 0)))] s.heap := hP
  have w_1 : ∀ w ∈ wsX00, w ∈ wsX0_add := by decide +kernel
  have w_2 := hts (Cond.fieldLink RX0 30 "BlueCoats$Chest" "number" "I") (by decide +kernel)
  have w_3 := hts (Cond.fieldLink RX0 21 "BlueCoats$Chest" "coins" "[I") (by decide +kernel)
  have w_4 := hts (Cond.fieldLink RX0 24 "BlueCoats$Chest" "ends" "[I") (by decide +kernel)
  have hl := lv_entry ([.ref h0, .int n, .int ee]) (n := 3) (Nat.le_of_ble_eq_true rfl)
  rw [lg_entry_eq]
  generalize (lg_sl ([.ref h0, .int n, .int ee]) ++ List.replicate (3 - (lg_sl ([.ref h0, .int n, .int ee])).length) Slot.unset).toArray = ls at hl ⊢
  have hl : lv_has ls 3 [(0, .ref h0), (1, .int n), (2, .int ee)] := hl
  refine lv_aload_n hx hb dX0_add_0 rfl (lv_at hl 0 rfl) ?_
  refine va_get (D := D) (ci := 0) (v := .int 0) (C := RX0) (T := TX0) (N := 9) hx hb hts w_1 hown hK hP 0 rfl rfl 3 (by decide) w_2 (fun _ h9 => h9) rfl dX0_add_1 ?_
  refine lv_bipush (v := 8) hx hb dX0_add_4 (by decide) ?_
  refine lv_icmp_ge (tgt := 30) hx hb dX0_add_6 (by decide) (fun h => absurd h (by decide)) (fun _ => ?_)
  refine lv_iload_n hx hb dX0_add_9 rfl (lv_at hl 1 rfl) ?_
  refine lv_if_lt (tgt := 30) hx hb dX0_add_10 (by decide) (fun c_10 => ?_) (fun c_10 => ?_)
  ·
    refine lv_iconst (v := (-1)) hx hb dX0_add_30 (by decide) ?_
    have hP9 := hP.sub (ws' := []) [] rfl
    have hD9 := hD.sub (ws' := []) [] (by decide) rfl
    exact W.iret (v := (-1)) hx hb hr (fun t ht hW => ⟨⟨_, (), rfl, (if_neg (fun h => h.1 c_10)).symm, by rw [ht]; exact hP9, va_K.moved hW.alike hK, hD9⟩, hS.F ht⟩) hS.2.2 dX0_add_31
  ·
    refine lv_iload_n hx hb dX0_add_13 rfl (lv_at hl 1 rfl) ?_
    refine lv_sipush (v := 9999) hx hb dX0_add_14 (by decide) ?_
    refine lv_icmp_gt (tgt := 30) hx hb dX0_add_17 (by decide) (fun c_17 => ?_) (fun c_17 => ?_)
    ·
      refine lv_iconst (v := (-1)) hx hb dX0_add_30 (by decide) ?_
      have hP9 := hP.sub (ws' := []) [] rfl
      have hD9 := hD.sub (ws' := []) [] (by decide) rfl
      exact W.iret (v := (-1)) hx hb hr (fun t ht hW => ⟨⟨_, (), rfl, (if_neg (fun h => h.2.1 c_17)).symm, by rw [ht]; exact hP9, va_K.moved hW.alike hK, hD9⟩, hS.F ht⟩) hS.2.2 dX0_add_31
    ·
      refine lv_iload_n hx hb dX0_add_20 rfl (lv_at hl 2 rfl) ?_
      refine lv_if_lt (tgt := 30) hx hb dX0_add_21 (by decide) (fun c_21 => ?_) (fun c_21 => ?_)
      ·
        refine lv_iconst (v := (-1)) hx hb dX0_add_30 (by decide) ?_
        have hP9 := hP.sub (ws' := []) [] rfl
        have hD9 := hD.sub (ws' := []) [] (by decide) rfl
        exact W.iret (v := (-1)) hx hb hr (fun t ht hW => ⟨⟨_, (), rfl, (if_neg (fun h => h.2.2.1 c_21)).symm, by rw [ht]; exact hP9, va_K.moved hW.alike hK, hD9⟩, hS.F ht⟩) hS.2.2 dX0_add_31
      ·
        refine lv_iload_n hx hb dX0_add_24 rfl (lv_at hl 2 rfl) ?_
        refine lv_bipush (v := 64) hx hb dX0_add_25 (by decide) ?_
        refine lv_icmp_lt (tgt := 32) hx hb dX0_add_27 (by decide) (fun c_27 => ?_) (fun c_27 => ?_)
        ·
          refine lv_aload_n hx hb dX0_add_32 rfl (lv_at hl 0 rfl) ?_
          refine va_get (D := D) (ci := 0) (v := .ref p6) (C := RX0) (T := TX0) (N := 9) hx hb hts w_1 hown hK hP 0 rfl rfl 6 (by decide) w_3 (fun _ h9 => h9) rfl dX0_add_33 ?_
          refine lv_aload_n hx hb dX0_add_36 rfl (lv_at hl 0 rfl) ?_
          refine va_get (D := D) (ci := 0) (v := .int 0) (C := RX0) (T := TX0) (N := 9) hx hb hts w_1 hown hK hP 0 rfl rfl 3 (by decide) w_2 (fun _ h9 => h9) rfl dX0_add_37 ?_
          refine lv_iload_n hx hb dX0_add_40 rfl (lv_at hl 1 rfl) ?_
          refine sv_iast hx hb hK hP hD hS 4 1 rfl rfl (vp_in_iff.mpr (by decide)) dX0_add_41 (fun g_1 H locs eg_1 hP hD hS => ?_)
          have hP : va_P D vwCl [(h0, .inr (0, [.ref p0, .ref p1, .ref p2, .int 0, .int 0, .int 0, .ref p6, .ref p7, .ref p8])), (p0, .inl (cI, 6, .inl (fun _ => 0))), (p1, .inl (cI, 6, .inl (fun _ => 0))), (p2, .inl (cI, 8, .inl (fun _ => 0))), (p6, .inl (cI, 8, .inl g_1)), (p7, .inl (cI, 8, .inl (fun _ => 0))), (p8, .inl (cI, 64, .inl (fun _ => 0)))] H := hP
          have hD : va_D A [(h0, .inr (0, [.ref p0, .ref p1, .ref p2, .int 0, .int 0, .int 0, .ref p6, .ref p7, .ref p8])), (p0, .inl (cI, 6, .inl (fun _ => 0))), (p1, .inl (cI, 6, .inl (fun _ => 0))), (p2, .inl (cI, 8, .inl (fun _ => 0))), (p6, .inl (cI, 8, .inl g_1)), (p7, .inl (cI, 8, .inl (fun _ => 0))), (p8, .inl (cI, 64, .inl (fun _ => 0)))] := hD
          refine lv_aload_n hx hb dX0_add_42 rfl (lv_at hl 0 rfl) ?_
          refine va_get (D := D) (ci := 0) (v := .ref p7) (C := RX0) (T := TX0) (N := 9) hx hb hts w_1 hown hK hP 0 rfl rfl 7 (by decide) w_4 (fun _ h9 => h9) rfl dX0_add_43 ?_
          refine lv_aload_n hx hb dX0_add_46 rfl (lv_at hl 0 rfl) ?_
          refine va_get (D := D) (ci := 0) (v := .int 0) (C := RX0) (T := TX0) (N := 9) hx hb hts w_1 hown hK hP 0 rfl rfl 3 (by decide) w_2 (fun _ h9 => h9) rfl dX0_add_47 ?_
          refine lv_iload_n hx hb dX0_add_50 rfl (lv_at hl 2 rfl) ?_
          refine sv_iast hx hb hK hP hD hS 5 1 rfl rfl (vp_in_iff.mpr (by decide)) dX0_add_51 (fun g_2 H locs eg_2 hP hD hS => ?_)
          have hP : va_P D vwCl [(h0, .inr (0, [.ref p0, .ref p1, .ref p2, .int 0, .int 0, .int 0, .ref p6, .ref p7, .ref p8])), (p0, .inl (cI, 6, .inl (fun _ => 0))), (p1, .inl (cI, 6, .inl (fun _ => 0))), (p2, .inl (cI, 8, .inl (fun _ => 0))), (p6, .inl (cI, 8, .inl g_1)), (p7, .inl (cI, 8, .inl g_2)), (p8, .inl (cI, 64, .inl (fun _ => 0)))] H := hP
          have hD : va_D A [(h0, .inr (0, [.ref p0, .ref p1, .ref p2, .int 0, .int 0, .int 0, .ref p6, .ref p7, .ref p8])), (p0, .inl (cI, 6, .inl (fun _ => 0))), (p1, .inl (cI, 6, .inl (fun _ => 0))), (p2, .inl (cI, 8, .inl (fun _ => 0))), (p6, .inl (cI, 8, .inl g_1)), (p7, .inl (cI, 8, .inl g_2)), (p8, .inl (cI, 64, .inl (fun _ => 0)))] := hD
          refine lv_aload_n hx hb dX0_add_52 rfl (lv_at hl 0 rfl) ?_
          refine lv_dup hx hb dX0_add_53 rfl ?_
          refine va_get (D := D) (ci := 0) (v := .int 0) (C := RX0) (T := TX0) (N := 9) hx hb hts w_1 hown hK hP 0 rfl rfl 3 (by decide) w_2 (fun _ h9 => h9) rfl dX0_add_54 ?_
          refine lv_iconst (v := 1) hx hb dX0_add_57 (by decide) ?_
          refine sv_iadd (v := 1) hx hb dX0_add_58 (by decide) ?_
          refine va_put (D := D) (ci := 0) (v := .int 1) (ty := .int) (C := RX0) (T := TX0) (N := 9) hx hb hts w_1 tyX0 tyX0_ok nmX0 hown hK hP hD hS 0 rfl rfl 3 (by decide) w_2 (fun _ h9 => h9) rfl (by decide +kernel) rfl rfl (Nat.le_of_ble_eq_true rfl) dX0_add_59 (fun H locs hP hD hS => ?_)
          have hP : va_P D vwCl [(h0, .inr (0, [.ref p0, .ref p1, .ref p2, .int 1, .int 0, .int 0, .ref p6, .ref p7, .ref p8])), (p0, .inl (cI, 6, .inl (fun _ => 0))), (p1, .inl (cI, 6, .inl (fun _ => 0))), (p2, .inl (cI, 8, .inl (fun _ => 0))), (p6, .inl (cI, 8, .inl g_1)), (p7, .inl (cI, 8, .inl g_2)), (p8, .inl (cI, 64, .inl (fun _ => 0)))] H := hP
          have hD : va_D A [(h0, .inr (0, [.ref p0, .ref p1, .ref p2, .int 1, .int 0, .int 0, .ref p6, .ref p7, .ref p8])), (p0, .inl (cI, 6, .inl (fun _ => 0))), (p1, .inl (cI, 6, .inl (fun _ => 0))), (p2, .inl (cI, 8, .inl (fun _ => 0))), (p6, .inl (cI, 8, .inl g_1)), (p7, .inl (cI, 8, .inl g_2)), (p8, .inl (cI, 64, .inl (fun _ => 0)))] := hD
          refine lv_aload_n hx hb dX0_add_62 rfl (lv_at hl 0 rfl) ?_
          refine va_get (D := D) (ci := 0) (v := .int 1) (C := RX0) (T := TX0) (N := 9) hx hb hts w_1 hown hK hP 0 rfl rfl 3 (by decide) w_2 (fun _ h9 => h9) rfl dX0_add_63 ?_
          refine lv_iconst (v := 1) hx hb dX0_add_66 (by decide) ?_
          refine sv_isub (v := 0) hx hb dX0_add_67 (by decide) ?_
          have hP9 := hP.sub (ws' := []) [] rfl
          have hD9 := hD.sub (ws' := []) [] (by decide) rfl
          exact W.iret (v := 0) hx hb hr (fun t ht hW => ⟨⟨_, (), rfl, (if_pos ⟨c_10, c_17, c_21, (i_lt64 c_27)⟩).symm, by rw [ht]; exact hP9, va_K.moved hW.alike hK, hD9⟩, hS.F ht⟩) hS.2.2 dX0_add_68
        ·
          refine lv_iconst (v := (-1)) hx hb dX0_add_30 (by decide) ?_
          have hP9 := hP.sub (ws' := []) [] rfl
          have hD9 := hD.sub (ws' := []) [] (by decide) rfl
          exact W.iret (v := (-1)) hx hb hr (fun t ht hW => ⟨⟨_, (), rfl, (if_neg (fun h => h.2.2.2 (i_ge64 c_27))).symm, by rw [ht]; exact hP9, va_K.moved hW.alike hK, hD9⟩, hS.F ht⟩) hS.2.2 dX0_add_31

set_option maxHeartbeats 4000000 in
set_option maxRecDepth 100000 in
/-- four bytes more, at 0 -/
theorem k_X4_app0 (l : Launch) (D : va_G) (cB cI cJ cZ : ClassId) (sz : Nat) (h0 dr tp : Nat) (f : Nat → Int32) (v : Int32) : Met l yX4_append wsX4_append ({ frames := 0, cells := 0, slots := 0, locals := 0 } : Room) (cPre D (aTy cB cI cJ cZ) [(h0, .inr (4, [.ref dr, .int 0, .int (-1), .int 0, .ref tp, .int 0, .int 0, .int 0, .int 0, .int 0, .int 0])), (tp, .inl (cB, 300, .inl f))] sz [.ref h0, .int v]) (va_Qv (fun (u : Nat → Int32) => True) (cB_ D (aTy cB cI cJ cZ) (va_A [(h0, .inr (4, [.ref dr, .int 0, .int (-1), .int 0, .ref tp, .int 0, .int 0, .int 0, .int 0, .int 0, .int 0])), (tp, .inl (cB, 300, .inl f))] sz) (fun g => [(h0, .inr (4, [.ref dr, .int 0, .int (-1), .int 4, .ref tp, .int 0, .int 0, .int 0, .int 0, .int 0, .int 0])), (tp, .inl (cB, 300, .inl g))])) (va_A [(h0, .inr (4, [.ref dr, .int 0, .int (-1), .int 0, .ref tp, .int 0, .int 0, .int 0, .int 0, .int 0, .int 0])), (tp, .inl (cB, 300, .inl f))] sz)) 0 0 (va_A [(h0, .inr (4, [.ref dr, .int 0, .int (-1), .int 0, .ref tp, .int 0, .int 0, .int 0, .int 0, .int 0, .int 0])), (tp, .inl (cB, 300, .inl f))] sz) := by
  refine Met.ofW (cc := cX4_append) (maxL := 3) (ret := none) (by decide) rfl ?_
  intro p e s m args below meth c s₁ B hml hv
  obtain ⟨rfl, hsz, hP, hK, hD0⟩ := hv
  have hx := B.exec
  have hb := B.bytes
  have hr := B.returns
  have hts := atoms_spec (ws := wsX4_append) B.pre
  have hown : s.vm.findClass RX4 = some m.cls := findClass_of_methodNamed B.named
  have hlocks := B.notSynchronized
  subst hsz
  have hD := hD0.self (sz := s.heap.size)
  generalize hAe : va_A [(h0, .inr (4, [.ref dr, .int 0, .int (-1), .int 0, .ref tp, .int 0, .int 0, .int 0, .int 0, .int 0, .int 0])), (tp, .inl (cB, 300, .inl f))] s.heap.size = A at hD ⊢
  have hA : ∀ q : Nat, s.heap.size ≤ q → A q := fun q h => by rw [← hAe]; exact Or.inr h
  have hS : va_S A s.heap s.heap [] := va_S.rf
  have hP : va_P D vwCl [(h0, .inr (4, [.ref dr, .int 0, .int (-1), .int 0, .ref tp, .int 0, .int 0, .int 0, .int 0, .int 0, .int 0])), (tp, .inl (cB, 300, .inl f))] s.heap := hP
  have w_1 : ∀ w ∈ wsX40, w ∈ wsX4_append := by decide +kernel
  have w_2 := hts (Cond.fieldLink RX4 29 "BlueCoats$Reader" "taped" "I") (by decide +kernel)
  have w_3 := hts (Cond.fieldLink RX4 25 "BlueCoats$Reader" "tape" "[B") (by decide +kernel)
  have hl := lv_entry ([.ref h0, .int v]) (n := 3) (Nat.le_of_ble_eq_true rfl)
  rw [lg_entry_eq]
  generalize (lg_sl ([.ref h0, .int v]) ++ List.replicate (3 - (lg_sl ([.ref h0, .int v])).length) Slot.unset).toArray = ls at hl ⊢
  have hl : lv_has ls 3 [(0, .ref h0), (1, .int v)] := hl
  refine lv_bipush (v := 24) hx hb dX4_append_0 (by decide) ?_
  refine lv_istore_n (lv' := [(2, .int 24), (0, .ref h0), (1, .int v)]) hx hb dX4_append_2 rfl hl (by decide) rfl (fun ls hl => ?_)
  refine lv_iload_n hx hb dX4_append_3 rfl (lv_at hl 0 rfl) ?_
  refine lv_if_lt (tgt := 46) hx hb dX4_append_4 (by decide) (fun h => absurd h (by decide)) (fun _ => ?_)
  refine lv_aload_n hx hb dX4_append_7 rfl (lv_at hl 1 rfl) ?_
  refine va_get (D := D) (ci := 4) (v := .int 0) (C := RX4) (T := TX4) (N := 11) hx hb hts w_1 hown hK hP 0 rfl rfl 3 (by decide) w_2 (fun _ h9 => h9) rfl dX4_append_8 ?_
  refine lv_sipush (v := 300) hx hb dX4_append_11 (by decide) ?_
  refine lv_icmp_ge (tgt := 40) hx hb dX4_append_14 (by decide) (fun h => absurd h (by decide)) (fun _ => ?_)
  refine lv_aload_n hx hb dX4_append_17 rfl (lv_at hl 1 rfl) ?_
  refine va_get (D := D) (ci := 4) (v := .ref tp) (C := RX4) (T := TX4) (N := 11) hx hb hts w_1 hown hK hP 0 rfl rfl 4 (by decide) w_3 (fun _ h9 => h9) rfl dX4_append_18 ?_
  refine lv_aload_n hx hb dX4_append_21 rfl (lv_at hl 1 rfl) ?_
  refine va_get (D := D) (ci := 4) (v := .int 0) (C := RX4) (T := TX4) (N := 11) hx hb hts w_1 hown hK hP 0 rfl rfl 3 (by decide) w_2 (fun _ h9 => h9) rfl dX4_append_22 ?_
  refine lv_iload_n hx hb dX4_append_25 rfl (lv_at hl 2 rfl) ?_
  refine lv_iload_n hx hb dX4_append_26 rfl (lv_at hl 0 rfl) ?_
  refine lv_iushr (v := (v.toUInt32 >>> ((24 : Int32).toUInt32 &&& Int32.toUInt32 31)).toInt32) hx hb dX4_append_27 rfl ?_
  refine lv_i2b (v := ((v.toUInt32 >>> ((24 : Int32).toUInt32 &&& Int32.toUInt32 31)).toInt32).toInt8.toInt32) hx hb dX4_append_28 rfl ?_
  refine sv_bast hx hb hK hP hD hS 1 0 rfl rfl (vp_in_iff.mpr (by decide)) dX4_append_29 (fun g_1 H locs eg_1 hP hD hS => ?_)
  have hP : va_P D vwCl [(h0, .inr (4, [.ref dr, .int 0, .int (-1), .int 0, .ref tp, .int 0, .int 0, .int 0, .int 0, .int 0, .int 0])), (tp, .inl (cB, 300, .inl g_1))] H := hP
  have hD : va_D A [(h0, .inr (4, [.ref dr, .int 0, .int (-1), .int 0, .ref tp, .int 0, .int 0, .int 0, .int 0, .int 0, .int 0])), (tp, .inl (cB, 300, .inl g_1))] := hD
  refine lv_aload_n hx hb dX4_append_30 rfl (lv_at hl 1 rfl) ?_
  refine lv_dup hx hb dX4_append_31 rfl ?_
  refine va_get (D := D) (ci := 4) (v := .int 0) (C := RX4) (T := TX4) (N := 11) hx hb hts w_1 hown hK hP 0 rfl rfl 3 (by decide) w_2 (fun _ h9 => h9) rfl dX4_append_32 ?_
  refine lv_iconst (v := 1) hx hb dX4_append_35 (by decide) ?_
  refine sv_iadd (v := 1) hx hb dX4_append_36 (by decide) ?_
  refine va_put (D := D) (ci := 4) (v := .int 1) (ty := .int) (C := RX4) (T := TX4) (N := 11) hx hb hts w_1 tyX4 tyX4_ok nmX4 hown hK hP hD hS 0 rfl rfl 3 (by decide) w_2 (fun _ h9 => h9) rfl (by decide +kernel) rfl rfl (Nat.le_of_ble_eq_true rfl) dX4_append_37 (fun H locs hP hD hS => ?_)
  have hP : va_P D vwCl [(h0, .inr (4, [.ref dr, .int 0, .int (-1), .int 1, .ref tp, .int 0, .int 0, .int 0, .int 0, .int 0, .int 0])), (tp, .inl (cB, 300, .inl g_1))] H := hP
  have hD : va_D A [(h0, .inr (4, [.ref dr, .int 0, .int (-1), .int 1, .ref tp, .int 0, .int 0, .int 0, .int 0, .int 0, .int 0])), (tp, .inl (cB, 300, .inl g_1))] := hD
  refine lv_iinc (v := 16) (lv' := [(2, .int 16), (0, .ref h0), (1, .int v)]) hx hb dX4_append_40 hl (k := 0) rfl (by decide) (by decide) rfl (fun ls hl => ?_)
  refine lv_goto (tgt := 3) hx hb dX4_append_43 (by decide) ?_
  refine lv_iload_n hx hb dX4_append_3 rfl (lv_at hl 0 rfl) ?_
  refine lv_if_lt (tgt := 46) hx hb dX4_append_4 (by decide) (fun h => absurd h (by decide)) (fun _ => ?_)
  refine lv_aload_n hx hb dX4_append_7 rfl (lv_at hl 1 rfl) ?_
  refine va_get (D := D) (ci := 4) (v := .int 1) (C := RX4) (T := TX4) (N := 11) hx hb hts w_1 hown hK hP 0 rfl rfl 3 (by decide) w_2 (fun _ h9 => h9) rfl dX4_append_8 ?_
  refine lv_sipush (v := 300) hx hb dX4_append_11 (by decide) ?_
  refine lv_icmp_ge (tgt := 40) hx hb dX4_append_14 (by decide) (fun h => absurd h (by decide)) (fun _ => ?_)
  refine lv_aload_n hx hb dX4_append_17 rfl (lv_at hl 1 rfl) ?_
  refine va_get (D := D) (ci := 4) (v := .ref tp) (C := RX4) (T := TX4) (N := 11) hx hb hts w_1 hown hK hP 0 rfl rfl 4 (by decide) w_3 (fun _ h9 => h9) rfl dX4_append_18 ?_
  refine lv_aload_n hx hb dX4_append_21 rfl (lv_at hl 1 rfl) ?_
  refine va_get (D := D) (ci := 4) (v := .int 1) (C := RX4) (T := TX4) (N := 11) hx hb hts w_1 hown hK hP 0 rfl rfl 3 (by decide) w_2 (fun _ h9 => h9) rfl dX4_append_22 ?_
  refine lv_iload_n hx hb dX4_append_25 rfl (lv_at hl 2 rfl) ?_
  refine lv_iload_n hx hb dX4_append_26 rfl (lv_at hl 0 rfl) ?_
  refine lv_iushr (v := (v.toUInt32 >>> ((16 : Int32).toUInt32 &&& Int32.toUInt32 31)).toInt32) hx hb dX4_append_27 rfl ?_
  refine lv_i2b (v := ((v.toUInt32 >>> ((16 : Int32).toUInt32 &&& Int32.toUInt32 31)).toInt32).toInt8.toInt32) hx hb dX4_append_28 rfl ?_
  refine sv_bast hx hb hK hP hD hS 1 0 rfl rfl (vp_in_iff.mpr (by decide)) dX4_append_29 (fun g_2 H locs eg_2 hP hD hS => ?_)
  have hP : va_P D vwCl [(h0, .inr (4, [.ref dr, .int 0, .int (-1), .int 1, .ref tp, .int 0, .int 0, .int 0, .int 0, .int 0, .int 0])), (tp, .inl (cB, 300, .inl g_2))] H := hP
  have hD : va_D A [(h0, .inr (4, [.ref dr, .int 0, .int (-1), .int 1, .ref tp, .int 0, .int 0, .int 0, .int 0, .int 0, .int 0])), (tp, .inl (cB, 300, .inl g_2))] := hD
  refine lv_aload_n hx hb dX4_append_30 rfl (lv_at hl 1 rfl) ?_
  refine lv_dup hx hb dX4_append_31 rfl ?_
  refine va_get (D := D) (ci := 4) (v := .int 1) (C := RX4) (T := TX4) (N := 11) hx hb hts w_1 hown hK hP 0 rfl rfl 3 (by decide) w_2 (fun _ h9 => h9) rfl dX4_append_32 ?_
  refine lv_iconst (v := 1) hx hb dX4_append_35 (by decide) ?_
  refine sv_iadd (v := 2) hx hb dX4_append_36 (by decide) ?_
  refine va_put (D := D) (ci := 4) (v := .int 2) (ty := .int) (C := RX4) (T := TX4) (N := 11) hx hb hts w_1 tyX4 tyX4_ok nmX4 hown hK hP hD hS 0 rfl rfl 3 (by decide) w_2 (fun _ h9 => h9) rfl (by decide +kernel) rfl rfl (Nat.le_of_ble_eq_true rfl) dX4_append_37 (fun H locs hP hD hS => ?_)
  have hP : va_P D vwCl [(h0, .inr (4, [.ref dr, .int 0, .int (-1), .int 2, .ref tp, .int 0, .int 0, .int 0, .int 0, .int 0, .int 0])), (tp, .inl (cB, 300, .inl g_2))] H := hP
  have hD : va_D A [(h0, .inr (4, [.ref dr, .int 0, .int (-1), .int 2, .ref tp, .int 0, .int 0, .int 0, .int 0, .int 0, .int 0])), (tp, .inl (cB, 300, .inl g_2))] := hD
  refine lv_iinc (v := 8) (lv' := [(2, .int 8), (0, .ref h0), (1, .int v)]) hx hb dX4_append_40 hl (k := 0) rfl (by decide) (by decide) rfl (fun ls hl => ?_)
  refine lv_goto (tgt := 3) hx hb dX4_append_43 (by decide) ?_
  refine lv_iload_n hx hb dX4_append_3 rfl (lv_at hl 0 rfl) ?_
  refine lv_if_lt (tgt := 46) hx hb dX4_append_4 (by decide) (fun h => absurd h (by decide)) (fun _ => ?_)
  refine lv_aload_n hx hb dX4_append_7 rfl (lv_at hl 1 rfl) ?_
  refine va_get (D := D) (ci := 4) (v := .int 2) (C := RX4) (T := TX4) (N := 11) hx hb hts w_1 hown hK hP 0 rfl rfl 3 (by decide) w_2 (fun _ h9 => h9) rfl dX4_append_8 ?_
  refine lv_sipush (v := 300) hx hb dX4_append_11 (by decide) ?_
  refine lv_icmp_ge (tgt := 40) hx hb dX4_append_14 (by decide) (fun h => absurd h (by decide)) (fun _ => ?_)
  refine lv_aload_n hx hb dX4_append_17 rfl (lv_at hl 1 rfl) ?_
  refine va_get (D := D) (ci := 4) (v := .ref tp) (C := RX4) (T := TX4) (N := 11) hx hb hts w_1 hown hK hP 0 rfl rfl 4 (by decide) w_3 (fun _ h9 => h9) rfl dX4_append_18 ?_
  refine lv_aload_n hx hb dX4_append_21 rfl (lv_at hl 1 rfl) ?_
  refine va_get (D := D) (ci := 4) (v := .int 2) (C := RX4) (T := TX4) (N := 11) hx hb hts w_1 hown hK hP 0 rfl rfl 3 (by decide) w_2 (fun _ h9 => h9) rfl dX4_append_22 ?_
  refine lv_iload_n hx hb dX4_append_25 rfl (lv_at hl 2 rfl) ?_
  refine lv_iload_n hx hb dX4_append_26 rfl (lv_at hl 0 rfl) ?_
  refine lv_iushr (v := (v.toUInt32 >>> ((8 : Int32).toUInt32 &&& Int32.toUInt32 31)).toInt32) hx hb dX4_append_27 rfl ?_
  refine lv_i2b (v := ((v.toUInt32 >>> ((8 : Int32).toUInt32 &&& Int32.toUInt32 31)).toInt32).toInt8.toInt32) hx hb dX4_append_28 rfl ?_
  refine sv_bast hx hb hK hP hD hS 1 0 rfl rfl (vp_in_iff.mpr (by decide)) dX4_append_29 (fun g_3 H locs eg_3 hP hD hS => ?_)
  have hP : va_P D vwCl [(h0, .inr (4, [.ref dr, .int 0, .int (-1), .int 2, .ref tp, .int 0, .int 0, .int 0, .int 0, .int 0, .int 0])), (tp, .inl (cB, 300, .inl g_3))] H := hP
  have hD : va_D A [(h0, .inr (4, [.ref dr, .int 0, .int (-1), .int 2, .ref tp, .int 0, .int 0, .int 0, .int 0, .int 0, .int 0])), (tp, .inl (cB, 300, .inl g_3))] := hD
  refine lv_aload_n hx hb dX4_append_30 rfl (lv_at hl 1 rfl) ?_
  refine lv_dup hx hb dX4_append_31 rfl ?_
  refine va_get (D := D) (ci := 4) (v := .int 2) (C := RX4) (T := TX4) (N := 11) hx hb hts w_1 hown hK hP 0 rfl rfl 3 (by decide) w_2 (fun _ h9 => h9) rfl dX4_append_32 ?_
  refine lv_iconst (v := 1) hx hb dX4_append_35 (by decide) ?_
  refine sv_iadd (v := 3) hx hb dX4_append_36 (by decide) ?_
  refine va_put (D := D) (ci := 4) (v := .int 3) (ty := .int) (C := RX4) (T := TX4) (N := 11) hx hb hts w_1 tyX4 tyX4_ok nmX4 hown hK hP hD hS 0 rfl rfl 3 (by decide) w_2 (fun _ h9 => h9) rfl (by decide +kernel) rfl rfl (Nat.le_of_ble_eq_true rfl) dX4_append_37 (fun H locs hP hD hS => ?_)
  have hP : va_P D vwCl [(h0, .inr (4, [.ref dr, .int 0, .int (-1), .int 3, .ref tp, .int 0, .int 0, .int 0, .int 0, .int 0, .int 0])), (tp, .inl (cB, 300, .inl g_3))] H := hP
  have hD : va_D A [(h0, .inr (4, [.ref dr, .int 0, .int (-1), .int 3, .ref tp, .int 0, .int 0, .int 0, .int 0, .int 0, .int 0])), (tp, .inl (cB, 300, .inl g_3))] := hD
  refine lv_iinc (v := 0) (lv' := [(2, .int 0), (0, .ref h0), (1, .int v)]) hx hb dX4_append_40 hl (k := 0) rfl (by decide) (by decide) rfl (fun ls hl => ?_)
  refine lv_goto (tgt := 3) hx hb dX4_append_43 (by decide) ?_
  refine lv_iload_n hx hb dX4_append_3 rfl (lv_at hl 0 rfl) ?_
  refine lv_if_lt (tgt := 46) hx hb dX4_append_4 (by decide) (fun h => absurd h (by decide)) (fun _ => ?_)
  refine lv_aload_n hx hb dX4_append_7 rfl (lv_at hl 1 rfl) ?_
  refine va_get (D := D) (ci := 4) (v := .int 3) (C := RX4) (T := TX4) (N := 11) hx hb hts w_1 hown hK hP 0 rfl rfl 3 (by decide) w_2 (fun _ h9 => h9) rfl dX4_append_8 ?_
  refine lv_sipush (v := 300) hx hb dX4_append_11 (by decide) ?_
  refine lv_icmp_ge (tgt := 40) hx hb dX4_append_14 (by decide) (fun h => absurd h (by decide)) (fun _ => ?_)
  refine lv_aload_n hx hb dX4_append_17 rfl (lv_at hl 1 rfl) ?_
  refine va_get (D := D) (ci := 4) (v := .ref tp) (C := RX4) (T := TX4) (N := 11) hx hb hts w_1 hown hK hP 0 rfl rfl 4 (by decide) w_3 (fun _ h9 => h9) rfl dX4_append_18 ?_
  refine lv_aload_n hx hb dX4_append_21 rfl (lv_at hl 1 rfl) ?_
  refine va_get (D := D) (ci := 4) (v := .int 3) (C := RX4) (T := TX4) (N := 11) hx hb hts w_1 hown hK hP 0 rfl rfl 3 (by decide) w_2 (fun _ h9 => h9) rfl dX4_append_22 ?_
  refine lv_iload_n hx hb dX4_append_25 rfl (lv_at hl 2 rfl) ?_
  refine lv_iload_n hx hb dX4_append_26 rfl (lv_at hl 0 rfl) ?_
  refine lv_iushr (v := (v.toUInt32 >>> ((0 : Int32).toUInt32 &&& Int32.toUInt32 31)).toInt32) hx hb dX4_append_27 rfl ?_
  refine lv_i2b (v := ((v.toUInt32 >>> ((0 : Int32).toUInt32 &&& Int32.toUInt32 31)).toInt32).toInt8.toInt32) hx hb dX4_append_28 rfl ?_
  refine sv_bast hx hb hK hP hD hS 1 0 rfl rfl (vp_in_iff.mpr (by decide)) dX4_append_29 (fun g_4 H locs eg_4 hP hD hS => ?_)
  have hP : va_P D vwCl [(h0, .inr (4, [.ref dr, .int 0, .int (-1), .int 3, .ref tp, .int 0, .int 0, .int 0, .int 0, .int 0, .int 0])), (tp, .inl (cB, 300, .inl g_4))] H := hP
  have hD : va_D A [(h0, .inr (4, [.ref dr, .int 0, .int (-1), .int 3, .ref tp, .int 0, .int 0, .int 0, .int 0, .int 0, .int 0])), (tp, .inl (cB, 300, .inl g_4))] := hD
  refine lv_aload_n hx hb dX4_append_30 rfl (lv_at hl 1 rfl) ?_
  refine lv_dup hx hb dX4_append_31 rfl ?_
  refine va_get (D := D) (ci := 4) (v := .int 3) (C := RX4) (T := TX4) (N := 11) hx hb hts w_1 hown hK hP 0 rfl rfl 3 (by decide) w_2 (fun _ h9 => h9) rfl dX4_append_32 ?_
  refine lv_iconst (v := 1) hx hb dX4_append_35 (by decide) ?_
  refine sv_iadd (v := 4) hx hb dX4_append_36 (by decide) ?_
  refine va_put (D := D) (ci := 4) (v := .int 4) (ty := .int) (C := RX4) (T := TX4) (N := 11) hx hb hts w_1 tyX4 tyX4_ok nmX4 hown hK hP hD hS 0 rfl rfl 3 (by decide) w_2 (fun _ h9 => h9) rfl (by decide +kernel) rfl rfl (Nat.le_of_ble_eq_true rfl) dX4_append_37 (fun H locs hP hD hS => ?_)
  have hP : va_P D vwCl [(h0, .inr (4, [.ref dr, .int 0, .int (-1), .int 4, .ref tp, .int 0, .int 0, .int 0, .int 0, .int 0, .int 0])), (tp, .inl (cB, 300, .inl g_4))] H := hP
  have hD : va_D A [(h0, .inr (4, [.ref dr, .int 0, .int (-1), .int 4, .ref tp, .int 0, .int 0, .int 0, .int 0, .int 0, .int 0])), (tp, .inl (cB, 300, .inl g_4))] := hD
  refine lv_iinc (v := (-8)) (lv' := [(2, .int (-8)), (0, .ref h0), (1, .int v)]) hx hb dX4_append_40 hl (k := 0) rfl (by decide) (by decide) rfl (fun ls hl => ?_)
  refine lv_goto (tgt := 3) hx hb dX4_append_43 (by decide) ?_
  refine lv_iload_n hx hb dX4_append_3 rfl (lv_at hl 0 rfl) ?_
  refine lv_if_lt (tgt := 46) hx hb dX4_append_4 (by decide) (fun _ => ?_) (fun h => absurd (by decide) h)
  have hP9 := hP.sub (ws' := [(h0, .inr (4, [.ref dr, .int 0, .int (-1), .int 4, .ref tp, .int 0, .int 0, .int 0, .int 0, .int 0, .int 0])), (tp, .inl (cB, 300, .inl g_4))]) [0, 1] rfl
  have hD9 := hD.sub (ws' := [(h0, .inr (4, [.ref dr, .int 0, .int (-1), .int 4, .ref tp, .int 0, .int 0, .int 0, .int 0, .int 0, .int 0])), (tp, .inl (cB, 300, .inl g_4))]) [0, 1] (by decide) rfl
  exact W.vret hx hb hr (fun t ht hW => ⟨⟨g_4, rfl, trivial, by rw [ht]; exact hP9, va_K.moved hW.alike hK, hD9⟩, hS.F ht⟩) hS.2.2 dX4_append_46

set_option maxHeartbeats 4000000 in
set_option maxRecDepth 100000 in
/-- four bytes more, at 4 -/
theorem k_X4_app4 (l : Launch) (D : va_G) (cB cI cJ cZ : ClassId) (sz : Nat) (h0 dr tp : Nat) (f : Nat → Int32) (v : Int32) : Met l yX4_append wsX4_append ({ frames := 0, cells := 0, slots := 0, locals := 0 } : Room) (cPre D (aTy cB cI cJ cZ) [(h0, .inr (4, [.ref dr, .int 0, .int (-1), .int 4, .ref tp, .int 0, .int 0, .int 0, .int 0, .int 0, .int 0])), (tp, .inl (cB, 300, .inl f))] sz [.ref h0, .int v]) (va_Qv (fun (u : Nat → Int32) => True) (cB_ D (aTy cB cI cJ cZ) (va_A [(h0, .inr (4, [.ref dr, .int 0, .int (-1), .int 4, .ref tp, .int 0, .int 0, .int 0, .int 0, .int 0, .int 0])), (tp, .inl (cB, 300, .inl f))] sz) (fun g => [(h0, .inr (4, [.ref dr, .int 0, .int (-1), .int 8, .ref tp, .int 0, .int 0, .int 0, .int 0, .int 0, .int 0])), (tp, .inl (cB, 300, .inl g))])) (va_A [(h0, .inr (4, [.ref dr, .int 0, .int (-1), .int 4, .ref tp, .int 0, .int 0, .int 0, .int 0, .int 0, .int 0])), (tp, .inl (cB, 300, .inl f))] sz)) 0 0 (va_A [(h0, .inr (4, [.ref dr, .int 0, .int (-1), .int 4, .ref tp, .int 0, .int 0, .int 0, .int 0, .int 0, .int 0])), (tp, .inl (cB, 300, .inl f))] sz) := by
  refine Met.ofW (cc := cX4_append) (maxL := 3) (ret := none) (by decide) rfl ?_
  intro p e s m args below meth c s₁ B hml hv
  obtain ⟨rfl, hsz, hP, hK, hD0⟩ := hv
  have hx := B.exec
  have hb := B.bytes
  have hr := B.returns
  have hts := atoms_spec (ws := wsX4_append) B.pre
  have hown : s.vm.findClass RX4 = some m.cls := findClass_of_methodNamed B.named
  have hlocks := B.notSynchronized
  subst hsz
  have hD := hD0.self (sz := s.heap.size)
  generalize hAe : va_A [(h0, .inr (4, [.ref dr, .int 0, .int (-1), .int 4, .ref tp, .int 0, .int 0, .int 0, .int 0, .int 0, .int 0])), (tp, .inl (cB, 300, .inl f))] s.heap.size = A at hD ⊢
  have hA : ∀ q : Nat, s.heap.size ≤ q → A q := fun q h => by rw [← hAe]; exact Or.inr h
  have hS : va_S A s.heap s.heap [] := va_S.rf
  have hP : va_P D vwCl [(h0, .inr (4, [.ref dr, .int 0, .int (-1), .int 4, .ref tp, .int 0, .int 0, .int 0, .int 0, .int 0, .int 0])), (tp, .inl (cB, 300, .inl f))] s.heap := hP
  have w_1 : ∀ w ∈ wsX40, w ∈ wsX4_append := by decide +kernel
  have w_2 := hts (Cond.fieldLink RX4 29 "BlueCoats$Reader" "taped" "I") (by decide +kernel)
  have w_3 := hts (Cond.fieldLink RX4 25 "BlueCoats$Reader" "tape" "[B") (by decide +kernel)
  have hl := lv_entry ([.ref h0, .int v]) (n := 3) (Nat.le_of_ble_eq_true rfl)
  rw [lg_entry_eq]
  generalize (lg_sl ([.ref h0, .int v]) ++ List.replicate (3 - (lg_sl ([.ref h0, .int v])).length) Slot.unset).toArray = ls at hl ⊢
  have hl : lv_has ls 3 [(0, .ref h0), (1, .int v)] := hl
  refine lv_bipush (v := 24) hx hb dX4_append_0 (by decide) ?_
  refine lv_istore_n (lv' := [(2, .int 24), (0, .ref h0), (1, .int v)]) hx hb dX4_append_2 rfl hl (by decide) rfl (fun ls hl => ?_)
  refine lv_iload_n hx hb dX4_append_3 rfl (lv_at hl 0 rfl) ?_
  refine lv_if_lt (tgt := 46) hx hb dX4_append_4 (by decide) (fun h => absurd h (by decide)) (fun _ => ?_)
  refine lv_aload_n hx hb dX4_append_7 rfl (lv_at hl 1 rfl) ?_
  refine va_get (D := D) (ci := 4) (v := .int 4) (C := RX4) (T := TX4) (N := 11) hx hb hts w_1 hown hK hP 0 rfl rfl 3 (by decide) w_2 (fun _ h9 => h9) rfl dX4_append_8 ?_
  refine lv_sipush (v := 300) hx hb dX4_append_11 (by decide) ?_
  refine lv_icmp_ge (tgt := 40) hx hb dX4_append_14 (by decide) (fun h => absurd h (by decide)) (fun _ => ?_)
  refine lv_aload_n hx hb dX4_append_17 rfl (lv_at hl 1 rfl) ?_
  refine va_get (D := D) (ci := 4) (v := .ref tp) (C := RX4) (T := TX4) (N := 11) hx hb hts w_1 hown hK hP 0 rfl rfl 4 (by decide) w_3 (fun _ h9 => h9) rfl dX4_append_18 ?_
  refine lv_aload_n hx hb dX4_append_21 rfl (lv_at hl 1 rfl) ?_
  refine va_get (D := D) (ci := 4) (v := .int 4) (C := RX4) (T := TX4) (N := 11) hx hb hts w_1 hown hK hP 0 rfl rfl 3 (by decide) w_2 (fun _ h9 => h9) rfl dX4_append_22 ?_
  refine lv_iload_n hx hb dX4_append_25 rfl (lv_at hl 2 rfl) ?_
  refine lv_iload_n hx hb dX4_append_26 rfl (lv_at hl 0 rfl) ?_
  refine lv_iushr (v := (v.toUInt32 >>> ((24 : Int32).toUInt32 &&& Int32.toUInt32 31)).toInt32) hx hb dX4_append_27 rfl ?_
  refine lv_i2b (v := ((v.toUInt32 >>> ((24 : Int32).toUInt32 &&& Int32.toUInt32 31)).toInt32).toInt8.toInt32) hx hb dX4_append_28 rfl ?_
  refine sv_bast hx hb hK hP hD hS 1 0 rfl rfl (vp_in_iff.mpr (by decide)) dX4_append_29 (fun g_1 H locs eg_1 hP hD hS => ?_)
  have hP : va_P D vwCl [(h0, .inr (4, [.ref dr, .int 0, .int (-1), .int 4, .ref tp, .int 0, .int 0, .int 0, .int 0, .int 0, .int 0])), (tp, .inl (cB, 300, .inl g_1))] H := hP
  have hD : va_D A [(h0, .inr (4, [.ref dr, .int 0, .int (-1), .int 4, .ref tp, .int 0, .int 0, .int 0, .int 0, .int 0, .int 0])), (tp, .inl (cB, 300, .inl g_1))] := hD
  refine lv_aload_n hx hb dX4_append_30 rfl (lv_at hl 1 rfl) ?_
  refine lv_dup hx hb dX4_append_31 rfl ?_
  refine va_get (D := D) (ci := 4) (v := .int 4) (C := RX4) (T := TX4) (N := 11) hx hb hts w_1 hown hK hP 0 rfl rfl 3 (by decide) w_2 (fun _ h9 => h9) rfl dX4_append_32 ?_
  refine lv_iconst (v := 1) hx hb dX4_append_35 (by decide) ?_
  refine sv_iadd (v := 5) hx hb dX4_append_36 (by decide) ?_
  refine va_put (D := D) (ci := 4) (v := .int 5) (ty := .int) (C := RX4) (T := TX4) (N := 11) hx hb hts w_1 tyX4 tyX4_ok nmX4 hown hK hP hD hS 0 rfl rfl 3 (by decide) w_2 (fun _ h9 => h9) rfl (by decide +kernel) rfl rfl (Nat.le_of_ble_eq_true rfl) dX4_append_37 (fun H locs hP hD hS => ?_)
  have hP : va_P D vwCl [(h0, .inr (4, [.ref dr, .int 0, .int (-1), .int 5, .ref tp, .int 0, .int 0, .int 0, .int 0, .int 0, .int 0])), (tp, .inl (cB, 300, .inl g_1))] H := hP
  have hD : va_D A [(h0, .inr (4, [.ref dr, .int 0, .int (-1), .int 5, .ref tp, .int 0, .int 0, .int 0, .int 0, .int 0, .int 0])), (tp, .inl (cB, 300, .inl g_1))] := hD
  refine lv_iinc (v := 16) (lv' := [(2, .int 16), (0, .ref h0), (1, .int v)]) hx hb dX4_append_40 hl (k := 0) rfl (by decide) (by decide) rfl (fun ls hl => ?_)
  refine lv_goto (tgt := 3) hx hb dX4_append_43 (by decide) ?_
  refine lv_iload_n hx hb dX4_append_3 rfl (lv_at hl 0 rfl) ?_
  refine lv_if_lt (tgt := 46) hx hb dX4_append_4 (by decide) (fun h => absurd h (by decide)) (fun _ => ?_)
  refine lv_aload_n hx hb dX4_append_7 rfl (lv_at hl 1 rfl) ?_
  refine va_get (D := D) (ci := 4) (v := .int 5) (C := RX4) (T := TX4) (N := 11) hx hb hts w_1 hown hK hP 0 rfl rfl 3 (by decide) w_2 (fun _ h9 => h9) rfl dX4_append_8 ?_
  refine lv_sipush (v := 300) hx hb dX4_append_11 (by decide) ?_
  refine lv_icmp_ge (tgt := 40) hx hb dX4_append_14 (by decide) (fun h => absurd h (by decide)) (fun _ => ?_)
  refine lv_aload_n hx hb dX4_append_17 rfl (lv_at hl 1 rfl) ?_
  refine va_get (D := D) (ci := 4) (v := .ref tp) (C := RX4) (T := TX4) (N := 11) hx hb hts w_1 hown hK hP 0 rfl rfl 4 (by decide) w_3 (fun _ h9 => h9) rfl dX4_append_18 ?_
  refine lv_aload_n hx hb dX4_append_21 rfl (lv_at hl 1 rfl) ?_
  refine va_get (D := D) (ci := 4) (v := .int 5) (C := RX4) (T := TX4) (N := 11) hx hb hts w_1 hown hK hP 0 rfl rfl 3 (by decide) w_2 (fun _ h9 => h9) rfl dX4_append_22 ?_
  refine lv_iload_n hx hb dX4_append_25 rfl (lv_at hl 2 rfl) ?_
  refine lv_iload_n hx hb dX4_append_26 rfl (lv_at hl 0 rfl) ?_
  refine lv_iushr (v := (v.toUInt32 >>> ((16 : Int32).toUInt32 &&& Int32.toUInt32 31)).toInt32) hx hb dX4_append_27 rfl ?_
  refine lv_i2b (v := ((v.toUInt32 >>> ((16 : Int32).toUInt32 &&& Int32.toUInt32 31)).toInt32).toInt8.toInt32) hx hb dX4_append_28 rfl ?_
  refine sv_bast hx hb hK hP hD hS 1 0 rfl rfl (vp_in_iff.mpr (by decide)) dX4_append_29 (fun g_2 H locs eg_2 hP hD hS => ?_)
  have hP : va_P D vwCl [(h0, .inr (4, [.ref dr, .int 0, .int (-1), .int 5, .ref tp, .int 0, .int 0, .int 0, .int 0, .int 0, .int 0])), (tp, .inl (cB, 300, .inl g_2))] H := hP
  have hD : va_D A [(h0, .inr (4, [.ref dr, .int 0, .int (-1), .int 5, .ref tp, .int 0, .int 0, .int 0, .int 0, .int 0, .int 0])), (tp, .inl (cB, 300, .inl g_2))] := hD
  refine lv_aload_n hx hb dX4_append_30 rfl (lv_at hl 1 rfl) ?_
  refine lv_dup hx hb dX4_append_31 rfl ?_
  refine va_get (D := D) (ci := 4) (v := .int 5) (C := RX4) (T := TX4) (N := 11) hx hb hts w_1 hown hK hP 0 rfl rfl 3 (by decide) w_2 (fun _ h9 => h9) rfl dX4_append_32 ?_
  refine lv_iconst (v := 1) hx hb dX4_append_35 (by decide) ?_
  refine sv_iadd (v := 6) hx hb dX4_append_36 (by decide) ?_
  refine va_put (D := D) (ci := 4) (v := .int 6) (ty := .int) (C := RX4) (T := TX4) (N := 11) hx hb hts w_1 tyX4 tyX4_ok nmX4 hown hK hP hD hS 0 rfl rfl 3 (by decide) w_2 (fun _ h9 => h9) rfl (by decide +kernel) rfl rfl (Nat.le_of_ble_eq_true rfl) dX4_append_37 (fun H locs hP hD hS => ?_)
  have hP : va_P D vwCl [(h0, .inr (4, [.ref dr, .int 0, .int (-1), .int 6, .ref tp, .int 0, .int 0, .int 0, .int 0, .int 0, .int 0])), (tp, .inl (cB, 300, .inl g_2))] H := hP
  have hD : va_D A [(h0, .inr (4, [.ref dr, .int 0, .int (-1), .int 6, .ref tp, .int 0, .int 0, .int 0, .int 0, .int 0, .int 0])), (tp, .inl (cB, 300, .inl g_2))] := hD
  refine lv_iinc (v := 8) (lv' := [(2, .int 8), (0, .ref h0), (1, .int v)]) hx hb dX4_append_40 hl (k := 0) rfl (by decide) (by decide) rfl (fun ls hl => ?_)
  refine lv_goto (tgt := 3) hx hb dX4_append_43 (by decide) ?_
  refine lv_iload_n hx hb dX4_append_3 rfl (lv_at hl 0 rfl) ?_
  refine lv_if_lt (tgt := 46) hx hb dX4_append_4 (by decide) (fun h => absurd h (by decide)) (fun _ => ?_)
  refine lv_aload_n hx hb dX4_append_7 rfl (lv_at hl 1 rfl) ?_
  refine va_get (D := D) (ci := 4) (v := .int 6) (C := RX4) (T := TX4) (N := 11) hx hb hts w_1 hown hK hP 0 rfl rfl 3 (by decide) w_2 (fun _ h9 => h9) rfl dX4_append_8 ?_
  refine lv_sipush (v := 300) hx hb dX4_append_11 (by decide) ?_
  refine lv_icmp_ge (tgt := 40) hx hb dX4_append_14 (by decide) (fun h => absurd h (by decide)) (fun _ => ?_)
  refine lv_aload_n hx hb dX4_append_17 rfl (lv_at hl 1 rfl) ?_
  refine va_get (D := D) (ci := 4) (v := .ref tp) (C := RX4) (T := TX4) (N := 11) hx hb hts w_1 hown hK hP 0 rfl rfl 4 (by decide) w_3 (fun _ h9 => h9) rfl dX4_append_18 ?_
  refine lv_aload_n hx hb dX4_append_21 rfl (lv_at hl 1 rfl) ?_
  refine va_get (D := D) (ci := 4) (v := .int 6) (C := RX4) (T := TX4) (N := 11) hx hb hts w_1 hown hK hP 0 rfl rfl 3 (by decide) w_2 (fun _ h9 => h9) rfl dX4_append_22 ?_
  refine lv_iload_n hx hb dX4_append_25 rfl (lv_at hl 2 rfl) ?_
  refine lv_iload_n hx hb dX4_append_26 rfl (lv_at hl 0 rfl) ?_
  refine lv_iushr (v := (v.toUInt32 >>> ((8 : Int32).toUInt32 &&& Int32.toUInt32 31)).toInt32) hx hb dX4_append_27 rfl ?_
  refine lv_i2b (v := ((v.toUInt32 >>> ((8 : Int32).toUInt32 &&& Int32.toUInt32 31)).toInt32).toInt8.toInt32) hx hb dX4_append_28 rfl ?_
  refine sv_bast hx hb hK hP hD hS 1 0 rfl rfl (vp_in_iff.mpr (by decide)) dX4_append_29 (fun g_3 H locs eg_3 hP hD hS => ?_)
  have hP : va_P D vwCl [(h0, .inr (4, [.ref dr, .int 0, .int (-1), .int 6, .ref tp, .int 0, .int 0, .int 0, .int 0, .int 0, .int 0])), (tp, .inl (cB, 300, .inl g_3))] H := hP
  have hD : va_D A [(h0, .inr (4, [.ref dr, .int 0, .int (-1), .int 6, .ref tp, .int 0, .int 0, .int 0, .int 0, .int 0, .int 0])), (tp, .inl (cB, 300, .inl g_3))] := hD
  refine lv_aload_n hx hb dX4_append_30 rfl (lv_at hl 1 rfl) ?_
  refine lv_dup hx hb dX4_append_31 rfl ?_
  refine va_get (D := D) (ci := 4) (v := .int 6) (C := RX4) (T := TX4) (N := 11) hx hb hts w_1 hown hK hP 0 rfl rfl 3 (by decide) w_2 (fun _ h9 => h9) rfl dX4_append_32 ?_
  refine lv_iconst (v := 1) hx hb dX4_append_35 (by decide) ?_
  refine sv_iadd (v := 7) hx hb dX4_append_36 (by decide) ?_
  refine va_put (D := D) (ci := 4) (v := .int 7) (ty := .int) (C := RX4) (T := TX4) (N := 11) hx hb hts w_1 tyX4 tyX4_ok nmX4 hown hK hP hD hS 0 rfl rfl 3 (by decide) w_2 (fun _ h9 => h9) rfl (by decide +kernel) rfl rfl (Nat.le_of_ble_eq_true rfl) dX4_append_37 (fun H locs hP hD hS => ?_)
  have hP : va_P D vwCl [(h0, .inr (4, [.ref dr, .int 0, .int (-1), .int 7, .ref tp, .int 0, .int 0, .int 0, .int 0, .int 0, .int 0])), (tp, .inl (cB, 300, .inl g_3))] H := hP
  have hD : va_D A [(h0, .inr (4, [.ref dr, .int 0, .int (-1), .int 7, .ref tp, .int 0, .int 0, .int 0, .int 0, .int 0, .int 0])), (tp, .inl (cB, 300, .inl g_3))] := hD
  refine lv_iinc (v := 0) (lv' := [(2, .int 0), (0, .ref h0), (1, .int v)]) hx hb dX4_append_40 hl (k := 0) rfl (by decide) (by decide) rfl (fun ls hl => ?_)
  refine lv_goto (tgt := 3) hx hb dX4_append_43 (by decide) ?_
  refine lv_iload_n hx hb dX4_append_3 rfl (lv_at hl 0 rfl) ?_
  refine lv_if_lt (tgt := 46) hx hb dX4_append_4 (by decide) (fun h => absurd h (by decide)) (fun _ => ?_)
  refine lv_aload_n hx hb dX4_append_7 rfl (lv_at hl 1 rfl) ?_
  refine va_get (D := D) (ci := 4) (v := .int 7) (C := RX4) (T := TX4) (N := 11) hx hb hts w_1 hown hK hP 0 rfl rfl 3 (by decide) w_2 (fun _ h9 => h9) rfl dX4_append_8 ?_
  refine lv_sipush (v := 300) hx hb dX4_append_11 (by decide) ?_
  refine lv_icmp_ge (tgt := 40) hx hb dX4_append_14 (by decide) (fun h => absurd h (by decide)) (fun _ => ?_)
  refine lv_aload_n hx hb dX4_append_17 rfl (lv_at hl 1 rfl) ?_
  refine va_get (D := D) (ci := 4) (v := .ref tp) (C := RX4) (T := TX4) (N := 11) hx hb hts w_1 hown hK hP 0 rfl rfl 4 (by decide) w_3 (fun _ h9 => h9) rfl dX4_append_18 ?_
  refine lv_aload_n hx hb dX4_append_21 rfl (lv_at hl 1 rfl) ?_
  refine va_get (D := D) (ci := 4) (v := .int 7) (C := RX4) (T := TX4) (N := 11) hx hb hts w_1 hown hK hP 0 rfl rfl 3 (by decide) w_2 (fun _ h9 => h9) rfl dX4_append_22 ?_
  refine lv_iload_n hx hb dX4_append_25 rfl (lv_at hl 2 rfl) ?_
  refine lv_iload_n hx hb dX4_append_26 rfl (lv_at hl 0 rfl) ?_
  refine lv_iushr (v := (v.toUInt32 >>> ((0 : Int32).toUInt32 &&& Int32.toUInt32 31)).toInt32) hx hb dX4_append_27 rfl ?_
  refine lv_i2b (v := ((v.toUInt32 >>> ((0 : Int32).toUInt32 &&& Int32.toUInt32 31)).toInt32).toInt8.toInt32) hx hb dX4_append_28 rfl ?_
  refine sv_bast hx hb hK hP hD hS 1 0 rfl rfl (vp_in_iff.mpr (by decide)) dX4_append_29 (fun g_4 H locs eg_4 hP hD hS => ?_)
  have hP : va_P D vwCl [(h0, .inr (4, [.ref dr, .int 0, .int (-1), .int 7, .ref tp, .int 0, .int 0, .int 0, .int 0, .int 0, .int 0])), (tp, .inl (cB, 300, .inl g_4))] H := hP
  have hD : va_D A [(h0, .inr (4, [.ref dr, .int 0, .int (-1), .int 7, .ref tp, .int 0, .int 0, .int 0, .int 0, .int 0, .int 0])), (tp, .inl (cB, 300, .inl g_4))] := hD
  refine lv_aload_n hx hb dX4_append_30 rfl (lv_at hl 1 rfl) ?_
  refine lv_dup hx hb dX4_append_31 rfl ?_
  refine va_get (D := D) (ci := 4) (v := .int 7) (C := RX4) (T := TX4) (N := 11) hx hb hts w_1 hown hK hP 0 rfl rfl 3 (by decide) w_2 (fun _ h9 => h9) rfl dX4_append_32 ?_
  refine lv_iconst (v := 1) hx hb dX4_append_35 (by decide) ?_
  refine sv_iadd (v := 8) hx hb dX4_append_36 (by decide) ?_
  refine va_put (D := D) (ci := 4) (v := .int 8) (ty := .int) (C := RX4) (T := TX4) (N := 11) hx hb hts w_1 tyX4 tyX4_ok nmX4 hown hK hP hD hS 0 rfl rfl 3 (by decide) w_2 (fun _ h9 => h9) rfl (by decide +kernel) rfl rfl (Nat.le_of_ble_eq_true rfl) dX4_append_37 (fun H locs hP hD hS => ?_)
  have hP : va_P D vwCl [(h0, .inr (4, [.ref dr, .int 0, .int (-1), .int 8, .ref tp, .int 0, .int 0, .int 0, .int 0, .int 0, .int 0])), (tp, .inl (cB, 300, .inl g_4))] H := hP
  have hD : va_D A [(h0, .inr (4, [.ref dr, .int 0, .int (-1), .int 8, .ref tp, .int 0, .int 0, .int 0, .int 0, .int 0, .int 0])), (tp, .inl (cB, 300, .inl g_4))] := hD
  refine lv_iinc (v := (-8)) (lv' := [(2, .int (-8)), (0, .ref h0), (1, .int v)]) hx hb dX4_append_40 hl (k := 0) rfl (by decide) (by decide) rfl (fun ls hl => ?_)
  refine lv_goto (tgt := 3) hx hb dX4_append_43 (by decide) ?_
  refine lv_iload_n hx hb dX4_append_3 rfl (lv_at hl 0 rfl) ?_
  refine lv_if_lt (tgt := 46) hx hb dX4_append_4 (by decide) (fun _ => ?_) (fun h => absurd (by decide) h)
  have hP9 := hP.sub (ws' := [(h0, .inr (4, [.ref dr, .int 0, .int (-1), .int 8, .ref tp, .int 0, .int 0, .int 0, .int 0, .int 0, .int 0])), (tp, .inl (cB, 300, .inl g_4))]) [0, 1] rfl
  have hD9 := hD.sub (ws' := [(h0, .inr (4, [.ref dr, .int 0, .int (-1), .int 8, .ref tp, .int 0, .int 0, .int 0, .int 0, .int 0, .int 0])), (tp, .inl (cB, 300, .inl g_4))]) [0, 1] (by decide) rfl
  exact W.vret hx hb hr (fun t ht hW => ⟨⟨g_4, rfl, trivial, by rw [ht]; exact hP9, va_K.moved hW.alike hK, hD9⟩, hS.F ht⟩) hS.2.2 dX4_append_46

set_option maxHeartbeats 4000000 in
set_option maxRecDepth 100000 in
/-- four bytes more, at 8 -/
theorem k_X4_app8 (l : Launch) (D : va_G) (cB cI cJ cZ : ClassId) (sz : Nat) (h0 dr tp : Nat) (f : Nat → Int32) (v : Int32) : Met l yX4_append wsX4_append ({ frames := 0, cells := 0, slots := 0, locals := 0 } : Room) (cPre D (aTy cB cI cJ cZ) [(h0, .inr (4, [.ref dr, .int 0, .int (-1), .int 8, .ref tp, .int 0, .int 0, .int 0, .int 0, .int 0, .int 0])), (tp, .inl (cB, 300, .inl f))] sz [.ref h0, .int v]) (va_Qv (fun (u : Nat → Int32) => True) (cB_ D (aTy cB cI cJ cZ) (va_A [(h0, .inr (4, [.ref dr, .int 0, .int (-1), .int 8, .ref tp, .int 0, .int 0, .int 0, .int 0, .int 0, .int 0])), (tp, .inl (cB, 300, .inl f))] sz) (fun g => [(h0, .inr (4, [.ref dr, .int 0, .int (-1), .int 12, .ref tp, .int 0, .int 0, .int 0, .int 0, .int 0, .int 0])), (tp, .inl (cB, 300, .inl g))])) (va_A [(h0, .inr (4, [.ref dr, .int 0, .int (-1), .int 8, .ref tp, .int 0, .int 0, .int 0, .int 0, .int 0, .int 0])), (tp, .inl (cB, 300, .inl f))] sz)) 0 0 (va_A [(h0, .inr (4, [.ref dr, .int 0, .int (-1), .int 8, .ref tp, .int 0, .int 0, .int 0, .int 0, .int 0, .int 0])), (tp, .inl (cB, 300, .inl f))] sz) := by
  refine Met.ofW (cc := cX4_append) (maxL := 3) (ret := none) (by decide) rfl ?_
  intro p e s m args below meth c s₁ B hml hv
  obtain ⟨rfl, hsz, hP, hK, hD0⟩ := hv
  have hx := B.exec
  have hb := B.bytes
  have hr := B.returns
  have hts := atoms_spec (ws := wsX4_append) B.pre
  have hown : s.vm.findClass RX4 = some m.cls := findClass_of_methodNamed B.named
  have hlocks := B.notSynchronized
  subst hsz
  have hD := hD0.self (sz := s.heap.size)
  generalize hAe : va_A [(h0, .inr (4, [.ref dr, .int 0, .int (-1), .int 8, .ref tp, .int 0, .int 0, .int 0, .int 0, .int 0, .int 0])), (tp, .inl (cB, 300, .inl f))] s.heap.size = A at hD ⊢
  have hA : ∀ q : Nat, s.heap.size ≤ q → A q := fun q h => by rw [← hAe]; exact Or.inr h
  have hS : va_S A s.heap s.heap [] := va_S.rf
  have hP : va_P D vwCl [(h0, .inr (4, [.ref dr, .int 0, .int (-1), .int 8, .ref tp, .int 0, .int 0, .int 0, .int 0, .int 0, .int 0])), (tp, .inl (cB, 300, .inl f))] s.heap := hP
  have w_1 : ∀ w ∈ wsX40, w ∈ wsX4_append := by decide +kernel
  have w_2 := hts (Cond.fieldLink RX4 29 "BlueCoats$Reader" "taped" "I") (by decide +kernel)
  have w_3 := hts (Cond.fieldLink RX4 25 "BlueCoats$Reader" "tape" "[B") (by decide +kernel)
  have hl := lv_entry ([.ref h0, .int v]) (n := 3) (Nat.le_of_ble_eq_true rfl)
  rw [lg_entry_eq]
  generalize (lg_sl ([.ref h0, .int v]) ++ List.replicate (3 - (lg_sl ([.ref h0, .int v])).length) Slot.unset).toArray = ls at hl ⊢
  have hl : lv_has ls 3 [(0, .ref h0), (1, .int v)] := hl
  refine lv_bipush (v := 24) hx hb dX4_append_0 (by decide) ?_
  refine lv_istore_n (lv' := [(2, .int 24), (0, .ref h0), (1, .int v)]) hx hb dX4_append_2 rfl hl (by decide) rfl (fun ls hl => ?_)
  refine lv_iload_n hx hb dX4_append_3 rfl (lv_at hl 0 rfl) ?_
  refine lv_if_lt (tgt := 46) hx hb dX4_append_4 (by decide) (fun h => absurd h (by decide)) (fun _ => ?_)
  refine lv_aload_n hx hb dX4_append_7 rfl (lv_at hl 1 rfl) ?_
  refine va_get (D := D) (ci := 4) (v := .int 8) (C := RX4) (T := TX4) (N := 11) hx hb hts w_1 hown hK hP 0 rfl rfl 3 (by decide) w_2 (fun _ h9 => h9) rfl dX4_append_8 ?_
  refine lv_sipush (v := 300) hx hb dX4_append_11 (by decide) ?_
  refine lv_icmp_ge (tgt := 40) hx hb dX4_append_14 (by decide) (fun h => absurd h (by decide)) (fun _ => ?_)
  refine lv_aload_n hx hb dX4_append_17 rfl (lv_at hl 1 rfl) ?_
  refine va_get (D := D) (ci := 4) (v := .ref tp) (C := RX4) (T := TX4) (N := 11) hx hb hts w_1 hown hK hP 0 rfl rfl 4 (by decide) w_3 (fun _ h9 => h9) rfl dX4_append_18 ?_
  refine lv_aload_n hx hb dX4_append_21 rfl (lv_at hl 1 rfl) ?_
  refine va_get (D := D) (ci := 4) (v := .int 8) (C := RX4) (T := TX4) (N := 11) hx hb hts w_1 hown hK hP 0 rfl rfl 3 (by decide) w_2 (fun _ h9 => h9) rfl dX4_append_22 ?_
  refine lv_iload_n hx hb dX4_append_25 rfl (lv_at hl 2 rfl) ?_
  refine lv_iload_n hx hb dX4_append_26 rfl (lv_at hl 0 rfl) ?_
  refine lv_iushr (v := (v.toUInt32 >>> ((24 : Int32).toUInt32 &&& Int32.toUInt32 31)).toInt32) hx hb dX4_append_27 rfl ?_
  refine lv_i2b (v := ((v.toUInt32 >>> ((24 : Int32).toUInt32 &&& Int32.toUInt32 31)).toInt32).toInt8.toInt32) hx hb dX4_append_28 rfl ?_
  refine sv_bast hx hb hK hP hD hS 1 0 rfl rfl (vp_in_iff.mpr (by decide)) dX4_append_29 (fun g_1 H locs eg_1 hP hD hS => ?_)
  have hP : va_P D vwCl [(h0, .inr (4, [.ref dr, .int 0, .int (-1), .int 8, .ref tp, .int 0, .int 0, .int 0, .int 0, .int 0, .int 0])), (tp, .inl (cB, 300, .inl g_1))] H := hP
  have hD : va_D A [(h0, .inr (4, [.ref dr, .int 0, .int (-1), .int 8, .ref tp, .int 0, .int 0, .int 0, .int 0, .int 0, .int 0])), (tp, .inl (cB, 300, .inl g_1))] := hD
  refine lv_aload_n hx hb dX4_append_30 rfl (lv_at hl 1 rfl) ?_
  refine lv_dup hx hb dX4_append_31 rfl ?_
  refine va_get (D := D) (ci := 4) (v := .int 8) (C := RX4) (T := TX4) (N := 11) hx hb hts w_1 hown hK hP 0 rfl rfl 3 (by decide) w_2 (fun _ h9 => h9) rfl dX4_append_32 ?_
  refine lv_iconst (v := 1) hx hb dX4_append_35 (by decide) ?_
  refine sv_iadd (v := 9) hx hb dX4_append_36 (by decide) ?_
  refine va_put (D := D) (ci := 4) (v := .int 9) (ty := .int) (C := RX4) (T := TX4) (N := 11) hx hb hts w_1 tyX4 tyX4_ok nmX4 hown hK hP hD hS 0 rfl rfl 3 (by decide) w_2 (fun _ h9 => h9) rfl (by decide +kernel) rfl rfl (Nat.le_of_ble_eq_true rfl) dX4_append_37 (fun H locs hP hD hS => ?_)
  have hP : va_P D vwCl [(h0, .inr (4, [.ref dr, .int 0, .int (-1), .int 9, .ref tp, .int 0, .int 0, .int 0, .int 0, .int 0, .int 0])), (tp, .inl (cB, 300, .inl g_1))] H := hP
  have hD : va_D A [(h0, .inr (4, [.ref dr, .int 0, .int (-1), .int 9, .ref tp, .int 0, .int 0, .int 0, .int 0, .int 0, .int 0])), (tp, .inl (cB, 300, .inl g_1))] := hD
  refine lv_iinc (v := 16) (lv' := [(2, .int 16), (0, .ref h0), (1, .int v)]) hx hb dX4_append_40 hl (k := 0) rfl (by decide) (by decide) rfl (fun ls hl => ?_)
  refine lv_goto (tgt := 3) hx hb dX4_append_43 (by decide) ?_
  refine lv_iload_n hx hb dX4_append_3 rfl (lv_at hl 0 rfl) ?_
  refine lv_if_lt (tgt := 46) hx hb dX4_append_4 (by decide) (fun h => absurd h (by decide)) (fun _ => ?_)
  refine lv_aload_n hx hb dX4_append_7 rfl (lv_at hl 1 rfl) ?_
  refine va_get (D := D) (ci := 4) (v := .int 9) (C := RX4) (T := TX4) (N := 11) hx hb hts w_1 hown hK hP 0 rfl rfl 3 (by decide) w_2 (fun _ h9 => h9) rfl dX4_append_8 ?_
  refine lv_sipush (v := 300) hx hb dX4_append_11 (by decide) ?_
  refine lv_icmp_ge (tgt := 40) hx hb dX4_append_14 (by decide) (fun h => absurd h (by decide)) (fun _ => ?_)
  refine lv_aload_n hx hb dX4_append_17 rfl (lv_at hl 1 rfl) ?_
  refine va_get (D := D) (ci := 4) (v := .ref tp) (C := RX4) (T := TX4) (N := 11) hx hb hts w_1 hown hK hP 0 rfl rfl 4 (by decide) w_3 (fun _ h9 => h9) rfl dX4_append_18 ?_
  refine lv_aload_n hx hb dX4_append_21 rfl (lv_at hl 1 rfl) ?_
  refine va_get (D := D) (ci := 4) (v := .int 9) (C := RX4) (T := TX4) (N := 11) hx hb hts w_1 hown hK hP 0 rfl rfl 3 (by decide) w_2 (fun _ h9 => h9) rfl dX4_append_22 ?_
  refine lv_iload_n hx hb dX4_append_25 rfl (lv_at hl 2 rfl) ?_
  refine lv_iload_n hx hb dX4_append_26 rfl (lv_at hl 0 rfl) ?_
  refine lv_iushr (v := (v.toUInt32 >>> ((16 : Int32).toUInt32 &&& Int32.toUInt32 31)).toInt32) hx hb dX4_append_27 rfl ?_
  refine lv_i2b (v := ((v.toUInt32 >>> ((16 : Int32).toUInt32 &&& Int32.toUInt32 31)).toInt32).toInt8.toInt32) hx hb dX4_append_28 rfl ?_
  refine sv_bast hx hb hK hP hD hS 1 0 rfl rfl (vp_in_iff.mpr (by decide)) dX4_append_29 (fun g_2 H locs eg_2 hP hD hS => ?_)
  have hP : va_P D vwCl [(h0, .inr (4, [.ref dr, .int 0, .int (-1), .int 9, .ref tp, .int 0, .int 0, .int 0, .int 0, .int 0, .int 0])), (tp, .inl (cB, 300, .inl g_2))] H := hP
  have hD : va_D A [(h0, .inr (4, [.ref dr, .int 0, .int (-1), .int 9, .ref tp, .int 0, .int 0, .int 0, .int 0, .int 0, .int 0])), (tp, .inl (cB, 300, .inl g_2))] := hD
  refine lv_aload_n hx hb dX4_append_30 rfl (lv_at hl 1 rfl) ?_
  refine lv_dup hx hb dX4_append_31 rfl ?_
  refine va_get (D := D) (ci := 4) (v := .int 9) (C := RX4) (T := TX4) (N := 11) hx hb hts w_1 hown hK hP 0 rfl rfl 3 (by decide) w_2 (fun _ h9 => h9) rfl dX4_append_32 ?_
  refine lv_iconst (v := 1) hx hb dX4_append_35 (by decide) ?_
  refine sv_iadd (v := 10) hx hb dX4_append_36 (by decide) ?_
  refine va_put (D := D) (ci := 4) (v := .int 10) (ty := .int) (C := RX4) (T := TX4) (N := 11) hx hb hts w_1 tyX4 tyX4_ok nmX4 hown hK hP hD hS 0 rfl rfl 3 (by decide) w_2 (fun _ h9 => h9) rfl (by decide +kernel) rfl rfl (Nat.le_of_ble_eq_true rfl) dX4_append_37 (fun H locs hP hD hS => ?_)
  have hP : va_P D vwCl [(h0, .inr (4, [.ref dr, .int 0, .int (-1), .int 10, .ref tp, .int 0, .int 0, .int 0, .int 0, .int 0, .int 0])), (tp, .inl (cB, 300, .inl g_2))] H := hP
  have hD : va_D A [(h0, .inr (4, [.ref dr, .int 0, .int (-1), .int 10, .ref tp, .int 0, .int 0, .int 0, .int 0, .int 0, .int 0])), (tp, .inl (cB, 300, .inl g_2))] := hD
  refine lv_iinc (v := 8) (lv' := [(2, .int 8), (0, .ref h0), (1, .int v)]) hx hb dX4_append_40 hl (k := 0) rfl (by decide) (by decide) rfl (fun ls hl => ?_)
  refine lv_goto (tgt := 3) hx hb dX4_append_43 (by decide) ?_
  refine lv_iload_n hx hb dX4_append_3 rfl (lv_at hl 0 rfl) ?_
  refine lv_if_lt (tgt := 46) hx hb dX4_append_4 (by decide) (fun h => absurd h (by decide)) (fun _ => ?_)
  refine lv_aload_n hx hb dX4_append_7 rfl (lv_at hl 1 rfl) ?_
  refine va_get (D := D) (ci := 4) (v := .int 10) (C := RX4) (T := TX4) (N := 11) hx hb hts w_1 hown hK hP 0 rfl rfl 3 (by decide) w_2 (fun _ h9 => h9) rfl dX4_append_8 ?_
  refine lv_sipush (v := 300) hx hb dX4_append_11 (by decide) ?_
  refine lv_icmp_ge (tgt := 40) hx hb dX4_append_14 (by decide) (fun h => absurd h (by decide)) (fun _ => ?_)
  refine lv_aload_n hx hb dX4_append_17 rfl (lv_at hl 1 rfl) ?_
  refine va_get (D := D) (ci := 4) (v := .ref tp) (C := RX4) (T := TX4) (N := 11) hx hb hts w_1 hown hK hP 0 rfl rfl 4 (by decide) w_3 (fun _ h9 => h9) rfl dX4_append_18 ?_
  refine lv_aload_n hx hb dX4_append_21 rfl (lv_at hl 1 rfl) ?_
  refine va_get (D := D) (ci := 4) (v := .int 10) (C := RX4) (T := TX4) (N := 11) hx hb hts w_1 hown hK hP 0 rfl rfl 3 (by decide) w_2 (fun _ h9 => h9) rfl dX4_append_22 ?_
  refine lv_iload_n hx hb dX4_append_25 rfl (lv_at hl 2 rfl) ?_
  refine lv_iload_n hx hb dX4_append_26 rfl (lv_at hl 0 rfl) ?_
  refine lv_iushr (v := (v.toUInt32 >>> ((8 : Int32).toUInt32 &&& Int32.toUInt32 31)).toInt32) hx hb dX4_append_27 rfl ?_
  refine lv_i2b (v := ((v.toUInt32 >>> ((8 : Int32).toUInt32 &&& Int32.toUInt32 31)).toInt32).toInt8.toInt32) hx hb dX4_append_28 rfl ?_
  refine sv_bast hx hb hK hP hD hS 1 0 rfl rfl (vp_in_iff.mpr (by decide)) dX4_append_29 (fun g_3 H locs eg_3 hP hD hS => ?_)
  have hP : va_P D vwCl [(h0, .inr (4, [.ref dr, .int 0, .int (-1), .int 10, .ref tp, .int 0, .int 0, .int 0, .int 0, .int 0, .int 0])), (tp, .inl (cB, 300, .inl g_3))] H := hP
  have hD : va_D A [(h0, .inr (4, [.ref dr, .int 0, .int (-1), .int 10, .ref tp, .int 0, .int 0, .int 0, .int 0, .int 0, .int 0])), (tp, .inl (cB, 300, .inl g_3))] := hD
  refine lv_aload_n hx hb dX4_append_30 rfl (lv_at hl 1 rfl) ?_
  refine lv_dup hx hb dX4_append_31 rfl ?_
  refine va_get (D := D) (ci := 4) (v := .int 10) (C := RX4) (T := TX4) (N := 11) hx hb hts w_1 hown hK hP 0 rfl rfl 3 (by decide) w_2 (fun _ h9 => h9) rfl dX4_append_32 ?_
  refine lv_iconst (v := 1) hx hb dX4_append_35 (by decide) ?_
  refine sv_iadd (v := 11) hx hb dX4_append_36 (by decide) ?_
  refine va_put (D := D) (ci := 4) (v := .int 11) (ty := .int) (C := RX4) (T := TX4) (N := 11) hx hb hts w_1 tyX4 tyX4_ok nmX4 hown hK hP hD hS 0 rfl rfl 3 (by decide) w_2 (fun _ h9 => h9) rfl (by decide +kernel) rfl rfl (Nat.le_of_ble_eq_true rfl) dX4_append_37 (fun H locs hP hD hS => ?_)
  have hP : va_P D vwCl [(h0, .inr (4, [.ref dr, .int 0, .int (-1), .int 11, .ref tp, .int 0, .int 0, .int 0, .int 0, .int 0, .int 0])), (tp, .inl (cB, 300, .inl g_3))] H := hP
  have hD : va_D A [(h0, .inr (4, [.ref dr, .int 0, .int (-1), .int 11, .ref tp, .int 0, .int 0, .int 0, .int 0, .int 0, .int 0])), (tp, .inl (cB, 300, .inl g_3))] := hD
  refine lv_iinc (v := 0) (lv' := [(2, .int 0), (0, .ref h0), (1, .int v)]) hx hb dX4_append_40 hl (k := 0) rfl (by decide) (by decide) rfl (fun ls hl => ?_)
  refine lv_goto (tgt := 3) hx hb dX4_append_43 (by decide) ?_
  refine lv_iload_n hx hb dX4_append_3 rfl (lv_at hl 0 rfl) ?_
  refine lv_if_lt (tgt := 46) hx hb dX4_append_4 (by decide) (fun h => absurd h (by decide)) (fun _ => ?_)
  refine lv_aload_n hx hb dX4_append_7 rfl (lv_at hl 1 rfl) ?_
  refine va_get (D := D) (ci := 4) (v := .int 11) (C := RX4) (T := TX4) (N := 11) hx hb hts w_1 hown hK hP 0 rfl rfl 3 (by decide) w_2 (fun _ h9 => h9) rfl dX4_append_8 ?_
  refine lv_sipush (v := 300) hx hb dX4_append_11 (by decide) ?_
  refine lv_icmp_ge (tgt := 40) hx hb dX4_append_14 (by decide) (fun h => absurd h (by decide)) (fun _ => ?_)
  refine lv_aload_n hx hb dX4_append_17 rfl (lv_at hl 1 rfl) ?_
  refine va_get (D := D) (ci := 4) (v := .ref tp) (C := RX4) (T := TX4) (N := 11) hx hb hts w_1 hown hK hP 0 rfl rfl 4 (by decide) w_3 (fun _ h9 => h9) rfl dX4_append_18 ?_
  refine lv_aload_n hx hb dX4_append_21 rfl (lv_at hl 1 rfl) ?_
  refine va_get (D := D) (ci := 4) (v := .int 11) (C := RX4) (T := TX4) (N := 11) hx hb hts w_1 hown hK hP 0 rfl rfl 3 (by decide) w_2 (fun _ h9 => h9) rfl dX4_append_22 ?_
  refine lv_iload_n hx hb dX4_append_25 rfl (lv_at hl 2 rfl) ?_
  refine lv_iload_n hx hb dX4_append_26 rfl (lv_at hl 0 rfl) ?_
  refine lv_iushr (v := (v.toUInt32 >>> ((0 : Int32).toUInt32 &&& Int32.toUInt32 31)).toInt32) hx hb dX4_append_27 rfl ?_
  refine lv_i2b (v := ((v.toUInt32 >>> ((0 : Int32).toUInt32 &&& Int32.toUInt32 31)).toInt32).toInt8.toInt32) hx hb dX4_append_28 rfl ?_
  refine sv_bast hx hb hK hP hD hS 1 0 rfl rfl (vp_in_iff.mpr (by decide)) dX4_append_29 (fun g_4 H locs eg_4 hP hD hS => ?_)
  have hP : va_P D vwCl [(h0, .inr (4, [.ref dr, .int 0, .int (-1), .int 11, .ref tp, .int 0, .int 0, .int 0, .int 0, .int 0, .int 0])), (tp, .inl (cB, 300, .inl g_4))] H := hP
  have hD : va_D A [(h0, .inr (4, [.ref dr, .int 0, .int (-1), .int 11, .ref tp, .int 0, .int 0, .int 0, .int 0, .int 0, .int 0])), (tp, .inl (cB, 300, .inl g_4))] := hD
  refine lv_aload_n hx hb dX4_append_30 rfl (lv_at hl 1 rfl) ?_
  refine lv_dup hx hb dX4_append_31 rfl ?_
  refine va_get (D := D) (ci := 4) (v := .int 11) (C := RX4) (T := TX4) (N := 11) hx hb hts w_1 hown hK hP 0 rfl rfl 3 (by decide) w_2 (fun _ h9 => h9) rfl dX4_append_32 ?_
  refine lv_iconst (v := 1) hx hb dX4_append_35 (by decide) ?_
  refine sv_iadd (v := 12) hx hb dX4_append_36 (by decide) ?_
  refine va_put (D := D) (ci := 4) (v := .int 12) (ty := .int) (C := RX4) (T := TX4) (N := 11) hx hb hts w_1 tyX4 tyX4_ok nmX4 hown hK hP hD hS 0 rfl rfl 3 (by decide) w_2 (fun _ h9 => h9) rfl (by decide +kernel) rfl rfl (Nat.le_of_ble_eq_true rfl) dX4_append_37 (fun H locs hP hD hS => ?_)
  have hP : va_P D vwCl [(h0, .inr (4, [.ref dr, .int 0, .int (-1), .int 12, .ref tp, .int 0, .int 0, .int 0, .int 0, .int 0, .int 0])), (tp, .inl (cB, 300, .inl g_4))] H := hP
  have hD : va_D A [(h0, .inr (4, [.ref dr, .int 0, .int (-1), .int 12, .ref tp, .int 0, .int 0, .int 0, .int 0, .int 0, .int 0])), (tp, .inl (cB, 300, .inl g_4))] := hD
  refine lv_iinc (v := (-8)) (lv' := [(2, .int (-8)), (0, .ref h0), (1, .int v)]) hx hb dX4_append_40 hl (k := 0) rfl (by decide) (by decide) rfl (fun ls hl => ?_)
  refine lv_goto (tgt := 3) hx hb dX4_append_43 (by decide) ?_
  refine lv_iload_n hx hb dX4_append_3 rfl (lv_at hl 0 rfl) ?_
  refine lv_if_lt (tgt := 46) hx hb dX4_append_4 (by decide) (fun _ => ?_) (fun h => absurd (by decide) h)
  have hP9 := hP.sub (ws' := [(h0, .inr (4, [.ref dr, .int 0, .int (-1), .int 12, .ref tp, .int 0, .int 0, .int 0, .int 0, .int 0, .int 0])), (tp, .inl (cB, 300, .inl g_4))]) [0, 1] rfl
  have hD9 := hD.sub (ws' := [(h0, .inr (4, [.ref dr, .int 0, .int (-1), .int 12, .ref tp, .int 0, .int 0, .int 0, .int 0, .int 0, .int 0])), (tp, .inl (cB, 300, .inl g_4))]) [0, 1] (by decide) rfl
  exact W.vret hx hb hr (fun t ht hW => ⟨⟨g_4, rfl, trivial, by rw [ht]; exact hP9, va_K.moved hW.alike hK, hD9⟩, hS.F ht⟩) hS.2.2 dX4_append_46

set_option maxHeartbeats 4000000 in
set_option maxRecDepth 100000 in
/-- four bytes more, at 12 -/
theorem k_X4_app12 (l : Launch) (D : va_G) (cB cI cJ cZ : ClassId) (sz : Nat) (h0 dr tp : Nat) (f : Nat → Int32) (v : Int32) : Met l yX4_append wsX4_append ({ frames := 0, cells := 0, slots := 0, locals := 0 } : Room) (cPre D (aTy cB cI cJ cZ) [(h0, .inr (4, [.ref dr, .int 0, .int (-1), .int 12, .ref tp, .int 0, .int 0, .int 0, .int 0, .int 0, .int 0])), (tp, .inl (cB, 300, .inl f))] sz [.ref h0, .int v]) (va_Qv (fun (u : Nat → Int32) => True) (cB_ D (aTy cB cI cJ cZ) (va_A [(h0, .inr (4, [.ref dr, .int 0, .int (-1), .int 12, .ref tp, .int 0, .int 0, .int 0, .int 0, .int 0, .int 0])), (tp, .inl (cB, 300, .inl f))] sz) (fun g => [(h0, .inr (4, [.ref dr, .int 0, .int (-1), .int 16, .ref tp, .int 0, .int 0, .int 0, .int 0, .int 0, .int 0])), (tp, .inl (cB, 300, .inl g))])) (va_A [(h0, .inr (4, [.ref dr, .int 0, .int (-1), .int 12, .ref tp, .int 0, .int 0, .int 0, .int 0, .int 0, .int 0])), (tp, .inl (cB, 300, .inl f))] sz)) 0 0 (va_A [(h0, .inr (4, [.ref dr, .int 0, .int (-1), .int 12, .ref tp, .int 0, .int 0, .int 0, .int 0, .int 0, .int 0])), (tp, .inl (cB, 300, .inl f))] sz) := by
  refine Met.ofW (cc := cX4_append) (maxL := 3) (ret := none) (by decide) rfl ?_
  intro p e s m args below meth c s₁ B hml hv
  obtain ⟨rfl, hsz, hP, hK, hD0⟩ := hv
  have hx := B.exec
  have hb := B.bytes
  have hr := B.returns
  have hts := atoms_spec (ws := wsX4_append) B.pre
  have hown : s.vm.findClass RX4 = some m.cls := findClass_of_methodNamed B.named
  have hlocks := B.notSynchronized
  subst hsz
  have hD := hD0.self (sz := s.heap.size)
  generalize hAe : va_A [(h0, .inr (4, [.ref dr, .int 0, .int (-1), .int 12, .ref tp, .int 0, .int 0, .int 0, .int 0, .int 0, .int 0])), (tp, .inl (cB, 300, .inl f))] s.heap.size = A at hD ⊢
  have hA : ∀ q : Nat, s.heap.size ≤ q → A q := fun q h => by rw [← hAe]; exact Or.inr h
  have hS : va_S A s.heap s.heap [] := va_S.rf
  have hP : va_P D vwCl [(h0, .inr (4, [.ref dr, .int 0, .int (-1), .int 12, .ref tp, .int 0, .int 0, .int 0, .int 0, .int 0, .int 0])), (tp, .inl (cB, 300, .inl f))] s.heap := hP
  have w_1 : ∀ w ∈ wsX40, w ∈ wsX4_append := by decide +kernel
  have w_2 := hts (Cond.fieldLink RX4 29 "BlueCoats$Reader" "taped" "I") (by decide +kernel)
  have w_3 := hts (Cond.fieldLink RX4 25 "BlueCoats$Reader" "tape" "[B") (by decide +kernel)
  have hl := lv_entry ([.ref h0, .int v]) (n := 3) (Nat.le_of_ble_eq_true rfl)
  rw [lg_entry_eq]
  generalize (lg_sl ([.ref h0, .int v]) ++ List.replicate (3 - (lg_sl ([.ref h0, .int v])).length) Slot.unset).toArray = ls at hl ⊢
  have hl : lv_has ls 3 [(0, .ref h0), (1, .int v)] := hl
  refine lv_bipush (v := 24) hx hb dX4_append_0 (by decide) ?_
  refine lv_istore_n (lv' := [(2, .int 24), (0, .ref h0), (1, .int v)]) hx hb dX4_append_2 rfl hl (by decide) rfl (fun ls hl => ?_)
  refine lv_iload_n hx hb dX4_append_3 rfl (lv_at hl 0 rfl) ?_
  refine lv_if_lt (tgt := 46) hx hb dX4_append_4 (by decide) (fun h => absurd h (by decide)) (fun _ => ?_)
  refine lv_aload_n hx hb dX4_append_7 rfl (lv_at hl 1 rfl) ?_
  refine va_get (D := D) (ci := 4) (v := .int 12) (C := RX4) (T := TX4) (N := 11) hx hb hts w_1 hown hK hP 0 rfl rfl 3 (by decide) w_2 (fun _ h9 => h9) rfl dX4_append_8 ?_
  refine lv_sipush (v := 300) hx hb dX4_append_11 (by decide) ?_
  refine lv_icmp_ge (tgt := 40) hx hb dX4_append_14 (by decide) (fun h => absurd h (by decide)) (fun _ => ?_)
  refine lv_aload_n hx hb dX4_append_17 rfl (lv_at hl 1 rfl) ?_
  refine va_get (D := D) (ci := 4) (v := .ref tp) (C := RX4) (T := TX4) (N := 11) hx hb hts w_1 hown hK hP 0 rfl rfl 4 (by decide) w_3 (fun _ h9 => h9) rfl dX4_append_18 ?_
  refine lv_aload_n hx hb dX4_append_21 rfl (lv_at hl 1 rfl) ?_
  refine va_get (D := D) (ci := 4) (v := .int 12) (C := RX4) (T := TX4) (N := 11) hx hb hts w_1 hown hK hP 0 rfl rfl 3 (by decide) w_2 (fun _ h9 => h9) rfl dX4_append_22 ?_
  refine lv_iload_n hx hb dX4_append_25 rfl (lv_at hl 2 rfl) ?_
  refine lv_iload_n hx hb dX4_append_26 rfl (lv_at hl 0 rfl) ?_
  refine lv_iushr (v := (v.toUInt32 >>> ((24 : Int32).toUInt32 &&& Int32.toUInt32 31)).toInt32) hx hb dX4_append_27 rfl ?_
  refine lv_i2b (v := ((v.toUInt32 >>> ((24 : Int32).toUInt32 &&& Int32.toUInt32 31)).toInt32).toInt8.toInt32) hx hb dX4_append_28 rfl ?_
  refine sv_bast hx hb hK hP hD hS 1 0 rfl rfl (vp_in_iff.mpr (by decide)) dX4_append_29 (fun g_1 H locs eg_1 hP hD hS => ?_)
  have hP : va_P D vwCl [(h0, .inr (4, [.ref dr, .int 0, .int (-1), .int 12, .ref tp, .int 0, .int 0, .int 0, .int 0, .int 0, .int 0])), (tp, .inl (cB, 300, .inl g_1))] H := hP
  have hD : va_D A [(h0, .inr (4, [.ref dr, .int 0, .int (-1), .int 12, .ref tp, .int 0, .int 0, .int 0, .int 0, .int 0, .int 0])), (tp, .inl (cB, 300, .inl g_1))] := hD
  refine lv_aload_n hx hb dX4_append_30 rfl (lv_at hl 1 rfl) ?_
  refine lv_dup hx hb dX4_append_31 rfl ?_
  refine va_get (D := D) (ci := 4) (v := .int 12) (C := RX4) (T := TX4) (N := 11) hx hb hts w_1 hown hK hP 0 rfl rfl 3 (by decide) w_2 (fun _ h9 => h9) rfl dX4_append_32 ?_
  refine lv_iconst (v := 1) hx hb dX4_append_35 (by decide) ?_
  refine sv_iadd (v := 13) hx hb dX4_append_36 (by decide) ?_
  refine va_put (D := D) (ci := 4) (v := .int 13) (ty := .int) (C := RX4) (T := TX4) (N := 11) hx hb hts w_1 tyX4 tyX4_ok nmX4 hown hK hP hD hS 0 rfl rfl 3 (by decide) w_2 (fun _ h9 => h9) rfl (by decide +kernel) rfl rfl (Nat.le_of_ble_eq_true rfl) dX4_append_37 (fun H locs hP hD hS => ?_)
  have hP : va_P D vwCl [(h0, .inr (4, [.ref dr, .int 0, .int (-1), .int 13, .ref tp, .int 0, .int 0, .int 0, .int 0, .int 0, .int 0])), (tp, .inl (cB, 300, .inl g_1))] H := hP
  have hD : va_D A [(h0, .inr (4, [.ref dr, .int 0, .int (-1), .int 13, .ref tp, .int 0, .int 0, .int 0, .int 0, .int 0, .int 0])), (tp, .inl (cB, 300, .inl g_1))] := hD
  refine lv_iinc (v := 16) (lv' := [(2, .int 16), (0, .ref h0), (1, .int v)]) hx hb dX4_append_40 hl (k := 0) rfl (by decide) (by decide) rfl (fun ls hl => ?_)
  refine lv_goto (tgt := 3) hx hb dX4_append_43 (by decide) ?_
  refine lv_iload_n hx hb dX4_append_3 rfl (lv_at hl 0 rfl) ?_
  refine lv_if_lt (tgt := 46) hx hb dX4_append_4 (by decide) (fun h => absurd h (by decide)) (fun _ => ?_)
  refine lv_aload_n hx hb dX4_append_7 rfl (lv_at hl 1 rfl) ?_
  refine va_get (D := D) (ci := 4) (v := .int 13) (C := RX4) (T := TX4) (N := 11) hx hb hts w_1 hown hK hP 0 rfl rfl 3 (by decide) w_2 (fun _ h9 => h9) rfl dX4_append_8 ?_
  refine lv_sipush (v := 300) hx hb dX4_append_11 (by decide) ?_
  refine lv_icmp_ge (tgt := 40) hx hb dX4_append_14 (by decide) (fun h => absurd h (by decide)) (fun _ => ?_)
  refine lv_aload_n hx hb dX4_append_17 rfl (lv_at hl 1 rfl) ?_
  refine va_get (D := D) (ci := 4) (v := .ref tp) (C := RX4) (T := TX4) (N := 11) hx hb hts w_1 hown hK hP 0 rfl rfl 4 (by decide) w_3 (fun _ h9 => h9) rfl dX4_append_18 ?_
  refine lv_aload_n hx hb dX4_append_21 rfl (lv_at hl 1 rfl) ?_
  refine va_get (D := D) (ci := 4) (v := .int 13) (C := RX4) (T := TX4) (N := 11) hx hb hts w_1 hown hK hP 0 rfl rfl 3 (by decide) w_2 (fun _ h9 => h9) rfl dX4_append_22 ?_
  refine lv_iload_n hx hb dX4_append_25 rfl (lv_at hl 2 rfl) ?_
  refine lv_iload_n hx hb dX4_append_26 rfl (lv_at hl 0 rfl) ?_
  refine lv_iushr (v := (v.toUInt32 >>> ((16 : Int32).toUInt32 &&& Int32.toUInt32 31)).toInt32) hx hb dX4_append_27 rfl ?_
  refine lv_i2b (v := ((v.toUInt32 >>> ((16 : Int32).toUInt32 &&& Int32.toUInt32 31)).toInt32).toInt8.toInt32) hx hb dX4_append_28 rfl ?_
  refine sv_bast hx hb hK hP hD hS 1 0 rfl rfl (vp_in_iff.mpr (by decide)) dX4_append_29 (fun g_2 H locs eg_2 hP hD hS => ?_)
  have hP : va_P D vwCl [(h0, .inr (4, [.ref dr, .int 0, .int (-1), .int 13, .ref tp, .int 0, .int 0, .int 0, .int 0, .int 0, .int 0])), (tp, .inl (cB, 300, .inl g_2))] H := hP
  have hD : va_D A [(h0, .inr (4, [.ref dr, .int 0, .int (-1), .int 13, .ref tp, .int 0, .int 0, .int 0, .int 0, .int 0, .int 0])), (tp, .inl (cB, 300, .inl g_2))] := hD
  refine lv_aload_n hx hb dX4_append_30 rfl (lv_at hl 1 rfl) ?_
  refine lv_dup hx hb dX4_append_31 rfl ?_
  refine va_get (D := D) (ci := 4) (v := .int 13) (C := RX4) (T := TX4) (N := 11) hx hb hts w_1 hown hK hP 0 rfl rfl 3 (by decide) w_2 (fun _ h9 => h9) rfl dX4_append_32 ?_
  refine lv_iconst (v := 1) hx hb dX4_append_35 (by decide) ?_
  refine sv_iadd (v := 14) hx hb dX4_append_36 (by decide) ?_
  refine va_put (D := D) (ci := 4) (v := .int 14) (ty := .int) (C := RX4) (T := TX4) (N := 11) hx hb hts w_1 tyX4 tyX4_ok nmX4 hown hK hP hD hS 0 rfl rfl 3 (by decide) w_2 (fun _ h9 => h9) rfl (by decide +kernel) rfl rfl (Nat.le_of_ble_eq_true rfl) dX4_append_37 (fun H locs hP hD hS => ?_)
  have hP : va_P D vwCl [(h0, .inr (4, [.ref dr, .int 0, .int (-1), .int 14, .ref tp, .int 0, .int 0, .int 0, .int 0, .int 0, .int 0])), (tp, .inl (cB, 300, .inl g_2))] H := hP
  have hD : va_D A [(h0, .inr (4, [.ref dr, .int 0, .int (-1), .int 14, .ref tp, .int 0, .int 0, .int 0, .int 0, .int 0, .int 0])), (tp, .inl (cB, 300, .inl g_2))] := hD
  refine lv_iinc (v := 8) (lv' := [(2, .int 8), (0, .ref h0), (1, .int v)]) hx hb dX4_append_40 hl (k := 0) rfl (by decide) (by decide) rfl (fun ls hl => ?_)
  refine lv_goto (tgt := 3) hx hb dX4_append_43 (by decide) ?_
  refine lv_iload_n hx hb dX4_append_3 rfl (lv_at hl 0 rfl) ?_
  refine lv_if_lt (tgt := 46) hx hb dX4_append_4 (by decide) (fun h => absurd h (by decide)) (fun _ => ?_)
  refine lv_aload_n hx hb dX4_append_7 rfl (lv_at hl 1 rfl) ?_
  refine va_get (D := D) (ci := 4) (v := .int 14) (C := RX4) (T := TX4) (N := 11) hx hb hts w_1 hown hK hP 0 rfl rfl 3 (by decide) w_2 (fun _ h9 => h9) rfl dX4_append_8 ?_
  refine lv_sipush (v := 300) hx hb dX4_append_11 (by decide) ?_
  refine lv_icmp_ge (tgt := 40) hx hb dX4_append_14 (by decide) (fun h => absurd h (by decide)) (fun _ => ?_)
  refine lv_aload_n hx hb dX4_append_17 rfl (lv_at hl 1 rfl) ?_
  refine va_get (D := D) (ci := 4) (v := .ref tp) (C := RX4) (T := TX4) (N := 11) hx hb hts w_1 hown hK hP 0 rfl rfl 4 (by decide) w_3 (fun _ h9 => h9) rfl dX4_append_18 ?_
  refine lv_aload_n hx hb dX4_append_21 rfl (lv_at hl 1 rfl) ?_
  refine va_get (D := D) (ci := 4) (v := .int 14) (C := RX4) (T := TX4) (N := 11) hx hb hts w_1 hown hK hP 0 rfl rfl 3 (by decide) w_2 (fun _ h9 => h9) rfl dX4_append_22 ?_
  refine lv_iload_n hx hb dX4_append_25 rfl (lv_at hl 2 rfl) ?_
  refine lv_iload_n hx hb dX4_append_26 rfl (lv_at hl 0 rfl) ?_
  refine lv_iushr (v := (v.toUInt32 >>> ((8 : Int32).toUInt32 &&& Int32.toUInt32 31)).toInt32) hx hb dX4_append_27 rfl ?_
  refine lv_i2b (v := ((v.toUInt32 >>> ((8 : Int32).toUInt32 &&& Int32.toUInt32 31)).toInt32).toInt8.toInt32) hx hb dX4_append_28 rfl ?_
  refine sv_bast hx hb hK hP hD hS 1 0 rfl rfl (vp_in_iff.mpr (by decide)) dX4_append_29 (fun g_3 H locs eg_3 hP hD hS => ?_)
  have hP : va_P D vwCl [(h0, .inr (4, [.ref dr, .int 0, .int (-1), .int 14, .ref tp, .int 0, .int 0, .int 0, .int 0, .int 0, .int 0])), (tp, .inl (cB, 300, .inl g_3))] H := hP
  have hD : va_D A [(h0, .inr (4, [.ref dr, .int 0, .int (-1), .int 14, .ref tp, .int 0, .int 0, .int 0, .int 0, .int 0, .int 0])), (tp, .inl (cB, 300, .inl g_3))] := hD
  refine lv_aload_n hx hb dX4_append_30 rfl (lv_at hl 1 rfl) ?_
  refine lv_dup hx hb dX4_append_31 rfl ?_
  refine va_get (D := D) (ci := 4) (v := .int 14) (C := RX4) (T := TX4) (N := 11) hx hb hts w_1 hown hK hP 0 rfl rfl 3 (by decide) w_2 (fun _ h9 => h9) rfl dX4_append_32 ?_
  refine lv_iconst (v := 1) hx hb dX4_append_35 (by decide) ?_
  refine sv_iadd (v := 15) hx hb dX4_append_36 (by decide) ?_
  refine va_put (D := D) (ci := 4) (v := .int 15) (ty := .int) (C := RX4) (T := TX4) (N := 11) hx hb hts w_1 tyX4 tyX4_ok nmX4 hown hK hP hD hS 0 rfl rfl 3 (by decide) w_2 (fun _ h9 => h9) rfl (by decide +kernel) rfl rfl (Nat.le_of_ble_eq_true rfl) dX4_append_37 (fun H locs hP hD hS => ?_)
  have hP : va_P D vwCl [(h0, .inr (4, [.ref dr, .int 0, .int (-1), .int 15, .ref tp, .int 0, .int 0, .int 0, .int 0, .int 0, .int 0])), (tp, .inl (cB, 300, .inl g_3))] H := hP
  have hD : va_D A [(h0, .inr (4, [.ref dr, .int 0, .int (-1), .int 15, .ref tp, .int 0, .int 0, .int 0, .int 0, .int 0, .int 0])), (tp, .inl (cB, 300, .inl g_3))] := hD
  refine lv_iinc (v := 0) (lv' := [(2, .int 0), (0, .ref h0), (1, .int v)]) hx hb dX4_append_40 hl (k := 0) rfl (by decide) (by decide) rfl (fun ls hl => ?_)
  refine lv_goto (tgt := 3) hx hb dX4_append_43 (by decide) ?_
  refine lv_iload_n hx hb dX4_append_3 rfl (lv_at hl 0 rfl) ?_
  refine lv_if_lt (tgt := 46) hx hb dX4_append_4 (by decide) (fun h => absurd h (by decide)) (fun _ => ?_)
  refine lv_aload_n hx hb dX4_append_7 rfl (lv_at hl 1 rfl) ?_
  refine va_get (D := D) (ci := 4) (v := .int 15) (C := RX4) (T := TX4) (N := 11) hx hb hts w_1 hown hK hP 0 rfl rfl 3 (by decide) w_2 (fun _ h9 => h9) rfl dX4_append_8 ?_
  refine lv_sipush (v := 300) hx hb dX4_append_11 (by decide) ?_
  refine lv_icmp_ge (tgt := 40) hx hb dX4_append_14 (by decide) (fun h => absurd h (by decide)) (fun _ => ?_)
  refine lv_aload_n hx hb dX4_append_17 rfl (lv_at hl 1 rfl) ?_
  refine va_get (D := D) (ci := 4) (v := .ref tp) (C := RX4) (T := TX4) (N := 11) hx hb hts w_1 hown hK hP 0 rfl rfl 4 (by decide) w_3 (fun _ h9 => h9) rfl dX4_append_18 ?_
  refine lv_aload_n hx hb dX4_append_21 rfl (lv_at hl 1 rfl) ?_
  refine va_get (D := D) (ci := 4) (v := .int 15) (C := RX4) (T := TX4) (N := 11) hx hb hts w_1 hown hK hP 0 rfl rfl 3 (by decide) w_2 (fun _ h9 => h9) rfl dX4_append_22 ?_
  refine lv_iload_n hx hb dX4_append_25 rfl (lv_at hl 2 rfl) ?_
  refine lv_iload_n hx hb dX4_append_26 rfl (lv_at hl 0 rfl) ?_
  refine lv_iushr (v := (v.toUInt32 >>> ((0 : Int32).toUInt32 &&& Int32.toUInt32 31)).toInt32) hx hb dX4_append_27 rfl ?_
  refine lv_i2b (v := ((v.toUInt32 >>> ((0 : Int32).toUInt32 &&& Int32.toUInt32 31)).toInt32).toInt8.toInt32) hx hb dX4_append_28 rfl ?_
  refine sv_bast hx hb hK hP hD hS 1 0 rfl rfl (vp_in_iff.mpr (by decide)) dX4_append_29 (fun g_4 H locs eg_4 hP hD hS => ?_)
  have hP : va_P D vwCl [(h0, .inr (4, [.ref dr, .int 0, .int (-1), .int 15, .ref tp, .int 0, .int 0, .int 0, .int 0, .int 0, .int 0])), (tp, .inl (cB, 300, .inl g_4))] H := hP
  have hD : va_D A [(h0, .inr (4, [.ref dr, .int 0, .int (-1), .int 15, .ref tp, .int 0, .int 0, .int 0, .int 0, .int 0, .int 0])), (tp, .inl (cB, 300, .inl g_4))] := hD
  refine lv_aload_n hx hb dX4_append_30 rfl (lv_at hl 1 rfl) ?_
  refine lv_dup hx hb dX4_append_31 rfl ?_
  refine va_get (D := D) (ci := 4) (v := .int 15) (C := RX4) (T := TX4) (N := 11) hx hb hts w_1 hown hK hP 0 rfl rfl 3 (by decide) w_2 (fun _ h9 => h9) rfl dX4_append_32 ?_
  refine lv_iconst (v := 1) hx hb dX4_append_35 (by decide) ?_
  refine sv_iadd (v := 16) hx hb dX4_append_36 (by decide) ?_
  refine va_put (D := D) (ci := 4) (v := .int 16) (ty := .int) (C := RX4) (T := TX4) (N := 11) hx hb hts w_1 tyX4 tyX4_ok nmX4 hown hK hP hD hS 0 rfl rfl 3 (by decide) w_2 (fun _ h9 => h9) rfl (by decide +kernel) rfl rfl (Nat.le_of_ble_eq_true rfl) dX4_append_37 (fun H locs hP hD hS => ?_)
  have hP : va_P D vwCl [(h0, .inr (4, [.ref dr, .int 0, .int (-1), .int 16, .ref tp, .int 0, .int 0, .int 0, .int 0, .int 0, .int 0])), (tp, .inl (cB, 300, .inl g_4))] H := hP
  have hD : va_D A [(h0, .inr (4, [.ref dr, .int 0, .int (-1), .int 16, .ref tp, .int 0, .int 0, .int 0, .int 0, .int 0, .int 0])), (tp, .inl (cB, 300, .inl g_4))] := hD
  refine lv_iinc (v := (-8)) (lv' := [(2, .int (-8)), (0, .ref h0), (1, .int v)]) hx hb dX4_append_40 hl (k := 0) rfl (by decide) (by decide) rfl (fun ls hl => ?_)
  refine lv_goto (tgt := 3) hx hb dX4_append_43 (by decide) ?_
  refine lv_iload_n hx hb dX4_append_3 rfl (lv_at hl 0 rfl) ?_
  refine lv_if_lt (tgt := 46) hx hb dX4_append_4 (by decide) (fun _ => ?_) (fun h => absurd (by decide) h)
  have hP9 := hP.sub (ws' := [(h0, .inr (4, [.ref dr, .int 0, .int (-1), .int 16, .ref tp, .int 0, .int 0, .int 0, .int 0, .int 0, .int 0])), (tp, .inl (cB, 300, .inl g_4))]) [0, 1] rfl
  have hD9 := hD.sub (ws' := [(h0, .inr (4, [.ref dr, .int 0, .int (-1), .int 16, .ref tp, .int 0, .int 0, .int 0, .int 0, .int 0, .int 0])), (tp, .inl (cB, 300, .inl g_4))]) [0, 1] (by decide) rfl
  exact W.vret hx hb hr (fun t ht hW => ⟨⟨g_4, rfl, trivial, by rw [ht]; exact hP9, va_K.moved hW.alike hK, hD9⟩, hS.F ht⟩) hS.2.2 dX4_append_46

set_option maxHeartbeats 4000000 in
set_option maxRecDepth 100000 in
/-- four bytes more, at 16 -/
theorem k_X4_app16 (l : Launch) (D : va_G) (cB cI cJ cZ : ClassId) (sz : Nat) (h0 dr tp : Nat) (f : Nat → Int32) (v : Int32) : Met l yX4_append wsX4_append ({ frames := 0, cells := 0, slots := 0, locals := 0 } : Room) (cPre D (aTy cB cI cJ cZ) [(h0, .inr (4, [.ref dr, .int 0, .int (-1), .int 16, .ref tp, .int 0, .int 0, .int 0, .int 0, .int 0, .int 0])), (tp, .inl (cB, 300, .inl f))] sz [.ref h0, .int v]) (va_Qv (fun (u : Nat → Int32) => True) (cB_ D (aTy cB cI cJ cZ) (va_A [(h0, .inr (4, [.ref dr, .int 0, .int (-1), .int 16, .ref tp, .int 0, .int 0, .int 0, .int 0, .int 0, .int 0])), (tp, .inl (cB, 300, .inl f))] sz) (fun g => [(h0, .inr (4, [.ref dr, .int 0, .int (-1), .int 20, .ref tp, .int 0, .int 0, .int 0, .int 0, .int 0, .int 0])), (tp, .inl (cB, 300, .inl g))])) (va_A [(h0, .inr (4, [.ref dr, .int 0, .int (-1), .int 16, .ref tp, .int 0, .int 0, .int 0, .int 0, .int 0, .int 0])), (tp, .inl (cB, 300, .inl f))] sz)) 0 0 (va_A [(h0, .inr (4, [.ref dr, .int 0, .int (-1), .int 16, .ref tp, .int 0, .int 0, .int 0, .int 0, .int 0, .int 0])), (tp, .inl (cB, 300, .inl f))] sz) := by
  refine Met.ofW (cc := cX4_append) (maxL := 3) (ret := none) (by decide) rfl ?_
  intro p e s m args below meth c s₁ B hml hv
  obtain ⟨rfl, hsz, hP, hK, hD0⟩ := hv
  have hx := B.exec
  have hb := B.bytes
  have hr := B.returns
  have hts := atoms_spec (ws := wsX4_append) B.pre
  have hown : s.vm.findClass RX4 = some m.cls := findClass_of_methodNamed B.named
  have hlocks := B.notSynchronized
  subst hsz
  have hD := hD0.self (sz := s.heap.size)
  generalize hAe : va_A [(h0, .inr (4, [.ref dr, .int 0, .int (-1), .int 16, .ref tp, .int 0, .int 0, .int 0, .int 0, .int 0, .int 0])), (tp, .inl (cB, 300, .inl f))] s.heap.size = A at hD ⊢
  have hA : ∀ q : Nat, s.heap.size ≤ q → A q := fun q h => by rw [← hAe]; exact Or.inr h
  have hS : va_S A s.heap s.heap [] := va_S.rf
  have hP : va_P D vwCl [(h0, .inr (4, [.ref dr, .int 0, .int (-1), .int 16, .ref tp, .int 0, .int 0, .int 0, .int 0, .int 0, .int 0])), (tp, .inl (cB, 300, .inl f))] s.heap := hP
  have w_1 : ∀ w ∈ wsX40, w ∈ wsX4_append := by decide +kernel
  have w_2 := hts (Cond.fieldLink RX4 29 "BlueCoats$Reader" "taped" "I") (by decide +kernel)
  have w_3 := hts (Cond.fieldLink RX4 25 "BlueCoats$Reader" "tape" "[B") (by decide +kernel)
  have hl := lv_entry ([.ref h0, .int v]) (n := 3) (Nat.le_of_ble_eq_true rfl)
  rw [lg_entry_eq]
  generalize (lg_sl ([.ref h0, .int v]) ++ List.replicate (3 - (lg_sl ([.ref h0, .int v])).length) Slot.unset).toArray = ls at hl ⊢
  have hl : lv_has ls 3 [(0, .ref h0), (1, .int v)] := hl
  refine lv_bipush (v := 24) hx hb dX4_append_0 (by decide) ?_
  refine lv_istore_n (lv' := [(2, .int 24), (0, .ref h0), (1, .int v)]) hx hb dX4_append_2 rfl hl (by decide) rfl (fun ls hl => ?_)
  refine lv_iload_n hx hb dX4_append_3 rfl (lv_at hl 0 rfl) ?_
  refine lv_if_lt (tgt := 46) hx hb dX4_append_4 (by decide) (fun h => absurd h (by decide)) (fun _ => ?_)
  refine lv_aload_n hx hb dX4_append_7 rfl (lv_at hl 1 rfl) ?_
  refine va_get (D := D) (ci := 4) (v := .int 16) (C := RX4) (T := TX4) (N := 11) hx hb hts w_1 hown hK hP 0 rfl rfl 3 (by decide) w_2 (fun _ h9 => h9) rfl dX4_append_8 ?_
  refine lv_sipush (v := 300) hx hb dX4_append_11 (by decide) ?_
  refine lv_icmp_ge (tgt := 40) hx hb dX4_append_14 (by decide) (fun h => absurd h (by decide)) (fun _ => ?_)
  refine lv_aload_n hx hb dX4_append_17 rfl (lv_at hl 1 rfl) ?_
  refine va_get (D := D) (ci := 4) (v := .ref tp) (C := RX4) (T := TX4) (N := 11) hx hb hts w_1 hown hK hP 0 rfl rfl 4 (by decide) w_3 (fun _ h9 => h9) rfl dX4_append_18 ?_
  refine lv_aload_n hx hb dX4_append_21 rfl (lv_at hl 1 rfl) ?_
  refine va_get (D := D) (ci := 4) (v := .int 16) (C := RX4) (T := TX4) (N := 11) hx hb hts w_1 hown hK hP 0 rfl rfl 3 (by decide) w_2 (fun _ h9 => h9) rfl dX4_append_22 ?_
  refine lv_iload_n hx hb dX4_append_25 rfl (lv_at hl 2 rfl) ?_
  refine lv_iload_n hx hb dX4_append_26 rfl (lv_at hl 0 rfl) ?_
  refine lv_iushr (v := (v.toUInt32 >>> ((24 : Int32).toUInt32 &&& Int32.toUInt32 31)).toInt32) hx hb dX4_append_27 rfl ?_
  refine lv_i2b (v := ((v.toUInt32 >>> ((24 : Int32).toUInt32 &&& Int32.toUInt32 31)).toInt32).toInt8.toInt32) hx hb dX4_append_28 rfl ?_
  refine sv_bast hx hb hK hP hD hS 1 0 rfl rfl (vp_in_iff.mpr (by decide)) dX4_append_29 (fun g_1 H locs eg_1 hP hD hS => ?_)
  have hP : va_P D vwCl [(h0, .inr (4, [.ref dr, .int 0, .int (-1), .int 16, .ref tp, .int 0, .int 0, .int 0, .int 0, .int 0, .int 0])), (tp, .inl (cB, 300, .inl g_1))] H := hP
  have hD : va_D A [(h0, .inr (4, [.ref dr, .int 0, .int (-1), .int 16, .ref tp, .int 0, .int 0, .int 0, .int 0, .int 0, .int 0])), (tp, .inl (cB, 300, .inl g_1))] := hD
  refine lv_aload_n hx hb dX4_append_30 rfl (lv_at hl 1 rfl) ?_
  refine lv_dup hx hb dX4_append_31 rfl ?_
  refine va_get (D := D) (ci := 4) (v := .int 16) (C := RX4) (T := TX4) (N := 11) hx hb hts w_1 hown hK hP 0 rfl rfl 3 (by decide) w_2 (fun _ h9 => h9) rfl dX4_append_32 ?_
  refine lv_iconst (v := 1) hx hb dX4_append_35 (by decide) ?_
  refine sv_iadd (v := 17) hx hb dX4_append_36 (by decide) ?_
  refine va_put (D := D) (ci := 4) (v := .int 17) (ty := .int) (C := RX4) (T := TX4) (N := 11) hx hb hts w_1 tyX4 tyX4_ok nmX4 hown hK hP hD hS 0 rfl rfl 3 (by decide) w_2 (fun _ h9 => h9) rfl (by decide +kernel) rfl rfl (Nat.le_of_ble_eq_true rfl) dX4_append_37 (fun H locs hP hD hS => ?_)
  have hP : va_P D vwCl [(h0, .inr (4, [.ref dr, .int 0, .int (-1), .int 17, .ref tp, .int 0, .int 0, .int 0, .int 0, .int 0, .int 0])), (tp, .inl (cB, 300, .inl g_1))] H := hP
  have hD : va_D A [(h0, .inr (4, [.ref dr, .int 0, .int (-1), .int 17, .ref tp, .int 0, .int 0, .int 0, .int 0, .int 0, .int 0])), (tp, .inl (cB, 300, .inl g_1))] := hD
  refine lv_iinc (v := 16) (lv' := [(2, .int 16), (0, .ref h0), (1, .int v)]) hx hb dX4_append_40 hl (k := 0) rfl (by decide) (by decide) rfl (fun ls hl => ?_)
  refine lv_goto (tgt := 3) hx hb dX4_append_43 (by decide) ?_
  refine lv_iload_n hx hb dX4_append_3 rfl (lv_at hl 0 rfl) ?_
  refine lv_if_lt (tgt := 46) hx hb dX4_append_4 (by decide) (fun h => absurd h (by decide)) (fun _ => ?_)
  refine lv_aload_n hx hb dX4_append_7 rfl (lv_at hl 1 rfl) ?_
  refine va_get (D := D) (ci := 4) (v := .int 17) (C := RX4) (T := TX4) (N := 11) hx hb hts w_1 hown hK hP 0 rfl rfl 3 (by decide) w_2 (fun _ h9 => h9) rfl dX4_append_8 ?_
  refine lv_sipush (v := 300) hx hb dX4_append_11 (by decide) ?_
  refine lv_icmp_ge (tgt := 40) hx hb dX4_append_14 (by decide) (fun h => absurd h (by decide)) (fun _ => ?_)
  refine lv_aload_n hx hb dX4_append_17 rfl (lv_at hl 1 rfl) ?_
  refine va_get (D := D) (ci := 4) (v := .ref tp) (C := RX4) (T := TX4) (N := 11) hx hb hts w_1 hown hK hP 0 rfl rfl 4 (by decide) w_3 (fun _ h9 => h9) rfl dX4_append_18 ?_
  refine lv_aload_n hx hb dX4_append_21 rfl (lv_at hl 1 rfl) ?_
  refine va_get (D := D) (ci := 4) (v := .int 17) (C := RX4) (T := TX4) (N := 11) hx hb hts w_1 hown hK hP 0 rfl rfl 3 (by decide) w_2 (fun _ h9 => h9) rfl dX4_append_22 ?_
  refine lv_iload_n hx hb dX4_append_25 rfl (lv_at hl 2 rfl) ?_
  refine lv_iload_n hx hb dX4_append_26 rfl (lv_at hl 0 rfl) ?_
  refine lv_iushr (v := (v.toUInt32 >>> ((16 : Int32).toUInt32 &&& Int32.toUInt32 31)).toInt32) hx hb dX4_append_27 rfl ?_
  refine lv_i2b (v := ((v.toUInt32 >>> ((16 : Int32).toUInt32 &&& Int32.toUInt32 31)).toInt32).toInt8.toInt32) hx hb dX4_append_28 rfl ?_
  refine sv_bast hx hb hK hP hD hS 1 0 rfl rfl (vp_in_iff.mpr (by decide)) dX4_append_29 (fun g_2 H locs eg_2 hP hD hS => ?_)
  have hP : va_P D vwCl [(h0, .inr (4, [.ref dr, .int 0, .int (-1), .int 17, .ref tp, .int 0, .int 0, .int 0, .int 0, .int 0, .int 0])), (tp, .inl (cB, 300, .inl g_2))] H := hP
  have hD : va_D A [(h0, .inr (4, [.ref dr, .int 0, .int (-1), .int 17, .ref tp, .int 0, .int 0, .int 0, .int 0, .int 0, .int 0])), (tp, .inl (cB, 300, .inl g_2))] := hD
  refine lv_aload_n hx hb dX4_append_30 rfl (lv_at hl 1 rfl) ?_
  refine lv_dup hx hb dX4_append_31 rfl ?_
  refine va_get (D := D) (ci := 4) (v := .int 17) (C := RX4) (T := TX4) (N := 11) hx hb hts w_1 hown hK hP 0 rfl rfl 3 (by decide) w_2 (fun _ h9 => h9) rfl dX4_append_32 ?_
  refine lv_iconst (v := 1) hx hb dX4_append_35 (by decide) ?_
  refine sv_iadd (v := 18) hx hb dX4_append_36 (by decide) ?_
  refine va_put (D := D) (ci := 4) (v := .int 18) (ty := .int) (C := RX4) (T := TX4) (N := 11) hx hb hts w_1 tyX4 tyX4_ok nmX4 hown hK hP hD hS 0 rfl rfl 3 (by decide) w_2 (fun _ h9 => h9) rfl (by decide +kernel) rfl rfl (Nat.le_of_ble_eq_true rfl) dX4_append_37 (fun H locs hP hD hS => ?_)
  have hP : va_P D vwCl [(h0, .inr (4, [.ref dr, .int 0, .int (-1), .int 18, .ref tp, .int 0, .int 0, .int 0, .int 0, .int 0, .int 0])), (tp, .inl (cB, 300, .inl g_2))] H := hP
  have hD : va_D A [(h0, .inr (4, [.ref dr, .int 0, .int (-1), .int 18, .ref tp, .int 0, .int 0, .int 0, .int 0, .int 0, .int 0])), (tp, .inl (cB, 300, .inl g_2))] := hD
  refine lv_iinc (v := 8) (lv' := [(2, .int 8), (0, .ref h0), (1, .int v)]) hx hb dX4_append_40 hl (k := 0) rfl (by decide) (by decide) rfl (fun ls hl => ?_)
  refine lv_goto (tgt := 3) hx hb dX4_append_43 (by decide) ?_
  refine lv_iload_n hx hb dX4_append_3 rfl (lv_at hl 0 rfl) ?_
  refine lv_if_lt (tgt := 46) hx hb dX4_append_4 (by decide) (fun h => absurd h (by decide)) (fun _ => ?_)
  refine lv_aload_n hx hb dX4_append_7 rfl (lv_at hl 1 rfl) ?_
  refine va_get (D := D) (ci := 4) (v := .int 18) (C := RX4) (T := TX4) (N := 11) hx hb hts w_1 hown hK hP 0 rfl rfl 3 (by decide) w_2 (fun _ h9 => h9) rfl dX4_append_8 ?_
  refine lv_sipush (v := 300) hx hb dX4_append_11 (by decide) ?_
  refine lv_icmp_ge (tgt := 40) hx hb dX4_append_14 (by decide) (fun h => absurd h (by decide)) (fun _ => ?_)
  refine lv_aload_n hx hb dX4_append_17 rfl (lv_at hl 1 rfl) ?_
  refine va_get (D := D) (ci := 4) (v := .ref tp) (C := RX4) (T := TX4) (N := 11) hx hb hts w_1 hown hK hP 0 rfl rfl 4 (by decide) w_3 (fun _ h9 => h9) rfl dX4_append_18 ?_
  refine lv_aload_n hx hb dX4_append_21 rfl (lv_at hl 1 rfl) ?_
  refine va_get (D := D) (ci := 4) (v := .int 18) (C := RX4) (T := TX4) (N := 11) hx hb hts w_1 hown hK hP 0 rfl rfl 3 (by decide) w_2 (fun _ h9 => h9) rfl dX4_append_22 ?_
  refine lv_iload_n hx hb dX4_append_25 rfl (lv_at hl 2 rfl) ?_
  refine lv_iload_n hx hb dX4_append_26 rfl (lv_at hl 0 rfl) ?_
  refine lv_iushr (v := (v.toUInt32 >>> ((8 : Int32).toUInt32 &&& Int32.toUInt32 31)).toInt32) hx hb dX4_append_27 rfl ?_
  refine lv_i2b (v := ((v.toUInt32 >>> ((8 : Int32).toUInt32 &&& Int32.toUInt32 31)).toInt32).toInt8.toInt32) hx hb dX4_append_28 rfl ?_
  refine sv_bast hx hb hK hP hD hS 1 0 rfl rfl (vp_in_iff.mpr (by decide)) dX4_append_29 (fun g_3 H locs eg_3 hP hD hS => ?_)
  have hP : va_P D vwCl [(h0, .inr (4, [.ref dr, .int 0, .int (-1), .int 18, .ref tp, .int 0, .int 0, .int 0, .int 0, .int 0, .int 0])), (tp, .inl (cB, 300, .inl g_3))] H := hP
  have hD : va_D A [(h0, .inr (4, [.ref dr, .int 0, .int (-1), .int 18, .ref tp, .int 0, .int 0, .int 0, .int 0, .int 0, .int 0])), (tp, .inl (cB, 300, .inl g_3))] := hD
  refine lv_aload_n hx hb dX4_append_30 rfl (lv_at hl 1 rfl) ?_
  refine lv_dup hx hb dX4_append_31 rfl ?_
  refine va_get (D := D) (ci := 4) (v := .int 18) (C := RX4) (T := TX4) (N := 11) hx hb hts w_1 hown hK hP 0 rfl rfl 3 (by decide) w_2 (fun _ h9 => h9) rfl dX4_append_32 ?_
  refine lv_iconst (v := 1) hx hb dX4_append_35 (by decide) ?_
  refine sv_iadd (v := 19) hx hb dX4_append_36 (by decide) ?_
  refine va_put (D := D) (ci := 4) (v := .int 19) (ty := .int) (C := RX4) (T := TX4) (N := 11) hx hb hts w_1 tyX4 tyX4_ok nmX4 hown hK hP hD hS 0 rfl rfl 3 (by decide) w_2 (fun _ h9 => h9) rfl (by decide +kernel) rfl rfl (Nat.le_of_ble_eq_true rfl) dX4_append_37 (fun H locs hP hD hS => ?_)
  have hP : va_P D vwCl [(h0, .inr (4, [.ref dr, .int 0, .int (-1), .int 19, .ref tp, .int 0, .int 0, .int 0, .int 0, .int 0, .int 0])), (tp, .inl (cB, 300, .inl g_3))] H := hP
  have hD : va_D A [(h0, .inr (4, [.ref dr, .int 0, .int (-1), .int 19, .ref tp, .int 0, .int 0, .int 0, .int 0, .int 0, .int 0])), (tp, .inl (cB, 300, .inl g_3))] := hD
  refine lv_iinc (v := 0) (lv' := [(2, .int 0), (0, .ref h0), (1, .int v)]) hx hb dX4_append_40 hl (k := 0) rfl (by decide) (by decide) rfl (fun ls hl => ?_)
  refine lv_goto (tgt := 3) hx hb dX4_append_43 (by decide) ?_
  refine lv_iload_n hx hb dX4_append_3 rfl (lv_at hl 0 rfl) ?_
  refine lv_if_lt (tgt := 46) hx hb dX4_append_4 (by decide) (fun h => absurd h (by decide)) (fun _ => ?_)
  refine lv_aload_n hx hb dX4_append_7 rfl (lv_at hl 1 rfl) ?_
  refine va_get (D := D) (ci := 4) (v := .int 19) (C := RX4) (T := TX4) (N := 11) hx hb hts w_1 hown hK hP 0 rfl rfl 3 (by decide) w_2 (fun _ h9 => h9) rfl dX4_append_8 ?_
  refine lv_sipush (v := 300) hx hb dX4_append_11 (by decide) ?_
  refine lv_icmp_ge (tgt := 40) hx hb dX4_append_14 (by decide) (fun h => absurd h (by decide)) (fun _ => ?_)
  refine lv_aload_n hx hb dX4_append_17 rfl (lv_at hl 1 rfl) ?_
  refine va_get (D := D) (ci := 4) (v := .ref tp) (C := RX4) (T := TX4) (N := 11) hx hb hts w_1 hown hK hP 0 rfl rfl 4 (by decide) w_3 (fun _ h9 => h9) rfl dX4_append_18 ?_
  refine lv_aload_n hx hb dX4_append_21 rfl (lv_at hl 1 rfl) ?_
  refine va_get (D := D) (ci := 4) (v := .int 19) (C := RX4) (T := TX4) (N := 11) hx hb hts w_1 hown hK hP 0 rfl rfl 3 (by decide) w_2 (fun _ h9 => h9) rfl dX4_append_22 ?_
  refine lv_iload_n hx hb dX4_append_25 rfl (lv_at hl 2 rfl) ?_
  refine lv_iload_n hx hb dX4_append_26 rfl (lv_at hl 0 rfl) ?_
  refine lv_iushr (v := (v.toUInt32 >>> ((0 : Int32).toUInt32 &&& Int32.toUInt32 31)).toInt32) hx hb dX4_append_27 rfl ?_
  refine lv_i2b (v := ((v.toUInt32 >>> ((0 : Int32).toUInt32 &&& Int32.toUInt32 31)).toInt32).toInt8.toInt32) hx hb dX4_append_28 rfl ?_
  refine sv_bast hx hb hK hP hD hS 1 0 rfl rfl (vp_in_iff.mpr (by decide)) dX4_append_29 (fun g_4 H locs eg_4 hP hD hS => ?_)
  have hP : va_P D vwCl [(h0, .inr (4, [.ref dr, .int 0, .int (-1), .int 19, .ref tp, .int 0, .int 0, .int 0, .int 0, .int 0, .int 0])), (tp, .inl (cB, 300, .inl g_4))] H := hP
  have hD : va_D A [(h0, .inr (4, [.ref dr, .int 0, .int (-1), .int 19, .ref tp, .int 0, .int 0, .int 0, .int 0, .int 0, .int 0])), (tp, .inl (cB, 300, .inl g_4))] := hD
  refine lv_aload_n hx hb dX4_append_30 rfl (lv_at hl 1 rfl) ?_
  refine lv_dup hx hb dX4_append_31 rfl ?_
  refine va_get (D := D) (ci := 4) (v := .int 19) (C := RX4) (T := TX4) (N := 11) hx hb hts w_1 hown hK hP 0 rfl rfl 3 (by decide) w_2 (fun _ h9 => h9) rfl dX4_append_32 ?_
  refine lv_iconst (v := 1) hx hb dX4_append_35 (by decide) ?_
  refine sv_iadd (v := 20) hx hb dX4_append_36 (by decide) ?_
  refine va_put (D := D) (ci := 4) (v := .int 20) (ty := .int) (C := RX4) (T := TX4) (N := 11) hx hb hts w_1 tyX4 tyX4_ok nmX4 hown hK hP hD hS 0 rfl rfl 3 (by decide) w_2 (fun _ h9 => h9) rfl (by decide +kernel) rfl rfl (Nat.le_of_ble_eq_true rfl) dX4_append_37 (fun H locs hP hD hS => ?_)
  have hP : va_P D vwCl [(h0, .inr (4, [.ref dr, .int 0, .int (-1), .int 20, .ref tp, .int 0, .int 0, .int 0, .int 0, .int 0, .int 0])), (tp, .inl (cB, 300, .inl g_4))] H := hP
  have hD : va_D A [(h0, .inr (4, [.ref dr, .int 0, .int (-1), .int 20, .ref tp, .int 0, .int 0, .int 0, .int 0, .int 0, .int 0])), (tp, .inl (cB, 300, .inl g_4))] := hD
  refine lv_iinc (v := (-8)) (lv' := [(2, .int (-8)), (0, .ref h0), (1, .int v)]) hx hb dX4_append_40 hl (k := 0) rfl (by decide) (by decide) rfl (fun ls hl => ?_)
  refine lv_goto (tgt := 3) hx hb dX4_append_43 (by decide) ?_
  refine lv_iload_n hx hb dX4_append_3 rfl (lv_at hl 0 rfl) ?_
  refine lv_if_lt (tgt := 46) hx hb dX4_append_4 (by decide) (fun _ => ?_) (fun h => absurd (by decide) h)
  have hP9 := hP.sub (ws' := [(h0, .inr (4, [.ref dr, .int 0, .int (-1), .int 20, .ref tp, .int 0, .int 0, .int 0, .int 0, .int 0, .int 0])), (tp, .inl (cB, 300, .inl g_4))]) [0, 1] rfl
  have hD9 := hD.sub (ws' := [(h0, .inr (4, [.ref dr, .int 0, .int (-1), .int 20, .ref tp, .int 0, .int 0, .int 0, .int 0, .int 0, .int 0])), (tp, .inl (cB, 300, .inl g_4))]) [0, 1] (by decide) rfl
  exact W.vret hx hb hr (fun t ht hW => ⟨⟨g_4, rfl, trivial, by rw [ht]; exact hP9, va_K.moved hW.alike hK, hD9⟩, hS.F ht⟩) hS.2.2 dX4_append_46

