set_option maxHeartbeats 4000000 in
set_option maxRecDepth 100000 in
theorem g_X3_has (l : Launch) (D : va_G) (cB cI cJ cZ : ClassId) (h0 p0 p1 a : Nat) (b3 : Int32) (g : Int32) (ha9 : a < 2147483648) : Met l yX3_has wsX3_has ({ frames := 0, cells := 0, slots := 0, locals := 0 } : Room) (cRd D (aTy cB cI cJ cZ) [(h0, .inr (3, [.ref p0, .ref p1, .int (nI a), .int b3]))] [.ref h0, .int g]) (vp_Si (fun r : Int32 => (r = 1 ∧ vp_in g a) ∨ (r = 0 ∧ ¬ vp_in g a))) 0 0 (fun _ => False) := by
  refine Met.ofW (cc := cX3_has) (maxL := 2) (ret := (some .boolean)) (by decide) rfl ?_
  intro p e s m args below meth c s₁ B hml hv
  obtain ⟨rfl, hP, hK⟩ := hv
  have hx := B.exec
  have hb := B.bytes
  have hr := B.returns
  have hts := atoms_spec (ws := wsX3_has) B.pre
  have hown : s.vm.findClass RX3 = some m.cls := findClass_of_methodNamed B.named
  have hlocks := B.notSynchronized
  have hP : va_P D vwCl [(h0, .inr (3, [.ref p0, .ref p1, .int (nI a), .int b3]))] s.heap := hP
  have w_1 : ∀ w ∈ wsX30, w ∈ wsX3_has := by decide +kernel
  have w_2 := hts (Cond.fieldLink RX3 18 "BlueCoats$Givers" "number" "I") (by decide +kernel)
  have hl := lv_entry ([.ref h0, .int g]) (n := 2) (Nat.le_of_ble_eq_true rfl)
  rw [lg_entry_eq]
  generalize (lg_sl ([.ref h0, .int g]) ++ List.replicate (2 - (lg_sl ([.ref h0, .int g])).length) Slot.unset).toArray = ls at hl ⊢
  have hl : lv_has ls 2 [(0, .ref h0), (1, .int g)] := hl
  refine lv_iload_n hx hb dX3_has_0 rfl (lv_at hl 1 rfl) ?_
  refine lv_if_lt (tgt := 16) hx hb dX3_has_1 (by decide) (fun c_1 => ?_) (fun c_1 => ?_)
  ·
    refine lv_iconst (v := 0) hx hb dX3_has_16 (by decide) ?_
    exact W.zret (v := 0) hx hb hr rfl (fun t ht hW => ⟨_, rfl, Or.inr ⟨rfl, in_no1 c_1⟩, ht⟩) (fun q h => nomatch h) dX3_has_17
  ·
    refine lv_iload_n hx hb dX3_has_4 rfl (lv_at hl 1 rfl) ?_
    refine lv_aload_n hx hb dX3_has_5 rfl (lv_at hl 0 rfl) ?_
    refine va_get (D := D) (ci := 3) (v := .int (nI a)) (C := RX3) (T := TX3) (N := 4) hx hb hts w_1 hown hK hP 0 rfl rfl 2 (by decide) w_2 (fun _ h9 => h9) rfl dX3_has_6 ?_
    refine lv_icmp_ge (tgt := 16) hx hb dX3_has_9 (by decide) (fun c_9 => ?_) (fun c_9 => ?_)
    ·
      refine lv_iconst (v := 0) hx hb dX3_has_16 (by decide) ?_
      exact W.zret (v := 0) hx hb hr rfl (fun t ht hW => ⟨_, rfl, Or.inr ⟨rfl, in_no2 ha9 c_9⟩, ht⟩) (fun q h => nomatch h) dX3_has_17
    ·
      refine lv_iconst (v := 1) hx hb dX3_has_12 (by decide) ?_
      refine lv_goto (tgt := 17) hx hb dX3_has_13 (by decide) ?_
      exact W.zret (v := 1) hx hb hr rfl (fun t ht hW => ⟨_, rfl, Or.inl ⟨rfl, in_yes ha9 c_1 c_9⟩, ht⟩) (fun q h => nomatch h) dX3_has_17

set_option maxHeartbeats 4000000 in
set_option maxRecDepth 100000 in
theorem g_X1_has (l : Launch) (D : va_G) (cB cI cJ cZ : ClassId) (h0 p0 p1 p2 p3 p4 p5 a : Nat) (g : Int32) (ha9 : a < 2147483648) : Met l yX1_has wsX1_has ({ frames := 0, cells := 0, slots := 0, locals := 0 } : Room) (cRd D (aTy cB cI cJ cZ) [(h0, .inr (1, [.ref p0, .ref p1, .ref p2, .ref p3, .ref p4, .ref p5, .int (nI a)]))] [.ref h0, .int g]) (vp_Si (fun r : Int32 => (r = 1 ∧ vp_in g a) ∨ (r = 0 ∧ ¬ vp_in g a))) 0 0 (fun _ => False) := by
  refine Met.ofW (cc := cX1_has) (maxL := 2) (ret := (some .boolean)) (by decide) rfl ?_
  intro p e s m args below meth c s₁ B hml hv
  obtain ⟨rfl, hP, hK⟩ := hv
  have hx := B.exec
  have hb := B.bytes
  have hr := B.returns
  have hts := atoms_spec (ws := wsX1_has) B.pre
  have hown : s.vm.findClass RX1 = some m.cls := findClass_of_methodNamed B.named
  have hlocks := B.notSynchronized
  have hP : va_P D vwCl [(h0, .inr (1, [.ref p0, .ref p1, .ref p2, .ref p3, .ref p4, .ref p5, .int (nI a)]))] s.heap := hP
  have w_1 : ∀ w ∈ wsX10, w ∈ wsX1_has := by decide +kernel
  have w_2 := hts (Cond.fieldLink RX1 30 "BlueCoats$Children" "number" "I") (by decide +kernel)
  have hl := lv_entry ([.ref h0, .int g]) (n := 2) (Nat.le_of_ble_eq_true rfl)
  rw [lg_entry_eq]
  generalize (lg_sl ([.ref h0, .int g]) ++ List.replicate (2 - (lg_sl ([.ref h0, .int g])).length) Slot.unset).toArray = ls at hl ⊢
  have hl : lv_has ls 2 [(0, .ref h0), (1, .int g)] := hl
  refine lv_iload_n hx hb dX1_has_0 rfl (lv_at hl 1 rfl) ?_
  refine lv_if_lt (tgt := 16) hx hb dX1_has_1 (by decide) (fun c_1 => ?_) (fun c_1 => ?_)
  ·
    refine lv_iconst (v := 0) hx hb dX1_has_16 (by decide) ?_
    exact W.zret (v := 0) hx hb hr rfl (fun t ht hW => ⟨_, rfl, Or.inr ⟨rfl, in_no1 c_1⟩, ht⟩) (fun q h => nomatch h) dX1_has_17
  ·
    refine lv_iload_n hx hb dX1_has_4 rfl (lv_at hl 1 rfl) ?_
    refine lv_aload_n hx hb dX1_has_5 rfl (lv_at hl 0 rfl) ?_
    refine va_get (D := D) (ci := 1) (v := .int (nI a)) (C := RX1) (T := TX1) (N := 7) hx hb hts w_1 hown hK hP 0 rfl rfl 6 (by decide) w_2 (fun _ h9 => h9) rfl dX1_has_6 ?_
    refine lv_icmp_ge (tgt := 16) hx hb dX1_has_9 (by decide) (fun c_9 => ?_) (fun c_9 => ?_)
    ·
      refine lv_iconst (v := 0) hx hb dX1_has_16 (by decide) ?_
      exact W.zret (v := 0) hx hb hr rfl (fun t ht hW => ⟨_, rfl, Or.inr ⟨rfl, in_no2 ha9 c_9⟩, ht⟩) (fun q h => nomatch h) dX1_has_17
    ·
      refine lv_iconst (v := 1) hx hb dX1_has_12 (by decide) ?_
      refine lv_goto (tgt := 17) hx hb dX1_has_13 (by decide) ?_
      exact W.zret (v := 1) hx hb hr rfl (fun t ht hW => ⟨_, rfl, Or.inl ⟨rfl, in_yes ha9 c_1 c_9⟩, ht⟩) (fun q h => nomatch h) dX1_has_17

set_option maxHeartbeats 4000000 in
set_option maxRecDepth 100000 in
theorem g_X6_has (l : Launch) (D : va_G) (cB cI cJ cZ : ClassId) (h0 p0 p1 p2 p3 a : Nat) (g : Int32) (ha9 : a < 2147483648) : Met l yX6_has wsX6_has ({ frames := 0, cells := 0, slots := 0, locals := 0 } : Room) (cRd D (aTy cB cI cJ cZ) [(h0, .inr (6, [.ref p0, .ref p1, .ref p2, .ref p3, .int (nI a)]))] [.ref h0, .int g]) (vp_Si (fun r : Int32 => (r = 1 ∧ vp_in g a) ∨ (r = 0 ∧ ¬ vp_in g a))) 0 0 (fun _ => False) := by
  refine Met.ofW (cc := cX6_has) (maxL := 2) (ret := (some .boolean)) (by decide) rfl ?_
  intro p e s m args below meth c s₁ B hml hv
  obtain ⟨rfl, hP, hK⟩ := hv
  have hx := B.exec
  have hb := B.bytes
  have hr := B.returns
  have hts := atoms_spec (ws := wsX6_has) B.pre
  have hown : s.vm.findClass RX6 = some m.cls := findClass_of_methodNamed B.named
  have hlocks := B.notSynchronized
  have hP : va_P D vwCl [(h0, .inr (6, [.ref p0, .ref p1, .ref p2, .ref p3, .int (nI a)]))] s.heap := hP
  have w_1 : ∀ w ∈ wsX60, w ∈ wsX6_has := by decide +kernel
  have w_2 := hts (Cond.fieldLink RX6 25 "BlueCoats$Wardrobe" "number" "I") (by decide +kernel)
  have hl := lv_entry ([.ref h0, .int g]) (n := 2) (Nat.le_of_ble_eq_true rfl)
  rw [lg_entry_eq]
  generalize (lg_sl ([.ref h0, .int g]) ++ List.replicate (2 - (lg_sl ([.ref h0, .int g])).length) Slot.unset).toArray = ls at hl ⊢
  have hl : lv_has ls 2 [(0, .ref h0), (1, .int g)] := hl
  refine lv_iload_n hx hb dX6_has_0 rfl (lv_at hl 1 rfl) ?_
  refine lv_if_lt (tgt := 16) hx hb dX6_has_1 (by decide) (fun c_1 => ?_) (fun c_1 => ?_)
  ·
    refine lv_iconst (v := 0) hx hb dX6_has_16 (by decide) ?_
    exact W.zret (v := 0) hx hb hr rfl (fun t ht hW => ⟨_, rfl, Or.inr ⟨rfl, in_no1 c_1⟩, ht⟩) (fun q h => nomatch h) dX6_has_17
  ·
    refine lv_iload_n hx hb dX6_has_4 rfl (lv_at hl 1 rfl) ?_
    refine lv_aload_n hx hb dX6_has_5 rfl (lv_at hl 0 rfl) ?_
    refine va_get (D := D) (ci := 6) (v := .int (nI a)) (C := RX6) (T := TX6) (N := 5) hx hb hts w_1 hown hK hP 0 rfl rfl 4 (by decide) w_2 (fun _ h9 => h9) rfl dX6_has_6 ?_
    refine lv_icmp_ge (tgt := 16) hx hb dX6_has_9 (by decide) (fun c_9 => ?_) (fun c_9 => ?_)
    ·
      refine lv_iconst (v := 0) hx hb dX6_has_16 (by decide) ?_
      exact W.zret (v := 0) hx hb hr rfl (fun t ht hW => ⟨_, rfl, Or.inr ⟨rfl, in_no2 ha9 c_9⟩, ht⟩) (fun q h => nomatch h) dX6_has_17
    ·
      refine lv_iconst (v := 1) hx hb dX6_has_12 (by decide) ?_
      refine lv_goto (tgt := 17) hx hb dX6_has_13 (by decide) ?_
      exact W.zret (v := 1) hx hb hr rfl (fun t ht hW => ⟨_, rfl, Or.inl ⟨rfl, in_yes ha9 c_1 c_9⟩, ht⟩) (fun q h => nomatch h) dX6_has_17

