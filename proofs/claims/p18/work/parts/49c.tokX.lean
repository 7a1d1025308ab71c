/-! The class' reader: tokens. -/

set_option maxHeartbeats 4000000 in
set_option maxRecDepth 100000 in
theorem f_X4_isBlank (l : Launch) (D : va_G) (cB cI cJ cZ : ClassId) (q : Int32) : Met l yX4_isBlank wsX4_isBlank ({ frames := 0, cells := 0, slots := 0, locals := 0 } : Room) (cRd D (aTy cB cI cJ cZ) [] [.int q]) (vp_Si (fun r : Int32 => isB r (q = 10 ∨ q = 32))) 0 0 (fun _ => False) := by
  refine Met.ofW (cc := cX4_isBlank) (maxL := 1) (ret := (some .boolean)) (by decide) rfl ?_
  intro p e s m args below meth c s₁ B hml hv
  obtain ⟨rfl, hP, hK⟩ := hv
  have hx := B.exec
  have hb := B.bytes
  have hr := B.returns
  have hts := atoms_spec (ws := wsX4_isBlank) B.pre
  have hown : s.vm.findClass RX4 = some m.cls := findClass_of_methodNamed B.named
  have hlocks := B.notSynchronized
  have hP : va_P D vwCl [] s.heap := hP
  have hl := lv_entry ([.int q]) (n := 1) (Nat.le_of_ble_eq_true rfl)
  rw [lg_entry_eq]
  generalize (lg_sl ([.int q]) ++ List.replicate (1 - (lg_sl ([.int q])).length) Slot.unset).toArray = ls at hl ⊢
  have hl : lv_has ls 1 [(0, .int q)] := hl
  refine lv_iload_n hx hb dX4_isBlank_0 rfl (lv_at hl 0 rfl) ?_
  refine lv_bipush (v := 10) hx hb dX4_isBlank_1 (by decide) ?_
  refine lv_icmp_eq (tgt := 12) hx hb dX4_isBlank_3 (by decide) (fun c_3 => ?_) (fun c_3 => ?_)
  ·
    refine lv_iconst (v := 1) hx hb dX4_isBlank_12 (by decide) ?_
    refine lv_goto (tgt := 17) hx hb dX4_isBlank_13 (by decide) ?_
    exact W.zret (v := 1) hx hb hr rfl (fun t ht hW => ⟨_, rfl, Or.inl ⟨rfl, Or.inl c_3⟩, ht⟩) (fun q h => nomatch h) dX4_isBlank_17
  ·
    refine lv_iload_n hx hb dX4_isBlank_6 rfl (lv_at hl 0 rfl) ?_
    refine lv_bipush (v := 32) hx hb dX4_isBlank_7 (by decide) ?_
    refine lv_icmp_ne (tgt := 16) hx hb dX4_isBlank_9 (by decide) (fun c_9 => ?_) (fun c_9 => ?_)
    ·
      refine lv_iconst (v := 0) hx hb dX4_isBlank_16 (by decide) ?_
      exact W.zret (v := 0) hx hb hr rfl (fun t ht hW => ⟨_, rfl, Or.inr ⟨rfl, fun h => h.elim c_3 c_9⟩, ht⟩) (fun q h => nomatch h) dX4_isBlank_17
    ·
      refine lv_iconst (v := 1) hx hb dX4_isBlank_12 (by decide) ?_
      refine lv_goto (tgt := 17) hx hb dX4_isBlank_13 (by decide) ?_
      exact W.zret (v := 1) hx hb hr rfl (fun t ht hW => ⟨_, rfl, Or.inl ⟨rfl, Or.inr c_9⟩, ht⟩) (fun q h => nomatch h) dX4_isBlank_17

set_option maxHeartbeats 4000000 in
set_option maxRecDepth 100000 in
theorem f_X4_isLetter (l : Launch) (D : va_G) (cB cI cJ cZ : ClassId) (q : Int32) : Met l yX4_isLetter wsX4_isLetter ({ frames := 0, cells := 0, slots := 0, locals := 0 } : Room) (cRd D (aTy cB cI cJ cZ) [] [.int q]) (vp_Si (fun r : Int32 => isB r (97 ≤ q ∧ q ≤ 122))) 0 0 (fun _ => False) := by
  refine Met.ofW (cc := cX4_isLetter) (maxL := 1) (ret := (some .boolean)) (by decide) rfl ?_
  intro p e s m args below meth c s₁ B hml hv
  obtain ⟨rfl, hP, hK⟩ := hv
  have hx := B.exec
  have hb := B.bytes
  have hr := B.returns
  have hts := atoms_spec (ws := wsX4_isLetter) B.pre
  have hown : s.vm.findClass RX4 = some m.cls := findClass_of_methodNamed B.named
  have hlocks := B.notSynchronized
  have hP : va_P D vwCl [] s.heap := hP
  have hl := lv_entry ([.int q]) (n := 1) (Nat.le_of_ble_eq_true rfl)
  rw [lg_entry_eq]
  generalize (lg_sl ([.int q]) ++ List.replicate (1 - (lg_sl ([.int q])).length) Slot.unset).toArray = ls at hl ⊢
  have hl : lv_has ls 1 [(0, .int q)] := hl
  refine lv_iload_n hx hb dX4_isLetter_0 rfl (lv_at hl 0 rfl) ?_
  refine lv_bipush (v := 97) hx hb dX4_isLetter_1 (by decide) ?_
  refine lv_icmp_lt (tgt := 16) hx hb dX4_isLetter_3 (by decide) (fun c_3 => ?_) (fun c_3 => ?_)
  ·
    refine lv_iconst (v := 0) hx hb dX4_isLetter_16 (by decide) ?_
    exact W.zret (v := 0) hx hb hr rfl (fun t ht hW => ⟨_, rfl, Or.inr ⟨rfl, fun h => absurd c_3 (Int32.not_lt.mpr h.1)⟩, ht⟩) (fun q h => nomatch h) dX4_isLetter_17
  ·
    refine lv_iload_n hx hb dX4_isLetter_6 rfl (lv_at hl 0 rfl) ?_
    refine lv_bipush (v := 122) hx hb dX4_isLetter_7 (by decide) ?_
    refine lv_icmp_gt (tgt := 16) hx hb dX4_isLetter_9 (by decide) (fun c_9 => ?_) (fun c_9 => ?_)
    ·
      refine lv_iconst (v := 0) hx hb dX4_isLetter_16 (by decide) ?_
      exact W.zret (v := 0) hx hb hr rfl (fun t ht hW => ⟨_, rfl, Or.inr ⟨rfl, fun h => absurd c_9 (Int32.not_lt.mpr h.2)⟩, ht⟩) (fun q h => nomatch h) dX4_isLetter_17
    ·
      refine lv_iconst (v := 1) hx hb dX4_isLetter_12 (by decide) ?_
      refine lv_goto (tgt := 17) hx hb dX4_isLetter_13 (by decide) ?_
      exact W.zret (v := 1) hx hb hr rfl (fun t ht hW => ⟨_, rfl, Or.inl ⟨rfl, Int32.not_lt.mp c_3, Int32.not_lt.mp c_9⟩, ht⟩) (fun q h => nomatch h) dX4_isLetter_17

set_option maxHeartbeats 4000000 in
set_option maxRecDepth 100000 in
theorem f_X4_isDigit (l : Launch) (D : va_G) (cB cI cJ cZ : ClassId) (q : Int32) : Met l yX4_isDigit wsX4_isDigit ({ frames := 0, cells := 0, slots := 0, locals := 0 } : Room) (cRd D (aTy cB cI cJ cZ) [] [.int q]) (vp_Si (fun r : Int32 => isB r (48 ≤ q ∧ q ≤ 57))) 0 0 (fun _ => False) := by
  refine Met.ofW (cc := cX4_isDigit) (maxL := 1) (ret := (some .boolean)) (by decide) rfl ?_
  intro p e s m args below meth c s₁ B hml hv
  obtain ⟨rfl, hP, hK⟩ := hv
  have hx := B.exec
  have hb := B.bytes
  have hr := B.returns
  have hts := atoms_spec (ws := wsX4_isDigit) B.pre
  have hown : s.vm.findClass RX4 = some m.cls := findClass_of_methodNamed B.named
  have hlocks := B.notSynchronized
  have hP : va_P D vwCl [] s.heap := hP
  have hl := lv_entry ([.int q]) (n := 1) (Nat.le_of_ble_eq_true rfl)
  rw [lg_entry_eq]
  generalize (lg_sl ([.int q]) ++ List.replicate (1 - (lg_sl ([.int q])).length) Slot.unset).toArray = ls at hl ⊢
  have hl : lv_has ls 1 [(0, .int q)] := hl
  refine lv_iload_n hx hb dX4_isDigit_0 rfl (lv_at hl 0 rfl) ?_
  refine lv_bipush (v := 48) hx hb dX4_isDigit_1 (by decide) ?_
  refine lv_icmp_lt (tgt := 16) hx hb dX4_isDigit_3 (by decide) (fun c_3 => ?_) (fun c_3 => ?_)
  ·
    refine lv_iconst (v := 0) hx hb dX4_isDigit_16 (by decide) ?_
    exact W.zret (v := 0) hx hb hr rfl (fun t ht hW => ⟨_, rfl, Or.inr ⟨rfl, fun h => absurd c_3 (Int32.not_lt.mpr h.1)⟩, ht⟩) (fun q h => nomatch h) dX4_isDigit_17
  ·
    refine lv_iload_n hx hb dX4_isDigit_6 rfl (lv_at hl 0 rfl) ?_
    refine lv_bipush (v := 57) hx hb dX4_isDigit_7 (by decide) ?_
    refine lv_icmp_gt (tgt := 16) hx hb dX4_isDigit_9 (by decide) (fun c_9 => ?_) (fun c_9 => ?_)
    ·
      refine lv_iconst (v := 0) hx hb dX4_isDigit_16 (by decide) ?_
      exact W.zret (v := 0) hx hb hr rfl (fun t ht hW => ⟨_, rfl, Or.inr ⟨rfl, fun h => absurd c_9 (Int32.not_lt.mpr h.2)⟩, ht⟩) (fun q h => nomatch h) dX4_isDigit_17
    ·
      refine lv_iconst (v := 1) hx hb dX4_isDigit_12 (by decide) ?_
      refine lv_goto (tgt := 17) hx hb dX4_isDigit_13 (by decide) ?_
      exact W.zret (v := 1) hx hb hr rfl (fun t ht hW => ⟨_, rfl, Or.inl ⟨rfl, Int32.not_lt.mp c_3, Int32.not_lt.mp c_9⟩, ht⟩) (fun q h => nomatch h) dX4_isDigit_17

set_option maxHeartbeats 4000000 in
set_option maxRecDepth 100000 in
theorem f_X4_signAt (l : Launch) (D : va_G) (cB cI cJ cZ : ClassId) (h0 dr tp tt ln : Nat) (t1 t2 t6 t7 t8 t9 t10 : Int32) (rt : Nat → Int32) (j : Nat) (b_ln : ln ≤ 300) (hj : j < 2147483648) : Met l yX4_signAt wsX4_signAt ({ frames := 0, cells := 0, slots := 0, locals := 0 } : Room) (cRd D (aTy cB cI cJ cZ) [(h0, .inr (4, [.ref dr, .int t1, .int t2, .int (nI tt), .ref tp, .int (nI ln), .int t6, .int t7, .int t8, .int t9, .int t10])), (tp, .inl (cB, 300, .inl rt))] [.ref h0, .int (nI j)]) (vp_Si (fun r : Int32 => (j < ln ∧ r = sg rt j) ∨ (ln ≤ j ∧ r = 0))) 0 0 (fun _ => False) := by
  refine Met.ofW (cc := cX4_signAt) (maxL := 2) (ret := (some .int)) (by decide) rfl ?_
  intro p e s m args below meth c s₁ B hml hv
  obtain ⟨rfl, hP, hK⟩ := hv
  have hx := B.exec
  have hb := B.bytes
  have hr := B.returns
  have hts := atoms_spec (ws := wsX4_signAt) B.pre
  have hown : s.vm.findClass RX4 = some m.cls := findClass_of_methodNamed B.named
  have hlocks := B.notSynchronized
  have hP : va_P D vwCl [(h0, .inr (4, [.ref dr, .int t1, .int t2, .int (nI tt), .ref tp, .int (nI ln), .int t6, .int t7, .int t8, .int t9, .int t10])), (tp, .inl (cB, 300, .inl rt))] s.heap := hP
  have w_1 : ∀ w ∈ wsX40, w ∈ wsX4_signAt := by decide +kernel
  have w_2 := hts (Cond.fieldLink RX4 38 "BlueCoats$Reader" "length" "I") (by decide +kernel)
  have w_3 := hts (Cond.fieldLink RX4 25 "BlueCoats$Reader" "tape" "[B") (by decide +kernel)
  have hl := lv_entry ([.ref h0, .int (nI j)]) (n := 2) (Nat.le_of_ble_eq_true rfl)
  rw [lg_entry_eq]
  generalize (lg_sl ([.ref h0, .int (nI j)]) ++ List.replicate (2 - (lg_sl ([.ref h0, .int (nI j)])).length) Slot.unset).toArray = ls at hl ⊢
  have hl : lv_has ls 2 [(0, .ref h0), (1, .int (nI j))] := hl
  refine lv_iload_n hx hb dX4_signAt_0 rfl (lv_at hl 1 rfl) ?_
  refine lv_if_lt (tgt := 25) hx hb dX4_signAt_1 (by decide) (fun h => absurd h (nlt0 hj)) (fun _ => ?_)
  refine lv_iload_n hx hb dX4_signAt_4 rfl (lv_at hl 1 rfl) ?_
  refine lv_aload_n hx hb dX4_signAt_5 rfl (lv_at hl 0 rfl) ?_
  refine va_get (D := D) (ci := 4) (v := .int (nI ln)) (C := RX4) (T := TX4) (N := 11) hx hb hts w_1 hown hK hP 0 rfl rfl 5 (by decide) w_2 (fun _ h9 => h9) rfl dX4_signAt_6 ?_
  refine lv_icmp_ge (tgt := 25) hx hb dX4_signAt_9 (by decide) (fun c_9 => ?_) (fun c_9 => ?_)
  ·
    refine lv_iconst (v := 0) hx hb dX4_signAt_25 (by decide) ?_
    exact W.iret (v := 0) hx hb hr (fun t ht hW => ⟨_, rfl, Or.inr ⟨ge_c (by omega) hj c_9, rfl⟩, ht⟩) (fun q h => nomatch h) dX4_signAt_26
  ·
    have hlt : j < ln := lt_c (by omega) hj c_9
    refine lv_aload_n hx hb dX4_signAt_12 rfl (lv_at hl 0 rfl) ?_
    refine va_get (D := D) (ci := 4) (v := .ref tp) (C := RX4) (T := TX4) (N := 11) hx hb hts w_1 hown hK hP 0 rfl rfl 4 (by decide) w_3 (fun _ h9 => h9) rfl dX4_signAt_13 ?_
    refine lv_iload_n hx hb dX4_signAt_16 rfl (lv_at hl 1 rfl) ?_
    refine sv_bald (v := rt j) hx hb hK hP 1 0 rfl rfl (vp_in_nI (by omega) (by decide)) (congrArg _ (nI_clamp (by omega))) dX4_signAt_17 ?_
    refine lv_sipush (v := 255) hx hb dX4_signAt_18 (by decide) ?_
    refine sv_iand (v := (rt j) &&& 255) hx hb dX4_signAt_21 rfl ?_
    refine lv_goto (tgt := 26) hx hb dX4_signAt_22 (by decide) ?_
    exact W.iret (v := (rt j) &&& 255) hx hb hr (fun t ht hW => ⟨_, rfl, Or.inl ⟨hlt, rfl⟩, ht⟩) (fun q h => nomatch h) dX4_signAt_26

set_option maxHeartbeats 4000000 in
set_option maxRecDepth 100000 in
theorem f_X4_scan (l : Launch) (D : va_G) (cB cI cJ cZ : ClassId) (sz : Nat) (h0 dr tp tt ln pe : Nat) (t1 t2 t6 t7 t9 t10 : Int32) (rt : Nat → Int32) (b_ln : ln ≤ 300) (hpe : pe ≤ ln) : Met l yX4_scanDigits wsX4_scanDigits ({ frames := 1, cells := 0, slots := 0, locals := 21 } : Room) (cPre D (aTy cB cI cJ cZ) [(h0, .inr (4, [.ref dr, .int t1, .int t2, .int (nI tt), .ref tp, .int (nI ln), .int t6, .int t7, .int (nI pe), .int t9, .int t10])), (tp, .inl (cB, 300, .inl rt))] sz [.ref h0]) (va_Qv (fun (u : Nat × Int32) => u.1 = rn (dgB (sg rt) ln) ln pe ∧ u.2 = nI (cut5 (dv (sg rt) pe (u.1 - pe)))) (cB_ D (aTy cB cI cJ cZ) (va_A [(h0, .inr (4, [.ref dr, .int t1, .int t2, .int (nI tt), .ref tp, .int (nI ln), .int t6, .int t7, .int (nI pe), .int t9, .int t10])), (tp, .inl (cB, 300, .inl rt))] sz) (fun u => [(h0, .inr (4, [.ref dr, .int t1, .int t2, .int (nI tt), .ref tp, .int (nI ln), .int t6, .int t7, .int (nI (u.1)), .int (u.2), .int t10])), (tp, .inl (cB, 300, .inl rt))])) (va_A [(h0, .inr (4, [.ref dr, .int t1, .int t2, .int (nI tt), .ref tp, .int (nI ln), .int t6, .int t7, .int (nI pe), .int t9, .int t10])), (tp, .inl (cB, 300, .inl rt))] sz)) 0 0 (va_A [(h0, .inr (4, [.ref dr, .int t1, .int t2, .int (nI tt), .ref tp, .int (nI ln), .int t6, .int t7, .int (nI pe), .int t9, .int t10])), (tp, .inl (cB, 300, .inl rt))] sz) := by
  refine Met.ofW (cc := cX4_scanDigits) (maxL := 1) (ret := none) (by decide) rfl ?_
  intro p e s m args below meth c s₁ B hml hv
  obtain ⟨rfl, hsz, hP, hK, hD0⟩ := hv
  have hx := B.exec
  have hb := B.bytes
  have hr := B.returns
  have hts := atoms_spec (ws := wsX4_scanDigits) B.pre
  have hown : s.vm.findClass RX4 = some m.cls := findClass_of_methodNamed B.named
  have hlocks := B.notSynchronized
  subst hsz
  have hD := hD0.self (sz := s.heap.size)
  generalize hAe : va_A [(h0, .inr (4, [.ref dr, .int t1, .int t2, .int (nI tt), .ref tp, .int (nI ln), .int t6, .int t7, .int (nI pe), .int t9, .int t10])), (tp, .inl (cB, 300, .inl rt))] s.heap.size = A at hD ⊢
  have hA : ∀ q : Nat, s.heap.size ≤ q → A q := fun q h => by rw [← hAe]; exact Or.inr h
  have hS : va_S A s.heap s.heap [] := va_S.rf
  have hP : va_P D vwCl [(h0, .inr (4, [.ref dr, .int t1, .int t2, .int (nI tt), .ref tp, .int (nI ln), .int t6, .int t7, .int (nI pe), .int t9, .int t10])), (tp, .inl (cB, 300, .inl rt))] s.heap := hP
  have w_1 : ∀ w ∈ wsX40, w ∈ wsX4_scanDigits := by decide +kernel
  have w_2 := hts (Cond.fieldLink RX4 113 "BlueCoats$Reader" "value" "I") (by decide +kernel)
  have w_3 := hts (Cond.fieldLink RX4 41 "BlueCoats$Reader" "end" "I") (by decide +kernel)
  have w_4 := hts (Cond.fieldLink RX4 38 "BlueCoats$Reader" "length" "I") (by decide +kernel)
  have w_5 := hts (Cond.constant RX4 156 (100000)) (by decide +kernel)
  have w_6 := hts (Cond.methodLink RX4 32 Lib.Math.min.name) (by decide +kernel)
  have w_7 := hts (Cond.static Lib.Math.min.name) (by decide +kernel)
  have w_8 := hts (Cond.initialized "java/lang/Math") (by decide +kernel)
  have w_9 := hts (Cond.code Lib.Math.min.name Lib.Math.min.code 2 (some .int)) (by decide +kernel)
  have hl := lv_entry ([.ref h0]) (n := 1) (Nat.le_of_ble_eq_true rfl)
  rw [lg_entry_eq]
  generalize (lg_sl ([.ref h0]) ++ List.replicate (1 - (lg_sl ([.ref h0])).length) Slot.unset).toArray = ls at hl ⊢
  have hl : lv_has ls 1 [(0, .ref h0)] := hl
  generalize hQ : MQ below _ _ s _ _ _ = Q0
  refine lv_aload_n hx hb dX4_scanDigits_0 rfl (lv_at hl 0 rfl) ?_
  refine lv_iconst (v := 0) hx hb dX4_scanDigits_1 (by decide) ?_
  refine va_put (D := D) (ci := 4) (v := .int 0) (ty := .int) (C := RX4) (T := TX4) (N := 11) hx hb hts w_1 tyX4 tyX4_ok nmX4 hown hK hP hD hS 0 rfl rfl 9 (by decide) w_2 (fun _ h9 => h9) rfl (by decide +kernel) rfl rfl (Nat.le_of_ble_eq_true rfl) dX4_scanDigits_2 (fun H locs hP hD hS => ?_)
  have hP : va_P D vwCl [(h0, .inr (4, [.ref dr, .int t1, .int t2, .int (nI tt), .ref tp, .int (nI ln), .int t6, .int t7, .int (nI pe), .int 0, .int t10])), (tp, .inl (cB, 300, .inl rt))] H := hP
  have hD : va_D A [(h0, .inr (4, [.ref dr, .int t1, .int t2, .int (nI tt), .ref tp, .int (nI ln), .int t6, .int t7, .int (nI pe), .int 0, .int t10])), (tp, .inl (cB, 300, .inl rt))] := hD
  have L_1 : ∀ (n : Nat) (i_5 : Nat) (t_h0_9_5 : Int32) (H : Heap) (locs : List Loc) (ls : Array Slot), ln - i_5 < n → (i_5 ≤ ln) → (dsQ (sg rt) ln pe i_5) → (t_h0_9_5 = nI (cut5 (dv (sg rt) pe (i_5 - pe)))) → va_P D vwCl [(h0, .inr (4, [.ref dr, .int t1, .int t2, .int (nI tt), .ref tp, .int (nI ln), .int t6, .int t7, .int (nI i_5), .int t_h0_9_5, .int t10])), (tp, .inl (cB, 300, .inl rt))] H → va_D A [(h0, .inr (4, [.ref dr, .int t1, .int t2, .int (nI tt), .ref tp, .int (nI ln), .int t6, .int t7, .int (nI i_5), .int t_h0_9_5, .int t10])), (tp, .inl (cB, 300, .inl rt))] → va_S A s.heap H locs → lv_has ls 1 [(0, .ref h0)] → W p l e (headSpec wsX4_scanDigits ({ frames := 1, cells := 0, slots := 0, locals := 21 } : Room)).room s m ([.ref h0] : List Value).toArray below meth c H locs 0 0 Q0 (F0 m 5 ls []) := by
    intro n
    induction n with
    | zero => intro i_5 t_h0_9_5 H locs ls hn_5 hle_5 hD_5 hV_5 hP hD hS hl; exact absurd hn_5 (Nat.not_lt_zero _)
    | succ n ih_L_1 =>
      intro i_5 t_h0_9_5 H locs ls hn_5 hle_5 hD_5 hV_5 hP hD hS hl
      refine lv_aload_n hx hb dX4_scanDigits_5 rfl (lv_at hl 0 rfl) ?_
      refine va_get (D := D) (ci := 4) (v := .int (nI i_5)) (C := RX4) (T := TX4) (N := 11) hx hb hts w_1 hown hK hP 0 rfl rfl 8 (by decide) w_3 (fun _ h9 => h9) rfl dX4_scanDigits_6 ?_
      refine lv_aload_n hx hb dX4_scanDigits_9 rfl (lv_at hl 0 rfl) ?_
      refine va_get (D := D) (ci := 4) (v := .int (nI ln)) (C := RX4) (T := TX4) (N := 11) hx hb hts w_1 hown hK hP 0 rfl rfl 5 (by decide) w_4 (fun _ h9 => h9) rfl dX4_scanDigits_10 ?_
      refine lv_icmp_ge (tgt := 71) hx hb dX4_scanDigits_13 (by decide) (fun c_13 => ?_) (fun c_13 => ?_)
      ·
        rw [← hQ]
        have hP9 := hP.sub (ws' := [(h0, .inr (4, [.ref dr, .int t1, .int t2, .int (nI tt), .ref tp, .int (nI ln), .int t6, .int t7, .int (nI i_5), .int t_h0_9_5, .int t10])), (tp, .inl (cB, 300, .inl rt))]) [0, 1] rfl
        have hD9 := hD.sub (ws' := [(h0, .inr (4, [.ref dr, .int t1, .int t2, .int (nI tt), .ref tp, .int (nI ln), .int t6, .int t7, .int (nI i_5), .int t_h0_9_5, .int t10])), (tp, .inl (cB, 300, .inl rt))]) [0, 1] (by decide) rfl
        exact W.vret hx hb hr (fun t ht hW => ⟨⟨(i_5, (t_h0_9_5 : Int32)), rfl, ⟨(ds_e hD_5 (fun h => absurd h.1 (Nat.not_lt.mpr (ge3 (by omega) hle_5 c_13)))).symm, hV_5⟩, by rw [ht]; exact hP9, va_K.moved hW.alike hK, hD9⟩, hS.F ht⟩) hS.2.2 dX4_scanDigits_71
      ·
        have hb_5 : i_5 < ln := lt3 (by omega) hle_5 c_13
        refine lv_aload_n hx hb dX4_scanDigits_16 rfl (lv_at hl 0 rfl) ?_
        refine lv_aload_n hx hb dX4_scanDigits_17 rfl (lv_at hl 0 rfl) ?_
        refine va_get (D := D) (ci := 4) (v := .int (nI i_5)) (C := RX4) (T := TX4) (N := 11) hx hb hts w_1 hown hK hP 0 rfl rfl 8 (by decide) w_3 (fun _ h9 => h9) rfl dX4_scanDigits_18 ?_
        refine vp_callSi (va_Run.run (va_runV (As := [.int (nI i_5)]) (rest := []) ⟨hx, hb, hml, hown, hts⟩ (f_X4_signAt l D cB cI cJ cZ h0 dr tp tt ln t1 t2 t6 t7 (nI i_5) t_h0_9_5 t10 rt i_5 b_ln (by omega)) (cwV 1 hts gX4_scanDigits_X4_signAt rfl rfl rfl (by decide +kernel) ⟨Nat.le_of_ble_eq_true rfl, Nat.le_of_ble_eq_true rfl⟩) (pre_VR (hP.sub (ws' := [(h0, .inr (4, [.ref dr, .int t1, .int t2, .int (nI tt), .ref tp, .int (nI ln), .int t6, .int t7, .int (nI i_5), .int t_h0_9_5, .int t10])), (tp, .inl (cB, 300, .inl rt))]) [0, 1] rfl) hK 0 rfl rfl rfl) rfl rfl hl.1 rfl (lv_room (Nat.le_of_ble_eq_true rfl)) dX4_scanDigits_21 ⟨Nat.le_of_ble_eq_true rfl, Nat.le_of_ble_eq_true rfl⟩)) (fun r_2 hw_r_2 => ?_)
        obtain rfl := sgv hw_r_2 (by omega)
        refine vp_callSi (va_Run.run (va_runS (As := [.int (sg rt i_5)]) (rest := []) ⟨hx, hb, hml, hown, hts⟩ (f_X4_isDigit l D cB cI cJ cZ (sg rt i_5)) (va_cwS 1 hts gX4_scanDigits_X4_isDigit rfl rfl rfl (by decide +kernel) ⟨Nat.le_of_ble_eq_true rfl, Nat.le_of_ble_eq_true rfl⟩) (pre_SR (hP.sub (ws' := []) [] rfl) hK) rfl rfl hl.1 rfl (lv_room (Nat.le_of_ble_eq_true rfl)) dX4_scanDigits_24 ⟨Nat.le_of_ble_eq_true rfl, Nat.le_of_ble_eq_true rfl⟩)) (fun r_3 hw_r_3 => ?_)
        refine lv_if_eq (tgt := 71) hx hb dX4_scanDigits_27 (by decide) (fun c_27 => ?_) (fun c_27 => ?_)
        ·
          rw [← hQ]
          have hP9 := hP.sub (ws' := [(h0, .inr (4, [.ref dr, .int t1, .int t2, .int (nI tt), .ref tp, .int (nI ln), .int t6, .int t7, .int (nI i_5), .int t_h0_9_5, .int t10])), (tp, .inl (cB, 300, .inl rt))]) [0, 1] rfl
          have hD9 := hD.sub (ws' := [(h0, .inr (4, [.ref dr, .int t1, .int t2, .int (nI tt), .ref tp, .int (nI ln), .int t6, .int t7, .int (nI i_5), .int t_h0_9_5, .int t10])), (tp, .inl (cB, 300, .inl rt))]) [0, 1] (by decide) rfl
          exact W.vret hx hb hr (fun t ht hW => ⟨⟨(i_5, (t_h0_9_5 : Int32)), rfl, ⟨(ds_e hD_5 (fun h => hw_r_3.eq c_27 h.2)).symm, hV_5⟩, by rw [ht]; exact hP9, va_K.moved hW.alike hK, hD9⟩, hS.F ht⟩) hS.2.2 dX4_scanDigits_71
        ·
          refine lv_aload_n hx hb dX4_scanDigits_30 rfl (lv_at hl 0 rfl) ?_
          refine lv_ldc hx hb hown (w_5) dX4_scanDigits_31 ?_
          refine lv_aload_n hx hb dX4_scanDigits_33 rfl (lv_at hl 0 rfl) ?_
          refine va_get (D := D) (ci := 4) (v := .int t_h0_9_5) (C := RX4) (T := TX4) (N := 11) hx hb hts w_1 hown hK hP 0 rfl rfl 9 (by decide) w_2 (fun _ h9 => h9) rfl dX4_scanDigits_34 ?_
          refine lv_bipush (v := 10) hx hb dX4_scanDigits_37 (by decide) ?_
          refine sv_imul (v := t_h0_9_5 * 10) hx hb dX4_scanDigits_39 rfl ?_
          refine lv_aload_n hx hb dX4_scanDigits_40 rfl (lv_at hl 0 rfl) ?_
          refine lv_aload_n hx hb dX4_scanDigits_41 rfl (lv_at hl 0 rfl) ?_
          refine va_get (D := D) (ci := 4) (v := .int (nI i_5)) (C := RX4) (T := TX4) (N := 11) hx hb hts w_1 hown hK hP 0 rfl rfl 8 (by decide) w_3 (fun _ h9 => h9) rfl dX4_scanDigits_42 ?_
          refine vp_callSi (va_Run.run (va_runV (As := [.int (nI i_5)]) (rest := [.int (t_h0_9_5 * 10), .int 100000, .ref h0]) ⟨hx, hb, hml, hown, hts⟩ (f_X4_signAt l D cB cI cJ cZ h0 dr tp tt ln t1 t2 t6 t7 (nI i_5) t_h0_9_5 t10 rt i_5 b_ln (by omega)) (cwV 1 hts gX4_scanDigits_X4_signAt rfl rfl rfl (by decide +kernel) ⟨Nat.le_of_ble_eq_true rfl, Nat.le_of_ble_eq_true rfl⟩) (pre_VR (hP.sub (ws' := [(h0, .inr (4, [.ref dr, .int t1, .int t2, .int (nI tt), .ref tp, .int (nI ln), .int t6, .int t7, .int (nI i_5), .int t_h0_9_5, .int t10])), (tp, .inl (cB, 300, .inl rt))]) [0, 1] rfl) hK 0 rfl rfl rfl) rfl rfl hl.1 rfl (lv_room (Nat.le_of_ble_eq_true rfl)) dX4_scanDigits_45 ⟨Nat.le_of_ble_eq_true rfl, Nat.le_of_ble_eq_true rfl⟩)) (fun r_4 hw_r_4 => ?_)
          obtain rfl := sgv hw_r_4 (by omega)
          refine sv_iadd (v := (t_h0_9_5 * 10) + (sg rt i_5)) hx hb dX4_scanDigits_48 rfl ?_
          refine lv_bipush (v := 48) hx hb dX4_scanDigits_49 (by decide) ?_
          refine sv_isub (v := ((t_h0_9_5 * 10) + (sg rt i_5)) - 48) hx hb dX4_scanDigits_51 rfl ?_
          refine va_mmin (x := 100000) (y := ((t_h0_9_5 * 10) + (sg rt i_5)) - 48) hx hb (by rw [hml]; exact hl.1.symm) hown w_6 w_7 w_8 w_9 (Nat.le_of_ble_eq_true rfl) (Nat.le_of_ble_eq_true rfl) (Nat.le_of_ble_eq_true rfl) (Nat.le_of_ble_eq_true rfl) dX4_scanDigits_52 ?_
          refine lv_topi (fun v_5 ev_5 => ?_)
          refine va_put (D := D) (ci := 4) (v := .int v_5) (ty := .int) (C := RX4) (T := TX4) (N := 11) hx hb hts w_1 tyX4 tyX4_ok nmX4 hown hK hP hD hS 0 rfl rfl 9 (by decide) w_2 (fun _ h9 => h9) rfl (by decide +kernel) rfl rfl (Nat.le_of_ble_eq_true rfl) dX4_scanDigits_55 (fun H locs hP hD hS => ?_)
          have hP : va_P D vwCl [(h0, .inr (4, [.ref dr, .int t1, .int t2, .int (nI tt), .ref tp, .int (nI ln), .int t6, .int t7, .int (nI i_5), .int v_5, .int t10])), (tp, .inl (cB, 300, .inl rt))] H := hP
          have hD : va_D A [(h0, .inr (4, [.ref dr, .int t1, .int t2, .int (nI tt), .ref tp, .int (nI ln), .int t6, .int t7, .int (nI i_5), .int v_5, .int t10])), (tp, .inl (cB, 300, .inl rt))] := hD
          refine lv_aload_n hx hb dX4_scanDigits_58 rfl (lv_at hl 0 rfl) ?_
          refine lv_dup hx hb dX4_scanDigits_59 rfl ?_
          refine va_get (D := D) (ci := 4) (v := .int (nI i_5)) (C := RX4) (T := TX4) (N := 11) hx hb hts w_1 hown hK hP 0 rfl rfl 8 (by decide) w_3 (fun _ h9 => h9) rfl dX4_scanDigits_60 ?_
          refine lv_iconst (v := 1) hx hb dX4_scanDigits_63 (by decide) ?_
          refine sv_iadd (v := nI (i_5 + 1)) hx hb dX4_scanDigits_64 (ax_add _ 1) ?_
          refine va_put (D := D) (ci := 4) (v := .int (nI (i_5 + 1))) (ty := .int) (C := RX4) (T := TX4) (N := 11) hx hb hts w_1 tyX4 tyX4_ok nmX4 hown hK hP hD hS 0 rfl rfl 8 (by decide) w_3 (fun _ h9 => h9) rfl (by decide +kernel) rfl rfl (Nat.le_of_ble_eq_true rfl) dX4_scanDigits_65 (fun H locs hP hD hS => ?_)
          have hP : va_P D vwCl [(h0, .inr (4, [.ref dr, .int t1, .int t2, .int (nI tt), .ref tp, .int (nI ln), .int t6, .int t7, .int (nI (i_5 + 1)), .int v_5, .int t10])), (tp, .inl (cB, 300, .inl rt))] H := hP
          have hD : va_D A [(h0, .inr (4, [.ref dr, .int t1, .int t2, .int (nI tt), .ref tp, .int (nI ln), .int t6, .int t7, .int (nI (i_5 + 1)), .int v_5, .int t10])), (tp, .inl (cB, 300, .inl rt))] := hD
          refine lv_goto (tgt := 5) hx hb dX4_scanDigits_68 (by decide) ?_
          exact ih_L_1 (i_5 + 1) v_5 _ _ ls (by omega) (by omega) (ds_s hD_5 hb_5 (hw_r_3.ne c_27)) (sd_s hD_5.1 hV_5 rfl (hw_r_3.ne c_27) ev_5) hP hD hS (lv_sub hl [0] rfl)
  exact L_1 _ pe 0 _ _ ls (Nat.lt_succ_self _) (by first | exact Nat.zero_le _ | omega) (ds_0 hpe) cv_0 hP hD hS (lv_sub hl [0] rfl)

set_option maxHeartbeats 4000000 in
set_option maxRecDepth 100000 in
theorem f_X4_adv (l : Launch) (D : va_G) (cB cI cJ cZ : ClassId) (sz : Nat) (h0 dr tp tt ln pe : Nat) (t1 t2 t6 t7 t9 t10 : Int32) (rt : Nat → Int32) (b_ln : ln ≤ 300) (hpe : pe ≤ ln) : Met l yX4_advance wsX4_advance ({ frames := 2, cells := 0, slots := 0, locals := 41 } : Room) (cPre D (aTy cB cI cJ cZ) [(h0, .inr (4, [.ref dr, .int t1, .int t2, .int (nI tt), .ref tp, .int (nI ln), .int t6, .int t7, .int (nI pe), .int t9, .int t10])), (tp, .inl (cB, 300, .inl rt))] sz [.ref h0]) (va_Qv (fun (u : Int32 × Nat × Nat × Int32) => curP (sg rt) ln pe u.1 u.2.1 u.2.2.1 u.2.2.2) (cB_ D (aTy cB cI cJ cZ) (va_A [(h0, .inr (4, [.ref dr, .int t1, .int t2, .int (nI tt), .ref tp, .int (nI ln), .int t6, .int t7, .int (nI pe), .int t9, .int t10])), (tp, .inl (cB, 300, .inl rt))] sz) (fun u => [(h0, .inr (4, [.ref dr, .int t1, .int t2, .int (nI tt), .ref tp, .int (nI ln), .int (u.1), .int (nI (u.2.1)), .int (nI (u.2.2.1)), .int (u.2.2.2), .int t10])), (tp, .inl (cB, 300, .inl rt))])) (va_A [(h0, .inr (4, [.ref dr, .int t1, .int t2, .int (nI tt), .ref tp, .int (nI ln), .int t6, .int t7, .int (nI pe), .int t9, .int t10])), (tp, .inl (cB, 300, .inl rt))] sz)) 0 0 (va_A [(h0, .inr (4, [.ref dr, .int t1, .int t2, .int (nI tt), .ref tp, .int (nI ln), .int t6, .int t7, .int (nI pe), .int t9, .int t10])), (tp, .inl (cB, 300, .inl rt))] sz) := by
  refine Met.ofW (cc := cX4_advance) (maxL := 2) (ret := none) (by decide) rfl ?_
  intro p e s m args below meth c s₁ B hml hv
  obtain ⟨rfl, hsz, hP, hK, hD0⟩ := hv
  have hx := B.exec
  have hb := B.bytes
  have hr := B.returns
  have hts := atoms_spec (ws := wsX4_advance) B.pre
  have hown : s.vm.findClass RX4 = some m.cls := findClass_of_methodNamed B.named
  have hlocks := B.notSynchronized
  subst hsz
  have hD := hD0.self (sz := s.heap.size)
  generalize hAe : va_A [(h0, .inr (4, [.ref dr, .int t1, .int t2, .int (nI tt), .ref tp, .int (nI ln), .int t6, .int t7, .int (nI pe), .int t9, .int t10])), (tp, .inl (cB, 300, .inl rt))] s.heap.size = A at hD ⊢
  have hA : ∀ q : Nat, s.heap.size ≤ q → A q := fun q h => by rw [← hAe]; exact Or.inr h
  have hS : va_S A s.heap s.heap [] := va_S.rf
  have hP : va_P D vwCl [(h0, .inr (4, [.ref dr, .int t1, .int t2, .int (nI tt), .ref tp, .int (nI ln), .int t6, .int t7, .int (nI pe), .int t9, .int t10])), (tp, .inl (cB, 300, .inl rt))] s.heap := hP
  have w_1 : ∀ w ∈ wsX40, w ∈ wsX4_advance := by decide +kernel
  have w_2 := hts (Cond.fieldLink RX4 41 "BlueCoats$Reader" "end" "I") (by decide +kernel)
  have w_3 := hts (Cond.fieldLink RX4 67 "BlueCoats$Reader" "start" "I") (by decide +kernel)
  have w_4 := hts (Cond.fieldLink RX4 38 "BlueCoats$Reader" "length" "I") (by decide +kernel)
  have w_5 := hts (Cond.fieldLink RX4 53 "BlueCoats$Reader" "kind" "I") (by decide +kernel)
  have hl := lv_entry ([.ref h0]) (n := 2) (Nat.le_of_ble_eq_true rfl)
  rw [lg_entry_eq]
  generalize (lg_sl ([.ref h0]) ++ List.replicate (2 - (lg_sl ([.ref h0])).length) Slot.unset).toArray = ls at hl ⊢
  have hl : lv_has ls 2 [(0, .ref h0)] := hl
  generalize hQ : MQ below _ _ s _ _ _ = Q0
  refine lv_aload_n hx hb dX4_advance_0 rfl (lv_at hl 0 rfl) ?_
  refine lv_aload_n hx hb dX4_advance_1 rfl (lv_at hl 0 rfl) ?_
  refine va_get (D := D) (ci := 4) (v := .int (nI pe)) (C := RX4) (T := TX4) (N := 11) hx hb hts w_1 hown hK hP 0 rfl rfl 8 (by decide) w_2 (fun _ h9 => h9) rfl dX4_advance_2 ?_
  refine va_put (D := D) (ci := 4) (v := .int (nI pe)) (ty := .int) (C := RX4) (T := TX4) (N := 11) hx hb hts w_1 tyX4 tyX4_ok nmX4 hown hK hP hD hS 0 rfl rfl 7 (by decide) w_3 (fun _ h9 => h9) rfl (by decide +kernel) rfl rfl (Nat.le_of_ble_eq_true rfl) dX4_advance_5 (fun H locs hP hD hS => ?_)
  have hP : va_P D vwCl [(h0, .inr (4, [.ref dr, .int t1, .int t2, .int (nI tt), .ref tp, .int (nI ln), .int t6, .int (nI pe), .int (nI pe), .int t9, .int t10])), (tp, .inl (cB, 300, .inl rt))] H := hP
  have hD : va_D A [(h0, .inr (4, [.ref dr, .int t1, .int t2, .int (nI tt), .ref tp, .int (nI ln), .int t6, .int (nI pe), .int (nI pe), .int t9, .int t10])), (tp, .inl (cB, 300, .inl rt))] := hD
  have L_1 : ∀ (n : Nat) (i_8 : Nat)  (H : Heap) (locs : List Loc) (ls : Array Slot), ln - i_8 < n → (i_8 ≤ ln) → (skP (sg rt) ln pe i_8) → va_P D vwCl [(h0, .inr (4, [.ref dr, .int t1, .int t2, .int (nI tt), .ref tp, .int (nI ln), .int t6, .int (nI i_8), .int (nI pe), .int t9, .int t10])), (tp, .inl (cB, 300, .inl rt))] H → va_D A [(h0, .inr (4, [.ref dr, .int t1, .int t2, .int (nI tt), .ref tp, .int (nI ln), .int t6, .int (nI i_8), .int (nI pe), .int t9, .int t10])), (tp, .inl (cB, 300, .inl rt))] → va_S A s.heap H locs → lv_has ls 2 [(0, .ref h0)] → W p l e (headSpec wsX4_advance ({ frames := 2, cells := 0, slots := 0, locals := 41 } : Room)).room s m ([.ref h0] : List Value).toArray below meth c H locs 0 0 Q0 (F0 m 8 ls []) := by
    intro n
    induction n with
    | zero => intro i_8 H locs ls hn_8 hle_8 hB_8 hP hD hS hl; exact absurd hn_8 (Nat.not_lt_zero _)
    | succ n ih_L_1 =>
      intro i_8 H locs ls hn_8 hle_8 hB_8 hP hD hS hl
      refine lv_aload_n hx hb dX4_advance_8 rfl (lv_at hl 0 rfl) ?_
      refine va_get (D := D) (ci := 4) (v := .int (nI i_8)) (C := RX4) (T := TX4) (N := 11) hx hb hts w_1 hown hK hP 0 rfl rfl 7 (by decide) w_3 (fun _ h9 => h9) rfl dX4_advance_9 ?_
      refine lv_aload_n hx hb dX4_advance_12 rfl (lv_at hl 0 rfl) ?_
      refine va_get (D := D) (ci := 4) (v := .int (nI ln)) (C := RX4) (T := TX4) (N := 11) hx hb hts w_1 hown hK hP 0 rfl rfl 5 (by decide) w_4 (fun _ h9 => h9) rfl dX4_advance_13 ?_
      refine lv_icmp_ge (tgt := 46) hx hb dX4_advance_16 (by decide) (fun c_16 => ?_) (fun c_16 => ?_)
      ·
        have hTS : tS (sg rt) ln pe = i_8 := sk_e hB_8 (fun h => absurd h.1 (Nat.not_lt.mpr (ge3 (by omega) hle_8 c_16)))
        refine lv_aload_n hx hb dX4_advance_46 rfl (lv_at hl 0 rfl) ?_
        refine lv_aload_n hx hb dX4_advance_47 rfl (lv_at hl 0 rfl) ?_
        refine va_get (D := D) (ci := 4) (v := .int (nI i_8)) (C := RX4) (T := TX4) (N := 11) hx hb hts w_1 hown hK hP 0 rfl rfl 7 (by decide) w_3 (fun _ h9 => h9) rfl dX4_advance_48 ?_
        refine va_put (D := D) (ci := 4) (v := .int (nI i_8)) (ty := .int) (C := RX4) (T := TX4) (N := 11) hx hb hts w_1 tyX4 tyX4_ok nmX4 hown hK hP hD hS 0 rfl rfl 8 (by decide) w_2 (fun _ h9 => h9) rfl (by decide +kernel) rfl rfl (Nat.le_of_ble_eq_true rfl) dX4_advance_51 (fun H locs hP hD hS => ?_)
        have hP : va_P D vwCl [(h0, .inr (4, [.ref dr, .int t1, .int t2, .int (nI tt), .ref tp, .int (nI ln), .int t6, .int (nI i_8), .int (nI i_8), .int t9, .int t10])), (tp, .inl (cB, 300, .inl rt))] H := hP
        have hD : va_D A [(h0, .inr (4, [.ref dr, .int t1, .int t2, .int (nI tt), .ref tp, .int (nI ln), .int t6, .int (nI i_8), .int (nI i_8), .int t9, .int t10])), (tp, .inl (cB, 300, .inl rt))] := hD
        refine lv_aload_n hx hb dX4_advance_54 rfl (lv_at hl 0 rfl) ?_
        refine va_get (D := D) (ci := 4) (v := .int (nI i_8)) (C := RX4) (T := TX4) (N := 11) hx hb hts w_1 hown hK hP 0 rfl rfl 7 (by decide) w_3 (fun _ h9 => h9) rfl dX4_advance_55 ?_
        refine lv_aload_n hx hb dX4_advance_58 rfl (lv_at hl 0 rfl) ?_
        refine va_get (D := D) (ci := 4) (v := .int (nI ln)) (C := RX4) (T := TX4) (N := 11) hx hb hts w_1 hown hK hP 0 rfl rfl 5 (by decide) w_4 (fun _ h9 => h9) rfl dX4_advance_59 ?_
        refine lv_icmp_lt (tgt := 71) hx hb dX4_advance_62 (by decide) (fun h => absurd h (fun h => absurd ((nI_ltI (by omega) (by omega)).mp h) (Nat.not_lt.mpr (ge3 (by omega) hle_8 c_16)))) (fun _ => ?_)
        refine lv_aload_n hx hb dX4_advance_65 rfl (lv_at hl 0 rfl) ?_
        refine lv_iconst (v := 0) hx hb dX4_advance_66 (by decide) ?_
        refine va_put (D := D) (ci := 4) (v := .int 0) (ty := .int) (C := RX4) (T := TX4) (N := 11) hx hb hts w_1 tyX4 tyX4_ok nmX4 hown hK hP hD hS 0 rfl rfl 6 (by decide) w_5 (fun _ h9 => h9) rfl (by decide +kernel) rfl rfl (Nat.le_of_ble_eq_true rfl) dX4_advance_67 (fun H locs hP hD hS => ?_)
        have hP : va_P D vwCl [(h0, .inr (4, [.ref dr, .int t1, .int t2, .int (nI tt), .ref tp, .int (nI ln), .int 0, .int (nI i_8), .int (nI i_8), .int t9, .int t10])), (tp, .inl (cB, 300, .inl rt))] H := hP
        have hD : va_D A [(h0, .inr (4, [.ref dr, .int t1, .int t2, .int (nI tt), .ref tp, .int (nI ln), .int 0, .int (nI i_8), .int (nI i_8), .int t9, .int t10])), (tp, .inl (cB, 300, .inl rt))] := hD
        rw [← hQ]
        have hP9 := hP.sub (ws' := [(h0, .inr (4, [.ref dr, .int t1, .int t2, .int (nI tt), .ref tp, .int (nI ln), .int 0, .int (nI i_8), .int (nI i_8), .int t9, .int t10])), (tp, .inl (cB, 300, .inl rt))]) [0, 1] rfl
        have hD9 := hD.sub (ws' := [(h0, .inr (4, [.ref dr, .int t1, .int t2, .int (nI tt), .ref tp, .int (nI ln), .int 0, .int (nI i_8), .int (nI i_8), .int t9, .int t10])), (tp, .inl (cB, 300, .inl rt))]) [0, 1] (by decide) rfl
        exact W.vret hx hb hr (fun t ht hW => ⟨⟨((0 : Int32), i_8, i_8, (t9 : Int32)), rfl, (cur_0 hTS (ge3 (by omega) hle_8 c_16)), by rw [ht]; exact hP9, va_K.moved hW.alike hK, hD9⟩, hS.F ht⟩) hS.2.2 dX4_advance_70
      ·
        have hb_8 : i_8 < ln := lt3 (by omega) hle_8 c_16
        refine lv_aload_n hx hb dX4_advance_19 rfl (lv_at hl 0 rfl) ?_
        refine lv_aload_n hx hb dX4_advance_20 rfl (lv_at hl 0 rfl) ?_
        refine va_get (D := D) (ci := 4) (v := .int (nI i_8)) (C := RX4) (T := TX4) (N := 11) hx hb hts w_1 hown hK hP 0 rfl rfl 7 (by decide) w_3 (fun _ h9 => h9) rfl dX4_advance_21 ?_
        refine vp_callSi (va_Run.run (va_runV (As := [.int (nI i_8)]) (rest := []) ⟨hx, hb, hml, hown, hts⟩ (f_X4_signAt l D cB cI cJ cZ h0 dr tp tt ln t1 t2 t6 (nI i_8) (nI pe) t9 t10 rt i_8 b_ln (by omega)) (cwV 1 hts gX4_advance_X4_signAt rfl rfl rfl (by decide +kernel) ⟨Nat.le_of_ble_eq_true rfl, Nat.le_of_ble_eq_true rfl⟩) (pre_VR (hP.sub (ws' := [(h0, .inr (4, [.ref dr, .int t1, .int t2, .int (nI tt), .ref tp, .int (nI ln), .int t6, .int (nI i_8), .int (nI pe), .int t9, .int t10])), (tp, .inl (cB, 300, .inl rt))]) [0, 1] rfl) hK 0 rfl rfl rfl) rfl rfl hl.1 rfl (lv_room (Nat.le_of_ble_eq_true rfl)) dX4_advance_24 ⟨Nat.le_of_ble_eq_true rfl, Nat.le_of_ble_eq_true rfl⟩)) (fun r_2 hw_r_2 => ?_)
        obtain rfl := sgv hw_r_2 (by omega)
        refine vp_callSi (va_Run.run (va_runS (As := [.int (sg rt i_8)]) (rest := []) ⟨hx, hb, hml, hown, hts⟩ (f_X4_isBlank l D cB cI cJ cZ (sg rt i_8)) (va_cwS 1 hts gX4_advance_X4_isBlank rfl rfl rfl (by decide +kernel) ⟨Nat.le_of_ble_eq_true rfl, Nat.le_of_ble_eq_true rfl⟩) (pre_SR (hP.sub (ws' := []) [] rfl) hK) rfl rfl hl.1 rfl (lv_room (Nat.le_of_ble_eq_true rfl)) dX4_advance_27 ⟨Nat.le_of_ble_eq_true rfl, Nat.le_of_ble_eq_true rfl⟩)) (fun r_3 hw_r_3 => ?_)
        refine lv_if_eq (tgt := 46) hx hb dX4_advance_30 (by decide) (fun c_30 => ?_) (fun c_30 => ?_)
        ·
          have hTS : tS (sg rt) ln pe = i_8 := sk_e hB_8 (fun h => hw_r_3.eq c_30 h.2)
          refine lv_aload_n hx hb dX4_advance_46 rfl (lv_at hl 0 rfl) ?_
          refine lv_aload_n hx hb dX4_advance_47 rfl (lv_at hl 0 rfl) ?_
          refine va_get (D := D) (ci := 4) (v := .int (nI i_8)) (C := RX4) (T := TX4) (N := 11) hx hb hts w_1 hown hK hP 0 rfl rfl 7 (by decide) w_3 (fun _ h9 => h9) rfl dX4_advance_48 ?_
          refine va_put (D := D) (ci := 4) (v := .int (nI i_8)) (ty := .int) (C := RX4) (T := TX4) (N := 11) hx hb hts w_1 tyX4 tyX4_ok nmX4 hown hK hP hD hS 0 rfl rfl 8 (by decide) w_2 (fun _ h9 => h9) rfl (by decide +kernel) rfl rfl (Nat.le_of_ble_eq_true rfl) dX4_advance_51 (fun H locs hP hD hS => ?_)
          have hP : va_P D vwCl [(h0, .inr (4, [.ref dr, .int t1, .int t2, .int (nI tt), .ref tp, .int (nI ln), .int t6, .int (nI i_8), .int (nI i_8), .int t9, .int t10])), (tp, .inl (cB, 300, .inl rt))] H := hP
          have hD : va_D A [(h0, .inr (4, [.ref dr, .int t1, .int t2, .int (nI tt), .ref tp, .int (nI ln), .int t6, .int (nI i_8), .int (nI i_8), .int t9, .int t10])), (tp, .inl (cB, 300, .inl rt))] := hD
          refine lv_aload_n hx hb dX4_advance_54 rfl (lv_at hl 0 rfl) ?_
          refine va_get (D := D) (ci := 4) (v := .int (nI i_8)) (C := RX4) (T := TX4) (N := 11) hx hb hts w_1 hown hK hP 0 rfl rfl 7 (by decide) w_3 (fun _ h9 => h9) rfl dX4_advance_55 ?_
          refine lv_aload_n hx hb dX4_advance_58 rfl (lv_at hl 0 rfl) ?_
          refine va_get (D := D) (ci := 4) (v := .int (nI ln)) (C := RX4) (T := TX4) (N := 11) hx hb hts w_1 hown hK hP 0 rfl rfl 5 (by decide) w_4 (fun _ h9 => h9) rfl dX4_advance_59 ?_
          refine lv_icmp_lt (tgt := 71) hx hb dX4_advance_62 (by decide) (fun _ => ?_) (fun h => absurd (nI_lt hb_8 (by omega)) h)
          refine lv_aload_n hx hb dX4_advance_71 rfl (lv_at hl 0 rfl) ?_
          refine lv_aload_n hx hb dX4_advance_72 rfl (lv_at hl 0 rfl) ?_
          refine va_get (D := D) (ci := 4) (v := .int (nI i_8)) (C := RX4) (T := TX4) (N := 11) hx hb hts w_1 hown hK hP 0 rfl rfl 7 (by decide) w_3 (fun _ h9 => h9) rfl dX4_advance_73 ?_
          refine vp_callSi (va_Run.run (va_runV (As := [.int (nI i_8)]) (rest := []) ⟨hx, hb, hml, hown, hts⟩ (f_X4_signAt l D cB cI cJ cZ h0 dr tp tt ln t1 t2 t6 (nI i_8) (nI i_8) t9 t10 rt i_8 b_ln (by omega)) (cwV 1 hts gX4_advance_X4_signAt rfl rfl rfl (by decide +kernel) ⟨Nat.le_of_ble_eq_true rfl, Nat.le_of_ble_eq_true rfl⟩) (pre_VR (hP.sub (ws' := [(h0, .inr (4, [.ref dr, .int t1, .int t2, .int (nI tt), .ref tp, .int (nI ln), .int t6, .int (nI i_8), .int (nI i_8), .int t9, .int t10])), (tp, .inl (cB, 300, .inl rt))]) [0, 1] rfl) hK 0 rfl rfl rfl) rfl rfl hl.1 rfl (lv_room (Nat.le_of_ble_eq_true rfl)) dX4_advance_76 ⟨Nat.le_of_ble_eq_true rfl, Nat.le_of_ble_eq_true rfl⟩)) (fun r_4 hw_r_4 => ?_)
          obtain rfl := sgv hw_r_4 (by omega)
          refine lv_istore_n (lv' := [(1, .int (sg rt i_8)), (0, .ref h0)]) hx hb dX4_advance_79 rfl hl (by decide) rfl (fun ls hl => ?_)
          refine lv_iload_n hx hb dX4_advance_80 rfl (lv_at hl 0 rfl) ?_
          refine vp_callSi (va_Run.run (va_runS (As := [.int (sg rt i_8)]) (rest := []) ⟨hx, hb, hml, hown, hts⟩ (f_X4_isLetter l D cB cI cJ cZ (sg rt i_8)) (va_cwS 1 hts gX4_advance_X4_isLetter rfl rfl rfl (by decide +kernel) ⟨Nat.le_of_ble_eq_true rfl, Nat.le_of_ble_eq_true rfl⟩) (pre_SR (hP.sub (ws' := []) [] rfl) hK) rfl rfl hl.1 rfl (lv_room (Nat.le_of_ble_eq_true rfl)) dX4_advance_81 ⟨Nat.le_of_ble_eq_true rfl, Nat.le_of_ble_eq_true rfl⟩)) (fun r_5 hw_r_5 => ?_)
          refine lv_if_eq (tgt := 130) hx hb dX4_advance_84 (by decide) (fun c_84 => ?_) (fun c_84 => ?_)
          ·
            refine lv_iload_n hx hb dX4_advance_130 rfl (lv_at hl 0 rfl) ?_
            refine vp_callSi (va_Run.run (va_runS (As := [.int (sg rt i_8)]) (rest := []) ⟨hx, hb, hml, hown, hts⟩ (f_X4_isDigit l D cB cI cJ cZ (sg rt i_8)) (va_cwS 1 hts gX4_advance_X4_isDigit rfl rfl rfl (by decide +kernel) ⟨Nat.le_of_ble_eq_true rfl, Nat.le_of_ble_eq_true rfl⟩) (pre_SR (hP.sub (ws' := []) [] rfl) hK) rfl rfl hl.1 rfl (lv_room (Nat.le_of_ble_eq_true rfl)) dX4_advance_131 ⟨Nat.le_of_ble_eq_true rfl, Nat.le_of_ble_eq_true rfl⟩)) (fun r_6 hw_r_6 => ?_)
            refine lv_if_eq (tgt := 149) hx hb dX4_advance_134 (by decide) (fun c_134 => ?_) (fun c_134 => ?_)
            ·
              refine lv_aload_n hx hb dX4_advance_149 rfl (lv_at hl 1 rfl) ?_
              refine lv_iload_n hx hb dX4_advance_150 rfl (lv_at hl 0 rfl) ?_
              refine lv_bipush (v := 59) hx hb dX4_advance_151 (by decide) ?_
              refine lv_icmp_ne (tgt := 160) hx hb dX4_advance_153 (by decide) (fun c_153 => ?_) (fun c_153 => ?_)
              ·
                refine lv_iconst (v := 4) hx hb dX4_advance_160 (by decide) ?_
                refine va_put (D := D) (ci := 4) (v := .int 4) (ty := .int) (C := RX4) (T := TX4) (N := 11) hx hb hts w_1 tyX4 tyX4_ok nmX4 hown hK hP hD hS 0 rfl rfl 6 (by decide) w_5 (fun _ h9 => h9) rfl (by decide +kernel) rfl rfl (Nat.le_of_ble_eq_true rfl) dX4_advance_161 (fun H locs hP hD hS => ?_)
                have hP : va_P D vwCl [(h0, .inr (4, [.ref dr, .int t1, .int t2, .int (nI tt), .ref tp, .int (nI ln), .int 4, .int (nI i_8), .int (nI i_8), .int t9, .int t10])), (tp, .inl (cB, 300, .inl rt))] H := hP
                have hD : va_D A [(h0, .inr (4, [.ref dr, .int t1, .int t2, .int (nI tt), .ref tp, .int (nI ln), .int 4, .int (nI i_8), .int (nI i_8), .int t9, .int t10])), (tp, .inl (cB, 300, .inl rt))] := hD
                refine lv_aload_n hx hb dX4_advance_164 rfl (lv_at hl 1 rfl) ?_
                refine lv_aload_n hx hb dX4_advance_165 rfl (lv_at hl 1 rfl) ?_
                refine va_get (D := D) (ci := 4) (v := .int (nI i_8)) (C := RX4) (T := TX4) (N := 11) hx hb hts w_1 hown hK hP 0 rfl rfl 7 (by decide) w_3 (fun _ h9 => h9) rfl dX4_advance_166 ?_
                refine lv_iconst (v := 1) hx hb dX4_advance_169 (by decide) ?_
                refine sv_iadd (v := nI (i_8 + 1)) hx hb dX4_advance_170 (ax_add _ 1) ?_
                refine va_put (D := D) (ci := 4) (v := .int (nI (i_8 + 1))) (ty := .int) (C := RX4) (T := TX4) (N := 11) hx hb hts w_1 tyX4 tyX4_ok nmX4 hown hK hP hD hS 0 rfl rfl 8 (by decide) w_2 (fun _ h9 => h9) rfl (by decide +kernel) rfl rfl (Nat.le_of_ble_eq_true rfl) dX4_advance_171 (fun H locs hP hD hS => ?_)
                have hP : va_P D vwCl [(h0, .inr (4, [.ref dr, .int t1, .int t2, .int (nI tt), .ref tp, .int (nI ln), .int 4, .int (nI i_8), .int (nI (i_8 + 1)), .int t9, .int t10])), (tp, .inl (cB, 300, .inl rt))] H := hP
                have hD : va_D A [(h0, .inr (4, [.ref dr, .int t1, .int t2, .int (nI tt), .ref tp, .int (nI ln), .int 4, .int (nI i_8), .int (nI (i_8 + 1)), .int t9, .int t10])), (tp, .inl (cB, 300, .inl rt))] := hD
                rw [← hQ]
                have hP9 := hP.sub (ws' := [(h0, .inr (4, [.ref dr, .int t1, .int t2, .int (nI tt), .ref tp, .int (nI ln), .int 4, .int (nI i_8), .int (nI (i_8 + 1)), .int t9, .int t10])), (tp, .inl (cB, 300, .inl rt))]) [0, 1] rfl
                have hD9 := hD.sub (ws' := [(h0, .inr (4, [.ref dr, .int t1, .int t2, .int (nI tt), .ref tp, .int (nI ln), .int 4, .int (nI i_8), .int (nI (i_8 + 1)), .int t9, .int t10])), (tp, .inl (cB, 300, .inl rt))]) [0, 1] (by decide) rfl
                exact W.vret hx hb hr (fun t ht hW => ⟨⟨((4 : Int32), i_8, (i_8 + 1), (t9 : Int32)), rfl, (cur_4 hTS hb_8 (hw_r_5.eq c_84) (hw_r_6.eq c_134) c_153), by rw [ht]; exact hP9, va_K.moved hW.alike hK, hD9⟩, hS.F ht⟩) hS.2.2 dX4_advance_174
              ·
                refine lv_iconst (v := 3) hx hb dX4_advance_156 (by decide) ?_
                refine lv_goto (tgt := 161) hx hb dX4_advance_157 (by decide) ?_
                refine va_put (D := D) (ci := 4) (v := .int 3) (ty := .int) (C := RX4) (T := TX4) (N := 11) hx hb hts w_1 tyX4 tyX4_ok nmX4 hown hK hP hD hS 0 rfl rfl 6 (by decide) w_5 (fun _ h9 => h9) rfl (by decide +kernel) rfl rfl (Nat.le_of_ble_eq_true rfl) dX4_advance_161 (fun H locs hP hD hS => ?_)
                have hP : va_P D vwCl [(h0, .inr (4, [.ref dr, .int t1, .int t2, .int (nI tt), .ref tp, .int (nI ln), .int 3, .int (nI i_8), .int (nI i_8), .int t9, .int t10])), (tp, .inl (cB, 300, .inl rt))] H := hP
                have hD : va_D A [(h0, .inr (4, [.ref dr, .int t1, .int t2, .int (nI tt), .ref tp, .int (nI ln), .int 3, .int (nI i_8), .int (nI i_8), .int t9, .int t10])), (tp, .inl (cB, 300, .inl rt))] := hD
                refine lv_aload_n hx hb dX4_advance_164 rfl (lv_at hl 1 rfl) ?_
                refine lv_aload_n hx hb dX4_advance_165 rfl (lv_at hl 1 rfl) ?_
                refine va_get (D := D) (ci := 4) (v := .int (nI i_8)) (C := RX4) (T := TX4) (N := 11) hx hb hts w_1 hown hK hP 0 rfl rfl 7 (by decide) w_3 (fun _ h9 => h9) rfl dX4_advance_166 ?_
                refine lv_iconst (v := 1) hx hb dX4_advance_169 (by decide) ?_
                refine sv_iadd (v := nI (i_8 + 1)) hx hb dX4_advance_170 (ax_add _ 1) ?_
                refine va_put (D := D) (ci := 4) (v := .int (nI (i_8 + 1))) (ty := .int) (C := RX4) (T := TX4) (N := 11) hx hb hts w_1 tyX4 tyX4_ok nmX4 hown hK hP hD hS 0 rfl rfl 8 (by decide) w_2 (fun _ h9 => h9) rfl (by decide +kernel) rfl rfl (Nat.le_of_ble_eq_true rfl) dX4_advance_171 (fun H locs hP hD hS => ?_)
                have hP : va_P D vwCl [(h0, .inr (4, [.ref dr, .int t1, .int t2, .int (nI tt), .ref tp, .int (nI ln), .int 3, .int (nI i_8), .int (nI (i_8 + 1)), .int t9, .int t10])), (tp, .inl (cB, 300, .inl rt))] H := hP
                have hD : va_D A [(h0, .inr (4, [.ref dr, .int t1, .int t2, .int (nI tt), .ref tp, .int (nI ln), .int 3, .int (nI i_8), .int (nI (i_8 + 1)), .int t9, .int t10])), (tp, .inl (cB, 300, .inl rt))] := hD
                rw [← hQ]
                have hP9 := hP.sub (ws' := [(h0, .inr (4, [.ref dr, .int t1, .int t2, .int (nI tt), .ref tp, .int (nI ln), .int 3, .int (nI i_8), .int (nI (i_8 + 1)), .int t9, .int t10])), (tp, .inl (cB, 300, .inl rt))]) [0, 1] rfl
                have hD9 := hD.sub (ws' := [(h0, .inr (4, [.ref dr, .int t1, .int t2, .int (nI tt), .ref tp, .int (nI ln), .int 3, .int (nI i_8), .int (nI (i_8 + 1)), .int t9, .int t10])), (tp, .inl (cB, 300, .inl rt))]) [0, 1] (by decide) rfl
                exact W.vret hx hb hr (fun t ht hW => ⟨⟨((3 : Int32), i_8, (i_8 + 1), (t9 : Int32)), rfl, (cur_3 hTS hb_8 (hw_r_5.eq c_84) (hw_r_6.eq c_134) c_153), by rw [ht]; exact hP9, va_K.moved hW.alike hK, hD9⟩, hS.F ht⟩) hS.2.2 dX4_advance_174
            ·
              refine lv_aload_n hx hb dX4_advance_137 rfl (lv_at hl 1 rfl) ?_
              refine lv_iconst (v := 2) hx hb dX4_advance_138 (by decide) ?_
              refine va_put (D := D) (ci := 4) (v := .int 2) (ty := .int) (C := RX4) (T := TX4) (N := 11) hx hb hts w_1 tyX4 tyX4_ok nmX4 hown hK hP hD hS 0 rfl rfl 6 (by decide) w_5 (fun _ h9 => h9) rfl (by decide +kernel) rfl rfl (Nat.le_of_ble_eq_true rfl) dX4_advance_139 (fun H locs hP hD hS => ?_)
              have hP : va_P D vwCl [(h0, .inr (4, [.ref dr, .int t1, .int t2, .int (nI tt), .ref tp, .int (nI ln), .int 2, .int (nI i_8), .int (nI i_8), .int t9, .int t10])), (tp, .inl (cB, 300, .inl rt))] H := hP
              have hD : va_D A [(h0, .inr (4, [.ref dr, .int t1, .int t2, .int (nI tt), .ref tp, .int (nI ln), .int 2, .int (nI i_8), .int (nI i_8), .int t9, .int t10])), (tp, .inl (cB, 300, .inl rt))] := hD
              refine lv_aload_n hx hb dX4_advance_142 rfl (lv_at hl 1 rfl) ?_
              refine cl_v (wc := [(h0, .inr (4, [.ref dr, .int t1, .int t2, .int (nI tt), .ref tp, .int (nI ln), .int 2, .int (nI i_8), .int (nI i_8), .int t9, .int t10])), (tp, .inl (cB, 300, .inl rt))]) (wr := []) (va_runV (As := []) (rest := []) ⟨hx, hb, hml, hown, hts⟩ (f_X4_scan l D cB cI cJ cZ H.size h0 dr tp tt ln i_8 t1 t2 2 (nI i_8) t9 t10 rt b_ln (by omega)) (cwV 0 hts gX4_advance_X4_scanDigits rfl rfl rfl (by decide +kernel) ⟨Nat.le_of_ble_eq_true rfl, Nat.le_of_ble_eq_true rfl⟩) (pre_V (hP.sub (ws' := [(h0, .inr (4, [.ref dr, .int t1, .int t2, .int (nI tt), .ref tp, .int (nI ln), .int 2, .int (nI i_8), .int (nI i_8), .int t9, .int t10])), (tp, .inl (cB, 300, .inl rt))]) [0, 1] rfl) hK (hD.sub (ws' := [(h0, .inr (4, [.ref dr, .int t1, .int t2, .int (nI tt), .ref tp, .int (nI ln), .int 2, .int (nI i_8), .int (nI i_8), .int t9, .int t10])), (tp, .inl (cB, 300, .inl rt))]) [0, 1] (by decide) rfl) 0 rfl rfl rfl) rfl rfl hl.1 rfl (lv_room (Nat.le_of_ble_eq_true rfl)) dX4_advance_143 ⟨Nat.le_of_ble_eq_true rfl, Nat.le_of_ble_eq_true rfl⟩) hP hD hS hA [0, 1] [] rfl rfl (by decide) (by decide) 0 0 rfl rfl (fun u_8 H locs hw_u_8 hP hD hS => ?_)
              have hP : va_P D vwCl [(h0, .inr (4, [.ref dr, .int t1, .int t2, .int (nI tt), .ref tp, .int (nI ln), .int 2, .int (nI i_8), .int (nI (u_8.1)), .int u_8.2, .int t10])), (tp, .inl (cB, 300, .inl rt))] H := hP
              have hD : va_D A [(h0, .inr (4, [.ref dr, .int t1, .int t2, .int (nI tt), .ref tp, .int (nI ln), .int 2, .int (nI i_8), .int (nI (u_8.1)), .int u_8.2, .int t10])), (tp, .inl (cB, 300, .inl rt))] := hD
              refine lv_goto (tgt := 174) hx hb dX4_advance_146 (by decide) ?_
              rw [← hQ]
              have hP9 := hP.sub (ws' := [(h0, .inr (4, [.ref dr, .int t1, .int t2, .int (nI tt), .ref tp, .int (nI ln), .int 2, .int (nI i_8), .int (nI (u_8.1)), .int u_8.2, .int t10])), (tp, .inl (cB, 300, .inl rt))]) [0, 1] rfl
              have hD9 := hD.sub (ws' := [(h0, .inr (4, [.ref dr, .int t1, .int t2, .int (nI tt), .ref tp, .int (nI ln), .int 2, .int (nI i_8), .int (nI (u_8.1)), .int u_8.2, .int t10])), (tp, .inl (cB, 300, .inl rt))]) [0, 1] (by decide) rfl
              exact W.vret hx hb hr (fun t ht hW => ⟨⟨((2 : Int32), i_8, (u_8.1), (u_8.2 : Int32)), rfl, (cur_2 hTS hb_8 (hw_r_5.eq c_84) (hw_r_6.ne c_134) hw_u_8.1.symm hw_u_8.2), by rw [ht]; exact hP9, va_K.moved hW.alike hK, hD9⟩, hS.F ht⟩) hS.2.2 dX4_advance_174
          ·
            refine lv_aload_n hx hb dX4_advance_87 rfl (lv_at hl 1 rfl) ?_
            refine lv_iconst (v := 1) hx hb dX4_advance_88 (by decide) ?_
            refine va_put (D := D) (ci := 4) (v := .int 1) (ty := .int) (C := RX4) (T := TX4) (N := 11) hx hb hts w_1 tyX4 tyX4_ok nmX4 hown hK hP hD hS 0 rfl rfl 6 (by decide) w_5 (fun _ h9 => h9) rfl (by decide +kernel) rfl rfl (Nat.le_of_ble_eq_true rfl) dX4_advance_89 (fun H locs hP hD hS => ?_)
            have hP : va_P D vwCl [(h0, .inr (4, [.ref dr, .int t1, .int t2, .int (nI tt), .ref tp, .int (nI ln), .int 1, .int (nI i_8), .int (nI i_8), .int t9, .int t10])), (tp, .inl (cB, 300, .inl rt))] H := hP
            have hD : va_D A [(h0, .inr (4, [.ref dr, .int t1, .int t2, .int (nI tt), .ref tp, .int (nI ln), .int 1, .int (nI i_8), .int (nI i_8), .int t9, .int t10])), (tp, .inl (cB, 300, .inl rt))] := hD
            have L_9 : ∀ (n : Nat) (i_92 : Nat)  (H : Heap) (locs : List Loc) (ls : Array Slot), ln - i_92 < n → (i_92 ≤ ln) → (lsQ (sg rt) ln i_8 i_92) → va_P D vwCl [(h0, .inr (4, [.ref dr, .int t1, .int t2, .int (nI tt), .ref tp, .int (nI ln), .int 1, .int (nI i_8), .int (nI i_92), .int t9, .int t10])), (tp, .inl (cB, 300, .inl rt))] H → va_D A [(h0, .inr (4, [.ref dr, .int t1, .int t2, .int (nI tt), .ref tp, .int (nI ln), .int 1, .int (nI i_8), .int (nI i_92), .int t9, .int t10])), (tp, .inl (cB, 300, .inl rt))] → va_S A s.heap H locs → lv_has ls 2 [(0, .ref h0), (1, .int (sg rt i_8))] → W p l e (headSpec wsX4_advance ({ frames := 2, cells := 0, slots := 0, locals := 41 } : Room)).room s m ([.ref h0] : List Value).toArray below meth c H locs 0 0 Q0 (F0 m 92 ls []) := by
              intro n
              induction n with
              | zero => intro i_92 H locs ls hn_92 hle_92 hE_92 hP hD hS hl; exact absurd hn_92 (Nat.not_lt_zero _)
              | succ n ih_L_9 =>
                intro i_92 H locs ls hn_92 hle_92 hE_92 hP hD hS hl
                refine lv_aload_n hx hb dX4_advance_92 rfl (lv_at hl 0 rfl) ?_
                refine va_get (D := D) (ci := 4) (v := .int (nI i_92)) (C := RX4) (T := TX4) (N := 11) hx hb hts w_1 hown hK hP 0 rfl rfl 8 (by decide) w_2 (fun _ h9 => h9) rfl dX4_advance_93 ?_
                refine lv_aload_n hx hb dX4_advance_96 rfl (lv_at hl 0 rfl) ?_
                refine va_get (D := D) (ci := 4) (v := .int (nI ln)) (C := RX4) (T := TX4) (N := 11) hx hb hts w_1 hown hK hP 0 rfl rfl 5 (by decide) w_4 (fun _ h9 => h9) rfl dX4_advance_97 ?_
                refine lv_icmp_ge (tgt := 174) hx hb dX4_advance_100 (by decide) (fun c_100 => ?_) (fun c_100 => ?_)
                ·
                  rw [← hQ]
                  have hP9 := hP.sub (ws' := [(h0, .inr (4, [.ref dr, .int t1, .int t2, .int (nI tt), .ref tp, .int (nI ln), .int 1, .int (nI i_8), .int (nI i_92), .int t9, .int t10])), (tp, .inl (cB, 300, .inl rt))]) [0, 1] rfl
                  have hD9 := hD.sub (ws' := [(h0, .inr (4, [.ref dr, .int t1, .int t2, .int (nI tt), .ref tp, .int (nI ln), .int 1, .int (nI i_8), .int (nI i_92), .int t9, .int t10])), (tp, .inl (cB, 300, .inl rt))]) [0, 1] (by decide) rfl
                  exact W.vret hx hb hr (fun t ht hW => ⟨⟨((1 : Int32), i_8, i_92, (t9 : Int32)), rfl, (cur_1 hTS hb_8 (hw_r_5.ne c_84) (ls_ee hE_92 (fun h => absurd h.1 (Nat.not_lt.mpr (ge3 (by omega) hle_92 c_100))))), by rw [ht]; exact hP9, va_K.moved hW.alike hK, hD9⟩, hS.F ht⟩) hS.2.2 dX4_advance_174
                ·
                  have hb_92 : i_92 < ln := lt3 (by omega) hle_92 c_100
                  refine lv_aload_n hx hb dX4_advance_103 rfl (lv_at hl 0 rfl) ?_
                  refine lv_aload_n hx hb dX4_advance_104 rfl (lv_at hl 0 rfl) ?_
                  refine va_get (D := D) (ci := 4) (v := .int (nI i_92)) (C := RX4) (T := TX4) (N := 11) hx hb hts w_1 hown hK hP 0 rfl rfl 8 (by decide) w_2 (fun _ h9 => h9) rfl dX4_advance_105 ?_
                  refine vp_callSi (va_Run.run (va_runV (As := [.int (nI i_92)]) (rest := []) ⟨hx, hb, hml, hown, hts⟩ (f_X4_signAt l D cB cI cJ cZ h0 dr tp tt ln t1 t2 1 (nI i_8) (nI i_92) t9 t10 rt i_92 b_ln (by omega)) (cwV 1 hts gX4_advance_X4_signAt rfl rfl rfl (by decide +kernel) ⟨Nat.le_of_ble_eq_true rfl, Nat.le_of_ble_eq_true rfl⟩) (pre_VR (hP.sub (ws' := [(h0, .inr (4, [.ref dr, .int t1, .int t2, .int (nI tt), .ref tp, .int (nI ln), .int 1, .int (nI i_8), .int (nI i_92), .int t9, .int t10])), (tp, .inl (cB, 300, .inl rt))]) [0, 1] rfl) hK 0 rfl rfl rfl) rfl rfl hl.1 rfl (lv_room (Nat.le_of_ble_eq_true rfl)) dX4_advance_108 ⟨Nat.le_of_ble_eq_true rfl, Nat.le_of_ble_eq_true rfl⟩)) (fun r_10 hw_r_10 => ?_)
                  obtain rfl := sgv hw_r_10 (by omega)
                  refine vp_callSi (va_Run.run (va_runS (As := [.int (sg rt i_92)]) (rest := []) ⟨hx, hb, hml, hown, hts⟩ (f_X4_isLetter l D cB cI cJ cZ (sg rt i_92)) (va_cwS 1 hts gX4_advance_X4_isLetter rfl rfl rfl (by decide +kernel) ⟨Nat.le_of_ble_eq_true rfl, Nat.le_of_ble_eq_true rfl⟩) (pre_SR (hP.sub (ws' := []) [] rfl) hK) rfl rfl hl.1 rfl (lv_room (Nat.le_of_ble_eq_true rfl)) dX4_advance_111 ⟨Nat.le_of_ble_eq_true rfl, Nat.le_of_ble_eq_true rfl⟩)) (fun r_11 hw_r_11 => ?_)
                  refine lv_if_eq (tgt := 174) hx hb dX4_advance_114 (by decide) (fun c_114 => ?_) (fun c_114 => ?_)
                  ·
                    rw [← hQ]
                    have hP9 := hP.sub (ws' := [(h0, .inr (4, [.ref dr, .int t1, .int t2, .int (nI tt), .ref tp, .int (nI ln), .int 1, .int (nI i_8), .int (nI i_92), .int t9, .int t10])), (tp, .inl (cB, 300, .inl rt))]) [0, 1] rfl
                    have hD9 := hD.sub (ws' := [(h0, .inr (4, [.ref dr, .int t1, .int t2, .int (nI tt), .ref tp, .int (nI ln), .int 1, .int (nI i_8), .int (nI i_92), .int t9, .int t10])), (tp, .inl (cB, 300, .inl rt))]) [0, 1] (by decide) rfl
                    exact W.vret hx hb hr (fun t ht hW => ⟨⟨((1 : Int32), i_8, i_92, (t9 : Int32)), rfl, (cur_1 hTS hb_8 (hw_r_5.ne c_84) (ls_ee hE_92 (fun h => hw_r_11.eq c_114 h.2))), by rw [ht]; exact hP9, va_K.moved hW.alike hK, hD9⟩, hS.F ht⟩) hS.2.2 dX4_advance_174
                  ·
                    refine lv_aload_n hx hb dX4_advance_117 rfl (lv_at hl 0 rfl) ?_
                    refine lv_dup hx hb dX4_advance_118 rfl ?_
                    refine va_get (D := D) (ci := 4) (v := .int (nI i_92)) (C := RX4) (T := TX4) (N := 11) hx hb hts w_1 hown hK hP 0 rfl rfl 8 (by decide) w_2 (fun _ h9 => h9) rfl dX4_advance_119 ?_
                    refine lv_iconst (v := 1) hx hb dX4_advance_122 (by decide) ?_
                    refine sv_iadd (v := nI (i_92 + 1)) hx hb dX4_advance_123 (ax_add _ 1) ?_
                    refine va_put (D := D) (ci := 4) (v := .int (nI (i_92 + 1))) (ty := .int) (C := RX4) (T := TX4) (N := 11) hx hb hts w_1 tyX4 tyX4_ok nmX4 hown hK hP hD hS 0 rfl rfl 8 (by decide) w_2 (fun _ h9 => h9) rfl (by decide +kernel) rfl rfl (Nat.le_of_ble_eq_true rfl) dX4_advance_124 (fun H locs hP hD hS => ?_)
                    have hP : va_P D vwCl [(h0, .inr (4, [.ref dr, .int t1, .int t2, .int (nI tt), .ref tp, .int (nI ln), .int 1, .int (nI i_8), .int (nI (i_92 + 1)), .int t9, .int t10])), (tp, .inl (cB, 300, .inl rt))] H := hP
                    have hD : va_D A [(h0, .inr (4, [.ref dr, .int t1, .int t2, .int (nI tt), .ref tp, .int (nI ln), .int 1, .int (nI i_8), .int (nI (i_92 + 1)), .int t9, .int t10])), (tp, .inl (cB, 300, .inl rt))] := hD
                    refine lv_goto (tgt := 92) hx hb dX4_advance_127 (by decide) ?_
                    exact ih_L_9 (i_92 + 1) _ _ ls (by omega) (by omega) (ls_ss hE_92 hb_92 (hw_r_11.ne c_114)) hP hD hS (lv_sub hl [0, 1] rfl)
            exact L_9 _ i_8 _ _ ls (Nat.lt_succ_self _) (by first | exact Nat.zero_le _ | omega) (ls_00 (Nat.le_of_lt hb_8)) hP hD hS (lv_sub hl [1, 0] rfl)
        ·
          refine lv_aload_n hx hb dX4_advance_33 rfl (lv_at hl 0 rfl) ?_
          refine lv_dup hx hb dX4_advance_34 rfl ?_
          refine va_get (D := D) (ci := 4) (v := .int (nI i_8)) (C := RX4) (T := TX4) (N := 11) hx hb hts w_1 hown hK hP 0 rfl rfl 7 (by decide) w_3 (fun _ h9 => h9) rfl dX4_advance_35 ?_
          refine lv_iconst (v := 1) hx hb dX4_advance_38 (by decide) ?_
          refine sv_iadd (v := nI (i_8 + 1)) hx hb dX4_advance_39 (ax_add _ 1) ?_
          refine va_put (D := D) (ci := 4) (v := .int (nI (i_8 + 1))) (ty := .int) (C := RX4) (T := TX4) (N := 11) hx hb hts w_1 tyX4 tyX4_ok nmX4 hown hK hP hD hS 0 rfl rfl 7 (by decide) w_3 (fun _ h9 => h9) rfl (by decide +kernel) rfl rfl (Nat.le_of_ble_eq_true rfl) dX4_advance_40 (fun H locs hP hD hS => ?_)
          have hP : va_P D vwCl [(h0, .inr (4, [.ref dr, .int t1, .int t2, .int (nI tt), .ref tp, .int (nI ln), .int t6, .int (nI (i_8 + 1)), .int (nI pe), .int t9, .int t10])), (tp, .inl (cB, 300, .inl rt))] H := hP
          have hD : va_D A [(h0, .inr (4, [.ref dr, .int t1, .int t2, .int (nI tt), .ref tp, .int (nI ln), .int t6, .int (nI (i_8 + 1)), .int (nI pe), .int t9, .int t10])), (tp, .inl (cB, 300, .inl rt))] := hD
          refine lv_goto (tgt := 8) hx hb dX4_advance_43 (by decide) ?_
          exact ih_L_1 (i_8 + 1) _ _ ls (by omega) (by omega) (sk_s hB_8 hb_8 (hw_r_3.ne c_30)) hP hD hS (lv_sub hl [0] rfl)
  exact L_1 _ pe _ _ ls (Nat.lt_succ_self _) (by first | exact Nat.zero_le _ | omega) (sk_0 hpe) hP hD hS (lv_sub hl [0] rfl)

