/-! Filling and years: the class. -/

set_option maxHeartbeats 4000000 in
set_option maxRecDepth 100000 in
theorem f_X1_in (l : Launch) (D : va_G) (cB cI cJ cZ : ClassId) (h0 p0 p1 p2 p3 p4 p5 a : Nat) (f4 : Nat → Int32) (ha : a ≤ 16) : Met l yX1_in wsX1_in ({ frames := 0, cells := 0, slots := 0, locals := 0 } : Room) (cRd D (aTy cB cI cJ cZ) [(h0, .inr (1, [.ref p0, .ref p1, .ref p2, .ref p3, .ref p4, .ref p5, .int (nI a)])), (p4, .inl (cI, 16, .inl f4))] [.ref h0]) (vp_Si (fun r : Int32 => r = nI (cntP f4 a))) 0 0 (fun _ => False) := by
  refine Met.ofW (cc := cX1_in) (maxL := 3) (ret := (some .int)) (by decide) rfl ?_
  intro p e s m args below meth c s₁ B hml hv
  obtain ⟨rfl, hP, hK⟩ := hv
  have hx := B.exec
  have hb := B.bytes
  have hr := B.returns
  have hts := atoms_spec (ws := wsX1_in) B.pre
  have hown : s.vm.findClass RX1 = some m.cls := findClass_of_methodNamed B.named
  have hlocks := B.notSynchronized
  have hP : va_P D vwCl [(h0, .inr (1, [.ref p0, .ref p1, .ref p2, .ref p3, .ref p4, .ref p5, .int (nI a)])), (p4, .inl (cI, 16, .inl f4))] s.heap := hP
  have w_1 : ∀ w ∈ wsX10, w ∈ wsX1_in := by decide +kernel
  have w_2 := hts (Cond.fieldLink RX1 30 "BlueCoats$Children" "number" "I") (by decide +kernel)
  have w_3 := hts (Cond.fieldLink RX1 24 "BlueCoats$Children" "state" "[I") (by decide +kernel)
  have hl := lv_entry ([.ref h0]) (n := 3) (Nat.le_of_ble_eq_true rfl)
  rw [lg_entry_eq]
  generalize (lg_sl ([.ref h0]) ++ List.replicate (3 - (lg_sl ([.ref h0])).length) Slot.unset).toArray = ls at hl ⊢
  have hl : lv_has ls 3 [(0, .ref h0)] := hl
  generalize hQ : MQ below _ _ s _ _ _ = Q0
  refine lv_iconst (v := 0) hx hb dX1_in_0 (by decide) ?_
  refine lv_istore_n (lv' := [(1, .int 0), (0, .ref h0)]) hx hb dX1_in_1 rfl hl (by decide) rfl (fun ls hl => ?_)
  refine lv_iconst (v := 0) hx hb dX1_in_2 (by decide) ?_
  refine lv_istore_n (lv' := [(2, .int 0), (1, .int 0), (0, .ref h0)]) hx hb dX1_in_3 rfl hl (by decide) rfl (fun ls hl => ?_)
  have L_1 : ∀ (n : Nat) (i_4 : Nat) (b_1_4 : Nat) (ls : Array Slot), a - i_4 < n → (i_4 ≤ a) → (b_1_4 = cntP f4 i_4) → va_P D vwCl [(h0, .inr (1, [.ref p0, .ref p1, .ref p2, .ref p3, .ref p4, .ref p5, .int (nI a)])), (p4, .inl (cI, 16, .inl f4))] s.heap → lv_has ls 3 [(0, .ref h0), (1, .int (nI b_1_4)), (2, .int (nI i_4))] → W p l e (headSpec wsX1_in ({ frames := 0, cells := 0, slots := 0, locals := 0 } : Room)).room s m ([.ref h0] : List Value).toArray below meth c s.heap [] 0 0 Q0 (F0 m 4 ls []) := by
    intro n
    induction n with
    | zero => intro i_4 b_1_4 ls hn_4 hle_4 hc_4 hP hl; exact absurd hn_4 (Nat.not_lt_zero _)
    | succ n ih_L_1 =>
      intro i_4 b_1_4 ls hn_4 hle_4 hc_4 hP hl
      refine lv_iload_n hx hb dX1_in_4 rfl (lv_at hl 2 rfl) ?_
      refine lv_aload_n hx hb dX1_in_5 rfl (lv_at hl 0 rfl) ?_
      refine va_get (D := D) (ci := 1) (v := .int (nI a)) (C := RX1) (T := TX1) (N := 7) hx hb hts w_1 hown hK hP 0 rfl rfl 6 (by decide) w_2 (fun _ h9 => h9) rfl dX1_in_6 ?_
      refine lv_icmp_ge (tgt := 31) hx hb dX1_in_9 (by decide) (fun c_9 => ?_) (fun c_9 => ?_)
      ·
        refine lv_iload_n hx hb dX1_in_31 rfl (lv_at hl 1 rfl) ?_
        rw [← hQ]
        exact W.iret (v := nI b_1_4) hx hb hr (fun t ht hW => ⟨_, rfl, by rw [hc_4, (Nat.le_antisymm hle_4 (ge3 (by omega) hle_4 c_9))], ht⟩) (fun q h => nomatch h) dX1_in_32
      ·
        have hb_4 : i_4 < a := lt3 (by omega) hle_4 c_9
        refine lv_aload_n hx hb dX1_in_12 rfl (lv_at hl 0 rfl) ?_
        refine va_get (D := D) (ci := 1) (v := .ref p4) (C := RX1) (T := TX1) (N := 7) hx hb hts w_1 hown hK hP 0 rfl rfl 4 (by decide) w_3 (fun _ h9 => h9) rfl dX1_in_13 ?_
        refine lv_iload_n hx hb dX1_in_16 rfl (lv_at hl 2 rfl) ?_
        refine sv_iald (v := f4 i_4) hx hb hK hP 1 1 rfl rfl (vp_in_nI (by omega) (by decide)) (congrArg _ (nI_clamp (by omega))) dX1_in_17 ?_
        refine lv_iconst (v := 1) hx hb dX1_in_18 (by decide) ?_
        refine lv_icmp_ne (tgt := 25) hx hb dX1_in_19 (by decide) (fun c_19 => ?_) (fun c_19 => ?_)
        ·
          refine lv_iinc (v := nI (i_4 + 1)) (lv' := [(2, .int (nI (i_4 + 1))), (0, .ref h0), (1, .int (nI b_1_4))]) hx hb dX1_in_25 hl (k := 2) rfl (ax_add _ 1) (by decide) rfl (fun ls hl => ?_)
          refine lv_goto (tgt := 4) hx hb dX1_in_28 (by decide) ?_
          exact ih_L_1 (i_4 + 1) b_1_4 ls (by omega) (by omega) (cn_n hc_4 c_19) hP (lv_sub hl [1, 2, 0] rfl)
        ·
          refine lv_iinc (v := nI (b_1_4 + 1)) (lv' := [(1, .int (nI (b_1_4 + 1))), (0, .ref h0), (2, .int (nI i_4))]) hx hb dX1_in_22 hl (k := 1) rfl (ax_add _ 1) (by decide) rfl (fun ls hl => ?_)
          refine lv_iinc (v := nI (i_4 + 1)) (lv' := [(2, .int (nI (i_4 + 1))), (1, .int (nI (b_1_4 + 1))), (0, .ref h0)]) hx hb dX1_in_25 hl (k := 2) rfl (ax_add _ 1) (by decide) rfl (fun ls hl => ?_)
          refine lv_goto (tgt := 4) hx hb dX1_in_28 (by decide) ?_
          exact ih_L_1 (i_4 + 1) (b_1_4 + 1) ls (by omega) (by omega) (cn_y hc_4 c_19) hP (lv_sub hl [2, 1, 0] rfl)
  exact L_1 _ 0 0 ls (Nat.lt_succ_self _) (by first | exact Nat.zero_le _ | omega) rfl hP (lv_sub hl [2, 1, 0] rfl)

set_option maxHeartbeats 4000000 in
set_option maxRecDepth 100000 in
theorem f_X3_votes (l : Launch) (D : va_G) (cB cI cJ cZ : ClassId) (h0 p0 p1 a : Nat) (b3 : Int32) (f0 f1 : Nat → Int32) (ch pr : Int32) (ha : a ≤ 8) (hpr : ¬ pr ≤ 0) : Met l yX3_votesFor wsX3_votesFor ({ frames := 0, cells := 0, slots := 0, locals := 0 } : Room) (cRd D (aTy cB cI cJ cZ) [(h0, .inr (3, [.ref p0, .ref p1, .int (nI a), .int b3])), (p0, .inl (cI, 8, .inl f0)), (p1, .inl (cI, 8, .inl f1))] [.ref h0, .int ch, .int pr]) (vp_Si (fun r : Int32 => r = vtS f0 f1 pr ch a)) 0 0 (fun _ => False) := by
  refine Met.ofW (cc := cX3_votesFor) (maxL := 5) (ret := (some .int)) (by decide) rfl ?_
  intro p e s m args below meth c s₁ B hml hv
  obtain ⟨rfl, hP, hK⟩ := hv
  have hx := B.exec
  have hb := B.bytes
  have hr := B.returns
  have hts := atoms_spec (ws := wsX3_votesFor) B.pre
  have hown : s.vm.findClass RX3 = some m.cls := findClass_of_methodNamed B.named
  have hlocks := B.notSynchronized
  have hP : va_P D vwCl [(h0, .inr (3, [.ref p0, .ref p1, .int (nI a), .int b3])), (p0, .inl (cI, 8, .inl f0)), (p1, .inl (cI, 8, .inl f1))] s.heap := hP
  have w_1 : ∀ w ∈ wsX30, w ∈ wsX3_votesFor := by decide +kernel
  have w_2 := hts (Cond.fieldLink RX3 18 "BlueCoats$Givers" "number" "I") (by decide +kernel)
  have w_3 := hts (Cond.fieldLink RX3 15 "BlueCoats$Givers" "supported" "[I") (by decide +kernel)
  have w_4 := hts (Cond.fieldLink RX3 11 "BlueCoats$Givers" "gave" "[I") (by decide +kernel)
  have hl := lv_entry ([.ref h0, .int ch, .int pr]) (n := 5) (Nat.le_of_ble_eq_true rfl)
  rw [lg_entry_eq]
  generalize (lg_sl ([.ref h0, .int ch, .int pr]) ++ List.replicate (5 - (lg_sl ([.ref h0, .int ch, .int pr])).length) Slot.unset).toArray = ls at hl ⊢
  have hl : lv_has ls 5 [(0, .ref h0), (1, .int ch), (2, .int pr)] := hl
  generalize hQ : MQ below _ _ s _ _ _ = Q0
  refine lv_iconst (v := 0) hx hb dX3_votesFor_0 (by decide) ?_
  refine lv_istore_n (lv' := [(3, .int 0), (0, .ref h0), (1, .int ch), (2, .int pr)]) hx hb dX3_votesFor_1 rfl hl (by decide) rfl (fun ls hl => ?_)
  refine lv_iconst (v := 0) hx hb dX3_votesFor_2 (by decide) ?_
  refine lv_istore (lv' := [(4, .int 0), (3, .int 0), (0, .ref h0), (1, .int ch), (2, .int pr)]) hx hb dX3_votesFor_3 hl (by decide) rfl (fun ls hl => ?_)
  have L_1 : ∀ (n : Nat) (i_5 : Nat) (l_3_5 : Int32) (ls : Array Slot), a - i_5 < n → (i_5 ≤ a) → (l_3_5 = vtS f0 f1 pr ch i_5) → va_P D vwCl [(h0, .inr (3, [.ref p0, .ref p1, .int (nI a), .int b3])), (p0, .inl (cI, 8, .inl f0)), (p1, .inl (cI, 8, .inl f1))] s.heap → lv_has ls 5 [(0, .ref h0), (1, .int ch), (2, .int pr), (3, .int l_3_5), (4, .int (nI i_5))] → W p l e (headSpec wsX3_votesFor ({ frames := 0, cells := 0, slots := 0, locals := 0 } : Room)).room s m ([.ref h0, .int ch, .int pr] : List Value).toArray below meth c s.heap [] 0 0 Q0 (F0 m 5 ls []) := by
    intro n
    induction n with
    | zero => intro i_5 l_3_5 ls hn_5 hle_5 hv_5 hP hl; exact absurd hn_5 (Nat.not_lt_zero _)
    | succ n ih_L_1 =>
      intro i_5 l_3_5 ls hn_5 hle_5 hv_5 hP hl
      refine lv_iload hx hb dX3_votesFor_5 (lv_at hl 4 rfl) ?_
      refine lv_aload_n hx hb dX3_votesFor_7 rfl (lv_at hl 0 rfl) ?_
      refine va_get (D := D) (ci := 3) (v := .int (nI a)) (C := RX3) (T := TX3) (N := 4) hx hb hts w_1 hown hK hP 0 rfl rfl 2 (by decide) w_2 (fun _ h9 => h9) rfl dX3_votesFor_8 ?_
      refine lv_icmp_ge (tgt := 47) hx hb dX3_votesFor_11 (by decide) (fun c_11 => ?_) (fun c_11 => ?_)
      ·
        refine lv_iload_n hx hb dX3_votesFor_47 rfl (lv_at hl 3 rfl) ?_
        rw [← hQ]
        exact W.iret (v := l_3_5) hx hb hr (fun t ht hW => ⟨_, rfl, by rw [hv_5, (Nat.le_antisymm hle_5 (ge3 (by omega) hle_5 c_11))], ht⟩) (fun q h => nomatch h) dX3_votesFor_48
      ·
        have hb_5 : i_5 < a := lt3 (by omega) hle_5 c_11
        refine lv_aload_n hx hb dX3_votesFor_14 rfl (lv_at hl 0 rfl) ?_
        refine va_get (D := D) (ci := 3) (v := .ref p1) (C := RX3) (T := TX3) (N := 4) hx hb hts w_1 hown hK hP 0 rfl rfl 1 (by decide) w_3 (fun _ h9 => h9) rfl dX3_votesFor_15 ?_
        refine lv_iload hx hb dX3_votesFor_18 (lv_at hl 4 rfl) ?_
        refine sv_iald (v := f1 i_5) hx hb hK hP 2 1 rfl rfl (vp_in_nI (by omega) (by decide)) (congrArg _ (nI_clamp (by omega))) dX3_votesFor_20 ?_
        refine lv_iload_n hx hb dX3_votesFor_21 rfl (lv_at hl 1 rfl) ?_
        refine lv_icmp_ne (tgt := 41) hx hb dX3_votesFor_22 (by decide) (fun c_22 => ?_) (fun c_22 => ?_)
        ·
          refine lv_iinc (v := nI (i_5 + 1)) (lv' := [(4, .int (nI (i_5 + 1))), (0, .ref h0), (1, .int ch), (2, .int pr), (3, .int l_3_5)]) hx hb dX3_votesFor_41 hl (k := 4) rfl (ax_add _ 1) (by decide) rfl (fun ls hl => ?_)
          refine lv_goto (tgt := 5) hx hb dX3_votesFor_44 (by decide) ?_
          exact ih_L_1 (i_5 + 1) l_3_5 ls (by omega) (by omega) (vt_n hv_5 c_22) hP (lv_sub hl [1, 2, 3, 4, 0] rfl)
        ·
          refine lv_iload_n hx hb dX3_votesFor_25 rfl (lv_at hl 2 rfl) ?_
          refine lv_if_le (tgt := 41) hx hb dX3_votesFor_26 (by decide) (fun h => absurd h hpr) (fun _ => ?_)
          refine lv_iload_n hx hb dX3_votesFor_29 rfl (lv_at hl 3 rfl) ?_
          refine lv_aload_n hx hb dX3_votesFor_30 rfl (lv_at hl 0 rfl) ?_
          refine va_get (D := D) (ci := 3) (v := .ref p0) (C := RX3) (T := TX3) (N := 4) hx hb hts w_1 hown hK hP 0 rfl rfl 0 (by decide) w_4 (fun _ h9 => h9) rfl dX3_votesFor_31 ?_
          refine lv_iload hx hb dX3_votesFor_34 (lv_at hl 4 rfl) ?_
          refine sv_iald (v := f0 i_5) hx hb hK hP 1 1 rfl rfl (vp_in_nI (by omega) (by decide)) (congrArg _ (nI_clamp (by omega))) dX3_votesFor_36 ?_
          refine lv_iload_n hx hb dX3_votesFor_37 rfl (lv_at hl 2 rfl) ?_
          refine sv_idiv (v := (f0 i_5) / pr) hx hb dX3_votesFor_38 (fun h => hpr (by rw [h]; decide)) rfl ?_
          refine sv_iadd (v := l_3_5 + ((f0 i_5) / pr)) hx hb dX3_votesFor_39 rfl ?_
          refine lv_istore_n (lv' := [(3, .int (l_3_5 + ((f0 i_5) / pr))), (0, .ref h0), (1, .int ch), (2, .int pr), (4, .int (nI i_5))]) hx hb dX3_votesFor_40 rfl hl (by decide) rfl (fun ls hl => ?_)
          refine lv_iinc (v := nI (i_5 + 1)) (lv' := [(4, .int (nI (i_5 + 1))), (3, .int (l_3_5 + ((f0 i_5) / pr))), (0, .ref h0), (1, .int ch), (2, .int pr)]) hx hb dX3_votesFor_41 hl (k := 4) rfl (ax_add _ 1) (by decide) rfl (fun ls hl => ?_)
          refine lv_goto (tgt := 5) hx hb dX3_votesFor_44 (by decide) ?_
          exact ih_L_1 (i_5 + 1) (l_3_5 + ((f0 i_5) / pr)) ls (by omega) (by omega) (vt_y hv_5 c_22) hP (lv_sub hl [2, 3, 4, 1, 0] rfl)
  exact L_1 _ 0 0 ls (Nat.lt_succ_self _) (by first | exact Nat.zero_le _ | omega) rfl hP (lv_sub hl [2, 3, 4, 1, 0] rfl)

set_option maxHeartbeats 4000000 in
set_option maxRecDepth 100000 in
theorem f_X3_childOf (l : Launch) (D : va_G) (cB cI cJ cZ : ClassId) (h0 p0 p1 a : Nat) (b3 : Int32) (f0 f1 : Nat → Int32) (j : Nat) (ha : a ≤ 8) (hj : j < a) : Met l yX3_childOf wsX3_childOf ({ frames := 1, cells := 0, slots := 0, locals := 21 } : Room) (cRd D (aTy cB cI cJ cZ) [(h0, .inr (3, [.ref p0, .ref p1, .int (nI a), .int b3])), (p1, .inl (cI, 8, .inl f1))] [.ref h0, .int (nI j)]) (vp_Si (fun r : Int32 => r = f1 j)) 0 0 (fun _ => False) := by
  refine Met.ofW (cc := cX3_childOf) (maxL := 2) (ret := (some .int)) (by decide) rfl ?_
  intro p e s m args below meth c s₁ B hml hv
  obtain ⟨rfl, hP, hK⟩ := hv
  have hx := B.exec
  have hb := B.bytes
  have hr := B.returns
  have hts := atoms_spec (ws := wsX3_childOf) B.pre
  have hown : s.vm.findClass RX3 = some m.cls := findClass_of_methodNamed B.named
  have hlocks := B.notSynchronized
  have hP : va_P D vwCl [(h0, .inr (3, [.ref p0, .ref p1, .int (nI a), .int b3])), (p1, .inl (cI, 8, .inl f1))] s.heap := hP
  have w_1 : ∀ w ∈ wsX30, w ∈ wsX3_childOf := by decide +kernel
  have w_2 := hts (Cond.fieldLink RX3 15 "BlueCoats$Givers" "supported" "[I") (by decide +kernel)
  have hl := lv_entry ([.ref h0, .int (nI j)]) (n := 2) (Nat.le_of_ble_eq_true rfl)
  rw [lg_entry_eq]
  generalize (lg_sl ([.ref h0, .int (nI j)]) ++ List.replicate (2 - (lg_sl ([.ref h0, .int (nI j)])).length) Slot.unset).toArray = ls at hl ⊢
  have hl : lv_has ls 2 [(0, .ref h0), (1, .int (nI j))] := hl
  refine lv_aload_n hx hb dX3_childOf_0 rfl (lv_at hl 0 rfl) ?_
  refine lv_iload_n hx hb dX3_childOf_1 rfl (lv_at hl 1 rfl) ?_
  refine vp_callSi (va_Run.run (va_runV (As := [.int (nI j)]) (rest := []) ⟨hx, hb, hml, hown, hts⟩ (g_X3_has l D cB cI cJ cZ h0 p0 p1 a b3 (nI j) (by omega)) (cwV 1 hts gX3_childOf_X3_has rfl rfl rfl (by decide +kernel) ⟨Nat.le_of_ble_eq_true rfl, Nat.le_of_ble_eq_true rfl⟩) (pre_VR (hP.sub (ws' := [(h0, .inr (3, [.ref p0, .ref p1, .int (nI a), .int b3]))]) [0] rfl) hK 0 rfl rfl rfl) rfl rfl hl.1 rfl (lv_room (Nat.le_of_ble_eq_true rfl)) dX3_childOf_2 ⟨Nat.le_of_ble_eq_true rfl, Nat.le_of_ble_eq_true rfl⟩)) (fun r_1 hw_r_1 => ?_)
  refine lv_if_eq (tgt := 17) hx hb dX3_childOf_5 (by decide) (fun c_5 => ?_) (fun c_5 => ?_)
  ·
    refine lv_iconst (v := (-1)) hx hb dX3_childOf_17 (by decide) ?_
    exact absurd (vp_in_nI hj (by omega)) (has_out hw_r_1 c_5)
  ·
    refine lv_aload_n hx hb dX3_childOf_8 rfl (lv_at hl 0 rfl) ?_
    refine va_get (D := D) (ci := 3) (v := .ref p1) (C := RX3) (T := TX3) (N := 4) hx hb hts w_1 hown hK hP 0 rfl rfl 1 (by decide) w_2 (fun _ h9 => h9) rfl dX3_childOf_9 ?_
    refine lv_iload_n hx hb dX3_childOf_12 rfl (lv_at hl 1 rfl) ?_
    refine sv_iald (v := f1 j) hx hb hK hP 1 1 rfl rfl (vp_in_nI (by omega) (by decide)) (congrArg _ (nI_clamp (by omega))) dX3_childOf_13 ?_
    refine lv_goto (tgt := 18) hx hb dX3_childOf_14 (by decide) ?_
    exact W.iret (v := f1 j) hx hb hr (fun t ht hW => ⟨_, rfl, rfl, ht⟩) (fun q h => nomatch h) dX3_childOf_18

set_option maxHeartbeats 4000000 in
set_option maxRecDepth 100000 in
theorem f_X1_grow (l : Launch) (D : va_G) (cB cI cJ cZ : ClassId) (sz : Nat) (h0 p0 p1 p2 p3 p4 p5 a : Nat) (f0 f2 f3 : Nat → Int32) (j : Nat) (ha : a ≤ 16) (hj : j < a) : Met l yX1_grow wsX1_grow ({ frames := 1, cells := 0, slots := 0, locals := 21 } : Room) (cPre D (aTy cB cI cJ cZ) [(h0, .inr (1, [.ref p0, .ref p1, .ref p2, .ref p3, .ref p4, .ref p5, .int (nI a)])), (p0, .inl (cI, 16, .inl f0)), (p2, .inl (cI, 16, .inl f2)), (p3, .inl (cI, 16, .inl f3))] sz [.ref h0, .int (nI j)]) (va_Qv (fun (u : (Nat → Int32) × (Nat → Int32)) => u.1 = upd f0 j (gA (f0 j)) ∧ u.2 = upd f2 j (gS (f2 j) (f3 j))) (cB_ D (aTy cB cI cJ cZ) (va_A [(h0, .inr (1, [.ref p0, .ref p1, .ref p2, .ref p3, .ref p4, .ref p5, .int (nI a)])), (p0, .inl (cI, 16, .inl f0)), (p2, .inl (cI, 16, .inl f2)), (p3, .inl (cI, 16, .inl f3))] sz) (fun u => [(h0, .inr (1, [.ref p0, .ref p1, .ref p2, .ref p3, .ref p4, .ref p5, .int (nI a)])), (p0, .inl (cI, 16, .inl u.1)), (p2, .inl (cI, 16, .inl u.2)), (p3, .inl (cI, 16, .inl f3))])) (va_A [(h0, .inr (1, [.ref p0, .ref p1, .ref p2, .ref p3, .ref p4, .ref p5, .int (nI a)])), (p0, .inl (cI, 16, .inl f0)), (p2, .inl (cI, 16, .inl f2)), (p3, .inl (cI, 16, .inl f3))] sz)) 0 0 (va_A [(h0, .inr (1, [.ref p0, .ref p1, .ref p2, .ref p3, .ref p4, .ref p5, .int (nI a)])), (p0, .inl (cI, 16, .inl f0)), (p2, .inl (cI, 16, .inl f2)), (p3, .inl (cI, 16, .inl f3))] sz) := by
  refine Met.ofW (cc := cX1_grow) (maxL := 2) (ret := none) (by decide) rfl ?_
  intro p e s m args below meth c s₁ B hml hv
  obtain ⟨rfl, hsz, hP, hK, hD0⟩ := hv
  have hx := B.exec
  have hb := B.bytes
  have hr := B.returns
  have hts := atoms_spec (ws := wsX1_grow) B.pre
  have hown : s.vm.findClass RX1 = some m.cls := findClass_of_methodNamed B.named
  have hlocks := B.notSynchronized
  subst hsz
  have hD := hD0.self (sz := s.heap.size)
  generalize hAe : va_A [(h0, .inr (1, [.ref p0, .ref p1, .ref p2, .ref p3, .ref p4, .ref p5, .int (nI a)])), (p0, .inl (cI, 16, .inl f0)), (p2, .inl (cI, 16, .inl f2)), (p3, .inl (cI, 16, .inl f3))] s.heap.size = A at hD ⊢
  have hA : ∀ q : Nat, s.heap.size ≤ q → A q := fun q h => by rw [← hAe]; exact Or.inr h
  have hS : va_S A s.heap s.heap [] := va_S.rf
  have hP : va_P D vwCl [(h0, .inr (1, [.ref p0, .ref p1, .ref p2, .ref p3, .ref p4, .ref p5, .int (nI a)])), (p0, .inl (cI, 16, .inl f0)), (p2, .inl (cI, 16, .inl f2)), (p3, .inl (cI, 16, .inl f3))] s.heap := hP
  have w_1 : ∀ w ∈ wsX10, w ∈ wsX1_grow := by decide +kernel
  have w_2 := hts (Cond.fieldLink RX1 11 "BlueCoats$Children" "age" "[I") (by decide +kernel)
  have w_3 := hts (Cond.methodLink RX1 42 Lib.Math.min.name) (by decide +kernel)
  have w_4 := hts (Cond.static Lib.Math.min.name) (by decide +kernel)
  have w_5 := hts (Cond.initialized "java/lang/Math") (by decide +kernel)
  have w_6 := hts (Cond.code Lib.Math.min.name Lib.Math.min.code 2 (some .int)) (by decide +kernel)
  have w_7 := hts (Cond.fieldLink RX1 18 "BlueCoats$Children" "size" "[I") (by decide +kernel)
  have w_8 := hts (Cond.fieldLink RX1 21 "BlueCoats$Children" "growth" "[I") (by decide +kernel)
  have hl := lv_entry ([.ref h0, .int (nI j)]) (n := 2) (Nat.le_of_ble_eq_true rfl)
  rw [lg_entry_eq]
  generalize (lg_sl ([.ref h0, .int (nI j)]) ++ List.replicate (2 - (lg_sl ([.ref h0, .int (nI j)])).length) Slot.unset).toArray = ls at hl ⊢
  have hl : lv_has ls 2 [(0, .ref h0), (1, .int (nI j))] := hl
  refine lv_aload_n hx hb dX1_grow_0 rfl (lv_at hl 0 rfl) ?_
  refine lv_iload_n hx hb dX1_grow_1 rfl (lv_at hl 1 rfl) ?_
  refine vp_callSi (va_Run.run (va_runV (As := [.int (nI j)]) (rest := []) ⟨hx, hb, hml, hown, hts⟩ (g_X1_has l D cB cI cJ cZ h0 p0 p1 p2 p3 p4 p5 a (nI j) (by omega)) (cwV 1 hts gX1_grow_X1_has rfl rfl rfl (by decide +kernel) ⟨Nat.le_of_ble_eq_true rfl, Nat.le_of_ble_eq_true rfl⟩) (pre_VR (hP.sub (ws' := [(h0, .inr (1, [.ref p0, .ref p1, .ref p2, .ref p3, .ref p4, .ref p5, .int (nI a)]))]) [0] rfl) hK 0 rfl rfl rfl) rfl rfl hl.1 rfl (lv_room (Nat.le_of_ble_eq_true rfl)) dX1_grow_2 ⟨Nat.le_of_ble_eq_true rfl, Nat.le_of_ble_eq_true rfl⟩)) (fun r_1 hw_r_1 => ?_)
  refine lv_if_eq (tgt := 51) hx hb dX1_grow_5 (by decide) (fun c_5 => ?_) (fun c_5 => ?_)
  ·
    exact absurd (vp_in_nI hj (by omega)) (has_out hw_r_1 c_5)
  ·
    refine lv_aload_n hx hb dX1_grow_8 rfl (lv_at hl 0 rfl) ?_
    refine va_get (D := D) (ci := 1) (v := .ref p0) (C := RX1) (T := TX1) (N := 7) hx hb hts w_1 hown hK hP 0 rfl rfl 0 (by decide) w_2 (fun _ h9 => h9) rfl dX1_grow_9 ?_
    refine lv_iload_n hx hb dX1_grow_12 rfl (lv_at hl 1 rfl) ?_
    refine lv_bipush (v := 99) hx hb dX1_grow_13 (by decide) ?_
    refine lv_aload_n hx hb dX1_grow_15 rfl (lv_at hl 0 rfl) ?_
    refine va_get (D := D) (ci := 1) (v := .ref p0) (C := RX1) (T := TX1) (N := 7) hx hb hts w_1 hown hK hP 0 rfl rfl 0 (by decide) w_2 (fun _ h9 => h9) rfl dX1_grow_16 ?_
    refine lv_iload_n hx hb dX1_grow_19 rfl (lv_at hl 1 rfl) ?_
    refine sv_iald (v := f0 j) hx hb hK hP 1 1 rfl rfl (vp_in_nI (by omega) (by decide)) (congrArg _ (nI_clamp (by omega))) dX1_grow_20 ?_
    refine lv_iconst (v := 1) hx hb dX1_grow_21 (by decide) ?_
    refine sv_iadd (v := (f0 j) + 1) hx hb dX1_grow_22 rfl ?_
    refine va_mmin (x := 99) (y := (f0 j) + 1) hx hb (by rw [hml]; exact hl.1.symm) hown w_3 w_4 w_5 w_6 (Nat.le_of_ble_eq_true rfl) (Nat.le_of_ble_eq_true rfl) (Nat.le_of_ble_eq_true rfl) (Nat.le_of_ble_eq_true rfl) dX1_grow_23 ?_
    refine lv_topi (fun v_2 ev_2 => ?_)
    refine sv_iast hx hb hK hP hD hS 1 1 rfl rfl (vp_in_nI (by omega) (by decide)) dX1_grow_26 (fun g_3 H locs eg_3 hP hD hS => ?_)
    have eg_3 : g_3 = upd f0 j v_2 := ist eg_3 (by omega)
    subst eg_3
    have hP : va_P D vwCl [(h0, .inr (1, [.ref p0, .ref p1, .ref p2, .ref p3, .ref p4, .ref p5, .int (nI a)])), (p0, .inl (cI, 16, .inl (upd f0 j v_2))), (p2, .inl (cI, 16, .inl f2)), (p3, .inl (cI, 16, .inl f3))] H := hP
    have hD : va_D A [(h0, .inr (1, [.ref p0, .ref p1, .ref p2, .ref p3, .ref p4, .ref p5, .int (nI a)])), (p0, .inl (cI, 16, .inl (upd f0 j v_2))), (p2, .inl (cI, 16, .inl f2)), (p3, .inl (cI, 16, .inl f3))] := hD
    refine lv_aload_n hx hb dX1_grow_27 rfl (lv_at hl 0 rfl) ?_
    refine va_get (D := D) (ci := 1) (v := .ref p2) (C := RX1) (T := TX1) (N := 7) hx hb hts w_1 hown hK hP 0 rfl rfl 2 (by decide) w_7 (fun _ h9 => h9) rfl dX1_grow_28 ?_
    refine lv_iload_n hx hb dX1_grow_31 rfl (lv_at hl 1 rfl) ?_
    refine lv_bipush (v := 99) hx hb dX1_grow_32 (by decide) ?_
    refine lv_aload_n hx hb dX1_grow_34 rfl (lv_at hl 0 rfl) ?_
    refine va_get (D := D) (ci := 1) (v := .ref p2) (C := RX1) (T := TX1) (N := 7) hx hb hts w_1 hown hK hP 0 rfl rfl 2 (by decide) w_7 (fun _ h9 => h9) rfl dX1_grow_35 ?_
    refine lv_iload_n hx hb dX1_grow_38 rfl (lv_at hl 1 rfl) ?_
    refine sv_iald (v := f2 j) hx hb hK hP 2 1 rfl rfl (vp_in_nI (by omega) (by decide)) (congrArg _ (nI_clamp (by omega))) dX1_grow_39 ?_
    refine lv_aload_n hx hb dX1_grow_40 rfl (lv_at hl 0 rfl) ?_
    refine va_get (D := D) (ci := 1) (v := .ref p3) (C := RX1) (T := TX1) (N := 7) hx hb hts w_1 hown hK hP 0 rfl rfl 3 (by decide) w_8 (fun _ h9 => h9) rfl dX1_grow_41 ?_
    refine lv_iload_n hx hb dX1_grow_44 rfl (lv_at hl 1 rfl) ?_
    refine sv_iald (v := f3 j) hx hb hK hP 3 1 rfl rfl (vp_in_nI (by omega) (by decide)) (congrArg _ (nI_clamp (by omega))) dX1_grow_45 ?_
    refine sv_iadd (v := (f2 j) + (f3 j)) hx hb dX1_grow_46 rfl ?_
    refine va_mmin (x := 99) (y := (f2 j) + (f3 j)) hx hb (by rw [hml]; exact hl.1.symm) hown w_3 w_4 w_5 w_6 (Nat.le_of_ble_eq_true rfl) (Nat.le_of_ble_eq_true rfl) (Nat.le_of_ble_eq_true rfl) (Nat.le_of_ble_eq_true rfl) dX1_grow_47 ?_
    refine lv_topi (fun v_4 ev_4 => ?_)
    refine sv_iast hx hb hK hP hD hS 2 1 rfl rfl (vp_in_nI (by omega) (by decide)) dX1_grow_50 (fun g_5 H locs eg_5 hP hD hS => ?_)
    have eg_5 : g_5 = upd f2 j v_4 := ist eg_5 (by omega)
    subst eg_5
    have hP : va_P D vwCl [(h0, .inr (1, [.ref p0, .ref p1, .ref p2, .ref p3, .ref p4, .ref p5, .int (nI a)])), (p0, .inl (cI, 16, .inl (upd f0 j v_2))), (p2, .inl (cI, 16, .inl (upd f2 j v_4))), (p3, .inl (cI, 16, .inl f3))] H := hP
    have hD : va_D A [(h0, .inr (1, [.ref p0, .ref p1, .ref p2, .ref p3, .ref p4, .ref p5, .int (nI a)])), (p0, .inl (cI, 16, .inl (upd f0 j v_2))), (p2, .inl (cI, 16, .inl (upd f2 j v_4))), (p3, .inl (cI, 16, .inl f3))] := hD
    have hP9 := hP.sub (ws' := [(h0, .inr (1, [.ref p0, .ref p1, .ref p2, .ref p3, .ref p4, .ref p5, .int (nI a)])), (p0, .inl (cI, 16, .inl (upd f0 j v_2))), (p2, .inl (cI, 16, .inl (upd f2 j v_4))), (p3, .inl (cI, 16, .inl f3))]) [0, 1, 2, 3] rfl
    have hD9 := hD.sub (ws' := [(h0, .inr (1, [.ref p0, .ref p1, .ref p2, .ref p3, .ref p4, .ref p5, .int (nI a)])), (p0, .inl (cI, 16, .inl (upd f0 j v_2))), (p2, .inl (cI, 16, .inl (upd f2 j v_4))), (p3, .inl (cI, 16, .inl f3))]) [0, 1, 2, 3] (by decide) rfl
    exact W.vret hx hb hr (fun t ht hW => ⟨⟨(upd f0 j v_2, upd f2 j v_4), rfl, ⟨by rw [ev_2]; rfl, by rw [ev_4]; rfl⟩, by rw [ht]; exact hP9, va_K.moved hW.alike hK, hD9⟩, hS.F ht⟩) hS.2.2 dX1_grow_51

set_option maxHeartbeats 4000000 in
set_option maxRecDepth 100000 in
theorem f_X5_way (l : Launch) (D : va_G) (cB cI cJ cZ : ClassId) (h0 p0 : Nat) (b1 b2 b3 b4 b5 b6 b7 b8 : Int32) (f0 : Nat → Int32) : Met l yX5_wayNext wsX5_wayNext ({ frames := 0, cells := 0, slots := 0, locals := 0 } : Room) (cRd D (aTy cB cI cJ cZ) [(h0, .inr (5, [.ref p0, .int b1, .int b2, .int b3, .int b4, .int b5, .int b6, .int b7, .int b8])), (p0, .inl (cI, 8, .inl f0))] [.ref h0]) (vp_Si (fun r : Int32 => (vp_in b2 8 ∧ r = f0 b2.toNatClampNeg) ∨ (¬ vp_in b2 8 ∧ r = 2))) 0 0 (fun _ => False) := by
  refine Met.ofW (cc := cX5_wayNext) (maxL := 1) (ret := (some .int)) (by decide) rfl ?_
  intro p e s m args below meth c s₁ B hml hv
  obtain ⟨rfl, hP, hK⟩ := hv
  have hx := B.exec
  have hb := B.bytes
  have hr := B.returns
  have hts := atoms_spec (ws := wsX5_wayNext) B.pre
  have hown : s.vm.findClass RX5 = some m.cls := findClass_of_methodNamed B.named
  have hlocks := B.notSynchronized
  have hP : va_P D vwCl [(h0, .inr (5, [.ref p0, .int b1, .int b2, .int b3, .int b4, .int b5, .int b6, .int b7, .int b8])), (p0, .inl (cI, 8, .inl f0))] s.heap := hP
  have w_1 : ∀ w ∈ wsX50, w ∈ wsX5_wayNext := by decide +kernel
  have w_2 := hts (Cond.fieldLink RX5 22 "BlueCoats$Statutes" "next" "I") (by decide +kernel)
  have w_3 := hts (Cond.fieldLink RX5 11 "BlueCoats$Statutes" "cycle" "[I") (by decide +kernel)
  have hl := lv_entry ([.ref h0]) (n := 1) (Nat.le_of_ble_eq_true rfl)
  rw [lg_entry_eq]
  generalize (lg_sl ([.ref h0]) ++ List.replicate (1 - (lg_sl ([.ref h0])).length) Slot.unset).toArray = ls at hl ⊢
  have hl : lv_has ls 1 [(0, .ref h0)] := hl
  refine lv_aload_n hx hb dX5_wayNext_0 rfl (lv_at hl 0 rfl) ?_
  refine va_get (D := D) (ci := 5) (v := .int b2) (C := RX5) (T := TX5) (N := 9) hx hb hts w_1 hown hK hP 0 rfl rfl 2 (by decide) w_2 (fun _ h9 => h9) rfl dX5_wayNext_1 ?_
  refine lv_if_lt (tgt := 28) hx hb dX5_wayNext_4 (by decide) (fun c_4 => ?_) (fun c_4 => ?_)
  ·
    refine lv_iconst (v := 2) hx hb dX5_wayNext_28 (by decide) ?_
    exact W.iret (v := 2) hx hb hr (fun t ht hW => ⟨_, rfl, Or.inr ⟨in_no1 c_4, rfl⟩, ht⟩) (fun q h => nomatch h) dX5_wayNext_29
  ·
    refine lv_aload_n hx hb dX5_wayNext_7 rfl (lv_at hl 0 rfl) ?_
    refine va_get (D := D) (ci := 5) (v := .int b2) (C := RX5) (T := TX5) (N := 9) hx hb hts w_1 hown hK hP 0 rfl rfl 2 (by decide) w_2 (fun _ h9 => h9) rfl dX5_wayNext_8 ?_
    refine lv_bipush (v := 8) hx hb dX5_wayNext_11 (by decide) ?_
    refine lv_icmp_ge (tgt := 28) hx hb dX5_wayNext_13 (by decide) (fun c_13 => ?_) (fun c_13 => ?_)
    ·
      refine lv_iconst (v := 2) hx hb dX5_wayNext_28 (by decide) ?_
      exact W.iret (v := 2) hx hb hr (fun t ht hW => ⟨_, rfl, Or.inr ⟨in_no2 (a := 8) (by decide) c_13, rfl⟩, ht⟩) (fun q h => nomatch h) dX5_wayNext_29
    ·
      refine lv_aload_n hx hb dX5_wayNext_16 rfl (lv_at hl 0 rfl) ?_
      refine va_get (D := D) (ci := 5) (v := .ref p0) (C := RX5) (T := TX5) (N := 9) hx hb hts w_1 hown hK hP 0 rfl rfl 0 (by decide) w_3 (fun _ h9 => h9) rfl dX5_wayNext_17 ?_
      refine lv_aload_n hx hb dX5_wayNext_20 rfl (lv_at hl 0 rfl) ?_
      refine va_get (D := D) (ci := 5) (v := .int b2) (C := RX5) (T := TX5) (N := 9) hx hb hts w_1 hown hK hP 0 rfl rfl 2 (by decide) w_2 (fun _ h9 => h9) rfl dX5_wayNext_21 ?_
      refine sv_iald (v := f0 b2.toNatClampNeg) hx hb hK hP 1 1 rfl rfl (in_yes (a := 8) (by decide) c_4 c_13) rfl dX5_wayNext_24 ?_
      refine lv_goto (tgt := 29) hx hb dX5_wayNext_25 (by decide) ?_
      exact W.iret (v := f0 b2.toNatClampNeg) hx hb hr (fun t ht hW => ⟨_, rfl, Or.inl ⟨in_yes (a := 8) (by decide) c_4 c_13, rfl⟩, ht⟩) (fun q h => nomatch h) dX5_wayNext_29

set_option maxHeartbeats 4000000 in
set_option maxRecDepth 100000 in
theorem f_X5_goOn (l : Launch) (D : va_G) (cB cI cJ cZ : ClassId) (sz : Nat) (h0 p0 : Nat) (b1 b2 b3 b4 b5 b6 b7 b8 : Int32) (f0 : Nat → Int32) : Met l yX5_goOn wsX5_goOn ({ frames := 0, cells := 0, slots := 0, locals := 0 } : Room) (cPre D (aTy cB cI cJ cZ) [(h0, .inr (5, [.ref p0, .int b1, .int b2, .int b3, .int b4, .int b5, .int b6, .int b7, .int b8]))] sz [.ref h0]) (va_Qv (fun (u : Int32) => u = goN b1 b2) (cB_ D (aTy cB cI cJ cZ) (va_A [(h0, .inr (5, [.ref p0, .int b1, .int b2, .int b3, .int b4, .int b5, .int b6, .int b7, .int b8]))] sz) (fun u => [(h0, .inr (5, [.ref p0, .int b1, .int (u), .int b3, .int b4, .int b5, .int b6, .int b7, .int b8]))])) (va_A [(h0, .inr (5, [.ref p0, .int b1, .int b2, .int b3, .int b4, .int b5, .int b6, .int b7, .int b8]))] sz)) 0 0 (va_A [(h0, .inr (5, [.ref p0, .int b1, .int b2, .int b3, .int b4, .int b5, .int b6, .int b7, .int b8]))] sz) := by
  refine Met.ofW (cc := cX5_goOn) (maxL := 1) (ret := none) (by decide) rfl ?_
  intro p e s m args below meth c s₁ B hml hv
  obtain ⟨rfl, hsz, hP, hK, hD0⟩ := hv
  have hx := B.exec
  have hb := B.bytes
  have hr := B.returns
  have hts := atoms_spec (ws := wsX5_goOn) B.pre
  have hown : s.vm.findClass RX5 = some m.cls := findClass_of_methodNamed B.named
  have hlocks := B.notSynchronized
  subst hsz
  have hD := hD0.self (sz := s.heap.size)
  generalize hAe : va_A [(h0, .inr (5, [.ref p0, .int b1, .int b2, .int b3, .int b4, .int b5, .int b6, .int b7, .int b8]))] s.heap.size = A at hD ⊢
  have hA : ∀ q : Nat, s.heap.size ≤ q → A q := fun q h => by rw [← hAe]; exact Or.inr h
  have hS : va_S A s.heap s.heap [] := va_S.rf
  have hP : va_P D vwCl [(h0, .inr (5, [.ref p0, .int b1, .int b2, .int b3, .int b4, .int b5, .int b6, .int b7, .int b8]))] s.heap := hP
  have w_1 : ∀ w ∈ wsX50, w ∈ wsX5_goOn := by decide +kernel
  have w_2 := hts (Cond.fieldLink RX5 22 "BlueCoats$Statutes" "next" "I") (by decide +kernel)
  have w_3 := hts (Cond.fieldLink RX5 18 "BlueCoats$Statutes" "ways" "I") (by decide +kernel)
  have hl := lv_entry ([.ref h0]) (n := 1) (Nat.le_of_ble_eq_true rfl)
  rw [lg_entry_eq]
  generalize (lg_sl ([.ref h0]) ++ List.replicate (1 - (lg_sl ([.ref h0])).length) Slot.unset).toArray = ls at hl ⊢
  have hl : lv_has ls 1 [(0, .ref h0)] := hl
  refine lv_aload_n hx hb dX5_goOn_0 rfl (lv_at hl 0 rfl) ?_
  refine lv_aload_n hx hb dX5_goOn_1 rfl (lv_at hl 0 rfl) ?_
  refine va_get (D := D) (ci := 5) (v := .int b2) (C := RX5) (T := TX5) (N := 9) hx hb hts w_1 hown hK hP 0 rfl rfl 2 (by decide) w_2 (fun _ h9 => h9) rfl dX5_goOn_2 ?_
  refine lv_iconst (v := 1) hx hb dX5_goOn_5 (by decide) ?_
  refine sv_iadd (v := b2 + 1) hx hb dX5_goOn_6 rfl ?_
  refine lv_aload_n hx hb dX5_goOn_7 rfl (lv_at hl 0 rfl) ?_
  refine va_get (D := D) (ci := 5) (v := .int b1) (C := RX5) (T := TX5) (N := 9) hx hb hts w_1 hown hK hP 0 rfl rfl 1 (by decide) w_3 (fun _ h9 => h9) rfl dX5_goOn_8 ?_
  refine lv_icmp_ge (tgt := 23) hx hb dX5_goOn_11 (by decide) (fun c_11 => ?_) (fun c_11 => ?_)
  ·
    refine lv_iconst (v := 0) hx hb dX5_goOn_23 (by decide) ?_
    refine va_put (D := D) (ci := 5) (v := .int 0) (ty := .int) (C := RX5) (T := TX5) (N := 9) hx hb hts w_1 tyX5 tyX5_ok nmX5 hown hK hP hD hS 0 rfl rfl 2 (by decide) w_2 (fun _ h9 => h9) rfl (by decide +kernel) rfl rfl (Nat.le_of_ble_eq_true rfl) dX5_goOn_24 (fun H locs hP hD hS => ?_)
    have hP : va_P D vwCl [(h0, .inr (5, [.ref p0, .int b1, .int 0, .int b3, .int b4, .int b5, .int b6, .int b7, .int b8]))] H := hP
    have hD : va_D A [(h0, .inr (5, [.ref p0, .int b1, .int 0, .int b3, .int b4, .int b5, .int b6, .int b7, .int b8]))] := hD
    have hP9 := hP.sub (ws' := [(h0, .inr (5, [.ref p0, .int b1, .int 0, .int b3, .int b4, .int b5, .int b6, .int b7, .int b8]))]) [0] rfl
    have hD9 := hD.sub (ws' := [(h0, .inr (5, [.ref p0, .int b1, .int 0, .int b3, .int b4, .int b5, .int b6, .int b7, .int b8]))]) [0] (by decide) rfl
    exact W.vret hx hb hr (fun t ht hW => ⟨⟨(0 : Int32), rfl, (if_pos c_11).symm, by rw [ht]; exact hP9, va_K.moved hW.alike hK, hD9⟩, hS.F ht⟩) hS.2.2 dX5_goOn_27
  ·
    refine lv_aload_n hx hb dX5_goOn_14 rfl (lv_at hl 0 rfl) ?_
    refine va_get (D := D) (ci := 5) (v := .int b2) (C := RX5) (T := TX5) (N := 9) hx hb hts w_1 hown hK hP 0 rfl rfl 2 (by decide) w_2 (fun _ h9 => h9) rfl dX5_goOn_15 ?_
    refine lv_iconst (v := 1) hx hb dX5_goOn_18 (by decide) ?_
    refine sv_iadd (v := b2 + 1) hx hb dX5_goOn_19 rfl ?_
    refine lv_goto (tgt := 24) hx hb dX5_goOn_20 (by decide) ?_
    refine va_put (D := D) (ci := 5) (v := .int (b2 + 1)) (ty := .int) (C := RX5) (T := TX5) (N := 9) hx hb hts w_1 tyX5 tyX5_ok nmX5 hown hK hP hD hS 0 rfl rfl 2 (by decide) w_2 (fun _ h9 => h9) rfl (by decide +kernel) rfl rfl (Nat.le_of_ble_eq_true rfl) dX5_goOn_24 (fun H locs hP hD hS => ?_)
    have hP : va_P D vwCl [(h0, .inr (5, [.ref p0, .int b1, .int (b2 + 1), .int b3, .int b4, .int b5, .int b6, .int b7, .int b8]))] H := hP
    have hD : va_D A [(h0, .inr (5, [.ref p0, .int b1, .int (b2 + 1), .int b3, .int b4, .int b5, .int b6, .int b7, .int b8]))] := hD
    have hP9 := hP.sub (ws' := [(h0, .inr (5, [.ref p0, .int b1, .int (b2 + 1), .int b3, .int b4, .int b5, .int b6, .int b7, .int b8]))]) [0] rfl
    have hD9 := hD.sub (ws' := [(h0, .inr (5, [.ref p0, .int b1, .int (b2 + 1), .int b3, .int b4, .int b5, .int b6, .int b7, .int b8]))]) [0] (by decide) rfl
    exact W.vret hx hb hr (fun t ht hW => ⟨⟨(b2 + 1 : Int32), rfl, (if_neg c_11).symm, by rw [ht]; exact hP9, va_K.moved hW.alike hK, hD9⟩, hS.F ht⟩) hS.2.2 dX5_goOn_27

set_option maxHeartbeats 4000000 in
set_option maxRecDepth 100000 in
theorem f_X7_mayCome (l : Launch) (D : va_G) (cB cI cJ cZ : ClassId) (x : Nat → Nat) (yr : Int32) (e1 : Int32) (e2 : Int32) (e3 : Int32) (e4 : Int32) (e5 : Int32) (e6 : Int32) (e7 : Int32) (e8 : Int32) (ca : Nat) (k11 : Nat → Int32) (k15 : Nat → Int32) (q : Int32) (b_ca : ca ≤ 16) : Met l yX7_mayCome wsX7_mayCome ({ frames := 1, cells := 0, slots := 0, locals := 21 } : Room) (cRd D (aTy cB cI cJ cZ) [((x 0), .inr (7, [.ref (x 1), .ref (x 5), .ref (x 7), .ref (x 10), .ref (x 17), .ref (x 22), .ref (x 27), .int yr])), ((x 5), .inr (5, [.ref (x 6), .int e1, .int e2, .int e3, .int e4, .int e5, .int e6, .int e7, .int e8])), ((x 10), .inr (1, [.ref (x 11), .ref (x 12), .ref (x 13), .ref (x 14), .ref (x 15), .ref (x 16), .int (nI ca)])), ((x 11), .inl (cI, 16, .inl k11)), ((x 15), .inl (cI, 16, .inl k15))] [.ref (x 0), .int q]) (vp_Si (fun r : Int32 => isB r (mcI ca k15 k11 e4 e5 q))) 0 0 (fun _ => False) := by
  refine Met.ofW (cc := cX7_mayCome) (maxL := 2) (ret := (some .boolean)) (by decide) rfl ?_
  intro p e s m args below meth c s₁ B hml hv
  obtain ⟨rfl, hP, hK⟩ := hv
  have hx := B.exec
  have hb := B.bytes
  have hr := B.returns
  have hts := atoms_spec (ws := wsX7_mayCome) B.pre
  have hown : s.vm.findClass RX7 = some m.cls := findClass_of_methodNamed B.named
  have hlocks := B.notSynchronized
  have hP : va_P D vwCl [((x 0), .inr (7, [.ref (x 1), .ref (x 5), .ref (x 7), .ref (x 10), .ref (x 17), .ref (x 22), .ref (x 27), .int yr])), ((x 5), .inr (5, [.ref (x 6), .int e1, .int e2, .int e3, .int e4, .int e5, .int e6, .int e7, .int e8])), ((x 10), .inr (1, [.ref (x 11), .ref (x 12), .ref (x 13), .ref (x 14), .ref (x 15), .ref (x 16), .int (nI ca)])), ((x 11), .inl (cI, 16, .inl k11)), ((x 15), .inl (cI, 16, .inl k15))] s.heap := hP
  have w_1 : ∀ w ∈ wsX70, w ∈ wsX7_mayCome := by decide +kernel
  have w_2 := hts (Cond.fieldLink RX7 33 "BlueCoats" "children" "LBlueCoats$Children;") (by decide +kernel)
  have w_3 : ∀ w ∈ wsX10, w ∈ wsX7_mayCome := by decide +kernel
  have w_4 := hts (Cond.fieldLink RX7 118 "BlueCoats$Children" "state" "[I") (by decide +kernel)
  have w_5 := hts (Cond.fieldLink RX7 155 "BlueCoats$Children" "age" "[I") (by decide +kernel)
  have w_6 := hts (Cond.fieldLink RX7 19 "BlueCoats" "law" "LBlueCoats$Statutes;") (by decide +kernel)
  have w_7 : ∀ w ∈ wsX50, w ∈ wsX7_mayCome := by decide +kernel
  have w_8 := hts (Cond.fieldLink RX7 158 "BlueCoats$Statutes" "ageFrom" "I") (by decide +kernel)
  have w_9 := hts (Cond.fieldLink RX7 161 "BlueCoats$Statutes" "ageTo" "I") (by decide +kernel)
  have hl := lv_entry ([.ref (x 0), .int q]) (n := 2) (Nat.le_of_ble_eq_true rfl)
  rw [lg_entry_eq]
  generalize (lg_sl ([.ref (x 0), .int q]) ++ List.replicate (2 - (lg_sl ([.ref (x 0), .int q])).length) Slot.unset).toArray = ls at hl ⊢
  have hl : lv_has ls 2 [(0, .ref (x 0)), (1, .int q)] := hl
  refine lv_aload_n hx hb dX7_mayCome_0 rfl (lv_at hl 0 rfl) ?_
  refine va_get (D := D) (ci := 7) (v := .ref (x 10)) (C := RX7) (T := TX7) (N := 8) hx hb hts w_1 hown hK hP 0 rfl rfl 3 (by decide) w_2 (fun _ h9 => h9) rfl dX7_mayCome_1 ?_
  refine lv_iload_n hx hb dX7_mayCome_4 rfl (lv_at hl 1 rfl) ?_
  refine vp_callSi (va_Run.run (va_runV (As := [.int q]) (rest := []) ⟨hx, hb, hml, hown, hts⟩ (g_X1_has l D cB cI cJ cZ (x 10) (x 11) (x 12) (x 13) (x 14) (x 15) (x 16) ca q (by omega)) (cwV 1 hts gX7_mayCome_X1_has rfl rfl rfl (by decide +kernel) ⟨Nat.le_of_ble_eq_true rfl, Nat.le_of_ble_eq_true rfl⟩) (pre_VR (hP.sub (ws' := [((x 10), .inr (1, [.ref (x 11), .ref (x 12), .ref (x 13), .ref (x 14), .ref (x 15), .ref (x 16), .int (nI ca)]))]) [2] rfl) hK 0 rfl rfl rfl) rfl rfl hl.1 rfl (lv_room (Nat.le_of_ble_eq_true rfl)) dX7_mayCome_5 ⟨Nat.le_of_ble_eq_true rfl, Nat.le_of_ble_eq_true rfl⟩)) (fun r_1 hw_r_1 => ?_)
  refine lv_if_eq (tgt := 65) hx hb dX7_mayCome_8 (by decide) (fun c_8 => ?_) (fun c_8 => ?_)
  ·
    refine lv_iconst (v := 0) hx hb dX7_mayCome_65 (by decide) ?_
    exact W.zret (v := 0) hx hb hr rfl (fun t ht hW => ⟨_, rfl, Or.inr ⟨rfl, fun h => has_out hw_r_1 c_8 h.1⟩, ht⟩) (fun q h => nomatch h) dX7_mayCome_66
  ·
    refine lv_aload_n hx hb dX7_mayCome_11 rfl (lv_at hl 0 rfl) ?_
    refine va_get (D := D) (ci := 7) (v := .ref (x 10)) (C := RX7) (T := TX7) (N := 8) hx hb hts w_1 hown hK hP 0 rfl rfl 3 (by decide) w_2 (fun _ h9 => h9) rfl dX7_mayCome_12 ?_
    refine va_get (D := D) (ci := 1) (v := .ref (x 15)) (C := RX1) (T := TX1) (N := 7) hx hb hts w_3 hown hK hP 2 rfl rfl 4 (by decide) w_4 (fun _ h9 => h9) rfl dX7_mayCome_15 ?_
    refine lv_iload_n hx hb dX7_mayCome_18 rfl (lv_at hl 1 rfl) ?_
    refine sv_iald (v := k15 q.toNatClampNeg) hx hb hK hP 4 1 rfl rfl (in_up (has_in hw_r_1 c_8) b_ca) rfl dX7_mayCome_19 ?_
    refine lv_if_ne (tgt := 65) hx hb dX7_mayCome_20 (by decide) (fun c_20 => ?_) (fun c_20 => ?_)
    ·
      refine lv_iconst (v := 0) hx hb dX7_mayCome_65 (by decide) ?_
      exact W.zret (v := 0) hx hb hr rfl (fun t ht hW => ⟨_, rfl, Or.inr ⟨rfl, fun h => c_20 h.2.1⟩, ht⟩) (fun q h => nomatch h) dX7_mayCome_66
    ·
      refine lv_aload_n hx hb dX7_mayCome_23 rfl (lv_at hl 0 rfl) ?_
      refine va_get (D := D) (ci := 7) (v := .ref (x 10)) (C := RX7) (T := TX7) (N := 8) hx hb hts w_1 hown hK hP 0 rfl rfl 3 (by decide) w_2 (fun _ h9 => h9) rfl dX7_mayCome_24 ?_
      refine va_get (D := D) (ci := 1) (v := .ref (x 11)) (C := RX1) (T := TX1) (N := 7) hx hb hts w_3 hown hK hP 2 rfl rfl 0 (by decide) w_5 (fun _ h9 => h9) rfl dX7_mayCome_27 ?_
      refine lv_iload_n hx hb dX7_mayCome_30 rfl (lv_at hl 1 rfl) ?_
      refine sv_iald (v := k11 q.toNatClampNeg) hx hb hK hP 3 1 rfl rfl (in_up (has_in hw_r_1 c_8) b_ca) rfl dX7_mayCome_31 ?_
      refine lv_aload_n hx hb dX7_mayCome_32 rfl (lv_at hl 0 rfl) ?_
      refine va_get (D := D) (ci := 7) (v := .ref (x 5)) (C := RX7) (T := TX7) (N := 8) hx hb hts w_1 hown hK hP 0 rfl rfl 1 (by decide) w_6 (fun _ h9 => h9) rfl dX7_mayCome_33 ?_
      refine va_get (D := D) (ci := 5) (v := .int e4) (C := RX5) (T := TX5) (N := 9) hx hb hts w_7 hown hK hP 1 rfl rfl 4 (by decide) w_8 (fun _ h9 => h9) rfl dX7_mayCome_36 ?_
      refine lv_icmp_lt (tgt := 65) hx hb dX7_mayCome_39 (by decide) (fun c_39 => ?_) (fun c_39 => ?_)
      ·
        refine lv_iconst (v := 0) hx hb dX7_mayCome_65 (by decide) ?_
        exact W.zret (v := 0) hx hb hr rfl (fun t ht hW => ⟨_, rfl, Or.inr ⟨rfl, fun h => h.2.2.1 c_39⟩, ht⟩) (fun q h => nomatch h) dX7_mayCome_66
      ·
        refine lv_aload_n hx hb dX7_mayCome_42 rfl (lv_at hl 0 rfl) ?_
        refine va_get (D := D) (ci := 7) (v := .ref (x 10)) (C := RX7) (T := TX7) (N := 8) hx hb hts w_1 hown hK hP 0 rfl rfl 3 (by decide) w_2 (fun _ h9 => h9) rfl dX7_mayCome_43 ?_
        refine va_get (D := D) (ci := 1) (v := .ref (x 11)) (C := RX1) (T := TX1) (N := 7) hx hb hts w_3 hown hK hP 2 rfl rfl 0 (by decide) w_5 (fun _ h9 => h9) rfl dX7_mayCome_46 ?_
        refine lv_iload_n hx hb dX7_mayCome_49 rfl (lv_at hl 1 rfl) ?_
        refine sv_iald (v := k11 q.toNatClampNeg) hx hb hK hP 3 1 rfl rfl (in_up (has_in hw_r_1 c_8) b_ca) rfl dX7_mayCome_50 ?_
        refine lv_aload_n hx hb dX7_mayCome_51 rfl (lv_at hl 0 rfl) ?_
        refine va_get (D := D) (ci := 7) (v := .ref (x 5)) (C := RX7) (T := TX7) (N := 8) hx hb hts w_1 hown hK hP 0 rfl rfl 1 (by decide) w_6 (fun _ h9 => h9) rfl dX7_mayCome_52 ?_
        refine va_get (D := D) (ci := 5) (v := .int e5) (C := RX5) (T := TX5) (N := 9) hx hb hts w_7 hown hK hP 1 rfl rfl 5 (by decide) w_9 (fun _ h9 => h9) rfl dX7_mayCome_55 ?_
        refine lv_icmp_ge (tgt := 65) hx hb dX7_mayCome_58 (by decide) (fun c_58 => ?_) (fun c_58 => ?_)
        ·
          refine lv_iconst (v := 0) hx hb dX7_mayCome_65 (by decide) ?_
          exact W.zret (v := 0) hx hb hr rfl (fun t ht hW => ⟨_, rfl, Or.inr ⟨rfl, fun h => absurd c_58 (Int32.not_le.mpr h.2.2.2)⟩, ht⟩) (fun q h => nomatch h) dX7_mayCome_66
        ·
          refine lv_iconst (v := 1) hx hb dX7_mayCome_61 (by decide) ?_
          refine lv_goto (tgt := 66) hx hb dX7_mayCome_62 (by decide) ?_
          exact W.zret (v := 1) hx hb hr rfl (fun t ht hW => ⟨_, rfl, Or.inl ⟨rfl, has_in hw_r_1 c_8, c_20, c_39, Int32.not_le.mp c_58⟩, ht⟩) (fun q h => nomatch h) dX7_mayCome_66

theorem ge_c9 {ga x i b : Nat} (h : ga ≤ 8) (hi : i < ga) (hm : b = (x + i) % ga) (c : nI ga ≤ nI (b + 1)) : ga ≤ b + 1 := (nI_leI (by omega) (by have := tu_b hi hm; omega)).mp c
theorem lt_c9 {ga x i b : Nat} (h : ga ≤ 8) (hi : i < ga) (hm : b = (x + i) % ga) (c : ¬ nI ga ≤ nI (b + 1)) : b + 1 < ga := Nat.lt_of_not_le (fun z => c ((nI_leI (by omega) (by have := tu_b hi hm; omega)).mpr z))
theorem tu_k {i : Nat} {P : Nat → Prop} (h : ∀ k, k < i → ¬ P k) (hn : ¬ P i) : ∀ k, k < i + 1 → ¬ P k := fun k hk => by
  by_cases q : k = i
  · rw [q]; exact hn
  · exact h k (by omega)
theorem tu_g0 {ga x i b : Nat} (hi : i < ga) (h : b = (x + i) % ga) (c : ga ≤ b + 1) : (0 : Int32) = nI (((x + i) % ga + 1) % ga) := by
  have hb := tu_b hi h
  rw [← h, show b + 1 = ga by omega, Nat.mod_self]; rfl
theorem tu_g1 {ga x i b : Nat} (hi : i < ga) (h : b = (x + i) % ga) (c : b + 1 < ga) : nI (b + 1) = nI (((x + i) % ga + 1) % ga) := by
  rw [← h, Nat.mod_eq_of_lt c]

set_option maxHeartbeats 4000000 in
set_option maxRecDepth 100000 in
theorem f_X7_turn (l : Launch) (D : va_G) (cB cI cJ cZ : ClassId) (sz : Nat) (x : Nat → Nat) (yr : Int32) (e1 : Int32) (e2 : Int32) (e3 : Int32) (e4 : Int32) (e5 : Int32) (e6 : Int32) (e7 : Int32) (e8 : Int32) (ga : Nat) (gx : Int32) (gs : Nat → Int32) (ca : Nat) (k11 : Nat → Int32) (k15 : Nat → Int32) (x0 : Nat) (b_ga : ga ≤ 8) (b_ca : ca ≤ 16) (hgx : gx = nI x0) (hx0 : x0 < ga ∨ x0 = 0) : Met l yX7_chosenByTurn wsX7_chosenByTurn ({ frames := 2, cells := 0, slots := 0, locals := 42 } : Room) (cPre D (aTy cB cI cJ cZ) [((x 0), .inr (7, [.ref (x 1), .ref (x 5), .ref (x 7), .ref (x 10), .ref (x 17), .ref (x 22), .ref (x 27), .int yr])), ((x 5), .inr (5, [.ref (x 6), .int e1, .int e2, .int e3, .int e4, .int e5, .int e6, .int e7, .int e8])), ((x 7), .inr (3, [.ref (x 8), .ref (x 9), .int (nI ga), .int gx])), ((x 9), .inl (cI, 8, .inl gs)), ((x 10), .inr (1, [.ref (x 11), .ref (x 12), .ref (x 13), .ref (x 14), .ref (x 15), .ref (x 16), .int (nI ca)])), ((x 11), .inl (cI, 16, .inl k11)), ((x 15), .inl (cI, 16, .inl k15))] sz [.ref (x 0)]) (va_Qi (fun (r : Int32) (u : Int32) => tuP ga x0 (fun g => mcI ca k15 k11 e4 e5 (gs g)) gs r u) (cB_ D (aTy cB cI cJ cZ) (va_A [((x 0), .inr (7, [.ref (x 1), .ref (x 5), .ref (x 7), .ref (x 10), .ref (x 17), .ref (x 22), .ref (x 27), .int yr])), ((x 5), .inr (5, [.ref (x 6), .int e1, .int e2, .int e3, .int e4, .int e5, .int e6, .int e7, .int e8])), ((x 7), .inr (3, [.ref (x 8), .ref (x 9), .int (nI ga), .int gx])), ((x 9), .inl (cI, 8, .inl gs)), ((x 10), .inr (1, [.ref (x 11), .ref (x 12), .ref (x 13), .ref (x 14), .ref (x 15), .ref (x 16), .int (nI ca)])), ((x 11), .inl (cI, 16, .inl k11)), ((x 15), .inl (cI, 16, .inl k15))] sz) (fun u => [((x 0), .inr (7, [.ref (x 1), .ref (x 5), .ref (x 7), .ref (x 10), .ref (x 17), .ref (x 22), .ref (x 27), .int yr])), ((x 5), .inr (5, [.ref (x 6), .int e1, .int e2, .int e3, .int e4, .int e5, .int e6, .int e7, .int e8])), ((x 7), .inr (3, [.ref (x 8), .ref (x 9), .int (nI ga), .int (u)])), ((x 9), .inl (cI, 8, .inl gs)), ((x 10), .inr (1, [.ref (x 11), .ref (x 12), .ref (x 13), .ref (x 14), .ref (x 15), .ref (x 16), .int (nI ca)])), ((x 11), .inl (cI, 16, .inl k11)), ((x 15), .inl (cI, 16, .inl k15))])) (va_A [((x 0), .inr (7, [.ref (x 1), .ref (x 5), .ref (x 7), .ref (x 10), .ref (x 17), .ref (x 22), .ref (x 27), .int yr])), ((x 5), .inr (5, [.ref (x 6), .int e1, .int e2, .int e3, .int e4, .int e5, .int e6, .int e7, .int e8])), ((x 7), .inr (3, [.ref (x 8), .ref (x 9), .int (nI ga), .int gx])), ((x 9), .inl (cI, 8, .inl gs)), ((x 10), .inr (1, [.ref (x 11), .ref (x 12), .ref (x 13), .ref (x 14), .ref (x 15), .ref (x 16), .int (nI ca)])), ((x 11), .inl (cI, 16, .inl k11)), ((x 15), .inl (cI, 16, .inl k15))] sz)) 0 0 (va_A [((x 0), .inr (7, [.ref (x 1), .ref (x 5), .ref (x 7), .ref (x 10), .ref (x 17), .ref (x 22), .ref (x 27), .int yr])), ((x 5), .inr (5, [.ref (x 6), .int e1, .int e2, .int e3, .int e4, .int e5, .int e6, .int e7, .int e8])), ((x 7), .inr (3, [.ref (x 8), .ref (x 9), .int (nI ga), .int gx])), ((x 9), .inl (cI, 8, .inl gs)), ((x 10), .inr (1, [.ref (x 11), .ref (x 12), .ref (x 13), .ref (x 14), .ref (x 15), .ref (x 16), .int (nI ca)])), ((x 11), .inl (cI, 16, .inl k11)), ((x 15), .inl (cI, 16, .inl k15))] sz) := by
  refine Met.ofW (cc := cX7_chosenByTurn) (maxL := 5) (ret := (some .int)) (by decide) rfl ?_
  intro p e s m args below meth c s₁ B hml hv
  obtain ⟨rfl, hsz, hP, hK, hD0⟩ := hv
  have hx := B.exec
  have hb := B.bytes
  have hr := B.returns
  have hts := atoms_spec (ws := wsX7_chosenByTurn) B.pre
  have hown : s.vm.findClass RX7 = some m.cls := findClass_of_methodNamed B.named
  have hlocks := B.notSynchronized
  subst hsz
  have hD := hD0.self (sz := s.heap.size)
  generalize hAe : va_A [((x 0), .inr (7, [.ref (x 1), .ref (x 5), .ref (x 7), .ref (x 10), .ref (x 17), .ref (x 22), .ref (x 27), .int yr])), ((x 5), .inr (5, [.ref (x 6), .int e1, .int e2, .int e3, .int e4, .int e5, .int e6, .int e7, .int e8])), ((x 7), .inr (3, [.ref (x 8), .ref (x 9), .int (nI ga), .int gx])), ((x 9), .inl (cI, 8, .inl gs)), ((x 10), .inr (1, [.ref (x 11), .ref (x 12), .ref (x 13), .ref (x 14), .ref (x 15), .ref (x 16), .int (nI ca)])), ((x 11), .inl (cI, 16, .inl k11)), ((x 15), .inl (cI, 16, .inl k15))] s.heap.size = A at hD ⊢
  have hA : ∀ q : Nat, s.heap.size ≤ q → A q := fun q h => by rw [← hAe]; exact Or.inr h
  have hS : va_S A s.heap s.heap [] := va_S.rf
  have hP : va_P D vwCl [((x 0), .inr (7, [.ref (x 1), .ref (x 5), .ref (x 7), .ref (x 10), .ref (x 17), .ref (x 22), .ref (x 27), .int yr])), ((x 5), .inr (5, [.ref (x 6), .int e1, .int e2, .int e3, .int e4, .int e5, .int e6, .int e7, .int e8])), ((x 7), .inr (3, [.ref (x 8), .ref (x 9), .int (nI ga), .int gx])), ((x 9), .inl (cI, 8, .inl gs)), ((x 10), .inr (1, [.ref (x 11), .ref (x 12), .ref (x 13), .ref (x 14), .ref (x 15), .ref (x 16), .int (nI ca)])), ((x 11), .inl (cI, 16, .inl k11)), ((x 15), .inl (cI, 16, .inl k15))] s.heap := hP
  subst hgx
  have w_1 : ∀ w ∈ wsX70, w ∈ wsX7_chosenByTurn := by decide +kernel
  have w_2 := hts (Cond.fieldLink RX7 26 "BlueCoats" "givers" "LBlueCoats$Givers;") (by decide +kernel)
  have w_3 : ∀ w ∈ wsX30, w ∈ wsX7_chosenByTurn := by decide +kernel
  have w_4 := hts (Cond.fieldLink RX7 133 "BlueCoats$Givers" "next" "I") (by decide +kernel)
  have w_5 := hts (Cond.fieldLink RX7 136 "BlueCoats$Givers" "number" "I") (by decide +kernel)
  have hl := lv_entry ([.ref (x 0)]) (n := 5) (Nat.le_of_ble_eq_true rfl)
  rw [lg_entry_eq]
  generalize (lg_sl ([.ref (x 0)]) ++ List.replicate (5 - (lg_sl ([.ref (x 0)])).length) Slot.unset).toArray = ls at hl ⊢
  have hl : lv_has ls 5 [(0, .ref (x 0))] := hl
  generalize hQ : MQ below _ _ s _ _ _ = Q0
  refine lv_aload_n hx hb dX7_chosenByTurn_0 rfl (lv_at hl 0 rfl) ?_
  refine va_get (D := D) (ci := 7) (v := .ref (x 7)) (C := RX7) (T := TX7) (N := 8) hx hb hts w_1 hown hK hP 0 rfl rfl 2 (by decide) w_2 (fun _ h9 => h9) rfl dX7_chosenByTurn_1 ?_
  refine va_get (D := D) (ci := 3) (v := .int (nI x0)) (C := RX3) (T := TX3) (N := 4) hx hb hts w_3 hown hK hP 2 rfl rfl 3 (by decide) w_4 (fun _ h9 => h9) rfl dX7_chosenByTurn_4 ?_
  refine lv_istore_n (lv' := [(1, .int (nI x0)), (0, .ref (x 0))]) hx hb dX7_chosenByTurn_7 rfl hl (by decide) rfl (fun ls hl => ?_)
  refine lv_iconst (v := 0) hx hb dX7_chosenByTurn_8 (by decide) ?_
  refine lv_istore_n (lv' := [(2, .int 0), (1, .int (nI x0)), (0, .ref (x 0))]) hx hb dX7_chosenByTurn_9 rfl hl (by decide) rfl (fun ls hl => ?_)
  have L_1 : ∀ (n : Nat) (i_10 : Nat) (b_1_10 : Nat) (H : Heap) (locs : List Loc) (ls : Array Slot), ga - i_10 < n → (i_10 ≤ ga) → (b_1_10 = (x0 + i_10) % ga) → (∀ k, k < i_10 → ¬ (fun g => mcI ca k15 k11 e4 e5 (gs g)) ((x0 + k) % ga)) → va_P D vwCl [((x 0), .inr (7, [.ref (x 1), .ref (x 5), .ref (x 7), .ref (x 10), .ref (x 17), .ref (x 22), .ref (x 27), .int yr])), ((x 5), .inr (5, [.ref (x 6), .int e1, .int e2, .int e3, .int e4, .int e5, .int e6, .int e7, .int e8])), ((x 7), .inr (3, [.ref (x 8), .ref (x 9), .int (nI ga), .int (nI x0)])), ((x 9), .inl (cI, 8, .inl gs)), ((x 10), .inr (1, [.ref (x 11), .ref (x 12), .ref (x 13), .ref (x 14), .ref (x 15), .ref (x 16), .int (nI ca)])), ((x 11), .inl (cI, 16, .inl k11)), ((x 15), .inl (cI, 16, .inl k15))] H → va_D A [((x 0), .inr (7, [.ref (x 1), .ref (x 5), .ref (x 7), .ref (x 10), .ref (x 17), .ref (x 22), .ref (x 27), .int yr])), ((x 5), .inr (5, [.ref (x 6), .int e1, .int e2, .int e3, .int e4, .int e5, .int e6, .int e7, .int e8])), ((x 7), .inr (3, [.ref (x 8), .ref (x 9), .int (nI ga), .int (nI x0)])), ((x 9), .inl (cI, 8, .inl gs)), ((x 10), .inr (1, [.ref (x 11), .ref (x 12), .ref (x 13), .ref (x 14), .ref (x 15), .ref (x 16), .int (nI ca)])), ((x 11), .inl (cI, 16, .inl k11)), ((x 15), .inl (cI, 16, .inl k15))] → va_S A s.heap H locs → lv_has ls 5 [(0, .ref (x 0)), (1, .int (nI b_1_10)), (2, .int (nI i_10))] → W p l e (headSpec wsX7_chosenByTurn ({ frames := 2, cells := 0, slots := 0, locals := 42 } : Room)).room s m ([.ref (x 0)] : List Value).toArray below meth c H locs 0 0 Q0 (F0 m 10 ls []) := by
    intro n
    induction n with
    | zero => intro i_10 b_1_10 H locs ls hn_10 hle_10 hm_10 hN_10 hP hD hS hl; exact absurd hn_10 (Nat.not_lt_zero _)
    | succ n ih_L_1 =>
      intro i_10 b_1_10 H locs ls hn_10 hle_10 hm_10 hN_10 hP hD hS hl
      refine lv_iload_n hx hb dX7_chosenByTurn_10 rfl (lv_at hl 2 rfl) ?_
      refine lv_aload_n hx hb dX7_chosenByTurn_11 rfl (lv_at hl 0 rfl) ?_
      refine va_get (D := D) (ci := 7) (v := .ref (x 7)) (C := RX7) (T := TX7) (N := 8) hx hb hts w_1 hown hK hP 0 rfl rfl 2 (by decide) w_2 (fun _ h9 => h9) rfl dX7_chosenByTurn_12 ?_
      refine va_get (D := D) (ci := 3) (v := .int (nI ga)) (C := RX3) (T := TX3) (N := 4) hx hb hts w_3 hown hK hP 2 rfl rfl 2 (by decide) w_5 (fun _ h9 => h9) rfl dX7_chosenByTurn_15 ?_
      refine lv_icmp_ge (tgt := 80) hx hb dX7_chosenByTurn_18 (by decide) (fun c_18 => ?_) (fun c_18 => ?_)
      ·
        refine lv_iconst (v := (-1)) hx hb dX7_chosenByTurn_80 (by decide) ?_
        rw [← hQ]
        have hP9 := hP.sub (ws' := [((x 0), .inr (7, [.ref (x 1), .ref (x 5), .ref (x 7), .ref (x 10), .ref (x 17), .ref (x 22), .ref (x 27), .int yr])), ((x 5), .inr (5, [.ref (x 6), .int e1, .int e2, .int e3, .int e4, .int e5, .int e6, .int e7, .int e8])), ((x 7), .inr (3, [.ref (x 8), .ref (x 9), .int (nI ga), .int (nI x0)])), ((x 9), .inl (cI, 8, .inl gs)), ((x 10), .inr (1, [.ref (x 11), .ref (x 12), .ref (x 13), .ref (x 14), .ref (x 15), .ref (x 16), .int (nI ca)])), ((x 11), .inl (cI, 16, .inl k11)), ((x 15), .inl (cI, 16, .inl k15))]) [0, 1, 2, 3, 4, 5, 6] rfl
        have hD9 := hD.sub (ws' := [((x 0), .inr (7, [.ref (x 1), .ref (x 5), .ref (x 7), .ref (x 10), .ref (x 17), .ref (x 22), .ref (x 27), .int yr])), ((x 5), .inr (5, [.ref (x 6), .int e1, .int e2, .int e3, .int e4, .int e5, .int e6, .int e7, .int e8])), ((x 7), .inr (3, [.ref (x 8), .ref (x 9), .int (nI ga), .int (nI x0)])), ((x 9), .inl (cI, 8, .inl gs)), ((x 10), .inr (1, [.ref (x 11), .ref (x 12), .ref (x 13), .ref (x 14), .ref (x 15), .ref (x 16), .int (nI ca)])), ((x 11), .inl (cI, 16, .inl k11)), ((x 15), .inl (cI, 16, .inl k15))]) [0, 1, 2, 3, 4, 5, 6] (by decide) rfl
        exact W.iret (v := (-1)) hx hb hr (fun t ht hW => ⟨⟨_, (nI x0 : Int32), rfl, Or.inr ⟨fun k hk => hN_10 k (by have h9 := ge3 (by omega) hle_10 c_18; omega), rfl, rfl⟩, by rw [ht]; exact hP9, va_K.moved hW.alike hK, hD9⟩, hS.F ht⟩) hS.2.2 dX7_chosenByTurn_81
      ·
        have hb_10 : i_10 < ga := lt3 (by omega) hle_10 c_18
        refine lv_aload_n hx hb dX7_chosenByTurn_21 rfl (lv_at hl 0 rfl) ?_
        refine va_get (D := D) (ci := 7) (v := .ref (x 7)) (C := RX7) (T := TX7) (N := 8) hx hb hts w_1 hown hK hP 0 rfl rfl 2 (by decide) w_2 (fun _ h9 => h9) rfl dX7_chosenByTurn_22 ?_
        refine lv_iload_n hx hb dX7_chosenByTurn_25 rfl (lv_at hl 1 rfl) ?_
        refine vp_callSi (va_Run.run (va_runV (As := [.int (nI b_1_10)]) (rest := []) ⟨hx, hb, hml, hown, hts⟩ (f_X3_childOf l D cB cI cJ cZ (x 7) (x 8) (x 9) ga (nI x0) (fun _ => 0) gs b_1_10 b_ga (tu_b hb_10 hm_10)) (cwV 1 hts gX7_chosenByTurn_X3_childOf rfl rfl rfl (by decide +kernel) ⟨Nat.le_of_ble_eq_true rfl, Nat.le_of_ble_eq_true rfl⟩) (pre_VR (hP.sub (ws' := [((x 7), .inr (3, [.ref (x 8), .ref (x 9), .int (nI ga), .int (nI x0)])), ((x 9), .inl (cI, 8, .inl gs))]) [2, 3] rfl) hK 0 rfl rfl rfl) rfl rfl hl.1 rfl (lv_room (Nat.le_of_ble_eq_true rfl)) dX7_chosenByTurn_26 ⟨Nat.le_of_ble_eq_true rfl, Nat.le_of_ble_eq_true rfl⟩)) (fun r_2 hw_r_2 => ?_)
        subst hw_r_2
        refine lv_istore_n (lv' := [(3, .int (gs b_1_10)), (0, .ref (x 0)), (1, .int (nI b_1_10)), (2, .int (nI i_10))]) hx hb dX7_chosenByTurn_29 rfl hl (by decide) rfl (fun ls hl => ?_)
        refine lv_iload_n hx hb dX7_chosenByTurn_30 rfl (lv_at hl 2 rfl) ?_
        refine lv_iconst (v := 1) hx hb dX7_chosenByTurn_31 (by decide) ?_
        refine sv_iadd (v := nI (b_1_10 + 1)) hx hb dX7_chosenByTurn_32 (ax_add _ 1) ?_
        refine lv_aload_n hx hb dX7_chosenByTurn_33 rfl (lv_at hl 1 rfl) ?_
        refine va_get (D := D) (ci := 7) (v := .ref (x 7)) (C := RX7) (T := TX7) (N := 8) hx hb hts w_1 hown hK hP 0 rfl rfl 2 (by decide) w_2 (fun _ h9 => h9) rfl dX7_chosenByTurn_34 ?_
        refine va_get (D := D) (ci := 3) (v := .int (nI ga)) (C := RX3) (T := TX3) (N := 4) hx hb hts w_3 hown hK hP 2 rfl rfl 2 (by decide) w_5 (fun _ h9 => h9) rfl dX7_chosenByTurn_37 ?_
        refine lv_icmp_ge (tgt := 49) hx hb dX7_chosenByTurn_40 (by decide) (fun c_40 => ?_) (fun c_40 => ?_)
        ·
          refine lv_iconst (v := 0) hx hb dX7_chosenByTurn_49 (by decide) ?_
          refine lv_istore (lv' := [(4, .int 0), (3, .int (gs b_1_10)), (0, .ref (x 0)), (1, .int (nI b_1_10)), (2, .int (nI i_10))]) hx hb dX7_chosenByTurn_50 hl (by decide) rfl (fun ls hl => ?_)
          refine lv_aload_n hx hb dX7_chosenByTurn_52 rfl (lv_at hl 2 rfl) ?_
          refine lv_iload_n hx hb dX7_chosenByTurn_53 rfl (lv_at hl 1 rfl) ?_
          refine vp_callSi (va_Run.run (va_runV (As := [.int (gs b_1_10)]) (rest := []) ⟨hx, hb, hml, hown, hts⟩ (f_X7_mayCome l D cB cI cJ cZ x yr e1 e2 e3 e4 e5 e6 e7 e8 ca k11 k15 (gs b_1_10) b_ca ) (cwV 1 hts gX7_chosenByTurn_X7_mayCome rfl rfl rfl (by decide +kernel) ⟨Nat.le_of_ble_eq_true rfl, Nat.le_of_ble_eq_true rfl⟩) (pre_VR (hP.sub (ws' := [((x 0), .inr (7, [.ref (x 1), .ref (x 5), .ref (x 7), .ref (x 10), .ref (x 17), .ref (x 22), .ref (x 27), .int yr])), ((x 5), .inr (5, [.ref (x 6), .int e1, .int e2, .int e3, .int e4, .int e5, .int e6, .int e7, .int e8])), ((x 10), .inr (1, [.ref (x 11), .ref (x 12), .ref (x 13), .ref (x 14), .ref (x 15), .ref (x 16), .int (nI ca)])), ((x 11), .inl (cI, 16, .inl k11)), ((x 15), .inl (cI, 16, .inl k15))]) [0, 1, 4, 5, 6] rfl) hK 0 rfl rfl rfl) rfl rfl hl.1 rfl (lv_room (Nat.le_of_ble_eq_true rfl)) dX7_chosenByTurn_54 ⟨Nat.le_of_ble_eq_true rfl, Nat.le_of_ble_eq_true rfl⟩)) (fun r_3 hw_r_3 => ?_)
          refine lv_if_eq (tgt := 71) hx hb dX7_chosenByTurn_57 (by decide) (fun c_57 => ?_) (fun c_57 => ?_)
          ·
            refine lv_iload hx hb dX7_chosenByTurn_71 (lv_at hl 0 rfl) ?_
            refine lv_istore_n (lv' := [(1, .int 0), (4, .int 0), (3, .int (gs b_1_10)), (0, .ref (x 0)), (2, .int (nI i_10))]) hx hb dX7_chosenByTurn_73 rfl hl (by decide) rfl (fun ls hl => ?_)
            refine lv_iinc (v := nI (i_10 + 1)) (lv' := [(2, .int (nI (i_10 + 1))), (1, .int 0), (4, .int 0), (3, .int (gs b_1_10)), (0, .ref (x 0))]) hx hb dX7_chosenByTurn_74 hl (k := 4) rfl (ax_add _ 1) (by decide) rfl (fun ls hl => ?_)
            refine lv_goto (tgt := 10) hx hb dX7_chosenByTurn_77 (by decide) ?_
            exact ih_L_1 (i_10 + 1) 0 _ _ ls (by omega) (by omega) (tu_w hb_10 hm_10 (ge_c9 b_ga hb_10 hm_10 c_40)) (tu_k hN_10 (fun h => hw_r_3.eq c_57 (by rw [← hm_10] at h; exact h))) hP hD hS (lv_sub hl [4, 1, 0] rfl)
          ·
            refine lv_aload_n hx hb dX7_chosenByTurn_60 rfl (lv_at hl 2 rfl) ?_
            refine va_get (D := D) (ci := 7) (v := .ref (x 7)) (C := RX7) (T := TX7) (N := 8) hx hb hts w_1 hown hK hP 0 rfl rfl 2 (by decide) w_2 (fun _ h9 => h9) rfl dX7_chosenByTurn_61 ?_
            refine lv_iload hx hb dX7_chosenByTurn_64 (lv_at hl 0 rfl) ?_
            refine va_put (D := D) (ci := 3) (v := .int 0) (ty := .int) (C := RX3) (T := TX3) (N := 4) hx hb hts w_3 tyX3 tyX3_ok nmX3 hown hK hP hD hS 2 rfl rfl 3 (by decide) w_4 (fun _ h9 => h9) rfl (by decide +kernel) rfl rfl (Nat.le_of_ble_eq_true rfl) dX7_chosenByTurn_66 (fun H locs hP hD hS => ?_)
            have hP : va_P D vwCl [((x 0), .inr (7, [.ref (x 1), .ref (x 5), .ref (x 7), .ref (x 10), .ref (x 17), .ref (x 22), .ref (x 27), .int yr])), ((x 5), .inr (5, [.ref (x 6), .int e1, .int e2, .int e3, .int e4, .int e5, .int e6, .int e7, .int e8])), ((x 7), .inr (3, [.ref (x 8), .ref (x 9), .int (nI ga), .int 0])), ((x 9), .inl (cI, 8, .inl gs)), ((x 10), .inr (1, [.ref (x 11), .ref (x 12), .ref (x 13), .ref (x 14), .ref (x 15), .ref (x 16), .int (nI ca)])), ((x 11), .inl (cI, 16, .inl k11)), ((x 15), .inl (cI, 16, .inl k15))] H := hP
            have hD : va_D A [((x 0), .inr (7, [.ref (x 1), .ref (x 5), .ref (x 7), .ref (x 10), .ref (x 17), .ref (x 22), .ref (x 27), .int yr])), ((x 5), .inr (5, [.ref (x 6), .int e1, .int e2, .int e3, .int e4, .int e5, .int e6, .int e7, .int e8])), ((x 7), .inr (3, [.ref (x 8), .ref (x 9), .int (nI ga), .int 0])), ((x 9), .inl (cI, 8, .inl gs)), ((x 10), .inr (1, [.ref (x 11), .ref (x 12), .ref (x 13), .ref (x 14), .ref (x 15), .ref (x 16), .int (nI ca)])), ((x 11), .inl (cI, 16, .inl k11)), ((x 15), .inl (cI, 16, .inl k15))] := hD
            refine lv_iload_n hx hb dX7_chosenByTurn_69 rfl (lv_at hl 1 rfl) ?_
            rw [← hQ]
            have hP9 := hP.sub (ws' := [((x 0), .inr (7, [.ref (x 1), .ref (x 5), .ref (x 7), .ref (x 10), .ref (x 17), .ref (x 22), .ref (x 27), .int yr])), ((x 5), .inr (5, [.ref (x 6), .int e1, .int e2, .int e3, .int e4, .int e5, .int e6, .int e7, .int e8])), ((x 7), .inr (3, [.ref (x 8), .ref (x 9), .int (nI ga), .int 0])), ((x 9), .inl (cI, 8, .inl gs)), ((x 10), .inr (1, [.ref (x 11), .ref (x 12), .ref (x 13), .ref (x 14), .ref (x 15), .ref (x 16), .int (nI ca)])), ((x 11), .inl (cI, 16, .inl k11)), ((x 15), .inl (cI, 16, .inl k15))]) [0, 1, 2, 3, 4, 5, 6] rfl
            have hD9 := hD.sub (ws' := [((x 0), .inr (7, [.ref (x 1), .ref (x 5), .ref (x 7), .ref (x 10), .ref (x 17), .ref (x 22), .ref (x 27), .int yr])), ((x 5), .inr (5, [.ref (x 6), .int e1, .int e2, .int e3, .int e4, .int e5, .int e6, .int e7, .int e8])), ((x 7), .inr (3, [.ref (x 8), .ref (x 9), .int (nI ga), .int 0])), ((x 9), .inl (cI, 8, .inl gs)), ((x 10), .inr (1, [.ref (x 11), .ref (x 12), .ref (x 13), .ref (x 14), .ref (x 15), .ref (x 16), .int (nI ca)])), ((x 11), .inl (cI, 16, .inl k11)), ((x 15), .inl (cI, 16, .inl k15))]) [0, 1, 2, 3, 4, 5, 6] (by decide) rfl
            exact W.iret (v := gs b_1_10) hx hb hr (fun t ht hW => ⟨⟨_, (0 : Int32), rfl, Or.inl ⟨i_10, hb_10, by rw [← hm_10]; exact hw_r_3.ne c_57, hN_10, by rw [← hm_10], (tu_g0 hb_10 hm_10 (ge_c9 b_ga hb_10 hm_10 c_40))⟩, by rw [ht]; exact hP9, va_K.moved hW.alike hK, hD9⟩, hS.F ht⟩) hS.2.2 dX7_chosenByTurn_70
        ·
          refine lv_iload_n hx hb dX7_chosenByTurn_43 rfl (lv_at hl 2 rfl) ?_
          refine lv_iconst (v := 1) hx hb dX7_chosenByTurn_44 (by decide) ?_
          refine sv_iadd (v := nI (b_1_10 + 1)) hx hb dX7_chosenByTurn_45 (ax_add _ 1) ?_
          refine lv_goto (tgt := 50) hx hb dX7_chosenByTurn_46 (by decide) ?_
          refine lv_istore (lv' := [(4, .int (nI (b_1_10 + 1))), (3, .int (gs b_1_10)), (0, .ref (x 0)), (1, .int (nI b_1_10)), (2, .int (nI i_10))]) hx hb dX7_chosenByTurn_50 hl (by decide) rfl (fun ls hl => ?_)
          refine lv_aload_n hx hb dX7_chosenByTurn_52 rfl (lv_at hl 2 rfl) ?_
          refine lv_iload_n hx hb dX7_chosenByTurn_53 rfl (lv_at hl 1 rfl) ?_
          refine vp_callSi (va_Run.run (va_runV (As := [.int (gs b_1_10)]) (rest := []) ⟨hx, hb, hml, hown, hts⟩ (f_X7_mayCome l D cB cI cJ cZ x yr e1 e2 e3 e4 e5 e6 e7 e8 ca k11 k15 (gs b_1_10) b_ca ) (cwV 1 hts gX7_chosenByTurn_X7_mayCome rfl rfl rfl (by decide +kernel) ⟨Nat.le_of_ble_eq_true rfl, Nat.le_of_ble_eq_true rfl⟩) (pre_VR (hP.sub (ws' := [((x 0), .inr (7, [.ref (x 1), .ref (x 5), .ref (x 7), .ref (x 10), .ref (x 17), .ref (x 22), .ref (x 27), .int yr])), ((x 5), .inr (5, [.ref (x 6), .int e1, .int e2, .int e3, .int e4, .int e5, .int e6, .int e7, .int e8])), ((x 10), .inr (1, [.ref (x 11), .ref (x 12), .ref (x 13), .ref (x 14), .ref (x 15), .ref (x 16), .int (nI ca)])), ((x 11), .inl (cI, 16, .inl k11)), ((x 15), .inl (cI, 16, .inl k15))]) [0, 1, 4, 5, 6] rfl) hK 0 rfl rfl rfl) rfl rfl hl.1 rfl (lv_room (Nat.le_of_ble_eq_true rfl)) dX7_chosenByTurn_54 ⟨Nat.le_of_ble_eq_true rfl, Nat.le_of_ble_eq_true rfl⟩)) (fun r_4 hw_r_4 => ?_)
          refine lv_if_eq (tgt := 71) hx hb dX7_chosenByTurn_57 (by decide) (fun c_57 => ?_) (fun c_57 => ?_)
          ·
            refine lv_iload hx hb dX7_chosenByTurn_71 (lv_at hl 0 rfl) ?_
            refine lv_istore_n (lv' := [(1, .int (nI (b_1_10 + 1))), (4, .int (nI (b_1_10 + 1))), (3, .int (gs b_1_10)), (0, .ref (x 0)), (2, .int (nI i_10))]) hx hb dX7_chosenByTurn_73 rfl hl (by decide) rfl (fun ls hl => ?_)
            refine lv_iinc (v := nI (i_10 + 1)) (lv' := [(2, .int (nI (i_10 + 1))), (1, .int (nI (b_1_10 + 1))), (4, .int (nI (b_1_10 + 1))), (3, .int (gs b_1_10)), (0, .ref (x 0))]) hx hb dX7_chosenByTurn_74 hl (k := 4) rfl (ax_add _ 1) (by decide) rfl (fun ls hl => ?_)
            refine lv_goto (tgt := 10) hx hb dX7_chosenByTurn_77 (by decide) ?_
            exact ih_L_1 (i_10 + 1) (b_1_10 + 1) _ _ ls (by omega) (by omega) (tu_s hb_10 hm_10 (lt_c9 b_ga hb_10 hm_10 c_40)) (tu_k hN_10 (fun h => hw_r_4.eq c_57 (by rw [← hm_10] at h; exact h))) hP hD hS (lv_sub hl [4, 1, 0] rfl)
          ·
            refine lv_aload_n hx hb dX7_chosenByTurn_60 rfl (lv_at hl 2 rfl) ?_
            refine va_get (D := D) (ci := 7) (v := .ref (x 7)) (C := RX7) (T := TX7) (N := 8) hx hb hts w_1 hown hK hP 0 rfl rfl 2 (by decide) w_2 (fun _ h9 => h9) rfl dX7_chosenByTurn_61 ?_
            refine lv_iload hx hb dX7_chosenByTurn_64 (lv_at hl 0 rfl) ?_
            refine va_put (D := D) (ci := 3) (v := .int (nI (b_1_10 + 1))) (ty := .int) (C := RX3) (T := TX3) (N := 4) hx hb hts w_3 tyX3 tyX3_ok nmX3 hown hK hP hD hS 2 rfl rfl 3 (by decide) w_4 (fun _ h9 => h9) rfl (by decide +kernel) rfl rfl (Nat.le_of_ble_eq_true rfl) dX7_chosenByTurn_66 (fun H locs hP hD hS => ?_)
            have hP : va_P D vwCl [((x 0), .inr (7, [.ref (x 1), .ref (x 5), .ref (x 7), .ref (x 10), .ref (x 17), .ref (x 22), .ref (x 27), .int yr])), ((x 5), .inr (5, [.ref (x 6), .int e1, .int e2, .int e3, .int e4, .int e5, .int e6, .int e7, .int e8])), ((x 7), .inr (3, [.ref (x 8), .ref (x 9), .int (nI ga), .int (nI (b_1_10 + 1))])), ((x 9), .inl (cI, 8, .inl gs)), ((x 10), .inr (1, [.ref (x 11), .ref (x 12), .ref (x 13), .ref (x 14), .ref (x 15), .ref (x 16), .int (nI ca)])), ((x 11), .inl (cI, 16, .inl k11)), ((x 15), .inl (cI, 16, .inl k15))] H := hP
            have hD : va_D A [((x 0), .inr (7, [.ref (x 1), .ref (x 5), .ref (x 7), .ref (x 10), .ref (x 17), .ref (x 22), .ref (x 27), .int yr])), ((x 5), .inr (5, [.ref (x 6), .int e1, .int e2, .int e3, .int e4, .int e5, .int e6, .int e7, .int e8])), ((x 7), .inr (3, [.ref (x 8), .ref (x 9), .int (nI ga), .int (nI (b_1_10 + 1))])), ((x 9), .inl (cI, 8, .inl gs)), ((x 10), .inr (1, [.ref (x 11), .ref (x 12), .ref (x 13), .ref (x 14), .ref (x 15), .ref (x 16), .int (nI ca)])), ((x 11), .inl (cI, 16, .inl k11)), ((x 15), .inl (cI, 16, .inl k15))] := hD
            refine lv_iload_n hx hb dX7_chosenByTurn_69 rfl (lv_at hl 1 rfl) ?_
            rw [← hQ]
            have hP9 := hP.sub (ws' := [((x 0), .inr (7, [.ref (x 1), .ref (x 5), .ref (x 7), .ref (x 10), .ref (x 17), .ref (x 22), .ref (x 27), .int yr])), ((x 5), .inr (5, [.ref (x 6), .int e1, .int e2, .int e3, .int e4, .int e5, .int e6, .int e7, .int e8])), ((x 7), .inr (3, [.ref (x 8), .ref (x 9), .int (nI ga), .int (nI (b_1_10 + 1))])), ((x 9), .inl (cI, 8, .inl gs)), ((x 10), .inr (1, [.ref (x 11), .ref (x 12), .ref (x 13), .ref (x 14), .ref (x 15), .ref (x 16), .int (nI ca)])), ((x 11), .inl (cI, 16, .inl k11)), ((x 15), .inl (cI, 16, .inl k15))]) [0, 1, 2, 3, 4, 5, 6] rfl
            have hD9 := hD.sub (ws' := [((x 0), .inr (7, [.ref (x 1), .ref (x 5), .ref (x 7), .ref (x 10), .ref (x 17), .ref (x 22), .ref (x 27), .int yr])), ((x 5), .inr (5, [.ref (x 6), .int e1, .int e2, .int e3, .int e4, .int e5, .int e6, .int e7, .int e8])), ((x 7), .inr (3, [.ref (x 8), .ref (x 9), .int (nI ga), .int (nI (b_1_10 + 1))])), ((x 9), .inl (cI, 8, .inl gs)), ((x 10), .inr (1, [.ref (x 11), .ref (x 12), .ref (x 13), .ref (x 14), .ref (x 15), .ref (x 16), .int (nI ca)])), ((x 11), .inl (cI, 16, .inl k11)), ((x 15), .inl (cI, 16, .inl k15))]) [0, 1, 2, 3, 4, 5, 6] (by decide) rfl
            exact W.iret (v := gs b_1_10) hx hb hr (fun t ht hW => ⟨⟨_, (nI (b_1_10 + 1) : Int32), rfl, Or.inl ⟨i_10, hb_10, by rw [← hm_10]; exact hw_r_4.ne c_57, hN_10, by rw [← hm_10], (tu_g1 hb_10 hm_10 (lt_c9 b_ga hb_10 hm_10 c_40))⟩, by rw [ht]; exact hP9, va_K.moved hW.alike hK, hD9⟩, hS.F ht⟩) hS.2.2 dX7_chosenByTurn_70
  exact L_1 _ 0 x0 _ _ ls (Nat.lt_succ_self _) (by first | exact Nat.zero_le _ | omega) (tu_0 hx0) (fun k h => absurd h (Nat.not_lt_zero k)) hP hD hS (lv_sub hl [2, 1, 0] rfl)

set_option maxHeartbeats 4000000 in
set_option maxRecDepth 100000 in
theorem f_X7_byVote (l : Launch) (D : va_G) (cB cI cJ cZ : ClassId) (x : Nat → Nat) (yr : Int32) (e1 : Int32) (e2 : Int32) (e3 : Int32) (e4 : Int32) (e5 : Int32) (e6 : Int32) (e7 : Int32) (e8 : Int32) (ga : Nat) (gx : Int32) (gv : Nat → Int32) (gs : Nat → Int32) (ca : Nat) (k11 : Nat → Int32) (k12 : Nat → Int32) (k15 : Nat → Int32) (b_ga : ga ≤ 8) (b_ca : ca ≤ 16) (hpr : ¬ e3 ≤ 0) : Met l yX7_chosenByVote wsX7_chosenByVote ({ frames := 2, cells := 0, slots := 0, locals := 42 } : Room) (cRd D (aTy cB cI cJ cZ) [((x 0), .inr (7, [.ref (x 1), .ref (x 5), .ref (x 7), .ref (x 10), .ref (x 17), .ref (x 22), .ref (x 27), .int yr])), ((x 5), .inr (5, [.ref (x 6), .int e1, .int e2, .int e3, .int e4, .int e5, .int e6, .int e7, .int e8])), ((x 7), .inr (3, [.ref (x 8), .ref (x 9), .int (nI ga), .int gx])), ((x 8), .inl (cI, 8, .inl gv)), ((x 9), .inl (cI, 8, .inl gs)), ((x 10), .inr (1, [.ref (x 11), .ref (x 12), .ref (x 13), .ref (x 14), .ref (x 15), .ref (x 16), .int (nI ca)])), ((x 11), .inl (cI, 16, .inl k11)), ((x 12), .inl (cI, 16, .inl k12)), ((x 15), .inl (cI, 16, .inl k15))] [.ref (x 0)]) (vp_Si (fun r : Int32 => bsP (tkV (mcQ k15 k11 e4 e5) (fun c => vtS gv gs e3 (nI c) ga) k12) ca r)) 0 0 (fun _ => False) := by
  refine Met.ofW (cc := cX7_chosenByVote) (maxL := 6) (ret := (some .int)) (by decide) rfl ?_
  intro p e s m args below meth c s₁ B hml hv
  obtain ⟨rfl, hP, hK⟩ := hv
  have hx := B.exec
  have hb := B.bytes
  have hr := B.returns
  have hts := atoms_spec (ws := wsX7_chosenByVote) B.pre
  have hown : s.vm.findClass RX7 = some m.cls := findClass_of_methodNamed B.named
  have hlocks := B.notSynchronized
  have hP : va_P D vwCl [((x 0), .inr (7, [.ref (x 1), .ref (x 5), .ref (x 7), .ref (x 10), .ref (x 17), .ref (x 22), .ref (x 27), .int yr])), ((x 5), .inr (5, [.ref (x 6), .int e1, .int e2, .int e3, .int e4, .int e5, .int e6, .int e7, .int e8])), ((x 7), .inr (3, [.ref (x 8), .ref (x 9), .int (nI ga), .int gx])), ((x 8), .inl (cI, 8, .inl gv)), ((x 9), .inl (cI, 8, .inl gs)), ((x 10), .inr (1, [.ref (x 11), .ref (x 12), .ref (x 13), .ref (x 14), .ref (x 15), .ref (x 16), .int (nI ca)])), ((x 11), .inl (cI, 16, .inl k11)), ((x 12), .inl (cI, 16, .inl k12)), ((x 15), .inl (cI, 16, .inl k15))] s.heap := hP
  have w_1 : ∀ w ∈ wsX70, w ∈ wsX7_chosenByVote := by decide +kernel
  have w_2 := hts (Cond.fieldLink RX7 33 "BlueCoats" "children" "LBlueCoats$Children;") (by decide +kernel)
  have w_3 : ∀ w ∈ wsX10, w ∈ wsX7_chosenByVote := by decide +kernel
  have w_4 := hts (Cond.fieldLink RX7 145 "BlueCoats$Children" "number" "I") (by decide +kernel)
  have w_5 := hts (Cond.fieldLink RX7 26 "BlueCoats" "givers" "LBlueCoats$Givers;") (by decide +kernel)
  have w_6 := hts (Cond.fieldLink RX7 19 "BlueCoats" "law" "LBlueCoats$Statutes;") (by decide +kernel)
  have w_7 : ∀ w ∈ wsX50, w ∈ wsX7_chosenByVote := by decide +kernel
  have w_8 := hts (Cond.fieldLink RX7 146 "BlueCoats$Statutes" "vote" "I") (by decide +kernel)
  have w_9 := hts (Cond.fieldLink RX7 152 "BlueCoats$Children" "need" "[I") (by decide +kernel)
  have hl := lv_entry ([.ref (x 0)]) (n := 6) (Nat.le_of_ble_eq_true rfl)
  rw [lg_entry_eq]
  generalize (lg_sl ([.ref (x 0)]) ++ List.replicate (6 - (lg_sl ([.ref (x 0)])).length) Slot.unset).toArray = ls at hl ⊢
  have hl : lv_has ls 6 [(0, .ref (x 0))] := hl
  generalize hQ : MQ below _ _ s _ _ _ = Q0
  refine lv_iconst (v := (-1)) hx hb dX7_chosenByVote_0 (by decide) ?_
  refine lv_istore_n (lv' := [(1, .int (-1)), (0, .ref (x 0))]) hx hb dX7_chosenByVote_1 rfl hl (by decide) rfl (fun ls hl => ?_)
  refine lv_iconst (v := 0) hx hb dX7_chosenByVote_2 (by decide) ?_
  refine lv_istore_n (lv' := [(2, .int 0), (1, .int (-1)), (0, .ref (x 0))]) hx hb dX7_chosenByVote_3 rfl hl (by decide) rfl (fun ls hl => ?_)
  refine lv_iconst (v := 0) hx hb dX7_chosenByVote_4 (by decide) ?_
  refine lv_istore_n (lv' := [(3, .int 0), (2, .int 0), (1, .int (-1)), (0, .ref (x 0))]) hx hb dX7_chosenByVote_5 rfl hl (by decide) rfl (fun ls hl => ?_)
  have L_1 : ∀ (n : Nat) (i_6 : Nat) (l_1_6 : Int32) (l_2_6 : Int32) (ls : Array Slot), ca - i_6 < n → (i_6 ≤ ca) → (bsP (tkV (mcQ k15 k11 e4 e5) (fun c => vtS gv gs e3 (nI c) ga) k12) i_6 l_1_6) → (moP (fun c => vtS gv gs e3 (nI c) ga) l_1_6 l_2_6) → va_P D vwCl [((x 0), .inr (7, [.ref (x 1), .ref (x 5), .ref (x 7), .ref (x 10), .ref (x 17), .ref (x 22), .ref (x 27), .int yr])), ((x 5), .inr (5, [.ref (x 6), .int e1, .int e2, .int e3, .int e4, .int e5, .int e6, .int e7, .int e8])), ((x 7), .inr (3, [.ref (x 8), .ref (x 9), .int (nI ga), .int gx])), ((x 8), .inl (cI, 8, .inl gv)), ((x 9), .inl (cI, 8, .inl gs)), ((x 10), .inr (1, [.ref (x 11), .ref (x 12), .ref (x 13), .ref (x 14), .ref (x 15), .ref (x 16), .int (nI ca)])), ((x 11), .inl (cI, 16, .inl k11)), ((x 12), .inl (cI, 16, .inl k12)), ((x 15), .inl (cI, 16, .inl k15))] s.heap → lv_has ls 6 [(0, .ref (x 0)), (1, .int l_1_6), (2, .int l_2_6), (3, .int (nI i_6))] → W p l e (headSpec wsX7_chosenByVote ({ frames := 2, cells := 0, slots := 0, locals := 42 } : Room)).room s m ([.ref (x 0)] : List Value).toArray below meth c s.heap [] 0 0 Q0 (F0 m 6 ls []) := by
    intro n
    induction n with
    | zero => intro i_6 l_1_6 l_2_6 ls hn_6 hle_6 hB_6 hM_6 hP hl; exact absurd hn_6 (Nat.not_lt_zero _)
    | succ n ih_L_1 =>
      intro i_6 l_1_6 l_2_6 ls hn_6 hle_6 hB_6 hM_6 hP hl
      refine lv_iload_n hx hb dX7_chosenByVote_6 rfl (lv_at hl 3 rfl) ?_
      refine lv_aload_n hx hb dX7_chosenByVote_7 rfl (lv_at hl 0 rfl) ?_
      refine va_get (D := D) (ci := 7) (v := .ref (x 10)) (C := RX7) (T := TX7) (N := 8) hx hb hts w_1 hown hK hP 0 rfl rfl 3 (by decide) w_2 (fun _ h9 => h9) rfl dX7_chosenByVote_8 ?_
      refine va_get (D := D) (ci := 1) (v := .int (nI ca)) (C := RX1) (T := TX1) (N := 7) hx hb hts w_3 hown hK hP 5 rfl rfl 6 (by decide) w_4 (fun _ h9 => h9) rfl dX7_chosenByVote_11 ?_
      refine lv_icmp_ge (tgt := 106) hx hb dX7_chosenByVote_14 (by decide) (fun c_14 => ?_) (fun c_14 => ?_)
      ·
        refine lv_iload_n hx hb dX7_chosenByVote_106 rfl (lv_at hl 1 rfl) ?_
        rw [← hQ]
        exact W.iret (v := l_1_6) hx hb hr (fun t ht hW => ⟨_, rfl, (bs_e hB_6 (Nat.le_antisymm hle_6 (ge3 (by omega) hle_6 c_14))), ht⟩) (fun q h => nomatch h) dX7_chosenByVote_107
      ·
        have hb_6 : i_6 < ca := lt3 (by omega) hle_6 c_14
        refine lv_aload_n hx hb dX7_chosenByVote_17 rfl (lv_at hl 0 rfl) ?_
        refine lv_iload_n hx hb dX7_chosenByVote_18 rfl (lv_at hl 3 rfl) ?_
        refine vp_callSi (va_Run.run (va_runV (As := [.int (nI i_6)]) (rest := []) ⟨hx, hb, hml, hown, hts⟩ (f_X7_mayCome l D cB cI cJ cZ x yr e1 e2 e3 e4 e5 e6 e7 e8 ca k11 k15 (nI i_6) b_ca ) (cwV 1 hts gX7_chosenByVote_X7_mayCome rfl rfl rfl (by decide +kernel) ⟨Nat.le_of_ble_eq_true rfl, Nat.le_of_ble_eq_true rfl⟩) (pre_VR (hP.sub (ws' := [((x 0), .inr (7, [.ref (x 1), .ref (x 5), .ref (x 7), .ref (x 10), .ref (x 17), .ref (x 22), .ref (x 27), .int yr])), ((x 5), .inr (5, [.ref (x 6), .int e1, .int e2, .int e3, .int e4, .int e5, .int e6, .int e7, .int e8])), ((x 10), .inr (1, [.ref (x 11), .ref (x 12), .ref (x 13), .ref (x 14), .ref (x 15), .ref (x 16), .int (nI ca)])), ((x 11), .inl (cI, 16, .inl k11)), ((x 15), .inl (cI, 16, .inl k15))]) [0, 1, 5, 6, 8] rfl) hK 0 rfl rfl rfl) rfl rfl hl.1 rfl (lv_room (Nat.le_of_ble_eq_true rfl)) dX7_chosenByVote_19 ⟨Nat.le_of_ble_eq_true rfl, Nat.le_of_ble_eq_true rfl⟩)) (fun r_2 hw_r_2 => ?_)
        refine lv_if_ne (tgt := 28) hx hb dX7_chosenByVote_22 (by decide) (fun c_22 => ?_) (fun c_22 => ?_)
        ·
          refine lv_aload_n hx hb dX7_chosenByVote_28 rfl (lv_at hl 0 rfl) ?_
          refine va_get (D := D) (ci := 7) (v := .ref (x 7)) (C := RX7) (T := TX7) (N := 8) hx hb hts w_1 hown hK hP 0 rfl rfl 2 (by decide) w_5 (fun _ h9 => h9) rfl dX7_chosenByVote_29 ?_
          refine lv_iload_n hx hb dX7_chosenByVote_32 rfl (lv_at hl 3 rfl) ?_
          refine lv_aload_n hx hb dX7_chosenByVote_33 rfl (lv_at hl 0 rfl) ?_
          refine va_get (D := D) (ci := 7) (v := .ref (x 5)) (C := RX7) (T := TX7) (N := 8) hx hb hts w_1 hown hK hP 0 rfl rfl 1 (by decide) w_6 (fun _ h9 => h9) rfl dX7_chosenByVote_34 ?_
          refine va_get (D := D) (ci := 5) (v := .int e3) (C := RX5) (T := TX5) (N := 9) hx hb hts w_7 hown hK hP 1 rfl rfl 3 (by decide) w_8 (fun _ h9 => h9) rfl dX7_chosenByVote_37 ?_
          refine vp_callSi (va_Run.run (va_runV (As := [.int (nI i_6), .int e3]) (rest := []) ⟨hx, hb, hml, hown, hts⟩ (f_X3_votes l D cB cI cJ cZ (x 7) (x 8) (x 9) ga gx gv gs (nI i_6) e3 b_ga hpr) (cwV 2 hts gX7_chosenByVote_X3_votesFor rfl rfl rfl (by decide +kernel) ⟨Nat.le_of_ble_eq_true rfl, Nat.le_of_ble_eq_true rfl⟩) (pre_VR (hP.sub (ws' := [((x 7), .inr (3, [.ref (x 8), .ref (x 9), .int (nI ga), .int gx])), ((x 8), .inl (cI, 8, .inl gv)), ((x 9), .inl (cI, 8, .inl gs))]) [2, 3, 4] rfl) hK 0 rfl rfl rfl) rfl rfl hl.1 rfl (lv_room (Nat.le_of_ble_eq_true rfl)) dX7_chosenByVote_40 ⟨Nat.le_of_ble_eq_true rfl, Nat.le_of_ble_eq_true rfl⟩)) (fun r_3 hw_r_3 => ?_)
          refine lv_istore (lv' := [(4, .int r_3), (0, .ref (x 0)), (1, .int l_1_6), (2, .int l_2_6), (3, .int (nI i_6))]) hx hb dX7_chosenByVote_43 hl (by decide) rfl (fun ls hl => ?_)
          refine lv_iload_n hx hb dX7_chosenByVote_45 rfl (lv_at hl 2 rfl) ?_
          refine lv_iconst (v := (-1)) hx hb dX7_chosenByVote_46 (by decide) ?_
          refine lv_icmp_eq (tgt := 81) hx hb dX7_chosenByVote_47 (by decide) (fun c_47 => ?_) (fun c_47 => ?_)
          ·
            refine lv_iconst (v := 0) hx hb dX7_chosenByVote_81 (by decide) ?_
            refine lv_istore (lv' := [(5, .int 0), (4, .int r_3), (0, .ref (x 0)), (1, .int l_1_6), (2, .int l_2_6), (3, .int (nI i_6))]) hx hb dX7_chosenByVote_82 hl (by decide) rfl (fun ls hl => ?_)
            refine lv_iload hx hb dX7_chosenByVote_84 (lv_at hl 1 rfl) ?_
            refine lv_iload_n hx hb dX7_chosenByVote_86 rfl (lv_at hl 4 rfl) ?_
            refine lv_icmp_gt (tgt := 95) hx hb dX7_chosenByVote_87 (by decide) (fun c_87 => ?_) (fun c_87 => ?_)
            ·
              refine lv_iload_n hx hb dX7_chosenByVote_95 rfl (lv_at hl 5 rfl) ?_
              refine lv_istore_n (lv' := [(1, .int (nI i_6)), (5, .int 0), (4, .int r_3), (0, .ref (x 0)), (2, .int l_2_6), (3, .int (nI i_6))]) hx hb dX7_chosenByVote_96 rfl hl (by decide) rfl (fun ls hl => ?_)
              refine lv_iload hx hb dX7_chosenByVote_97 (lv_at hl 2 rfl) ?_
              refine lv_istore_n (lv' := [(2, .int r_3), (1, .int (nI i_6)), (5, .int 0), (4, .int r_3), (0, .ref (x 0)), (3, .int (nI i_6))]) hx hb dX7_chosenByVote_99 rfl hl (by decide) rfl (fun ls hl => ?_)
              refine lv_iinc (v := nI (i_6 + 1)) (lv' := [(3, .int (nI (i_6 + 1))), (2, .int r_3), (1, .int (nI i_6)), (5, .int 0), (4, .int r_3), (0, .ref (x 0))]) hx hb dX7_chosenByVote_100 hl (k := 5) rfl (ax_add _ 1) (by decide) rfl (fun ls hl => ?_)
              refine lv_goto (tgt := 6) hx hb dX7_chosenByVote_103 (by decide) ?_
              exact ih_L_1 (i_6 + 1) (nI i_6) r_3 ls (by omega) (by omega) (bs_y hB_6 (tv_y1 ((mc_nI hb_6 b_ca).mp (hw_r_2.ne c_22)) hM_6 hw_r_3 c_87)) (mo_c (by omega) hw_r_3) hP (lv_sub hl [5, 2, 1, 0] rfl)
            ·
              refine lv_iload hx hb dX7_chosenByVote_90 (lv_at hl 0 rfl) ?_
              refine lv_if_eq (tgt := 100) hx hb dX7_chosenByVote_92 (by decide) (fun _ => ?_) (fun h => absurd (by decide) h)
              refine lv_iinc (v := nI (i_6 + 1)) (lv' := [(3, .int (nI (i_6 + 1))), (5, .int 0), (4, .int r_3), (0, .ref (x 0)), (1, .int l_1_6), (2, .int l_2_6)]) hx hb dX7_chosenByVote_100 hl (k := 5) rfl (ax_add _ 1) (by decide) rfl (fun ls hl => ?_)
              refine lv_goto (tgt := 6) hx hb dX7_chosenByVote_103 (by decide) ?_
              exact ih_L_1 (i_6 + 1) l_1_6 l_2_6 ls (by omega) (by omega) (bs_n hB_6 (tv_n hM_6 hw_r_3 c_87 (Or.inl c_47))) hM_6 hP (lv_sub hl [3, 4, 5, 0] rfl)
          ·
            refine lv_iload hx hb dX7_chosenByVote_50 (lv_at hl 0 rfl) ?_
            refine lv_iload_n hx hb dX7_chosenByVote_52 rfl (lv_at hl 3 rfl) ?_
            refine lv_icmp_ne (tgt := 81) hx hb dX7_chosenByVote_53 (by decide) (fun c_53 => ?_) (fun c_53 => ?_)
            ·
              refine lv_iconst (v := 0) hx hb dX7_chosenByVote_81 (by decide) ?_
              refine lv_istore (lv' := [(5, .int 0), (4, .int r_3), (0, .ref (x 0)), (1, .int l_1_6), (2, .int l_2_6), (3, .int (nI i_6))]) hx hb dX7_chosenByVote_82 hl (by decide) rfl (fun ls hl => ?_)
              refine lv_iload hx hb dX7_chosenByVote_84 (lv_at hl 1 rfl) ?_
              refine lv_iload_n hx hb dX7_chosenByVote_86 rfl (lv_at hl 4 rfl) ?_
              refine lv_icmp_gt (tgt := 95) hx hb dX7_chosenByVote_87 (by decide) (fun c_87 => ?_) (fun c_87 => ?_)
              ·
                refine lv_iload_n hx hb dX7_chosenByVote_95 rfl (lv_at hl 5 rfl) ?_
                refine lv_istore_n (lv' := [(1, .int (nI i_6)), (5, .int 0), (4, .int r_3), (0, .ref (x 0)), (2, .int l_2_6), (3, .int (nI i_6))]) hx hb dX7_chosenByVote_96 rfl hl (by decide) rfl (fun ls hl => ?_)
                refine lv_iload hx hb dX7_chosenByVote_97 (lv_at hl 2 rfl) ?_
                refine lv_istore_n (lv' := [(2, .int r_3), (1, .int (nI i_6)), (5, .int 0), (4, .int r_3), (0, .ref (x 0)), (3, .int (nI i_6))]) hx hb dX7_chosenByVote_99 rfl hl (by decide) rfl (fun ls hl => ?_)
                refine lv_iinc (v := nI (i_6 + 1)) (lv' := [(3, .int (nI (i_6 + 1))), (2, .int r_3), (1, .int (nI i_6)), (5, .int 0), (4, .int r_3), (0, .ref (x 0))]) hx hb dX7_chosenByVote_100 hl (k := 5) rfl (ax_add _ 1) (by decide) rfl (fun ls hl => ?_)
                refine lv_goto (tgt := 6) hx hb dX7_chosenByVote_103 (by decide) ?_
                exact ih_L_1 (i_6 + 1) (nI i_6) r_3 ls (by omega) (by omega) (bs_y hB_6 (tv_y1 ((mc_nI hb_6 b_ca).mp (hw_r_2.ne c_22)) hM_6 hw_r_3 c_87)) (mo_c (by omega) hw_r_3) hP (lv_sub hl [5, 2, 1, 0] rfl)
              ·
                refine lv_iload hx hb dX7_chosenByVote_90 (lv_at hl 0 rfl) ?_
                refine lv_if_eq (tgt := 100) hx hb dX7_chosenByVote_92 (by decide) (fun _ => ?_) (fun h => absurd (by decide) h)
                refine lv_iinc (v := nI (i_6 + 1)) (lv' := [(3, .int (nI (i_6 + 1))), (5, .int 0), (4, .int r_3), (0, .ref (x 0)), (1, .int l_1_6), (2, .int l_2_6)]) hx hb dX7_chosenByVote_100 hl (k := 5) rfl (ax_add _ 1) (by decide) rfl (fun ls hl => ?_)
                refine lv_goto (tgt := 6) hx hb dX7_chosenByVote_103 (by decide) ?_
                exact ih_L_1 (i_6 + 1) l_1_6 l_2_6 ls (by omega) (by omega) (bs_n hB_6 (tv_n hM_6 hw_r_3 c_87 (Or.inr (Or.inl c_53)))) hM_6 hP (lv_sub hl [3, 4, 5, 0] rfl)
            ·
              refine lv_aload_n hx hb dX7_chosenByVote_56 rfl (lv_at hl 1 rfl) ?_
              refine va_get (D := D) (ci := 7) (v := .ref (x 10)) (C := RX7) (T := TX7) (N := 8) hx hb hts w_1 hown hK hP 0 rfl rfl 3 (by decide) w_2 (fun _ h9 => h9) rfl dX7_chosenByVote_57 ?_
              refine va_get (D := D) (ci := 1) (v := .ref (x 12)) (C := RX1) (T := TX1) (N := 7) hx hb hts w_3 hown hK hP 5 rfl rfl 1 (by decide) w_9 (fun _ h9 => h9) rfl dX7_chosenByVote_60 ?_
              refine lv_iload_n hx hb dX7_chosenByVote_63 rfl (lv_at hl 4 rfl) ?_
              refine sv_iald (v := k12 i_6) hx hb hK hP 7 1 rfl rfl (vp_in_nI (by omega) (by decide)) (congrArg _ (nI_clamp (by omega))) dX7_chosenByVote_64 ?_
              refine lv_aload_n hx hb dX7_chosenByVote_65 rfl (lv_at hl 1 rfl) ?_
              refine va_get (D := D) (ci := 7) (v := .ref (x 10)) (C := RX7) (T := TX7) (N := 8) hx hb hts w_1 hown hK hP 0 rfl rfl 3 (by decide) w_2 (fun _ h9 => h9) rfl dX7_chosenByVote_66 ?_
              refine va_get (D := D) (ci := 1) (v := .ref (x 12)) (C := RX1) (T := TX1) (N := 7) hx hb hts w_3 hown hK hP 5 rfl rfl 1 (by decide) w_9 (fun _ h9 => h9) rfl dX7_chosenByVote_69 ?_
              refine lv_iload_n hx hb dX7_chosenByVote_72 rfl (lv_at hl 2 rfl) ?_
              refine sv_iald (v := k12 l_1_6.toNatClampNeg) hx hb hK hP 7 1 rfl rfl (in_up ((bs_in (by omega) hB_6).resolve_left c_47) (by omega)) rfl dX7_chosenByVote_73 ?_
              refine lv_icmp_le (tgt := 81) hx hb dX7_chosenByVote_74 (by decide) (fun c_74 => ?_) (fun c_74 => ?_)
              ·
                refine lv_iconst (v := 0) hx hb dX7_chosenByVote_81 (by decide) ?_
                refine lv_istore (lv' := [(5, .int 0), (4, .int r_3), (0, .ref (x 0)), (1, .int l_1_6), (2, .int l_2_6), (3, .int (nI i_6))]) hx hb dX7_chosenByVote_82 hl (by decide) rfl (fun ls hl => ?_)
                refine lv_iload hx hb dX7_chosenByVote_84 (lv_at hl 1 rfl) ?_
                refine lv_iload_n hx hb dX7_chosenByVote_86 rfl (lv_at hl 4 rfl) ?_
                refine lv_icmp_gt (tgt := 95) hx hb dX7_chosenByVote_87 (by decide) (fun c_87 => ?_) (fun c_87 => ?_)
                ·
                  refine lv_iload_n hx hb dX7_chosenByVote_95 rfl (lv_at hl 5 rfl) ?_
                  refine lv_istore_n (lv' := [(1, .int (nI i_6)), (5, .int 0), (4, .int r_3), (0, .ref (x 0)), (2, .int l_2_6), (3, .int (nI i_6))]) hx hb dX7_chosenByVote_96 rfl hl (by decide) rfl (fun ls hl => ?_)
                  refine lv_iload hx hb dX7_chosenByVote_97 (lv_at hl 2 rfl) ?_
                  refine lv_istore_n (lv' := [(2, .int r_3), (1, .int (nI i_6)), (5, .int 0), (4, .int r_3), (0, .ref (x 0)), (3, .int (nI i_6))]) hx hb dX7_chosenByVote_99 rfl hl (by decide) rfl (fun ls hl => ?_)
                  refine lv_iinc (v := nI (i_6 + 1)) (lv' := [(3, .int (nI (i_6 + 1))), (2, .int r_3), (1, .int (nI i_6)), (5, .int 0), (4, .int r_3), (0, .ref (x 0))]) hx hb dX7_chosenByVote_100 hl (k := 5) rfl (ax_add _ 1) (by decide) rfl (fun ls hl => ?_)
                  refine lv_goto (tgt := 6) hx hb dX7_chosenByVote_103 (by decide) ?_
                  exact ih_L_1 (i_6 + 1) (nI i_6) r_3 ls (by omega) (by omega) (bs_y hB_6 (tv_y1 ((mc_nI hb_6 b_ca).mp (hw_r_2.ne c_22)) hM_6 hw_r_3 c_87)) (mo_c (by omega) hw_r_3) hP (lv_sub hl [5, 2, 1, 0] rfl)
                ·
                  refine lv_iload hx hb dX7_chosenByVote_90 (lv_at hl 0 rfl) ?_
                  refine lv_if_eq (tgt := 100) hx hb dX7_chosenByVote_92 (by decide) (fun _ => ?_) (fun h => absurd (by decide) h)
                  refine lv_iinc (v := nI (i_6 + 1)) (lv' := [(3, .int (nI (i_6 + 1))), (5, .int 0), (4, .int r_3), (0, .ref (x 0)), (1, .int l_1_6), (2, .int l_2_6)]) hx hb dX7_chosenByVote_100 hl (k := 5) rfl (ax_add _ 1) (by decide) rfl (fun ls hl => ?_)
                  refine lv_goto (tgt := 6) hx hb dX7_chosenByVote_103 (by decide) ?_
                  exact ih_L_1 (i_6 + 1) l_1_6 l_2_6 ls (by omega) (by omega) (bs_n hB_6 (tv_n hM_6 hw_r_3 c_87 (Or.inr (Or.inr c_74)))) hM_6 hP (lv_sub hl [3, 4, 5, 0] rfl)
              ·
                refine lv_iconst (v := 1) hx hb dX7_chosenByVote_77 (by decide) ?_
                refine lv_goto (tgt := 82) hx hb dX7_chosenByVote_78 (by decide) ?_
                refine lv_istore (lv' := [(5, .int 1), (4, .int r_3), (0, .ref (x 0)), (1, .int l_1_6), (2, .int l_2_6), (3, .int (nI i_6))]) hx hb dX7_chosenByVote_82 hl (by decide) rfl (fun ls hl => ?_)
                refine lv_iload hx hb dX7_chosenByVote_84 (lv_at hl 1 rfl) ?_
                refine lv_iload_n hx hb dX7_chosenByVote_86 rfl (lv_at hl 4 rfl) ?_
                refine lv_icmp_gt (tgt := 95) hx hb dX7_chosenByVote_87 (by decide) (fun c_87 => ?_) (fun c_87 => ?_)
                ·
                  refine lv_iload_n hx hb dX7_chosenByVote_95 rfl (lv_at hl 5 rfl) ?_
                  refine lv_istore_n (lv' := [(1, .int (nI i_6)), (5, .int 1), (4, .int r_3), (0, .ref (x 0)), (2, .int l_2_6), (3, .int (nI i_6))]) hx hb dX7_chosenByVote_96 rfl hl (by decide) rfl (fun ls hl => ?_)
                  refine lv_iload hx hb dX7_chosenByVote_97 (lv_at hl 2 rfl) ?_
                  refine lv_istore_n (lv' := [(2, .int r_3), (1, .int (nI i_6)), (5, .int 1), (4, .int r_3), (0, .ref (x 0)), (3, .int (nI i_6))]) hx hb dX7_chosenByVote_99 rfl hl (by decide) rfl (fun ls hl => ?_)
                  refine lv_iinc (v := nI (i_6 + 1)) (lv' := [(3, .int (nI (i_6 + 1))), (2, .int r_3), (1, .int (nI i_6)), (5, .int 1), (4, .int r_3), (0, .ref (x 0))]) hx hb dX7_chosenByVote_100 hl (k := 5) rfl (ax_add _ 1) (by decide) rfl (fun ls hl => ?_)
                  refine lv_goto (tgt := 6) hx hb dX7_chosenByVote_103 (by decide) ?_
                  exact ih_L_1 (i_6 + 1) (nI i_6) r_3 ls (by omega) (by omega) (bs_y hB_6 (tv_y1 ((mc_nI hb_6 b_ca).mp (hw_r_2.ne c_22)) hM_6 hw_r_3 c_87)) (mo_c (by omega) hw_r_3) hP (lv_sub hl [5, 2, 1, 0] rfl)
                ·
                  refine lv_iload hx hb dX7_chosenByVote_90 (lv_at hl 0 rfl) ?_
                  refine lv_if_eq (tgt := 100) hx hb dX7_chosenByVote_92 (by decide) (fun h => absurd h (by decide)) (fun _ => ?_)
                  refine lv_iload_n hx hb dX7_chosenByVote_95 rfl (lv_at hl 5 rfl) ?_
                  refine lv_istore_n (lv' := [(1, .int (nI i_6)), (5, .int 1), (4, .int r_3), (0, .ref (x 0)), (2, .int l_2_6), (3, .int (nI i_6))]) hx hb dX7_chosenByVote_96 rfl hl (by decide) rfl (fun ls hl => ?_)
                  refine lv_iload hx hb dX7_chosenByVote_97 (lv_at hl 2 rfl) ?_
                  refine lv_istore_n (lv' := [(2, .int r_3), (1, .int (nI i_6)), (5, .int 1), (4, .int r_3), (0, .ref (x 0)), (3, .int (nI i_6))]) hx hb dX7_chosenByVote_99 rfl hl (by decide) rfl (fun ls hl => ?_)
                  refine lv_iinc (v := nI (i_6 + 1)) (lv' := [(3, .int (nI (i_6 + 1))), (2, .int r_3), (1, .int (nI i_6)), (5, .int 1), (4, .int r_3), (0, .ref (x 0))]) hx hb dX7_chosenByVote_100 hl (k := 5) rfl (ax_add _ 1) (by decide) rfl (fun ls hl => ?_)
                  refine lv_goto (tgt := 6) hx hb dX7_chosenByVote_103 (by decide) ?_
                  exact ih_L_1 (i_6 + 1) (nI i_6) r_3 ls (by omega) (by omega) (bs_y hB_6 (tv_y2 ((mc_nI hb_6 b_ca).mp (hw_r_2.ne c_22)) hM_6 hw_r_3 c_47 c_53 c_74)) (mo_c (by omega) hw_r_3) hP (lv_sub hl [5, 2, 1, 0] rfl)
        ·
          refine lv_goto (tgt := 100) hx hb dX7_chosenByVote_25 (by decide) ?_
          refine lv_iinc (v := nI (i_6 + 1)) (lv' := [(3, .int (nI (i_6 + 1))), (0, .ref (x 0)), (1, .int l_1_6), (2, .int l_2_6)]) hx hb dX7_chosenByVote_100 hl (k := 3) rfl (ax_add _ 1) (by decide) rfl (fun ls hl => ?_)
          refine lv_goto (tgt := 6) hx hb dX7_chosenByVote_103 (by decide) ?_
          exact ih_L_1 (i_6 + 1) l_1_6 l_2_6 ls (by omega) (by omega) (bs_n hB_6 (tv_no (fun h => hw_r_2.eq c_22 ((mc_nI hb_6 b_ca).mpr h)))) hM_6 hP (lv_sub hl [1, 2, 3, 0] rfl)
  exact L_1 _ 0 (-1) 0 ls (Nat.lt_succ_self _) (by first | exact Nat.zero_le _ | omega) rfl (Or.inl ⟨rfl, rfl⟩) hP (lv_sub hl [3, 2, 1, 0] rfl)

set_option maxHeartbeats 4000000 in
set_option maxRecDepth 100000 in
theorem f_X7_byNeed (l : Launch) (D : va_G) (cB cI cJ cZ : ClassId) (x : Nat → Nat) (yr : Int32) (e1 : Int32) (e2 : Int32) (e3 : Int32) (e4 : Int32) (e5 : Int32) (e6 : Int32) (e7 : Int32) (e8 : Int32) (ca : Nat) (k11 : Nat → Int32) (k12 : Nat → Int32) (k15 : Nat → Int32) (b_ca : ca ≤ 16) : Met l yX7_chosenByNeed wsX7_chosenByNeed ({ frames := 2, cells := 0, slots := 0, locals := 42 } : Room) (cRd D (aTy cB cI cJ cZ) [((x 0), .inr (7, [.ref (x 1), .ref (x 5), .ref (x 7), .ref (x 10), .ref (x 17), .ref (x 22), .ref (x 27), .int yr])), ((x 5), .inr (5, [.ref (x 6), .int e1, .int e2, .int e3, .int e4, .int e5, .int e6, .int e7, .int e8])), ((x 10), .inr (1, [.ref (x 11), .ref (x 12), .ref (x 13), .ref (x 14), .ref (x 15), .ref (x 16), .int (nI ca)])), ((x 11), .inl (cI, 16, .inl k11)), ((x 12), .inl (cI, 16, .inl k12)), ((x 15), .inl (cI, 16, .inl k15))] [.ref (x 0)]) (vp_Si (fun r : Int32 => bsP (tkN (mcQ k15 k11 e4 e5) k12) ca r)) 0 0 (fun _ => False) := by
  refine Met.ofW (cc := cX7_chosenByNeed) (maxL := 3) (ret := (some .int)) (by decide) rfl ?_
  intro p e s m args below meth c s₁ B hml hv
  obtain ⟨rfl, hP, hK⟩ := hv
  have hx := B.exec
  have hb := B.bytes
  have hr := B.returns
  have hts := atoms_spec (ws := wsX7_chosenByNeed) B.pre
  have hown : s.vm.findClass RX7 = some m.cls := findClass_of_methodNamed B.named
  have hlocks := B.notSynchronized
  have hP : va_P D vwCl [((x 0), .inr (7, [.ref (x 1), .ref (x 5), .ref (x 7), .ref (x 10), .ref (x 17), .ref (x 22), .ref (x 27), .int yr])), ((x 5), .inr (5, [.ref (x 6), .int e1, .int e2, .int e3, .int e4, .int e5, .int e6, .int e7, .int e8])), ((x 10), .inr (1, [.ref (x 11), .ref (x 12), .ref (x 13), .ref (x 14), .ref (x 15), .ref (x 16), .int (nI ca)])), ((x 11), .inl (cI, 16, .inl k11)), ((x 12), .inl (cI, 16, .inl k12)), ((x 15), .inl (cI, 16, .inl k15))] s.heap := hP
  have w_1 : ∀ w ∈ wsX70, w ∈ wsX7_chosenByNeed := by decide +kernel
  have w_2 := hts (Cond.fieldLink RX7 33 "BlueCoats" "children" "LBlueCoats$Children;") (by decide +kernel)
  have w_3 : ∀ w ∈ wsX10, w ∈ wsX7_chosenByNeed := by decide +kernel
  have w_4 := hts (Cond.fieldLink RX7 145 "BlueCoats$Children" "number" "I") (by decide +kernel)
  have w_5 := hts (Cond.fieldLink RX7 152 "BlueCoats$Children" "need" "[I") (by decide +kernel)
  have hl := lv_entry ([.ref (x 0)]) (n := 3) (Nat.le_of_ble_eq_true rfl)
  rw [lg_entry_eq]
  generalize (lg_sl ([.ref (x 0)]) ++ List.replicate (3 - (lg_sl ([.ref (x 0)])).length) Slot.unset).toArray = ls at hl ⊢
  have hl : lv_has ls 3 [(0, .ref (x 0))] := hl
  generalize hQ : MQ below _ _ s _ _ _ = Q0
  refine lv_iconst (v := (-1)) hx hb dX7_chosenByNeed_0 (by decide) ?_
  refine lv_istore_n (lv' := [(1, .int (-1)), (0, .ref (x 0))]) hx hb dX7_chosenByNeed_1 rfl hl (by decide) rfl (fun ls hl => ?_)
  refine lv_iconst (v := 0) hx hb dX7_chosenByNeed_2 (by decide) ?_
  refine lv_istore_n (lv' := [(2, .int 0), (1, .int (-1)), (0, .ref (x 0))]) hx hb dX7_chosenByNeed_3 rfl hl (by decide) rfl (fun ls hl => ?_)
  have L_1 : ∀ (n : Nat) (i_4 : Nat) (l_1_4 : Int32) (ls : Array Slot), ca - i_4 < n → (i_4 ≤ ca) → (bsP (tkN (mcQ k15 k11 e4 e5) k12) i_4 l_1_4) → va_P D vwCl [((x 0), .inr (7, [.ref (x 1), .ref (x 5), .ref (x 7), .ref (x 10), .ref (x 17), .ref (x 22), .ref (x 27), .int yr])), ((x 5), .inr (5, [.ref (x 6), .int e1, .int e2, .int e3, .int e4, .int e5, .int e6, .int e7, .int e8])), ((x 10), .inr (1, [.ref (x 11), .ref (x 12), .ref (x 13), .ref (x 14), .ref (x 15), .ref (x 16), .int (nI ca)])), ((x 11), .inl (cI, 16, .inl k11)), ((x 12), .inl (cI, 16, .inl k12)), ((x 15), .inl (cI, 16, .inl k15))] s.heap → lv_has ls 3 [(0, .ref (x 0)), (1, .int l_1_4), (2, .int (nI i_4))] → W p l e (headSpec wsX7_chosenByNeed ({ frames := 2, cells := 0, slots := 0, locals := 42 } : Room)).room s m ([.ref (x 0)] : List Value).toArray below meth c s.heap [] 0 0 Q0 (F0 m 4 ls []) := by
    intro n
    induction n with
    | zero => intro i_4 l_1_4 ls hn_4 hle_4 hB_4 hP hl; exact absurd hn_4 (Nat.not_lt_zero _)
    | succ n ih_L_1 =>
      intro i_4 l_1_4 ls hn_4 hle_4 hB_4 hP hl
      refine lv_iload_n hx hb dX7_chosenByNeed_4 rfl (lv_at hl 2 rfl) ?_
      refine lv_aload_n hx hb dX7_chosenByNeed_5 rfl (lv_at hl 0 rfl) ?_
      refine va_get (D := D) (ci := 7) (v := .ref (x 10)) (C := RX7) (T := TX7) (N := 8) hx hb hts w_1 hown hK hP 0 rfl rfl 3 (by decide) w_2 (fun _ h9 => h9) rfl dX7_chosenByNeed_6 ?_
      refine va_get (D := D) (ci := 1) (v := .int (nI ca)) (C := RX1) (T := TX1) (N := 7) hx hb hts w_3 hown hK hP 2 rfl rfl 6 (by decide) w_4 (fun _ h9 => h9) rfl dX7_chosenByNeed_9 ?_
      refine lv_icmp_ge (tgt := 57) hx hb dX7_chosenByNeed_12 (by decide) (fun c_12 => ?_) (fun c_12 => ?_)
      ·
        refine lv_iload_n hx hb dX7_chosenByNeed_57 rfl (lv_at hl 1 rfl) ?_
        rw [← hQ]
        exact W.iret (v := l_1_4) hx hb hr (fun t ht hW => ⟨_, rfl, (bs_e hB_4 (Nat.le_antisymm hle_4 (ge3 (by omega) hle_4 c_12))), ht⟩) (fun q h => nomatch h) dX7_chosenByNeed_58
      ·
        have hb_4 : i_4 < ca := lt3 (by omega) hle_4 c_12
        refine lv_aload_n hx hb dX7_chosenByNeed_15 rfl (lv_at hl 0 rfl) ?_
        refine lv_iload_n hx hb dX7_chosenByNeed_16 rfl (lv_at hl 2 rfl) ?_
        refine vp_callSi (va_Run.run (va_runV (As := [.int (nI i_4)]) (rest := []) ⟨hx, hb, hml, hown, hts⟩ (f_X7_mayCome l D cB cI cJ cZ x yr e1 e2 e3 e4 e5 e6 e7 e8 ca k11 k15 (nI i_4) b_ca ) (cwV 1 hts gX7_chosenByNeed_X7_mayCome rfl rfl rfl (by decide +kernel) ⟨Nat.le_of_ble_eq_true rfl, Nat.le_of_ble_eq_true rfl⟩) (pre_VR (hP.sub (ws' := [((x 0), .inr (7, [.ref (x 1), .ref (x 5), .ref (x 7), .ref (x 10), .ref (x 17), .ref (x 22), .ref (x 27), .int yr])), ((x 5), .inr (5, [.ref (x 6), .int e1, .int e2, .int e3, .int e4, .int e5, .int e6, .int e7, .int e8])), ((x 10), .inr (1, [.ref (x 11), .ref (x 12), .ref (x 13), .ref (x 14), .ref (x 15), .ref (x 16), .int (nI ca)])), ((x 11), .inl (cI, 16, .inl k11)), ((x 15), .inl (cI, 16, .inl k15))]) [0, 1, 2, 3, 5] rfl) hK 0 rfl rfl rfl) rfl rfl hl.1 rfl (lv_room (Nat.le_of_ble_eq_true rfl)) dX7_chosenByNeed_17 ⟨Nat.le_of_ble_eq_true rfl, Nat.le_of_ble_eq_true rfl⟩)) (fun r_2 hw_r_2 => ?_)
        refine lv_if_eq (tgt := 51) hx hb dX7_chosenByNeed_20 (by decide) (fun c_20 => ?_) (fun c_20 => ?_)
        ·
          refine lv_iinc (v := nI (i_4 + 1)) (lv' := [(2, .int (nI (i_4 + 1))), (0, .ref (x 0)), (1, .int l_1_4)]) hx hb dX7_chosenByNeed_51 hl (k := 2) rfl (ax_add _ 1) (by decide) rfl (fun ls hl => ?_)
          refine lv_goto (tgt := 4) hx hb dX7_chosenByNeed_54 (by decide) ?_
          exact ih_L_1 (i_4 + 1) l_1_4 ls (by omega) (by omega) (bs_n hB_4 (tn_n1 (fun h => hw_r_2.eq c_20 ((mc_nI hb_4 b_ca).mpr h)))) hP (lv_sub hl [1, 2, 0] rfl)
        ·
          refine lv_iload_n hx hb dX7_chosenByNeed_23 rfl (lv_at hl 1 rfl) ?_
          refine lv_iconst (v := (-1)) hx hb dX7_chosenByNeed_24 (by decide) ?_
          refine lv_icmp_eq (tgt := 49) hx hb dX7_chosenByNeed_25 (by decide) (fun c_25 => ?_) (fun c_25 => ?_)
          ·
            refine lv_iload_n hx hb dX7_chosenByNeed_49 rfl (lv_at hl 2 rfl) ?_
            refine lv_istore_n (lv' := [(1, .int (nI i_4)), (0, .ref (x 0)), (2, .int (nI i_4))]) hx hb dX7_chosenByNeed_50 rfl hl (by decide) rfl (fun ls hl => ?_)
            refine lv_iinc (v := nI (i_4 + 1)) (lv' := [(2, .int (nI (i_4 + 1))), (1, .int (nI i_4)), (0, .ref (x 0))]) hx hb dX7_chosenByNeed_51 hl (k := 2) rfl (ax_add _ 1) (by decide) rfl (fun ls hl => ?_)
            refine lv_goto (tgt := 4) hx hb dX7_chosenByNeed_54 (by decide) ?_
            exact ih_L_1 (i_4 + 1) (nI i_4) ls (by omega) (by omega) (bs_y hB_4 (tn_y ((mc_nI hb_4 b_ca).mp (hw_r_2.ne c_20)) (Or.inl c_25))) hP (lv_sub hl [2, 1, 0] rfl)
          ·
            refine lv_aload_n hx hb dX7_chosenByNeed_28 rfl (lv_at hl 0 rfl) ?_
            refine va_get (D := D) (ci := 7) (v := .ref (x 10)) (C := RX7) (T := TX7) (N := 8) hx hb hts w_1 hown hK hP 0 rfl rfl 3 (by decide) w_2 (fun _ h9 => h9) rfl dX7_chosenByNeed_29 ?_
            refine va_get (D := D) (ci := 1) (v := .ref (x 12)) (C := RX1) (T := TX1) (N := 7) hx hb hts w_3 hown hK hP 2 rfl rfl 1 (by decide) w_5 (fun _ h9 => h9) rfl dX7_chosenByNeed_32 ?_
            refine lv_iload_n hx hb dX7_chosenByNeed_35 rfl (lv_at hl 2 rfl) ?_
            refine sv_iald (v := k12 i_4) hx hb hK hP 4 1 rfl rfl (vp_in_nI (by omega) (by decide)) (congrArg _ (nI_clamp (by omega))) dX7_chosenByNeed_36 ?_
            refine lv_aload_n hx hb dX7_chosenByNeed_37 rfl (lv_at hl 0 rfl) ?_
            refine va_get (D := D) (ci := 7) (v := .ref (x 10)) (C := RX7) (T := TX7) (N := 8) hx hb hts w_1 hown hK hP 0 rfl rfl 3 (by decide) w_2 (fun _ h9 => h9) rfl dX7_chosenByNeed_38 ?_
            refine va_get (D := D) (ci := 1) (v := .ref (x 12)) (C := RX1) (T := TX1) (N := 7) hx hb hts w_3 hown hK hP 2 rfl rfl 1 (by decide) w_5 (fun _ h9 => h9) rfl dX7_chosenByNeed_41 ?_
            refine lv_iload_n hx hb dX7_chosenByNeed_44 rfl (lv_at hl 1 rfl) ?_
            refine sv_iald (v := k12 l_1_4.toNatClampNeg) hx hb hK hP 4 1 rfl rfl (in_up ((bs_in (by omega) hB_4).resolve_left c_25) (by omega)) rfl dX7_chosenByNeed_45 ?_
            refine lv_icmp_le (tgt := 51) hx hb dX7_chosenByNeed_46 (by decide) (fun c_46 => ?_) (fun c_46 => ?_)
            ·
              refine lv_iinc (v := nI (i_4 + 1)) (lv' := [(2, .int (nI (i_4 + 1))), (0, .ref (x 0)), (1, .int l_1_4)]) hx hb dX7_chosenByNeed_51 hl (k := 2) rfl (ax_add _ 1) (by decide) rfl (fun ls hl => ?_)
              refine lv_goto (tgt := 4) hx hb dX7_chosenByNeed_54 (by decide) ?_
              exact ih_L_1 (i_4 + 1) l_1_4 ls (by omega) (by omega) (bs_n hB_4 (tn_n2 c_25 c_46)) hP (lv_sub hl [1, 2, 0] rfl)
            ·
              refine lv_iload_n hx hb dX7_chosenByNeed_49 rfl (lv_at hl 2 rfl) ?_
              refine lv_istore_n (lv' := [(1, .int (nI i_4)), (0, .ref (x 0)), (2, .int (nI i_4))]) hx hb dX7_chosenByNeed_50 rfl hl (by decide) rfl (fun ls hl => ?_)
              refine lv_iinc (v := nI (i_4 + 1)) (lv' := [(2, .int (nI (i_4 + 1))), (1, .int (nI i_4)), (0, .ref (x 0))]) hx hb dX7_chosenByNeed_51 hl (k := 2) rfl (ax_add _ 1) (by decide) rfl (fun ls hl => ?_)
              refine lv_goto (tgt := 4) hx hb dX7_chosenByNeed_54 (by decide) ?_
              exact ih_L_1 (i_4 + 1) (nI i_4) ls (by omega) (by omega) (bs_y hB_4 (tn_y ((mc_nI hb_4 b_ca).mp (hw_r_2.ne c_20)) (Or.inr c_46))) hP (lv_sub hl [2, 1, 0] rfl)
  exact L_1 _ 0 (-1) ls (Nat.lt_succ_self _) (by first | exact Nat.zero_le _ | omega) rfl hP (lv_sub hl [2, 1, 0] rfl)

set_option maxHeartbeats 4000000 in
set_option maxRecDepth 100000 in
theorem f_X7_chosenBy (l : Launch) (D : va_G) (cB cI cJ cZ : ClassId) (sz : Nat) (x : Nat → Nat) (yr : Int32) (e1 : Int32) (e2 : Int32) (e3 : Int32) (e4 : Int32) (e5 : Int32) (e6 : Int32) (e7 : Int32) (e8 : Int32) (ga : Nat) (gx : Int32) (gv : Nat → Int32) (gs : Nat → Int32) (ca : Nat) (k11 : Nat → Int32) (k12 : Nat → Int32) (k15 : Nat → Int32) (q : Int32) (x0 : Nat) (b_ga : ga ≤ 8) (b_ca : ca ≤ 16) (hgx : gx = nI x0) (hx0 : x0 < ga ∨ x0 = 0) (hpr : ¬ e3 ≤ 0) : Met l yX7_chosenBy wsX7_chosenBy ({ frames := 3, cells := 0, slots := 0, locals := 67 } : Room) (cPre D (aTy cB cI cJ cZ) [((x 0), .inr (7, [.ref (x 1), .ref (x 5), .ref (x 7), .ref (x 10), .ref (x 17), .ref (x 22), .ref (x 27), .int yr])), ((x 5), .inr (5, [.ref (x 6), .int e1, .int e2, .int e3, .int e4, .int e5, .int e6, .int e7, .int e8])), ((x 7), .inr (3, [.ref (x 8), .ref (x 9), .int (nI ga), .int gx])), ((x 8), .inl (cI, 8, .inl gv)), ((x 9), .inl (cI, 8, .inl gs)), ((x 10), .inr (1, [.ref (x 11), .ref (x 12), .ref (x 13), .ref (x 14), .ref (x 15), .ref (x 16), .int (nI ca)])), ((x 11), .inl (cI, 16, .inl k11)), ((x 12), .inl (cI, 16, .inl k12)), ((x 15), .inl (cI, 16, .inl k15))] sz [.ref (x 0), .int q]) (va_Qi (fun (r : Int32) (u : Int32) => cbP ga x0 ca gv gs k15 k11 k12 e3 e4 e5 gx q r u) (cB_ D (aTy cB cI cJ cZ) (va_A [((x 0), .inr (7, [.ref (x 1), .ref (x 5), .ref (x 7), .ref (x 10), .ref (x 17), .ref (x 22), .ref (x 27), .int yr])), ((x 5), .inr (5, [.ref (x 6), .int e1, .int e2, .int e3, .int e4, .int e5, .int e6, .int e7, .int e8])), ((x 7), .inr (3, [.ref (x 8), .ref (x 9), .int (nI ga), .int gx])), ((x 8), .inl (cI, 8, .inl gv)), ((x 9), .inl (cI, 8, .inl gs)), ((x 10), .inr (1, [.ref (x 11), .ref (x 12), .ref (x 13), .ref (x 14), .ref (x 15), .ref (x 16), .int (nI ca)])), ((x 11), .inl (cI, 16, .inl k11)), ((x 12), .inl (cI, 16, .inl k12)), ((x 15), .inl (cI, 16, .inl k15))] sz) (fun u => [((x 0), .inr (7, [.ref (x 1), .ref (x 5), .ref (x 7), .ref (x 10), .ref (x 17), .ref (x 22), .ref (x 27), .int yr])), ((x 5), .inr (5, [.ref (x 6), .int e1, .int e2, .int e3, .int e4, .int e5, .int e6, .int e7, .int e8])), ((x 7), .inr (3, [.ref (x 8), .ref (x 9), .int (nI ga), .int (u)])), ((x 8), .inl (cI, 8, .inl gv)), ((x 9), .inl (cI, 8, .inl gs)), ((x 10), .inr (1, [.ref (x 11), .ref (x 12), .ref (x 13), .ref (x 14), .ref (x 15), .ref (x 16), .int (nI ca)])), ((x 11), .inl (cI, 16, .inl k11)), ((x 12), .inl (cI, 16, .inl k12)), ((x 15), .inl (cI, 16, .inl k15))])) (va_A [((x 0), .inr (7, [.ref (x 1), .ref (x 5), .ref (x 7), .ref (x 10), .ref (x 17), .ref (x 22), .ref (x 27), .int yr])), ((x 5), .inr (5, [.ref (x 6), .int e1, .int e2, .int e3, .int e4, .int e5, .int e6, .int e7, .int e8])), ((x 7), .inr (3, [.ref (x 8), .ref (x 9), .int (nI ga), .int gx])), ((x 8), .inl (cI, 8, .inl gv)), ((x 9), .inl (cI, 8, .inl gs)), ((x 10), .inr (1, [.ref (x 11), .ref (x 12), .ref (x 13), .ref (x 14), .ref (x 15), .ref (x 16), .int (nI ca)])), ((x 11), .inl (cI, 16, .inl k11)), ((x 12), .inl (cI, 16, .inl k12)), ((x 15), .inl (cI, 16, .inl k15))] sz)) 0 0 (va_A [((x 0), .inr (7, [.ref (x 1), .ref (x 5), .ref (x 7), .ref (x 10), .ref (x 17), .ref (x 22), .ref (x 27), .int yr])), ((x 5), .inr (5, [.ref (x 6), .int e1, .int e2, .int e3, .int e4, .int e5, .int e6, .int e7, .int e8])), ((x 7), .inr (3, [.ref (x 8), .ref (x 9), .int (nI ga), .int gx])), ((x 8), .inl (cI, 8, .inl gv)), ((x 9), .inl (cI, 8, .inl gs)), ((x 10), .inr (1, [.ref (x 11), .ref (x 12), .ref (x 13), .ref (x 14), .ref (x 15), .ref (x 16), .int (nI ca)])), ((x 11), .inl (cI, 16, .inl k11)), ((x 12), .inl (cI, 16, .inl k12)), ((x 15), .inl (cI, 16, .inl k15))] sz) := by
  refine Met.ofW (cc := cX7_chosenBy) (maxL := 2) (ret := (some .int)) (by decide) rfl ?_
  intro p e s m args below meth c s₁ B hml hv
  obtain ⟨rfl, hsz, hP, hK, hD0⟩ := hv
  have hx := B.exec
  have hb := B.bytes
  have hr := B.returns
  have hts := atoms_spec (ws := wsX7_chosenBy) B.pre
  have hown : s.vm.findClass RX7 = some m.cls := findClass_of_methodNamed B.named
  have hlocks := B.notSynchronized
  subst hsz
  have hD := hD0.self (sz := s.heap.size)
  generalize hAe : va_A [((x 0), .inr (7, [.ref (x 1), .ref (x 5), .ref (x 7), .ref (x 10), .ref (x 17), .ref (x 22), .ref (x 27), .int yr])), ((x 5), .inr (5, [.ref (x 6), .int e1, .int e2, .int e3, .int e4, .int e5, .int e6, .int e7, .int e8])), ((x 7), .inr (3, [.ref (x 8), .ref (x 9), .int (nI ga), .int gx])), ((x 8), .inl (cI, 8, .inl gv)), ((x 9), .inl (cI, 8, .inl gs)), ((x 10), .inr (1, [.ref (x 11), .ref (x 12), .ref (x 13), .ref (x 14), .ref (x 15), .ref (x 16), .int (nI ca)])), ((x 11), .inl (cI, 16, .inl k11)), ((x 12), .inl (cI, 16, .inl k12)), ((x 15), .inl (cI, 16, .inl k15))] s.heap.size = A at hD ⊢
  have hA : ∀ q : Nat, s.heap.size ≤ q → A q := fun q h => by rw [← hAe]; exact Or.inr h
  have hS : va_S A s.heap s.heap [] := va_S.rf
  have hP : va_P D vwCl [((x 0), .inr (7, [.ref (x 1), .ref (x 5), .ref (x 7), .ref (x 10), .ref (x 17), .ref (x 22), .ref (x 27), .int yr])), ((x 5), .inr (5, [.ref (x 6), .int e1, .int e2, .int e3, .int e4, .int e5, .int e6, .int e7, .int e8])), ((x 7), .inr (3, [.ref (x 8), .ref (x 9), .int (nI ga), .int gx])), ((x 8), .inl (cI, 8, .inl gv)), ((x 9), .inl (cI, 8, .inl gs)), ((x 10), .inr (1, [.ref (x 11), .ref (x 12), .ref (x 13), .ref (x 14), .ref (x 15), .ref (x 16), .int (nI ca)])), ((x 11), .inl (cI, 16, .inl k11)), ((x 12), .inl (cI, 16, .inl k12)), ((x 15), .inl (cI, 16, .inl k15))] s.heap := hP
  have hl := lv_entry ([.ref (x 0), .int q]) (n := 2) (Nat.le_of_ble_eq_true rfl)
  rw [lg_entry_eq]
  generalize (lg_sl ([.ref (x 0), .int q]) ++ List.replicate (2 - (lg_sl ([.ref (x 0), .int q])).length) Slot.unset).toArray = ls at hl ⊢
  have hl : lv_has ls 2 [(0, .ref (x 0)), (1, .int q)] := hl
  refine lv_iload_n hx hb dX7_chosenBy_0 rfl (lv_at hl 1 rfl) ?_
  by_cases k_10 : q = 0
  ·
    subst k_10
    refine lv_lookup (off := 27) (tgt := 28) hx hb dX7_chosenBy_1 (by decide) (by decide) (by decide) ?_
    refine lv_aload_n hx hb dX7_chosenBy_28 rfl (lv_at hl 0 rfl) ?_
    refine cl_i (wc := [((x 0), .inr (7, [.ref (x 1), .ref (x 5), .ref (x 7), .ref (x 10), .ref (x 17), .ref (x 22), .ref (x 27), .int yr])), ((x 5), .inr (5, [.ref (x 6), .int e1, .int e2, .int e3, .int e4, .int e5, .int e6, .int e7, .int e8])), ((x 7), .inr (3, [.ref (x 8), .ref (x 9), .int (nI ga), .int gx])), ((x 9), .inl (cI, 8, .inl gs)), ((x 10), .inr (1, [.ref (x 11), .ref (x 12), .ref (x 13), .ref (x 14), .ref (x 15), .ref (x 16), .int (nI ca)])), ((x 11), .inl (cI, 16, .inl k11)), ((x 15), .inl (cI, 16, .inl k15))]) (wr := [((x 8), .inl (cI, 8, .inl gv)), ((x 12), .inl (cI, 16, .inl k12))]) (va_runV (As := []) (rest := []) ⟨hx, hb, hml, hown, hts⟩ (f_X7_turn l D cB cI cJ cZ s.heap.size x yr e1 e2 e3 e4 e5 e6 e7 e8 ga gx gs ca k11 k15 x0 b_ga b_ca hgx hx0) (cwV 0 hts gX7_chosenBy_X7_chosenByTurn rfl rfl rfl (by decide +kernel) ⟨Nat.le_of_ble_eq_true rfl, Nat.le_of_ble_eq_true rfl⟩) (pre_V (hP.sub (ws' := [((x 0), .inr (7, [.ref (x 1), .ref (x 5), .ref (x 7), .ref (x 10), .ref (x 17), .ref (x 22), .ref (x 27), .int yr])), ((x 5), .inr (5, [.ref (x 6), .int e1, .int e2, .int e3, .int e4, .int e5, .int e6, .int e7, .int e8])), ((x 7), .inr (3, [.ref (x 8), .ref (x 9), .int (nI ga), .int gx])), ((x 9), .inl (cI, 8, .inl gs)), ((x 10), .inr (1, [.ref (x 11), .ref (x 12), .ref (x 13), .ref (x 14), .ref (x 15), .ref (x 16), .int (nI ca)])), ((x 11), .inl (cI, 16, .inl k11)), ((x 15), .inl (cI, 16, .inl k15))]) [0, 1, 2, 4, 5, 6, 8] rfl) hK (hD.sub (ws' := [((x 0), .inr (7, [.ref (x 1), .ref (x 5), .ref (x 7), .ref (x 10), .ref (x 17), .ref (x 22), .ref (x 27), .int yr])), ((x 5), .inr (5, [.ref (x 6), .int e1, .int e2, .int e3, .int e4, .int e5, .int e6, .int e7, .int e8])), ((x 7), .inr (3, [.ref (x 8), .ref (x 9), .int (nI ga), .int gx])), ((x 9), .inl (cI, 8, .inl gs)), ((x 10), .inr (1, [.ref (x 11), .ref (x 12), .ref (x 13), .ref (x 14), .ref (x 15), .ref (x 16), .int (nI ca)])), ((x 11), .inl (cI, 16, .inl k11)), ((x 15), .inl (cI, 16, .inl k15))]) [0, 1, 2, 4, 5, 6, 8] (by decide) rfl) 0 rfl rfl rfl) rfl rfl hl.1 rfl (lv_room (Nat.le_of_ble_eq_true rfl)) dX7_chosenBy_29 ⟨Nat.le_of_ble_eq_true rfl, Nat.le_of_ble_eq_true rfl⟩) hP hD hS hA [0, 1, 2, 4, 5, 6, 8] [3, 7] rfl rfl (by decide) (by decide) 0 0 rfl rfl (fun r_1 u_2 H locs hw_u_2 hP hD hS => ?_)
    have hP : va_P D vwCl [((x 8), .inl (cI, 8, .inl gv)), ((x 12), .inl (cI, 16, .inl k12)), ((x 0), .inr (7, [.ref (x 1), .ref (x 5), .ref (x 7), .ref (x 10), .ref (x 17), .ref (x 22), .ref (x 27), .int yr])), ((x 5), .inr (5, [.ref (x 6), .int e1, .int e2, .int e3, .int e4, .int e5, .int e6, .int e7, .int e8])), ((x 7), .inr (3, [.ref (x 8), .ref (x 9), .int (nI ga), .int u_2])), ((x 9), .inl (cI, 8, .inl gs)), ((x 10), .inr (1, [.ref (x 11), .ref (x 12), .ref (x 13), .ref (x 14), .ref (x 15), .ref (x 16), .int (nI ca)])), ((x 11), .inl (cI, 16, .inl k11)), ((x 15), .inl (cI, 16, .inl k15))] H := hP
    have hD : va_D A [((x 8), .inl (cI, 8, .inl gv)), ((x 12), .inl (cI, 16, .inl k12)), ((x 0), .inr (7, [.ref (x 1), .ref (x 5), .ref (x 7), .ref (x 10), .ref (x 17), .ref (x 22), .ref (x 27), .int yr])), ((x 5), .inr (5, [.ref (x 6), .int e1, .int e2, .int e3, .int e4, .int e5, .int e6, .int e7, .int e8])), ((x 7), .inr (3, [.ref (x 8), .ref (x 9), .int (nI ga), .int u_2])), ((x 9), .inl (cI, 8, .inl gs)), ((x 10), .inr (1, [.ref (x 11), .ref (x 12), .ref (x 13), .ref (x 14), .ref (x 15), .ref (x 16), .int (nI ca)])), ((x 11), .inl (cI, 16, .inl k11)), ((x 15), .inl (cI, 16, .inl k15))] := hD
    have hP9 := hP.sub (ws' := [((x 0), .inr (7, [.ref (x 1), .ref (x 5), .ref (x 7), .ref (x 10), .ref (x 17), .ref (x 22), .ref (x 27), .int yr])), ((x 5), .inr (5, [.ref (x 6), .int e1, .int e2, .int e3, .int e4, .int e5, .int e6, .int e7, .int e8])), ((x 7), .inr (3, [.ref (x 8), .ref (x 9), .int (nI ga), .int u_2])), ((x 8), .inl (cI, 8, .inl gv)), ((x 9), .inl (cI, 8, .inl gs)), ((x 10), .inr (1, [.ref (x 11), .ref (x 12), .ref (x 13), .ref (x 14), .ref (x 15), .ref (x 16), .int (nI ca)])), ((x 11), .inl (cI, 16, .inl k11)), ((x 12), .inl (cI, 16, .inl k12)), ((x 15), .inl (cI, 16, .inl k15))]) [2, 3, 4, 0, 5, 6, 7, 1, 8] rfl
    have hD9 := hD.sub (ws' := [((x 0), .inr (7, [.ref (x 1), .ref (x 5), .ref (x 7), .ref (x 10), .ref (x 17), .ref (x 22), .ref (x 27), .int yr])), ((x 5), .inr (5, [.ref (x 6), .int e1, .int e2, .int e3, .int e4, .int e5, .int e6, .int e7, .int e8])), ((x 7), .inr (3, [.ref (x 8), .ref (x 9), .int (nI ga), .int u_2])), ((x 8), .inl (cI, 8, .inl gv)), ((x 9), .inl (cI, 8, .inl gs)), ((x 10), .inr (1, [.ref (x 11), .ref (x 12), .ref (x 13), .ref (x 14), .ref (x 15), .ref (x 16), .int (nI ca)])), ((x 11), .inl (cI, 16, .inl k11)), ((x 12), .inl (cI, 16, .inl k12)), ((x 15), .inl (cI, 16, .inl k15))]) [2, 3, 4, 0, 5, 6, 7, 1, 8] (by decide) rfl
    exact W.iret (v := r_1) hx hb hr (fun t ht hW => ⟨⟨_, (u_2 : Int32), rfl, Or.inl ⟨rfl, hw_u_2⟩, by rw [ht]; exact hP9, va_K.moved hW.alike hK, hD9⟩, hS.F ht⟩) hS.2.2 dX7_chosenBy_32
  by_cases k_11 : q = 1
  ·
    subst k_11
    refine lv_lookup (off := 32) (tgt := 33) hx hb dX7_chosenBy_1 (by decide) (by decide) (by decide) ?_
    refine lv_aload_n hx hb dX7_chosenBy_33 rfl (lv_at hl 0 rfl) ?_
    refine vp_callSi (va_Run.run (va_runV (As := []) (rest := []) ⟨hx, hb, hml, hown, hts⟩ (f_X7_byVote l D cB cI cJ cZ x yr e1 e2 e3 e4 e5 e6 e7 e8 ga gx gv gs ca k11 k12 k15  b_ga b_ca hpr) (cwV 0 hts gX7_chosenBy_X7_chosenByVote rfl rfl rfl (by decide +kernel) ⟨Nat.le_of_ble_eq_true rfl, Nat.le_of_ble_eq_true rfl⟩) (pre_VR (hP.sub (ws' := [((x 0), .inr (7, [.ref (x 1), .ref (x 5), .ref (x 7), .ref (x 10), .ref (x 17), .ref (x 22), .ref (x 27), .int yr])), ((x 5), .inr (5, [.ref (x 6), .int e1, .int e2, .int e3, .int e4, .int e5, .int e6, .int e7, .int e8])), ((x 7), .inr (3, [.ref (x 8), .ref (x 9), .int (nI ga), .int gx])), ((x 8), .inl (cI, 8, .inl gv)), ((x 9), .inl (cI, 8, .inl gs)), ((x 10), .inr (1, [.ref (x 11), .ref (x 12), .ref (x 13), .ref (x 14), .ref (x 15), .ref (x 16), .int (nI ca)])), ((x 11), .inl (cI, 16, .inl k11)), ((x 12), .inl (cI, 16, .inl k12)), ((x 15), .inl (cI, 16, .inl k15))]) [0, 1, 2, 3, 4, 5, 6, 7, 8] rfl) hK 0 rfl rfl rfl) rfl rfl hl.1 rfl (lv_room (Nat.le_of_ble_eq_true rfl)) dX7_chosenBy_34 ⟨Nat.le_of_ble_eq_true rfl, Nat.le_of_ble_eq_true rfl⟩)) (fun r_3 hw_r_3 => ?_)
    have hP9 := hP.sub (ws' := [((x 0), .inr (7, [.ref (x 1), .ref (x 5), .ref (x 7), .ref (x 10), .ref (x 17), .ref (x 22), .ref (x 27), .int yr])), ((x 5), .inr (5, [.ref (x 6), .int e1, .int e2, .int e3, .int e4, .int e5, .int e6, .int e7, .int e8])), ((x 7), .inr (3, [.ref (x 8), .ref (x 9), .int (nI ga), .int gx])), ((x 8), .inl (cI, 8, .inl gv)), ((x 9), .inl (cI, 8, .inl gs)), ((x 10), .inr (1, [.ref (x 11), .ref (x 12), .ref (x 13), .ref (x 14), .ref (x 15), .ref (x 16), .int (nI ca)])), ((x 11), .inl (cI, 16, .inl k11)), ((x 12), .inl (cI, 16, .inl k12)), ((x 15), .inl (cI, 16, .inl k15))]) [0, 1, 2, 3, 4, 5, 6, 7, 8] rfl
    have hD9 := hD.sub (ws' := [((x 0), .inr (7, [.ref (x 1), .ref (x 5), .ref (x 7), .ref (x 10), .ref (x 17), .ref (x 22), .ref (x 27), .int yr])), ((x 5), .inr (5, [.ref (x 6), .int e1, .int e2, .int e3, .int e4, .int e5, .int e6, .int e7, .int e8])), ((x 7), .inr (3, [.ref (x 8), .ref (x 9), .int (nI ga), .int gx])), ((x 8), .inl (cI, 8, .inl gv)), ((x 9), .inl (cI, 8, .inl gs)), ((x 10), .inr (1, [.ref (x 11), .ref (x 12), .ref (x 13), .ref (x 14), .ref (x 15), .ref (x 16), .int (nI ca)])), ((x 11), .inl (cI, 16, .inl k11)), ((x 12), .inl (cI, 16, .inl k12)), ((x 15), .inl (cI, 16, .inl k15))]) [0, 1, 2, 3, 4, 5, 6, 7, 8] (by decide) rfl
    exact W.iret (v := r_3) hx hb hr (fun t ht hW => ⟨⟨_, (gx : Int32), rfl, Or.inr (Or.inl ⟨rfl, hw_r_3, rfl⟩), by rw [ht]; exact hP9, va_K.moved hW.alike hK, hD9⟩, hS.F ht⟩) hS.2.2 dX7_chosenBy_37
  refine lv_lookup (off := 37) (tgt := 38) hx hb dX7_chosenBy_1 (by decide) (sw_lk2 k_10 k_11) (by decide) ?_
  refine lv_aload_n hx hb dX7_chosenBy_38 rfl (lv_at hl 0 rfl) ?_
  refine vp_callSi (va_Run.run (va_runV (As := []) (rest := []) ⟨hx, hb, hml, hown, hts⟩ (f_X7_byNeed l D cB cI cJ cZ x yr e1 e2 e3 e4 e5 e6 e7 e8 ca k11 k12 k15  b_ca ) (cwV 0 hts gX7_chosenBy_X7_chosenByNeed rfl rfl rfl (by decide +kernel) ⟨Nat.le_of_ble_eq_true rfl, Nat.le_of_ble_eq_true rfl⟩) (pre_VR (hP.sub (ws' := [((x 0), .inr (7, [.ref (x 1), .ref (x 5), .ref (x 7), .ref (x 10), .ref (x 17), .ref (x 22), .ref (x 27), .int yr])), ((x 5), .inr (5, [.ref (x 6), .int e1, .int e2, .int e3, .int e4, .int e5, .int e6, .int e7, .int e8])), ((x 10), .inr (1, [.ref (x 11), .ref (x 12), .ref (x 13), .ref (x 14), .ref (x 15), .ref (x 16), .int (nI ca)])), ((x 11), .inl (cI, 16, .inl k11)), ((x 12), .inl (cI, 16, .inl k12)), ((x 15), .inl (cI, 16, .inl k15))]) [0, 1, 5, 6, 7, 8] rfl) hK 0 rfl rfl rfl) rfl rfl hl.1 rfl (lv_room (Nat.le_of_ble_eq_true rfl)) dX7_chosenBy_39 ⟨Nat.le_of_ble_eq_true rfl, Nat.le_of_ble_eq_true rfl⟩)) (fun r_4 hw_r_4 => ?_)
  have hP9 := hP.sub (ws' := [((x 0), .inr (7, [.ref (x 1), .ref (x 5), .ref (x 7), .ref (x 10), .ref (x 17), .ref (x 22), .ref (x 27), .int yr])), ((x 5), .inr (5, [.ref (x 6), .int e1, .int e2, .int e3, .int e4, .int e5, .int e6, .int e7, .int e8])), ((x 7), .inr (3, [.ref (x 8), .ref (x 9), .int (nI ga), .int gx])), ((x 8), .inl (cI, 8, .inl gv)), ((x 9), .inl (cI, 8, .inl gs)), ((x 10), .inr (1, [.ref (x 11), .ref (x 12), .ref (x 13), .ref (x 14), .ref (x 15), .ref (x 16), .int (nI ca)])), ((x 11), .inl (cI, 16, .inl k11)), ((x 12), .inl (cI, 16, .inl k12)), ((x 15), .inl (cI, 16, .inl k15))]) [0, 1, 2, 3, 4, 5, 6, 7, 8] rfl
  have hD9 := hD.sub (ws' := [((x 0), .inr (7, [.ref (x 1), .ref (x 5), .ref (x 7), .ref (x 10), .ref (x 17), .ref (x 22), .ref (x 27), .int yr])), ((x 5), .inr (5, [.ref (x 6), .int e1, .int e2, .int e3, .int e4, .int e5, .int e6, .int e7, .int e8])), ((x 7), .inr (3, [.ref (x 8), .ref (x 9), .int (nI ga), .int gx])), ((x 8), .inl (cI, 8, .inl gv)), ((x 9), .inl (cI, 8, .inl gs)), ((x 10), .inr (1, [.ref (x 11), .ref (x 12), .ref (x 13), .ref (x 14), .ref (x 15), .ref (x 16), .int (nI ca)])), ((x 11), .inl (cI, 16, .inl k11)), ((x 12), .inl (cI, 16, .inl k12)), ((x 15), .inl (cI, 16, .inl k15))]) [0, 1, 2, 3, 4, 5, 6, 7, 8] (by decide) rfl
  exact W.iret (v := r_4) hx hb hr (fun t ht hW => ⟨⟨_, (gx : Int32), rfl, Or.inr (Or.inr ⟨k_10, k_11, hw_r_4, rfl⟩), by rw [ht]; exact hP9, va_K.moved hW.alike hK, hD9⟩, hS.F ht⟩) hS.2.2 dX7_chosenBy_42

theorem fi_ne {r : Int32} {c : Nat} (h : vp_in r c) : ¬ r = -1 := fun z => by
  rw [z] at h
  exact absurd (vp_in_iff.mp h).1 (by decide)

set_option maxHeartbeats 4000000 in
set_option maxRecDepth 100000 in
theorem f_X7_fill (l : Launch) (D : va_G) (cB cI cJ cZ : ClassId) (sz : Nat) (x : Nat → Nat) (yr : Int32) (e1 : Int32) (e2 : Int32) (e3 : Int32) (e4 : Int32) (e5 : Int32) (e6 : Int32) (e7 : Int32) (e8 : Int32) (re : Nat → Int32) (ga : Nat) (gx : Int32) (gv : Nat → Int32) (gs : Nat → Int32) (ca : Nat) (k11 : Nat → Int32) (k12 : Nat → Int32) (k15 : Nat → Int32) (x0 y0 m0 : Nat) (b_ga : ga ≤ 8) (b_ca : ca ≤ 16) (hgx : gx = nI x0) (hx0 : x0 < ga ∨ x0 = 0) (hpr : ¬ e3 ≤ 0) (hey : e2 = nI y0) (hem : e1 = nI m0) (hym : y0 < m0) (hm8 : m0 ≤ 8) : Met l yX7_fill wsX7_fill ({ frames := 4, cells := 0, slots := 0, locals := 88 } : Room) (cPre D (aTy cB cI cJ cZ) [((x 0), .inr (7, [.ref (x 1), .ref (x 5), .ref (x 7), .ref (x 10), .ref (x 17), .ref (x 22), .ref (x 27), .int yr])), ((x 5), .inr (5, [.ref (x 6), .int e1, .int e2, .int e3, .int e4, .int e5, .int e6, .int e7, .int e8])), ((x 6), .inl (cI, 8, .inl re)), ((x 7), .inr (3, [.ref (x 8), .ref (x 9), .int (nI ga), .int gx])), ((x 8), .inl (cI, 8, .inl gv)), ((x 9), .inl (cI, 8, .inl gs)), ((x 10), .inr (1, [.ref (x 11), .ref (x 12), .ref (x 13), .ref (x 14), .ref (x 15), .ref (x 16), .int (nI ca)])), ((x 11), .inl (cI, 16, .inl k11)), ((x 12), .inl (cI, 16, .inl k12)), ((x 15), .inl (cI, 16, .inl k15))] sz [.ref (x 0)]) (va_Qi (fun (r : Int32) (u : Int32 × (Nat → Int32) × Int32) => fiP ga x0 ca y0 m0 gv gs k15 k11 k12 re e3 e4 e5 e8 gx r u.1 u.2.2 u.2.1) (cB_ D (aTy cB cI cJ cZ) (va_A [((x 0), .inr (7, [.ref (x 1), .ref (x 5), .ref (x 7), .ref (x 10), .ref (x 17), .ref (x 22), .ref (x 27), .int yr])), ((x 5), .inr (5, [.ref (x 6), .int e1, .int e2, .int e3, .int e4, .int e5, .int e6, .int e7, .int e8])), ((x 6), .inl (cI, 8, .inl re)), ((x 7), .inr (3, [.ref (x 8), .ref (x 9), .int (nI ga), .int gx])), ((x 8), .inl (cI, 8, .inl gv)), ((x 9), .inl (cI, 8, .inl gs)), ((x 10), .inr (1, [.ref (x 11), .ref (x 12), .ref (x 13), .ref (x 14), .ref (x 15), .ref (x 16), .int (nI ca)])), ((x 11), .inl (cI, 16, .inl k11)), ((x 12), .inl (cI, 16, .inl k12)), ((x 15), .inl (cI, 16, .inl k15))] sz) (fun u => [((x 0), .inr (7, [.ref (x 1), .ref (x 5), .ref (x 7), .ref (x 10), .ref (x 17), .ref (x 22), .ref (x 27), .int yr])), ((x 5), .inr (5, [.ref (x 6), .int e1, .int (u.2.2), .int e3, .int e4, .int e5, .int e6, .int e7, .int e8])), ((x 6), .inl (cI, 8, .inl re)), ((x 7), .inr (3, [.ref (x 8), .ref (x 9), .int (nI ga), .int (u.1)])), ((x 8), .inl (cI, 8, .inl gv)), ((x 9), .inl (cI, 8, .inl gs)), ((x 10), .inr (1, [.ref (x 11), .ref (x 12), .ref (x 13), .ref (x 14), .ref (x 15), .ref (x 16), .int (nI ca)])), ((x 11), .inl (cI, 16, .inl k11)), ((x 12), .inl (cI, 16, .inl k12)), ((x 15), .inl (cI, 16, .inl u.2.1))])) (va_A [((x 0), .inr (7, [.ref (x 1), .ref (x 5), .ref (x 7), .ref (x 10), .ref (x 17), .ref (x 22), .ref (x 27), .int yr])), ((x 5), .inr (5, [.ref (x 6), .int e1, .int e2, .int e3, .int e4, .int e5, .int e6, .int e7, .int e8])), ((x 6), .inl (cI, 8, .inl re)), ((x 7), .inr (3, [.ref (x 8), .ref (x 9), .int (nI ga), .int gx])), ((x 8), .inl (cI, 8, .inl gv)), ((x 9), .inl (cI, 8, .inl gs)), ((x 10), .inr (1, [.ref (x 11), .ref (x 12), .ref (x 13), .ref (x 14), .ref (x 15), .ref (x 16), .int (nI ca)])), ((x 11), .inl (cI, 16, .inl k11)), ((x 12), .inl (cI, 16, .inl k12)), ((x 15), .inl (cI, 16, .inl k15))] sz)) 0 0 (va_A [((x 0), .inr (7, [.ref (x 1), .ref (x 5), .ref (x 7), .ref (x 10), .ref (x 17), .ref (x 22), .ref (x 27), .int yr])), ((x 5), .inr (5, [.ref (x 6), .int e1, .int e2, .int e3, .int e4, .int e5, .int e6, .int e7, .int e8])), ((x 6), .inl (cI, 8, .inl re)), ((x 7), .inr (3, [.ref (x 8), .ref (x 9), .int (nI ga), .int gx])), ((x 8), .inl (cI, 8, .inl gv)), ((x 9), .inl (cI, 8, .inl gs)), ((x 10), .inr (1, [.ref (x 11), .ref (x 12), .ref (x 13), .ref (x 14), .ref (x 15), .ref (x 16), .int (nI ca)])), ((x 11), .inl (cI, 16, .inl k11)), ((x 12), .inl (cI, 16, .inl k12)), ((x 15), .inl (cI, 16, .inl k15))] sz) := by
  refine Met.ofW (cc := cX7_fill) (maxL := 2) (ret := (some .int)) (by decide) rfl ?_
  intro p e s m args below meth c s₁ B hml hv
  obtain ⟨rfl, hsz, hP, hK, hD0⟩ := hv
  have hx := B.exec
  have hb := B.bytes
  have hr := B.returns
  have hts := atoms_spec (ws := wsX7_fill) B.pre
  have hown : s.vm.findClass RX7 = some m.cls := findClass_of_methodNamed B.named
  have hlocks := B.notSynchronized
  subst hsz
  have hD := hD0.self (sz := s.heap.size)
  generalize hAe : va_A [((x 0), .inr (7, [.ref (x 1), .ref (x 5), .ref (x 7), .ref (x 10), .ref (x 17), .ref (x 22), .ref (x 27), .int yr])), ((x 5), .inr (5, [.ref (x 6), .int e1, .int e2, .int e3, .int e4, .int e5, .int e6, .int e7, .int e8])), ((x 6), .inl (cI, 8, .inl re)), ((x 7), .inr (3, [.ref (x 8), .ref (x 9), .int (nI ga), .int gx])), ((x 8), .inl (cI, 8, .inl gv)), ((x 9), .inl (cI, 8, .inl gs)), ((x 10), .inr (1, [.ref (x 11), .ref (x 12), .ref (x 13), .ref (x 14), .ref (x 15), .ref (x 16), .int (nI ca)])), ((x 11), .inl (cI, 16, .inl k11)), ((x 12), .inl (cI, 16, .inl k12)), ((x 15), .inl (cI, 16, .inl k15))] s.heap.size = A at hD ⊢
  have hA : ∀ q : Nat, s.heap.size ≤ q → A q := fun q h => by rw [← hAe]; exact Or.inr h
  have hS : va_S A s.heap s.heap [] := va_S.rf
  have hP : va_P D vwCl [((x 0), .inr (7, [.ref (x 1), .ref (x 5), .ref (x 7), .ref (x 10), .ref (x 17), .ref (x 22), .ref (x 27), .int yr])), ((x 5), .inr (5, [.ref (x 6), .int e1, .int e2, .int e3, .int e4, .int e5, .int e6, .int e7, .int e8])), ((x 6), .inl (cI, 8, .inl re)), ((x 7), .inr (3, [.ref (x 8), .ref (x 9), .int (nI ga), .int gx])), ((x 8), .inl (cI, 8, .inl gv)), ((x 9), .inl (cI, 8, .inl gs)), ((x 10), .inr (1, [.ref (x 11), .ref (x 12), .ref (x 13), .ref (x 14), .ref (x 15), .ref (x 16), .int (nI ca)])), ((x 11), .inl (cI, 16, .inl k11)), ((x 12), .inl (cI, 16, .inl k12)), ((x 15), .inl (cI, 16, .inl k15))] s.heap := hP
  have w_1 : ∀ w ∈ wsX70, w ∈ wsX7_fill := by decide +kernel
  have w_2 := hts (Cond.fieldLink RX7 33 "BlueCoats" "children" "LBlueCoats$Children;") (by decide +kernel)
  have w_3 := hts (Cond.fieldLink RX7 19 "BlueCoats" "law" "LBlueCoats$Statutes;") (by decide +kernel)
  have w_4 : ∀ w ∈ wsX50, w ∈ wsX7_fill := by decide +kernel
  have w_5 := hts (Cond.fieldLink RX7 109 "BlueCoats$Statutes" "places" "I") (by decide +kernel)
  have w_6 : ∀ w ∈ wsX10, w ∈ wsX7_fill := by decide +kernel
  have w_7 := hts (Cond.fieldLink RX7 118 "BlueCoats$Children" "state" "[I") (by decide +kernel)
  have hl := lv_entry ([.ref (x 0)]) (n := 2) (Nat.le_of_ble_eq_true rfl)
  rw [lg_entry_eq]
  generalize (lg_sl ([.ref (x 0)]) ++ List.replicate (2 - (lg_sl ([.ref (x 0)])).length) Slot.unset).toArray = ls at hl ⊢
  have hl : lv_has ls 2 [(0, .ref (x 0))] := hl
  refine lv_aload_n hx hb dX7_fill_0 rfl (lv_at hl 0 rfl) ?_
  refine va_get (D := D) (ci := 7) (v := .ref (x 10)) (C := RX7) (T := TX7) (N := 8) hx hb hts w_1 hown hK hP 0 rfl rfl 3 (by decide) w_2 (fun _ h9 => h9) rfl dX7_fill_1 ?_
  refine vp_callSi (va_Run.run (va_runV (As := []) (rest := []) ⟨hx, hb, hml, hown, hts⟩ (f_X1_in l D cB cI cJ cZ (x 10) (x 11) (x 12) (x 13) (x 14) (x 15) (x 16) ca k15 b_ca) (cwV 0 hts gX7_fill_X1_in rfl rfl rfl (by decide +kernel) ⟨Nat.le_of_ble_eq_true rfl, Nat.le_of_ble_eq_true rfl⟩) (pre_VR (hP.sub (ws' := [((x 10), .inr (1, [.ref (x 11), .ref (x 12), .ref (x 13), .ref (x 14), .ref (x 15), .ref (x 16), .int (nI ca)])), ((x 15), .inl (cI, 16, .inl k15))]) [6, 9] rfl) hK 0 rfl rfl rfl) rfl rfl hl.1 rfl (lv_room (Nat.le_of_ble_eq_true rfl)) dX7_fill_4 ⟨Nat.le_of_ble_eq_true rfl, Nat.le_of_ble_eq_true rfl⟩)) (fun r_1 hw_r_1 => ?_)
  subst hw_r_1
  refine lv_aload_n hx hb dX7_fill_7 rfl (lv_at hl 0 rfl) ?_
  refine va_get (D := D) (ci := 7) (v := .ref (x 5)) (C := RX7) (T := TX7) (N := 8) hx hb hts w_1 hown hK hP 0 rfl rfl 1 (by decide) w_3 (fun _ h9 => h9) rfl dX7_fill_8 ?_
  refine va_get (D := D) (ci := 5) (v := .int e8) (C := RX5) (T := TX5) (N := 9) hx hb hts w_4 hown hK hP 1 rfl rfl 8 (by decide) w_5 (fun _ h9 => h9) rfl dX7_fill_11 ?_
  refine lv_icmp_lt (tgt := 19) hx hb dX7_fill_14 (by decide) (fun c_14 => ?_) (fun c_14 => ?_)
  ·
    refine lv_aload_n hx hb dX7_fill_19 rfl (lv_at hl 0 rfl) ?_
    refine lv_aload_n hx hb dX7_fill_20 rfl (lv_at hl 0 rfl) ?_
    refine va_get (D := D) (ci := 7) (v := .ref (x 5)) (C := RX7) (T := TX7) (N := 8) hx hb hts w_1 hown hK hP 0 rfl rfl 1 (by decide) w_3 (fun _ h9 => h9) rfl dX7_fill_21 ?_
    refine vp_callSi (va_Run.run (va_runV (As := []) (rest := [.ref (x 0)]) ⟨hx, hb, hml, hown, hts⟩ (f_X5_way l D cB cI cJ cZ (x 5) (x 6) e1 e2 e3 e4 e5 e6 e7 e8 re) (cwV 0 hts gX7_fill_X5_wayNext rfl rfl rfl (by decide +kernel) ⟨Nat.le_of_ble_eq_true rfl, Nat.le_of_ble_eq_true rfl⟩) (pre_VR (hP.sub (ws' := [((x 5), .inr (5, [.ref (x 6), .int e1, .int e2, .int e3, .int e4, .int e5, .int e6, .int e7, .int e8])), ((x 6), .inl (cI, 8, .inl re))]) [1, 2] rfl) hK 0 rfl rfl rfl) rfl rfl hl.1 rfl (lv_room (Nat.le_of_ble_eq_true rfl)) dX7_fill_24 ⟨Nat.le_of_ble_eq_true rfl, Nat.le_of_ble_eq_true rfl⟩)) (fun r_2 hw_r_2 => ?_)
    have hwy : r_2 = re y0 := by rw [(hw_r_2.resolve_right (fun h => h.1 (by rw [hey]; exact vp_in_nI (by omega) (by decide)))).2, hey, nI_clamp (by omega)]
    subst hwy
    refine cl_i (wc := [((x 0), .inr (7, [.ref (x 1), .ref (x 5), .ref (x 7), .ref (x 10), .ref (x 17), .ref (x 22), .ref (x 27), .int yr])), ((x 5), .inr (5, [.ref (x 6), .int e1, .int e2, .int e3, .int e4, .int e5, .int e6, .int e7, .int e8])), ((x 7), .inr (3, [.ref (x 8), .ref (x 9), .int (nI ga), .int gx])), ((x 8), .inl (cI, 8, .inl gv)), ((x 9), .inl (cI, 8, .inl gs)), ((x 10), .inr (1, [.ref (x 11), .ref (x 12), .ref (x 13), .ref (x 14), .ref (x 15), .ref (x 16), .int (nI ca)])), ((x 11), .inl (cI, 16, .inl k11)), ((x 12), .inl (cI, 16, .inl k12)), ((x 15), .inl (cI, 16, .inl k15))]) (wr := [((x 6), .inl (cI, 8, .inl re))]) (va_runV (As := [.int (re y0)]) (rest := []) ⟨hx, hb, hml, hown, hts⟩ (f_X7_chosenBy l D cB cI cJ cZ s.heap.size x yr e1 e2 e3 e4 e5 e6 e7 e8 ga gx gv gs ca k11 k12 k15 (re y0) x0 b_ga b_ca hgx hx0 hpr) (cwV 1 hts gX7_fill_X7_chosenBy rfl rfl rfl (by decide +kernel) ⟨Nat.le_of_ble_eq_true rfl, Nat.le_of_ble_eq_true rfl⟩) (pre_V (hP.sub (ws' := [((x 0), .inr (7, [.ref (x 1), .ref (x 5), .ref (x 7), .ref (x 10), .ref (x 17), .ref (x 22), .ref (x 27), .int yr])), ((x 5), .inr (5, [.ref (x 6), .int e1, .int e2, .int e3, .int e4, .int e5, .int e6, .int e7, .int e8])), ((x 7), .inr (3, [.ref (x 8), .ref (x 9), .int (nI ga), .int gx])), ((x 8), .inl (cI, 8, .inl gv)), ((x 9), .inl (cI, 8, .inl gs)), ((x 10), .inr (1, [.ref (x 11), .ref (x 12), .ref (x 13), .ref (x 14), .ref (x 15), .ref (x 16), .int (nI ca)])), ((x 11), .inl (cI, 16, .inl k11)), ((x 12), .inl (cI, 16, .inl k12)), ((x 15), .inl (cI, 16, .inl k15))]) [0, 1, 3, 4, 5, 6, 7, 8, 9] rfl) hK (hD.sub (ws' := [((x 0), .inr (7, [.ref (x 1), .ref (x 5), .ref (x 7), .ref (x 10), .ref (x 17), .ref (x 22), .ref (x 27), .int yr])), ((x 5), .inr (5, [.ref (x 6), .int e1, .int e2, .int e3, .int e4, .int e5, .int e6, .int e7, .int e8])), ((x 7), .inr (3, [.ref (x 8), .ref (x 9), .int (nI ga), .int gx])), ((x 8), .inl (cI, 8, .inl gv)), ((x 9), .inl (cI, 8, .inl gs)), ((x 10), .inr (1, [.ref (x 11), .ref (x 12), .ref (x 13), .ref (x 14), .ref (x 15), .ref (x 16), .int (nI ca)])), ((x 11), .inl (cI, 16, .inl k11)), ((x 12), .inl (cI, 16, .inl k12)), ((x 15), .inl (cI, 16, .inl k15))]) [0, 1, 3, 4, 5, 6, 7, 8, 9] (by decide) rfl) 0 rfl rfl rfl) rfl rfl hl.1 rfl (lv_room (Nat.le_of_ble_eq_true rfl)) dX7_fill_27 ⟨Nat.le_of_ble_eq_true rfl, Nat.le_of_ble_eq_true rfl⟩) hP hD hS hA [0, 1, 3, 4, 5, 6, 7, 8, 9] [2] rfl rfl (by decide) (by decide) 0 0 rfl rfl (fun r_3 u_4 H locs hw_u_4 hP hD hS => ?_)
    have hP : va_P D vwCl [((x 6), .inl (cI, 8, .inl re)), ((x 0), .inr (7, [.ref (x 1), .ref (x 5), .ref (x 7), .ref (x 10), .ref (x 17), .ref (x 22), .ref (x 27), .int yr])), ((x 5), .inr (5, [.ref (x 6), .int e1, .int e2, .int e3, .int e4, .int e5, .int e6, .int e7, .int e8])), ((x 7), .inr (3, [.ref (x 8), .ref (x 9), .int (nI ga), .int u_4])), ((x 8), .inl (cI, 8, .inl gv)), ((x 9), .inl (cI, 8, .inl gs)), ((x 10), .inr (1, [.ref (x 11), .ref (x 12), .ref (x 13), .ref (x 14), .ref (x 15), .ref (x 16), .int (nI ca)])), ((x 11), .inl (cI, 16, .inl k11)), ((x 12), .inl (cI, 16, .inl k12)), ((x 15), .inl (cI, 16, .inl k15))] H := hP
    have hD : va_D A [((x 6), .inl (cI, 8, .inl re)), ((x 0), .inr (7, [.ref (x 1), .ref (x 5), .ref (x 7), .ref (x 10), .ref (x 17), .ref (x 22), .ref (x 27), .int yr])), ((x 5), .inr (5, [.ref (x 6), .int e1, .int e2, .int e3, .int e4, .int e5, .int e6, .int e7, .int e8])), ((x 7), .inr (3, [.ref (x 8), .ref (x 9), .int (nI ga), .int u_4])), ((x 8), .inl (cI, 8, .inl gv)), ((x 9), .inl (cI, 8, .inl gs)), ((x 10), .inr (1, [.ref (x 11), .ref (x 12), .ref (x 13), .ref (x 14), .ref (x 15), .ref (x 16), .int (nI ca)])), ((x 11), .inl (cI, 16, .inl k11)), ((x 12), .inl (cI, 16, .inl k12)), ((x 15), .inl (cI, 16, .inl k15))] := hD
    refine lv_istore_n (lv' := [(1, .int r_3), (0, .ref (x 0))]) hx hb dX7_fill_30 rfl hl (by decide) rfl (fun ls hl => ?_)
    refine lv_aload_n hx hb dX7_fill_31 rfl (lv_at hl 1 rfl) ?_
    refine va_get (D := D) (ci := 7) (v := .ref (x 10)) (C := RX7) (T := TX7) (N := 8) hx hb hts w_1 hown hK hP 1 rfl rfl 3 (by decide) w_2 (fun _ h9 => h9) rfl dX7_fill_32 ?_
    refine lv_iload_n hx hb dX7_fill_35 rfl (lv_at hl 0 rfl) ?_
    refine vp_callSi (va_Run.run (va_runV (As := [.int r_3]) (rest := []) ⟨hx, hb, hml, hown, hts⟩ (g_X1_has l D cB cI cJ cZ (x 10) (x 11) (x 12) (x 13) (x 14) (x 15) (x 16) ca r_3 (by omega)) (cwV 1 hts gX7_fill_X1_has rfl rfl rfl (by decide +kernel) ⟨Nat.le_of_ble_eq_true rfl, Nat.le_of_ble_eq_true rfl⟩) (pre_VR (hP.sub (ws' := [((x 10), .inr (1, [.ref (x 11), .ref (x 12), .ref (x 13), .ref (x 14), .ref (x 15), .ref (x 16), .int (nI ca)]))]) [6] rfl) hK 0 rfl rfl rfl) rfl rfl hl.1 rfl (lv_room (Nat.le_of_ble_eq_true rfl)) dX7_fill_36 ⟨Nat.le_of_ble_eq_true rfl, Nat.le_of_ble_eq_true rfl⟩)) (fun r_5 hw_r_5 => ?_)
    refine lv_if_eq (tgt := 59) hx hb dX7_fill_39 (by decide) (fun c_39 => ?_) (fun c_39 => ?_)
    ·
      refine lv_iload_n hx hb dX7_fill_59 rfl (lv_at hl 0 rfl) ?_
      have hP9 := hP.sub (ws' := [((x 0), .inr (7, [.ref (x 1), .ref (x 5), .ref (x 7), .ref (x 10), .ref (x 17), .ref (x 22), .ref (x 27), .int yr])), ((x 5), .inr (5, [.ref (x 6), .int e1, .int e2, .int e3, .int e4, .int e5, .int e6, .int e7, .int e8])), ((x 6), .inl (cI, 8, .inl re)), ((x 7), .inr (3, [.ref (x 8), .ref (x 9), .int (nI ga), .int u_4])), ((x 8), .inl (cI, 8, .inl gv)), ((x 9), .inl (cI, 8, .inl gs)), ((x 10), .inr (1, [.ref (x 11), .ref (x 12), .ref (x 13), .ref (x 14), .ref (x 15), .ref (x 16), .int (nI ca)])), ((x 11), .inl (cI, 16, .inl k11)), ((x 12), .inl (cI, 16, .inl k12)), ((x 15), .inl (cI, 16, .inl k15))]) [1, 2, 0, 3, 4, 5, 6, 7, 8, 9] rfl
      have hD9 := hD.sub (ws' := [((x 0), .inr (7, [.ref (x 1), .ref (x 5), .ref (x 7), .ref (x 10), .ref (x 17), .ref (x 22), .ref (x 27), .int yr])), ((x 5), .inr (5, [.ref (x 6), .int e1, .int e2, .int e3, .int e4, .int e5, .int e6, .int e7, .int e8])), ((x 6), .inl (cI, 8, .inl re)), ((x 7), .inr (3, [.ref (x 8), .ref (x 9), .int (nI ga), .int u_4])), ((x 8), .inl (cI, 8, .inl gv)), ((x 9), .inl (cI, 8, .inl gs)), ((x 10), .inr (1, [.ref (x 11), .ref (x 12), .ref (x 13), .ref (x 14), .ref (x 15), .ref (x 16), .int (nI ca)])), ((x 11), .inl (cI, 16, .inl k11)), ((x 12), .inl (cI, 16, .inl k12)), ((x 15), .inl (cI, 16, .inl k15))]) [1, 2, 0, 3, 4, 5, 6, 7, 8, 9] (by decide) rfl
      exact W.iret (v := r_3) hx hb hr (fun t ht hW => ⟨⟨_, ((u_4 : Int32), k15, (e2 : Int32)), rfl, Or.inr ⟨c_14, hw_u_4, Or.inl ⟨(cb_in b_ca hw_u_4).resolve_right (has_out hw_r_5 c_39), hey, rfl⟩⟩, by rw [ht]; exact hP9, va_K.moved hW.alike hK, hD9⟩, hS.F ht⟩) hS.2.2 dX7_fill_60
    ·
      refine lv_aload_n hx hb dX7_fill_42 rfl (lv_at hl 1 rfl) ?_
      refine va_get (D := D) (ci := 7) (v := .ref (x 10)) (C := RX7) (T := TX7) (N := 8) hx hb hts w_1 hown hK hP 1 rfl rfl 3 (by decide) w_2 (fun _ h9 => h9) rfl dX7_fill_43 ?_
      refine va_get (D := D) (ci := 1) (v := .ref (x 15)) (C := RX1) (T := TX1) (N := 7) hx hb hts w_6 hown hK hP 6 rfl rfl 4 (by decide) w_7 (fun _ h9 => h9) rfl dX7_fill_46 ?_
      refine lv_iload_n hx hb dX7_fill_49 rfl (lv_at hl 0 rfl) ?_
      refine lv_iconst (v := 1) hx hb dX7_fill_50 (by decide) ?_
      refine sv_iast hx hb hK hP hD hS 9 1 rfl rfl (in_up (has_in hw_r_5 c_39) b_ca) dX7_fill_51 (fun g_6 H locs eg_6 hP hD hS => ?_)
      have eg_6 : g_6 = upd k15 r_3.toNatClampNeg 1 := eg_6
      subst eg_6
      have hP : va_P D vwCl [((x 6), .inl (cI, 8, .inl re)), ((x 0), .inr (7, [.ref (x 1), .ref (x 5), .ref (x 7), .ref (x 10), .ref (x 17), .ref (x 22), .ref (x 27), .int yr])), ((x 5), .inr (5, [.ref (x 6), .int e1, .int e2, .int e3, .int e4, .int e5, .int e6, .int e7, .int e8])), ((x 7), .inr (3, [.ref (x 8), .ref (x 9), .int (nI ga), .int u_4])), ((x 8), .inl (cI, 8, .inl gv)), ((x 9), .inl (cI, 8, .inl gs)), ((x 10), .inr (1, [.ref (x 11), .ref (x 12), .ref (x 13), .ref (x 14), .ref (x 15), .ref (x 16), .int (nI ca)])), ((x 11), .inl (cI, 16, .inl k11)), ((x 12), .inl (cI, 16, .inl k12)), ((x 15), .inl (cI, 16, .inl (upd k15 r_3.toNatClampNeg 1)))] H := hP
      have hD : va_D A [((x 6), .inl (cI, 8, .inl re)), ((x 0), .inr (7, [.ref (x 1), .ref (x 5), .ref (x 7), .ref (x 10), .ref (x 17), .ref (x 22), .ref (x 27), .int yr])), ((x 5), .inr (5, [.ref (x 6), .int e1, .int e2, .int e3, .int e4, .int e5, .int e6, .int e7, .int e8])), ((x 7), .inr (3, [.ref (x 8), .ref (x 9), .int (nI ga), .int u_4])), ((x 8), .inl (cI, 8, .inl gv)), ((x 9), .inl (cI, 8, .inl gs)), ((x 10), .inr (1, [.ref (x 11), .ref (x 12), .ref (x 13), .ref (x 14), .ref (x 15), .ref (x 16), .int (nI ca)])), ((x 11), .inl (cI, 16, .inl k11)), ((x 12), .inl (cI, 16, .inl k12)), ((x 15), .inl (cI, 16, .inl (upd k15 r_3.toNatClampNeg 1)))] := hD
      refine lv_aload_n hx hb dX7_fill_52 rfl (lv_at hl 1 rfl) ?_
      refine va_get (D := D) (ci := 7) (v := .ref (x 5)) (C := RX7) (T := TX7) (N := 8) hx hb hts w_1 hown hK hP 1 rfl rfl 1 (by decide) w_3 (fun _ h9 => h9) rfl dX7_fill_53 ?_
      refine cl_v (wc := [((x 5), .inr (5, [.ref (x 6), .int e1, .int e2, .int e3, .int e4, .int e5, .int e6, .int e7, .int e8]))]) (wr := [((x 6), .inl (cI, 8, .inl re)), ((x 0), .inr (7, [.ref (x 1), .ref (x 5), .ref (x 7), .ref (x 10), .ref (x 17), .ref (x 22), .ref (x 27), .int yr])), ((x 7), .inr (3, [.ref (x 8), .ref (x 9), .int (nI ga), .int u_4])), ((x 8), .inl (cI, 8, .inl gv)), ((x 9), .inl (cI, 8, .inl gs)), ((x 10), .inr (1, [.ref (x 11), .ref (x 12), .ref (x 13), .ref (x 14), .ref (x 15), .ref (x 16), .int (nI ca)])), ((x 11), .inl (cI, 16, .inl k11)), ((x 12), .inl (cI, 16, .inl k12)), ((x 15), .inl (cI, 16, .inl (upd k15 r_3.toNatClampNeg 1)))]) (va_runV (As := []) (rest := []) ⟨hx, hb, hml, hown, hts⟩ (f_X5_goOn l D cB cI cJ cZ H.size (x 5) (x 6) e1 e2 e3 e4 e5 e6 e7 e8 re) (cwV 0 hts gX7_fill_X5_goOn rfl rfl rfl (by decide +kernel) ⟨Nat.le_of_ble_eq_true rfl, Nat.le_of_ble_eq_true rfl⟩) (pre_V (hP.sub (ws' := [((x 5), .inr (5, [.ref (x 6), .int e1, .int e2, .int e3, .int e4, .int e5, .int e6, .int e7, .int e8]))]) [2] rfl) hK (hD.sub (ws' := [((x 5), .inr (5, [.ref (x 6), .int e1, .int e2, .int e3, .int e4, .int e5, .int e6, .int e7, .int e8]))]) [2] (by decide) rfl) 0 rfl rfl rfl) rfl rfl hl.1 rfl (lv_room (Nat.le_of_ble_eq_true rfl)) dX7_fill_56 ⟨Nat.le_of_ble_eq_true rfl, Nat.le_of_ble_eq_true rfl⟩) hP hD hS hA [2] [0, 1, 3, 4, 5, 6, 7, 8, 9] rfl rfl (by decide) (by decide) 0 0 rfl rfl (fun u_8 H locs hw_u_8 hP hD hS => ?_)
      have hP : va_P D vwCl [((x 6), .inl (cI, 8, .inl re)), ((x 0), .inr (7, [.ref (x 1), .ref (x 5), .ref (x 7), .ref (x 10), .ref (x 17), .ref (x 22), .ref (x 27), .int yr])), ((x 7), .inr (3, [.ref (x 8), .ref (x 9), .int (nI ga), .int u_4])), ((x 8), .inl (cI, 8, .inl gv)), ((x 9), .inl (cI, 8, .inl gs)), ((x 10), .inr (1, [.ref (x 11), .ref (x 12), .ref (x 13), .ref (x 14), .ref (x 15), .ref (x 16), .int (nI ca)])), ((x 11), .inl (cI, 16, .inl k11)), ((x 12), .inl (cI, 16, .inl k12)), ((x 15), .inl (cI, 16, .inl (upd k15 r_3.toNatClampNeg 1))), ((x 5), .inr (5, [.ref (x 6), .int e1, .int u_8, .int e3, .int e4, .int e5, .int e6, .int e7, .int e8]))] H := hP
      have hD : va_D A [((x 6), .inl (cI, 8, .inl re)), ((x 0), .inr (7, [.ref (x 1), .ref (x 5), .ref (x 7), .ref (x 10), .ref (x 17), .ref (x 22), .ref (x 27), .int yr])), ((x 7), .inr (3, [.ref (x 8), .ref (x 9), .int (nI ga), .int u_4])), ((x 8), .inl (cI, 8, .inl gv)), ((x 9), .inl (cI, 8, .inl gs)), ((x 10), .inr (1, [.ref (x 11), .ref (x 12), .ref (x 13), .ref (x 14), .ref (x 15), .ref (x 16), .int (nI ca)])), ((x 11), .inl (cI, 16, .inl k11)), ((x 12), .inl (cI, 16, .inl k12)), ((x 15), .inl (cI, 16, .inl (upd k15 r_3.toNatClampNeg 1))), ((x 5), .inr (5, [.ref (x 6), .int e1, .int u_8, .int e3, .int e4, .int e5, .int e6, .int e7, .int e8]))] := hD
      refine lv_iload_n hx hb dX7_fill_59 rfl (lv_at hl 0 rfl) ?_
      have hP9 := hP.sub (ws' := [((x 0), .inr (7, [.ref (x 1), .ref (x 5), .ref (x 7), .ref (x 10), .ref (x 17), .ref (x 22), .ref (x 27), .int yr])), ((x 5), .inr (5, [.ref (x 6), .int e1, .int u_8, .int e3, .int e4, .int e5, .int e6, .int e7, .int e8])), ((x 6), .inl (cI, 8, .inl re)), ((x 7), .inr (3, [.ref (x 8), .ref (x 9), .int (nI ga), .int u_4])), ((x 8), .inl (cI, 8, .inl gv)), ((x 9), .inl (cI, 8, .inl gs)), ((x 10), .inr (1, [.ref (x 11), .ref (x 12), .ref (x 13), .ref (x 14), .ref (x 15), .ref (x 16), .int (nI ca)])), ((x 11), .inl (cI, 16, .inl k11)), ((x 12), .inl (cI, 16, .inl k12)), ((x 15), .inl (cI, 16, .inl (upd k15 r_3.toNatClampNeg 1)))]) [1, 9, 0, 2, 3, 4, 5, 6, 7, 8] rfl
      have hD9 := hD.sub (ws' := [((x 0), .inr (7, [.ref (x 1), .ref (x 5), .ref (x 7), .ref (x 10), .ref (x 17), .ref (x 22), .ref (x 27), .int yr])), ((x 5), .inr (5, [.ref (x 6), .int e1, .int u_8, .int e3, .int e4, .int e5, .int e6, .int e7, .int e8])), ((x 6), .inl (cI, 8, .inl re)), ((x 7), .inr (3, [.ref (x 8), .ref (x 9), .int (nI ga), .int u_4])), ((x 8), .inl (cI, 8, .inl gv)), ((x 9), .inl (cI, 8, .inl gs)), ((x 10), .inr (1, [.ref (x 11), .ref (x 12), .ref (x 13), .ref (x 14), .ref (x 15), .ref (x 16), .int (nI ca)])), ((x 11), .inl (cI, 16, .inl k11)), ((x 12), .inl (cI, 16, .inl k12)), ((x 15), .inl (cI, 16, .inl (upd k15 r_3.toNatClampNeg 1)))]) [1, 9, 0, 2, 3, 4, 5, 6, 7, 8] (by decide) rfl
      exact W.iret (v := r_3) hx hb hr (fun t ht hW => ⟨⟨_, ((u_4 : Int32), upd k15 r_3.toNatClampNeg 1, (u_8 : Int32)), rfl, Or.inr ⟨c_14, hw_u_4, Or.inr ⟨fi_ne (has_in hw_r_5 c_39), by rw [hw_u_8, hem, hey]; exact go_m hym hm8, rfl⟩⟩, by rw [ht]; exact hP9, va_K.moved hW.alike hK, hD9⟩, hS.F ht⟩) hS.2.2 dX7_fill_60
  ·
    refine lv_iconst (v := (-1)) hx hb dX7_fill_17 (by decide) ?_
    have hP9 := hP.sub (ws' := [((x 0), .inr (7, [.ref (x 1), .ref (x 5), .ref (x 7), .ref (x 10), .ref (x 17), .ref (x 22), .ref (x 27), .int yr])), ((x 5), .inr (5, [.ref (x 6), .int e1, .int e2, .int e3, .int e4, .int e5, .int e6, .int e7, .int e8])), ((x 6), .inl (cI, 8, .inl re)), ((x 7), .inr (3, [.ref (x 8), .ref (x 9), .int (nI ga), .int gx])), ((x 8), .inl (cI, 8, .inl gv)), ((x 9), .inl (cI, 8, .inl gs)), ((x 10), .inr (1, [.ref (x 11), .ref (x 12), .ref (x 13), .ref (x 14), .ref (x 15), .ref (x 16), .int (nI ca)])), ((x 11), .inl (cI, 16, .inl k11)), ((x 12), .inl (cI, 16, .inl k12)), ((x 15), .inl (cI, 16, .inl k15))]) [0, 1, 2, 3, 4, 5, 6, 7, 8, 9] rfl
    have hD9 := hD.sub (ws' := [((x 0), .inr (7, [.ref (x 1), .ref (x 5), .ref (x 7), .ref (x 10), .ref (x 17), .ref (x 22), .ref (x 27), .int yr])), ((x 5), .inr (5, [.ref (x 6), .int e1, .int e2, .int e3, .int e4, .int e5, .int e6, .int e7, .int e8])), ((x 6), .inl (cI, 8, .inl re)), ((x 7), .inr (3, [.ref (x 8), .ref (x 9), .int (nI ga), .int gx])), ((x 8), .inl (cI, 8, .inl gv)), ((x 9), .inl (cI, 8, .inl gs)), ((x 10), .inr (1, [.ref (x 11), .ref (x 12), .ref (x 13), .ref (x 14), .ref (x 15), .ref (x 16), .int (nI ca)])), ((x 11), .inl (cI, 16, .inl k11)), ((x 12), .inl (cI, 16, .inl k12)), ((x 15), .inl (cI, 16, .inl k15))]) [0, 1, 2, 3, 4, 5, 6, 7, 8, 9] (by decide) rfl
    exact W.iret (v := (-1)) hx hb hr (fun t ht hW => ⟨⟨_, ((gx : Int32), k15, (e2 : Int32)), rfl, Or.inl ⟨c_14, rfl, rfl, hey, rfl⟩, by rw [ht]; exact hP9, va_K.moved hW.alike hK, hD9⟩, hS.F ht⟩) hS.2.2 dX7_fill_18

set_option maxHeartbeats 4000000 in
set_option maxRecDepth 100000 in
theorem f_X7_year (l : Launch) (D : va_G) (cB cI cJ cZ : ClassId) (sz : Nat) (x : Nat → Nat) (yr : Int32) (e1 : Int32) (e2 : Int32) (e3 : Int32) (e4 : Int32) (e5 : Int32) (e6 : Int32) (e7 : Int32) (e8 : Int32) (ca : Nat) (k11 : Nat → Int32) (k13 : Nat → Int32) (k14 : Nat → Int32) (k15 : Nat → Int32) (k16 : Nat → Int32) (wa : Nat) (w18 : Nat → Int32) (w19 : Nat → Int32) (w20 : Nat → Int32) (w21 : Nat → Int32) (b_ca : ca ≤ 16) (b_wa : wa ≤ 40) (hz : ∀ k, w20 k = 0 ∨ w20 k = 1) : Met l yX7_year wsX7_year ({ frames := 2, cells := 0, slots := 0, locals := 43 } : Room) (cPre D (aTy cB cI cJ cZ) [((x 0), .inr (7, [.ref (x 1), .ref (x 5), .ref (x 7), .ref (x 10), .ref (x 17), .ref (x 22), .ref (x 27), .int yr])), ((x 5), .inr (5, [.ref (x 6), .int e1, .int e2, .int e3, .int e4, .int e5, .int e6, .int e7, .int e8])), ((x 10), .inr (1, [.ref (x 11), .ref (x 12), .ref (x 13), .ref (x 14), .ref (x 15), .ref (x 16), .int (nI ca)])), ((x 11), .inl (cI, 16, .inl k11)), ((x 13), .inl (cI, 16, .inl k13)), ((x 14), .inl (cI, 16, .inl k14)), ((x 15), .inl (cI, 16, .inl k15)), ((x 16), .inl (cI, 16, .inl k16)), ((x 17), .inr (6, [.ref (x 18), .ref (x 19), .ref (x 20), .ref (x 21), .int (nI wa)])), ((x 18), .inl (cI, 40, .inl w18)), ((x 19), .inl (cI, 40, .inl w19)), ((x 20), .inl (cZ, 40, .inl w20)), ((x 21), .inl (cI, 40, .inl w21))] sz [.ref (x 0)]) (va_Qi (fun (r : Int32) (u : Int32 × (Nat → Int32) × (Nat → Int32) × (Nat → Int32) × (Nat → Int32) × (Nat → Int32) × (Nat → Int32) × (Nat → Int32)) => (∀ k, u.2.2.2.2.2.2.1 k = 0 ∨ u.2.2.2.2.2.2.1 k = 1) ∧ yeP k15 k11 k13 k14 e5 ca u.2.2.2.1 u.2.1 u.2.2.1 ∧ r = nI (ybC k15 k11 e5 ca) ∧ u.1 = yr + 1) (cB_ D (aTy cB cI cJ cZ) (va_A [((x 0), .inr (7, [.ref (x 1), .ref (x 5), .ref (x 7), .ref (x 10), .ref (x 17), .ref (x 22), .ref (x 27), .int yr])), ((x 5), .inr (5, [.ref (x 6), .int e1, .int e2, .int e3, .int e4, .int e5, .int e6, .int e7, .int e8])), ((x 10), .inr (1, [.ref (x 11), .ref (x 12), .ref (x 13), .ref (x 14), .ref (x 15), .ref (x 16), .int (nI ca)])), ((x 11), .inl (cI, 16, .inl k11)), ((x 13), .inl (cI, 16, .inl k13)), ((x 14), .inl (cI, 16, .inl k14)), ((x 15), .inl (cI, 16, .inl k15)), ((x 16), .inl (cI, 16, .inl k16)), ((x 17), .inr (6, [.ref (x 18), .ref (x 19), .ref (x 20), .ref (x 21), .int (nI wa)])), ((x 18), .inl (cI, 40, .inl w18)), ((x 19), .inl (cI, 40, .inl w19)), ((x 20), .inl (cZ, 40, .inl w20)), ((x 21), .inl (cI, 40, .inl w21))] sz) (fun u => [((x 0), .inr (7, [.ref (x 1), .ref (x 5), .ref (x 7), .ref (x 10), .ref (x 17), .ref (x 22), .ref (x 27), .int (u.1)])), ((x 5), .inr (5, [.ref (x 6), .int e1, .int e2, .int e3, .int e4, .int e5, .int e6, .int e7, .int e8])), ((x 10), .inr (1, [.ref (x 11), .ref (x 12), .ref (x 13), .ref (x 14), .ref (x 15), .ref (x 16), .int (nI ca)])), ((x 11), .inl (cI, 16, .inl u.2.1)), ((x 13), .inl (cI, 16, .inl u.2.2.1)), ((x 14), .inl (cI, 16, .inl k14)), ((x 15), .inl (cI, 16, .inl u.2.2.2.1)), ((x 16), .inl (cI, 16, .inl u.2.2.2.2.1)), ((x 17), .inr (6, [.ref (x 18), .ref (x 19), .ref (x 20), .ref (x 21), .int (nI wa)])), ((x 18), .inl (cI, 40, .inl w18)), ((x 19), .inl (cI, 40, .inl u.2.2.2.2.2.1)), ((x 20), .inl (cZ, 40, .inl u.2.2.2.2.2.2.1)), ((x 21), .inl (cI, 40, .inl u.2.2.2.2.2.2.2))])) (va_A [((x 0), .inr (7, [.ref (x 1), .ref (x 5), .ref (x 7), .ref (x 10), .ref (x 17), .ref (x 22), .ref (x 27), .int yr])), ((x 5), .inr (5, [.ref (x 6), .int e1, .int e2, .int e3, .int e4, .int e5, .int e6, .int e7, .int e8])), ((x 10), .inr (1, [.ref (x 11), .ref (x 12), .ref (x 13), .ref (x 14), .ref (x 15), .ref (x 16), .int (nI ca)])), ((x 11), .inl (cI, 16, .inl k11)), ((x 13), .inl (cI, 16, .inl k13)), ((x 14), .inl (cI, 16, .inl k14)), ((x 15), .inl (cI, 16, .inl k15)), ((x 16), .inl (cI, 16, .inl k16)), ((x 17), .inr (6, [.ref (x 18), .ref (x 19), .ref (x 20), .ref (x 21), .int (nI wa)])), ((x 18), .inl (cI, 40, .inl w18)), ((x 19), .inl (cI, 40, .inl w19)), ((x 20), .inl (cZ, 40, .inl w20)), ((x 21), .inl (cI, 40, .inl w21))] sz)) 0 0 (va_A [((x 0), .inr (7, [.ref (x 1), .ref (x 5), .ref (x 7), .ref (x 10), .ref (x 17), .ref (x 22), .ref (x 27), .int yr])), ((x 5), .inr (5, [.ref (x 6), .int e1, .int e2, .int e3, .int e4, .int e5, .int e6, .int e7, .int e8])), ((x 10), .inr (1, [.ref (x 11), .ref (x 12), .ref (x 13), .ref (x 14), .ref (x 15), .ref (x 16), .int (nI ca)])), ((x 11), .inl (cI, 16, .inl k11)), ((x 13), .inl (cI, 16, .inl k13)), ((x 14), .inl (cI, 16, .inl k14)), ((x 15), .inl (cI, 16, .inl k15)), ((x 16), .inl (cI, 16, .inl k16)), ((x 17), .inr (6, [.ref (x 18), .ref (x 19), .ref (x 20), .ref (x 21), .int (nI wa)])), ((x 18), .inl (cI, 40, .inl w18)), ((x 19), .inl (cI, 40, .inl w19)), ((x 20), .inl (cZ, 40, .inl w20)), ((x 21), .inl (cI, 40, .inl w21))] sz) := by
  refine Met.ofW (cc := cX7_year) (maxL := 3) (ret := (some .int)) (by decide) rfl ?_
  intro p e s m args below meth c s₁ B hml hv
  obtain ⟨rfl, hsz, hP, hK, hD0⟩ := hv
  have hx := B.exec
  have hb := B.bytes
  have hr := B.returns
  have hts := atoms_spec (ws := wsX7_year) B.pre
  have hown : s.vm.findClass RX7 = some m.cls := findClass_of_methodNamed B.named
  have hlocks := B.notSynchronized
  subst hsz
  have hD := hD0.self (sz := s.heap.size)
  generalize hAe : va_A [((x 0), .inr (7, [.ref (x 1), .ref (x 5), .ref (x 7), .ref (x 10), .ref (x 17), .ref (x 22), .ref (x 27), .int yr])), ((x 5), .inr (5, [.ref (x 6), .int e1, .int e2, .int e3, .int e4, .int e5, .int e6, .int e7, .int e8])), ((x 10), .inr (1, [.ref (x 11), .ref (x 12), .ref (x 13), .ref (x 14), .ref (x 15), .ref (x 16), .int (nI ca)])), ((x 11), .inl (cI, 16, .inl k11)), ((x 13), .inl (cI, 16, .inl k13)), ((x 14), .inl (cI, 16, .inl k14)), ((x 15), .inl (cI, 16, .inl k15)), ((x 16), .inl (cI, 16, .inl k16)), ((x 17), .inr (6, [.ref (x 18), .ref (x 19), .ref (x 20), .ref (x 21), .int (nI wa)])), ((x 18), .inl (cI, 40, .inl w18)), ((x 19), .inl (cI, 40, .inl w19)), ((x 20), .inl (cZ, 40, .inl w20)), ((x 21), .inl (cI, 40, .inl w21))] s.heap.size = A at hD ⊢
  have hA : ∀ q : Nat, s.heap.size ≤ q → A q := fun q h => by rw [← hAe]; exact Or.inr h
  have hS : va_S A s.heap s.heap [] := va_S.rf
  have hP : va_P D vwCl [((x 0), .inr (7, [.ref (x 1), .ref (x 5), .ref (x 7), .ref (x 10), .ref (x 17), .ref (x 22), .ref (x 27), .int yr])), ((x 5), .inr (5, [.ref (x 6), .int e1, .int e2, .int e3, .int e4, .int e5, .int e6, .int e7, .int e8])), ((x 10), .inr (1, [.ref (x 11), .ref (x 12), .ref (x 13), .ref (x 14), .ref (x 15), .ref (x 16), .int (nI ca)])), ((x 11), .inl (cI, 16, .inl k11)), ((x 13), .inl (cI, 16, .inl k13)), ((x 14), .inl (cI, 16, .inl k14)), ((x 15), .inl (cI, 16, .inl k15)), ((x 16), .inl (cI, 16, .inl k16)), ((x 17), .inr (6, [.ref (x 18), .ref (x 19), .ref (x 20), .ref (x 21), .int (nI wa)])), ((x 18), .inl (cI, 40, .inl w18)), ((x 19), .inl (cI, 40, .inl w19)), ((x 20), .inl (cZ, 40, .inl w20)), ((x 21), .inl (cI, 40, .inl w21))] s.heap := hP
  have w_1 : ∀ w ∈ wsX70, w ∈ wsX7_year := by decide +kernel
  have w_2 := hts (Cond.fieldLink RX7 58 "BlueCoats" "years" "I") (by decide +kernel)
  have w_3 := hts (Cond.fieldLink RX7 33 "BlueCoats" "children" "LBlueCoats$Children;") (by decide +kernel)
  have w_4 : ∀ w ∈ wsX10, w ∈ wsX7_year := by decide +kernel
  have w_5 := hts (Cond.fieldLink RX7 145 "BlueCoats$Children" "number" "I") (by decide +kernel)
  have w_6 := hts (Cond.fieldLink RX7 40 "BlueCoats" "wardrobe" "LBlueCoats$Wardrobe;") (by decide +kernel)
  have w_7 : ∀ w ∈ wsX60, w ∈ wsX7_year := by decide +kernel
  have w_8 := hts (Cond.fieldLink RX7 173 "BlueCoats$Wardrobe" "number" "I") (by decide +kernel)
  have w_9 := hts (Cond.fieldLink RX7 19 "BlueCoats" "law" "LBlueCoats$Statutes;") (by decide +kernel)
  have w_10 : ∀ w ∈ wsX50, w ∈ wsX7_year := by decide +kernel
  have w_11 := hts (Cond.fieldLink RX7 174 "BlueCoats$Statutes" "wear" "I") (by decide +kernel)
  have w_12 := hts (Cond.fieldLink RX7 118 "BlueCoats$Children" "state" "[I") (by decide +kernel)
  have w_13 := hts (Cond.fieldLink RX7 155 "BlueCoats$Children" "age" "[I") (by decide +kernel)
  have w_14 := hts (Cond.fieldLink RX7 161 "BlueCoats$Statutes" "ageTo" "I") (by decide +kernel)
  have w_15 := hts (Cond.fieldLink RX7 167 "BlueCoats$Children" "coat" "[I") (by decide +kernel)
  have hl := lv_entry ([.ref (x 0)]) (n := 3) (Nat.le_of_ble_eq_true rfl)
  rw [lg_entry_eq]
  generalize (lg_sl ([.ref (x 0)]) ++ List.replicate (3 - (lg_sl ([.ref (x 0)])).length) Slot.unset).toArray = ls at hl ⊢
  have hl : lv_has ls 3 [(0, .ref (x 0))] := hl
  generalize hQ : MQ below _ _ s _ _ _ = Q0
  refine lv_aload_n hx hb dX7_year_0 rfl (lv_at hl 0 rfl) ?_
  refine lv_dup hx hb dX7_year_1 rfl ?_
  refine va_get (D := D) (ci := 7) (v := .int yr) (C := RX7) (T := TX7) (N := 8) hx hb hts w_1 hown hK hP 0 rfl rfl 7 (by decide) w_2 (fun _ h9 => h9) rfl dX7_year_2 ?_
  refine lv_iconst (v := 1) hx hb dX7_year_5 (by decide) ?_
  refine sv_iadd (v := yr + 1) hx hb dX7_year_6 rfl ?_
  refine va_put (D := D) (ci := 7) (v := .int (yr + 1)) (ty := .int) (C := RX7) (T := TX7) (N := 8) hx hb hts w_1 tyX7 tyX7_ok nmX7 hown hK hP hD hS 0 rfl rfl 7 (by decide) w_2 (fun _ h9 => h9) rfl (by decide +kernel) rfl rfl (Nat.le_of_ble_eq_true rfl) dX7_year_7 (fun H locs hP hD hS => ?_)
  have hP : va_P D vwCl [((x 0), .inr (7, [.ref (x 1), .ref (x 5), .ref (x 7), .ref (x 10), .ref (x 17), .ref (x 22), .ref (x 27), .int (yr + 1)])), ((x 5), .inr (5, [.ref (x 6), .int e1, .int e2, .int e3, .int e4, .int e5, .int e6, .int e7, .int e8])), ((x 10), .inr (1, [.ref (x 11), .ref (x 12), .ref (x 13), .ref (x 14), .ref (x 15), .ref (x 16), .int (nI ca)])), ((x 11), .inl (cI, 16, .inl k11)), ((x 13), .inl (cI, 16, .inl k13)), ((x 14), .inl (cI, 16, .inl k14)), ((x 15), .inl (cI, 16, .inl k15)), ((x 16), .inl (cI, 16, .inl k16)), ((x 17), .inr (6, [.ref (x 18), .ref (x 19), .ref (x 20), .ref (x 21), .int (nI wa)])), ((x 18), .inl (cI, 40, .inl w18)), ((x 19), .inl (cI, 40, .inl w19)), ((x 20), .inl (cZ, 40, .inl w20)), ((x 21), .inl (cI, 40, .inl w21))] H := hP
  have hD : va_D A [((x 0), .inr (7, [.ref (x 1), .ref (x 5), .ref (x 7), .ref (x 10), .ref (x 17), .ref (x 22), .ref (x 27), .int (yr + 1)])), ((x 5), .inr (5, [.ref (x 6), .int e1, .int e2, .int e3, .int e4, .int e5, .int e6, .int e7, .int e8])), ((x 10), .inr (1, [.ref (x 11), .ref (x 12), .ref (x 13), .ref (x 14), .ref (x 15), .ref (x 16), .int (nI ca)])), ((x 11), .inl (cI, 16, .inl k11)), ((x 13), .inl (cI, 16, .inl k13)), ((x 14), .inl (cI, 16, .inl k14)), ((x 15), .inl (cI, 16, .inl k15)), ((x 16), .inl (cI, 16, .inl k16)), ((x 17), .inr (6, [.ref (x 18), .ref (x 19), .ref (x 20), .ref (x 21), .int (nI wa)])), ((x 18), .inl (cI, 40, .inl w18)), ((x 19), .inl (cI, 40, .inl w19)), ((x 20), .inl (cZ, 40, .inl w20)), ((x 21), .inl (cI, 40, .inl w21))] := hD
  refine lv_iconst (v := 0) hx hb dX7_year_10 (by decide) ?_
  refine lv_istore_n (lv' := [(1, .int 0), (0, .ref (x 0))]) hx hb dX7_year_11 rfl hl (by decide) rfl (fun ls hl => ?_)
  refine lv_iconst (v := 0) hx hb dX7_year_12 (by decide) ?_
  refine lv_istore_n (lv' := [(2, .int 0), (1, .int 0), (0, .ref (x 0))]) hx hb dX7_year_13 rfl hl (by decide) rfl (fun ls hl => ?_)
  have L_1 : ∀ (n : Nat) (i_14 : Nat) (f_x11_14 : Nat → Int32) (f_x13_14 : Nat → Int32) (f_x15_14 : Nat → Int32) (f_x21_14 : Nat → Int32) (f_x16_14 : Nat → Int32) (b_1_14 : Nat) (H : Heap) (locs : List Loc) (ls : Array Slot), ca - i_14 < n → (i_14 ≤ ca) → (yeP k15 k11 k13 k14 e5 i_14 f_x15_14 f_x11_14 f_x13_14) → (b_1_14 = ybC k15 k11 e5 i_14) → va_P D vwCl [((x 0), .inr (7, [.ref (x 1), .ref (x 5), .ref (x 7), .ref (x 10), .ref (x 17), .ref (x 22), .ref (x 27), .int (yr + 1)])), ((x 5), .inr (5, [.ref (x 6), .int e1, .int e2, .int e3, .int e4, .int e5, .int e6, .int e7, .int e8])), ((x 10), .inr (1, [.ref (x 11), .ref (x 12), .ref (x 13), .ref (x 14), .ref (x 15), .ref (x 16), .int (nI ca)])), ((x 11), .inl (cI, 16, .inl f_x11_14)), ((x 13), .inl (cI, 16, .inl f_x13_14)), ((x 14), .inl (cI, 16, .inl k14)), ((x 15), .inl (cI, 16, .inl f_x15_14)), ((x 16), .inl (cI, 16, .inl f_x16_14)), ((x 17), .inr (6, [.ref (x 18), .ref (x 19), .ref (x 20), .ref (x 21), .int (nI wa)])), ((x 18), .inl (cI, 40, .inl w18)), ((x 19), .inl (cI, 40, .inl w19)), ((x 20), .inl (cZ, 40, .inl w20)), ((x 21), .inl (cI, 40, .inl f_x21_14))] H → va_D A [((x 0), .inr (7, [.ref (x 1), .ref (x 5), .ref (x 7), .ref (x 10), .ref (x 17), .ref (x 22), .ref (x 27), .int (yr + 1)])), ((x 5), .inr (5, [.ref (x 6), .int e1, .int e2, .int e3, .int e4, .int e5, .int e6, .int e7, .int e8])), ((x 10), .inr (1, [.ref (x 11), .ref (x 12), .ref (x 13), .ref (x 14), .ref (x 15), .ref (x 16), .int (nI ca)])), ((x 11), .inl (cI, 16, .inl f_x11_14)), ((x 13), .inl (cI, 16, .inl f_x13_14)), ((x 14), .inl (cI, 16, .inl k14)), ((x 15), .inl (cI, 16, .inl f_x15_14)), ((x 16), .inl (cI, 16, .inl f_x16_14)), ((x 17), .inr (6, [.ref (x 18), .ref (x 19), .ref (x 20), .ref (x 21), .int (nI wa)])), ((x 18), .inl (cI, 40, .inl w18)), ((x 19), .inl (cI, 40, .inl w19)), ((x 20), .inl (cZ, 40, .inl w20)), ((x 21), .inl (cI, 40, .inl f_x21_14))] → va_S A s.heap H locs → lv_has ls 3 [(0, .ref (x 0)), (1, .int (nI b_1_14)), (2, .int (nI i_14))] → W p l e (headSpec wsX7_year ({ frames := 2, cells := 0, slots := 0, locals := 43 } : Room)).room s m ([.ref (x 0)] : List Value).toArray below meth c H locs 0 0 Q0 (F0 m 14 ls []) := by
    intro n
    induction n with
    | zero => intro i_14 f_x11_14 f_x13_14 f_x15_14 f_x21_14 f_x16_14 b_1_14 H locs ls hn_14 hle_14 hy_14 hc_14 hP hD hS hl; exact absurd hn_14 (Nat.not_lt_zero _)
    | succ n ih_L_1 =>
      intro i_14 f_x11_14 f_x13_14 f_x15_14 f_x21_14 f_x16_14 b_1_14 H locs ls hn_14 hle_14 hy_14 hc_14 hP hD hS hl
      refine lv_iload_n hx hb dX7_year_14 rfl (lv_at hl 2 rfl) ?_
      refine lv_aload_n hx hb dX7_year_15 rfl (lv_at hl 0 rfl) ?_
      refine va_get (D := D) (ci := 7) (v := .ref (x 10)) (C := RX7) (T := TX7) (N := 8) hx hb hts w_1 hown hK hP 0 rfl rfl 3 (by decide) w_3 (fun _ h9 => h9) rfl dX7_year_16 ?_
      refine va_get (D := D) (ci := 1) (v := .int (nI ca)) (C := RX1) (T := TX1) (N := 7) hx hb hts w_4 hown hK hP 2 rfl rfl 6 (by decide) w_5 (fun _ h9 => h9) rfl dX7_year_19 ?_
      refine lv_icmp_ge (tgt := 97) hx hb dX7_year_22 (by decide) (fun c_22 => ?_) (fun c_22 => ?_)
      ·
        refine lv_iconst (v := 0) hx hb dX7_year_97 (by decide) ?_
        refine lv_istore_n (lv' := [(2, .int 0), (0, .ref (x 0)), (1, .int (nI b_1_14))]) hx hb dX7_year_98 rfl hl (by decide) rfl (fun ls hl => ?_)
        have L_2 : ∀ (n : Nat) (i_99 : Int32) (f_x19_99 : Nat → Int32) (f_x20_99 : Nat → Int32) (f_x21_99 : Nat → Int32) (f_x16_99 : Nat → Int32) (H : Heap) (locs : List Loc) (ls : Array Slot), (Int32.toInt (nI wa) - i_99.toInt).toNat < n → 0 ≤ i_99.toInt → (∀ k, f_x20_99 k = 0 ∨ f_x20_99 k = 1) → va_P D vwCl [((x 0), .inr (7, [.ref (x 1), .ref (x 5), .ref (x 7), .ref (x 10), .ref (x 17), .ref (x 22), .ref (x 27), .int (yr + 1)])), ((x 5), .inr (5, [.ref (x 6), .int e1, .int e2, .int e3, .int e4, .int e5, .int e6, .int e7, .int e8])), ((x 10), .inr (1, [.ref (x 11), .ref (x 12), .ref (x 13), .ref (x 14), .ref (x 15), .ref (x 16), .int (nI ca)])), ((x 11), .inl (cI, 16, .inl f_x11_14)), ((x 13), .inl (cI, 16, .inl f_x13_14)), ((x 14), .inl (cI, 16, .inl k14)), ((x 15), .inl (cI, 16, .inl f_x15_14)), ((x 16), .inl (cI, 16, .inl f_x16_99)), ((x 17), .inr (6, [.ref (x 18), .ref (x 19), .ref (x 20), .ref (x 21), .int (nI wa)])), ((x 18), .inl (cI, 40, .inl w18)), ((x 19), .inl (cI, 40, .inl f_x19_99)), ((x 20), .inl (cZ, 40, .inl f_x20_99)), ((x 21), .inl (cI, 40, .inl f_x21_99))] H → va_D A [((x 0), .inr (7, [.ref (x 1), .ref (x 5), .ref (x 7), .ref (x 10), .ref (x 17), .ref (x 22), .ref (x 27), .int (yr + 1)])), ((x 5), .inr (5, [.ref (x 6), .int e1, .int e2, .int e3, .int e4, .int e5, .int e6, .int e7, .int e8])), ((x 10), .inr (1, [.ref (x 11), .ref (x 12), .ref (x 13), .ref (x 14), .ref (x 15), .ref (x 16), .int (nI ca)])), ((x 11), .inl (cI, 16, .inl f_x11_14)), ((x 13), .inl (cI, 16, .inl f_x13_14)), ((x 14), .inl (cI, 16, .inl k14)), ((x 15), .inl (cI, 16, .inl f_x15_14)), ((x 16), .inl (cI, 16, .inl f_x16_99)), ((x 17), .inr (6, [.ref (x 18), .ref (x 19), .ref (x 20), .ref (x 21), .int (nI wa)])), ((x 18), .inl (cI, 40, .inl w18)), ((x 19), .inl (cI, 40, .inl f_x19_99)), ((x 20), .inl (cZ, 40, .inl f_x20_99)), ((x 21), .inl (cI, 40, .inl f_x21_99))] → va_S A s.heap H locs → lv_has ls 3 [(0, .ref (x 0)), (1, .int (nI b_1_14)), (2, .int i_99)] → W p l e (headSpec wsX7_year ({ frames := 2, cells := 0, slots := 0, locals := 43 } : Room)).room s m ([.ref (x 0)] : List Value).toArray below meth c H locs 0 0 Q0 (F0 m 99 ls []) := by
          intro n
          induction n with
          | zero => intro i_99 f_x19_99 f_x20_99 f_x21_99 f_x16_99 H locs ls hn_99 hlo_99 hz_99 hP hD hS hl; exact absurd hn_99 (Nat.not_lt_zero _)
          | succ n ih_L_2 =>
            intro i_99 f_x19_99 f_x20_99 f_x21_99 f_x16_99 H locs ls hn_99 hlo_99 hz_99 hP hD hS hl
            refine lv_iload_n hx hb dX7_year_99 rfl (lv_at hl 2 rfl) ?_
            refine lv_aload_n hx hb dX7_year_100 rfl (lv_at hl 0 rfl) ?_
            refine va_get (D := D) (ci := 7) (v := .ref (x 17)) (C := RX7) (T := TX7) (N := 8) hx hb hts w_1 hown hK hP 0 rfl rfl 4 (by decide) w_6 (fun _ h9 => h9) rfl dX7_year_101 ?_
            refine va_get (D := D) (ci := 6) (v := .int (nI wa)) (C := RX6) (T := TX6) (N := 5) hx hb hts w_7 hown hK hP 8 rfl rfl 4 (by decide) w_8 (fun _ h9 => h9) rfl dX7_year_104 ?_
            refine lv_icmp_ge (tgt := 139) hx hb dX7_year_107 (by decide) (fun c_107 => ?_) (fun c_107 => ?_)
            ·
              refine lv_iload_n hx hb dX7_year_139 rfl (lv_at hl 1 rfl) ?_
              rw [← hQ]
              have hP9 := hP.sub (ws' := [((x 0), .inr (7, [.ref (x 1), .ref (x 5), .ref (x 7), .ref (x 10), .ref (x 17), .ref (x 22), .ref (x 27), .int (yr + 1)])), ((x 5), .inr (5, [.ref (x 6), .int e1, .int e2, .int e3, .int e4, .int e5, .int e6, .int e7, .int e8])), ((x 10), .inr (1, [.ref (x 11), .ref (x 12), .ref (x 13), .ref (x 14), .ref (x 15), .ref (x 16), .int (nI ca)])), ((x 11), .inl (cI, 16, .inl f_x11_14)), ((x 13), .inl (cI, 16, .inl f_x13_14)), ((x 14), .inl (cI, 16, .inl k14)), ((x 15), .inl (cI, 16, .inl f_x15_14)), ((x 16), .inl (cI, 16, .inl f_x16_99)), ((x 17), .inr (6, [.ref (x 18), .ref (x 19), .ref (x 20), .ref (x 21), .int (nI wa)])), ((x 18), .inl (cI, 40, .inl w18)), ((x 19), .inl (cI, 40, .inl f_x19_99)), ((x 20), .inl (cZ, 40, .inl f_x20_99)), ((x 21), .inl (cI, 40, .inl f_x21_99))]) [0, 1, 2, 3, 4, 5, 6, 7, 8, 9, 10, 11, 12] rfl
              have hD9 := hD.sub (ws' := [((x 0), .inr (7, [.ref (x 1), .ref (x 5), .ref (x 7), .ref (x 10), .ref (x 17), .ref (x 22), .ref (x 27), .int (yr + 1)])), ((x 5), .inr (5, [.ref (x 6), .int e1, .int e2, .int e3, .int e4, .int e5, .int e6, .int e7, .int e8])), ((x 10), .inr (1, [.ref (x 11), .ref (x 12), .ref (x 13), .ref (x 14), .ref (x 15), .ref (x 16), .int (nI ca)])), ((x 11), .inl (cI, 16, .inl f_x11_14)), ((x 13), .inl (cI, 16, .inl f_x13_14)), ((x 14), .inl (cI, 16, .inl k14)), ((x 15), .inl (cI, 16, .inl f_x15_14)), ((x 16), .inl (cI, 16, .inl f_x16_99)), ((x 17), .inr (6, [.ref (x 18), .ref (x 19), .ref (x 20), .ref (x 21), .int (nI wa)])), ((x 18), .inl (cI, 40, .inl w18)), ((x 19), .inl (cI, 40, .inl f_x19_99)), ((x 20), .inl (cZ, 40, .inl f_x20_99)), ((x 21), .inl (cI, 40, .inl f_x21_99))]) [0, 1, 2, 3, 4, 5, 6, 7, 8, 9, 10, 11, 12] (by decide) rfl
              exact W.iret (v := nI b_1_14) hx hb hr (fun t ht hW => ⟨⟨_, ((yr + 1 : Int32), f_x11_14, f_x13_14, f_x15_14, f_x16_99, f_x19_99, f_x20_99, f_x21_99), rfl, ⟨hz_99, by rw [← (Nat.le_antisymm hle_14 (ge3 (by omega) hle_14 c_22))]; exact hy_14, by rw [hc_14, (Nat.le_antisymm hle_14 (ge3 (by omega) hle_14 c_22))], rfl⟩, by rw [ht]; exact hP9, va_K.moved hW.alike hK, hD9⟩, hS.F ht⟩) hS.2.2 dX7_year_140
            ·
              refine lv_aload_n hx hb dX7_year_110 rfl (lv_at hl 0 rfl) ?_
              refine va_get (D := D) (ci := 7) (v := .ref (x 17)) (C := RX7) (T := TX7) (N := 8) hx hb hts w_1 hown hK hP 0 rfl rfl 4 (by decide) w_6 (fun _ h9 => h9) rfl dX7_year_111 ?_
              refine lv_iload_n hx hb dX7_year_114 rfl (lv_at hl 2 rfl) ?_
              refine lv_aload_n hx hb dX7_year_115 rfl (lv_at hl 0 rfl) ?_
              refine va_get (D := D) (ci := 7) (v := .ref (x 5)) (C := RX7) (T := TX7) (N := 8) hx hb hts w_1 hown hK hP 0 rfl rfl 1 (by decide) w_9 (fun _ h9 => h9) rfl dX7_year_116 ?_
              refine va_get (D := D) (ci := 5) (v := .int e6) (C := RX5) (T := TX5) (N := 9) hx hb hts w_10 hown hK hP 1 rfl rfl 6 (by decide) w_11 (fun _ h9 => h9) rfl dX7_year_119 ?_
              refine cl_i (wc := [((x 17), .inr (6, [.ref (x 18), .ref (x 19), .ref (x 20), .ref (x 21), .int (nI wa)])), ((x 18), .inl (cI, 40, .inl w18)), ((x 19), .inl (cI, 40, .inl f_x19_99)), ((x 20), .inl (cZ, 40, .inl f_x20_99)), ((x 21), .inl (cI, 40, .inl f_x21_99))]) (wr := [((x 0), .inr (7, [.ref (x 1), .ref (x 5), .ref (x 7), .ref (x 10), .ref (x 17), .ref (x 22), .ref (x 27), .int (yr + 1)])), ((x 5), .inr (5, [.ref (x 6), .int e1, .int e2, .int e3, .int e4, .int e5, .int e6, .int e7, .int e8])), ((x 10), .inr (1, [.ref (x 11), .ref (x 12), .ref (x 13), .ref (x 14), .ref (x 15), .ref (x 16), .int (nI ca)])), ((x 11), .inl (cI, 16, .inl f_x11_14)), ((x 13), .inl (cI, 16, .inl f_x13_14)), ((x 14), .inl (cI, 16, .inl k14)), ((x 15), .inl (cI, 16, .inl f_x15_14)), ((x 16), .inl (cI, 16, .inl f_x16_99))]) (va_runV (As := [.int i_99, .int e6]) (rest := []) ⟨hx, hb, hml, hown, hts⟩ (g_X6_wear l D cB cI cJ cZ H.size (x 17) (x 18) (x 19) (x 20) (x 21) wa w18 f_x19_99 f_x20_99 f_x21_99 i_99 e6 b_wa hz_99) (cwV 2 hts gX7_year_X6_wearOut rfl rfl rfl (by decide +kernel) ⟨Nat.le_of_ble_eq_true rfl, Nat.le_of_ble_eq_true rfl⟩) (pre_V (hP.sub (ws' := [((x 17), .inr (6, [.ref (x 18), .ref (x 19), .ref (x 20), .ref (x 21), .int (nI wa)])), ((x 18), .inl (cI, 40, .inl w18)), ((x 19), .inl (cI, 40, .inl f_x19_99)), ((x 20), .inl (cZ, 40, .inl f_x20_99)), ((x 21), .inl (cI, 40, .inl f_x21_99))]) [8, 9, 10, 11, 12] rfl) hK (hD.sub (ws' := [((x 17), .inr (6, [.ref (x 18), .ref (x 19), .ref (x 20), .ref (x 21), .int (nI wa)])), ((x 18), .inl (cI, 40, .inl w18)), ((x 19), .inl (cI, 40, .inl f_x19_99)), ((x 20), .inl (cZ, 40, .inl f_x20_99)), ((x 21), .inl (cI, 40, .inl f_x21_99))]) [8, 9, 10, 11, 12] (by decide) rfl) 0 rfl rfl rfl) rfl rfl hl.1 rfl (lv_room (Nat.le_of_ble_eq_true rfl)) dX7_year_122 ⟨Nat.le_of_ble_eq_true rfl, Nat.le_of_ble_eq_true rfl⟩) hP hD hS hA [8, 9, 10, 11, 12] [0, 1, 2, 3, 4, 5, 6, 7] rfl rfl (by decide) (by decide) 0 0 rfl rfl (fun r_3 u_4 H locs hw_u_4 hP hD hS => ?_)
              have hP : va_P D vwCl [((x 0), .inr (7, [.ref (x 1), .ref (x 5), .ref (x 7), .ref (x 10), .ref (x 17), .ref (x 22), .ref (x 27), .int (yr + 1)])), ((x 5), .inr (5, [.ref (x 6), .int e1, .int e2, .int e3, .int e4, .int e5, .int e6, .int e7, .int e8])), ((x 10), .inr (1, [.ref (x 11), .ref (x 12), .ref (x 13), .ref (x 14), .ref (x 15), .ref (x 16), .int (nI ca)])), ((x 11), .inl (cI, 16, .inl f_x11_14)), ((x 13), .inl (cI, 16, .inl f_x13_14)), ((x 14), .inl (cI, 16, .inl k14)), ((x 15), .inl (cI, 16, .inl f_x15_14)), ((x 16), .inl (cI, 16, .inl f_x16_99)), ((x 17), .inr (6, [.ref (x 18), .ref (x 19), .ref (x 20), .ref (x 21), .int (nI wa)])), ((x 18), .inl (cI, 40, .inl w18)), ((x 19), .inl (cI, 40, .inl u_4.1)), ((x 20), .inl (cZ, 40, .inl u_4.2)), ((x 21), .inl (cI, 40, .inl f_x21_99))] H := hP
              have hD : va_D A [((x 0), .inr (7, [.ref (x 1), .ref (x 5), .ref (x 7), .ref (x 10), .ref (x 17), .ref (x 22), .ref (x 27), .int (yr + 1)])), ((x 5), .inr (5, [.ref (x 6), .int e1, .int e2, .int e3, .int e4, .int e5, .int e6, .int e7, .int e8])), ((x 10), .inr (1, [.ref (x 11), .ref (x 12), .ref (x 13), .ref (x 14), .ref (x 15), .ref (x 16), .int (nI ca)])), ((x 11), .inl (cI, 16, .inl f_x11_14)), ((x 13), .inl (cI, 16, .inl f_x13_14)), ((x 14), .inl (cI, 16, .inl k14)), ((x 15), .inl (cI, 16, .inl f_x15_14)), ((x 16), .inl (cI, 16, .inl f_x16_99)), ((x 17), .inr (6, [.ref (x 18), .ref (x 19), .ref (x 20), .ref (x 21), .int (nI wa)])), ((x 18), .inl (cI, 40, .inl w18)), ((x 19), .inl (cI, 40, .inl u_4.1)), ((x 20), .inl (cZ, 40, .inl u_4.2)), ((x 21), .inl (cI, 40, .inl f_x21_99))] := hD
              refine lv_if_eq (tgt := 133) hx hb dX7_year_125 (by decide) (fun c_125 => ?_) (fun c_125 => ?_)
              ·
                refine lv_iinc (v := i_99 + 1) (lv' := [(2, .int (i_99 + 1)), (0, .ref (x 0)), (1, .int (nI b_1_14))]) hx hb dX7_year_133 hl (k := 2) rfl rfl (by decide) rfl (fun ls hl => ?_)
                refine lv_goto (tgt := 99) hx hb dX7_year_136 (by decide) ?_
                exact ih_L_2 (i_99 + 1) u_4.1 u_4.2 f_x21_99 f_x16_99 _ _ ls (lp_dec hn_99 c_107) (by have h9 := lp_inc c_107; omega) hw_u_4 hP hD hS (lv_sub hl [1, 2, 0] rfl)
              ·
                refine lv_aload_n hx hb dX7_year_128 rfl (lv_at hl 0 rfl) ?_
                refine lv_iload_n hx hb dX7_year_129 rfl (lv_at hl 2 rfl) ?_
                refine cl_v (wc := [((x 0), .inr (7, [.ref (x 1), .ref (x 5), .ref (x 7), .ref (x 10), .ref (x 17), .ref (x 22), .ref (x 27), .int (yr + 1)])), ((x 10), .inr (1, [.ref (x 11), .ref (x 12), .ref (x 13), .ref (x 14), .ref (x 15), .ref (x 16), .int (nI ca)])), ((x 16), .inl (cI, 16, .inl f_x16_99)), ((x 17), .inr (6, [.ref (x 18), .ref (x 19), .ref (x 20), .ref (x 21), .int (nI wa)])), ((x 21), .inl (cI, 40, .inl f_x21_99))]) (wr := [((x 5), .inr (5, [.ref (x 6), .int e1, .int e2, .int e3, .int e4, .int e5, .int e6, .int e7, .int e8])), ((x 11), .inl (cI, 16, .inl f_x11_14)), ((x 13), .inl (cI, 16, .inl f_x13_14)), ((x 14), .inl (cI, 16, .inl k14)), ((x 15), .inl (cI, 16, .inl f_x15_14)), ((x 18), .inl (cI, 40, .inl w18)), ((x 19), .inl (cI, 40, .inl u_4.1)), ((x 20), .inl (cZ, 40, .inl u_4.2))]) (va_runV (As := [.int i_99]) (rest := []) ⟨hx, hb, hml, hown, hts⟩ (n_X7_handIn l D cB cI cJ cZ H.size x (yr + 1) ca f_x16_99 wa f_x21_99 i_99 b_ca b_wa) (cwV 1 hts gX7_year_X7_handIn rfl rfl rfl (by decide +kernel) ⟨Nat.le_of_ble_eq_true rfl, Nat.le_of_ble_eq_true rfl⟩) (pre_V (hP.sub (ws' := [((x 0), .inr (7, [.ref (x 1), .ref (x 5), .ref (x 7), .ref (x 10), .ref (x 17), .ref (x 22), .ref (x 27), .int (yr + 1)])), ((x 10), .inr (1, [.ref (x 11), .ref (x 12), .ref (x 13), .ref (x 14), .ref (x 15), .ref (x 16), .int (nI ca)])), ((x 16), .inl (cI, 16, .inl f_x16_99)), ((x 17), .inr (6, [.ref (x 18), .ref (x 19), .ref (x 20), .ref (x 21), .int (nI wa)])), ((x 21), .inl (cI, 40, .inl f_x21_99))]) [0, 2, 7, 8, 12] rfl) hK (hD.sub (ws' := [((x 0), .inr (7, [.ref (x 1), .ref (x 5), .ref (x 7), .ref (x 10), .ref (x 17), .ref (x 22), .ref (x 27), .int (yr + 1)])), ((x 10), .inr (1, [.ref (x 11), .ref (x 12), .ref (x 13), .ref (x 14), .ref (x 15), .ref (x 16), .int (nI ca)])), ((x 16), .inl (cI, 16, .inl f_x16_99)), ((x 17), .inr (6, [.ref (x 18), .ref (x 19), .ref (x 20), .ref (x 21), .int (nI wa)])), ((x 21), .inl (cI, 40, .inl f_x21_99))]) [0, 2, 7, 8, 12] (by decide) rfl) 0 rfl rfl rfl) rfl rfl hl.1 rfl (lv_room (Nat.le_of_ble_eq_true rfl)) dX7_year_130 ⟨Nat.le_of_ble_eq_true rfl, Nat.le_of_ble_eq_true rfl⟩) hP hD hS hA [0, 2, 7, 8, 12] [1, 3, 4, 5, 6, 9, 10, 11] rfl rfl (by decide) (by decide) 0 0 rfl rfl (fun u_6 H locs hw_u_6 hP hD hS => ?_)
                have hP : va_P D vwCl [((x 5), .inr (5, [.ref (x 6), .int e1, .int e2, .int e3, .int e4, .int e5, .int e6, .int e7, .int e8])), ((x 11), .inl (cI, 16, .inl f_x11_14)), ((x 13), .inl (cI, 16, .inl f_x13_14)), ((x 14), .inl (cI, 16, .inl k14)), ((x 15), .inl (cI, 16, .inl f_x15_14)), ((x 18), .inl (cI, 40, .inl w18)), ((x 19), .inl (cI, 40, .inl u_4.1)), ((x 20), .inl (cZ, 40, .inl u_4.2)), ((x 0), .inr (7, [.ref (x 1), .ref (x 5), .ref (x 7), .ref (x 10), .ref (x 17), .ref (x 22), .ref (x 27), .int (yr + 1)])), ((x 10), .inr (1, [.ref (x 11), .ref (x 12), .ref (x 13), .ref (x 14), .ref (x 15), .ref (x 16), .int (nI ca)])), ((x 16), .inl (cI, 16, .inl u_6.2)), ((x 17), .inr (6, [.ref (x 18), .ref (x 19), .ref (x 20), .ref (x 21), .int (nI wa)])), ((x 21), .inl (cI, 40, .inl u_6.1))] H := hP
                have hD : va_D A [((x 5), .inr (5, [.ref (x 6), .int e1, .int e2, .int e3, .int e4, .int e5, .int e6, .int e7, .int e8])), ((x 11), .inl (cI, 16, .inl f_x11_14)), ((x 13), .inl (cI, 16, .inl f_x13_14)), ((x 14), .inl (cI, 16, .inl k14)), ((x 15), .inl (cI, 16, .inl f_x15_14)), ((x 18), .inl (cI, 40, .inl w18)), ((x 19), .inl (cI, 40, .inl u_4.1)), ((x 20), .inl (cZ, 40, .inl u_4.2)), ((x 0), .inr (7, [.ref (x 1), .ref (x 5), .ref (x 7), .ref (x 10), .ref (x 17), .ref (x 22), .ref (x 27), .int (yr + 1)])), ((x 10), .inr (1, [.ref (x 11), .ref (x 12), .ref (x 13), .ref (x 14), .ref (x 15), .ref (x 16), .int (nI ca)])), ((x 16), .inl (cI, 16, .inl u_6.2)), ((x 17), .inr (6, [.ref (x 18), .ref (x 19), .ref (x 20), .ref (x 21), .int (nI wa)])), ((x 21), .inl (cI, 40, .inl u_6.1))] := hD
                refine lv_iinc (v := i_99 + 1) (lv' := [(2, .int (i_99 + 1)), (0, .ref (x 0)), (1, .int (nI b_1_14))]) hx hb dX7_year_133 hl (k := 2) rfl rfl (by decide) rfl (fun ls hl => ?_)
                refine lv_goto (tgt := 99) hx hb dX7_year_136 (by decide) ?_
                exact ih_L_2 (i_99 + 1) u_4.1 u_4.2 u_6.1 u_6.2 _ _ ls (lp_dec hn_99 c_107) (by have h9 := lp_inc c_107; omega) hw_u_4 (hP.sub [8, 0, 9, 1, 2, 3, 4, 10, 11, 5, 6, 7, 12] rfl) (hD.sub [8, 0, 9, 1, 2, 3, 4, 10, 11, 5, 6, 7, 12] (by decide) rfl) hS (lv_sub hl [1, 2, 0] rfl)
        exact L_2 _ 0 w19 w20 f_x21_14 f_x16_14 _ _ ls (Nat.lt_succ_self _) (by decide) hz hP hD hS (lv_sub hl [1, 2, 0] rfl)
      ·
        have hb_14 : i_14 < ca := lt3 (by omega) hle_14 c_22
        refine lv_aload_n hx hb dX7_year_25 rfl (lv_at hl 0 rfl) ?_
        refine va_get (D := D) (ci := 7) (v := .ref (x 10)) (C := RX7) (T := TX7) (N := 8) hx hb hts w_1 hown hK hP 0 rfl rfl 3 (by decide) w_3 (fun _ h9 => h9) rfl dX7_year_26 ?_
        refine lv_iload_n hx hb dX7_year_29 rfl (lv_at hl 2 rfl) ?_
        refine cl_v (wc := [((x 10), .inr (1, [.ref (x 11), .ref (x 12), .ref (x 13), .ref (x 14), .ref (x 15), .ref (x 16), .int (nI ca)])), ((x 11), .inl (cI, 16, .inl f_x11_14)), ((x 13), .inl (cI, 16, .inl f_x13_14)), ((x 14), .inl (cI, 16, .inl k14))]) (wr := [((x 0), .inr (7, [.ref (x 1), .ref (x 5), .ref (x 7), .ref (x 10), .ref (x 17), .ref (x 22), .ref (x 27), .int (yr + 1)])), ((x 5), .inr (5, [.ref (x 6), .int e1, .int e2, .int e3, .int e4, .int e5, .int e6, .int e7, .int e8])), ((x 15), .inl (cI, 16, .inl f_x15_14)), ((x 16), .inl (cI, 16, .inl f_x16_14)), ((x 17), .inr (6, [.ref (x 18), .ref (x 19), .ref (x 20), .ref (x 21), .int (nI wa)])), ((x 18), .inl (cI, 40, .inl w18)), ((x 19), .inl (cI, 40, .inl w19)), ((x 20), .inl (cZ, 40, .inl w20)), ((x 21), .inl (cI, 40, .inl f_x21_14))]) (va_runV (As := [.int (nI i_14)]) (rest := []) ⟨hx, hb, hml, hown, hts⟩ (f_X1_grow l D cB cI cJ cZ H.size (x 10) (x 11) (x 12) (x 13) (x 14) (x 15) (x 16) ca f_x11_14 f_x13_14 k14 i_14 b_ca hb_14) (cwV 1 hts gX7_year_X1_grow rfl rfl rfl (by decide +kernel) ⟨Nat.le_of_ble_eq_true rfl, Nat.le_of_ble_eq_true rfl⟩) (pre_V (hP.sub (ws' := [((x 10), .inr (1, [.ref (x 11), .ref (x 12), .ref (x 13), .ref (x 14), .ref (x 15), .ref (x 16), .int (nI ca)])), ((x 11), .inl (cI, 16, .inl f_x11_14)), ((x 13), .inl (cI, 16, .inl f_x13_14)), ((x 14), .inl (cI, 16, .inl k14))]) [2, 3, 4, 5] rfl) hK (hD.sub (ws' := [((x 10), .inr (1, [.ref (x 11), .ref (x 12), .ref (x 13), .ref (x 14), .ref (x 15), .ref (x 16), .int (nI ca)])), ((x 11), .inl (cI, 16, .inl f_x11_14)), ((x 13), .inl (cI, 16, .inl f_x13_14)), ((x 14), .inl (cI, 16, .inl k14))]) [2, 3, 4, 5] (by decide) rfl) 0 rfl rfl rfl) rfl rfl hl.1 rfl (lv_room (Nat.le_of_ble_eq_true rfl)) dX7_year_30 ⟨Nat.le_of_ble_eq_true rfl, Nat.le_of_ble_eq_true rfl⟩) hP hD hS hA [2, 3, 4, 5] [0, 1, 6, 7, 8, 9, 10, 11, 12] rfl rfl (by decide) (by decide) 0 0 rfl rfl (fun u_8 H locs hw_u_8 hP hD hS => ?_)
        have hP : va_P D vwCl [((x 0), .inr (7, [.ref (x 1), .ref (x 5), .ref (x 7), .ref (x 10), .ref (x 17), .ref (x 22), .ref (x 27), .int (yr + 1)])), ((x 5), .inr (5, [.ref (x 6), .int e1, .int e2, .int e3, .int e4, .int e5, .int e6, .int e7, .int e8])), ((x 15), .inl (cI, 16, .inl f_x15_14)), ((x 16), .inl (cI, 16, .inl f_x16_14)), ((x 17), .inr (6, [.ref (x 18), .ref (x 19), .ref (x 20), .ref (x 21), .int (nI wa)])), ((x 18), .inl (cI, 40, .inl w18)), ((x 19), .inl (cI, 40, .inl w19)), ((x 20), .inl (cZ, 40, .inl w20)), ((x 21), .inl (cI, 40, .inl f_x21_14)), ((x 10), .inr (1, [.ref (x 11), .ref (x 12), .ref (x 13), .ref (x 14), .ref (x 15), .ref (x 16), .int (nI ca)])), ((x 11), .inl (cI, 16, .inl u_8.1)), ((x 13), .inl (cI, 16, .inl u_8.2)), ((x 14), .inl (cI, 16, .inl k14))] H := hP
        have hD : va_D A [((x 0), .inr (7, [.ref (x 1), .ref (x 5), .ref (x 7), .ref (x 10), .ref (x 17), .ref (x 22), .ref (x 27), .int (yr + 1)])), ((x 5), .inr (5, [.ref (x 6), .int e1, .int e2, .int e3, .int e4, .int e5, .int e6, .int e7, .int e8])), ((x 15), .inl (cI, 16, .inl f_x15_14)), ((x 16), .inl (cI, 16, .inl f_x16_14)), ((x 17), .inr (6, [.ref (x 18), .ref (x 19), .ref (x 20), .ref (x 21), .int (nI wa)])), ((x 18), .inl (cI, 40, .inl w18)), ((x 19), .inl (cI, 40, .inl w19)), ((x 20), .inl (cZ, 40, .inl w20)), ((x 21), .inl (cI, 40, .inl f_x21_14)), ((x 10), .inr (1, [.ref (x 11), .ref (x 12), .ref (x 13), .ref (x 14), .ref (x 15), .ref (x 16), .int (nI ca)])), ((x 11), .inl (cI, 16, .inl u_8.1)), ((x 13), .inl (cI, 16, .inl u_8.2)), ((x 14), .inl (cI, 16, .inl k14))] := hD
        have hg9a := hw_u_8.1
        have hg9b := hw_u_8.2
        refine lv_aload_n hx hb dX7_year_33 rfl (lv_at hl 0 rfl) ?_
        refine va_get (D := D) (ci := 7) (v := .ref (x 10)) (C := RX7) (T := TX7) (N := 8) hx hb hts w_1 hown hK hP 0 rfl rfl 3 (by decide) w_3 (fun _ h9 => h9) rfl dX7_year_34 ?_
        refine va_get (D := D) (ci := 1) (v := .ref (x 15)) (C := RX1) (T := TX1) (N := 7) hx hb hts w_4 hown hK hP 9 rfl rfl 4 (by decide) w_12 (fun _ h9 => h9) rfl dX7_year_37 ?_
        refine lv_iload_n hx hb dX7_year_40 rfl (lv_at hl 2 rfl) ?_
        refine sv_iald (v := f_x15_14 i_14) hx hb hK hP 2 1 rfl rfl (vp_in_nI (by omega) (by decide)) (congrArg _ (nI_clamp (by omega))) dX7_year_41 ?_
        refine lv_iconst (v := 1) hx hb dX7_year_42 (by decide) ?_
        refine lv_icmp_ne (tgt := 91) hx hb dX7_year_43 (by decide) (fun c_43 => ?_) (fun c_43 => ?_)
        ·
          refine lv_iinc (v := nI (i_14 + 1)) (lv' := [(2, .int (nI (i_14 + 1))), (0, .ref (x 0)), (1, .int (nI b_1_14))]) hx hb dX7_year_91 hl (k := 2) rfl (ax_add _ 1) (by decide) rfl (fun ls hl => ?_)
          refine lv_goto (tgt := 14) hx hb dX7_year_94 (by decide) ?_
          exact ih_L_1 (i_14 + 1) u_8.1 u_8.2 f_x15_14 f_x21_14 f_x16_14 b_1_14 _ _ ls (by omega) (by omega) (by rw [hg9a, hg9b]; exact ye_st hy_14 rfl rfl (fun h => c_43 h.1)) (yb_n hy_14 hc_14 rfl (fun h => c_43 h.1)) (hP.sub [0, 1, 9, 10, 11, 12, 2, 3, 4, 5, 6, 7, 8] rfl) (hD.sub [0, 1, 9, 10, 11, 12, 2, 3, 4, 5, 6, 7, 8] (by decide) rfl) hS (lv_sub hl [1, 2, 0] rfl)
        ·
          refine lv_aload_n hx hb dX7_year_46 rfl (lv_at hl 0 rfl) ?_
          refine va_get (D := D) (ci := 7) (v := .ref (x 10)) (C := RX7) (T := TX7) (N := 8) hx hb hts w_1 hown hK hP 0 rfl rfl 3 (by decide) w_3 (fun _ h9 => h9) rfl dX7_year_47 ?_
          refine va_get (D := D) (ci := 1) (v := .ref (x 11)) (C := RX1) (T := TX1) (N := 7) hx hb hts w_4 hown hK hP 9 rfl rfl 0 (by decide) w_13 (fun _ h9 => h9) rfl dX7_year_50 ?_
          refine lv_iload_n hx hb dX7_year_53 rfl (lv_at hl 2 rfl) ?_
          refine sv_iald (v := u_8.1 i_14) hx hb hK hP 10 1 rfl rfl (vp_in_nI (by omega) (by decide)) (congrArg _ (nI_clamp (by omega))) dX7_year_54 ?_
          refine lv_aload_n hx hb dX7_year_55 rfl (lv_at hl 0 rfl) ?_
          refine va_get (D := D) (ci := 7) (v := .ref (x 5)) (C := RX7) (T := TX7) (N := 8) hx hb hts w_1 hown hK hP 0 rfl rfl 1 (by decide) w_9 (fun _ h9 => h9) rfl dX7_year_56 ?_
          refine va_get (D := D) (ci := 5) (v := .int e5) (C := RX5) (T := TX5) (N := 9) hx hb hts w_10 hown hK hP 1 rfl rfl 5 (by decide) w_14 (fun _ h9 => h9) rfl dX7_year_59 ?_
          refine lv_icmp_lt (tgt := 91) hx hb dX7_year_62 (by decide) (fun c_62 => ?_) (fun c_62 => ?_)
          ·
            refine lv_iinc (v := nI (i_14 + 1)) (lv' := [(2, .int (nI (i_14 + 1))), (0, .ref (x 0)), (1, .int (nI b_1_14))]) hx hb dX7_year_91 hl (k := 2) rfl (ax_add _ 1) (by decide) rfl (fun ls hl => ?_)
            refine lv_goto (tgt := 14) hx hb dX7_year_94 (by decide) ?_
            exact ih_L_1 (i_14 + 1) u_8.1 u_8.2 f_x15_14 f_x21_14 f_x16_14 b_1_14 _ _ ls (by omega) (by omega) (by rw [hg9a, hg9b]; exact ye_st hy_14 rfl rfl (fun h => absurd c_62 (Int32.not_lt.mpr (by rw [hg9a, pk_us]; exact h.2)))) (yb_n hy_14 hc_14 rfl (fun h => absurd c_62 (Int32.not_lt.mpr (by rw [hg9a, pk_us]; exact h.2)))) (hP.sub [0, 1, 9, 10, 11, 12, 2, 3, 4, 5, 6, 7, 8] rfl) (hD.sub [0, 1, 9, 10, 11, 12, 2, 3, 4, 5, 6, 7, 8] (by decide) rfl) hS (lv_sub hl [1, 2, 0] rfl)
          ·
            refine lv_aload_n hx hb dX7_year_65 rfl (lv_at hl 0 rfl) ?_
            refine va_get (D := D) (ci := 7) (v := .ref (x 10)) (C := RX7) (T := TX7) (N := 8) hx hb hts w_1 hown hK hP 0 rfl rfl 3 (by decide) w_3 (fun _ h9 => h9) rfl dX7_year_66 ?_
            refine va_get (D := D) (ci := 1) (v := .ref (x 15)) (C := RX1) (T := TX1) (N := 7) hx hb hts w_4 hown hK hP 9 rfl rfl 4 (by decide) w_12 (fun _ h9 => h9) rfl dX7_year_69 ?_
            refine lv_iload_n hx hb dX7_year_72 rfl (lv_at hl 2 rfl) ?_
            refine lv_iconst (v := 2) hx hb dX7_year_73 (by decide) ?_
            refine sv_iast hx hb hK hP hD hS 2 1 rfl rfl (vp_in_nI (by omega) (by decide)) dX7_year_74 (fun g_9 H locs eg_9 hP hD hS => ?_)
            have eg_9 : g_9 = upd f_x15_14 i_14 2 := ist eg_9 (by omega)
            subst eg_9
            have hP : va_P D vwCl [((x 0), .inr (7, [.ref (x 1), .ref (x 5), .ref (x 7), .ref (x 10), .ref (x 17), .ref (x 22), .ref (x 27), .int (yr + 1)])), ((x 5), .inr (5, [.ref (x 6), .int e1, .int e2, .int e3, .int e4, .int e5, .int e6, .int e7, .int e8])), ((x 15), .inl (cI, 16, .inl (upd f_x15_14 i_14 2))), ((x 16), .inl (cI, 16, .inl f_x16_14)), ((x 17), .inr (6, [.ref (x 18), .ref (x 19), .ref (x 20), .ref (x 21), .int (nI wa)])), ((x 18), .inl (cI, 40, .inl w18)), ((x 19), .inl (cI, 40, .inl w19)), ((x 20), .inl (cZ, 40, .inl w20)), ((x 21), .inl (cI, 40, .inl f_x21_14)), ((x 10), .inr (1, [.ref (x 11), .ref (x 12), .ref (x 13), .ref (x 14), .ref (x 15), .ref (x 16), .int (nI ca)])), ((x 11), .inl (cI, 16, .inl u_8.1)), ((x 13), .inl (cI, 16, .inl u_8.2)), ((x 14), .inl (cI, 16, .inl k14))] H := hP
            have hD : va_D A [((x 0), .inr (7, [.ref (x 1), .ref (x 5), .ref (x 7), .ref (x 10), .ref (x 17), .ref (x 22), .ref (x 27), .int (yr + 1)])), ((x 5), .inr (5, [.ref (x 6), .int e1, .int e2, .int e3, .int e4, .int e5, .int e6, .int e7, .int e8])), ((x 15), .inl (cI, 16, .inl (upd f_x15_14 i_14 2))), ((x 16), .inl (cI, 16, .inl f_x16_14)), ((x 17), .inr (6, [.ref (x 18), .ref (x 19), .ref (x 20), .ref (x 21), .int (nI wa)])), ((x 18), .inl (cI, 40, .inl w18)), ((x 19), .inl (cI, 40, .inl w19)), ((x 20), .inl (cZ, 40, .inl w20)), ((x 21), .inl (cI, 40, .inl f_x21_14)), ((x 10), .inr (1, [.ref (x 11), .ref (x 12), .ref (x 13), .ref (x 14), .ref (x 15), .ref (x 16), .int (nI ca)])), ((x 11), .inl (cI, 16, .inl u_8.1)), ((x 13), .inl (cI, 16, .inl u_8.2)), ((x 14), .inl (cI, 16, .inl k14))] := hD
            refine lv_aload_n hx hb dX7_year_75 rfl (lv_at hl 0 rfl) ?_
            refine lv_aload_n hx hb dX7_year_76 rfl (lv_at hl 0 rfl) ?_
            refine va_get (D := D) (ci := 7) (v := .ref (x 10)) (C := RX7) (T := TX7) (N := 8) hx hb hts w_1 hown hK hP 0 rfl rfl 3 (by decide) w_3 (fun _ h9 => h9) rfl dX7_year_77 ?_
            refine va_get (D := D) (ci := 1) (v := .ref (x 16)) (C := RX1) (T := TX1) (N := 7) hx hb hts w_4 hown hK hP 9 rfl rfl 5 (by decide) w_15 (fun _ h9 => h9) rfl dX7_year_80 ?_
            refine lv_iload_n hx hb dX7_year_83 rfl (lv_at hl 2 rfl) ?_
            refine sv_iald (v := f_x16_14 i_14) hx hb hK hP 3 1 rfl rfl (vp_in_nI (by omega) (by decide)) (congrArg _ (nI_clamp (by omega))) dX7_year_84 ?_
            refine cl_v (wc := [((x 0), .inr (7, [.ref (x 1), .ref (x 5), .ref (x 7), .ref (x 10), .ref (x 17), .ref (x 22), .ref (x 27), .int (yr + 1)])), ((x 10), .inr (1, [.ref (x 11), .ref (x 12), .ref (x 13), .ref (x 14), .ref (x 15), .ref (x 16), .int (nI ca)])), ((x 16), .inl (cI, 16, .inl f_x16_14)), ((x 17), .inr (6, [.ref (x 18), .ref (x 19), .ref (x 20), .ref (x 21), .int (nI wa)])), ((x 21), .inl (cI, 40, .inl f_x21_14))]) (wr := [((x 5), .inr (5, [.ref (x 6), .int e1, .int e2, .int e3, .int e4, .int e5, .int e6, .int e7, .int e8])), ((x 15), .inl (cI, 16, .inl (upd f_x15_14 i_14 2))), ((x 18), .inl (cI, 40, .inl w18)), ((x 19), .inl (cI, 40, .inl w19)), ((x 20), .inl (cZ, 40, .inl w20)), ((x 11), .inl (cI, 16, .inl u_8.1)), ((x 13), .inl (cI, 16, .inl u_8.2)), ((x 14), .inl (cI, 16, .inl k14))]) (va_runV (As := [.int (f_x16_14 i_14)]) (rest := []) ⟨hx, hb, hml, hown, hts⟩ (n_X7_handIn l D cB cI cJ cZ H.size x (yr + 1) ca f_x16_14 wa f_x21_14 (f_x16_14 i_14) b_ca b_wa) (cwV 1 hts gX7_year_X7_handIn rfl rfl rfl (by decide +kernel) ⟨Nat.le_of_ble_eq_true rfl, Nat.le_of_ble_eq_true rfl⟩) (pre_V (hP.sub (ws' := [((x 0), .inr (7, [.ref (x 1), .ref (x 5), .ref (x 7), .ref (x 10), .ref (x 17), .ref (x 22), .ref (x 27), .int (yr + 1)])), ((x 10), .inr (1, [.ref (x 11), .ref (x 12), .ref (x 13), .ref (x 14), .ref (x 15), .ref (x 16), .int (nI ca)])), ((x 16), .inl (cI, 16, .inl f_x16_14)), ((x 17), .inr (6, [.ref (x 18), .ref (x 19), .ref (x 20), .ref (x 21), .int (nI wa)])), ((x 21), .inl (cI, 40, .inl f_x21_14))]) [0, 9, 3, 4, 8] rfl) hK (hD.sub (ws' := [((x 0), .inr (7, [.ref (x 1), .ref (x 5), .ref (x 7), .ref (x 10), .ref (x 17), .ref (x 22), .ref (x 27), .int (yr + 1)])), ((x 10), .inr (1, [.ref (x 11), .ref (x 12), .ref (x 13), .ref (x 14), .ref (x 15), .ref (x 16), .int (nI ca)])), ((x 16), .inl (cI, 16, .inl f_x16_14)), ((x 17), .inr (6, [.ref (x 18), .ref (x 19), .ref (x 20), .ref (x 21), .int (nI wa)])), ((x 21), .inl (cI, 40, .inl f_x21_14))]) [0, 9, 3, 4, 8] (by decide) rfl) 0 rfl rfl rfl) rfl rfl hl.1 rfl (lv_room (Nat.le_of_ble_eq_true rfl)) dX7_year_85 ⟨Nat.le_of_ble_eq_true rfl, Nat.le_of_ble_eq_true rfl⟩) hP hD hS hA [0, 9, 3, 4, 8] [1, 2, 5, 6, 7, 10, 11, 12] rfl rfl (by decide) (by decide) 0 0 rfl rfl (fun u_11 H locs hw_u_11 hP hD hS => ?_)
            have hP : va_P D vwCl [((x 5), .inr (5, [.ref (x 6), .int e1, .int e2, .int e3, .int e4, .int e5, .int e6, .int e7, .int e8])), ((x 15), .inl (cI, 16, .inl (upd f_x15_14 i_14 2))), ((x 18), .inl (cI, 40, .inl w18)), ((x 19), .inl (cI, 40, .inl w19)), ((x 20), .inl (cZ, 40, .inl w20)), ((x 11), .inl (cI, 16, .inl u_8.1)), ((x 13), .inl (cI, 16, .inl u_8.2)), ((x 14), .inl (cI, 16, .inl k14)), ((x 0), .inr (7, [.ref (x 1), .ref (x 5), .ref (x 7), .ref (x 10), .ref (x 17), .ref (x 22), .ref (x 27), .int (yr + 1)])), ((x 10), .inr (1, [.ref (x 11), .ref (x 12), .ref (x 13), .ref (x 14), .ref (x 15), .ref (x 16), .int (nI ca)])), ((x 16), .inl (cI, 16, .inl u_11.2)), ((x 17), .inr (6, [.ref (x 18), .ref (x 19), .ref (x 20), .ref (x 21), .int (nI wa)])), ((x 21), .inl (cI, 40, .inl u_11.1))] H := hP
            have hD : va_D A [((x 5), .inr (5, [.ref (x 6), .int e1, .int e2, .int e3, .int e4, .int e5, .int e6, .int e7, .int e8])), ((x 15), .inl (cI, 16, .inl (upd f_x15_14 i_14 2))), ((x 18), .inl (cI, 40, .inl w18)), ((x 19), .inl (cI, 40, .inl w19)), ((x 20), .inl (cZ, 40, .inl w20)), ((x 11), .inl (cI, 16, .inl u_8.1)), ((x 13), .inl (cI, 16, .inl u_8.2)), ((x 14), .inl (cI, 16, .inl k14)), ((x 0), .inr (7, [.ref (x 1), .ref (x 5), .ref (x 7), .ref (x 10), .ref (x 17), .ref (x 22), .ref (x 27), .int (yr + 1)])), ((x 10), .inr (1, [.ref (x 11), .ref (x 12), .ref (x 13), .ref (x 14), .ref (x 15), .ref (x 16), .int (nI ca)])), ((x 16), .inl (cI, 16, .inl u_11.2)), ((x 17), .inr (6, [.ref (x 18), .ref (x 19), .ref (x 20), .ref (x 21), .int (nI wa)])), ((x 21), .inl (cI, 40, .inl u_11.1))] := hD
            refine lv_iinc (v := nI (b_1_14 + 1)) (lv' := [(1, .int (nI (b_1_14 + 1))), (0, .ref (x 0)), (2, .int (nI i_14))]) hx hb dX7_year_88 hl (k := 1) rfl (ax_add _ 1) (by decide) rfl (fun ls hl => ?_)
            refine lv_iinc (v := nI (i_14 + 1)) (lv' := [(2, .int (nI (i_14 + 1))), (1, .int (nI (b_1_14 + 1))), (0, .ref (x 0))]) hx hb dX7_year_91 hl (k := 2) rfl (ax_add _ 1) (by decide) rfl (fun ls hl => ?_)
            refine lv_goto (tgt := 14) hx hb dX7_year_94 (by decide) ?_
            exact ih_L_1 (i_14 + 1) u_8.1 u_8.2 (upd f_x15_14 i_14 2) u_11.1 u_11.2 (b_1_14 + 1) _ _ ls (by omega) (by omega) (by rw [hg9a, hg9b]; exact ye_bo hy_14 rfl rfl ⟨c_43, by have h9 := Int32.not_lt.mp c_62; rw [hg9a, pk_us] at h9; exact h9⟩) (yb_y hy_14 hc_14 rfl ⟨c_43, by have h9 := Int32.not_lt.mp c_62; rw [hg9a, pk_us] at h9; exact h9⟩) (hP.sub [8, 0, 9, 5, 6, 7, 1, 10, 11, 2, 3, 4, 12] rfl) (hD.sub [8, 0, 9, 5, 6, 7, 1, 10, 11, 2, 3, 4, 12] (by decide) rfl) hS (lv_sub hl [2, 1, 0] rfl)
  exact L_1 _ 0 k11 k13 k15 w21 k16 0 _ _ ls (Nat.lt_succ_self _) (by first | exact Nat.zero_le _ | omega) ye_0 rfl hP hD hS (lv_sub hl [2, 1, 0] rfl)

set_option maxHeartbeats 4000000 in
set_option maxRecDepth 100000 in
theorem f_X1_add (l : Launch) (D : va_G) (cB cI cJ cZ : ClassId) (sz : Nat) (h0 p0 p1 p2 p3 p4 p5 a : Nat) (f0 f1 f2 f3 f4 f5 : Nat → Int32) (q0 q1 q2 q3 : Int32) (ha : a ≤ 16) : Met l yX1_add wsX1_add ({ frames := 1, cells := 0, slots := 0, locals := 23 } : Room) (cPre D (aTy cB cI cJ cZ) [(h0, .inr (1, [.ref p0, .ref p1, .ref p2, .ref p3, .ref p4, .ref p5, .int (nI a)])), (p0, .inl (cI, 16, .inl f0)), (p1, .inl (cI, 16, .inl f1)), (p2, .inl (cI, 16, .inl f2)), (p3, .inl (cI, 16, .inl f3)), (p4, .inl (cI, 16, .inl f4)), (p5, .inl (cI, 16, .inl f5))] sz [.ref h0, .int q0, .int q1, .int q2, .int q3]) (va_Qi (fun (r : Int32) (u : Nat × (Nat → Int32) × (Nat → Int32) × (Nat → Int32) × (Nat → Int32) × (Nat → Int32) × (Nat → Int32)) => chQ a f0 f1 f2 f3 f4 q0 q1 q2 q3 r u.1 u.2.1 u.2.2.1 u.2.2.2.1 u.2.2.2.2.1 u.2.2.2.2.2.1 ∧ ((u.1 = a ∧ u.2.2.2.2.2.2 = f5) ∨ (u.1 = a + 1 ∧ u.2.2.2.2.2.2 = upd f5 a (-1)))) (cB_ D (aTy cB cI cJ cZ) (va_A [(h0, .inr (1, [.ref p0, .ref p1, .ref p2, .ref p3, .ref p4, .ref p5, .int (nI a)])), (p0, .inl (cI, 16, .inl f0)), (p1, .inl (cI, 16, .inl f1)), (p2, .inl (cI, 16, .inl f2)), (p3, .inl (cI, 16, .inl f3)), (p4, .inl (cI, 16, .inl f4)), (p5, .inl (cI, 16, .inl f5))] sz) (fun u => [(h0, .inr (1, [.ref p0, .ref p1, .ref p2, .ref p3, .ref p4, .ref p5, .int (nI (u.1))])), (p0, .inl (cI, 16, .inl u.2.1)), (p1, .inl (cI, 16, .inl u.2.2.1)), (p2, .inl (cI, 16, .inl u.2.2.2.1)), (p3, .inl (cI, 16, .inl u.2.2.2.2.1)), (p4, .inl (cI, 16, .inl u.2.2.2.2.2.1)), (p5, .inl (cI, 16, .inl u.2.2.2.2.2.2))])) (va_A [(h0, .inr (1, [.ref p0, .ref p1, .ref p2, .ref p3, .ref p4, .ref p5, .int (nI a)])), (p0, .inl (cI, 16, .inl f0)), (p1, .inl (cI, 16, .inl f1)), (p2, .inl (cI, 16, .inl f2)), (p3, .inl (cI, 16, .inl f3)), (p4, .inl (cI, 16, .inl f4)), (p5, .inl (cI, 16, .inl f5))] sz)) 0 0 (va_A [(h0, .inr (1, [.ref p0, .ref p1, .ref p2, .ref p3, .ref p4, .ref p5, .int (nI a)])), (p0, .inl (cI, 16, .inl f0)), (p1, .inl (cI, 16, .inl f1)), (p2, .inl (cI, 16, .inl f2)), (p3, .inl (cI, 16, .inl f3)), (p4, .inl (cI, 16, .inl f4)), (p5, .inl (cI, 16, .inl f5))] sz) := by
  refine Met.ofW (cc := cX1_add) (maxL := 5) (ret := (some .int)) (by decide) rfl ?_
  intro p e s m args below meth c s₁ B hml hv
  obtain ⟨rfl, hsz, hP, hK, hD0⟩ := hv
  have hx := B.exec
  have hb := B.bytes
  have hr := B.returns
  have hts := atoms_spec (ws := wsX1_add) B.pre
  have hown : s.vm.findClass RX1 = some m.cls := findClass_of_methodNamed B.named
  have hlocks := B.notSynchronized
  subst hsz
  have hD := hD0.self (sz := s.heap.size)
  generalize hAe : va_A [(h0, .inr (1, [.ref p0, .ref p1, .ref p2, .ref p3, .ref p4, .ref p5, .int (nI a)])), (p0, .inl (cI, 16, .inl f0)), (p1, .inl (cI, 16, .inl f1)), (p2, .inl (cI, 16, .inl f2)), (p3, .inl (cI, 16, .inl f3)), (p4, .inl (cI, 16, .inl f4)), (p5, .inl (cI, 16, .inl f5))] s.heap.size = A at hD ⊢
  have hA : ∀ q : Nat, s.heap.size ≤ q → A q := fun q h => by rw [← hAe]; exact Or.inr h
  have hS : va_S A s.heap s.heap [] := va_S.rf
  have hP : va_P D vwCl [(h0, .inr (1, [.ref p0, .ref p1, .ref p2, .ref p3, .ref p4, .ref p5, .int (nI a)])), (p0, .inl (cI, 16, .inl f0)), (p1, .inl (cI, 16, .inl f1)), (p2, .inl (cI, 16, .inl f2)), (p3, .inl (cI, 16, .inl f3)), (p4, .inl (cI, 16, .inl f4)), (p5, .inl (cI, 16, .inl f5))] s.heap := hP
  have w_1 : ∀ w ∈ wsX10, w ∈ wsX1_add := by decide +kernel
  have w_2 := hts (Cond.fieldLink RX1 30 "BlueCoats$Children" "number" "I") (by decide +kernel)
  have w_3 := hts (Cond.fieldLink RX1 11 "BlueCoats$Children" "age" "[I") (by decide +kernel)
  have w_4 := hts (Cond.fieldLink RX1 15 "BlueCoats$Children" "need" "[I") (by decide +kernel)
  have w_5 := hts (Cond.fieldLink RX1 18 "BlueCoats$Children" "size" "[I") (by decide +kernel)
  have w_6 := hts (Cond.fieldLink RX1 21 "BlueCoats$Children" "growth" "[I") (by decide +kernel)
  have w_7 := hts (Cond.fieldLink RX1 24 "BlueCoats$Children" "state" "[I") (by decide +kernel)
  have w_8 := hts (Cond.fieldLink RX1 27 "BlueCoats$Children" "coat" "[I") (by decide +kernel)
  have hl := lv_entry ([.ref h0, .int q0, .int q1, .int q2, .int q3]) (n := 5) (Nat.le_of_ble_eq_true rfl)
  rw [lg_entry_eq]
  generalize (lg_sl ([.ref h0, .int q0, .int q1, .int q2, .int q3]) ++ List.replicate (5 - (lg_sl ([.ref h0, .int q0, .int q1, .int q2, .int q3])).length) Slot.unset).toArray = ls at hl ⊢
  have hl : lv_has ls 5 [(0, .ref h0), (1, .int q0), (2, .int q1), (3, .int q2), (4, .int q3)] := hl
  refine lv_aload_n hx hb dX1_add_0 rfl (lv_at hl 0 rfl) ?_
  refine va_get (D := D) (ci := 1) (v := .int (nI a)) (C := RX1) (T := TX1) (N := 7) hx hb hts w_1 hown hK hP 0 rfl rfl 6 (by decide) w_2 (fun _ h9 => h9) rfl dX1_add_1 ?_
  refine lv_bipush (v := 16) hx hb dX1_add_4 (by decide) ?_
  refine lv_icmp_ge (tgt := 20) hx hb dX1_add_6 (by decide) (fun c_6 => ?_) (fun c_6 => ?_)
  ·
    refine lv_iconst (v := (-1)) hx hb dX1_add_20 (by decide) ?_
    have hP9 := hP.sub (ws' := [(h0, .inr (1, [.ref p0, .ref p1, .ref p2, .ref p3, .ref p4, .ref p5, .int (nI a)])), (p0, .inl (cI, 16, .inl f0)), (p1, .inl (cI, 16, .inl f1)), (p2, .inl (cI, 16, .inl f2)), (p3, .inl (cI, 16, .inl f3)), (p4, .inl (cI, 16, .inl f4)), (p5, .inl (cI, 16, .inl f5))]) [0, 1, 2, 3, 4, 5, 6] rfl
    have hD9 := hD.sub (ws' := [(h0, .inr (1, [.ref p0, .ref p1, .ref p2, .ref p3, .ref p4, .ref p5, .int (nI a)])), (p0, .inl (cI, 16, .inl f0)), (p1, .inl (cI, 16, .inl f1)), (p2, .inl (cI, 16, .inl f2)), (p3, .inl (cI, 16, .inl f3)), (p4, .inl (cI, 16, .inl f4)), (p5, .inl (cI, 16, .inl f5))]) [0, 1, 2, 3, 4, 5, 6] (by decide) rfl
    exact W.iret (v := (-1)) hx hb hr (fun t ht hW => ⟨⟨_, (a, f0, f1, f2, f3, f4, f5), rfl, ⟨Or.inl ⟨rfl, rfl, ⟨rfl, rfl, rfl, rfl, rfl⟩, Or.inl (Nat.le_antisymm ha (nI_geg 16 (by omega) (by decide) c_6))⟩, Or.inl ⟨rfl, rfl⟩⟩, by rw [ht]; exact hP9, va_K.moved hW.alike hK, hD9⟩, hS.F ht⟩) hS.2.2 dX1_add_21
  ·
    refine lv_iload_n hx hb dX1_add_9 rfl (lv_at hl 1 rfl) ?_
    refine lv_iload_n hx hb dX1_add_10 rfl (lv_at hl 2 rfl) ?_
    refine lv_iload_n hx hb dX1_add_11 rfl (lv_at hl 3 rfl) ?_
    refine lv_iload hx hb dX1_add_12 (lv_at hl 4 rfl) ?_
    refine vp_callSi (va_Run.run (va_runS (As := [.int q0, .int q1, .int q2, .int q3]) (rest := []) ⟨hx, hb, hml, hown, hts⟩ (g_X1_canBe l D cB cI cJ cZ q0 q1 q2 q3) (va_cwS 4 hts gX1_add_X1_canBe rfl rfl rfl (by decide +kernel) ⟨Nat.le_of_ble_eq_true rfl, Nat.le_of_ble_eq_true rfl⟩) (pre_SR (hP.sub (ws' := []) [] rfl) hK) rfl rfl hl.1 rfl (lv_room (Nat.le_of_ble_eq_true rfl)) dX1_add_14 ⟨Nat.le_of_ble_eq_true rfl, Nat.le_of_ble_eq_true rfl⟩)) (fun r_1 hw_r_1 => ?_)
    refine lv_if_ne (tgt := 22) hx hb dX1_add_17 (by decide) (fun c_17 => ?_) (fun c_17 => ?_)
    ·
      have h6 : a < 16 := nI_ltg 16 (by omega) (by decide) c_6
      refine lv_aload_n hx hb dX1_add_22 rfl (lv_at hl 0 rfl) ?_
      refine va_get (D := D) (ci := 1) (v := .ref p0) (C := RX1) (T := TX1) (N := 7) hx hb hts w_1 hown hK hP 0 rfl rfl 0 (by decide) w_3 (fun _ h9 => h9) rfl dX1_add_23 ?_
      refine lv_aload_n hx hb dX1_add_26 rfl (lv_at hl 0 rfl) ?_
      refine va_get (D := D) (ci := 1) (v := .int (nI a)) (C := RX1) (T := TX1) (N := 7) hx hb hts w_1 hown hK hP 0 rfl rfl 6 (by decide) w_2 (fun _ h9 => h9) rfl dX1_add_27 ?_
      refine lv_iload_n hx hb dX1_add_30 rfl (lv_at hl 1 rfl) ?_
      refine sv_iast hx hb hK hP hD hS 1 1 rfl rfl (vp_in_nI (by omega) (by decide)) dX1_add_31 (fun g_2 H locs eg_2 hP hD hS => ?_)
      have eg_2 : g_2 = upd f0 a q0 := ist eg_2 (by omega)
      subst eg_2
      have hP : va_P D vwCl [(h0, .inr (1, [.ref p0, .ref p1, .ref p2, .ref p3, .ref p4, .ref p5, .int (nI a)])), (p0, .inl (cI, 16, .inl (upd f0 a q0))), (p1, .inl (cI, 16, .inl f1)), (p2, .inl (cI, 16, .inl f2)), (p3, .inl (cI, 16, .inl f3)), (p4, .inl (cI, 16, .inl f4)), (p5, .inl (cI, 16, .inl f5))] H := hP
      have hD : va_D A [(h0, .inr (1, [.ref p0, .ref p1, .ref p2, .ref p3, .ref p4, .ref p5, .int (nI a)])), (p0, .inl (cI, 16, .inl (upd f0 a q0))), (p1, .inl (cI, 16, .inl f1)), (p2, .inl (cI, 16, .inl f2)), (p3, .inl (cI, 16, .inl f3)), (p4, .inl (cI, 16, .inl f4)), (p5, .inl (cI, 16, .inl f5))] := hD
      refine lv_aload_n hx hb dX1_add_32 rfl (lv_at hl 0 rfl) ?_
      refine va_get (D := D) (ci := 1) (v := .ref p1) (C := RX1) (T := TX1) (N := 7) hx hb hts w_1 hown hK hP 0 rfl rfl 1 (by decide) w_4 (fun _ h9 => h9) rfl dX1_add_33 ?_
      refine lv_aload_n hx hb dX1_add_36 rfl (lv_at hl 0 rfl) ?_
      refine va_get (D := D) (ci := 1) (v := .int (nI a)) (C := RX1) (T := TX1) (N := 7) hx hb hts w_1 hown hK hP 0 rfl rfl 6 (by decide) w_2 (fun _ h9 => h9) rfl dX1_add_37 ?_
      refine lv_iload_n hx hb dX1_add_40 rfl (lv_at hl 2 rfl) ?_
      refine sv_iast hx hb hK hP hD hS 2 1 rfl rfl (vp_in_nI (by omega) (by decide)) dX1_add_41 (fun g_3 H locs eg_3 hP hD hS => ?_)
      have eg_3 : g_3 = upd f1 a q1 := ist eg_3 (by omega)
      subst eg_3
      have hP : va_P D vwCl [(h0, .inr (1, [.ref p0, .ref p1, .ref p2, .ref p3, .ref p4, .ref p5, .int (nI a)])), (p0, .inl (cI, 16, .inl (upd f0 a q0))), (p1, .inl (cI, 16, .inl (upd f1 a q1))), (p2, .inl (cI, 16, .inl f2)), (p3, .inl (cI, 16, .inl f3)), (p4, .inl (cI, 16, .inl f4)), (p5, .inl (cI, 16, .inl f5))] H := hP
      have hD : va_D A [(h0, .inr (1, [.ref p0, .ref p1, .ref p2, .ref p3, .ref p4, .ref p5, .int (nI a)])), (p0, .inl (cI, 16, .inl (upd f0 a q0))), (p1, .inl (cI, 16, .inl (upd f1 a q1))), (p2, .inl (cI, 16, .inl f2)), (p3, .inl (cI, 16, .inl f3)), (p4, .inl (cI, 16, .inl f4)), (p5, .inl (cI, 16, .inl f5))] := hD
      refine lv_aload_n hx hb dX1_add_42 rfl (lv_at hl 0 rfl) ?_
      refine va_get (D := D) (ci := 1) (v := .ref p2) (C := RX1) (T := TX1) (N := 7) hx hb hts w_1 hown hK hP 0 rfl rfl 2 (by decide) w_5 (fun _ h9 => h9) rfl dX1_add_43 ?_
      refine lv_aload_n hx hb dX1_add_46 rfl (lv_at hl 0 rfl) ?_
      refine va_get (D := D) (ci := 1) (v := .int (nI a)) (C := RX1) (T := TX1) (N := 7) hx hb hts w_1 hown hK hP 0 rfl rfl 6 (by decide) w_2 (fun _ h9 => h9) rfl dX1_add_47 ?_
      refine lv_iload_n hx hb dX1_add_50 rfl (lv_at hl 3 rfl) ?_
      refine sv_iast hx hb hK hP hD hS 3 1 rfl rfl (vp_in_nI (by omega) (by decide)) dX1_add_51 (fun g_4 H locs eg_4 hP hD hS => ?_)
      have eg_4 : g_4 = upd f2 a q2 := ist eg_4 (by omega)
      subst eg_4
      have hP : va_P D vwCl [(h0, .inr (1, [.ref p0, .ref p1, .ref p2, .ref p3, .ref p4, .ref p5, .int (nI a)])), (p0, .inl (cI, 16, .inl (upd f0 a q0))), (p1, .inl (cI, 16, .inl (upd f1 a q1))), (p2, .inl (cI, 16, .inl (upd f2 a q2))), (p3, .inl (cI, 16, .inl f3)), (p4, .inl (cI, 16, .inl f4)), (p5, .inl (cI, 16, .inl f5))] H := hP
      have hD : va_D A [(h0, .inr (1, [.ref p0, .ref p1, .ref p2, .ref p3, .ref p4, .ref p5, .int (nI a)])), (p0, .inl (cI, 16, .inl (upd f0 a q0))), (p1, .inl (cI, 16, .inl (upd f1 a q1))), (p2, .inl (cI, 16, .inl (upd f2 a q2))), (p3, .inl (cI, 16, .inl f3)), (p4, .inl (cI, 16, .inl f4)), (p5, .inl (cI, 16, .inl f5))] := hD
      refine lv_aload_n hx hb dX1_add_52 rfl (lv_at hl 0 rfl) ?_
      refine va_get (D := D) (ci := 1) (v := .ref p3) (C := RX1) (T := TX1) (N := 7) hx hb hts w_1 hown hK hP 0 rfl rfl 3 (by decide) w_6 (fun _ h9 => h9) rfl dX1_add_53 ?_
      refine lv_aload_n hx hb dX1_add_56 rfl (lv_at hl 0 rfl) ?_
      refine va_get (D := D) (ci := 1) (v := .int (nI a)) (C := RX1) (T := TX1) (N := 7) hx hb hts w_1 hown hK hP 0 rfl rfl 6 (by decide) w_2 (fun _ h9 => h9) rfl dX1_add_57 ?_
      refine lv_iload hx hb dX1_add_60 (lv_at hl 4 rfl) ?_
      refine sv_iast hx hb hK hP hD hS 4 1 rfl rfl (vp_in_nI (by omega) (by decide)) dX1_add_62 (fun g_5 H locs eg_5 hP hD hS => ?_)
      have eg_5 : g_5 = upd f3 a q3 := ist eg_5 (by omega)
      subst eg_5
      have hP : va_P D vwCl [(h0, .inr (1, [.ref p0, .ref p1, .ref p2, .ref p3, .ref p4, .ref p5, .int (nI a)])), (p0, .inl (cI, 16, .inl (upd f0 a q0))), (p1, .inl (cI, 16, .inl (upd f1 a q1))), (p2, .inl (cI, 16, .inl (upd f2 a q2))), (p3, .inl (cI, 16, .inl (upd f3 a q3))), (p4, .inl (cI, 16, .inl f4)), (p5, .inl (cI, 16, .inl f5))] H := hP
      have hD : va_D A [(h0, .inr (1, [.ref p0, .ref p1, .ref p2, .ref p3, .ref p4, .ref p5, .int (nI a)])), (p0, .inl (cI, 16, .inl (upd f0 a q0))), (p1, .inl (cI, 16, .inl (upd f1 a q1))), (p2, .inl (cI, 16, .inl (upd f2 a q2))), (p3, .inl (cI, 16, .inl (upd f3 a q3))), (p4, .inl (cI, 16, .inl f4)), (p5, .inl (cI, 16, .inl f5))] := hD
      refine lv_aload_n hx hb dX1_add_63 rfl (lv_at hl 0 rfl) ?_
      refine va_get (D := D) (ci := 1) (v := .ref p4) (C := RX1) (T := TX1) (N := 7) hx hb hts w_1 hown hK hP 0 rfl rfl 4 (by decide) w_7 (fun _ h9 => h9) rfl dX1_add_64 ?_
      refine lv_aload_n hx hb dX1_add_67 rfl (lv_at hl 0 rfl) ?_
      refine va_get (D := D) (ci := 1) (v := .int (nI a)) (C := RX1) (T := TX1) (N := 7) hx hb hts w_1 hown hK hP 0 rfl rfl 6 (by decide) w_2 (fun _ h9 => h9) rfl dX1_add_68 ?_
      refine lv_iconst (v := 0) hx hb dX1_add_71 (by decide) ?_
      refine sv_iast hx hb hK hP hD hS 5 1 rfl rfl (vp_in_nI (by omega) (by decide)) dX1_add_72 (fun g_6 H locs eg_6 hP hD hS => ?_)
      have eg_6 : g_6 = upd f4 a 0 := ist eg_6 (by omega)
      subst eg_6
      have hP : va_P D vwCl [(h0, .inr (1, [.ref p0, .ref p1, .ref p2, .ref p3, .ref p4, .ref p5, .int (nI a)])), (p0, .inl (cI, 16, .inl (upd f0 a q0))), (p1, .inl (cI, 16, .inl (upd f1 a q1))), (p2, .inl (cI, 16, .inl (upd f2 a q2))), (p3, .inl (cI, 16, .inl (upd f3 a q3))), (p4, .inl (cI, 16, .inl (upd f4 a 0))), (p5, .inl (cI, 16, .inl f5))] H := hP
      have hD : va_D A [(h0, .inr (1, [.ref p0, .ref p1, .ref p2, .ref p3, .ref p4, .ref p5, .int (nI a)])), (p0, .inl (cI, 16, .inl (upd f0 a q0))), (p1, .inl (cI, 16, .inl (upd f1 a q1))), (p2, .inl (cI, 16, .inl (upd f2 a q2))), (p3, .inl (cI, 16, .inl (upd f3 a q3))), (p4, .inl (cI, 16, .inl (upd f4 a 0))), (p5, .inl (cI, 16, .inl f5))] := hD
      refine lv_aload_n hx hb dX1_add_73 rfl (lv_at hl 0 rfl) ?_
      refine va_get (D := D) (ci := 1) (v := .ref p5) (C := RX1) (T := TX1) (N := 7) hx hb hts w_1 hown hK hP 0 rfl rfl 5 (by decide) w_8 (fun _ h9 => h9) rfl dX1_add_74 ?_
      refine lv_aload_n hx hb dX1_add_77 rfl (lv_at hl 0 rfl) ?_
      refine va_get (D := D) (ci := 1) (v := .int (nI a)) (C := RX1) (T := TX1) (N := 7) hx hb hts w_1 hown hK hP 0 rfl rfl 6 (by decide) w_2 (fun _ h9 => h9) rfl dX1_add_78 ?_
      refine lv_iconst (v := (-1)) hx hb dX1_add_81 (by decide) ?_
      refine sv_iast hx hb hK hP hD hS 6 1 rfl rfl (vp_in_nI (by omega) (by decide)) dX1_add_82 (fun g_7 H locs eg_7 hP hD hS => ?_)
      have eg_7 : g_7 = upd f5 a (-1) := ist eg_7 (by omega)
      subst eg_7
      have hP : va_P D vwCl [(h0, .inr (1, [.ref p0, .ref p1, .ref p2, .ref p3, .ref p4, .ref p5, .int (nI a)])), (p0, .inl (cI, 16, .inl (upd f0 a q0))), (p1, .inl (cI, 16, .inl (upd f1 a q1))), (p2, .inl (cI, 16, .inl (upd f2 a q2))), (p3, .inl (cI, 16, .inl (upd f3 a q3))), (p4, .inl (cI, 16, .inl (upd f4 a 0))), (p5, .inl (cI, 16, .inl (upd f5 a (-1))))] H := hP
      have hD : va_D A [(h0, .inr (1, [.ref p0, .ref p1, .ref p2, .ref p3, .ref p4, .ref p5, .int (nI a)])), (p0, .inl (cI, 16, .inl (upd f0 a q0))), (p1, .inl (cI, 16, .inl (upd f1 a q1))), (p2, .inl (cI, 16, .inl (upd f2 a q2))), (p3, .inl (cI, 16, .inl (upd f3 a q3))), (p4, .inl (cI, 16, .inl (upd f4 a 0))), (p5, .inl (cI, 16, .inl (upd f5 a (-1))))] := hD
      refine lv_aload_n hx hb dX1_add_83 rfl (lv_at hl 0 rfl) ?_
      refine lv_dup hx hb dX1_add_84 rfl ?_
      refine va_get (D := D) (ci := 1) (v := .int (nI a)) (C := RX1) (T := TX1) (N := 7) hx hb hts w_1 hown hK hP 0 rfl rfl 6 (by decide) w_2 (fun _ h9 => h9) rfl dX1_add_85 ?_
      refine lv_iconst (v := 1) hx hb dX1_add_88 (by decide) ?_
      refine sv_iadd (v := nI (a + 1)) hx hb dX1_add_89 (ax_add _ 1) ?_
      refine va_put (D := D) (ci := 1) (v := .int (nI (a + 1))) (ty := .int) (C := RX1) (T := TX1) (N := 7) hx hb hts w_1 tyX1 tyX1_ok nmX1 hown hK hP hD hS 0 rfl rfl 6 (by decide) w_2 (fun _ h9 => h9) rfl (by decide +kernel) rfl rfl (Nat.le_of_ble_eq_true rfl) dX1_add_90 (fun H locs hP hD hS => ?_)
      have hP : va_P D vwCl [(h0, .inr (1, [.ref p0, .ref p1, .ref p2, .ref p3, .ref p4, .ref p5, .int (nI (a + 1))])), (p0, .inl (cI, 16, .inl (upd f0 a q0))), (p1, .inl (cI, 16, .inl (upd f1 a q1))), (p2, .inl (cI, 16, .inl (upd f2 a q2))), (p3, .inl (cI, 16, .inl (upd f3 a q3))), (p4, .inl (cI, 16, .inl (upd f4 a 0))), (p5, .inl (cI, 16, .inl (upd f5 a (-1))))] H := hP
      have hD : va_D A [(h0, .inr (1, [.ref p0, .ref p1, .ref p2, .ref p3, .ref p4, .ref p5, .int (nI (a + 1))])), (p0, .inl (cI, 16, .inl (upd f0 a q0))), (p1, .inl (cI, 16, .inl (upd f1 a q1))), (p2, .inl (cI, 16, .inl (upd f2 a q2))), (p3, .inl (cI, 16, .inl (upd f3 a q3))), (p4, .inl (cI, 16, .inl (upd f4 a 0))), (p5, .inl (cI, 16, .inl (upd f5 a (-1))))] := hD
      refine lv_aload_n hx hb dX1_add_93 rfl (lv_at hl 0 rfl) ?_
      refine va_get (D := D) (ci := 1) (v := .int (nI (a + 1))) (C := RX1) (T := TX1) (N := 7) hx hb hts w_1 hown hK hP 0 rfl rfl 6 (by decide) w_2 (fun _ h9 => h9) rfl dX1_add_94 ?_
      refine lv_iconst (v := 1) hx hb dX1_add_97 (by decide) ?_
      refine sv_isub (v := nI a) hx hb dX1_add_98 (nI_sub1 a) ?_
      have hP9 := hP.sub (ws' := [(h0, .inr (1, [.ref p0, .ref p1, .ref p2, .ref p3, .ref p4, .ref p5, .int (nI (a + 1))])), (p0, .inl (cI, 16, .inl (upd f0 a q0))), (p1, .inl (cI, 16, .inl (upd f1 a q1))), (p2, .inl (cI, 16, .inl (upd f2 a q2))), (p3, .inl (cI, 16, .inl (upd f3 a q3))), (p4, .inl (cI, 16, .inl (upd f4 a 0))), (p5, .inl (cI, 16, .inl (upd f5 a (-1))))]) [0, 1, 2, 3, 4, 5, 6] rfl
      have hD9 := hD.sub (ws' := [(h0, .inr (1, [.ref p0, .ref p1, .ref p2, .ref p3, .ref p4, .ref p5, .int (nI (a + 1))])), (p0, .inl (cI, 16, .inl (upd f0 a q0))), (p1, .inl (cI, 16, .inl (upd f1 a q1))), (p2, .inl (cI, 16, .inl (upd f2 a q2))), (p3, .inl (cI, 16, .inl (upd f3 a q3))), (p4, .inl (cI, 16, .inl (upd f4 a 0))), (p5, .inl (cI, 16, .inl (upd f5 a (-1))))]) [0, 1, 2, 3, 4, 5, 6] (by decide) rfl
      exact W.iret (v := nI a) hx hb hr (fun t ht hW => ⟨⟨_, ((a + 1), upd f0 a q0, upd f1 a q1, upd f2 a q2, upd f3 a q3, upd f4 a 0, upd f5 a (-1)), rfl, ⟨Or.inr ⟨h6, Classical.byContradiction (fun h9 => absurd (hw_r_1.trans (if_neg h9)) c_17), rfl, rfl, rfl, rfl, rfl, rfl, rfl⟩, Or.inr ⟨rfl, rfl⟩⟩, by rw [ht]; exact hP9, va_K.moved hW.alike hK, hD9⟩, hS.F ht⟩) hS.2.2 dX1_add_99
    ·
      refine lv_iconst (v := (-1)) hx hb dX1_add_20 (by decide) ?_
      have hP9 := hP.sub (ws' := [(h0, .inr (1, [.ref p0, .ref p1, .ref p2, .ref p3, .ref p4, .ref p5, .int (nI a)])), (p0, .inl (cI, 16, .inl f0)), (p1, .inl (cI, 16, .inl f1)), (p2, .inl (cI, 16, .inl f2)), (p3, .inl (cI, 16, .inl f3)), (p4, .inl (cI, 16, .inl f4)), (p5, .inl (cI, 16, .inl f5))]) [0, 1, 2, 3, 4, 5, 6] rfl
      have hD9 := hD.sub (ws' := [(h0, .inr (1, [.ref p0, .ref p1, .ref p2, .ref p3, .ref p4, .ref p5, .int (nI a)])), (p0, .inl (cI, 16, .inl f0)), (p1, .inl (cI, 16, .inl f1)), (p2, .inl (cI, 16, .inl f2)), (p3, .inl (cI, 16, .inl f3)), (p4, .inl (cI, 16, .inl f4)), (p5, .inl (cI, 16, .inl f5))]) [0, 1, 2, 3, 4, 5, 6] (by decide) rfl
      exact W.iret (v := (-1)) hx hb hr (fun t ht hW => ⟨⟨_, (a, f0, f1, f2, f3, f4, f5), rfl, ⟨Or.inl ⟨rfl, rfl, ⟨rfl, rfl, rfl, rfl, rfl⟩, Or.inr (fun h9 => absurd (c_17.symm.trans (hw_r_1.trans (if_pos h9))) (by decide))⟩, Or.inl ⟨rfl, rfl⟩⟩, by rw [ht]; exact hP9, va_K.moved hW.alike hK, hD9⟩, hS.F ht⟩) hS.2.2 dX1_add_21

set_option maxHeartbeats 4000000 in
set_option maxRecDepth 100000 in
theorem f_X7_child (l : Launch) (D : va_G) (cB cI cJ cZ : ClassId) (sz : Nat) (x : Nat → Nat) (yr : Int32) (ca : Nat) (k11 : Nat → Int32) (k12 : Nat → Int32) (k13 : Nat → Int32) (k14 : Nat → Int32) (k15 : Nat → Int32) (k16 : Nat → Int32) (q0 q1 q2 q3 : Int32) (b_ca : ca ≤ 16) : Met l yX7_child wsX7_child ({ frames := 2, cells := 0, slots := 0, locals := 47 } : Room) (cPre D (aTy cB cI cJ cZ) [((x 0), .inr (7, [.ref (x 1), .ref (x 5), .ref (x 7), .ref (x 10), .ref (x 17), .ref (x 22), .ref (x 27), .int yr])), ((x 10), .inr (1, [.ref (x 11), .ref (x 12), .ref (x 13), .ref (x 14), .ref (x 15), .ref (x 16), .int (nI ca)])), ((x 11), .inl (cI, 16, .inl k11)), ((x 12), .inl (cI, 16, .inl k12)), ((x 13), .inl (cI, 16, .inl k13)), ((x 14), .inl (cI, 16, .inl k14)), ((x 15), .inl (cI, 16, .inl k15)), ((x 16), .inl (cI, 16, .inl k16))] sz [.ref (x 0), .int q0, .int q1, .int q2, .int q3]) (va_Qi (fun (r : Int32) (u : Nat × (Nat → Int32) × (Nat → Int32) × (Nat → Int32) × (Nat → Int32) × (Nat → Int32) × (Nat → Int32)) => chQ ca k11 k12 k13 k14 k15 q0 q1 q2 q3 r u.1 u.2.1 u.2.2.1 u.2.2.2.1 u.2.2.2.2.1 u.2.2.2.2.2.1 ∧ ((u.1 = ca ∧ u.2.2.2.2.2.2 = k16) ∨ (u.1 = ca + 1 ∧ u.2.2.2.2.2.2 = upd k16 ca (-1)))) (cB_ D (aTy cB cI cJ cZ) (va_A [((x 0), .inr (7, [.ref (x 1), .ref (x 5), .ref (x 7), .ref (x 10), .ref (x 17), .ref (x 22), .ref (x 27), .int yr])), ((x 10), .inr (1, [.ref (x 11), .ref (x 12), .ref (x 13), .ref (x 14), .ref (x 15), .ref (x 16), .int (nI ca)])), ((x 11), .inl (cI, 16, .inl k11)), ((x 12), .inl (cI, 16, .inl k12)), ((x 13), .inl (cI, 16, .inl k13)), ((x 14), .inl (cI, 16, .inl k14)), ((x 15), .inl (cI, 16, .inl k15)), ((x 16), .inl (cI, 16, .inl k16))] sz) (fun u => [((x 0), .inr (7, [.ref (x 1), .ref (x 5), .ref (x 7), .ref (x 10), .ref (x 17), .ref (x 22), .ref (x 27), .int yr])), ((x 10), .inr (1, [.ref (x 11), .ref (x 12), .ref (x 13), .ref (x 14), .ref (x 15), .ref (x 16), .int (nI (u.1))])), ((x 11), .inl (cI, 16, .inl u.2.1)), ((x 12), .inl (cI, 16, .inl u.2.2.1)), ((x 13), .inl (cI, 16, .inl u.2.2.2.1)), ((x 14), .inl (cI, 16, .inl u.2.2.2.2.1)), ((x 15), .inl (cI, 16, .inl u.2.2.2.2.2.1)), ((x 16), .inl (cI, 16, .inl u.2.2.2.2.2.2))])) (va_A [((x 0), .inr (7, [.ref (x 1), .ref (x 5), .ref (x 7), .ref (x 10), .ref (x 17), .ref (x 22), .ref (x 27), .int yr])), ((x 10), .inr (1, [.ref (x 11), .ref (x 12), .ref (x 13), .ref (x 14), .ref (x 15), .ref (x 16), .int (nI ca)])), ((x 11), .inl (cI, 16, .inl k11)), ((x 12), .inl (cI, 16, .inl k12)), ((x 13), .inl (cI, 16, .inl k13)), ((x 14), .inl (cI, 16, .inl k14)), ((x 15), .inl (cI, 16, .inl k15)), ((x 16), .inl (cI, 16, .inl k16))] sz)) 0 0 (va_A [((x 0), .inr (7, [.ref (x 1), .ref (x 5), .ref (x 7), .ref (x 10), .ref (x 17), .ref (x 22), .ref (x 27), .int yr])), ((x 10), .inr (1, [.ref (x 11), .ref (x 12), .ref (x 13), .ref (x 14), .ref (x 15), .ref (x 16), .int (nI ca)])), ((x 11), .inl (cI, 16, .inl k11)), ((x 12), .inl (cI, 16, .inl k12)), ((x 13), .inl (cI, 16, .inl k13)), ((x 14), .inl (cI, 16, .inl k14)), ((x 15), .inl (cI, 16, .inl k15)), ((x 16), .inl (cI, 16, .inl k16))] sz) := by
  refine Met.ofW (cc := cX7_child) (maxL := 5) (ret := (some .int)) (by decide) rfl ?_
  intro p e s m args below meth c s₁ B hml hv
  obtain ⟨rfl, hsz, hP, hK, hD0⟩ := hv
  have hx := B.exec
  have hb := B.bytes
  have hr := B.returns
  have hts := atoms_spec (ws := wsX7_child) B.pre
  have hown : s.vm.findClass RX7 = some m.cls := findClass_of_methodNamed B.named
  have hlocks := B.notSynchronized
  subst hsz
  have hD := hD0.self (sz := s.heap.size)
  generalize hAe : va_A [((x 0), .inr (7, [.ref (x 1), .ref (x 5), .ref (x 7), .ref (x 10), .ref (x 17), .ref (x 22), .ref (x 27), .int yr])), ((x 10), .inr (1, [.ref (x 11), .ref (x 12), .ref (x 13), .ref (x 14), .ref (x 15), .ref (x 16), .int (nI ca)])), ((x 11), .inl (cI, 16, .inl k11)), ((x 12), .inl (cI, 16, .inl k12)), ((x 13), .inl (cI, 16, .inl k13)), ((x 14), .inl (cI, 16, .inl k14)), ((x 15), .inl (cI, 16, .inl k15)), ((x 16), .inl (cI, 16, .inl k16))] s.heap.size = A at hD ⊢
  have hA : ∀ q : Nat, s.heap.size ≤ q → A q := fun q h => by rw [← hAe]; exact Or.inr h
  have hS : va_S A s.heap s.heap [] := va_S.rf
  have hP : va_P D vwCl [((x 0), .inr (7, [.ref (x 1), .ref (x 5), .ref (x 7), .ref (x 10), .ref (x 17), .ref (x 22), .ref (x 27), .int yr])), ((x 10), .inr (1, [.ref (x 11), .ref (x 12), .ref (x 13), .ref (x 14), .ref (x 15), .ref (x 16), .int (nI ca)])), ((x 11), .inl (cI, 16, .inl k11)), ((x 12), .inl (cI, 16, .inl k12)), ((x 13), .inl (cI, 16, .inl k13)), ((x 14), .inl (cI, 16, .inl k14)), ((x 15), .inl (cI, 16, .inl k15)), ((x 16), .inl (cI, 16, .inl k16))] s.heap := hP
  have w_1 : ∀ w ∈ wsX70, w ∈ wsX7_child := by decide +kernel
  have w_2 := hts (Cond.fieldLink RX7 33 "BlueCoats" "children" "LBlueCoats$Children;") (by decide +kernel)
  have hl := lv_entry ([.ref (x 0), .int q0, .int q1, .int q2, .int q3]) (n := 5) (Nat.le_of_ble_eq_true rfl)
  rw [lg_entry_eq]
  generalize (lg_sl ([.ref (x 0), .int q0, .int q1, .int q2, .int q3]) ++ List.replicate (5 - (lg_sl ([.ref (x 0), .int q0, .int q1, .int q2, .int q3])).length) Slot.unset).toArray = ls at hl ⊢
  have hl : lv_has ls 5 [(0, .ref (x 0)), (1, .int q0), (2, .int q1), (3, .int q2), (4, .int q3)] := hl
  refine lv_aload_n hx hb dX7_child_0 rfl (lv_at hl 0 rfl) ?_
  refine va_get (D := D) (ci := 7) (v := .ref (x 10)) (C := RX7) (T := TX7) (N := 8) hx hb hts w_1 hown hK hP 0 rfl rfl 3 (by decide) w_2 (fun _ h9 => h9) rfl dX7_child_1 ?_
  refine lv_iload_n hx hb dX7_child_4 rfl (lv_at hl 1 rfl) ?_
  refine lv_iload_n hx hb dX7_child_5 rfl (lv_at hl 2 rfl) ?_
  refine lv_iload_n hx hb dX7_child_6 rfl (lv_at hl 3 rfl) ?_
  refine lv_iload hx hb dX7_child_7 (lv_at hl 4 rfl) ?_
  refine cl_i (wc := [((x 10), .inr (1, [.ref (x 11), .ref (x 12), .ref (x 13), .ref (x 14), .ref (x 15), .ref (x 16), .int (nI ca)])), ((x 11), .inl (cI, 16, .inl k11)), ((x 12), .inl (cI, 16, .inl k12)), ((x 13), .inl (cI, 16, .inl k13)), ((x 14), .inl (cI, 16, .inl k14)), ((x 15), .inl (cI, 16, .inl k15)), ((x 16), .inl (cI, 16, .inl k16))]) (wr := [((x 0), .inr (7, [.ref (x 1), .ref (x 5), .ref (x 7), .ref (x 10), .ref (x 17), .ref (x 22), .ref (x 27), .int yr]))]) (va_runV (As := [.int q0, .int q1, .int q2, .int q3]) (rest := []) ⟨hx, hb, hml, hown, hts⟩ (f_X1_add l D cB cI cJ cZ s.heap.size (x 10) (x 11) (x 12) (x 13) (x 14) (x 15) (x 16) ca k11 k12 k13 k14 k15 k16 q0 q1 q2 q3 b_ca) (cwV 4 hts gX7_child_X1_add rfl rfl rfl (by decide +kernel) ⟨Nat.le_of_ble_eq_true rfl, Nat.le_of_ble_eq_true rfl⟩) (pre_V (hP.sub (ws' := [((x 10), .inr (1, [.ref (x 11), .ref (x 12), .ref (x 13), .ref (x 14), .ref (x 15), .ref (x 16), .int (nI ca)])), ((x 11), .inl (cI, 16, .inl k11)), ((x 12), .inl (cI, 16, .inl k12)), ((x 13), .inl (cI, 16, .inl k13)), ((x 14), .inl (cI, 16, .inl k14)), ((x 15), .inl (cI, 16, .inl k15)), ((x 16), .inl (cI, 16, .inl k16))]) [1, 2, 3, 4, 5, 6, 7] rfl) hK (hD.sub (ws' := [((x 10), .inr (1, [.ref (x 11), .ref (x 12), .ref (x 13), .ref (x 14), .ref (x 15), .ref (x 16), .int (nI ca)])), ((x 11), .inl (cI, 16, .inl k11)), ((x 12), .inl (cI, 16, .inl k12)), ((x 13), .inl (cI, 16, .inl k13)), ((x 14), .inl (cI, 16, .inl k14)), ((x 15), .inl (cI, 16, .inl k15)), ((x 16), .inl (cI, 16, .inl k16))]) [1, 2, 3, 4, 5, 6, 7] (by decide) rfl) 0 rfl rfl rfl) rfl rfl hl.1 rfl (lv_room (Nat.le_of_ble_eq_true rfl)) dX7_child_9 ⟨Nat.le_of_ble_eq_true rfl, Nat.le_of_ble_eq_true rfl⟩) hP hD hS hA [1, 2, 3, 4, 5, 6, 7] [0] rfl rfl (by decide) (by decide) 0 0 rfl rfl (fun r_1 u_2 H locs hw_u_2 hP hD hS => ?_)
  have hP : va_P D vwCl [((x 0), .inr (7, [.ref (x 1), .ref (x 5), .ref (x 7), .ref (x 10), .ref (x 17), .ref (x 22), .ref (x 27), .int yr])), ((x 10), .inr (1, [.ref (x 11), .ref (x 12), .ref (x 13), .ref (x 14), .ref (x 15), .ref (x 16), .int (nI (u_2.1))])), ((x 11), .inl (cI, 16, .inl u_2.2.1)), ((x 12), .inl (cI, 16, .inl u_2.2.2.1)), ((x 13), .inl (cI, 16, .inl u_2.2.2.2.1)), ((x 14), .inl (cI, 16, .inl u_2.2.2.2.2.1)), ((x 15), .inl (cI, 16, .inl u_2.2.2.2.2.2.1)), ((x 16), .inl (cI, 16, .inl u_2.2.2.2.2.2.2))] H := hP
  have hD : va_D A [((x 0), .inr (7, [.ref (x 1), .ref (x 5), .ref (x 7), .ref (x 10), .ref (x 17), .ref (x 22), .ref (x 27), .int yr])), ((x 10), .inr (1, [.ref (x 11), .ref (x 12), .ref (x 13), .ref (x 14), .ref (x 15), .ref (x 16), .int (nI (u_2.1))])), ((x 11), .inl (cI, 16, .inl u_2.2.1)), ((x 12), .inl (cI, 16, .inl u_2.2.2.1)), ((x 13), .inl (cI, 16, .inl u_2.2.2.2.1)), ((x 14), .inl (cI, 16, .inl u_2.2.2.2.2.1)), ((x 15), .inl (cI, 16, .inl u_2.2.2.2.2.2.1)), ((x 16), .inl (cI, 16, .inl u_2.2.2.2.2.2.2))] := hD
  have hP9 := hP.sub (ws' := [((x 0), .inr (7, [.ref (x 1), .ref (x 5), .ref (x 7), .ref (x 10), .ref (x 17), .ref (x 22), .ref (x 27), .int yr])), ((x 10), .inr (1, [.ref (x 11), .ref (x 12), .ref (x 13), .ref (x 14), .ref (x 15), .ref (x 16), .int (nI (u_2.1))])), ((x 11), .inl (cI, 16, .inl u_2.2.1)), ((x 12), .inl (cI, 16, .inl u_2.2.2.1)), ((x 13), .inl (cI, 16, .inl u_2.2.2.2.1)), ((x 14), .inl (cI, 16, .inl u_2.2.2.2.2.1)), ((x 15), .inl (cI, 16, .inl u_2.2.2.2.2.2.1)), ((x 16), .inl (cI, 16, .inl u_2.2.2.2.2.2.2))]) [0, 1, 2, 3, 4, 5, 6, 7] rfl
  have hD9 := hD.sub (ws' := [((x 0), .inr (7, [.ref (x 1), .ref (x 5), .ref (x 7), .ref (x 10), .ref (x 17), .ref (x 22), .ref (x 27), .int yr])), ((x 10), .inr (1, [.ref (x 11), .ref (x 12), .ref (x 13), .ref (x 14), .ref (x 15), .ref (x 16), .int (nI (u_2.1))])), ((x 11), .inl (cI, 16, .inl u_2.2.1)), ((x 12), .inl (cI, 16, .inl u_2.2.2.1)), ((x 13), .inl (cI, 16, .inl u_2.2.2.2.1)), ((x 14), .inl (cI, 16, .inl u_2.2.2.2.2.1)), ((x 15), .inl (cI, 16, .inl u_2.2.2.2.2.2.1)), ((x 16), .inl (cI, 16, .inl u_2.2.2.2.2.2.2))]) [0, 1, 2, 3, 4, 5, 6, 7] (by decide) rfl
  exact W.iret (v := r_1) hx hb hr (fun t ht hW => ⟨⟨_, ((u_2.1), u_2.2.1, u_2.2.2.1, u_2.2.2.2.1, u_2.2.2.2.2.1, u_2.2.2.2.2.2.1, u_2.2.2.2.2.2.2), rfl, hw_u_2, by rw [ht]; exact hP9, va_K.moved hW.alike hK, hD9⟩, hS.F ht⟩) hS.2.2 dX7_child_12

