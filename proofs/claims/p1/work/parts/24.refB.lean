set_option maxHeartbeats 4000000 in
set_option maxRecDepth 100000 in
theorem m_X8_coinsFor (l : Launch) (D : va_G) (cB cI cJ cZ : ClassId) (y : Nat → Nat) (q : Int32) : Met l yX8_coinsFor wsX8_coinsFor ({ frames := 0, cells := 0, slots := 0, locals := 0 } : Room) (cRd D (aTy cB cI cJ cZ) [((y 0), .inr (8, [.ref (y 1), .int 0, .int 0, .ref (y 2), .int 1, .int 100, .int 7, .int 14, .int 3, .int 1, .int 8, .int 0, .int 0, .int (-1), .int 0, .ref (y 3), .ref (y 4), .int 0, .int 0, .ref (y 5), .ref (y 6), .ref (y 7), .ref (y 8), .ref (y 9), .int 0, .ref (y 10), .ref (y 11), .ref (y 12), .ref (y 13), .int 0, .int 0, .ref (y 14), .ref (y 15), .ref (y 16), .ref (y 17), .int 0, .int 0, .int 0, .int 0, .int 0, .int 0, .ref (y 18), .ref (y 19), .int 0, .int 0, .ref (y 20), .int 0, .ref (y 21), .ref (y 22), .ref (y 23), .ref (y 24), .ref (y 25)]))] [.ref (y 0), .int q]) (vp_Si (fun r : Int32 => r = 0)) 0 0 (fun _ => False) := by
  refine Met.ofW (cc := cX8_coinsFor) (maxL := 4) (ret := (some .int)) (by decide) rfl ?_
  intro p e s m args below meth c s₁ B hml hv
  obtain ⟨rfl, hP, hK⟩ := hv
  have hx := B.exec
  have hb := B.bytes
  have hr := B.returns
  have hts := atoms_spec (ws := wsX8_coinsFor) B.pre
  have hown : s.vm.findClass RX8 = some m.cls := findClass_of_methodNamed B.named
  have hlocks := B.notSynchronized
  have hP : va_P D vwCl [((y 0), .inr (8, [.ref (y 1), .int 0, .int 0, .ref (y 2), .int 1, .int 100, .int 7, .int 14, .int 3, .int 1, .int 8, .int 0, .int 0, .int (-1), .int 0, .ref (y 3), .ref (y 4), .int 0, .int 0, .ref (y 5), .ref (y 6), .ref (y 7), .ref (y 8), .ref (y 9), .int 0, .ref (y 10), .ref (y 11), .ref (y 12), .ref (y 13), .int 0, .int 0, .ref (y 14), .ref (y 15), .ref (y 16), .ref (y 17), .int 0, .int 0, .int 0, .int 0, .int 0, .int 0, .ref (y 18), .ref (y 19), .int 0, .int 0, .ref (y 20), .int 0, .ref (y 21), .ref (y 22), .ref (y 23), .ref (y 24), .ref (y 25)]))] s.heap := hP
  have w_1 : ∀ w ∈ wsX80, w ∈ wsX8_coinsFor := by decide +kernel
  have w_2 := hts (Cond.fieldLink RX8 229 "BlueCoatsModel" "legacies" "I") (by decide +kernel)
  have hl := lv_entry ([.ref (y 0), .int q]) (n := 4) (Nat.le_of_ble_eq_true rfl)
  rw [lg_entry_eq]
  generalize (lg_sl ([.ref (y 0), .int q]) ++ List.replicate (4 - (lg_sl ([.ref (y 0), .int q])).length) Slot.unset).toArray = ls at hl ⊢
  have hl : lv_has ls 4 [(0, .ref (y 0)), (1, .int q)] := hl
  refine lv_iconst (v := 0) hx hb dX8_coinsFor_0 (by decide) ?_
  refine lv_istore_n (lv' := [(2, .int 0), (0, .ref (y 0)), (1, .int q)]) hx hb dX8_coinsFor_1 rfl hl (by decide) rfl (fun ls hl => ?_)
  refine lv_iconst (v := 0) hx hb dX8_coinsFor_2 (by decide) ?_
  refine lv_istore_n (lv' := [(3, .int 0), (2, .int 0), (0, .ref (y 0)), (1, .int q)]) hx hb dX8_coinsFor_3 rfl hl (by decide) rfl (fun ls hl => ?_)
  refine lv_iload_n hx hb dX8_coinsFor_4 rfl (lv_at hl 0 rfl) ?_
  refine lv_aload_n hx hb dX8_coinsFor_5 rfl (lv_at hl 2 rfl) ?_
  refine va_get (D := D) (ci := 8) (v := .int 0) (C := RX8) (T := TX8) (N := 52) hx hb hts w_1 hown hK hP 0 rfl rfl 30 (by decide) w_2 (fun _ h9 => h9) rfl dX8_coinsFor_6 ?_
  refine lv_icmp_ge (tgt := 42) hx hb dX8_coinsFor_9 (by decide) (fun _ => ?_) (fun h => absurd (by decide) h)
  refine lv_iload_n hx hb dX8_coinsFor_42 rfl (lv_at hl 1 rfl) ?_
  exact W.iret (v := 0) hx hb hr (fun t ht hW => ⟨_, rfl, rfl, ht⟩) (fun q h => nomatch h) dX8_coinsFor_43

set_option maxHeartbeats 4000000 in
set_option maxRecDepth 100000 in
theorem m_X8_needOf (l : Launch) (D : va_G) (cB cI cJ cZ : ClassId) (y : Nat → Nat) (q : Int32) : Met l yX8_needOf wsX8_needOf ({ frames := 0, cells := 0, slots := 0, locals := 0 } : Room) (cRd D (aTy cB cI cJ cZ) [((y 0), .inr (8, [.ref (y 1), .int 0, .int 0, .ref (y 2), .int 1, .int 100, .int 7, .int 14, .int 3, .int 1, .int 8, .int 0, .int 0, .int (-1), .int 0, .ref (y 3), .ref (y 4), .int 0, .int 0, .ref (y 5), .ref (y 6), .ref (y 7), .ref (y 8), .ref (y 9), .int 0, .ref (y 10), .ref (y 11), .ref (y 12), .ref (y 13), .int 0, .int 0, .ref (y 14), .ref (y 15), .ref (y 16), .ref (y 17), .int 0, .int 0, .int 0, .int 0, .int 0, .int 0, .ref (y 18), .ref (y 19), .int 0, .int 0, .ref (y 20), .int 0, .ref (y 21), .ref (y 22), .ref (y 23), .ref (y 24), .ref (y 25)])), ((y 16), .inl (cI, 6, .inl (fun _ => 0)))] [.ref (y 0), .int q]) (vp_Si (fun r : Int32 => r = 0)) 0 0 (fun _ => False) := by
  refine Met.ofW (cc := cX8_needOf) (maxL := 4) (ret := (some .int)) (by decide) rfl ?_
  intro p e s m args below meth c s₁ B hml hv
  obtain ⟨rfl, hP, hK⟩ := hv
  have hx := B.exec
  have hb := B.bytes
  have hr := B.returns
  have hts := atoms_spec (ws := wsX8_needOf) B.pre
  have hown : s.vm.findClass RX8 = some m.cls := findClass_of_methodNamed B.named
  have hlocks := B.notSynchronized
  have hP : va_P D vwCl [((y 0), .inr (8, [.ref (y 1), .int 0, .int 0, .ref (y 2), .int 1, .int 100, .int 7, .int 14, .int 3, .int 1, .int 8, .int 0, .int 0, .int (-1), .int 0, .ref (y 3), .ref (y 4), .int 0, .int 0, .ref (y 5), .ref (y 6), .ref (y 7), .ref (y 8), .ref (y 9), .int 0, .ref (y 10), .ref (y 11), .ref (y 12), .ref (y 13), .int 0, .int 0, .ref (y 14), .ref (y 15), .ref (y 16), .ref (y 17), .int 0, .int 0, .int 0, .int 0, .int 0, .int 0, .ref (y 18), .ref (y 19), .int 0, .int 0, .ref (y 20), .int 0, .ref (y 21), .ref (y 22), .ref (y 23), .ref (y 24), .ref (y 25)])), ((y 16), .inl (cI, 6, .inl (fun _ => 0)))] s.heap := hP
  have w_1 : ∀ w ∈ wsX80, w ∈ wsX8_needOf := by decide +kernel
  have w_2 := hts (Cond.fieldLink RX8 81 "BlueCoatsModel" "needs" "[I") (by decide +kernel)
  have hl := lv_entry ([.ref (y 0), .int q]) (n := 4) (Nat.le_of_ble_eq_true rfl)
  rw [lg_entry_eq]
  generalize (lg_sl ([.ref (y 0), .int q]) ++ List.replicate (4 - (lg_sl ([.ref (y 0), .int q])).length) Slot.unset).toArray = ls at hl ⊢
  have hl : lv_has ls 4 [(0, .ref (y 0)), (1, .int q)] := hl
  generalize hQ : MQ below _ _ s _ _ _ = Q0
  refine lv_iconst (v := 0) hx hb dX8_needOf_0 (by decide) ?_
  refine lv_istore_n (lv' := [(2, .int 0), (0, .ref (y 0)), (1, .int q)]) hx hb dX8_needOf_1 rfl hl (by decide) rfl (fun ls hl => ?_)
  refine lv_iconst (v := 0) hx hb dX8_needOf_2 (by decide) ?_
  refine lv_istore_n (lv' := [(3, .int 0), (2, .int 0), (0, .ref (y 0)), (1, .int q)]) hx hb dX8_needOf_3 rfl hl (by decide) rfl (fun ls hl => ?_)
  have L_1 : ∀ (n : Nat) (i_4 : Int32) (ls : Array Slot), (Int32.toInt 6 - i_4.toInt).toNat < n → 0 ≤ i_4.toInt → va_P D vwCl [((y 0), .inr (8, [.ref (y 1), .int 0, .int 0, .ref (y 2), .int 1, .int 100, .int 7, .int 14, .int 3, .int 1, .int 8, .int 0, .int 0, .int (-1), .int 0, .ref (y 3), .ref (y 4), .int 0, .int 0, .ref (y 5), .ref (y 6), .ref (y 7), .ref (y 8), .ref (y 9), .int 0, .ref (y 10), .ref (y 11), .ref (y 12), .ref (y 13), .int 0, .int 0, .ref (y 14), .ref (y 15), .ref (y 16), .ref (y 17), .int 0, .int 0, .int 0, .int 0, .int 0, .int 0, .ref (y 18), .ref (y 19), .int 0, .int 0, .ref (y 20), .int 0, .ref (y 21), .ref (y 22), .ref (y 23), .ref (y 24), .ref (y 25)])), ((y 16), .inl (cI, 6, .inl (fun _ => 0)))] s.heap → lv_has ls 4 [(0, .ref (y 0)), (1, .int q), (2, .int 0), (3, .int i_4)] → W p l e (headSpec wsX8_needOf ({ frames := 0, cells := 0, slots := 0, locals := 0 } : Room)).room s m ([.ref (y 0), .int q] : List Value).toArray below meth c s.heap [] 0 0 Q0 (F0 m 4 ls []) := by
    intro n
    induction n with
    | zero => intro i_4  ls hn_4 hlo_4 hP hl; exact absurd hn_4 (Nat.not_lt_zero _)
    | succ n ih_L_1 =>
      intro i_4  ls hn_4 hlo_4 hP hl
      refine lv_iload_n hx hb dX8_needOf_4 rfl (lv_at hl 3 rfl) ?_
      refine lv_bipush (v := 6) hx hb dX8_needOf_5 (by decide) ?_
      refine lv_icmp_ge (tgt := 38) hx hb dX8_needOf_7 (by decide) (fun c_7 => ?_) (fun c_7 => ?_)
      ·
        refine lv_iload_n hx hb dX8_needOf_38 rfl (lv_at hl 2 rfl) ?_
        rw [← hQ]
        exact W.iret (v := 0) hx hb hr (fun t ht hW => ⟨_, rfl, rfl, ht⟩) (fun q h => nomatch h) dX8_needOf_39
      ·
        refine lv_iload_n hx hb dX8_needOf_10 rfl (lv_at hl 2 rfl) ?_
        refine lv_iload_n hx hb dX8_needOf_11 rfl (lv_at hl 1 rfl) ?_
        refine lv_iload_n hx hb dX8_needOf_12 rfl (lv_at hl 3 rfl) ?_
        refine sv_ishr (v := q >>> (i_4 &&& 31)) hx hb dX8_needOf_13 rfl ?_
        refine lv_iconst (v := 1) hx hb dX8_needOf_14 (by decide) ?_
        refine sv_iand (v := (q >>> (i_4 &&& 31)) &&& 1) hx hb dX8_needOf_15 rfl ?_
        refine lv_iconst (v := 1) hx hb dX8_needOf_16 (by decide) ?_
        refine lv_icmp_ne (tgt := 29) hx hb dX8_needOf_17 (by decide) (fun c_17 => ?_) (fun c_17 => ?_)
        ·
          refine lv_iconst (v := 0) hx hb dX8_needOf_29 (by decide) ?_
          refine sv_iadd (v := 0) hx hb dX8_needOf_30 (by decide) ?_
          refine lv_istore_n (lv' := [(2, .int 0), (0, .ref (y 0)), (1, .int q), (3, .int i_4)]) hx hb dX8_needOf_31 rfl hl (by decide) rfl (fun ls hl => ?_)
          refine lv_iinc (v := i_4 + 1) (lv' := [(3, .int (i_4 + 1)), (2, .int 0), (0, .ref (y 0)), (1, .int q)]) hx hb dX8_needOf_32 hl (k := 3) rfl rfl (by decide) rfl (fun ls hl => ?_)
          refine lv_goto (tgt := 4) hx hb dX8_needOf_35 (by decide) ?_
          exact ih_L_1 (i_4 + 1)  ls (lp_dec hn_4 c_7) (by have h9 := lp_inc c_7; omega) hP (lv_sub hl [2, 3, 1, 0] rfl)
        ·
          refine lv_aload_n hx hb dX8_needOf_20 rfl (lv_at hl 0 rfl) ?_
          refine va_get (D := D) (ci := 8) (v := .ref (y 16)) (C := RX8) (T := TX8) (N := 52) hx hb hts w_1 hown hK hP 0 rfl rfl 33 (by decide) w_2 (fun _ h9 => h9) rfl dX8_needOf_21 ?_
          refine lv_iload_n hx hb dX8_needOf_24 rfl (lv_at hl 3 rfl) ?_
          refine sv_iald (v := 0) hx hb hK hP 1 1 rfl rfl (lp_in hlo_4 c_7 (by decide)) rfl dX8_needOf_25 ?_
          refine lv_goto (tgt := 30) hx hb dX8_needOf_26 (by decide) ?_
          refine sv_iadd (v := 0) hx hb dX8_needOf_30 (by decide) ?_
          refine lv_istore_n (lv' := [(2, .int 0), (0, .ref (y 0)), (1, .int q), (3, .int i_4)]) hx hb dX8_needOf_31 rfl hl (by decide) rfl (fun ls hl => ?_)
          refine lv_iinc (v := i_4 + 1) (lv' := [(3, .int (i_4 + 1)), (2, .int 0), (0, .ref (y 0)), (1, .int q)]) hx hb dX8_needOf_32 hl (k := 3) rfl rfl (by decide) rfl (fun ls hl => ?_)
          refine lv_goto (tgt := 4) hx hb dX8_needOf_35 (by decide) ?_
          exact ih_L_1 (i_4 + 1)  ls (lp_dec hn_4 c_7) (by have h9 := lp_inc c_7; omega) hP (lv_sub hl [2, 3, 1, 0] rfl)
  exact L_1 _ 0  ls (Nat.lt_succ_self _) (by decide) hP (lv_sub hl [2, 3, 1, 0] rfl)

set_option maxHeartbeats 4000000 in
set_option maxRecDepth 100000 in
theorem m_X8_shortage (l : Launch) (D : va_G) (cB cI cJ cZ : ClassId) (y : Nat → Nat) : Met l yX8_shortage wsX8_shortage ({ frames := 1, cells := 0, slots := 0, locals := 23 } : Room) (cRd D (aTy cB cI cJ cZ) [((y 0), .inr (8, [.ref (y 1), .int 0, .int 0, .ref (y 2), .int 1, .int 100, .int 7, .int 14, .int 3, .int 1, .int 8, .int 0, .int 0, .int (-1), .int 0, .ref (y 3), .ref (y 4), .int 0, .int 0, .ref (y 5), .ref (y 6), .ref (y 7), .ref (y 8), .ref (y 9), .int 0, .ref (y 10), .ref (y 11), .ref (y 12), .ref (y 13), .int 0, .int 0, .ref (y 14), .ref (y 15), .ref (y 16), .ref (y 17), .int 0, .int 0, .int 0, .int 0, .int 0, .int 0, .ref (y 18), .ref (y 19), .int 0, .int 0, .ref (y 20), .int 0, .ref (y 21), .ref (y 22), .ref (y 23), .ref (y 24), .ref (y 25)])), ((y 16), .inl (cI, 6, .inl (fun _ => 0)))] [.ref (y 0)]) (vp_Si (fun r : Int32 => r = 0)) 0 0 (fun _ => False) := by
  refine Met.ofW (cc := cX8_shortage) (maxL := 4) (ret := (some .int)) (by decide) rfl ?_
  intro p e s m args below meth c s₁ B hml hv
  obtain ⟨rfl, hP, hK⟩ := hv
  have hx := B.exec
  have hb := B.bytes
  have hr := B.returns
  have hts := atoms_spec (ws := wsX8_shortage) B.pre
  have hown : s.vm.findClass RX8 = some m.cls := findClass_of_methodNamed B.named
  have hlocks := B.notSynchronized
  have hP : va_P D vwCl [((y 0), .inr (8, [.ref (y 1), .int 0, .int 0, .ref (y 2), .int 1, .int 100, .int 7, .int 14, .int 3, .int 1, .int 8, .int 0, .int 0, .int (-1), .int 0, .ref (y 3), .ref (y 4), .int 0, .int 0, .ref (y 5), .ref (y 6), .ref (y 7), .ref (y 8), .ref (y 9), .int 0, .ref (y 10), .ref (y 11), .ref (y 12), .ref (y 13), .int 0, .int 0, .ref (y 14), .ref (y 15), .ref (y 16), .ref (y 17), .int 0, .int 0, .int 0, .int 0, .int 0, .int 0, .ref (y 18), .ref (y 19), .int 0, .int 0, .ref (y 20), .int 0, .ref (y 21), .ref (y 22), .ref (y 23), .ref (y 24), .ref (y 25)])), ((y 16), .inl (cI, 6, .inl (fun _ => 0)))] s.heap := hP
  have hl := lv_entry ([.ref (y 0)]) (n := 4) (Nat.le_of_ble_eq_true rfl)
  rw [lg_entry_eq]
  generalize (lg_sl ([.ref (y 0)]) ++ List.replicate (4 - (lg_sl ([.ref (y 0)])).length) Slot.unset).toArray = ls at hl ⊢
  have hl : lv_has ls 4 [(0, .ref (y 0))] := hl
  generalize hQ : MQ below _ _ s _ _ _ = Q0
  refine lv_iconst (v := 0) hx hb dX8_shortage_0 (by decide) ?_
  refine lv_istore_n (lv' := [(1, .int 0), (0, .ref (y 0))]) hx hb dX8_shortage_1 rfl hl (by decide) rfl (fun ls hl => ?_)
  refine lv_iconst (v := 1) hx hb dX8_shortage_2 (by decide) ?_
  refine lv_istore_n (lv' := [(2, .int 1), (1, .int 0), (0, .ref (y 0))]) hx hb dX8_shortage_3 rfl hl (by decide) rfl (fun ls hl => ?_)
  have L_1 : ∀ (n : Nat) (i_4 : Int32) (ls : Array Slot), (Int32.toInt 64 - i_4.toInt).toNat < n → va_P D vwCl [((y 0), .inr (8, [.ref (y 1), .int 0, .int 0, .ref (y 2), .int 1, .int 100, .int 7, .int 14, .int 3, .int 1, .int 8, .int 0, .int 0, .int (-1), .int 0, .ref (y 3), .ref (y 4), .int 0, .int 0, .ref (y 5), .ref (y 6), .ref (y 7), .ref (y 8), .ref (y 9), .int 0, .ref (y 10), .ref (y 11), .ref (y 12), .ref (y 13), .int 0, .int 0, .ref (y 14), .ref (y 15), .ref (y 16), .ref (y 17), .int 0, .int 0, .int 0, .int 0, .int 0, .int 0, .ref (y 18), .ref (y 19), .int 0, .int 0, .ref (y 20), .int 0, .ref (y 21), .ref (y 22), .ref (y 23), .ref (y 24), .ref (y 25)])), ((y 16), .inl (cI, 6, .inl (fun _ => 0)))] s.heap → lv_has ls 4 [(0, .ref (y 0)), (1, .int 0), (2, .int i_4)] → W p l e (headSpec wsX8_shortage ({ frames := 1, cells := 0, slots := 0, locals := 23 } : Room)).room s m ([.ref (y 0)] : List Value).toArray below meth c s.heap [] 0 0 Q0 (F0 m 4 ls []) := by
    intro n
    induction n with
    | zero => intro i_4  ls hn_4 hP hl; exact absurd hn_4 (Nat.not_lt_zero _)
    | succ n ih_L_1 =>
      intro i_4  ls hn_4 hP hl
      refine lv_iload_n hx hb dX8_shortage_4 rfl (lv_at hl 2 rfl) ?_
      refine lv_bipush (v := 64) hx hb dX8_shortage_5 (by decide) ?_
      refine lv_icmp_ge (tgt := 39) hx hb dX8_shortage_7 (by decide) (fun c_7 => ?_) (fun c_7 => ?_)
      ·
        refine lv_iload_n hx hb dX8_shortage_39 rfl (lv_at hl 1 rfl) ?_
        rw [← hQ]
        exact W.iret (v := 0) hx hb hr (fun t ht hW => ⟨_, rfl, rfl, ht⟩) (fun q h => nomatch h) dX8_shortage_40
      ·
        refine lv_aload_n hx hb dX8_shortage_10 rfl (lv_at hl 0 rfl) ?_
        refine lv_iload_n hx hb dX8_shortage_11 rfl (lv_at hl 2 rfl) ?_
        refine vp_callSi (va_Run.run (va_runV (As := [.int i_4]) (rest := []) ⟨hx, hb, hml, hown, hts⟩ (m_X8_needOf l D cB cI cJ cZ y i_4) (cwV 1 hts gX8_shortage_X8_needOf rfl rfl rfl (by decide +kernel) ⟨Nat.le_of_ble_eq_true rfl, Nat.le_of_ble_eq_true rfl⟩) (pre_VR (hP.sub (ws' := [((y 0), .inr (8, [.ref (y 1), .int 0, .int 0, .ref (y 2), .int 1, .int 100, .int 7, .int 14, .int 3, .int 1, .int 8, .int 0, .int 0, .int (-1), .int 0, .ref (y 3), .ref (y 4), .int 0, .int 0, .ref (y 5), .ref (y 6), .ref (y 7), .ref (y 8), .ref (y 9), .int 0, .ref (y 10), .ref (y 11), .ref (y 12), .ref (y 13), .int 0, .int 0, .ref (y 14), .ref (y 15), .ref (y 16), .ref (y 17), .int 0, .int 0, .int 0, .int 0, .int 0, .int 0, .ref (y 18), .ref (y 19), .int 0, .int 0, .ref (y 20), .int 0, .ref (y 21), .ref (y 22), .ref (y 23), .ref (y 24), .ref (y 25)])), ((y 16), .inl (cI, 6, .inl (fun _ => 0)))]) [0, 1] rfl) hK 0 rfl rfl rfl) rfl rfl hl.1 rfl (lv_room (Nat.le_of_ble_eq_true rfl)) dX8_shortage_12 ⟨Nat.le_of_ble_eq_true rfl, Nat.le_of_ble_eq_true rfl⟩)) (fun r_2 hw_r_2 => ?_)
        subst hw_r_2
        refine lv_aload_n hx hb dX8_shortage_15 rfl (lv_at hl 0 rfl) ?_
        refine lv_iload_n hx hb dX8_shortage_16 rfl (lv_at hl 2 rfl) ?_
        refine vp_callSi (va_Run.run (va_runV (As := [.int i_4]) (rest := [.int 0]) ⟨hx, hb, hml, hown, hts⟩ (m_X8_coinsFor l D cB cI cJ cZ y i_4) (cwV 1 hts gX8_shortage_X8_coinsFor rfl rfl rfl (by decide +kernel) ⟨Nat.le_of_ble_eq_true rfl, Nat.le_of_ble_eq_true rfl⟩) (pre_VR (hP.sub (ws' := [((y 0), .inr (8, [.ref (y 1), .int 0, .int 0, .ref (y 2), .int 1, .int 100, .int 7, .int 14, .int 3, .int 1, .int 8, .int 0, .int 0, .int (-1), .int 0, .ref (y 3), .ref (y 4), .int 0, .int 0, .ref (y 5), .ref (y 6), .ref (y 7), .ref (y 8), .ref (y 9), .int 0, .ref (y 10), .ref (y 11), .ref (y 12), .ref (y 13), .int 0, .int 0, .ref (y 14), .ref (y 15), .ref (y 16), .ref (y 17), .int 0, .int 0, .int 0, .int 0, .int 0, .int 0, .ref (y 18), .ref (y 19), .int 0, .int 0, .ref (y 20), .int 0, .ref (y 21), .ref (y 22), .ref (y 23), .ref (y 24), .ref (y 25)]))]) [0] rfl) hK 0 rfl rfl rfl) rfl rfl hl.1 rfl (lv_room (Nat.le_of_ble_eq_true rfl)) dX8_shortage_17 ⟨Nat.le_of_ble_eq_true rfl, Nat.le_of_ble_eq_true rfl⟩)) (fun r_3 hw_r_3 => ?_)
        subst hw_r_3
        refine sv_isub (v := 0) hx hb dX8_shortage_20 (by decide) ?_
        refine lv_istore_n (lv' := [(3, .int 0), (0, .ref (y 0)), (1, .int 0), (2, .int i_4)]) hx hb dX8_shortage_21 rfl hl (by decide) rfl (fun ls hl => ?_)
        refine lv_iload_n hx hb dX8_shortage_22 rfl (lv_at hl 0 rfl) ?_
        refine lv_iload_n hx hb dX8_shortage_23 rfl (lv_at hl 2 rfl) ?_
        refine lv_icmp_le (tgt := 31) hx hb dX8_shortage_24 (by decide) (fun _ => ?_) (fun h => absurd (by decide) h)
        refine lv_iload_n hx hb dX8_shortage_31 rfl (lv_at hl 2 rfl) ?_
        refine lv_istore_n (lv' := [(1, .int 0), (3, .int 0), (0, .ref (y 0)), (2, .int i_4)]) hx hb dX8_shortage_32 rfl hl (by decide) rfl (fun ls hl => ?_)
        refine lv_iinc (v := i_4 + 1) (lv' := [(2, .int (i_4 + 1)), (1, .int 0), (3, .int 0), (0, .ref (y 0))]) hx hb dX8_shortage_33 hl (k := 3) rfl rfl (by decide) rfl (fun ls hl => ?_)
        refine lv_goto (tgt := 4) hx hb dX8_shortage_36 (by decide) ?_
        exact ih_L_1 (i_4 + 1)  ls (lp_dec hn_4 c_7) hP (lv_sub hl [3, 1, 0] rfl)
  exact L_1 _ 1  ls (Nat.lt_succ_self _) hP (lv_sub hl [2, 1, 0] rfl)

set_option maxHeartbeats 4000000 in
set_option maxRecDepth 100000 in
theorem m_X8_deal (l : Launch) (D : va_G) (cB cI cJ cZ : ClassId) (sz : Nat) (y : Nat → Nat) : Met l yX8_deal wsX8_deal ({ frames := 1, cells := 0, slots := 0, locals := 23 } : Room) (cPre D (aTy cB cI cJ cZ) [((y 0), .inr (8, [.ref (y 1), .int 0, .int 0, .ref (y 2), .int 1, .int 100, .int 7, .int 14, .int 3, .int 1, .int 8, .int 0, .int 0, .int (-1), .int 0, .ref (y 3), .ref (y 4), .int 0, .int 0, .ref (y 5), .ref (y 6), .ref (y 7), .ref (y 8), .ref (y 9), .int 0, .ref (y 10), .ref (y 11), .ref (y 12), .ref (y 13), .int 0, .int 0, .ref (y 14), .ref (y 15), .ref (y 16), .ref (y 17), .int 0, .int 0, .int 0, .int 0, .int 0, .int 0, .ref (y 18), .ref (y 19), .int 0, .int 0, .ref (y 20), .int 0, .ref (y 21), .ref (y 22), .ref (y 23), .ref (y 24), .ref (y 25)])), ((y 16), .inl (cI, 6, .inl (fun _ => 0))), ((y 24), .inl (cI, 6, .inl (fun _ => 0)))] sz [.ref (y 0)]) (va_Qv (fun (u : Unit) => True) (cB_ D (aTy cB cI cJ cZ) (va_A [((y 0), .inr (8, [.ref (y 1), .int 0, .int 0, .ref (y 2), .int 1, .int 100, .int 7, .int 14, .int 3, .int 1, .int 8, .int 0, .int 0, .int (-1), .int 0, .ref (y 3), .ref (y 4), .int 0, .int 0, .ref (y 5), .ref (y 6), .ref (y 7), .ref (y 8), .ref (y 9), .int 0, .ref (y 10), .ref (y 11), .ref (y 12), .ref (y 13), .int 0, .int 0, .ref (y 14), .ref (y 15), .ref (y 16), .ref (y 17), .int 0, .int 0, .int 0, .int 0, .int 0, .int 0, .ref (y 18), .ref (y 19), .int 0, .int 0, .ref (y 20), .int 0, .ref (y 21), .ref (y 22), .ref (y 23), .ref (y 24), .ref (y 25)])), ((y 16), .inl (cI, 6, .inl (fun _ => 0))), ((y 24), .inl (cI, 6, .inl (fun _ => 0)))] sz) (fun _ => [((y 0), .inr (8, [.ref (y 1), .int 0, .int 0, .ref (y 2), .int 1, .int 100, .int 7, .int 14, .int 3, .int 1, .int 8, .int 0, .int 0, .int (-1), .int 0, .ref (y 3), .ref (y 4), .int 0, .int 0, .ref (y 5), .ref (y 6), .ref (y 7), .ref (y 8), .ref (y 9), .int 0, .ref (y 10), .ref (y 11), .ref (y 12), .ref (y 13), .int 0, .int 0, .ref (y 14), .ref (y 15), .ref (y 16), .ref (y 17), .int 0, .int 0, .int 0, .int 0, .int 0, .int 0, .ref (y 18), .ref (y 19), .int 0, .int 0, .ref (y 20), .int 0, .ref (y 21), .ref (y 22), .ref (y 23), .ref (y 24), .ref (y 25)])), ((y 16), .inl (cI, 6, .inl (fun _ => 0))), ((y 24), .inl (cI, 6, .inl (fun _ => 0)))])) (va_A [((y 0), .inr (8, [.ref (y 1), .int 0, .int 0, .ref (y 2), .int 1, .int 100, .int 7, .int 14, .int 3, .int 1, .int 8, .int 0, .int 0, .int (-1), .int 0, .ref (y 3), .ref (y 4), .int 0, .int 0, .ref (y 5), .ref (y 6), .ref (y 7), .ref (y 8), .ref (y 9), .int 0, .ref (y 10), .ref (y 11), .ref (y 12), .ref (y 13), .int 0, .int 0, .ref (y 14), .ref (y 15), .ref (y 16), .ref (y 17), .int 0, .int 0, .int 0, .int 0, .int 0, .int 0, .ref (y 18), .ref (y 19), .int 0, .int 0, .ref (y 20), .int 0, .ref (y 21), .ref (y 22), .ref (y 23), .ref (y 24), .ref (y 25)])), ((y 16), .inl (cI, 6, .inl (fun _ => 0))), ((y 24), .inl (cI, 6, .inl (fun _ => 0)))] sz)) 0 0 (va_A [((y 0), .inr (8, [.ref (y 1), .int 0, .int 0, .ref (y 2), .int 1, .int 100, .int 7, .int 14, .int 3, .int 1, .int 8, .int 0, .int 0, .int (-1), .int 0, .ref (y 3), .ref (y 4), .int 0, .int 0, .ref (y 5), .ref (y 6), .ref (y 7), .ref (y 8), .ref (y 9), .int 0, .ref (y 10), .ref (y 11), .ref (y 12), .ref (y 13), .int 0, .int 0, .ref (y 14), .ref (y 15), .ref (y 16), .ref (y 17), .int 0, .int 0, .int 0, .int 0, .int 0, .int 0, .ref (y 18), .ref (y 19), .int 0, .int 0, .ref (y 20), .int 0, .ref (y 21), .ref (y 22), .ref (y 23), .ref (y 24), .ref (y 25)])), ((y 16), .inl (cI, 6, .inl (fun _ => 0))), ((y 24), .inl (cI, 6, .inl (fun _ => 0)))] sz) := by
  refine Met.ofW (cc := cX8_deal) (maxL := 7) (ret := none) (by decide) rfl ?_
  intro p e s m args below meth c s₁ B hml hv
  obtain ⟨rfl, hsz, hP, hK, hD0⟩ := hv
  have hx := B.exec
  have hb := B.bytes
  have hr := B.returns
  have hts := atoms_spec (ws := wsX8_deal) B.pre
  have hown : s.vm.findClass RX8 = some m.cls := findClass_of_methodNamed B.named
  have hlocks := B.notSynchronized
  subst hsz
  have hD := hD0.self (sz := s.heap.size)
  generalize hAe : va_A [((y 0), .inr (8, [.ref (y 1), .int 0, .int 0, .ref (y 2), .int 1, .int 100, .int 7, .int 14, .int 3, .int 1, .int 8, .int 0, .int 0, .int (-1), .int 0, .ref (y 3), .ref (y 4), .int 0, .int 0, .ref (y 5), .ref (y 6), .ref (y 7), .ref (y 8), .ref (y 9), .int 0, .ref (y 10), .ref (y 11), .ref (y 12), .ref (y 13), .int 0, .int 0, .ref (y 14), .ref (y 15), .ref (y 16), .ref (y 17), .int 0, .int 0, .int 0, .int 0, .int 0, .int 0, .ref (y 18), .ref (y 19), .int 0, .int 0, .ref (y 20), .int 0, .ref (y 21), .ref (y 22), .ref (y 23), .ref (y 24), .ref (y 25)])), ((y 16), .inl (cI, 6, .inl (fun _ => 0))), ((y 24), .inl (cI, 6, .inl (fun _ => 0)))] s.heap.size = A at hD ⊢
  have hA : ∀ q : Nat, s.heap.size ≤ q → A q := fun q h => by rw [← hAe]; exact Or.inr h
  have hS : va_S A s.heap s.heap [] := va_S.rf
  have hP : va_P D vwCl [((y 0), .inr (8, [.ref (y 1), .int 0, .int 0, .ref (y 2), .int 1, .int 100, .int 7, .int 14, .int 3, .int 1, .int 8, .int 0, .int 0, .int (-1), .int 0, .ref (y 3), .ref (y 4), .int 0, .int 0, .ref (y 5), .ref (y 6), .ref (y 7), .ref (y 8), .ref (y 9), .int 0, .ref (y 10), .ref (y 11), .ref (y 12), .ref (y 13), .int 0, .int 0, .ref (y 14), .ref (y 15), .ref (y 16), .ref (y 17), .int 0, .int 0, .int 0, .int 0, .int 0, .int 0, .ref (y 18), .ref (y 19), .int 0, .int 0, .ref (y 20), .int 0, .ref (y 21), .ref (y 22), .ref (y 23), .ref (y 24), .ref (y 25)])), ((y 16), .inl (cI, 6, .inl (fun _ => 0))), ((y 24), .inl (cI, 6, .inl (fun _ => 0)))] s.heap := hP
  have w_1 : ∀ w ∈ wsX80, w ∈ wsX8_deal := by decide +kernel
  have w_2 := hts (Cond.fieldLink RX8 81 "BlueCoatsModel" "needs" "[I") (by decide +kernel)
  have w_3 := hts (Cond.fieldLink RX8 106 "BlueCoatsModel" "gets" "[I") (by decide +kernel)
  have w_4 := hts (Cond.fieldLink RX8 229 "BlueCoatsModel" "legacies" "I") (by decide +kernel)
  have hl := lv_entry ([.ref (y 0)]) (n := 7) (Nat.le_of_ble_eq_true rfl)
  rw [lg_entry_eq]
  generalize (lg_sl ([.ref (y 0)]) ++ List.replicate (7 - (lg_sl ([.ref (y 0)])).length) Slot.unset).toArray = ls at hl ⊢
  have hl : lv_has ls 7 [(0, .ref (y 0))] := hl
  generalize hQ : MQ below _ _ s _ _ _ = Q0
  refine lv_iconst (v := 0) hx hb dX8_deal_0 (by decide) ?_
  refine lv_istore_n (lv' := [(1, .int 0), (0, .ref (y 0))]) hx hb dX8_deal_1 rfl hl (by decide) rfl (fun ls hl => ?_)
  refine lv_iload_n hx hb dX8_deal_2 rfl (lv_at hl 0 rfl) ?_
  refine lv_bipush (v := 6) hx hb dX8_deal_3 (by decide) ?_
  refine lv_icmp_ge (tgt := 106) hx hb dX8_deal_5 (by decide) (fun h => absurd h (by decide)) (fun _ => ?_)
  refine lv_aload_n hx hb dX8_deal_8 rfl (lv_at hl 1 rfl) ?_
  refine va_get (D := D) (ci := 8) (v := .ref (y 16)) (C := RX8) (T := TX8) (N := 52) hx hb hts w_1 hown hK hP 0 rfl rfl 33 (by decide) w_2 (fun _ h9 => h9) rfl dX8_deal_9 ?_
  refine lv_iload_n hx hb dX8_deal_12 rfl (lv_at hl 0 rfl) ?_
  refine sv_iald (v := 0) hx hb hK hP 1 1 rfl rfl (vp_in_iff.mpr (by decide)) rfl dX8_deal_13 ?_
  refine lv_istore_n (lv' := [(2, .int 0), (1, .int 0), (0, .ref (y 0))]) hx hb dX8_deal_14 rfl hl (by decide) rfl (fun ls hl => ?_)
  refine lv_iconst (v := 1) hx hb dX8_deal_15 (by decide) ?_
  refine lv_iload_n hx hb dX8_deal_16 rfl (lv_at hl 1 rfl) ?_
  refine sv_ishl (v := 1) hx hb dX8_deal_17 (by decide) ?_
  refine lv_istore_n (lv' := [(3, .int 1), (2, .int 0), (1, .int 0), (0, .ref (y 0))]) hx hb dX8_deal_18 rfl hl (by decide) rfl (fun ls hl => ?_)
  have L_1 : ∀ (n : Nat) (i_19 : Int32) (H : Heap) (locs : List Loc) (ls : Array Slot), (Int32.toInt 2 - i_19.toInt).toNat < n → va_P D vwCl [((y 0), .inr (8, [.ref (y 1), .int 0, .int 0, .ref (y 2), .int 1, .int 100, .int 7, .int 14, .int 3, .int 1, .int 8, .int 0, .int 0, .int (-1), .int 0, .ref (y 3), .ref (y 4), .int 0, .int 0, .ref (y 5), .ref (y 6), .ref (y 7), .ref (y 8), .ref (y 9), .int 0, .ref (y 10), .ref (y 11), .ref (y 12), .ref (y 13), .int 0, .int 0, .ref (y 14), .ref (y 15), .ref (y 16), .ref (y 17), .int 0, .int 0, .int 0, .int 0, .int 0, .int 0, .ref (y 18), .ref (y 19), .int 0, .int 0, .ref (y 20), .int 0, .ref (y 21), .ref (y 22), .ref (y 23), .ref (y 24), .ref (y 25)])), ((y 16), .inl (cI, 6, .inl (fun _ => 0))), ((y 24), .inl (cI, 6, .inl (fun _ => 0)))] H → va_D A [((y 0), .inr (8, [.ref (y 1), .int 0, .int 0, .ref (y 2), .int 1, .int 100, .int 7, .int 14, .int 3, .int 1, .int 8, .int 0, .int 0, .int (-1), .int 0, .ref (y 3), .ref (y 4), .int 0, .int 0, .ref (y 5), .ref (y 6), .ref (y 7), .ref (y 8), .ref (y 9), .int 0, .ref (y 10), .ref (y 11), .ref (y 12), .ref (y 13), .int 0, .int 0, .ref (y 14), .ref (y 15), .ref (y 16), .ref (y 17), .int 0, .int 0, .int 0, .int 0, .int 0, .int 0, .ref (y 18), .ref (y 19), .int 0, .int 0, .ref (y 20), .int 0, .ref (y 21), .ref (y 22), .ref (y 23), .ref (y 24), .ref (y 25)])), ((y 16), .inl (cI, 6, .inl (fun _ => 0))), ((y 24), .inl (cI, 6, .inl (fun _ => 0)))] → va_S A s.heap H locs → lv_has ls 7 [(0, .ref (y 0)), (1, .int 0), (2, .int 0), (3, .int i_19)] → W p l e (headSpec wsX8_deal ({ frames := 1, cells := 0, slots := 0, locals := 23 } : Room)).room s m ([.ref (y 0)] : List Value).toArray below meth c H locs 0 0 Q0 (F0 m 19 ls []) := by
    intro n
    induction n with
    | zero => intro i_19  H locs ls hn_19 hP hD hS hl; exact absurd hn_19 (Nat.not_lt_zero _)
    | succ n ih_L_1 =>
      intro i_19  H locs ls hn_19 hP hD hS hl
      refine lv_iload_n hx hb dX8_deal_19 rfl (lv_at hl 3 rfl) ?_
      refine lv_iconst (v := 2) hx hb dX8_deal_20 (by decide) ?_
      refine lv_iload_n hx hb dX8_deal_21 rfl (lv_at hl 1 rfl) ?_
      refine sv_ishl (v := 2) hx hb dX8_deal_22 (by decide) ?_
      refine lv_icmp_ge (tgt := 93) hx hb dX8_deal_23 (by decide) (fun c_23 => ?_) (fun c_23 => ?_)
      ·
        refine lv_aload_n hx hb dX8_deal_93 rfl (lv_at hl 0 rfl) ?_
        refine va_get (D := D) (ci := 8) (v := .ref (y 24)) (C := RX8) (T := TX8) (N := 52) hx hb hts w_1 hown hK hP 0 rfl rfl 50 (by decide) w_3 (fun _ h9 => h9) rfl dX8_deal_94 ?_
        refine lv_iload_n hx hb dX8_deal_97 rfl (lv_at hl 1 rfl) ?_
        refine lv_iload_n hx hb dX8_deal_98 rfl (lv_at hl 2 rfl) ?_
        refine sv_iast hx hb hK hP hD hS 2 1 rfl rfl (vp_in_iff.mpr (by decide)) dX8_deal_99 (fun g_2 H locs eg_2 hP hD hS => ?_)
        have eg_2 : g_2 = (fun _ => 0) := by rw [eg_2]; exact upd_zero _
        subst eg_2
        have hP : va_P D vwCl [((y 0), .inr (8, [.ref (y 1), .int 0, .int 0, .ref (y 2), .int 1, .int 100, .int 7, .int 14, .int 3, .int 1, .int 8, .int 0, .int 0, .int (-1), .int 0, .ref (y 3), .ref (y 4), .int 0, .int 0, .ref (y 5), .ref (y 6), .ref (y 7), .ref (y 8), .ref (y 9), .int 0, .ref (y 10), .ref (y 11), .ref (y 12), .ref (y 13), .int 0, .int 0, .ref (y 14), .ref (y 15), .ref (y 16), .ref (y 17), .int 0, .int 0, .int 0, .int 0, .int 0, .int 0, .ref (y 18), .ref (y 19), .int 0, .int 0, .ref (y 20), .int 0, .ref (y 21), .ref (y 22), .ref (y 23), .ref (y 24), .ref (y 25)])), ((y 16), .inl (cI, 6, .inl (fun _ => 0))), ((y 24), .inl (cI, 6, .inl (fun _ => 0)))] H := hP
        have hD : va_D A [((y 0), .inr (8, [.ref (y 1), .int 0, .int 0, .ref (y 2), .int 1, .int 100, .int 7, .int 14, .int 3, .int 1, .int 8, .int 0, .int 0, .int (-1), .int 0, .ref (y 3), .ref (y 4), .int 0, .int 0, .ref (y 5), .ref (y 6), .ref (y 7), .ref (y 8), .ref (y 9), .int 0, .ref (y 10), .ref (y 11), .ref (y 12), .ref (y 13), .int 0, .int 0, .ref (y 14), .ref (y 15), .ref (y 16), .ref (y 17), .int 0, .int 0, .int 0, .int 0, .int 0, .int 0, .ref (y 18), .ref (y 19), .int 0, .int 0, .ref (y 20), .int 0, .ref (y 21), .ref (y 22), .ref (y 23), .ref (y 24), .ref (y 25)])), ((y 16), .inl (cI, 6, .inl (fun _ => 0))), ((y 24), .inl (cI, 6, .inl (fun _ => 0)))] := hD
        refine lv_iinc (v := 1) (lv' := [(1, .int 1), (0, .ref (y 0)), (2, .int 0), (3, .int i_19)]) hx hb dX8_deal_100 hl (k := 1) rfl (by decide) (by decide) rfl (fun ls hl => ?_)
        refine lv_goto (tgt := 2) hx hb dX8_deal_103 (by decide) ?_
        refine lv_iload_n hx hb dX8_deal_2 rfl (lv_at hl 0 rfl) ?_
        refine lv_bipush (v := 6) hx hb dX8_deal_3 (by decide) ?_
        refine lv_icmp_ge (tgt := 106) hx hb dX8_deal_5 (by decide) (fun h => absurd h (by decide)) (fun _ => ?_)
        refine lv_aload_n hx hb dX8_deal_8 rfl (lv_at hl 1 rfl) ?_
        refine va_get (D := D) (ci := 8) (v := .ref (y 16)) (C := RX8) (T := TX8) (N := 52) hx hb hts w_1 hown hK hP 0 rfl rfl 33 (by decide) w_2 (fun _ h9 => h9) rfl dX8_deal_9 ?_
        refine lv_iload_n hx hb dX8_deal_12 rfl (lv_at hl 0 rfl) ?_
        refine sv_iald (v := 0) hx hb hK hP 1 1 rfl rfl (vp_in_iff.mpr (by decide)) rfl dX8_deal_13 ?_
        refine lv_istore_n (lv' := [(2, .int 0), (1, .int 1), (0, .ref (y 0)), (3, .int i_19)]) hx hb dX8_deal_14 rfl hl (by decide) rfl (fun ls hl => ?_)
        refine lv_iconst (v := 1) hx hb dX8_deal_15 (by decide) ?_
        refine lv_iload_n hx hb dX8_deal_16 rfl (lv_at hl 1 rfl) ?_
        refine sv_ishl (v := 2) hx hb dX8_deal_17 (by decide) ?_
        refine lv_istore_n (lv' := [(3, .int 2), (2, .int 0), (1, .int 1), (0, .ref (y 0))]) hx hb dX8_deal_18 rfl hl (by decide) rfl (fun ls hl => ?_)
        have L_3 : ∀ (n : Nat) (i_19 : Int32) (H : Heap) (locs : List Loc) (ls : Array Slot), (Int32.toInt 4 - i_19.toInt).toNat < n → va_P D vwCl [((y 0), .inr (8, [.ref (y 1), .int 0, .int 0, .ref (y 2), .int 1, .int 100, .int 7, .int 14, .int 3, .int 1, .int 8, .int 0, .int 0, .int (-1), .int 0, .ref (y 3), .ref (y 4), .int 0, .int 0, .ref (y 5), .ref (y 6), .ref (y 7), .ref (y 8), .ref (y 9), .int 0, .ref (y 10), .ref (y 11), .ref (y 12), .ref (y 13), .int 0, .int 0, .ref (y 14), .ref (y 15), .ref (y 16), .ref (y 17), .int 0, .int 0, .int 0, .int 0, .int 0, .int 0, .ref (y 18), .ref (y 19), .int 0, .int 0, .ref (y 20), .int 0, .ref (y 21), .ref (y 22), .ref (y 23), .ref (y 24), .ref (y 25)])), ((y 16), .inl (cI, 6, .inl (fun _ => 0))), ((y 24), .inl (cI, 6, .inl (fun _ => 0)))] H → va_D A [((y 0), .inr (8, [.ref (y 1), .int 0, .int 0, .ref (y 2), .int 1, .int 100, .int 7, .int 14, .int 3, .int 1, .int 8, .int 0, .int 0, .int (-1), .int 0, .ref (y 3), .ref (y 4), .int 0, .int 0, .ref (y 5), .ref (y 6), .ref (y 7), .ref (y 8), .ref (y 9), .int 0, .ref (y 10), .ref (y 11), .ref (y 12), .ref (y 13), .int 0, .int 0, .ref (y 14), .ref (y 15), .ref (y 16), .ref (y 17), .int 0, .int 0, .int 0, .int 0, .int 0, .int 0, .ref (y 18), .ref (y 19), .int 0, .int 0, .ref (y 20), .int 0, .ref (y 21), .ref (y 22), .ref (y 23), .ref (y 24), .ref (y 25)])), ((y 16), .inl (cI, 6, .inl (fun _ => 0))), ((y 24), .inl (cI, 6, .inl (fun _ => 0)))] → va_S A s.heap H locs → lv_has ls 7 [(0, .ref (y 0)), (1, .int 1), (2, .int 0), (3, .int i_19)] → W p l e (headSpec wsX8_deal ({ frames := 1, cells := 0, slots := 0, locals := 23 } : Room)).room s m ([.ref (y 0)] : List Value).toArray below meth c H locs 0 0 Q0 (F0 m 19 ls []) := by
          intro n
          induction n with
          | zero => intro i_19  H locs ls hn_19 hP hD hS hl; exact absurd hn_19 (Nat.not_lt_zero _)
          | succ n ih_L_3 =>
            intro i_19  H locs ls hn_19 hP hD hS hl
            refine lv_iload_n hx hb dX8_deal_19 rfl (lv_at hl 3 rfl) ?_
            refine lv_iconst (v := 2) hx hb dX8_deal_20 (by decide) ?_
            refine lv_iload_n hx hb dX8_deal_21 rfl (lv_at hl 1 rfl) ?_
            refine sv_ishl (v := 4) hx hb dX8_deal_22 (by decide) ?_
            refine lv_icmp_ge (tgt := 93) hx hb dX8_deal_23 (by decide) (fun c_23 => ?_) (fun c_23 => ?_)
            ·
              refine lv_aload_n hx hb dX8_deal_93 rfl (lv_at hl 0 rfl) ?_
              refine va_get (D := D) (ci := 8) (v := .ref (y 24)) (C := RX8) (T := TX8) (N := 52) hx hb hts w_1 hown hK hP 0 rfl rfl 50 (by decide) w_3 (fun _ h9 => h9) rfl dX8_deal_94 ?_
              refine lv_iload_n hx hb dX8_deal_97 rfl (lv_at hl 1 rfl) ?_
              refine lv_iload_n hx hb dX8_deal_98 rfl (lv_at hl 2 rfl) ?_
              refine sv_iast hx hb hK hP hD hS 2 1 rfl rfl (vp_in_iff.mpr (by decide)) dX8_deal_99 (fun g_4 H locs eg_4 hP hD hS => ?_)
              have eg_4 : g_4 = (fun _ => 0) := by rw [eg_4]; exact upd_zero _
              subst eg_4
              have hP : va_P D vwCl [((y 0), .inr (8, [.ref (y 1), .int 0, .int 0, .ref (y 2), .int 1, .int 100, .int 7, .int 14, .int 3, .int 1, .int 8, .int 0, .int 0, .int (-1), .int 0, .ref (y 3), .ref (y 4), .int 0, .int 0, .ref (y 5), .ref (y 6), .ref (y 7), .ref (y 8), .ref (y 9), .int 0, .ref (y 10), .ref (y 11), .ref (y 12), .ref (y 13), .int 0, .int 0, .ref (y 14), .ref (y 15), .ref (y 16), .ref (y 17), .int 0, .int 0, .int 0, .int 0, .int 0, .int 0, .ref (y 18), .ref (y 19), .int 0, .int 0, .ref (y 20), .int 0, .ref (y 21), .ref (y 22), .ref (y 23), .ref (y 24), .ref (y 25)])), ((y 16), .inl (cI, 6, .inl (fun _ => 0))), ((y 24), .inl (cI, 6, .inl (fun _ => 0)))] H := hP
              have hD : va_D A [((y 0), .inr (8, [.ref (y 1), .int 0, .int 0, .ref (y 2), .int 1, .int 100, .int 7, .int 14, .int 3, .int 1, .int 8, .int 0, .int 0, .int (-1), .int 0, .ref (y 3), .ref (y 4), .int 0, .int 0, .ref (y 5), .ref (y 6), .ref (y 7), .ref (y 8), .ref (y 9), .int 0, .ref (y 10), .ref (y 11), .ref (y 12), .ref (y 13), .int 0, .int 0, .ref (y 14), .ref (y 15), .ref (y 16), .ref (y 17), .int 0, .int 0, .int 0, .int 0, .int 0, .int 0, .ref (y 18), .ref (y 19), .int 0, .int 0, .ref (y 20), .int 0, .ref (y 21), .ref (y 22), .ref (y 23), .ref (y 24), .ref (y 25)])), ((y 16), .inl (cI, 6, .inl (fun _ => 0))), ((y 24), .inl (cI, 6, .inl (fun _ => 0)))] := hD
              refine lv_iinc (v := 2) (lv' := [(1, .int 2), (0, .ref (y 0)), (2, .int 0), (3, .int i_19)]) hx hb dX8_deal_100 hl (k := 1) rfl (by decide) (by decide) rfl (fun ls hl => ?_)
              refine lv_goto (tgt := 2) hx hb dX8_deal_103 (by decide) ?_
              refine lv_iload_n hx hb dX8_deal_2 rfl (lv_at hl 0 rfl) ?_
              refine lv_bipush (v := 6) hx hb dX8_deal_3 (by decide) ?_
              refine lv_icmp_ge (tgt := 106) hx hb dX8_deal_5 (by decide) (fun h => absurd h (by decide)) (fun _ => ?_)
              refine lv_aload_n hx hb dX8_deal_8 rfl (lv_at hl 1 rfl) ?_
              refine va_get (D := D) (ci := 8) (v := .ref (y 16)) (C := RX8) (T := TX8) (N := 52) hx hb hts w_1 hown hK hP 0 rfl rfl 33 (by decide) w_2 (fun _ h9 => h9) rfl dX8_deal_9 ?_
              refine lv_iload_n hx hb dX8_deal_12 rfl (lv_at hl 0 rfl) ?_
              refine sv_iald (v := 0) hx hb hK hP 1 1 rfl rfl (vp_in_iff.mpr (by decide)) rfl dX8_deal_13 ?_
              refine lv_istore_n (lv' := [(2, .int 0), (1, .int 2), (0, .ref (y 0)), (3, .int i_19)]) hx hb dX8_deal_14 rfl hl (by decide) rfl (fun ls hl => ?_)
              refine lv_iconst (v := 1) hx hb dX8_deal_15 (by decide) ?_
              refine lv_iload_n hx hb dX8_deal_16 rfl (lv_at hl 1 rfl) ?_
              refine sv_ishl (v := 4) hx hb dX8_deal_17 (by decide) ?_
              refine lv_istore_n (lv' := [(3, .int 4), (2, .int 0), (1, .int 2), (0, .ref (y 0))]) hx hb dX8_deal_18 rfl hl (by decide) rfl (fun ls hl => ?_)
              have L_5 : ∀ (n : Nat) (i_19 : Int32) (H : Heap) (locs : List Loc) (ls : Array Slot), (Int32.toInt 8 - i_19.toInt).toNat < n → va_P D vwCl [((y 0), .inr (8, [.ref (y 1), .int 0, .int 0, .ref (y 2), .int 1, .int 100, .int 7, .int 14, .int 3, .int 1, .int 8, .int 0, .int 0, .int (-1), .int 0, .ref (y 3), .ref (y 4), .int 0, .int 0, .ref (y 5), .ref (y 6), .ref (y 7), .ref (y 8), .ref (y 9), .int 0, .ref (y 10), .ref (y 11), .ref (y 12), .ref (y 13), .int 0, .int 0, .ref (y 14), .ref (y 15), .ref (y 16), .ref (y 17), .int 0, .int 0, .int 0, .int 0, .int 0, .int 0, .ref (y 18), .ref (y 19), .int 0, .int 0, .ref (y 20), .int 0, .ref (y 21), .ref (y 22), .ref (y 23), .ref (y 24), .ref (y 25)])), ((y 16), .inl (cI, 6, .inl (fun _ => 0))), ((y 24), .inl (cI, 6, .inl (fun _ => 0)))] H → va_D A [((y 0), .inr (8, [.ref (y 1), .int 0, .int 0, .ref (y 2), .int 1, .int 100, .int 7, .int 14, .int 3, .int 1, .int 8, .int 0, .int 0, .int (-1), .int 0, .ref (y 3), .ref (y 4), .int 0, .int 0, .ref (y 5), .ref (y 6), .ref (y 7), .ref (y 8), .ref (y 9), .int 0, .ref (y 10), .ref (y 11), .ref (y 12), .ref (y 13), .int 0, .int 0, .ref (y 14), .ref (y 15), .ref (y 16), .ref (y 17), .int 0, .int 0, .int 0, .int 0, .int 0, .int 0, .ref (y 18), .ref (y 19), .int 0, .int 0, .ref (y 20), .int 0, .ref (y 21), .ref (y 22), .ref (y 23), .ref (y 24), .ref (y 25)])), ((y 16), .inl (cI, 6, .inl (fun _ => 0))), ((y 24), .inl (cI, 6, .inl (fun _ => 0)))] → va_S A s.heap H locs → lv_has ls 7 [(0, .ref (y 0)), (1, .int 2), (2, .int 0), (3, .int i_19)] → W p l e (headSpec wsX8_deal ({ frames := 1, cells := 0, slots := 0, locals := 23 } : Room)).room s m ([.ref (y 0)] : List Value).toArray below meth c H locs 0 0 Q0 (F0 m 19 ls []) := by
                intro n
                induction n with
                | zero => intro i_19  H locs ls hn_19 hP hD hS hl; exact absurd hn_19 (Nat.not_lt_zero _)
                | succ n ih_L_5 =>
                  intro i_19  H locs ls hn_19 hP hD hS hl
                  refine lv_iload_n hx hb dX8_deal_19 rfl (lv_at hl 3 rfl) ?_
                  refine lv_iconst (v := 2) hx hb dX8_deal_20 (by decide) ?_
                  refine lv_iload_n hx hb dX8_deal_21 rfl (lv_at hl 1 rfl) ?_
                  refine sv_ishl (v := 8) hx hb dX8_deal_22 (by decide) ?_
                  refine lv_icmp_ge (tgt := 93) hx hb dX8_deal_23 (by decide) (fun c_23 => ?_) (fun c_23 => ?_)
                  ·
                    refine lv_aload_n hx hb dX8_deal_93 rfl (lv_at hl 0 rfl) ?_
                    refine va_get (D := D) (ci := 8) (v := .ref (y 24)) (C := RX8) (T := TX8) (N := 52) hx hb hts w_1 hown hK hP 0 rfl rfl 50 (by decide) w_3 (fun _ h9 => h9) rfl dX8_deal_94 ?_
                    refine lv_iload_n hx hb dX8_deal_97 rfl (lv_at hl 1 rfl) ?_
                    refine lv_iload_n hx hb dX8_deal_98 rfl (lv_at hl 2 rfl) ?_
                    refine sv_iast hx hb hK hP hD hS 2 1 rfl rfl (vp_in_iff.mpr (by decide)) dX8_deal_99 (fun g_6 H locs eg_6 hP hD hS => ?_)
                    have eg_6 : g_6 = (fun _ => 0) := by rw [eg_6]; exact upd_zero _
                    subst eg_6
                    have hP : va_P D vwCl [((y 0), .inr (8, [.ref (y 1), .int 0, .int 0, .ref (y 2), .int 1, .int 100, .int 7, .int 14, .int 3, .int 1, .int 8, .int 0, .int 0, .int (-1), .int 0, .ref (y 3), .ref (y 4), .int 0, .int 0, .ref (y 5), .ref (y 6), .ref (y 7), .ref (y 8), .ref (y 9), .int 0, .ref (y 10), .ref (y 11), .ref (y 12), .ref (y 13), .int 0, .int 0, .ref (y 14), .ref (y 15), .ref (y 16), .ref (y 17), .int 0, .int 0, .int 0, .int 0, .int 0, .int 0, .ref (y 18), .ref (y 19), .int 0, .int 0, .ref (y 20), .int 0, .ref (y 21), .ref (y 22), .ref (y 23), .ref (y 24), .ref (y 25)])), ((y 16), .inl (cI, 6, .inl (fun _ => 0))), ((y 24), .inl (cI, 6, .inl (fun _ => 0)))] H := hP
                    have hD : va_D A [((y 0), .inr (8, [.ref (y 1), .int 0, .int 0, .ref (y 2), .int 1, .int 100, .int 7, .int 14, .int 3, .int 1, .int 8, .int 0, .int 0, .int (-1), .int 0, .ref (y 3), .ref (y 4), .int 0, .int 0, .ref (y 5), .ref (y 6), .ref (y 7), .ref (y 8), .ref (y 9), .int 0, .ref (y 10), .ref (y 11), .ref (y 12), .ref (y 13), .int 0, .int 0, .ref (y 14), .ref (y 15), .ref (y 16), .ref (y 17), .int 0, .int 0, .int 0, .int 0, .int 0, .int 0, .ref (y 18), .ref (y 19), .int 0, .int 0, .ref (y 20), .int 0, .ref (y 21), .ref (y 22), .ref (y 23), .ref (y 24), .ref (y 25)])), ((y 16), .inl (cI, 6, .inl (fun _ => 0))), ((y 24), .inl (cI, 6, .inl (fun _ => 0)))] := hD
                    refine lv_iinc (v := 3) (lv' := [(1, .int 3), (0, .ref (y 0)), (2, .int 0), (3, .int i_19)]) hx hb dX8_deal_100 hl (k := 1) rfl (by decide) (by decide) rfl (fun ls hl => ?_)
                    refine lv_goto (tgt := 2) hx hb dX8_deal_103 (by decide) ?_
                    refine lv_iload_n hx hb dX8_deal_2 rfl (lv_at hl 0 rfl) ?_
                    refine lv_bipush (v := 6) hx hb dX8_deal_3 (by decide) ?_
                    refine lv_icmp_ge (tgt := 106) hx hb dX8_deal_5 (by decide) (fun h => absurd h (by decide)) (fun _ => ?_)
                    refine lv_aload_n hx hb dX8_deal_8 rfl (lv_at hl 1 rfl) ?_
                    refine va_get (D := D) (ci := 8) (v := .ref (y 16)) (C := RX8) (T := TX8) (N := 52) hx hb hts w_1 hown hK hP 0 rfl rfl 33 (by decide) w_2 (fun _ h9 => h9) rfl dX8_deal_9 ?_
                    refine lv_iload_n hx hb dX8_deal_12 rfl (lv_at hl 0 rfl) ?_
                    refine sv_iald (v := 0) hx hb hK hP 1 1 rfl rfl (vp_in_iff.mpr (by decide)) rfl dX8_deal_13 ?_
                    refine lv_istore_n (lv' := [(2, .int 0), (1, .int 3), (0, .ref (y 0)), (3, .int i_19)]) hx hb dX8_deal_14 rfl hl (by decide) rfl (fun ls hl => ?_)
                    refine lv_iconst (v := 1) hx hb dX8_deal_15 (by decide) ?_
                    refine lv_iload_n hx hb dX8_deal_16 rfl (lv_at hl 1 rfl) ?_
                    refine sv_ishl (v := 8) hx hb dX8_deal_17 (by decide) ?_
                    refine lv_istore_n (lv' := [(3, .int 8), (2, .int 0), (1, .int 3), (0, .ref (y 0))]) hx hb dX8_deal_18 rfl hl (by decide) rfl (fun ls hl => ?_)
                    have L_7 : ∀ (n : Nat) (i_19 : Int32) (H : Heap) (locs : List Loc) (ls : Array Slot), (Int32.toInt 16 - i_19.toInt).toNat < n → va_P D vwCl [((y 0), .inr (8, [.ref (y 1), .int 0, .int 0, .ref (y 2), .int 1, .int 100, .int 7, .int 14, .int 3, .int 1, .int 8, .int 0, .int 0, .int (-1), .int 0, .ref (y 3), .ref (y 4), .int 0, .int 0, .ref (y 5), .ref (y 6), .ref (y 7), .ref (y 8), .ref (y 9), .int 0, .ref (y 10), .ref (y 11), .ref (y 12), .ref (y 13), .int 0, .int 0, .ref (y 14), .ref (y 15), .ref (y 16), .ref (y 17), .int 0, .int 0, .int 0, .int 0, .int 0, .int 0, .ref (y 18), .ref (y 19), .int 0, .int 0, .ref (y 20), .int 0, .ref (y 21), .ref (y 22), .ref (y 23), .ref (y 24), .ref (y 25)])), ((y 16), .inl (cI, 6, .inl (fun _ => 0))), ((y 24), .inl (cI, 6, .inl (fun _ => 0)))] H → va_D A [((y 0), .inr (8, [.ref (y 1), .int 0, .int 0, .ref (y 2), .int 1, .int 100, .int 7, .int 14, .int 3, .int 1, .int 8, .int 0, .int 0, .int (-1), .int 0, .ref (y 3), .ref (y 4), .int 0, .int 0, .ref (y 5), .ref (y 6), .ref (y 7), .ref (y 8), .ref (y 9), .int 0, .ref (y 10), .ref (y 11), .ref (y 12), .ref (y 13), .int 0, .int 0, .ref (y 14), .ref (y 15), .ref (y 16), .ref (y 17), .int 0, .int 0, .int 0, .int 0, .int 0, .int 0, .ref (y 18), .ref (y 19), .int 0, .int 0, .ref (y 20), .int 0, .ref (y 21), .ref (y 22), .ref (y 23), .ref (y 24), .ref (y 25)])), ((y 16), .inl (cI, 6, .inl (fun _ => 0))), ((y 24), .inl (cI, 6, .inl (fun _ => 0)))] → va_S A s.heap H locs → lv_has ls 7 [(0, .ref (y 0)), (1, .int 3), (2, .int 0), (3, .int i_19)] → W p l e (headSpec wsX8_deal ({ frames := 1, cells := 0, slots := 0, locals := 23 } : Room)).room s m ([.ref (y 0)] : List Value).toArray below meth c H locs 0 0 Q0 (F0 m 19 ls []) := by
                      intro n
                      induction n with
                      | zero => intro i_19  H locs ls hn_19 hP hD hS hl; exact absurd hn_19 (Nat.not_lt_zero _)
                      | succ n ih_L_7 =>
                        intro i_19  H locs ls hn_19 hP hD hS hl
                        refine lv_iload_n hx hb dX8_deal_19 rfl (lv_at hl 3 rfl) ?_
                        refine lv_iconst (v := 2) hx hb dX8_deal_20 (by decide) ?_
                        refine lv_iload_n hx hb dX8_deal_21 rfl (lv_at hl 1 rfl) ?_
                        refine sv_ishl (v := 16) hx hb dX8_deal_22 (by decide) ?_
                        refine lv_icmp_ge (tgt := 93) hx hb dX8_deal_23 (by decide) (fun c_23 => ?_) (fun c_23 => ?_)
                        ·
                          refine lv_aload_n hx hb dX8_deal_93 rfl (lv_at hl 0 rfl) ?_
                          refine va_get (D := D) (ci := 8) (v := .ref (y 24)) (C := RX8) (T := TX8) (N := 52) hx hb hts w_1 hown hK hP 0 rfl rfl 50 (by decide) w_3 (fun _ h9 => h9) rfl dX8_deal_94 ?_
                          refine lv_iload_n hx hb dX8_deal_97 rfl (lv_at hl 1 rfl) ?_
                          refine lv_iload_n hx hb dX8_deal_98 rfl (lv_at hl 2 rfl) ?_
                          refine sv_iast hx hb hK hP hD hS 2 1 rfl rfl (vp_in_iff.mpr (by decide)) dX8_deal_99 (fun g_8 H locs eg_8 hP hD hS => ?_)
                          have eg_8 : g_8 = (fun _ => 0) := by rw [eg_8]; exact upd_zero _
                          subst eg_8
                          have hP : va_P D vwCl [((y 0), .inr (8, [.ref (y 1), .int 0, .int 0, .ref (y 2), .int 1, .int 100, .int 7, .int 14, .int 3, .int 1, .int 8, .int 0, .int 0, .int (-1), .int 0, .ref (y 3), .ref (y 4), .int 0, .int 0, .ref (y 5), .ref (y 6), .ref (y 7), .ref (y 8), .ref (y 9), .int 0, .ref (y 10), .ref (y 11), .ref (y 12), .ref (y 13), .int 0, .int 0, .ref (y 14), .ref (y 15), .ref (y 16), .ref (y 17), .int 0, .int 0, .int 0, .int 0, .int 0, .int 0, .ref (y 18), .ref (y 19), .int 0, .int 0, .ref (y 20), .int 0, .ref (y 21), .ref (y 22), .ref (y 23), .ref (y 24), .ref (y 25)])), ((y 16), .inl (cI, 6, .inl (fun _ => 0))), ((y 24), .inl (cI, 6, .inl (fun _ => 0)))] H := hP
                          have hD : va_D A [((y 0), .inr (8, [.ref (y 1), .int 0, .int 0, .ref (y 2), .int 1, .int 100, .int 7, .int 14, .int 3, .int 1, .int 8, .int 0, .int 0, .int (-1), .int 0, .ref (y 3), .ref (y 4), .int 0, .int 0, .ref (y 5), .ref (y 6), .ref (y 7), .ref (y 8), .ref (y 9), .int 0, .ref (y 10), .ref (y 11), .ref (y 12), .ref (y 13), .int 0, .int 0, .ref (y 14), .ref (y 15), .ref (y 16), .ref (y 17), .int 0, .int 0, .int 0, .int 0, .int 0, .int 0, .ref (y 18), .ref (y 19), .int 0, .int 0, .ref (y 20), .int 0, .ref (y 21), .ref (y 22), .ref (y 23), .ref (y 24), .ref (y 25)])), ((y 16), .inl (cI, 6, .inl (fun _ => 0))), ((y 24), .inl (cI, 6, .inl (fun _ => 0)))] := hD
                          refine lv_iinc (v := 4) (lv' := [(1, .int 4), (0, .ref (y 0)), (2, .int 0), (3, .int i_19)]) hx hb dX8_deal_100 hl (k := 1) rfl (by decide) (by decide) rfl (fun ls hl => ?_)
                          refine lv_goto (tgt := 2) hx hb dX8_deal_103 (by decide) ?_
                          refine lv_iload_n hx hb dX8_deal_2 rfl (lv_at hl 0 rfl) ?_
                          refine lv_bipush (v := 6) hx hb dX8_deal_3 (by decide) ?_
                          refine lv_icmp_ge (tgt := 106) hx hb dX8_deal_5 (by decide) (fun h => absurd h (by decide)) (fun _ => ?_)
                          refine lv_aload_n hx hb dX8_deal_8 rfl (lv_at hl 1 rfl) ?_
                          refine va_get (D := D) (ci := 8) (v := .ref (y 16)) (C := RX8) (T := TX8) (N := 52) hx hb hts w_1 hown hK hP 0 rfl rfl 33 (by decide) w_2 (fun _ h9 => h9) rfl dX8_deal_9 ?_
                          refine lv_iload_n hx hb dX8_deal_12 rfl (lv_at hl 0 rfl) ?_
                          refine sv_iald (v := 0) hx hb hK hP 1 1 rfl rfl (vp_in_iff.mpr (by decide)) rfl dX8_deal_13 ?_
                          refine lv_istore_n (lv' := [(2, .int 0), (1, .int 4), (0, .ref (y 0)), (3, .int i_19)]) hx hb dX8_deal_14 rfl hl (by decide) rfl (fun ls hl => ?_)
                          refine lv_iconst (v := 1) hx hb dX8_deal_15 (by decide) ?_
                          refine lv_iload_n hx hb dX8_deal_16 rfl (lv_at hl 1 rfl) ?_
                          refine sv_ishl (v := 16) hx hb dX8_deal_17 (by decide) ?_
                          refine lv_istore_n (lv' := [(3, .int 16), (2, .int 0), (1, .int 4), (0, .ref (y 0))]) hx hb dX8_deal_18 rfl hl (by decide) rfl (fun ls hl => ?_)
                          have L_9 : ∀ (n : Nat) (i_19 : Int32) (H : Heap) (locs : List Loc) (ls : Array Slot), (Int32.toInt 32 - i_19.toInt).toNat < n → va_P D vwCl [((y 0), .inr (8, [.ref (y 1), .int 0, .int 0, .ref (y 2), .int 1, .int 100, .int 7, .int 14, .int 3, .int 1, .int 8, .int 0, .int 0, .int (-1), .int 0, .ref (y 3), .ref (y 4), .int 0, .int 0, .ref (y 5), .ref (y 6), .ref (y 7), .ref (y 8), .ref (y 9), .int 0, .ref (y 10), .ref (y 11), .ref (y 12), .ref (y 13), .int 0, .int 0, .ref (y 14), .ref (y 15), .ref (y 16), .ref (y 17), .int 0, .int 0, .int 0, .int 0, .int 0, .int 0, .ref (y 18), .ref (y 19), .int 0, .int 0, .ref (y 20), .int 0, .ref (y 21), .ref (y 22), .ref (y 23), .ref (y 24), .ref (y 25)])), ((y 16), .inl (cI, 6, .inl (fun _ => 0))), ((y 24), .inl (cI, 6, .inl (fun _ => 0)))] H → va_D A [((y 0), .inr (8, [.ref (y 1), .int 0, .int 0, .ref (y 2), .int 1, .int 100, .int 7, .int 14, .int 3, .int 1, .int 8, .int 0, .int 0, .int (-1), .int 0, .ref (y 3), .ref (y 4), .int 0, .int 0, .ref (y 5), .ref (y 6), .ref (y 7), .ref (y 8), .ref (y 9), .int 0, .ref (y 10), .ref (y 11), .ref (y 12), .ref (y 13), .int 0, .int 0, .ref (y 14), .ref (y 15), .ref (y 16), .ref (y 17), .int 0, .int 0, .int 0, .int 0, .int 0, .int 0, .ref (y 18), .ref (y 19), .int 0, .int 0, .ref (y 20), .int 0, .ref (y 21), .ref (y 22), .ref (y 23), .ref (y 24), .ref (y 25)])), ((y 16), .inl (cI, 6, .inl (fun _ => 0))), ((y 24), .inl (cI, 6, .inl (fun _ => 0)))] → va_S A s.heap H locs → lv_has ls 7 [(0, .ref (y 0)), (1, .int 4), (2, .int 0), (3, .int i_19)] → W p l e (headSpec wsX8_deal ({ frames := 1, cells := 0, slots := 0, locals := 23 } : Room)).room s m ([.ref (y 0)] : List Value).toArray below meth c H locs 0 0 Q0 (F0 m 19 ls []) := by
                            intro n
                            induction n with
                            | zero => intro i_19  H locs ls hn_19 hP hD hS hl; exact absurd hn_19 (Nat.not_lt_zero _)
                            | succ n ih_L_9 =>
                              intro i_19  H locs ls hn_19 hP hD hS hl
                              refine lv_iload_n hx hb dX8_deal_19 rfl (lv_at hl 3 rfl) ?_
                              refine lv_iconst (v := 2) hx hb dX8_deal_20 (by decide) ?_
                              refine lv_iload_n hx hb dX8_deal_21 rfl (lv_at hl 1 rfl) ?_
                              refine sv_ishl (v := 32) hx hb dX8_deal_22 (by decide) ?_
                              refine lv_icmp_ge (tgt := 93) hx hb dX8_deal_23 (by decide) (fun c_23 => ?_) (fun c_23 => ?_)
                              ·
                                refine lv_aload_n hx hb dX8_deal_93 rfl (lv_at hl 0 rfl) ?_
                                refine va_get (D := D) (ci := 8) (v := .ref (y 24)) (C := RX8) (T := TX8) (N := 52) hx hb hts w_1 hown hK hP 0 rfl rfl 50 (by decide) w_3 (fun _ h9 => h9) rfl dX8_deal_94 ?_
                                refine lv_iload_n hx hb dX8_deal_97 rfl (lv_at hl 1 rfl) ?_
                                refine lv_iload_n hx hb dX8_deal_98 rfl (lv_at hl 2 rfl) ?_
                                refine sv_iast hx hb hK hP hD hS 2 1 rfl rfl (vp_in_iff.mpr (by decide)) dX8_deal_99 (fun g_10 H locs eg_10 hP hD hS => ?_)
                                have eg_10 : g_10 = (fun _ => 0) := by rw [eg_10]; exact upd_zero _
                                subst eg_10
                                have hP : va_P D vwCl [((y 0), .inr (8, [.ref (y 1), .int 0, .int 0, .ref (y 2), .int 1, .int 100, .int 7, .int 14, .int 3, .int 1, .int 8, .int 0, .int 0, .int (-1), .int 0, .ref (y 3), .ref (y 4), .int 0, .int 0, .ref (y 5), .ref (y 6), .ref (y 7), .ref (y 8), .ref (y 9), .int 0, .ref (y 10), .ref (y 11), .ref (y 12), .ref (y 13), .int 0, .int 0, .ref (y 14), .ref (y 15), .ref (y 16), .ref (y 17), .int 0, .int 0, .int 0, .int 0, .int 0, .int 0, .ref (y 18), .ref (y 19), .int 0, .int 0, .ref (y 20), .int 0, .ref (y 21), .ref (y 22), .ref (y 23), .ref (y 24), .ref (y 25)])), ((y 16), .inl (cI, 6, .inl (fun _ => 0))), ((y 24), .inl (cI, 6, .inl (fun _ => 0)))] H := hP
                                have hD : va_D A [((y 0), .inr (8, [.ref (y 1), .int 0, .int 0, .ref (y 2), .int 1, .int 100, .int 7, .int 14, .int 3, .int 1, .int 8, .int 0, .int 0, .int (-1), .int 0, .ref (y 3), .ref (y 4), .int 0, .int 0, .ref (y 5), .ref (y 6), .ref (y 7), .ref (y 8), .ref (y 9), .int 0, .ref (y 10), .ref (y 11), .ref (y 12), .ref (y 13), .int 0, .int 0, .ref (y 14), .ref (y 15), .ref (y 16), .ref (y 17), .int 0, .int 0, .int 0, .int 0, .int 0, .int 0, .ref (y 18), .ref (y 19), .int 0, .int 0, .ref (y 20), .int 0, .ref (y 21), .ref (y 22), .ref (y 23), .ref (y 24), .ref (y 25)])), ((y 16), .inl (cI, 6, .inl (fun _ => 0))), ((y 24), .inl (cI, 6, .inl (fun _ => 0)))] := hD
                                refine lv_iinc (v := 5) (lv' := [(1, .int 5), (0, .ref (y 0)), (2, .int 0), (3, .int i_19)]) hx hb dX8_deal_100 hl (k := 1) rfl (by decide) (by decide) rfl (fun ls hl => ?_)
                                refine lv_goto (tgt := 2) hx hb dX8_deal_103 (by decide) ?_
                                refine lv_iload_n hx hb dX8_deal_2 rfl (lv_at hl 0 rfl) ?_
                                refine lv_bipush (v := 6) hx hb dX8_deal_3 (by decide) ?_
                                refine lv_icmp_ge (tgt := 106) hx hb dX8_deal_5 (by decide) (fun h => absurd h (by decide)) (fun _ => ?_)
                                refine lv_aload_n hx hb dX8_deal_8 rfl (lv_at hl 1 rfl) ?_
                                refine va_get (D := D) (ci := 8) (v := .ref (y 16)) (C := RX8) (T := TX8) (N := 52) hx hb hts w_1 hown hK hP 0 rfl rfl 33 (by decide) w_2 (fun _ h9 => h9) rfl dX8_deal_9 ?_
                                refine lv_iload_n hx hb dX8_deal_12 rfl (lv_at hl 0 rfl) ?_
                                refine sv_iald (v := 0) hx hb hK hP 1 1 rfl rfl (vp_in_iff.mpr (by decide)) rfl dX8_deal_13 ?_
                                refine lv_istore_n (lv' := [(2, .int 0), (1, .int 5), (0, .ref (y 0)), (3, .int i_19)]) hx hb dX8_deal_14 rfl hl (by decide) rfl (fun ls hl => ?_)
                                refine lv_iconst (v := 1) hx hb dX8_deal_15 (by decide) ?_
                                refine lv_iload_n hx hb dX8_deal_16 rfl (lv_at hl 1 rfl) ?_
                                refine sv_ishl (v := 32) hx hb dX8_deal_17 (by decide) ?_
                                refine lv_istore_n (lv' := [(3, .int 32), (2, .int 0), (1, .int 5), (0, .ref (y 0))]) hx hb dX8_deal_18 rfl hl (by decide) rfl (fun ls hl => ?_)
                                have L_11 : ∀ (n : Nat) (i_19 : Int32) (H : Heap) (locs : List Loc) (ls : Array Slot), (Int32.toInt 64 - i_19.toInt).toNat < n → va_P D vwCl [((y 0), .inr (8, [.ref (y 1), .int 0, .int 0, .ref (y 2), .int 1, .int 100, .int 7, .int 14, .int 3, .int 1, .int 8, .int 0, .int 0, .int (-1), .int 0, .ref (y 3), .ref (y 4), .int 0, .int 0, .ref (y 5), .ref (y 6), .ref (y 7), .ref (y 8), .ref (y 9), .int 0, .ref (y 10), .ref (y 11), .ref (y 12), .ref (y 13), .int 0, .int 0, .ref (y 14), .ref (y 15), .ref (y 16), .ref (y 17), .int 0, .int 0, .int 0, .int 0, .int 0, .int 0, .ref (y 18), .ref (y 19), .int 0, .int 0, .ref (y 20), .int 0, .ref (y 21), .ref (y 22), .ref (y 23), .ref (y 24), .ref (y 25)])), ((y 16), .inl (cI, 6, .inl (fun _ => 0))), ((y 24), .inl (cI, 6, .inl (fun _ => 0)))] H → va_D A [((y 0), .inr (8, [.ref (y 1), .int 0, .int 0, .ref (y 2), .int 1, .int 100, .int 7, .int 14, .int 3, .int 1, .int 8, .int 0, .int 0, .int (-1), .int 0, .ref (y 3), .ref (y 4), .int 0, .int 0, .ref (y 5), .ref (y 6), .ref (y 7), .ref (y 8), .ref (y 9), .int 0, .ref (y 10), .ref (y 11), .ref (y 12), .ref (y 13), .int 0, .int 0, .ref (y 14), .ref (y 15), .ref (y 16), .ref (y 17), .int 0, .int 0, .int 0, .int 0, .int 0, .int 0, .ref (y 18), .ref (y 19), .int 0, .int 0, .ref (y 20), .int 0, .ref (y 21), .ref (y 22), .ref (y 23), .ref (y 24), .ref (y 25)])), ((y 16), .inl (cI, 6, .inl (fun _ => 0))), ((y 24), .inl (cI, 6, .inl (fun _ => 0)))] → va_S A s.heap H locs → lv_has ls 7 [(0, .ref (y 0)), (1, .int 5), (2, .int 0), (3, .int i_19)] → W p l e (headSpec wsX8_deal ({ frames := 1, cells := 0, slots := 0, locals := 23 } : Room)).room s m ([.ref (y 0)] : List Value).toArray below meth c H locs 0 0 Q0 (F0 m 19 ls []) := by
                                  intro n
                                  induction n with
                                  | zero => intro i_19  H locs ls hn_19 hP hD hS hl; exact absurd hn_19 (Nat.not_lt_zero _)
                                  | succ n ih_L_11 =>
                                    intro i_19  H locs ls hn_19 hP hD hS hl
                                    refine lv_iload_n hx hb dX8_deal_19 rfl (lv_at hl 3 rfl) ?_
                                    refine lv_iconst (v := 2) hx hb dX8_deal_20 (by decide) ?_
                                    refine lv_iload_n hx hb dX8_deal_21 rfl (lv_at hl 1 rfl) ?_
                                    refine sv_ishl (v := 64) hx hb dX8_deal_22 (by decide) ?_
                                    refine lv_icmp_ge (tgt := 93) hx hb dX8_deal_23 (by decide) (fun c_23 => ?_) (fun c_23 => ?_)
                                    ·
                                      refine lv_aload_n hx hb dX8_deal_93 rfl (lv_at hl 0 rfl) ?_
                                      refine va_get (D := D) (ci := 8) (v := .ref (y 24)) (C := RX8) (T := TX8) (N := 52) hx hb hts w_1 hown hK hP 0 rfl rfl 50 (by decide) w_3 (fun _ h9 => h9) rfl dX8_deal_94 ?_
                                      refine lv_iload_n hx hb dX8_deal_97 rfl (lv_at hl 1 rfl) ?_
                                      refine lv_iload_n hx hb dX8_deal_98 rfl (lv_at hl 2 rfl) ?_
                                      refine sv_iast hx hb hK hP hD hS 2 1 rfl rfl (vp_in_iff.mpr (by decide)) dX8_deal_99 (fun g_12 H locs eg_12 hP hD hS => ?_)
                                      have eg_12 : g_12 = (fun _ => 0) := by rw [eg_12]; exact upd_zero _
                                      subst eg_12
                                      have hP : va_P D vwCl [((y 0), .inr (8, [.ref (y 1), .int 0, .int 0, .ref (y 2), .int 1, .int 100, .int 7, .int 14, .int 3, .int 1, .int 8, .int 0, .int 0, .int (-1), .int 0, .ref (y 3), .ref (y 4), .int 0, .int 0, .ref (y 5), .ref (y 6), .ref (y 7), .ref (y 8), .ref (y 9), .int 0, .ref (y 10), .ref (y 11), .ref (y 12), .ref (y 13), .int 0, .int 0, .ref (y 14), .ref (y 15), .ref (y 16), .ref (y 17), .int 0, .int 0, .int 0, .int 0, .int 0, .int 0, .ref (y 18), .ref (y 19), .int 0, .int 0, .ref (y 20), .int 0, .ref (y 21), .ref (y 22), .ref (y 23), .ref (y 24), .ref (y 25)])), ((y 16), .inl (cI, 6, .inl (fun _ => 0))), ((y 24), .inl (cI, 6, .inl (fun _ => 0)))] H := hP
                                      have hD : va_D A [((y 0), .inr (8, [.ref (y 1), .int 0, .int 0, .ref (y 2), .int 1, .int 100, .int 7, .int 14, .int 3, .int 1, .int 8, .int 0, .int 0, .int (-1), .int 0, .ref (y 3), .ref (y 4), .int 0, .int 0, .ref (y 5), .ref (y 6), .ref (y 7), .ref (y 8), .ref (y 9), .int 0, .ref (y 10), .ref (y 11), .ref (y 12), .ref (y 13), .int 0, .int 0, .ref (y 14), .ref (y 15), .ref (y 16), .ref (y 17), .int 0, .int 0, .int 0, .int 0, .int 0, .int 0, .ref (y 18), .ref (y 19), .int 0, .int 0, .ref (y 20), .int 0, .ref (y 21), .ref (y 22), .ref (y 23), .ref (y 24), .ref (y 25)])), ((y 16), .inl (cI, 6, .inl (fun _ => 0))), ((y 24), .inl (cI, 6, .inl (fun _ => 0)))] := hD
                                      refine lv_iinc (v := 6) (lv' := [(1, .int 6), (0, .ref (y 0)), (2, .int 0), (3, .int i_19)]) hx hb dX8_deal_100 hl (k := 1) rfl (by decide) (by decide) rfl (fun ls hl => ?_)
                                      refine lv_goto (tgt := 2) hx hb dX8_deal_103 (by decide) ?_
                                      refine lv_iload_n hx hb dX8_deal_2 rfl (lv_at hl 0 rfl) ?_
                                      refine lv_bipush (v := 6) hx hb dX8_deal_3 (by decide) ?_
                                      refine lv_icmp_ge (tgt := 106) hx hb dX8_deal_5 (by decide) (fun _ => ?_) (fun h => absurd (by decide) h)
                                      refine lv_iconst (v := 0) hx hb dX8_deal_106 (by decide) ?_
                                      refine lv_istore_n (lv' := [(1, .int 0), (0, .ref (y 0)), (2, .int 0), (3, .int i_19)]) hx hb dX8_deal_107 rfl hl (by decide) rfl (fun ls hl => ?_)
                                      refine lv_iload_n hx hb dX8_deal_108 rfl (lv_at hl 0 rfl) ?_
                                      refine lv_aload_n hx hb dX8_deal_109 rfl (lv_at hl 1 rfl) ?_
                                      refine va_get (D := D) (ci := 8) (v := .int 0) (C := RX8) (T := TX8) (N := 52) hx hb hts w_1 hown hK hP 0 rfl rfl 30 (by decide) w_4 (fun _ h9 => h9) rfl dX8_deal_110 ?_
                                      refine lv_icmp_ge (tgt := 297) hx hb dX8_deal_113 (by decide) (fun _ => ?_) (fun h => absurd (by decide) h)
                                      rw [← hQ]
                                      have hP9 := hP.sub (ws' := [((y 0), .inr (8, [.ref (y 1), .int 0, .int 0, .ref (y 2), .int 1, .int 100, .int 7, .int 14, .int 3, .int 1, .int 8, .int 0, .int 0, .int (-1), .int 0, .ref (y 3), .ref (y 4), .int 0, .int 0, .ref (y 5), .ref (y 6), .ref (y 7), .ref (y 8), .ref (y 9), .int 0, .ref (y 10), .ref (y 11), .ref (y 12), .ref (y 13), .int 0, .int 0, .ref (y 14), .ref (y 15), .ref (y 16), .ref (y 17), .int 0, .int 0, .int 0, .int 0, .int 0, .int 0, .ref (y 18), .ref (y 19), .int 0, .int 0, .ref (y 20), .int 0, .ref (y 21), .ref (y 22), .ref (y 23), .ref (y 24), .ref (y 25)])), ((y 16), .inl (cI, 6, .inl (fun _ => 0))), ((y 24), .inl (cI, 6, .inl (fun _ => 0)))]) [0, 1, 2] rfl
                                      have hD9 := hD.sub (ws' := [((y 0), .inr (8, [.ref (y 1), .int 0, .int 0, .ref (y 2), .int 1, .int 100, .int 7, .int 14, .int 3, .int 1, .int 8, .int 0, .int 0, .int (-1), .int 0, .ref (y 3), .ref (y 4), .int 0, .int 0, .ref (y 5), .ref (y 6), .ref (y 7), .ref (y 8), .ref (y 9), .int 0, .ref (y 10), .ref (y 11), .ref (y 12), .ref (y 13), .int 0, .int 0, .ref (y 14), .ref (y 15), .ref (y 16), .ref (y 17), .int 0, .int 0, .int 0, .int 0, .int 0, .int 0, .ref (y 18), .ref (y 19), .int 0, .int 0, .ref (y 20), .int 0, .ref (y 21), .ref (y 22), .ref (y 23), .ref (y 24), .ref (y 25)])), ((y 16), .inl (cI, 6, .inl (fun _ => 0))), ((y 24), .inl (cI, 6, .inl (fun _ => 0)))]) [0, 1, 2] (by decide) rfl
                                      exact W.vret hx hb hr (fun t ht hW => ⟨⟨(), rfl, trivial, by rw [ht]; exact hP9, va_K.moved hW.alike hK, hD9⟩, hS.F ht⟩) hS.2.2 dX8_deal_297
                                    ·
                                      refine lv_aload_n hx hb dX8_deal_26 rfl (lv_at hl 0 rfl) ?_
                                      refine lv_iload_n hx hb dX8_deal_27 rfl (lv_at hl 3 rfl) ?_
                                      refine vp_callSi (va_Run.run (va_runV (As := [.int i_19]) (rest := []) ⟨hx, hb, hml, hown, hts⟩ (m_X8_coinsFor l D cB cI cJ cZ y i_19) (cwV 1 hts gX8_deal_X8_coinsFor rfl rfl rfl (by decide +kernel) ⟨Nat.le_of_ble_eq_true rfl, Nat.le_of_ble_eq_true rfl⟩) (pre_VR (hP.sub (ws' := [((y 0), .inr (8, [.ref (y 1), .int 0, .int 0, .ref (y 2), .int 1, .int 100, .int 7, .int 14, .int 3, .int 1, .int 8, .int 0, .int 0, .int (-1), .int 0, .ref (y 3), .ref (y 4), .int 0, .int 0, .ref (y 5), .ref (y 6), .ref (y 7), .ref (y 8), .ref (y 9), .int 0, .ref (y 10), .ref (y 11), .ref (y 12), .ref (y 13), .int 0, .int 0, .ref (y 14), .ref (y 15), .ref (y 16), .ref (y 17), .int 0, .int 0, .int 0, .int 0, .int 0, .int 0, .ref (y 18), .ref (y 19), .int 0, .int 0, .ref (y 20), .int 0, .ref (y 21), .ref (y 22), .ref (y 23), .ref (y 24), .ref (y 25)]))]) [0] rfl) hK 0 rfl rfl rfl) rfl rfl hl.1 rfl (lv_room (Nat.le_of_ble_eq_true rfl)) dX8_deal_28 ⟨Nat.le_of_ble_eq_true rfl, Nat.le_of_ble_eq_true rfl⟩)) (fun r_13 hw_r_13 => ?_)
                                      subst hw_r_13
                                      refine lv_istore (lv' := [(4, .int 0), (0, .ref (y 0)), (1, .int 5), (2, .int 0), (3, .int i_19)]) hx hb dX8_deal_31 hl (by decide) rfl (fun ls hl => ?_)
                                      refine lv_iconst (v := 0) hx hb dX8_deal_33 (by decide) ?_
                                      refine lv_istore (lv' := [(5, .int 0), (4, .int 0), (0, .ref (y 0)), (1, .int 5), (2, .int 0), (3, .int i_19)]) hx hb dX8_deal_34 hl (by decide) rfl (fun ls hl => ?_)
                                      have L_14 : ∀ (n : Nat) (i_36 : Int32) (H : Heap) (locs : List Loc) (ls : Array Slot), (Int32.toInt 5 - i_36.toInt).toNat < n → 0 ≤ i_36.toInt → va_P D vwCl [((y 0), .inr (8, [.ref (y 1), .int 0, .int 0, .ref (y 2), .int 1, .int 100, .int 7, .int 14, .int 3, .int 1, .int 8, .int 0, .int 0, .int (-1), .int 0, .ref (y 3), .ref (y 4), .int 0, .int 0, .ref (y 5), .ref (y 6), .ref (y 7), .ref (y 8), .ref (y 9), .int 0, .ref (y 10), .ref (y 11), .ref (y 12), .ref (y 13), .int 0, .int 0, .ref (y 14), .ref (y 15), .ref (y 16), .ref (y 17), .int 0, .int 0, .int 0, .int 0, .int 0, .int 0, .ref (y 18), .ref (y 19), .int 0, .int 0, .ref (y 20), .int 0, .ref (y 21), .ref (y 22), .ref (y 23), .ref (y 24), .ref (y 25)])), ((y 16), .inl (cI, 6, .inl (fun _ => 0))), ((y 24), .inl (cI, 6, .inl (fun _ => 0)))] H → va_D A [((y 0), .inr (8, [.ref (y 1), .int 0, .int 0, .ref (y 2), .int 1, .int 100, .int 7, .int 14, .int 3, .int 1, .int 8, .int 0, .int 0, .int (-1), .int 0, .ref (y 3), .ref (y 4), .int 0, .int 0, .ref (y 5), .ref (y 6), .ref (y 7), .ref (y 8), .ref (y 9), .int 0, .ref (y 10), .ref (y 11), .ref (y 12), .ref (y 13), .int 0, .int 0, .ref (y 14), .ref (y 15), .ref (y 16), .ref (y 17), .int 0, .int 0, .int 0, .int 0, .int 0, .int 0, .ref (y 18), .ref (y 19), .int 0, .int 0, .ref (y 20), .int 0, .ref (y 21), .ref (y 22), .ref (y 23), .ref (y 24), .ref (y 25)])), ((y 16), .inl (cI, 6, .inl (fun _ => 0))), ((y 24), .inl (cI, 6, .inl (fun _ => 0)))] → va_S A s.heap H locs → lv_has ls 7 [(0, .ref (y 0)), (1, .int 5), (2, .int 0), (3, .int i_19), (4, .int 0), (5, .int i_36)] → W p l e (headSpec wsX8_deal ({ frames := 1, cells := 0, slots := 0, locals := 23 } : Room)).room s m ([.ref (y 0)] : List Value).toArray below meth c H locs 0 0 Q0 (F0 m 36 ls []) := by
                                        intro n
                                        induction n with
                                        | zero => intro i_36  H locs ls hn_36 hlo_36 hP hD hS hl; exact absurd hn_36 (Nat.not_lt_zero _)
                                        | succ n ih_L_14 =>
                                          intro i_36  H locs ls hn_36 hlo_36 hP hD hS hl
                                          refine lv_iload hx hb dX8_deal_36 (lv_at hl 5 rfl) ?_
                                          refine lv_iload_n hx hb dX8_deal_38 rfl (lv_at hl 1 rfl) ?_
                                          refine lv_icmp_ge (tgt := 74) hx hb dX8_deal_39 (by decide) (fun c_39 => ?_) (fun c_39 => ?_)
                                          ·
                                            refine lv_iload hx hb dX8_deal_74 (lv_at hl 4 rfl) ?_
                                            refine lv_iload_n hx hb dX8_deal_76 rfl (lv_at hl 2 rfl) ?_
                                            refine lv_icmp_ge (tgt := 85) hx hb dX8_deal_77 (by decide) (fun _ => ?_) (fun h => absurd (by decide) h)
                                            refine lv_iload_n hx hb dX8_deal_85 rfl (lv_at hl 2 rfl) ?_
                                            refine lv_istore_n (lv' := [(2, .int 0), (0, .ref (y 0)), (1, .int 5), (3, .int i_19), (4, .int 0), (5, .int i_36)]) hx hb dX8_deal_86 rfl hl (by decide) rfl (fun ls hl => ?_)
                                            refine lv_iinc (v := i_19 + 1) (lv' := [(3, .int (i_19 + 1)), (2, .int 0), (0, .ref (y 0)), (1, .int 5), (4, .int 0), (5, .int i_36)]) hx hb dX8_deal_87 hl (k := 3) rfl rfl (by decide) rfl (fun ls hl => ?_)
                                            refine lv_goto (tgt := 19) hx hb dX8_deal_90 (by decide) ?_
                                            exact ih_L_11 (i_19 + 1)  _ _ ls (lp_dec hn_19 c_23) hP hD hS (lv_sub hl [2, 3, 1, 0] rfl)
                                          ·
                                            refine lv_iload hx hb dX8_deal_42 (lv_at hl 4 rfl) ?_
                                            refine lv_iload_n hx hb dX8_deal_44 rfl (lv_at hl 3 rfl) ?_
                                            refine lv_iload hx hb dX8_deal_45 (lv_at hl 5 rfl) ?_
                                            refine sv_ishr (v := i_19 >>> (i_36 &&& 31)) hx hb dX8_deal_47 rfl ?_
                                            refine lv_iconst (v := 1) hx hb dX8_deal_48 (by decide) ?_
                                            refine sv_iand (v := (i_19 >>> (i_36 &&& 31)) &&& 1) hx hb dX8_deal_49 rfl ?_
                                            refine lv_iconst (v := 1) hx hb dX8_deal_50 (by decide) ?_
                                            refine lv_icmp_ne (tgt := 64) hx hb dX8_deal_51 (by decide) (fun c_51 => ?_) (fun c_51 => ?_)
                                            ·
                                              refine lv_iconst (v := 0) hx hb dX8_deal_64 (by decide) ?_
                                              refine sv_isub (v := 0) hx hb dX8_deal_65 (by decide) ?_
                                              refine lv_istore (lv' := [(4, .int 0), (0, .ref (y 0)), (1, .int 5), (2, .int 0), (3, .int i_19), (5, .int i_36)]) hx hb dX8_deal_66 hl (by decide) rfl (fun ls hl => ?_)
                                              refine lv_iinc (v := i_36 + 1) (lv' := [(5, .int (i_36 + 1)), (4, .int 0), (0, .ref (y 0)), (1, .int 5), (2, .int 0), (3, .int i_19)]) hx hb dX8_deal_68 hl (k := 5) rfl rfl (by decide) rfl (fun ls hl => ?_)
                                              refine lv_goto (tgt := 36) hx hb dX8_deal_71 (by decide) ?_
                                              exact ih_L_14 (i_36 + 1)  _ _ ls (lp_dec hn_36 c_39) (by have h9 := lp_inc c_39; omega) hP hD hS (lv_sub hl [2, 3, 4, 5, 1, 0] rfl)
                                            ·
                                              refine lv_aload_n hx hb dX8_deal_54 rfl (lv_at hl 0 rfl) ?_
                                              refine va_get (D := D) (ci := 8) (v := .ref (y 24)) (C := RX8) (T := TX8) (N := 52) hx hb hts w_1 hown hK hP 0 rfl rfl 50 (by decide) w_3 (fun _ h9 => h9) rfl dX8_deal_55 ?_
                                              refine lv_iload hx hb dX8_deal_58 (lv_at hl 5 rfl) ?_
                                              refine sv_iald (v := 0) hx hb hK hP 2 1 rfl rfl (lp_in hlo_36 c_39 (by decide)) rfl dX8_deal_60 ?_
                                              refine lv_goto (tgt := 65) hx hb dX8_deal_61 (by decide) ?_
                                              refine sv_isub (v := 0) hx hb dX8_deal_65 (by decide) ?_
                                              refine lv_istore (lv' := [(4, .int 0), (0, .ref (y 0)), (1, .int 5), (2, .int 0), (3, .int i_19), (5, .int i_36)]) hx hb dX8_deal_66 hl (by decide) rfl (fun ls hl => ?_)
                                              refine lv_iinc (v := i_36 + 1) (lv' := [(5, .int (i_36 + 1)), (4, .int 0), (0, .ref (y 0)), (1, .int 5), (2, .int 0), (3, .int i_19)]) hx hb dX8_deal_68 hl (k := 5) rfl rfl (by decide) rfl (fun ls hl => ?_)
                                              refine lv_goto (tgt := 36) hx hb dX8_deal_71 (by decide) ?_
                                              exact ih_L_14 (i_36 + 1)  _ _ ls (lp_dec hn_36 c_39) (by have h9 := lp_inc c_39; omega) hP hD hS (lv_sub hl [2, 3, 4, 5, 1, 0] rfl)
                                      exact L_14 _ 0  _ _ ls (Nat.lt_succ_self _) (by decide) hP hD hS (lv_sub hl [2, 3, 4, 5, 1, 0] rfl)
                                exact L_11 _ 32  _ _ ls (Nat.lt_succ_self _) hP hD hS (lv_sub hl [3, 2, 1, 0] rfl)
                              ·
                                refine lv_aload_n hx hb dX8_deal_26 rfl (lv_at hl 0 rfl) ?_
                                refine lv_iload_n hx hb dX8_deal_27 rfl (lv_at hl 3 rfl) ?_
                                refine vp_callSi (va_Run.run (va_runV (As := [.int i_19]) (rest := []) ⟨hx, hb, hml, hown, hts⟩ (m_X8_coinsFor l D cB cI cJ cZ y i_19) (cwV 1 hts gX8_deal_X8_coinsFor rfl rfl rfl (by decide +kernel) ⟨Nat.le_of_ble_eq_true rfl, Nat.le_of_ble_eq_true rfl⟩) (pre_VR (hP.sub (ws' := [((y 0), .inr (8, [.ref (y 1), .int 0, .int 0, .ref (y 2), .int 1, .int 100, .int 7, .int 14, .int 3, .int 1, .int 8, .int 0, .int 0, .int (-1), .int 0, .ref (y 3), .ref (y 4), .int 0, .int 0, .ref (y 5), .ref (y 6), .ref (y 7), .ref (y 8), .ref (y 9), .int 0, .ref (y 10), .ref (y 11), .ref (y 12), .ref (y 13), .int 0, .int 0, .ref (y 14), .ref (y 15), .ref (y 16), .ref (y 17), .int 0, .int 0, .int 0, .int 0, .int 0, .int 0, .ref (y 18), .ref (y 19), .int 0, .int 0, .ref (y 20), .int 0, .ref (y 21), .ref (y 22), .ref (y 23), .ref (y 24), .ref (y 25)]))]) [0] rfl) hK 0 rfl rfl rfl) rfl rfl hl.1 rfl (lv_room (Nat.le_of_ble_eq_true rfl)) dX8_deal_28 ⟨Nat.le_of_ble_eq_true rfl, Nat.le_of_ble_eq_true rfl⟩)) (fun r_15 hw_r_15 => ?_)
                                subst hw_r_15
                                refine lv_istore (lv' := [(4, .int 0), (0, .ref (y 0)), (1, .int 4), (2, .int 0), (3, .int i_19)]) hx hb dX8_deal_31 hl (by decide) rfl (fun ls hl => ?_)
                                refine lv_iconst (v := 0) hx hb dX8_deal_33 (by decide) ?_
                                refine lv_istore (lv' := [(5, .int 0), (4, .int 0), (0, .ref (y 0)), (1, .int 4), (2, .int 0), (3, .int i_19)]) hx hb dX8_deal_34 hl (by decide) rfl (fun ls hl => ?_)
                                have L_16 : ∀ (n : Nat) (i_36 : Int32) (H : Heap) (locs : List Loc) (ls : Array Slot), (Int32.toInt 4 - i_36.toInt).toNat < n → 0 ≤ i_36.toInt → va_P D vwCl [((y 0), .inr (8, [.ref (y 1), .int 0, .int 0, .ref (y 2), .int 1, .int 100, .int 7, .int 14, .int 3, .int 1, .int 8, .int 0, .int 0, .int (-1), .int 0, .ref (y 3), .ref (y 4), .int 0, .int 0, .ref (y 5), .ref (y 6), .ref (y 7), .ref (y 8), .ref (y 9), .int 0, .ref (y 10), .ref (y 11), .ref (y 12), .ref (y 13), .int 0, .int 0, .ref (y 14), .ref (y 15), .ref (y 16), .ref (y 17), .int 0, .int 0, .int 0, .int 0, .int 0, .int 0, .ref (y 18), .ref (y 19), .int 0, .int 0, .ref (y 20), .int 0, .ref (y 21), .ref (y 22), .ref (y 23), .ref (y 24), .ref (y 25)])), ((y 16), .inl (cI, 6, .inl (fun _ => 0))), ((y 24), .inl (cI, 6, .inl (fun _ => 0)))] H → va_D A [((y 0), .inr (8, [.ref (y 1), .int 0, .int 0, .ref (y 2), .int 1, .int 100, .int 7, .int 14, .int 3, .int 1, .int 8, .int 0, .int 0, .int (-1), .int 0, .ref (y 3), .ref (y 4), .int 0, .int 0, .ref (y 5), .ref (y 6), .ref (y 7), .ref (y 8), .ref (y 9), .int 0, .ref (y 10), .ref (y 11), .ref (y 12), .ref (y 13), .int 0, .int 0, .ref (y 14), .ref (y 15), .ref (y 16), .ref (y 17), .int 0, .int 0, .int 0, .int 0, .int 0, .int 0, .ref (y 18), .ref (y 19), .int 0, .int 0, .ref (y 20), .int 0, .ref (y 21), .ref (y 22), .ref (y 23), .ref (y 24), .ref (y 25)])), ((y 16), .inl (cI, 6, .inl (fun _ => 0))), ((y 24), .inl (cI, 6, .inl (fun _ => 0)))] → va_S A s.heap H locs → lv_has ls 7 [(0, .ref (y 0)), (1, .int 4), (2, .int 0), (3, .int i_19), (4, .int 0), (5, .int i_36)] → W p l e (headSpec wsX8_deal ({ frames := 1, cells := 0, slots := 0, locals := 23 } : Room)).room s m ([.ref (y 0)] : List Value).toArray below meth c H locs 0 0 Q0 (F0 m 36 ls []) := by
                                  intro n
                                  induction n with
                                  | zero => intro i_36  H locs ls hn_36 hlo_36 hP hD hS hl; exact absurd hn_36 (Nat.not_lt_zero _)
                                  | succ n ih_L_16 =>
                                    intro i_36  H locs ls hn_36 hlo_36 hP hD hS hl
                                    refine lv_iload hx hb dX8_deal_36 (lv_at hl 5 rfl) ?_
                                    refine lv_iload_n hx hb dX8_deal_38 rfl (lv_at hl 1 rfl) ?_
                                    refine lv_icmp_ge (tgt := 74) hx hb dX8_deal_39 (by decide) (fun c_39 => ?_) (fun c_39 => ?_)
                                    ·
                                      refine lv_iload hx hb dX8_deal_74 (lv_at hl 4 rfl) ?_
                                      refine lv_iload_n hx hb dX8_deal_76 rfl (lv_at hl 2 rfl) ?_
                                      refine lv_icmp_ge (tgt := 85) hx hb dX8_deal_77 (by decide) (fun _ => ?_) (fun h => absurd (by decide) h)
                                      refine lv_iload_n hx hb dX8_deal_85 rfl (lv_at hl 2 rfl) ?_
                                      refine lv_istore_n (lv' := [(2, .int 0), (0, .ref (y 0)), (1, .int 4), (3, .int i_19), (4, .int 0), (5, .int i_36)]) hx hb dX8_deal_86 rfl hl (by decide) rfl (fun ls hl => ?_)
                                      refine lv_iinc (v := i_19 + 1) (lv' := [(3, .int (i_19 + 1)), (2, .int 0), (0, .ref (y 0)), (1, .int 4), (4, .int 0), (5, .int i_36)]) hx hb dX8_deal_87 hl (k := 3) rfl rfl (by decide) rfl (fun ls hl => ?_)
                                      refine lv_goto (tgt := 19) hx hb dX8_deal_90 (by decide) ?_
                                      exact ih_L_9 (i_19 + 1)  _ _ ls (lp_dec hn_19 c_23) hP hD hS (lv_sub hl [2, 3, 1, 0] rfl)
                                    ·
                                      refine lv_iload hx hb dX8_deal_42 (lv_at hl 4 rfl) ?_
                                      refine lv_iload_n hx hb dX8_deal_44 rfl (lv_at hl 3 rfl) ?_
                                      refine lv_iload hx hb dX8_deal_45 (lv_at hl 5 rfl) ?_
                                      refine sv_ishr (v := i_19 >>> (i_36 &&& 31)) hx hb dX8_deal_47 rfl ?_
                                      refine lv_iconst (v := 1) hx hb dX8_deal_48 (by decide) ?_
                                      refine sv_iand (v := (i_19 >>> (i_36 &&& 31)) &&& 1) hx hb dX8_deal_49 rfl ?_
                                      refine lv_iconst (v := 1) hx hb dX8_deal_50 (by decide) ?_
                                      refine lv_icmp_ne (tgt := 64) hx hb dX8_deal_51 (by decide) (fun c_51 => ?_) (fun c_51 => ?_)
                                      ·
                                        refine lv_iconst (v := 0) hx hb dX8_deal_64 (by decide) ?_
                                        refine sv_isub (v := 0) hx hb dX8_deal_65 (by decide) ?_
                                        refine lv_istore (lv' := [(4, .int 0), (0, .ref (y 0)), (1, .int 4), (2, .int 0), (3, .int i_19), (5, .int i_36)]) hx hb dX8_deal_66 hl (by decide) rfl (fun ls hl => ?_)
                                        refine lv_iinc (v := i_36 + 1) (lv' := [(5, .int (i_36 + 1)), (4, .int 0), (0, .ref (y 0)), (1, .int 4), (2, .int 0), (3, .int i_19)]) hx hb dX8_deal_68 hl (k := 5) rfl rfl (by decide) rfl (fun ls hl => ?_)
                                        refine lv_goto (tgt := 36) hx hb dX8_deal_71 (by decide) ?_
                                        exact ih_L_16 (i_36 + 1)  _ _ ls (lp_dec hn_36 c_39) (by have h9 := lp_inc c_39; omega) hP hD hS (lv_sub hl [2, 3, 4, 5, 1, 0] rfl)
                                      ·
                                        refine lv_aload_n hx hb dX8_deal_54 rfl (lv_at hl 0 rfl) ?_
                                        refine va_get (D := D) (ci := 8) (v := .ref (y 24)) (C := RX8) (T := TX8) (N := 52) hx hb hts w_1 hown hK hP 0 rfl rfl 50 (by decide) w_3 (fun _ h9 => h9) rfl dX8_deal_55 ?_
                                        refine lv_iload hx hb dX8_deal_58 (lv_at hl 5 rfl) ?_
                                        refine sv_iald (v := 0) hx hb hK hP 2 1 rfl rfl (lp_in hlo_36 c_39 (by decide)) rfl dX8_deal_60 ?_
                                        refine lv_goto (tgt := 65) hx hb dX8_deal_61 (by decide) ?_
                                        refine sv_isub (v := 0) hx hb dX8_deal_65 (by decide) ?_
                                        refine lv_istore (lv' := [(4, .int 0), (0, .ref (y 0)), (1, .int 4), (2, .int 0), (3, .int i_19), (5, .int i_36)]) hx hb dX8_deal_66 hl (by decide) rfl (fun ls hl => ?_)
                                        refine lv_iinc (v := i_36 + 1) (lv' := [(5, .int (i_36 + 1)), (4, .int 0), (0, .ref (y 0)), (1, .int 4), (2, .int 0), (3, .int i_19)]) hx hb dX8_deal_68 hl (k := 5) rfl rfl (by decide) rfl (fun ls hl => ?_)
                                        refine lv_goto (tgt := 36) hx hb dX8_deal_71 (by decide) ?_
                                        exact ih_L_16 (i_36 + 1)  _ _ ls (lp_dec hn_36 c_39) (by have h9 := lp_inc c_39; omega) hP hD hS (lv_sub hl [2, 3, 4, 5, 1, 0] rfl)
                                exact L_16 _ 0  _ _ ls (Nat.lt_succ_self _) (by decide) hP hD hS (lv_sub hl [2, 3, 4, 5, 1, 0] rfl)
                          exact L_9 _ 16  _ _ ls (Nat.lt_succ_self _) hP hD hS (lv_sub hl [3, 2, 1, 0] rfl)
                        ·
                          refine lv_aload_n hx hb dX8_deal_26 rfl (lv_at hl 0 rfl) ?_
                          refine lv_iload_n hx hb dX8_deal_27 rfl (lv_at hl 3 rfl) ?_
                          refine vp_callSi (va_Run.run (va_runV (As := [.int i_19]) (rest := []) ⟨hx, hb, hml, hown, hts⟩ (m_X8_coinsFor l D cB cI cJ cZ y i_19) (cwV 1 hts gX8_deal_X8_coinsFor rfl rfl rfl (by decide +kernel) ⟨Nat.le_of_ble_eq_true rfl, Nat.le_of_ble_eq_true rfl⟩) (pre_VR (hP.sub (ws' := [((y 0), .inr (8, [.ref (y 1), .int 0, .int 0, .ref (y 2), .int 1, .int 100, .int 7, .int 14, .int 3, .int 1, .int 8, .int 0, .int 0, .int (-1), .int 0, .ref (y 3), .ref (y 4), .int 0, .int 0, .ref (y 5), .ref (y 6), .ref (y 7), .ref (y 8), .ref (y 9), .int 0, .ref (y 10), .ref (y 11), .ref (y 12), .ref (y 13), .int 0, .int 0, .ref (y 14), .ref (y 15), .ref (y 16), .ref (y 17), .int 0, .int 0, .int 0, .int 0, .int 0, .int 0, .ref (y 18), .ref (y 19), .int 0, .int 0, .ref (y 20), .int 0, .ref (y 21), .ref (y 22), .ref (y 23), .ref (y 24), .ref (y 25)]))]) [0] rfl) hK 0 rfl rfl rfl) rfl rfl hl.1 rfl (lv_room (Nat.le_of_ble_eq_true rfl)) dX8_deal_28 ⟨Nat.le_of_ble_eq_true rfl, Nat.le_of_ble_eq_true rfl⟩)) (fun r_17 hw_r_17 => ?_)
                          subst hw_r_17
                          refine lv_istore (lv' := [(4, .int 0), (0, .ref (y 0)), (1, .int 3), (2, .int 0), (3, .int i_19)]) hx hb dX8_deal_31 hl (by decide) rfl (fun ls hl => ?_)
                          refine lv_iconst (v := 0) hx hb dX8_deal_33 (by decide) ?_
                          refine lv_istore (lv' := [(5, .int 0), (4, .int 0), (0, .ref (y 0)), (1, .int 3), (2, .int 0), (3, .int i_19)]) hx hb dX8_deal_34 hl (by decide) rfl (fun ls hl => ?_)
                          have L_18 : ∀ (n : Nat) (i_36 : Int32) (H : Heap) (locs : List Loc) (ls : Array Slot), (Int32.toInt 3 - i_36.toInt).toNat < n → 0 ≤ i_36.toInt → va_P D vwCl [((y 0), .inr (8, [.ref (y 1), .int 0, .int 0, .ref (y 2), .int 1, .int 100, .int 7, .int 14, .int 3, .int 1, .int 8, .int 0, .int 0, .int (-1), .int 0, .ref (y 3), .ref (y 4), .int 0, .int 0, .ref (y 5), .ref (y 6), .ref (y 7), .ref (y 8), .ref (y 9), .int 0, .ref (y 10), .ref (y 11), .ref (y 12), .ref (y 13), .int 0, .int 0, .ref (y 14), .ref (y 15), .ref (y 16), .ref (y 17), .int 0, .int 0, .int 0, .int 0, .int 0, .int 0, .ref (y 18), .ref (y 19), .int 0, .int 0, .ref (y 20), .int 0, .ref (y 21), .ref (y 22), .ref (y 23), .ref (y 24), .ref (y 25)])), ((y 16), .inl (cI, 6, .inl (fun _ => 0))), ((y 24), .inl (cI, 6, .inl (fun _ => 0)))] H → va_D A [((y 0), .inr (8, [.ref (y 1), .int 0, .int 0, .ref (y 2), .int 1, .int 100, .int 7, .int 14, .int 3, .int 1, .int 8, .int 0, .int 0, .int (-1), .int 0, .ref (y 3), .ref (y 4), .int 0, .int 0, .ref (y 5), .ref (y 6), .ref (y 7), .ref (y 8), .ref (y 9), .int 0, .ref (y 10), .ref (y 11), .ref (y 12), .ref (y 13), .int 0, .int 0, .ref (y 14), .ref (y 15), .ref (y 16), .ref (y 17), .int 0, .int 0, .int 0, .int 0, .int 0, .int 0, .ref (y 18), .ref (y 19), .int 0, .int 0, .ref (y 20), .int 0, .ref (y 21), .ref (y 22), .ref (y 23), .ref (y 24), .ref (y 25)])), ((y 16), .inl (cI, 6, .inl (fun _ => 0))), ((y 24), .inl (cI, 6, .inl (fun _ => 0)))] → va_S A s.heap H locs → lv_has ls 7 [(0, .ref (y 0)), (1, .int 3), (2, .int 0), (3, .int i_19), (4, .int 0), (5, .int i_36)] → W p l e (headSpec wsX8_deal ({ frames := 1, cells := 0, slots := 0, locals := 23 } : Room)).room s m ([.ref (y 0)] : List Value).toArray below meth c H locs 0 0 Q0 (F0 m 36 ls []) := by
                            intro n
                            induction n with
                            | zero => intro i_36  H locs ls hn_36 hlo_36 hP hD hS hl; exact absurd hn_36 (Nat.not_lt_zero _)
                            | succ n ih_L_18 =>
                              intro i_36  H locs ls hn_36 hlo_36 hP hD hS hl
                              refine lv_iload hx hb dX8_deal_36 (lv_at hl 5 rfl) ?_
                              refine lv_iload_n hx hb dX8_deal_38 rfl (lv_at hl 1 rfl) ?_
                              refine lv_icmp_ge (tgt := 74) hx hb dX8_deal_39 (by decide) (fun c_39 => ?_) (fun c_39 => ?_)
                              ·
                                refine lv_iload hx hb dX8_deal_74 (lv_at hl 4 rfl) ?_
                                refine lv_iload_n hx hb dX8_deal_76 rfl (lv_at hl 2 rfl) ?_
                                refine lv_icmp_ge (tgt := 85) hx hb dX8_deal_77 (by decide) (fun _ => ?_) (fun h => absurd (by decide) h)
                                refine lv_iload_n hx hb dX8_deal_85 rfl (lv_at hl 2 rfl) ?_
                                refine lv_istore_n (lv' := [(2, .int 0), (0, .ref (y 0)), (1, .int 3), (3, .int i_19), (4, .int 0), (5, .int i_36)]) hx hb dX8_deal_86 rfl hl (by decide) rfl (fun ls hl => ?_)
                                refine lv_iinc (v := i_19 + 1) (lv' := [(3, .int (i_19 + 1)), (2, .int 0), (0, .ref (y 0)), (1, .int 3), (4, .int 0), (5, .int i_36)]) hx hb dX8_deal_87 hl (k := 3) rfl rfl (by decide) rfl (fun ls hl => ?_)
                                refine lv_goto (tgt := 19) hx hb dX8_deal_90 (by decide) ?_
                                exact ih_L_7 (i_19 + 1)  _ _ ls (lp_dec hn_19 c_23) hP hD hS (lv_sub hl [2, 3, 1, 0] rfl)
                              ·
                                refine lv_iload hx hb dX8_deal_42 (lv_at hl 4 rfl) ?_
                                refine lv_iload_n hx hb dX8_deal_44 rfl (lv_at hl 3 rfl) ?_
                                refine lv_iload hx hb dX8_deal_45 (lv_at hl 5 rfl) ?_
                                refine sv_ishr (v := i_19 >>> (i_36 &&& 31)) hx hb dX8_deal_47 rfl ?_
                                refine lv_iconst (v := 1) hx hb dX8_deal_48 (by decide) ?_
                                refine sv_iand (v := (i_19 >>> (i_36 &&& 31)) &&& 1) hx hb dX8_deal_49 rfl ?_
                                refine lv_iconst (v := 1) hx hb dX8_deal_50 (by decide) ?_
                                refine lv_icmp_ne (tgt := 64) hx hb dX8_deal_51 (by decide) (fun c_51 => ?_) (fun c_51 => ?_)
                                ·
                                  refine lv_iconst (v := 0) hx hb dX8_deal_64 (by decide) ?_
                                  refine sv_isub (v := 0) hx hb dX8_deal_65 (by decide) ?_
                                  refine lv_istore (lv' := [(4, .int 0), (0, .ref (y 0)), (1, .int 3), (2, .int 0), (3, .int i_19), (5, .int i_36)]) hx hb dX8_deal_66 hl (by decide) rfl (fun ls hl => ?_)
                                  refine lv_iinc (v := i_36 + 1) (lv' := [(5, .int (i_36 + 1)), (4, .int 0), (0, .ref (y 0)), (1, .int 3), (2, .int 0), (3, .int i_19)]) hx hb dX8_deal_68 hl (k := 5) rfl rfl (by decide) rfl (fun ls hl => ?_)
                                  refine lv_goto (tgt := 36) hx hb dX8_deal_71 (by decide) ?_
                                  exact ih_L_18 (i_36 + 1)  _ _ ls (lp_dec hn_36 c_39) (by have h9 := lp_inc c_39; omega) hP hD hS (lv_sub hl [2, 3, 4, 5, 1, 0] rfl)
                                ·
                                  refine lv_aload_n hx hb dX8_deal_54 rfl (lv_at hl 0 rfl) ?_
                                  refine va_get (D := D) (ci := 8) (v := .ref (y 24)) (C := RX8) (T := TX8) (N := 52) hx hb hts w_1 hown hK hP 0 rfl rfl 50 (by decide) w_3 (fun _ h9 => h9) rfl dX8_deal_55 ?_
                                  refine lv_iload hx hb dX8_deal_58 (lv_at hl 5 rfl) ?_
                                  refine sv_iald (v := 0) hx hb hK hP 2 1 rfl rfl (lp_in hlo_36 c_39 (by decide)) rfl dX8_deal_60 ?_
                                  refine lv_goto (tgt := 65) hx hb dX8_deal_61 (by decide) ?_
                                  refine sv_isub (v := 0) hx hb dX8_deal_65 (by decide) ?_
                                  refine lv_istore (lv' := [(4, .int 0), (0, .ref (y 0)), (1, .int 3), (2, .int 0), (3, .int i_19), (5, .int i_36)]) hx hb dX8_deal_66 hl (by decide) rfl (fun ls hl => ?_)
                                  refine lv_iinc (v := i_36 + 1) (lv' := [(5, .int (i_36 + 1)), (4, .int 0), (0, .ref (y 0)), (1, .int 3), (2, .int 0), (3, .int i_19)]) hx hb dX8_deal_68 hl (k := 5) rfl rfl (by decide) rfl (fun ls hl => ?_)
                                  refine lv_goto (tgt := 36) hx hb dX8_deal_71 (by decide) ?_
                                  exact ih_L_18 (i_36 + 1)  _ _ ls (lp_dec hn_36 c_39) (by have h9 := lp_inc c_39; omega) hP hD hS (lv_sub hl [2, 3, 4, 5, 1, 0] rfl)
                          exact L_18 _ 0  _ _ ls (Nat.lt_succ_self _) (by decide) hP hD hS (lv_sub hl [2, 3, 4, 5, 1, 0] rfl)
                    exact L_7 _ 8  _ _ ls (Nat.lt_succ_self _) hP hD hS (lv_sub hl [3, 2, 1, 0] rfl)
                  ·
                    refine lv_aload_n hx hb dX8_deal_26 rfl (lv_at hl 0 rfl) ?_
                    refine lv_iload_n hx hb dX8_deal_27 rfl (lv_at hl 3 rfl) ?_
                    refine vp_callSi (va_Run.run (va_runV (As := [.int i_19]) (rest := []) ⟨hx, hb, hml, hown, hts⟩ (m_X8_coinsFor l D cB cI cJ cZ y i_19) (cwV 1 hts gX8_deal_X8_coinsFor rfl rfl rfl (by decide +kernel) ⟨Nat.le_of_ble_eq_true rfl, Nat.le_of_ble_eq_true rfl⟩) (pre_VR (hP.sub (ws' := [((y 0), .inr (8, [.ref (y 1), .int 0, .int 0, .ref (y 2), .int 1, .int 100, .int 7, .int 14, .int 3, .int 1, .int 8, .int 0, .int 0, .int (-1), .int 0, .ref (y 3), .ref (y 4), .int 0, .int 0, .ref (y 5), .ref (y 6), .ref (y 7), .ref (y 8), .ref (y 9), .int 0, .ref (y 10), .ref (y 11), .ref (y 12), .ref (y 13), .int 0, .int 0, .ref (y 14), .ref (y 15), .ref (y 16), .ref (y 17), .int 0, .int 0, .int 0, .int 0, .int 0, .int 0, .ref (y 18), .ref (y 19), .int 0, .int 0, .ref (y 20), .int 0, .ref (y 21), .ref (y 22), .ref (y 23), .ref (y 24), .ref (y 25)]))]) [0] rfl) hK 0 rfl rfl rfl) rfl rfl hl.1 rfl (lv_room (Nat.le_of_ble_eq_true rfl)) dX8_deal_28 ⟨Nat.le_of_ble_eq_true rfl, Nat.le_of_ble_eq_true rfl⟩)) (fun r_19 hw_r_19 => ?_)
                    subst hw_r_19
                    refine lv_istore (lv' := [(4, .int 0), (0, .ref (y 0)), (1, .int 2), (2, .int 0), (3, .int i_19)]) hx hb dX8_deal_31 hl (by decide) rfl (fun ls hl => ?_)
                    refine lv_iconst (v := 0) hx hb dX8_deal_33 (by decide) ?_
                    refine lv_istore (lv' := [(5, .int 0), (4, .int 0), (0, .ref (y 0)), (1, .int 2), (2, .int 0), (3, .int i_19)]) hx hb dX8_deal_34 hl (by decide) rfl (fun ls hl => ?_)
                    have L_20 : ∀ (n : Nat) (i_36 : Int32) (H : Heap) (locs : List Loc) (ls : Array Slot), (Int32.toInt 2 - i_36.toInt).toNat < n → 0 ≤ i_36.toInt → va_P D vwCl [((y 0), .inr (8, [.ref (y 1), .int 0, .int 0, .ref (y 2), .int 1, .int 100, .int 7, .int 14, .int 3, .int 1, .int 8, .int 0, .int 0, .int (-1), .int 0, .ref (y 3), .ref (y 4), .int 0, .int 0, .ref (y 5), .ref (y 6), .ref (y 7), .ref (y 8), .ref (y 9), .int 0, .ref (y 10), .ref (y 11), .ref (y 12), .ref (y 13), .int 0, .int 0, .ref (y 14), .ref (y 15), .ref (y 16), .ref (y 17), .int 0, .int 0, .int 0, .int 0, .int 0, .int 0, .ref (y 18), .ref (y 19), .int 0, .int 0, .ref (y 20), .int 0, .ref (y 21), .ref (y 22), .ref (y 23), .ref (y 24), .ref (y 25)])), ((y 16), .inl (cI, 6, .inl (fun _ => 0))), ((y 24), .inl (cI, 6, .inl (fun _ => 0)))] H → va_D A [((y 0), .inr (8, [.ref (y 1), .int 0, .int 0, .ref (y 2), .int 1, .int 100, .int 7, .int 14, .int 3, .int 1, .int 8, .int 0, .int 0, .int (-1), .int 0, .ref (y 3), .ref (y 4), .int 0, .int 0, .ref (y 5), .ref (y 6), .ref (y 7), .ref (y 8), .ref (y 9), .int 0, .ref (y 10), .ref (y 11), .ref (y 12), .ref (y 13), .int 0, .int 0, .ref (y 14), .ref (y 15), .ref (y 16), .ref (y 17), .int 0, .int 0, .int 0, .int 0, .int 0, .int 0, .ref (y 18), .ref (y 19), .int 0, .int 0, .ref (y 20), .int 0, .ref (y 21), .ref (y 22), .ref (y 23), .ref (y 24), .ref (y 25)])), ((y 16), .inl (cI, 6, .inl (fun _ => 0))), ((y 24), .inl (cI, 6, .inl (fun _ => 0)))] → va_S A s.heap H locs → lv_has ls 7 [(0, .ref (y 0)), (1, .int 2), (2, .int 0), (3, .int i_19), (4, .int 0), (5, .int i_36)] → W p l e (headSpec wsX8_deal ({ frames := 1, cells := 0, slots := 0, locals := 23 } : Room)).room s m ([.ref (y 0)] : List Value).toArray below meth c H locs 0 0 Q0 (F0 m 36 ls []) := by
                      intro n
                      induction n with
                      | zero => intro i_36  H locs ls hn_36 hlo_36 hP hD hS hl; exact absurd hn_36 (Nat.not_lt_zero _)
                      | succ n ih_L_20 =>
                        intro i_36  H locs ls hn_36 hlo_36 hP hD hS hl
                        refine lv_iload hx hb dX8_deal_36 (lv_at hl 5 rfl) ?_
                        refine lv_iload_n hx hb dX8_deal_38 rfl (lv_at hl 1 rfl) ?_
                        refine lv_icmp_ge (tgt := 74) hx hb dX8_deal_39 (by decide) (fun c_39 => ?_) (fun c_39 => ?_)
                        ·
                          refine lv_iload hx hb dX8_deal_74 (lv_at hl 4 rfl) ?_
                          refine lv_iload_n hx hb dX8_deal_76 rfl (lv_at hl 2 rfl) ?_
                          refine lv_icmp_ge (tgt := 85) hx hb dX8_deal_77 (by decide) (fun _ => ?_) (fun h => absurd (by decide) h)
                          refine lv_iload_n hx hb dX8_deal_85 rfl (lv_at hl 2 rfl) ?_
                          refine lv_istore_n (lv' := [(2, .int 0), (0, .ref (y 0)), (1, .int 2), (3, .int i_19), (4, .int 0), (5, .int i_36)]) hx hb dX8_deal_86 rfl hl (by decide) rfl (fun ls hl => ?_)
                          refine lv_iinc (v := i_19 + 1) (lv' := [(3, .int (i_19 + 1)), (2, .int 0), (0, .ref (y 0)), (1, .int 2), (4, .int 0), (5, .int i_36)]) hx hb dX8_deal_87 hl (k := 3) rfl rfl (by decide) rfl (fun ls hl => ?_)
                          refine lv_goto (tgt := 19) hx hb dX8_deal_90 (by decide) ?_
                          exact ih_L_5 (i_19 + 1)  _ _ ls (lp_dec hn_19 c_23) hP hD hS (lv_sub hl [2, 3, 1, 0] rfl)
                        ·
                          refine lv_iload hx hb dX8_deal_42 (lv_at hl 4 rfl) ?_
                          refine lv_iload_n hx hb dX8_deal_44 rfl (lv_at hl 3 rfl) ?_
                          refine lv_iload hx hb dX8_deal_45 (lv_at hl 5 rfl) ?_
                          refine sv_ishr (v := i_19 >>> (i_36 &&& 31)) hx hb dX8_deal_47 rfl ?_
                          refine lv_iconst (v := 1) hx hb dX8_deal_48 (by decide) ?_
                          refine sv_iand (v := (i_19 >>> (i_36 &&& 31)) &&& 1) hx hb dX8_deal_49 rfl ?_
                          refine lv_iconst (v := 1) hx hb dX8_deal_50 (by decide) ?_
                          refine lv_icmp_ne (tgt := 64) hx hb dX8_deal_51 (by decide) (fun c_51 => ?_) (fun c_51 => ?_)
                          ·
                            refine lv_iconst (v := 0) hx hb dX8_deal_64 (by decide) ?_
                            refine sv_isub (v := 0) hx hb dX8_deal_65 (by decide) ?_
                            refine lv_istore (lv' := [(4, .int 0), (0, .ref (y 0)), (1, .int 2), (2, .int 0), (3, .int i_19), (5, .int i_36)]) hx hb dX8_deal_66 hl (by decide) rfl (fun ls hl => ?_)
                            refine lv_iinc (v := i_36 + 1) (lv' := [(5, .int (i_36 + 1)), (4, .int 0), (0, .ref (y 0)), (1, .int 2), (2, .int 0), (3, .int i_19)]) hx hb dX8_deal_68 hl (k := 5) rfl rfl (by decide) rfl (fun ls hl => ?_)
                            refine lv_goto (tgt := 36) hx hb dX8_deal_71 (by decide) ?_
                            exact ih_L_20 (i_36 + 1)  _ _ ls (lp_dec hn_36 c_39) (by have h9 := lp_inc c_39; omega) hP hD hS (lv_sub hl [2, 3, 4, 5, 1, 0] rfl)
                          ·
                            refine lv_aload_n hx hb dX8_deal_54 rfl (lv_at hl 0 rfl) ?_
                            refine va_get (D := D) (ci := 8) (v := .ref (y 24)) (C := RX8) (T := TX8) (N := 52) hx hb hts w_1 hown hK hP 0 rfl rfl 50 (by decide) w_3 (fun _ h9 => h9) rfl dX8_deal_55 ?_
                            refine lv_iload hx hb dX8_deal_58 (lv_at hl 5 rfl) ?_
                            refine sv_iald (v := 0) hx hb hK hP 2 1 rfl rfl (lp_in hlo_36 c_39 (by decide)) rfl dX8_deal_60 ?_
                            refine lv_goto (tgt := 65) hx hb dX8_deal_61 (by decide) ?_
                            refine sv_isub (v := 0) hx hb dX8_deal_65 (by decide) ?_
                            refine lv_istore (lv' := [(4, .int 0), (0, .ref (y 0)), (1, .int 2), (2, .int 0), (3, .int i_19), (5, .int i_36)]) hx hb dX8_deal_66 hl (by decide) rfl (fun ls hl => ?_)
                            refine lv_iinc (v := i_36 + 1) (lv' := [(5, .int (i_36 + 1)), (4, .int 0), (0, .ref (y 0)), (1, .int 2), (2, .int 0), (3, .int i_19)]) hx hb dX8_deal_68 hl (k := 5) rfl rfl (by decide) rfl (fun ls hl => ?_)
                            refine lv_goto (tgt := 36) hx hb dX8_deal_71 (by decide) ?_
                            exact ih_L_20 (i_36 + 1)  _ _ ls (lp_dec hn_36 c_39) (by have h9 := lp_inc c_39; omega) hP hD hS (lv_sub hl [2, 3, 4, 5, 1, 0] rfl)
                    exact L_20 _ 0  _ _ ls (Nat.lt_succ_self _) (by decide) hP hD hS (lv_sub hl [2, 3, 4, 5, 1, 0] rfl)
              exact L_5 _ 4  _ _ ls (Nat.lt_succ_self _) hP hD hS (lv_sub hl [3, 2, 1, 0] rfl)
            ·
              refine lv_aload_n hx hb dX8_deal_26 rfl (lv_at hl 0 rfl) ?_
              refine lv_iload_n hx hb dX8_deal_27 rfl (lv_at hl 3 rfl) ?_
              refine vp_callSi (va_Run.run (va_runV (As := [.int i_19]) (rest := []) ⟨hx, hb, hml, hown, hts⟩ (m_X8_coinsFor l D cB cI cJ cZ y i_19) (cwV 1 hts gX8_deal_X8_coinsFor rfl rfl rfl (by decide +kernel) ⟨Nat.le_of_ble_eq_true rfl, Nat.le_of_ble_eq_true rfl⟩) (pre_VR (hP.sub (ws' := [((y 0), .inr (8, [.ref (y 1), .int 0, .int 0, .ref (y 2), .int 1, .int 100, .int 7, .int 14, .int 3, .int 1, .int 8, .int 0, .int 0, .int (-1), .int 0, .ref (y 3), .ref (y 4), .int 0, .int 0, .ref (y 5), .ref (y 6), .ref (y 7), .ref (y 8), .ref (y 9), .int 0, .ref (y 10), .ref (y 11), .ref (y 12), .ref (y 13), .int 0, .int 0, .ref (y 14), .ref (y 15), .ref (y 16), .ref (y 17), .int 0, .int 0, .int 0, .int 0, .int 0, .int 0, .ref (y 18), .ref (y 19), .int 0, .int 0, .ref (y 20), .int 0, .ref (y 21), .ref (y 22), .ref (y 23), .ref (y 24), .ref (y 25)]))]) [0] rfl) hK 0 rfl rfl rfl) rfl rfl hl.1 rfl (lv_room (Nat.le_of_ble_eq_true rfl)) dX8_deal_28 ⟨Nat.le_of_ble_eq_true rfl, Nat.le_of_ble_eq_true rfl⟩)) (fun r_21 hw_r_21 => ?_)
              subst hw_r_21
              refine lv_istore (lv' := [(4, .int 0), (0, .ref (y 0)), (1, .int 1), (2, .int 0), (3, .int i_19)]) hx hb dX8_deal_31 hl (by decide) rfl (fun ls hl => ?_)
              refine lv_iconst (v := 0) hx hb dX8_deal_33 (by decide) ?_
              refine lv_istore (lv' := [(5, .int 0), (4, .int 0), (0, .ref (y 0)), (1, .int 1), (2, .int 0), (3, .int i_19)]) hx hb dX8_deal_34 hl (by decide) rfl (fun ls hl => ?_)
              have L_22 : ∀ (n : Nat) (i_36 : Int32) (H : Heap) (locs : List Loc) (ls : Array Slot), (Int32.toInt 1 - i_36.toInt).toNat < n → 0 ≤ i_36.toInt → va_P D vwCl [((y 0), .inr (8, [.ref (y 1), .int 0, .int 0, .ref (y 2), .int 1, .int 100, .int 7, .int 14, .int 3, .int 1, .int 8, .int 0, .int 0, .int (-1), .int 0, .ref (y 3), .ref (y 4), .int 0, .int 0, .ref (y 5), .ref (y 6), .ref (y 7), .ref (y 8), .ref (y 9), .int 0, .ref (y 10), .ref (y 11), .ref (y 12), .ref (y 13), .int 0, .int 0, .ref (y 14), .ref (y 15), .ref (y 16), .ref (y 17), .int 0, .int 0, .int 0, .int 0, .int 0, .int 0, .ref (y 18), .ref (y 19), .int 0, .int 0, .ref (y 20), .int 0, .ref (y 21), .ref (y 22), .ref (y 23), .ref (y 24), .ref (y 25)])), ((y 16), .inl (cI, 6, .inl (fun _ => 0))), ((y 24), .inl (cI, 6, .inl (fun _ => 0)))] H → va_D A [((y 0), .inr (8, [.ref (y 1), .int 0, .int 0, .ref (y 2), .int 1, .int 100, .int 7, .int 14, .int 3, .int 1, .int 8, .int 0, .int 0, .int (-1), .int 0, .ref (y 3), .ref (y 4), .int 0, .int 0, .ref (y 5), .ref (y 6), .ref (y 7), .ref (y 8), .ref (y 9), .int 0, .ref (y 10), .ref (y 11), .ref (y 12), .ref (y 13), .int 0, .int 0, .ref (y 14), .ref (y 15), .ref (y 16), .ref (y 17), .int 0, .int 0, .int 0, .int 0, .int 0, .int 0, .ref (y 18), .ref (y 19), .int 0, .int 0, .ref (y 20), .int 0, .ref (y 21), .ref (y 22), .ref (y 23), .ref (y 24), .ref (y 25)])), ((y 16), .inl (cI, 6, .inl (fun _ => 0))), ((y 24), .inl (cI, 6, .inl (fun _ => 0)))] → va_S A s.heap H locs → lv_has ls 7 [(0, .ref (y 0)), (1, .int 1), (2, .int 0), (3, .int i_19), (4, .int 0), (5, .int i_36)] → W p l e (headSpec wsX8_deal ({ frames := 1, cells := 0, slots := 0, locals := 23 } : Room)).room s m ([.ref (y 0)] : List Value).toArray below meth c H locs 0 0 Q0 (F0 m 36 ls []) := by
                intro n
                induction n with
                | zero => intro i_36  H locs ls hn_36 hlo_36 hP hD hS hl; exact absurd hn_36 (Nat.not_lt_zero _)
                | succ n ih_L_22 =>
                  intro i_36  H locs ls hn_36 hlo_36 hP hD hS hl
                  refine lv_iload hx hb dX8_deal_36 (lv_at hl 5 rfl) ?_
                  refine lv_iload_n hx hb dX8_deal_38 rfl (lv_at hl 1 rfl) ?_
                  refine lv_icmp_ge (tgt := 74) hx hb dX8_deal_39 (by decide) (fun c_39 => ?_) (fun c_39 => ?_)
                  ·
                    refine lv_iload hx hb dX8_deal_74 (lv_at hl 4 rfl) ?_
                    refine lv_iload_n hx hb dX8_deal_76 rfl (lv_at hl 2 rfl) ?_
                    refine lv_icmp_ge (tgt := 85) hx hb dX8_deal_77 (by decide) (fun _ => ?_) (fun h => absurd (by decide) h)
                    refine lv_iload_n hx hb dX8_deal_85 rfl (lv_at hl 2 rfl) ?_
                    refine lv_istore_n (lv' := [(2, .int 0), (0, .ref (y 0)), (1, .int 1), (3, .int i_19), (4, .int 0), (5, .int i_36)]) hx hb dX8_deal_86 rfl hl (by decide) rfl (fun ls hl => ?_)
                    refine lv_iinc (v := i_19 + 1) (lv' := [(3, .int (i_19 + 1)), (2, .int 0), (0, .ref (y 0)), (1, .int 1), (4, .int 0), (5, .int i_36)]) hx hb dX8_deal_87 hl (k := 3) rfl rfl (by decide) rfl (fun ls hl => ?_)
                    refine lv_goto (tgt := 19) hx hb dX8_deal_90 (by decide) ?_
                    exact ih_L_3 (i_19 + 1)  _ _ ls (lp_dec hn_19 c_23) hP hD hS (lv_sub hl [2, 3, 1, 0] rfl)
                  ·
                    refine lv_iload hx hb dX8_deal_42 (lv_at hl 4 rfl) ?_
                    refine lv_iload_n hx hb dX8_deal_44 rfl (lv_at hl 3 rfl) ?_
                    refine lv_iload hx hb dX8_deal_45 (lv_at hl 5 rfl) ?_
                    refine sv_ishr (v := i_19 >>> (i_36 &&& 31)) hx hb dX8_deal_47 rfl ?_
                    refine lv_iconst (v := 1) hx hb dX8_deal_48 (by decide) ?_
                    refine sv_iand (v := (i_19 >>> (i_36 &&& 31)) &&& 1) hx hb dX8_deal_49 rfl ?_
                    refine lv_iconst (v := 1) hx hb dX8_deal_50 (by decide) ?_
                    refine lv_icmp_ne (tgt := 64) hx hb dX8_deal_51 (by decide) (fun c_51 => ?_) (fun c_51 => ?_)
                    ·
                      refine lv_iconst (v := 0) hx hb dX8_deal_64 (by decide) ?_
                      refine sv_isub (v := 0) hx hb dX8_deal_65 (by decide) ?_
                      refine lv_istore (lv' := [(4, .int 0), (0, .ref (y 0)), (1, .int 1), (2, .int 0), (3, .int i_19), (5, .int i_36)]) hx hb dX8_deal_66 hl (by decide) rfl (fun ls hl => ?_)
                      refine lv_iinc (v := i_36 + 1) (lv' := [(5, .int (i_36 + 1)), (4, .int 0), (0, .ref (y 0)), (1, .int 1), (2, .int 0), (3, .int i_19)]) hx hb dX8_deal_68 hl (k := 5) rfl rfl (by decide) rfl (fun ls hl => ?_)
                      refine lv_goto (tgt := 36) hx hb dX8_deal_71 (by decide) ?_
                      exact ih_L_22 (i_36 + 1)  _ _ ls (lp_dec hn_36 c_39) (by have h9 := lp_inc c_39; omega) hP hD hS (lv_sub hl [2, 3, 4, 5, 1, 0] rfl)
                    ·
                      refine lv_aload_n hx hb dX8_deal_54 rfl (lv_at hl 0 rfl) ?_
                      refine va_get (D := D) (ci := 8) (v := .ref (y 24)) (C := RX8) (T := TX8) (N := 52) hx hb hts w_1 hown hK hP 0 rfl rfl 50 (by decide) w_3 (fun _ h9 => h9) rfl dX8_deal_55 ?_
                      refine lv_iload hx hb dX8_deal_58 (lv_at hl 5 rfl) ?_
                      refine sv_iald (v := 0) hx hb hK hP 2 1 rfl rfl (lp_in hlo_36 c_39 (by decide)) rfl dX8_deal_60 ?_
                      refine lv_goto (tgt := 65) hx hb dX8_deal_61 (by decide) ?_
                      refine sv_isub (v := 0) hx hb dX8_deal_65 (by decide) ?_
                      refine lv_istore (lv' := [(4, .int 0), (0, .ref (y 0)), (1, .int 1), (2, .int 0), (3, .int i_19), (5, .int i_36)]) hx hb dX8_deal_66 hl (by decide) rfl (fun ls hl => ?_)
                      refine lv_iinc (v := i_36 + 1) (lv' := [(5, .int (i_36 + 1)), (4, .int 0), (0, .ref (y 0)), (1, .int 1), (2, .int 0), (3, .int i_19)]) hx hb dX8_deal_68 hl (k := 5) rfl rfl (by decide) rfl (fun ls hl => ?_)
                      refine lv_goto (tgt := 36) hx hb dX8_deal_71 (by decide) ?_
                      exact ih_L_22 (i_36 + 1)  _ _ ls (lp_dec hn_36 c_39) (by have h9 := lp_inc c_39; omega) hP hD hS (lv_sub hl [2, 3, 4, 5, 1, 0] rfl)
              exact L_22 _ 0  _ _ ls (Nat.lt_succ_self _) (by decide) hP hD hS (lv_sub hl [2, 3, 4, 5, 1, 0] rfl)
        exact L_3 _ 2  _ _ ls (Nat.lt_succ_self _) hP hD hS (lv_sub hl [3, 2, 1, 0] rfl)
      ·
        refine lv_aload_n hx hb dX8_deal_26 rfl (lv_at hl 0 rfl) ?_
        refine lv_iload_n hx hb dX8_deal_27 rfl (lv_at hl 3 rfl) ?_
        refine vp_callSi (va_Run.run (va_runV (As := [.int i_19]) (rest := []) ⟨hx, hb, hml, hown, hts⟩ (m_X8_coinsFor l D cB cI cJ cZ y i_19) (cwV 1 hts gX8_deal_X8_coinsFor rfl rfl rfl (by decide +kernel) ⟨Nat.le_of_ble_eq_true rfl, Nat.le_of_ble_eq_true rfl⟩) (pre_VR (hP.sub (ws' := [((y 0), .inr (8, [.ref (y 1), .int 0, .int 0, .ref (y 2), .int 1, .int 100, .int 7, .int 14, .int 3, .int 1, .int 8, .int 0, .int 0, .int (-1), .int 0, .ref (y 3), .ref (y 4), .int 0, .int 0, .ref (y 5), .ref (y 6), .ref (y 7), .ref (y 8), .ref (y 9), .int 0, .ref (y 10), .ref (y 11), .ref (y 12), .ref (y 13), .int 0, .int 0, .ref (y 14), .ref (y 15), .ref (y 16), .ref (y 17), .int 0, .int 0, .int 0, .int 0, .int 0, .int 0, .ref (y 18), .ref (y 19), .int 0, .int 0, .ref (y 20), .int 0, .ref (y 21), .ref (y 22), .ref (y 23), .ref (y 24), .ref (y 25)]))]) [0] rfl) hK 0 rfl rfl rfl) rfl rfl hl.1 rfl (lv_room (Nat.le_of_ble_eq_true rfl)) dX8_deal_28 ⟨Nat.le_of_ble_eq_true rfl, Nat.le_of_ble_eq_true rfl⟩)) (fun r_23 hw_r_23 => ?_)
        subst hw_r_23
        refine lv_istore (lv' := [(4, .int 0), (0, .ref (y 0)), (1, .int 0), (2, .int 0), (3, .int i_19)]) hx hb dX8_deal_31 hl (by decide) rfl (fun ls hl => ?_)
        refine lv_iconst (v := 0) hx hb dX8_deal_33 (by decide) ?_
        refine lv_istore (lv' := [(5, .int 0), (4, .int 0), (0, .ref (y 0)), (1, .int 0), (2, .int 0), (3, .int i_19)]) hx hb dX8_deal_34 hl (by decide) rfl (fun ls hl => ?_)
        have L_24 : ∀ (n : Nat) (i_36 : Int32) (H : Heap) (locs : List Loc) (ls : Array Slot), (Int32.toInt 0 - i_36.toInt).toNat < n → 0 ≤ i_36.toInt → va_P D vwCl [((y 0), .inr (8, [.ref (y 1), .int 0, .int 0, .ref (y 2), .int 1, .int 100, .int 7, .int 14, .int 3, .int 1, .int 8, .int 0, .int 0, .int (-1), .int 0, .ref (y 3), .ref (y 4), .int 0, .int 0, .ref (y 5), .ref (y 6), .ref (y 7), .ref (y 8), .ref (y 9), .int 0, .ref (y 10), .ref (y 11), .ref (y 12), .ref (y 13), .int 0, .int 0, .ref (y 14), .ref (y 15), .ref (y 16), .ref (y 17), .int 0, .int 0, .int 0, .int 0, .int 0, .int 0, .ref (y 18), .ref (y 19), .int 0, .int 0, .ref (y 20), .int 0, .ref (y 21), .ref (y 22), .ref (y 23), .ref (y 24), .ref (y 25)])), ((y 16), .inl (cI, 6, .inl (fun _ => 0))), ((y 24), .inl (cI, 6, .inl (fun _ => 0)))] H → va_D A [((y 0), .inr (8, [.ref (y 1), .int 0, .int 0, .ref (y 2), .int 1, .int 100, .int 7, .int 14, .int 3, .int 1, .int 8, .int 0, .int 0, .int (-1), .int 0, .ref (y 3), .ref (y 4), .int 0, .int 0, .ref (y 5), .ref (y 6), .ref (y 7), .ref (y 8), .ref (y 9), .int 0, .ref (y 10), .ref (y 11), .ref (y 12), .ref (y 13), .int 0, .int 0, .ref (y 14), .ref (y 15), .ref (y 16), .ref (y 17), .int 0, .int 0, .int 0, .int 0, .int 0, .int 0, .ref (y 18), .ref (y 19), .int 0, .int 0, .ref (y 20), .int 0, .ref (y 21), .ref (y 22), .ref (y 23), .ref (y 24), .ref (y 25)])), ((y 16), .inl (cI, 6, .inl (fun _ => 0))), ((y 24), .inl (cI, 6, .inl (fun _ => 0)))] → va_S A s.heap H locs → lv_has ls 7 [(0, .ref (y 0)), (1, .int 0), (2, .int 0), (3, .int i_19), (4, .int 0), (5, .int i_36)] → W p l e (headSpec wsX8_deal ({ frames := 1, cells := 0, slots := 0, locals := 23 } : Room)).room s m ([.ref (y 0)] : List Value).toArray below meth c H locs 0 0 Q0 (F0 m 36 ls []) := by
          intro n
          induction n with
          | zero => intro i_36  H locs ls hn_36 hlo_36 hP hD hS hl; exact absurd hn_36 (Nat.not_lt_zero _)
          | succ n ih_L_24 =>
            intro i_36  H locs ls hn_36 hlo_36 hP hD hS hl
            refine lv_iload hx hb dX8_deal_36 (lv_at hl 5 rfl) ?_
            refine lv_iload_n hx hb dX8_deal_38 rfl (lv_at hl 1 rfl) ?_
            refine lv_icmp_ge (tgt := 74) hx hb dX8_deal_39 (by decide) (fun c_39 => ?_) (fun c_39 => ?_)
            ·
              refine lv_iload hx hb dX8_deal_74 (lv_at hl 4 rfl) ?_
              refine lv_iload_n hx hb dX8_deal_76 rfl (lv_at hl 2 rfl) ?_
              refine lv_icmp_ge (tgt := 85) hx hb dX8_deal_77 (by decide) (fun _ => ?_) (fun h => absurd (by decide) h)
              refine lv_iload_n hx hb dX8_deal_85 rfl (lv_at hl 2 rfl) ?_
              refine lv_istore_n (lv' := [(2, .int 0), (0, .ref (y 0)), (1, .int 0), (3, .int i_19), (4, .int 0), (5, .int i_36)]) hx hb dX8_deal_86 rfl hl (by decide) rfl (fun ls hl => ?_)
              refine lv_iinc (v := i_19 + 1) (lv' := [(3, .int (i_19 + 1)), (2, .int 0), (0, .ref (y 0)), (1, .int 0), (4, .int 0), (5, .int i_36)]) hx hb dX8_deal_87 hl (k := 3) rfl rfl (by decide) rfl (fun ls hl => ?_)
              refine lv_goto (tgt := 19) hx hb dX8_deal_90 (by decide) ?_
              exact ih_L_1 (i_19 + 1)  _ _ ls (lp_dec hn_19 c_23) hP hD hS (lv_sub hl [2, 3, 1, 0] rfl)
            ·
              refine lv_iload hx hb dX8_deal_42 (lv_at hl 4 rfl) ?_
              refine lv_iload_n hx hb dX8_deal_44 rfl (lv_at hl 3 rfl) ?_
              refine lv_iload hx hb dX8_deal_45 (lv_at hl 5 rfl) ?_
              refine sv_ishr (v := i_19 >>> (i_36 &&& 31)) hx hb dX8_deal_47 rfl ?_
              refine lv_iconst (v := 1) hx hb dX8_deal_48 (by decide) ?_
              refine sv_iand (v := (i_19 >>> (i_36 &&& 31)) &&& 1) hx hb dX8_deal_49 rfl ?_
              refine lv_iconst (v := 1) hx hb dX8_deal_50 (by decide) ?_
              refine lv_icmp_ne (tgt := 64) hx hb dX8_deal_51 (by decide) (fun c_51 => ?_) (fun c_51 => ?_)
              ·
                refine lv_iconst (v := 0) hx hb dX8_deal_64 (by decide) ?_
                refine sv_isub (v := 0) hx hb dX8_deal_65 (by decide) ?_
                refine lv_istore (lv' := [(4, .int 0), (0, .ref (y 0)), (1, .int 0), (2, .int 0), (3, .int i_19), (5, .int i_36)]) hx hb dX8_deal_66 hl (by decide) rfl (fun ls hl => ?_)
                refine lv_iinc (v := i_36 + 1) (lv' := [(5, .int (i_36 + 1)), (4, .int 0), (0, .ref (y 0)), (1, .int 0), (2, .int 0), (3, .int i_19)]) hx hb dX8_deal_68 hl (k := 5) rfl rfl (by decide) rfl (fun ls hl => ?_)
                refine lv_goto (tgt := 36) hx hb dX8_deal_71 (by decide) ?_
                exact ih_L_24 (i_36 + 1)  _ _ ls (lp_dec hn_36 c_39) (by have h9 := lp_inc c_39; omega) hP hD hS (lv_sub hl [2, 3, 4, 5, 1, 0] rfl)
              ·
                refine lv_aload_n hx hb dX8_deal_54 rfl (lv_at hl 0 rfl) ?_
                refine va_get (D := D) (ci := 8) (v := .ref (y 24)) (C := RX8) (T := TX8) (N := 52) hx hb hts w_1 hown hK hP 0 rfl rfl 50 (by decide) w_3 (fun _ h9 => h9) rfl dX8_deal_55 ?_
                refine lv_iload hx hb dX8_deal_58 (lv_at hl 5 rfl) ?_
                refine sv_iald (v := 0) hx hb hK hP 2 1 rfl rfl (lp_in hlo_36 c_39 (by decide)) rfl dX8_deal_60 ?_
                refine lv_goto (tgt := 65) hx hb dX8_deal_61 (by decide) ?_
                refine sv_isub (v := 0) hx hb dX8_deal_65 (by decide) ?_
                refine lv_istore (lv' := [(4, .int 0), (0, .ref (y 0)), (1, .int 0), (2, .int 0), (3, .int i_19), (5, .int i_36)]) hx hb dX8_deal_66 hl (by decide) rfl (fun ls hl => ?_)
                refine lv_iinc (v := i_36 + 1) (lv' := [(5, .int (i_36 + 1)), (4, .int 0), (0, .ref (y 0)), (1, .int 0), (2, .int 0), (3, .int i_19)]) hx hb dX8_deal_68 hl (k := 5) rfl rfl (by decide) rfl (fun ls hl => ?_)
                refine lv_goto (tgt := 36) hx hb dX8_deal_71 (by decide) ?_
                exact ih_L_24 (i_36 + 1)  _ _ ls (lp_dec hn_36 c_39) (by have h9 := lp_inc c_39; omega) hP hD hS (lv_sub hl [2, 3, 4, 5, 1, 0] rfl)
        exact L_24 _ 0  _ _ ls (Nat.lt_succ_self _) (by decide) hP hD hS (lv_sub hl [2, 3, 4, 5, 1, 0] rfl)
  exact L_1 _ 1  _ _ ls (Nat.lt_succ_self _) hP hD hS (lv_sub hl [3, 2, 1, 0] rfl)

set_option maxHeartbeats 4000000 in
set_option maxRecDepth 100000 in
theorem m_X8_pay (l : Launch) (D : va_G) (cB cI cJ cZ : ClassId) (sz : Nat) (y : Nat → Nat) : Met l yX8_pay wsX8_pay ({ frames := 2, cells := 0, slots := 0, locals := 49 } : Room) (cPre D (aTy cB cI cJ cZ) [((y 0), .inr (8, [.ref (y 1), .int 0, .int 0, .ref (y 2), .int 1, .int 100, .int 7, .int 14, .int 3, .int 1, .int 8, .int 0, .int 0, .int (-1), .int 0, .ref (y 3), .ref (y 4), .int 0, .int 0, .ref (y 5), .ref (y 6), .ref (y 7), .ref (y 8), .ref (y 9), .int 0, .ref (y 10), .ref (y 11), .ref (y 12), .ref (y 13), .int 0, .int 0, .ref (y 14), .ref (y 15), .ref (y 16), .ref (y 17), .int 0, .int 0, .int 0, .int 0, .int 0, .int 0, .ref (y 18), .ref (y 19), .int 0, .int 0, .ref (y 20), .int 0, .ref (y 21), .ref (y 22), .ref (y 23), .ref (y 24), .ref (y 25)])), ((y 16), .inl (cI, 6, .inl (fun _ => 0))), ((y 24), .inl (cI, 6, .inl (fun _ => 0)))] sz [.ref (y 0)]) (va_Qi (fun (r : Int32) (u : Unit) => r = 0) (cB_ D (aTy cB cI cJ cZ) (va_A [((y 0), .inr (8, [.ref (y 1), .int 0, .int 0, .ref (y 2), .int 1, .int 100, .int 7, .int 14, .int 3, .int 1, .int 8, .int 0, .int 0, .int (-1), .int 0, .ref (y 3), .ref (y 4), .int 0, .int 0, .ref (y 5), .ref (y 6), .ref (y 7), .ref (y 8), .ref (y 9), .int 0, .ref (y 10), .ref (y 11), .ref (y 12), .ref (y 13), .int 0, .int 0, .ref (y 14), .ref (y 15), .ref (y 16), .ref (y 17), .int 0, .int 0, .int 0, .int 0, .int 0, .int 0, .ref (y 18), .ref (y 19), .int 0, .int 0, .ref (y 20), .int 0, .ref (y 21), .ref (y 22), .ref (y 23), .ref (y 24), .ref (y 25)])), ((y 16), .inl (cI, 6, .inl (fun _ => 0))), ((y 24), .inl (cI, 6, .inl (fun _ => 0)))] sz) (fun _ => [])) (va_A [((y 0), .inr (8, [.ref (y 1), .int 0, .int 0, .ref (y 2), .int 1, .int 100, .int 7, .int 14, .int 3, .int 1, .int 8, .int 0, .int 0, .int (-1), .int 0, .ref (y 3), .ref (y 4), .int 0, .int 0, .ref (y 5), .ref (y 6), .ref (y 7), .ref (y 8), .ref (y 9), .int 0, .ref (y 10), .ref (y 11), .ref (y 12), .ref (y 13), .int 0, .int 0, .ref (y 14), .ref (y 15), .ref (y 16), .ref (y 17), .int 0, .int 0, .int 0, .int 0, .int 0, .int 0, .ref (y 18), .ref (y 19), .int 0, .int 0, .ref (y 20), .int 0, .ref (y 21), .ref (y 22), .ref (y 23), .ref (y 24), .ref (y 25)])), ((y 16), .inl (cI, 6, .inl (fun _ => 0))), ((y 24), .inl (cI, 6, .inl (fun _ => 0)))] sz)) 0 0 (va_A [((y 0), .inr (8, [.ref (y 1), .int 0, .int 0, .ref (y 2), .int 1, .int 100, .int 7, .int 14, .int 3, .int 1, .int 8, .int 0, .int 0, .int (-1), .int 0, .ref (y 3), .ref (y 4), .int 0, .int 0, .ref (y 5), .ref (y 6), .ref (y 7), .ref (y 8), .ref (y 9), .int 0, .ref (y 10), .ref (y 11), .ref (y 12), .ref (y 13), .int 0, .int 0, .ref (y 14), .ref (y 15), .ref (y 16), .ref (y 17), .int 0, .int 0, .int 0, .int 0, .int 0, .int 0, .ref (y 18), .ref (y 19), .int 0, .int 0, .ref (y 20), .int 0, .ref (y 21), .ref (y 22), .ref (y 23), .ref (y 24), .ref (y 25)])), ((y 16), .inl (cI, 6, .inl (fun _ => 0))), ((y 24), .inl (cI, 6, .inl (fun _ => 0)))] sz) := by
  refine Met.ofW (cc := cX8_pay) (maxL := 3) (ret := (some .int)) (by decide) rfl ?_
  intro p e s m args below meth c s₁ B hml hv
  obtain ⟨rfl, hsz, hP, hK, hD0⟩ := hv
  have hx := B.exec
  have hb := B.bytes
  have hr := B.returns
  have hts := atoms_spec (ws := wsX8_pay) B.pre
  have hown : s.vm.findClass RX8 = some m.cls := findClass_of_methodNamed B.named
  have hlocks := B.notSynchronized
  subst hsz
  have hD := hD0.self (sz := s.heap.size)
  generalize hAe : va_A [((y 0), .inr (8, [.ref (y 1), .int 0, .int 0, .ref (y 2), .int 1, .int 100, .int 7, .int 14, .int 3, .int 1, .int 8, .int 0, .int 0, .int (-1), .int 0, .ref (y 3), .ref (y 4), .int 0, .int 0, .ref (y 5), .ref (y 6), .ref (y 7), .ref (y 8), .ref (y 9), .int 0, .ref (y 10), .ref (y 11), .ref (y 12), .ref (y 13), .int 0, .int 0, .ref (y 14), .ref (y 15), .ref (y 16), .ref (y 17), .int 0, .int 0, .int 0, .int 0, .int 0, .int 0, .ref (y 18), .ref (y 19), .int 0, .int 0, .ref (y 20), .int 0, .ref (y 21), .ref (y 22), .ref (y 23), .ref (y 24), .ref (y 25)])), ((y 16), .inl (cI, 6, .inl (fun _ => 0))), ((y 24), .inl (cI, 6, .inl (fun _ => 0)))] s.heap.size = A at hD ⊢
  have hA : ∀ q : Nat, s.heap.size ≤ q → A q := fun q h => by rw [← hAe]; exact Or.inr h
  have hS : va_S A s.heap s.heap [] := va_S.rf
  have hP : va_P D vwCl [((y 0), .inr (8, [.ref (y 1), .int 0, .int 0, .ref (y 2), .int 1, .int 100, .int 7, .int 14, .int 3, .int 1, .int 8, .int 0, .int 0, .int (-1), .int 0, .ref (y 3), .ref (y 4), .int 0, .int 0, .ref (y 5), .ref (y 6), .ref (y 7), .ref (y 8), .ref (y 9), .int 0, .ref (y 10), .ref (y 11), .ref (y 12), .ref (y 13), .int 0, .int 0, .ref (y 14), .ref (y 15), .ref (y 16), .ref (y 17), .int 0, .int 0, .int 0, .int 0, .int 0, .int 0, .ref (y 18), .ref (y 19), .int 0, .int 0, .ref (y 20), .int 0, .ref (y 21), .ref (y 22), .ref (y 23), .ref (y 24), .ref (y 25)])), ((y 16), .inl (cI, 6, .inl (fun _ => 0))), ((y 24), .inl (cI, 6, .inl (fun _ => 0)))] s.heap := hP
  have w_1 : ∀ w ∈ wsX80, w ∈ wsX8_pay := by decide +kernel
  have w_2 := hts (Cond.fieldLink RX8 112 "BlueCoatsModel" "thrown" "I") (by decide +kernel)
  have w_3 := hts (Cond.fieldLink RX8 81 "BlueCoatsModel" "needs" "[I") (by decide +kernel)
  have w_4 := hts (Cond.fieldLink RX8 106 "BlueCoatsModel" "gets" "[I") (by decide +kernel)
  have w_5 := hts (Cond.fieldLink RX8 229 "BlueCoatsModel" "legacies" "I") (by decide +kernel)
  have hl := lv_entry ([.ref (y 0)]) (n := 3) (Nat.le_of_ble_eq_true rfl)
  rw [lg_entry_eq]
  generalize (lg_sl ([.ref (y 0)]) ++ List.replicate (3 - (lg_sl ([.ref (y 0)])).length) Slot.unset).toArray = ls at hl ⊢
  have hl : lv_has ls 3 [(0, .ref (y 0))] := hl
  refine lv_aload_n hx hb dX8_pay_0 rfl (lv_at hl 0 rfl) ?_
  refine lv_iconst (v := 0) hx hb dX8_pay_1 (by decide) ?_
  refine va_put (D := D) (ci := 8) (v := .int 0) (ty := .int) (C := RX8) (T := TX8) (N := 52) hx hb hts w_1 tyX8 tyX8_ok nmX8 hown hK hP hD hS 0 rfl rfl 2 (by decide) w_2 (fun _ h9 => h9) rfl (by decide +kernel) rfl rfl (Nat.le_of_ble_eq_true rfl) dX8_pay_2 (fun H locs hP hD hS => ?_)
  have hP : va_P D vwCl [((y 0), .inr (8, [.ref (y 1), .int 0, .int 0, .ref (y 2), .int 1, .int 100, .int 7, .int 14, .int 3, .int 1, .int 8, .int 0, .int 0, .int (-1), .int 0, .ref (y 3), .ref (y 4), .int 0, .int 0, .ref (y 5), .ref (y 6), .ref (y 7), .ref (y 8), .ref (y 9), .int 0, .ref (y 10), .ref (y 11), .ref (y 12), .ref (y 13), .int 0, .int 0, .ref (y 14), .ref (y 15), .ref (y 16), .ref (y 17), .int 0, .int 0, .int 0, .int 0, .int 0, .int 0, .ref (y 18), .ref (y 19), .int 0, .int 0, .ref (y 20), .int 0, .ref (y 21), .ref (y 22), .ref (y 23), .ref (y 24), .ref (y 25)])), ((y 16), .inl (cI, 6, .inl (fun _ => 0))), ((y 24), .inl (cI, 6, .inl (fun _ => 0)))] H := hP
  have hD : va_D A [((y 0), .inr (8, [.ref (y 1), .int 0, .int 0, .ref (y 2), .int 1, .int 100, .int 7, .int 14, .int 3, .int 1, .int 8, .int 0, .int 0, .int (-1), .int 0, .ref (y 3), .ref (y 4), .int 0, .int 0, .ref (y 5), .ref (y 6), .ref (y 7), .ref (y 8), .ref (y 9), .int 0, .ref (y 10), .ref (y 11), .ref (y 12), .ref (y 13), .int 0, .int 0, .ref (y 14), .ref (y 15), .ref (y 16), .ref (y 17), .int 0, .int 0, .int 0, .int 0, .int 0, .int 0, .ref (y 18), .ref (y 19), .int 0, .int 0, .ref (y 20), .int 0, .ref (y 21), .ref (y 22), .ref (y 23), .ref (y 24), .ref (y 25)])), ((y 16), .inl (cI, 6, .inl (fun _ => 0))), ((y 24), .inl (cI, 6, .inl (fun _ => 0)))] := hD
  refine lv_aload_n hx hb dX8_pay_5 rfl (lv_at hl 0 rfl) ?_
  refine cl_v (wc := [((y 0), .inr (8, [.ref (y 1), .int 0, .int 0, .ref (y 2), .int 1, .int 100, .int 7, .int 14, .int 3, .int 1, .int 8, .int 0, .int 0, .int (-1), .int 0, .ref (y 3), .ref (y 4), .int 0, .int 0, .ref (y 5), .ref (y 6), .ref (y 7), .ref (y 8), .ref (y 9), .int 0, .ref (y 10), .ref (y 11), .ref (y 12), .ref (y 13), .int 0, .int 0, .ref (y 14), .ref (y 15), .ref (y 16), .ref (y 17), .int 0, .int 0, .int 0, .int 0, .int 0, .int 0, .ref (y 18), .ref (y 19), .int 0, .int 0, .ref (y 20), .int 0, .ref (y 21), .ref (y 22), .ref (y 23), .ref (y 24), .ref (y 25)])), ((y 16), .inl (cI, 6, .inl (fun _ => 0))), ((y 24), .inl (cI, 6, .inl (fun _ => 0)))]) (wr := []) (va_runV (As := []) (rest := []) ⟨hx, hb, hml, hown, hts⟩ (m_X8_deal l D cB cI cJ cZ H.size y) (cwV 0 hts gX8_pay_X8_deal rfl rfl rfl (by decide +kernel) ⟨Nat.le_of_ble_eq_true rfl, Nat.le_of_ble_eq_true rfl⟩) (pre_V (hP.sub (ws' := [((y 0), .inr (8, [.ref (y 1), .int 0, .int 0, .ref (y 2), .int 1, .int 100, .int 7, .int 14, .int 3, .int 1, .int 8, .int 0, .int 0, .int (-1), .int 0, .ref (y 3), .ref (y 4), .int 0, .int 0, .ref (y 5), .ref (y 6), .ref (y 7), .ref (y 8), .ref (y 9), .int 0, .ref (y 10), .ref (y 11), .ref (y 12), .ref (y 13), .int 0, .int 0, .ref (y 14), .ref (y 15), .ref (y 16), .ref (y 17), .int 0, .int 0, .int 0, .int 0, .int 0, .int 0, .ref (y 18), .ref (y 19), .int 0, .int 0, .ref (y 20), .int 0, .ref (y 21), .ref (y 22), .ref (y 23), .ref (y 24), .ref (y 25)])), ((y 16), .inl (cI, 6, .inl (fun _ => 0))), ((y 24), .inl (cI, 6, .inl (fun _ => 0)))]) [0, 1, 2] rfl) hK (hD.sub (ws' := [((y 0), .inr (8, [.ref (y 1), .int 0, .int 0, .ref (y 2), .int 1, .int 100, .int 7, .int 14, .int 3, .int 1, .int 8, .int 0, .int 0, .int (-1), .int 0, .ref (y 3), .ref (y 4), .int 0, .int 0, .ref (y 5), .ref (y 6), .ref (y 7), .ref (y 8), .ref (y 9), .int 0, .ref (y 10), .ref (y 11), .ref (y 12), .ref (y 13), .int 0, .int 0, .ref (y 14), .ref (y 15), .ref (y 16), .ref (y 17), .int 0, .int 0, .int 0, .int 0, .int 0, .int 0, .ref (y 18), .ref (y 19), .int 0, .int 0, .ref (y 20), .int 0, .ref (y 21), .ref (y 22), .ref (y 23), .ref (y 24), .ref (y 25)])), ((y 16), .inl (cI, 6, .inl (fun _ => 0))), ((y 24), .inl (cI, 6, .inl (fun _ => 0)))]) [0, 1, 2] (by decide) rfl) 0 rfl rfl rfl) rfl rfl hl.1 rfl (lv_room (Nat.le_of_ble_eq_true rfl)) dX8_pay_6 ⟨Nat.le_of_ble_eq_true rfl, Nat.le_of_ble_eq_true rfl⟩) hP hD hS hA [0, 1, 2] [] rfl rfl (by decide) (by decide) 0 0 rfl rfl (fun u_2 H locs hw_u_2 hP hD hS => ?_)
  have hP : va_P D vwCl [((y 0), .inr (8, [.ref (y 1), .int 0, .int 0, .ref (y 2), .int 1, .int 100, .int 7, .int 14, .int 3, .int 1, .int 8, .int 0, .int 0, .int (-1), .int 0, .ref (y 3), .ref (y 4), .int 0, .int 0, .ref (y 5), .ref (y 6), .ref (y 7), .ref (y 8), .ref (y 9), .int 0, .ref (y 10), .ref (y 11), .ref (y 12), .ref (y 13), .int 0, .int 0, .ref (y 14), .ref (y 15), .ref (y 16), .ref (y 17), .int 0, .int 0, .int 0, .int 0, .int 0, .int 0, .ref (y 18), .ref (y 19), .int 0, .int 0, .ref (y 20), .int 0, .ref (y 21), .ref (y 22), .ref (y 23), .ref (y 24), .ref (y 25)])), ((y 16), .inl (cI, 6, .inl (fun _ => 0))), ((y 24), .inl (cI, 6, .inl (fun _ => 0)))] H := hP
  have hD : va_D A [((y 0), .inr (8, [.ref (y 1), .int 0, .int 0, .ref (y 2), .int 1, .int 100, .int 7, .int 14, .int 3, .int 1, .int 8, .int 0, .int 0, .int (-1), .int 0, .ref (y 3), .ref (y 4), .int 0, .int 0, .ref (y 5), .ref (y 6), .ref (y 7), .ref (y 8), .ref (y 9), .int 0, .ref (y 10), .ref (y 11), .ref (y 12), .ref (y 13), .int 0, .int 0, .ref (y 14), .ref (y 15), .ref (y 16), .ref (y 17), .int 0, .int 0, .int 0, .int 0, .int 0, .int 0, .ref (y 18), .ref (y 19), .int 0, .int 0, .ref (y 20), .int 0, .ref (y 21), .ref (y 22), .ref (y 23), .ref (y 24), .ref (y 25)])), ((y 16), .inl (cI, 6, .inl (fun _ => 0))), ((y 24), .inl (cI, 6, .inl (fun _ => 0)))] := hD
  refine lv_iconst (v := 0) hx hb dX8_pay_9 (by decide) ?_
  refine lv_istore_n (lv' := [(1, .int 0), (0, .ref (y 0))]) hx hb dX8_pay_10 rfl hl (by decide) rfl (fun ls hl => ?_)
  refine lv_iconst (v := 0) hx hb dX8_pay_11 (by decide) ?_
  refine lv_istore_n (lv' := [(2, .int 0), (1, .int 0), (0, .ref (y 0))]) hx hb dX8_pay_12 rfl hl (by decide) rfl (fun ls hl => ?_)
  refine lv_iload_n hx hb dX8_pay_13 rfl (lv_at hl 0 rfl) ?_
  refine lv_bipush (v := 6) hx hb dX8_pay_14 (by decide) ?_
  refine lv_icmp_ge (tgt := 49) hx hb dX8_pay_16 (by decide) (fun h => absurd h (by decide)) (fun _ => ?_)
  refine lv_aload_n hx hb dX8_pay_19 rfl (lv_at hl 2 rfl) ?_
  refine va_get (D := D) (ci := 8) (v := .ref (y 16)) (C := RX8) (T := TX8) (N := 52) hx hb hts w_1 hown hK hP 0 rfl rfl 33 (by decide) w_3 (fun _ h9 => h9) rfl dX8_pay_20 ?_
  refine lv_iload_n hx hb dX8_pay_23 rfl (lv_at hl 0 rfl) ?_
  refine lv_dup2_11 hx hb dX8_pay_24 rfl rfl ?_
  refine sv_iald (v := 0) hx hb hK hP 1 1 rfl rfl (vp_in_iff.mpr (by decide)) rfl dX8_pay_25 ?_
  refine lv_aload_n hx hb dX8_pay_26 rfl (lv_at hl 2 rfl) ?_
  refine va_get (D := D) (ci := 8) (v := .ref (y 24)) (C := RX8) (T := TX8) (N := 52) hx hb hts w_1 hown hK hP 0 rfl rfl 50 (by decide) w_4 (fun _ h9 => h9) rfl dX8_pay_27 ?_
  refine lv_iload_n hx hb dX8_pay_30 rfl (lv_at hl 0 rfl) ?_
  refine sv_iald (v := 0) hx hb hK hP 2 1 rfl rfl (vp_in_iff.mpr (by decide)) rfl dX8_pay_31 ?_
  refine sv_isub (v := 0) hx hb dX8_pay_32 (by decide) ?_
  refine sv_iast hx hb hK hP hD hS 1 1 rfl rfl (vp_in_iff.mpr (by decide)) dX8_pay_33 (fun g_3 H locs eg_3 hP hD hS => ?_)
  have eg_3 : g_3 = (fun _ => 0) := by rw [eg_3]; exact upd_zero _
  subst eg_3
  have hP : va_P D vwCl [((y 0), .inr (8, [.ref (y 1), .int 0, .int 0, .ref (y 2), .int 1, .int 100, .int 7, .int 14, .int 3, .int 1, .int 8, .int 0, .int 0, .int (-1), .int 0, .ref (y 3), .ref (y 4), .int 0, .int 0, .ref (y 5), .ref (y 6), .ref (y 7), .ref (y 8), .ref (y 9), .int 0, .ref (y 10), .ref (y 11), .ref (y 12), .ref (y 13), .int 0, .int 0, .ref (y 14), .ref (y 15), .ref (y 16), .ref (y 17), .int 0, .int 0, .int 0, .int 0, .int 0, .int 0, .ref (y 18), .ref (y 19), .int 0, .int 0, .ref (y 20), .int 0, .ref (y 21), .ref (y 22), .ref (y 23), .ref (y 24), .ref (y 25)])), ((y 16), .inl (cI, 6, .inl (fun _ => 0))), ((y 24), .inl (cI, 6, .inl (fun _ => 0)))] H := hP
  have hD : va_D A [((y 0), .inr (8, [.ref (y 1), .int 0, .int 0, .ref (y 2), .int 1, .int 100, .int 7, .int 14, .int 3, .int 1, .int 8, .int 0, .int 0, .int (-1), .int 0, .ref (y 3), .ref (y 4), .int 0, .int 0, .ref (y 5), .ref (y 6), .ref (y 7), .ref (y 8), .ref (y 9), .int 0, .ref (y 10), .ref (y 11), .ref (y 12), .ref (y 13), .int 0, .int 0, .ref (y 14), .ref (y 15), .ref (y 16), .ref (y 17), .int 0, .int 0, .int 0, .int 0, .int 0, .int 0, .ref (y 18), .ref (y 19), .int 0, .int 0, .ref (y 20), .int 0, .ref (y 21), .ref (y 22), .ref (y 23), .ref (y 24), .ref (y 25)])), ((y 16), .inl (cI, 6, .inl (fun _ => 0))), ((y 24), .inl (cI, 6, .inl (fun _ => 0)))] := hD
  refine lv_iload_n hx hb dX8_pay_34 rfl (lv_at hl 1 rfl) ?_
  refine lv_aload_n hx hb dX8_pay_35 rfl (lv_at hl 2 rfl) ?_
  refine va_get (D := D) (ci := 8) (v := .ref (y 24)) (C := RX8) (T := TX8) (N := 52) hx hb hts w_1 hown hK hP 0 rfl rfl 50 (by decide) w_4 (fun _ h9 => h9) rfl dX8_pay_36 ?_
  refine lv_iload_n hx hb dX8_pay_39 rfl (lv_at hl 0 rfl) ?_
  refine sv_iald (v := 0) hx hb hK hP 2 1 rfl rfl (vp_in_iff.mpr (by decide)) rfl dX8_pay_40 ?_
  refine sv_iadd (v := 0) hx hb dX8_pay_41 (by decide) ?_
  refine lv_istore_n (lv' := [(1, .int 0), (2, .int 0), (0, .ref (y 0))]) hx hb dX8_pay_42 rfl hl (by decide) rfl (fun ls hl => ?_)
  refine lv_iinc (v := 1) (lv' := [(2, .int 1), (1, .int 0), (0, .ref (y 0))]) hx hb dX8_pay_43 hl (k := 1) rfl (by decide) (by decide) rfl (fun ls hl => ?_)
  refine lv_goto (tgt := 13) hx hb dX8_pay_46 (by decide) ?_
  refine lv_iload_n hx hb dX8_pay_13 rfl (lv_at hl 0 rfl) ?_
  refine lv_bipush (v := 6) hx hb dX8_pay_14 (by decide) ?_
  refine lv_icmp_ge (tgt := 49) hx hb dX8_pay_16 (by decide) (fun h => absurd h (by decide)) (fun _ => ?_)
  refine lv_aload_n hx hb dX8_pay_19 rfl (lv_at hl 2 rfl) ?_
  refine va_get (D := D) (ci := 8) (v := .ref (y 16)) (C := RX8) (T := TX8) (N := 52) hx hb hts w_1 hown hK hP 0 rfl rfl 33 (by decide) w_3 (fun _ h9 => h9) rfl dX8_pay_20 ?_
  refine lv_iload_n hx hb dX8_pay_23 rfl (lv_at hl 0 rfl) ?_
  refine lv_dup2_11 hx hb dX8_pay_24 rfl rfl ?_
  refine sv_iald (v := 0) hx hb hK hP 1 1 rfl rfl (vp_in_iff.mpr (by decide)) rfl dX8_pay_25 ?_
  refine lv_aload_n hx hb dX8_pay_26 rfl (lv_at hl 2 rfl) ?_
  refine va_get (D := D) (ci := 8) (v := .ref (y 24)) (C := RX8) (T := TX8) (N := 52) hx hb hts w_1 hown hK hP 0 rfl rfl 50 (by decide) w_4 (fun _ h9 => h9) rfl dX8_pay_27 ?_
  refine lv_iload_n hx hb dX8_pay_30 rfl (lv_at hl 0 rfl) ?_
  refine sv_iald (v := 0) hx hb hK hP 2 1 rfl rfl (vp_in_iff.mpr (by decide)) rfl dX8_pay_31 ?_
  refine sv_isub (v := 0) hx hb dX8_pay_32 (by decide) ?_
  refine sv_iast hx hb hK hP hD hS 1 1 rfl rfl (vp_in_iff.mpr (by decide)) dX8_pay_33 (fun g_4 H locs eg_4 hP hD hS => ?_)
  have eg_4 : g_4 = (fun _ => 0) := by rw [eg_4]; exact upd_zero _
  subst eg_4
  have hP : va_P D vwCl [((y 0), .inr (8, [.ref (y 1), .int 0, .int 0, .ref (y 2), .int 1, .int 100, .int 7, .int 14, .int 3, .int 1, .int 8, .int 0, .int 0, .int (-1), .int 0, .ref (y 3), .ref (y 4), .int 0, .int 0, .ref (y 5), .ref (y 6), .ref (y 7), .ref (y 8), .ref (y 9), .int 0, .ref (y 10), .ref (y 11), .ref (y 12), .ref (y 13), .int 0, .int 0, .ref (y 14), .ref (y 15), .ref (y 16), .ref (y 17), .int 0, .int 0, .int 0, .int 0, .int 0, .int 0, .ref (y 18), .ref (y 19), .int 0, .int 0, .ref (y 20), .int 0, .ref (y 21), .ref (y 22), .ref (y 23), .ref (y 24), .ref (y 25)])), ((y 16), .inl (cI, 6, .inl (fun _ => 0))), ((y 24), .inl (cI, 6, .inl (fun _ => 0)))] H := hP
  have hD : va_D A [((y 0), .inr (8, [.ref (y 1), .int 0, .int 0, .ref (y 2), .int 1, .int 100, .int 7, .int 14, .int 3, .int 1, .int 8, .int 0, .int 0, .int (-1), .int 0, .ref (y 3), .ref (y 4), .int 0, .int 0, .ref (y 5), .ref (y 6), .ref (y 7), .ref (y 8), .ref (y 9), .int 0, .ref (y 10), .ref (y 11), .ref (y 12), .ref (y 13), .int 0, .int 0, .ref (y 14), .ref (y 15), .ref (y 16), .ref (y 17), .int 0, .int 0, .int 0, .int 0, .int 0, .int 0, .ref (y 18), .ref (y 19), .int 0, .int 0, .ref (y 20), .int 0, .ref (y 21), .ref (y 22), .ref (y 23), .ref (y 24), .ref (y 25)])), ((y 16), .inl (cI, 6, .inl (fun _ => 0))), ((y 24), .inl (cI, 6, .inl (fun _ => 0)))] := hD
  refine lv_iload_n hx hb dX8_pay_34 rfl (lv_at hl 1 rfl) ?_
  refine lv_aload_n hx hb dX8_pay_35 rfl (lv_at hl 2 rfl) ?_
  refine va_get (D := D) (ci := 8) (v := .ref (y 24)) (C := RX8) (T := TX8) (N := 52) hx hb hts w_1 hown hK hP 0 rfl rfl 50 (by decide) w_4 (fun _ h9 => h9) rfl dX8_pay_36 ?_
  refine lv_iload_n hx hb dX8_pay_39 rfl (lv_at hl 0 rfl) ?_
  refine sv_iald (v := 0) hx hb hK hP 2 1 rfl rfl (vp_in_iff.mpr (by decide)) rfl dX8_pay_40 ?_
  refine sv_iadd (v := 0) hx hb dX8_pay_41 (by decide) ?_
  refine lv_istore_n (lv' := [(1, .int 0), (2, .int 1), (0, .ref (y 0))]) hx hb dX8_pay_42 rfl hl (by decide) rfl (fun ls hl => ?_)
  refine lv_iinc (v := 2) (lv' := [(2, .int 2), (1, .int 0), (0, .ref (y 0))]) hx hb dX8_pay_43 hl (k := 1) rfl (by decide) (by decide) rfl (fun ls hl => ?_)
  refine lv_goto (tgt := 13) hx hb dX8_pay_46 (by decide) ?_
  refine lv_iload_n hx hb dX8_pay_13 rfl (lv_at hl 0 rfl) ?_
  refine lv_bipush (v := 6) hx hb dX8_pay_14 (by decide) ?_
  refine lv_icmp_ge (tgt := 49) hx hb dX8_pay_16 (by decide) (fun h => absurd h (by decide)) (fun _ => ?_)
  refine lv_aload_n hx hb dX8_pay_19 rfl (lv_at hl 2 rfl) ?_
  refine va_get (D := D) (ci := 8) (v := .ref (y 16)) (C := RX8) (T := TX8) (N := 52) hx hb hts w_1 hown hK hP 0 rfl rfl 33 (by decide) w_3 (fun _ h9 => h9) rfl dX8_pay_20 ?_
  refine lv_iload_n hx hb dX8_pay_23 rfl (lv_at hl 0 rfl) ?_
  refine lv_dup2_11 hx hb dX8_pay_24 rfl rfl ?_
  refine sv_iald (v := 0) hx hb hK hP 1 1 rfl rfl (vp_in_iff.mpr (by decide)) rfl dX8_pay_25 ?_
  refine lv_aload_n hx hb dX8_pay_26 rfl (lv_at hl 2 rfl) ?_
  refine va_get (D := D) (ci := 8) (v := .ref (y 24)) (C := RX8) (T := TX8) (N := 52) hx hb hts w_1 hown hK hP 0 rfl rfl 50 (by decide) w_4 (fun _ h9 => h9) rfl dX8_pay_27 ?_
  refine lv_iload_n hx hb dX8_pay_30 rfl (lv_at hl 0 rfl) ?_
  refine sv_iald (v := 0) hx hb hK hP 2 1 rfl rfl (vp_in_iff.mpr (by decide)) rfl dX8_pay_31 ?_
  refine sv_isub (v := 0) hx hb dX8_pay_32 (by decide) ?_
  refine sv_iast hx hb hK hP hD hS 1 1 rfl rfl (vp_in_iff.mpr (by decide)) dX8_pay_33 (fun g_5 H locs eg_5 hP hD hS => ?_)
  have eg_5 : g_5 = (fun _ => 0) := by rw [eg_5]; exact upd_zero _
  subst eg_5
  have hP : va_P D vwCl [((y 0), .inr (8, [.ref (y 1), .int 0, .int 0, .ref (y 2), .int 1, .int 100, .int 7, .int 14, .int 3, .int 1, .int 8, .int 0, .int 0, .int (-1), .int 0, .ref (y 3), .ref (y 4), .int 0, .int 0, .ref (y 5), .ref (y 6), .ref (y 7), .ref (y 8), .ref (y 9), .int 0, .ref (y 10), .ref (y 11), .ref (y 12), .ref (y 13), .int 0, .int 0, .ref (y 14), .ref (y 15), .ref (y 16), .ref (y 17), .int 0, .int 0, .int 0, .int 0, .int 0, .int 0, .ref (y 18), .ref (y 19), .int 0, .int 0, .ref (y 20), .int 0, .ref (y 21), .ref (y 22), .ref (y 23), .ref (y 24), .ref (y 25)])), ((y 16), .inl (cI, 6, .inl (fun _ => 0))), ((y 24), .inl (cI, 6, .inl (fun _ => 0)))] H := hP
  have hD : va_D A [((y 0), .inr (8, [.ref (y 1), .int 0, .int 0, .ref (y 2), .int 1, .int 100, .int 7, .int 14, .int 3, .int 1, .int 8, .int 0, .int 0, .int (-1), .int 0, .ref (y 3), .ref (y 4), .int 0, .int 0, .ref (y 5), .ref (y 6), .ref (y 7), .ref (y 8), .ref (y 9), .int 0, .ref (y 10), .ref (y 11), .ref (y 12), .ref (y 13), .int 0, .int 0, .ref (y 14), .ref (y 15), .ref (y 16), .ref (y 17), .int 0, .int 0, .int 0, .int 0, .int 0, .int 0, .ref (y 18), .ref (y 19), .int 0, .int 0, .ref (y 20), .int 0, .ref (y 21), .ref (y 22), .ref (y 23), .ref (y 24), .ref (y 25)])), ((y 16), .inl (cI, 6, .inl (fun _ => 0))), ((y 24), .inl (cI, 6, .inl (fun _ => 0)))] := hD
  refine lv_iload_n hx hb dX8_pay_34 rfl (lv_at hl 1 rfl) ?_
  refine lv_aload_n hx hb dX8_pay_35 rfl (lv_at hl 2 rfl) ?_
  refine va_get (D := D) (ci := 8) (v := .ref (y 24)) (C := RX8) (T := TX8) (N := 52) hx hb hts w_1 hown hK hP 0 rfl rfl 50 (by decide) w_4 (fun _ h9 => h9) rfl dX8_pay_36 ?_
  refine lv_iload_n hx hb dX8_pay_39 rfl (lv_at hl 0 rfl) ?_
  refine sv_iald (v := 0) hx hb hK hP 2 1 rfl rfl (vp_in_iff.mpr (by decide)) rfl dX8_pay_40 ?_
  refine sv_iadd (v := 0) hx hb dX8_pay_41 (by decide) ?_
  refine lv_istore_n (lv' := [(1, .int 0), (2, .int 2), (0, .ref (y 0))]) hx hb dX8_pay_42 rfl hl (by decide) rfl (fun ls hl => ?_)
  refine lv_iinc (v := 3) (lv' := [(2, .int 3), (1, .int 0), (0, .ref (y 0))]) hx hb dX8_pay_43 hl (k := 1) rfl (by decide) (by decide) rfl (fun ls hl => ?_)
  refine lv_goto (tgt := 13) hx hb dX8_pay_46 (by decide) ?_
  refine lv_iload_n hx hb dX8_pay_13 rfl (lv_at hl 0 rfl) ?_
  refine lv_bipush (v := 6) hx hb dX8_pay_14 (by decide) ?_
  refine lv_icmp_ge (tgt := 49) hx hb dX8_pay_16 (by decide) (fun h => absurd h (by decide)) (fun _ => ?_)
  refine lv_aload_n hx hb dX8_pay_19 rfl (lv_at hl 2 rfl) ?_
  refine va_get (D := D) (ci := 8) (v := .ref (y 16)) (C := RX8) (T := TX8) (N := 52) hx hb hts w_1 hown hK hP 0 rfl rfl 33 (by decide) w_3 (fun _ h9 => h9) rfl dX8_pay_20 ?_
  refine lv_iload_n hx hb dX8_pay_23 rfl (lv_at hl 0 rfl) ?_
  refine lv_dup2_11 hx hb dX8_pay_24 rfl rfl ?_
  refine sv_iald (v := 0) hx hb hK hP 1 1 rfl rfl (vp_in_iff.mpr (by decide)) rfl dX8_pay_25 ?_
  refine lv_aload_n hx hb dX8_pay_26 rfl (lv_at hl 2 rfl) ?_
  refine va_get (D := D) (ci := 8) (v := .ref (y 24)) (C := RX8) (T := TX8) (N := 52) hx hb hts w_1 hown hK hP 0 rfl rfl 50 (by decide) w_4 (fun _ h9 => h9) rfl dX8_pay_27 ?_
  refine lv_iload_n hx hb dX8_pay_30 rfl (lv_at hl 0 rfl) ?_
  refine sv_iald (v := 0) hx hb hK hP 2 1 rfl rfl (vp_in_iff.mpr (by decide)) rfl dX8_pay_31 ?_
  refine sv_isub (v := 0) hx hb dX8_pay_32 (by decide) ?_
  refine sv_iast hx hb hK hP hD hS 1 1 rfl rfl (vp_in_iff.mpr (by decide)) dX8_pay_33 (fun g_6 H locs eg_6 hP hD hS => ?_)
  have eg_6 : g_6 = (fun _ => 0) := by rw [eg_6]; exact upd_zero _
  subst eg_6
  have hP : va_P D vwCl [((y 0), .inr (8, [.ref (y 1), .int 0, .int 0, .ref (y 2), .int 1, .int 100, .int 7, .int 14, .int 3, .int 1, .int 8, .int 0, .int 0, .int (-1), .int 0, .ref (y 3), .ref (y 4), .int 0, .int 0, .ref (y 5), .ref (y 6), .ref (y 7), .ref (y 8), .ref (y 9), .int 0, .ref (y 10), .ref (y 11), .ref (y 12), .ref (y 13), .int 0, .int 0, .ref (y 14), .ref (y 15), .ref (y 16), .ref (y 17), .int 0, .int 0, .int 0, .int 0, .int 0, .int 0, .ref (y 18), .ref (y 19), .int 0, .int 0, .ref (y 20), .int 0, .ref (y 21), .ref (y 22), .ref (y 23), .ref (y 24), .ref (y 25)])), ((y 16), .inl (cI, 6, .inl (fun _ => 0))), ((y 24), .inl (cI, 6, .inl (fun _ => 0)))] H := hP
  have hD : va_D A [((y 0), .inr (8, [.ref (y 1), .int 0, .int 0, .ref (y 2), .int 1, .int 100, .int 7, .int 14, .int 3, .int 1, .int 8, .int 0, .int 0, .int (-1), .int 0, .ref (y 3), .ref (y 4), .int 0, .int 0, .ref (y 5), .ref (y 6), .ref (y 7), .ref (y 8), .ref (y 9), .int 0, .ref (y 10), .ref (y 11), .ref (y 12), .ref (y 13), .int 0, .int 0, .ref (y 14), .ref (y 15), .ref (y 16), .ref (y 17), .int 0, .int 0, .int 0, .int 0, .int 0, .int 0, .ref (y 18), .ref (y 19), .int 0, .int 0, .ref (y 20), .int 0, .ref (y 21), .ref (y 22), .ref (y 23), .ref (y 24), .ref (y 25)])), ((y 16), .inl (cI, 6, .inl (fun _ => 0))), ((y 24), .inl (cI, 6, .inl (fun _ => 0)))] := hD
  refine lv_iload_n hx hb dX8_pay_34 rfl (lv_at hl 1 rfl) ?_
  refine lv_aload_n hx hb dX8_pay_35 rfl (lv_at hl 2 rfl) ?_
  refine va_get (D := D) (ci := 8) (v := .ref (y 24)) (C := RX8) (T := TX8) (N := 52) hx hb hts w_1 hown hK hP 0 rfl rfl 50 (by decide) w_4 (fun _ h9 => h9) rfl dX8_pay_36 ?_
  refine lv_iload_n hx hb dX8_pay_39 rfl (lv_at hl 0 rfl) ?_
  refine sv_iald (v := 0) hx hb hK hP 2 1 rfl rfl (vp_in_iff.mpr (by decide)) rfl dX8_pay_40 ?_
  refine sv_iadd (v := 0) hx hb dX8_pay_41 (by decide) ?_
  refine lv_istore_n (lv' := [(1, .int 0), (2, .int 3), (0, .ref (y 0))]) hx hb dX8_pay_42 rfl hl (by decide) rfl (fun ls hl => ?_)
  refine lv_iinc (v := 4) (lv' := [(2, .int 4), (1, .int 0), (0, .ref (y 0))]) hx hb dX8_pay_43 hl (k := 1) rfl (by decide) (by decide) rfl (fun ls hl => ?_)
  refine lv_goto (tgt := 13) hx hb dX8_pay_46 (by decide) ?_
  refine lv_iload_n hx hb dX8_pay_13 rfl (lv_at hl 0 rfl) ?_
  refine lv_bipush (v := 6) hx hb dX8_pay_14 (by decide) ?_
  refine lv_icmp_ge (tgt := 49) hx hb dX8_pay_16 (by decide) (fun h => absurd h (by decide)) (fun _ => ?_)
  refine lv_aload_n hx hb dX8_pay_19 rfl (lv_at hl 2 rfl) ?_
  refine va_get (D := D) (ci := 8) (v := .ref (y 16)) (C := RX8) (T := TX8) (N := 52) hx hb hts w_1 hown hK hP 0 rfl rfl 33 (by decide) w_3 (fun _ h9 => h9) rfl dX8_pay_20 ?_
  refine lv_iload_n hx hb dX8_pay_23 rfl (lv_at hl 0 rfl) ?_
  refine lv_dup2_11 hx hb dX8_pay_24 rfl rfl ?_
  refine sv_iald (v := 0) hx hb hK hP 1 1 rfl rfl (vp_in_iff.mpr (by decide)) rfl dX8_pay_25 ?_
  refine lv_aload_n hx hb dX8_pay_26 rfl (lv_at hl 2 rfl) ?_
  refine va_get (D := D) (ci := 8) (v := .ref (y 24)) (C := RX8) (T := TX8) (N := 52) hx hb hts w_1 hown hK hP 0 rfl rfl 50 (by decide) w_4 (fun _ h9 => h9) rfl dX8_pay_27 ?_
  refine lv_iload_n hx hb dX8_pay_30 rfl (lv_at hl 0 rfl) ?_
  refine sv_iald (v := 0) hx hb hK hP 2 1 rfl rfl (vp_in_iff.mpr (by decide)) rfl dX8_pay_31 ?_
  refine sv_isub (v := 0) hx hb dX8_pay_32 (by decide) ?_
  refine sv_iast hx hb hK hP hD hS 1 1 rfl rfl (vp_in_iff.mpr (by decide)) dX8_pay_33 (fun g_7 H locs eg_7 hP hD hS => ?_)
  have eg_7 : g_7 = (fun _ => 0) := by rw [eg_7]; exact upd_zero _
  subst eg_7
  have hP : va_P D vwCl [((y 0), .inr (8, [.ref (y 1), .int 0, .int 0, .ref (y 2), .int 1, .int 100, .int 7, .int 14, .int 3, .int 1, .int 8, .int 0, .int 0, .int (-1), .int 0, .ref (y 3), .ref (y 4), .int 0, .int 0, .ref (y 5), .ref (y 6), .ref (y 7), .ref (y 8), .ref (y 9), .int 0, .ref (y 10), .ref (y 11), .ref (y 12), .ref (y 13), .int 0, .int 0, .ref (y 14), .ref (y 15), .ref (y 16), .ref (y 17), .int 0, .int 0, .int 0, .int 0, .int 0, .int 0, .ref (y 18), .ref (y 19), .int 0, .int 0, .ref (y 20), .int 0, .ref (y 21), .ref (y 22), .ref (y 23), .ref (y 24), .ref (y 25)])), ((y 16), .inl (cI, 6, .inl (fun _ => 0))), ((y 24), .inl (cI, 6, .inl (fun _ => 0)))] H := hP
  have hD : va_D A [((y 0), .inr (8, [.ref (y 1), .int 0, .int 0, .ref (y 2), .int 1, .int 100, .int 7, .int 14, .int 3, .int 1, .int 8, .int 0, .int 0, .int (-1), .int 0, .ref (y 3), .ref (y 4), .int 0, .int 0, .ref (y 5), .ref (y 6), .ref (y 7), .ref (y 8), .ref (y 9), .int 0, .ref (y 10), .ref (y 11), .ref (y 12), .ref (y 13), .int 0, .int 0, .ref (y 14), .ref (y 15), .ref (y 16), .ref (y 17), .int 0, .int 0, .int 0, .int 0, .int 0, .int 0, .ref (y 18), .ref (y 19), .int 0, .int 0, .ref (y 20), .int 0, .ref (y 21), .ref (y 22), .ref (y 23), .ref (y 24), .ref (y 25)])), ((y 16), .inl (cI, 6, .inl (fun _ => 0))), ((y 24), .inl (cI, 6, .inl (fun _ => 0)))] := hD
  refine lv_iload_n hx hb dX8_pay_34 rfl (lv_at hl 1 rfl) ?_
  refine lv_aload_n hx hb dX8_pay_35 rfl (lv_at hl 2 rfl) ?_
  refine va_get (D := D) (ci := 8) (v := .ref (y 24)) (C := RX8) (T := TX8) (N := 52) hx hb hts w_1 hown hK hP 0 rfl rfl 50 (by decide) w_4 (fun _ h9 => h9) rfl dX8_pay_36 ?_
  refine lv_iload_n hx hb dX8_pay_39 rfl (lv_at hl 0 rfl) ?_
  refine sv_iald (v := 0) hx hb hK hP 2 1 rfl rfl (vp_in_iff.mpr (by decide)) rfl dX8_pay_40 ?_
  refine sv_iadd (v := 0) hx hb dX8_pay_41 (by decide) ?_
  refine lv_istore_n (lv' := [(1, .int 0), (2, .int 4), (0, .ref (y 0))]) hx hb dX8_pay_42 rfl hl (by decide) rfl (fun ls hl => ?_)
  refine lv_iinc (v := 5) (lv' := [(2, .int 5), (1, .int 0), (0, .ref (y 0))]) hx hb dX8_pay_43 hl (k := 1) rfl (by decide) (by decide) rfl (fun ls hl => ?_)
  refine lv_goto (tgt := 13) hx hb dX8_pay_46 (by decide) ?_
  refine lv_iload_n hx hb dX8_pay_13 rfl (lv_at hl 0 rfl) ?_
  refine lv_bipush (v := 6) hx hb dX8_pay_14 (by decide) ?_
  refine lv_icmp_ge (tgt := 49) hx hb dX8_pay_16 (by decide) (fun h => absurd h (by decide)) (fun _ => ?_)
  refine lv_aload_n hx hb dX8_pay_19 rfl (lv_at hl 2 rfl) ?_
  refine va_get (D := D) (ci := 8) (v := .ref (y 16)) (C := RX8) (T := TX8) (N := 52) hx hb hts w_1 hown hK hP 0 rfl rfl 33 (by decide) w_3 (fun _ h9 => h9) rfl dX8_pay_20 ?_
  refine lv_iload_n hx hb dX8_pay_23 rfl (lv_at hl 0 rfl) ?_
  refine lv_dup2_11 hx hb dX8_pay_24 rfl rfl ?_
  refine sv_iald (v := 0) hx hb hK hP 1 1 rfl rfl (vp_in_iff.mpr (by decide)) rfl dX8_pay_25 ?_
  refine lv_aload_n hx hb dX8_pay_26 rfl (lv_at hl 2 rfl) ?_
  refine va_get (D := D) (ci := 8) (v := .ref (y 24)) (C := RX8) (T := TX8) (N := 52) hx hb hts w_1 hown hK hP 0 rfl rfl 50 (by decide) w_4 (fun _ h9 => h9) rfl dX8_pay_27 ?_
  refine lv_iload_n hx hb dX8_pay_30 rfl (lv_at hl 0 rfl) ?_
  refine sv_iald (v := 0) hx hb hK hP 2 1 rfl rfl (vp_in_iff.mpr (by decide)) rfl dX8_pay_31 ?_
  refine sv_isub (v := 0) hx hb dX8_pay_32 (by decide) ?_
  refine sv_iast hx hb hK hP hD hS 1 1 rfl rfl (vp_in_iff.mpr (by decide)) dX8_pay_33 (fun g_8 H locs eg_8 hP hD hS => ?_)
  have eg_8 : g_8 = (fun _ => 0) := by rw [eg_8]; exact upd_zero _
  subst eg_8
  have hP : va_P D vwCl [((y 0), .inr (8, [.ref (y 1), .int 0, .int 0, .ref (y 2), .int 1, .int 100, .int 7, .int 14, .int 3, .int 1, .int 8, .int 0, .int 0, .int (-1), .int 0, .ref (y 3), .ref (y 4), .int 0, .int 0, .ref (y 5), .ref (y 6), .ref (y 7), .ref (y 8), .ref (y 9), .int 0, .ref (y 10), .ref (y 11), .ref (y 12), .ref (y 13), .int 0, .int 0, .ref (y 14), .ref (y 15), .ref (y 16), .ref (y 17), .int 0, .int 0, .int 0, .int 0, .int 0, .int 0, .ref (y 18), .ref (y 19), .int 0, .int 0, .ref (y 20), .int 0, .ref (y 21), .ref (y 22), .ref (y 23), .ref (y 24), .ref (y 25)])), ((y 16), .inl (cI, 6, .inl (fun _ => 0))), ((y 24), .inl (cI, 6, .inl (fun _ => 0)))] H := hP
  have hD : va_D A [((y 0), .inr (8, [.ref (y 1), .int 0, .int 0, .ref (y 2), .int 1, .int 100, .int 7, .int 14, .int 3, .int 1, .int 8, .int 0, .int 0, .int (-1), .int 0, .ref (y 3), .ref (y 4), .int 0, .int 0, .ref (y 5), .ref (y 6), .ref (y 7), .ref (y 8), .ref (y 9), .int 0, .ref (y 10), .ref (y 11), .ref (y 12), .ref (y 13), .int 0, .int 0, .ref (y 14), .ref (y 15), .ref (y 16), .ref (y 17), .int 0, .int 0, .int 0, .int 0, .int 0, .int 0, .ref (y 18), .ref (y 19), .int 0, .int 0, .ref (y 20), .int 0, .ref (y 21), .ref (y 22), .ref (y 23), .ref (y 24), .ref (y 25)])), ((y 16), .inl (cI, 6, .inl (fun _ => 0))), ((y 24), .inl (cI, 6, .inl (fun _ => 0)))] := hD
  refine lv_iload_n hx hb dX8_pay_34 rfl (lv_at hl 1 rfl) ?_
  refine lv_aload_n hx hb dX8_pay_35 rfl (lv_at hl 2 rfl) ?_
  refine va_get (D := D) (ci := 8) (v := .ref (y 24)) (C := RX8) (T := TX8) (N := 52) hx hb hts w_1 hown hK hP 0 rfl rfl 50 (by decide) w_4 (fun _ h9 => h9) rfl dX8_pay_36 ?_
  refine lv_iload_n hx hb dX8_pay_39 rfl (lv_at hl 0 rfl) ?_
  refine sv_iald (v := 0) hx hb hK hP 2 1 rfl rfl (vp_in_iff.mpr (by decide)) rfl dX8_pay_40 ?_
  refine sv_iadd (v := 0) hx hb dX8_pay_41 (by decide) ?_
  refine lv_istore_n (lv' := [(1, .int 0), (2, .int 5), (0, .ref (y 0))]) hx hb dX8_pay_42 rfl hl (by decide) rfl (fun ls hl => ?_)
  refine lv_iinc (v := 6) (lv' := [(2, .int 6), (1, .int 0), (0, .ref (y 0))]) hx hb dX8_pay_43 hl (k := 1) rfl (by decide) (by decide) rfl (fun ls hl => ?_)
  refine lv_goto (tgt := 13) hx hb dX8_pay_46 (by decide) ?_
  refine lv_iload_n hx hb dX8_pay_13 rfl (lv_at hl 0 rfl) ?_
  refine lv_bipush (v := 6) hx hb dX8_pay_14 (by decide) ?_
  refine lv_icmp_ge (tgt := 49) hx hb dX8_pay_16 (by decide) (fun _ => ?_) (fun h => absurd (by decide) h)
  refine lv_iconst (v := 0) hx hb dX8_pay_49 (by decide) ?_
  refine lv_istore_n (lv' := [(2, .int 0), (1, .int 0), (0, .ref (y 0))]) hx hb dX8_pay_50 rfl hl (by decide) rfl (fun ls hl => ?_)
  refine lv_iload_n hx hb dX8_pay_51 rfl (lv_at hl 0 rfl) ?_
  refine lv_aload_n hx hb dX8_pay_52 rfl (lv_at hl 2 rfl) ?_
  refine va_get (D := D) (ci := 8) (v := .int 0) (C := RX8) (T := TX8) (N := 52) hx hb hts w_1 hown hK hP 0 rfl rfl 30 (by decide) w_5 (fun _ h9 => h9) rfl dX8_pay_53 ?_
  refine lv_icmp_ge (tgt := 80) hx hb dX8_pay_56 (by decide) (fun _ => ?_) (fun h => absurd (by decide) h)
  refine lv_iload_n hx hb dX8_pay_80 rfl (lv_at hl 1 rfl) ?_
  have hP9 := hP.sub (ws' := []) [] rfl
  have hD9 := hD.sub (ws' := []) [] (by decide) rfl
  exact W.iret (v := 0) hx hb hr (fun t ht hW => ⟨⟨_, (), rfl, rfl, by rw [ht]; exact hP9, va_K.moved hW.alike hK, hD9⟩, hS.F ht⟩) hS.2.2 dX8_pay_81

set_option maxHeartbeats 4000000 in
set_option maxRecDepth 100000 in
theorem m_X8_owed (l : Launch) (D : va_G) (cB cI cJ cZ : ClassId) (sz : Nat) (y : Nat → Nat) (q k : Int32) : Met l yX8_owed wsX8_owed ({ frames := 2, cells := 0, slots := 0, locals := 49 } : Room) (cPre D (aTy cB cI cJ cZ) [((y 0), .inr (8, [.ref (y 1), .int 0, .int 0, .ref (y 2), .int 1, .int 100, .int 7, .int 14, .int 3, .int 1, .int 8, .int 0, .int 0, .int (-1), .int 0, .ref (y 3), .ref (y 4), .int 0, .int 0, .ref (y 5), .ref (y 6), .ref (y 7), .ref (y 8), .ref (y 9), .int 0, .ref (y 10), .ref (y 11), .ref (y 12), .ref (y 13), .int 0, .int 0, .ref (y 14), .ref (y 15), .ref (y 16), .ref (y 17), .int 0, .int 0, .int 0, .int 0, .int 0, .int 0, .ref (y 18), .ref (y 19), .int 0, .int 0, .ref (y 20), .int 0, .ref (y 21), .ref (y 22), .ref (y 23), .ref (y 24), .ref (y 25)])), ((y 16), .inl (cI, 6, .inl (fun _ => 0))), ((y 24), .inl (cI, 6, .inl (fun _ => 0)))] sz [.ref (y 0), .int q, .int k]) (va_Qi (fun (r : Int32) (u : Unit) => r = sOwed q k) (cB_ D (aTy cB cI cJ cZ) (va_A [((y 0), .inr (8, [.ref (y 1), .int 0, .int 0, .ref (y 2), .int 1, .int 100, .int 7, .int 14, .int 3, .int 1, .int 8, .int 0, .int 0, .int (-1), .int 0, .ref (y 3), .ref (y 4), .int 0, .int 0, .ref (y 5), .ref (y 6), .ref (y 7), .ref (y 8), .ref (y 9), .int 0, .ref (y 10), .ref (y 11), .ref (y 12), .ref (y 13), .int 0, .int 0, .ref (y 14), .ref (y 15), .ref (y 16), .ref (y 17), .int 0, .int 0, .int 0, .int 0, .int 0, .int 0, .ref (y 18), .ref (y 19), .int 0, .int 0, .ref (y 20), .int 0, .ref (y 21), .ref (y 22), .ref (y 23), .ref (y 24), .ref (y 25)])), ((y 16), .inl (cI, 6, .inl (fun _ => 0))), ((y 24), .inl (cI, 6, .inl (fun _ => 0)))] sz) (fun _ => [])) (va_A [((y 0), .inr (8, [.ref (y 1), .int 0, .int 0, .ref (y 2), .int 1, .int 100, .int 7, .int 14, .int 3, .int 1, .int 8, .int 0, .int 0, .int (-1), .int 0, .ref (y 3), .ref (y 4), .int 0, .int 0, .ref (y 5), .ref (y 6), .ref (y 7), .ref (y 8), .ref (y 9), .int 0, .ref (y 10), .ref (y 11), .ref (y 12), .ref (y 13), .int 0, .int 0, .ref (y 14), .ref (y 15), .ref (y 16), .ref (y 17), .int 0, .int 0, .int 0, .int 0, .int 0, .int 0, .ref (y 18), .ref (y 19), .int 0, .int 0, .ref (y 20), .int 0, .ref (y 21), .ref (y 22), .ref (y 23), .ref (y 24), .ref (y 25)])), ((y 16), .inl (cI, 6, .inl (fun _ => 0))), ((y 24), .inl (cI, 6, .inl (fun _ => 0)))] sz)) 0 0 (va_A [((y 0), .inr (8, [.ref (y 1), .int 0, .int 0, .ref (y 2), .int 1, .int 100, .int 7, .int 14, .int 3, .int 1, .int 8, .int 0, .int 0, .int (-1), .int 0, .ref (y 3), .ref (y 4), .int 0, .int 0, .ref (y 5), .ref (y 6), .ref (y 7), .ref (y 8), .ref (y 9), .int 0, .ref (y 10), .ref (y 11), .ref (y 12), .ref (y 13), .int 0, .int 0, .ref (y 14), .ref (y 15), .ref (y 16), .ref (y 17), .int 0, .int 0, .int 0, .int 0, .int 0, .int 0, .ref (y 18), .ref (y 19), .int 0, .int 0, .ref (y 20), .int 0, .ref (y 21), .ref (y 22), .ref (y 23), .ref (y 24), .ref (y 25)])), ((y 16), .inl (cI, 6, .inl (fun _ => 0))), ((y 24), .inl (cI, 6, .inl (fun _ => 0)))] sz) := by
  refine Met.ofW (cc := cX8_owed) (maxL := 5) (ret := (some .int)) (by decide) rfl ?_
  intro p e s m args below meth c s₁ B hml hv
  obtain ⟨rfl, hsz, hP, hK, hD0⟩ := hv
  have hx := B.exec
  have hb := B.bytes
  have hr := B.returns
  have hts := atoms_spec (ws := wsX8_owed) B.pre
  have hown : s.vm.findClass RX8 = some m.cls := findClass_of_methodNamed B.named
  have hlocks := B.notSynchronized
  subst hsz
  have hD := hD0.self (sz := s.heap.size)
  generalize hAe : va_A [((y 0), .inr (8, [.ref (y 1), .int 0, .int 0, .ref (y 2), .int 1, .int 100, .int 7, .int 14, .int 3, .int 1, .int 8, .int 0, .int 0, .int (-1), .int 0, .ref (y 3), .ref (y 4), .int 0, .int 0, .ref (y 5), .ref (y 6), .ref (y 7), .ref (y 8), .ref (y 9), .int 0, .ref (y 10), .ref (y 11), .ref (y 12), .ref (y 13), .int 0, .int 0, .ref (y 14), .ref (y 15), .ref (y 16), .ref (y 17), .int 0, .int 0, .int 0, .int 0, .int 0, .int 0, .ref (y 18), .ref (y 19), .int 0, .int 0, .ref (y 20), .int 0, .ref (y 21), .ref (y 22), .ref (y 23), .ref (y 24), .ref (y 25)])), ((y 16), .inl (cI, 6, .inl (fun _ => 0))), ((y 24), .inl (cI, 6, .inl (fun _ => 0)))] s.heap.size = A at hD ⊢
  have hA : ∀ q : Nat, s.heap.size ≤ q → A q := fun q h => by rw [← hAe]; exact Or.inr h
  have hS : va_S A s.heap s.heap [] := va_S.rf
  have hP : va_P D vwCl [((y 0), .inr (8, [.ref (y 1), .int 0, .int 0, .ref (y 2), .int 1, .int 100, .int 7, .int 14, .int 3, .int 1, .int 8, .int 0, .int 0, .int (-1), .int 0, .ref (y 3), .ref (y 4), .int 0, .int 0, .ref (y 5), .ref (y 6), .ref (y 7), .ref (y 8), .ref (y 9), .int 0, .ref (y 10), .ref (y 11), .ref (y 12), .ref (y 13), .int 0, .int 0, .ref (y 14), .ref (y 15), .ref (y 16), .ref (y 17), .int 0, .int 0, .int 0, .int 0, .int 0, .int 0, .ref (y 18), .ref (y 19), .int 0, .int 0, .ref (y 20), .int 0, .ref (y 21), .ref (y 22), .ref (y 23), .ref (y 24), .ref (y 25)])), ((y 16), .inl (cI, 6, .inl (fun _ => 0))), ((y 24), .inl (cI, 6, .inl (fun _ => 0)))] s.heap := hP
  have w_1 : ∀ w ∈ wsX80, w ∈ wsX8_owed := by decide +kernel
  have w_2 := hts (Cond.fieldLink RX8 112 "BlueCoatsModel" "thrown" "I") (by decide +kernel)
  have w_3 := hts (Cond.fieldLink RX8 229 "BlueCoatsModel" "legacies" "I") (by decide +kernel)
  have w_4 := hts (Cond.fieldLink RX8 106 "BlueCoatsModel" "gets" "[I") (by decide +kernel)
  have hl := lv_entry ([.ref (y 0), .int q, .int k]) (n := 5) (Nat.le_of_ble_eq_true rfl)
  rw [lg_entry_eq]
  generalize (lg_sl ([.ref (y 0), .int q, .int k]) ++ List.replicate (5 - (lg_sl ([.ref (y 0), .int q, .int k])).length) Slot.unset).toArray = ls at hl ⊢
  have hl : lv_has ls 5 [(0, .ref (y 0)), (1, .int q), (2, .int k)] := hl
  refine lv_aload_n hx hb dX8_owed_0 rfl (lv_at hl 0 rfl) ?_
  refine lv_iconst (v := 0) hx hb dX8_owed_1 (by decide) ?_
  refine va_put (D := D) (ci := 8) (v := .int 0) (ty := .int) (C := RX8) (T := TX8) (N := 52) hx hb hts w_1 tyX8 tyX8_ok nmX8 hown hK hP hD hS 0 rfl rfl 2 (by decide) w_2 (fun _ h9 => h9) rfl (by decide +kernel) rfl rfl (Nat.le_of_ble_eq_true rfl) dX8_owed_2 (fun H locs hP hD hS => ?_)
  have hP : va_P D vwCl [((y 0), .inr (8, [.ref (y 1), .int 0, .int 0, .ref (y 2), .int 1, .int 100, .int 7, .int 14, .int 3, .int 1, .int 8, .int 0, .int 0, .int (-1), .int 0, .ref (y 3), .ref (y 4), .int 0, .int 0, .ref (y 5), .ref (y 6), .ref (y 7), .ref (y 8), .ref (y 9), .int 0, .ref (y 10), .ref (y 11), .ref (y 12), .ref (y 13), .int 0, .int 0, .ref (y 14), .ref (y 15), .ref (y 16), .ref (y 17), .int 0, .int 0, .int 0, .int 0, .int 0, .int 0, .ref (y 18), .ref (y 19), .int 0, .int 0, .ref (y 20), .int 0, .ref (y 21), .ref (y 22), .ref (y 23), .ref (y 24), .ref (y 25)])), ((y 16), .inl (cI, 6, .inl (fun _ => 0))), ((y 24), .inl (cI, 6, .inl (fun _ => 0)))] H := hP
  have hD : va_D A [((y 0), .inr (8, [.ref (y 1), .int 0, .int 0, .ref (y 2), .int 1, .int 100, .int 7, .int 14, .int 3, .int 1, .int 8, .int 0, .int 0, .int (-1), .int 0, .ref (y 3), .ref (y 4), .int 0, .int 0, .ref (y 5), .ref (y 6), .ref (y 7), .ref (y 8), .ref (y 9), .int 0, .ref (y 10), .ref (y 11), .ref (y 12), .ref (y 13), .int 0, .int 0, .ref (y 14), .ref (y 15), .ref (y 16), .ref (y 17), .int 0, .int 0, .int 0, .int 0, .int 0, .int 0, .ref (y 18), .ref (y 19), .int 0, .int 0, .ref (y 20), .int 0, .ref (y 21), .ref (y 22), .ref (y 23), .ref (y 24), .ref (y 25)])), ((y 16), .inl (cI, 6, .inl (fun _ => 0))), ((y 24), .inl (cI, 6, .inl (fun _ => 0)))] := hD
  refine lv_iload_n hx hb dX8_owed_5 rfl (lv_at hl 1 rfl) ?_
  refine lv_if_ne (tgt := 31) hx hb dX8_owed_6 (by decide) (fun c_6 => ?_) (fun c_6 => ?_)
  ·
    refine lv_iload_n hx hb dX8_owed_31 rfl (lv_at hl 1 rfl) ?_
    refine lv_iconst (v := 1) hx hb dX8_owed_32 (by decide) ?_
    refine lv_icmp_ne (tgt := 61) hx hb dX8_owed_33 (by decide) (fun c_33 => ?_) (fun c_33 => ?_)
    ·
      refine lv_iload_n hx hb dX8_owed_61 rfl (lv_at hl 1 rfl) ?_
      refine lv_iconst (v := 2) hx hb dX8_owed_62 (by decide) ?_
      refine lv_icmp_lt (tgt := 71) hx hb dX8_owed_63 (by decide) (fun c_63 => ?_) (fun c_63 => ?_)
      ·
        refine lv_iconst (v := (-1)) hx hb dX8_owed_71 (by decide) ?_
        have hP9 := hP.sub (ws' := []) [] rfl
        have hD9 := hD.sub (ws' := []) [] (by decide) rfl
        exact W.iret (v := (-1)) hx hb hr (fun t ht hW => ⟨⟨_, (), rfl, (sOwedD c_6 c_63).symm, by rw [ht]; exact hP9, va_K.moved hW.alike hK, hD9⟩, hS.F ht⟩) hS.2.2 dX8_owed_72
      ·
        refine lv_iload_n hx hb dX8_owed_66 rfl (lv_at hl 1 rfl) ?_
        refine lv_iconst (v := 3) hx hb dX8_owed_67 (by decide) ?_
        refine lv_icmp_le (tgt := 73) hx hb dX8_owed_68 (by decide) (fun c_68 => ?_) (fun c_68 => ?_)
        ·
          refine lv_aload_n hx hb dX8_owed_73 rfl (lv_at hl 0 rfl) ?_
          refine vp_callSi (va_Run.run (va_runV (As := []) (rest := []) ⟨hx, hb, hml, hown, hts⟩ (m_X8_shortage l D cB cI cJ cZ y) (cwV 0 hts gX8_owed_X8_shortage rfl rfl rfl (by decide +kernel) ⟨Nat.le_of_ble_eq_true rfl, Nat.le_of_ble_eq_true rfl⟩) (pre_VR (hP.sub (ws' := [((y 0), .inr (8, [.ref (y 1), .int 0, .int 0, .ref (y 2), .int 1, .int 100, .int 7, .int 14, .int 3, .int 1, .int 8, .int 0, .int 0, .int (-1), .int 0, .ref (y 3), .ref (y 4), .int 0, .int 0, .ref (y 5), .ref (y 6), .ref (y 7), .ref (y 8), .ref (y 9), .int 0, .ref (y 10), .ref (y 11), .ref (y 12), .ref (y 13), .int 0, .int 0, .ref (y 14), .ref (y 15), .ref (y 16), .ref (y 17), .int 0, .int 0, .int 0, .int 0, .int 0, .int 0, .ref (y 18), .ref (y 19), .int 0, .int 0, .ref (y 20), .int 0, .ref (y 21), .ref (y 22), .ref (y 23), .ref (y 24), .ref (y 25)])), ((y 16), .inl (cI, 6, .inl (fun _ => 0)))]) [0, 1] rfl) hK 0 rfl rfl rfl) rfl rfl hl.1 rfl (lv_room (Nat.le_of_ble_eq_true rfl)) dX8_owed_74 ⟨Nat.le_of_ble_eq_true rfl, Nat.le_of_ble_eq_true rfl⟩)) (fun r_1 hw_r_1 => ?_)
          subst hw_r_1
          refine lv_istore_n (lv' := [(3, .int 0), (0, .ref (y 0)), (1, .int q), (2, .int k)]) hx hb dX8_owed_77 rfl hl (by decide) rfl (fun ls hl => ?_)
          refine lv_iload_n hx hb dX8_owed_78 rfl (lv_at hl 2 rfl) ?_
          refine lv_iconst (v := 2) hx hb dX8_owed_79 (by decide) ?_
          refine lv_icmp_ne (tgt := 85) hx hb dX8_owed_80 (by decide) (fun c_80 => ?_) (fun c_80 => ?_)
          ·
            refine lv_iconst (v := 0) hx hb dX8_owed_85 (by decide) ?_
            refine lv_istore (lv' := [(4, .int 0), (3, .int 0), (0, .ref (y 0)), (1, .int q), (2, .int k)]) hx hb dX8_owed_86 hl (by decide) rfl (fun ls hl => ?_)
            refine lv_iload hx hb dX8_owed_88 (lv_at hl 0 rfl) ?_
            refine lv_bipush (v := 64) hx hb dX8_owed_90 (by decide) ?_
            refine lv_icmp_ge (tgt := 121) hx hb dX8_owed_92 (by decide) (fun h => absurd h (by decide)) (fun _ => ?_)
            refine lv_aload_n hx hb dX8_owed_95 rfl (lv_at hl 2 rfl) ?_
            refine lv_iload hx hb dX8_owed_96 (lv_at hl 0 rfl) ?_
            refine vp_callSi (va_Run.run (va_runV (As := [.int 0]) (rest := []) ⟨hx, hb, hml, hown, hts⟩ (m_X8_needOf l D cB cI cJ cZ y 0) (cwV 1 hts gX8_owed_X8_needOf rfl rfl rfl (by decide +kernel) ⟨Nat.le_of_ble_eq_true rfl, Nat.le_of_ble_eq_true rfl⟩) (pre_VR (hP.sub (ws' := [((y 0), .inr (8, [.ref (y 1), .int 0, .int 0, .ref (y 2), .int 1, .int 100, .int 7, .int 14, .int 3, .int 1, .int 8, .int 0, .int 0, .int (-1), .int 0, .ref (y 3), .ref (y 4), .int 0, .int 0, .ref (y 5), .ref (y 6), .ref (y 7), .ref (y 8), .ref (y 9), .int 0, .ref (y 10), .ref (y 11), .ref (y 12), .ref (y 13), .int 0, .int 0, .ref (y 14), .ref (y 15), .ref (y 16), .ref (y 17), .int 0, .int 0, .int 0, .int 0, .int 0, .int 0, .ref (y 18), .ref (y 19), .int 0, .int 0, .ref (y 20), .int 0, .ref (y 21), .ref (y 22), .ref (y 23), .ref (y 24), .ref (y 25)])), ((y 16), .inl (cI, 6, .inl (fun _ => 0)))]) [0, 1] rfl) hK 0 rfl rfl rfl) rfl rfl hl.1 rfl (lv_room (Nat.le_of_ble_eq_true rfl)) dX8_owed_98 ⟨Nat.le_of_ble_eq_true rfl, Nat.le_of_ble_eq_true rfl⟩)) (fun r_2 hw_r_2 => ?_)
            subst hw_r_2
            refine lv_aload_n hx hb dX8_owed_101 rfl (lv_at hl 2 rfl) ?_
            refine lv_iload hx hb dX8_owed_102 (lv_at hl 0 rfl) ?_
            refine vp_callSi (va_Run.run (va_runV (As := [.int 0]) (rest := [.int 0]) ⟨hx, hb, hml, hown, hts⟩ (m_X8_coinsFor l D cB cI cJ cZ y 0) (cwV 1 hts gX8_owed_X8_coinsFor rfl rfl rfl (by decide +kernel) ⟨Nat.le_of_ble_eq_true rfl, Nat.le_of_ble_eq_true rfl⟩) (pre_VR (hP.sub (ws' := [((y 0), .inr (8, [.ref (y 1), .int 0, .int 0, .ref (y 2), .int 1, .int 100, .int 7, .int 14, .int 3, .int 1, .int 8, .int 0, .int 0, .int (-1), .int 0, .ref (y 3), .ref (y 4), .int 0, .int 0, .ref (y 5), .ref (y 6), .ref (y 7), .ref (y 8), .ref (y 9), .int 0, .ref (y 10), .ref (y 11), .ref (y 12), .ref (y 13), .int 0, .int 0, .ref (y 14), .ref (y 15), .ref (y 16), .ref (y 17), .int 0, .int 0, .int 0, .int 0, .int 0, .int 0, .ref (y 18), .ref (y 19), .int 0, .int 0, .ref (y 20), .int 0, .ref (y 21), .ref (y 22), .ref (y 23), .ref (y 24), .ref (y 25)]))]) [0] rfl) hK 0 rfl rfl rfl) rfl rfl hl.1 rfl (lv_room (Nat.le_of_ble_eq_true rfl)) dX8_owed_104 ⟨Nat.le_of_ble_eq_true rfl, Nat.le_of_ble_eq_true rfl⟩)) (fun r_3 hw_r_3 => ?_)
            subst hw_r_3
            refine sv_isub (v := 0) hx hb dX8_owed_107 (by decide) ?_
            refine lv_iload_n hx hb dX8_owed_108 rfl (lv_at hl 1 rfl) ?_
            refine lv_icmp_ne (tgt := 115) hx hb dX8_owed_109 (by decide) (fun h => absurd h (by decide)) (fun _ => ?_)
            refine lv_iload hx hb dX8_owed_112 (lv_at hl 0 rfl) ?_
            have hP9 := hP.sub (ws' := []) [] rfl
            have hD9 := hD.sub (ws' := []) [] (by decide) rfl
            exact W.iret (v := 0) hx hb hr (fun t ht hW => ⟨⟨_, (), rfl, (sOwedC c_63 c_68).symm, by rw [ht]; exact hP9, va_K.moved hW.alike hK, hD9⟩, hS.F ht⟩) hS.2.2 dX8_owed_114
          ·
            refine lv_iload_n hx hb dX8_owed_83 rfl (lv_at hl 0 rfl) ?_
            have hP9 := hP.sub (ws' := []) [] rfl
            have hD9 := hD.sub (ws' := []) [] (by decide) rfl
            exact W.iret (v := 0) hx hb hr (fun t ht hW => ⟨⟨_, (), rfl, (sOwedC c_63 c_68).symm, by rw [ht]; exact hP9, va_K.moved hW.alike hK, hD9⟩, hS.F ht⟩) hS.2.2 dX8_owed_84
        ·
          refine lv_iconst (v := (-1)) hx hb dX8_owed_71 (by decide) ?_
          have hP9 := hP.sub (ws' := []) [] rfl
          have hD9 := hD.sub (ws' := []) [] (by decide) rfl
          exact W.iret (v := (-1)) hx hb hr (fun t ht hW => ⟨⟨_, (), rfl, (sOwedE c_6 c_68).symm, by rw [ht]; exact hP9, va_K.moved hW.alike hK, hD9⟩, hS.F ht⟩) hS.2.2 dX8_owed_72
    ·
      refine lv_iload_n hx hb dX8_owed_36 rfl (lv_at hl 2 rfl) ?_
      refine lv_if_lt (tgt := 48) hx hb dX8_owed_37 (by decide) (fun c_37 => ?_) (fun c_37 => ?_)
      ·
        refine lv_iconst (v := (-1)) hx hb dX8_owed_48 (by decide) ?_
        have hP9 := hP.sub (ws' := []) [] rfl
        have hD9 := hD.sub (ws' := []) [] (by decide) rfl
        exact W.iret (v := (-1)) hx hb hr (fun t ht hW => ⟨⟨_, (), rfl, (sOwedB c_33).symm, by rw [ht]; exact hP9, va_K.moved hW.alike hK, hD9⟩, hS.F ht⟩) hS.2.2 dX8_owed_49
      ·
        refine lv_iload_n hx hb dX8_owed_40 rfl (lv_at hl 2 rfl) ?_
        refine lv_aload_n hx hb dX8_owed_41 rfl (lv_at hl 0 rfl) ?_
        refine va_get (D := D) (ci := 8) (v := .int 0) (C := RX8) (T := TX8) (N := 52) hx hb hts w_1 hown hK hP 0 rfl rfl 30 (by decide) w_3 (fun _ h9 => h9) rfl dX8_owed_42 ?_
        refine lv_icmp_lt (tgt := 50) hx hb dX8_owed_45 (by decide) (fun h => absurd h c_37) (fun _ => ?_)
        refine lv_iconst (v := (-1)) hx hb dX8_owed_48 (by decide) ?_
        have hP9 := hP.sub (ws' := []) [] rfl
        have hD9 := hD.sub (ws' := []) [] (by decide) rfl
        exact W.iret (v := (-1)) hx hb hr (fun t ht hW => ⟨⟨_, (), rfl, (sOwedB c_33).symm, by rw [ht]; exact hP9, va_K.moved hW.alike hK, hD9⟩, hS.F ht⟩) hS.2.2 dX8_owed_49
  ·
    refine lv_iload_n hx hb dX8_owed_9 rfl (lv_at hl 2 rfl) ?_
    refine lv_if_lt (tgt := 18) hx hb dX8_owed_10 (by decide) (fun c_10 => ?_) (fun c_10 => ?_)
    ·
      refine lv_iconst (v := (-1)) hx hb dX8_owed_18 (by decide) ?_
      have hP9 := hP.sub (ws' := []) [] rfl
      have hD9 := hD.sub (ws' := []) [] (by decide) rfl
      exact W.iret (v := (-1)) hx hb hr (fun t ht hW => ⟨⟨_, (), rfl, ((sOwedA c_6).trans (if_neg (fun h => h.1 c_10))).symm, by rw [ht]; exact hP9, va_K.moved hW.alike hK, hD9⟩, hS.F ht⟩) hS.2.2 dX8_owed_19
    ·
      refine lv_iload_n hx hb dX8_owed_13 rfl (lv_at hl 2 rfl) ?_
      refine lv_iconst (v := 5) hx hb dX8_owed_14 (by decide) ?_
      refine lv_icmp_le (tgt := 20) hx hb dX8_owed_15 (by decide) (fun c_15 => ?_) (fun c_15 => ?_)
      ·
        refine lv_aload_n hx hb dX8_owed_20 rfl (lv_at hl 0 rfl) ?_
        refine cl_v (wc := [((y 0), .inr (8, [.ref (y 1), .int 0, .int 0, .ref (y 2), .int 1, .int 100, .int 7, .int 14, .int 3, .int 1, .int 8, .int 0, .int 0, .int (-1), .int 0, .ref (y 3), .ref (y 4), .int 0, .int 0, .ref (y 5), .ref (y 6), .ref (y 7), .ref (y 8), .ref (y 9), .int 0, .ref (y 10), .ref (y 11), .ref (y 12), .ref (y 13), .int 0, .int 0, .ref (y 14), .ref (y 15), .ref (y 16), .ref (y 17), .int 0, .int 0, .int 0, .int 0, .int 0, .int 0, .ref (y 18), .ref (y 19), .int 0, .int 0, .ref (y 20), .int 0, .ref (y 21), .ref (y 22), .ref (y 23), .ref (y 24), .ref (y 25)])), ((y 16), .inl (cI, 6, .inl (fun _ => 0))), ((y 24), .inl (cI, 6, .inl (fun _ => 0)))]) (wr := []) (va_runV (As := []) (rest := []) ⟨hx, hb, hml, hown, hts⟩ (m_X8_deal l D cB cI cJ cZ H.size y) (cwV 0 hts gX8_owed_X8_deal rfl rfl rfl (by decide +kernel) ⟨Nat.le_of_ble_eq_true rfl, Nat.le_of_ble_eq_true rfl⟩) (pre_V (hP.sub (ws' := [((y 0), .inr (8, [.ref (y 1), .int 0, .int 0, .ref (y 2), .int 1, .int 100, .int 7, .int 14, .int 3, .int 1, .int 8, .int 0, .int 0, .int (-1), .int 0, .ref (y 3), .ref (y 4), .int 0, .int 0, .ref (y 5), .ref (y 6), .ref (y 7), .ref (y 8), .ref (y 9), .int 0, .ref (y 10), .ref (y 11), .ref (y 12), .ref (y 13), .int 0, .int 0, .ref (y 14), .ref (y 15), .ref (y 16), .ref (y 17), .int 0, .int 0, .int 0, .int 0, .int 0, .int 0, .ref (y 18), .ref (y 19), .int 0, .int 0, .ref (y 20), .int 0, .ref (y 21), .ref (y 22), .ref (y 23), .ref (y 24), .ref (y 25)])), ((y 16), .inl (cI, 6, .inl (fun _ => 0))), ((y 24), .inl (cI, 6, .inl (fun _ => 0)))]) [0, 1, 2] rfl) hK (hD.sub (ws' := [((y 0), .inr (8, [.ref (y 1), .int 0, .int 0, .ref (y 2), .int 1, .int 100, .int 7, .int 14, .int 3, .int 1, .int 8, .int 0, .int 0, .int (-1), .int 0, .ref (y 3), .ref (y 4), .int 0, .int 0, .ref (y 5), .ref (y 6), .ref (y 7), .ref (y 8), .ref (y 9), .int 0, .ref (y 10), .ref (y 11), .ref (y 12), .ref (y 13), .int 0, .int 0, .ref (y 14), .ref (y 15), .ref (y 16), .ref (y 17), .int 0, .int 0, .int 0, .int 0, .int 0, .int 0, .ref (y 18), .ref (y 19), .int 0, .int 0, .ref (y 20), .int 0, .ref (y 21), .ref (y 22), .ref (y 23), .ref (y 24), .ref (y 25)])), ((y 16), .inl (cI, 6, .inl (fun _ => 0))), ((y 24), .inl (cI, 6, .inl (fun _ => 0)))]) [0, 1, 2] (by decide) rfl) 0 rfl rfl rfl) rfl rfl hl.1 rfl (lv_room (Nat.le_of_ble_eq_true rfl)) dX8_owed_21 ⟨Nat.le_of_ble_eq_true rfl, Nat.le_of_ble_eq_true rfl⟩) hP hD hS hA [0, 1, 2] [] rfl rfl (by decide) (by decide) 0 0 rfl rfl (fun u_5 H locs hw_u_5 hP hD hS => ?_)
        have hP : va_P D vwCl [((y 0), .inr (8, [.ref (y 1), .int 0, .int 0, .ref (y 2), .int 1, .int 100, .int 7, .int 14, .int 3, .int 1, .int 8, .int 0, .int 0, .int (-1), .int 0, .ref (y 3), .ref (y 4), .int 0, .int 0, .ref (y 5), .ref (y 6), .ref (y 7), .ref (y 8), .ref (y 9), .int 0, .ref (y 10), .ref (y 11), .ref (y 12), .ref (y 13), .int 0, .int 0, .ref (y 14), .ref (y 15), .ref (y 16), .ref (y 17), .int 0, .int 0, .int 0, .int 0, .int 0, .int 0, .ref (y 18), .ref (y 19), .int 0, .int 0, .ref (y 20), .int 0, .ref (y 21), .ref (y 22), .ref (y 23), .ref (y 24), .ref (y 25)])), ((y 16), .inl (cI, 6, .inl (fun _ => 0))), ((y 24), .inl (cI, 6, .inl (fun _ => 0)))] H := hP
        have hD : va_D A [((y 0), .inr (8, [.ref (y 1), .int 0, .int 0, .ref (y 2), .int 1, .int 100, .int 7, .int 14, .int 3, .int 1, .int 8, .int 0, .int 0, .int (-1), .int 0, .ref (y 3), .ref (y 4), .int 0, .int 0, .ref (y 5), .ref (y 6), .ref (y 7), .ref (y 8), .ref (y 9), .int 0, .ref (y 10), .ref (y 11), .ref (y 12), .ref (y 13), .int 0, .int 0, .ref (y 14), .ref (y 15), .ref (y 16), .ref (y 17), .int 0, .int 0, .int 0, .int 0, .int 0, .int 0, .ref (y 18), .ref (y 19), .int 0, .int 0, .ref (y 20), .int 0, .ref (y 21), .ref (y 22), .ref (y 23), .ref (y 24), .ref (y 25)])), ((y 16), .inl (cI, 6, .inl (fun _ => 0))), ((y 24), .inl (cI, 6, .inl (fun _ => 0)))] := hD
        refine lv_aload_n hx hb dX8_owed_24 rfl (lv_at hl 0 rfl) ?_
        refine va_get (D := D) (ci := 8) (v := .ref (y 24)) (C := RX8) (T := TX8) (N := 52) hx hb hts w_1 hown hK hP 0 rfl rfl 50 (by decide) w_4 (fun _ h9 => h9) rfl dX8_owed_25 ?_
        refine lv_iload_n hx hb dX8_owed_28 rfl (lv_at hl 2 rfl) ?_
        refine sv_iald (v := 0) hx hb hK hP 2 1 rfl rfl (i_in6' c_10 (Int32.not_lt.mpr c_15)) rfl dX8_owed_29 ?_
        have hP9 := hP.sub (ws' := []) [] rfl
        have hD9 := hD.sub (ws' := []) [] (by decide) rfl
        exact W.iret (v := 0) hx hb hr (fun t ht hW => ⟨⟨_, (), rfl, ((sOwedA c_6).trans (if_pos ⟨c_10, Int32.not_lt.mpr c_15⟩)).symm, by rw [ht]; exact hP9, va_K.moved hW.alike hK, hD9⟩, hS.F ht⟩) hS.2.2 dX8_owed_30
      ·
        refine lv_iconst (v := (-1)) hx hb dX8_owed_18 (by decide) ?_
        have hP9 := hP.sub (ws' := []) [] rfl
        have hD9 := hD.sub (ws' := []) [] (by decide) rfl
        exact W.iret (v := (-1)) hx hb hr (fun t ht hW => ⟨⟨_, (), rfl, ((sOwedA c_6).trans (if_neg (fun h => h.2 (Int32.not_le.mp c_15)))).symm, by rw [ht]; exact hP9, va_K.moved hW.alike hK, hD9⟩, hS.F ht⟩) hS.2.2 dX8_owed_19

