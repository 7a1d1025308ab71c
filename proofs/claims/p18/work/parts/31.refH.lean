theorem rem_in {x d : Int32} (hx : vp_in x 20) (hd : vp_in d 9) (h0 : ¬ d = 0) : vp_in (x - x / d * d) 8 := by
  obtain ⟨a, ha, rfl⟩ := vp_in_of hx (by decide)
  obtain ⟨b, hb, rfl⟩ := vp_in_of hd (by decide)
  have hb0 : 0 < b := Nat.pos_of_ne_zero (fun h => h0 (by rw [h]; rfl))
  rw [pk_rem (by omega) hb0 (by omega)]
  exact vp_in_nI (Nat.lt_of_lt_of_le (Nat.mod_lt a hb0) (by omega)) (by decide)
theorem add_in {x y : Int32} (hx : vp_in x 9) (hy : vp_in y 9) : vp_in (x + y) 20 := by
  obtain ⟨a, ha, rfl⟩ := vp_in_of hx (by decide)
  obtain ⟨b, hb, rfl⟩ := vp_in_of hy (by decide)
  rw [nI_add]
  exact vp_in_nI (by omega) (by decide)
theorem g_pos {i : Int32} {g : Nat} (hlo : 0 ≤ i.toInt) (c : ¬ nI g ≤ i) (hg : g ≤ 8) : ¬ nI g = 0 := by
  intro h
  apply c
  rw [h]
  exact Int32.le_iff_toInt_le.mpr hlo
theorem best_in {b : Int32} (h : b = -1 ∨ vp_in b 16) (c : ¬ b < 0) : vp_in b 16 := h.resolve_left (fun e => c (by rw [e]; decide))
theorem nI_in9 {g : Nat} (h : g ≤ 8) : vp_in (nI g) 9 := vp_in_nI (by omega) (by decide)
theorem one_in9 : vp_in (1 : Int32) 9 := vp_in_iff.mpr (by decide)

set_option maxHeartbeats 4000000 in
set_option maxRecDepth 100000 in
theorem n_X8_votes (l : Launch) (D : va_G) (cB cI cJ cZ : ClassId) (y : Nat → Nat) (m_tapeSize m_givers m_children m_coats m_legacies m_insideMany : Nat) (m_thrown m_cycleMany m_vote m_low m_high m_wear m_spare m_places m_cycleNext m_fault m_faultPlace m_giverNext m_years m_end m_next m_kind m_which m_place m_read m_readMany m_readHigh : Int32) (m_gave m_supports : Nat → Int32) (q : Int32) (b_givers : m_givers ≤ 8) (hvt : ¬ m_vote = 0) : Met l yX8_votes wsX8_votes ({ frames := 0, cells := 0, slots := 0, locals := 0 } : Room) (cRd D (aTy cB cI cJ cZ) [((y 0), .inr (8, [.ref (y 1), .int (nI m_tapeSize), .int m_thrown, .ref (y 2), .int m_cycleMany, .int m_vote, .int m_low, .int m_high, .int m_wear, .int m_spare, .int m_places, .int m_cycleNext, .int m_fault, .int m_faultPlace, .int (nI m_givers), .ref (y 3), .ref (y 4), .int m_giverNext, .int (nI m_children), .ref (y 5), .ref (y 6), .ref (y 7), .ref (y 8), .ref (y 9), .int (nI m_coats), .ref (y 10), .ref (y 11), .ref (y 12), .ref (y 13), .int m_years, .int (nI m_legacies), .ref (y 14), .ref (y 15), .ref (y 16), .ref (y 17), .int m_end, .int m_next, .int m_kind, .int m_which, .int m_place, .int m_read, .ref (y 18), .ref (y 19), .int m_readMany, .int m_readHigh, .ref (y 20), .int (nI m_insideMany), .ref (y 21), .ref (y 22), .ref (y 23), .ref (y 24), .ref (y 25)])), ((y 3), .inl (cI, 8, .inl m_gave)), ((y 4), .inl (cI, 8, .inl m_supports))] [.ref (y 0), .int q]) (vp_Si (fun r : Int32 => True)) 0 0 (fun _ => False) := by
  refine Met.ofW (cc := cX8_votes) (maxL := 4) (ret := (some .int)) (by decide) rfl ?_
  intro p e s m args below meth c s₁ B hml hv
  obtain ⟨rfl, hP, hK⟩ := hv
  have hx := B.exec
  have hb := B.bytes
  have hr := B.returns
  have hts := atoms_spec (ws := wsX8_votes) B.pre
  have hown : s.vm.findClass RX8 = some m.cls := findClass_of_methodNamed B.named
  have hlocks := B.notSynchronized
  have hP : va_P D vwCl [((y 0), .inr (8, [.ref (y 1), .int (nI m_tapeSize), .int m_thrown, .ref (y 2), .int m_cycleMany, .int m_vote, .int m_low, .int m_high, .int m_wear, .int m_spare, .int m_places, .int m_cycleNext, .int m_fault, .int m_faultPlace, .int (nI m_givers), .ref (y 3), .ref (y 4), .int m_giverNext, .int (nI m_children), .ref (y 5), .ref (y 6), .ref (y 7), .ref (y 8), .ref (y 9), .int (nI m_coats), .ref (y 10), .ref (y 11), .ref (y 12), .ref (y 13), .int m_years, .int (nI m_legacies), .ref (y 14), .ref (y 15), .ref (y 16), .ref (y 17), .int m_end, .int m_next, .int m_kind, .int m_which, .int m_place, .int m_read, .ref (y 18), .ref (y 19), .int m_readMany, .int m_readHigh, .ref (y 20), .int (nI m_insideMany), .ref (y 21), .ref (y 22), .ref (y 23), .ref (y 24), .ref (y 25)])), ((y 3), .inl (cI, 8, .inl m_gave)), ((y 4), .inl (cI, 8, .inl m_supports))] s.heap := hP
  have w_1 : ∀ w ∈ wsX80, w ∈ wsX8_votes := by decide +kernel
  have w_2 := hts (Cond.fieldLink RX8 177 "BlueCoatsModel" "givers" "I") (by decide +kernel)
  have w_3 := hts (Cond.fieldLink RX8 44 "BlueCoatsModel" "supports" "[I") (by decide +kernel)
  have w_4 := hts (Cond.fieldLink RX8 41 "BlueCoatsModel" "gave" "[I") (by decide +kernel)
  have w_5 := hts (Cond.fieldLink RX8 20 "BlueCoatsModel" "vote" "I") (by decide +kernel)
  have hl := lv_entry ([.ref (y 0), .int q]) (n := 4) (Nat.le_of_ble_eq_true rfl)
  rw [lg_entry_eq]
  generalize (lg_sl ([.ref (y 0), .int q]) ++ List.replicate (4 - (lg_sl ([.ref (y 0), .int q])).length) Slot.unset).toArray = ls at hl ⊢
  have hl : lv_has ls 4 [(0, .ref (y 0)), (1, .int q)] := hl
  generalize hQ : MQ below _ _ s _ _ _ = Q0
  refine lv_iconst (v := 0) hx hb dX8_votes_0 (by decide) ?_
  refine lv_istore_n (lv' := [(2, .int 0), (0, .ref (y 0)), (1, .int q)]) hx hb dX8_votes_1 rfl hl (by decide) rfl (fun ls hl => ?_)
  refine lv_iconst (v := 0) hx hb dX8_votes_2 (by decide) ?_
  refine lv_istore_n (lv' := [(3, .int 0), (2, .int 0), (0, .ref (y 0)), (1, .int q)]) hx hb dX8_votes_3 rfl hl (by decide) rfl (fun ls hl => ?_)
  have L_1 : ∀ (n : Nat) (i_4 : Int32) (l_2_4 : Int32) (ls : Array Slot), (Int32.toInt (nI m_givers) - i_4.toInt).toNat < n → 0 ≤ i_4.toInt → va_P D vwCl [((y 0), .inr (8, [.ref (y 1), .int (nI m_tapeSize), .int m_thrown, .ref (y 2), .int m_cycleMany, .int m_vote, .int m_low, .int m_high, .int m_wear, .int m_spare, .int m_places, .int m_cycleNext, .int m_fault, .int m_faultPlace, .int (nI m_givers), .ref (y 3), .ref (y 4), .int m_giverNext, .int (nI m_children), .ref (y 5), .ref (y 6), .ref (y 7), .ref (y 8), .ref (y 9), .int (nI m_coats), .ref (y 10), .ref (y 11), .ref (y 12), .ref (y 13), .int m_years, .int (nI m_legacies), .ref (y 14), .ref (y 15), .ref (y 16), .ref (y 17), .int m_end, .int m_next, .int m_kind, .int m_which, .int m_place, .int m_read, .ref (y 18), .ref (y 19), .int m_readMany, .int m_readHigh, .ref (y 20), .int (nI m_insideMany), .ref (y 21), .ref (y 22), .ref (y 23), .ref (y 24), .ref (y 25)])), ((y 3), .inl (cI, 8, .inl m_gave)), ((y 4), .inl (cI, 8, .inl m_supports))] s.heap → lv_has ls 4 [(0, .ref (y 0)), (1, .int q), (2, .int l_2_4), (3, .int i_4)] → W p l e (headSpec wsX8_votes ({ frames := 0, cells := 0, slots := 0, locals := 0 } : Room)).room s m ([.ref (y 0), .int q] : List Value).toArray below meth c s.heap [] 0 0 Q0 (F0 m 4 ls []) := by
    intro n
    induction n with
    | zero => intro i_4 l_2_4 ls hn_4 hlo_4 hP hl; exact absurd hn_4 (Nat.not_lt_zero _)
    | succ n ih_L_1 =>
      intro i_4 l_2_4 ls hn_4 hlo_4 hP hl
      refine lv_iload_n hx hb dX8_votes_4 rfl (lv_at hl 3 rfl) ?_
      refine lv_aload_n hx hb dX8_votes_5 rfl (lv_at hl 0 rfl) ?_
      refine va_get (D := D) (ci := 8) (v := .int (nI m_givers)) (C := RX8) (T := TX8) (N := 52) hx hb hts w_1 hown hK hP 0 rfl rfl 14 (by decide) w_2 (fun _ h9 => h9) rfl dX8_votes_6 ?_
      refine lv_icmp_ge (tgt := 46) hx hb dX8_votes_9 (by decide) (fun c_9 => ?_) (fun c_9 => ?_)
      ·
        refine lv_iload_n hx hb dX8_votes_46 rfl (lv_at hl 2 rfl) ?_
        rw [← hQ]
        exact W.iret (v := l_2_4) hx hb hr (fun t ht hW => ⟨_, rfl, trivial, ht⟩) (fun q h => nomatch h) dX8_votes_47
      ·
        refine lv_iload_n hx hb dX8_votes_12 rfl (lv_at hl 2 rfl) ?_
        refine lv_aload_n hx hb dX8_votes_13 rfl (lv_at hl 0 rfl) ?_
        refine va_get (D := D) (ci := 8) (v := .ref (y 4)) (C := RX8) (T := TX8) (N := 52) hx hb hts w_1 hown hK hP 0 rfl rfl 16 (by decide) w_3 (fun _ h9 => h9) rfl dX8_votes_14 ?_
        refine lv_iload_n hx hb dX8_votes_17 rfl (lv_at hl 3 rfl) ?_
        refine sv_iald (v := m_supports i_4.toNatClampNeg) hx hb hK hP 2 1 rfl rfl (lp_inN hlo_4 c_9 b_givers (by decide)) rfl dX8_votes_18 ?_
        refine lv_topi (fun v_2 ev_2 => ?_)
        refine lv_iload_n hx hb dX8_votes_19 rfl (lv_at hl 1 rfl) ?_
        refine lv_icmp_ne (tgt := 37) hx hb dX8_votes_20 (by decide) (fun c_20 => ?_) (fun c_20 => ?_)
        ·
          refine lv_iconst (v := 0) hx hb dX8_votes_37 (by decide) ?_
          refine sv_iadd (v := l_2_4 + 0) hx hb dX8_votes_38 rfl ?_
          refine lv_topi (fun v_3 ev_3 => ?_)
          refine lv_istore_n (lv' := [(2, .int v_3), (0, .ref (y 0)), (1, .int q), (3, .int i_4)]) hx hb dX8_votes_39 rfl hl (by decide) rfl (fun ls hl => ?_)
          refine lv_iinc (v := i_4 + 1) (lv' := [(3, .int (i_4 + 1)), (2, .int v_3), (0, .ref (y 0)), (1, .int q)]) hx hb dX8_votes_40 hl (k := 3) rfl rfl (by decide) rfl (fun ls hl => ?_)
          refine lv_goto (tgt := 4) hx hb dX8_votes_43 (by decide) ?_
          exact ih_L_1 (i_4 + 1) v_3 ls (lp_dec hn_4 c_9) (by have h9 := lp_inc c_9; omega) hP (lv_sub hl [2, 3, 1, 0] rfl)
        ·
          refine lv_aload_n hx hb dX8_votes_23 rfl (lv_at hl 0 rfl) ?_
          refine va_get (D := D) (ci := 8) (v := .ref (y 3)) (C := RX8) (T := TX8) (N := 52) hx hb hts w_1 hown hK hP 0 rfl rfl 15 (by decide) w_4 (fun _ h9 => h9) rfl dX8_votes_24 ?_
          refine lv_iload_n hx hb dX8_votes_27 rfl (lv_at hl 3 rfl) ?_
          refine sv_iald (v := m_gave i_4.toNatClampNeg) hx hb hK hP 1 1 rfl rfl (lp_inN hlo_4 c_9 b_givers (by decide)) rfl dX8_votes_28 ?_
          refine lv_topi (fun v_4 ev_4 => ?_)
          refine lv_aload_n hx hb dX8_votes_29 rfl (lv_at hl 0 rfl) ?_
          refine va_get (D := D) (ci := 8) (v := .int m_vote) (C := RX8) (T := TX8) (N := 52) hx hb hts w_1 hown hK hP 0 rfl rfl 5 (by decide) w_5 (fun _ h9 => h9) rfl dX8_votes_30 ?_
          refine sv_idiv (v := v_4 / m_vote) hx hb dX8_votes_33 hvt rfl ?_
          refine lv_topi (fun v_5 ev_5 => ?_)
          refine lv_goto (tgt := 38) hx hb dX8_votes_34 (by decide) ?_
          refine sv_iadd (v := l_2_4 + v_5) hx hb dX8_votes_38 rfl ?_
          refine lv_topi (fun v_6 ev_6 => ?_)
          refine lv_istore_n (lv' := [(2, .int v_6), (0, .ref (y 0)), (1, .int q), (3, .int i_4)]) hx hb dX8_votes_39 rfl hl (by decide) rfl (fun ls hl => ?_)
          refine lv_iinc (v := i_4 + 1) (lv' := [(3, .int (i_4 + 1)), (2, .int v_6), (0, .ref (y 0)), (1, .int q)]) hx hb dX8_votes_40 hl (k := 3) rfl rfl (by decide) rfl (fun ls hl => ?_)
          refine lv_goto (tgt := 4) hx hb dX8_votes_43 (by decide) ?_
          exact ih_L_1 (i_4 + 1) v_6 ls (lp_dec hn_4 c_9) (by have h9 := lp_inc c_9; omega) hP (lv_sub hl [2, 3, 1, 0] rfl)
  exact L_1 _ 0 0 ls (Nat.lt_succ_self _) (by decide) hP (lv_sub hl [2, 3, 1, 0] rfl)

set_option maxHeartbeats 4000000 in
set_option maxRecDepth 100000 in
theorem n_X8_mayCome (l : Launch) (D : va_G) (cB cI cJ cZ : ClassId) (y : Nat → Nat) (m_tapeSize m_givers m_children m_coats m_legacies m_insideMany : Nat) (m_thrown m_cycleMany m_vote m_low m_high m_wear m_spare m_places m_cycleNext m_fault m_faultPlace m_giverNext m_years m_end m_next m_kind m_which m_place m_read m_readMany m_readHigh : Int32) (m_age m_state : Nat → Int32) (q : Int32) (hc9 : ¬ q < 0 → vp_in q 16) : Met l yX8_mayCome wsX8_mayCome ({ frames := 0, cells := 0, slots := 0, locals := 0 } : Room) (cRd D (aTy cB cI cJ cZ) [((y 0), .inr (8, [.ref (y 1), .int (nI m_tapeSize), .int m_thrown, .ref (y 2), .int m_cycleMany, .int m_vote, .int m_low, .int m_high, .int m_wear, .int m_spare, .int m_places, .int m_cycleNext, .int m_fault, .int m_faultPlace, .int (nI m_givers), .ref (y 3), .ref (y 4), .int m_giverNext, .int (nI m_children), .ref (y 5), .ref (y 6), .ref (y 7), .ref (y 8), .ref (y 9), .int (nI m_coats), .ref (y 10), .ref (y 11), .ref (y 12), .ref (y 13), .int m_years, .int (nI m_legacies), .ref (y 14), .ref (y 15), .ref (y 16), .ref (y 17), .int m_end, .int m_next, .int m_kind, .int m_which, .int m_place, .int m_read, .ref (y 18), .ref (y 19), .int m_readMany, .int m_readHigh, .ref (y 20), .int (nI m_insideMany), .ref (y 21), .ref (y 22), .ref (y 23), .ref (y 24), .ref (y 25)])), ((y 5), .inl (cI, 16, .inl m_age)), ((y 9), .inl (cI, 16, .inl m_state))] [.ref (y 0), .int q]) (vp_Si (fun r : Int32 => True)) 0 0 (fun _ => False) := by
  refine Met.ofW (cc := cX8_mayCome) (maxL := 2) (ret := (some .boolean)) (by decide) rfl ?_
  intro p e s m args below meth c s₁ B hml hv
  obtain ⟨rfl, hP, hK⟩ := hv
  have hx := B.exec
  have hb := B.bytes
  have hr := B.returns
  have hts := atoms_spec (ws := wsX8_mayCome) B.pre
  have hown : s.vm.findClass RX8 = some m.cls := findClass_of_methodNamed B.named
  have hlocks := B.notSynchronized
  have hP : va_P D vwCl [((y 0), .inr (8, [.ref (y 1), .int (nI m_tapeSize), .int m_thrown, .ref (y 2), .int m_cycleMany, .int m_vote, .int m_low, .int m_high, .int m_wear, .int m_spare, .int m_places, .int m_cycleNext, .int m_fault, .int m_faultPlace, .int (nI m_givers), .ref (y 3), .ref (y 4), .int m_giverNext, .int (nI m_children), .ref (y 5), .ref (y 6), .ref (y 7), .ref (y 8), .ref (y 9), .int (nI m_coats), .ref (y 10), .ref (y 11), .ref (y 12), .ref (y 13), .int m_years, .int (nI m_legacies), .ref (y 14), .ref (y 15), .ref (y 16), .ref (y 17), .int m_end, .int m_next, .int m_kind, .int m_which, .int m_place, .int m_read, .ref (y 18), .ref (y 19), .int m_readMany, .int m_readHigh, .ref (y 20), .int (nI m_insideMany), .ref (y 21), .ref (y 22), .ref (y 23), .ref (y 24), .ref (y 25)])), ((y 5), .inl (cI, 16, .inl m_age)), ((y 9), .inl (cI, 16, .inl m_state))] s.heap := hP
  have w_1 : ∀ w ∈ wsX80, w ∈ wsX8_mayCome := by decide +kernel
  have w_2 := hts (Cond.fieldLink RX8 59 "BlueCoatsModel" "state" "[I") (by decide +kernel)
  have w_3 := hts (Cond.fieldLink RX8 47 "BlueCoatsModel" "age" "[I") (by decide +kernel)
  have w_4 := hts (Cond.fieldLink RX8 23 "BlueCoatsModel" "low" "I") (by decide +kernel)
  have w_5 := hts (Cond.fieldLink RX8 26 "BlueCoatsModel" "high" "I") (by decide +kernel)
  have hl := lv_entry ([.ref (y 0), .int q]) (n := 2) (Nat.le_of_ble_eq_true rfl)
  rw [lg_entry_eq]
  generalize (lg_sl ([.ref (y 0), .int q]) ++ List.replicate (2 - (lg_sl ([.ref (y 0), .int q])).length) Slot.unset).toArray = ls at hl ⊢
  have hl : lv_has ls 2 [(0, .ref (y 0)), (1, .int q)] := hl
  refine lv_iload_n hx hb dX8_mayCome_0 rfl (lv_at hl 1 rfl) ?_
  refine lv_if_lt (tgt := 43) hx hb dX8_mayCome_1 (by decide) (fun c_1 => ?_) (fun c_1 => ?_)
  ·
    refine lv_iconst (v := 0) hx hb dX8_mayCome_43 (by decide) ?_
    exact W.zret (v := 0) hx hb hr rfl (fun t ht hW => ⟨_, rfl, trivial, ht⟩) (fun q h => nomatch h) dX8_mayCome_44
  ·
    refine lv_aload_n hx hb dX8_mayCome_4 rfl (lv_at hl 0 rfl) ?_
    refine va_get (D := D) (ci := 8) (v := .ref (y 9)) (C := RX8) (T := TX8) (N := 52) hx hb hts w_1 hown hK hP 0 rfl rfl 23 (by decide) w_2 (fun _ h9 => h9) rfl dX8_mayCome_5 ?_
    refine lv_iload_n hx hb dX8_mayCome_8 rfl (lv_at hl 1 rfl) ?_
    refine sv_iald (v := m_state q.toNatClampNeg) hx hb hK hP 2 1 rfl rfl (hc9 c_1) rfl dX8_mayCome_9 ?_
    refine lv_topi (fun v_1 ev_1 => ?_)
    refine lv_if_ne (tgt := 43) hx hb dX8_mayCome_10 (by decide) (fun c_10 => ?_) (fun c_10 => ?_)
    ·
      refine lv_iconst (v := 0) hx hb dX8_mayCome_43 (by decide) ?_
      exact W.zret (v := 0) hx hb hr rfl (fun t ht hW => ⟨_, rfl, trivial, ht⟩) (fun q h => nomatch h) dX8_mayCome_44
    ·
      refine lv_aload_n hx hb dX8_mayCome_13 rfl (lv_at hl 0 rfl) ?_
      refine va_get (D := D) (ci := 8) (v := .ref (y 5)) (C := RX8) (T := TX8) (N := 52) hx hb hts w_1 hown hK hP 0 rfl rfl 19 (by decide) w_3 (fun _ h9 => h9) rfl dX8_mayCome_14 ?_
      refine lv_iload_n hx hb dX8_mayCome_17 rfl (lv_at hl 1 rfl) ?_
      refine sv_iald (v := m_age q.toNatClampNeg) hx hb hK hP 1 1 rfl rfl (hc9 c_1) rfl dX8_mayCome_18 ?_
      refine lv_topi (fun v_2 ev_2 => ?_)
      refine lv_aload_n hx hb dX8_mayCome_19 rfl (lv_at hl 0 rfl) ?_
      refine va_get (D := D) (ci := 8) (v := .int m_low) (C := RX8) (T := TX8) (N := 52) hx hb hts w_1 hown hK hP 0 rfl rfl 6 (by decide) w_4 (fun _ h9 => h9) rfl dX8_mayCome_20 ?_
      refine lv_icmp_lt (tgt := 43) hx hb dX8_mayCome_23 (by decide) (fun c_23 => ?_) (fun c_23 => ?_)
      ·
        refine lv_iconst (v := 0) hx hb dX8_mayCome_43 (by decide) ?_
        exact W.zret (v := 0) hx hb hr rfl (fun t ht hW => ⟨_, rfl, trivial, ht⟩) (fun q h => nomatch h) dX8_mayCome_44
      ·
        refine lv_aload_n hx hb dX8_mayCome_26 rfl (lv_at hl 0 rfl) ?_
        refine va_get (D := D) (ci := 8) (v := .ref (y 5)) (C := RX8) (T := TX8) (N := 52) hx hb hts w_1 hown hK hP 0 rfl rfl 19 (by decide) w_3 (fun _ h9 => h9) rfl dX8_mayCome_27 ?_
        refine lv_iload_n hx hb dX8_mayCome_30 rfl (lv_at hl 1 rfl) ?_
        refine sv_iald (v := m_age q.toNatClampNeg) hx hb hK hP 1 1 rfl rfl (hc9 c_1) rfl dX8_mayCome_31 ?_
        refine lv_topi (fun v_3 ev_3 => ?_)
        refine lv_aload_n hx hb dX8_mayCome_32 rfl (lv_at hl 0 rfl) ?_
        refine va_get (D := D) (ci := 8) (v := .int m_high) (C := RX8) (T := TX8) (N := 52) hx hb hts w_1 hown hK hP 0 rfl rfl 7 (by decide) w_5 (fun _ h9 => h9) rfl dX8_mayCome_33 ?_
        refine lv_icmp_ge (tgt := 43) hx hb dX8_mayCome_36 (by decide) (fun c_36 => ?_) (fun c_36 => ?_)
        ·
          refine lv_iconst (v := 0) hx hb dX8_mayCome_43 (by decide) ?_
          exact W.zret (v := 0) hx hb hr rfl (fun t ht hW => ⟨_, rfl, trivial, ht⟩) (fun q h => nomatch h) dX8_mayCome_44
        ·
          refine lv_iconst (v := 1) hx hb dX8_mayCome_39 (by decide) ?_
          refine lv_goto (tgt := 44) hx hb dX8_mayCome_40 (by decide) ?_
          exact W.zret (v := 1) hx hb hr rfl (fun t ht hW => ⟨_, rfl, trivial, ht⟩) (fun q h => nomatch h) dX8_mayCome_44

set_option maxHeartbeats 4000000 in
set_option maxRecDepth 100000 in
theorem n_X8_inMany (l : Launch) (D : va_G) (cB cI cJ cZ : ClassId) (y : Nat → Nat) (m_tapeSize m_givers m_children m_coats m_legacies m_insideMany : Nat) (m_thrown m_cycleMany m_vote m_low m_high m_wear m_spare m_places m_cycleNext m_fault m_faultPlace m_giverNext m_years m_end m_next m_kind m_which m_place m_read m_readMany m_readHigh : Int32) (m_state : Nat → Int32) (b_children : m_children ≤ 16) : Met l yX8_inMany wsX8_inMany ({ frames := 0, cells := 0, slots := 0, locals := 0 } : Room) (cRd D (aTy cB cI cJ cZ) [((y 0), .inr (8, [.ref (y 1), .int (nI m_tapeSize), .int m_thrown, .ref (y 2), .int m_cycleMany, .int m_vote, .int m_low, .int m_high, .int m_wear, .int m_spare, .int m_places, .int m_cycleNext, .int m_fault, .int m_faultPlace, .int (nI m_givers), .ref (y 3), .ref (y 4), .int m_giverNext, .int (nI m_children), .ref (y 5), .ref (y 6), .ref (y 7), .ref (y 8), .ref (y 9), .int (nI m_coats), .ref (y 10), .ref (y 11), .ref (y 12), .ref (y 13), .int m_years, .int (nI m_legacies), .ref (y 14), .ref (y 15), .ref (y 16), .ref (y 17), .int m_end, .int m_next, .int m_kind, .int m_which, .int m_place, .int m_read, .ref (y 18), .ref (y 19), .int m_readMany, .int m_readHigh, .ref (y 20), .int (nI m_insideMany), .ref (y 21), .ref (y 22), .ref (y 23), .ref (y 24), .ref (y 25)])), ((y 9), .inl (cI, 16, .inl m_state))] [.ref (y 0)]) (vp_Si (fun r : Int32 => True)) 0 0 (fun _ => False) := by
  refine Met.ofW (cc := cX8_inMany) (maxL := 3) (ret := (some .int)) (by decide) rfl ?_
  intro p e s m args below meth c s₁ B hml hv
  obtain ⟨rfl, hP, hK⟩ := hv
  have hx := B.exec
  have hb := B.bytes
  have hr := B.returns
  have hts := atoms_spec (ws := wsX8_inMany) B.pre
  have hown : s.vm.findClass RX8 = some m.cls := findClass_of_methodNamed B.named
  have hlocks := B.notSynchronized
  have hP : va_P D vwCl [((y 0), .inr (8, [.ref (y 1), .int (nI m_tapeSize), .int m_thrown, .ref (y 2), .int m_cycleMany, .int m_vote, .int m_low, .int m_high, .int m_wear, .int m_spare, .int m_places, .int m_cycleNext, .int m_fault, .int m_faultPlace, .int (nI m_givers), .ref (y 3), .ref (y 4), .int m_giverNext, .int (nI m_children), .ref (y 5), .ref (y 6), .ref (y 7), .ref (y 8), .ref (y 9), .int (nI m_coats), .ref (y 10), .ref (y 11), .ref (y 12), .ref (y 13), .int m_years, .int (nI m_legacies), .ref (y 14), .ref (y 15), .ref (y 16), .ref (y 17), .int m_end, .int m_next, .int m_kind, .int m_which, .int m_place, .int m_read, .ref (y 18), .ref (y 19), .int m_readMany, .int m_readHigh, .ref (y 20), .int (nI m_insideMany), .ref (y 21), .ref (y 22), .ref (y 23), .ref (y 24), .ref (y 25)])), ((y 9), .inl (cI, 16, .inl m_state))] s.heap := hP
  have w_1 : ∀ w ∈ wsX80, w ∈ wsX8_inMany := by decide +kernel
  have w_2 := hts (Cond.fieldLink RX8 180 "BlueCoatsModel" "children" "I") (by decide +kernel)
  have w_3 := hts (Cond.fieldLink RX8 59 "BlueCoatsModel" "state" "[I") (by decide +kernel)
  have hl := lv_entry ([.ref (y 0)]) (n := 3) (Nat.le_of_ble_eq_true rfl)
  rw [lg_entry_eq]
  generalize (lg_sl ([.ref (y 0)]) ++ List.replicate (3 - (lg_sl ([.ref (y 0)])).length) Slot.unset).toArray = ls at hl ⊢
  have hl : lv_has ls 3 [(0, .ref (y 0))] := hl
  generalize hQ : MQ below _ _ s _ _ _ = Q0
  refine lv_iconst (v := 0) hx hb dX8_inMany_0 (by decide) ?_
  refine lv_istore_n (lv' := [(1, .int 0), (0, .ref (y 0))]) hx hb dX8_inMany_1 rfl hl (by decide) rfl (fun ls hl => ?_)
  refine lv_iconst (v := 0) hx hb dX8_inMany_2 (by decide) ?_
  refine lv_istore_n (lv' := [(2, .int 0), (1, .int 0), (0, .ref (y 0))]) hx hb dX8_inMany_3 rfl hl (by decide) rfl (fun ls hl => ?_)
  have L_1 : ∀ (n : Nat) (i_4 : Int32) (l_1_4 : Int32) (ls : Array Slot), (Int32.toInt (nI m_children) - i_4.toInt).toNat < n → 0 ≤ i_4.toInt → va_P D vwCl [((y 0), .inr (8, [.ref (y 1), .int (nI m_tapeSize), .int m_thrown, .ref (y 2), .int m_cycleMany, .int m_vote, .int m_low, .int m_high, .int m_wear, .int m_spare, .int m_places, .int m_cycleNext, .int m_fault, .int m_faultPlace, .int (nI m_givers), .ref (y 3), .ref (y 4), .int m_giverNext, .int (nI m_children), .ref (y 5), .ref (y 6), .ref (y 7), .ref (y 8), .ref (y 9), .int (nI m_coats), .ref (y 10), .ref (y 11), .ref (y 12), .ref (y 13), .int m_years, .int (nI m_legacies), .ref (y 14), .ref (y 15), .ref (y 16), .ref (y 17), .int m_end, .int m_next, .int m_kind, .int m_which, .int m_place, .int m_read, .ref (y 18), .ref (y 19), .int m_readMany, .int m_readHigh, .ref (y 20), .int (nI m_insideMany), .ref (y 21), .ref (y 22), .ref (y 23), .ref (y 24), .ref (y 25)])), ((y 9), .inl (cI, 16, .inl m_state))] s.heap → lv_has ls 3 [(0, .ref (y 0)), (1, .int l_1_4), (2, .int i_4)] → W p l e (headSpec wsX8_inMany ({ frames := 0, cells := 0, slots := 0, locals := 0 } : Room)).room s m ([.ref (y 0)] : List Value).toArray below meth c s.heap [] 0 0 Q0 (F0 m 4 ls []) := by
    intro n
    induction n with
    | zero => intro i_4 l_1_4 ls hn_4 hlo_4 hP hl; exact absurd hn_4 (Nat.not_lt_zero _)
    | succ n ih_L_1 =>
      intro i_4 l_1_4 ls hn_4 hlo_4 hP hl
      refine lv_iload_n hx hb dX8_inMany_4 rfl (lv_at hl 2 rfl) ?_
      refine lv_aload_n hx hb dX8_inMany_5 rfl (lv_at hl 0 rfl) ?_
      refine va_get (D := D) (ci := 8) (v := .int (nI m_children)) (C := RX8) (T := TX8) (N := 52) hx hb hts w_1 hown hK hP 0 rfl rfl 18 (by decide) w_2 (fun _ h9 => h9) rfl dX8_inMany_6 ?_
      refine lv_icmp_ge (tgt := 36) hx hb dX8_inMany_9 (by decide) (fun c_9 => ?_) (fun c_9 => ?_)
      ·
        refine lv_iload_n hx hb dX8_inMany_36 rfl (lv_at hl 1 rfl) ?_
        rw [← hQ]
        exact W.iret (v := l_1_4) hx hb hr (fun t ht hW => ⟨_, rfl, trivial, ht⟩) (fun q h => nomatch h) dX8_inMany_37
      ·
        refine lv_iload_n hx hb dX8_inMany_12 rfl (lv_at hl 1 rfl) ?_
        refine lv_aload_n hx hb dX8_inMany_13 rfl (lv_at hl 0 rfl) ?_
        refine va_get (D := D) (ci := 8) (v := .ref (y 9)) (C := RX8) (T := TX8) (N := 52) hx hb hts w_1 hown hK hP 0 rfl rfl 23 (by decide) w_3 (fun _ h9 => h9) rfl dX8_inMany_14 ?_
        refine lv_iload_n hx hb dX8_inMany_17 rfl (lv_at hl 2 rfl) ?_
        refine sv_iald (v := m_state i_4.toNatClampNeg) hx hb hK hP 1 1 rfl rfl (lp_inN hlo_4 c_9 b_children (by decide)) rfl dX8_inMany_18 ?_
        refine lv_topi (fun v_2 ev_2 => ?_)
        refine lv_iconst (v := 1) hx hb dX8_inMany_19 (by decide) ?_
        refine lv_icmp_ne (tgt := 27) hx hb dX8_inMany_20 (by decide) (fun c_20 => ?_) (fun c_20 => ?_)
        ·
          refine lv_iconst (v := 0) hx hb dX8_inMany_27 (by decide) ?_
          refine sv_iadd (v := l_1_4 + 0) hx hb dX8_inMany_28 rfl ?_
          refine lv_topi (fun v_3 ev_3 => ?_)
          refine lv_istore_n (lv' := [(1, .int v_3), (0, .ref (y 0)), (2, .int i_4)]) hx hb dX8_inMany_29 rfl hl (by decide) rfl (fun ls hl => ?_)
          refine lv_iinc (v := i_4 + 1) (lv' := [(2, .int (i_4 + 1)), (1, .int v_3), (0, .ref (y 0))]) hx hb dX8_inMany_30 hl (k := 2) rfl rfl (by decide) rfl (fun ls hl => ?_)
          refine lv_goto (tgt := 4) hx hb dX8_inMany_33 (by decide) ?_
          exact ih_L_1 (i_4 + 1) v_3 ls (lp_dec hn_4 c_9) (by have h9 := lp_inc c_9; omega) hP (lv_sub hl [2, 1, 0] rfl)
        ·
          refine lv_iconst (v := 1) hx hb dX8_inMany_23 (by decide) ?_
          refine lv_goto (tgt := 28) hx hb dX8_inMany_24 (by decide) ?_
          refine sv_iadd (v := l_1_4 + 1) hx hb dX8_inMany_28 rfl ?_
          refine lv_istore_n (lv' := [(1, .int (l_1_4 + 1)), (0, .ref (y 0)), (2, .int i_4)]) hx hb dX8_inMany_29 rfl hl (by decide) rfl (fun ls hl => ?_)
          refine lv_iinc (v := i_4 + 1) (lv' := [(2, .int (i_4 + 1)), (1, .int (l_1_4 + 1)), (0, .ref (y 0))]) hx hb dX8_inMany_30 hl (k := 2) rfl rfl (by decide) rfl (fun ls hl => ?_)
          refine lv_goto (tgt := 4) hx hb dX8_inMany_33 (by decide) ?_
          exact ih_L_1 (i_4 + 1) (l_1_4 + 1) ls (lp_dec hn_4 c_9) (by have h9 := lp_inc c_9; omega) hP (lv_sub hl [2, 1, 0] rfl)
  exact L_1 _ 0 0 ls (Nat.lt_succ_self _) (by decide) hP (lv_sub hl [2, 1, 0] rfl)

set_option maxHeartbeats 4000000 in
set_option maxRecDepth 100000 in
theorem n_X8_isAhead (l : Launch) (D : va_G) (cB cI cJ cZ : ClassId) (y : Nat → Nat) (m_tapeSize m_givers m_children m_coats m_legacies m_insideMany : Nat) (m_thrown m_cycleMany m_vote m_low m_high m_wear m_spare m_places m_cycleNext m_fault m_faultPlace m_giverNext m_years m_end m_next m_kind m_which m_place m_read m_readMany m_readHigh : Int32) (m_gave m_supports m_want : Nat → Int32) (q q2 q3 : Int32) (b_givers : m_givers ≤ 8) (hvt : ¬ m_vote = 0) (hq : vp_in q 16) (hq2 : vp_in q2 16) : Met l yX8_isAhead wsX8_isAhead ({ frames := 1, cells := 0, slots := 0, locals := 23 } : Room) (cRd D (aTy cB cI cJ cZ) [((y 0), .inr (8, [.ref (y 1), .int (nI m_tapeSize), .int m_thrown, .ref (y 2), .int m_cycleMany, .int m_vote, .int m_low, .int m_high, .int m_wear, .int m_spare, .int m_places, .int m_cycleNext, .int m_fault, .int m_faultPlace, .int (nI m_givers), .ref (y 3), .ref (y 4), .int m_giverNext, .int (nI m_children), .ref (y 5), .ref (y 6), .ref (y 7), .ref (y 8), .ref (y 9), .int (nI m_coats), .ref (y 10), .ref (y 11), .ref (y 12), .ref (y 13), .int m_years, .int (nI m_legacies), .ref (y 14), .ref (y 15), .ref (y 16), .ref (y 17), .int m_end, .int m_next, .int m_kind, .int m_which, .int m_place, .int m_read, .ref (y 18), .ref (y 19), .int m_readMany, .int m_readHigh, .ref (y 20), .int (nI m_insideMany), .ref (y 21), .ref (y 22), .ref (y 23), .ref (y 24), .ref (y 25)])), ((y 3), .inl (cI, 8, .inl m_gave)), ((y 4), .inl (cI, 8, .inl m_supports)), ((y 6), .inl (cI, 16, .inl m_want))] [.ref (y 0), .int q, .int q2, .int q3]) (vp_Si (fun r : Int32 => True)) 0 0 (fun _ => False) := by
  refine Met.ofW (cc := cX8_isAhead) (maxL := 4) (ret := (some .boolean)) (by decide) rfl ?_
  intro p e s m args below meth c s₁ B hml hv
  obtain ⟨rfl, hP, hK⟩ := hv
  have hx := B.exec
  have hb := B.bytes
  have hr := B.returns
  have hts := atoms_spec (ws := wsX8_isAhead) B.pre
  have hown : s.vm.findClass RX8 = some m.cls := findClass_of_methodNamed B.named
  have hlocks := B.notSynchronized
  have hP : va_P D vwCl [((y 0), .inr (8, [.ref (y 1), .int (nI m_tapeSize), .int m_thrown, .ref (y 2), .int m_cycleMany, .int m_vote, .int m_low, .int m_high, .int m_wear, .int m_spare, .int m_places, .int m_cycleNext, .int m_fault, .int m_faultPlace, .int (nI m_givers), .ref (y 3), .ref (y 4), .int m_giverNext, .int (nI m_children), .ref (y 5), .ref (y 6), .ref (y 7), .ref (y 8), .ref (y 9), .int (nI m_coats), .ref (y 10), .ref (y 11), .ref (y 12), .ref (y 13), .int m_years, .int (nI m_legacies), .ref (y 14), .ref (y 15), .ref (y 16), .ref (y 17), .int m_end, .int m_next, .int m_kind, .int m_which, .int m_place, .int m_read, .ref (y 18), .ref (y 19), .int m_readMany, .int m_readHigh, .ref (y 20), .int (nI m_insideMany), .ref (y 21), .ref (y 22), .ref (y 23), .ref (y 24), .ref (y 25)])), ((y 3), .inl (cI, 8, .inl m_gave)), ((y 4), .inl (cI, 8, .inl m_supports)), ((y 6), .inl (cI, 16, .inl m_want))] s.heap := hP
  have w_1 : ∀ w ∈ wsX80, w ∈ wsX8_isAhead := by decide +kernel
  have w_2 := hts (Cond.fieldLink RX8 50 "BlueCoatsModel" "want" "[I") (by decide +kernel)
  have hl := lv_entry ([.ref (y 0), .int q, .int q2, .int q3]) (n := 4) (Nat.le_of_ble_eq_true rfl)
  rw [lg_entry_eq]
  generalize (lg_sl ([.ref (y 0), .int q, .int q2, .int q3]) ++ List.replicate (4 - (lg_sl ([.ref (y 0), .int q, .int q2, .int q3])).length) Slot.unset).toArray = ls at hl ⊢
  have hl : lv_has ls 4 [(0, .ref (y 0)), (1, .int q), (2, .int q2), (3, .int q3)] := hl
  refine lv_iload_n hx hb dX8_isAhead_0 rfl (lv_at hl 3 rfl) ?_
  refine lv_if_eq (tgt := 36) hx hb dX8_isAhead_1 (by decide) (fun c_1 => ?_) (fun c_1 => ?_)
  ·
    refine lv_aload_n hx hb dX8_isAhead_36 rfl (lv_at hl 0 rfl) ?_
    refine va_get (D := D) (ci := 8) (v := .ref (y 6)) (C := RX8) (T := TX8) (N := 52) hx hb hts w_1 hown hK hP 0 rfl rfl 20 (by decide) w_2 (fun _ h9 => h9) rfl dX8_isAhead_37 ?_
    refine lv_iload_n hx hb dX8_isAhead_40 rfl (lv_at hl 1 rfl) ?_
    refine sv_iald (v := m_want q.toNatClampNeg) hx hb hK hP 3 1 rfl rfl hq rfl dX8_isAhead_41 ?_
    refine lv_topi (fun v_1 ev_1 => ?_)
    refine lv_aload_n hx hb dX8_isAhead_42 rfl (lv_at hl 0 rfl) ?_
    refine va_get (D := D) (ci := 8) (v := .ref (y 6)) (C := RX8) (T := TX8) (N := 52) hx hb hts w_1 hown hK hP 0 rfl rfl 20 (by decide) w_2 (fun _ h9 => h9) rfl dX8_isAhead_43 ?_
    refine lv_iload_n hx hb dX8_isAhead_46 rfl (lv_at hl 2 rfl) ?_
    refine sv_iald (v := m_want q2.toNatClampNeg) hx hb hK hP 3 1 rfl rfl hq2 rfl dX8_isAhead_47 ?_
    refine lv_topi (fun v_2 ev_2 => ?_)
    refine lv_icmp_gt (tgt := 71) hx hb dX8_isAhead_48 (by decide) (fun c_48 => ?_) (fun c_48 => ?_)
    ·
      refine lv_iconst (v := 1) hx hb dX8_isAhead_71 (by decide) ?_
      refine lv_goto (tgt := 76) hx hb dX8_isAhead_72 (by decide) ?_
      exact W.zret (v := 1) hx hb hr rfl (fun t ht hW => ⟨_, rfl, trivial, ht⟩) (fun q h => nomatch h) dX8_isAhead_76
    ·
      refine lv_aload_n hx hb dX8_isAhead_51 rfl (lv_at hl 0 rfl) ?_
      refine va_get (D := D) (ci := 8) (v := .ref (y 6)) (C := RX8) (T := TX8) (N := 52) hx hb hts w_1 hown hK hP 0 rfl rfl 20 (by decide) w_2 (fun _ h9 => h9) rfl dX8_isAhead_52 ?_
      refine lv_iload_n hx hb dX8_isAhead_55 rfl (lv_at hl 1 rfl) ?_
      refine sv_iald (v := m_want q.toNatClampNeg) hx hb hK hP 3 1 rfl rfl hq rfl dX8_isAhead_56 ?_
      refine lv_topi (fun v_3 ev_3 => ?_)
      refine lv_aload_n hx hb dX8_isAhead_57 rfl (lv_at hl 0 rfl) ?_
      refine va_get (D := D) (ci := 8) (v := .ref (y 6)) (C := RX8) (T := TX8) (N := 52) hx hb hts w_1 hown hK hP 0 rfl rfl 20 (by decide) w_2 (fun _ h9 => h9) rfl dX8_isAhead_58 ?_
      refine lv_iload_n hx hb dX8_isAhead_61 rfl (lv_at hl 2 rfl) ?_
      refine sv_iald (v := m_want q2.toNatClampNeg) hx hb hK hP 3 1 rfl rfl hq2 rfl dX8_isAhead_62 ?_
      refine lv_topi (fun v_4 ev_4 => ?_)
      refine lv_icmp_ne (tgt := 75) hx hb dX8_isAhead_63 (by decide) (fun c_63 => ?_) (fun c_63 => ?_)
      ·
        refine lv_iconst (v := 0) hx hb dX8_isAhead_75 (by decide) ?_
        exact W.zret (v := 0) hx hb hr rfl (fun t ht hW => ⟨_, rfl, trivial, ht⟩) (fun q h => nomatch h) dX8_isAhead_76
      ·
        refine lv_iload_n hx hb dX8_isAhead_66 rfl (lv_at hl 1 rfl) ?_
        refine lv_iload_n hx hb dX8_isAhead_67 rfl (lv_at hl 2 rfl) ?_
        refine lv_icmp_ge (tgt := 75) hx hb dX8_isAhead_68 (by decide) (fun c_68 => ?_) (fun c_68 => ?_)
        ·
          refine lv_iconst (v := 0) hx hb dX8_isAhead_75 (by decide) ?_
          exact W.zret (v := 0) hx hb hr rfl (fun t ht hW => ⟨_, rfl, trivial, ht⟩) (fun q h => nomatch h) dX8_isAhead_76
        ·
          refine lv_iconst (v := 1) hx hb dX8_isAhead_71 (by decide) ?_
          refine lv_goto (tgt := 76) hx hb dX8_isAhead_72 (by decide) ?_
          exact W.zret (v := 1) hx hb hr rfl (fun t ht hW => ⟨_, rfl, trivial, ht⟩) (fun q h => nomatch h) dX8_isAhead_76
  ·
    refine lv_aload_n hx hb dX8_isAhead_4 rfl (lv_at hl 0 rfl) ?_
    refine lv_iload_n hx hb dX8_isAhead_5 rfl (lv_at hl 1 rfl) ?_
    refine vp_callSi (va_Run.run (va_runV (As := [.int q]) (rest := []) ⟨hx, hb, hml, hown, hts⟩ (n_X8_votes l D cB cI cJ cZ y m_tapeSize m_givers m_children m_coats m_legacies m_insideMany m_thrown m_cycleMany m_vote m_low m_high m_wear m_spare m_places m_cycleNext m_fault m_faultPlace m_giverNext m_years m_end m_next m_kind m_which m_place m_read m_readMany m_readHigh m_gave m_supports q b_givers hvt) (cwV 1 hts gX8_isAhead_X8_votes rfl rfl rfl (by decide +kernel) ⟨Nat.le_of_ble_eq_true rfl, Nat.le_of_ble_eq_true rfl⟩) (pre_VR (hP.sub (ws' := [((y 0), .inr (8, [.ref (y 1), .int (nI m_tapeSize), .int m_thrown, .ref (y 2), .int m_cycleMany, .int m_vote, .int m_low, .int m_high, .int m_wear, .int m_spare, .int m_places, .int m_cycleNext, .int m_fault, .int m_faultPlace, .int (nI m_givers), .ref (y 3), .ref (y 4), .int m_giverNext, .int (nI m_children), .ref (y 5), .ref (y 6), .ref (y 7), .ref (y 8), .ref (y 9), .int (nI m_coats), .ref (y 10), .ref (y 11), .ref (y 12), .ref (y 13), .int m_years, .int (nI m_legacies), .ref (y 14), .ref (y 15), .ref (y 16), .ref (y 17), .int m_end, .int m_next, .int m_kind, .int m_which, .int m_place, .int m_read, .ref (y 18), .ref (y 19), .int m_readMany, .int m_readHigh, .ref (y 20), .int (nI m_insideMany), .ref (y 21), .ref (y 22), .ref (y 23), .ref (y 24), .ref (y 25)])), ((y 3), .inl (cI, 8, .inl m_gave)), ((y 4), .inl (cI, 8, .inl m_supports))]) [0, 1, 2] rfl) hK 0 rfl rfl rfl) rfl rfl hl.1 rfl (lv_room (Nat.le_of_ble_eq_true rfl)) dX8_isAhead_6 ⟨Nat.le_of_ble_eq_true rfl, Nat.le_of_ble_eq_true rfl⟩)) (fun r_5 hw_r_5 => ?_)
    refine lv_aload_n hx hb dX8_isAhead_9 rfl (lv_at hl 0 rfl) ?_
    refine lv_iload_n hx hb dX8_isAhead_10 rfl (lv_at hl 2 rfl) ?_
    refine vp_callSi (va_Run.run (va_runV (As := [.int q2]) (rest := [.int r_5]) ⟨hx, hb, hml, hown, hts⟩ (n_X8_votes l D cB cI cJ cZ y m_tapeSize m_givers m_children m_coats m_legacies m_insideMany m_thrown m_cycleMany m_vote m_low m_high m_wear m_spare m_places m_cycleNext m_fault m_faultPlace m_giverNext m_years m_end m_next m_kind m_which m_place m_read m_readMany m_readHigh m_gave m_supports q2 b_givers hvt) (cwV 1 hts gX8_isAhead_X8_votes rfl rfl rfl (by decide +kernel) ⟨Nat.le_of_ble_eq_true rfl, Nat.le_of_ble_eq_true rfl⟩) (pre_VR (hP.sub (ws' := [((y 0), .inr (8, [.ref (y 1), .int (nI m_tapeSize), .int m_thrown, .ref (y 2), .int m_cycleMany, .int m_vote, .int m_low, .int m_high, .int m_wear, .int m_spare, .int m_places, .int m_cycleNext, .int m_fault, .int m_faultPlace, .int (nI m_givers), .ref (y 3), .ref (y 4), .int m_giverNext, .int (nI m_children), .ref (y 5), .ref (y 6), .ref (y 7), .ref (y 8), .ref (y 9), .int (nI m_coats), .ref (y 10), .ref (y 11), .ref (y 12), .ref (y 13), .int m_years, .int (nI m_legacies), .ref (y 14), .ref (y 15), .ref (y 16), .ref (y 17), .int m_end, .int m_next, .int m_kind, .int m_which, .int m_place, .int m_read, .ref (y 18), .ref (y 19), .int m_readMany, .int m_readHigh, .ref (y 20), .int (nI m_insideMany), .ref (y 21), .ref (y 22), .ref (y 23), .ref (y 24), .ref (y 25)])), ((y 3), .inl (cI, 8, .inl m_gave)), ((y 4), .inl (cI, 8, .inl m_supports))]) [0, 1, 2] rfl) hK 0 rfl rfl rfl) rfl rfl hl.1 rfl (lv_room (Nat.le_of_ble_eq_true rfl)) dX8_isAhead_11 ⟨Nat.le_of_ble_eq_true rfl, Nat.le_of_ble_eq_true rfl⟩)) (fun r_6 hw_r_6 => ?_)
    refine lv_icmp_eq (tgt := 36) hx hb dX8_isAhead_14 (by decide) (fun c_14 => ?_) (fun c_14 => ?_)
    ·
      refine lv_aload_n hx hb dX8_isAhead_36 rfl (lv_at hl 0 rfl) ?_
      refine va_get (D := D) (ci := 8) (v := .ref (y 6)) (C := RX8) (T := TX8) (N := 52) hx hb hts w_1 hown hK hP 0 rfl rfl 20 (by decide) w_2 (fun _ h9 => h9) rfl dX8_isAhead_37 ?_
      refine lv_iload_n hx hb dX8_isAhead_40 rfl (lv_at hl 1 rfl) ?_
      refine sv_iald (v := m_want q.toNatClampNeg) hx hb hK hP 3 1 rfl rfl hq rfl dX8_isAhead_41 ?_
      refine lv_topi (fun v_7 ev_7 => ?_)
      refine lv_aload_n hx hb dX8_isAhead_42 rfl (lv_at hl 0 rfl) ?_
      refine va_get (D := D) (ci := 8) (v := .ref (y 6)) (C := RX8) (T := TX8) (N := 52) hx hb hts w_1 hown hK hP 0 rfl rfl 20 (by decide) w_2 (fun _ h9 => h9) rfl dX8_isAhead_43 ?_
      refine lv_iload_n hx hb dX8_isAhead_46 rfl (lv_at hl 2 rfl) ?_
      refine sv_iald (v := m_want q2.toNatClampNeg) hx hb hK hP 3 1 rfl rfl hq2 rfl dX8_isAhead_47 ?_
      refine lv_topi (fun v_8 ev_8 => ?_)
      refine lv_icmp_gt (tgt := 71) hx hb dX8_isAhead_48 (by decide) (fun c_48 => ?_) (fun c_48 => ?_)
      ·
        refine lv_iconst (v := 1) hx hb dX8_isAhead_71 (by decide) ?_
        refine lv_goto (tgt := 76) hx hb dX8_isAhead_72 (by decide) ?_
        exact W.zret (v := 1) hx hb hr rfl (fun t ht hW => ⟨_, rfl, trivial, ht⟩) (fun q h => nomatch h) dX8_isAhead_76
      ·
        refine lv_aload_n hx hb dX8_isAhead_51 rfl (lv_at hl 0 rfl) ?_
        refine va_get (D := D) (ci := 8) (v := .ref (y 6)) (C := RX8) (T := TX8) (N := 52) hx hb hts w_1 hown hK hP 0 rfl rfl 20 (by decide) w_2 (fun _ h9 => h9) rfl dX8_isAhead_52 ?_
        refine lv_iload_n hx hb dX8_isAhead_55 rfl (lv_at hl 1 rfl) ?_
        refine sv_iald (v := m_want q.toNatClampNeg) hx hb hK hP 3 1 rfl rfl hq rfl dX8_isAhead_56 ?_
        refine lv_topi (fun v_9 ev_9 => ?_)
        refine lv_aload_n hx hb dX8_isAhead_57 rfl (lv_at hl 0 rfl) ?_
        refine va_get (D := D) (ci := 8) (v := .ref (y 6)) (C := RX8) (T := TX8) (N := 52) hx hb hts w_1 hown hK hP 0 rfl rfl 20 (by decide) w_2 (fun _ h9 => h9) rfl dX8_isAhead_58 ?_
        refine lv_iload_n hx hb dX8_isAhead_61 rfl (lv_at hl 2 rfl) ?_
        refine sv_iald (v := m_want q2.toNatClampNeg) hx hb hK hP 3 1 rfl rfl hq2 rfl dX8_isAhead_62 ?_
        refine lv_topi (fun v_10 ev_10 => ?_)
        refine lv_icmp_ne (tgt := 75) hx hb dX8_isAhead_63 (by decide) (fun c_63 => ?_) (fun c_63 => ?_)
        ·
          refine lv_iconst (v := 0) hx hb dX8_isAhead_75 (by decide) ?_
          exact W.zret (v := 0) hx hb hr rfl (fun t ht hW => ⟨_, rfl, trivial, ht⟩) (fun q h => nomatch h) dX8_isAhead_76
        ·
          refine lv_iload_n hx hb dX8_isAhead_66 rfl (lv_at hl 1 rfl) ?_
          refine lv_iload_n hx hb dX8_isAhead_67 rfl (lv_at hl 2 rfl) ?_
          refine lv_icmp_ge (tgt := 75) hx hb dX8_isAhead_68 (by decide) (fun c_68 => ?_) (fun c_68 => ?_)
          ·
            refine lv_iconst (v := 0) hx hb dX8_isAhead_75 (by decide) ?_
            exact W.zret (v := 0) hx hb hr rfl (fun t ht hW => ⟨_, rfl, trivial, ht⟩) (fun q h => nomatch h) dX8_isAhead_76
          ·
            refine lv_iconst (v := 1) hx hb dX8_isAhead_71 (by decide) ?_
            refine lv_goto (tgt := 76) hx hb dX8_isAhead_72 (by decide) ?_
            exact W.zret (v := 1) hx hb hr rfl (fun t ht hW => ⟨_, rfl, trivial, ht⟩) (fun q h => nomatch h) dX8_isAhead_76
    ·
      refine lv_aload_n hx hb dX8_isAhead_17 rfl (lv_at hl 0 rfl) ?_
      refine lv_iload_n hx hb dX8_isAhead_18 rfl (lv_at hl 1 rfl) ?_
      refine vp_callSi (va_Run.run (va_runV (As := [.int q]) (rest := []) ⟨hx, hb, hml, hown, hts⟩ (n_X8_votes l D cB cI cJ cZ y m_tapeSize m_givers m_children m_coats m_legacies m_insideMany m_thrown m_cycleMany m_vote m_low m_high m_wear m_spare m_places m_cycleNext m_fault m_faultPlace m_giverNext m_years m_end m_next m_kind m_which m_place m_read m_readMany m_readHigh m_gave m_supports q b_givers hvt) (cwV 1 hts gX8_isAhead_X8_votes rfl rfl rfl (by decide +kernel) ⟨Nat.le_of_ble_eq_true rfl, Nat.le_of_ble_eq_true rfl⟩) (pre_VR (hP.sub (ws' := [((y 0), .inr (8, [.ref (y 1), .int (nI m_tapeSize), .int m_thrown, .ref (y 2), .int m_cycleMany, .int m_vote, .int m_low, .int m_high, .int m_wear, .int m_spare, .int m_places, .int m_cycleNext, .int m_fault, .int m_faultPlace, .int (nI m_givers), .ref (y 3), .ref (y 4), .int m_giverNext, .int (nI m_children), .ref (y 5), .ref (y 6), .ref (y 7), .ref (y 8), .ref (y 9), .int (nI m_coats), .ref (y 10), .ref (y 11), .ref (y 12), .ref (y 13), .int m_years, .int (nI m_legacies), .ref (y 14), .ref (y 15), .ref (y 16), .ref (y 17), .int m_end, .int m_next, .int m_kind, .int m_which, .int m_place, .int m_read, .ref (y 18), .ref (y 19), .int m_readMany, .int m_readHigh, .ref (y 20), .int (nI m_insideMany), .ref (y 21), .ref (y 22), .ref (y 23), .ref (y 24), .ref (y 25)])), ((y 3), .inl (cI, 8, .inl m_gave)), ((y 4), .inl (cI, 8, .inl m_supports))]) [0, 1, 2] rfl) hK 0 rfl rfl rfl) rfl rfl hl.1 rfl (lv_room (Nat.le_of_ble_eq_true rfl)) dX8_isAhead_19 ⟨Nat.le_of_ble_eq_true rfl, Nat.le_of_ble_eq_true rfl⟩)) (fun r_11 hw_r_11 => ?_)
      refine lv_aload_n hx hb dX8_isAhead_22 rfl (lv_at hl 0 rfl) ?_
      refine lv_iload_n hx hb dX8_isAhead_23 rfl (lv_at hl 2 rfl) ?_
      refine vp_callSi (va_Run.run (va_runV (As := [.int q2]) (rest := [.int r_11]) ⟨hx, hb, hml, hown, hts⟩ (n_X8_votes l D cB cI cJ cZ y m_tapeSize m_givers m_children m_coats m_legacies m_insideMany m_thrown m_cycleMany m_vote m_low m_high m_wear m_spare m_places m_cycleNext m_fault m_faultPlace m_giverNext m_years m_end m_next m_kind m_which m_place m_read m_readMany m_readHigh m_gave m_supports q2 b_givers hvt) (cwV 1 hts gX8_isAhead_X8_votes rfl rfl rfl (by decide +kernel) ⟨Nat.le_of_ble_eq_true rfl, Nat.le_of_ble_eq_true rfl⟩) (pre_VR (hP.sub (ws' := [((y 0), .inr (8, [.ref (y 1), .int (nI m_tapeSize), .int m_thrown, .ref (y 2), .int m_cycleMany, .int m_vote, .int m_low, .int m_high, .int m_wear, .int m_spare, .int m_places, .int m_cycleNext, .int m_fault, .int m_faultPlace, .int (nI m_givers), .ref (y 3), .ref (y 4), .int m_giverNext, .int (nI m_children), .ref (y 5), .ref (y 6), .ref (y 7), .ref (y 8), .ref (y 9), .int (nI m_coats), .ref (y 10), .ref (y 11), .ref (y 12), .ref (y 13), .int m_years, .int (nI m_legacies), .ref (y 14), .ref (y 15), .ref (y 16), .ref (y 17), .int m_end, .int m_next, .int m_kind, .int m_which, .int m_place, .int m_read, .ref (y 18), .ref (y 19), .int m_readMany, .int m_readHigh, .ref (y 20), .int (nI m_insideMany), .ref (y 21), .ref (y 22), .ref (y 23), .ref (y 24), .ref (y 25)])), ((y 3), .inl (cI, 8, .inl m_gave)), ((y 4), .inl (cI, 8, .inl m_supports))]) [0, 1, 2] rfl) hK 0 rfl rfl rfl) rfl rfl hl.1 rfl (lv_room (Nat.le_of_ble_eq_true rfl)) dX8_isAhead_24 ⟨Nat.le_of_ble_eq_true rfl, Nat.le_of_ble_eq_true rfl⟩)) (fun r_12 hw_r_12 => ?_)
      refine lv_icmp_le (tgt := 34) hx hb dX8_isAhead_27 (by decide) (fun c_27 => ?_) (fun c_27 => ?_)
      ·
        refine lv_iconst (v := 0) hx hb dX8_isAhead_34 (by decide) ?_
        exact W.zret (v := 0) hx hb hr rfl (fun t ht hW => ⟨_, rfl, trivial, ht⟩) (fun q h => nomatch h) dX8_isAhead_35
      ·
        refine lv_iconst (v := 1) hx hb dX8_isAhead_30 (by decide) ?_
        refine lv_goto (tgt := 35) hx hb dX8_isAhead_31 (by decide) ?_
        exact W.zret (v := 1) hx hb hr rfl (fun t ht hW => ⟨_, rfl, trivial, ht⟩) (fun q h => nomatch h) dX8_isAhead_35

set_option maxHeartbeats 4000000 in
set_option maxRecDepth 100000 in
theorem n_X8_comes (l : Launch) (D : va_G) (cB cI cJ cZ : ClassId) (sz : Nat) (y : Nat → Nat) (m_tapeSize m_givers m_children m_coats m_legacies m_insideMany : Nat) (m_thrown m_cycleMany m_vote m_low m_high m_wear m_spare m_places m_cycleNext m_fault m_faultPlace m_giverNext m_years m_end m_next m_kind m_which m_place m_read m_readMany m_readHigh : Int32) (m_cycle m_gave m_supports m_age m_want m_state : Nat → Int32) (b_givers : m_givers ≤ 8) (b_children : m_children ≤ 16) (hvt : ¬ m_vote = 0) (hgn : vp_in m_giverNext 8) (hcn : vp_in m_cycleNext 8) (hcm : vp_in m_cycleMany 9) (hc0 : ¬ m_cycleMany = 0) (hsb : ∀ k, m_supports k = -1 ∨ vp_in (m_supports k) 16) : Met l yX8_comes wsX8_comes ({ frames := 2, cells := 0, slots := 0, locals := 46 } : Room) (cPre D (aTy cB cI cJ cZ) [((y 0), .inr (8, [.ref (y 1), .int (nI m_tapeSize), .int m_thrown, .ref (y 2), .int m_cycleMany, .int m_vote, .int m_low, .int m_high, .int m_wear, .int m_spare, .int m_places, .int m_cycleNext, .int m_fault, .int m_faultPlace, .int (nI m_givers), .ref (y 3), .ref (y 4), .int m_giverNext, .int (nI m_children), .ref (y 5), .ref (y 6), .ref (y 7), .ref (y 8), .ref (y 9), .int (nI m_coats), .ref (y 10), .ref (y 11), .ref (y 12), .ref (y 13), .int m_years, .int (nI m_legacies), .ref (y 14), .ref (y 15), .ref (y 16), .ref (y 17), .int m_end, .int m_next, .int m_kind, .int m_which, .int m_place, .int m_read, .ref (y 18), .ref (y 19), .int m_readMany, .int m_readHigh, .ref (y 20), .int (nI m_insideMany), .ref (y 21), .ref (y 22), .ref (y 23), .ref (y 24), .ref (y 25)])), ((y 2), .inl (cI, 16, .inl m_cycle)), ((y 3), .inl (cI, 8, .inl m_gave)), ((y 4), .inl (cI, 8, .inl m_supports)), ((y 5), .inl (cI, 16, .inl m_age)), ((y 6), .inl (cI, 16, .inl m_want)), ((y 9), .inl (cI, 16, .inl m_state))] sz [.ref (y 0)]) (va_Qi (fun (r : Int32) (u : Int32) => vp_in u 8 ∧ (r = -1 ∨ vp_in r 16)) (cB_ D (aTy cB cI cJ cZ) (va_A [((y 0), .inr (8, [.ref (y 1), .int (nI m_tapeSize), .int m_thrown, .ref (y 2), .int m_cycleMany, .int m_vote, .int m_low, .int m_high, .int m_wear, .int m_spare, .int m_places, .int m_cycleNext, .int m_fault, .int m_faultPlace, .int (nI m_givers), .ref (y 3), .ref (y 4), .int m_giverNext, .int (nI m_children), .ref (y 5), .ref (y 6), .ref (y 7), .ref (y 8), .ref (y 9), .int (nI m_coats), .ref (y 10), .ref (y 11), .ref (y 12), .ref (y 13), .int m_years, .int (nI m_legacies), .ref (y 14), .ref (y 15), .ref (y 16), .ref (y 17), .int m_end, .int m_next, .int m_kind, .int m_which, .int m_place, .int m_read, .ref (y 18), .ref (y 19), .int m_readMany, .int m_readHigh, .ref (y 20), .int (nI m_insideMany), .ref (y 21), .ref (y 22), .ref (y 23), .ref (y 24), .ref (y 25)])), ((y 2), .inl (cI, 16, .inl m_cycle)), ((y 3), .inl (cI, 8, .inl m_gave)), ((y 4), .inl (cI, 8, .inl m_supports)), ((y 5), .inl (cI, 16, .inl m_age)), ((y 6), .inl (cI, 16, .inl m_want)), ((y 9), .inl (cI, 16, .inl m_state))] sz) (fun u => [((y 0), .inr (8, [.ref (y 1), .int (nI m_tapeSize), .int m_thrown, .ref (y 2), .int m_cycleMany, .int m_vote, .int m_low, .int m_high, .int m_wear, .int m_spare, .int m_places, .int m_cycleNext, .int m_fault, .int m_faultPlace, .int (nI m_givers), .ref (y 3), .ref (y 4), .int (u), .int (nI m_children), .ref (y 5), .ref (y 6), .ref (y 7), .ref (y 8), .ref (y 9), .int (nI m_coats), .ref (y 10), .ref (y 11), .ref (y 12), .ref (y 13), .int m_years, .int (nI m_legacies), .ref (y 14), .ref (y 15), .ref (y 16), .ref (y 17), .int m_end, .int m_next, .int m_kind, .int m_which, .int m_place, .int m_read, .ref (y 18), .ref (y 19), .int m_readMany, .int m_readHigh, .ref (y 20), .int (nI m_insideMany), .ref (y 21), .ref (y 22), .ref (y 23), .ref (y 24), .ref (y 25)])), ((y 2), .inl (cI, 16, .inl m_cycle)), ((y 3), .inl (cI, 8, .inl m_gave)), ((y 4), .inl (cI, 8, .inl m_supports)), ((y 5), .inl (cI, 16, .inl m_age)), ((y 6), .inl (cI, 16, .inl m_want)), ((y 9), .inl (cI, 16, .inl m_state))])) (va_A [((y 0), .inr (8, [.ref (y 1), .int (nI m_tapeSize), .int m_thrown, .ref (y 2), .int m_cycleMany, .int m_vote, .int m_low, .int m_high, .int m_wear, .int m_spare, .int m_places, .int m_cycleNext, .int m_fault, .int m_faultPlace, .int (nI m_givers), .ref (y 3), .ref (y 4), .int m_giverNext, .int (nI m_children), .ref (y 5), .ref (y 6), .ref (y 7), .ref (y 8), .ref (y 9), .int (nI m_coats), .ref (y 10), .ref (y 11), .ref (y 12), .ref (y 13), .int m_years, .int (nI m_legacies), .ref (y 14), .ref (y 15), .ref (y 16), .ref (y 17), .int m_end, .int m_next, .int m_kind, .int m_which, .int m_place, .int m_read, .ref (y 18), .ref (y 19), .int m_readMany, .int m_readHigh, .ref (y 20), .int (nI m_insideMany), .ref (y 21), .ref (y 22), .ref (y 23), .ref (y 24), .ref (y 25)])), ((y 2), .inl (cI, 16, .inl m_cycle)), ((y 3), .inl (cI, 8, .inl m_gave)), ((y 4), .inl (cI, 8, .inl m_supports)), ((y 5), .inl (cI, 16, .inl m_age)), ((y 6), .inl (cI, 16, .inl m_want)), ((y 9), .inl (cI, 16, .inl m_state))] sz)) 0 0 (va_A [((y 0), .inr (8, [.ref (y 1), .int (nI m_tapeSize), .int m_thrown, .ref (y 2), .int m_cycleMany, .int m_vote, .int m_low, .int m_high, .int m_wear, .int m_spare, .int m_places, .int m_cycleNext, .int m_fault, .int m_faultPlace, .int (nI m_givers), .ref (y 3), .ref (y 4), .int m_giverNext, .int (nI m_children), .ref (y 5), .ref (y 6), .ref (y 7), .ref (y 8), .ref (y 9), .int (nI m_coats), .ref (y 10), .ref (y 11), .ref (y 12), .ref (y 13), .int m_years, .int (nI m_legacies), .ref (y 14), .ref (y 15), .ref (y 16), .ref (y 17), .int m_end, .int m_next, .int m_kind, .int m_which, .int m_place, .int m_read, .ref (y 18), .ref (y 19), .int m_readMany, .int m_readHigh, .ref (y 20), .int (nI m_insideMany), .ref (y 21), .ref (y 22), .ref (y 23), .ref (y 24), .ref (y 25)])), ((y 2), .inl (cI, 16, .inl m_cycle)), ((y 3), .inl (cI, 8, .inl m_gave)), ((y 4), .inl (cI, 8, .inl m_supports)), ((y 5), .inl (cI, 16, .inl m_age)), ((y 6), .inl (cI, 16, .inl m_want)), ((y 9), .inl (cI, 16, .inl m_state))] sz) := by
  refine Met.ofW (cc := cX8_comes) (maxL := 4) (ret := (some .int)) (by decide) rfl ?_
  intro p e s m args below meth c s₁ B hml hv
  obtain ⟨rfl, hsz, hP, hK, hD0⟩ := hv
  have hx := B.exec
  have hb := B.bytes
  have hr := B.returns
  have hts := atoms_spec (ws := wsX8_comes) B.pre
  have hown : s.vm.findClass RX8 = some m.cls := findClass_of_methodNamed B.named
  have hlocks := B.notSynchronized
  subst hsz
  have hD := hD0.self (sz := s.heap.size)
  generalize hAe : va_A [((y 0), .inr (8, [.ref (y 1), .int (nI m_tapeSize), .int m_thrown, .ref (y 2), .int m_cycleMany, .int m_vote, .int m_low, .int m_high, .int m_wear, .int m_spare, .int m_places, .int m_cycleNext, .int m_fault, .int m_faultPlace, .int (nI m_givers), .ref (y 3), .ref (y 4), .int m_giverNext, .int (nI m_children), .ref (y 5), .ref (y 6), .ref (y 7), .ref (y 8), .ref (y 9), .int (nI m_coats), .ref (y 10), .ref (y 11), .ref (y 12), .ref (y 13), .int m_years, .int (nI m_legacies), .ref (y 14), .ref (y 15), .ref (y 16), .ref (y 17), .int m_end, .int m_next, .int m_kind, .int m_which, .int m_place, .int m_read, .ref (y 18), .ref (y 19), .int m_readMany, .int m_readHigh, .ref (y 20), .int (nI m_insideMany), .ref (y 21), .ref (y 22), .ref (y 23), .ref (y 24), .ref (y 25)])), ((y 2), .inl (cI, 16, .inl m_cycle)), ((y 3), .inl (cI, 8, .inl m_gave)), ((y 4), .inl (cI, 8, .inl m_supports)), ((y 5), .inl (cI, 16, .inl m_age)), ((y 6), .inl (cI, 16, .inl m_want)), ((y 9), .inl (cI, 16, .inl m_state))] s.heap.size = A at hD ⊢
  have hA : ∀ q : Nat, s.heap.size ≤ q → A q := fun q h => by rw [← hAe]; exact Or.inr h
  have hS : va_S A s.heap s.heap [] := va_S.rf
  have hP : va_P D vwCl [((y 0), .inr (8, [.ref (y 1), .int (nI m_tapeSize), .int m_thrown, .ref (y 2), .int m_cycleMany, .int m_vote, .int m_low, .int m_high, .int m_wear, .int m_spare, .int m_places, .int m_cycleNext, .int m_fault, .int m_faultPlace, .int (nI m_givers), .ref (y 3), .ref (y 4), .int m_giverNext, .int (nI m_children), .ref (y 5), .ref (y 6), .ref (y 7), .ref (y 8), .ref (y 9), .int (nI m_coats), .ref (y 10), .ref (y 11), .ref (y 12), .ref (y 13), .int m_years, .int (nI m_legacies), .ref (y 14), .ref (y 15), .ref (y 16), .ref (y 17), .int m_end, .int m_next, .int m_kind, .int m_which, .int m_place, .int m_read, .ref (y 18), .ref (y 19), .int m_readMany, .int m_readHigh, .ref (y 20), .int (nI m_insideMany), .ref (y 21), .ref (y 22), .ref (y 23), .ref (y 24), .ref (y 25)])), ((y 2), .inl (cI, 16, .inl m_cycle)), ((y 3), .inl (cI, 8, .inl m_gave)), ((y 4), .inl (cI, 8, .inl m_supports)), ((y 5), .inl (cI, 16, .inl m_age)), ((y 6), .inl (cI, 16, .inl m_want)), ((y 9), .inl (cI, 16, .inl m_state))] s.heap := hP
  have w_1 : ∀ w ∈ wsX80, w ∈ wsX8_comes := by decide +kernel
  have w_2 := hts (Cond.fieldLink RX8 13 "BlueCoatsModel" "cycle" "[I") (by decide +kernel)
  have w_3 := hts (Cond.fieldLink RX8 174 "BlueCoatsModel" "cycleNext" "I") (by decide +kernel)
  have w_4 := hts (Cond.fieldLink RX8 180 "BlueCoatsModel" "children" "I") (by decide +kernel)
  have w_5 := hts (Cond.fieldLink RX8 177 "BlueCoatsModel" "givers" "I") (by decide +kernel)
  have w_6 := hts (Cond.fieldLink RX8 190 "BlueCoatsModel" "giverNext" "I") (by decide +kernel)
  have w_7 := hts (Cond.fieldLink RX8 44 "BlueCoatsModel" "supports" "[I") (by decide +kernel)
  have hl := lv_entry ([.ref (y 0)]) (n := 4) (Nat.le_of_ble_eq_true rfl)
  rw [lg_entry_eq]
  generalize (lg_sl ([.ref (y 0)]) ++ List.replicate (4 - (lg_sl ([.ref (y 0)])).length) Slot.unset).toArray = ls at hl ⊢
  have hl : lv_has ls 4 [(0, .ref (y 0))] := hl
  generalize hQ : MQ below _ _ s _ _ _ = Q0
  refine lv_aload_n hx hb dX8_comes_0 rfl (lv_at hl 0 rfl) ?_
  refine va_get (D := D) (ci := 8) (v := .ref (y 2)) (C := RX8) (T := TX8) (N := 52) hx hb hts w_1 hown hK hP 0 rfl rfl 3 (by decide) w_2 (fun _ h9 => h9) rfl dX8_comes_1 ?_
  refine lv_aload_n hx hb dX8_comes_4 rfl (lv_at hl 0 rfl) ?_
  refine va_get (D := D) (ci := 8) (v := .int m_cycleNext) (C := RX8) (T := TX8) (N := 52) hx hb hts w_1 hown hK hP 0 rfl rfl 11 (by decide) w_3 (fun _ h9 => h9) rfl dX8_comes_5 ?_
  refine sv_iald (v := m_cycle m_cycleNext.toNatClampNeg) hx hb hK hP 1 1 rfl rfl (in_up hcn (by decide)) rfl dX8_comes_8 ?_
  refine lv_topi (fun v_1 ev_1 => ?_)
  refine lv_istore_n (lv' := [(1, .int v_1), (0, .ref (y 0))]) hx hb dX8_comes_9 rfl hl (by decide) rfl (fun ls hl => ?_)
  refine lv_iload_n hx hb dX8_comes_10 rfl (lv_at hl 0 rfl) ?_
  refine lv_if_ne (tgt := 79) hx hb dX8_comes_11 (by decide) (fun c_11 => ?_) (fun c_11 => ?_)
  ·
    refine lv_iconst (v := (-1)) hx hb dX8_comes_79 (by decide) ?_
    refine lv_istore_n (lv' := [(2, .int (-1)), (1, .int v_1), (0, .ref (y 0))]) hx hb dX8_comes_80 rfl hl (by decide) rfl (fun ls hl => ?_)
    refine lv_iconst (v := 0) hx hb dX8_comes_81 (by decide) ?_
    refine lv_istore_n (lv' := [(3, .int 0), (2, .int (-1)), (1, .int v_1), (0, .ref (y 0))]) hx hb dX8_comes_82 rfl hl (by decide) rfl (fun ls hl => ?_)
    have L_2 : ∀ (n : Nat) (i_83 : Int32) (l_2_83 : Int32) (H : Heap) (locs : List Loc) (ls : Array Slot), (Int32.toInt (nI m_children) - i_83.toInt).toNat < n → 0 ≤ i_83.toInt → (l_2_83 = -1 ∨ vp_in l_2_83 16) → va_P D vwCl [((y 0), .inr (8, [.ref (y 1), .int (nI m_tapeSize), .int m_thrown, .ref (y 2), .int m_cycleMany, .int m_vote, .int m_low, .int m_high, .int m_wear, .int m_spare, .int m_places, .int m_cycleNext, .int m_fault, .int m_faultPlace, .int (nI m_givers), .ref (y 3), .ref (y 4), .int m_giverNext, .int (nI m_children), .ref (y 5), .ref (y 6), .ref (y 7), .ref (y 8), .ref (y 9), .int (nI m_coats), .ref (y 10), .ref (y 11), .ref (y 12), .ref (y 13), .int m_years, .int (nI m_legacies), .ref (y 14), .ref (y 15), .ref (y 16), .ref (y 17), .int m_end, .int m_next, .int m_kind, .int m_which, .int m_place, .int m_read, .ref (y 18), .ref (y 19), .int m_readMany, .int m_readHigh, .ref (y 20), .int (nI m_insideMany), .ref (y 21), .ref (y 22), .ref (y 23), .ref (y 24), .ref (y 25)])), ((y 2), .inl (cI, 16, .inl m_cycle)), ((y 3), .inl (cI, 8, .inl m_gave)), ((y 4), .inl (cI, 8, .inl m_supports)), ((y 5), .inl (cI, 16, .inl m_age)), ((y 6), .inl (cI, 16, .inl m_want)), ((y 9), .inl (cI, 16, .inl m_state))] H → va_D A [((y 0), .inr (8, [.ref (y 1), .int (nI m_tapeSize), .int m_thrown, .ref (y 2), .int m_cycleMany, .int m_vote, .int m_low, .int m_high, .int m_wear, .int m_spare, .int m_places, .int m_cycleNext, .int m_fault, .int m_faultPlace, .int (nI m_givers), .ref (y 3), .ref (y 4), .int m_giverNext, .int (nI m_children), .ref (y 5), .ref (y 6), .ref (y 7), .ref (y 8), .ref (y 9), .int (nI m_coats), .ref (y 10), .ref (y 11), .ref (y 12), .ref (y 13), .int m_years, .int (nI m_legacies), .ref (y 14), .ref (y 15), .ref (y 16), .ref (y 17), .int m_end, .int m_next, .int m_kind, .int m_which, .int m_place, .int m_read, .ref (y 18), .ref (y 19), .int m_readMany, .int m_readHigh, .ref (y 20), .int (nI m_insideMany), .ref (y 21), .ref (y 22), .ref (y 23), .ref (y 24), .ref (y 25)])), ((y 2), .inl (cI, 16, .inl m_cycle)), ((y 3), .inl (cI, 8, .inl m_gave)), ((y 4), .inl (cI, 8, .inl m_supports)), ((y 5), .inl (cI, 16, .inl m_age)), ((y 6), .inl (cI, 16, .inl m_want)), ((y 9), .inl (cI, 16, .inl m_state))] → va_S A s.heap H locs → lv_has ls 4 [(0, .ref (y 0)), (1, .int v_1), (2, .int l_2_83), (3, .int i_83)] → W p l e (headSpec wsX8_comes ({ frames := 2, cells := 0, slots := 0, locals := 46 } : Room)).room s m ([.ref (y 0)] : List Value).toArray below meth c H locs 0 0 Q0 (F0 m 83 ls []) := by
      intro n
      induction n with
      | zero => intro i_83 l_2_83 H locs ls hn_83 hlo_83 hv_83 hP hD hS hl; exact absurd hn_83 (Nat.not_lt_zero _)
      | succ n ih_L_2 =>
        intro i_83 l_2_83 H locs ls hn_83 hlo_83 hv_83 hP hD hS hl
        refine lv_iload_n hx hb dX8_comes_83 rfl (lv_at hl 3 rfl) ?_
        refine lv_aload_n hx hb dX8_comes_84 rfl (lv_at hl 0 rfl) ?_
        refine va_get (D := D) (ci := 8) (v := .int (nI m_children)) (C := RX8) (T := TX8) (N := 52) hx hb hts w_1 hown hK hP 0 rfl rfl 18 (by decide) w_4 (fun _ h9 => h9) rfl dX8_comes_85 ?_
        refine lv_icmp_ge (tgt := 146) hx hb dX8_comes_88 (by decide) (fun c_88 => ?_) (fun c_88 => ?_)
        ·
          refine lv_iload_n hx hb dX8_comes_146 rfl (lv_at hl 2 rfl) ?_
          rw [← hQ]
          have hP9 := hP.sub (ws' := [((y 0), .inr (8, [.ref (y 1), .int (nI m_tapeSize), .int m_thrown, .ref (y 2), .int m_cycleMany, .int m_vote, .int m_low, .int m_high, .int m_wear, .int m_spare, .int m_places, .int m_cycleNext, .int m_fault, .int m_faultPlace, .int (nI m_givers), .ref (y 3), .ref (y 4), .int m_giverNext, .int (nI m_children), .ref (y 5), .ref (y 6), .ref (y 7), .ref (y 8), .ref (y 9), .int (nI m_coats), .ref (y 10), .ref (y 11), .ref (y 12), .ref (y 13), .int m_years, .int (nI m_legacies), .ref (y 14), .ref (y 15), .ref (y 16), .ref (y 17), .int m_end, .int m_next, .int m_kind, .int m_which, .int m_place, .int m_read, .ref (y 18), .ref (y 19), .int m_readMany, .int m_readHigh, .ref (y 20), .int (nI m_insideMany), .ref (y 21), .ref (y 22), .ref (y 23), .ref (y 24), .ref (y 25)])), ((y 2), .inl (cI, 16, .inl m_cycle)), ((y 3), .inl (cI, 8, .inl m_gave)), ((y 4), .inl (cI, 8, .inl m_supports)), ((y 5), .inl (cI, 16, .inl m_age)), ((y 6), .inl (cI, 16, .inl m_want)), ((y 9), .inl (cI, 16, .inl m_state))]) [0, 1, 2, 3, 4, 5, 6] rfl
          have hD9 := hD.sub (ws' := [((y 0), .inr (8, [.ref (y 1), .int (nI m_tapeSize), .int m_thrown, .ref (y 2), .int m_cycleMany, .int m_vote, .int m_low, .int m_high, .int m_wear, .int m_spare, .int m_places, .int m_cycleNext, .int m_fault, .int m_faultPlace, .int (nI m_givers), .ref (y 3), .ref (y 4), .int m_giverNext, .int (nI m_children), .ref (y 5), .ref (y 6), .ref (y 7), .ref (y 8), .ref (y 9), .int (nI m_coats), .ref (y 10), .ref (y 11), .ref (y 12), .ref (y 13), .int m_years, .int (nI m_legacies), .ref (y 14), .ref (y 15), .ref (y 16), .ref (y 17), .int m_end, .int m_next, .int m_kind, .int m_which, .int m_place, .int m_read, .ref (y 18), .ref (y 19), .int m_readMany, .int m_readHigh, .ref (y 20), .int (nI m_insideMany), .ref (y 21), .ref (y 22), .ref (y 23), .ref (y 24), .ref (y 25)])), ((y 2), .inl (cI, 16, .inl m_cycle)), ((y 3), .inl (cI, 8, .inl m_gave)), ((y 4), .inl (cI, 8, .inl m_supports)), ((y 5), .inl (cI, 16, .inl m_age)), ((y 6), .inl (cI, 16, .inl m_want)), ((y 9), .inl (cI, 16, .inl m_state))]) [0, 1, 2, 3, 4, 5, 6] (by decide) rfl
          exact W.iret (v := l_2_83) hx hb hr (fun t ht hW => ⟨⟨_, (m_giverNext : Int32), rfl, ⟨hgn, hv_83⟩, by rw [ht]; exact hP9, va_K.moved hW.alike hK, hD9⟩, hS.F ht⟩) hS.2.2 dX8_comes_147
        ·
          refine lv_aload_n hx hb dX8_comes_91 rfl (lv_at hl 0 rfl) ?_
          refine lv_iload_n hx hb dX8_comes_92 rfl (lv_at hl 3 rfl) ?_
          refine vp_callSi (va_Run.run (va_runV (As := [.int i_83]) (rest := []) ⟨hx, hb, hml, hown, hts⟩ (n_X8_mayCome l D cB cI cJ cZ y m_tapeSize m_givers m_children m_coats m_legacies m_insideMany m_thrown m_cycleMany m_vote m_low m_high m_wear m_spare m_places m_cycleNext m_fault m_faultPlace m_giverNext m_years m_end m_next m_kind m_which m_place m_read m_readMany m_readHigh m_age m_state i_83 (fun _ => (lp_inN hlo_83 c_88 b_children (by decide)))) (cwV 1 hts gX8_comes_X8_mayCome rfl rfl rfl (by decide +kernel) ⟨Nat.le_of_ble_eq_true rfl, Nat.le_of_ble_eq_true rfl⟩) (pre_VR (hP.sub (ws' := [((y 0), .inr (8, [.ref (y 1), .int (nI m_tapeSize), .int m_thrown, .ref (y 2), .int m_cycleMany, .int m_vote, .int m_low, .int m_high, .int m_wear, .int m_spare, .int m_places, .int m_cycleNext, .int m_fault, .int m_faultPlace, .int (nI m_givers), .ref (y 3), .ref (y 4), .int m_giverNext, .int (nI m_children), .ref (y 5), .ref (y 6), .ref (y 7), .ref (y 8), .ref (y 9), .int (nI m_coats), .ref (y 10), .ref (y 11), .ref (y 12), .ref (y 13), .int m_years, .int (nI m_legacies), .ref (y 14), .ref (y 15), .ref (y 16), .ref (y 17), .int m_end, .int m_next, .int m_kind, .int m_which, .int m_place, .int m_read, .ref (y 18), .ref (y 19), .int m_readMany, .int m_readHigh, .ref (y 20), .int (nI m_insideMany), .ref (y 21), .ref (y 22), .ref (y 23), .ref (y 24), .ref (y 25)])), ((y 5), .inl (cI, 16, .inl m_age)), ((y 9), .inl (cI, 16, .inl m_state))]) [0, 4, 6] rfl) hK 0 rfl rfl rfl) rfl rfl hl.1 rfl (lv_room (Nat.le_of_ble_eq_true rfl)) dX8_comes_93 ⟨Nat.le_of_ble_eq_true rfl, Nat.le_of_ble_eq_true rfl⟩)) (fun r_3 hw_r_3 => ?_)
          refine lv_if_eq (tgt := 140) hx hb dX8_comes_96 (by decide) (fun c_96 => ?_) (fun c_96 => ?_)
          ·
            refine lv_iinc (v := i_83 + 1) (lv' := [(3, .int (i_83 + 1)), (0, .ref (y 0)), (1, .int v_1), (2, .int l_2_83)]) hx hb dX8_comes_140 hl (k := 3) rfl rfl (by decide) rfl (fun ls hl => ?_)
            refine lv_goto (tgt := 83) hx hb dX8_comes_143 (by decide) ?_
            exact ih_L_2 (i_83 + 1) l_2_83 _ _ ls (lp_dec hn_83 c_88) (by have h9 := lp_inc c_88; omega) hv_83 hP hD hS (lv_sub hl [1, 2, 3, 0] rfl)
          ·
            refine lv_iload_n hx hb dX8_comes_99 rfl (lv_at hl 1 rfl) ?_
            refine lv_iconst (v := 1) hx hb dX8_comes_100 (by decide) ?_
            refine lv_icmp_ne (tgt := 115) hx hb dX8_comes_101 (by decide) (fun c_101 => ?_) (fun c_101 => ?_)
            ·
              refine lv_iload_n hx hb dX8_comes_115 rfl (lv_at hl 2 rfl) ?_
              refine lv_if_lt (tgt := 138) hx hb dX8_comes_116 (by decide) (fun c_116 => ?_) (fun c_116 => ?_)
              ·
                refine lv_iload_n hx hb dX8_comes_138 rfl (lv_at hl 3 rfl) ?_
                refine lv_istore_n (lv' := [(2, .int i_83), (0, .ref (y 0)), (1, .int v_1), (3, .int i_83)]) hx hb dX8_comes_139 rfl hl (by decide) rfl (fun ls hl => ?_)
                refine lv_iinc (v := i_83 + 1) (lv' := [(3, .int (i_83 + 1)), (2, .int i_83), (0, .ref (y 0)), (1, .int v_1)]) hx hb dX8_comes_140 hl (k := 3) rfl rfl (by decide) rfl (fun ls hl => ?_)
                refine lv_goto (tgt := 83) hx hb dX8_comes_143 (by decide) ?_
                exact ih_L_2 (i_83 + 1) i_83 _ _ ls (lp_dec hn_83 c_88) (by have h9 := lp_inc c_88; omega) (Or.inr (lp_inN hlo_83 c_88 b_children (by decide))) hP hD hS (lv_sub hl [2, 3, 1, 0] rfl)
              ·
                refine lv_aload_n hx hb dX8_comes_119 rfl (lv_at hl 0 rfl) ?_
                refine lv_iload_n hx hb dX8_comes_120 rfl (lv_at hl 3 rfl) ?_
                refine lv_iload_n hx hb dX8_comes_121 rfl (lv_at hl 2 rfl) ?_
                refine lv_iload_n hx hb dX8_comes_122 rfl (lv_at hl 1 rfl) ?_
                refine lv_iconst (v := 1) hx hb dX8_comes_123 (by decide) ?_
                refine lv_icmp_ne (tgt := 131) hx hb dX8_comes_124 (by decide) (fun c_124 => ?_) (fun c_124 => ?_)
                ·
                  refine lv_iconst (v := 0) hx hb dX8_comes_131 (by decide) ?_
                  refine vp_callSi (va_Run.run (va_runV (As := [.int i_83, .int l_2_83, .int 0]) (rest := []) ⟨hx, hb, hml, hown, hts⟩ (n_X8_isAhead l D cB cI cJ cZ y m_tapeSize m_givers m_children m_coats m_legacies m_insideMany m_thrown m_cycleMany m_vote m_low m_high m_wear m_spare m_places m_cycleNext m_fault m_faultPlace m_giverNext m_years m_end m_next m_kind m_which m_place m_read m_readMany m_readHigh m_gave m_supports m_want i_83 l_2_83 0 b_givers hvt (lp_inN hlo_83 c_88 b_children (by decide)) (best_in hv_83 c_116)) (cwV 3 hts gX8_comes_X8_isAhead rfl rfl rfl (by decide +kernel) ⟨Nat.le_of_ble_eq_true rfl, Nat.le_of_ble_eq_true rfl⟩) (pre_VR (hP.sub (ws' := [((y 0), .inr (8, [.ref (y 1), .int (nI m_tapeSize), .int m_thrown, .ref (y 2), .int m_cycleMany, .int m_vote, .int m_low, .int m_high, .int m_wear, .int m_spare, .int m_places, .int m_cycleNext, .int m_fault, .int m_faultPlace, .int (nI m_givers), .ref (y 3), .ref (y 4), .int m_giverNext, .int (nI m_children), .ref (y 5), .ref (y 6), .ref (y 7), .ref (y 8), .ref (y 9), .int (nI m_coats), .ref (y 10), .ref (y 11), .ref (y 12), .ref (y 13), .int m_years, .int (nI m_legacies), .ref (y 14), .ref (y 15), .ref (y 16), .ref (y 17), .int m_end, .int m_next, .int m_kind, .int m_which, .int m_place, .int m_read, .ref (y 18), .ref (y 19), .int m_readMany, .int m_readHigh, .ref (y 20), .int (nI m_insideMany), .ref (y 21), .ref (y 22), .ref (y 23), .ref (y 24), .ref (y 25)])), ((y 3), .inl (cI, 8, .inl m_gave)), ((y 4), .inl (cI, 8, .inl m_supports)), ((y 6), .inl (cI, 16, .inl m_want))]) [0, 2, 3, 5] rfl) hK 0 rfl rfl rfl) rfl rfl hl.1 rfl (lv_room (Nat.le_of_ble_eq_true rfl)) dX8_comes_132 ⟨Nat.le_of_ble_eq_true rfl, Nat.le_of_ble_eq_true rfl⟩)) (fun r_4 hw_r_4 => ?_)
                  refine lv_if_eq (tgt := 140) hx hb dX8_comes_135 (by decide) (fun c_135 => ?_) (fun c_135 => ?_)
                  ·
                    refine lv_iinc (v := i_83 + 1) (lv' := [(3, .int (i_83 + 1)), (0, .ref (y 0)), (1, .int v_1), (2, .int l_2_83)]) hx hb dX8_comes_140 hl (k := 3) rfl rfl (by decide) rfl (fun ls hl => ?_)
                    refine lv_goto (tgt := 83) hx hb dX8_comes_143 (by decide) ?_
                    exact ih_L_2 (i_83 + 1) l_2_83 _ _ ls (lp_dec hn_83 c_88) (by have h9 := lp_inc c_88; omega) hv_83 hP hD hS (lv_sub hl [1, 2, 3, 0] rfl)
                  ·
                    refine lv_iload_n hx hb dX8_comes_138 rfl (lv_at hl 3 rfl) ?_
                    refine lv_istore_n (lv' := [(2, .int i_83), (0, .ref (y 0)), (1, .int v_1), (3, .int i_83)]) hx hb dX8_comes_139 rfl hl (by decide) rfl (fun ls hl => ?_)
                    refine lv_iinc (v := i_83 + 1) (lv' := [(3, .int (i_83 + 1)), (2, .int i_83), (0, .ref (y 0)), (1, .int v_1)]) hx hb dX8_comes_140 hl (k := 3) rfl rfl (by decide) rfl (fun ls hl => ?_)
                    refine lv_goto (tgt := 83) hx hb dX8_comes_143 (by decide) ?_
                    exact ih_L_2 (i_83 + 1) i_83 _ _ ls (lp_dec hn_83 c_88) (by have h9 := lp_inc c_88; omega) (Or.inr (lp_inN hlo_83 c_88 b_children (by decide))) hP hD hS (lv_sub hl [2, 3, 1, 0] rfl)
                ·
                  refine lv_iconst (v := 1) hx hb dX8_comes_127 (by decide) ?_
                  refine lv_goto (tgt := 132) hx hb dX8_comes_128 (by decide) ?_
                  refine vp_callSi (va_Run.run (va_runV (As := [.int i_83, .int l_2_83, .int 1]) (rest := []) ⟨hx, hb, hml, hown, hts⟩ (n_X8_isAhead l D cB cI cJ cZ y m_tapeSize m_givers m_children m_coats m_legacies m_insideMany m_thrown m_cycleMany m_vote m_low m_high m_wear m_spare m_places m_cycleNext m_fault m_faultPlace m_giverNext m_years m_end m_next m_kind m_which m_place m_read m_readMany m_readHigh m_gave m_supports m_want i_83 l_2_83 1 b_givers hvt (lp_inN hlo_83 c_88 b_children (by decide)) (best_in hv_83 c_116)) (cwV 3 hts gX8_comes_X8_isAhead rfl rfl rfl (by decide +kernel) ⟨Nat.le_of_ble_eq_true rfl, Nat.le_of_ble_eq_true rfl⟩) (pre_VR (hP.sub (ws' := [((y 0), .inr (8, [.ref (y 1), .int (nI m_tapeSize), .int m_thrown, .ref (y 2), .int m_cycleMany, .int m_vote, .int m_low, .int m_high, .int m_wear, .int m_spare, .int m_places, .int m_cycleNext, .int m_fault, .int m_faultPlace, .int (nI m_givers), .ref (y 3), .ref (y 4), .int m_giverNext, .int (nI m_children), .ref (y 5), .ref (y 6), .ref (y 7), .ref (y 8), .ref (y 9), .int (nI m_coats), .ref (y 10), .ref (y 11), .ref (y 12), .ref (y 13), .int m_years, .int (nI m_legacies), .ref (y 14), .ref (y 15), .ref (y 16), .ref (y 17), .int m_end, .int m_next, .int m_kind, .int m_which, .int m_place, .int m_read, .ref (y 18), .ref (y 19), .int m_readMany, .int m_readHigh, .ref (y 20), .int (nI m_insideMany), .ref (y 21), .ref (y 22), .ref (y 23), .ref (y 24), .ref (y 25)])), ((y 3), .inl (cI, 8, .inl m_gave)), ((y 4), .inl (cI, 8, .inl m_supports)), ((y 6), .inl (cI, 16, .inl m_want))]) [0, 2, 3, 5] rfl) hK 0 rfl rfl rfl) rfl rfl hl.1 rfl (lv_room (Nat.le_of_ble_eq_true rfl)) dX8_comes_132 ⟨Nat.le_of_ble_eq_true rfl, Nat.le_of_ble_eq_true rfl⟩)) (fun r_5 hw_r_5 => ?_)
                  refine lv_if_eq (tgt := 140) hx hb dX8_comes_135 (by decide) (fun c_135 => ?_) (fun c_135 => ?_)
                  ·
                    refine lv_iinc (v := i_83 + 1) (lv' := [(3, .int (i_83 + 1)), (0, .ref (y 0)), (1, .int v_1), (2, .int l_2_83)]) hx hb dX8_comes_140 hl (k := 3) rfl rfl (by decide) rfl (fun ls hl => ?_)
                    refine lv_goto (tgt := 83) hx hb dX8_comes_143 (by decide) ?_
                    exact ih_L_2 (i_83 + 1) l_2_83 _ _ ls (lp_dec hn_83 c_88) (by have h9 := lp_inc c_88; omega) hv_83 hP hD hS (lv_sub hl [1, 2, 3, 0] rfl)
                  ·
                    refine lv_iload_n hx hb dX8_comes_138 rfl (lv_at hl 3 rfl) ?_
                    refine lv_istore_n (lv' := [(2, .int i_83), (0, .ref (y 0)), (1, .int v_1), (3, .int i_83)]) hx hb dX8_comes_139 rfl hl (by decide) rfl (fun ls hl => ?_)
                    refine lv_iinc (v := i_83 + 1) (lv' := [(3, .int (i_83 + 1)), (2, .int i_83), (0, .ref (y 0)), (1, .int v_1)]) hx hb dX8_comes_140 hl (k := 3) rfl rfl (by decide) rfl (fun ls hl => ?_)
                    refine lv_goto (tgt := 83) hx hb dX8_comes_143 (by decide) ?_
                    exact ih_L_2 (i_83 + 1) i_83 _ _ ls (lp_dec hn_83 c_88) (by have h9 := lp_inc c_88; omega) (Or.inr (lp_inN hlo_83 c_88 b_children (by decide))) hP hD hS (lv_sub hl [2, 3, 1, 0] rfl)
            ·
              refine lv_aload_n hx hb dX8_comes_104 rfl (lv_at hl 0 rfl) ?_
              refine lv_iload_n hx hb dX8_comes_105 rfl (lv_at hl 3 rfl) ?_
              refine vp_callSi (va_Run.run (va_runV (As := [.int i_83]) (rest := []) ⟨hx, hb, hml, hown, hts⟩ (n_X8_votes l D cB cI cJ cZ y m_tapeSize m_givers m_children m_coats m_legacies m_insideMany m_thrown m_cycleMany m_vote m_low m_high m_wear m_spare m_places m_cycleNext m_fault m_faultPlace m_giverNext m_years m_end m_next m_kind m_which m_place m_read m_readMany m_readHigh m_gave m_supports i_83 b_givers hvt) (cwV 1 hts gX8_comes_X8_votes rfl rfl rfl (by decide +kernel) ⟨Nat.le_of_ble_eq_true rfl, Nat.le_of_ble_eq_true rfl⟩) (pre_VR (hP.sub (ws' := [((y 0), .inr (8, [.ref (y 1), .int (nI m_tapeSize), .int m_thrown, .ref (y 2), .int m_cycleMany, .int m_vote, .int m_low, .int m_high, .int m_wear, .int m_spare, .int m_places, .int m_cycleNext, .int m_fault, .int m_faultPlace, .int (nI m_givers), .ref (y 3), .ref (y 4), .int m_giverNext, .int (nI m_children), .ref (y 5), .ref (y 6), .ref (y 7), .ref (y 8), .ref (y 9), .int (nI m_coats), .ref (y 10), .ref (y 11), .ref (y 12), .ref (y 13), .int m_years, .int (nI m_legacies), .ref (y 14), .ref (y 15), .ref (y 16), .ref (y 17), .int m_end, .int m_next, .int m_kind, .int m_which, .int m_place, .int m_read, .ref (y 18), .ref (y 19), .int m_readMany, .int m_readHigh, .ref (y 20), .int (nI m_insideMany), .ref (y 21), .ref (y 22), .ref (y 23), .ref (y 24), .ref (y 25)])), ((y 3), .inl (cI, 8, .inl m_gave)), ((y 4), .inl (cI, 8, .inl m_supports))]) [0, 2, 3] rfl) hK 0 rfl rfl rfl) rfl rfl hl.1 rfl (lv_room (Nat.le_of_ble_eq_true rfl)) dX8_comes_106 ⟨Nat.le_of_ble_eq_true rfl, Nat.le_of_ble_eq_true rfl⟩)) (fun r_6 hw_r_6 => ?_)
              refine lv_if_ne (tgt := 115) hx hb dX8_comes_109 (by decide) (fun c_109 => ?_) (fun c_109 => ?_)
              ·
                refine lv_iload_n hx hb dX8_comes_115 rfl (lv_at hl 2 rfl) ?_
                refine lv_if_lt (tgt := 138) hx hb dX8_comes_116 (by decide) (fun c_116 => ?_) (fun c_116 => ?_)
                ·
                  refine lv_iload_n hx hb dX8_comes_138 rfl (lv_at hl 3 rfl) ?_
                  refine lv_istore_n (lv' := [(2, .int i_83), (0, .ref (y 0)), (1, .int v_1), (3, .int i_83)]) hx hb dX8_comes_139 rfl hl (by decide) rfl (fun ls hl => ?_)
                  refine lv_iinc (v := i_83 + 1) (lv' := [(3, .int (i_83 + 1)), (2, .int i_83), (0, .ref (y 0)), (1, .int v_1)]) hx hb dX8_comes_140 hl (k := 3) rfl rfl (by decide) rfl (fun ls hl => ?_)
                  refine lv_goto (tgt := 83) hx hb dX8_comes_143 (by decide) ?_
                  exact ih_L_2 (i_83 + 1) i_83 _ _ ls (lp_dec hn_83 c_88) (by have h9 := lp_inc c_88; omega) (Or.inr (lp_inN hlo_83 c_88 b_children (by decide))) hP hD hS (lv_sub hl [2, 3, 1, 0] rfl)
                ·
                  refine lv_aload_n hx hb dX8_comes_119 rfl (lv_at hl 0 rfl) ?_
                  refine lv_iload_n hx hb dX8_comes_120 rfl (lv_at hl 3 rfl) ?_
                  refine lv_iload_n hx hb dX8_comes_121 rfl (lv_at hl 2 rfl) ?_
                  refine lv_iload_n hx hb dX8_comes_122 rfl (lv_at hl 1 rfl) ?_
                  refine lv_iconst (v := 1) hx hb dX8_comes_123 (by decide) ?_
                  refine lv_icmp_ne (tgt := 131) hx hb dX8_comes_124 (by decide) (fun c_124 => ?_) (fun c_124 => ?_)
                  ·
                    refine lv_iconst (v := 0) hx hb dX8_comes_131 (by decide) ?_
                    refine vp_callSi (va_Run.run (va_runV (As := [.int i_83, .int l_2_83, .int 0]) (rest := []) ⟨hx, hb, hml, hown, hts⟩ (n_X8_isAhead l D cB cI cJ cZ y m_tapeSize m_givers m_children m_coats m_legacies m_insideMany m_thrown m_cycleMany m_vote m_low m_high m_wear m_spare m_places m_cycleNext m_fault m_faultPlace m_giverNext m_years m_end m_next m_kind m_which m_place m_read m_readMany m_readHigh m_gave m_supports m_want i_83 l_2_83 0 b_givers hvt (lp_inN hlo_83 c_88 b_children (by decide)) (best_in hv_83 c_116)) (cwV 3 hts gX8_comes_X8_isAhead rfl rfl rfl (by decide +kernel) ⟨Nat.le_of_ble_eq_true rfl, Nat.le_of_ble_eq_true rfl⟩) (pre_VR (hP.sub (ws' := [((y 0), .inr (8, [.ref (y 1), .int (nI m_tapeSize), .int m_thrown, .ref (y 2), .int m_cycleMany, .int m_vote, .int m_low, .int m_high, .int m_wear, .int m_spare, .int m_places, .int m_cycleNext, .int m_fault, .int m_faultPlace, .int (nI m_givers), .ref (y 3), .ref (y 4), .int m_giverNext, .int (nI m_children), .ref (y 5), .ref (y 6), .ref (y 7), .ref (y 8), .ref (y 9), .int (nI m_coats), .ref (y 10), .ref (y 11), .ref (y 12), .ref (y 13), .int m_years, .int (nI m_legacies), .ref (y 14), .ref (y 15), .ref (y 16), .ref (y 17), .int m_end, .int m_next, .int m_kind, .int m_which, .int m_place, .int m_read, .ref (y 18), .ref (y 19), .int m_readMany, .int m_readHigh, .ref (y 20), .int (nI m_insideMany), .ref (y 21), .ref (y 22), .ref (y 23), .ref (y 24), .ref (y 25)])), ((y 3), .inl (cI, 8, .inl m_gave)), ((y 4), .inl (cI, 8, .inl m_supports)), ((y 6), .inl (cI, 16, .inl m_want))]) [0, 2, 3, 5] rfl) hK 0 rfl rfl rfl) rfl rfl hl.1 rfl (lv_room (Nat.le_of_ble_eq_true rfl)) dX8_comes_132 ⟨Nat.le_of_ble_eq_true rfl, Nat.le_of_ble_eq_true rfl⟩)) (fun r_7 hw_r_7 => ?_)
                    refine lv_if_eq (tgt := 140) hx hb dX8_comes_135 (by decide) (fun c_135 => ?_) (fun c_135 => ?_)
                    ·
                      refine lv_iinc (v := i_83 + 1) (lv' := [(3, .int (i_83 + 1)), (0, .ref (y 0)), (1, .int v_1), (2, .int l_2_83)]) hx hb dX8_comes_140 hl (k := 3) rfl rfl (by decide) rfl (fun ls hl => ?_)
                      refine lv_goto (tgt := 83) hx hb dX8_comes_143 (by decide) ?_
                      exact ih_L_2 (i_83 + 1) l_2_83 _ _ ls (lp_dec hn_83 c_88) (by have h9 := lp_inc c_88; omega) hv_83 hP hD hS (lv_sub hl [1, 2, 3, 0] rfl)
                    ·
                      refine lv_iload_n hx hb dX8_comes_138 rfl (lv_at hl 3 rfl) ?_
                      refine lv_istore_n (lv' := [(2, .int i_83), (0, .ref (y 0)), (1, .int v_1), (3, .int i_83)]) hx hb dX8_comes_139 rfl hl (by decide) rfl (fun ls hl => ?_)
                      refine lv_iinc (v := i_83 + 1) (lv' := [(3, .int (i_83 + 1)), (2, .int i_83), (0, .ref (y 0)), (1, .int v_1)]) hx hb dX8_comes_140 hl (k := 3) rfl rfl (by decide) rfl (fun ls hl => ?_)
                      refine lv_goto (tgt := 83) hx hb dX8_comes_143 (by decide) ?_
                      exact ih_L_2 (i_83 + 1) i_83 _ _ ls (lp_dec hn_83 c_88) (by have h9 := lp_inc c_88; omega) (Or.inr (lp_inN hlo_83 c_88 b_children (by decide))) hP hD hS (lv_sub hl [2, 3, 1, 0] rfl)
                  ·
                    refine lv_iconst (v := 1) hx hb dX8_comes_127 (by decide) ?_
                    refine lv_goto (tgt := 132) hx hb dX8_comes_128 (by decide) ?_
                    refine vp_callSi (va_Run.run (va_runV (As := [.int i_83, .int l_2_83, .int 1]) (rest := []) ⟨hx, hb, hml, hown, hts⟩ (n_X8_isAhead l D cB cI cJ cZ y m_tapeSize m_givers m_children m_coats m_legacies m_insideMany m_thrown m_cycleMany m_vote m_low m_high m_wear m_spare m_places m_cycleNext m_fault m_faultPlace m_giverNext m_years m_end m_next m_kind m_which m_place m_read m_readMany m_readHigh m_gave m_supports m_want i_83 l_2_83 1 b_givers hvt (lp_inN hlo_83 c_88 b_children (by decide)) (best_in hv_83 c_116)) (cwV 3 hts gX8_comes_X8_isAhead rfl rfl rfl (by decide +kernel) ⟨Nat.le_of_ble_eq_true rfl, Nat.le_of_ble_eq_true rfl⟩) (pre_VR (hP.sub (ws' := [((y 0), .inr (8, [.ref (y 1), .int (nI m_tapeSize), .int m_thrown, .ref (y 2), .int m_cycleMany, .int m_vote, .int m_low, .int m_high, .int m_wear, .int m_spare, .int m_places, .int m_cycleNext, .int m_fault, .int m_faultPlace, .int (nI m_givers), .ref (y 3), .ref (y 4), .int m_giverNext, .int (nI m_children), .ref (y 5), .ref (y 6), .ref (y 7), .ref (y 8), .ref (y 9), .int (nI m_coats), .ref (y 10), .ref (y 11), .ref (y 12), .ref (y 13), .int m_years, .int (nI m_legacies), .ref (y 14), .ref (y 15), .ref (y 16), .ref (y 17), .int m_end, .int m_next, .int m_kind, .int m_which, .int m_place, .int m_read, .ref (y 18), .ref (y 19), .int m_readMany, .int m_readHigh, .ref (y 20), .int (nI m_insideMany), .ref (y 21), .ref (y 22), .ref (y 23), .ref (y 24), .ref (y 25)])), ((y 3), .inl (cI, 8, .inl m_gave)), ((y 4), .inl (cI, 8, .inl m_supports)), ((y 6), .inl (cI, 16, .inl m_want))]) [0, 2, 3, 5] rfl) hK 0 rfl rfl rfl) rfl rfl hl.1 rfl (lv_room (Nat.le_of_ble_eq_true rfl)) dX8_comes_132 ⟨Nat.le_of_ble_eq_true rfl, Nat.le_of_ble_eq_true rfl⟩)) (fun r_8 hw_r_8 => ?_)
                    refine lv_if_eq (tgt := 140) hx hb dX8_comes_135 (by decide) (fun c_135 => ?_) (fun c_135 => ?_)
                    ·
                      refine lv_iinc (v := i_83 + 1) (lv' := [(3, .int (i_83 + 1)), (0, .ref (y 0)), (1, .int v_1), (2, .int l_2_83)]) hx hb dX8_comes_140 hl (k := 3) rfl rfl (by decide) rfl (fun ls hl => ?_)
                      refine lv_goto (tgt := 83) hx hb dX8_comes_143 (by decide) ?_
                      exact ih_L_2 (i_83 + 1) l_2_83 _ _ ls (lp_dec hn_83 c_88) (by have h9 := lp_inc c_88; omega) hv_83 hP hD hS (lv_sub hl [1, 2, 3, 0] rfl)
                    ·
                      refine lv_iload_n hx hb dX8_comes_138 rfl (lv_at hl 3 rfl) ?_
                      refine lv_istore_n (lv' := [(2, .int i_83), (0, .ref (y 0)), (1, .int v_1), (3, .int i_83)]) hx hb dX8_comes_139 rfl hl (by decide) rfl (fun ls hl => ?_)
                      refine lv_iinc (v := i_83 + 1) (lv' := [(3, .int (i_83 + 1)), (2, .int i_83), (0, .ref (y 0)), (1, .int v_1)]) hx hb dX8_comes_140 hl (k := 3) rfl rfl (by decide) rfl (fun ls hl => ?_)
                      refine lv_goto (tgt := 83) hx hb dX8_comes_143 (by decide) ?_
                      exact ih_L_2 (i_83 + 1) i_83 _ _ ls (lp_dec hn_83 c_88) (by have h9 := lp_inc c_88; omega) (Or.inr (lp_inN hlo_83 c_88 b_children (by decide))) hP hD hS (lv_sub hl [2, 3, 1, 0] rfl)
              ·
                refine lv_goto (tgt := 140) hx hb dX8_comes_112 (by decide) ?_
                refine lv_iinc (v := i_83 + 1) (lv' := [(3, .int (i_83 + 1)), (0, .ref (y 0)), (1, .int v_1), (2, .int l_2_83)]) hx hb dX8_comes_140 hl (k := 3) rfl rfl (by decide) rfl (fun ls hl => ?_)
                refine lv_goto (tgt := 83) hx hb dX8_comes_143 (by decide) ?_
                exact ih_L_2 (i_83 + 1) l_2_83 _ _ ls (lp_dec hn_83 c_88) (by have h9 := lp_inc c_88; omega) hv_83 hP hD hS (lv_sub hl [1, 2, 3, 0] rfl)
    exact L_2 _ 0 (-1) _ _ ls (Nat.lt_succ_self _) (by decide) (Or.inl rfl) hP hD hS (lv_sub hl [3, 2, 1, 0] rfl)
  ·
    refine lv_iconst (v := 0) hx hb dX8_comes_14 (by decide) ?_
    refine lv_istore_n (lv' := [(2, .int 0), (1, .int v_1), (0, .ref (y 0))]) hx hb dX8_comes_15 rfl hl (by decide) rfl (fun ls hl => ?_)
    have L_9 : ∀ (n : Nat) (i_16 : Int32)  (H : Heap) (locs : List Loc) (ls : Array Slot), (Int32.toInt (nI m_givers) - i_16.toInt).toNat < n → 0 ≤ i_16.toInt → va_P D vwCl [((y 0), .inr (8, [.ref (y 1), .int (nI m_tapeSize), .int m_thrown, .ref (y 2), .int m_cycleMany, .int m_vote, .int m_low, .int m_high, .int m_wear, .int m_spare, .int m_places, .int m_cycleNext, .int m_fault, .int m_faultPlace, .int (nI m_givers), .ref (y 3), .ref (y 4), .int m_giverNext, .int (nI m_children), .ref (y 5), .ref (y 6), .ref (y 7), .ref (y 8), .ref (y 9), .int (nI m_coats), .ref (y 10), .ref (y 11), .ref (y 12), .ref (y 13), .int m_years, .int (nI m_legacies), .ref (y 14), .ref (y 15), .ref (y 16), .ref (y 17), .int m_end, .int m_next, .int m_kind, .int m_which, .int m_place, .int m_read, .ref (y 18), .ref (y 19), .int m_readMany, .int m_readHigh, .ref (y 20), .int (nI m_insideMany), .ref (y 21), .ref (y 22), .ref (y 23), .ref (y 24), .ref (y 25)])), ((y 2), .inl (cI, 16, .inl m_cycle)), ((y 3), .inl (cI, 8, .inl m_gave)), ((y 4), .inl (cI, 8, .inl m_supports)), ((y 5), .inl (cI, 16, .inl m_age)), ((y 6), .inl (cI, 16, .inl m_want)), ((y 9), .inl (cI, 16, .inl m_state))] H → va_D A [((y 0), .inr (8, [.ref (y 1), .int (nI m_tapeSize), .int m_thrown, .ref (y 2), .int m_cycleMany, .int m_vote, .int m_low, .int m_high, .int m_wear, .int m_spare, .int m_places, .int m_cycleNext, .int m_fault, .int m_faultPlace, .int (nI m_givers), .ref (y 3), .ref (y 4), .int m_giverNext, .int (nI m_children), .ref (y 5), .ref (y 6), .ref (y 7), .ref (y 8), .ref (y 9), .int (nI m_coats), .ref (y 10), .ref (y 11), .ref (y 12), .ref (y 13), .int m_years, .int (nI m_legacies), .ref (y 14), .ref (y 15), .ref (y 16), .ref (y 17), .int m_end, .int m_next, .int m_kind, .int m_which, .int m_place, .int m_read, .ref (y 18), .ref (y 19), .int m_readMany, .int m_readHigh, .ref (y 20), .int (nI m_insideMany), .ref (y 21), .ref (y 22), .ref (y 23), .ref (y 24), .ref (y 25)])), ((y 2), .inl (cI, 16, .inl m_cycle)), ((y 3), .inl (cI, 8, .inl m_gave)), ((y 4), .inl (cI, 8, .inl m_supports)), ((y 5), .inl (cI, 16, .inl m_age)), ((y 6), .inl (cI, 16, .inl m_want)), ((y 9), .inl (cI, 16, .inl m_state))] → va_S A s.heap H locs → lv_has ls 4 [(0, .ref (y 0)), (1, .int v_1), (2, .int i_16)] → W p l e (headSpec wsX8_comes ({ frames := 2, cells := 0, slots := 0, locals := 46 } : Room)).room s m ([.ref (y 0)] : List Value).toArray below meth c H locs 0 0 Q0 (F0 m 16 ls []) := by
      intro n
      induction n with
      | zero => intro i_16 H locs ls hn_16 hlo_16 hP hD hS hl; exact absurd hn_16 (Nat.not_lt_zero _)
      | succ n ih_L_9 =>
        intro i_16 H locs ls hn_16 hlo_16 hP hD hS hl
        refine lv_iload_n hx hb dX8_comes_16 rfl (lv_at hl 2 rfl) ?_
        refine lv_aload_n hx hb dX8_comes_17 rfl (lv_at hl 0 rfl) ?_
        refine va_get (D := D) (ci := 8) (v := .int (nI m_givers)) (C := RX8) (T := TX8) (N := 52) hx hb hts w_1 hown hK hP 0 rfl rfl 14 (by decide) w_5 (fun _ h9 => h9) rfl dX8_comes_18 ?_
        refine lv_icmp_ge (tgt := 77) hx hb dX8_comes_21 (by decide) (fun c_21 => ?_) (fun c_21 => ?_)
        ·
          refine lv_iconst (v := (-1)) hx hb dX8_comes_77 (by decide) ?_
          rw [← hQ]
          have hP9 := hP.sub (ws' := [((y 0), .inr (8, [.ref (y 1), .int (nI m_tapeSize), .int m_thrown, .ref (y 2), .int m_cycleMany, .int m_vote, .int m_low, .int m_high, .int m_wear, .int m_spare, .int m_places, .int m_cycleNext, .int m_fault, .int m_faultPlace, .int (nI m_givers), .ref (y 3), .ref (y 4), .int m_giverNext, .int (nI m_children), .ref (y 5), .ref (y 6), .ref (y 7), .ref (y 8), .ref (y 9), .int (nI m_coats), .ref (y 10), .ref (y 11), .ref (y 12), .ref (y 13), .int m_years, .int (nI m_legacies), .ref (y 14), .ref (y 15), .ref (y 16), .ref (y 17), .int m_end, .int m_next, .int m_kind, .int m_which, .int m_place, .int m_read, .ref (y 18), .ref (y 19), .int m_readMany, .int m_readHigh, .ref (y 20), .int (nI m_insideMany), .ref (y 21), .ref (y 22), .ref (y 23), .ref (y 24), .ref (y 25)])), ((y 2), .inl (cI, 16, .inl m_cycle)), ((y 3), .inl (cI, 8, .inl m_gave)), ((y 4), .inl (cI, 8, .inl m_supports)), ((y 5), .inl (cI, 16, .inl m_age)), ((y 6), .inl (cI, 16, .inl m_want)), ((y 9), .inl (cI, 16, .inl m_state))]) [0, 1, 2, 3, 4, 5, 6] rfl
          have hD9 := hD.sub (ws' := [((y 0), .inr (8, [.ref (y 1), .int (nI m_tapeSize), .int m_thrown, .ref (y 2), .int m_cycleMany, .int m_vote, .int m_low, .int m_high, .int m_wear, .int m_spare, .int m_places, .int m_cycleNext, .int m_fault, .int m_faultPlace, .int (nI m_givers), .ref (y 3), .ref (y 4), .int m_giverNext, .int (nI m_children), .ref (y 5), .ref (y 6), .ref (y 7), .ref (y 8), .ref (y 9), .int (nI m_coats), .ref (y 10), .ref (y 11), .ref (y 12), .ref (y 13), .int m_years, .int (nI m_legacies), .ref (y 14), .ref (y 15), .ref (y 16), .ref (y 17), .int m_end, .int m_next, .int m_kind, .int m_which, .int m_place, .int m_read, .ref (y 18), .ref (y 19), .int m_readMany, .int m_readHigh, .ref (y 20), .int (nI m_insideMany), .ref (y 21), .ref (y 22), .ref (y 23), .ref (y 24), .ref (y 25)])), ((y 2), .inl (cI, 16, .inl m_cycle)), ((y 3), .inl (cI, 8, .inl m_gave)), ((y 4), .inl (cI, 8, .inl m_supports)), ((y 5), .inl (cI, 16, .inl m_age)), ((y 6), .inl (cI, 16, .inl m_want)), ((y 9), .inl (cI, 16, .inl m_state))]) [0, 1, 2, 3, 4, 5, 6] (by decide) rfl
          exact W.iret (v := (-1)) hx hb hr (fun t ht hW => ⟨⟨_, (m_giverNext : Int32), rfl, ⟨hgn, Or.inl rfl⟩, by rw [ht]; exact hP9, va_K.moved hW.alike hK, hD9⟩, hS.F ht⟩) hS.2.2 dX8_comes_78
        ·
          refine lv_aload_n hx hb dX8_comes_24 rfl (lv_at hl 0 rfl) ?_
          refine va_get (D := D) (ci := 8) (v := .int m_giverNext) (C := RX8) (T := TX8) (N := 52) hx hb hts w_1 hown hK hP 0 rfl rfl 17 (by decide) w_6 (fun _ h9 => h9) rfl dX8_comes_25 ?_
          refine lv_iload_n hx hb dX8_comes_28 rfl (lv_at hl 2 rfl) ?_
          refine sv_iadd (v := m_giverNext + i_16) hx hb dX8_comes_29 rfl ?_
          refine lv_aload_n hx hb dX8_comes_30 rfl (lv_at hl 0 rfl) ?_
          refine va_get (D := D) (ci := 8) (v := .int (nI m_givers)) (C := RX8) (T := TX8) (N := 52) hx hb hts w_1 hown hK hP 0 rfl rfl 14 (by decide) w_5 (fun _ h9 => h9) rfl dX8_comes_31 ?_
          refine sv_irem (v := (m_giverNext + i_16) - (m_giverNext + i_16) / (nI m_givers) * (nI m_givers)) hx hb dX8_comes_34 (g_pos hlo_16 c_21 b_givers) rfl ?_
          refine lv_istore_n (lv' := [(3, .int ((m_giverNext + i_16) - (m_giverNext + i_16) / (nI m_givers) * (nI m_givers))), (0, .ref (y 0)), (1, .int v_1), (2, .int i_16)]) hx hb dX8_comes_35 rfl hl (by decide) rfl (fun ls hl => ?_)
          refine lv_aload_n hx hb dX8_comes_36 rfl (lv_at hl 1 rfl) ?_
          refine lv_aload_n hx hb dX8_comes_37 rfl (lv_at hl 1 rfl) ?_
          refine va_get (D := D) (ci := 8) (v := .ref (y 4)) (C := RX8) (T := TX8) (N := 52) hx hb hts w_1 hown hK hP 0 rfl rfl 16 (by decide) w_7 (fun _ h9 => h9) rfl dX8_comes_38 ?_
          refine lv_iload_n hx hb dX8_comes_41 rfl (lv_at hl 0 rfl) ?_
          refine lv_topi (fun v_10 ev_10 => ?_)
          refine sv_iald (v := m_supports v_10.toNatClampNeg) hx hb hK hP 3 1 rfl rfl (by rw [ev_10]; exact (rem_in (add_in (in_up hgn (by decide)) (in_up (lp_inN hlo_16 c_21 b_givers (by decide)) (by decide))) (nI_in9 b_givers) (g_pos hlo_16 c_21 b_givers))) rfl dX8_comes_42 ?_
          refine lv_topi (fun v_11 ev_11 => ?_)
          refine vp_callSi (va_Run.run (va_runV (As := [.int v_11]) (rest := []) ⟨hx, hb, hml, hown, hts⟩ (n_X8_mayCome l D cB cI cJ cZ y m_tapeSize m_givers m_children m_coats m_legacies m_insideMany m_thrown m_cycleMany m_vote m_low m_high m_wear m_spare m_places m_cycleNext m_fault m_faultPlace m_giverNext m_years m_end m_next m_kind m_which m_place m_read m_readMany m_readHigh m_age m_state v_11 (fun h => sup_in hsb ev_11 h)) (cwV 1 hts gX8_comes_X8_mayCome rfl rfl rfl (by decide +kernel) ⟨Nat.le_of_ble_eq_true rfl, Nat.le_of_ble_eq_true rfl⟩) (pre_VR (hP.sub (ws' := [((y 0), .inr (8, [.ref (y 1), .int (nI m_tapeSize), .int m_thrown, .ref (y 2), .int m_cycleMany, .int m_vote, .int m_low, .int m_high, .int m_wear, .int m_spare, .int m_places, .int m_cycleNext, .int m_fault, .int m_faultPlace, .int (nI m_givers), .ref (y 3), .ref (y 4), .int m_giverNext, .int (nI m_children), .ref (y 5), .ref (y 6), .ref (y 7), .ref (y 8), .ref (y 9), .int (nI m_coats), .ref (y 10), .ref (y 11), .ref (y 12), .ref (y 13), .int m_years, .int (nI m_legacies), .ref (y 14), .ref (y 15), .ref (y 16), .ref (y 17), .int m_end, .int m_next, .int m_kind, .int m_which, .int m_place, .int m_read, .ref (y 18), .ref (y 19), .int m_readMany, .int m_readHigh, .ref (y 20), .int (nI m_insideMany), .ref (y 21), .ref (y 22), .ref (y 23), .ref (y 24), .ref (y 25)])), ((y 5), .inl (cI, 16, .inl m_age)), ((y 9), .inl (cI, 16, .inl m_state))]) [0, 4, 6] rfl) hK 0 rfl rfl rfl) rfl rfl hl.1 rfl (lv_room (Nat.le_of_ble_eq_true rfl)) dX8_comes_43 ⟨Nat.le_of_ble_eq_true rfl, Nat.le_of_ble_eq_true rfl⟩)) (fun r_12 hw_r_12 => ?_)
          refine lv_if_ne (tgt := 52) hx hb dX8_comes_46 (by decide) (fun c_46 => ?_) (fun c_46 => ?_)
          ·
            refine lv_aload_n hx hb dX8_comes_52 rfl (lv_at hl 1 rfl) ?_
            refine lv_iload_n hx hb dX8_comes_53 rfl (lv_at hl 0 rfl) ?_
            refine lv_topi (fun v_13 ev_13 => ?_)
            refine lv_iconst (v := 1) hx hb dX8_comes_54 (by decide) ?_
            refine sv_iadd (v := v_13 + 1) hx hb dX8_comes_55 rfl ?_
            refine lv_aload_n hx hb dX8_comes_56 rfl (lv_at hl 1 rfl) ?_
            refine va_get (D := D) (ci := 8) (v := .int (nI m_givers)) (C := RX8) (T := TX8) (N := 52) hx hb hts w_1 hown hK hP 0 rfl rfl 14 (by decide) w_5 (fun _ h9 => h9) rfl dX8_comes_57 ?_
            refine sv_irem (v := (v_13 + 1) - (v_13 + 1) / (nI m_givers) * (nI m_givers)) hx hb dX8_comes_60 (g_pos hlo_16 c_21 b_givers) rfl ?_
            refine lv_topi (fun v_14 ev_14 => ?_)
            refine va_put (D := D) (ci := 8) (v := .int v_14) (ty := .int) (C := RX8) (T := TX8) (N := 52) hx hb hts w_1 tyX8 tyX8_ok nmX8 hown hK hP hD hS 0 rfl rfl 17 (by decide) w_6 (fun _ h9 => h9) rfl (by decide +kernel) rfl rfl (Nat.le_of_ble_eq_true rfl) dX8_comes_61 (fun H locs hP hD hS => ?_)
            have hP : va_P D vwCl [((y 0), .inr (8, [.ref (y 1), .int (nI m_tapeSize), .int m_thrown, .ref (y 2), .int m_cycleMany, .int m_vote, .int m_low, .int m_high, .int m_wear, .int m_spare, .int m_places, .int m_cycleNext, .int m_fault, .int m_faultPlace, .int (nI m_givers), .ref (y 3), .ref (y 4), .int v_14, .int (nI m_children), .ref (y 5), .ref (y 6), .ref (y 7), .ref (y 8), .ref (y 9), .int (nI m_coats), .ref (y 10), .ref (y 11), .ref (y 12), .ref (y 13), .int m_years, .int (nI m_legacies), .ref (y 14), .ref (y 15), .ref (y 16), .ref (y 17), .int m_end, .int m_next, .int m_kind, .int m_which, .int m_place, .int m_read, .ref (y 18), .ref (y 19), .int m_readMany, .int m_readHigh, .ref (y 20), .int (nI m_insideMany), .ref (y 21), .ref (y 22), .ref (y 23), .ref (y 24), .ref (y 25)])), ((y 2), .inl (cI, 16, .inl m_cycle)), ((y 3), .inl (cI, 8, .inl m_gave)), ((y 4), .inl (cI, 8, .inl m_supports)), ((y 5), .inl (cI, 16, .inl m_age)), ((y 6), .inl (cI, 16, .inl m_want)), ((y 9), .inl (cI, 16, .inl m_state))] H := hP
            have hD : va_D A [((y 0), .inr (8, [.ref (y 1), .int (nI m_tapeSize), .int m_thrown, .ref (y 2), .int m_cycleMany, .int m_vote, .int m_low, .int m_high, .int m_wear, .int m_spare, .int m_places, .int m_cycleNext, .int m_fault, .int m_faultPlace, .int (nI m_givers), .ref (y 3), .ref (y 4), .int v_14, .int (nI m_children), .ref (y 5), .ref (y 6), .ref (y 7), .ref (y 8), .ref (y 9), .int (nI m_coats), .ref (y 10), .ref (y 11), .ref (y 12), .ref (y 13), .int m_years, .int (nI m_legacies), .ref (y 14), .ref (y 15), .ref (y 16), .ref (y 17), .int m_end, .int m_next, .int m_kind, .int m_which, .int m_place, .int m_read, .ref (y 18), .ref (y 19), .int m_readMany, .int m_readHigh, .ref (y 20), .int (nI m_insideMany), .ref (y 21), .ref (y 22), .ref (y 23), .ref (y 24), .ref (y 25)])), ((y 2), .inl (cI, 16, .inl m_cycle)), ((y 3), .inl (cI, 8, .inl m_gave)), ((y 4), .inl (cI, 8, .inl m_supports)), ((y 5), .inl (cI, 16, .inl m_age)), ((y 6), .inl (cI, 16, .inl m_want)), ((y 9), .inl (cI, 16, .inl m_state))] := hD
            refine lv_aload_n hx hb dX8_comes_64 rfl (lv_at hl 1 rfl) ?_
            refine va_get (D := D) (ci := 8) (v := .ref (y 4)) (C := RX8) (T := TX8) (N := 52) hx hb hts w_1 hown hK hP 0 rfl rfl 16 (by decide) w_7 (fun _ h9 => h9) rfl dX8_comes_65 ?_
            refine lv_iload_n hx hb dX8_comes_68 rfl (lv_at hl 0 rfl) ?_
            refine lv_topi (fun v_15 ev_15 => ?_)
            refine sv_iald (v := m_supports v_15.toNatClampNeg) hx hb hK hP 3 1 rfl rfl (by rw [ev_15]; exact (rem_in (add_in (in_up hgn (by decide)) (in_up (lp_inN hlo_16 c_21 b_givers (by decide)) (by decide))) (nI_in9 b_givers) (g_pos hlo_16 c_21 b_givers))) rfl dX8_comes_69 ?_
            refine lv_topi (fun v_16 ev_16 => ?_)
            rw [← hQ]
            have hP9 := hP.sub (ws' := [((y 0), .inr (8, [.ref (y 1), .int (nI m_tapeSize), .int m_thrown, .ref (y 2), .int m_cycleMany, .int m_vote, .int m_low, .int m_high, .int m_wear, .int m_spare, .int m_places, .int m_cycleNext, .int m_fault, .int m_faultPlace, .int (nI m_givers), .ref (y 3), .ref (y 4), .int v_14, .int (nI m_children), .ref (y 5), .ref (y 6), .ref (y 7), .ref (y 8), .ref (y 9), .int (nI m_coats), .ref (y 10), .ref (y 11), .ref (y 12), .ref (y 13), .int m_years, .int (nI m_legacies), .ref (y 14), .ref (y 15), .ref (y 16), .ref (y 17), .int m_end, .int m_next, .int m_kind, .int m_which, .int m_place, .int m_read, .ref (y 18), .ref (y 19), .int m_readMany, .int m_readHigh, .ref (y 20), .int (nI m_insideMany), .ref (y 21), .ref (y 22), .ref (y 23), .ref (y 24), .ref (y 25)])), ((y 2), .inl (cI, 16, .inl m_cycle)), ((y 3), .inl (cI, 8, .inl m_gave)), ((y 4), .inl (cI, 8, .inl m_supports)), ((y 5), .inl (cI, 16, .inl m_age)), ((y 6), .inl (cI, 16, .inl m_want)), ((y 9), .inl (cI, 16, .inl m_state))]) [0, 1, 2, 3, 4, 5, 6] rfl
            have hD9 := hD.sub (ws' := [((y 0), .inr (8, [.ref (y 1), .int (nI m_tapeSize), .int m_thrown, .ref (y 2), .int m_cycleMany, .int m_vote, .int m_low, .int m_high, .int m_wear, .int m_spare, .int m_places, .int m_cycleNext, .int m_fault, .int m_faultPlace, .int (nI m_givers), .ref (y 3), .ref (y 4), .int v_14, .int (nI m_children), .ref (y 5), .ref (y 6), .ref (y 7), .ref (y 8), .ref (y 9), .int (nI m_coats), .ref (y 10), .ref (y 11), .ref (y 12), .ref (y 13), .int m_years, .int (nI m_legacies), .ref (y 14), .ref (y 15), .ref (y 16), .ref (y 17), .int m_end, .int m_next, .int m_kind, .int m_which, .int m_place, .int m_read, .ref (y 18), .ref (y 19), .int m_readMany, .int m_readHigh, .ref (y 20), .int (nI m_insideMany), .ref (y 21), .ref (y 22), .ref (y 23), .ref (y 24), .ref (y 25)])), ((y 2), .inl (cI, 16, .inl m_cycle)), ((y 3), .inl (cI, 8, .inl m_gave)), ((y 4), .inl (cI, 8, .inl m_supports)), ((y 5), .inl (cI, 16, .inl m_age)), ((y 6), .inl (cI, 16, .inl m_want)), ((y 9), .inl (cI, 16, .inl m_state))]) [0, 1, 2, 3, 4, 5, 6] (by decide) rfl
            exact W.iret (v := v_16) hx hb hr (fun t ht hW => ⟨⟨_, (v_14 : Int32), rfl, ⟨(by rw [ev_14]; exact rem_in (add_in (in_up (a := 8) (b := 9) (by rw [ev_13]; exact (rem_in (add_in (in_up hgn (by decide)) (in_up (lp_inN hlo_16 c_21 b_givers (by decide)) (by decide))) (nI_in9 b_givers) (g_pos hlo_16 c_21 b_givers))) (by decide)) one_in9) (nI_in9 b_givers) (g_pos hlo_16 c_21 b_givers)), by rw [ev_16]; exact hsb _⟩, by rw [ht]; exact hP9, va_K.moved hW.alike hK, hD9⟩, hS.F ht⟩) hS.2.2 dX8_comes_70
          ·
            refine lv_goto (tgt := 71) hx hb dX8_comes_49 (by decide) ?_
            refine lv_iinc (v := i_16 + 1) (lv' := [(2, .int (i_16 + 1)), (3, .int ((m_giverNext + i_16) - (m_giverNext + i_16) / (nI m_givers) * (nI m_givers))), (0, .ref (y 0)), (1, .int v_1)]) hx hb dX8_comes_71 hl (k := 3) rfl rfl (by decide) rfl (fun ls hl => ?_)
            refine lv_goto (tgt := 16) hx hb dX8_comes_74 (by decide) ?_
            exact ih_L_9 (i_16 + 1) _ _ ls (lp_dec hn_16 c_21) (by have h9 := lp_inc c_21; omega) hP hD hS (lv_sub hl [2, 3, 0] rfl)
    exact L_9 _ 0 _ _ ls (Nat.lt_succ_self _) (by decide) hP hD hS (lv_sub hl [2, 1, 0] rfl)

set_option maxHeartbeats 4000000 in
set_option maxRecDepth 100000 in
theorem n_X8_fill (l : Launch) (D : va_G) (cB cI cJ cZ : ClassId) (sz : Nat) (y : Nat → Nat) (m_tapeSize m_givers m_children m_coats m_legacies m_insideMany : Nat) (m_thrown m_cycleMany m_vote m_low m_high m_wear m_spare m_places m_cycleNext m_fault m_faultPlace m_giverNext m_years m_end m_next m_kind m_which m_place m_read m_readMany m_readHigh : Int32) (m_cycle m_gave m_supports m_age m_want m_state : Nat → Int32) (b_givers : m_givers ≤ 8) (b_children : m_children ≤ 16) (hvt : ¬ m_vote = 0) (hgn : vp_in m_giverNext 8) (hcn : vp_in m_cycleNext 8) (hcm : vp_in m_cycleMany 9) (hc0 : ¬ m_cycleMany = 0) (hsb : ∀ k, m_supports k = -1 ∨ vp_in (m_supports k) 16) : Met l yX8_fill wsX8_fill ({ frames := 3, cells := 0, slots := 0, locals := 69 } : Room) (cPre D (aTy cB cI cJ cZ) [((y 0), .inr (8, [.ref (y 1), .int (nI m_tapeSize), .int m_thrown, .ref (y 2), .int m_cycleMany, .int m_vote, .int m_low, .int m_high, .int m_wear, .int m_spare, .int m_places, .int m_cycleNext, .int m_fault, .int m_faultPlace, .int (nI m_givers), .ref (y 3), .ref (y 4), .int m_giverNext, .int (nI m_children), .ref (y 5), .ref (y 6), .ref (y 7), .ref (y 8), .ref (y 9), .int (nI m_coats), .ref (y 10), .ref (y 11), .ref (y 12), .ref (y 13), .int m_years, .int (nI m_legacies), .ref (y 14), .ref (y 15), .ref (y 16), .ref (y 17), .int m_end, .int m_next, .int m_kind, .int m_which, .int m_place, .int m_read, .ref (y 18), .ref (y 19), .int m_readMany, .int m_readHigh, .ref (y 20), .int (nI m_insideMany), .ref (y 21), .ref (y 22), .ref (y 23), .ref (y 24), .ref (y 25)])), ((y 2), .inl (cI, 16, .inl m_cycle)), ((y 3), .inl (cI, 8, .inl m_gave)), ((y 4), .inl (cI, 8, .inl m_supports)), ((y 5), .inl (cI, 16, .inl m_age)), ((y 6), .inl (cI, 16, .inl m_want)), ((y 9), .inl (cI, 16, .inl m_state))] sz [.ref (y 0)]) (va_Qi (fun (r : Int32) (u : Int32 × Int32 × Int32 × (Nat → Int32)) => vp_in u.2.1 8 ∧ vp_in u.2.2.1 8) (cB_ D (aTy cB cI cJ cZ) (va_A [((y 0), .inr (8, [.ref (y 1), .int (nI m_tapeSize), .int m_thrown, .ref (y 2), .int m_cycleMany, .int m_vote, .int m_low, .int m_high, .int m_wear, .int m_spare, .int m_places, .int m_cycleNext, .int m_fault, .int m_faultPlace, .int (nI m_givers), .ref (y 3), .ref (y 4), .int m_giverNext, .int (nI m_children), .ref (y 5), .ref (y 6), .ref (y 7), .ref (y 8), .ref (y 9), .int (nI m_coats), .ref (y 10), .ref (y 11), .ref (y 12), .ref (y 13), .int m_years, .int (nI m_legacies), .ref (y 14), .ref (y 15), .ref (y 16), .ref (y 17), .int m_end, .int m_next, .int m_kind, .int m_which, .int m_place, .int m_read, .ref (y 18), .ref (y 19), .int m_readMany, .int m_readHigh, .ref (y 20), .int (nI m_insideMany), .ref (y 21), .ref (y 22), .ref (y 23), .ref (y 24), .ref (y 25)])), ((y 2), .inl (cI, 16, .inl m_cycle)), ((y 3), .inl (cI, 8, .inl m_gave)), ((y 4), .inl (cI, 8, .inl m_supports)), ((y 5), .inl (cI, 16, .inl m_age)), ((y 6), .inl (cI, 16, .inl m_want)), ((y 9), .inl (cI, 16, .inl m_state))] sz) (fun u => [((y 0), .inr (8, [.ref (y 1), .int (nI m_tapeSize), .int (u.1), .ref (y 2), .int m_cycleMany, .int m_vote, .int m_low, .int m_high, .int m_wear, .int m_spare, .int m_places, .int (u.2.2.1), .int m_fault, .int m_faultPlace, .int (nI m_givers), .ref (y 3), .ref (y 4), .int (u.2.1), .int (nI m_children), .ref (y 5), .ref (y 6), .ref (y 7), .ref (y 8), .ref (y 9), .int (nI m_coats), .ref (y 10), .ref (y 11), .ref (y 12), .ref (y 13), .int m_years, .int (nI m_legacies), .ref (y 14), .ref (y 15), .ref (y 16), .ref (y 17), .int m_end, .int m_next, .int m_kind, .int m_which, .int m_place, .int m_read, .ref (y 18), .ref (y 19), .int m_readMany, .int m_readHigh, .ref (y 20), .int (nI m_insideMany), .ref (y 21), .ref (y 22), .ref (y 23), .ref (y 24), .ref (y 25)])), ((y 2), .inl (cI, 16, .inl m_cycle)), ((y 3), .inl (cI, 8, .inl m_gave)), ((y 4), .inl (cI, 8, .inl m_supports)), ((y 5), .inl (cI, 16, .inl m_age)), ((y 6), .inl (cI, 16, .inl m_want)), ((y 9), .inl (cI, 16, .inl u.2.2.2))])) (va_A [((y 0), .inr (8, [.ref (y 1), .int (nI m_tapeSize), .int m_thrown, .ref (y 2), .int m_cycleMany, .int m_vote, .int m_low, .int m_high, .int m_wear, .int m_spare, .int m_places, .int m_cycleNext, .int m_fault, .int m_faultPlace, .int (nI m_givers), .ref (y 3), .ref (y 4), .int m_giverNext, .int (nI m_children), .ref (y 5), .ref (y 6), .ref (y 7), .ref (y 8), .ref (y 9), .int (nI m_coats), .ref (y 10), .ref (y 11), .ref (y 12), .ref (y 13), .int m_years, .int (nI m_legacies), .ref (y 14), .ref (y 15), .ref (y 16), .ref (y 17), .int m_end, .int m_next, .int m_kind, .int m_which, .int m_place, .int m_read, .ref (y 18), .ref (y 19), .int m_readMany, .int m_readHigh, .ref (y 20), .int (nI m_insideMany), .ref (y 21), .ref (y 22), .ref (y 23), .ref (y 24), .ref (y 25)])), ((y 2), .inl (cI, 16, .inl m_cycle)), ((y 3), .inl (cI, 8, .inl m_gave)), ((y 4), .inl (cI, 8, .inl m_supports)), ((y 5), .inl (cI, 16, .inl m_age)), ((y 6), .inl (cI, 16, .inl m_want)), ((y 9), .inl (cI, 16, .inl m_state))] sz)) 0 0 (va_A [((y 0), .inr (8, [.ref (y 1), .int (nI m_tapeSize), .int m_thrown, .ref (y 2), .int m_cycleMany, .int m_vote, .int m_low, .int m_high, .int m_wear, .int m_spare, .int m_places, .int m_cycleNext, .int m_fault, .int m_faultPlace, .int (nI m_givers), .ref (y 3), .ref (y 4), .int m_giverNext, .int (nI m_children), .ref (y 5), .ref (y 6), .ref (y 7), .ref (y 8), .ref (y 9), .int (nI m_coats), .ref (y 10), .ref (y 11), .ref (y 12), .ref (y 13), .int m_years, .int (nI m_legacies), .ref (y 14), .ref (y 15), .ref (y 16), .ref (y 17), .int m_end, .int m_next, .int m_kind, .int m_which, .int m_place, .int m_read, .ref (y 18), .ref (y 19), .int m_readMany, .int m_readHigh, .ref (y 20), .int (nI m_insideMany), .ref (y 21), .ref (y 22), .ref (y 23), .ref (y 24), .ref (y 25)])), ((y 2), .inl (cI, 16, .inl m_cycle)), ((y 3), .inl (cI, 8, .inl m_gave)), ((y 4), .inl (cI, 8, .inl m_supports)), ((y 5), .inl (cI, 16, .inl m_age)), ((y 6), .inl (cI, 16, .inl m_want)), ((y 9), .inl (cI, 16, .inl m_state))] sz) := by
  refine Met.ofW (cc := cX8_fill) (maxL := 2) (ret := (some .int)) (by decide) rfl ?_
  intro p e s m args below meth c s₁ B hml hv
  obtain ⟨rfl, hsz, hP, hK, hD0⟩ := hv
  have hx := B.exec
  have hb := B.bytes
  have hr := B.returns
  have hts := atoms_spec (ws := wsX8_fill) B.pre
  have hown : s.vm.findClass RX8 = some m.cls := findClass_of_methodNamed B.named
  have hlocks := B.notSynchronized
  subst hsz
  have hD := hD0.self (sz := s.heap.size)
  generalize hAe : va_A [((y 0), .inr (8, [.ref (y 1), .int (nI m_tapeSize), .int m_thrown, .ref (y 2), .int m_cycleMany, .int m_vote, .int m_low, .int m_high, .int m_wear, .int m_spare, .int m_places, .int m_cycleNext, .int m_fault, .int m_faultPlace, .int (nI m_givers), .ref (y 3), .ref (y 4), .int m_giverNext, .int (nI m_children), .ref (y 5), .ref (y 6), .ref (y 7), .ref (y 8), .ref (y 9), .int (nI m_coats), .ref (y 10), .ref (y 11), .ref (y 12), .ref (y 13), .int m_years, .int (nI m_legacies), .ref (y 14), .ref (y 15), .ref (y 16), .ref (y 17), .int m_end, .int m_next, .int m_kind, .int m_which, .int m_place, .int m_read, .ref (y 18), .ref (y 19), .int m_readMany, .int m_readHigh, .ref (y 20), .int (nI m_insideMany), .ref (y 21), .ref (y 22), .ref (y 23), .ref (y 24), .ref (y 25)])), ((y 2), .inl (cI, 16, .inl m_cycle)), ((y 3), .inl (cI, 8, .inl m_gave)), ((y 4), .inl (cI, 8, .inl m_supports)), ((y 5), .inl (cI, 16, .inl m_age)), ((y 6), .inl (cI, 16, .inl m_want)), ((y 9), .inl (cI, 16, .inl m_state))] s.heap.size = A at hD ⊢
  have hA : ∀ q : Nat, s.heap.size ≤ q → A q := fun q h => by rw [← hAe]; exact Or.inr h
  have hS : va_S A s.heap s.heap [] := va_S.rf
  have hP : va_P D vwCl [((y 0), .inr (8, [.ref (y 1), .int (nI m_tapeSize), .int m_thrown, .ref (y 2), .int m_cycleMany, .int m_vote, .int m_low, .int m_high, .int m_wear, .int m_spare, .int m_places, .int m_cycleNext, .int m_fault, .int m_faultPlace, .int (nI m_givers), .ref (y 3), .ref (y 4), .int m_giverNext, .int (nI m_children), .ref (y 5), .ref (y 6), .ref (y 7), .ref (y 8), .ref (y 9), .int (nI m_coats), .ref (y 10), .ref (y 11), .ref (y 12), .ref (y 13), .int m_years, .int (nI m_legacies), .ref (y 14), .ref (y 15), .ref (y 16), .ref (y 17), .int m_end, .int m_next, .int m_kind, .int m_which, .int m_place, .int m_read, .ref (y 18), .ref (y 19), .int m_readMany, .int m_readHigh, .ref (y 20), .int (nI m_insideMany), .ref (y 21), .ref (y 22), .ref (y 23), .ref (y 24), .ref (y 25)])), ((y 2), .inl (cI, 16, .inl m_cycle)), ((y 3), .inl (cI, 8, .inl m_gave)), ((y 4), .inl (cI, 8, .inl m_supports)), ((y 5), .inl (cI, 16, .inl m_age)), ((y 6), .inl (cI, 16, .inl m_want)), ((y 9), .inl (cI, 16, .inl m_state))] s.heap := hP
  have w_1 : ∀ w ∈ wsX80, w ∈ wsX8_fill := by decide +kernel
  have w_2 := hts (Cond.fieldLink RX8 112 "BlueCoatsModel" "thrown" "I") (by decide +kernel)
  have w_3 := hts (Cond.fieldLink RX8 35 "BlueCoatsModel" "places" "I") (by decide +kernel)
  have w_4 := hts (Cond.fieldLink RX8 59 "BlueCoatsModel" "state" "[I") (by decide +kernel)
  have w_5 := hts (Cond.fieldLink RX8 174 "BlueCoatsModel" "cycleNext" "I") (by decide +kernel)
  have w_6 := hts (Cond.fieldLink RX8 16 "BlueCoatsModel" "cycleMany" "I") (by decide +kernel)
  have hl := lv_entry ([.ref (y 0)]) (n := 2) (Nat.le_of_ble_eq_true rfl)
  rw [lg_entry_eq]
  generalize (lg_sl ([.ref (y 0)]) ++ List.replicate (2 - (lg_sl ([.ref (y 0)])).length) Slot.unset).toArray = ls at hl ⊢
  have hl : lv_has ls 2 [(0, .ref (y 0))] := hl
  refine lv_aload_n hx hb dX8_fill_0 rfl (lv_at hl 0 rfl) ?_
  refine lv_iconst (v := 0) hx hb dX8_fill_1 (by decide) ?_
  refine va_put (D := D) (ci := 8) (v := .int 0) (ty := .int) (C := RX8) (T := TX8) (N := 52) hx hb hts w_1 tyX8 tyX8_ok nmX8 hown hK hP hD hS 0 rfl rfl 2 (by decide) w_2 (fun _ h9 => h9) rfl (by decide +kernel) rfl rfl (Nat.le_of_ble_eq_true rfl) dX8_fill_2 (fun H locs hP hD hS => ?_)
  have hP : va_P D vwCl [((y 0), .inr (8, [.ref (y 1), .int (nI m_tapeSize), .int 0, .ref (y 2), .int m_cycleMany, .int m_vote, .int m_low, .int m_high, .int m_wear, .int m_spare, .int m_places, .int m_cycleNext, .int m_fault, .int m_faultPlace, .int (nI m_givers), .ref (y 3), .ref (y 4), .int m_giverNext, .int (nI m_children), .ref (y 5), .ref (y 6), .ref (y 7), .ref (y 8), .ref (y 9), .int (nI m_coats), .ref (y 10), .ref (y 11), .ref (y 12), .ref (y 13), .int m_years, .int (nI m_legacies), .ref (y 14), .ref (y 15), .ref (y 16), .ref (y 17), .int m_end, .int m_next, .int m_kind, .int m_which, .int m_place, .int m_read, .ref (y 18), .ref (y 19), .int m_readMany, .int m_readHigh, .ref (y 20), .int (nI m_insideMany), .ref (y 21), .ref (y 22), .ref (y 23), .ref (y 24), .ref (y 25)])), ((y 2), .inl (cI, 16, .inl m_cycle)), ((y 3), .inl (cI, 8, .inl m_gave)), ((y 4), .inl (cI, 8, .inl m_supports)), ((y 5), .inl (cI, 16, .inl m_age)), ((y 6), .inl (cI, 16, .inl m_want)), ((y 9), .inl (cI, 16, .inl m_state))] H := hP
  have hD : va_D A [((y 0), .inr (8, [.ref (y 1), .int (nI m_tapeSize), .int 0, .ref (y 2), .int m_cycleMany, .int m_vote, .int m_low, .int m_high, .int m_wear, .int m_spare, .int m_places, .int m_cycleNext, .int m_fault, .int m_faultPlace, .int (nI m_givers), .ref (y 3), .ref (y 4), .int m_giverNext, .int (nI m_children), .ref (y 5), .ref (y 6), .ref (y 7), .ref (y 8), .ref (y 9), .int (nI m_coats), .ref (y 10), .ref (y 11), .ref (y 12), .ref (y 13), .int m_years, .int (nI m_legacies), .ref (y 14), .ref (y 15), .ref (y 16), .ref (y 17), .int m_end, .int m_next, .int m_kind, .int m_which, .int m_place, .int m_read, .ref (y 18), .ref (y 19), .int m_readMany, .int m_readHigh, .ref (y 20), .int (nI m_insideMany), .ref (y 21), .ref (y 22), .ref (y 23), .ref (y 24), .ref (y 25)])), ((y 2), .inl (cI, 16, .inl m_cycle)), ((y 3), .inl (cI, 8, .inl m_gave)), ((y 4), .inl (cI, 8, .inl m_supports)), ((y 5), .inl (cI, 16, .inl m_age)), ((y 6), .inl (cI, 16, .inl m_want)), ((y 9), .inl (cI, 16, .inl m_state))] := hD
  refine lv_aload_n hx hb dX8_fill_5 rfl (lv_at hl 0 rfl) ?_
  refine vp_callSi (va_Run.run (va_runV (As := []) (rest := []) ⟨hx, hb, hml, hown, hts⟩ (n_X8_inMany l D cB cI cJ cZ y m_tapeSize m_givers m_children m_coats m_legacies m_insideMany 0 m_cycleMany m_vote m_low m_high m_wear m_spare m_places m_cycleNext m_fault m_faultPlace m_giverNext m_years m_end m_next m_kind m_which m_place m_read m_readMany m_readHigh m_state  b_children) (cwV 0 hts gX8_fill_X8_inMany rfl rfl rfl (by decide +kernel) ⟨Nat.le_of_ble_eq_true rfl, Nat.le_of_ble_eq_true rfl⟩) (pre_VR (hP.sub (ws' := [((y 0), .inr (8, [.ref (y 1), .int (nI m_tapeSize), .int 0, .ref (y 2), .int m_cycleMany, .int m_vote, .int m_low, .int m_high, .int m_wear, .int m_spare, .int m_places, .int m_cycleNext, .int m_fault, .int m_faultPlace, .int (nI m_givers), .ref (y 3), .ref (y 4), .int m_giverNext, .int (nI m_children), .ref (y 5), .ref (y 6), .ref (y 7), .ref (y 8), .ref (y 9), .int (nI m_coats), .ref (y 10), .ref (y 11), .ref (y 12), .ref (y 13), .int m_years, .int (nI m_legacies), .ref (y 14), .ref (y 15), .ref (y 16), .ref (y 17), .int m_end, .int m_next, .int m_kind, .int m_which, .int m_place, .int m_read, .ref (y 18), .ref (y 19), .int m_readMany, .int m_readHigh, .ref (y 20), .int (nI m_insideMany), .ref (y 21), .ref (y 22), .ref (y 23), .ref (y 24), .ref (y 25)])), ((y 9), .inl (cI, 16, .inl m_state))]) [0, 6] rfl) hK 0 rfl rfl rfl) rfl rfl hl.1 rfl (lv_room (Nat.le_of_ble_eq_true rfl)) dX8_fill_6 ⟨Nat.le_of_ble_eq_true rfl, Nat.le_of_ble_eq_true rfl⟩)) (fun r_1 hw_r_1 => ?_)
  refine lv_aload_n hx hb dX8_fill_9 rfl (lv_at hl 0 rfl) ?_
  refine va_get (D := D) (ci := 8) (v := .int m_places) (C := RX8) (T := TX8) (N := 52) hx hb hts w_1 hown hK hP 0 rfl rfl 10 (by decide) w_3 (fun _ h9 => h9) rfl dX8_fill_10 ?_
  refine lv_icmp_lt (tgt := 18) hx hb dX8_fill_13 (by decide) (fun c_13 => ?_) (fun c_13 => ?_)
  ·
    refine lv_aload_n hx hb dX8_fill_18 rfl (lv_at hl 0 rfl) ?_
    refine cl_i (wc := [((y 0), .inr (8, [.ref (y 1), .int (nI m_tapeSize), .int 0, .ref (y 2), .int m_cycleMany, .int m_vote, .int m_low, .int m_high, .int m_wear, .int m_spare, .int m_places, .int m_cycleNext, .int m_fault, .int m_faultPlace, .int (nI m_givers), .ref (y 3), .ref (y 4), .int m_giverNext, .int (nI m_children), .ref (y 5), .ref (y 6), .ref (y 7), .ref (y 8), .ref (y 9), .int (nI m_coats), .ref (y 10), .ref (y 11), .ref (y 12), .ref (y 13), .int m_years, .int (nI m_legacies), .ref (y 14), .ref (y 15), .ref (y 16), .ref (y 17), .int m_end, .int m_next, .int m_kind, .int m_which, .int m_place, .int m_read, .ref (y 18), .ref (y 19), .int m_readMany, .int m_readHigh, .ref (y 20), .int (nI m_insideMany), .ref (y 21), .ref (y 22), .ref (y 23), .ref (y 24), .ref (y 25)])), ((y 2), .inl (cI, 16, .inl m_cycle)), ((y 3), .inl (cI, 8, .inl m_gave)), ((y 4), .inl (cI, 8, .inl m_supports)), ((y 5), .inl (cI, 16, .inl m_age)), ((y 6), .inl (cI, 16, .inl m_want)), ((y 9), .inl (cI, 16, .inl m_state))]) (wr := []) (va_runV (As := []) (rest := []) ⟨hx, hb, hml, hown, hts⟩ (n_X8_comes l D cB cI cJ cZ H.size y m_tapeSize m_givers m_children m_coats m_legacies m_insideMany 0 m_cycleMany m_vote m_low m_high m_wear m_spare m_places m_cycleNext m_fault m_faultPlace m_giverNext m_years m_end m_next m_kind m_which m_place m_read m_readMany m_readHigh m_cycle m_gave m_supports m_age m_want m_state  b_givers b_children hvt hgn hcn hcm hc0 hsb) (cwV 0 hts gX8_fill_X8_comes rfl rfl rfl (by decide +kernel) ⟨Nat.le_of_ble_eq_true rfl, Nat.le_of_ble_eq_true rfl⟩) (pre_V (hP.sub (ws' := [((y 0), .inr (8, [.ref (y 1), .int (nI m_tapeSize), .int 0, .ref (y 2), .int m_cycleMany, .int m_vote, .int m_low, .int m_high, .int m_wear, .int m_spare, .int m_places, .int m_cycleNext, .int m_fault, .int m_faultPlace, .int (nI m_givers), .ref (y 3), .ref (y 4), .int m_giverNext, .int (nI m_children), .ref (y 5), .ref (y 6), .ref (y 7), .ref (y 8), .ref (y 9), .int (nI m_coats), .ref (y 10), .ref (y 11), .ref (y 12), .ref (y 13), .int m_years, .int (nI m_legacies), .ref (y 14), .ref (y 15), .ref (y 16), .ref (y 17), .int m_end, .int m_next, .int m_kind, .int m_which, .int m_place, .int m_read, .ref (y 18), .ref (y 19), .int m_readMany, .int m_readHigh, .ref (y 20), .int (nI m_insideMany), .ref (y 21), .ref (y 22), .ref (y 23), .ref (y 24), .ref (y 25)])), ((y 2), .inl (cI, 16, .inl m_cycle)), ((y 3), .inl (cI, 8, .inl m_gave)), ((y 4), .inl (cI, 8, .inl m_supports)), ((y 5), .inl (cI, 16, .inl m_age)), ((y 6), .inl (cI, 16, .inl m_want)), ((y 9), .inl (cI, 16, .inl m_state))]) [0, 1, 2, 3, 4, 5, 6] rfl) hK (hD.sub (ws' := [((y 0), .inr (8, [.ref (y 1), .int (nI m_tapeSize), .int 0, .ref (y 2), .int m_cycleMany, .int m_vote, .int m_low, .int m_high, .int m_wear, .int m_spare, .int m_places, .int m_cycleNext, .int m_fault, .int m_faultPlace, .int (nI m_givers), .ref (y 3), .ref (y 4), .int m_giverNext, .int (nI m_children), .ref (y 5), .ref (y 6), .ref (y 7), .ref (y 8), .ref (y 9), .int (nI m_coats), .ref (y 10), .ref (y 11), .ref (y 12), .ref (y 13), .int m_years, .int (nI m_legacies), .ref (y 14), .ref (y 15), .ref (y 16), .ref (y 17), .int m_end, .int m_next, .int m_kind, .int m_which, .int m_place, .int m_read, .ref (y 18), .ref (y 19), .int m_readMany, .int m_readHigh, .ref (y 20), .int (nI m_insideMany), .ref (y 21), .ref (y 22), .ref (y 23), .ref (y 24), .ref (y 25)])), ((y 2), .inl (cI, 16, .inl m_cycle)), ((y 3), .inl (cI, 8, .inl m_gave)), ((y 4), .inl (cI, 8, .inl m_supports)), ((y 5), .inl (cI, 16, .inl m_age)), ((y 6), .inl (cI, 16, .inl m_want)), ((y 9), .inl (cI, 16, .inl m_state))]) [0, 1, 2, 3, 4, 5, 6] (by decide) rfl) 0 rfl rfl rfl) rfl rfl hl.1 rfl (lv_room (Nat.le_of_ble_eq_true rfl)) dX8_fill_19 ⟨Nat.le_of_ble_eq_true rfl, Nat.le_of_ble_eq_true rfl⟩) hP hD hS hA [0, 1, 2, 3, 4, 5, 6] [] rfl rfl (by decide) (by decide) 0 0 rfl rfl (fun r_2 u_3 H locs hw_u_3 hP hD hS => ?_)
    have hP : va_P D vwCl [((y 0), .inr (8, [.ref (y 1), .int (nI m_tapeSize), .int 0, .ref (y 2), .int m_cycleMany, .int m_vote, .int m_low, .int m_high, .int m_wear, .int m_spare, .int m_places, .int m_cycleNext, .int m_fault, .int m_faultPlace, .int (nI m_givers), .ref (y 3), .ref (y 4), .int u_3, .int (nI m_children), .ref (y 5), .ref (y 6), .ref (y 7), .ref (y 8), .ref (y 9), .int (nI m_coats), .ref (y 10), .ref (y 11), .ref (y 12), .ref (y 13), .int m_years, .int (nI m_legacies), .ref (y 14), .ref (y 15), .ref (y 16), .ref (y 17), .int m_end, .int m_next, .int m_kind, .int m_which, .int m_place, .int m_read, .ref (y 18), .ref (y 19), .int m_readMany, .int m_readHigh, .ref (y 20), .int (nI m_insideMany), .ref (y 21), .ref (y 22), .ref (y 23), .ref (y 24), .ref (y 25)])), ((y 2), .inl (cI, 16, .inl m_cycle)), ((y 3), .inl (cI, 8, .inl m_gave)), ((y 4), .inl (cI, 8, .inl m_supports)), ((y 5), .inl (cI, 16, .inl m_age)), ((y 6), .inl (cI, 16, .inl m_want)), ((y 9), .inl (cI, 16, .inl m_state))] H := hP
    have hD : va_D A [((y 0), .inr (8, [.ref (y 1), .int (nI m_tapeSize), .int 0, .ref (y 2), .int m_cycleMany, .int m_vote, .int m_low, .int m_high, .int m_wear, .int m_spare, .int m_places, .int m_cycleNext, .int m_fault, .int m_faultPlace, .int (nI m_givers), .ref (y 3), .ref (y 4), .int u_3, .int (nI m_children), .ref (y 5), .ref (y 6), .ref (y 7), .ref (y 8), .ref (y 9), .int (nI m_coats), .ref (y 10), .ref (y 11), .ref (y 12), .ref (y 13), .int m_years, .int (nI m_legacies), .ref (y 14), .ref (y 15), .ref (y 16), .ref (y 17), .int m_end, .int m_next, .int m_kind, .int m_which, .int m_place, .int m_read, .ref (y 18), .ref (y 19), .int m_readMany, .int m_readHigh, .ref (y 20), .int (nI m_insideMany), .ref (y 21), .ref (y 22), .ref (y 23), .ref (y 24), .ref (y 25)])), ((y 2), .inl (cI, 16, .inl m_cycle)), ((y 3), .inl (cI, 8, .inl m_gave)), ((y 4), .inl (cI, 8, .inl m_supports)), ((y 5), .inl (cI, 16, .inl m_age)), ((y 6), .inl (cI, 16, .inl m_want)), ((y 9), .inl (cI, 16, .inl m_state))] := hD
    refine lv_istore_n (lv' := [(1, .int r_2), (0, .ref (y 0))]) hx hb dX8_fill_22 rfl hl (by decide) rfl (fun ls hl => ?_)
    refine lv_iload_n hx hb dX8_fill_23 rfl (lv_at hl 0 rfl) ?_
    refine lv_if_ge (tgt := 29) hx hb dX8_fill_24 (by decide) (fun c_24 => ?_) (fun c_24 => ?_)
    ·
      refine lv_aload_n hx hb dX8_fill_29 rfl (lv_at hl 1 rfl) ?_
      refine va_get (D := D) (ci := 8) (v := .ref (y 9)) (C := RX8) (T := TX8) (N := 52) hx hb hts w_1 hown hK hP 0 rfl rfl 23 (by decide) w_4 (fun _ h9 => h9) rfl dX8_fill_30 ?_
      refine lv_iload_n hx hb dX8_fill_33 rfl (lv_at hl 0 rfl) ?_
      refine lv_iconst (v := 1) hx hb dX8_fill_34 (by decide) ?_
      refine sv_iast hx hb hK hP hD hS 6 1 rfl rfl (best_in hw_u_3.2 (Int32.not_lt.mpr c_24)) dX8_fill_35 (fun g_4 H locs eg_4 hP hD hS => ?_)
      have hP : va_P D vwCl [((y 0), .inr (8, [.ref (y 1), .int (nI m_tapeSize), .int 0, .ref (y 2), .int m_cycleMany, .int m_vote, .int m_low, .int m_high, .int m_wear, .int m_spare, .int m_places, .int m_cycleNext, .int m_fault, .int m_faultPlace, .int (nI m_givers), .ref (y 3), .ref (y 4), .int u_3, .int (nI m_children), .ref (y 5), .ref (y 6), .ref (y 7), .ref (y 8), .ref (y 9), .int (nI m_coats), .ref (y 10), .ref (y 11), .ref (y 12), .ref (y 13), .int m_years, .int (nI m_legacies), .ref (y 14), .ref (y 15), .ref (y 16), .ref (y 17), .int m_end, .int m_next, .int m_kind, .int m_which, .int m_place, .int m_read, .ref (y 18), .ref (y 19), .int m_readMany, .int m_readHigh, .ref (y 20), .int (nI m_insideMany), .ref (y 21), .ref (y 22), .ref (y 23), .ref (y 24), .ref (y 25)])), ((y 2), .inl (cI, 16, .inl m_cycle)), ((y 3), .inl (cI, 8, .inl m_gave)), ((y 4), .inl (cI, 8, .inl m_supports)), ((y 5), .inl (cI, 16, .inl m_age)), ((y 6), .inl (cI, 16, .inl m_want)), ((y 9), .inl (cI, 16, .inl g_4))] H := hP
      have hD : va_D A [((y 0), .inr (8, [.ref (y 1), .int (nI m_tapeSize), .int 0, .ref (y 2), .int m_cycleMany, .int m_vote, .int m_low, .int m_high, .int m_wear, .int m_spare, .int m_places, .int m_cycleNext, .int m_fault, .int m_faultPlace, .int (nI m_givers), .ref (y 3), .ref (y 4), .int u_3, .int (nI m_children), .ref (y 5), .ref (y 6), .ref (y 7), .ref (y 8), .ref (y 9), .int (nI m_coats), .ref (y 10), .ref (y 11), .ref (y 12), .ref (y 13), .int m_years, .int (nI m_legacies), .ref (y 14), .ref (y 15), .ref (y 16), .ref (y 17), .int m_end, .int m_next, .int m_kind, .int m_which, .int m_place, .int m_read, .ref (y 18), .ref (y 19), .int m_readMany, .int m_readHigh, .ref (y 20), .int (nI m_insideMany), .ref (y 21), .ref (y 22), .ref (y 23), .ref (y 24), .ref (y 25)])), ((y 2), .inl (cI, 16, .inl m_cycle)), ((y 3), .inl (cI, 8, .inl m_gave)), ((y 4), .inl (cI, 8, .inl m_supports)), ((y 5), .inl (cI, 16, .inl m_age)), ((y 6), .inl (cI, 16, .inl m_want)), ((y 9), .inl (cI, 16, .inl g_4))] := hD
      refine lv_aload_n hx hb dX8_fill_36 rfl (lv_at hl 1 rfl) ?_
      refine lv_aload_n hx hb dX8_fill_37 rfl (lv_at hl 1 rfl) ?_
      refine va_get (D := D) (ci := 8) (v := .int m_cycleNext) (C := RX8) (T := TX8) (N := 52) hx hb hts w_1 hown hK hP 0 rfl rfl 11 (by decide) w_5 (fun _ h9 => h9) rfl dX8_fill_38 ?_
      refine lv_iconst (v := 1) hx hb dX8_fill_41 (by decide) ?_
      refine sv_iadd (v := m_cycleNext + 1) hx hb dX8_fill_42 rfl ?_
      refine lv_aload_n hx hb dX8_fill_43 rfl (lv_at hl 1 rfl) ?_
      refine va_get (D := D) (ci := 8) (v := .int m_cycleMany) (C := RX8) (T := TX8) (N := 52) hx hb hts w_1 hown hK hP 0 rfl rfl 4 (by decide) w_6 (fun _ h9 => h9) rfl dX8_fill_44 ?_
      refine sv_irem (v := (m_cycleNext + 1) - (m_cycleNext + 1) / m_cycleMany * m_cycleMany) hx hb dX8_fill_47 hc0 rfl ?_
      refine lv_topi (fun v_5 ev_5 => ?_)
      refine va_put (D := D) (ci := 8) (v := .int v_5) (ty := .int) (C := RX8) (T := TX8) (N := 52) hx hb hts w_1 tyX8 tyX8_ok nmX8 hown hK hP hD hS 0 rfl rfl 11 (by decide) w_5 (fun _ h9 => h9) rfl (by decide +kernel) rfl rfl (Nat.le_of_ble_eq_true rfl) dX8_fill_48 (fun H locs hP hD hS => ?_)
      have hP : va_P D vwCl [((y 0), .inr (8, [.ref (y 1), .int (nI m_tapeSize), .int 0, .ref (y 2), .int m_cycleMany, .int m_vote, .int m_low, .int m_high, .int m_wear, .int m_spare, .int m_places, .int v_5, .int m_fault, .int m_faultPlace, .int (nI m_givers), .ref (y 3), .ref (y 4), .int u_3, .int (nI m_children), .ref (y 5), .ref (y 6), .ref (y 7), .ref (y 8), .ref (y 9), .int (nI m_coats), .ref (y 10), .ref (y 11), .ref (y 12), .ref (y 13), .int m_years, .int (nI m_legacies), .ref (y 14), .ref (y 15), .ref (y 16), .ref (y 17), .int m_end, .int m_next, .int m_kind, .int m_which, .int m_place, .int m_read, .ref (y 18), .ref (y 19), .int m_readMany, .int m_readHigh, .ref (y 20), .int (nI m_insideMany), .ref (y 21), .ref (y 22), .ref (y 23), .ref (y 24), .ref (y 25)])), ((y 2), .inl (cI, 16, .inl m_cycle)), ((y 3), .inl (cI, 8, .inl m_gave)), ((y 4), .inl (cI, 8, .inl m_supports)), ((y 5), .inl (cI, 16, .inl m_age)), ((y 6), .inl (cI, 16, .inl m_want)), ((y 9), .inl (cI, 16, .inl g_4))] H := hP
      have hD : va_D A [((y 0), .inr (8, [.ref (y 1), .int (nI m_tapeSize), .int 0, .ref (y 2), .int m_cycleMany, .int m_vote, .int m_low, .int m_high, .int m_wear, .int m_spare, .int m_places, .int v_5, .int m_fault, .int m_faultPlace, .int (nI m_givers), .ref (y 3), .ref (y 4), .int u_3, .int (nI m_children), .ref (y 5), .ref (y 6), .ref (y 7), .ref (y 8), .ref (y 9), .int (nI m_coats), .ref (y 10), .ref (y 11), .ref (y 12), .ref (y 13), .int m_years, .int (nI m_legacies), .ref (y 14), .ref (y 15), .ref (y 16), .ref (y 17), .int m_end, .int m_next, .int m_kind, .int m_which, .int m_place, .int m_read, .ref (y 18), .ref (y 19), .int m_readMany, .int m_readHigh, .ref (y 20), .int (nI m_insideMany), .ref (y 21), .ref (y 22), .ref (y 23), .ref (y 24), .ref (y 25)])), ((y 2), .inl (cI, 16, .inl m_cycle)), ((y 3), .inl (cI, 8, .inl m_gave)), ((y 4), .inl (cI, 8, .inl m_supports)), ((y 5), .inl (cI, 16, .inl m_age)), ((y 6), .inl (cI, 16, .inl m_want)), ((y 9), .inl (cI, 16, .inl g_4))] := hD
      refine lv_iload_n hx hb dX8_fill_51 rfl (lv_at hl 0 rfl) ?_
      have hP9 := hP.sub (ws' := [((y 0), .inr (8, [.ref (y 1), .int (nI m_tapeSize), .int 0, .ref (y 2), .int m_cycleMany, .int m_vote, .int m_low, .int m_high, .int m_wear, .int m_spare, .int m_places, .int v_5, .int m_fault, .int m_faultPlace, .int (nI m_givers), .ref (y 3), .ref (y 4), .int u_3, .int (nI m_children), .ref (y 5), .ref (y 6), .ref (y 7), .ref (y 8), .ref (y 9), .int (nI m_coats), .ref (y 10), .ref (y 11), .ref (y 12), .ref (y 13), .int m_years, .int (nI m_legacies), .ref (y 14), .ref (y 15), .ref (y 16), .ref (y 17), .int m_end, .int m_next, .int m_kind, .int m_which, .int m_place, .int m_read, .ref (y 18), .ref (y 19), .int m_readMany, .int m_readHigh, .ref (y 20), .int (nI m_insideMany), .ref (y 21), .ref (y 22), .ref (y 23), .ref (y 24), .ref (y 25)])), ((y 2), .inl (cI, 16, .inl m_cycle)), ((y 3), .inl (cI, 8, .inl m_gave)), ((y 4), .inl (cI, 8, .inl m_supports)), ((y 5), .inl (cI, 16, .inl m_age)), ((y 6), .inl (cI, 16, .inl m_want)), ((y 9), .inl (cI, 16, .inl g_4))]) [0, 1, 2, 3, 4, 5, 6] rfl
      have hD9 := hD.sub (ws' := [((y 0), .inr (8, [.ref (y 1), .int (nI m_tapeSize), .int 0, .ref (y 2), .int m_cycleMany, .int m_vote, .int m_low, .int m_high, .int m_wear, .int m_spare, .int m_places, .int v_5, .int m_fault, .int m_faultPlace, .int (nI m_givers), .ref (y 3), .ref (y 4), .int u_3, .int (nI m_children), .ref (y 5), .ref (y 6), .ref (y 7), .ref (y 8), .ref (y 9), .int (nI m_coats), .ref (y 10), .ref (y 11), .ref (y 12), .ref (y 13), .int m_years, .int (nI m_legacies), .ref (y 14), .ref (y 15), .ref (y 16), .ref (y 17), .int m_end, .int m_next, .int m_kind, .int m_which, .int m_place, .int m_read, .ref (y 18), .ref (y 19), .int m_readMany, .int m_readHigh, .ref (y 20), .int (nI m_insideMany), .ref (y 21), .ref (y 22), .ref (y 23), .ref (y 24), .ref (y 25)])), ((y 2), .inl (cI, 16, .inl m_cycle)), ((y 3), .inl (cI, 8, .inl m_gave)), ((y 4), .inl (cI, 8, .inl m_supports)), ((y 5), .inl (cI, 16, .inl m_age)), ((y 6), .inl (cI, 16, .inl m_want)), ((y 9), .inl (cI, 16, .inl g_4))]) [0, 1, 2, 3, 4, 5, 6] (by decide) rfl
      exact W.iret (v := r_2) hx hb hr (fun t ht hW => ⟨⟨_, ((0 : Int32), (u_3 : Int32), (v_5 : Int32), g_4), rfl, ⟨hw_u_3.1, (by rw [ev_5]; exact rem_in (add_in (in_up hcn (by decide)) one_in9) hcm hc0)⟩, by rw [ht]; exact hP9, va_K.moved hW.alike hK, hD9⟩, hS.F ht⟩) hS.2.2 dX8_fill_52
    ·
      refine lv_iconst (v := (-1)) hx hb dX8_fill_27 (by decide) ?_
      have hP9 := hP.sub (ws' := [((y 0), .inr (8, [.ref (y 1), .int (nI m_tapeSize), .int 0, .ref (y 2), .int m_cycleMany, .int m_vote, .int m_low, .int m_high, .int m_wear, .int m_spare, .int m_places, .int m_cycleNext, .int m_fault, .int m_faultPlace, .int (nI m_givers), .ref (y 3), .ref (y 4), .int u_3, .int (nI m_children), .ref (y 5), .ref (y 6), .ref (y 7), .ref (y 8), .ref (y 9), .int (nI m_coats), .ref (y 10), .ref (y 11), .ref (y 12), .ref (y 13), .int m_years, .int (nI m_legacies), .ref (y 14), .ref (y 15), .ref (y 16), .ref (y 17), .int m_end, .int m_next, .int m_kind, .int m_which, .int m_place, .int m_read, .ref (y 18), .ref (y 19), .int m_readMany, .int m_readHigh, .ref (y 20), .int (nI m_insideMany), .ref (y 21), .ref (y 22), .ref (y 23), .ref (y 24), .ref (y 25)])), ((y 2), .inl (cI, 16, .inl m_cycle)), ((y 3), .inl (cI, 8, .inl m_gave)), ((y 4), .inl (cI, 8, .inl m_supports)), ((y 5), .inl (cI, 16, .inl m_age)), ((y 6), .inl (cI, 16, .inl m_want)), ((y 9), .inl (cI, 16, .inl m_state))]) [0, 1, 2, 3, 4, 5, 6] rfl
      have hD9 := hD.sub (ws' := [((y 0), .inr (8, [.ref (y 1), .int (nI m_tapeSize), .int 0, .ref (y 2), .int m_cycleMany, .int m_vote, .int m_low, .int m_high, .int m_wear, .int m_spare, .int m_places, .int m_cycleNext, .int m_fault, .int m_faultPlace, .int (nI m_givers), .ref (y 3), .ref (y 4), .int u_3, .int (nI m_children), .ref (y 5), .ref (y 6), .ref (y 7), .ref (y 8), .ref (y 9), .int (nI m_coats), .ref (y 10), .ref (y 11), .ref (y 12), .ref (y 13), .int m_years, .int (nI m_legacies), .ref (y 14), .ref (y 15), .ref (y 16), .ref (y 17), .int m_end, .int m_next, .int m_kind, .int m_which, .int m_place, .int m_read, .ref (y 18), .ref (y 19), .int m_readMany, .int m_readHigh, .ref (y 20), .int (nI m_insideMany), .ref (y 21), .ref (y 22), .ref (y 23), .ref (y 24), .ref (y 25)])), ((y 2), .inl (cI, 16, .inl m_cycle)), ((y 3), .inl (cI, 8, .inl m_gave)), ((y 4), .inl (cI, 8, .inl m_supports)), ((y 5), .inl (cI, 16, .inl m_age)), ((y 6), .inl (cI, 16, .inl m_want)), ((y 9), .inl (cI, 16, .inl m_state))]) [0, 1, 2, 3, 4, 5, 6] (by decide) rfl
      exact W.iret (v := (-1)) hx hb hr (fun t ht hW => ⟨⟨_, ((0 : Int32), (u_3 : Int32), (m_cycleNext : Int32), m_state), rfl, ⟨hw_u_3.1, hcn⟩, by rw [ht]; exact hP9, va_K.moved hW.alike hK, hD9⟩, hS.F ht⟩) hS.2.2 dX8_fill_28
  ·
    refine lv_iconst (v := (-1)) hx hb dX8_fill_16 (by decide) ?_
    have hP9 := hP.sub (ws' := [((y 0), .inr (8, [.ref (y 1), .int (nI m_tapeSize), .int 0, .ref (y 2), .int m_cycleMany, .int m_vote, .int m_low, .int m_high, .int m_wear, .int m_spare, .int m_places, .int m_cycleNext, .int m_fault, .int m_faultPlace, .int (nI m_givers), .ref (y 3), .ref (y 4), .int m_giverNext, .int (nI m_children), .ref (y 5), .ref (y 6), .ref (y 7), .ref (y 8), .ref (y 9), .int (nI m_coats), .ref (y 10), .ref (y 11), .ref (y 12), .ref (y 13), .int m_years, .int (nI m_legacies), .ref (y 14), .ref (y 15), .ref (y 16), .ref (y 17), .int m_end, .int m_next, .int m_kind, .int m_which, .int m_place, .int m_read, .ref (y 18), .ref (y 19), .int m_readMany, .int m_readHigh, .ref (y 20), .int (nI m_insideMany), .ref (y 21), .ref (y 22), .ref (y 23), .ref (y 24), .ref (y 25)])), ((y 2), .inl (cI, 16, .inl m_cycle)), ((y 3), .inl (cI, 8, .inl m_gave)), ((y 4), .inl (cI, 8, .inl m_supports)), ((y 5), .inl (cI, 16, .inl m_age)), ((y 6), .inl (cI, 16, .inl m_want)), ((y 9), .inl (cI, 16, .inl m_state))]) [0, 1, 2, 3, 4, 5, 6] rfl
    have hD9 := hD.sub (ws' := [((y 0), .inr (8, [.ref (y 1), .int (nI m_tapeSize), .int 0, .ref (y 2), .int m_cycleMany, .int m_vote, .int m_low, .int m_high, .int m_wear, .int m_spare, .int m_places, .int m_cycleNext, .int m_fault, .int m_faultPlace, .int (nI m_givers), .ref (y 3), .ref (y 4), .int m_giverNext, .int (nI m_children), .ref (y 5), .ref (y 6), .ref (y 7), .ref (y 8), .ref (y 9), .int (nI m_coats), .ref (y 10), .ref (y 11), .ref (y 12), .ref (y 13), .int m_years, .int (nI m_legacies), .ref (y 14), .ref (y 15), .ref (y 16), .ref (y 17), .int m_end, .int m_next, .int m_kind, .int m_which, .int m_place, .int m_read, .ref (y 18), .ref (y 19), .int m_readMany, .int m_readHigh, .ref (y 20), .int (nI m_insideMany), .ref (y 21), .ref (y 22), .ref (y 23), .ref (y 24), .ref (y 25)])), ((y 2), .inl (cI, 16, .inl m_cycle)), ((y 3), .inl (cI, 8, .inl m_gave)), ((y 4), .inl (cI, 8, .inl m_supports)), ((y 5), .inl (cI, 16, .inl m_age)), ((y 6), .inl (cI, 16, .inl m_want)), ((y 9), .inl (cI, 16, .inl m_state))]) [0, 1, 2, 3, 4, 5, 6] (by decide) rfl
    exact W.iret (v := (-1)) hx hb hr (fun t ht hW => ⟨⟨_, ((0 : Int32), (m_giverNext : Int32), (m_cycleNext : Int32), m_state), rfl, ⟨hgn, hcn⟩, by rw [ht]; exact hP9, va_K.moved hW.alike hK, hD9⟩, hS.F ht⟩) hS.2.2 dX8_fill_17

