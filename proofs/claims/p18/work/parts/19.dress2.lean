set_option maxHeartbeats 4000000 in
set_option maxRecDepth 100000 in
theorem g_X2_measure (l : Launch) (D : va_G) (cB cI cJ cZ : ClassId) (sz : Nat) (h0 p0 p1 p3 p4 e9 : Nat) (b5 : Int32) (wd w0 w1 w2 w3 a : Nat) (g0 g2 : Nat → Int32) (sp : Int32) (f3 : Nat → Int32) (f4 : Nat → Int64) (he : e9 ≤ 8) (ha : a ≤ 40) (hz : ∀ k, g2 k = 0 ∨ g2 k = 1) : Met l yX2_measure wsX2_measure ({ frames := 1, cells := 0, slots := 0, locals := 25 } : Room) (cPre D (aTy cB cI cJ cZ) [(h0, .inr (2, [.ref p0, .ref p1, .int (nI e9), .ref p3, .ref p4, .int b5])), (p3, .inl (cI, 8, .inl f3)), (p4, .inl (cJ, 256, .inr (.inl f4))), (wd, .inr (6, [.ref w0, .ref w1, .ref w2, .ref w3, .int (nI a)])), (w0, .inl (cI, 40, .inl g0)), (w2, .inl (cZ, 40, .inl g2))] sz [.ref h0, .ref wd, .int sp]) (va_Qv (fun (u : (Nat → Int64)) => True) (cB_ D (aTy cB cI cJ cZ) (va_A [(h0, .inr (2, [.ref p0, .ref p1, .int (nI e9), .ref p3, .ref p4, .int b5])), (p3, .inl (cI, 8, .inl f3)), (p4, .inl (cJ, 256, .inr (.inl f4))), (wd, .inr (6, [.ref w0, .ref w1, .ref w2, .ref w3, .int (nI a)])), (w0, .inl (cI, 40, .inl g0)), (w2, .inl (cZ, 40, .inl g2))] sz) (fun u => [(h0, .inr (2, [.ref p0, .ref p1, .int (nI e9), .ref p3, .ref p4, .int b5])), (p3, .inl (cI, 8, .inl f3)), (p4, .inl (cJ, 256, .inr (.inl u))), (wd, .inr (6, [.ref w0, .ref w1, .ref w2, .ref w3, .int (nI a)])), (w0, .inl (cI, 40, .inl g0)), (w2, .inl (cZ, 40, .inl g2))])) (va_A [(h0, .inr (2, [.ref p0, .ref p1, .int (nI e9), .ref p3, .ref p4, .int b5])), (p3, .inl (cI, 8, .inl f3)), (p4, .inl (cJ, 256, .inr (.inl f4))), (wd, .inr (6, [.ref w0, .ref w1, .ref w2, .ref w3, .int (nI a)])), (w0, .inl (cI, 40, .inl g0)), (w2, .inl (cZ, 40, .inl g2))] sz)) 0 0 (va_A [(h0, .inr (2, [.ref p0, .ref p1, .int (nI e9), .ref p3, .ref p4, .int b5])), (p3, .inl (cI, 8, .inl f3)), (p4, .inl (cJ, 256, .inr (.inl f4))), (wd, .inr (6, [.ref w0, .ref w1, .ref w2, .ref w3, .int (nI a)])), (w0, .inl (cI, 40, .inl g0)), (w2, .inl (cZ, 40, .inl g2))] sz) := by
  refine Met.ofW (cc := cX2_measure) (maxL := 7) (ret := none) (by decide) rfl ?_
  intro p e s m args below meth c s₁ B hml hv
  obtain ⟨rfl, hsz, hP, hK, hD0⟩ := hv
  have hx := B.exec
  have hb := B.bytes
  have hr := B.returns
  have hts := atoms_spec (ws := wsX2_measure) B.pre
  have hown : s.vm.findClass RX2 = some m.cls := findClass_of_methodNamed B.named
  have hlocks := B.notSynchronized
  subst hsz
  have hD := hD0.self (sz := s.heap.size)
  generalize hAe : va_A [(h0, .inr (2, [.ref p0, .ref p1, .int (nI e9), .ref p3, .ref p4, .int b5])), (p3, .inl (cI, 8, .inl f3)), (p4, .inl (cJ, 256, .inr (.inl f4))), (wd, .inr (6, [.ref w0, .ref w1, .ref w2, .ref w3, .int (nI a)])), (w0, .inl (cI, 40, .inl g0)), (w2, .inl (cZ, 40, .inl g2))] s.heap.size = A at hD ⊢
  have hA : ∀ q : Nat, s.heap.size ≤ q → A q := fun q h => by rw [← hAe]; exact Or.inr h
  have hS : va_S A s.heap s.heap [] := va_S.rf
  have hP : va_P D vwCl [(h0, .inr (2, [.ref p0, .ref p1, .int (nI e9), .ref p3, .ref p4, .int b5])), (p3, .inl (cI, 8, .inl f3)), (p4, .inl (cJ, 256, .inr (.inl f4))), (wd, .inr (6, [.ref w0, .ref w1, .ref w2, .ref w3, .int (nI a)])), (w0, .inl (cI, 40, .inl g0)), (w2, .inl (cZ, 40, .inl g2))] s.heap := hP
  have w_1 : ∀ w ∈ wsX20, w ∈ wsX2_measure := by decide +kernel
  have w_2 := hts (Cond.fieldLink RX2 21 "BlueCoats$Dressing" "fitting" "[J") (by decide +kernel)
  have w_3 := hts (Cond.fieldLink RX2 39 "BlueCoats$Dressing" "guests" "I") (by decide +kernel)
  have w_4 := hts (Cond.fieldLink RX2 18 "BlueCoats$Dressing" "size" "[I") (by decide +kernel)
  have hl := lv_entry ([.ref h0, .ref wd, .int sp]) (n := 7) (Nat.le_of_ble_eq_true rfl)
  rw [lg_entry_eq]
  generalize (lg_sl ([.ref h0, .ref wd, .int sp]) ++ List.replicate (7 - (lg_sl ([.ref h0, .ref wd, .int sp])).length) Slot.unset).toArray = ls at hl ⊢
  have hl : lv_has ls 7 [(0, .ref h0), (1, .ref wd), (2, .int sp)] := hl
  generalize hQ : MQ below _ _ s _ _ _ = Q0
  refine lv_aload_n hx hb dX2_measure_0 rfl (lv_at hl 0 rfl) ?_
  refine va_get (D := D) (ci := 2) (v := .ref p4) (C := RX2) (T := TX2) (N := 6) hx hb hts w_1 hown hK hP 0 rfl rfl 4 (by decide) w_2 (fun _ h9 => h9) rfl dX2_measure_1 ?_
  refine lv_iconst (v := 0) hx hb dX2_measure_4 (by decide) ?_
  refine lv_lconst (v := 0) hx hb dX2_measure_5 (by decide) ?_
  refine sv_last hx hb hK hP hD hS 2 2 rfl rfl (vp_in_iff.mpr (by decide)) dX2_measure_6 (fun g_1 H locs eg_1 hP hD hS => ?_)
  have hP : va_P D vwCl [(h0, .inr (2, [.ref p0, .ref p1, .int (nI e9), .ref p3, .ref p4, .int b5])), (p3, .inl (cI, 8, .inl f3)), (p4, .inl (cJ, 256, .inr (.inl g_1))), (wd, .inr (6, [.ref w0, .ref w1, .ref w2, .ref w3, .int (nI a)])), (w0, .inl (cI, 40, .inl g0)), (w2, .inl (cZ, 40, .inl g2))] H := hP
  have hD : va_D A [(h0, .inr (2, [.ref p0, .ref p1, .int (nI e9), .ref p3, .ref p4, .int b5])), (p3, .inl (cI, 8, .inl f3)), (p4, .inl (cJ, 256, .inr (.inl g_1))), (wd, .inr (6, [.ref w0, .ref w1, .ref w2, .ref w3, .int (nI a)])), (w0, .inl (cI, 40, .inl g0)), (w2, .inl (cZ, 40, .inl g2))] := hD
  refine lv_iconst (v := 0) hx hb dX2_measure_7 (by decide) ?_
  refine lv_istore_n (lv' := [(3, .int 0), (0, .ref h0), (1, .ref wd), (2, .int sp)]) hx hb dX2_measure_8 rfl hl (by decide) rfl (fun ls hl => ?_)
  have L_2 : ∀ (n : Nat) (i_9 : Int32) (f_p4_9 : Nat → Int64) (H : Heap) (locs : List Loc) (ls : Array Slot), (Int32.toInt (nI e9) - i_9.toInt).toNat < n → 0 ≤ i_9.toInt → va_P D vwCl [(h0, .inr (2, [.ref p0, .ref p1, .int (nI e9), .ref p3, .ref p4, .int b5])), (p3, .inl (cI, 8, .inl f3)), (p4, .inl (cJ, 256, .inr (.inl f_p4_9))), (wd, .inr (6, [.ref w0, .ref w1, .ref w2, .ref w3, .int (nI a)])), (w0, .inl (cI, 40, .inl g0)), (w2, .inl (cZ, 40, .inl g2))] H → va_D A [(h0, .inr (2, [.ref p0, .ref p1, .int (nI e9), .ref p3, .ref p4, .int b5])), (p3, .inl (cI, 8, .inl f3)), (p4, .inl (cJ, 256, .inr (.inl f_p4_9))), (wd, .inr (6, [.ref w0, .ref w1, .ref w2, .ref w3, .int (nI a)])), (w0, .inl (cI, 40, .inl g0)), (w2, .inl (cZ, 40, .inl g2))] → va_S A s.heap H locs → lv_has ls 7 [(0, .ref h0), (1, .ref wd), (2, .int sp), (3, .int i_9)] → W p l e (headSpec wsX2_measure ({ frames := 1, cells := 0, slots := 0, locals := 25 } : Room)).room s m ([.ref h0, .ref wd, .int sp] : List Value).toArray below meth c H locs 0 0 Q0 (F0 m 9 ls []) := by
    intro n
    induction n with
    | zero => intro i_9 f_p4_9 H locs ls hn_9 hlo_9 hP hD hS hl; exact absurd hn_9 (Nat.not_lt_zero _)
    | succ n ih_L_2 =>
      intro i_9 f_p4_9 H locs ls hn_9 hlo_9 hP hD hS hl
      refine lv_iload_n hx hb dX2_measure_9 rfl (lv_at hl 3 rfl) ?_
      refine lv_aload_n hx hb dX2_measure_10 rfl (lv_at hl 0 rfl) ?_
      refine va_get (D := D) (ci := 2) (v := .int (nI e9)) (C := RX2) (T := TX2) (N := 6) hx hb hts w_1 hown hK hP 0 rfl rfl 2 (by decide) w_3 (fun _ h9 => h9) rfl dX2_measure_11 ?_
      refine lv_icmp_ge (tgt := 74) hx hb dX2_measure_14 (by decide) (fun c_14 => ?_) (fun c_14 => ?_)
      ·
        rw [← hQ]
        have hP9 := hP.sub (ws' := [(h0, .inr (2, [.ref p0, .ref p1, .int (nI e9), .ref p3, .ref p4, .int b5])), (p3, .inl (cI, 8, .inl f3)), (p4, .inl (cJ, 256, .inr (.inl f_p4_9))), (wd, .inr (6, [.ref w0, .ref w1, .ref w2, .ref w3, .int (nI a)])), (w0, .inl (cI, 40, .inl g0)), (w2, .inl (cZ, 40, .inl g2))]) [0, 1, 2, 3, 4, 5] rfl
        have hD9 := hD.sub (ws' := [(h0, .inr (2, [.ref p0, .ref p1, .int (nI e9), .ref p3, .ref p4, .int b5])), (p3, .inl (cI, 8, .inl f3)), (p4, .inl (cJ, 256, .inr (.inl f_p4_9))), (wd, .inr (6, [.ref w0, .ref w1, .ref w2, .ref w3, .int (nI a)])), (w0, .inl (cI, 40, .inl g0)), (w2, .inl (cZ, 40, .inl g2))]) [0, 1, 2, 3, 4, 5] (by decide) rfl
        exact W.vret hx hb hr (fun t ht hW => ⟨⟨f_p4_9, rfl, trivial, by rw [ht]; exact hP9, va_K.moved hW.alike hK, hD9⟩, hS.F ht⟩) hS.2.2 dX2_measure_74
      ·
        refine lv_aload_n hx hb dX2_measure_17 rfl (lv_at hl 1 rfl) ?_
        refine lv_aload_n hx hb dX2_measure_18 rfl (lv_at hl 0 rfl) ?_
        refine va_get (D := D) (ci := 2) (v := .ref p3) (C := RX2) (T := TX2) (N := 6) hx hb hts w_1 hown hK hP 0 rfl rfl 3 (by decide) w_4 (fun _ h9 => h9) rfl dX2_measure_19 ?_
        refine lv_iload_n hx hb dX2_measure_22 rfl (lv_at hl 3 rfl) ?_
        refine sv_iald (v := f3 i_9.toNatClampNeg) hx hb hK hP 1 1 rfl rfl (lp_inN hlo_9 c_14 he (by decide)) rfl dX2_measure_23 ?_
        refine lv_topi (fun v_3 ev_3 => ?_)
        refine lv_iload_n hx hb dX2_measure_24 rfl (lv_at hl 2 rfl) ?_
        refine vp_callSl (va_Run.run (va_runV (As := [.int v_3, .int sp]) (rest := []) ⟨hx, hb, hml, hown, hts⟩ (g_X6_fit l D cB cI cJ cZ wd w0 w1 w2 w3 a g0 (fun _ => 0) g2 (fun _ => 0) v_3 sp (by omega) hz) (cwV 2 hts gX2_measure_X6_fitting rfl rfl rfl (by decide +kernel) ⟨Nat.le_of_ble_eq_true rfl, Nat.le_of_ble_eq_true rfl⟩) (pre_VR (hP.sub (ws' := [(wd, .inr (6, [.ref w0, .ref w1, .ref w2, .ref w3, .int (nI a)])), (w0, .inl (cI, 40, .inl g0)), (w2, .inl (cZ, 40, .inl g2))]) [3, 4, 5] rfl) hK 0 rfl rfl rfl) rfl rfl hl.1 rfl (lv_room (Nat.le_of_ble_eq_true rfl)) dX2_measure_25 ⟨Nat.le_of_ble_eq_true rfl, Nat.le_of_ble_eq_true rfl⟩)) (fun r_4 hw_r_4 => ?_)
        refine lv_lstore (lv' := [(4, .long r_4), (0, .ref h0), (1, .ref wd), (2, .int sp), (3, .int i_9)]) hx hb dX2_measure_28 hl (by decide) rfl (fun ls hl => ?_)
        refine lv_iconst (v := 0) hx hb dX2_measure_30 (by decide) ?_
        refine lv_istore (lv' := [(6, .int 0), (4, .long r_4), (0, .ref h0), (1, .ref wd), (2, .int sp), (3, .int i_9)]) hx hb dX2_measure_31 hl (by decide) rfl (fun ls hl => ?_)
        have L_5 : ∀ (n : Nat) (i_33 : Int32) (f_p4_33 : Nat → Int64) (H : Heap) (locs : List Loc) (ls : Array Slot), (Int32.toInt ((1 : Int32) <<< (i_9 &&& 31)) - i_33.toInt).toNat < n → 0 ≤ i_33.toInt → va_P D vwCl [(h0, .inr (2, [.ref p0, .ref p1, .int (nI e9), .ref p3, .ref p4, .int b5])), (p3, .inl (cI, 8, .inl f3)), (p4, .inl (cJ, 256, .inr (.inl f_p4_33))), (wd, .inr (6, [.ref w0, .ref w1, .ref w2, .ref w3, .int (nI a)])), (w0, .inl (cI, 40, .inl g0)), (w2, .inl (cZ, 40, .inl g2))] H → va_D A [(h0, .inr (2, [.ref p0, .ref p1, .int (nI e9), .ref p3, .ref p4, .int b5])), (p3, .inl (cI, 8, .inl f3)), (p4, .inl (cJ, 256, .inr (.inl f_p4_33))), (wd, .inr (6, [.ref w0, .ref w1, .ref w2, .ref w3, .int (nI a)])), (w0, .inl (cI, 40, .inl g0)), (w2, .inl (cZ, 40, .inl g2))] → va_S A s.heap H locs → lv_has ls 7 [(0, .ref h0), (1, .ref wd), (2, .int sp), (3, .int i_9), (4, .long r_4), (6, .int i_33)] → W p l e (headSpec wsX2_measure ({ frames := 1, cells := 0, slots := 0, locals := 25 } : Room)).room s m ([.ref h0, .ref wd, .int sp] : List Value).toArray below meth c H locs 0 0 Q0 (F0 m 33 ls []) := by
          intro n
          induction n with
          | zero => intro i_33 f_p4_33 H locs ls hn_33 hlo_33 hP hD hS hl; exact absurd hn_33 (Nat.not_lt_zero _)
          | succ n ih_L_5 =>
            intro i_33 f_p4_33 H locs ls hn_33 hlo_33 hP hD hS hl
            refine lv_iload hx hb dX2_measure_33 (lv_at hl 5 rfl) ?_
            refine lv_iconst (v := 1) hx hb dX2_measure_35 (by decide) ?_
            refine lv_iload_n hx hb dX2_measure_36 rfl (lv_at hl 3 rfl) ?_
            refine sv_ishl (v := (1 : Int32) <<< (i_9 &&& 31)) hx hb dX2_measure_37 rfl ?_
            refine lv_icmp_ge (tgt := 68) hx hb dX2_measure_38 (by decide) (fun c_38 => ?_) (fun c_38 => ?_)
            ·
              refine lv_iinc (v := i_9 + 1) (lv' := [(3, .int (i_9 + 1)), (0, .ref h0), (1, .ref wd), (2, .int sp), (4, .long r_4), (6, .int i_33)]) hx hb dX2_measure_68 hl (k := 3) rfl rfl (by decide) rfl (fun ls hl => ?_)
              refine lv_goto (tgt := 9) hx hb dX2_measure_71 (by decide) ?_
              exact ih_L_2 (i_9 + 1) f_p4_33 _ _ ls (lp_dec hn_9 c_14) (by have h9 := lp_inc c_14; omega) hP hD hS (lv_sub hl [1, 2, 3, 0] rfl)
            ·
              refine lv_aload_n hx hb dX2_measure_41 rfl (lv_at hl 0 rfl) ?_
              refine va_get (D := D) (ci := 2) (v := .ref p4) (C := RX2) (T := TX2) (N := 6) hx hb hts w_1 hown hK hP 0 rfl rfl 4 (by decide) w_2 (fun _ h9 => h9) rfl dX2_measure_42 ?_
              refine lv_iload hx hb dX2_measure_45 (lv_at hl 5 rfl) ?_
              refine lv_iconst (v := 1) hx hb dX2_measure_47 (by decide) ?_
              refine lv_iload_n hx hb dX2_measure_48 rfl (lv_at hl 3 rfl) ?_
              refine sv_ishl (v := (1 : Int32) <<< (i_9 &&& 31)) hx hb dX2_measure_49 rfl ?_
              refine sv_ior (v := i_33 ||| ((1 : Int32) <<< (i_9 &&& 31))) hx hb dX2_measure_50 rfl ?_
              refine lv_topi (fun v_6 ev_6 => ?_)
              refine lv_aload_n hx hb dX2_measure_51 rfl (lv_at hl 0 rfl) ?_
              refine va_get (D := D) (ci := 2) (v := .ref p4) (C := RX2) (T := TX2) (N := 6) hx hb hts w_1 hown hK hP 0 rfl rfl 4 (by decide) w_2 (fun _ h9 => h9) rfl dX2_measure_52 ?_
              refine lv_iload hx hb dX2_measure_55 (lv_at hl 5 rfl) ?_
              refine sv_lald (v := f_p4_33 i_33.toNatClampNeg) hx hb hK hP 2 2 rfl rfl (lp_inB hlo_33 c_38 (in_up (sh8 (lp_inN hlo_9 c_14 he (by decide))) (by decide))) rfl dX2_measure_57 ?_
              refine lv_topl (fun v_7 ev_7 => ?_)
              refine lv_lload hx hb dX2_measure_58 (lv_at hl 4 rfl) ?_
              refine lv_lor hx hb dX2_measure_60 ?_
              refine lv_topl (fun v_8 ev_8 => ?_)
              refine sv_last hx hb hK hP hD hS 2 2 rfl rfl (by rw [ev_6]; exact (i_or256 (lp_inB hlo_33 c_38 (in_up (sh8 (lp_inN hlo_9 c_14 he (by decide))) (by decide))) (in_up (sh8 (lp_inN hlo_9 c_14 he (by decide))) (by decide)))) dX2_measure_61 (fun g_9 H locs eg_9 hP hD hS => ?_)
              have hP : va_P D vwCl [(h0, .inr (2, [.ref p0, .ref p1, .int (nI e9), .ref p3, .ref p4, .int b5])), (p3, .inl (cI, 8, .inl f3)), (p4, .inl (cJ, 256, .inr (.inl g_9))), (wd, .inr (6, [.ref w0, .ref w1, .ref w2, .ref w3, .int (nI a)])), (w0, .inl (cI, 40, .inl g0)), (w2, .inl (cZ, 40, .inl g2))] H := hP
              have hD : va_D A [(h0, .inr (2, [.ref p0, .ref p1, .int (nI e9), .ref p3, .ref p4, .int b5])), (p3, .inl (cI, 8, .inl f3)), (p4, .inl (cJ, 256, .inr (.inl g_9))), (wd, .inr (6, [.ref w0, .ref w1, .ref w2, .ref w3, .int (nI a)])), (w0, .inl (cI, 40, .inl g0)), (w2, .inl (cZ, 40, .inl g2))] := hD
              refine lv_iinc (v := i_33 + 1) (lv' := [(6, .int (i_33 + 1)), (0, .ref h0), (1, .ref wd), (2, .int sp), (3, .int i_9), (4, .long r_4)]) hx hb dX2_measure_62 hl (k := 5) rfl rfl (by decide) rfl (fun ls hl => ?_)
              refine lv_goto (tgt := 33) hx hb dX2_measure_65 (by decide) ?_
              exact ih_L_5 (i_33 + 1) g_9 _ _ ls (lp_dec hn_33 c_38) (by have h9 := lp_inc c_38; omega) hP hD hS (lv_sub hl [1, 2, 3, 4, 5, 0] rfl)
        exact L_5 _ 0 f_p4_9 _ _ ls (Nat.lt_succ_self _) (by decide) hP hD hS (lv_sub hl [2, 3, 4, 5, 1, 0] rfl)
  exact L_2 _ 0 g_1 _ _ ls (Nat.lt_succ_self _) (by decide) hP hD hS (lv_sub hl [1, 2, 3, 0] rfl)

set_option maxHeartbeats 4000000 in
set_option maxRecDepth 100000 in
theorem g_X2_dressed (l : Launch) (D : va_G) (cB cI cJ cZ : ClassId) (sz : Nat) (h0 p0 p1 p3 p4 e9 : Nat) (b5 : Int32) (f3 : Nat → Int32) (f4 : Nat → Int64) (he : e9 ≤ 8) : Met l yX2_chooseDressed wsX2_chooseDressed ({ frames := 2, cells := 0, slots := 0, locals := 43 } : Room) (cPre D (aTy cB cI cJ cZ) [(h0, .inr (2, [.ref p0, .ref p1, .int (nI e9), .ref p3, .ref p4, .int b5])), (p3, .inl (cI, 8, .inl f3)), (p4, .inl (cJ, 256, .inr (.inl f4)))] sz [.ref h0]) (va_Qv (fun (u : Int32) => True) (cB_ D (aTy cB cI cJ cZ) (va_A [(h0, .inr (2, [.ref p0, .ref p1, .int (nI e9), .ref p3, .ref p4, .int b5])), (p3, .inl (cI, 8, .inl f3)), (p4, .inl (cJ, 256, .inr (.inl f4)))] sz) (fun u => [(h0, .inr (2, [.ref p0, .ref p1, .int (nI e9), .ref p3, .ref p4, .int (u)])), (p3, .inl (cI, 8, .inl f3)), (p4, .inl (cJ, 256, .inr (.inl f4)))])) (va_A [(h0, .inr (2, [.ref p0, .ref p1, .int (nI e9), .ref p3, .ref p4, .int b5])), (p3, .inl (cI, 8, .inl f3)), (p4, .inl (cJ, 256, .inr (.inl f4)))] sz)) 0 0 (va_A [(h0, .inr (2, [.ref p0, .ref p1, .int (nI e9), .ref p3, .ref p4, .int b5])), (p3, .inl (cI, 8, .inl f3)), (p4, .inl (cJ, 256, .inr (.inl f4)))] sz) := by
  refine Met.ofW (cc := cX2_chooseDressed) (maxL := 4) (ret := none) (by decide) rfl ?_
  intro p e s m args below meth c s₁ B hml hv
  obtain ⟨rfl, hsz, hP, hK, hD0⟩ := hv
  have hx := B.exec
  have hb := B.bytes
  have hr := B.returns
  have hts := atoms_spec (ws := wsX2_chooseDressed) B.pre
  have hown : s.vm.findClass RX2 = some m.cls := findClass_of_methodNamed B.named
  have hlocks := B.notSynchronized
  subst hsz
  have hD := hD0.self (sz := s.heap.size)
  generalize hAe : va_A [(h0, .inr (2, [.ref p0, .ref p1, .int (nI e9), .ref p3, .ref p4, .int b5])), (p3, .inl (cI, 8, .inl f3)), (p4, .inl (cJ, 256, .inr (.inl f4)))] s.heap.size = A at hD ⊢
  have hA : ∀ q : Nat, s.heap.size ≤ q → A q := fun q h => by rw [← hAe]; exact Or.inr h
  have hS : va_S A s.heap s.heap [] := va_S.rf
  have hP : va_P D vwCl [(h0, .inr (2, [.ref p0, .ref p1, .int (nI e9), .ref p3, .ref p4, .int b5])), (p3, .inl (cI, 8, .inl f3)), (p4, .inl (cJ, 256, .inr (.inl f4)))] s.heap := hP
  have w_1 : ∀ w ∈ wsX20, w ∈ wsX2_chooseDressed := by decide +kernel
  have w_2 := hts (Cond.fieldLink RX2 43 "BlueCoats$Dressing" "dressed" "I") (by decide +kernel)
  have w_3 := hts (Cond.fieldLink RX2 39 "BlueCoats$Dressing" "guests" "I") (by decide +kernel)
  have hl := lv_entry ([.ref h0]) (n := 4) (Nat.le_of_ble_eq_true rfl)
  rw [lg_entry_eq]
  generalize (lg_sl ([.ref h0]) ++ List.replicate (4 - (lg_sl ([.ref h0])).length) Slot.unset).toArray = ls at hl ⊢
  have hl : lv_has ls 4 [(0, .ref h0)] := hl
  generalize hQ : MQ below _ _ s _ _ _ = Q0
  refine lv_aload_n hx hb dX2_chooseDressed_0 rfl (lv_at hl 0 rfl) ?_
  refine lv_iconst (v := 0) hx hb dX2_chooseDressed_1 (by decide) ?_
  refine va_put (D := D) (ci := 2) (v := .int 0) (ty := .int) (C := RX2) (T := TX2) (N := 6) hx hb hts w_1 tyX2 tyX2_ok nmX2 hown hK hP hD hS 0 rfl rfl 5 (by decide) w_2 (fun _ h9 => h9) rfl (by decide +kernel) rfl rfl (Nat.le_of_ble_eq_true rfl) dX2_chooseDressed_2 (fun H locs hP hD hS => ?_)
  have hP : va_P D vwCl [(h0, .inr (2, [.ref p0, .ref p1, .int (nI e9), .ref p3, .ref p4, .int 0])), (p3, .inl (cI, 8, .inl f3)), (p4, .inl (cJ, 256, .inr (.inl f4)))] H := hP
  have hD : va_D A [(h0, .inr (2, [.ref p0, .ref p1, .int (nI e9), .ref p3, .ref p4, .int 0])), (p3, .inl (cI, 8, .inl f3)), (p4, .inl (cJ, 256, .inr (.inl f4)))] := hD
  refine lv_iconst (v := 0) hx hb dX2_chooseDressed_5 (by decide) ?_
  refine lv_istore_n (lv' := [(1, .int 0), (0, .ref h0)]) hx hb dX2_chooseDressed_6 rfl hl (by decide) rfl (fun ls hl => ?_)
  refine lv_iconst (v := 0) hx hb dX2_chooseDressed_7 (by decide) ?_
  refine lv_istore_n (lv' := [(2, .int 0), (1, .int 0), (0, .ref h0)]) hx hb dX2_chooseDressed_8 rfl hl (by decide) rfl (fun ls hl => ?_)
  have L_1 : ∀ (n : Nat) (i_9 : Int32) (t_h0_5_9 : Int32) (l_1_9 : Int32) (H : Heap) (locs : List Loc) (ls : Array Slot), (Int32.toInt (nI e9) - i_9.toInt).toNat < n → 0 ≤ i_9.toInt → va_P D vwCl [(h0, .inr (2, [.ref p0, .ref p1, .int (nI e9), .ref p3, .ref p4, .int t_h0_5_9])), (p3, .inl (cI, 8, .inl f3)), (p4, .inl (cJ, 256, .inr (.inl f4)))] H → va_D A [(h0, .inr (2, [.ref p0, .ref p1, .int (nI e9), .ref p3, .ref p4, .int t_h0_5_9])), (p3, .inl (cI, 8, .inl f3)), (p4, .inl (cJ, 256, .inr (.inl f4)))] → va_S A s.heap H locs → lv_has ls 4 [(0, .ref h0), (1, .int l_1_9), (2, .int i_9)] → W p l e (headSpec wsX2_chooseDressed ({ frames := 2, cells := 0, slots := 0, locals := 43 } : Room)).room s m ([.ref h0] : List Value).toArray below meth c H locs 0 0 Q0 (F0 m 9 ls []) := by
    intro n
    induction n with
    | zero => intro i_9 t_h0_5_9 l_1_9 H locs ls hn_9 hlo_9 hP hD hS hl; exact absurd hn_9 (Nat.not_lt_zero _)
    | succ n ih_L_1 =>
      intro i_9 t_h0_5_9 l_1_9 H locs ls hn_9 hlo_9 hP hD hS hl
      refine lv_iload_n hx hb dX2_chooseDressed_9 rfl (lv_at hl 2 rfl) ?_
      refine lv_aload_n hx hb dX2_chooseDressed_10 rfl (lv_at hl 0 rfl) ?_
      refine va_get (D := D) (ci := 2) (v := .int (nI e9)) (C := RX2) (T := TX2) (N := 6) hx hb hts w_1 hown hK hP 0 rfl rfl 2 (by decide) w_3 (fun _ h9 => h9) rfl dX2_chooseDressed_11 ?_
      refine lv_icmp_ge (tgt := 62) hx hb dX2_chooseDressed_14 (by decide) (fun c_14 => ?_) (fun c_14 => ?_)
      ·
        rw [← hQ]
        have hP9 := hP.sub (ws' := [(h0, .inr (2, [.ref p0, .ref p1, .int (nI e9), .ref p3, .ref p4, .int t_h0_5_9])), (p3, .inl (cI, 8, .inl f3)), (p4, .inl (cJ, 256, .inr (.inl f4)))]) [0, 1, 2] rfl
        have hD9 := hD.sub (ws' := [(h0, .inr (2, [.ref p0, .ref p1, .int (nI e9), .ref p3, .ref p4, .int t_h0_5_9])), (p3, .inl (cI, 8, .inl f3)), (p4, .inl (cJ, 256, .inr (.inl f4)))]) [0, 1, 2] (by decide) rfl
        exact W.vret hx hb hr (fun t ht hW => ⟨⟨(t_h0_5_9 : Int32), rfl, trivial, by rw [ht]; exact hP9, va_K.moved hW.alike hK, hD9⟩, hS.F ht⟩) hS.2.2 dX2_chooseDressed_62
      ·
        refine lv_aload_n hx hb dX2_chooseDressed_17 rfl (lv_at hl 0 rfl) ?_
        refine lv_iload_n hx hb dX2_chooseDressed_18 rfl (lv_at hl 1 rfl) ?_
        refine vp_callSi (va_Run.run (va_runV (As := [.int l_1_9]) (rest := []) ⟨hx, hb, hml, hown, hts⟩ (g_X2_great l D cB cI cJ cZ h0 p0 p1 p3 p4 e9 t_h0_5_9 f3 l_1_9 he) (cwV 1 hts gX2_chooseDressed_X2_greatestBut rfl rfl rfl (by decide +kernel) ⟨Nat.le_of_ble_eq_true rfl, Nat.le_of_ble_eq_true rfl⟩) (pre_VR (hP.sub (ws' := [(h0, .inr (2, [.ref p0, .ref p1, .int (nI e9), .ref p3, .ref p4, .int t_h0_5_9])), (p3, .inl (cI, 8, .inl f3))]) [0, 1] rfl) hK 0 rfl rfl rfl) rfl rfl hl.1 rfl (lv_room (Nat.le_of_ble_eq_true rfl)) dX2_chooseDressed_19 ⟨Nat.le_of_ble_eq_true rfl, Nat.le_of_ble_eq_true rfl⟩)) (fun r_2 hw_r_2 => ?_)
        refine lv_istore_n (lv' := [(3, .int r_2), (0, .ref h0), (1, .int l_1_9), (2, .int i_9)]) hx hb dX2_chooseDressed_22 rfl hl (by decide) rfl (fun ls hl => ?_)
        refine lv_iload_n hx hb dX2_chooseDressed_23 rfl (lv_at hl 2 rfl) ?_
        refine lv_iconst (v := 1) hx hb dX2_chooseDressed_24 (by decide) ?_
        refine lv_iload_n hx hb dX2_chooseDressed_25 rfl (lv_at hl 0 rfl) ?_
        refine sv_ishl (v := 1 <<< (r_2 &&& 31)) hx hb dX2_chooseDressed_26 rfl ?_
        refine lv_topi (fun v_3 ev_3 => ?_)
        refine sv_ior (v := l_1_9 ||| v_3) hx hb dX2_chooseDressed_27 rfl ?_
        refine lv_topi (fun v_4 ev_4 => ?_)
        refine lv_istore_n (lv' := [(1, .int v_4), (3, .int r_2), (0, .ref h0), (2, .int i_9)]) hx hb dX2_chooseDressed_28 rfl hl (by decide) rfl (fun ls hl => ?_)
        refine lv_aload_n hx hb dX2_chooseDressed_29 rfl (lv_at hl 2 rfl) ?_
        refine lv_aload_n hx hb dX2_chooseDressed_30 rfl (lv_at hl 2 rfl) ?_
        refine va_get (D := D) (ci := 2) (v := .int t_h0_5_9) (C := RX2) (T := TX2) (N := 6) hx hb hts w_1 hown hK hP 0 rfl rfl 5 (by decide) w_2 (fun _ h9 => h9) rfl dX2_chooseDressed_31 ?_
        refine lv_iconst (v := 1) hx hb dX2_chooseDressed_34 (by decide) ?_
        refine lv_iload_n hx hb dX2_chooseDressed_35 rfl (lv_at hl 1 rfl) ?_
        refine sv_ishl (v := 1 <<< (r_2 &&& 31)) hx hb dX2_chooseDressed_36 rfl ?_
        refine lv_topi (fun v_5 ev_5 => ?_)
        refine sv_ior (v := t_h0_5_9 ||| v_5) hx hb dX2_chooseDressed_37 rfl ?_
        refine lv_topi (fun v_6 ev_6 => ?_)
        refine vp_callSi (va_Run.run (va_runV (As := [.int v_6]) (rest := []) ⟨hx, hb, hml, hown, hts⟩ (g_X2_can l D cB cI cJ cZ h0 p0 p1 p3 p4 e9 t_h0_5_9 f4 v_6 he) (cwV 1 hts gX2_chooseDressed_X2_canDress rfl rfl rfl (by decide +kernel) ⟨Nat.le_of_ble_eq_true rfl, Nat.le_of_ble_eq_true rfl⟩) (pre_VR (hP.sub (ws' := [(h0, .inr (2, [.ref p0, .ref p1, .int (nI e9), .ref p3, .ref p4, .int t_h0_5_9])), (p4, .inl (cJ, 256, .inr (.inl f4)))]) [0, 2] rfl) hK 0 rfl rfl rfl) rfl rfl hl.1 rfl (lv_room (Nat.le_of_ble_eq_true rfl)) dX2_chooseDressed_38 ⟨Nat.le_of_ble_eq_true rfl, Nat.le_of_ble_eq_true rfl⟩)) (fun r_7 hw_r_7 => ?_)
        refine lv_if_eq (tgt := 56) hx hb dX2_chooseDressed_41 (by decide) (fun c_41 => ?_) (fun c_41 => ?_)
        ·
          refine lv_iinc (v := i_9 + 1) (lv' := [(2, .int (i_9 + 1)), (1, .int v_4), (3, .int r_2), (0, .ref h0)]) hx hb dX2_chooseDressed_56 hl (k := 3) rfl rfl (by decide) rfl (fun ls hl => ?_)
          refine lv_goto (tgt := 9) hx hb dX2_chooseDressed_59 (by decide) ?_
          exact ih_L_1 (i_9 + 1) t_h0_5_9 v_4 _ _ ls (lp_dec hn_9 c_14) (by have h9 := lp_inc c_14; omega) hP hD hS (lv_sub hl [3, 1, 0] rfl)
        ·
          refine lv_aload_n hx hb dX2_chooseDressed_44 rfl (lv_at hl 2 rfl) ?_
          refine lv_dup hx hb dX2_chooseDressed_45 rfl ?_
          refine va_get (D := D) (ci := 2) (v := .int t_h0_5_9) (C := RX2) (T := TX2) (N := 6) hx hb hts w_1 hown hK hP 0 rfl rfl 5 (by decide) w_2 (fun _ h9 => h9) rfl dX2_chooseDressed_46 ?_
          refine lv_iconst (v := 1) hx hb dX2_chooseDressed_49 (by decide) ?_
          refine lv_iload_n hx hb dX2_chooseDressed_50 rfl (lv_at hl 1 rfl) ?_
          refine sv_ishl (v := 1 <<< (r_2 &&& 31)) hx hb dX2_chooseDressed_51 rfl ?_
          refine lv_topi (fun v_8 ev_8 => ?_)
          refine sv_ior (v := t_h0_5_9 ||| v_8) hx hb dX2_chooseDressed_52 rfl ?_
          refine lv_topi (fun v_9 ev_9 => ?_)
          refine va_put (D := D) (ci := 2) (v := .int v_9) (ty := .int) (C := RX2) (T := TX2) (N := 6) hx hb hts w_1 tyX2 tyX2_ok nmX2 hown hK hP hD hS 0 rfl rfl 5 (by decide) w_2 (fun _ h9 => h9) rfl (by decide +kernel) rfl rfl (Nat.le_of_ble_eq_true rfl) dX2_chooseDressed_53 (fun H locs hP hD hS => ?_)
          have hP : va_P D vwCl [(h0, .inr (2, [.ref p0, .ref p1, .int (nI e9), .ref p3, .ref p4, .int v_9])), (p3, .inl (cI, 8, .inl f3)), (p4, .inl (cJ, 256, .inr (.inl f4)))] H := hP
          have hD : va_D A [(h0, .inr (2, [.ref p0, .ref p1, .int (nI e9), .ref p3, .ref p4, .int v_9])), (p3, .inl (cI, 8, .inl f3)), (p4, .inl (cJ, 256, .inr (.inl f4)))] := hD
          refine lv_iinc (v := i_9 + 1) (lv' := [(2, .int (i_9 + 1)), (1, .int v_4), (3, .int r_2), (0, .ref h0)]) hx hb dX2_chooseDressed_56 hl (k := 3) rfl rfl (by decide) rfl (fun ls hl => ?_)
          refine lv_goto (tgt := 9) hx hb dX2_chooseDressed_59 (by decide) ?_
          exact ih_L_1 (i_9 + 1) v_9 v_4 _ _ ls (lp_dec hn_9 c_14) (by have h9 := lp_inc c_14; omega) hP hD hS (lv_sub hl [3, 1, 0] rfl)
  exact L_1 _ 0 0 0 _ _ ls (Nat.lt_succ_self _) (by decide) hP hD hS (lv_sub hl [2, 1, 0] rfl)

set_option maxHeartbeats 4000000 in
set_option maxRecDepth 100000 in
theorem g_X2_coats (l : Launch) (D : va_G) (cB cI cJ cZ : ClassId) (sz : Nat) (h0 p0 p1 p3 p4 e9 : Nat) (b5 : Int32) (f1 : Nat → Int32) (f4 : Nat → Int64) (he : e9 ≤ 8) : Met l yX2_chooseCoats wsX2_chooseCoats ({ frames := 2, cells := 0, slots := 0, locals := 49 } : Room) (cPre D (aTy cB cI cJ cZ) [(h0, .inr (2, [.ref p0, .ref p1, .int (nI e9), .ref p3, .ref p4, .int b5])), (p1, .inl (cI, 8, .inl f1)), (p4, .inl (cJ, 256, .inr (.inl f4)))] sz [.ref h0]) (va_Qv (fun (u : (Nat → Int32)) => True) (cB_ D (aTy cB cI cJ cZ) (va_A [(h0, .inr (2, [.ref p0, .ref p1, .int (nI e9), .ref p3, .ref p4, .int b5])), (p1, .inl (cI, 8, .inl f1)), (p4, .inl (cJ, 256, .inr (.inl f4)))] sz) (fun u => [(h0, .inr (2, [.ref p0, .ref p1, .int (nI e9), .ref p3, .ref p4, .int b5])), (p1, .inl (cI, 8, .inl u)), (p4, .inl (cJ, 256, .inr (.inl f4)))])) (va_A [(h0, .inr (2, [.ref p0, .ref p1, .int (nI e9), .ref p3, .ref p4, .int b5])), (p1, .inl (cI, 8, .inl f1)), (p4, .inl (cJ, 256, .inr (.inl f4)))] sz)) 0 0 (va_A [(h0, .inr (2, [.ref p0, .ref p1, .int (nI e9), .ref p3, .ref p4, .int b5])), (p1, .inl (cI, 8, .inl f1)), (p4, .inl (cJ, 256, .inr (.inl f4)))] sz) := by
  refine Met.ofW (cc := cX2_chooseCoats) (maxL := 7) (ret := none) (by decide) rfl ?_
  intro p e s m args below meth c s₁ B hml hv
  obtain ⟨rfl, hsz, hP, hK, hD0⟩ := hv
  have hx := B.exec
  have hb := B.bytes
  have hr := B.returns
  have hts := atoms_spec (ws := wsX2_chooseCoats) B.pre
  have hown : s.vm.findClass RX2 = some m.cls := findClass_of_methodNamed B.named
  have hlocks := B.notSynchronized
  subst hsz
  have hD := hD0.self (sz := s.heap.size)
  generalize hAe : va_A [(h0, .inr (2, [.ref p0, .ref p1, .int (nI e9), .ref p3, .ref p4, .int b5])), (p1, .inl (cI, 8, .inl f1)), (p4, .inl (cJ, 256, .inr (.inl f4)))] s.heap.size = A at hD ⊢
  have hA : ∀ q : Nat, s.heap.size ≤ q → A q := fun q h => by rw [← hAe]; exact Or.inr h
  have hS : va_S A s.heap s.heap [] := va_S.rf
  have hP : va_P D vwCl [(h0, .inr (2, [.ref p0, .ref p1, .int (nI e9), .ref p3, .ref p4, .int b5])), (p1, .inl (cI, 8, .inl f1)), (p4, .inl (cJ, 256, .inr (.inl f4)))] s.heap := hP
  have w_1 : ∀ w ∈ wsX20, w ∈ wsX2_chooseCoats := by decide +kernel
  have w_2 := hts (Cond.fieldLink RX2 21 "BlueCoats$Dressing" "fitting" "[J") (by decide +kernel)
  have w_3 := hts (Cond.fieldLink RX2 39 "BlueCoats$Dressing" "guests" "I") (by decide +kernel)
  have w_4 := hts (Cond.fieldLink RX2 15 "BlueCoats$Dressing" "given" "[I") (by decide +kernel)
  have w_5 := hts (Cond.fieldLink RX2 43 "BlueCoats$Dressing" "dressed" "I") (by decide +kernel)
  have w_6 := hts (Cond.constantLong RX2 82 (-1)) (by decide +kernel)
  have hl := lv_entry ([.ref h0]) (n := 7) (Nat.le_of_ble_eq_true rfl)
  rw [lg_entry_eq]
  generalize (lg_sl ([.ref h0]) ++ List.replicate (7 - (lg_sl ([.ref h0])).length) Slot.unset).toArray = ls at hl ⊢
  have hl : lv_has ls 7 [(0, .ref h0)] := hl
  generalize hQ : MQ below _ _ s _ _ _ = Q0
  refine lv_aload_n hx hb dX2_chooseCoats_0 rfl (lv_at hl 0 rfl) ?_
  refine va_get (D := D) (ci := 2) (v := .ref p4) (C := RX2) (T := TX2) (N := 6) hx hb hts w_1 hown hK hP 0 rfl rfl 4 (by decide) w_2 (fun _ h9 => h9) rfl dX2_chooseCoats_1 ?_
  refine lv_iconst (v := 1) hx hb dX2_chooseCoats_4 (by decide) ?_
  refine lv_aload_n hx hb dX2_chooseCoats_5 rfl (lv_at hl 0 rfl) ?_
  refine va_get (D := D) (ci := 2) (v := .int (nI e9)) (C := RX2) (T := TX2) (N := 6) hx hb hts w_1 hown hK hP 0 rfl rfl 2 (by decide) w_3 (fun _ h9 => h9) rfl dX2_chooseCoats_6 ?_
  refine sv_ishl (v := (1 : Int32) <<< (nI e9 &&& 31)) hx hb dX2_chooseCoats_9 rfl ?_
  refine lv_iconst (v := 1) hx hb dX2_chooseCoats_10 (by decide) ?_
  refine sv_isub (v := ((1 : Int32) <<< (nI e9 &&& 31)) - 1) hx hb dX2_chooseCoats_11 rfl ?_
  refine lv_topi (fun v_1 ev_1 => ?_)
  refine sv_lald (v := f4 v_1.toNatClampNeg) hx hb hK hP 2 2 rfl rfl (by rw [ev_1]; exact (sh9 he).2) rfl dX2_chooseCoats_12 ?_
  refine lv_topl (fun v_2 ev_2 => ?_)
  refine lv_lstore_n (lv' := [(1, .long v_2), (0, .ref h0)]) hx hb dX2_chooseCoats_13 rfl hl (by decide) rfl (fun ls hl => ?_)
  refine lv_iconst (v := 0) hx hb dX2_chooseCoats_14 (by decide) ?_
  refine lv_istore_n (lv' := [(3, .int 0), (1, .long v_2), (0, .ref h0)]) hx hb dX2_chooseCoats_15 rfl hl (by decide) rfl (fun ls hl => ?_)
  have L_3 : ∀ (n : Nat) (i_16 : Int32) (f_p1_16 : Nat → Int32) (l_1_16 : Int64) (H : Heap) (locs : List Loc) (ls : Array Slot), (Int32.toInt (nI e9) - i_16.toInt).toNat < n → 0 ≤ i_16.toInt → va_P D vwCl [(h0, .inr (2, [.ref p0, .ref p1, .int (nI e9), .ref p3, .ref p4, .int b5])), (p1, .inl (cI, 8, .inl f_p1_16)), (p4, .inl (cJ, 256, .inr (.inl f4)))] H → va_D A [(h0, .inr (2, [.ref p0, .ref p1, .int (nI e9), .ref p3, .ref p4, .int b5])), (p1, .inl (cI, 8, .inl f_p1_16)), (p4, .inl (cJ, 256, .inr (.inl f4)))] → va_S A s.heap H locs → lv_has ls 7 [(0, .ref h0), (1, .long l_1_16), (3, .int i_16)] → W p l e (headSpec wsX2_chooseCoats ({ frames := 2, cells := 0, slots := 0, locals := 49 } : Room)).room s m ([.ref h0] : List Value).toArray below meth c H locs 0 0 Q0 (F0 m 16 ls []) := by
    intro n
    induction n with
    | zero => intro i_16 f_p1_16 l_1_16 H locs ls hn_16 hlo_16 hP hD hS hl; exact absurd hn_16 (Nat.not_lt_zero _)
    | succ n ih_L_3 =>
      intro i_16 f_p1_16 l_1_16 H locs ls hn_16 hlo_16 hP hD hS hl
      refine lv_iload_n hx hb dX2_chooseCoats_16 rfl (lv_at hl 2 rfl) ?_
      refine lv_aload_n hx hb dX2_chooseCoats_17 rfl (lv_at hl 0 rfl) ?_
      refine va_get (D := D) (ci := 2) (v := .int (nI e9)) (C := RX2) (T := TX2) (N := 6) hx hb hts w_1 hown hK hP 0 rfl rfl 2 (by decide) w_3 (fun _ h9 => h9) rfl dX2_chooseCoats_18 ?_
      refine lv_icmp_ge (tgt := 107) hx hb dX2_chooseCoats_21 (by decide) (fun c_21 => ?_) (fun c_21 => ?_)
      ·
        rw [← hQ]
        have hP9 := hP.sub (ws' := [(h0, .inr (2, [.ref p0, .ref p1, .int (nI e9), .ref p3, .ref p4, .int b5])), (p1, .inl (cI, 8, .inl f_p1_16)), (p4, .inl (cJ, 256, .inr (.inl f4)))]) [0, 1, 2] rfl
        have hD9 := hD.sub (ws' := [(h0, .inr (2, [.ref p0, .ref p1, .int (nI e9), .ref p3, .ref p4, .int b5])), (p1, .inl (cI, 8, .inl f_p1_16)), (p4, .inl (cJ, 256, .inr (.inl f4)))]) [0, 1, 2] (by decide) rfl
        exact W.vret hx hb hr (fun t ht hW => ⟨⟨f_p1_16, rfl, trivial, by rw [ht]; exact hP9, va_K.moved hW.alike hK, hD9⟩, hS.F ht⟩) hS.2.2 dX2_chooseCoats_107
      ·
        refine lv_aload_n hx hb dX2_chooseCoats_24 rfl (lv_at hl 0 rfl) ?_
        refine va_get (D := D) (ci := 2) (v := .ref p1) (C := RX2) (T := TX2) (N := 6) hx hb hts w_1 hown hK hP 0 rfl rfl 1 (by decide) w_4 (fun _ h9 => h9) rfl dX2_chooseCoats_25 ?_
        refine lv_iload_n hx hb dX2_chooseCoats_28 rfl (lv_at hl 2 rfl) ?_
        refine lv_iconst (v := (-1)) hx hb dX2_chooseCoats_29 (by decide) ?_
        refine sv_iast hx hb hK hP hD hS 1 1 rfl rfl (lp_inN hlo_16 c_21 he (by decide)) dX2_chooseCoats_30 (fun g_4 H locs eg_4 hP hD hS => ?_)
        have hP : va_P D vwCl [(h0, .inr (2, [.ref p0, .ref p1, .int (nI e9), .ref p3, .ref p4, .int b5])), (p1, .inl (cI, 8, .inl g_4)), (p4, .inl (cJ, 256, .inr (.inl f4)))] H := hP
        have hD : va_D A [(h0, .inr (2, [.ref p0, .ref p1, .int (nI e9), .ref p3, .ref p4, .int b5])), (p1, .inl (cI, 8, .inl g_4)), (p4, .inl (cJ, 256, .inr (.inl f4)))] := hD
        refine lv_aload_n hx hb dX2_chooseCoats_31 rfl (lv_at hl 0 rfl) ?_
        refine va_get (D := D) (ci := 2) (v := .int b5) (C := RX2) (T := TX2) (N := 6) hx hb hts w_1 hown hK hP 0 rfl rfl 5 (by decide) w_5 (fun _ h9 => h9) rfl dX2_chooseCoats_32 ?_
        refine lv_iconst (v := 1) hx hb dX2_chooseCoats_35 (by decide) ?_
        refine lv_iload_n hx hb dX2_chooseCoats_36 rfl (lv_at hl 2 rfl) ?_
        refine sv_ishl (v := 1 <<< (i_16 &&& 31)) hx hb dX2_chooseCoats_37 rfl ?_
        refine lv_topi (fun v_5 ev_5 => ?_)
        refine sv_iand (v := b5 &&& v_5) hx hb dX2_chooseCoats_38 rfl ?_
        refine lv_topi (fun v_6 ev_6 => ?_)
        refine lv_if_eq (tgt := 101) hx hb dX2_chooseCoats_39 (by decide) (fun c_39 => ?_) (fun c_39 => ?_)
        ·
          refine lv_iinc (v := i_16 + 1) (lv' := [(3, .int (i_16 + 1)), (0, .ref h0), (1, .long l_1_16)]) hx hb dX2_chooseCoats_101 hl (k := 2) rfl rfl (by decide) rfl (fun ls hl => ?_)
          refine lv_goto (tgt := 16) hx hb dX2_chooseCoats_104 (by decide) ?_
          exact ih_L_3 (i_16 + 1) g_4 l_1_16 _ _ ls (lp_dec hn_16 c_21) (by have h9 := lp_inc c_21; omega) hP hD hS (lv_sub hl [1, 2, 0] rfl)
        ·
          refine lv_aload_n hx hb dX2_chooseCoats_42 rfl (lv_at hl 0 rfl) ?_
          refine va_get (D := D) (ci := 2) (v := .int b5) (C := RX2) (T := TX2) (N := 6) hx hb hts w_1 hown hK hP 0 rfl rfl 5 (by decide) w_5 (fun _ h9 => h9) rfl dX2_chooseCoats_43 ?_
          refine lv_iconst (v := 2) hx hb dX2_chooseCoats_46 (by decide) ?_
          refine lv_iload_n hx hb dX2_chooseCoats_47 rfl (lv_at hl 2 rfl) ?_
          refine sv_ishl (v := 2 <<< (i_16 &&& 31)) hx hb dX2_chooseCoats_48 rfl ?_
          refine lv_topi (fun v_7 ev_7 => ?_)
          refine lv_ineg hx hb dX2_chooseCoats_49 ?_
          refine lv_topi (fun v_8 ev_8 => ?_)
          refine sv_iand (v := b5 &&& v_8) hx hb dX2_chooseCoats_50 rfl ?_
          refine lv_topi (fun v_9 ev_9 => ?_)
          refine lv_istore (lv' := [(4, .int v_9), (0, .ref h0), (1, .long l_1_16), (3, .int i_16)]) hx hb dX2_chooseCoats_51 hl (by decide) rfl (fun ls hl => ?_)
          refine lv_aload_n hx hb dX2_chooseCoats_53 rfl (lv_at hl 1 rfl) ?_
          refine va_get (D := D) (ci := 2) (v := .ref p4) (C := RX2) (T := TX2) (N := 6) hx hb hts w_1 hown hK hP 0 rfl rfl 4 (by decide) w_2 (fun _ h9 => h9) rfl dX2_chooseCoats_54 ?_
          refine lv_iconst (v := 1) hx hb dX2_chooseCoats_57 (by decide) ?_
          refine lv_iload_n hx hb dX2_chooseCoats_58 rfl (lv_at hl 3 rfl) ?_
          refine sv_ishl (v := (1 : Int32) <<< (i_16 &&& 31)) hx hb dX2_chooseCoats_59 rfl ?_
          refine lv_topi (fun v_10 ev_10 => ?_)
          refine sv_lald (v := f4 v_10.toNatClampNeg) hx hb hK hP 2 2 rfl rfl (by rw [ev_10]; exact (in_up (sh8 (lp_inN hlo_16 c_21 he (by decide))) (by decide))) rfl dX2_chooseCoats_60 ?_
          refine lv_topl (fun v_11 ev_11 => ?_)
          refine lv_lload_n hx hb dX2_chooseCoats_61 rfl (lv_at hl 2 rfl) ?_
          refine lv_land hx hb dX2_chooseCoats_62 ?_
          refine lv_topl (fun v_12 ev_12 => ?_)
          refine lv_aload_n hx hb dX2_chooseCoats_63 rfl (lv_at hl 1 rfl) ?_
          refine lv_iload hx hb dX2_chooseCoats_64 (lv_at hl 0 rfl) ?_
          refine lv_lload_n hx hb dX2_chooseCoats_66 rfl (lv_at hl 2 rfl) ?_
          refine vp_callSl (va_Run.run (va_runV (As := [.int v_9, .long l_1_16]) (rest := [.long v_12]) ⟨hx, hb, hml, hown, hts⟩ (g_X2_needed l D cB cI cJ cZ h0 p0 p1 p3 p4 e9 b5 f4 v_9 l_1_16 he) (cwV 2 hts gX2_chooseCoats_X2_neededBy rfl rfl rfl (by decide +kernel) ⟨Nat.le_of_ble_eq_true rfl, Nat.le_of_ble_eq_true rfl⟩) (pre_VR (hP.sub (ws' := [(h0, .inr (2, [.ref p0, .ref p1, .int (nI e9), .ref p3, .ref p4, .int b5])), (p4, .inl (cJ, 256, .inr (.inl f4)))]) [0, 2] rfl) hK 0 rfl rfl rfl) rfl rfl hl.1 rfl (lv_room (Nat.le_of_ble_eq_true rfl)) dX2_chooseCoats_67 ⟨Nat.le_of_ble_eq_true rfl, Nat.le_of_ble_eq_true rfl⟩)) (fun r_13 hw_r_13 => ?_)
          refine lv_ldc2 hx hb hown w_6 dX2_chooseCoats_70 ?_
          refine lv_lxor hx hb dX2_chooseCoats_73 ?_
          refine lv_topl (fun v_14 ev_14 => ?_)
          refine lv_land hx hb dX2_chooseCoats_74 ?_
          refine lv_topl (fun v_15 ev_15 => ?_)
          refine lv_lstore (lv' := [(5, .long v_15), (4, .int v_9), (0, .ref h0), (1, .long l_1_16), (3, .int i_16)]) hx hb dX2_chooseCoats_75 hl (by decide) rfl (fun ls hl => ?_)
          refine lv_aload_n hx hb dX2_chooseCoats_77 rfl (lv_at hl 2 rfl) ?_
          refine va_get (D := D) (ci := 2) (v := .ref p1) (C := RX2) (T := TX2) (N := 6) hx hb hts w_1 hown hK hP 0 rfl rfl 1 (by decide) w_4 (fun _ h9 => h9) rfl dX2_chooseCoats_78 ?_
          refine lv_iload_n hx hb dX2_chooseCoats_81 rfl (lv_at hl 4 rfl) ?_
          refine lv_lload hx hb dX2_chooseCoats_82 (lv_at hl 0 rfl) ?_
          refine vp_callSi (va_Run.run (va_runS (As := [.long v_15]) (rest := [.int i_16, .ref p1]) ⟨hx, hb, hml, hown, hts⟩ (g_X2_least l D cB cI cJ cZ v_15) (va_cwS 1 hts gX2_chooseCoats_X2_leastOf rfl rfl rfl (by decide +kernel) ⟨Nat.le_of_ble_eq_true rfl, Nat.le_of_ble_eq_true rfl⟩) (pre_SR (hP.sub (ws' := []) [] rfl) hK) rfl rfl hl.1 rfl (lv_room (Nat.le_of_ble_eq_true rfl)) dX2_chooseCoats_84 ⟨Nat.le_of_ble_eq_true rfl, Nat.le_of_ble_eq_true rfl⟩)) (fun r_16 hw_r_16 => ?_)
          refine sv_iast hx hb hK hP hD hS 1 1 rfl rfl (lp_inN hlo_16 c_21 he (by decide)) dX2_chooseCoats_87 (fun g_17 H locs eg_17 hP hD hS => ?_)
          have hP : va_P D vwCl [(h0, .inr (2, [.ref p0, .ref p1, .int (nI e9), .ref p3, .ref p4, .int b5])), (p1, .inl (cI, 8, .inl g_17)), (p4, .inl (cJ, 256, .inr (.inl f4)))] H := hP
          have hD : va_D A [(h0, .inr (2, [.ref p0, .ref p1, .int (nI e9), .ref p3, .ref p4, .int b5])), (p1, .inl (cI, 8, .inl g_17)), (p4, .inl (cJ, 256, .inr (.inl f4)))] := hD
          refine lv_lload_n hx hb dX2_chooseCoats_88 rfl (lv_at hl 3 rfl) ?_
          refine lv_lload hx hb dX2_chooseCoats_89 (lv_at hl 0 rfl) ?_
          refine lv_lload hx hb dX2_chooseCoats_91 (lv_at hl 0 rfl) ?_
          refine lv_lneg hx hb dX2_chooseCoats_93 ?_
          refine lv_topl (fun v_18 ev_18 => ?_)
          refine lv_land hx hb dX2_chooseCoats_94 ?_
          refine lv_topl (fun v_19 ev_19 => ?_)
          refine lv_ldc2 hx hb hown w_6 dX2_chooseCoats_95 ?_
          refine lv_lxor hx hb dX2_chooseCoats_98 ?_
          refine lv_topl (fun v_20 ev_20 => ?_)
          refine lv_land hx hb dX2_chooseCoats_99 ?_
          refine lv_topl (fun v_21 ev_21 => ?_)
          refine lv_lstore_n (lv' := [(1, .long v_21), (5, .long v_15), (4, .int v_9), (0, .ref h0), (3, .int i_16)]) hx hb dX2_chooseCoats_100 rfl hl (by decide) rfl (fun ls hl => ?_)
          refine lv_iinc (v := i_16 + 1) (lv' := [(3, .int (i_16 + 1)), (1, .long v_21), (5, .long v_15), (4, .int v_9), (0, .ref h0)]) hx hb dX2_chooseCoats_101 hl (k := 4) rfl rfl (by decide) rfl (fun ls hl => ?_)
          refine lv_goto (tgt := 16) hx hb dX2_chooseCoats_104 (by decide) ?_
          exact ih_L_3 (i_16 + 1) g_17 v_21 _ _ ls (lp_dec hn_16 c_21) (by have h9 := lp_inc c_21; omega) hP hD hS (lv_sub hl [4, 1, 0] rfl)
  exact L_3 _ 0 f1 v_2 _ _ ls (Nat.lt_succ_self _) (by decide) hP hD hS (lv_sub hl [2, 1, 0] rfl)

set_option maxHeartbeats 4000000 in
set_option maxRecDepth 100000 in
theorem g_X2_new (l : Launch) (D : va_G) (cB cI cJ cZ : ClassId) (h0 p0 p1 p3 p4 e9 : Nat) (b5 : Int32) : Met l yX2_newCoats wsX2_newCoats ({ frames := 1, cells := 0, slots := 0, locals := 20 } : Room) (cRd D (aTy cB cI cJ cZ) [(h0, .inr (2, [.ref p0, .ref p1, .int (nI e9), .ref p3, .ref p4, .int b5]))] [.ref h0]) (vp_Si (fun r : Int32 => True)) 0 0 (fun _ => False) := by
  refine Met.ofW (cc := cX2_newCoats) (maxL := 1) (ret := (some .int)) (by decide) rfl ?_
  intro p e s m args below meth c s₁ B hml hv
  obtain ⟨rfl, hP, hK⟩ := hv
  have hx := B.exec
  have hb := B.bytes
  have hr := B.returns
  have hts := atoms_spec (ws := wsX2_newCoats) B.pre
  have hown : s.vm.findClass RX2 = some m.cls := findClass_of_methodNamed B.named
  have hlocks := B.notSynchronized
  have hP : va_P D vwCl [(h0, .inr (2, [.ref p0, .ref p1, .int (nI e9), .ref p3, .ref p4, .int b5]))] s.heap := hP
  have w_1 : ∀ w ∈ wsX20, w ∈ wsX2_newCoats := by decide +kernel
  have w_2 := hts (Cond.fieldLink RX2 39 "BlueCoats$Dressing" "guests" "I") (by decide +kernel)
  have w_3 := hts (Cond.fieldLink RX2 43 "BlueCoats$Dressing" "dressed" "I") (by decide +kernel)
  have hl := lv_entry ([.ref h0]) (n := 1) (Nat.le_of_ble_eq_true rfl)
  rw [lg_entry_eq]
  generalize (lg_sl ([.ref h0]) ++ List.replicate (1 - (lg_sl ([.ref h0])).length) Slot.unset).toArray = ls at hl ⊢
  have hl : lv_has ls 1 [(0, .ref h0)] := hl
  refine lv_aload_n hx hb dX2_newCoats_0 rfl (lv_at hl 0 rfl) ?_
  refine va_get (D := D) (ci := 2) (v := .int (nI e9)) (C := RX2) (T := TX2) (N := 6) hx hb hts w_1 hown hK hP 0 rfl rfl 2 (by decide) w_2 (fun _ h9 => h9) rfl dX2_newCoats_1 ?_
  refine lv_aload_n hx hb dX2_newCoats_4 rfl (lv_at hl 0 rfl) ?_
  refine va_get (D := D) (ci := 2) (v := .int b5) (C := RX2) (T := TX2) (N := 6) hx hb hts w_1 hown hK hP 0 rfl rfl 5 (by decide) w_3 (fun _ h9 => h9) rfl dX2_newCoats_5 ?_
  refine vp_callSi (va_Run.run (va_runS (As := [.int b5]) (rest := [.int (nI e9)]) ⟨hx, hb, hml, hown, hts⟩ (g_bitI l D cB cI cJ cZ b5) (va_cwS 1 hts gX2_newCoats_J6_bitCount_0f7a4 rfl rfl rfl (by decide +kernel) ⟨Nat.le_of_ble_eq_true rfl, Nat.le_of_ble_eq_true rfl⟩) (pre_SR (hP.sub (ws' := []) [] rfl) hK) rfl rfl hl.1 rfl (lv_room (Nat.le_of_ble_eq_true rfl)) dX2_newCoats_8 ⟨Nat.le_of_ble_eq_true rfl, Nat.le_of_ble_eq_true rfl⟩)) (fun r_1 hw_r_1 => ?_)
  refine sv_isub (v := (nI e9) - r_1) hx hb dX2_newCoats_11 rfl ?_
  refine lv_topi (fun v_2 ev_2 => ?_)
  exact W.iret (v := v_2) hx hb hr (fun t ht hW => ⟨_, rfl, trivial, ht⟩) (fun q h => nomatch h) dX2_newCoats_12

