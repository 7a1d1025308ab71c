set_option maxHeartbeats 4000000 in
set_option maxRecDepth 100000 in
theorem g_X0_planEnds (l : Launch) (D : va_G) (cB cI cJ cZ : ClassId) (sz : Nat) (h0 p0 p1 p2 p6 p7 p8 a : Nat) (b4 b5 : Int32) (f0 f1 f2 f6 f7 f8 : Nat → Int32) (ha : a ≤ 8) : Met l yX0_planEnds wsX0_planEnds ({ frames := 1, cells := 0, slots := 0, locals := 23 } : Room) (cPre D (aTy cB cI cJ cZ) [(h0, .inr (0, [.ref p0, .ref p1, .ref p2, .int (nI a), .int b4, .int b5, .ref p6, .ref p7, .ref p8])), (p0, .inl (cI, 6, .inl f0)), (p1, .inl (cI, 6, .inl f1)), (p6, .inl (cI, 8, .inl f6)), (p7, .inl (cI, 8, .inl f7)), (p8, .inl (cI, 64, .inl f8))] sz [.ref h0]) (va_Qv (fun (u : (Nat → Int32) × (Nat → Int32) × Int32 × Int32) => True) (cB_ D (aTy cB cI cJ cZ) (va_A [(h0, .inr (0, [.ref p0, .ref p1, .ref p2, .int (nI a), .int b4, .int b5, .ref p6, .ref p7, .ref p8])), (p0, .inl (cI, 6, .inl f0)), (p1, .inl (cI, 6, .inl f1)), (p6, .inl (cI, 8, .inl f6)), (p7, .inl (cI, 8, .inl f7)), (p8, .inl (cI, 64, .inl f8))] sz) (fun u => [(h0, .inr (0, [.ref p0, .ref p1, .ref p2, .int (nI a), .int (u.2.2.1), .int (u.2.2.2), .ref p6, .ref p7, .ref p8])), (p0, .inl (cI, 6, .inl f0)), (p1, .inl (cI, 6, .inl u.1)), (p6, .inl (cI, 8, .inl f6)), (p7, .inl (cI, 8, .inl f7)), (p8, .inl (cI, 64, .inl u.2.1))])) (va_A [(h0, .inr (0, [.ref p0, .ref p1, .ref p2, .int (nI a), .int b4, .int b5, .ref p6, .ref p7, .ref p8])), (p0, .inl (cI, 6, .inl f0)), (p1, .inl (cI, 6, .inl f1)), (p6, .inl (cI, 8, .inl f6)), (p7, .inl (cI, 8, .inl f7)), (p8, .inl (cI, 64, .inl f8))] sz)) 0 0 (va_A [(h0, .inr (0, [.ref p0, .ref p1, .ref p2, .int (nI a), .int b4, .int b5, .ref p6, .ref p7, .ref p8])), (p0, .inl (cI, 6, .inl f0)), (p1, .inl (cI, 6, .inl f1)), (p6, .inl (cI, 8, .inl f6)), (p7, .inl (cI, 8, .inl f7)), (p8, .inl (cI, 64, .inl f8))] sz) := by
  refine Met.ofW (cc := cX0_planEnds) (maxL := 5) (ret := none) (by decide) rfl ?_
  intro p e s m args below meth c s₁ B hml hv
  obtain ⟨rfl, hsz, hP, hK, hD0⟩ := hv
  have hx := B.exec
  have hb := B.bytes
  have hr := B.returns
  have hts := atoms_spec (ws := wsX0_planEnds) B.pre
  have hown : s.vm.findClass RX0 = some m.cls := findClass_of_methodNamed B.named
  have hlocks := B.notSynchronized
  subst hsz
  have hD := hD0.self (sz := s.heap.size)
  generalize hAe : va_A [(h0, .inr (0, [.ref p0, .ref p1, .ref p2, .int (nI a), .int b4, .int b5, .ref p6, .ref p7, .ref p8])), (p0, .inl (cI, 6, .inl f0)), (p1, .inl (cI, 6, .inl f1)), (p6, .inl (cI, 8, .inl f6)), (p7, .inl (cI, 8, .inl f7)), (p8, .inl (cI, 64, .inl f8))] s.heap.size = A at hD ⊢
  have hA : ∀ q : Nat, s.heap.size ≤ q → A q := fun q h => by rw [← hAe]; exact Or.inr h
  have hS : va_S A s.heap s.heap [] := va_S.rf
  have hP : va_P D vwCl [(h0, .inr (0, [.ref p0, .ref p1, .ref p2, .int (nI a), .int b4, .int b5, .ref p6, .ref p7, .ref p8])), (p0, .inl (cI, 6, .inl f0)), (p1, .inl (cI, 6, .inl f1)), (p6, .inl (cI, 8, .inl f6)), (p7, .inl (cI, 8, .inl f7)), (p8, .inl (cI, 64, .inl f8))] s.heap := hP
  have w_1 : ∀ w ∈ wsX00, w ∈ wsX0_planEnds := by decide +kernel
  have w_2 := hts (Cond.fieldLink RX0 11 "BlueCoats$Chest" "need" "[I") (by decide +kernel)
  have w_3 := hts (Cond.fieldLink RX0 30 "BlueCoats$Chest" "number" "I") (by decide +kernel)
  have w_4 := hts (Cond.fieldLink RX0 48 "BlueCoats$Chest" "shortfall" "I") (by decide +kernel)
  have w_5 := hts (Cond.fieldLink RX0 51 "BlueCoats$Chest" "proof" "I") (by decide +kernel)
  have w_6 := hts (Cond.fieldLink RX0 15 "BlueCoats$Chest" "toEnd" "[I") (by decide +kernel)
  have w_7 := hts (Cond.fieldLink RX0 27 "BlueCoats$Chest" "lack" "[I") (by decide +kernel)
  have hl := lv_entry ([.ref h0]) (n := 5) (Nat.le_of_ble_eq_true rfl)
  rw [lg_entry_eq]
  generalize (lg_sl ([.ref h0]) ++ List.replicate (5 - (lg_sl ([.ref h0])).length) Slot.unset).toArray = ls at hl ⊢
  have hl : lv_has ls 5 [(0, .ref h0)] := hl
  generalize hQ : MQ below _ _ s _ _ _ = Q0
  refine lv_aload_n hx hb dX0_planEnds_0 rfl (lv_at hl 0 rfl) ?_
  refine lv_aload_n hx hb dX0_planEnds_1 rfl (lv_at hl 0 rfl) ?_
  refine va_get (D := D) (ci := 0) (v := .ref p0) (C := RX0) (T := TX0) (N := 9) hx hb hts w_1 hown hK hP 0 rfl rfl 0 (by decide) w_2 (fun _ h9 => h9) rfl dX0_planEnds_2 ?_
  refine cl_v (wc := [(h0, .inr (0, [.ref p0, .ref p1, .ref p2, .int (nI a), .int b4, .int b5, .ref p6, .ref p7, .ref p8])), (p0, .inl (cI, 6, .inl f0)), (p8, .inl (cI, 64, .inl f8))]) (wr := [(p1, .inl (cI, 6, .inl f1)), (p6, .inl (cI, 8, .inl f6)), (p7, .inl (cI, 8, .inl f7))]) (va_runV (As := [.ref p0]) (rest := []) ⟨hx, hb, hml, hown, hts⟩ (g_X0_setLack l D cB cI cJ cZ s.heap.size h0 p0 p1 p2 p6 p7 p8 a b4 b5 p0 f0 f8) (cwV 1 hts gX0_planEnds_X0_setLack rfl rfl rfl (by decide +kernel) ⟨Nat.le_of_ble_eq_true rfl, Nat.le_of_ble_eq_true rfl⟩) (pre_V (hP.sub (ws' := [(h0, .inr (0, [.ref p0, .ref p1, .ref p2, .int (nI a), .int b4, .int b5, .ref p6, .ref p7, .ref p8])), (p0, .inl (cI, 6, .inl f0)), (p8, .inl (cI, 64, .inl f8))]) [0, 1, 5] rfl) hK (hD.sub (ws' := [(h0, .inr (0, [.ref p0, .ref p1, .ref p2, .int (nI a), .int b4, .int b5, .ref p6, .ref p7, .ref p8])), (p0, .inl (cI, 6, .inl f0)), (p8, .inl (cI, 64, .inl f8))]) [0, 1, 5] (by decide) rfl) 0 rfl rfl rfl) rfl rfl hl.1 rfl (lv_room (Nat.le_of_ble_eq_true rfl)) dX0_planEnds_5 ⟨Nat.le_of_ble_eq_true rfl, Nat.le_of_ble_eq_true rfl⟩) hP hD hS hA [0, 1, 5] [2, 3, 4] rfl rfl (by decide) (by decide) 0 0 rfl rfl (fun u_2 H locs hw_u_2 hP hD hS => ?_)
  have hP : va_P D vwCl [(p1, .inl (cI, 6, .inl f1)), (p6, .inl (cI, 8, .inl f6)), (p7, .inl (cI, 8, .inl f7)), (h0, .inr (0, [.ref p0, .ref p1, .ref p2, .int (nI a), .int b4, .int b5, .ref p6, .ref p7, .ref p8])), (p0, .inl (cI, 6, .inl f0)), (p8, .inl (cI, 64, .inl u_2))] H := hP
  have hD : va_D A [(p1, .inl (cI, 6, .inl f1)), (p6, .inl (cI, 8, .inl f6)), (p7, .inl (cI, 8, .inl f7)), (h0, .inr (0, [.ref p0, .ref p1, .ref p2, .int (nI a), .int b4, .int b5, .ref p6, .ref p7, .ref p8])), (p0, .inl (cI, 6, .inl f0)), (p8, .inl (cI, 64, .inl u_2))] := hD
  refine lv_iconst (v := 0) hx hb dX0_planEnds_8 (by decide) ?_
  refine lv_istore_n (lv' := [(1, .int 0), (0, .ref h0)]) hx hb dX0_planEnds_9 rfl hl (by decide) rfl (fun ls hl => ?_)
  have L_3 : ∀ (n : Nat) (i_10 : Int32) (f_p8_10 : Nat → Int32) (H : Heap) (locs : List Loc) (ls : Array Slot), (Int32.toInt (nI a) - i_10.toInt).toNat < n → 0 ≤ i_10.toInt → va_P D vwCl [(p1, .inl (cI, 6, .inl f1)), (p6, .inl (cI, 8, .inl f6)), (p7, .inl (cI, 8, .inl f7)), (h0, .inr (0, [.ref p0, .ref p1, .ref p2, .int (nI a), .int b4, .int b5, .ref p6, .ref p7, .ref p8])), (p0, .inl (cI, 6, .inl f0)), (p8, .inl (cI, 64, .inl f_p8_10))] H → va_D A [(p1, .inl (cI, 6, .inl f1)), (p6, .inl (cI, 8, .inl f6)), (p7, .inl (cI, 8, .inl f7)), (h0, .inr (0, [.ref p0, .ref p1, .ref p2, .int (nI a), .int b4, .int b5, .ref p6, .ref p7, .ref p8])), (p0, .inl (cI, 6, .inl f0)), (p8, .inl (cI, 64, .inl f_p8_10))] → va_S A s.heap H locs → lv_has ls 5 [(0, .ref h0), (1, .int i_10)] → W p l e (headSpec wsX0_planEnds ({ frames := 1, cells := 0, slots := 0, locals := 23 } : Room)).room s m ([.ref h0] : List Value).toArray below meth c H locs 0 0 Q0 (F0 m 10 ls []) := by
    intro n
    induction n with
    | zero => intro i_10 f_p8_10 H locs ls hn_10 hlo_10 hP hD hS hl; exact absurd hn_10 (Nat.not_lt_zero _)
    | succ n ih_L_3 =>
      intro i_10 f_p8_10 H locs ls hn_10 hlo_10 hP hD hS hl
      refine lv_iload_n hx hb dX0_planEnds_10 rfl (lv_at hl 1 rfl) ?_
      refine lv_aload_n hx hb dX0_planEnds_11 rfl (lv_at hl 0 rfl) ?_
      refine va_get (D := D) (ci := 0) (v := .int (nI a)) (C := RX0) (T := TX0) (N := 9) hx hb hts w_1 hown hK hP 3 rfl rfl 3 (by decide) w_3 (fun _ h9 => h9) rfl dX0_planEnds_12 ?_
      refine lv_icmp_ge (tgt := 29) hx hb dX0_planEnds_15 (by decide) (fun c_15 => ?_) (fun c_15 => ?_)
      ·
        refine lv_aload_n hx hb dX0_planEnds_29 rfl (lv_at hl 0 rfl) ?_
        refine lv_iconst (v := 0) hx hb dX0_planEnds_30 (by decide) ?_
        refine va_put (D := D) (ci := 0) (v := .int 0) (ty := .int) (C := RX0) (T := TX0) (N := 9) hx hb hts w_1 tyX0 tyX0_ok nmX0 hown hK hP hD hS 3 rfl rfl 4 (by decide) w_4 (fun _ h9 => h9) rfl (by decide +kernel) rfl rfl (Nat.le_of_ble_eq_true rfl) dX0_planEnds_31 (fun H locs hP hD hS => ?_)
        have hP : va_P D vwCl [(p1, .inl (cI, 6, .inl f1)), (p6, .inl (cI, 8, .inl f6)), (p7, .inl (cI, 8, .inl f7)), (h0, .inr (0, [.ref p0, .ref p1, .ref p2, .int (nI a), .int 0, .int b5, .ref p6, .ref p7, .ref p8])), (p0, .inl (cI, 6, .inl f0)), (p8, .inl (cI, 64, .inl f_p8_10))] H := hP
        have hD : va_D A [(p1, .inl (cI, 6, .inl f1)), (p6, .inl (cI, 8, .inl f6)), (p7, .inl (cI, 8, .inl f7)), (h0, .inr (0, [.ref p0, .ref p1, .ref p2, .int (nI a), .int 0, .int b5, .ref p6, .ref p7, .ref p8])), (p0, .inl (cI, 6, .inl f0)), (p8, .inl (cI, 64, .inl f_p8_10))] := hD
        refine lv_aload_n hx hb dX0_planEnds_34 rfl (lv_at hl 0 rfl) ?_
        refine lv_iconst (v := 0) hx hb dX0_planEnds_35 (by decide) ?_
        refine va_put (D := D) (ci := 0) (v := .int 0) (ty := .int) (C := RX0) (T := TX0) (N := 9) hx hb hts w_1 tyX0 tyX0_ok nmX0 hown hK hP hD hS 3 rfl rfl 5 (by decide) w_5 (fun _ h9 => h9) rfl (by decide +kernel) rfl rfl (Nat.le_of_ble_eq_true rfl) dX0_planEnds_36 (fun H locs hP hD hS => ?_)
        have hP : va_P D vwCl [(p1, .inl (cI, 6, .inl f1)), (p6, .inl (cI, 8, .inl f6)), (p7, .inl (cI, 8, .inl f7)), (h0, .inr (0, [.ref p0, .ref p1, .ref p2, .int (nI a), .int 0, .int 0, .ref p6, .ref p7, .ref p8])), (p0, .inl (cI, 6, .inl f0)), (p8, .inl (cI, 64, .inl f_p8_10))] H := hP
        have hD : va_D A [(p1, .inl (cI, 6, .inl f1)), (p6, .inl (cI, 8, .inl f6)), (p7, .inl (cI, 8, .inl f7)), (h0, .inr (0, [.ref p0, .ref p1, .ref p2, .int (nI a), .int 0, .int 0, .ref p6, .ref p7, .ref p8])), (p0, .inl (cI, 6, .inl f0)), (p8, .inl (cI, 64, .inl f_p8_10))] := hD
        refine lv_iconst (v := 0) hx hb dX0_planEnds_39 (by decide) ?_
        refine lv_istore_n (lv' := [(1, .int 0), (0, .ref h0)]) hx hb dX0_planEnds_40 rfl hl (by decide) rfl (fun ls hl => ?_)
        refine lv_iconst (v := 0) hx hb dX0_planEnds_41 (by decide) ?_
        refine lv_istore_n (lv' := [(2, .int 0), (1, .int 0), (0, .ref h0)]) hx hb dX0_planEnds_42 rfl hl (by decide) rfl (fun ls hl => ?_)
        refine lv_iconst (v := 0) hx hb dX0_planEnds_43 (by decide) ?_
        refine lv_istore_n (lv' := [(3, .int 0), (2, .int 0), (1, .int 0), (0, .ref h0)]) hx hb dX0_planEnds_44 rfl hl (by decide) rfl (fun ls hl => ?_)
        refine lv_iload_n hx hb dX0_planEnds_45 rfl (lv_at hl 0 rfl) ?_
        refine lv_bipush (v := 6) hx hb dX0_planEnds_46 (by decide) ?_
        refine lv_icmp_ge (tgt := 137) hx hb dX0_planEnds_48 (by decide) (fun h => absurd h (by decide)) (fun _ => ?_)
        refine lv_iload_n hx hb dX0_planEnds_51 rfl (lv_at hl 2 rfl) ?_
        refine lv_aload_n hx hb dX0_planEnds_52 rfl (lv_at hl 3 rfl) ?_
        refine va_get (D := D) (ci := 0) (v := .ref p0) (C := RX0) (T := TX0) (N := 9) hx hb hts w_1 hown hK hP 3 rfl rfl 0 (by decide) w_2 (fun _ h9 => h9) rfl dX0_planEnds_53 ?_
        refine lv_iload_n hx hb dX0_planEnds_56 rfl (lv_at hl 0 rfl) ?_
        refine sv_iald (v := f0 (0 : Int32).toNatClampNeg) hx hb hK hP 4 1 rfl rfl (vp_in_iff.mpr (by decide)) rfl dX0_planEnds_57 ?_
        refine lv_topi (fun v_4 ev_4 => ?_)
        refine sv_iadd (v := 0 + v_4) hx hb dX0_planEnds_58 rfl ?_
        refine lv_topi (fun v_5 ev_5 => ?_)
        refine lv_istore_n (lv' := [(1, .int v_5), (3, .int 0), (2, .int 0), (0, .ref h0)]) hx hb dX0_planEnds_59 rfl hl (by decide) rfl (fun ls hl => ?_)
        refine lv_iconst (v := 1) hx hb dX0_planEnds_60 (by decide) ?_
        refine lv_iload_n hx hb dX0_planEnds_61 rfl (lv_at hl 1 rfl) ?_
        refine sv_ishl (v := 1) hx hb dX0_planEnds_62 (by decide) ?_
        refine lv_istore (lv' := [(4, .int 1), (1, .int v_5), (3, .int 0), (2, .int 0), (0, .ref h0)]) hx hb dX0_planEnds_63 hl (by decide) rfl (fun ls hl => ?_)
        have L_6 : ∀ (n : Nat) (i_65 : Int32) (t_h0_4_65 : Int32) (t_h0_5_65 : Int32) (H : Heap) (locs : List Loc) (ls : Array Slot), (Int32.toInt 2 - i_65.toInt).toNat < n → 0 ≤ i_65.toInt → va_P D vwCl [(p1, .inl (cI, 6, .inl f1)), (p6, .inl (cI, 8, .inl f6)), (p7, .inl (cI, 8, .inl f7)), (h0, .inr (0, [.ref p0, .ref p1, .ref p2, .int (nI a), .int t_h0_4_65, .int t_h0_5_65, .ref p6, .ref p7, .ref p8])), (p0, .inl (cI, 6, .inl f0)), (p8, .inl (cI, 64, .inl f_p8_10))] H → va_D A [(p1, .inl (cI, 6, .inl f1)), (p6, .inl (cI, 8, .inl f6)), (p7, .inl (cI, 8, .inl f7)), (h0, .inr (0, [.ref p0, .ref p1, .ref p2, .int (nI a), .int t_h0_4_65, .int t_h0_5_65, .ref p6, .ref p7, .ref p8])), (p0, .inl (cI, 6, .inl f0)), (p8, .inl (cI, 64, .inl f_p8_10))] → va_S A s.heap H locs → lv_has ls 5 [(0, .ref h0), (1, .int v_5), (2, .int 0), (3, .int 0), (4, .int i_65)] → W p l e (headSpec wsX0_planEnds ({ frames := 1, cells := 0, slots := 0, locals := 23 } : Room)).room s m ([.ref h0] : List Value).toArray below meth c H locs 0 0 Q0 (F0 m 65 ls []) := by
          intro n
          induction n with
          | zero => intro i_65 t_h0_4_65 t_h0_5_65 H locs ls hn_65 hlo_65 hP hD hS hl; exact absurd hn_65 (Nat.not_lt_zero _)
          | succ n ih_L_6 =>
            intro i_65 t_h0_4_65 t_h0_5_65 H locs ls hn_65 hlo_65 hP hD hS hl
            refine lv_iload hx hb dX0_planEnds_65 (lv_at hl 4 rfl) ?_
            refine lv_iconst (v := 2) hx hb dX0_planEnds_67 (by decide) ?_
            refine lv_iload_n hx hb dX0_planEnds_68 rfl (lv_at hl 3 rfl) ?_
            refine sv_ishl (v := 2) hx hb dX0_planEnds_69 (by decide) ?_
            refine lv_icmp_ge (tgt := 110) hx hb dX0_planEnds_70 (by decide) (fun c_70 => ?_) (fun c_70 => ?_)
            ·
              refine lv_aload_n hx hb dX0_planEnds_110 rfl (lv_at hl 0 rfl) ?_
              refine va_get (D := D) (ci := 0) (v := .ref p1) (C := RX0) (T := TX0) (N := 9) hx hb hts w_1 hown hK hP 3 rfl rfl 1 (by decide) w_6 (fun _ h9 => h9) rfl dX0_planEnds_111 ?_
              refine lv_iload_n hx hb dX0_planEnds_114 rfl (lv_at hl 3 rfl) ?_
              refine lv_iload_n hx hb dX0_planEnds_115 rfl (lv_at hl 1 rfl) ?_
              refine lv_aload_n hx hb dX0_planEnds_116 rfl (lv_at hl 0 rfl) ?_
              refine va_get (D := D) (ci := 0) (v := .int t_h0_4_65) (C := RX0) (T := TX0) (N := 9) hx hb hts w_1 hown hK hP 3 rfl rfl 4 (by decide) w_4 (fun _ h9 => h9) rfl dX0_planEnds_117 ?_
              refine sv_isub (v := v_5 - t_h0_4_65) hx hb dX0_planEnds_120 rfl ?_
              refine lv_topi (fun v_7 ev_7 => ?_)
              refine lv_iload_n hx hb dX0_planEnds_121 rfl (lv_at hl 2 rfl) ?_
              refine sv_isub (v := v_7 - 0) hx hb dX0_planEnds_122 rfl ?_
              refine lv_topi (fun v_8 ev_8 => ?_)
              refine sv_iast hx hb hK hP hD hS 0 1 rfl rfl (vp_in_iff.mpr (by decide)) dX0_planEnds_123 (fun g_9 H locs eg_9 hP hD hS => ?_)
              have hP : va_P D vwCl [(p1, .inl (cI, 6, .inl g_9)), (p6, .inl (cI, 8, .inl f6)), (p7, .inl (cI, 8, .inl f7)), (h0, .inr (0, [.ref p0, .ref p1, .ref p2, .int (nI a), .int t_h0_4_65, .int t_h0_5_65, .ref p6, .ref p7, .ref p8])), (p0, .inl (cI, 6, .inl f0)), (p8, .inl (cI, 64, .inl f_p8_10))] H := hP
              have hD : va_D A [(p1, .inl (cI, 6, .inl g_9)), (p6, .inl (cI, 8, .inl f6)), (p7, .inl (cI, 8, .inl f7)), (h0, .inr (0, [.ref p0, .ref p1, .ref p2, .int (nI a), .int t_h0_4_65, .int t_h0_5_65, .ref p6, .ref p7, .ref p8])), (p0, .inl (cI, 6, .inl f0)), (p8, .inl (cI, 64, .inl f_p8_10))] := hD
              refine lv_iload_n hx hb dX0_planEnds_124 rfl (lv_at hl 1 rfl) ?_
              refine lv_aload_n hx hb dX0_planEnds_125 rfl (lv_at hl 0 rfl) ?_
              refine va_get (D := D) (ci := 0) (v := .int t_h0_4_65) (C := RX0) (T := TX0) (N := 9) hx hb hts w_1 hown hK hP 3 rfl rfl 4 (by decide) w_4 (fun _ h9 => h9) rfl dX0_planEnds_126 ?_
              refine sv_isub (v := v_5 - t_h0_4_65) hx hb dX0_planEnds_129 rfl ?_
              refine lv_topi (fun v_10 ev_10 => ?_)
              refine lv_istore_n (lv' := [(2, .int v_10), (0, .ref h0), (1, .int v_5), (3, .int 0), (4, .int i_65)]) hx hb dX0_planEnds_130 rfl hl (by decide) rfl (fun ls hl => ?_)
              refine lv_iinc (v := 1) (lv' := [(3, .int 1), (2, .int v_10), (0, .ref h0), (1, .int v_5), (4, .int i_65)]) hx hb dX0_planEnds_131 hl (k := 3) rfl (by decide) (by decide) rfl (fun ls hl => ?_)
              refine lv_goto (tgt := 45) hx hb dX0_planEnds_134 (by decide) ?_
              refine lv_iload_n hx hb dX0_planEnds_45 rfl (lv_at hl 0 rfl) ?_
              refine lv_bipush (v := 6) hx hb dX0_planEnds_46 (by decide) ?_
              refine lv_icmp_ge (tgt := 137) hx hb dX0_planEnds_48 (by decide) (fun h => absurd h (by decide)) (fun _ => ?_)
              refine lv_iload_n hx hb dX0_planEnds_51 rfl (lv_at hl 3 rfl) ?_
              refine lv_aload_n hx hb dX0_planEnds_52 rfl (lv_at hl 2 rfl) ?_
              refine va_get (D := D) (ci := 0) (v := .ref p0) (C := RX0) (T := TX0) (N := 9) hx hb hts w_1 hown hK hP 3 rfl rfl 0 (by decide) w_2 (fun _ h9 => h9) rfl dX0_planEnds_53 ?_
              refine lv_iload_n hx hb dX0_planEnds_56 rfl (lv_at hl 0 rfl) ?_
              refine sv_iald (v := f0 (1 : Int32).toNatClampNeg) hx hb hK hP 4 1 rfl rfl (vp_in_iff.mpr (by decide)) rfl dX0_planEnds_57 ?_
              refine lv_topi (fun v_11 ev_11 => ?_)
              refine sv_iadd (v := v_5 + v_11) hx hb dX0_planEnds_58 rfl ?_
              refine lv_topi (fun v_12 ev_12 => ?_)
              refine lv_istore_n (lv' := [(1, .int v_12), (3, .int 1), (2, .int v_10), (0, .ref h0), (4, .int i_65)]) hx hb dX0_planEnds_59 rfl hl (by decide) rfl (fun ls hl => ?_)
              refine lv_iconst (v := 1) hx hb dX0_planEnds_60 (by decide) ?_
              refine lv_iload_n hx hb dX0_planEnds_61 rfl (lv_at hl 1 rfl) ?_
              refine sv_ishl (v := 2) hx hb dX0_planEnds_62 (by decide) ?_
              refine lv_istore (lv' := [(4, .int 2), (1, .int v_12), (3, .int 1), (2, .int v_10), (0, .ref h0)]) hx hb dX0_planEnds_63 hl (by decide) rfl (fun ls hl => ?_)
              have L_13 : ∀ (n : Nat) (i_65 : Int32) (t_h0_4_65 : Int32) (t_h0_5_65 : Int32) (H : Heap) (locs : List Loc) (ls : Array Slot), (Int32.toInt 4 - i_65.toInt).toNat < n → 0 ≤ i_65.toInt → va_P D vwCl [(p1, .inl (cI, 6, .inl g_9)), (p6, .inl (cI, 8, .inl f6)), (p7, .inl (cI, 8, .inl f7)), (h0, .inr (0, [.ref p0, .ref p1, .ref p2, .int (nI a), .int t_h0_4_65, .int t_h0_5_65, .ref p6, .ref p7, .ref p8])), (p0, .inl (cI, 6, .inl f0)), (p8, .inl (cI, 64, .inl f_p8_10))] H → va_D A [(p1, .inl (cI, 6, .inl g_9)), (p6, .inl (cI, 8, .inl f6)), (p7, .inl (cI, 8, .inl f7)), (h0, .inr (0, [.ref p0, .ref p1, .ref p2, .int (nI a), .int t_h0_4_65, .int t_h0_5_65, .ref p6, .ref p7, .ref p8])), (p0, .inl (cI, 6, .inl f0)), (p8, .inl (cI, 64, .inl f_p8_10))] → va_S A s.heap H locs → lv_has ls 5 [(0, .ref h0), (1, .int v_12), (2, .int v_10), (3, .int 1), (4, .int i_65)] → W p l e (headSpec wsX0_planEnds ({ frames := 1, cells := 0, slots := 0, locals := 23 } : Room)).room s m ([.ref h0] : List Value).toArray below meth c H locs 0 0 Q0 (F0 m 65 ls []) := by
                intro n
                induction n with
                | zero => intro i_65 t_h0_4_65 t_h0_5_65 H locs ls hn_65 hlo_65 hP hD hS hl; exact absurd hn_65 (Nat.not_lt_zero _)
                | succ n ih_L_13 =>
                  intro i_65 t_h0_4_65 t_h0_5_65 H locs ls hn_65 hlo_65 hP hD hS hl
                  refine lv_iload hx hb dX0_planEnds_65 (lv_at hl 4 rfl) ?_
                  refine lv_iconst (v := 2) hx hb dX0_planEnds_67 (by decide) ?_
                  refine lv_iload_n hx hb dX0_planEnds_68 rfl (lv_at hl 3 rfl) ?_
                  refine sv_ishl (v := 4) hx hb dX0_planEnds_69 (by decide) ?_
                  refine lv_icmp_ge (tgt := 110) hx hb dX0_planEnds_70 (by decide) (fun c_70 => ?_) (fun c_70 => ?_)
                  ·
                    refine lv_aload_n hx hb dX0_planEnds_110 rfl (lv_at hl 0 rfl) ?_
                    refine va_get (D := D) (ci := 0) (v := .ref p1) (C := RX0) (T := TX0) (N := 9) hx hb hts w_1 hown hK hP 3 rfl rfl 1 (by decide) w_6 (fun _ h9 => h9) rfl dX0_planEnds_111 ?_
                    refine lv_iload_n hx hb dX0_planEnds_114 rfl (lv_at hl 3 rfl) ?_
                    refine lv_iload_n hx hb dX0_planEnds_115 rfl (lv_at hl 1 rfl) ?_
                    refine lv_aload_n hx hb dX0_planEnds_116 rfl (lv_at hl 0 rfl) ?_
                    refine va_get (D := D) (ci := 0) (v := .int t_h0_4_65) (C := RX0) (T := TX0) (N := 9) hx hb hts w_1 hown hK hP 3 rfl rfl 4 (by decide) w_4 (fun _ h9 => h9) rfl dX0_planEnds_117 ?_
                    refine sv_isub (v := v_12 - t_h0_4_65) hx hb dX0_planEnds_120 rfl ?_
                    refine lv_topi (fun v_14 ev_14 => ?_)
                    refine lv_iload_n hx hb dX0_planEnds_121 rfl (lv_at hl 2 rfl) ?_
                    refine sv_isub (v := v_14 - v_10) hx hb dX0_planEnds_122 rfl ?_
                    refine lv_topi (fun v_15 ev_15 => ?_)
                    refine sv_iast hx hb hK hP hD hS 0 1 rfl rfl (vp_in_iff.mpr (by decide)) dX0_planEnds_123 (fun g_16 H locs eg_16 hP hD hS => ?_)
                    have hP : va_P D vwCl [(p1, .inl (cI, 6, .inl g_16)), (p6, .inl (cI, 8, .inl f6)), (p7, .inl (cI, 8, .inl f7)), (h0, .inr (0, [.ref p0, .ref p1, .ref p2, .int (nI a), .int t_h0_4_65, .int t_h0_5_65, .ref p6, .ref p7, .ref p8])), (p0, .inl (cI, 6, .inl f0)), (p8, .inl (cI, 64, .inl f_p8_10))] H := hP
                    have hD : va_D A [(p1, .inl (cI, 6, .inl g_16)), (p6, .inl (cI, 8, .inl f6)), (p7, .inl (cI, 8, .inl f7)), (h0, .inr (0, [.ref p0, .ref p1, .ref p2, .int (nI a), .int t_h0_4_65, .int t_h0_5_65, .ref p6, .ref p7, .ref p8])), (p0, .inl (cI, 6, .inl f0)), (p8, .inl (cI, 64, .inl f_p8_10))] := hD
                    refine lv_iload_n hx hb dX0_planEnds_124 rfl (lv_at hl 1 rfl) ?_
                    refine lv_aload_n hx hb dX0_planEnds_125 rfl (lv_at hl 0 rfl) ?_
                    refine va_get (D := D) (ci := 0) (v := .int t_h0_4_65) (C := RX0) (T := TX0) (N := 9) hx hb hts w_1 hown hK hP 3 rfl rfl 4 (by decide) w_4 (fun _ h9 => h9) rfl dX0_planEnds_126 ?_
                    refine sv_isub (v := v_12 - t_h0_4_65) hx hb dX0_planEnds_129 rfl ?_
                    refine lv_topi (fun v_17 ev_17 => ?_)
                    refine lv_istore_n (lv' := [(2, .int v_17), (0, .ref h0), (1, .int v_12), (3, .int 1), (4, .int i_65)]) hx hb dX0_planEnds_130 rfl hl (by decide) rfl (fun ls hl => ?_)
                    refine lv_iinc (v := 2) (lv' := [(3, .int 2), (2, .int v_17), (0, .ref h0), (1, .int v_12), (4, .int i_65)]) hx hb dX0_planEnds_131 hl (k := 3) rfl (by decide) (by decide) rfl (fun ls hl => ?_)
                    refine lv_goto (tgt := 45) hx hb dX0_planEnds_134 (by decide) ?_
                    refine lv_iload_n hx hb dX0_planEnds_45 rfl (lv_at hl 0 rfl) ?_
                    refine lv_bipush (v := 6) hx hb dX0_planEnds_46 (by decide) ?_
                    refine lv_icmp_ge (tgt := 137) hx hb dX0_planEnds_48 (by decide) (fun h => absurd h (by decide)) (fun _ => ?_)
                    refine lv_iload_n hx hb dX0_planEnds_51 rfl (lv_at hl 3 rfl) ?_
                    refine lv_aload_n hx hb dX0_planEnds_52 rfl (lv_at hl 2 rfl) ?_
                    refine va_get (D := D) (ci := 0) (v := .ref p0) (C := RX0) (T := TX0) (N := 9) hx hb hts w_1 hown hK hP 3 rfl rfl 0 (by decide) w_2 (fun _ h9 => h9) rfl dX0_planEnds_53 ?_
                    refine lv_iload_n hx hb dX0_planEnds_56 rfl (lv_at hl 0 rfl) ?_
                    refine sv_iald (v := f0 (2 : Int32).toNatClampNeg) hx hb hK hP 4 1 rfl rfl (vp_in_iff.mpr (by decide)) rfl dX0_planEnds_57 ?_
                    refine lv_topi (fun v_18 ev_18 => ?_)
                    refine sv_iadd (v := v_12 + v_18) hx hb dX0_planEnds_58 rfl ?_
                    refine lv_topi (fun v_19 ev_19 => ?_)
                    refine lv_istore_n (lv' := [(1, .int v_19), (3, .int 2), (2, .int v_17), (0, .ref h0), (4, .int i_65)]) hx hb dX0_planEnds_59 rfl hl (by decide) rfl (fun ls hl => ?_)
                    refine lv_iconst (v := 1) hx hb dX0_planEnds_60 (by decide) ?_
                    refine lv_iload_n hx hb dX0_planEnds_61 rfl (lv_at hl 1 rfl) ?_
                    refine sv_ishl (v := 4) hx hb dX0_planEnds_62 (by decide) ?_
                    refine lv_istore (lv' := [(4, .int 4), (1, .int v_19), (3, .int 2), (2, .int v_17), (0, .ref h0)]) hx hb dX0_planEnds_63 hl (by decide) rfl (fun ls hl => ?_)
                    have L_20 : ∀ (n : Nat) (i_65 : Int32) (t_h0_4_65 : Int32) (t_h0_5_65 : Int32) (H : Heap) (locs : List Loc) (ls : Array Slot), (Int32.toInt 8 - i_65.toInt).toNat < n → 0 ≤ i_65.toInt → va_P D vwCl [(p1, .inl (cI, 6, .inl g_16)), (p6, .inl (cI, 8, .inl f6)), (p7, .inl (cI, 8, .inl f7)), (h0, .inr (0, [.ref p0, .ref p1, .ref p2, .int (nI a), .int t_h0_4_65, .int t_h0_5_65, .ref p6, .ref p7, .ref p8])), (p0, .inl (cI, 6, .inl f0)), (p8, .inl (cI, 64, .inl f_p8_10))] H → va_D A [(p1, .inl (cI, 6, .inl g_16)), (p6, .inl (cI, 8, .inl f6)), (p7, .inl (cI, 8, .inl f7)), (h0, .inr (0, [.ref p0, .ref p1, .ref p2, .int (nI a), .int t_h0_4_65, .int t_h0_5_65, .ref p6, .ref p7, .ref p8])), (p0, .inl (cI, 6, .inl f0)), (p8, .inl (cI, 64, .inl f_p8_10))] → va_S A s.heap H locs → lv_has ls 5 [(0, .ref h0), (1, .int v_19), (2, .int v_17), (3, .int 2), (4, .int i_65)] → W p l e (headSpec wsX0_planEnds ({ frames := 1, cells := 0, slots := 0, locals := 23 } : Room)).room s m ([.ref h0] : List Value).toArray below meth c H locs 0 0 Q0 (F0 m 65 ls []) := by
                      intro n
                      induction n with
                      | zero => intro i_65 t_h0_4_65 t_h0_5_65 H locs ls hn_65 hlo_65 hP hD hS hl; exact absurd hn_65 (Nat.not_lt_zero _)
                      | succ n ih_L_20 =>
                        intro i_65 t_h0_4_65 t_h0_5_65 H locs ls hn_65 hlo_65 hP hD hS hl
                        refine lv_iload hx hb dX0_planEnds_65 (lv_at hl 4 rfl) ?_
                        refine lv_iconst (v := 2) hx hb dX0_planEnds_67 (by decide) ?_
                        refine lv_iload_n hx hb dX0_planEnds_68 rfl (lv_at hl 3 rfl) ?_
                        refine sv_ishl (v := 8) hx hb dX0_planEnds_69 (by decide) ?_
                        refine lv_icmp_ge (tgt := 110) hx hb dX0_planEnds_70 (by decide) (fun c_70 => ?_) (fun c_70 => ?_)
                        ·
                          refine lv_aload_n hx hb dX0_planEnds_110 rfl (lv_at hl 0 rfl) ?_
                          refine va_get (D := D) (ci := 0) (v := .ref p1) (C := RX0) (T := TX0) (N := 9) hx hb hts w_1 hown hK hP 3 rfl rfl 1 (by decide) w_6 (fun _ h9 => h9) rfl dX0_planEnds_111 ?_
                          refine lv_iload_n hx hb dX0_planEnds_114 rfl (lv_at hl 3 rfl) ?_
                          refine lv_iload_n hx hb dX0_planEnds_115 rfl (lv_at hl 1 rfl) ?_
                          refine lv_aload_n hx hb dX0_planEnds_116 rfl (lv_at hl 0 rfl) ?_
                          refine va_get (D := D) (ci := 0) (v := .int t_h0_4_65) (C := RX0) (T := TX0) (N := 9) hx hb hts w_1 hown hK hP 3 rfl rfl 4 (by decide) w_4 (fun _ h9 => h9) rfl dX0_planEnds_117 ?_
                          refine sv_isub (v := v_19 - t_h0_4_65) hx hb dX0_planEnds_120 rfl ?_
                          refine lv_topi (fun v_21 ev_21 => ?_)
                          refine lv_iload_n hx hb dX0_planEnds_121 rfl (lv_at hl 2 rfl) ?_
                          refine sv_isub (v := v_21 - v_17) hx hb dX0_planEnds_122 rfl ?_
                          refine lv_topi (fun v_22 ev_22 => ?_)
                          refine sv_iast hx hb hK hP hD hS 0 1 rfl rfl (vp_in_iff.mpr (by decide)) dX0_planEnds_123 (fun g_23 H locs eg_23 hP hD hS => ?_)
                          have hP : va_P D vwCl [(p1, .inl (cI, 6, .inl g_23)), (p6, .inl (cI, 8, .inl f6)), (p7, .inl (cI, 8, .inl f7)), (h0, .inr (0, [.ref p0, .ref p1, .ref p2, .int (nI a), .int t_h0_4_65, .int t_h0_5_65, .ref p6, .ref p7, .ref p8])), (p0, .inl (cI, 6, .inl f0)), (p8, .inl (cI, 64, .inl f_p8_10))] H := hP
                          have hD : va_D A [(p1, .inl (cI, 6, .inl g_23)), (p6, .inl (cI, 8, .inl f6)), (p7, .inl (cI, 8, .inl f7)), (h0, .inr (0, [.ref p0, .ref p1, .ref p2, .int (nI a), .int t_h0_4_65, .int t_h0_5_65, .ref p6, .ref p7, .ref p8])), (p0, .inl (cI, 6, .inl f0)), (p8, .inl (cI, 64, .inl f_p8_10))] := hD
                          refine lv_iload_n hx hb dX0_planEnds_124 rfl (lv_at hl 1 rfl) ?_
                          refine lv_aload_n hx hb dX0_planEnds_125 rfl (lv_at hl 0 rfl) ?_
                          refine va_get (D := D) (ci := 0) (v := .int t_h0_4_65) (C := RX0) (T := TX0) (N := 9) hx hb hts w_1 hown hK hP 3 rfl rfl 4 (by decide) w_4 (fun _ h9 => h9) rfl dX0_planEnds_126 ?_
                          refine sv_isub (v := v_19 - t_h0_4_65) hx hb dX0_planEnds_129 rfl ?_
                          refine lv_topi (fun v_24 ev_24 => ?_)
                          refine lv_istore_n (lv' := [(2, .int v_24), (0, .ref h0), (1, .int v_19), (3, .int 2), (4, .int i_65)]) hx hb dX0_planEnds_130 rfl hl (by decide) rfl (fun ls hl => ?_)
                          refine lv_iinc (v := 3) (lv' := [(3, .int 3), (2, .int v_24), (0, .ref h0), (1, .int v_19), (4, .int i_65)]) hx hb dX0_planEnds_131 hl (k := 3) rfl (by decide) (by decide) rfl (fun ls hl => ?_)
                          refine lv_goto (tgt := 45) hx hb dX0_planEnds_134 (by decide) ?_
                          refine lv_iload_n hx hb dX0_planEnds_45 rfl (lv_at hl 0 rfl) ?_
                          refine lv_bipush (v := 6) hx hb dX0_planEnds_46 (by decide) ?_
                          refine lv_icmp_ge (tgt := 137) hx hb dX0_planEnds_48 (by decide) (fun h => absurd h (by decide)) (fun _ => ?_)
                          refine lv_iload_n hx hb dX0_planEnds_51 rfl (lv_at hl 3 rfl) ?_
                          refine lv_aload_n hx hb dX0_planEnds_52 rfl (lv_at hl 2 rfl) ?_
                          refine va_get (D := D) (ci := 0) (v := .ref p0) (C := RX0) (T := TX0) (N := 9) hx hb hts w_1 hown hK hP 3 rfl rfl 0 (by decide) w_2 (fun _ h9 => h9) rfl dX0_planEnds_53 ?_
                          refine lv_iload_n hx hb dX0_planEnds_56 rfl (lv_at hl 0 rfl) ?_
                          refine sv_iald (v := f0 (3 : Int32).toNatClampNeg) hx hb hK hP 4 1 rfl rfl (vp_in_iff.mpr (by decide)) rfl dX0_planEnds_57 ?_
                          refine lv_topi (fun v_25 ev_25 => ?_)
                          refine sv_iadd (v := v_19 + v_25) hx hb dX0_planEnds_58 rfl ?_
                          refine lv_topi (fun v_26 ev_26 => ?_)
                          refine lv_istore_n (lv' := [(1, .int v_26), (3, .int 3), (2, .int v_24), (0, .ref h0), (4, .int i_65)]) hx hb dX0_planEnds_59 rfl hl (by decide) rfl (fun ls hl => ?_)
                          refine lv_iconst (v := 1) hx hb dX0_planEnds_60 (by decide) ?_
                          refine lv_iload_n hx hb dX0_planEnds_61 rfl (lv_at hl 1 rfl) ?_
                          refine sv_ishl (v := 8) hx hb dX0_planEnds_62 (by decide) ?_
                          refine lv_istore (lv' := [(4, .int 8), (1, .int v_26), (3, .int 3), (2, .int v_24), (0, .ref h0)]) hx hb dX0_planEnds_63 hl (by decide) rfl (fun ls hl => ?_)
                          have L_27 : ∀ (n : Nat) (i_65 : Int32) (t_h0_4_65 : Int32) (t_h0_5_65 : Int32) (H : Heap) (locs : List Loc) (ls : Array Slot), (Int32.toInt 16 - i_65.toInt).toNat < n → 0 ≤ i_65.toInt → va_P D vwCl [(p1, .inl (cI, 6, .inl g_23)), (p6, .inl (cI, 8, .inl f6)), (p7, .inl (cI, 8, .inl f7)), (h0, .inr (0, [.ref p0, .ref p1, .ref p2, .int (nI a), .int t_h0_4_65, .int t_h0_5_65, .ref p6, .ref p7, .ref p8])), (p0, .inl (cI, 6, .inl f0)), (p8, .inl (cI, 64, .inl f_p8_10))] H → va_D A [(p1, .inl (cI, 6, .inl g_23)), (p6, .inl (cI, 8, .inl f6)), (p7, .inl (cI, 8, .inl f7)), (h0, .inr (0, [.ref p0, .ref p1, .ref p2, .int (nI a), .int t_h0_4_65, .int t_h0_5_65, .ref p6, .ref p7, .ref p8])), (p0, .inl (cI, 6, .inl f0)), (p8, .inl (cI, 64, .inl f_p8_10))] → va_S A s.heap H locs → lv_has ls 5 [(0, .ref h0), (1, .int v_26), (2, .int v_24), (3, .int 3), (4, .int i_65)] → W p l e (headSpec wsX0_planEnds ({ frames := 1, cells := 0, slots := 0, locals := 23 } : Room)).room s m ([.ref h0] : List Value).toArray below meth c H locs 0 0 Q0 (F0 m 65 ls []) := by
                            intro n
                            induction n with
                            | zero => intro i_65 t_h0_4_65 t_h0_5_65 H locs ls hn_65 hlo_65 hP hD hS hl; exact absurd hn_65 (Nat.not_lt_zero _)
                            | succ n ih_L_27 =>
                              intro i_65 t_h0_4_65 t_h0_5_65 H locs ls hn_65 hlo_65 hP hD hS hl
                              refine lv_iload hx hb dX0_planEnds_65 (lv_at hl 4 rfl) ?_
                              refine lv_iconst (v := 2) hx hb dX0_planEnds_67 (by decide) ?_
                              refine lv_iload_n hx hb dX0_planEnds_68 rfl (lv_at hl 3 rfl) ?_
                              refine sv_ishl (v := 16) hx hb dX0_planEnds_69 (by decide) ?_
                              refine lv_icmp_ge (tgt := 110) hx hb dX0_planEnds_70 (by decide) (fun c_70 => ?_) (fun c_70 => ?_)
                              ·
                                refine lv_aload_n hx hb dX0_planEnds_110 rfl (lv_at hl 0 rfl) ?_
                                refine va_get (D := D) (ci := 0) (v := .ref p1) (C := RX0) (T := TX0) (N := 9) hx hb hts w_1 hown hK hP 3 rfl rfl 1 (by decide) w_6 (fun _ h9 => h9) rfl dX0_planEnds_111 ?_
                                refine lv_iload_n hx hb dX0_planEnds_114 rfl (lv_at hl 3 rfl) ?_
                                refine lv_iload_n hx hb dX0_planEnds_115 rfl (lv_at hl 1 rfl) ?_
                                refine lv_aload_n hx hb dX0_planEnds_116 rfl (lv_at hl 0 rfl) ?_
                                refine va_get (D := D) (ci := 0) (v := .int t_h0_4_65) (C := RX0) (T := TX0) (N := 9) hx hb hts w_1 hown hK hP 3 rfl rfl 4 (by decide) w_4 (fun _ h9 => h9) rfl dX0_planEnds_117 ?_
                                refine sv_isub (v := v_26 - t_h0_4_65) hx hb dX0_planEnds_120 rfl ?_
                                refine lv_topi (fun v_28 ev_28 => ?_)
                                refine lv_iload_n hx hb dX0_planEnds_121 rfl (lv_at hl 2 rfl) ?_
                                refine sv_isub (v := v_28 - v_24) hx hb dX0_planEnds_122 rfl ?_
                                refine lv_topi (fun v_29 ev_29 => ?_)
                                refine sv_iast hx hb hK hP hD hS 0 1 rfl rfl (vp_in_iff.mpr (by decide)) dX0_planEnds_123 (fun g_30 H locs eg_30 hP hD hS => ?_)
                                have hP : va_P D vwCl [(p1, .inl (cI, 6, .inl g_30)), (p6, .inl (cI, 8, .inl f6)), (p7, .inl (cI, 8, .inl f7)), (h0, .inr (0, [.ref p0, .ref p1, .ref p2, .int (nI a), .int t_h0_4_65, .int t_h0_5_65, .ref p6, .ref p7, .ref p8])), (p0, .inl (cI, 6, .inl f0)), (p8, .inl (cI, 64, .inl f_p8_10))] H := hP
                                have hD : va_D A [(p1, .inl (cI, 6, .inl g_30)), (p6, .inl (cI, 8, .inl f6)), (p7, .inl (cI, 8, .inl f7)), (h0, .inr (0, [.ref p0, .ref p1, .ref p2, .int (nI a), .int t_h0_4_65, .int t_h0_5_65, .ref p6, .ref p7, .ref p8])), (p0, .inl (cI, 6, .inl f0)), (p8, .inl (cI, 64, .inl f_p8_10))] := hD
                                refine lv_iload_n hx hb dX0_planEnds_124 rfl (lv_at hl 1 rfl) ?_
                                refine lv_aload_n hx hb dX0_planEnds_125 rfl (lv_at hl 0 rfl) ?_
                                refine va_get (D := D) (ci := 0) (v := .int t_h0_4_65) (C := RX0) (T := TX0) (N := 9) hx hb hts w_1 hown hK hP 3 rfl rfl 4 (by decide) w_4 (fun _ h9 => h9) rfl dX0_planEnds_126 ?_
                                refine sv_isub (v := v_26 - t_h0_4_65) hx hb dX0_planEnds_129 rfl ?_
                                refine lv_topi (fun v_31 ev_31 => ?_)
                                refine lv_istore_n (lv' := [(2, .int v_31), (0, .ref h0), (1, .int v_26), (3, .int 3), (4, .int i_65)]) hx hb dX0_planEnds_130 rfl hl (by decide) rfl (fun ls hl => ?_)
                                refine lv_iinc (v := 4) (lv' := [(3, .int 4), (2, .int v_31), (0, .ref h0), (1, .int v_26), (4, .int i_65)]) hx hb dX0_planEnds_131 hl (k := 3) rfl (by decide) (by decide) rfl (fun ls hl => ?_)
                                refine lv_goto (tgt := 45) hx hb dX0_planEnds_134 (by decide) ?_
                                refine lv_iload_n hx hb dX0_planEnds_45 rfl (lv_at hl 0 rfl) ?_
                                refine lv_bipush (v := 6) hx hb dX0_planEnds_46 (by decide) ?_
                                refine lv_icmp_ge (tgt := 137) hx hb dX0_planEnds_48 (by decide) (fun h => absurd h (by decide)) (fun _ => ?_)
                                refine lv_iload_n hx hb dX0_planEnds_51 rfl (lv_at hl 3 rfl) ?_
                                refine lv_aload_n hx hb dX0_planEnds_52 rfl (lv_at hl 2 rfl) ?_
                                refine va_get (D := D) (ci := 0) (v := .ref p0) (C := RX0) (T := TX0) (N := 9) hx hb hts w_1 hown hK hP 3 rfl rfl 0 (by decide) w_2 (fun _ h9 => h9) rfl dX0_planEnds_53 ?_
                                refine lv_iload_n hx hb dX0_planEnds_56 rfl (lv_at hl 0 rfl) ?_
                                refine sv_iald (v := f0 (4 : Int32).toNatClampNeg) hx hb hK hP 4 1 rfl rfl (vp_in_iff.mpr (by decide)) rfl dX0_planEnds_57 ?_
                                refine lv_topi (fun v_32 ev_32 => ?_)
                                refine sv_iadd (v := v_26 + v_32) hx hb dX0_planEnds_58 rfl ?_
                                refine lv_topi (fun v_33 ev_33 => ?_)
                                refine lv_istore_n (lv' := [(1, .int v_33), (3, .int 4), (2, .int v_31), (0, .ref h0), (4, .int i_65)]) hx hb dX0_planEnds_59 rfl hl (by decide) rfl (fun ls hl => ?_)
                                refine lv_iconst (v := 1) hx hb dX0_planEnds_60 (by decide) ?_
                                refine lv_iload_n hx hb dX0_planEnds_61 rfl (lv_at hl 1 rfl) ?_
                                refine sv_ishl (v := 16) hx hb dX0_planEnds_62 (by decide) ?_
                                refine lv_istore (lv' := [(4, .int 16), (1, .int v_33), (3, .int 4), (2, .int v_31), (0, .ref h0)]) hx hb dX0_planEnds_63 hl (by decide) rfl (fun ls hl => ?_)
                                have L_34 : ∀ (n : Nat) (i_65 : Int32) (t_h0_4_65 : Int32) (t_h0_5_65 : Int32) (H : Heap) (locs : List Loc) (ls : Array Slot), (Int32.toInt 32 - i_65.toInt).toNat < n → 0 ≤ i_65.toInt → va_P D vwCl [(p1, .inl (cI, 6, .inl g_30)), (p6, .inl (cI, 8, .inl f6)), (p7, .inl (cI, 8, .inl f7)), (h0, .inr (0, [.ref p0, .ref p1, .ref p2, .int (nI a), .int t_h0_4_65, .int t_h0_5_65, .ref p6, .ref p7, .ref p8])), (p0, .inl (cI, 6, .inl f0)), (p8, .inl (cI, 64, .inl f_p8_10))] H → va_D A [(p1, .inl (cI, 6, .inl g_30)), (p6, .inl (cI, 8, .inl f6)), (p7, .inl (cI, 8, .inl f7)), (h0, .inr (0, [.ref p0, .ref p1, .ref p2, .int (nI a), .int t_h0_4_65, .int t_h0_5_65, .ref p6, .ref p7, .ref p8])), (p0, .inl (cI, 6, .inl f0)), (p8, .inl (cI, 64, .inl f_p8_10))] → va_S A s.heap H locs → lv_has ls 5 [(0, .ref h0), (1, .int v_33), (2, .int v_31), (3, .int 4), (4, .int i_65)] → W p l e (headSpec wsX0_planEnds ({ frames := 1, cells := 0, slots := 0, locals := 23 } : Room)).room s m ([.ref h0] : List Value).toArray below meth c H locs 0 0 Q0 (F0 m 65 ls []) := by
                                  intro n
                                  induction n with
                                  | zero => intro i_65 t_h0_4_65 t_h0_5_65 H locs ls hn_65 hlo_65 hP hD hS hl; exact absurd hn_65 (Nat.not_lt_zero _)
                                  | succ n ih_L_34 =>
                                    intro i_65 t_h0_4_65 t_h0_5_65 H locs ls hn_65 hlo_65 hP hD hS hl
                                    refine lv_iload hx hb dX0_planEnds_65 (lv_at hl 4 rfl) ?_
                                    refine lv_iconst (v := 2) hx hb dX0_planEnds_67 (by decide) ?_
                                    refine lv_iload_n hx hb dX0_planEnds_68 rfl (lv_at hl 3 rfl) ?_
                                    refine sv_ishl (v := 32) hx hb dX0_planEnds_69 (by decide) ?_
                                    refine lv_icmp_ge (tgt := 110) hx hb dX0_planEnds_70 (by decide) (fun c_70 => ?_) (fun c_70 => ?_)
                                    ·
                                      refine lv_aload_n hx hb dX0_planEnds_110 rfl (lv_at hl 0 rfl) ?_
                                      refine va_get (D := D) (ci := 0) (v := .ref p1) (C := RX0) (T := TX0) (N := 9) hx hb hts w_1 hown hK hP 3 rfl rfl 1 (by decide) w_6 (fun _ h9 => h9) rfl dX0_planEnds_111 ?_
                                      refine lv_iload_n hx hb dX0_planEnds_114 rfl (lv_at hl 3 rfl) ?_
                                      refine lv_iload_n hx hb dX0_planEnds_115 rfl (lv_at hl 1 rfl) ?_
                                      refine lv_aload_n hx hb dX0_planEnds_116 rfl (lv_at hl 0 rfl) ?_
                                      refine va_get (D := D) (ci := 0) (v := .int t_h0_4_65) (C := RX0) (T := TX0) (N := 9) hx hb hts w_1 hown hK hP 3 rfl rfl 4 (by decide) w_4 (fun _ h9 => h9) rfl dX0_planEnds_117 ?_
                                      refine sv_isub (v := v_33 - t_h0_4_65) hx hb dX0_planEnds_120 rfl ?_
                                      refine lv_topi (fun v_35 ev_35 => ?_)
                                      refine lv_iload_n hx hb dX0_planEnds_121 rfl (lv_at hl 2 rfl) ?_
                                      refine sv_isub (v := v_35 - v_31) hx hb dX0_planEnds_122 rfl ?_
                                      refine lv_topi (fun v_36 ev_36 => ?_)
                                      refine sv_iast hx hb hK hP hD hS 0 1 rfl rfl (vp_in_iff.mpr (by decide)) dX0_planEnds_123 (fun g_37 H locs eg_37 hP hD hS => ?_)
                                      have hP : va_P D vwCl [(p1, .inl (cI, 6, .inl g_37)), (p6, .inl (cI, 8, .inl f6)), (p7, .inl (cI, 8, .inl f7)), (h0, .inr (0, [.ref p0, .ref p1, .ref p2, .int (nI a), .int t_h0_4_65, .int t_h0_5_65, .ref p6, .ref p7, .ref p8])), (p0, .inl (cI, 6, .inl f0)), (p8, .inl (cI, 64, .inl f_p8_10))] H := hP
                                      have hD : va_D A [(p1, .inl (cI, 6, .inl g_37)), (p6, .inl (cI, 8, .inl f6)), (p7, .inl (cI, 8, .inl f7)), (h0, .inr (0, [.ref p0, .ref p1, .ref p2, .int (nI a), .int t_h0_4_65, .int t_h0_5_65, .ref p6, .ref p7, .ref p8])), (p0, .inl (cI, 6, .inl f0)), (p8, .inl (cI, 64, .inl f_p8_10))] := hD
                                      refine lv_iload_n hx hb dX0_planEnds_124 rfl (lv_at hl 1 rfl) ?_
                                      refine lv_aload_n hx hb dX0_planEnds_125 rfl (lv_at hl 0 rfl) ?_
                                      refine va_get (D := D) (ci := 0) (v := .int t_h0_4_65) (C := RX0) (T := TX0) (N := 9) hx hb hts w_1 hown hK hP 3 rfl rfl 4 (by decide) w_4 (fun _ h9 => h9) rfl dX0_planEnds_126 ?_
                                      refine sv_isub (v := v_33 - t_h0_4_65) hx hb dX0_planEnds_129 rfl ?_
                                      refine lv_topi (fun v_38 ev_38 => ?_)
                                      refine lv_istore_n (lv' := [(2, .int v_38), (0, .ref h0), (1, .int v_33), (3, .int 4), (4, .int i_65)]) hx hb dX0_planEnds_130 rfl hl (by decide) rfl (fun ls hl => ?_)
                                      refine lv_iinc (v := 5) (lv' := [(3, .int 5), (2, .int v_38), (0, .ref h0), (1, .int v_33), (4, .int i_65)]) hx hb dX0_planEnds_131 hl (k := 3) rfl (by decide) (by decide) rfl (fun ls hl => ?_)
                                      refine lv_goto (tgt := 45) hx hb dX0_planEnds_134 (by decide) ?_
                                      refine lv_iload_n hx hb dX0_planEnds_45 rfl (lv_at hl 0 rfl) ?_
                                      refine lv_bipush (v := 6) hx hb dX0_planEnds_46 (by decide) ?_
                                      refine lv_icmp_ge (tgt := 137) hx hb dX0_planEnds_48 (by decide) (fun h => absurd h (by decide)) (fun _ => ?_)
                                      refine lv_iload_n hx hb dX0_planEnds_51 rfl (lv_at hl 3 rfl) ?_
                                      refine lv_aload_n hx hb dX0_planEnds_52 rfl (lv_at hl 2 rfl) ?_
                                      refine va_get (D := D) (ci := 0) (v := .ref p0) (C := RX0) (T := TX0) (N := 9) hx hb hts w_1 hown hK hP 3 rfl rfl 0 (by decide) w_2 (fun _ h9 => h9) rfl dX0_planEnds_53 ?_
                                      refine lv_iload_n hx hb dX0_planEnds_56 rfl (lv_at hl 0 rfl) ?_
                                      refine sv_iald (v := f0 (5 : Int32).toNatClampNeg) hx hb hK hP 4 1 rfl rfl (vp_in_iff.mpr (by decide)) rfl dX0_planEnds_57 ?_
                                      refine lv_topi (fun v_39 ev_39 => ?_)
                                      refine sv_iadd (v := v_33 + v_39) hx hb dX0_planEnds_58 rfl ?_
                                      refine lv_topi (fun v_40 ev_40 => ?_)
                                      refine lv_istore_n (lv' := [(1, .int v_40), (3, .int 5), (2, .int v_38), (0, .ref h0), (4, .int i_65)]) hx hb dX0_planEnds_59 rfl hl (by decide) rfl (fun ls hl => ?_)
                                      refine lv_iconst (v := 1) hx hb dX0_planEnds_60 (by decide) ?_
                                      refine lv_iload_n hx hb dX0_planEnds_61 rfl (lv_at hl 1 rfl) ?_
                                      refine sv_ishl (v := 32) hx hb dX0_planEnds_62 (by decide) ?_
                                      refine lv_istore (lv' := [(4, .int 32), (1, .int v_40), (3, .int 5), (2, .int v_38), (0, .ref h0)]) hx hb dX0_planEnds_63 hl (by decide) rfl (fun ls hl => ?_)
                                      have L_41 : ∀ (n : Nat) (i_65 : Int32) (t_h0_4_65 : Int32) (t_h0_5_65 : Int32) (H : Heap) (locs : List Loc) (ls : Array Slot), (Int32.toInt 64 - i_65.toInt).toNat < n → 0 ≤ i_65.toInt → va_P D vwCl [(p1, .inl (cI, 6, .inl g_37)), (p6, .inl (cI, 8, .inl f6)), (p7, .inl (cI, 8, .inl f7)), (h0, .inr (0, [.ref p0, .ref p1, .ref p2, .int (nI a), .int t_h0_4_65, .int t_h0_5_65, .ref p6, .ref p7, .ref p8])), (p0, .inl (cI, 6, .inl f0)), (p8, .inl (cI, 64, .inl f_p8_10))] H → va_D A [(p1, .inl (cI, 6, .inl g_37)), (p6, .inl (cI, 8, .inl f6)), (p7, .inl (cI, 8, .inl f7)), (h0, .inr (0, [.ref p0, .ref p1, .ref p2, .int (nI a), .int t_h0_4_65, .int t_h0_5_65, .ref p6, .ref p7, .ref p8])), (p0, .inl (cI, 6, .inl f0)), (p8, .inl (cI, 64, .inl f_p8_10))] → va_S A s.heap H locs → lv_has ls 5 [(0, .ref h0), (1, .int v_40), (2, .int v_38), (3, .int 5), (4, .int i_65)] → W p l e (headSpec wsX0_planEnds ({ frames := 1, cells := 0, slots := 0, locals := 23 } : Room)).room s m ([.ref h0] : List Value).toArray below meth c H locs 0 0 Q0 (F0 m 65 ls []) := by
                                        intro n
                                        induction n with
                                        | zero => intro i_65 t_h0_4_65 t_h0_5_65 H locs ls hn_65 hlo_65 hP hD hS hl; exact absurd hn_65 (Nat.not_lt_zero _)
                                        | succ n ih_L_41 =>
                                          intro i_65 t_h0_4_65 t_h0_5_65 H locs ls hn_65 hlo_65 hP hD hS hl
                                          refine lv_iload hx hb dX0_planEnds_65 (lv_at hl 4 rfl) ?_
                                          refine lv_iconst (v := 2) hx hb dX0_planEnds_67 (by decide) ?_
                                          refine lv_iload_n hx hb dX0_planEnds_68 rfl (lv_at hl 3 rfl) ?_
                                          refine sv_ishl (v := 64) hx hb dX0_planEnds_69 (by decide) ?_
                                          refine lv_icmp_ge (tgt := 110) hx hb dX0_planEnds_70 (by decide) (fun c_70 => ?_) (fun c_70 => ?_)
                                          ·
                                            refine lv_aload_n hx hb dX0_planEnds_110 rfl (lv_at hl 0 rfl) ?_
                                            refine va_get (D := D) (ci := 0) (v := .ref p1) (C := RX0) (T := TX0) (N := 9) hx hb hts w_1 hown hK hP 3 rfl rfl 1 (by decide) w_6 (fun _ h9 => h9) rfl dX0_planEnds_111 ?_
                                            refine lv_iload_n hx hb dX0_planEnds_114 rfl (lv_at hl 3 rfl) ?_
                                            refine lv_iload_n hx hb dX0_planEnds_115 rfl (lv_at hl 1 rfl) ?_
                                            refine lv_aload_n hx hb dX0_planEnds_116 rfl (lv_at hl 0 rfl) ?_
                                            refine va_get (D := D) (ci := 0) (v := .int t_h0_4_65) (C := RX0) (T := TX0) (N := 9) hx hb hts w_1 hown hK hP 3 rfl rfl 4 (by decide) w_4 (fun _ h9 => h9) rfl dX0_planEnds_117 ?_
                                            refine sv_isub (v := v_40 - t_h0_4_65) hx hb dX0_planEnds_120 rfl ?_
                                            refine lv_topi (fun v_42 ev_42 => ?_)
                                            refine lv_iload_n hx hb dX0_planEnds_121 rfl (lv_at hl 2 rfl) ?_
                                            refine sv_isub (v := v_42 - v_38) hx hb dX0_planEnds_122 rfl ?_
                                            refine lv_topi (fun v_43 ev_43 => ?_)
                                            refine sv_iast hx hb hK hP hD hS 0 1 rfl rfl (vp_in_iff.mpr (by decide)) dX0_planEnds_123 (fun g_44 H locs eg_44 hP hD hS => ?_)
                                            have hP : va_P D vwCl [(p1, .inl (cI, 6, .inl g_44)), (p6, .inl (cI, 8, .inl f6)), (p7, .inl (cI, 8, .inl f7)), (h0, .inr (0, [.ref p0, .ref p1, .ref p2, .int (nI a), .int t_h0_4_65, .int t_h0_5_65, .ref p6, .ref p7, .ref p8])), (p0, .inl (cI, 6, .inl f0)), (p8, .inl (cI, 64, .inl f_p8_10))] H := hP
                                            have hD : va_D A [(p1, .inl (cI, 6, .inl g_44)), (p6, .inl (cI, 8, .inl f6)), (p7, .inl (cI, 8, .inl f7)), (h0, .inr (0, [.ref p0, .ref p1, .ref p2, .int (nI a), .int t_h0_4_65, .int t_h0_5_65, .ref p6, .ref p7, .ref p8])), (p0, .inl (cI, 6, .inl f0)), (p8, .inl (cI, 64, .inl f_p8_10))] := hD
                                            refine lv_iload_n hx hb dX0_planEnds_124 rfl (lv_at hl 1 rfl) ?_
                                            refine lv_aload_n hx hb dX0_planEnds_125 rfl (lv_at hl 0 rfl) ?_
                                            refine va_get (D := D) (ci := 0) (v := .int t_h0_4_65) (C := RX0) (T := TX0) (N := 9) hx hb hts w_1 hown hK hP 3 rfl rfl 4 (by decide) w_4 (fun _ h9 => h9) rfl dX0_planEnds_126 ?_
                                            refine sv_isub (v := v_40 - t_h0_4_65) hx hb dX0_planEnds_129 rfl ?_
                                            refine lv_topi (fun v_45 ev_45 => ?_)
                                            refine lv_istore_n (lv' := [(2, .int v_45), (0, .ref h0), (1, .int v_40), (3, .int 5), (4, .int i_65)]) hx hb dX0_planEnds_130 rfl hl (by decide) rfl (fun ls hl => ?_)
                                            refine lv_iinc (v := 6) (lv' := [(3, .int 6), (2, .int v_45), (0, .ref h0), (1, .int v_40), (4, .int i_65)]) hx hb dX0_planEnds_131 hl (k := 3) rfl (by decide) (by decide) rfl (fun ls hl => ?_)
                                            refine lv_goto (tgt := 45) hx hb dX0_planEnds_134 (by decide) ?_
                                            refine lv_iload_n hx hb dX0_planEnds_45 rfl (lv_at hl 0 rfl) ?_
                                            refine lv_bipush (v := 6) hx hb dX0_planEnds_46 (by decide) ?_
                                            refine lv_icmp_ge (tgt := 137) hx hb dX0_planEnds_48 (by decide) (fun _ => ?_) (fun h => absurd (by decide) h)
                                            rw [← hQ]
                                            have hP9 := hP.sub (ws' := [(h0, .inr (0, [.ref p0, .ref p1, .ref p2, .int (nI a), .int t_h0_4_65, .int t_h0_5_65, .ref p6, .ref p7, .ref p8])), (p0, .inl (cI, 6, .inl f0)), (p1, .inl (cI, 6, .inl g_44)), (p6, .inl (cI, 8, .inl f6)), (p7, .inl (cI, 8, .inl f7)), (p8, .inl (cI, 64, .inl f_p8_10))]) [3, 4, 0, 1, 2, 5] rfl
                                            have hD9 := hD.sub (ws' := [(h0, .inr (0, [.ref p0, .ref p1, .ref p2, .int (nI a), .int t_h0_4_65, .int t_h0_5_65, .ref p6, .ref p7, .ref p8])), (p0, .inl (cI, 6, .inl f0)), (p1, .inl (cI, 6, .inl g_44)), (p6, .inl (cI, 8, .inl f6)), (p7, .inl (cI, 8, .inl f7)), (p8, .inl (cI, 64, .inl f_p8_10))]) [3, 4, 0, 1, 2, 5] (by decide) rfl
                                            exact W.vret hx hb hr (fun t ht hW => ⟨⟨(g_44, f_p8_10, (t_h0_4_65 : Int32), (t_h0_5_65 : Int32)), rfl, trivial, by rw [ht]; exact hP9, va_K.moved hW.alike hK, hD9⟩, hS.F ht⟩) hS.2.2 dX0_planEnds_137
                                          ·
                                            refine lv_aload_n hx hb dX0_planEnds_73 rfl (lv_at hl 0 rfl) ?_
                                            refine va_get (D := D) (ci := 0) (v := .ref p8) (C := RX0) (T := TX0) (N := 9) hx hb hts w_1 hown hK hP 3 rfl rfl 8 (by decide) w_7 (fun _ h9 => h9) rfl dX0_planEnds_74 ?_
                                            refine lv_iload hx hb dX0_planEnds_77 (lv_at hl 4 rfl) ?_
                                            refine sv_iald (v := f_p8_10 i_65.toNatClampNeg) hx hb hK hP 5 1 rfl rfl (lp_in hlo_65 c_70 (by decide)) rfl dX0_planEnds_79 ?_
                                            refine lv_topi (fun v_46 ev_46 => ?_)
                                            refine lv_aload_n hx hb dX0_planEnds_80 rfl (lv_at hl 0 rfl) ?_
                                            refine va_get (D := D) (ci := 0) (v := .int t_h0_4_65) (C := RX0) (T := TX0) (N := 9) hx hb hts w_1 hown hK hP 3 rfl rfl 4 (by decide) w_4 (fun _ h9 => h9) rfl dX0_planEnds_81 ?_
                                            refine lv_icmp_le (tgt := 104) hx hb dX0_planEnds_84 (by decide) (fun c_84 => ?_) (fun c_84 => ?_)
                                            ·
                                              refine lv_iinc (v := i_65 + 1) (lv' := [(4, .int (i_65 + 1)), (0, .ref h0), (1, .int v_40), (2, .int v_38), (3, .int 5)]) hx hb dX0_planEnds_104 hl (k := 4) rfl rfl (by decide) rfl (fun ls hl => ?_)
                                              refine lv_goto (tgt := 65) hx hb dX0_planEnds_107 (by decide) ?_
                                              exact ih_L_41 (i_65 + 1) t_h0_4_65 t_h0_5_65 _ _ ls (lp_dec hn_65 c_70) (by have h9 := lp_inc c_70; omega) hP hD hS (lv_sub hl [1, 2, 3, 4, 0] rfl)
                                            ·
                                              refine lv_aload_n hx hb dX0_planEnds_87 rfl (lv_at hl 0 rfl) ?_
                                              refine lv_aload_n hx hb dX0_planEnds_88 rfl (lv_at hl 0 rfl) ?_
                                              refine va_get (D := D) (ci := 0) (v := .ref p8) (C := RX0) (T := TX0) (N := 9) hx hb hts w_1 hown hK hP 3 rfl rfl 8 (by decide) w_7 (fun _ h9 => h9) rfl dX0_planEnds_89 ?_
                                              refine lv_iload hx hb dX0_planEnds_92 (lv_at hl 4 rfl) ?_
                                              refine sv_iald (v := f_p8_10 i_65.toNatClampNeg) hx hb hK hP 5 1 rfl rfl (lp_in hlo_65 c_70 (by decide)) rfl dX0_planEnds_94 ?_
                                              refine lv_topi (fun v_47 ev_47 => ?_)
                                              refine va_put (D := D) (ci := 0) (v := .int v_47) (ty := .int) (C := RX0) (T := TX0) (N := 9) hx hb hts w_1 tyX0 tyX0_ok nmX0 hown hK hP hD hS 3 rfl rfl 4 (by decide) w_4 (fun _ h9 => h9) rfl (by decide +kernel) rfl rfl (Nat.le_of_ble_eq_true rfl) dX0_planEnds_95 (fun H locs hP hD hS => ?_)
                                              have hP : va_P D vwCl [(p1, .inl (cI, 6, .inl g_37)), (p6, .inl (cI, 8, .inl f6)), (p7, .inl (cI, 8, .inl f7)), (h0, .inr (0, [.ref p0, .ref p1, .ref p2, .int (nI a), .int v_47, .int t_h0_5_65, .ref p6, .ref p7, .ref p8])), (p0, .inl (cI, 6, .inl f0)), (p8, .inl (cI, 64, .inl f_p8_10))] H := hP
                                              have hD : va_D A [(p1, .inl (cI, 6, .inl g_37)), (p6, .inl (cI, 8, .inl f6)), (p7, .inl (cI, 8, .inl f7)), (h0, .inr (0, [.ref p0, .ref p1, .ref p2, .int (nI a), .int v_47, .int t_h0_5_65, .ref p6, .ref p7, .ref p8])), (p0, .inl (cI, 6, .inl f0)), (p8, .inl (cI, 64, .inl f_p8_10))] := hD
                                              refine lv_aload_n hx hb dX0_planEnds_98 rfl (lv_at hl 0 rfl) ?_
                                              refine lv_iload hx hb dX0_planEnds_99 (lv_at hl 4 rfl) ?_
                                              refine va_put (D := D) (ci := 0) (v := .int i_65) (ty := .int) (C := RX0) (T := TX0) (N := 9) hx hb hts w_1 tyX0 tyX0_ok nmX0 hown hK hP hD hS 3 rfl rfl 5 (by decide) w_5 (fun _ h9 => h9) rfl (by decide +kernel) rfl rfl (Nat.le_of_ble_eq_true rfl) dX0_planEnds_101 (fun H locs hP hD hS => ?_)
                                              have hP : va_P D vwCl [(p1, .inl (cI, 6, .inl g_37)), (p6, .inl (cI, 8, .inl f6)), (p7, .inl (cI, 8, .inl f7)), (h0, .inr (0, [.ref p0, .ref p1, .ref p2, .int (nI a), .int v_47, .int i_65, .ref p6, .ref p7, .ref p8])), (p0, .inl (cI, 6, .inl f0)), (p8, .inl (cI, 64, .inl f_p8_10))] H := hP
                                              have hD : va_D A [(p1, .inl (cI, 6, .inl g_37)), (p6, .inl (cI, 8, .inl f6)), (p7, .inl (cI, 8, .inl f7)), (h0, .inr (0, [.ref p0, .ref p1, .ref p2, .int (nI a), .int v_47, .int i_65, .ref p6, .ref p7, .ref p8])), (p0, .inl (cI, 6, .inl f0)), (p8, .inl (cI, 64, .inl f_p8_10))] := hD
                                              refine lv_iinc (v := i_65 + 1) (lv' := [(4, .int (i_65 + 1)), (0, .ref h0), (1, .int v_40), (2, .int v_38), (3, .int 5)]) hx hb dX0_planEnds_104 hl (k := 4) rfl rfl (by decide) rfl (fun ls hl => ?_)
                                              refine lv_goto (tgt := 65) hx hb dX0_planEnds_107 (by decide) ?_
                                              exact ih_L_41 (i_65 + 1) v_47 i_65 _ _ ls (lp_dec hn_65 c_70) (by have h9 := lp_inc c_70; omega) hP hD hS (lv_sub hl [1, 2, 3, 4, 0] rfl)
                                      exact L_41 _ 32 t_h0_4_65 t_h0_5_65 _ _ ls (Nat.lt_succ_self _) (by decide) hP hD hS (lv_sub hl [4, 1, 3, 2, 0] rfl)
                                    ·
                                      refine lv_aload_n hx hb dX0_planEnds_73 rfl (lv_at hl 0 rfl) ?_
                                      refine va_get (D := D) (ci := 0) (v := .ref p8) (C := RX0) (T := TX0) (N := 9) hx hb hts w_1 hown hK hP 3 rfl rfl 8 (by decide) w_7 (fun _ h9 => h9) rfl dX0_planEnds_74 ?_
                                      refine lv_iload hx hb dX0_planEnds_77 (lv_at hl 4 rfl) ?_
                                      refine sv_iald (v := f_p8_10 i_65.toNatClampNeg) hx hb hK hP 5 1 rfl rfl (lp_in hlo_65 c_70 (by decide)) rfl dX0_planEnds_79 ?_
                                      refine lv_topi (fun v_48 ev_48 => ?_)
                                      refine lv_aload_n hx hb dX0_planEnds_80 rfl (lv_at hl 0 rfl) ?_
                                      refine va_get (D := D) (ci := 0) (v := .int t_h0_4_65) (C := RX0) (T := TX0) (N := 9) hx hb hts w_1 hown hK hP 3 rfl rfl 4 (by decide) w_4 (fun _ h9 => h9) rfl dX0_planEnds_81 ?_
                                      refine lv_icmp_le (tgt := 104) hx hb dX0_planEnds_84 (by decide) (fun c_84 => ?_) (fun c_84 => ?_)
                                      ·
                                        refine lv_iinc (v := i_65 + 1) (lv' := [(4, .int (i_65 + 1)), (0, .ref h0), (1, .int v_33), (2, .int v_31), (3, .int 4)]) hx hb dX0_planEnds_104 hl (k := 4) rfl rfl (by decide) rfl (fun ls hl => ?_)
                                        refine lv_goto (tgt := 65) hx hb dX0_planEnds_107 (by decide) ?_
                                        exact ih_L_34 (i_65 + 1) t_h0_4_65 t_h0_5_65 _ _ ls (lp_dec hn_65 c_70) (by have h9 := lp_inc c_70; omega) hP hD hS (lv_sub hl [1, 2, 3, 4, 0] rfl)
                                      ·
                                        refine lv_aload_n hx hb dX0_planEnds_87 rfl (lv_at hl 0 rfl) ?_
                                        refine lv_aload_n hx hb dX0_planEnds_88 rfl (lv_at hl 0 rfl) ?_
                                        refine va_get (D := D) (ci := 0) (v := .ref p8) (C := RX0) (T := TX0) (N := 9) hx hb hts w_1 hown hK hP 3 rfl rfl 8 (by decide) w_7 (fun _ h9 => h9) rfl dX0_planEnds_89 ?_
                                        refine lv_iload hx hb dX0_planEnds_92 (lv_at hl 4 rfl) ?_
                                        refine sv_iald (v := f_p8_10 i_65.toNatClampNeg) hx hb hK hP 5 1 rfl rfl (lp_in hlo_65 c_70 (by decide)) rfl dX0_planEnds_94 ?_
                                        refine lv_topi (fun v_49 ev_49 => ?_)
                                        refine va_put (D := D) (ci := 0) (v := .int v_49) (ty := .int) (C := RX0) (T := TX0) (N := 9) hx hb hts w_1 tyX0 tyX0_ok nmX0 hown hK hP hD hS 3 rfl rfl 4 (by decide) w_4 (fun _ h9 => h9) rfl (by decide +kernel) rfl rfl (Nat.le_of_ble_eq_true rfl) dX0_planEnds_95 (fun H locs hP hD hS => ?_)
                                        have hP : va_P D vwCl [(p1, .inl (cI, 6, .inl g_30)), (p6, .inl (cI, 8, .inl f6)), (p7, .inl (cI, 8, .inl f7)), (h0, .inr (0, [.ref p0, .ref p1, .ref p2, .int (nI a), .int v_49, .int t_h0_5_65, .ref p6, .ref p7, .ref p8])), (p0, .inl (cI, 6, .inl f0)), (p8, .inl (cI, 64, .inl f_p8_10))] H := hP
                                        have hD : va_D A [(p1, .inl (cI, 6, .inl g_30)), (p6, .inl (cI, 8, .inl f6)), (p7, .inl (cI, 8, .inl f7)), (h0, .inr (0, [.ref p0, .ref p1, .ref p2, .int (nI a), .int v_49, .int t_h0_5_65, .ref p6, .ref p7, .ref p8])), (p0, .inl (cI, 6, .inl f0)), (p8, .inl (cI, 64, .inl f_p8_10))] := hD
                                        refine lv_aload_n hx hb dX0_planEnds_98 rfl (lv_at hl 0 rfl) ?_
                                        refine lv_iload hx hb dX0_planEnds_99 (lv_at hl 4 rfl) ?_
                                        refine va_put (D := D) (ci := 0) (v := .int i_65) (ty := .int) (C := RX0) (T := TX0) (N := 9) hx hb hts w_1 tyX0 tyX0_ok nmX0 hown hK hP hD hS 3 rfl rfl 5 (by decide) w_5 (fun _ h9 => h9) rfl (by decide +kernel) rfl rfl (Nat.le_of_ble_eq_true rfl) dX0_planEnds_101 (fun H locs hP hD hS => ?_)
                                        have hP : va_P D vwCl [(p1, .inl (cI, 6, .inl g_30)), (p6, .inl (cI, 8, .inl f6)), (p7, .inl (cI, 8, .inl f7)), (h0, .inr (0, [.ref p0, .ref p1, .ref p2, .int (nI a), .int v_49, .int i_65, .ref p6, .ref p7, .ref p8])), (p0, .inl (cI, 6, .inl f0)), (p8, .inl (cI, 64, .inl f_p8_10))] H := hP
                                        have hD : va_D A [(p1, .inl (cI, 6, .inl g_30)), (p6, .inl (cI, 8, .inl f6)), (p7, .inl (cI, 8, .inl f7)), (h0, .inr (0, [.ref p0, .ref p1, .ref p2, .int (nI a), .int v_49, .int i_65, .ref p6, .ref p7, .ref p8])), (p0, .inl (cI, 6, .inl f0)), (p8, .inl (cI, 64, .inl f_p8_10))] := hD
                                        refine lv_iinc (v := i_65 + 1) (lv' := [(4, .int (i_65 + 1)), (0, .ref h0), (1, .int v_33), (2, .int v_31), (3, .int 4)]) hx hb dX0_planEnds_104 hl (k := 4) rfl rfl (by decide) rfl (fun ls hl => ?_)
                                        refine lv_goto (tgt := 65) hx hb dX0_planEnds_107 (by decide) ?_
                                        exact ih_L_34 (i_65 + 1) v_49 i_65 _ _ ls (lp_dec hn_65 c_70) (by have h9 := lp_inc c_70; omega) hP hD hS (lv_sub hl [1, 2, 3, 4, 0] rfl)
                                exact L_34 _ 16 t_h0_4_65 t_h0_5_65 _ _ ls (Nat.lt_succ_self _) (by decide) hP hD hS (lv_sub hl [4, 1, 3, 2, 0] rfl)
                              ·
                                refine lv_aload_n hx hb dX0_planEnds_73 rfl (lv_at hl 0 rfl) ?_
                                refine va_get (D := D) (ci := 0) (v := .ref p8) (C := RX0) (T := TX0) (N := 9) hx hb hts w_1 hown hK hP 3 rfl rfl 8 (by decide) w_7 (fun _ h9 => h9) rfl dX0_planEnds_74 ?_
                                refine lv_iload hx hb dX0_planEnds_77 (lv_at hl 4 rfl) ?_
                                refine sv_iald (v := f_p8_10 i_65.toNatClampNeg) hx hb hK hP 5 1 rfl rfl (lp_in hlo_65 c_70 (by decide)) rfl dX0_planEnds_79 ?_
                                refine lv_topi (fun v_50 ev_50 => ?_)
                                refine lv_aload_n hx hb dX0_planEnds_80 rfl (lv_at hl 0 rfl) ?_
                                refine va_get (D := D) (ci := 0) (v := .int t_h0_4_65) (C := RX0) (T := TX0) (N := 9) hx hb hts w_1 hown hK hP 3 rfl rfl 4 (by decide) w_4 (fun _ h9 => h9) rfl dX0_planEnds_81 ?_
                                refine lv_icmp_le (tgt := 104) hx hb dX0_planEnds_84 (by decide) (fun c_84 => ?_) (fun c_84 => ?_)
                                ·
                                  refine lv_iinc (v := i_65 + 1) (lv' := [(4, .int (i_65 + 1)), (0, .ref h0), (1, .int v_26), (2, .int v_24), (3, .int 3)]) hx hb dX0_planEnds_104 hl (k := 4) rfl rfl (by decide) rfl (fun ls hl => ?_)
                                  refine lv_goto (tgt := 65) hx hb dX0_planEnds_107 (by decide) ?_
                                  exact ih_L_27 (i_65 + 1) t_h0_4_65 t_h0_5_65 _ _ ls (lp_dec hn_65 c_70) (by have h9 := lp_inc c_70; omega) hP hD hS (lv_sub hl [1, 2, 3, 4, 0] rfl)
                                ·
                                  refine lv_aload_n hx hb dX0_planEnds_87 rfl (lv_at hl 0 rfl) ?_
                                  refine lv_aload_n hx hb dX0_planEnds_88 rfl (lv_at hl 0 rfl) ?_
                                  refine va_get (D := D) (ci := 0) (v := .ref p8) (C := RX0) (T := TX0) (N := 9) hx hb hts w_1 hown hK hP 3 rfl rfl 8 (by decide) w_7 (fun _ h9 => h9) rfl dX0_planEnds_89 ?_
                                  refine lv_iload hx hb dX0_planEnds_92 (lv_at hl 4 rfl) ?_
                                  refine sv_iald (v := f_p8_10 i_65.toNatClampNeg) hx hb hK hP 5 1 rfl rfl (lp_in hlo_65 c_70 (by decide)) rfl dX0_planEnds_94 ?_
                                  refine lv_topi (fun v_51 ev_51 => ?_)
                                  refine va_put (D := D) (ci := 0) (v := .int v_51) (ty := .int) (C := RX0) (T := TX0) (N := 9) hx hb hts w_1 tyX0 tyX0_ok nmX0 hown hK hP hD hS 3 rfl rfl 4 (by decide) w_4 (fun _ h9 => h9) rfl (by decide +kernel) rfl rfl (Nat.le_of_ble_eq_true rfl) dX0_planEnds_95 (fun H locs hP hD hS => ?_)
                                  have hP : va_P D vwCl [(p1, .inl (cI, 6, .inl g_23)), (p6, .inl (cI, 8, .inl f6)), (p7, .inl (cI, 8, .inl f7)), (h0, .inr (0, [.ref p0, .ref p1, .ref p2, .int (nI a), .int v_51, .int t_h0_5_65, .ref p6, .ref p7, .ref p8])), (p0, .inl (cI, 6, .inl f0)), (p8, .inl (cI, 64, .inl f_p8_10))] H := hP
                                  have hD : va_D A [(p1, .inl (cI, 6, .inl g_23)), (p6, .inl (cI, 8, .inl f6)), (p7, .inl (cI, 8, .inl f7)), (h0, .inr (0, [.ref p0, .ref p1, .ref p2, .int (nI a), .int v_51, .int t_h0_5_65, .ref p6, .ref p7, .ref p8])), (p0, .inl (cI, 6, .inl f0)), (p8, .inl (cI, 64, .inl f_p8_10))] := hD
                                  refine lv_aload_n hx hb dX0_planEnds_98 rfl (lv_at hl 0 rfl) ?_
                                  refine lv_iload hx hb dX0_planEnds_99 (lv_at hl 4 rfl) ?_
                                  refine va_put (D := D) (ci := 0) (v := .int i_65) (ty := .int) (C := RX0) (T := TX0) (N := 9) hx hb hts w_1 tyX0 tyX0_ok nmX0 hown hK hP hD hS 3 rfl rfl 5 (by decide) w_5 (fun _ h9 => h9) rfl (by decide +kernel) rfl rfl (Nat.le_of_ble_eq_true rfl) dX0_planEnds_101 (fun H locs hP hD hS => ?_)
                                  have hP : va_P D vwCl [(p1, .inl (cI, 6, .inl g_23)), (p6, .inl (cI, 8, .inl f6)), (p7, .inl (cI, 8, .inl f7)), (h0, .inr (0, [.ref p0, .ref p1, .ref p2, .int (nI a), .int v_51, .int i_65, .ref p6, .ref p7, .ref p8])), (p0, .inl (cI, 6, .inl f0)), (p8, .inl (cI, 64, .inl f_p8_10))] H := hP
                                  have hD : va_D A [(p1, .inl (cI, 6, .inl g_23)), (p6, .inl (cI, 8, .inl f6)), (p7, .inl (cI, 8, .inl f7)), (h0, .inr (0, [.ref p0, .ref p1, .ref p2, .int (nI a), .int v_51, .int i_65, .ref p6, .ref p7, .ref p8])), (p0, .inl (cI, 6, .inl f0)), (p8, .inl (cI, 64, .inl f_p8_10))] := hD
                                  refine lv_iinc (v := i_65 + 1) (lv' := [(4, .int (i_65 + 1)), (0, .ref h0), (1, .int v_26), (2, .int v_24), (3, .int 3)]) hx hb dX0_planEnds_104 hl (k := 4) rfl rfl (by decide) rfl (fun ls hl => ?_)
                                  refine lv_goto (tgt := 65) hx hb dX0_planEnds_107 (by decide) ?_
                                  exact ih_L_27 (i_65 + 1) v_51 i_65 _ _ ls (lp_dec hn_65 c_70) (by have h9 := lp_inc c_70; omega) hP hD hS (lv_sub hl [1, 2, 3, 4, 0] rfl)
                          exact L_27 _ 8 t_h0_4_65 t_h0_5_65 _ _ ls (Nat.lt_succ_self _) (by decide) hP hD hS (lv_sub hl [4, 1, 3, 2, 0] rfl)
                        ·
                          refine lv_aload_n hx hb dX0_planEnds_73 rfl (lv_at hl 0 rfl) ?_
                          refine va_get (D := D) (ci := 0) (v := .ref p8) (C := RX0) (T := TX0) (N := 9) hx hb hts w_1 hown hK hP 3 rfl rfl 8 (by decide) w_7 (fun _ h9 => h9) rfl dX0_planEnds_74 ?_
                          refine lv_iload hx hb dX0_planEnds_77 (lv_at hl 4 rfl) ?_
                          refine sv_iald (v := f_p8_10 i_65.toNatClampNeg) hx hb hK hP 5 1 rfl rfl (lp_in hlo_65 c_70 (by decide)) rfl dX0_planEnds_79 ?_
                          refine lv_topi (fun v_52 ev_52 => ?_)
                          refine lv_aload_n hx hb dX0_planEnds_80 rfl (lv_at hl 0 rfl) ?_
                          refine va_get (D := D) (ci := 0) (v := .int t_h0_4_65) (C := RX0) (T := TX0) (N := 9) hx hb hts w_1 hown hK hP 3 rfl rfl 4 (by decide) w_4 (fun _ h9 => h9) rfl dX0_planEnds_81 ?_
                          refine lv_icmp_le (tgt := 104) hx hb dX0_planEnds_84 (by decide) (fun c_84 => ?_) (fun c_84 => ?_)
                          ·
                            refine lv_iinc (v := i_65 + 1) (lv' := [(4, .int (i_65 + 1)), (0, .ref h0), (1, .int v_19), (2, .int v_17), (3, .int 2)]) hx hb dX0_planEnds_104 hl (k := 4) rfl rfl (by decide) rfl (fun ls hl => ?_)
                            refine lv_goto (tgt := 65) hx hb dX0_planEnds_107 (by decide) ?_
                            exact ih_L_20 (i_65 + 1) t_h0_4_65 t_h0_5_65 _ _ ls (lp_dec hn_65 c_70) (by have h9 := lp_inc c_70; omega) hP hD hS (lv_sub hl [1, 2, 3, 4, 0] rfl)
                          ·
                            refine lv_aload_n hx hb dX0_planEnds_87 rfl (lv_at hl 0 rfl) ?_
                            refine lv_aload_n hx hb dX0_planEnds_88 rfl (lv_at hl 0 rfl) ?_
                            refine va_get (D := D) (ci := 0) (v := .ref p8) (C := RX0) (T := TX0) (N := 9) hx hb hts w_1 hown hK hP 3 rfl rfl 8 (by decide) w_7 (fun _ h9 => h9) rfl dX0_planEnds_89 ?_
                            refine lv_iload hx hb dX0_planEnds_92 (lv_at hl 4 rfl) ?_
                            refine sv_iald (v := f_p8_10 i_65.toNatClampNeg) hx hb hK hP 5 1 rfl rfl (lp_in hlo_65 c_70 (by decide)) rfl dX0_planEnds_94 ?_
                            refine lv_topi (fun v_53 ev_53 => ?_)
                            refine va_put (D := D) (ci := 0) (v := .int v_53) (ty := .int) (C := RX0) (T := TX0) (N := 9) hx hb hts w_1 tyX0 tyX0_ok nmX0 hown hK hP hD hS 3 rfl rfl 4 (by decide) w_4 (fun _ h9 => h9) rfl (by decide +kernel) rfl rfl (Nat.le_of_ble_eq_true rfl) dX0_planEnds_95 (fun H locs hP hD hS => ?_)
                            have hP : va_P D vwCl [(p1, .inl (cI, 6, .inl g_16)), (p6, .inl (cI, 8, .inl f6)), (p7, .inl (cI, 8, .inl f7)), (h0, .inr (0, [.ref p0, .ref p1, .ref p2, .int (nI a), .int v_53, .int t_h0_5_65, .ref p6, .ref p7, .ref p8])), (p0, .inl (cI, 6, .inl f0)), (p8, .inl (cI, 64, .inl f_p8_10))] H := hP
                            have hD : va_D A [(p1, .inl (cI, 6, .inl g_16)), (p6, .inl (cI, 8, .inl f6)), (p7, .inl (cI, 8, .inl f7)), (h0, .inr (0, [.ref p0, .ref p1, .ref p2, .int (nI a), .int v_53, .int t_h0_5_65, .ref p6, .ref p7, .ref p8])), (p0, .inl (cI, 6, .inl f0)), (p8, .inl (cI, 64, .inl f_p8_10))] := hD
                            refine lv_aload_n hx hb dX0_planEnds_98 rfl (lv_at hl 0 rfl) ?_
                            refine lv_iload hx hb dX0_planEnds_99 (lv_at hl 4 rfl) ?_
                            refine va_put (D := D) (ci := 0) (v := .int i_65) (ty := .int) (C := RX0) (T := TX0) (N := 9) hx hb hts w_1 tyX0 tyX0_ok nmX0 hown hK hP hD hS 3 rfl rfl 5 (by decide) w_5 (fun _ h9 => h9) rfl (by decide +kernel) rfl rfl (Nat.le_of_ble_eq_true rfl) dX0_planEnds_101 (fun H locs hP hD hS => ?_)
                            have hP : va_P D vwCl [(p1, .inl (cI, 6, .inl g_16)), (p6, .inl (cI, 8, .inl f6)), (p7, .inl (cI, 8, .inl f7)), (h0, .inr (0, [.ref p0, .ref p1, .ref p2, .int (nI a), .int v_53, .int i_65, .ref p6, .ref p7, .ref p8])), (p0, .inl (cI, 6, .inl f0)), (p8, .inl (cI, 64, .inl f_p8_10))] H := hP
                            have hD : va_D A [(p1, .inl (cI, 6, .inl g_16)), (p6, .inl (cI, 8, .inl f6)), (p7, .inl (cI, 8, .inl f7)), (h0, .inr (0, [.ref p0, .ref p1, .ref p2, .int (nI a), .int v_53, .int i_65, .ref p6, .ref p7, .ref p8])), (p0, .inl (cI, 6, .inl f0)), (p8, .inl (cI, 64, .inl f_p8_10))] := hD
                            refine lv_iinc (v := i_65 + 1) (lv' := [(4, .int (i_65 + 1)), (0, .ref h0), (1, .int v_19), (2, .int v_17), (3, .int 2)]) hx hb dX0_planEnds_104 hl (k := 4) rfl rfl (by decide) rfl (fun ls hl => ?_)
                            refine lv_goto (tgt := 65) hx hb dX0_planEnds_107 (by decide) ?_
                            exact ih_L_20 (i_65 + 1) v_53 i_65 _ _ ls (lp_dec hn_65 c_70) (by have h9 := lp_inc c_70; omega) hP hD hS (lv_sub hl [1, 2, 3, 4, 0] rfl)
                    exact L_20 _ 4 t_h0_4_65 t_h0_5_65 _ _ ls (Nat.lt_succ_self _) (by decide) hP hD hS (lv_sub hl [4, 1, 3, 2, 0] rfl)
                  ·
                    refine lv_aload_n hx hb dX0_planEnds_73 rfl (lv_at hl 0 rfl) ?_
                    refine va_get (D := D) (ci := 0) (v := .ref p8) (C := RX0) (T := TX0) (N := 9) hx hb hts w_1 hown hK hP 3 rfl rfl 8 (by decide) w_7 (fun _ h9 => h9) rfl dX0_planEnds_74 ?_
                    refine lv_iload hx hb dX0_planEnds_77 (lv_at hl 4 rfl) ?_
                    refine sv_iald (v := f_p8_10 i_65.toNatClampNeg) hx hb hK hP 5 1 rfl rfl (lp_in hlo_65 c_70 (by decide)) rfl dX0_planEnds_79 ?_
                    refine lv_topi (fun v_54 ev_54 => ?_)
                    refine lv_aload_n hx hb dX0_planEnds_80 rfl (lv_at hl 0 rfl) ?_
                    refine va_get (D := D) (ci := 0) (v := .int t_h0_4_65) (C := RX0) (T := TX0) (N := 9) hx hb hts w_1 hown hK hP 3 rfl rfl 4 (by decide) w_4 (fun _ h9 => h9) rfl dX0_planEnds_81 ?_
                    refine lv_icmp_le (tgt := 104) hx hb dX0_planEnds_84 (by decide) (fun c_84 => ?_) (fun c_84 => ?_)
                    ·
                      refine lv_iinc (v := i_65 + 1) (lv' := [(4, .int (i_65 + 1)), (0, .ref h0), (1, .int v_12), (2, .int v_10), (3, .int 1)]) hx hb dX0_planEnds_104 hl (k := 4) rfl rfl (by decide) rfl (fun ls hl => ?_)
                      refine lv_goto (tgt := 65) hx hb dX0_planEnds_107 (by decide) ?_
                      exact ih_L_13 (i_65 + 1) t_h0_4_65 t_h0_5_65 _ _ ls (lp_dec hn_65 c_70) (by have h9 := lp_inc c_70; omega) hP hD hS (lv_sub hl [1, 2, 3, 4, 0] rfl)
                    ·
                      refine lv_aload_n hx hb dX0_planEnds_87 rfl (lv_at hl 0 rfl) ?_
                      refine lv_aload_n hx hb dX0_planEnds_88 rfl (lv_at hl 0 rfl) ?_
                      refine va_get (D := D) (ci := 0) (v := .ref p8) (C := RX0) (T := TX0) (N := 9) hx hb hts w_1 hown hK hP 3 rfl rfl 8 (by decide) w_7 (fun _ h9 => h9) rfl dX0_planEnds_89 ?_
                      refine lv_iload hx hb dX0_planEnds_92 (lv_at hl 4 rfl) ?_
                      refine sv_iald (v := f_p8_10 i_65.toNatClampNeg) hx hb hK hP 5 1 rfl rfl (lp_in hlo_65 c_70 (by decide)) rfl dX0_planEnds_94 ?_
                      refine lv_topi (fun v_55 ev_55 => ?_)
                      refine va_put (D := D) (ci := 0) (v := .int v_55) (ty := .int) (C := RX0) (T := TX0) (N := 9) hx hb hts w_1 tyX0 tyX0_ok nmX0 hown hK hP hD hS 3 rfl rfl 4 (by decide) w_4 (fun _ h9 => h9) rfl (by decide +kernel) rfl rfl (Nat.le_of_ble_eq_true rfl) dX0_planEnds_95 (fun H locs hP hD hS => ?_)
                      have hP : va_P D vwCl [(p1, .inl (cI, 6, .inl g_9)), (p6, .inl (cI, 8, .inl f6)), (p7, .inl (cI, 8, .inl f7)), (h0, .inr (0, [.ref p0, .ref p1, .ref p2, .int (nI a), .int v_55, .int t_h0_5_65, .ref p6, .ref p7, .ref p8])), (p0, .inl (cI, 6, .inl f0)), (p8, .inl (cI, 64, .inl f_p8_10))] H := hP
                      have hD : va_D A [(p1, .inl (cI, 6, .inl g_9)), (p6, .inl (cI, 8, .inl f6)), (p7, .inl (cI, 8, .inl f7)), (h0, .inr (0, [.ref p0, .ref p1, .ref p2, .int (nI a), .int v_55, .int t_h0_5_65, .ref p6, .ref p7, .ref p8])), (p0, .inl (cI, 6, .inl f0)), (p8, .inl (cI, 64, .inl f_p8_10))] := hD
                      refine lv_aload_n hx hb dX0_planEnds_98 rfl (lv_at hl 0 rfl) ?_
                      refine lv_iload hx hb dX0_planEnds_99 (lv_at hl 4 rfl) ?_
                      refine va_put (D := D) (ci := 0) (v := .int i_65) (ty := .int) (C := RX0) (T := TX0) (N := 9) hx hb hts w_1 tyX0 tyX0_ok nmX0 hown hK hP hD hS 3 rfl rfl 5 (by decide) w_5 (fun _ h9 => h9) rfl (by decide +kernel) rfl rfl (Nat.le_of_ble_eq_true rfl) dX0_planEnds_101 (fun H locs hP hD hS => ?_)
                      have hP : va_P D vwCl [(p1, .inl (cI, 6, .inl g_9)), (p6, .inl (cI, 8, .inl f6)), (p7, .inl (cI, 8, .inl f7)), (h0, .inr (0, [.ref p0, .ref p1, .ref p2, .int (nI a), .int v_55, .int i_65, .ref p6, .ref p7, .ref p8])), (p0, .inl (cI, 6, .inl f0)), (p8, .inl (cI, 64, .inl f_p8_10))] H := hP
                      have hD : va_D A [(p1, .inl (cI, 6, .inl g_9)), (p6, .inl (cI, 8, .inl f6)), (p7, .inl (cI, 8, .inl f7)), (h0, .inr (0, [.ref p0, .ref p1, .ref p2, .int (nI a), .int v_55, .int i_65, .ref p6, .ref p7, .ref p8])), (p0, .inl (cI, 6, .inl f0)), (p8, .inl (cI, 64, .inl f_p8_10))] := hD
                      refine lv_iinc (v := i_65 + 1) (lv' := [(4, .int (i_65 + 1)), (0, .ref h0), (1, .int v_12), (2, .int v_10), (3, .int 1)]) hx hb dX0_planEnds_104 hl (k := 4) rfl rfl (by decide) rfl (fun ls hl => ?_)
                      refine lv_goto (tgt := 65) hx hb dX0_planEnds_107 (by decide) ?_
                      exact ih_L_13 (i_65 + 1) v_55 i_65 _ _ ls (lp_dec hn_65 c_70) (by have h9 := lp_inc c_70; omega) hP hD hS (lv_sub hl [1, 2, 3, 4, 0] rfl)
              exact L_13 _ 2 t_h0_4_65 t_h0_5_65 _ _ ls (Nat.lt_succ_self _) (by decide) hP hD hS (lv_sub hl [4, 1, 3, 2, 0] rfl)
            ·
              refine lv_aload_n hx hb dX0_planEnds_73 rfl (lv_at hl 0 rfl) ?_
              refine va_get (D := D) (ci := 0) (v := .ref p8) (C := RX0) (T := TX0) (N := 9) hx hb hts w_1 hown hK hP 3 rfl rfl 8 (by decide) w_7 (fun _ h9 => h9) rfl dX0_planEnds_74 ?_
              refine lv_iload hx hb dX0_planEnds_77 (lv_at hl 4 rfl) ?_
              refine sv_iald (v := f_p8_10 i_65.toNatClampNeg) hx hb hK hP 5 1 rfl rfl (lp_in hlo_65 c_70 (by decide)) rfl dX0_planEnds_79 ?_
              refine lv_topi (fun v_56 ev_56 => ?_)
              refine lv_aload_n hx hb dX0_planEnds_80 rfl (lv_at hl 0 rfl) ?_
              refine va_get (D := D) (ci := 0) (v := .int t_h0_4_65) (C := RX0) (T := TX0) (N := 9) hx hb hts w_1 hown hK hP 3 rfl rfl 4 (by decide) w_4 (fun _ h9 => h9) rfl dX0_planEnds_81 ?_
              refine lv_icmp_le (tgt := 104) hx hb dX0_planEnds_84 (by decide) (fun c_84 => ?_) (fun c_84 => ?_)
              ·
                refine lv_iinc (v := i_65 + 1) (lv' := [(4, .int (i_65 + 1)), (0, .ref h0), (1, .int v_5), (2, .int 0), (3, .int 0)]) hx hb dX0_planEnds_104 hl (k := 4) rfl rfl (by decide) rfl (fun ls hl => ?_)
                refine lv_goto (tgt := 65) hx hb dX0_planEnds_107 (by decide) ?_
                exact ih_L_6 (i_65 + 1) t_h0_4_65 t_h0_5_65 _ _ ls (lp_dec hn_65 c_70) (by have h9 := lp_inc c_70; omega) hP hD hS (lv_sub hl [1, 2, 3, 4, 0] rfl)
              ·
                refine lv_aload_n hx hb dX0_planEnds_87 rfl (lv_at hl 0 rfl) ?_
                refine lv_aload_n hx hb dX0_planEnds_88 rfl (lv_at hl 0 rfl) ?_
                refine va_get (D := D) (ci := 0) (v := .ref p8) (C := RX0) (T := TX0) (N := 9) hx hb hts w_1 hown hK hP 3 rfl rfl 8 (by decide) w_7 (fun _ h9 => h9) rfl dX0_planEnds_89 ?_
                refine lv_iload hx hb dX0_planEnds_92 (lv_at hl 4 rfl) ?_
                refine sv_iald (v := f_p8_10 i_65.toNatClampNeg) hx hb hK hP 5 1 rfl rfl (lp_in hlo_65 c_70 (by decide)) rfl dX0_planEnds_94 ?_
                refine lv_topi (fun v_57 ev_57 => ?_)
                refine va_put (D := D) (ci := 0) (v := .int v_57) (ty := .int) (C := RX0) (T := TX0) (N := 9) hx hb hts w_1 tyX0 tyX0_ok nmX0 hown hK hP hD hS 3 rfl rfl 4 (by decide) w_4 (fun _ h9 => h9) rfl (by decide +kernel) rfl rfl (Nat.le_of_ble_eq_true rfl) dX0_planEnds_95 (fun H locs hP hD hS => ?_)
                have hP : va_P D vwCl [(p1, .inl (cI, 6, .inl f1)), (p6, .inl (cI, 8, .inl f6)), (p7, .inl (cI, 8, .inl f7)), (h0, .inr (0, [.ref p0, .ref p1, .ref p2, .int (nI a), .int v_57, .int t_h0_5_65, .ref p6, .ref p7, .ref p8])), (p0, .inl (cI, 6, .inl f0)), (p8, .inl (cI, 64, .inl f_p8_10))] H := hP
                have hD : va_D A [(p1, .inl (cI, 6, .inl f1)), (p6, .inl (cI, 8, .inl f6)), (p7, .inl (cI, 8, .inl f7)), (h0, .inr (0, [.ref p0, .ref p1, .ref p2, .int (nI a), .int v_57, .int t_h0_5_65, .ref p6, .ref p7, .ref p8])), (p0, .inl (cI, 6, .inl f0)), (p8, .inl (cI, 64, .inl f_p8_10))] := hD
                refine lv_aload_n hx hb dX0_planEnds_98 rfl (lv_at hl 0 rfl) ?_
                refine lv_iload hx hb dX0_planEnds_99 (lv_at hl 4 rfl) ?_
                refine va_put (D := D) (ci := 0) (v := .int i_65) (ty := .int) (C := RX0) (T := TX0) (N := 9) hx hb hts w_1 tyX0 tyX0_ok nmX0 hown hK hP hD hS 3 rfl rfl 5 (by decide) w_5 (fun _ h9 => h9) rfl (by decide +kernel) rfl rfl (Nat.le_of_ble_eq_true rfl) dX0_planEnds_101 (fun H locs hP hD hS => ?_)
                have hP : va_P D vwCl [(p1, .inl (cI, 6, .inl f1)), (p6, .inl (cI, 8, .inl f6)), (p7, .inl (cI, 8, .inl f7)), (h0, .inr (0, [.ref p0, .ref p1, .ref p2, .int (nI a), .int v_57, .int i_65, .ref p6, .ref p7, .ref p8])), (p0, .inl (cI, 6, .inl f0)), (p8, .inl (cI, 64, .inl f_p8_10))] H := hP
                have hD : va_D A [(p1, .inl (cI, 6, .inl f1)), (p6, .inl (cI, 8, .inl f6)), (p7, .inl (cI, 8, .inl f7)), (h0, .inr (0, [.ref p0, .ref p1, .ref p2, .int (nI a), .int v_57, .int i_65, .ref p6, .ref p7, .ref p8])), (p0, .inl (cI, 6, .inl f0)), (p8, .inl (cI, 64, .inl f_p8_10))] := hD
                refine lv_iinc (v := i_65 + 1) (lv' := [(4, .int (i_65 + 1)), (0, .ref h0), (1, .int v_5), (2, .int 0), (3, .int 0)]) hx hb dX0_planEnds_104 hl (k := 4) rfl rfl (by decide) rfl (fun ls hl => ?_)
                refine lv_goto (tgt := 65) hx hb dX0_planEnds_107 (by decide) ?_
                exact ih_L_6 (i_65 + 1) v_57 i_65 _ _ ls (lp_dec hn_65 c_70) (by have h9 := lp_inc c_70; omega) hP hD hS (lv_sub hl [1, 2, 3, 4, 0] rfl)
        exact L_6 _ 1 0 0 _ _ ls (Nat.lt_succ_self _) (by decide) hP hD hS (lv_sub hl [4, 1, 3, 2, 0] rfl)
      ·
        refine lv_aload_n hx hb dX0_planEnds_18 rfl (lv_at hl 0 rfl) ?_
        refine lv_iload_n hx hb dX0_planEnds_19 rfl (lv_at hl 1 rfl) ?_
        refine cl_v (wc := [(h0, .inr (0, [.ref p0, .ref p1, .ref p2, .int (nI a), .int b4, .int b5, .ref p6, .ref p7, .ref p8])), (p6, .inl (cI, 8, .inl f6)), (p7, .inl (cI, 8, .inl f7)), (p8, .inl (cI, 64, .inl f_p8_10))]) (wr := [(p1, .inl (cI, 6, .inl f1)), (p0, .inl (cI, 6, .inl f0))]) (va_runV (As := [.int i_10]) (rest := []) ⟨hx, hb, hml, hown, hts⟩ (g_X0_lessen l D cB cI cJ cZ H.size h0 p0 p1 p2 p6 p7 p8 a b4 b5 (fun _ => 0) (fun _ => 0) (fun _ => 0) f6 f7 f_p8_10 i_10 (lp_inN hlo_10 c_15 ha (by decide))) (cwV 1 hts gX0_planEnds_X0_lessenLack rfl rfl rfl (by decide +kernel) ⟨Nat.le_of_ble_eq_true rfl, Nat.le_of_ble_eq_true rfl⟩) (pre_V (hP.sub (ws' := [(h0, .inr (0, [.ref p0, .ref p1, .ref p2, .int (nI a), .int b4, .int b5, .ref p6, .ref p7, .ref p8])), (p6, .inl (cI, 8, .inl f6)), (p7, .inl (cI, 8, .inl f7)), (p8, .inl (cI, 64, .inl f_p8_10))]) [3, 1, 2, 5] rfl) hK (hD.sub (ws' := [(h0, .inr (0, [.ref p0, .ref p1, .ref p2, .int (nI a), .int b4, .int b5, .ref p6, .ref p7, .ref p8])), (p6, .inl (cI, 8, .inl f6)), (p7, .inl (cI, 8, .inl f7)), (p8, .inl (cI, 64, .inl f_p8_10))]) [3, 1, 2, 5] (by decide) rfl) 0 rfl rfl rfl) rfl rfl hl.1 rfl (lv_room (Nat.le_of_ble_eq_true rfl)) dX0_planEnds_20 ⟨Nat.le_of_ble_eq_true rfl, Nat.le_of_ble_eq_true rfl⟩) hP hD hS hA [3, 1, 2, 5] [0, 4] rfl rfl (by decide) (by decide) 0 0 rfl rfl (fun u_59 H locs hw_u_59 hP hD hS => ?_)
        have hP : va_P D vwCl [(p1, .inl (cI, 6, .inl f1)), (p0, .inl (cI, 6, .inl f0)), (h0, .inr (0, [.ref p0, .ref p1, .ref p2, .int (nI a), .int b4, .int b5, .ref p6, .ref p7, .ref p8])), (p6, .inl (cI, 8, .inl f6)), (p7, .inl (cI, 8, .inl f7)), (p8, .inl (cI, 64, .inl u_59))] H := hP
        have hD : va_D A [(p1, .inl (cI, 6, .inl f1)), (p0, .inl (cI, 6, .inl f0)), (h0, .inr (0, [.ref p0, .ref p1, .ref p2, .int (nI a), .int b4, .int b5, .ref p6, .ref p7, .ref p8])), (p6, .inl (cI, 8, .inl f6)), (p7, .inl (cI, 8, .inl f7)), (p8, .inl (cI, 64, .inl u_59))] := hD
        refine lv_iinc (v := i_10 + 1) (lv' := [(1, .int (i_10 + 1)), (0, .ref h0)]) hx hb dX0_planEnds_23 hl (k := 1) rfl rfl (by decide) rfl (fun ls hl => ?_)
        refine lv_goto (tgt := 10) hx hb dX0_planEnds_26 (by decide) ?_
        exact ih_L_3 (i_10 + 1) u_59 _ _ ls (lp_dec hn_10 c_15) (by have h9 := lp_inc c_15; omega) (hP.sub [0, 3, 4, 2, 1, 5] rfl) (hD.sub [0, 3, 4, 2, 1, 5] (by decide) rfl) hS (lv_sub hl [1, 0] rfl)
  exact L_3 _ 0 u_2 _ _ ls (Nat.lt_succ_self _) (by decide) hP hD hS (lv_sub hl [1, 0] rfl)

set_option maxHeartbeats 4000000 in
set_option maxRecDepth 100000 in
theorem g_X0_planLeg (l : Launch) (D : va_G) (cB cI cJ cZ : ClassId) (sz : Nat) (h0 p0 p1 p2 p6 p7 p8 a : Nat) (b4 b5 : Int32) (f0 f1 f2 f6 f7 f8 : Nat → Int32) (ha : a ≤ 8) : Met l yX0_planLegacies wsX0_planLegacies ({ frames := 2, cells := 0, slots := 0, locals := 43 } : Room) (cPre D (aTy cB cI cJ cZ) [(h0, .inr (0, [.ref p0, .ref p1, .ref p2, .int (nI a), .int b4, .int b5, .ref p6, .ref p7, .ref p8])), (p1, .inl (cI, 6, .inl f1)), (p2, .inl (cI, 8, .inl f2)), (p6, .inl (cI, 8, .inl f6)), (p7, .inl (cI, 8, .inl f7)), (p8, .inl (cI, 64, .inl f8))] sz [.ref h0]) (va_Qv (fun (u : (Nat → Int32) × (Nat → Int32)) => True) (cB_ D (aTy cB cI cJ cZ) (va_A [(h0, .inr (0, [.ref p0, .ref p1, .ref p2, .int (nI a), .int b4, .int b5, .ref p6, .ref p7, .ref p8])), (p1, .inl (cI, 6, .inl f1)), (p2, .inl (cI, 8, .inl f2)), (p6, .inl (cI, 8, .inl f6)), (p7, .inl (cI, 8, .inl f7)), (p8, .inl (cI, 64, .inl f8))] sz) (fun u => [(h0, .inr (0, [.ref p0, .ref p1, .ref p2, .int (nI a), .int b4, .int b5, .ref p6, .ref p7, .ref p8])), (p1, .inl (cI, 6, .inl f1)), (p2, .inl (cI, 8, .inl u.1)), (p6, .inl (cI, 8, .inl f6)), (p7, .inl (cI, 8, .inl f7)), (p8, .inl (cI, 64, .inl u.2))])) (va_A [(h0, .inr (0, [.ref p0, .ref p1, .ref p2, .int (nI a), .int b4, .int b5, .ref p6, .ref p7, .ref p8])), (p1, .inl (cI, 6, .inl f1)), (p2, .inl (cI, 8, .inl f2)), (p6, .inl (cI, 8, .inl f6)), (p7, .inl (cI, 8, .inl f7)), (p8, .inl (cI, 64, .inl f8))] sz)) 0 0 (va_A [(h0, .inr (0, [.ref p0, .ref p1, .ref p2, .int (nI a), .int b4, .int b5, .ref p6, .ref p7, .ref p8])), (p1, .inl (cI, 6, .inl f1)), (p2, .inl (cI, 8, .inl f2)), (p6, .inl (cI, 8, .inl f6)), (p7, .inl (cI, 8, .inl f7)), (p8, .inl (cI, 64, .inl f8))] sz) := by
  refine Met.ofW (cc := cX0_planLegacies) (maxL := 5) (ret := none) (by decide) rfl ?_
  intro p e s m args below meth c s₁ B hml hv
  obtain ⟨rfl, hsz, hP, hK, hD0⟩ := hv
  have hx := B.exec
  have hb := B.bytes
  have hr := B.returns
  have hts := atoms_spec (ws := wsX0_planLegacies) B.pre
  have hown : s.vm.findClass RX0 = some m.cls := findClass_of_methodNamed B.named
  have hlocks := B.notSynchronized
  subst hsz
  have hD := hD0.self (sz := s.heap.size)
  generalize hAe : va_A [(h0, .inr (0, [.ref p0, .ref p1, .ref p2, .int (nI a), .int b4, .int b5, .ref p6, .ref p7, .ref p8])), (p1, .inl (cI, 6, .inl f1)), (p2, .inl (cI, 8, .inl f2)), (p6, .inl (cI, 8, .inl f6)), (p7, .inl (cI, 8, .inl f7)), (p8, .inl (cI, 64, .inl f8))] s.heap.size = A at hD ⊢
  have hA : ∀ q : Nat, s.heap.size ≤ q → A q := fun q h => by rw [← hAe]; exact Or.inr h
  have hS : va_S A s.heap s.heap [] := va_S.rf
  have hP : va_P D vwCl [(h0, .inr (0, [.ref p0, .ref p1, .ref p2, .int (nI a), .int b4, .int b5, .ref p6, .ref p7, .ref p8])), (p1, .inl (cI, 6, .inl f1)), (p2, .inl (cI, 8, .inl f2)), (p6, .inl (cI, 8, .inl f6)), (p7, .inl (cI, 8, .inl f7)), (p8, .inl (cI, 64, .inl f8))] s.heap := hP
  have w_1 : ∀ w ∈ wsX00, w ∈ wsX0_planLegacies := by decide +kernel
  have w_2 := hts (Cond.fieldLink RX0 15 "BlueCoats$Chest" "toEnd" "[I") (by decide +kernel)
  have w_3 := hts (Cond.fieldLink RX0 27 "BlueCoats$Chest" "lack" "[I") (by decide +kernel)
  have w_4 := hts (Cond.fieldLink RX0 30 "BlueCoats$Chest" "number" "I") (by decide +kernel)
  have w_5 := hts (Cond.fieldLink RX0 18 "BlueCoats$Chest" "fromLegacy" "[I") (by decide +kernel)
  have hl := lv_entry ([.ref h0]) (n := 5) (Nat.le_of_ble_eq_true rfl)
  rw [lg_entry_eq]
  generalize (lg_sl ([.ref h0]) ++ List.replicate (5 - (lg_sl ([.ref h0])).length) Slot.unset).toArray = ls at hl ⊢
  have hl : lv_has ls 5 [(0, .ref h0)] := hl
  generalize hQ : MQ below _ _ s _ _ _ = Q0
  refine lv_aload_n hx hb dX0_planLegacies_0 rfl (lv_at hl 0 rfl) ?_
  refine lv_aload_n hx hb dX0_planLegacies_1 rfl (lv_at hl 0 rfl) ?_
  refine va_get (D := D) (ci := 0) (v := .ref p1) (C := RX0) (T := TX0) (N := 9) hx hb hts w_1 hown hK hP 0 rfl rfl 1 (by decide) w_2 (fun _ h9 => h9) rfl dX0_planLegacies_2 ?_
  refine cl_v (wc := [(h0, .inr (0, [.ref p0, .ref p1, .ref p2, .int (nI a), .int b4, .int b5, .ref p6, .ref p7, .ref p8])), (p1, .inl (cI, 6, .inl f1)), (p8, .inl (cI, 64, .inl f8))]) (wr := [(p2, .inl (cI, 8, .inl f2)), (p6, .inl (cI, 8, .inl f6)), (p7, .inl (cI, 8, .inl f7))]) (va_runV (As := [.ref p1]) (rest := []) ⟨hx, hb, hml, hown, hts⟩ (g_X0_setLack l D cB cI cJ cZ s.heap.size h0 p0 p1 p2 p6 p7 p8 a b4 b5 p1 f1 f8) (cwV 1 hts gX0_planLegacies_X0_setLack rfl rfl rfl (by decide +kernel) ⟨Nat.le_of_ble_eq_true rfl, Nat.le_of_ble_eq_true rfl⟩) (pre_V (hP.sub (ws' := [(h0, .inr (0, [.ref p0, .ref p1, .ref p2, .int (nI a), .int b4, .int b5, .ref p6, .ref p7, .ref p8])), (p1, .inl (cI, 6, .inl f1)), (p8, .inl (cI, 64, .inl f8))]) [0, 1, 5] rfl) hK (hD.sub (ws' := [(h0, .inr (0, [.ref p0, .ref p1, .ref p2, .int (nI a), .int b4, .int b5, .ref p6, .ref p7, .ref p8])), (p1, .inl (cI, 6, .inl f1)), (p8, .inl (cI, 64, .inl f8))]) [0, 1, 5] (by decide) rfl) 0 rfl rfl rfl) rfl rfl hl.1 rfl (lv_room (Nat.le_of_ble_eq_true rfl)) dX0_planLegacies_5 ⟨Nat.le_of_ble_eq_true rfl, Nat.le_of_ble_eq_true rfl⟩) hP hD hS hA [0, 1, 5] [2, 3, 4] rfl rfl (by decide) (by decide) 0 0 rfl rfl (fun u_2 H locs hw_u_2 hP hD hS => ?_)
  have hP : va_P D vwCl [(p2, .inl (cI, 8, .inl f2)), (p6, .inl (cI, 8, .inl f6)), (p7, .inl (cI, 8, .inl f7)), (h0, .inr (0, [.ref p0, .ref p1, .ref p2, .int (nI a), .int b4, .int b5, .ref p6, .ref p7, .ref p8])), (p1, .inl (cI, 6, .inl f1)), (p8, .inl (cI, 64, .inl u_2))] H := hP
  have hD : va_D A [(p2, .inl (cI, 8, .inl f2)), (p6, .inl (cI, 8, .inl f6)), (p7, .inl (cI, 8, .inl f7)), (h0, .inr (0, [.ref p0, .ref p1, .ref p2, .int (nI a), .int b4, .int b5, .ref p6, .ref p7, .ref p8])), (p1, .inl (cI, 6, .inl f1)), (p8, .inl (cI, 64, .inl u_2))] := hD
  refine lv_aload_n hx hb dX0_planLegacies_8 rfl (lv_at hl 0 rfl) ?_
  refine va_get (D := D) (ci := 0) (v := .ref p8) (C := RX0) (T := TX0) (N := 9) hx hb hts w_1 hown hK hP 3 rfl rfl 8 (by decide) w_3 (fun _ h9 => h9) rfl dX0_planLegacies_9 ?_
  refine lv_bipush (v := 63) hx hb dX0_planLegacies_12 (by decide) ?_
  refine sv_iald (v := u_2 (63 : Int32).toNatClampNeg) hx hb hK hP 5 1 rfl rfl (vp_in_iff.mpr (by decide)) rfl dX0_planLegacies_14 ?_
  refine lv_topi (fun v_3 ev_3 => ?_)
  refine lv_istore_n (lv' := [(1, .int v_3), (0, .ref h0)]) hx hb dX0_planLegacies_15 rfl hl (by decide) rfl (fun ls hl => ?_)
  refine lv_iconst (v := 0) hx hb dX0_planLegacies_16 (by decide) ?_
  refine lv_istore_n (lv' := [(2, .int 0), (1, .int v_3), (0, .ref h0)]) hx hb dX0_planLegacies_17 rfl hl (by decide) rfl (fun ls hl => ?_)
  refine lv_iconst (v := 0) hx hb dX0_planLegacies_18 (by decide) ?_
  refine lv_istore_n (lv' := [(3, .int 0), (2, .int 0), (1, .int v_3), (0, .ref h0)]) hx hb dX0_planLegacies_19 rfl hl (by decide) rfl (fun ls hl => ?_)
  have L_4 : ∀ (n : Nat) (i_20 : Int32) (f_p8_20 : Nat → Int32) (f_p2_20 : Nat → Int32) (l_2_20 : Int32) (H : Heap) (locs : List Loc) (ls : Array Slot), (Int32.toInt (nI a) - i_20.toInt).toNat < n → 0 ≤ i_20.toInt → va_P D vwCl [(p2, .inl (cI, 8, .inl f_p2_20)), (p6, .inl (cI, 8, .inl f6)), (p7, .inl (cI, 8, .inl f7)), (h0, .inr (0, [.ref p0, .ref p1, .ref p2, .int (nI a), .int b4, .int b5, .ref p6, .ref p7, .ref p8])), (p1, .inl (cI, 6, .inl f1)), (p8, .inl (cI, 64, .inl f_p8_20))] H → va_D A [(p2, .inl (cI, 8, .inl f_p2_20)), (p6, .inl (cI, 8, .inl f6)), (p7, .inl (cI, 8, .inl f7)), (h0, .inr (0, [.ref p0, .ref p1, .ref p2, .int (nI a), .int b4, .int b5, .ref p6, .ref p7, .ref p8])), (p1, .inl (cI, 6, .inl f1)), (p8, .inl (cI, 64, .inl f_p8_20))] → va_S A s.heap H locs → lv_has ls 5 [(0, .ref h0), (1, .int v_3), (2, .int l_2_20), (3, .int i_20)] → W p l e (headSpec wsX0_planLegacies ({ frames := 2, cells := 0, slots := 0, locals := 43 } : Room)).room s m ([.ref h0] : List Value).toArray below meth c H locs 0 0 Q0 (F0 m 20 ls []) := by
    intro n
    induction n with
    | zero => intro i_20 f_p8_20 f_p2_20 l_2_20 H locs ls hn_20 hlo_20 hP hD hS hl; exact absurd hn_20 (Nat.not_lt_zero _)
    | succ n ih_L_4 =>
      intro i_20 f_p8_20 f_p2_20 l_2_20 H locs ls hn_20 hlo_20 hP hD hS hl
      refine lv_iload_n hx hb dX0_planLegacies_20 rfl (lv_at hl 3 rfl) ?_
      refine lv_aload_n hx hb dX0_planLegacies_21 rfl (lv_at hl 0 rfl) ?_
      refine va_get (D := D) (ci := 0) (v := .int (nI a)) (C := RX0) (T := TX0) (N := 9) hx hb hts w_1 hown hK hP 3 rfl rfl 3 (by decide) w_4 (fun _ h9 => h9) rfl dX0_planLegacies_22 ?_
      refine lv_icmp_ge (tgt := 60) hx hb dX0_planLegacies_25 (by decide) (fun c_25 => ?_) (fun c_25 => ?_)
      ·
        rw [← hQ]
        have hP9 := hP.sub (ws' := [(h0, .inr (0, [.ref p0, .ref p1, .ref p2, .int (nI a), .int b4, .int b5, .ref p6, .ref p7, .ref p8])), (p1, .inl (cI, 6, .inl f1)), (p2, .inl (cI, 8, .inl f_p2_20)), (p6, .inl (cI, 8, .inl f6)), (p7, .inl (cI, 8, .inl f7)), (p8, .inl (cI, 64, .inl f_p8_20))]) [3, 4, 0, 1, 2, 5] rfl
        have hD9 := hD.sub (ws' := [(h0, .inr (0, [.ref p0, .ref p1, .ref p2, .int (nI a), .int b4, .int b5, .ref p6, .ref p7, .ref p8])), (p1, .inl (cI, 6, .inl f1)), (p2, .inl (cI, 8, .inl f_p2_20)), (p6, .inl (cI, 8, .inl f6)), (p7, .inl (cI, 8, .inl f7)), (p8, .inl (cI, 64, .inl f_p8_20))]) [3, 4, 0, 1, 2, 5] (by decide) rfl
        exact W.vret hx hb hr (fun t ht hW => ⟨⟨(f_p2_20, f_p8_20), rfl, trivial, by rw [ht]; exact hP9, va_K.moved hW.alike hK, hD9⟩, hS.F ht⟩) hS.2.2 dX0_planLegacies_60
      ·
        refine lv_aload_n hx hb dX0_planLegacies_28 rfl (lv_at hl 0 rfl) ?_
        refine lv_iload_n hx hb dX0_planLegacies_29 rfl (lv_at hl 3 rfl) ?_
        refine cl_v (wc := [(h0, .inr (0, [.ref p0, .ref p1, .ref p2, .int (nI a), .int b4, .int b5, .ref p6, .ref p7, .ref p8])), (p6, .inl (cI, 8, .inl f6)), (p7, .inl (cI, 8, .inl f7)), (p8, .inl (cI, 64, .inl f_p8_20))]) (wr := [(p2, .inl (cI, 8, .inl f_p2_20)), (p1, .inl (cI, 6, .inl f1))]) (va_runV (As := [.int i_20]) (rest := []) ⟨hx, hb, hml, hown, hts⟩ (g_X0_lessen l D cB cI cJ cZ H.size h0 p0 p1 p2 p6 p7 p8 a b4 b5 (fun _ => 0) (fun _ => 0) (fun _ => 0) f6 f7 f_p8_20 i_20 (lp_inN hlo_20 c_25 ha (by decide))) (cwV 1 hts gX0_planLegacies_X0_lessenLack rfl rfl rfl (by decide +kernel) ⟨Nat.le_of_ble_eq_true rfl, Nat.le_of_ble_eq_true rfl⟩) (pre_V (hP.sub (ws' := [(h0, .inr (0, [.ref p0, .ref p1, .ref p2, .int (nI a), .int b4, .int b5, .ref p6, .ref p7, .ref p8])), (p6, .inl (cI, 8, .inl f6)), (p7, .inl (cI, 8, .inl f7)), (p8, .inl (cI, 64, .inl f_p8_20))]) [3, 1, 2, 5] rfl) hK (hD.sub (ws' := [(h0, .inr (0, [.ref p0, .ref p1, .ref p2, .int (nI a), .int b4, .int b5, .ref p6, .ref p7, .ref p8])), (p6, .inl (cI, 8, .inl f6)), (p7, .inl (cI, 8, .inl f7)), (p8, .inl (cI, 64, .inl f_p8_20))]) [3, 1, 2, 5] (by decide) rfl) 0 rfl rfl rfl) rfl rfl hl.1 rfl (lv_room (Nat.le_of_ble_eq_true rfl)) dX0_planLegacies_30 ⟨Nat.le_of_ble_eq_true rfl, Nat.le_of_ble_eq_true rfl⟩) hP hD hS hA [3, 1, 2, 5] [0, 4] rfl rfl (by decide) (by decide) 0 0 rfl rfl (fun u_6 H locs hw_u_6 hP hD hS => ?_)
        have hP : va_P D vwCl [(p2, .inl (cI, 8, .inl f_p2_20)), (p1, .inl (cI, 6, .inl f1)), (h0, .inr (0, [.ref p0, .ref p1, .ref p2, .int (nI a), .int b4, .int b5, .ref p6, .ref p7, .ref p8])), (p6, .inl (cI, 8, .inl f6)), (p7, .inl (cI, 8, .inl f7)), (p8, .inl (cI, 64, .inl u_6))] H := hP
        have hD : va_D A [(p2, .inl (cI, 8, .inl f_p2_20)), (p1, .inl (cI, 6, .inl f1)), (h0, .inr (0, [.ref p0, .ref p1, .ref p2, .int (nI a), .int b4, .int b5, .ref p6, .ref p7, .ref p8])), (p6, .inl (cI, 8, .inl f6)), (p7, .inl (cI, 8, .inl f7)), (p8, .inl (cI, 64, .inl u_6))] := hD
        refine lv_iload_n hx hb dX0_planLegacies_33 rfl (lv_at hl 1 rfl) ?_
        refine lv_aload_n hx hb dX0_planLegacies_34 rfl (lv_at hl 0 rfl) ?_
        refine vp_callSi (va_Run.run (va_runV (As := []) (rest := [.int v_3]) ⟨hx, hb, hml, hown, hts⟩ (g_X0_greatest l D cB cI cJ cZ h0 p0 p1 p2 p6 p7 p8 a b4 b5 (fun _ => 0) (fun _ => 0) (fun _ => 0) (fun _ => 0) (fun _ => 0) u_6) (cwV 0 hts gX0_planLegacies_X0_greatestLack rfl rfl rfl (by decide +kernel) ⟨Nat.le_of_ble_eq_true rfl, Nat.le_of_ble_eq_true rfl⟩) (pre_VR (hP.sub (ws' := [(h0, .inr (0, [.ref p0, .ref p1, .ref p2, .int (nI a), .int b4, .int b5, .ref p6, .ref p7, .ref p8])), (p8, .inl (cI, 64, .inl u_6))]) [2, 5] rfl) hK 0 rfl rfl rfl) rfl rfl hl.1 rfl (lv_room (Nat.le_of_ble_eq_true rfl)) dX0_planLegacies_35 ⟨Nat.le_of_ble_eq_true rfl, Nat.le_of_ble_eq_true rfl⟩)) (fun r_7 hw_r_7 => ?_)
        refine sv_isub (v := v_3 - r_7) hx hb dX0_planLegacies_38 rfl ?_
        refine lv_topi (fun v_8 ev_8 => ?_)
        refine lv_istore (lv' := [(4, .int v_8), (0, .ref h0), (1, .int v_3), (2, .int l_2_20), (3, .int i_20)]) hx hb dX0_planLegacies_39 hl (by decide) rfl (fun ls hl => ?_)
        refine lv_aload_n hx hb dX0_planLegacies_41 rfl (lv_at hl 1 rfl) ?_
        refine va_get (D := D) (ci := 0) (v := .ref p2) (C := RX0) (T := TX0) (N := 9) hx hb hts w_1 hown hK hP 2 rfl rfl 2 (by decide) w_5 (fun _ h9 => h9) rfl dX0_planLegacies_42 ?_
        refine lv_iload_n hx hb dX0_planLegacies_45 rfl (lv_at hl 4 rfl) ?_
        refine lv_iload hx hb dX0_planLegacies_46 (lv_at hl 0 rfl) ?_
        refine lv_iload_n hx hb dX0_planLegacies_48 rfl (lv_at hl 3 rfl) ?_
        refine sv_isub (v := v_8 - l_2_20) hx hb dX0_planLegacies_49 rfl ?_
        refine lv_topi (fun v_9 ev_9 => ?_)
        refine sv_iast hx hb hK hP hD hS 0 1 rfl rfl (lp_inN hlo_20 c_25 ha (by decide)) dX0_planLegacies_50 (fun g_10 H locs eg_10 hP hD hS => ?_)
        have hP : va_P D vwCl [(p2, .inl (cI, 8, .inl g_10)), (p1, .inl (cI, 6, .inl f1)), (h0, .inr (0, [.ref p0, .ref p1, .ref p2, .int (nI a), .int b4, .int b5, .ref p6, .ref p7, .ref p8])), (p6, .inl (cI, 8, .inl f6)), (p7, .inl (cI, 8, .inl f7)), (p8, .inl (cI, 64, .inl u_6))] H := hP
        have hD : va_D A [(p2, .inl (cI, 8, .inl g_10)), (p1, .inl (cI, 6, .inl f1)), (h0, .inr (0, [.ref p0, .ref p1, .ref p2, .int (nI a), .int b4, .int b5, .ref p6, .ref p7, .ref p8])), (p6, .inl (cI, 8, .inl f6)), (p7, .inl (cI, 8, .inl f7)), (p8, .inl (cI, 64, .inl u_6))] := hD
        refine lv_iload hx hb dX0_planLegacies_51 (lv_at hl 0 rfl) ?_
        refine lv_istore_n (lv' := [(2, .int v_8), (4, .int v_8), (0, .ref h0), (1, .int v_3), (3, .int i_20)]) hx hb dX0_planLegacies_53 rfl hl (by decide) rfl (fun ls hl => ?_)
        refine lv_iinc (v := i_20 + 1) (lv' := [(3, .int (i_20 + 1)), (2, .int v_8), (4, .int v_8), (0, .ref h0), (1, .int v_3)]) hx hb dX0_planLegacies_54 hl (k := 4) rfl rfl (by decide) rfl (fun ls hl => ?_)
        refine lv_goto (tgt := 20) hx hb dX0_planLegacies_57 (by decide) ?_
        exact ih_L_4 (i_20 + 1) u_6 g_10 v_8 _ _ ls (lp_dec hn_20 c_25) (by have h9 := lp_inc c_25; omega) (hP.sub [0, 3, 4, 2, 1, 5] rfl) (hD.sub [0, 3, 4, 2, 1, 5] (by decide) rfl) hS (lv_sub hl [3, 4, 1, 0] rfl)
  exact L_4 _ 0 u_2 f2 0 _ _ ls (Nat.lt_succ_self _) (by decide) hP hD hS (lv_sub hl [3, 2, 1, 0] rfl)

set_option maxHeartbeats 4000000 in
set_option maxRecDepth 100000 in
theorem g_X0_plan (l : Launch) (D : va_G) (cB cI cJ cZ : ClassId) (sz : Nat) (h0 p0 p1 p2 p6 p7 p8 a : Nat) (b4 b5 : Int32) (f0 f1 f2 f6 f7 f8 : Nat → Int32) (ha : a ≤ 8) : Met l yX0_plan wsX0_plan ({ frames := 3, cells := 0, slots := 0, locals := 67 } : Room) (cPre D (aTy cB cI cJ cZ) [(h0, .inr (0, [.ref p0, .ref p1, .ref p2, .int (nI a), .int b4, .int b5, .ref p6, .ref p7, .ref p8])), (p0, .inl (cI, 6, .inl f0)), (p1, .inl (cI, 6, .inl f1)), (p2, .inl (cI, 8, .inl f2)), (p6, .inl (cI, 8, .inl f6)), (p7, .inl (cI, 8, .inl f7)), (p8, .inl (cI, 64, .inl f8))] sz [.ref h0]) (va_Qv (fun (u : (Nat → Int32) × (Nat → Int32) × (Nat → Int32) × Int32 × Int32) => True) (cB_ D (aTy cB cI cJ cZ) (va_A [(h0, .inr (0, [.ref p0, .ref p1, .ref p2, .int (nI a), .int b4, .int b5, .ref p6, .ref p7, .ref p8])), (p0, .inl (cI, 6, .inl f0)), (p1, .inl (cI, 6, .inl f1)), (p2, .inl (cI, 8, .inl f2)), (p6, .inl (cI, 8, .inl f6)), (p7, .inl (cI, 8, .inl f7)), (p8, .inl (cI, 64, .inl f8))] sz) (fun u => [(h0, .inr (0, [.ref p0, .ref p1, .ref p2, .int (nI a), .int (u.2.2.2.1), .int (u.2.2.2.2), .ref p6, .ref p7, .ref p8])), (p0, .inl (cI, 6, .inl f0)), (p1, .inl (cI, 6, .inl u.1)), (p2, .inl (cI, 8, .inl u.2.1)), (p6, .inl (cI, 8, .inl f6)), (p7, .inl (cI, 8, .inl f7)), (p8, .inl (cI, 64, .inl u.2.2.1))])) (va_A [(h0, .inr (0, [.ref p0, .ref p1, .ref p2, .int (nI a), .int b4, .int b5, .ref p6, .ref p7, .ref p8])), (p0, .inl (cI, 6, .inl f0)), (p1, .inl (cI, 6, .inl f1)), (p2, .inl (cI, 8, .inl f2)), (p6, .inl (cI, 8, .inl f6)), (p7, .inl (cI, 8, .inl f7)), (p8, .inl (cI, 64, .inl f8))] sz)) 0 0 (va_A [(h0, .inr (0, [.ref p0, .ref p1, .ref p2, .int (nI a), .int b4, .int b5, .ref p6, .ref p7, .ref p8])), (p0, .inl (cI, 6, .inl f0)), (p1, .inl (cI, 6, .inl f1)), (p2, .inl (cI, 8, .inl f2)), (p6, .inl (cI, 8, .inl f6)), (p7, .inl (cI, 8, .inl f7)), (p8, .inl (cI, 64, .inl f8))] sz) := by
  refine Met.ofW (cc := cX0_plan) (maxL := 1) (ret := none) (by decide) rfl ?_
  intro p e s m args below meth c s₁ B hml hv
  obtain ⟨rfl, hsz, hP, hK, hD0⟩ := hv
  have hx := B.exec
  have hb := B.bytes
  have hr := B.returns
  have hts := atoms_spec (ws := wsX0_plan) B.pre
  have hown : s.vm.findClass RX0 = some m.cls := findClass_of_methodNamed B.named
  have hlocks := B.notSynchronized
  subst hsz
  have hD := hD0.self (sz := s.heap.size)
  generalize hAe : va_A [(h0, .inr (0, [.ref p0, .ref p1, .ref p2, .int (nI a), .int b4, .int b5, .ref p6, .ref p7, .ref p8])), (p0, .inl (cI, 6, .inl f0)), (p1, .inl (cI, 6, .inl f1)), (p2, .inl (cI, 8, .inl f2)), (p6, .inl (cI, 8, .inl f6)), (p7, .inl (cI, 8, .inl f7)), (p8, .inl (cI, 64, .inl f8))] s.heap.size = A at hD ⊢
  have hA : ∀ q : Nat, s.heap.size ≤ q → A q := fun q h => by rw [← hAe]; exact Or.inr h
  have hS : va_S A s.heap s.heap [] := va_S.rf
  have hP : va_P D vwCl [(h0, .inr (0, [.ref p0, .ref p1, .ref p2, .int (nI a), .int b4, .int b5, .ref p6, .ref p7, .ref p8])), (p0, .inl (cI, 6, .inl f0)), (p1, .inl (cI, 6, .inl f1)), (p2, .inl (cI, 8, .inl f2)), (p6, .inl (cI, 8, .inl f6)), (p7, .inl (cI, 8, .inl f7)), (p8, .inl (cI, 64, .inl f8))] s.heap := hP
  have hl := lv_entry ([.ref h0]) (n := 1) (Nat.le_of_ble_eq_true rfl)
  rw [lg_entry_eq]
  generalize (lg_sl ([.ref h0]) ++ List.replicate (1 - (lg_sl ([.ref h0])).length) Slot.unset).toArray = ls at hl ⊢
  have hl : lv_has ls 1 [(0, .ref h0)] := hl
  refine lv_aload_n hx hb dX0_plan_0 rfl (lv_at hl 0 rfl) ?_
  refine cl_v (wc := [(h0, .inr (0, [.ref p0, .ref p1, .ref p2, .int (nI a), .int b4, .int b5, .ref p6, .ref p7, .ref p8])), (p0, .inl (cI, 6, .inl f0)), (p1, .inl (cI, 6, .inl f1)), (p6, .inl (cI, 8, .inl f6)), (p7, .inl (cI, 8, .inl f7)), (p8, .inl (cI, 64, .inl f8))]) (wr := [(p2, .inl (cI, 8, .inl f2))]) (va_runV (As := []) (rest := []) ⟨hx, hb, hml, hown, hts⟩ (g_X0_planEnds l D cB cI cJ cZ s.heap.size h0 p0 p1 p2 p6 p7 p8 a b4 b5 f0 f1 f2 f6 f7 f8 ha) (cwV 0 hts gX0_plan_X0_planEnds rfl rfl rfl (by decide +kernel) ⟨Nat.le_of_ble_eq_true rfl, Nat.le_of_ble_eq_true rfl⟩) (pre_V (hP.sub (ws' := [(h0, .inr (0, [.ref p0, .ref p1, .ref p2, .int (nI a), .int b4, .int b5, .ref p6, .ref p7, .ref p8])), (p0, .inl (cI, 6, .inl f0)), (p1, .inl (cI, 6, .inl f1)), (p6, .inl (cI, 8, .inl f6)), (p7, .inl (cI, 8, .inl f7)), (p8, .inl (cI, 64, .inl f8))]) [0, 1, 2, 4, 5, 6] rfl) hK (hD.sub (ws' := [(h0, .inr (0, [.ref p0, .ref p1, .ref p2, .int (nI a), .int b4, .int b5, .ref p6, .ref p7, .ref p8])), (p0, .inl (cI, 6, .inl f0)), (p1, .inl (cI, 6, .inl f1)), (p6, .inl (cI, 8, .inl f6)), (p7, .inl (cI, 8, .inl f7)), (p8, .inl (cI, 64, .inl f8))]) [0, 1, 2, 4, 5, 6] (by decide) rfl) 0 rfl rfl rfl) rfl rfl hl.1 rfl (lv_room (Nat.le_of_ble_eq_true rfl)) dX0_plan_1 ⟨Nat.le_of_ble_eq_true rfl, Nat.le_of_ble_eq_true rfl⟩) hP hD hS hA [0, 1, 2, 4, 5, 6] [3] rfl rfl (by decide) (by decide) 0 0 rfl rfl (fun u_2 H locs hw_u_2 hP hD hS => ?_)
  have hP : va_P D vwCl [(p2, .inl (cI, 8, .inl f2)), (h0, .inr (0, [.ref p0, .ref p1, .ref p2, .int (nI a), .int u_2.2.2.1, .int u_2.2.2.2, .ref p6, .ref p7, .ref p8])), (p0, .inl (cI, 6, .inl f0)), (p1, .inl (cI, 6, .inl u_2.1)), (p6, .inl (cI, 8, .inl f6)), (p7, .inl (cI, 8, .inl f7)), (p8, .inl (cI, 64, .inl u_2.2.1))] H := hP
  have hD : va_D A [(p2, .inl (cI, 8, .inl f2)), (h0, .inr (0, [.ref p0, .ref p1, .ref p2, .int (nI a), .int u_2.2.2.1, .int u_2.2.2.2, .ref p6, .ref p7, .ref p8])), (p0, .inl (cI, 6, .inl f0)), (p1, .inl (cI, 6, .inl u_2.1)), (p6, .inl (cI, 8, .inl f6)), (p7, .inl (cI, 8, .inl f7)), (p8, .inl (cI, 64, .inl u_2.2.1))] := hD
  refine lv_aload_n hx hb dX0_plan_4 rfl (lv_at hl 0 rfl) ?_
  refine cl_v (wc := [(h0, .inr (0, [.ref p0, .ref p1, .ref p2, .int (nI a), .int u_2.2.2.1, .int u_2.2.2.2, .ref p6, .ref p7, .ref p8])), (p1, .inl (cI, 6, .inl u_2.1)), (p2, .inl (cI, 8, .inl f2)), (p6, .inl (cI, 8, .inl f6)), (p7, .inl (cI, 8, .inl f7)), (p8, .inl (cI, 64, .inl u_2.2.1))]) (wr := [(p0, .inl (cI, 6, .inl f0))]) (va_runV (As := []) (rest := []) ⟨hx, hb, hml, hown, hts⟩ (g_X0_planLeg l D cB cI cJ cZ H.size h0 p0 p1 p2 p6 p7 p8 a u_2.2.2.1 u_2.2.2.2 f0 u_2.1 f2 f6 f7 u_2.2.1 ha) (cwV 0 hts gX0_plan_X0_planLegacies rfl rfl rfl (by decide +kernel) ⟨Nat.le_of_ble_eq_true rfl, Nat.le_of_ble_eq_true rfl⟩) (pre_V (hP.sub (ws' := [(h0, .inr (0, [.ref p0, .ref p1, .ref p2, .int (nI a), .int u_2.2.2.1, .int u_2.2.2.2, .ref p6, .ref p7, .ref p8])), (p1, .inl (cI, 6, .inl u_2.1)), (p2, .inl (cI, 8, .inl f2)), (p6, .inl (cI, 8, .inl f6)), (p7, .inl (cI, 8, .inl f7)), (p8, .inl (cI, 64, .inl u_2.2.1))]) [1, 3, 0, 4, 5, 6] rfl) hK (hD.sub (ws' := [(h0, .inr (0, [.ref p0, .ref p1, .ref p2, .int (nI a), .int u_2.2.2.1, .int u_2.2.2.2, .ref p6, .ref p7, .ref p8])), (p1, .inl (cI, 6, .inl u_2.1)), (p2, .inl (cI, 8, .inl f2)), (p6, .inl (cI, 8, .inl f6)), (p7, .inl (cI, 8, .inl f7)), (p8, .inl (cI, 64, .inl u_2.2.1))]) [1, 3, 0, 4, 5, 6] (by decide) rfl) 0 rfl rfl rfl) rfl rfl hl.1 rfl (lv_room (Nat.le_of_ble_eq_true rfl)) dX0_plan_5 ⟨Nat.le_of_ble_eq_true rfl, Nat.le_of_ble_eq_true rfl⟩) hP hD hS hA [1, 3, 0, 4, 5, 6] [2] rfl rfl (by decide) (by decide) 0 0 rfl rfl (fun u_4 H locs hw_u_4 hP hD hS => ?_)
  have hP : va_P D vwCl [(p0, .inl (cI, 6, .inl f0)), (h0, .inr (0, [.ref p0, .ref p1, .ref p2, .int (nI a), .int u_2.2.2.1, .int u_2.2.2.2, .ref p6, .ref p7, .ref p8])), (p1, .inl (cI, 6, .inl u_2.1)), (p2, .inl (cI, 8, .inl u_4.1)), (p6, .inl (cI, 8, .inl f6)), (p7, .inl (cI, 8, .inl f7)), (p8, .inl (cI, 64, .inl u_4.2))] H := hP
  have hD : va_D A [(p0, .inl (cI, 6, .inl f0)), (h0, .inr (0, [.ref p0, .ref p1, .ref p2, .int (nI a), .int u_2.2.2.1, .int u_2.2.2.2, .ref p6, .ref p7, .ref p8])), (p1, .inl (cI, 6, .inl u_2.1)), (p2, .inl (cI, 8, .inl u_4.1)), (p6, .inl (cI, 8, .inl f6)), (p7, .inl (cI, 8, .inl f7)), (p8, .inl (cI, 64, .inl u_4.2))] := hD
  have hP9 := hP.sub (ws' := [(h0, .inr (0, [.ref p0, .ref p1, .ref p2, .int (nI a), .int u_2.2.2.1, .int u_2.2.2.2, .ref p6, .ref p7, .ref p8])), (p0, .inl (cI, 6, .inl f0)), (p1, .inl (cI, 6, .inl u_2.1)), (p2, .inl (cI, 8, .inl u_4.1)), (p6, .inl (cI, 8, .inl f6)), (p7, .inl (cI, 8, .inl f7)), (p8, .inl (cI, 64, .inl u_4.2))]) [1, 0, 2, 3, 4, 5, 6] rfl
  have hD9 := hD.sub (ws' := [(h0, .inr (0, [.ref p0, .ref p1, .ref p2, .int (nI a), .int u_2.2.2.1, .int u_2.2.2.2, .ref p6, .ref p7, .ref p8])), (p0, .inl (cI, 6, .inl f0)), (p1, .inl (cI, 6, .inl u_2.1)), (p2, .inl (cI, 8, .inl u_4.1)), (p6, .inl (cI, 8, .inl f6)), (p7, .inl (cI, 8, .inl f7)), (p8, .inl (cI, 64, .inl u_4.2))]) [1, 0, 2, 3, 4, 5, 6] (by decide) rfl
  exact W.vret hx hb hr (fun t ht hW => ⟨⟨(u_2.1, u_4.1, u_4.2, (u_2.2.2.1 : Int32), (u_2.2.2.2 : Int32)), rfl, trivial, by rw [ht]; exact hP9, va_K.moved hW.alike hK, hD9⟩, hS.F ht⟩) hS.2.2 dX0_plan_8

set_option maxHeartbeats 4000000 in
set_option maxRecDepth 100000 in
theorem g_X0_payP (l : Launch) (D : va_G) (cB cI cJ cZ : ClassId) (sz : Nat) (h0 p0 p1 p2 p6 p7 p8 a : Nat) (b4 b5 : Int32) (f0 f1 f2 f6 f7 f8 : Nat → Int32) (ha : a ≤ 8) : Met l yX0_payPlanned wsX0_payPlanned ({ frames := 0, cells := 0, slots := 0, locals := 0 } : Room) (cPre D (aTy cB cI cJ cZ) [(h0, .inr (0, [.ref p0, .ref p1, .ref p2, .int (nI a), .int b4, .int b5, .ref p6, .ref p7, .ref p8])), (p0, .inl (cI, 6, .inl f0)), (p1, .inl (cI, 6, .inl f1)), (p2, .inl (cI, 8, .inl f2)), (p6, .inl (cI, 8, .inl f6)), (p7, .inl (cI, 8, .inl f7)), (p8, .inl (cI, 64, .inl f8))] sz [.ref h0]) (va_Qi (fun (r : Int32) (u : (Nat → Int32) × (Nat → Int32)) => True) (cB_ D (aTy cB cI cJ cZ) (va_A [(h0, .inr (0, [.ref p0, .ref p1, .ref p2, .int (nI a), .int b4, .int b5, .ref p6, .ref p7, .ref p8])), (p0, .inl (cI, 6, .inl f0)), (p1, .inl (cI, 6, .inl f1)), (p2, .inl (cI, 8, .inl f2)), (p6, .inl (cI, 8, .inl f6)), (p7, .inl (cI, 8, .inl f7)), (p8, .inl (cI, 64, .inl f8))] sz) (fun u => [(h0, .inr (0, [.ref p0, .ref p1, .ref p2, .int (nI a), .int b4, .int b5, .ref p6, .ref p7, .ref p8])), (p0, .inl (cI, 6, .inl u.1)), (p1, .inl (cI, 6, .inl f1)), (p2, .inl (cI, 8, .inl f2)), (p6, .inl (cI, 8, .inl u.2)), (p7, .inl (cI, 8, .inl f7)), (p8, .inl (cI, 64, .inl f8))])) (va_A [(h0, .inr (0, [.ref p0, .ref p1, .ref p2, .int (nI a), .int b4, .int b5, .ref p6, .ref p7, .ref p8])), (p0, .inl (cI, 6, .inl f0)), (p1, .inl (cI, 6, .inl f1)), (p2, .inl (cI, 8, .inl f2)), (p6, .inl (cI, 8, .inl f6)), (p7, .inl (cI, 8, .inl f7)), (p8, .inl (cI, 64, .inl f8))] sz)) 0 0 (va_A [(h0, .inr (0, [.ref p0, .ref p1, .ref p2, .int (nI a), .int b4, .int b5, .ref p6, .ref p7, .ref p8])), (p0, .inl (cI, 6, .inl f0)), (p1, .inl (cI, 6, .inl f1)), (p2, .inl (cI, 8, .inl f2)), (p6, .inl (cI, 8, .inl f6)), (p7, .inl (cI, 8, .inl f7)), (p8, .inl (cI, 64, .inl f8))] sz) := by
  refine Met.ofW (cc := cX0_payPlanned) (maxL := 3) (ret := (some .int)) (by decide) rfl ?_
  intro p e s m args below meth c s₁ B hml hv
  obtain ⟨rfl, hsz, hP, hK, hD0⟩ := hv
  have hx := B.exec
  have hb := B.bytes
  have hr := B.returns
  have hts := atoms_spec (ws := wsX0_payPlanned) B.pre
  have hown : s.vm.findClass RX0 = some m.cls := findClass_of_methodNamed B.named
  have hlocks := B.notSynchronized
  subst hsz
  have hD := hD0.self (sz := s.heap.size)
  generalize hAe : va_A [(h0, .inr (0, [.ref p0, .ref p1, .ref p2, .int (nI a), .int b4, .int b5, .ref p6, .ref p7, .ref p8])), (p0, .inl (cI, 6, .inl f0)), (p1, .inl (cI, 6, .inl f1)), (p2, .inl (cI, 8, .inl f2)), (p6, .inl (cI, 8, .inl f6)), (p7, .inl (cI, 8, .inl f7)), (p8, .inl (cI, 64, .inl f8))] s.heap.size = A at hD ⊢
  have hA : ∀ q : Nat, s.heap.size ≤ q → A q := fun q h => by rw [← hAe]; exact Or.inr h
  have hS : va_S A s.heap s.heap [] := va_S.rf
  have hP : va_P D vwCl [(h0, .inr (0, [.ref p0, .ref p1, .ref p2, .int (nI a), .int b4, .int b5, .ref p6, .ref p7, .ref p8])), (p0, .inl (cI, 6, .inl f0)), (p1, .inl (cI, 6, .inl f1)), (p2, .inl (cI, 8, .inl f2)), (p6, .inl (cI, 8, .inl f6)), (p7, .inl (cI, 8, .inl f7)), (p8, .inl (cI, 64, .inl f8))] s.heap := hP
  have w_1 : ∀ w ∈ wsX00, w ∈ wsX0_payPlanned := by decide +kernel
  have w_2 := hts (Cond.fieldLink RX0 30 "BlueCoats$Chest" "number" "I") (by decide +kernel)
  have w_3 := hts (Cond.fieldLink RX0 21 "BlueCoats$Chest" "coins" "[I") (by decide +kernel)
  have w_4 := hts (Cond.fieldLink RX0 18 "BlueCoats$Chest" "fromLegacy" "[I") (by decide +kernel)
  have w_5 := hts (Cond.fieldLink RX0 11 "BlueCoats$Chest" "need" "[I") (by decide +kernel)
  have w_6 := hts (Cond.fieldLink RX0 15 "BlueCoats$Chest" "toEnd" "[I") (by decide +kernel)
  have hl := lv_entry ([.ref h0]) (n := 3) (Nat.le_of_ble_eq_true rfl)
  rw [lg_entry_eq]
  generalize (lg_sl ([.ref h0]) ++ List.replicate (3 - (lg_sl ([.ref h0])).length) Slot.unset).toArray = ls at hl ⊢
  have hl : lv_has ls 3 [(0, .ref h0)] := hl
  generalize hQ : MQ below _ _ s _ _ _ = Q0
  refine lv_iconst (v := 0) hx hb dX0_payPlanned_0 (by decide) ?_
  refine lv_istore_n (lv' := [(1, .int 0), (0, .ref h0)]) hx hb dX0_payPlanned_1 rfl hl (by decide) rfl (fun ls hl => ?_)
  refine lv_iconst (v := 0) hx hb dX0_payPlanned_2 (by decide) ?_
  refine lv_istore_n (lv' := [(2, .int 0), (1, .int 0), (0, .ref h0)]) hx hb dX0_payPlanned_3 rfl hl (by decide) rfl (fun ls hl => ?_)
  have L_1 : ∀ (n : Nat) (i_4 : Int32) (f_p0_4 : Nat → Int32) (l_1_4 : Int32) (H : Heap) (locs : List Loc) (ls : Array Slot), (Int32.toInt 6 - i_4.toInt).toNat < n → 0 ≤ i_4.toInt → va_P D vwCl [(h0, .inr (0, [.ref p0, .ref p1, .ref p2, .int (nI a), .int b4, .int b5, .ref p6, .ref p7, .ref p8])), (p0, .inl (cI, 6, .inl f_p0_4)), (p1, .inl (cI, 6, .inl f1)), (p2, .inl (cI, 8, .inl f2)), (p6, .inl (cI, 8, .inl f6)), (p7, .inl (cI, 8, .inl f7)), (p8, .inl (cI, 64, .inl f8))] H → va_D A [(h0, .inr (0, [.ref p0, .ref p1, .ref p2, .int (nI a), .int b4, .int b5, .ref p6, .ref p7, .ref p8])), (p0, .inl (cI, 6, .inl f_p0_4)), (p1, .inl (cI, 6, .inl f1)), (p2, .inl (cI, 8, .inl f2)), (p6, .inl (cI, 8, .inl f6)), (p7, .inl (cI, 8, .inl f7)), (p8, .inl (cI, 64, .inl f8))] → va_S A s.heap H locs → lv_has ls 3 [(0, .ref h0), (1, .int l_1_4), (2, .int i_4)] → W p l e (headSpec wsX0_payPlanned ({ frames := 0, cells := 0, slots := 0, locals := 0 } : Room)).room s m ([.ref h0] : List Value).toArray below meth c H locs 0 0 Q0 (F0 m 4 ls []) := by
    intro n
    induction n with
    | zero => intro i_4 f_p0_4 l_1_4 H locs ls hn_4 hlo_4 hP hD hS hl; exact absurd hn_4 (Nat.not_lt_zero _)
    | succ n ih_L_1 =>
      intro i_4 f_p0_4 l_1_4 H locs ls hn_4 hlo_4 hP hD hS hl
      refine lv_iload_n hx hb dX0_payPlanned_4 rfl (lv_at hl 2 rfl) ?_
      refine lv_bipush (v := 6) hx hb dX0_payPlanned_5 (by decide) ?_
      refine lv_icmp_ge (tgt := 40) hx hb dX0_payPlanned_7 (by decide) (fun c_7 => ?_) (fun c_7 => ?_)
      ·
        refine lv_iconst (v := 0) hx hb dX0_payPlanned_40 (by decide) ?_
        refine lv_istore_n (lv' := [(2, .int 0), (0, .ref h0), (1, .int l_1_4)]) hx hb dX0_payPlanned_41 rfl hl (by decide) rfl (fun ls hl => ?_)
        have L_2 : ∀ (n : Nat) (i_42 : Int32) (f_p6_42 : Nat → Int32) (H : Heap) (locs : List Loc) (ls : Array Slot), (Int32.toInt (nI a) - i_42.toInt).toNat < n → 0 ≤ i_42.toInt → va_P D vwCl [(h0, .inr (0, [.ref p0, .ref p1, .ref p2, .int (nI a), .int b4, .int b5, .ref p6, .ref p7, .ref p8])), (p0, .inl (cI, 6, .inl f_p0_4)), (p1, .inl (cI, 6, .inl f1)), (p2, .inl (cI, 8, .inl f2)), (p6, .inl (cI, 8, .inl f_p6_42)), (p7, .inl (cI, 8, .inl f7)), (p8, .inl (cI, 64, .inl f8))] H → va_D A [(h0, .inr (0, [.ref p0, .ref p1, .ref p2, .int (nI a), .int b4, .int b5, .ref p6, .ref p7, .ref p8])), (p0, .inl (cI, 6, .inl f_p0_4)), (p1, .inl (cI, 6, .inl f1)), (p2, .inl (cI, 8, .inl f2)), (p6, .inl (cI, 8, .inl f_p6_42)), (p7, .inl (cI, 8, .inl f7)), (p8, .inl (cI, 64, .inl f8))] → va_S A s.heap H locs → lv_has ls 3 [(0, .ref h0), (1, .int l_1_4), (2, .int i_42)] → W p l e (headSpec wsX0_payPlanned ({ frames := 0, cells := 0, slots := 0, locals := 0 } : Room)).room s m ([.ref h0] : List Value).toArray below meth c H locs 0 0 Q0 (F0 m 42 ls []) := by
          intro n
          induction n with
          | zero => intro i_42 f_p6_42 H locs ls hn_42 hlo_42 hP hD hS hl; exact absurd hn_42 (Nat.not_lt_zero _)
          | succ n ih_L_2 =>
            intro i_42 f_p6_42 H locs ls hn_42 hlo_42 hP hD hS hl
            refine lv_iload_n hx hb dX0_payPlanned_42 rfl (lv_at hl 2 rfl) ?_
            refine lv_aload_n hx hb dX0_payPlanned_43 rfl (lv_at hl 0 rfl) ?_
            refine va_get (D := D) (ci := 0) (v := .int (nI a)) (C := RX0) (T := TX0) (N := 9) hx hb hts w_1 hown hK hP 0 rfl rfl 3 (by decide) w_2 (fun _ h9 => h9) rfl dX0_payPlanned_44 ?_
            refine lv_icmp_ge (tgt := 71) hx hb dX0_payPlanned_47 (by decide) (fun c_47 => ?_) (fun c_47 => ?_)
            ·
              refine lv_iload_n hx hb dX0_payPlanned_71 rfl (lv_at hl 1 rfl) ?_
              rw [← hQ]
              have hP9 := hP.sub (ws' := [(h0, .inr (0, [.ref p0, .ref p1, .ref p2, .int (nI a), .int b4, .int b5, .ref p6, .ref p7, .ref p8])), (p0, .inl (cI, 6, .inl f_p0_4)), (p1, .inl (cI, 6, .inl f1)), (p2, .inl (cI, 8, .inl f2)), (p6, .inl (cI, 8, .inl f_p6_42)), (p7, .inl (cI, 8, .inl f7)), (p8, .inl (cI, 64, .inl f8))]) [0, 1, 2, 3, 4, 5, 6] rfl
              have hD9 := hD.sub (ws' := [(h0, .inr (0, [.ref p0, .ref p1, .ref p2, .int (nI a), .int b4, .int b5, .ref p6, .ref p7, .ref p8])), (p0, .inl (cI, 6, .inl f_p0_4)), (p1, .inl (cI, 6, .inl f1)), (p2, .inl (cI, 8, .inl f2)), (p6, .inl (cI, 8, .inl f_p6_42)), (p7, .inl (cI, 8, .inl f7)), (p8, .inl (cI, 64, .inl f8))]) [0, 1, 2, 3, 4, 5, 6] (by decide) rfl
              exact W.iret (v := l_1_4) hx hb hr (fun t ht hW => ⟨⟨_, (f_p0_4, f_p6_42), rfl, trivial, by rw [ht]; exact hP9, va_K.moved hW.alike hK, hD9⟩, hS.F ht⟩) hS.2.2 dX0_payPlanned_72
            ·
              refine lv_aload_n hx hb dX0_payPlanned_50 rfl (lv_at hl 0 rfl) ?_
              refine va_get (D := D) (ci := 0) (v := .ref p6) (C := RX0) (T := TX0) (N := 9) hx hb hts w_1 hown hK hP 0 rfl rfl 6 (by decide) w_3 (fun _ h9 => h9) rfl dX0_payPlanned_51 ?_
              refine lv_iload_n hx hb dX0_payPlanned_54 rfl (lv_at hl 2 rfl) ?_
              refine lv_dup2_11 hx hb dX0_payPlanned_55 rfl rfl ?_
              refine sv_iald (v := f_p6_42 i_42.toNatClampNeg) hx hb hK hP 4 1 rfl rfl (lp_inN hlo_42 c_47 ha (by decide)) rfl dX0_payPlanned_56 ?_
              refine lv_topi (fun v_3 ev_3 => ?_)
              refine lv_aload_n hx hb dX0_payPlanned_57 rfl (lv_at hl 0 rfl) ?_
              refine va_get (D := D) (ci := 0) (v := .ref p2) (C := RX0) (T := TX0) (N := 9) hx hb hts w_1 hown hK hP 0 rfl rfl 2 (by decide) w_4 (fun _ h9 => h9) rfl dX0_payPlanned_58 ?_
              refine lv_iload_n hx hb dX0_payPlanned_61 rfl (lv_at hl 2 rfl) ?_
              refine sv_iald (v := f2 i_42.toNatClampNeg) hx hb hK hP 3 1 rfl rfl (lp_inN hlo_42 c_47 ha (by decide)) rfl dX0_payPlanned_62 ?_
              refine lv_topi (fun v_4 ev_4 => ?_)
              refine sv_isub (v := v_3 - v_4) hx hb dX0_payPlanned_63 rfl ?_
              refine lv_topi (fun v_5 ev_5 => ?_)
              refine sv_iast hx hb hK hP hD hS 4 1 rfl rfl (lp_inN hlo_42 c_47 ha (by decide)) dX0_payPlanned_64 (fun g_6 H locs eg_6 hP hD hS => ?_)
              have hP : va_P D vwCl [(h0, .inr (0, [.ref p0, .ref p1, .ref p2, .int (nI a), .int b4, .int b5, .ref p6, .ref p7, .ref p8])), (p0, .inl (cI, 6, .inl f_p0_4)), (p1, .inl (cI, 6, .inl f1)), (p2, .inl (cI, 8, .inl f2)), (p6, .inl (cI, 8, .inl g_6)), (p7, .inl (cI, 8, .inl f7)), (p8, .inl (cI, 64, .inl f8))] H := hP
              have hD : va_D A [(h0, .inr (0, [.ref p0, .ref p1, .ref p2, .int (nI a), .int b4, .int b5, .ref p6, .ref p7, .ref p8])), (p0, .inl (cI, 6, .inl f_p0_4)), (p1, .inl (cI, 6, .inl f1)), (p2, .inl (cI, 8, .inl f2)), (p6, .inl (cI, 8, .inl g_6)), (p7, .inl (cI, 8, .inl f7)), (p8, .inl (cI, 64, .inl f8))] := hD
              refine lv_iinc (v := i_42 + 1) (lv' := [(2, .int (i_42 + 1)), (0, .ref h0), (1, .int l_1_4)]) hx hb dX0_payPlanned_65 hl (k := 2) rfl rfl (by decide) rfl (fun ls hl => ?_)
              refine lv_goto (tgt := 42) hx hb dX0_payPlanned_68 (by decide) ?_
              exact ih_L_2 (i_42 + 1) g_6 _ _ ls (lp_dec hn_42 c_47) (by have h9 := lp_inc c_47; omega) hP hD hS (lv_sub hl [1, 2, 0] rfl)
        exact L_2 _ 0 f6 _ _ ls (Nat.lt_succ_self _) (by decide) hP hD hS (lv_sub hl [1, 2, 0] rfl)
      ·
        refine lv_aload_n hx hb dX0_payPlanned_10 rfl (lv_at hl 0 rfl) ?_
        refine va_get (D := D) (ci := 0) (v := .ref p0) (C := RX0) (T := TX0) (N := 9) hx hb hts w_1 hown hK hP 0 rfl rfl 0 (by decide) w_5 (fun _ h9 => h9) rfl dX0_payPlanned_11 ?_
        refine lv_iload_n hx hb dX0_payPlanned_14 rfl (lv_at hl 2 rfl) ?_
        refine lv_dup2_11 hx hb dX0_payPlanned_15 rfl rfl ?_
        refine sv_iald (v := f_p0_4 i_4.toNatClampNeg) hx hb hK hP 1 1 rfl rfl (lp_in hlo_4 c_7 (by decide)) rfl dX0_payPlanned_16 ?_
        refine lv_topi (fun v_7 ev_7 => ?_)
        refine lv_aload_n hx hb dX0_payPlanned_17 rfl (lv_at hl 0 rfl) ?_
        refine va_get (D := D) (ci := 0) (v := .ref p1) (C := RX0) (T := TX0) (N := 9) hx hb hts w_1 hown hK hP 0 rfl rfl 1 (by decide) w_6 (fun _ h9 => h9) rfl dX0_payPlanned_18 ?_
        refine lv_iload_n hx hb dX0_payPlanned_21 rfl (lv_at hl 2 rfl) ?_
        refine sv_iald (v := f1 i_4.toNatClampNeg) hx hb hK hP 2 1 rfl rfl (lp_in hlo_4 c_7 (by decide)) rfl dX0_payPlanned_22 ?_
        refine lv_topi (fun v_8 ev_8 => ?_)
        refine sv_isub (v := v_7 - v_8) hx hb dX0_payPlanned_23 rfl ?_
        refine lv_topi (fun v_9 ev_9 => ?_)
        refine sv_iast hx hb hK hP hD hS 1 1 rfl rfl (lp_in hlo_4 c_7 (by decide)) dX0_payPlanned_24 (fun g_10 H locs eg_10 hP hD hS => ?_)
        have hP : va_P D vwCl [(h0, .inr (0, [.ref p0, .ref p1, .ref p2, .int (nI a), .int b4, .int b5, .ref p6, .ref p7, .ref p8])), (p0, .inl (cI, 6, .inl g_10)), (p1, .inl (cI, 6, .inl f1)), (p2, .inl (cI, 8, .inl f2)), (p6, .inl (cI, 8, .inl f6)), (p7, .inl (cI, 8, .inl f7)), (p8, .inl (cI, 64, .inl f8))] H := hP
        have hD : va_D A [(h0, .inr (0, [.ref p0, .ref p1, .ref p2, .int (nI a), .int b4, .int b5, .ref p6, .ref p7, .ref p8])), (p0, .inl (cI, 6, .inl g_10)), (p1, .inl (cI, 6, .inl f1)), (p2, .inl (cI, 8, .inl f2)), (p6, .inl (cI, 8, .inl f6)), (p7, .inl (cI, 8, .inl f7)), (p8, .inl (cI, 64, .inl f8))] := hD
        refine lv_iload_n hx hb dX0_payPlanned_25 rfl (lv_at hl 1 rfl) ?_
        refine lv_aload_n hx hb dX0_payPlanned_26 rfl (lv_at hl 0 rfl) ?_
        refine va_get (D := D) (ci := 0) (v := .ref p1) (C := RX0) (T := TX0) (N := 9) hx hb hts w_1 hown hK hP 0 rfl rfl 1 (by decide) w_6 (fun _ h9 => h9) rfl dX0_payPlanned_27 ?_
        refine lv_iload_n hx hb dX0_payPlanned_30 rfl (lv_at hl 2 rfl) ?_
        refine sv_iald (v := f1 i_4.toNatClampNeg) hx hb hK hP 2 1 rfl rfl (lp_in hlo_4 c_7 (by decide)) rfl dX0_payPlanned_31 ?_
        refine lv_topi (fun v_11 ev_11 => ?_)
        refine sv_iadd (v := l_1_4 + v_11) hx hb dX0_payPlanned_32 rfl ?_
        refine lv_topi (fun v_12 ev_12 => ?_)
        refine lv_istore_n (lv' := [(1, .int v_12), (0, .ref h0), (2, .int i_4)]) hx hb dX0_payPlanned_33 rfl hl (by decide) rfl (fun ls hl => ?_)
        refine lv_iinc (v := i_4 + 1) (lv' := [(2, .int (i_4 + 1)), (1, .int v_12), (0, .ref h0)]) hx hb dX0_payPlanned_34 hl (k := 2) rfl rfl (by decide) rfl (fun ls hl => ?_)
        refine lv_goto (tgt := 4) hx hb dX0_payPlanned_37 (by decide) ?_
        exact ih_L_1 (i_4 + 1) g_10 v_12 _ _ ls (lp_dec hn_4 c_7) (by have h9 := lp_inc c_7; omega) hP hD hS (lv_sub hl [2, 1, 0] rfl)
  exact L_1 _ 0 f0 0 _ _ ls (Nat.lt_succ_self _) (by decide) hP hD hS (lv_sub hl [2, 1, 0] rfl)

