set_option maxHeartbeats 4000000 in
set_option maxRecDepth 100000 in
/-- setLack(): all stays 0 -/
theorem k_X0_setLack (l : Launch) (D : va_G) (cB cI cJ cZ : ClassId) (sz : Nat) (h0 p0 p1 p2 p6 p7 p8 : Nat) (am : Nat) : Met l yX0_setLack wsX0_setLack ({ frames := 0, cells := 0, slots := 0, locals := 0 } : Room) (cPre D (aTy cB cI cJ cZ) [(h0, .inr (0, [.ref p0, .ref p1, .ref p2, .int 0, .int 0, .int 0, .ref p6, .ref p7, .ref p8])), (am, .inl (cI, 6, .inl (fun _ => 0))), (p8, .inl (cI, 64, .inl (fun _ => 0)))] sz [.ref h0, .ref am]) (va_Qv (fun (u : Unit) => True) (cB_ D (aTy cB cI cJ cZ) (va_A [(h0, .inr (0, [.ref p0, .ref p1, .ref p2, .int 0, .int 0, .int 0, .ref p6, .ref p7, .ref p8])), (am, .inl (cI, 6, .inl (fun _ => 0))), (p8, .inl (cI, 64, .inl (fun _ => 0)))] sz) (fun _ => [(h0, .inr (0, [.ref p0, .ref p1, .ref p2, .int 0, .int 0, .int 0, .ref p6, .ref p7, .ref p8])), (am, .inl (cI, 6, .inl (fun _ => 0))), (p8, .inl (cI, 64, .inl (fun _ => 0)))])) (va_A [(h0, .inr (0, [.ref p0, .ref p1, .ref p2, .int 0, .int 0, .int 0, .ref p6, .ref p7, .ref p8])), (am, .inl (cI, 6, .inl (fun _ => 0))), (p8, .inl (cI, 64, .inl (fun _ => 0)))] sz)) 0 0 (va_A [(h0, .inr (0, [.ref p0, .ref p1, .ref p2, .int 0, .int 0, .int 0, .ref p6, .ref p7, .ref p8])), (am, .inl (cI, 6, .inl (fun _ => 0))), (p8, .inl (cI, 64, .inl (fun _ => 0)))] sz) := by
  refine Met.ofW (cc := cX0_setLack) (maxL := 4) (ret := none) (by decide) rfl ?_
  intro p e s m args below meth c s₁ B hml hv
  obtain ⟨rfl, hsz, hP, hK, hD0⟩ := hv
  have hx := B.exec
  have hb := B.bytes
  have hr := B.returns
  have hts := atoms_spec (ws := wsX0_setLack) B.pre
  have hown : s.vm.findClass RX0 = some m.cls := findClass_of_methodNamed B.named
  have hlocks := B.notSynchronized
  subst hsz
  have hD := hD0.self (sz := s.heap.size)
  generalize hAe : va_A [(h0, .inr (0, [.ref p0, .ref p1, .ref p2, .int 0, .int 0, .int 0, .ref p6, .ref p7, .ref p8])), (am, .inl (cI, 6, .inl (fun _ => 0))), (p8, .inl (cI, 64, .inl (fun _ => 0)))] s.heap.size = A at hD ⊢
  have hA : ∀ q : Nat, s.heap.size ≤ q → A q := fun q h => by rw [← hAe]; exact Or.inr h
  have hS : va_S A s.heap s.heap [] := va_S.rf
  have hP : va_P D vwCl [(h0, .inr (0, [.ref p0, .ref p1, .ref p2, .int 0, .int 0, .int 0, .ref p6, .ref p7, .ref p8])), (am, .inl (cI, 6, .inl (fun _ => 0))), (p8, .inl (cI, 64, .inl (fun _ => 0)))] s.heap := hP
  have w_1 : ∀ w ∈ wsX00, w ∈ wsX0_setLack := by decide +kernel
  have w_2 := hts (Cond.fieldLink RX0 27 "BlueCoats$Chest" "lack" "[I") (by decide +kernel)
  have hl := lv_entry ([.ref h0, .ref am]) (n := 4) (Nat.le_of_ble_eq_true rfl)
  rw [lg_entry_eq]
  generalize (lg_sl ([.ref h0, .ref am]) ++ List.replicate (4 - (lg_sl ([.ref h0, .ref am])).length) Slot.unset).toArray = ls at hl ⊢
  have hl : lv_has ls 4 [(0, .ref h0), (1, .ref am)] := hl
  generalize hQ : MQ below _ _ s _ _ _ = Q0
  refine lv_aload_n hx hb dX0_setLack_0 rfl (lv_at hl 0 rfl) ?_
  refine va_get (D := D) (ci := 0) (v := .ref p8) (C := RX0) (T := TX0) (N := 9) hx hb hts w_1 hown hK hP 0 rfl rfl 8 (by decide) w_2 (fun _ h9 => h9) rfl dX0_setLack_1 ?_
  refine lv_iconst (v := 0) hx hb dX0_setLack_4 (by decide) ?_
  refine lv_iconst (v := 0) hx hb dX0_setLack_5 (by decide) ?_
  refine sv_iast hx hb hK hP hD hS 2 1 rfl rfl (vp_in_iff.mpr (by decide)) dX0_setLack_6 (fun g_1 H locs eg_1 hP hD hS => ?_)
  have eg_1 : g_1 = (fun _ => 0) := by rw [eg_1]; exact upd_zero _
  subst eg_1
  have hP : va_P D vwCl [(h0, .inr (0, [.ref p0, .ref p1, .ref p2, .int 0, .int 0, .int 0, .ref p6, .ref p7, .ref p8])), (am, .inl (cI, 6, .inl (fun _ => 0))), (p8, .inl (cI, 64, .inl (fun _ => 0)))] H := hP
  have hD : va_D A [(h0, .inr (0, [.ref p0, .ref p1, .ref p2, .int 0, .int 0, .int 0, .ref p6, .ref p7, .ref p8])), (am, .inl (cI, 6, .inl (fun _ => 0))), (p8, .inl (cI, 64, .inl (fun _ => 0)))] := hD
  refine lv_iconst (v := 0) hx hb dX0_setLack_7 (by decide) ?_
  refine lv_istore_n (lv' := [(2, .int 0), (0, .ref h0), (1, .ref am)]) hx hb dX0_setLack_8 rfl hl (by decide) rfl (fun ls hl => ?_)
  refine lv_iload_n hx hb dX0_setLack_9 rfl (lv_at hl 0 rfl) ?_
  refine lv_bipush (v := 6) hx hb dX0_setLack_10 (by decide) ?_
  refine lv_icmp_ge (tgt := 62) hx hb dX0_setLack_12 (by decide) (fun h => absurd h (by decide)) (fun _ => ?_)
  refine lv_iload_n hx hb dX0_setLack_15 rfl (lv_at hl 0 rfl) ?_
  refine lv_aload_n hx hb dX0_setLack_16 rfl (lv_at hl 2 rfl) ?_
  refine va_alen (v := 6) hx hb hK hP 1 1 rfl rfl (by decide) dX0_setLack_17 ?_
  refine lv_icmp_ge (tgt := 62) hx hb dX0_setLack_18 (by decide) (fun h => absurd h (by decide)) (fun _ => ?_)
  refine lv_iconst (v := 0) hx hb dX0_setLack_21 (by decide) ?_
  refine lv_istore_n (lv' := [(3, .int 0), (2, .int 0), (0, .ref h0), (1, .ref am)]) hx hb dX0_setLack_22 rfl hl (by decide) rfl (fun ls hl => ?_)
  have L_2 : ∀ (n : Nat) (i_23 : Int32) (H : Heap) (locs : List Loc) (ls : Array Slot), (Int32.toInt 1 - i_23.toInt).toNat < n → 0 ≤ i_23.toInt → va_P D vwCl [(h0, .inr (0, [.ref p0, .ref p1, .ref p2, .int 0, .int 0, .int 0, .ref p6, .ref p7, .ref p8])), (am, .inl (cI, 6, .inl (fun _ => 0))), (p8, .inl (cI, 64, .inl (fun _ => 0)))] H → va_D A [(h0, .inr (0, [.ref p0, .ref p1, .ref p2, .int 0, .int 0, .int 0, .ref p6, .ref p7, .ref p8])), (am, .inl (cI, 6, .inl (fun _ => 0))), (p8, .inl (cI, 64, .inl (fun _ => 0)))] → va_S A s.heap H locs → lv_has ls 4 [(0, .ref h0), (1, .ref am), (2, .int 0), (3, .int i_23)] → W p l e (headSpec wsX0_setLack ({ frames := 0, cells := 0, slots := 0, locals := 0 } : Room)).room s m ([.ref h0, .ref am] : List Value).toArray below meth c H locs 0 0 Q0 (F0 m 23 ls []) := by
    intro n
    induction n with
    | zero => intro i_23  H locs ls hn_23 hlo_23 hP hD hS hl; exact absurd hn_23 (Nat.not_lt_zero _)
    | succ n ih_L_2 =>
      intro i_23  H locs ls hn_23 hlo_23 hP hD hS hl
      refine lv_iload_n hx hb dX0_setLack_23 rfl (lv_at hl 3 rfl) ?_
      refine lv_iconst (v := 1) hx hb dX0_setLack_24 (by decide) ?_
      refine lv_iload_n hx hb dX0_setLack_25 rfl (lv_at hl 2 rfl) ?_
      refine sv_ishl (v := 1) hx hb dX0_setLack_26 (by decide) ?_
      refine lv_icmp_ge (tgt := 56) hx hb dX0_setLack_27 (by decide) (fun c_27 => ?_) (fun c_27 => ?_)
      ·
        refine lv_iinc (v := 1) (lv' := [(2, .int 1), (0, .ref h0), (1, .ref am), (3, .int i_23)]) hx hb dX0_setLack_56 hl (k := 2) rfl (by decide) (by decide) rfl (fun ls hl => ?_)
        refine lv_goto (tgt := 9) hx hb dX0_setLack_59 (by decide) ?_
        refine lv_iload_n hx hb dX0_setLack_9 rfl (lv_at hl 0 rfl) ?_
        refine lv_bipush (v := 6) hx hb dX0_setLack_10 (by decide) ?_
        refine lv_icmp_ge (tgt := 62) hx hb dX0_setLack_12 (by decide) (fun h => absurd h (by decide)) (fun _ => ?_)
        refine lv_iload_n hx hb dX0_setLack_15 rfl (lv_at hl 0 rfl) ?_
        refine lv_aload_n hx hb dX0_setLack_16 rfl (lv_at hl 2 rfl) ?_
        refine va_alen (v := 6) hx hb hK hP 1 1 rfl rfl (by decide) dX0_setLack_17 ?_
        refine lv_icmp_ge (tgt := 62) hx hb dX0_setLack_18 (by decide) (fun h => absurd h (by decide)) (fun _ => ?_)
        refine lv_iconst (v := 0) hx hb dX0_setLack_21 (by decide) ?_
        refine lv_istore_n (lv' := [(3, .int 0), (2, .int 1), (0, .ref h0), (1, .ref am)]) hx hb dX0_setLack_22 rfl hl (by decide) rfl (fun ls hl => ?_)
        have L_3 : ∀ (n : Nat) (i_23 : Int32) (H : Heap) (locs : List Loc) (ls : Array Slot), (Int32.toInt 2 - i_23.toInt).toNat < n → 0 ≤ i_23.toInt → va_P D vwCl [(h0, .inr (0, [.ref p0, .ref p1, .ref p2, .int 0, .int 0, .int 0, .ref p6, .ref p7, .ref p8])), (am, .inl (cI, 6, .inl (fun _ => 0))), (p8, .inl (cI, 64, .inl (fun _ => 0)))] H → va_D A [(h0, .inr (0, [.ref p0, .ref p1, .ref p2, .int 0, .int 0, .int 0, .ref p6, .ref p7, .ref p8])), (am, .inl (cI, 6, .inl (fun _ => 0))), (p8, .inl (cI, 64, .inl (fun _ => 0)))] → va_S A s.heap H locs → lv_has ls 4 [(0, .ref h0), (1, .ref am), (2, .int 1), (3, .int i_23)] → W p l e (headSpec wsX0_setLack ({ frames := 0, cells := 0, slots := 0, locals := 0 } : Room)).room s m ([.ref h0, .ref am] : List Value).toArray below meth c H locs 0 0 Q0 (F0 m 23 ls []) := by
          intro n
          induction n with
          | zero => intro i_23  H locs ls hn_23 hlo_23 hP hD hS hl; exact absurd hn_23 (Nat.not_lt_zero _)
          | succ n ih_L_3 =>
            intro i_23  H locs ls hn_23 hlo_23 hP hD hS hl
            refine lv_iload_n hx hb dX0_setLack_23 rfl (lv_at hl 3 rfl) ?_
            refine lv_iconst (v := 1) hx hb dX0_setLack_24 (by decide) ?_
            refine lv_iload_n hx hb dX0_setLack_25 rfl (lv_at hl 2 rfl) ?_
            refine sv_ishl (v := 2) hx hb dX0_setLack_26 (by decide) ?_
            refine lv_icmp_ge (tgt := 56) hx hb dX0_setLack_27 (by decide) (fun c_27 => ?_) (fun c_27 => ?_)
            ·
              refine lv_iinc (v := 2) (lv' := [(2, .int 2), (0, .ref h0), (1, .ref am), (3, .int i_23)]) hx hb dX0_setLack_56 hl (k := 2) rfl (by decide) (by decide) rfl (fun ls hl => ?_)
              refine lv_goto (tgt := 9) hx hb dX0_setLack_59 (by decide) ?_
              refine lv_iload_n hx hb dX0_setLack_9 rfl (lv_at hl 0 rfl) ?_
              refine lv_bipush (v := 6) hx hb dX0_setLack_10 (by decide) ?_
              refine lv_icmp_ge (tgt := 62) hx hb dX0_setLack_12 (by decide) (fun h => absurd h (by decide)) (fun _ => ?_)
              refine lv_iload_n hx hb dX0_setLack_15 rfl (lv_at hl 0 rfl) ?_
              refine lv_aload_n hx hb dX0_setLack_16 rfl (lv_at hl 2 rfl) ?_
              refine va_alen (v := 6) hx hb hK hP 1 1 rfl rfl (by decide) dX0_setLack_17 ?_
              refine lv_icmp_ge (tgt := 62) hx hb dX0_setLack_18 (by decide) (fun h => absurd h (by decide)) (fun _ => ?_)
              refine lv_iconst (v := 0) hx hb dX0_setLack_21 (by decide) ?_
              refine lv_istore_n (lv' := [(3, .int 0), (2, .int 2), (0, .ref h0), (1, .ref am)]) hx hb dX0_setLack_22 rfl hl (by decide) rfl (fun ls hl => ?_)
              have L_4 : ∀ (n : Nat) (i_23 : Int32) (H : Heap) (locs : List Loc) (ls : Array Slot), (Int32.toInt 4 - i_23.toInt).toNat < n → 0 ≤ i_23.toInt → va_P D vwCl [(h0, .inr (0, [.ref p0, .ref p1, .ref p2, .int 0, .int 0, .int 0, .ref p6, .ref p7, .ref p8])), (am, .inl (cI, 6, .inl (fun _ => 0))), (p8, .inl (cI, 64, .inl (fun _ => 0)))] H → va_D A [(h0, .inr (0, [.ref p0, .ref p1, .ref p2, .int 0, .int 0, .int 0, .ref p6, .ref p7, .ref p8])), (am, .inl (cI, 6, .inl (fun _ => 0))), (p8, .inl (cI, 64, .inl (fun _ => 0)))] → va_S A s.heap H locs → lv_has ls 4 [(0, .ref h0), (1, .ref am), (2, .int 2), (3, .int i_23)] → W p l e (headSpec wsX0_setLack ({ frames := 0, cells := 0, slots := 0, locals := 0 } : Room)).room s m ([.ref h0, .ref am] : List Value).toArray below meth c H locs 0 0 Q0 (F0 m 23 ls []) := by
                intro n
                induction n with
                | zero => intro i_23  H locs ls hn_23 hlo_23 hP hD hS hl; exact absurd hn_23 (Nat.not_lt_zero _)
                | succ n ih_L_4 =>
                  intro i_23  H locs ls hn_23 hlo_23 hP hD hS hl
                  refine lv_iload_n hx hb dX0_setLack_23 rfl (lv_at hl 3 rfl) ?_
                  refine lv_iconst (v := 1) hx hb dX0_setLack_24 (by decide) ?_
                  refine lv_iload_n hx hb dX0_setLack_25 rfl (lv_at hl 2 rfl) ?_
                  refine sv_ishl (v := 4) hx hb dX0_setLack_26 (by decide) ?_
                  refine lv_icmp_ge (tgt := 56) hx hb dX0_setLack_27 (by decide) (fun c_27 => ?_) (fun c_27 => ?_)
                  ·
                    refine lv_iinc (v := 3) (lv' := [(2, .int 3), (0, .ref h0), (1, .ref am), (3, .int i_23)]) hx hb dX0_setLack_56 hl (k := 2) rfl (by decide) (by decide) rfl (fun ls hl => ?_)
                    refine lv_goto (tgt := 9) hx hb dX0_setLack_59 (by decide) ?_
                    refine lv_iload_n hx hb dX0_setLack_9 rfl (lv_at hl 0 rfl) ?_
                    refine lv_bipush (v := 6) hx hb dX0_setLack_10 (by decide) ?_
                    refine lv_icmp_ge (tgt := 62) hx hb dX0_setLack_12 (by decide) (fun h => absurd h (by decide)) (fun _ => ?_)
                    refine lv_iload_n hx hb dX0_setLack_15 rfl (lv_at hl 0 rfl) ?_
                    refine lv_aload_n hx hb dX0_setLack_16 rfl (lv_at hl 2 rfl) ?_
                    refine va_alen (v := 6) hx hb hK hP 1 1 rfl rfl (by decide) dX0_setLack_17 ?_
                    refine lv_icmp_ge (tgt := 62) hx hb dX0_setLack_18 (by decide) (fun h => absurd h (by decide)) (fun _ => ?_)
                    refine lv_iconst (v := 0) hx hb dX0_setLack_21 (by decide) ?_
                    refine lv_istore_n (lv' := [(3, .int 0), (2, .int 3), (0, .ref h0), (1, .ref am)]) hx hb dX0_setLack_22 rfl hl (by decide) rfl (fun ls hl => ?_)
                    have L_5 : ∀ (n : Nat) (i_23 : Int32) (H : Heap) (locs : List Loc) (ls : Array Slot), (Int32.toInt 8 - i_23.toInt).toNat < n → 0 ≤ i_23.toInt → va_P D vwCl [(h0, .inr (0, [.ref p0, .ref p1, .ref p2, .int 0, .int 0, .int 0, .ref p6, .ref p7, .ref p8])), (am, .inl (cI, 6, .inl (fun _ => 0))), (p8, .inl (cI, 64, .inl (fun _ => 0)))] H → va_D A [(h0, .inr (0, [.ref p0, .ref p1, .ref p2, .int 0, .int 0, .int 0, .ref p6, .ref p7, .ref p8])), (am, .inl (cI, 6, .inl (fun _ => 0))), (p8, .inl (cI, 64, .inl (fun _ => 0)))] → va_S A s.heap H locs → lv_has ls 4 [(0, .ref h0), (1, .ref am), (2, .int 3), (3, .int i_23)] → W p l e (headSpec wsX0_setLack ({ frames := 0, cells := 0, slots := 0, locals := 0 } : Room)).room s m ([.ref h0, .ref am] : List Value).toArray below meth c H locs 0 0 Q0 (F0 m 23 ls []) := by
                      intro n
                      induction n with
                      | zero => intro i_23  H locs ls hn_23 hlo_23 hP hD hS hl; exact absurd hn_23 (Nat.not_lt_zero _)
                      | succ n ih_L_5 =>
                        intro i_23  H locs ls hn_23 hlo_23 hP hD hS hl
                        refine lv_iload_n hx hb dX0_setLack_23 rfl (lv_at hl 3 rfl) ?_
                        refine lv_iconst (v := 1) hx hb dX0_setLack_24 (by decide) ?_
                        refine lv_iload_n hx hb dX0_setLack_25 rfl (lv_at hl 2 rfl) ?_
                        refine sv_ishl (v := 8) hx hb dX0_setLack_26 (by decide) ?_
                        refine lv_icmp_ge (tgt := 56) hx hb dX0_setLack_27 (by decide) (fun c_27 => ?_) (fun c_27 => ?_)
                        ·
                          refine lv_iinc (v := 4) (lv' := [(2, .int 4), (0, .ref h0), (1, .ref am), (3, .int i_23)]) hx hb dX0_setLack_56 hl (k := 2) rfl (by decide) (by decide) rfl (fun ls hl => ?_)
                          refine lv_goto (tgt := 9) hx hb dX0_setLack_59 (by decide) ?_
                          refine lv_iload_n hx hb dX0_setLack_9 rfl (lv_at hl 0 rfl) ?_
                          refine lv_bipush (v := 6) hx hb dX0_setLack_10 (by decide) ?_
                          refine lv_icmp_ge (tgt := 62) hx hb dX0_setLack_12 (by decide) (fun h => absurd h (by decide)) (fun _ => ?_)
                          refine lv_iload_n hx hb dX0_setLack_15 rfl (lv_at hl 0 rfl) ?_
                          refine lv_aload_n hx hb dX0_setLack_16 rfl (lv_at hl 2 rfl) ?_
                          refine va_alen (v := 6) hx hb hK hP 1 1 rfl rfl (by decide) dX0_setLack_17 ?_
                          refine lv_icmp_ge (tgt := 62) hx hb dX0_setLack_18 (by decide) (fun h => absurd h (by decide)) (fun _ => ?_)
                          refine lv_iconst (v := 0) hx hb dX0_setLack_21 (by decide) ?_
                          refine lv_istore_n (lv' := [(3, .int 0), (2, .int 4), (0, .ref h0), (1, .ref am)]) hx hb dX0_setLack_22 rfl hl (by decide) rfl (fun ls hl => ?_)
                          have L_6 : ∀ (n : Nat) (i_23 : Int32) (H : Heap) (locs : List Loc) (ls : Array Slot), (Int32.toInt 16 - i_23.toInt).toNat < n → 0 ≤ i_23.toInt → va_P D vwCl [(h0, .inr (0, [.ref p0, .ref p1, .ref p2, .int 0, .int 0, .int 0, .ref p6, .ref p7, .ref p8])), (am, .inl (cI, 6, .inl (fun _ => 0))), (p8, .inl (cI, 64, .inl (fun _ => 0)))] H → va_D A [(h0, .inr (0, [.ref p0, .ref p1, .ref p2, .int 0, .int 0, .int 0, .ref p6, .ref p7, .ref p8])), (am, .inl (cI, 6, .inl (fun _ => 0))), (p8, .inl (cI, 64, .inl (fun _ => 0)))] → va_S A s.heap H locs → lv_has ls 4 [(0, .ref h0), (1, .ref am), (2, .int 4), (3, .int i_23)] → W p l e (headSpec wsX0_setLack ({ frames := 0, cells := 0, slots := 0, locals := 0 } : Room)).room s m ([.ref h0, .ref am] : List Value).toArray below meth c H locs 0 0 Q0 (F0 m 23 ls []) := by
                            intro n
                            induction n with
                            | zero => intro i_23  H locs ls hn_23 hlo_23 hP hD hS hl; exact absurd hn_23 (Nat.not_lt_zero _)
                            | succ n ih_L_6 =>
                              intro i_23  H locs ls hn_23 hlo_23 hP hD hS hl
                              refine lv_iload_n hx hb dX0_setLack_23 rfl (lv_at hl 3 rfl) ?_
                              refine lv_iconst (v := 1) hx hb dX0_setLack_24 (by decide) ?_
                              refine lv_iload_n hx hb dX0_setLack_25 rfl (lv_at hl 2 rfl) ?_
                              refine sv_ishl (v := 16) hx hb dX0_setLack_26 (by decide) ?_
                              refine lv_icmp_ge (tgt := 56) hx hb dX0_setLack_27 (by decide) (fun c_27 => ?_) (fun c_27 => ?_)
                              ·
                                refine lv_iinc (v := 5) (lv' := [(2, .int 5), (0, .ref h0), (1, .ref am), (3, .int i_23)]) hx hb dX0_setLack_56 hl (k := 2) rfl (by decide) (by decide) rfl (fun ls hl => ?_)
                                refine lv_goto (tgt := 9) hx hb dX0_setLack_59 (by decide) ?_
                                refine lv_iload_n hx hb dX0_setLack_9 rfl (lv_at hl 0 rfl) ?_
                                refine lv_bipush (v := 6) hx hb dX0_setLack_10 (by decide) ?_
                                refine lv_icmp_ge (tgt := 62) hx hb dX0_setLack_12 (by decide) (fun h => absurd h (by decide)) (fun _ => ?_)
                                refine lv_iload_n hx hb dX0_setLack_15 rfl (lv_at hl 0 rfl) ?_
                                refine lv_aload_n hx hb dX0_setLack_16 rfl (lv_at hl 2 rfl) ?_
                                refine va_alen (v := 6) hx hb hK hP 1 1 rfl rfl (by decide) dX0_setLack_17 ?_
                                refine lv_icmp_ge (tgt := 62) hx hb dX0_setLack_18 (by decide) (fun h => absurd h (by decide)) (fun _ => ?_)
                                refine lv_iconst (v := 0) hx hb dX0_setLack_21 (by decide) ?_
                                refine lv_istore_n (lv' := [(3, .int 0), (2, .int 5), (0, .ref h0), (1, .ref am)]) hx hb dX0_setLack_22 rfl hl (by decide) rfl (fun ls hl => ?_)
                                have L_7 : ∀ (n : Nat) (i_23 : Int32) (H : Heap) (locs : List Loc) (ls : Array Slot), (Int32.toInt 32 - i_23.toInt).toNat < n → 0 ≤ i_23.toInt → va_P D vwCl [(h0, .inr (0, [.ref p0, .ref p1, .ref p2, .int 0, .int 0, .int 0, .ref p6, .ref p7, .ref p8])), (am, .inl (cI, 6, .inl (fun _ => 0))), (p8, .inl (cI, 64, .inl (fun _ => 0)))] H → va_D A [(h0, .inr (0, [.ref p0, .ref p1, .ref p2, .int 0, .int 0, .int 0, .ref p6, .ref p7, .ref p8])), (am, .inl (cI, 6, .inl (fun _ => 0))), (p8, .inl (cI, 64, .inl (fun _ => 0)))] → va_S A s.heap H locs → lv_has ls 4 [(0, .ref h0), (1, .ref am), (2, .int 5), (3, .int i_23)] → W p l e (headSpec wsX0_setLack ({ frames := 0, cells := 0, slots := 0, locals := 0 } : Room)).room s m ([.ref h0, .ref am] : List Value).toArray below meth c H locs 0 0 Q0 (F0 m 23 ls []) := by
                                  intro n
                                  induction n with
                                  | zero => intro i_23  H locs ls hn_23 hlo_23 hP hD hS hl; exact absurd hn_23 (Nat.not_lt_zero _)
                                  | succ n ih_L_7 =>
                                    intro i_23  H locs ls hn_23 hlo_23 hP hD hS hl
                                    refine lv_iload_n hx hb dX0_setLack_23 rfl (lv_at hl 3 rfl) ?_
                                    refine lv_iconst (v := 1) hx hb dX0_setLack_24 (by decide) ?_
                                    refine lv_iload_n hx hb dX0_setLack_25 rfl (lv_at hl 2 rfl) ?_
                                    refine sv_ishl (v := 32) hx hb dX0_setLack_26 (by decide) ?_
                                    refine lv_icmp_ge (tgt := 56) hx hb dX0_setLack_27 (by decide) (fun c_27 => ?_) (fun c_27 => ?_)
                                    ·
                                      refine lv_iinc (v := 6) (lv' := [(2, .int 6), (0, .ref h0), (1, .ref am), (3, .int i_23)]) hx hb dX0_setLack_56 hl (k := 2) rfl (by decide) (by decide) rfl (fun ls hl => ?_)
                                      refine lv_goto (tgt := 9) hx hb dX0_setLack_59 (by decide) ?_
                                      refine lv_iload_n hx hb dX0_setLack_9 rfl (lv_at hl 0 rfl) ?_
                                      refine lv_bipush (v := 6) hx hb dX0_setLack_10 (by decide) ?_
                                      refine lv_icmp_ge (tgt := 62) hx hb dX0_setLack_12 (by decide) (fun _ => ?_) (fun h => absurd (by decide) h)
                                      rw [← hQ]
                                      have hP9 := hP.sub (ws' := [(h0, .inr (0, [.ref p0, .ref p1, .ref p2, .int 0, .int 0, .int 0, .ref p6, .ref p7, .ref p8])), (am, .inl (cI, 6, .inl (fun _ => 0))), (p8, .inl (cI, 64, .inl (fun _ => 0)))]) [0, 1, 2] rfl
                                      have hD9 := hD.sub (ws' := [(h0, .inr (0, [.ref p0, .ref p1, .ref p2, .int 0, .int 0, .int 0, .ref p6, .ref p7, .ref p8])), (am, .inl (cI, 6, .inl (fun _ => 0))), (p8, .inl (cI, 64, .inl (fun _ => 0)))]) [0, 1, 2] (by decide) rfl
                                      exact W.vret hx hb hr (fun t ht hW => ⟨⟨(), rfl, trivial, by rw [ht]; exact hP9, va_K.moved hW.alike hK, hD9⟩, hS.F ht⟩) hS.2.2 dX0_setLack_62
                                    ·
                                      refine lv_aload_n hx hb dX0_setLack_30 rfl (lv_at hl 0 rfl) ?_
                                      refine va_get (D := D) (ci := 0) (v := .ref p8) (C := RX0) (T := TX0) (N := 9) hx hb hts w_1 hown hK hP 0 rfl rfl 8 (by decide) w_2 (fun _ h9 => h9) rfl dX0_setLack_31 ?_
                                      refine lv_iload_n hx hb dX0_setLack_34 rfl (lv_at hl 3 rfl) ?_
                                      refine lv_iconst (v := 1) hx hb dX0_setLack_35 (by decide) ?_
                                      refine lv_iload_n hx hb dX0_setLack_36 rfl (lv_at hl 2 rfl) ?_
                                      refine sv_ishl (v := 32) hx hb dX0_setLack_37 (by decide) ?_
                                      refine sv_ior (v := i_23 ||| 32) hx hb dX0_setLack_38 rfl ?_
                                      refine lv_aload_n hx hb dX0_setLack_39 rfl (lv_at hl 0 rfl) ?_
                                      refine va_get (D := D) (ci := 0) (v := .ref p8) (C := RX0) (T := TX0) (N := 9) hx hb hts w_1 hown hK hP 0 rfl rfl 8 (by decide) w_2 (fun _ h9 => h9) rfl dX0_setLack_40 ?_
                                      refine lv_iload_n hx hb dX0_setLack_43 rfl (lv_at hl 3 rfl) ?_
                                      refine sv_iald (v := 0) hx hb hK hP 2 1 rfl rfl (lp_in hlo_23 c_27 (by decide)) rfl dX0_setLack_44 ?_
                                      refine lv_aload_n hx hb dX0_setLack_45 rfl (lv_at hl 1 rfl) ?_
                                      refine lv_iload_n hx hb dX0_setLack_46 rfl (lv_at hl 2 rfl) ?_
                                      refine sv_iald (v := 0) hx hb hK hP 1 1 rfl rfl (vp_in_iff.mpr (by decide)) rfl dX0_setLack_47 ?_
                                      refine sv_iadd (v := 0) hx hb dX0_setLack_48 (by decide) ?_
                                      refine sv_iast hx hb hK hP hD hS 2 1 rfl rfl (i_or64 (lp_in hlo_23 c_27 (by decide)) (vp_in_iff.mpr (by decide))) dX0_setLack_49 (fun g_8 H locs eg_8 hP hD hS => ?_)
                                      have eg_8 : g_8 = (fun _ => 0) := by rw [eg_8]; exact upd_zero _
                                      subst eg_8
                                      have hP : va_P D vwCl [(h0, .inr (0, [.ref p0, .ref p1, .ref p2, .int 0, .int 0, .int 0, .ref p6, .ref p7, .ref p8])), (am, .inl (cI, 6, .inl (fun _ => 0))), (p8, .inl (cI, 64, .inl (fun _ => 0)))] H := hP
                                      have hD : va_D A [(h0, .inr (0, [.ref p0, .ref p1, .ref p2, .int 0, .int 0, .int 0, .ref p6, .ref p7, .ref p8])), (am, .inl (cI, 6, .inl (fun _ => 0))), (p8, .inl (cI, 64, .inl (fun _ => 0)))] := hD
                                      refine lv_iinc (v := i_23 + 1) (lv' := [(3, .int (i_23 + 1)), (0, .ref h0), (1, .ref am), (2, .int 5)]) hx hb dX0_setLack_50 hl (k := 3) rfl rfl (by decide) rfl (fun ls hl => ?_)
                                      refine lv_goto (tgt := 23) hx hb dX0_setLack_53 (by decide) ?_
                                      exact ih_L_7 (i_23 + 1)  _ _ ls (lp_dec hn_23 c_27) (by have h9 := lp_inc c_27; omega) hP hD hS (lv_sub hl [1, 2, 3, 0] rfl)
                                exact L_7 _ 0  _ _ ls (Nat.lt_succ_self _) (by decide) hP hD hS (lv_sub hl [2, 3, 1, 0] rfl)
                              ·
                                refine lv_aload_n hx hb dX0_setLack_30 rfl (lv_at hl 0 rfl) ?_
                                refine va_get (D := D) (ci := 0) (v := .ref p8) (C := RX0) (T := TX0) (N := 9) hx hb hts w_1 hown hK hP 0 rfl rfl 8 (by decide) w_2 (fun _ h9 => h9) rfl dX0_setLack_31 ?_
                                refine lv_iload_n hx hb dX0_setLack_34 rfl (lv_at hl 3 rfl) ?_
                                refine lv_iconst (v := 1) hx hb dX0_setLack_35 (by decide) ?_
                                refine lv_iload_n hx hb dX0_setLack_36 rfl (lv_at hl 2 rfl) ?_
                                refine sv_ishl (v := 16) hx hb dX0_setLack_37 (by decide) ?_
                                refine sv_ior (v := i_23 ||| 16) hx hb dX0_setLack_38 rfl ?_
                                refine lv_aload_n hx hb dX0_setLack_39 rfl (lv_at hl 0 rfl) ?_
                                refine va_get (D := D) (ci := 0) (v := .ref p8) (C := RX0) (T := TX0) (N := 9) hx hb hts w_1 hown hK hP 0 rfl rfl 8 (by decide) w_2 (fun _ h9 => h9) rfl dX0_setLack_40 ?_
                                refine lv_iload_n hx hb dX0_setLack_43 rfl (lv_at hl 3 rfl) ?_
                                refine sv_iald (v := 0) hx hb hK hP 2 1 rfl rfl (lp_in hlo_23 c_27 (by decide)) rfl dX0_setLack_44 ?_
                                refine lv_aload_n hx hb dX0_setLack_45 rfl (lv_at hl 1 rfl) ?_
                                refine lv_iload_n hx hb dX0_setLack_46 rfl (lv_at hl 2 rfl) ?_
                                refine sv_iald (v := 0) hx hb hK hP 1 1 rfl rfl (vp_in_iff.mpr (by decide)) rfl dX0_setLack_47 ?_
                                refine sv_iadd (v := 0) hx hb dX0_setLack_48 (by decide) ?_
                                refine sv_iast hx hb hK hP hD hS 2 1 rfl rfl (i_or64 (lp_in hlo_23 c_27 (by decide)) (vp_in_iff.mpr (by decide))) dX0_setLack_49 (fun g_9 H locs eg_9 hP hD hS => ?_)
                                have eg_9 : g_9 = (fun _ => 0) := by rw [eg_9]; exact upd_zero _
                                subst eg_9
                                have hP : va_P D vwCl [(h0, .inr (0, [.ref p0, .ref p1, .ref p2, .int 0, .int 0, .int 0, .ref p6, .ref p7, .ref p8])), (am, .inl (cI, 6, .inl (fun _ => 0))), (p8, .inl (cI, 64, .inl (fun _ => 0)))] H := hP
                                have hD : va_D A [(h0, .inr (0, [.ref p0, .ref p1, .ref p2, .int 0, .int 0, .int 0, .ref p6, .ref p7, .ref p8])), (am, .inl (cI, 6, .inl (fun _ => 0))), (p8, .inl (cI, 64, .inl (fun _ => 0)))] := hD
                                refine lv_iinc (v := i_23 + 1) (lv' := [(3, .int (i_23 + 1)), (0, .ref h0), (1, .ref am), (2, .int 4)]) hx hb dX0_setLack_50 hl (k := 3) rfl rfl (by decide) rfl (fun ls hl => ?_)
                                refine lv_goto (tgt := 23) hx hb dX0_setLack_53 (by decide) ?_
                                exact ih_L_6 (i_23 + 1)  _ _ ls (lp_dec hn_23 c_27) (by have h9 := lp_inc c_27; omega) hP hD hS (lv_sub hl [1, 2, 3, 0] rfl)
                          exact L_6 _ 0  _ _ ls (Nat.lt_succ_self _) (by decide) hP hD hS (lv_sub hl [2, 3, 1, 0] rfl)
                        ·
                          refine lv_aload_n hx hb dX0_setLack_30 rfl (lv_at hl 0 rfl) ?_
                          refine va_get (D := D) (ci := 0) (v := .ref p8) (C := RX0) (T := TX0) (N := 9) hx hb hts w_1 hown hK hP 0 rfl rfl 8 (by decide) w_2 (fun _ h9 => h9) rfl dX0_setLack_31 ?_
                          refine lv_iload_n hx hb dX0_setLack_34 rfl (lv_at hl 3 rfl) ?_
                          refine lv_iconst (v := 1) hx hb dX0_setLack_35 (by decide) ?_
                          refine lv_iload_n hx hb dX0_setLack_36 rfl (lv_at hl 2 rfl) ?_
                          refine sv_ishl (v := 8) hx hb dX0_setLack_37 (by decide) ?_
                          refine sv_ior (v := i_23 ||| 8) hx hb dX0_setLack_38 rfl ?_
                          refine lv_aload_n hx hb dX0_setLack_39 rfl (lv_at hl 0 rfl) ?_
                          refine va_get (D := D) (ci := 0) (v := .ref p8) (C := RX0) (T := TX0) (N := 9) hx hb hts w_1 hown hK hP 0 rfl rfl 8 (by decide) w_2 (fun _ h9 => h9) rfl dX0_setLack_40 ?_
                          refine lv_iload_n hx hb dX0_setLack_43 rfl (lv_at hl 3 rfl) ?_
                          refine sv_iald (v := 0) hx hb hK hP 2 1 rfl rfl (lp_in hlo_23 c_27 (by decide)) rfl dX0_setLack_44 ?_
                          refine lv_aload_n hx hb dX0_setLack_45 rfl (lv_at hl 1 rfl) ?_
                          refine lv_iload_n hx hb dX0_setLack_46 rfl (lv_at hl 2 rfl) ?_
                          refine sv_iald (v := 0) hx hb hK hP 1 1 rfl rfl (vp_in_iff.mpr (by decide)) rfl dX0_setLack_47 ?_
                          refine sv_iadd (v := 0) hx hb dX0_setLack_48 (by decide) ?_
                          refine sv_iast hx hb hK hP hD hS 2 1 rfl rfl (i_or64 (lp_in hlo_23 c_27 (by decide)) (vp_in_iff.mpr (by decide))) dX0_setLack_49 (fun g_10 H locs eg_10 hP hD hS => ?_)
                          have eg_10 : g_10 = (fun _ => 0) := by rw [eg_10]; exact upd_zero _
                          subst eg_10
                          have hP : va_P D vwCl [(h0, .inr (0, [.ref p0, .ref p1, .ref p2, .int 0, .int 0, .int 0, .ref p6, .ref p7, .ref p8])), (am, .inl (cI, 6, .inl (fun _ => 0))), (p8, .inl (cI, 64, .inl (fun _ => 0)))] H := hP
                          have hD : va_D A [(h0, .inr (0, [.ref p0, .ref p1, .ref p2, .int 0, .int 0, .int 0, .ref p6, .ref p7, .ref p8])), (am, .inl (cI, 6, .inl (fun _ => 0))), (p8, .inl (cI, 64, .inl (fun _ => 0)))] := hD
                          refine lv_iinc (v := i_23 + 1) (lv' := [(3, .int (i_23 + 1)), (0, .ref h0), (1, .ref am), (2, .int 3)]) hx hb dX0_setLack_50 hl (k := 3) rfl rfl (by decide) rfl (fun ls hl => ?_)
                          refine lv_goto (tgt := 23) hx hb dX0_setLack_53 (by decide) ?_
                          exact ih_L_5 (i_23 + 1)  _ _ ls (lp_dec hn_23 c_27) (by have h9 := lp_inc c_27; omega) hP hD hS (lv_sub hl [1, 2, 3, 0] rfl)
                    exact L_5 _ 0  _ _ ls (Nat.lt_succ_self _) (by decide) hP hD hS (lv_sub hl [2, 3, 1, 0] rfl)
                  ·
                    refine lv_aload_n hx hb dX0_setLack_30 rfl (lv_at hl 0 rfl) ?_
                    refine va_get (D := D) (ci := 0) (v := .ref p8) (C := RX0) (T := TX0) (N := 9) hx hb hts w_1 hown hK hP 0 rfl rfl 8 (by decide) w_2 (fun _ h9 => h9) rfl dX0_setLack_31 ?_
                    refine lv_iload_n hx hb dX0_setLack_34 rfl (lv_at hl 3 rfl) ?_
                    refine lv_iconst (v := 1) hx hb dX0_setLack_35 (by decide) ?_
                    refine lv_iload_n hx hb dX0_setLack_36 rfl (lv_at hl 2 rfl) ?_
                    refine sv_ishl (v := 4) hx hb dX0_setLack_37 (by decide) ?_
                    refine sv_ior (v := i_23 ||| 4) hx hb dX0_setLack_38 rfl ?_
                    refine lv_aload_n hx hb dX0_setLack_39 rfl (lv_at hl 0 rfl) ?_
                    refine va_get (D := D) (ci := 0) (v := .ref p8) (C := RX0) (T := TX0) (N := 9) hx hb hts w_1 hown hK hP 0 rfl rfl 8 (by decide) w_2 (fun _ h9 => h9) rfl dX0_setLack_40 ?_
                    refine lv_iload_n hx hb dX0_setLack_43 rfl (lv_at hl 3 rfl) ?_
                    refine sv_iald (v := 0) hx hb hK hP 2 1 rfl rfl (lp_in hlo_23 c_27 (by decide)) rfl dX0_setLack_44 ?_
                    refine lv_aload_n hx hb dX0_setLack_45 rfl (lv_at hl 1 rfl) ?_
                    refine lv_iload_n hx hb dX0_setLack_46 rfl (lv_at hl 2 rfl) ?_
                    refine sv_iald (v := 0) hx hb hK hP 1 1 rfl rfl (vp_in_iff.mpr (by decide)) rfl dX0_setLack_47 ?_
                    refine sv_iadd (v := 0) hx hb dX0_setLack_48 (by decide) ?_
                    refine sv_iast hx hb hK hP hD hS 2 1 rfl rfl (i_or64 (lp_in hlo_23 c_27 (by decide)) (vp_in_iff.mpr (by decide))) dX0_setLack_49 (fun g_11 H locs eg_11 hP hD hS => ?_)
                    have eg_11 : g_11 = (fun _ => 0) := by rw [eg_11]; exact upd_zero _
                    subst eg_11
                    have hP : va_P D vwCl [(h0, .inr (0, [.ref p0, .ref p1, .ref p2, .int 0, .int 0, .int 0, .ref p6, .ref p7, .ref p8])), (am, .inl (cI, 6, .inl (fun _ => 0))), (p8, .inl (cI, 64, .inl (fun _ => 0)))] H := hP
                    have hD : va_D A [(h0, .inr (0, [.ref p0, .ref p1, .ref p2, .int 0, .int 0, .int 0, .ref p6, .ref p7, .ref p8])), (am, .inl (cI, 6, .inl (fun _ => 0))), (p8, .inl (cI, 64, .inl (fun _ => 0)))] := hD
                    refine lv_iinc (v := i_23 + 1) (lv' := [(3, .int (i_23 + 1)), (0, .ref h0), (1, .ref am), (2, .int 2)]) hx hb dX0_setLack_50 hl (k := 3) rfl rfl (by decide) rfl (fun ls hl => ?_)
                    refine lv_goto (tgt := 23) hx hb dX0_setLack_53 (by decide) ?_
                    exact ih_L_4 (i_23 + 1)  _ _ ls (lp_dec hn_23 c_27) (by have h9 := lp_inc c_27; omega) hP hD hS (lv_sub hl [1, 2, 3, 0] rfl)
              exact L_4 _ 0  _ _ ls (Nat.lt_succ_self _) (by decide) hP hD hS (lv_sub hl [2, 3, 1, 0] rfl)
            ·
              refine lv_aload_n hx hb dX0_setLack_30 rfl (lv_at hl 0 rfl) ?_
              refine va_get (D := D) (ci := 0) (v := .ref p8) (C := RX0) (T := TX0) (N := 9) hx hb hts w_1 hown hK hP 0 rfl rfl 8 (by decide) w_2 (fun _ h9 => h9) rfl dX0_setLack_31 ?_
              refine lv_iload_n hx hb dX0_setLack_34 rfl (lv_at hl 3 rfl) ?_
              refine lv_iconst (v := 1) hx hb dX0_setLack_35 (by decide) ?_
              refine lv_iload_n hx hb dX0_setLack_36 rfl (lv_at hl 2 rfl) ?_
              refine sv_ishl (v := 2) hx hb dX0_setLack_37 (by decide) ?_
              refine sv_ior (v := i_23 ||| 2) hx hb dX0_setLack_38 rfl ?_
              refine lv_aload_n hx hb dX0_setLack_39 rfl (lv_at hl 0 rfl) ?_
              refine va_get (D := D) (ci := 0) (v := .ref p8) (C := RX0) (T := TX0) (N := 9) hx hb hts w_1 hown hK hP 0 rfl rfl 8 (by decide) w_2 (fun _ h9 => h9) rfl dX0_setLack_40 ?_
              refine lv_iload_n hx hb dX0_setLack_43 rfl (lv_at hl 3 rfl) ?_
              refine sv_iald (v := 0) hx hb hK hP 2 1 rfl rfl (lp_in hlo_23 c_27 (by decide)) rfl dX0_setLack_44 ?_
              refine lv_aload_n hx hb dX0_setLack_45 rfl (lv_at hl 1 rfl) ?_
              refine lv_iload_n hx hb dX0_setLack_46 rfl (lv_at hl 2 rfl) ?_
              refine sv_iald (v := 0) hx hb hK hP 1 1 rfl rfl (vp_in_iff.mpr (by decide)) rfl dX0_setLack_47 ?_
              refine sv_iadd (v := 0) hx hb dX0_setLack_48 (by decide) ?_
              refine sv_iast hx hb hK hP hD hS 2 1 rfl rfl (i_or64 (lp_in hlo_23 c_27 (by decide)) (vp_in_iff.mpr (by decide))) dX0_setLack_49 (fun g_12 H locs eg_12 hP hD hS => ?_)
              have eg_12 : g_12 = (fun _ => 0) := by rw [eg_12]; exact upd_zero _
              subst eg_12
              have hP : va_P D vwCl [(h0, .inr (0, [.ref p0, .ref p1, .ref p2, .int 0, .int 0, .int 0, .ref p6, .ref p7, .ref p8])), (am, .inl (cI, 6, .inl (fun _ => 0))), (p8, .inl (cI, 64, .inl (fun _ => 0)))] H := hP
              have hD : va_D A [(h0, .inr (0, [.ref p0, .ref p1, .ref p2, .int 0, .int 0, .int 0, .ref p6, .ref p7, .ref p8])), (am, .inl (cI, 6, .inl (fun _ => 0))), (p8, .inl (cI, 64, .inl (fun _ => 0)))] := hD
              refine lv_iinc (v := i_23 + 1) (lv' := [(3, .int (i_23 + 1)), (0, .ref h0), (1, .ref am), (2, .int 1)]) hx hb dX0_setLack_50 hl (k := 3) rfl rfl (by decide) rfl (fun ls hl => ?_)
              refine lv_goto (tgt := 23) hx hb dX0_setLack_53 (by decide) ?_
              exact ih_L_3 (i_23 + 1)  _ _ ls (lp_dec hn_23 c_27) (by have h9 := lp_inc c_27; omega) hP hD hS (lv_sub hl [1, 2, 3, 0] rfl)
        exact L_3 _ 0  _ _ ls (Nat.lt_succ_self _) (by decide) hP hD hS (lv_sub hl [2, 3, 1, 0] rfl)
      ·
        refine lv_aload_n hx hb dX0_setLack_30 rfl (lv_at hl 0 rfl) ?_
        refine va_get (D := D) (ci := 0) (v := .ref p8) (C := RX0) (T := TX0) (N := 9) hx hb hts w_1 hown hK hP 0 rfl rfl 8 (by decide) w_2 (fun _ h9 => h9) rfl dX0_setLack_31 ?_
        refine lv_iload_n hx hb dX0_setLack_34 rfl (lv_at hl 3 rfl) ?_
        refine lv_iconst (v := 1) hx hb dX0_setLack_35 (by decide) ?_
        refine lv_iload_n hx hb dX0_setLack_36 rfl (lv_at hl 2 rfl) ?_
        refine sv_ishl (v := 1) hx hb dX0_setLack_37 (by decide) ?_
        refine sv_ior (v := i_23 ||| 1) hx hb dX0_setLack_38 rfl ?_
        refine lv_aload_n hx hb dX0_setLack_39 rfl (lv_at hl 0 rfl) ?_
        refine va_get (D := D) (ci := 0) (v := .ref p8) (C := RX0) (T := TX0) (N := 9) hx hb hts w_1 hown hK hP 0 rfl rfl 8 (by decide) w_2 (fun _ h9 => h9) rfl dX0_setLack_40 ?_
        refine lv_iload_n hx hb dX0_setLack_43 rfl (lv_at hl 3 rfl) ?_
        refine sv_iald (v := 0) hx hb hK hP 2 1 rfl rfl (lp_in hlo_23 c_27 (by decide)) rfl dX0_setLack_44 ?_
        refine lv_aload_n hx hb dX0_setLack_45 rfl (lv_at hl 1 rfl) ?_
        refine lv_iload_n hx hb dX0_setLack_46 rfl (lv_at hl 2 rfl) ?_
        refine sv_iald (v := 0) hx hb hK hP 1 1 rfl rfl (vp_in_iff.mpr (by decide)) rfl dX0_setLack_47 ?_
        refine sv_iadd (v := 0) hx hb dX0_setLack_48 (by decide) ?_
        refine sv_iast hx hb hK hP hD hS 2 1 rfl rfl (i_or64 (lp_in hlo_23 c_27 (by decide)) (vp_in_iff.mpr (by decide))) dX0_setLack_49 (fun g_13 H locs eg_13 hP hD hS => ?_)
        have eg_13 : g_13 = (fun _ => 0) := by rw [eg_13]; exact upd_zero _
        subst eg_13
        have hP : va_P D vwCl [(h0, .inr (0, [.ref p0, .ref p1, .ref p2, .int 0, .int 0, .int 0, .ref p6, .ref p7, .ref p8])), (am, .inl (cI, 6, .inl (fun _ => 0))), (p8, .inl (cI, 64, .inl (fun _ => 0)))] H := hP
        have hD : va_D A [(h0, .inr (0, [.ref p0, .ref p1, .ref p2, .int 0, .int 0, .int 0, .ref p6, .ref p7, .ref p8])), (am, .inl (cI, 6, .inl (fun _ => 0))), (p8, .inl (cI, 64, .inl (fun _ => 0)))] := hD
        refine lv_iinc (v := i_23 + 1) (lv' := [(3, .int (i_23 + 1)), (0, .ref h0), (1, .ref am), (2, .int 0)]) hx hb dX0_setLack_50 hl (k := 3) rfl rfl (by decide) rfl (fun ls hl => ?_)
        refine lv_goto (tgt := 23) hx hb dX0_setLack_53 (by decide) ?_
        exact ih_L_2 (i_23 + 1)  _ _ ls (lp_dec hn_23 c_27) (by have h9 := lp_inc c_27; omega) hP hD hS (lv_sub hl [1, 2, 3, 0] rfl)
  exact L_2 _ 0  _ _ ls (Nat.lt_succ_self _) (by decide) hP hD hS (lv_sub hl [2, 3, 1, 0] rfl)

set_option maxHeartbeats 4000000 in
set_option maxRecDepth 100000 in
/-- planEnds(): all stays 0 -/
theorem k_X0_planEnds (l : Launch) (D : va_G) (cB cI cJ cZ : ClassId) (sz : Nat) (h0 p0 p1 p2 p6 p7 p8 : Nat) : Met l yX0_planEnds wsX0_planEnds ({ frames := 1, cells := 0, slots := 0, locals := 23 } : Room) (cPre D (aTy cB cI cJ cZ) [(h0, .inr (0, [.ref p0, .ref p1, .ref p2, .int 0, .int 0, .int 0, .ref p6, .ref p7, .ref p8])), (p0, .inl (cI, 6, .inl (fun _ => 0))), (p1, .inl (cI, 6, .inl (fun _ => 0))), (p2, .inl (cI, 8, .inl (fun _ => 0))), (p6, .inl (cI, 8, .inl (fun _ => 0))), (p7, .inl (cI, 8, .inl (fun _ => 0))), (p8, .inl (cI, 64, .inl (fun _ => 0)))] sz [.ref h0]) (va_Qv (fun (u : Unit) => True) (cB_ D (aTy cB cI cJ cZ) (va_A [(h0, .inr (0, [.ref p0, .ref p1, .ref p2, .int 0, .int 0, .int 0, .ref p6, .ref p7, .ref p8])), (p0, .inl (cI, 6, .inl (fun _ => 0))), (p1, .inl (cI, 6, .inl (fun _ => 0))), (p2, .inl (cI, 8, .inl (fun _ => 0))), (p6, .inl (cI, 8, .inl (fun _ => 0))), (p7, .inl (cI, 8, .inl (fun _ => 0))), (p8, .inl (cI, 64, .inl (fun _ => 0)))] sz) (fun _ => [(h0, .inr (0, [.ref p0, .ref p1, .ref p2, .int 0, .int 0, .int 0, .ref p6, .ref p7, .ref p8])), (p0, .inl (cI, 6, .inl (fun _ => 0))), (p1, .inl (cI, 6, .inl (fun _ => 0))), (p2, .inl (cI, 8, .inl (fun _ => 0))), (p6, .inl (cI, 8, .inl (fun _ => 0))), (p7, .inl (cI, 8, .inl (fun _ => 0))), (p8, .inl (cI, 64, .inl (fun _ => 0)))])) (va_A [(h0, .inr (0, [.ref p0, .ref p1, .ref p2, .int 0, .int 0, .int 0, .ref p6, .ref p7, .ref p8])), (p0, .inl (cI, 6, .inl (fun _ => 0))), (p1, .inl (cI, 6, .inl (fun _ => 0))), (p2, .inl (cI, 8, .inl (fun _ => 0))), (p6, .inl (cI, 8, .inl (fun _ => 0))), (p7, .inl (cI, 8, .inl (fun _ => 0))), (p8, .inl (cI, 64, .inl (fun _ => 0)))] sz)) 0 0 (va_A [(h0, .inr (0, [.ref p0, .ref p1, .ref p2, .int 0, .int 0, .int 0, .ref p6, .ref p7, .ref p8])), (p0, .inl (cI, 6, .inl (fun _ => 0))), (p1, .inl (cI, 6, .inl (fun _ => 0))), (p2, .inl (cI, 8, .inl (fun _ => 0))), (p6, .inl (cI, 8, .inl (fun _ => 0))), (p7, .inl (cI, 8, .inl (fun _ => 0))), (p8, .inl (cI, 64, .inl (fun _ => 0)))] sz) := by
  refine Met.ofW (cc := cX0_planEnds) (maxL := 5) (ret := none) (by decide) rfl ?_
  intro p e s m args below meth c s₁ B hml hv
  obtain ⟨rfl, hsz, hP, hK, hD0⟩ := hv
  have hx := B.exec
  have hb := B.bytes
  have hr := B.returns
  have hts := atoms_spec (ws := wsX0_planEnds) B.pre
  have hown : s.vm.findClass RX0 = some m.cls := findClass_of_methodNamed B.named
  have hlocks := B.notSynchronized
  subst hsz
  have hD := hD0.self (sz := s.heap.size)
  generalize hAe : va_A [(h0, .inr (0, [.ref p0, .ref p1, .ref p2, .int 0, .int 0, .int 0, .ref p6, .ref p7, .ref p8])), (p0, .inl (cI, 6, .inl (fun _ => 0))), (p1, .inl (cI, 6, .inl (fun _ => 0))), (p2, .inl (cI, 8, .inl (fun _ => 0))), (p6, .inl (cI, 8, .inl (fun _ => 0))), (p7, .inl (cI, 8, .inl (fun _ => 0))), (p8, .inl (cI, 64, .inl (fun _ => 0)))] s.heap.size = A at hD ⊢
  have hA : ∀ q : Nat, s.heap.size ≤ q → A q := fun q h => by rw [← hAe]; exact Or.inr h
  have hS : va_S A s.heap s.heap [] := va_S.rf
  have hP : va_P D vwCl [(h0, .inr (0, [.ref p0, .ref p1, .ref p2, .int 0, .int 0, .int 0, .ref p6, .ref p7, .ref p8])), (p0, .inl (cI, 6, .inl (fun _ => 0))), (p1, .inl (cI, 6, .inl (fun _ => 0))), (p2, .inl (cI, 8, .inl (fun _ => 0))), (p6, .inl (cI, 8, .inl (fun _ => 0))), (p7, .inl (cI, 8, .inl (fun _ => 0))), (p8, .inl (cI, 64, .inl (fun _ => 0)))] s.heap := hP
  have w_1 : ∀ w ∈ wsX00, w ∈ wsX0_planEnds := by decide +kernel
  have w_2 := hts (Cond.fieldLink RX0 11 "BlueCoats$Chest" "need" "[I") (by decide +kernel)
  have w_3 := hts (Cond.fieldLink RX0 30 "BlueCoats$Chest" "number" "I") (by decide +kernel)
  have w_4 := hts (Cond.fieldLink RX0 48 "BlueCoats$Chest" "shortfall" "I") (by decide +kernel)
  have w_5 := hts (Cond.fieldLink RX0 51 "BlueCoats$Chest" "proof" "I") (by decide +kernel)
  have w_6 := hts (Cond.fieldLink RX0 15 "BlueCoats$Chest" "toEnd" "[I") (by decide +kernel)
  have w_7 := hts (Cond.fieldLink RX0 27 "BlueCoats$Chest" "lack" "[I") (by decide +kernel)
  have hl := lv_entry ([.ref h0]) (n := 5) (Nat.le_of_ble_eq_true rfl)
  rw [lg_entry_eq]
  generalize (lg_sl ([.ref h0]) ++ List.replicate (5 - (lg_sl ([.ref h0])).length) Slot.unset).toArray = ls at hl ⊢
  have hl : lv_has ls 5 [(0, .ref h0)] := hl
  generalize hQ : MQ below _ _ s _ _ _ = Q0
  refine lv_aload_n hx hb dX0_planEnds_0 rfl (lv_at hl 0 rfl) ?_
  refine lv_aload_n hx hb dX0_planEnds_1 rfl (lv_at hl 0 rfl) ?_
  refine va_get (D := D) (ci := 0) (v := .ref p0) (C := RX0) (T := TX0) (N := 9) hx hb hts w_1 hown hK hP 0 rfl rfl 0 (by decide) w_2 (fun _ h9 => h9) rfl dX0_planEnds_2 ?_
  refine cl_v (wc := [(h0, .inr (0, [.ref p0, .ref p1, .ref p2, .int 0, .int 0, .int 0, .ref p6, .ref p7, .ref p8])), (p0, .inl (cI, 6, .inl (fun _ => 0))), (p8, .inl (cI, 64, .inl (fun _ => 0)))]) (wr := [(p1, .inl (cI, 6, .inl (fun _ => 0))), (p2, .inl (cI, 8, .inl (fun _ => 0))), (p6, .inl (cI, 8, .inl (fun _ => 0))), (p7, .inl (cI, 8, .inl (fun _ => 0)))]) (va_runV (As := [.ref p0]) (rest := []) ⟨hx, hb, hml, hown, hts⟩ (k_X0_setLack l D cB cI cJ cZ s.heap.size h0 p0 p1 p2 p6 p7 p8 p0) (cwV 1 hts gX0_planEnds_X0_setLack rfl rfl rfl (by decide +kernel) ⟨Nat.le_of_ble_eq_true rfl, Nat.le_of_ble_eq_true rfl⟩) (pre_V (hP.sub (ws' := [(h0, .inr (0, [.ref p0, .ref p1, .ref p2, .int 0, .int 0, .int 0, .ref p6, .ref p7, .ref p8])), (p0, .inl (cI, 6, .inl (fun _ => 0))), (p8, .inl (cI, 64, .inl (fun _ => 0)))]) [0, 1, 6] rfl) hK (hD.sub (ws' := [(h0, .inr (0, [.ref p0, .ref p1, .ref p2, .int 0, .int 0, .int 0, .ref p6, .ref p7, .ref p8])), (p0, .inl (cI, 6, .inl (fun _ => 0))), (p8, .inl (cI, 64, .inl (fun _ => 0)))]) [0, 1, 6] (by decide) rfl) 0 rfl rfl rfl) rfl rfl hl.1 rfl (lv_room (Nat.le_of_ble_eq_true rfl)) dX0_planEnds_5 ⟨Nat.le_of_ble_eq_true rfl, Nat.le_of_ble_eq_true rfl⟩) hP hD hS hA [0, 1, 6] [2, 3, 4, 5] rfl rfl (by decide) (by decide) 0 0 rfl rfl (fun u_2 H locs hw_u_2 hP hD hS => ?_)
  have hP : va_P D vwCl [(p1, .inl (cI, 6, .inl (fun _ => 0))), (p2, .inl (cI, 8, .inl (fun _ => 0))), (p6, .inl (cI, 8, .inl (fun _ => 0))), (p7, .inl (cI, 8, .inl (fun _ => 0))), (h0, .inr (0, [.ref p0, .ref p1, .ref p2, .int 0, .int 0, .int 0, .ref p6, .ref p7, .ref p8])), (p0, .inl (cI, 6, .inl (fun _ => 0))), (p8, .inl (cI, 64, .inl (fun _ => 0)))] H := hP
  have hD : va_D A [(p1, .inl (cI, 6, .inl (fun _ => 0))), (p2, .inl (cI, 8, .inl (fun _ => 0))), (p6, .inl (cI, 8, .inl (fun _ => 0))), (p7, .inl (cI, 8, .inl (fun _ => 0))), (h0, .inr (0, [.ref p0, .ref p1, .ref p2, .int 0, .int 0, .int 0, .ref p6, .ref p7, .ref p8])), (p0, .inl (cI, 6, .inl (fun _ => 0))), (p8, .inl (cI, 64, .inl (fun _ => 0)))] := hD
  refine lv_iconst (v := 0) hx hb dX0_planEnds_8 (by decide) ?_
  refine lv_istore_n (lv' := [(1, .int 0), (0, .ref h0)]) hx hb dX0_planEnds_9 rfl hl (by decide) rfl (fun ls hl => ?_)
  refine lv_iload_n hx hb dX0_planEnds_10 rfl (lv_at hl 0 rfl) ?_
  refine lv_aload_n hx hb dX0_planEnds_11 rfl (lv_at hl 1 rfl) ?_
  refine va_get (D := D) (ci := 0) (v := .int 0) (C := RX0) (T := TX0) (N := 9) hx hb hts w_1 hown hK hP 4 rfl rfl 3 (by decide) w_3 (fun _ h9 => h9) rfl dX0_planEnds_12 ?_
  refine lv_icmp_ge (tgt := 29) hx hb dX0_planEnds_15 (by decide) (fun _ => ?_) (fun h => absurd (by decide) h)
  refine lv_aload_n hx hb dX0_planEnds_29 rfl (lv_at hl 1 rfl) ?_
  refine lv_iconst (v := 0) hx hb dX0_planEnds_30 (by decide) ?_
  refine va_put (D := D) (ci := 0) (v := .int 0) (ty := .int) (C := RX0) (T := TX0) (N := 9) hx hb hts w_1 tyX0 tyX0_ok nmX0 hown hK hP hD hS 4 rfl rfl 4 (by decide) w_4 (fun _ h9 => h9) rfl (by decide +kernel) rfl rfl (Nat.le_of_ble_eq_true rfl) dX0_planEnds_31 (fun H locs hP hD hS => ?_)
  have hP : va_P D vwCl [(p1, .inl (cI, 6, .inl (fun _ => 0))), (p2, .inl (cI, 8, .inl (fun _ => 0))), (p6, .inl (cI, 8, .inl (fun _ => 0))), (p7, .inl (cI, 8, .inl (fun _ => 0))), (h0, .inr (0, [.ref p0, .ref p1, .ref p2, .int 0, .int 0, .int 0, .ref p6, .ref p7, .ref p8])), (p0, .inl (cI, 6, .inl (fun _ => 0))), (p8, .inl (cI, 64, .inl (fun _ => 0)))] H := hP
  have hD : va_D A [(p1, .inl (cI, 6, .inl (fun _ => 0))), (p2, .inl (cI, 8, .inl (fun _ => 0))), (p6, .inl (cI, 8, .inl (fun _ => 0))), (p7, .inl (cI, 8, .inl (fun _ => 0))), (h0, .inr (0, [.ref p0, .ref p1, .ref p2, .int 0, .int 0, .int 0, .ref p6, .ref p7, .ref p8])), (p0, .inl (cI, 6, .inl (fun _ => 0))), (p8, .inl (cI, 64, .inl (fun _ => 0)))] := hD
  refine lv_aload_n hx hb dX0_planEnds_34 rfl (lv_at hl 1 rfl) ?_
  refine lv_iconst (v := 0) hx hb dX0_planEnds_35 (by decide) ?_
  refine va_put (D := D) (ci := 0) (v := .int 0) (ty := .int) (C := RX0) (T := TX0) (N := 9) hx hb hts w_1 tyX0 tyX0_ok nmX0 hown hK hP hD hS 4 rfl rfl 5 (by decide) w_5 (fun _ h9 => h9) rfl (by decide +kernel) rfl rfl (Nat.le_of_ble_eq_true rfl) dX0_planEnds_36 (fun H locs hP hD hS => ?_)
  have hP : va_P D vwCl [(p1, .inl (cI, 6, .inl (fun _ => 0))), (p2, .inl (cI, 8, .inl (fun _ => 0))), (p6, .inl (cI, 8, .inl (fun _ => 0))), (p7, .inl (cI, 8, .inl (fun _ => 0))), (h0, .inr (0, [.ref p0, .ref p1, .ref p2, .int 0, .int 0, .int 0, .ref p6, .ref p7, .ref p8])), (p0, .inl (cI, 6, .inl (fun _ => 0))), (p8, .inl (cI, 64, .inl (fun _ => 0)))] H := hP
  have hD : va_D A [(p1, .inl (cI, 6, .inl (fun _ => 0))), (p2, .inl (cI, 8, .inl (fun _ => 0))), (p6, .inl (cI, 8, .inl (fun _ => 0))), (p7, .inl (cI, 8, .inl (fun _ => 0))), (h0, .inr (0, [.ref p0, .ref p1, .ref p2, .int 0, .int 0, .int 0, .ref p6, .ref p7, .ref p8])), (p0, .inl (cI, 6, .inl (fun _ => 0))), (p8, .inl (cI, 64, .inl (fun _ => 0)))] := hD
  refine lv_iconst (v := 0) hx hb dX0_planEnds_39 (by decide) ?_
  refine lv_istore_n (lv' := [(1, .int 0), (0, .ref h0)]) hx hb dX0_planEnds_40 rfl hl (by decide) rfl (fun ls hl => ?_)
  refine lv_iconst (v := 0) hx hb dX0_planEnds_41 (by decide) ?_
  refine lv_istore_n (lv' := [(2, .int 0), (1, .int 0), (0, .ref h0)]) hx hb dX0_planEnds_42 rfl hl (by decide) rfl (fun ls hl => ?_)
  refine lv_iconst (v := 0) hx hb dX0_planEnds_43 (by decide) ?_
  refine lv_istore_n (lv' := [(3, .int 0), (2, .int 0), (1, .int 0), (0, .ref h0)]) hx hb dX0_planEnds_44 rfl hl (by decide) rfl (fun ls hl => ?_)
  refine lv_iload_n hx hb dX0_planEnds_45 rfl (lv_at hl 0 rfl) ?_
  refine lv_bipush (v := 6) hx hb dX0_planEnds_46 (by decide) ?_
  refine lv_icmp_ge (tgt := 137) hx hb dX0_planEnds_48 (by decide) (fun h => absurd h (by decide)) (fun _ => ?_)
  refine lv_iload_n hx hb dX0_planEnds_51 rfl (lv_at hl 2 rfl) ?_
  refine lv_aload_n hx hb dX0_planEnds_52 rfl (lv_at hl 3 rfl) ?_
  refine va_get (D := D) (ci := 0) (v := .ref p0) (C := RX0) (T := TX0) (N := 9) hx hb hts w_1 hown hK hP 4 rfl rfl 0 (by decide) w_2 (fun _ h9 => h9) rfl dX0_planEnds_53 ?_
  refine lv_iload_n hx hb dX0_planEnds_56 rfl (lv_at hl 0 rfl) ?_
  refine sv_iald (v := 0) hx hb hK hP 5 1 rfl rfl (vp_in_iff.mpr (by decide)) rfl dX0_planEnds_57 ?_
  refine sv_iadd (v := 0) hx hb dX0_planEnds_58 (by decide) ?_
  refine lv_istore_n (lv' := [(1, .int 0), (3, .int 0), (2, .int 0), (0, .ref h0)]) hx hb dX0_planEnds_59 rfl hl (by decide) rfl (fun ls hl => ?_)
  refine lv_iconst (v := 1) hx hb dX0_planEnds_60 (by decide) ?_
  refine lv_iload_n hx hb dX0_planEnds_61 rfl (lv_at hl 1 rfl) ?_
  refine sv_ishl (v := 1) hx hb dX0_planEnds_62 (by decide) ?_
  refine lv_istore (lv' := [(4, .int 1), (1, .int 0), (3, .int 0), (2, .int 0), (0, .ref h0)]) hx hb dX0_planEnds_63 hl (by decide) rfl (fun ls hl => ?_)
  have L_3 : ∀ (n : Nat) (i_65 : Int32) (H : Heap) (locs : List Loc) (ls : Array Slot), (Int32.toInt 2 - i_65.toInt).toNat < n → 0 ≤ i_65.toInt → va_P D vwCl [(p1, .inl (cI, 6, .inl (fun _ => 0))), (p2, .inl (cI, 8, .inl (fun _ => 0))), (p6, .inl (cI, 8, .inl (fun _ => 0))), (p7, .inl (cI, 8, .inl (fun _ => 0))), (h0, .inr (0, [.ref p0, .ref p1, .ref p2, .int 0, .int 0, .int 0, .ref p6, .ref p7, .ref p8])), (p0, .inl (cI, 6, .inl (fun _ => 0))), (p8, .inl (cI, 64, .inl (fun _ => 0)))] H → va_D A [(p1, .inl (cI, 6, .inl (fun _ => 0))), (p2, .inl (cI, 8, .inl (fun _ => 0))), (p6, .inl (cI, 8, .inl (fun _ => 0))), (p7, .inl (cI, 8, .inl (fun _ => 0))), (h0, .inr (0, [.ref p0, .ref p1, .ref p2, .int 0, .int 0, .int 0, .ref p6, .ref p7, .ref p8])), (p0, .inl (cI, 6, .inl (fun _ => 0))), (p8, .inl (cI, 64, .inl (fun _ => 0)))] → va_S A s.heap H locs → lv_has ls 5 [(0, .ref h0), (1, .int 0), (2, .int 0), (3, .int 0), (4, .int i_65)] → W p l e (headSpec wsX0_planEnds ({ frames := 1, cells := 0, slots := 0, locals := 23 } : Room)).room s m ([.ref h0] : List Value).toArray below meth c H locs 0 0 Q0 (F0 m 65 ls []) := by
    intro n
    induction n with
    | zero => intro i_65  H locs ls hn_65 hlo_65 hP hD hS hl; exact absurd hn_65 (Nat.not_lt_zero _)
    | succ n ih_L_3 =>
      intro i_65  H locs ls hn_65 hlo_65 hP hD hS hl
      refine lv_iload hx hb dX0_planEnds_65 (lv_at hl 4 rfl) ?_
      refine lv_iconst (v := 2) hx hb dX0_planEnds_67 (by decide) ?_
      refine lv_iload_n hx hb dX0_planEnds_68 rfl (lv_at hl 3 rfl) ?_
      refine sv_ishl (v := 2) hx hb dX0_planEnds_69 (by decide) ?_
      refine lv_icmp_ge (tgt := 110) hx hb dX0_planEnds_70 (by decide) (fun c_70 => ?_) (fun c_70 => ?_)
      ·
        refine lv_aload_n hx hb dX0_planEnds_110 rfl (lv_at hl 0 rfl) ?_
        refine va_get (D := D) (ci := 0) (v := .ref p1) (C := RX0) (T := TX0) (N := 9) hx hb hts w_1 hown hK hP 4 rfl rfl 1 (by decide) w_6 (fun _ h9 => h9) rfl dX0_planEnds_111 ?_
        refine lv_iload_n hx hb dX0_planEnds_114 rfl (lv_at hl 3 rfl) ?_
        refine lv_iload_n hx hb dX0_planEnds_115 rfl (lv_at hl 1 rfl) ?_
        refine lv_aload_n hx hb dX0_planEnds_116 rfl (lv_at hl 0 rfl) ?_
        refine va_get (D := D) (ci := 0) (v := .int 0) (C := RX0) (T := TX0) (N := 9) hx hb hts w_1 hown hK hP 4 rfl rfl 4 (by decide) w_4 (fun _ h9 => h9) rfl dX0_planEnds_117 ?_
        refine sv_isub (v := 0) hx hb dX0_planEnds_120 (by decide) ?_
        refine lv_iload_n hx hb dX0_planEnds_121 rfl (lv_at hl 2 rfl) ?_
        refine sv_isub (v := 0) hx hb dX0_planEnds_122 (by decide) ?_
        refine sv_iast hx hb hK hP hD hS 0 1 rfl rfl (vp_in_iff.mpr (by decide)) dX0_planEnds_123 (fun g_4 H locs eg_4 hP hD hS => ?_)
        have eg_4 : g_4 = (fun _ => 0) := by rw [eg_4]; exact upd_zero _
        subst eg_4
        have hP : va_P D vwCl [(p1, .inl (cI, 6, .inl (fun _ => 0))), (p2, .inl (cI, 8, .inl (fun _ => 0))), (p6, .inl (cI, 8, .inl (fun _ => 0))), (p7, .inl (cI, 8, .inl (fun _ => 0))), (h0, .inr (0, [.ref p0, .ref p1, .ref p2, .int 0, .int 0, .int 0, .ref p6, .ref p7, .ref p8])), (p0, .inl (cI, 6, .inl (fun _ => 0))), (p8, .inl (cI, 64, .inl (fun _ => 0)))] H := hP
        have hD : va_D A [(p1, .inl (cI, 6, .inl (fun _ => 0))), (p2, .inl (cI, 8, .inl (fun _ => 0))), (p6, .inl (cI, 8, .inl (fun _ => 0))), (p7, .inl (cI, 8, .inl (fun _ => 0))), (h0, .inr (0, [.ref p0, .ref p1, .ref p2, .int 0, .int 0, .int 0, .ref p6, .ref p7, .ref p8])), (p0, .inl (cI, 6, .inl (fun _ => 0))), (p8, .inl (cI, 64, .inl (fun _ => 0)))] := hD
        refine lv_iload_n hx hb dX0_planEnds_124 rfl (lv_at hl 1 rfl) ?_
        refine lv_aload_n hx hb dX0_planEnds_125 rfl (lv_at hl 0 rfl) ?_
        refine va_get (D := D) (ci := 0) (v := .int 0) (C := RX0) (T := TX0) (N := 9) hx hb hts w_1 hown hK hP 4 rfl rfl 4 (by decide) w_4 (fun _ h9 => h9) rfl dX0_planEnds_126 ?_
        refine sv_isub (v := 0) hx hb dX0_planEnds_129 (by decide) ?_
        refine lv_istore_n (lv' := [(2, .int 0), (0, .ref h0), (1, .int 0), (3, .int 0), (4, .int i_65)]) hx hb dX0_planEnds_130 rfl hl (by decide) rfl (fun ls hl => ?_)
        refine lv_iinc (v := 1) (lv' := [(3, .int 1), (2, .int 0), (0, .ref h0), (1, .int 0), (4, .int i_65)]) hx hb dX0_planEnds_131 hl (k := 3) rfl (by decide) (by decide) rfl (fun ls hl => ?_)
        refine lv_goto (tgt := 45) hx hb dX0_planEnds_134 (by decide) ?_
        refine lv_iload_n hx hb dX0_planEnds_45 rfl (lv_at hl 0 rfl) ?_
        refine lv_bipush (v := 6) hx hb dX0_planEnds_46 (by decide) ?_
        refine lv_icmp_ge (tgt := 137) hx hb dX0_planEnds_48 (by decide) (fun h => absurd h (by decide)) (fun _ => ?_)
        refine lv_iload_n hx hb dX0_planEnds_51 rfl (lv_at hl 3 rfl) ?_
        refine lv_aload_n hx hb dX0_planEnds_52 rfl (lv_at hl 2 rfl) ?_
        refine va_get (D := D) (ci := 0) (v := .ref p0) (C := RX0) (T := TX0) (N := 9) hx hb hts w_1 hown hK hP 4 rfl rfl 0 (by decide) w_2 (fun _ h9 => h9) rfl dX0_planEnds_53 ?_
        refine lv_iload_n hx hb dX0_planEnds_56 rfl (lv_at hl 0 rfl) ?_
        refine sv_iald (v := 0) hx hb hK hP 5 1 rfl rfl (vp_in_iff.mpr (by decide)) rfl dX0_planEnds_57 ?_
        refine sv_iadd (v := 0) hx hb dX0_planEnds_58 (by decide) ?_
        refine lv_istore_n (lv' := [(1, .int 0), (3, .int 1), (2, .int 0), (0, .ref h0), (4, .int i_65)]) hx hb dX0_planEnds_59 rfl hl (by decide) rfl (fun ls hl => ?_)
        refine lv_iconst (v := 1) hx hb dX0_planEnds_60 (by decide) ?_
        refine lv_iload_n hx hb dX0_planEnds_61 rfl (lv_at hl 1 rfl) ?_
        refine sv_ishl (v := 2) hx hb dX0_planEnds_62 (by decide) ?_
        refine lv_istore (lv' := [(4, .int 2), (1, .int 0), (3, .int 1), (2, .int 0), (0, .ref h0)]) hx hb dX0_planEnds_63 hl (by decide) rfl (fun ls hl => ?_)
        have L_5 : ∀ (n : Nat) (i_65 : Int32) (H : Heap) (locs : List Loc) (ls : Array Slot), (Int32.toInt 4 - i_65.toInt).toNat < n → 0 ≤ i_65.toInt → va_P D vwCl [(p1, .inl (cI, 6, .inl (fun _ => 0))), (p2, .inl (cI, 8, .inl (fun _ => 0))), (p6, .inl (cI, 8, .inl (fun _ => 0))), (p7, .inl (cI, 8, .inl (fun _ => 0))), (h0, .inr (0, [.ref p0, .ref p1, .ref p2, .int 0, .int 0, .int 0, .ref p6, .ref p7, .ref p8])), (p0, .inl (cI, 6, .inl (fun _ => 0))), (p8, .inl (cI, 64, .inl (fun _ => 0)))] H → va_D A [(p1, .inl (cI, 6, .inl (fun _ => 0))), (p2, .inl (cI, 8, .inl (fun _ => 0))), (p6, .inl (cI, 8, .inl (fun _ => 0))), (p7, .inl (cI, 8, .inl (fun _ => 0))), (h0, .inr (0, [.ref p0, .ref p1, .ref p2, .int 0, .int 0, .int 0, .ref p6, .ref p7, .ref p8])), (p0, .inl (cI, 6, .inl (fun _ => 0))), (p8, .inl (cI, 64, .inl (fun _ => 0)))] → va_S A s.heap H locs → lv_has ls 5 [(0, .ref h0), (1, .int 0), (2, .int 0), (3, .int 1), (4, .int i_65)] → W p l e (headSpec wsX0_planEnds ({ frames := 1, cells := 0, slots := 0, locals := 23 } : Room)).room s m ([.ref h0] : List Value).toArray below meth c H locs 0 0 Q0 (F0 m 65 ls []) := by
          intro n
          induction n with
          | zero => intro i_65  H locs ls hn_65 hlo_65 hP hD hS hl; exact absurd hn_65 (Nat.not_lt_zero _)
          | succ n ih_L_5 =>
            intro i_65  H locs ls hn_65 hlo_65 hP hD hS hl
            refine lv_iload hx hb dX0_planEnds_65 (lv_at hl 4 rfl) ?_
            refine lv_iconst (v := 2) hx hb dX0_planEnds_67 (by decide) ?_
            refine lv_iload_n hx hb dX0_planEnds_68 rfl (lv_at hl 3 rfl) ?_
            refine sv_ishl (v := 4) hx hb dX0_planEnds_69 (by decide) ?_
            refine lv_icmp_ge (tgt := 110) hx hb dX0_planEnds_70 (by decide) (fun c_70 => ?_) (fun c_70 => ?_)
            ·
              refine lv_aload_n hx hb dX0_planEnds_110 rfl (lv_at hl 0 rfl) ?_
              refine va_get (D := D) (ci := 0) (v := .ref p1) (C := RX0) (T := TX0) (N := 9) hx hb hts w_1 hown hK hP 4 rfl rfl 1 (by decide) w_6 (fun _ h9 => h9) rfl dX0_planEnds_111 ?_
              refine lv_iload_n hx hb dX0_planEnds_114 rfl (lv_at hl 3 rfl) ?_
              refine lv_iload_n hx hb dX0_planEnds_115 rfl (lv_at hl 1 rfl) ?_
              refine lv_aload_n hx hb dX0_planEnds_116 rfl (lv_at hl 0 rfl) ?_
              refine va_get (D := D) (ci := 0) (v := .int 0) (C := RX0) (T := TX0) (N := 9) hx hb hts w_1 hown hK hP 4 rfl rfl 4 (by decide) w_4 (fun _ h9 => h9) rfl dX0_planEnds_117 ?_
              refine sv_isub (v := 0) hx hb dX0_planEnds_120 (by decide) ?_
              refine lv_iload_n hx hb dX0_planEnds_121 rfl (lv_at hl 2 rfl) ?_
              refine sv_isub (v := 0) hx hb dX0_planEnds_122 (by decide) ?_
              refine sv_iast hx hb hK hP hD hS 0 1 rfl rfl (vp_in_iff.mpr (by decide)) dX0_planEnds_123 (fun g_6 H locs eg_6 hP hD hS => ?_)
              have eg_6 : g_6 = (fun _ => 0) := by rw [eg_6]; exact upd_zero _
              subst eg_6
              have hP : va_P D vwCl [(p1, .inl (cI, 6, .inl (fun _ => 0))), (p2, .inl (cI, 8, .inl (fun _ => 0))), (p6, .inl (cI, 8, .inl (fun _ => 0))), (p7, .inl (cI, 8, .inl (fun _ => 0))), (h0, .inr (0, [.ref p0, .ref p1, .ref p2, .int 0, .int 0, .int 0, .ref p6, .ref p7, .ref p8])), (p0, .inl (cI, 6, .inl (fun _ => 0))), (p8, .inl (cI, 64, .inl (fun _ => 0)))] H := hP
              have hD : va_D A [(p1, .inl (cI, 6, .inl (fun _ => 0))), (p2, .inl (cI, 8, .inl (fun _ => 0))), (p6, .inl (cI, 8, .inl (fun _ => 0))), (p7, .inl (cI, 8, .inl (fun _ => 0))), (h0, .inr (0, [.ref p0, .ref p1, .ref p2, .int 0, .int 0, .int 0, .ref p6, .ref p7, .ref p8])), (p0, .inl (cI, 6, .inl (fun _ => 0))), (p8, .inl (cI, 64, .inl (fun _ => 0)))] := hD
              refine lv_iload_n hx hb dX0_planEnds_124 rfl (lv_at hl 1 rfl) ?_
              refine lv_aload_n hx hb dX0_planEnds_125 rfl (lv_at hl 0 rfl) ?_
              refine va_get (D := D) (ci := 0) (v := .int 0) (C := RX0) (T := TX0) (N := 9) hx hb hts w_1 hown hK hP 4 rfl rfl 4 (by decide) w_4 (fun _ h9 => h9) rfl dX0_planEnds_126 ?_
              refine sv_isub (v := 0) hx hb dX0_planEnds_129 (by decide) ?_
              refine lv_istore_n (lv' := [(2, .int 0), (0, .ref h0), (1, .int 0), (3, .int 1), (4, .int i_65)]) hx hb dX0_planEnds_130 rfl hl (by decide) rfl (fun ls hl => ?_)
              refine lv_iinc (v := 2) (lv' := [(3, .int 2), (2, .int 0), (0, .ref h0), (1, .int 0), (4, .int i_65)]) hx hb dX0_planEnds_131 hl (k := 3) rfl (by decide) (by decide) rfl (fun ls hl => ?_)
              refine lv_goto (tgt := 45) hx hb dX0_planEnds_134 (by decide) ?_
              refine lv_iload_n hx hb dX0_planEnds_45 rfl (lv_at hl 0 rfl) ?_
              refine lv_bipush (v := 6) hx hb dX0_planEnds_46 (by decide) ?_
              refine lv_icmp_ge (tgt := 137) hx hb dX0_planEnds_48 (by decide) (fun h => absurd h (by decide)) (fun _ => ?_)
              refine lv_iload_n hx hb dX0_planEnds_51 rfl (lv_at hl 3 rfl) ?_
              refine lv_aload_n hx hb dX0_planEnds_52 rfl (lv_at hl 2 rfl) ?_
              refine va_get (D := D) (ci := 0) (v := .ref p0) (C := RX0) (T := TX0) (N := 9) hx hb hts w_1 hown hK hP 4 rfl rfl 0 (by decide) w_2 (fun _ h9 => h9) rfl dX0_planEnds_53 ?_
              refine lv_iload_n hx hb dX0_planEnds_56 rfl (lv_at hl 0 rfl) ?_
              refine sv_iald (v := 0) hx hb hK hP 5 1 rfl rfl (vp_in_iff.mpr (by decide)) rfl dX0_planEnds_57 ?_
              refine sv_iadd (v := 0) hx hb dX0_planEnds_58 (by decide) ?_
              refine lv_istore_n (lv' := [(1, .int 0), (3, .int 2), (2, .int 0), (0, .ref h0), (4, .int i_65)]) hx hb dX0_planEnds_59 rfl hl (by decide) rfl (fun ls hl => ?_)
              refine lv_iconst (v := 1) hx hb dX0_planEnds_60 (by decide) ?_
              refine lv_iload_n hx hb dX0_planEnds_61 rfl (lv_at hl 1 rfl) ?_
              refine sv_ishl (v := 4) hx hb dX0_planEnds_62 (by decide) ?_
              refine lv_istore (lv' := [(4, .int 4), (1, .int 0), (3, .int 2), (2, .int 0), (0, .ref h0)]) hx hb dX0_planEnds_63 hl (by decide) rfl (fun ls hl => ?_)
              have L_7 : ∀ (n : Nat) (i_65 : Int32) (H : Heap) (locs : List Loc) (ls : Array Slot), (Int32.toInt 8 - i_65.toInt).toNat < n → 0 ≤ i_65.toInt → va_P D vwCl [(p1, .inl (cI, 6, .inl (fun _ => 0))), (p2, .inl (cI, 8, .inl (fun _ => 0))), (p6, .inl (cI, 8, .inl (fun _ => 0))), (p7, .inl (cI, 8, .inl (fun _ => 0))), (h0, .inr (0, [.ref p0, .ref p1, .ref p2, .int 0, .int 0, .int 0, .ref p6, .ref p7, .ref p8])), (p0, .inl (cI, 6, .inl (fun _ => 0))), (p8, .inl (cI, 64, .inl (fun _ => 0)))] H → va_D A [(p1, .inl (cI, 6, .inl (fun _ => 0))), (p2, .inl (cI, 8, .inl (fun _ => 0))), (p6, .inl (cI, 8, .inl (fun _ => 0))), (p7, .inl (cI, 8, .inl (fun _ => 0))), (h0, .inr (0, [.ref p0, .ref p1, .ref p2, .int 0, .int 0, .int 0, .ref p6, .ref p7, .ref p8])), (p0, .inl (cI, 6, .inl (fun _ => 0))), (p8, .inl (cI, 64, .inl (fun _ => 0)))] → va_S A s.heap H locs → lv_has ls 5 [(0, .ref h0), (1, .int 0), (2, .int 0), (3, .int 2), (4, .int i_65)] → W p l e (headSpec wsX0_planEnds ({ frames := 1, cells := 0, slots := 0, locals := 23 } : Room)).room s m ([.ref h0] : List Value).toArray below meth c H locs 0 0 Q0 (F0 m 65 ls []) := by
                intro n
                induction n with
                | zero => intro i_65  H locs ls hn_65 hlo_65 hP hD hS hl; exact absurd hn_65 (Nat.not_lt_zero _)
                | succ n ih_L_7 =>
                  intro i_65  H locs ls hn_65 hlo_65 hP hD hS hl
                  refine lv_iload hx hb dX0_planEnds_65 (lv_at hl 4 rfl) ?_
                  refine lv_iconst (v := 2) hx hb dX0_planEnds_67 (by decide) ?_
                  refine lv_iload_n hx hb dX0_planEnds_68 rfl (lv_at hl 3 rfl) ?_
                  refine sv_ishl (v := 8) hx hb dX0_planEnds_69 (by decide) ?_
                  refine lv_icmp_ge (tgt := 110) hx hb dX0_planEnds_70 (by decide) (fun c_70 => ?_) (fun c_70 => ?_)
                  ·
                    refine lv_aload_n hx hb dX0_planEnds_110 rfl (lv_at hl 0 rfl) ?_
                    refine va_get (D := D) (ci := 0) (v := .ref p1) (C := RX0) (T := TX0) (N := 9) hx hb hts w_1 hown hK hP 4 rfl rfl 1 (by decide) w_6 (fun _ h9 => h9) rfl dX0_planEnds_111 ?_
                    refine lv_iload_n hx hb dX0_planEnds_114 rfl (lv_at hl 3 rfl) ?_
                    refine lv_iload_n hx hb dX0_planEnds_115 rfl (lv_at hl 1 rfl) ?_
                    refine lv_aload_n hx hb dX0_planEnds_116 rfl (lv_at hl 0 rfl) ?_
                    refine va_get (D := D) (ci := 0) (v := .int 0) (C := RX0) (T := TX0) (N := 9) hx hb hts w_1 hown hK hP 4 rfl rfl 4 (by decide) w_4 (fun _ h9 => h9) rfl dX0_planEnds_117 ?_
                    refine sv_isub (v := 0) hx hb dX0_planEnds_120 (by decide) ?_
                    refine lv_iload_n hx hb dX0_planEnds_121 rfl (lv_at hl 2 rfl) ?_
                    refine sv_isub (v := 0) hx hb dX0_planEnds_122 (by decide) ?_
                    refine sv_iast hx hb hK hP hD hS 0 1 rfl rfl (vp_in_iff.mpr (by decide)) dX0_planEnds_123 (fun g_8 H locs eg_8 hP hD hS => ?_)
                    have eg_8 : g_8 = (fun _ => 0) := by rw [eg_8]; exact upd_zero _
                    subst eg_8
                    have hP : va_P D vwCl [(p1, .inl (cI, 6, .inl (fun _ => 0))), (p2, .inl (cI, 8, .inl (fun _ => 0))), (p6, .inl (cI, 8, .inl (fun _ => 0))), (p7, .inl (cI, 8, .inl (fun _ => 0))), (h0, .inr (0, [.ref p0, .ref p1, .ref p2, .int 0, .int 0, .int 0, .ref p6, .ref p7, .ref p8])), (p0, .inl (cI, 6, .inl (fun _ => 0))), (p8, .inl (cI, 64, .inl (fun _ => 0)))] H := hP
                    have hD : va_D A [(p1, .inl (cI, 6, .inl (fun _ => 0))), (p2, .inl (cI, 8, .inl (fun _ => 0))), (p6, .inl (cI, 8, .inl (fun _ => 0))), (p7, .inl (cI, 8, .inl (fun _ => 0))), (h0, .inr (0, [.ref p0, .ref p1, .ref p2, .int 0, .int 0, .int 0, .ref p6, .ref p7, .ref p8])), (p0, .inl (cI, 6, .inl (fun _ => 0))), (p8, .inl (cI, 64, .inl (fun _ => 0)))] := hD
                    refine lv_iload_n hx hb dX0_planEnds_124 rfl (lv_at hl 1 rfl) ?_
                    refine lv_aload_n hx hb dX0_planEnds_125 rfl (lv_at hl 0 rfl) ?_
                    refine va_get (D := D) (ci := 0) (v := .int 0) (C := RX0) (T := TX0) (N := 9) hx hb hts w_1 hown hK hP 4 rfl rfl 4 (by decide) w_4 (fun _ h9 => h9) rfl dX0_planEnds_126 ?_
                    refine sv_isub (v := 0) hx hb dX0_planEnds_129 (by decide) ?_
                    refine lv_istore_n (lv' := [(2, .int 0), (0, .ref h0), (1, .int 0), (3, .int 2), (4, .int i_65)]) hx hb dX0_planEnds_130 rfl hl (by decide) rfl (fun ls hl => ?_)
                    refine lv_iinc (v := 3) (lv' := [(3, .int 3), (2, .int 0), (0, .ref h0), (1, .int 0), (4, .int i_65)]) hx hb dX0_planEnds_131 hl (k := 3) rfl (by decide) (by decide) rfl (fun ls hl => ?_)
                    refine lv_goto (tgt := 45) hx hb dX0_planEnds_134 (by decide) ?_
                    refine lv_iload_n hx hb dX0_planEnds_45 rfl (lv_at hl 0 rfl) ?_
                    refine lv_bipush (v := 6) hx hb dX0_planEnds_46 (by decide) ?_
                    refine lv_icmp_ge (tgt := 137) hx hb dX0_planEnds_48 (by decide) (fun h => absurd h (by decide)) (fun _ => ?_)
                    refine lv_iload_n hx hb dX0_planEnds_51 rfl (lv_at hl 3 rfl) ?_
                    refine lv_aload_n hx hb dX0_planEnds_52 rfl (lv_at hl 2 rfl) ?_
                    refine va_get (D := D) (ci := 0) (v := .ref p0) (C := RX0) (T := TX0) (N := 9) hx hb hts w_1 hown hK hP 4 rfl rfl 0 (by decide) w_2 (fun _ h9 => h9) rfl dX0_planEnds_53 ?_
                    refine lv_iload_n hx hb dX0_planEnds_56 rfl (lv_at hl 0 rfl) ?_
                    refine sv_iald (v := 0) hx hb hK hP 5 1 rfl rfl (vp_in_iff.mpr (by decide)) rfl dX0_planEnds_57 ?_
                    refine sv_iadd (v := 0) hx hb dX0_planEnds_58 (by decide) ?_
                    refine lv_istore_n (lv' := [(1, .int 0), (3, .int 3), (2, .int 0), (0, .ref h0), (4, .int i_65)]) hx hb dX0_planEnds_59 rfl hl (by decide) rfl (fun ls hl => ?_)
                    refine lv_iconst (v := 1) hx hb dX0_planEnds_60 (by decide) ?_
                    refine lv_iload_n hx hb dX0_planEnds_61 rfl (lv_at hl 1 rfl) ?_
                    refine sv_ishl (v := 8) hx hb dX0_planEnds_62 (by decide) ?_
                    refine lv_istore (lv' := [(4, .int 8), (1, .int 0), (3, .int 3), (2, .int 0), (0, .ref h0)]) hx hb dX0_planEnds_63 hl (by decide) rfl (fun ls hl => ?_)
                    have L_9 : ∀ (n : Nat) (i_65 : Int32) (H : Heap) (locs : List Loc) (ls : Array Slot), (Int32.toInt 16 - i_65.toInt).toNat < n → 0 ≤ i_65.toInt → va_P D vwCl [(p1, .inl (cI, 6, .inl (fun _ => 0))), (p2, .inl (cI, 8, .inl (fun _ => 0))), (p6, .inl (cI, 8, .inl (fun _ => 0))), (p7, .inl (cI, 8, .inl (fun _ => 0))), (h0, .inr (0, [.ref p0, .ref p1, .ref p2, .int 0, .int 0, .int 0, .ref p6, .ref p7, .ref p8])), (p0, .inl (cI, 6, .inl (fun _ => 0))), (p8, .inl (cI, 64, .inl (fun _ => 0)))] H → va_D A [(p1, .inl (cI, 6, .inl (fun _ => 0))), (p2, .inl (cI, 8, .inl (fun _ => 0))), (p6, .inl (cI, 8, .inl (fun _ => 0))), (p7, .inl (cI, 8, .inl (fun _ => 0))), (h0, .inr (0, [.ref p0, .ref p1, .ref p2, .int 0, .int 0, .int 0, .ref p6, .ref p7, .ref p8])), (p0, .inl (cI, 6, .inl (fun _ => 0))), (p8, .inl (cI, 64, .inl (fun _ => 0)))] → va_S A s.heap H locs → lv_has ls 5 [(0, .ref h0), (1, .int 0), (2, .int 0), (3, .int 3), (4, .int i_65)] → W p l e (headSpec wsX0_planEnds ({ frames := 1, cells := 0, slots := 0, locals := 23 } : Room)).room s m ([.ref h0] : List Value).toArray below meth c H locs 0 0 Q0 (F0 m 65 ls []) := by
                      intro n
                      induction n with
                      | zero => intro i_65  H locs ls hn_65 hlo_65 hP hD hS hl; exact absurd hn_65 (Nat.not_lt_zero _)
                      | succ n ih_L_9 =>
                        intro i_65  H locs ls hn_65 hlo_65 hP hD hS hl
                        refine lv_iload hx hb dX0_planEnds_65 (lv_at hl 4 rfl) ?_
                        refine lv_iconst (v := 2) hx hb dX0_planEnds_67 (by decide) ?_
                        refine lv_iload_n hx hb dX0_planEnds_68 rfl (lv_at hl 3 rfl) ?_
                        refine sv_ishl (v := 16) hx hb dX0_planEnds_69 (by decide) ?_
                        refine lv_icmp_ge (tgt := 110) hx hb dX0_planEnds_70 (by decide) (fun c_70 => ?_) (fun c_70 => ?_)
                        ·
                          refine lv_aload_n hx hb dX0_planEnds_110 rfl (lv_at hl 0 rfl) ?_
                          refine va_get (D := D) (ci := 0) (v := .ref p1) (C := RX0) (T := TX0) (N := 9) hx hb hts w_1 hown hK hP 4 rfl rfl 1 (by decide) w_6 (fun _ h9 => h9) rfl dX0_planEnds_111 ?_
                          refine lv_iload_n hx hb dX0_planEnds_114 rfl (lv_at hl 3 rfl) ?_
                          refine lv_iload_n hx hb dX0_planEnds_115 rfl (lv_at hl 1 rfl) ?_
                          refine lv_aload_n hx hb dX0_planEnds_116 rfl (lv_at hl 0 rfl) ?_
                          refine va_get (D := D) (ci := 0) (v := .int 0) (C := RX0) (T := TX0) (N := 9) hx hb hts w_1 hown hK hP 4 rfl rfl 4 (by decide) w_4 (fun _ h9 => h9) rfl dX0_planEnds_117 ?_
                          refine sv_isub (v := 0) hx hb dX0_planEnds_120 (by decide) ?_
                          refine lv_iload_n hx hb dX0_planEnds_121 rfl (lv_at hl 2 rfl) ?_
                          refine sv_isub (v := 0) hx hb dX0_planEnds_122 (by decide) ?_
                          refine sv_iast hx hb hK hP hD hS 0 1 rfl rfl (vp_in_iff.mpr (by decide)) dX0_planEnds_123 (fun g_10 H locs eg_10 hP hD hS => ?_)
                          have eg_10 : g_10 = (fun _ => 0) := by rw [eg_10]; exact upd_zero _
                          subst eg_10
                          have hP : va_P D vwCl [(p1, .inl (cI, 6, .inl (fun _ => 0))), (p2, .inl (cI, 8, .inl (fun _ => 0))), (p6, .inl (cI, 8, .inl (fun _ => 0))), (p7, .inl (cI, 8, .inl (fun _ => 0))), (h0, .inr (0, [.ref p0, .ref p1, .ref p2, .int 0, .int 0, .int 0, .ref p6, .ref p7, .ref p8])), (p0, .inl (cI, 6, .inl (fun _ => 0))), (p8, .inl (cI, 64, .inl (fun _ => 0)))] H := hP
                          have hD : va_D A [(p1, .inl (cI, 6, .inl (fun _ => 0))), (p2, .inl (cI, 8, .inl (fun _ => 0))), (p6, .inl (cI, 8, .inl (fun _ => 0))), (p7, .inl (cI, 8, .inl (fun _ => 0))), (h0, .inr (0, [.ref p0, .ref p1, .ref p2, .int 0, .int 0, .int 0, .ref p6, .ref p7, .ref p8])), (p0, .inl (cI, 6, .inl (fun _ => 0))), (p8, .inl (cI, 64, .inl (fun _ => 0)))] := hD
                          refine lv_iload_n hx hb dX0_planEnds_124 rfl (lv_at hl 1 rfl) ?_
                          refine lv_aload_n hx hb dX0_planEnds_125 rfl (lv_at hl 0 rfl) ?_
                          refine va_get (D := D) (ci := 0) (v := .int 0) (C := RX0) (T := TX0) (N := 9) hx hb hts w_1 hown hK hP 4 rfl rfl 4 (by decide) w_4 (fun _ h9 => h9) rfl dX0_planEnds_126 ?_
                          refine sv_isub (v := 0) hx hb dX0_planEnds_129 (by decide) ?_
                          refine lv_istore_n (lv' := [(2, .int 0), (0, .ref h0), (1, .int 0), (3, .int 3), (4, .int i_65)]) hx hb dX0_planEnds_130 rfl hl (by decide) rfl (fun ls hl => ?_)
                          refine lv_iinc (v := 4) (lv' := [(3, .int 4), (2, .int 0), (0, .ref h0), (1, .int 0), (4, .int i_65)]) hx hb dX0_planEnds_131 hl (k := 3) rfl (by decide) (by decide) rfl (fun ls hl => ?_)
                          refine lv_goto (tgt := 45) hx hb dX0_planEnds_134 (by decide) ?_
                          refine lv_iload_n hx hb dX0_planEnds_45 rfl (lv_at hl 0 rfl) ?_
                          refine lv_bipush (v := 6) hx hb dX0_planEnds_46 (by decide) ?_
                          refine lv_icmp_ge (tgt := 137) hx hb dX0_planEnds_48 (by decide) (fun h => absurd h (by decide)) (fun _ => ?_)
                          refine lv_iload_n hx hb dX0_planEnds_51 rfl (lv_at hl 3 rfl) ?_
                          refine lv_aload_n hx hb dX0_planEnds_52 rfl (lv_at hl 2 rfl) ?_
                          refine va_get (D := D) (ci := 0) (v := .ref p0) (C := RX0) (T := TX0) (N := 9) hx hb hts w_1 hown hK hP 4 rfl rfl 0 (by decide) w_2 (fun _ h9 => h9) rfl dX0_planEnds_53 ?_
                          refine lv_iload_n hx hb dX0_planEnds_56 rfl (lv_at hl 0 rfl) ?_
                          refine sv_iald (v := 0) hx hb hK hP 5 1 rfl rfl (vp_in_iff.mpr (by decide)) rfl dX0_planEnds_57 ?_
                          refine sv_iadd (v := 0) hx hb dX0_planEnds_58 (by decide) ?_
                          refine lv_istore_n (lv' := [(1, .int 0), (3, .int 4), (2, .int 0), (0, .ref h0), (4, .int i_65)]) hx hb dX0_planEnds_59 rfl hl (by decide) rfl (fun ls hl => ?_)
                          refine lv_iconst (v := 1) hx hb dX0_planEnds_60 (by decide) ?_
                          refine lv_iload_n hx hb dX0_planEnds_61 rfl (lv_at hl 1 rfl) ?_
                          refine sv_ishl (v := 16) hx hb dX0_planEnds_62 (by decide) ?_
                          refine lv_istore (lv' := [(4, .int 16), (1, .int 0), (3, .int 4), (2, .int 0), (0, .ref h0)]) hx hb dX0_planEnds_63 hl (by decide) rfl (fun ls hl => ?_)
                          have L_11 : ∀ (n : Nat) (i_65 : Int32) (H : Heap) (locs : List Loc) (ls : Array Slot), (Int32.toInt 32 - i_65.toInt).toNat < n → 0 ≤ i_65.toInt → va_P D vwCl [(p1, .inl (cI, 6, .inl (fun _ => 0))), (p2, .inl (cI, 8, .inl (fun _ => 0))), (p6, .inl (cI, 8, .inl (fun _ => 0))), (p7, .inl (cI, 8, .inl (fun _ => 0))), (h0, .inr (0, [.ref p0, .ref p1, .ref p2, .int 0, .int 0, .int 0, .ref p6, .ref p7, .ref p8])), (p0, .inl (cI, 6, .inl (fun _ => 0))), (p8, .inl (cI, 64, .inl (fun _ => 0)))] H → va_D A [(p1, .inl (cI, 6, .inl (fun _ => 0))), (p2, .inl (cI, 8, .inl (fun _ => 0))), (p6, .inl (cI, 8, .inl (fun _ => 0))), (p7, .inl (cI, 8, .inl (fun _ => 0))), (h0, .inr (0, [.ref p0, .ref p1, .ref p2, .int 0, .int 0, .int 0, .ref p6, .ref p7, .ref p8])), (p0, .inl (cI, 6, .inl (fun _ => 0))), (p8, .inl (cI, 64, .inl (fun _ => 0)))] → va_S A s.heap H locs → lv_has ls 5 [(0, .ref h0), (1, .int 0), (2, .int 0), (3, .int 4), (4, .int i_65)] → W p l e (headSpec wsX0_planEnds ({ frames := 1, cells := 0, slots := 0, locals := 23 } : Room)).room s m ([.ref h0] : List Value).toArray below meth c H locs 0 0 Q0 (F0 m 65 ls []) := by
                            intro n
                            induction n with
                            | zero => intro i_65  H locs ls hn_65 hlo_65 hP hD hS hl; exact absurd hn_65 (Nat.not_lt_zero _)
                            | succ n ih_L_11 =>
                              intro i_65  H locs ls hn_65 hlo_65 hP hD hS hl
                              refine lv_iload hx hb dX0_planEnds_65 (lv_at hl 4 rfl) ?_
                              refine lv_iconst (v := 2) hx hb dX0_planEnds_67 (by decide) ?_
                              refine lv_iload_n hx hb dX0_planEnds_68 rfl (lv_at hl 3 rfl) ?_
                              refine sv_ishl (v := 32) hx hb dX0_planEnds_69 (by decide) ?_
                              refine lv_icmp_ge (tgt := 110) hx hb dX0_planEnds_70 (by decide) (fun c_70 => ?_) (fun c_70 => ?_)
                              ·
                                refine lv_aload_n hx hb dX0_planEnds_110 rfl (lv_at hl 0 rfl) ?_
                                refine va_get (D := D) (ci := 0) (v := .ref p1) (C := RX0) (T := TX0) (N := 9) hx hb hts w_1 hown hK hP 4 rfl rfl 1 (by decide) w_6 (fun _ h9 => h9) rfl dX0_planEnds_111 ?_
                                refine lv_iload_n hx hb dX0_planEnds_114 rfl (lv_at hl 3 rfl) ?_
                                refine lv_iload_n hx hb dX0_planEnds_115 rfl (lv_at hl 1 rfl) ?_
                                refine lv_aload_n hx hb dX0_planEnds_116 rfl (lv_at hl 0 rfl) ?_
                                refine va_get (D := D) (ci := 0) (v := .int 0) (C := RX0) (T := TX0) (N := 9) hx hb hts w_1 hown hK hP 4 rfl rfl 4 (by decide) w_4 (fun _ h9 => h9) rfl dX0_planEnds_117 ?_
                                refine sv_isub (v := 0) hx hb dX0_planEnds_120 (by decide) ?_
                                refine lv_iload_n hx hb dX0_planEnds_121 rfl (lv_at hl 2 rfl) ?_
                                refine sv_isub (v := 0) hx hb dX0_planEnds_122 (by decide) ?_
                                refine sv_iast hx hb hK hP hD hS 0 1 rfl rfl (vp_in_iff.mpr (by decide)) dX0_planEnds_123 (fun g_12 H locs eg_12 hP hD hS => ?_)
                                have eg_12 : g_12 = (fun _ => 0) := by rw [eg_12]; exact upd_zero _
                                subst eg_12
                                have hP : va_P D vwCl [(p1, .inl (cI, 6, .inl (fun _ => 0))), (p2, .inl (cI, 8, .inl (fun _ => 0))), (p6, .inl (cI, 8, .inl (fun _ => 0))), (p7, .inl (cI, 8, .inl (fun _ => 0))), (h0, .inr (0, [.ref p0, .ref p1, .ref p2, .int 0, .int 0, .int 0, .ref p6, .ref p7, .ref p8])), (p0, .inl (cI, 6, .inl (fun _ => 0))), (p8, .inl (cI, 64, .inl (fun _ => 0)))] H := hP
                                have hD : va_D A [(p1, .inl (cI, 6, .inl (fun _ => 0))), (p2, .inl (cI, 8, .inl (fun _ => 0))), (p6, .inl (cI, 8, .inl (fun _ => 0))), (p7, .inl (cI, 8, .inl (fun _ => 0))), (h0, .inr (0, [.ref p0, .ref p1, .ref p2, .int 0, .int 0, .int 0, .ref p6, .ref p7, .ref p8])), (p0, .inl (cI, 6, .inl (fun _ => 0))), (p8, .inl (cI, 64, .inl (fun _ => 0)))] := hD
                                refine lv_iload_n hx hb dX0_planEnds_124 rfl (lv_at hl 1 rfl) ?_
                                refine lv_aload_n hx hb dX0_planEnds_125 rfl (lv_at hl 0 rfl) ?_
                                refine va_get (D := D) (ci := 0) (v := .int 0) (C := RX0) (T := TX0) (N := 9) hx hb hts w_1 hown hK hP 4 rfl rfl 4 (by decide) w_4 (fun _ h9 => h9) rfl dX0_planEnds_126 ?_
                                refine sv_isub (v := 0) hx hb dX0_planEnds_129 (by decide) ?_
                                refine lv_istore_n (lv' := [(2, .int 0), (0, .ref h0), (1, .int 0), (3, .int 4), (4, .int i_65)]) hx hb dX0_planEnds_130 rfl hl (by decide) rfl (fun ls hl => ?_)
                                refine lv_iinc (v := 5) (lv' := [(3, .int 5), (2, .int 0), (0, .ref h0), (1, .int 0), (4, .int i_65)]) hx hb dX0_planEnds_131 hl (k := 3) rfl (by decide) (by decide) rfl (fun ls hl => ?_)
                                refine lv_goto (tgt := 45) hx hb dX0_planEnds_134 (by decide) ?_
                                refine lv_iload_n hx hb dX0_planEnds_45 rfl (lv_at hl 0 rfl) ?_
                                refine lv_bipush (v := 6) hx hb dX0_planEnds_46 (by decide) ?_
                                refine lv_icmp_ge (tgt := 137) hx hb dX0_planEnds_48 (by decide) (fun h => absurd h (by decide)) (fun _ => ?_)
                                refine lv_iload_n hx hb dX0_planEnds_51 rfl (lv_at hl 3 rfl) ?_
                                refine lv_aload_n hx hb dX0_planEnds_52 rfl (lv_at hl 2 rfl) ?_
                                refine va_get (D := D) (ci := 0) (v := .ref p0) (C := RX0) (T := TX0) (N := 9) hx hb hts w_1 hown hK hP 4 rfl rfl 0 (by decide) w_2 (fun _ h9 => h9) rfl dX0_planEnds_53 ?_
                                refine lv_iload_n hx hb dX0_planEnds_56 rfl (lv_at hl 0 rfl) ?_
                                refine sv_iald (v := 0) hx hb hK hP 5 1 rfl rfl (vp_in_iff.mpr (by decide)) rfl dX0_planEnds_57 ?_
                                refine sv_iadd (v := 0) hx hb dX0_planEnds_58 (by decide) ?_
                                refine lv_istore_n (lv' := [(1, .int 0), (3, .int 5), (2, .int 0), (0, .ref h0), (4, .int i_65)]) hx hb dX0_planEnds_59 rfl hl (by decide) rfl (fun ls hl => ?_)
                                refine lv_iconst (v := 1) hx hb dX0_planEnds_60 (by decide) ?_
                                refine lv_iload_n hx hb dX0_planEnds_61 rfl (lv_at hl 1 rfl) ?_
                                refine sv_ishl (v := 32) hx hb dX0_planEnds_62 (by decide) ?_
                                refine lv_istore (lv' := [(4, .int 32), (1, .int 0), (3, .int 5), (2, .int 0), (0, .ref h0)]) hx hb dX0_planEnds_63 hl (by decide) rfl (fun ls hl => ?_)
                                have L_13 : ∀ (n : Nat) (i_65 : Int32) (H : Heap) (locs : List Loc) (ls : Array Slot), (Int32.toInt 64 - i_65.toInt).toNat < n → 0 ≤ i_65.toInt → va_P D vwCl [(p1, .inl (cI, 6, .inl (fun _ => 0))), (p2, .inl (cI, 8, .inl (fun _ => 0))), (p6, .inl (cI, 8, .inl (fun _ => 0))), (p7, .inl (cI, 8, .inl (fun _ => 0))), (h0, .inr (0, [.ref p0, .ref p1, .ref p2, .int 0, .int 0, .int 0, .ref p6, .ref p7, .ref p8])), (p0, .inl (cI, 6, .inl (fun _ => 0))), (p8, .inl (cI, 64, .inl (fun _ => 0)))] H → va_D A [(p1, .inl (cI, 6, .inl (fun _ => 0))), (p2, .inl (cI, 8, .inl (fun _ => 0))), (p6, .inl (cI, 8, .inl (fun _ => 0))), (p7, .inl (cI, 8, .inl (fun _ => 0))), (h0, .inr (0, [.ref p0, .ref p1, .ref p2, .int 0, .int 0, .int 0, .ref p6, .ref p7, .ref p8])), (p0, .inl (cI, 6, .inl (fun _ => 0))), (p8, .inl (cI, 64, .inl (fun _ => 0)))] → va_S A s.heap H locs → lv_has ls 5 [(0, .ref h0), (1, .int 0), (2, .int 0), (3, .int 5), (4, .int i_65)] → W p l e (headSpec wsX0_planEnds ({ frames := 1, cells := 0, slots := 0, locals := 23 } : Room)).room s m ([.ref h0] : List Value).toArray below meth c H locs 0 0 Q0 (F0 m 65 ls []) := by
                                  intro n
                                  induction n with
                                  | zero => intro i_65  H locs ls hn_65 hlo_65 hP hD hS hl; exact absurd hn_65 (Nat.not_lt_zero _)
                                  | succ n ih_L_13 =>
                                    intro i_65  H locs ls hn_65 hlo_65 hP hD hS hl
                                    refine lv_iload hx hb dX0_planEnds_65 (lv_at hl 4 rfl) ?_
                                    refine lv_iconst (v := 2) hx hb dX0_planEnds_67 (by decide) ?_
                                    refine lv_iload_n hx hb dX0_planEnds_68 rfl (lv_at hl 3 rfl) ?_
                                    refine sv_ishl (v := 64) hx hb dX0_planEnds_69 (by decide) ?_
                                    refine lv_icmp_ge (tgt := 110) hx hb dX0_planEnds_70 (by decide) (fun c_70 => ?_) (fun c_70 => ?_)
                                    ·
                                      refine lv_aload_n hx hb dX0_planEnds_110 rfl (lv_at hl 0 rfl) ?_
                                      refine va_get (D := D) (ci := 0) (v := .ref p1) (C := RX0) (T := TX0) (N := 9) hx hb hts w_1 hown hK hP 4 rfl rfl 1 (by decide) w_6 (fun _ h9 => h9) rfl dX0_planEnds_111 ?_
                                      refine lv_iload_n hx hb dX0_planEnds_114 rfl (lv_at hl 3 rfl) ?_
                                      refine lv_iload_n hx hb dX0_planEnds_115 rfl (lv_at hl 1 rfl) ?_
                                      refine lv_aload_n hx hb dX0_planEnds_116 rfl (lv_at hl 0 rfl) ?_
                                      refine va_get (D := D) (ci := 0) (v := .int 0) (C := RX0) (T := TX0) (N := 9) hx hb hts w_1 hown hK hP 4 rfl rfl 4 (by decide) w_4 (fun _ h9 => h9) rfl dX0_planEnds_117 ?_
                                      refine sv_isub (v := 0) hx hb dX0_planEnds_120 (by decide) ?_
                                      refine lv_iload_n hx hb dX0_planEnds_121 rfl (lv_at hl 2 rfl) ?_
                                      refine sv_isub (v := 0) hx hb dX0_planEnds_122 (by decide) ?_
                                      refine sv_iast hx hb hK hP hD hS 0 1 rfl rfl (vp_in_iff.mpr (by decide)) dX0_planEnds_123 (fun g_14 H locs eg_14 hP hD hS => ?_)
                                      have eg_14 : g_14 = (fun _ => 0) := by rw [eg_14]; exact upd_zero _
                                      subst eg_14
                                      have hP : va_P D vwCl [(p1, .inl (cI, 6, .inl (fun _ => 0))), (p2, .inl (cI, 8, .inl (fun _ => 0))), (p6, .inl (cI, 8, .inl (fun _ => 0))), (p7, .inl (cI, 8, .inl (fun _ => 0))), (h0, .inr (0, [.ref p0, .ref p1, .ref p2, .int 0, .int 0, .int 0, .ref p6, .ref p7, .ref p8])), (p0, .inl (cI, 6, .inl (fun _ => 0))), (p8, .inl (cI, 64, .inl (fun _ => 0)))] H := hP
                                      have hD : va_D A [(p1, .inl (cI, 6, .inl (fun _ => 0))), (p2, .inl (cI, 8, .inl (fun _ => 0))), (p6, .inl (cI, 8, .inl (fun _ => 0))), (p7, .inl (cI, 8, .inl (fun _ => 0))), (h0, .inr (0, [.ref p0, .ref p1, .ref p2, .int 0, .int 0, .int 0, .ref p6, .ref p7, .ref p8])), (p0, .inl (cI, 6, .inl (fun _ => 0))), (p8, .inl (cI, 64, .inl (fun _ => 0)))] := hD
                                      refine lv_iload_n hx hb dX0_planEnds_124 rfl (lv_at hl 1 rfl) ?_
                                      refine lv_aload_n hx hb dX0_planEnds_125 rfl (lv_at hl 0 rfl) ?_
                                      refine va_get (D := D) (ci := 0) (v := .int 0) (C := RX0) (T := TX0) (N := 9) hx hb hts w_1 hown hK hP 4 rfl rfl 4 (by decide) w_4 (fun _ h9 => h9) rfl dX0_planEnds_126 ?_
                                      refine sv_isub (v := 0) hx hb dX0_planEnds_129 (by decide) ?_
                                      refine lv_istore_n (lv' := [(2, .int 0), (0, .ref h0), (1, .int 0), (3, .int 5), (4, .int i_65)]) hx hb dX0_planEnds_130 rfl hl (by decide) rfl (fun ls hl => ?_)
                                      refine lv_iinc (v := 6) (lv' := [(3, .int 6), (2, .int 0), (0, .ref h0), (1, .int 0), (4, .int i_65)]) hx hb dX0_planEnds_131 hl (k := 3) rfl (by decide) (by decide) rfl (fun ls hl => ?_)
                                      refine lv_goto (tgt := 45) hx hb dX0_planEnds_134 (by decide) ?_
                                      refine lv_iload_n hx hb dX0_planEnds_45 rfl (lv_at hl 0 rfl) ?_
                                      refine lv_bipush (v := 6) hx hb dX0_planEnds_46 (by decide) ?_
                                      refine lv_icmp_ge (tgt := 137) hx hb dX0_planEnds_48 (by decide) (fun _ => ?_) (fun h => absurd (by decide) h)
                                      rw [← hQ]
                                      have hP9 := hP.sub (ws' := [(h0, .inr (0, [.ref p0, .ref p1, .ref p2, .int 0, .int 0, .int 0, .ref p6, .ref p7, .ref p8])), (p0, .inl (cI, 6, .inl (fun _ => 0))), (p1, .inl (cI, 6, .inl (fun _ => 0))), (p2, .inl (cI, 8, .inl (fun _ => 0))), (p6, .inl (cI, 8, .inl (fun _ => 0))), (p7, .inl (cI, 8, .inl (fun _ => 0))), (p8, .inl (cI, 64, .inl (fun _ => 0)))]) [4, 5, 0, 1, 2, 3, 6] rfl
                                      have hD9 := hD.sub (ws' := [(h0, .inr (0, [.ref p0, .ref p1, .ref p2, .int 0, .int 0, .int 0, .ref p6, .ref p7, .ref p8])), (p0, .inl (cI, 6, .inl (fun _ => 0))), (p1, .inl (cI, 6, .inl (fun _ => 0))), (p2, .inl (cI, 8, .inl (fun _ => 0))), (p6, .inl (cI, 8, .inl (fun _ => 0))), (p7, .inl (cI, 8, .inl (fun _ => 0))), (p8, .inl (cI, 64, .inl (fun _ => 0)))]) [4, 5, 0, 1, 2, 3, 6] (by decide) rfl
                                      exact W.vret hx hb hr (fun t ht hW => ⟨⟨(), rfl, trivial, by rw [ht]; exact hP9, va_K.moved hW.alike hK, hD9⟩, hS.F ht⟩) hS.2.2 dX0_planEnds_137
                                    ·
                                      refine lv_aload_n hx hb dX0_planEnds_73 rfl (lv_at hl 0 rfl) ?_
                                      refine va_get (D := D) (ci := 0) (v := .ref p8) (C := RX0) (T := TX0) (N := 9) hx hb hts w_1 hown hK hP 4 rfl rfl 8 (by decide) w_7 (fun _ h9 => h9) rfl dX0_planEnds_74 ?_
                                      refine lv_iload hx hb dX0_planEnds_77 (lv_at hl 4 rfl) ?_
                                      refine sv_iald (v := 0) hx hb hK hP 6 1 rfl rfl (lp_in hlo_65 c_70 (by decide)) rfl dX0_planEnds_79 ?_
                                      refine lv_aload_n hx hb dX0_planEnds_80 rfl (lv_at hl 0 rfl) ?_
                                      refine va_get (D := D) (ci := 0) (v := .int 0) (C := RX0) (T := TX0) (N := 9) hx hb hts w_1 hown hK hP 4 rfl rfl 4 (by decide) w_4 (fun _ h9 => h9) rfl dX0_planEnds_81 ?_
                                      refine lv_icmp_le (tgt := 104) hx hb dX0_planEnds_84 (by decide) (fun _ => ?_) (fun h => absurd (by decide) h)
                                      refine lv_iinc (v := i_65 + 1) (lv' := [(4, .int (i_65 + 1)), (0, .ref h0), (1, .int 0), (2, .int 0), (3, .int 5)]) hx hb dX0_planEnds_104 hl (k := 4) rfl rfl (by decide) rfl (fun ls hl => ?_)
                                      refine lv_goto (tgt := 65) hx hb dX0_planEnds_107 (by decide) ?_
                                      exact ih_L_13 (i_65 + 1)  _ _ ls (lp_dec hn_65 c_70) (by have h9 := lp_inc c_70; omega) hP hD hS (lv_sub hl [1, 2, 3, 4, 0] rfl)
                                exact L_13 _ 32  _ _ ls (Nat.lt_succ_self _) (by decide) hP hD hS (lv_sub hl [4, 1, 3, 2, 0] rfl)
                              ·
                                refine lv_aload_n hx hb dX0_planEnds_73 rfl (lv_at hl 0 rfl) ?_
                                refine va_get (D := D) (ci := 0) (v := .ref p8) (C := RX0) (T := TX0) (N := 9) hx hb hts w_1 hown hK hP 4 rfl rfl 8 (by decide) w_7 (fun _ h9 => h9) rfl dX0_planEnds_74 ?_
                                refine lv_iload hx hb dX0_planEnds_77 (lv_at hl 4 rfl) ?_
                                refine sv_iald (v := 0) hx hb hK hP 6 1 rfl rfl (lp_in hlo_65 c_70 (by decide)) rfl dX0_planEnds_79 ?_
                                refine lv_aload_n hx hb dX0_planEnds_80 rfl (lv_at hl 0 rfl) ?_
                                refine va_get (D := D) (ci := 0) (v := .int 0) (C := RX0) (T := TX0) (N := 9) hx hb hts w_1 hown hK hP 4 rfl rfl 4 (by decide) w_4 (fun _ h9 => h9) rfl dX0_planEnds_81 ?_
                                refine lv_icmp_le (tgt := 104) hx hb dX0_planEnds_84 (by decide) (fun _ => ?_) (fun h => absurd (by decide) h)
                                refine lv_iinc (v := i_65 + 1) (lv' := [(4, .int (i_65 + 1)), (0, .ref h0), (1, .int 0), (2, .int 0), (3, .int 4)]) hx hb dX0_planEnds_104 hl (k := 4) rfl rfl (by decide) rfl (fun ls hl => ?_)
                                refine lv_goto (tgt := 65) hx hb dX0_planEnds_107 (by decide) ?_
                                exact ih_L_11 (i_65 + 1)  _ _ ls (lp_dec hn_65 c_70) (by have h9 := lp_inc c_70; omega) hP hD hS (lv_sub hl [1, 2, 3, 4, 0] rfl)
                          exact L_11 _ 16  _ _ ls (Nat.lt_succ_self _) (by decide) hP hD hS (lv_sub hl [4, 1, 3, 2, 0] rfl)
                        ·
                          refine lv_aload_n hx hb dX0_planEnds_73 rfl (lv_at hl 0 rfl) ?_
                          refine va_get (D := D) (ci := 0) (v := .ref p8) (C := RX0) (T := TX0) (N := 9) hx hb hts w_1 hown hK hP 4 rfl rfl 8 (by decide) w_7 (fun _ h9 => h9) rfl dX0_planEnds_74 ?_
                          refine lv_iload hx hb dX0_planEnds_77 (lv_at hl 4 rfl) ?_
                          refine sv_iald (v := 0) hx hb hK hP 6 1 rfl rfl (lp_in hlo_65 c_70 (by decide)) rfl dX0_planEnds_79 ?_
                          refine lv_aload_n hx hb dX0_planEnds_80 rfl (lv_at hl 0 rfl) ?_
                          refine va_get (D := D) (ci := 0) (v := .int 0) (C := RX0) (T := TX0) (N := 9) hx hb hts w_1 hown hK hP 4 rfl rfl 4 (by decide) w_4 (fun _ h9 => h9) rfl dX0_planEnds_81 ?_
                          refine lv_icmp_le (tgt := 104) hx hb dX0_planEnds_84 (by decide) (fun _ => ?_) (fun h => absurd (by decide) h)
                          refine lv_iinc (v := i_65 + 1) (lv' := [(4, .int (i_65 + 1)), (0, .ref h0), (1, .int 0), (2, .int 0), (3, .int 3)]) hx hb dX0_planEnds_104 hl (k := 4) rfl rfl (by decide) rfl (fun ls hl => ?_)
                          refine lv_goto (tgt := 65) hx hb dX0_planEnds_107 (by decide) ?_
                          exact ih_L_9 (i_65 + 1)  _ _ ls (lp_dec hn_65 c_70) (by have h9 := lp_inc c_70; omega) hP hD hS (lv_sub hl [1, 2, 3, 4, 0] rfl)
                    exact L_9 _ 8  _ _ ls (Nat.lt_succ_self _) (by decide) hP hD hS (lv_sub hl [4, 1, 3, 2, 0] rfl)
                  ·
                    refine lv_aload_n hx hb dX0_planEnds_73 rfl (lv_at hl 0 rfl) ?_
                    refine va_get (D := D) (ci := 0) (v := .ref p8) (C := RX0) (T := TX0) (N := 9) hx hb hts w_1 hown hK hP 4 rfl rfl 8 (by decide) w_7 (fun _ h9 => h9) rfl dX0_planEnds_74 ?_
                    refine lv_iload hx hb dX0_planEnds_77 (lv_at hl 4 rfl) ?_
                    refine sv_iald (v := 0) hx hb hK hP 6 1 rfl rfl (lp_in hlo_65 c_70 (by decide)) rfl dX0_planEnds_79 ?_
                    refine lv_aload_n hx hb dX0_planEnds_80 rfl (lv_at hl 0 rfl) ?_
                    refine va_get (D := D) (ci := 0) (v := .int 0) (C := RX0) (T := TX0) (N := 9) hx hb hts w_1 hown hK hP 4 rfl rfl 4 (by decide) w_4 (fun _ h9 => h9) rfl dX0_planEnds_81 ?_
                    refine lv_icmp_le (tgt := 104) hx hb dX0_planEnds_84 (by decide) (fun _ => ?_) (fun h => absurd (by decide) h)
                    refine lv_iinc (v := i_65 + 1) (lv' := [(4, .int (i_65 + 1)), (0, .ref h0), (1, .int 0), (2, .int 0), (3, .int 2)]) hx hb dX0_planEnds_104 hl (k := 4) rfl rfl (by decide) rfl (fun ls hl => ?_)
                    refine lv_goto (tgt := 65) hx hb dX0_planEnds_107 (by decide) ?_
                    exact ih_L_7 (i_65 + 1)  _ _ ls (lp_dec hn_65 c_70) (by have h9 := lp_inc c_70; omega) hP hD hS (lv_sub hl [1, 2, 3, 4, 0] rfl)
              exact L_7 _ 4  _ _ ls (Nat.lt_succ_self _) (by decide) hP hD hS (lv_sub hl [4, 1, 3, 2, 0] rfl)
            ·
              refine lv_aload_n hx hb dX0_planEnds_73 rfl (lv_at hl 0 rfl) ?_
              refine va_get (D := D) (ci := 0) (v := .ref p8) (C := RX0) (T := TX0) (N := 9) hx hb hts w_1 hown hK hP 4 rfl rfl 8 (by decide) w_7 (fun _ h9 => h9) rfl dX0_planEnds_74 ?_
              refine lv_iload hx hb dX0_planEnds_77 (lv_at hl 4 rfl) ?_
              refine sv_iald (v := 0) hx hb hK hP 6 1 rfl rfl (lp_in hlo_65 c_70 (by decide)) rfl dX0_planEnds_79 ?_
              refine lv_aload_n hx hb dX0_planEnds_80 rfl (lv_at hl 0 rfl) ?_
              refine va_get (D := D) (ci := 0) (v := .int 0) (C := RX0) (T := TX0) (N := 9) hx hb hts w_1 hown hK hP 4 rfl rfl 4 (by decide) w_4 (fun _ h9 => h9) rfl dX0_planEnds_81 ?_
              refine lv_icmp_le (tgt := 104) hx hb dX0_planEnds_84 (by decide) (fun _ => ?_) (fun h => absurd (by decide) h)
              refine lv_iinc (v := i_65 + 1) (lv' := [(4, .int (i_65 + 1)), (0, .ref h0), (1, .int 0), (2, .int 0), (3, .int 1)]) hx hb dX0_planEnds_104 hl (k := 4) rfl rfl (by decide) rfl (fun ls hl => ?_)
              refine lv_goto (tgt := 65) hx hb dX0_planEnds_107 (by decide) ?_
              exact ih_L_5 (i_65 + 1)  _ _ ls (lp_dec hn_65 c_70) (by have h9 := lp_inc c_70; omega) hP hD hS (lv_sub hl [1, 2, 3, 4, 0] rfl)
        exact L_5 _ 2  _ _ ls (Nat.lt_succ_self _) (by decide) hP hD hS (lv_sub hl [4, 1, 3, 2, 0] rfl)
      ·
        refine lv_aload_n hx hb dX0_planEnds_73 rfl (lv_at hl 0 rfl) ?_
        refine va_get (D := D) (ci := 0) (v := .ref p8) (C := RX0) (T := TX0) (N := 9) hx hb hts w_1 hown hK hP 4 rfl rfl 8 (by decide) w_7 (fun _ h9 => h9) rfl dX0_planEnds_74 ?_
        refine lv_iload hx hb dX0_planEnds_77 (lv_at hl 4 rfl) ?_
        refine sv_iald (v := 0) hx hb hK hP 6 1 rfl rfl (lp_in hlo_65 c_70 (by decide)) rfl dX0_planEnds_79 ?_
        refine lv_aload_n hx hb dX0_planEnds_80 rfl (lv_at hl 0 rfl) ?_
        refine va_get (D := D) (ci := 0) (v := .int 0) (C := RX0) (T := TX0) (N := 9) hx hb hts w_1 hown hK hP 4 rfl rfl 4 (by decide) w_4 (fun _ h9 => h9) rfl dX0_planEnds_81 ?_
        refine lv_icmp_le (tgt := 104) hx hb dX0_planEnds_84 (by decide) (fun _ => ?_) (fun h => absurd (by decide) h)
        refine lv_iinc (v := i_65 + 1) (lv' := [(4, .int (i_65 + 1)), (0, .ref h0), (1, .int 0), (2, .int 0), (3, .int 0)]) hx hb dX0_planEnds_104 hl (k := 4) rfl rfl (by decide) rfl (fun ls hl => ?_)
        refine lv_goto (tgt := 65) hx hb dX0_planEnds_107 (by decide) ?_
        exact ih_L_3 (i_65 + 1)  _ _ ls (lp_dec hn_65 c_70) (by have h9 := lp_inc c_70; omega) hP hD hS (lv_sub hl [1, 2, 3, 4, 0] rfl)
  exact L_3 _ 1  _ _ ls (Nat.lt_succ_self _) (by decide) hP hD hS (lv_sub hl [4, 1, 3, 2, 0] rfl)

set_option maxHeartbeats 4000000 in
set_option maxRecDepth 100000 in
/-- planLegacies(): all stays 0 -/
theorem k_X0_planLeg (l : Launch) (D : va_G) (cB cI cJ cZ : ClassId) (sz : Nat) (h0 p0 p1 p2 p6 p7 p8 : Nat) : Met l yX0_planLegacies wsX0_planLegacies ({ frames := 1, cells := 0, slots := 0, locals := 23 } : Room) (cPre D (aTy cB cI cJ cZ) [(h0, .inr (0, [.ref p0, .ref p1, .ref p2, .int 0, .int 0, .int 0, .ref p6, .ref p7, .ref p8])), (p0, .inl (cI, 6, .inl (fun _ => 0))), (p1, .inl (cI, 6, .inl (fun _ => 0))), (p2, .inl (cI, 8, .inl (fun _ => 0))), (p6, .inl (cI, 8, .inl (fun _ => 0))), (p7, .inl (cI, 8, .inl (fun _ => 0))), (p8, .inl (cI, 64, .inl (fun _ => 0)))] sz [.ref h0]) (va_Qv (fun (u : Unit) => True) (cB_ D (aTy cB cI cJ cZ) (va_A [(h0, .inr (0, [.ref p0, .ref p1, .ref p2, .int 0, .int 0, .int 0, .ref p6, .ref p7, .ref p8])), (p0, .inl (cI, 6, .inl (fun _ => 0))), (p1, .inl (cI, 6, .inl (fun _ => 0))), (p2, .inl (cI, 8, .inl (fun _ => 0))), (p6, .inl (cI, 8, .inl (fun _ => 0))), (p7, .inl (cI, 8, .inl (fun _ => 0))), (p8, .inl (cI, 64, .inl (fun _ => 0)))] sz) (fun _ => [(h0, .inr (0, [.ref p0, .ref p1, .ref p2, .int 0, .int 0, .int 0, .ref p6, .ref p7, .ref p8])), (p0, .inl (cI, 6, .inl (fun _ => 0))), (p1, .inl (cI, 6, .inl (fun _ => 0))), (p2, .inl (cI, 8, .inl (fun _ => 0))), (p6, .inl (cI, 8, .inl (fun _ => 0))), (p7, .inl (cI, 8, .inl (fun _ => 0))), (p8, .inl (cI, 64, .inl (fun _ => 0)))])) (va_A [(h0, .inr (0, [.ref p0, .ref p1, .ref p2, .int 0, .int 0, .int 0, .ref p6, .ref p7, .ref p8])), (p0, .inl (cI, 6, .inl (fun _ => 0))), (p1, .inl (cI, 6, .inl (fun _ => 0))), (p2, .inl (cI, 8, .inl (fun _ => 0))), (p6, .inl (cI, 8, .inl (fun _ => 0))), (p7, .inl (cI, 8, .inl (fun _ => 0))), (p8, .inl (cI, 64, .inl (fun _ => 0)))] sz)) 0 0 (va_A [(h0, .inr (0, [.ref p0, .ref p1, .ref p2, .int 0, .int 0, .int 0, .ref p6, .ref p7, .ref p8])), (p0, .inl (cI, 6, .inl (fun _ => 0))), (p1, .inl (cI, 6, .inl (fun _ => 0))), (p2, .inl (cI, 8, .inl (fun _ => 0))), (p6, .inl (cI, 8, .inl (fun _ => 0))), (p7, .inl (cI, 8, .inl (fun _ => 0))), (p8, .inl (cI, 64, .inl (fun _ => 0)))] sz) := by
  refine Met.ofW (cc := cX0_planLegacies) (maxL := 5) (ret := none) (by decide) rfl ?_
  intro p e s m args below meth c s₁ B hml hv
  obtain ⟨rfl, hsz, hP, hK, hD0⟩ := hv
  have hx := B.exec
  have hb := B.bytes
  have hr := B.returns
  have hts := atoms_spec (ws := wsX0_planLegacies) B.pre
  have hown : s.vm.findClass RX0 = some m.cls := findClass_of_methodNamed B.named
  have hlocks := B.notSynchronized
  subst hsz
  have hD := hD0.self (sz := s.heap.size)
  generalize hAe : va_A [(h0, .inr (0, [.ref p0, .ref p1, .ref p2, .int 0, .int 0, .int 0, .ref p6, .ref p7, .ref p8])), (p0, .inl (cI, 6, .inl (fun _ => 0))), (p1, .inl (cI, 6, .inl (fun _ => 0))), (p2, .inl (cI, 8, .inl (fun _ => 0))), (p6, .inl (cI, 8, .inl (fun _ => 0))), (p7, .inl (cI, 8, .inl (fun _ => 0))), (p8, .inl (cI, 64, .inl (fun _ => 0)))] s.heap.size = A at hD ⊢
  have hA : ∀ q : Nat, s.heap.size ≤ q → A q := fun q h => by rw [← hAe]; exact Or.inr h
  have hS : va_S A s.heap s.heap [] := va_S.rf
  have hP : va_P D vwCl [(h0, .inr (0, [.ref p0, .ref p1, .ref p2, .int 0, .int 0, .int 0, .ref p6, .ref p7, .ref p8])), (p0, .inl (cI, 6, .inl (fun _ => 0))), (p1, .inl (cI, 6, .inl (fun _ => 0))), (p2, .inl (cI, 8, .inl (fun _ => 0))), (p6, .inl (cI, 8, .inl (fun _ => 0))), (p7, .inl (cI, 8, .inl (fun _ => 0))), (p8, .inl (cI, 64, .inl (fun _ => 0)))] s.heap := hP
  have w_1 : ∀ w ∈ wsX00, w ∈ wsX0_planLegacies := by decide +kernel
  have w_2 := hts (Cond.fieldLink RX0 15 "BlueCoats$Chest" "toEnd" "[I") (by decide +kernel)
  have w_3 := hts (Cond.fieldLink RX0 27 "BlueCoats$Chest" "lack" "[I") (by decide +kernel)
  have w_4 := hts (Cond.fieldLink RX0 30 "BlueCoats$Chest" "number" "I") (by decide +kernel)
  have hl := lv_entry ([.ref h0]) (n := 5) (Nat.le_of_ble_eq_true rfl)
  rw [lg_entry_eq]
  generalize (lg_sl ([.ref h0]) ++ List.replicate (5 - (lg_sl ([.ref h0])).length) Slot.unset).toArray = ls at hl ⊢
  have hl : lv_has ls 5 [(0, .ref h0)] := hl
  refine lv_aload_n hx hb dX0_planLegacies_0 rfl (lv_at hl 0 rfl) ?_
  refine lv_aload_n hx hb dX0_planLegacies_1 rfl (lv_at hl 0 rfl) ?_
  refine va_get (D := D) (ci := 0) (v := .ref p1) (C := RX0) (T := TX0) (N := 9) hx hb hts w_1 hown hK hP 0 rfl rfl 1 (by decide) w_2 (fun _ h9 => h9) rfl dX0_planLegacies_2 ?_
  refine cl_v (wc := [(h0, .inr (0, [.ref p0, .ref p1, .ref p2, .int 0, .int 0, .int 0, .ref p6, .ref p7, .ref p8])), (p1, .inl (cI, 6, .inl (fun _ => 0))), (p8, .inl (cI, 64, .inl (fun _ => 0)))]) (wr := [(p0, .inl (cI, 6, .inl (fun _ => 0))), (p2, .inl (cI, 8, .inl (fun _ => 0))), (p6, .inl (cI, 8, .inl (fun _ => 0))), (p7, .inl (cI, 8, .inl (fun _ => 0)))]) (va_runV (As := [.ref p1]) (rest := []) ⟨hx, hb, hml, hown, hts⟩ (k_X0_setLack l D cB cI cJ cZ s.heap.size h0 p0 p1 p2 p6 p7 p8 p1) (cwV 1 hts gX0_planLegacies_X0_setLack rfl rfl rfl (by decide +kernel) ⟨Nat.le_of_ble_eq_true rfl, Nat.le_of_ble_eq_true rfl⟩) (pre_V (hP.sub (ws' := [(h0, .inr (0, [.ref p0, .ref p1, .ref p2, .int 0, .int 0, .int 0, .ref p6, .ref p7, .ref p8])), (p1, .inl (cI, 6, .inl (fun _ => 0))), (p8, .inl (cI, 64, .inl (fun _ => 0)))]) [0, 2, 6] rfl) hK (hD.sub (ws' := [(h0, .inr (0, [.ref p0, .ref p1, .ref p2, .int 0, .int 0, .int 0, .ref p6, .ref p7, .ref p8])), (p1, .inl (cI, 6, .inl (fun _ => 0))), (p8, .inl (cI, 64, .inl (fun _ => 0)))]) [0, 2, 6] (by decide) rfl) 0 rfl rfl rfl) rfl rfl hl.1 rfl (lv_room (Nat.le_of_ble_eq_true rfl)) dX0_planLegacies_5 ⟨Nat.le_of_ble_eq_true rfl, Nat.le_of_ble_eq_true rfl⟩) hP hD hS hA [0, 2, 6] [1, 3, 4, 5] rfl rfl (by decide) (by decide) 0 0 rfl rfl (fun u_2 H locs hw_u_2 hP hD hS => ?_)
  have hP : va_P D vwCl [(p0, .inl (cI, 6, .inl (fun _ => 0))), (p2, .inl (cI, 8, .inl (fun _ => 0))), (p6, .inl (cI, 8, .inl (fun _ => 0))), (p7, .inl (cI, 8, .inl (fun _ => 0))), (h0, .inr (0, [.ref p0, .ref p1, .ref p2, .int 0, .int 0, .int 0, .ref p6, .ref p7, .ref p8])), (p1, .inl (cI, 6, .inl (fun _ => 0))), (p8, .inl (cI, 64, .inl (fun _ => 0)))] H := hP
  have hD : va_D A [(p0, .inl (cI, 6, .inl (fun _ => 0))), (p2, .inl (cI, 8, .inl (fun _ => 0))), (p6, .inl (cI, 8, .inl (fun _ => 0))), (p7, .inl (cI, 8, .inl (fun _ => 0))), (h0, .inr (0, [.ref p0, .ref p1, .ref p2, .int 0, .int 0, .int 0, .ref p6, .ref p7, .ref p8])), (p1, .inl (cI, 6, .inl (fun _ => 0))), (p8, .inl (cI, 64, .inl (fun _ => 0)))] := hD
  refine lv_aload_n hx hb dX0_planLegacies_8 rfl (lv_at hl 0 rfl) ?_
  refine va_get (D := D) (ci := 0) (v := .ref p8) (C := RX0) (T := TX0) (N := 9) hx hb hts w_1 hown hK hP 4 rfl rfl 8 (by decide) w_3 (fun _ h9 => h9) rfl dX0_planLegacies_9 ?_
  refine lv_bipush (v := 63) hx hb dX0_planLegacies_12 (by decide) ?_
  refine sv_iald (v := 0) hx hb hK hP 6 1 rfl rfl (vp_in_iff.mpr (by decide)) rfl dX0_planLegacies_14 ?_
  refine lv_istore_n (lv' := [(1, .int 0), (0, .ref h0)]) hx hb dX0_planLegacies_15 rfl hl (by decide) rfl (fun ls hl => ?_)
  refine lv_iconst (v := 0) hx hb dX0_planLegacies_16 (by decide) ?_
  refine lv_istore_n (lv' := [(2, .int 0), (1, .int 0), (0, .ref h0)]) hx hb dX0_planLegacies_17 rfl hl (by decide) rfl (fun ls hl => ?_)
  refine lv_iconst (v := 0) hx hb dX0_planLegacies_18 (by decide) ?_
  refine lv_istore_n (lv' := [(3, .int 0), (2, .int 0), (1, .int 0), (0, .ref h0)]) hx hb dX0_planLegacies_19 rfl hl (by decide) rfl (fun ls hl => ?_)
  refine lv_iload_n hx hb dX0_planLegacies_20 rfl (lv_at hl 0 rfl) ?_
  refine lv_aload_n hx hb dX0_planLegacies_21 rfl (lv_at hl 3 rfl) ?_
  refine va_get (D := D) (ci := 0) (v := .int 0) (C := RX0) (T := TX0) (N := 9) hx hb hts w_1 hown hK hP 4 rfl rfl 3 (by decide) w_4 (fun _ h9 => h9) rfl dX0_planLegacies_22 ?_
  refine lv_icmp_ge (tgt := 60) hx hb dX0_planLegacies_25 (by decide) (fun _ => ?_) (fun h => absurd (by decide) h)
  have hP9 := hP.sub (ws' := [(h0, .inr (0, [.ref p0, .ref p1, .ref p2, .int 0, .int 0, .int 0, .ref p6, .ref p7, .ref p8])), (p0, .inl (cI, 6, .inl (fun _ => 0))), (p1, .inl (cI, 6, .inl (fun _ => 0))), (p2, .inl (cI, 8, .inl (fun _ => 0))), (p6, .inl (cI, 8, .inl (fun _ => 0))), (p7, .inl (cI, 8, .inl (fun _ => 0))), (p8, .inl (cI, 64, .inl (fun _ => 0)))]) [4, 0, 5, 1, 2, 3, 6] rfl
  have hD9 := hD.sub (ws' := [(h0, .inr (0, [.ref p0, .ref p1, .ref p2, .int 0, .int 0, .int 0, .ref p6, .ref p7, .ref p8])), (p0, .inl (cI, 6, .inl (fun _ => 0))), (p1, .inl (cI, 6, .inl (fun _ => 0))), (p2, .inl (cI, 8, .inl (fun _ => 0))), (p6, .inl (cI, 8, .inl (fun _ => 0))), (p7, .inl (cI, 8, .inl (fun _ => 0))), (p8, .inl (cI, 64, .inl (fun _ => 0)))]) [4, 0, 5, 1, 2, 3, 6] (by decide) rfl
  exact W.vret hx hb hr (fun t ht hW => ⟨⟨(), rfl, trivial, by rw [ht]; exact hP9, va_K.moved hW.alike hK, hD9⟩, hS.F ht⟩) hS.2.2 dX0_planLegacies_60

set_option maxHeartbeats 4000000 in
set_option maxRecDepth 100000 in
/-- plan(): all stays 0 -/
theorem k_X0_plan (l : Launch) (D : va_G) (cB cI cJ cZ : ClassId) (sz : Nat) (h0 p0 p1 p2 p6 p7 p8 : Nat) : Met l yX0_plan wsX0_plan ({ frames := 2, cells := 0, slots := 0, locals := 47 } : Room) (cPre D (aTy cB cI cJ cZ) [(h0, .inr (0, [.ref p0, .ref p1, .ref p2, .int 0, .int 0, .int 0, .ref p6, .ref p7, .ref p8])), (p0, .inl (cI, 6, .inl (fun _ => 0))), (p1, .inl (cI, 6, .inl (fun _ => 0))), (p2, .inl (cI, 8, .inl (fun _ => 0))), (p6, .inl (cI, 8, .inl (fun _ => 0))), (p7, .inl (cI, 8, .inl (fun _ => 0))), (p8, .inl (cI, 64, .inl (fun _ => 0)))] sz [.ref h0]) (va_Qv (fun (u : Unit) => True) (cB_ D (aTy cB cI cJ cZ) (va_A [(h0, .inr (0, [.ref p0, .ref p1, .ref p2, .int 0, .int 0, .int 0, .ref p6, .ref p7, .ref p8])), (p0, .inl (cI, 6, .inl (fun _ => 0))), (p1, .inl (cI, 6, .inl (fun _ => 0))), (p2, .inl (cI, 8, .inl (fun _ => 0))), (p6, .inl (cI, 8, .inl (fun _ => 0))), (p7, .inl (cI, 8, .inl (fun _ => 0))), (p8, .inl (cI, 64, .inl (fun _ => 0)))] sz) (fun _ => [(h0, .inr (0, [.ref p0, .ref p1, .ref p2, .int 0, .int 0, .int 0, .ref p6, .ref p7, .ref p8])), (p0, .inl (cI, 6, .inl (fun _ => 0))), (p1, .inl (cI, 6, .inl (fun _ => 0))), (p2, .inl (cI, 8, .inl (fun _ => 0))), (p6, .inl (cI, 8, .inl (fun _ => 0))), (p7, .inl (cI, 8, .inl (fun _ => 0))), (p8, .inl (cI, 64, .inl (fun _ => 0)))])) (va_A [(h0, .inr (0, [.ref p0, .ref p1, .ref p2, .int 0, .int 0, .int 0, .ref p6, .ref p7, .ref p8])), (p0, .inl (cI, 6, .inl (fun _ => 0))), (p1, .inl (cI, 6, .inl (fun _ => 0))), (p2, .inl (cI, 8, .inl (fun _ => 0))), (p6, .inl (cI, 8, .inl (fun _ => 0))), (p7, .inl (cI, 8, .inl (fun _ => 0))), (p8, .inl (cI, 64, .inl (fun _ => 0)))] sz)) 0 0 (va_A [(h0, .inr (0, [.ref p0, .ref p1, .ref p2, .int 0, .int 0, .int 0, .ref p6, .ref p7, .ref p8])), (p0, .inl (cI, 6, .inl (fun _ => 0))), (p1, .inl (cI, 6, .inl (fun _ => 0))), (p2, .inl (cI, 8, .inl (fun _ => 0))), (p6, .inl (cI, 8, .inl (fun _ => 0))), (p7, .inl (cI, 8, .inl (fun _ => 0))), (p8, .inl (cI, 64, .inl (fun _ => 0)))] sz) := by
  refine Met.ofW (cc := cX0_plan) (maxL := 1) (ret := none) (by decide) rfl ?_
  intro p e s m args below meth c s₁ B hml hv
  obtain ⟨rfl, hsz, hP, hK, hD0⟩ := hv
  have hx := B.exec
  have hb := B.bytes
  have hr := B.returns
  have hts := atoms_spec (ws := wsX0_plan) B.pre
  have hown : s.vm.findClass RX0 = some m.cls := findClass_of_methodNamed B.named
  have hlocks := B.notSynchronized
  subst hsz
  have hD := hD0.self (sz := s.heap.size)
  generalize hAe : va_A [(h0, .inr (0, [.ref p0, .ref p1, .ref p2, .int 0, .int 0, .int 0, .ref p6, .ref p7, .ref p8])), (p0, .inl (cI, 6, .inl (fun _ => 0))), (p1, .inl (cI, 6, .inl (fun _ => 0))), (p2, .inl (cI, 8, .inl (fun _ => 0))), (p6, .inl (cI, 8, .inl (fun _ => 0))), (p7, .inl (cI, 8, .inl (fun _ => 0))), (p8, .inl (cI, 64, .inl (fun _ => 0)))] s.heap.size = A at hD ⊢
  have hA : ∀ q : Nat, s.heap.size ≤ q → A q := fun q h => by rw [← hAe]; exact Or.inr h
  have hS : va_S A s.heap s.heap [] := va_S.rf
  have hP : va_P D vwCl [(h0, .inr (0, [.ref p0, .ref p1, .ref p2, .int 0, .int 0, .int 0, .ref p6, .ref p7, .ref p8])), (p0, .inl (cI, 6, .inl (fun _ => 0))), (p1, .inl (cI, 6, .inl (fun _ => 0))), (p2, .inl (cI, 8, .inl (fun _ => 0))), (p6, .inl (cI, 8, .inl (fun _ => 0))), (p7, .inl (cI, 8, .inl (fun _ => 0))), (p8, .inl (cI, 64, .inl (fun _ => 0)))] s.heap := hP
  have hl := lv_entry ([.ref h0]) (n := 1) (Nat.le_of_ble_eq_true rfl)
  rw [lg_entry_eq]
  generalize (lg_sl ([.ref h0]) ++ List.replicate (1 - (lg_sl ([.ref h0])).length) Slot.unset).toArray = ls at hl ⊢
  have hl : lv_has ls 1 [(0, .ref h0)] := hl
  refine lv_aload_n hx hb dX0_plan_0 rfl (lv_at hl 0 rfl) ?_
  refine cl_v (wc := [(h0, .inr (0, [.ref p0, .ref p1, .ref p2, .int 0, .int 0, .int 0, .ref p6, .ref p7, .ref p8])), (p0, .inl (cI, 6, .inl (fun _ => 0))), (p1, .inl (cI, 6, .inl (fun _ => 0))), (p2, .inl (cI, 8, .inl (fun _ => 0))), (p6, .inl (cI, 8, .inl (fun _ => 0))), (p7, .inl (cI, 8, .inl (fun _ => 0))), (p8, .inl (cI, 64, .inl (fun _ => 0)))]) (wr := []) (va_runV (As := []) (rest := []) ⟨hx, hb, hml, hown, hts⟩ (k_X0_planEnds l D cB cI cJ cZ s.heap.size h0 p0 p1 p2 p6 p7 p8) (cwV 0 hts gX0_plan_X0_planEnds rfl rfl rfl (by decide +kernel) ⟨Nat.le_of_ble_eq_true rfl, Nat.le_of_ble_eq_true rfl⟩) (pre_V (hP.sub (ws' := [(h0, .inr (0, [.ref p0, .ref p1, .ref p2, .int 0, .int 0, .int 0, .ref p6, .ref p7, .ref p8])), (p0, .inl (cI, 6, .inl (fun _ => 0))), (p1, .inl (cI, 6, .inl (fun _ => 0))), (p2, .inl (cI, 8, .inl (fun _ => 0))), (p6, .inl (cI, 8, .inl (fun _ => 0))), (p7, .inl (cI, 8, .inl (fun _ => 0))), (p8, .inl (cI, 64, .inl (fun _ => 0)))]) [0, 1, 2, 3, 4, 5, 6] rfl) hK (hD.sub (ws' := [(h0, .inr (0, [.ref p0, .ref p1, .ref p2, .int 0, .int 0, .int 0, .ref p6, .ref p7, .ref p8])), (p0, .inl (cI, 6, .inl (fun _ => 0))), (p1, .inl (cI, 6, .inl (fun _ => 0))), (p2, .inl (cI, 8, .inl (fun _ => 0))), (p6, .inl (cI, 8, .inl (fun _ => 0))), (p7, .inl (cI, 8, .inl (fun _ => 0))), (p8, .inl (cI, 64, .inl (fun _ => 0)))]) [0, 1, 2, 3, 4, 5, 6] (by decide) rfl) 0 rfl rfl rfl) rfl rfl hl.1 rfl (lv_room (Nat.le_of_ble_eq_true rfl)) dX0_plan_1 ⟨Nat.le_of_ble_eq_true rfl, Nat.le_of_ble_eq_true rfl⟩) hP hD hS hA [0, 1, 2, 3, 4, 5, 6] [] rfl rfl (by decide) (by decide) 0 0 rfl rfl (fun u_2 H locs hw_u_2 hP hD hS => ?_)
  have hP : va_P D vwCl [(h0, .inr (0, [.ref p0, .ref p1, .ref p2, .int 0, .int 0, .int 0, .ref p6, .ref p7, .ref p8])), (p0, .inl (cI, 6, .inl (fun _ => 0))), (p1, .inl (cI, 6, .inl (fun _ => 0))), (p2, .inl (cI, 8, .inl (fun _ => 0))), (p6, .inl (cI, 8, .inl (fun _ => 0))), (p7, .inl (cI, 8, .inl (fun _ => 0))), (p8, .inl (cI, 64, .inl (fun _ => 0)))] H := hP
  have hD : va_D A [(h0, .inr (0, [.ref p0, .ref p1, .ref p2, .int 0, .int 0, .int 0, .ref p6, .ref p7, .ref p8])), (p0, .inl (cI, 6, .inl (fun _ => 0))), (p1, .inl (cI, 6, .inl (fun _ => 0))), (p2, .inl (cI, 8, .inl (fun _ => 0))), (p6, .inl (cI, 8, .inl (fun _ => 0))), (p7, .inl (cI, 8, .inl (fun _ => 0))), (p8, .inl (cI, 64, .inl (fun _ => 0)))] := hD
  refine lv_aload_n hx hb dX0_plan_4 rfl (lv_at hl 0 rfl) ?_
  refine cl_v (wc := [(h0, .inr (0, [.ref p0, .ref p1, .ref p2, .int 0, .int 0, .int 0, .ref p6, .ref p7, .ref p8])), (p0, .inl (cI, 6, .inl (fun _ => 0))), (p1, .inl (cI, 6, .inl (fun _ => 0))), (p2, .inl (cI, 8, .inl (fun _ => 0))), (p6, .inl (cI, 8, .inl (fun _ => 0))), (p7, .inl (cI, 8, .inl (fun _ => 0))), (p8, .inl (cI, 64, .inl (fun _ => 0)))]) (wr := []) (va_runV (As := []) (rest := []) ⟨hx, hb, hml, hown, hts⟩ (k_X0_planLeg l D cB cI cJ cZ H.size h0 p0 p1 p2 p6 p7 p8) (cwV 0 hts gX0_plan_X0_planLegacies rfl rfl rfl (by decide +kernel) ⟨Nat.le_of_ble_eq_true rfl, Nat.le_of_ble_eq_true rfl⟩) (pre_V (hP.sub (ws' := [(h0, .inr (0, [.ref p0, .ref p1, .ref p2, .int 0, .int 0, .int 0, .ref p6, .ref p7, .ref p8])), (p0, .inl (cI, 6, .inl (fun _ => 0))), (p1, .inl (cI, 6, .inl (fun _ => 0))), (p2, .inl (cI, 8, .inl (fun _ => 0))), (p6, .inl (cI, 8, .inl (fun _ => 0))), (p7, .inl (cI, 8, .inl (fun _ => 0))), (p8, .inl (cI, 64, .inl (fun _ => 0)))]) [0, 1, 2, 3, 4, 5, 6] rfl) hK (hD.sub (ws' := [(h0, .inr (0, [.ref p0, .ref p1, .ref p2, .int 0, .int 0, .int 0, .ref p6, .ref p7, .ref p8])), (p0, .inl (cI, 6, .inl (fun _ => 0))), (p1, .inl (cI, 6, .inl (fun _ => 0))), (p2, .inl (cI, 8, .inl (fun _ => 0))), (p6, .inl (cI, 8, .inl (fun _ => 0))), (p7, .inl (cI, 8, .inl (fun _ => 0))), (p8, .inl (cI, 64, .inl (fun _ => 0)))]) [0, 1, 2, 3, 4, 5, 6] (by decide) rfl) 0 rfl rfl rfl) rfl rfl hl.1 rfl (lv_room (Nat.le_of_ble_eq_true rfl)) dX0_plan_5 ⟨Nat.le_of_ble_eq_true rfl, Nat.le_of_ble_eq_true rfl⟩) hP hD hS hA [0, 1, 2, 3, 4, 5, 6] [] rfl rfl (by decide) (by decide) 0 0 rfl rfl (fun u_4 H locs hw_u_4 hP hD hS => ?_)
  have hP : va_P D vwCl [(h0, .inr (0, [.ref p0, .ref p1, .ref p2, .int 0, .int 0, .int 0, .ref p6, .ref p7, .ref p8])), (p0, .inl (cI, 6, .inl (fun _ => 0))), (p1, .inl (cI, 6, .inl (fun _ => 0))), (p2, .inl (cI, 8, .inl (fun _ => 0))), (p6, .inl (cI, 8, .inl (fun _ => 0))), (p7, .inl (cI, 8, .inl (fun _ => 0))), (p8, .inl (cI, 64, .inl (fun _ => 0)))] H := hP
  have hD : va_D A [(h0, .inr (0, [.ref p0, .ref p1, .ref p2, .int 0, .int 0, .int 0, .ref p6, .ref p7, .ref p8])), (p0, .inl (cI, 6, .inl (fun _ => 0))), (p1, .inl (cI, 6, .inl (fun _ => 0))), (p2, .inl (cI, 8, .inl (fun _ => 0))), (p6, .inl (cI, 8, .inl (fun _ => 0))), (p7, .inl (cI, 8, .inl (fun _ => 0))), (p8, .inl (cI, 64, .inl (fun _ => 0)))] := hD
  have hP9 := hP.sub (ws' := [(h0, .inr (0, [.ref p0, .ref p1, .ref p2, .int 0, .int 0, .int 0, .ref p6, .ref p7, .ref p8])), (p0, .inl (cI, 6, .inl (fun _ => 0))), (p1, .inl (cI, 6, .inl (fun _ => 0))), (p2, .inl (cI, 8, .inl (fun _ => 0))), (p6, .inl (cI, 8, .inl (fun _ => 0))), (p7, .inl (cI, 8, .inl (fun _ => 0))), (p8, .inl (cI, 64, .inl (fun _ => 0)))]) [0, 1, 2, 3, 4, 5, 6] rfl
  have hD9 := hD.sub (ws' := [(h0, .inr (0, [.ref p0, .ref p1, .ref p2, .int 0, .int 0, .int 0, .ref p6, .ref p7, .ref p8])), (p0, .inl (cI, 6, .inl (fun _ => 0))), (p1, .inl (cI, 6, .inl (fun _ => 0))), (p2, .inl (cI, 8, .inl (fun _ => 0))), (p6, .inl (cI, 8, .inl (fun _ => 0))), (p7, .inl (cI, 8, .inl (fun _ => 0))), (p8, .inl (cI, 64, .inl (fun _ => 0)))]) [0, 1, 2, 3, 4, 5, 6] (by decide) rfl
  exact W.vret hx hb hr (fun t ht hW => ⟨⟨(), rfl, trivial, by rw [ht]; exact hP9, va_K.moved hW.alike hK, hD9⟩, hS.F ht⟩) hS.2.2 dX0_plan_8

set_option maxHeartbeats 4000000 in
set_option maxRecDepth 100000 in
/-- payPlanned(): nothing is paid -/
theorem k_X0_payP (l : Launch) (D : va_G) (cB cI cJ cZ : ClassId) (sz : Nat) (h0 p0 p1 p2 p6 p7 p8 : Nat) : Met l yX0_payPlanned wsX0_payPlanned ({ frames := 0, cells := 0, slots := 0, locals := 0 } : Room) (cPre D (aTy cB cI cJ cZ) [(h0, .inr (0, [.ref p0, .ref p1, .ref p2, .int 0, .int 0, .int 0, .ref p6, .ref p7, .ref p8])), (p0, .inl (cI, 6, .inl (fun _ => 0))), (p1, .inl (cI, 6, .inl (fun _ => 0))), (p2, .inl (cI, 8, .inl (fun _ => 0))), (p6, .inl (cI, 8, .inl (fun _ => 0))), (p7, .inl (cI, 8, .inl (fun _ => 0))), (p8, .inl (cI, 64, .inl (fun _ => 0)))] sz [.ref h0]) (va_Qi (fun (r : Int32) (u : Unit) => r = 0) (cB_ D (aTy cB cI cJ cZ) (va_A [(h0, .inr (0, [.ref p0, .ref p1, .ref p2, .int 0, .int 0, .int 0, .ref p6, .ref p7, .ref p8])), (p0, .inl (cI, 6, .inl (fun _ => 0))), (p1, .inl (cI, 6, .inl (fun _ => 0))), (p2, .inl (cI, 8, .inl (fun _ => 0))), (p6, .inl (cI, 8, .inl (fun _ => 0))), (p7, .inl (cI, 8, .inl (fun _ => 0))), (p8, .inl (cI, 64, .inl (fun _ => 0)))] sz) (fun _ => [])) (va_A [(h0, .inr (0, [.ref p0, .ref p1, .ref p2, .int 0, .int 0, .int 0, .ref p6, .ref p7, .ref p8])), (p0, .inl (cI, 6, .inl (fun _ => 0))), (p1, .inl (cI, 6, .inl (fun _ => 0))), (p2, .inl (cI, 8, .inl (fun _ => 0))), (p6, .inl (cI, 8, .inl (fun _ => 0))), (p7, .inl (cI, 8, .inl (fun _ => 0))), (p8, .inl (cI, 64, .inl (fun _ => 0)))] sz)) 0 0 (va_A [(h0, .inr (0, [.ref p0, .ref p1, .ref p2, .int 0, .int 0, .int 0, .ref p6, .ref p7, .ref p8])), (p0, .inl (cI, 6, .inl (fun _ => 0))), (p1, .inl (cI, 6, .inl (fun _ => 0))), (p2, .inl (cI, 8, .inl (fun _ => 0))), (p6, .inl (cI, 8, .inl (fun _ => 0))), (p7, .inl (cI, 8, .inl (fun _ => 0))), (p8, .inl (cI, 64, .inl (fun _ => 0)))] sz) := by
  refine Met.ofW (cc := cX0_payPlanned) (maxL := 3) (ret := (some .int)) (by decide) rfl ?_
  intro p e s m args below meth c s₁ B hml hv
  obtain ⟨rfl, hsz, hP, hK, hD0⟩ := hv
  have hx := B.exec
  have hb := B.bytes
  have hr := B.returns
  have hts := atoms_spec (ws := wsX0_payPlanned) B.pre
  have hown : s.vm.findClass RX0 = some m.cls := findClass_of_methodNamed B.named
  have hlocks := B.notSynchronized
  subst hsz
  have hD := hD0.self (sz := s.heap.size)
  generalize hAe : va_A [(h0, .inr (0, [.ref p0, .ref p1, .ref p2, .int 0, .int 0, .int 0, .ref p6, .ref p7, .ref p8])), (p0, .inl (cI, 6, .inl (fun _ => 0))), (p1, .inl (cI, 6, .inl (fun _ => 0))), (p2, .inl (cI, 8, .inl (fun _ => 0))), (p6, .inl (cI, 8, .inl (fun _ => 0))), (p7, .inl (cI, 8, .inl (fun _ => 0))), (p8, .inl (cI, 64, .inl (fun _ => 0)))] s.heap.size = A at hD ⊢
  have hA : ∀ q : Nat, s.heap.size ≤ q → A q := fun q h => by rw [← hAe]; exact Or.inr h
  have hS : va_S A s.heap s.heap [] := va_S.rf
  have hP : va_P D vwCl [(h0, .inr (0, [.ref p0, .ref p1, .ref p2, .int 0, .int 0, .int 0, .ref p6, .ref p7, .ref p8])), (p0, .inl (cI, 6, .inl (fun _ => 0))), (p1, .inl (cI, 6, .inl (fun _ => 0))), (p2, .inl (cI, 8, .inl (fun _ => 0))), (p6, .inl (cI, 8, .inl (fun _ => 0))), (p7, .inl (cI, 8, .inl (fun _ => 0))), (p8, .inl (cI, 64, .inl (fun _ => 0)))] s.heap := hP
  have w_1 : ∀ w ∈ wsX00, w ∈ wsX0_payPlanned := by decide +kernel
  have w_2 := hts (Cond.fieldLink RX0 11 "BlueCoats$Chest" "need" "[I") (by decide +kernel)
  have w_3 := hts (Cond.fieldLink RX0 15 "BlueCoats$Chest" "toEnd" "[I") (by decide +kernel)
  have w_4 := hts (Cond.fieldLink RX0 30 "BlueCoats$Chest" "number" "I") (by decide +kernel)
  have hl := lv_entry ([.ref h0]) (n := 3) (Nat.le_of_ble_eq_true rfl)
  rw [lg_entry_eq]
  generalize (lg_sl ([.ref h0]) ++ List.replicate (3 - (lg_sl ([.ref h0])).length) Slot.unset).toArray = ls at hl ⊢
  have hl : lv_has ls 3 [(0, .ref h0)] := hl
  refine lv_iconst (v := 0) hx hb dX0_payPlanned_0 (by decide) ?_
  refine lv_istore_n (lv' := [(1, .int 0), (0, .ref h0)]) hx hb dX0_payPlanned_1 rfl hl (by decide) rfl (fun ls hl => ?_)
  refine lv_iconst (v := 0) hx hb dX0_payPlanned_2 (by decide) ?_
  refine lv_istore_n (lv' := [(2, .int 0), (1, .int 0), (0, .ref h0)]) hx hb dX0_payPlanned_3 rfl hl (by decide) rfl (fun ls hl => ?_)
  refine lv_iload_n hx hb dX0_payPlanned_4 rfl (lv_at hl 0 rfl) ?_
  refine lv_bipush (v := 6) hx hb dX0_payPlanned_5 (by decide) ?_
  refine lv_icmp_ge (tgt := 40) hx hb dX0_payPlanned_7 (by decide) (fun h => absurd h (by decide)) (fun _ => ?_)
  refine lv_aload_n hx hb dX0_payPlanned_10 rfl (lv_at hl 2 rfl) ?_
  refine va_get (D := D) (ci := 0) (v := .ref p0) (C := RX0) (T := TX0) (N := 9) hx hb hts w_1 hown hK hP 0 rfl rfl 0 (by decide) w_2 (fun _ h9 => h9) rfl dX0_payPlanned_11 ?_
  refine lv_iload_n hx hb dX0_payPlanned_14 rfl (lv_at hl 0 rfl) ?_
  refine lv_dup2_11 hx hb dX0_payPlanned_15 rfl rfl ?_
  refine sv_iald (v := 0) hx hb hK hP 1 1 rfl rfl (vp_in_iff.mpr (by decide)) rfl dX0_payPlanned_16 ?_
  refine lv_aload_n hx hb dX0_payPlanned_17 rfl (lv_at hl 2 rfl) ?_
  refine va_get (D := D) (ci := 0) (v := .ref p1) (C := RX0) (T := TX0) (N := 9) hx hb hts w_1 hown hK hP 0 rfl rfl 1 (by decide) w_3 (fun _ h9 => h9) rfl dX0_payPlanned_18 ?_
  refine lv_iload_n hx hb dX0_payPlanned_21 rfl (lv_at hl 0 rfl) ?_
  refine sv_iald (v := 0) hx hb hK hP 2 1 rfl rfl (vp_in_iff.mpr (by decide)) rfl dX0_payPlanned_22 ?_
  refine sv_isub (v := 0) hx hb dX0_payPlanned_23 (by decide) ?_
  refine sv_iast hx hb hK hP hD hS 1 1 rfl rfl (vp_in_iff.mpr (by decide)) dX0_payPlanned_24 (fun g_1 H locs eg_1 hP hD hS => ?_)
  have eg_1 : g_1 = (fun _ => 0) := by rw [eg_1]; exact upd_zero _
  subst eg_1
  have hP : va_P D vwCl [(h0, .inr (0, [.ref p0, .ref p1, .ref p2, .int 0, .int 0, .int 0, .ref p6, .ref p7, .ref p8])), (p0, .inl (cI, 6, .inl (fun _ => 0))), (p1, .inl (cI, 6, .inl (fun _ => 0))), (p2, .inl (cI, 8, .inl (fun _ => 0))), (p6, .inl (cI, 8, .inl (fun _ => 0))), (p7, .inl (cI, 8, .inl (fun _ => 0))), (p8, .inl (cI, 64, .inl (fun _ => 0)))] H := hP
  have hD : va_D A [(h0, .inr (0, [.ref p0, .ref p1, .ref p2, .int 0, .int 0, .int 0, .ref p6, .ref p7, .ref p8])), (p0, .inl (cI, 6, .inl (fun _ => 0))), (p1, .inl (cI, 6, .inl (fun _ => 0))), (p2, .inl (cI, 8, .inl (fun _ => 0))), (p6, .inl (cI, 8, .inl (fun _ => 0))), (p7, .inl (cI, 8, .inl (fun _ => 0))), (p8, .inl (cI, 64, .inl (fun _ => 0)))] := hD
  refine lv_iload_n hx hb dX0_payPlanned_25 rfl (lv_at hl 1 rfl) ?_
  refine lv_aload_n hx hb dX0_payPlanned_26 rfl (lv_at hl 2 rfl) ?_
  refine va_get (D := D) (ci := 0) (v := .ref p1) (C := RX0) (T := TX0) (N := 9) hx hb hts w_1 hown hK hP 0 rfl rfl 1 (by decide) w_3 (fun _ h9 => h9) rfl dX0_payPlanned_27 ?_
  refine lv_iload_n hx hb dX0_payPlanned_30 rfl (lv_at hl 0 rfl) ?_
  refine sv_iald (v := 0) hx hb hK hP 2 1 rfl rfl (vp_in_iff.mpr (by decide)) rfl dX0_payPlanned_31 ?_
  refine sv_iadd (v := 0) hx hb dX0_payPlanned_32 (by decide) ?_
  refine lv_istore_n (lv' := [(1, .int 0), (2, .int 0), (0, .ref h0)]) hx hb dX0_payPlanned_33 rfl hl (by decide) rfl (fun ls hl => ?_)
  refine lv_iinc (v := 1) (lv' := [(2, .int 1), (1, .int 0), (0, .ref h0)]) hx hb dX0_payPlanned_34 hl (k := 1) rfl (by decide) (by decide) rfl (fun ls hl => ?_)
  refine lv_goto (tgt := 4) hx hb dX0_payPlanned_37 (by decide) ?_
  refine lv_iload_n hx hb dX0_payPlanned_4 rfl (lv_at hl 0 rfl) ?_
  refine lv_bipush (v := 6) hx hb dX0_payPlanned_5 (by decide) ?_
  refine lv_icmp_ge (tgt := 40) hx hb dX0_payPlanned_7 (by decide) (fun h => absurd h (by decide)) (fun _ => ?_)
  refine lv_aload_n hx hb dX0_payPlanned_10 rfl (lv_at hl 2 rfl) ?_
  refine va_get (D := D) (ci := 0) (v := .ref p0) (C := RX0) (T := TX0) (N := 9) hx hb hts w_1 hown hK hP 0 rfl rfl 0 (by decide) w_2 (fun _ h9 => h9) rfl dX0_payPlanned_11 ?_
  refine lv_iload_n hx hb dX0_payPlanned_14 rfl (lv_at hl 0 rfl) ?_
  refine lv_dup2_11 hx hb dX0_payPlanned_15 rfl rfl ?_
  refine sv_iald (v := 0) hx hb hK hP 1 1 rfl rfl (vp_in_iff.mpr (by decide)) rfl dX0_payPlanned_16 ?_
  refine lv_aload_n hx hb dX0_payPlanned_17 rfl (lv_at hl 2 rfl) ?_
  refine va_get (D := D) (ci := 0) (v := .ref p1) (C := RX0) (T := TX0) (N := 9) hx hb hts w_1 hown hK hP 0 rfl rfl 1 (by decide) w_3 (fun _ h9 => h9) rfl dX0_payPlanned_18 ?_
  refine lv_iload_n hx hb dX0_payPlanned_21 rfl (lv_at hl 0 rfl) ?_
  refine sv_iald (v := 0) hx hb hK hP 2 1 rfl rfl (vp_in_iff.mpr (by decide)) rfl dX0_payPlanned_22 ?_
  refine sv_isub (v := 0) hx hb dX0_payPlanned_23 (by decide) ?_
  refine sv_iast hx hb hK hP hD hS 1 1 rfl rfl (vp_in_iff.mpr (by decide)) dX0_payPlanned_24 (fun g_2 H locs eg_2 hP hD hS => ?_)
  have eg_2 : g_2 = (fun _ => 0) := by rw [eg_2]; exact upd_zero _
  subst eg_2
  have hP : va_P D vwCl [(h0, .inr (0, [.ref p0, .ref p1, .ref p2, .int 0, .int 0, .int 0, .ref p6, .ref p7, .ref p8])), (p0, .inl (cI, 6, .inl (fun _ => 0))), (p1, .inl (cI, 6, .inl (fun _ => 0))), (p2, .inl (cI, 8, .inl (fun _ => 0))), (p6, .inl (cI, 8, .inl (fun _ => 0))), (p7, .inl (cI, 8, .inl (fun _ => 0))), (p8, .inl (cI, 64, .inl (fun _ => 0)))] H := hP
  have hD : va_D A [(h0, .inr (0, [.ref p0, .ref p1, .ref p2, .int 0, .int 0, .int 0, .ref p6, .ref p7, .ref p8])), (p0, .inl (cI, 6, .inl (fun _ => 0))), (p1, .inl (cI, 6, .inl (fun _ => 0))), (p2, .inl (cI, 8, .inl (fun _ => 0))), (p6, .inl (cI, 8, .inl (fun _ => 0))), (p7, .inl (cI, 8, .inl (fun _ => 0))), (p8, .inl (cI, 64, .inl (fun _ => 0)))] := hD
  refine lv_iload_n hx hb dX0_payPlanned_25 rfl (lv_at hl 1 rfl) ?_
  refine lv_aload_n hx hb dX0_payPlanned_26 rfl (lv_at hl 2 rfl) ?_
  refine va_get (D := D) (ci := 0) (v := .ref p1) (C := RX0) (T := TX0) (N := 9) hx hb hts w_1 hown hK hP 0 rfl rfl 1 (by decide) w_3 (fun _ h9 => h9) rfl dX0_payPlanned_27 ?_
  refine lv_iload_n hx hb dX0_payPlanned_30 rfl (lv_at hl 0 rfl) ?_
  refine sv_iald (v := 0) hx hb hK hP 2 1 rfl rfl (vp_in_iff.mpr (by decide)) rfl dX0_payPlanned_31 ?_
  refine sv_iadd (v := 0) hx hb dX0_payPlanned_32 (by decide) ?_
  refine lv_istore_n (lv' := [(1, .int 0), (2, .int 1), (0, .ref h0)]) hx hb dX0_payPlanned_33 rfl hl (by decide) rfl (fun ls hl => ?_)
  refine lv_iinc (v := 2) (lv' := [(2, .int 2), (1, .int 0), (0, .ref h0)]) hx hb dX0_payPlanned_34 hl (k := 1) rfl (by decide) (by decide) rfl (fun ls hl => ?_)
  refine lv_goto (tgt := 4) hx hb dX0_payPlanned_37 (by decide) ?_
  refine lv_iload_n hx hb dX0_payPlanned_4 rfl (lv_at hl 0 rfl) ?_
  refine lv_bipush (v := 6) hx hb dX0_payPlanned_5 (by decide) ?_
  refine lv_icmp_ge (tgt := 40) hx hb dX0_payPlanned_7 (by decide) (fun h => absurd h (by decide)) (fun _ => ?_)
  refine lv_aload_n hx hb dX0_payPlanned_10 rfl (lv_at hl 2 rfl) ?_
  refine va_get (D := D) (ci := 0) (v := .ref p0) (C := RX0) (T := TX0) (N := 9) hx hb hts w_1 hown hK hP 0 rfl rfl 0 (by decide) w_2 (fun _ h9 => h9) rfl dX0_payPlanned_11 ?_
  refine lv_iload_n hx hb dX0_payPlanned_14 rfl (lv_at hl 0 rfl) ?_
  refine lv_dup2_11 hx hb dX0_payPlanned_15 rfl rfl ?_
  refine sv_iald (v := 0) hx hb hK hP 1 1 rfl rfl (vp_in_iff.mpr (by decide)) rfl dX0_payPlanned_16 ?_
  refine lv_aload_n hx hb dX0_payPlanned_17 rfl (lv_at hl 2 rfl) ?_
  refine va_get (D := D) (ci := 0) (v := .ref p1) (C := RX0) (T := TX0) (N := 9) hx hb hts w_1 hown hK hP 0 rfl rfl 1 (by decide) w_3 (fun _ h9 => h9) rfl dX0_payPlanned_18 ?_
  refine lv_iload_n hx hb dX0_payPlanned_21 rfl (lv_at hl 0 rfl) ?_
  refine sv_iald (v := 0) hx hb hK hP 2 1 rfl rfl (vp_in_iff.mpr (by decide)) rfl dX0_payPlanned_22 ?_
  refine sv_isub (v := 0) hx hb dX0_payPlanned_23 (by decide) ?_
  refine sv_iast hx hb hK hP hD hS 1 1 rfl rfl (vp_in_iff.mpr (by decide)) dX0_payPlanned_24 (fun g_3 H locs eg_3 hP hD hS => ?_)
  have eg_3 : g_3 = (fun _ => 0) := by rw [eg_3]; exact upd_zero _
  subst eg_3
  have hP : va_P D vwCl [(h0, .inr (0, [.ref p0, .ref p1, .ref p2, .int 0, .int 0, .int 0, .ref p6, .ref p7, .ref p8])), (p0, .inl (cI, 6, .inl (fun _ => 0))), (p1, .inl (cI, 6, .inl (fun _ => 0))), (p2, .inl (cI, 8, .inl (fun _ => 0))), (p6, .inl (cI, 8, .inl (fun _ => 0))), (p7, .inl (cI, 8, .inl (fun _ => 0))), (p8, .inl (cI, 64, .inl (fun _ => 0)))] H := hP
  have hD : va_D A [(h0, .inr (0, [.ref p0, .ref p1, .ref p2, .int 0, .int 0, .int 0, .ref p6, .ref p7, .ref p8])), (p0, .inl (cI, 6, .inl (fun _ => 0))), (p1, .inl (cI, 6, .inl (fun _ => 0))), (p2, .inl (cI, 8, .inl (fun _ => 0))), (p6, .inl (cI, 8, .inl (fun _ => 0))), (p7, .inl (cI, 8, .inl (fun _ => 0))), (p8, .inl (cI, 64, .inl (fun _ => 0)))] := hD
  refine lv_iload_n hx hb dX0_payPlanned_25 rfl (lv_at hl 1 rfl) ?_
  refine lv_aload_n hx hb dX0_payPlanned_26 rfl (lv_at hl 2 rfl) ?_
  refine va_get (D := D) (ci := 0) (v := .ref p1) (C := RX0) (T := TX0) (N := 9) hx hb hts w_1 hown hK hP 0 rfl rfl 1 (by decide) w_3 (fun _ h9 => h9) rfl dX0_payPlanned_27 ?_
  refine lv_iload_n hx hb dX0_payPlanned_30 rfl (lv_at hl 0 rfl) ?_
  refine sv_iald (v := 0) hx hb hK hP 2 1 rfl rfl (vp_in_iff.mpr (by decide)) rfl dX0_payPlanned_31 ?_
  refine sv_iadd (v := 0) hx hb dX0_payPlanned_32 (by decide) ?_
  refine lv_istore_n (lv' := [(1, .int 0), (2, .int 2), (0, .ref h0)]) hx hb dX0_payPlanned_33 rfl hl (by decide) rfl (fun ls hl => ?_)
  refine lv_iinc (v := 3) (lv' := [(2, .int 3), (1, .int 0), (0, .ref h0)]) hx hb dX0_payPlanned_34 hl (k := 1) rfl (by decide) (by decide) rfl (fun ls hl => ?_)
  refine lv_goto (tgt := 4) hx hb dX0_payPlanned_37 (by decide) ?_
  refine lv_iload_n hx hb dX0_payPlanned_4 rfl (lv_at hl 0 rfl) ?_
  refine lv_bipush (v := 6) hx hb dX0_payPlanned_5 (by decide) ?_
  refine lv_icmp_ge (tgt := 40) hx hb dX0_payPlanned_7 (by decide) (fun h => absurd h (by decide)) (fun _ => ?_)
  refine lv_aload_n hx hb dX0_payPlanned_10 rfl (lv_at hl 2 rfl) ?_
  refine va_get (D := D) (ci := 0) (v := .ref p0) (C := RX0) (T := TX0) (N := 9) hx hb hts w_1 hown hK hP 0 rfl rfl 0 (by decide) w_2 (fun _ h9 => h9) rfl dX0_payPlanned_11 ?_
  refine lv_iload_n hx hb dX0_payPlanned_14 rfl (lv_at hl 0 rfl) ?_
  refine lv_dup2_11 hx hb dX0_payPlanned_15 rfl rfl ?_
  refine sv_iald (v := 0) hx hb hK hP 1 1 rfl rfl (vp_in_iff.mpr (by decide)) rfl dX0_payPlanned_16 ?_
  refine lv_aload_n hx hb dX0_payPlanned_17 rfl (lv_at hl 2 rfl) ?_
  refine va_get (D := D) (ci := 0) (v := .ref p1) (C := RX0) (T := TX0) (N := 9) hx hb hts w_1 hown hK hP 0 rfl rfl 1 (by decide) w_3 (fun _ h9 => h9) rfl dX0_payPlanned_18 ?_
  refine lv_iload_n hx hb dX0_payPlanned_21 rfl (lv_at hl 0 rfl) ?_
  refine sv_iald (v := 0) hx hb hK hP 2 1 rfl rfl (vp_in_iff.mpr (by decide)) rfl dX0_payPlanned_22 ?_
  refine sv_isub (v := 0) hx hb dX0_payPlanned_23 (by decide) ?_
  refine sv_iast hx hb hK hP hD hS 1 1 rfl rfl (vp_in_iff.mpr (by decide)) dX0_payPlanned_24 (fun g_4 H locs eg_4 hP hD hS => ?_)
  have eg_4 : g_4 = (fun _ => 0) := by rw [eg_4]; exact upd_zero _
  subst eg_4
  have hP : va_P D vwCl [(h0, .inr (0, [.ref p0, .ref p1, .ref p2, .int 0, .int 0, .int 0, .ref p6, .ref p7, .ref p8])), (p0, .inl (cI, 6, .inl (fun _ => 0))), (p1, .inl (cI, 6, .inl (fun _ => 0))), (p2, .inl (cI, 8, .inl (fun _ => 0))), (p6, .inl (cI, 8, .inl (fun _ => 0))), (p7, .inl (cI, 8, .inl (fun _ => 0))), (p8, .inl (cI, 64, .inl (fun _ => 0)))] H := hP
  have hD : va_D A [(h0, .inr (0, [.ref p0, .ref p1, .ref p2, .int 0, .int 0, .int 0, .ref p6, .ref p7, .ref p8])), (p0, .inl (cI, 6, .inl (fun _ => 0))), (p1, .inl (cI, 6, .inl (fun _ => 0))), (p2, .inl (cI, 8, .inl (fun _ => 0))), (p6, .inl (cI, 8, .inl (fun _ => 0))), (p7, .inl (cI, 8, .inl (fun _ => 0))), (p8, .inl (cI, 64, .inl (fun _ => 0)))] := hD
  refine lv_iload_n hx hb dX0_payPlanned_25 rfl (lv_at hl 1 rfl) ?_
  refine lv_aload_n hx hb dX0_payPlanned_26 rfl (lv_at hl 2 rfl) ?_
  refine va_get (D := D) (ci := 0) (v := .ref p1) (C := RX0) (T := TX0) (N := 9) hx hb hts w_1 hown hK hP 0 rfl rfl 1 (by decide) w_3 (fun _ h9 => h9) rfl dX0_payPlanned_27 ?_
  refine lv_iload_n hx hb dX0_payPlanned_30 rfl (lv_at hl 0 rfl) ?_
  refine sv_iald (v := 0) hx hb hK hP 2 1 rfl rfl (vp_in_iff.mpr (by decide)) rfl dX0_payPlanned_31 ?_
  refine sv_iadd (v := 0) hx hb dX0_payPlanned_32 (by decide) ?_
  refine lv_istore_n (lv' := [(1, .int 0), (2, .int 3), (0, .ref h0)]) hx hb dX0_payPlanned_33 rfl hl (by decide) rfl (fun ls hl => ?_)
  refine lv_iinc (v := 4) (lv' := [(2, .int 4), (1, .int 0), (0, .ref h0)]) hx hb dX0_payPlanned_34 hl (k := 1) rfl (by decide) (by decide) rfl (fun ls hl => ?_)
  refine lv_goto (tgt := 4) hx hb dX0_payPlanned_37 (by decide) ?_
  refine lv_iload_n hx hb dX0_payPlanned_4 rfl (lv_at hl 0 rfl) ?_
  refine lv_bipush (v := 6) hx hb dX0_payPlanned_5 (by decide) ?_
  refine lv_icmp_ge (tgt := 40) hx hb dX0_payPlanned_7 (by decide) (fun h => absurd h (by decide)) (fun _ => ?_)
  refine lv_aload_n hx hb dX0_payPlanned_10 rfl (lv_at hl 2 rfl) ?_
  refine va_get (D := D) (ci := 0) (v := .ref p0) (C := RX0) (T := TX0) (N := 9) hx hb hts w_1 hown hK hP 0 rfl rfl 0 (by decide) w_2 (fun _ h9 => h9) rfl dX0_payPlanned_11 ?_
  refine lv_iload_n hx hb dX0_payPlanned_14 rfl (lv_at hl 0 rfl) ?_
  refine lv_dup2_11 hx hb dX0_payPlanned_15 rfl rfl ?_
  refine sv_iald (v := 0) hx hb hK hP 1 1 rfl rfl (vp_in_iff.mpr (by decide)) rfl dX0_payPlanned_16 ?_
  refine lv_aload_n hx hb dX0_payPlanned_17 rfl (lv_at hl 2 rfl) ?_
  refine va_get (D := D) (ci := 0) (v := .ref p1) (C := RX0) (T := TX0) (N := 9) hx hb hts w_1 hown hK hP 0 rfl rfl 1 (by decide) w_3 (fun _ h9 => h9) rfl dX0_payPlanned_18 ?_
  refine lv_iload_n hx hb dX0_payPlanned_21 rfl (lv_at hl 0 rfl) ?_
  refine sv_iald (v := 0) hx hb hK hP 2 1 rfl rfl (vp_in_iff.mpr (by decide)) rfl dX0_payPlanned_22 ?_
  refine sv_isub (v := 0) hx hb dX0_payPlanned_23 (by decide) ?_
  refine sv_iast hx hb hK hP hD hS 1 1 rfl rfl (vp_in_iff.mpr (by decide)) dX0_payPlanned_24 (fun g_5 H locs eg_5 hP hD hS => ?_)
  have eg_5 : g_5 = (fun _ => 0) := by rw [eg_5]; exact upd_zero _
  subst eg_5
  have hP : va_P D vwCl [(h0, .inr (0, [.ref p0, .ref p1, .ref p2, .int 0, .int 0, .int 0, .ref p6, .ref p7, .ref p8])), (p0, .inl (cI, 6, .inl (fun _ => 0))), (p1, .inl (cI, 6, .inl (fun _ => 0))), (p2, .inl (cI, 8, .inl (fun _ => 0))), (p6, .inl (cI, 8, .inl (fun _ => 0))), (p7, .inl (cI, 8, .inl (fun _ => 0))), (p8, .inl (cI, 64, .inl (fun _ => 0)))] H := hP
  have hD : va_D A [(h0, .inr (0, [.ref p0, .ref p1, .ref p2, .int 0, .int 0, .int 0, .ref p6, .ref p7, .ref p8])), (p0, .inl (cI, 6, .inl (fun _ => 0))), (p1, .inl (cI, 6, .inl (fun _ => 0))), (p2, .inl (cI, 8, .inl (fun _ => 0))), (p6, .inl (cI, 8, .inl (fun _ => 0))), (p7, .inl (cI, 8, .inl (fun _ => 0))), (p8, .inl (cI, 64, .inl (fun _ => 0)))] := hD
  refine lv_iload_n hx hb dX0_payPlanned_25 rfl (lv_at hl 1 rfl) ?_
  refine lv_aload_n hx hb dX0_payPlanned_26 rfl (lv_at hl 2 rfl) ?_
  refine va_get (D := D) (ci := 0) (v := .ref p1) (C := RX0) (T := TX0) (N := 9) hx hb hts w_1 hown hK hP 0 rfl rfl 1 (by decide) w_3 (fun _ h9 => h9) rfl dX0_payPlanned_27 ?_
  refine lv_iload_n hx hb dX0_payPlanned_30 rfl (lv_at hl 0 rfl) ?_
  refine sv_iald (v := 0) hx hb hK hP 2 1 rfl rfl (vp_in_iff.mpr (by decide)) rfl dX0_payPlanned_31 ?_
  refine sv_iadd (v := 0) hx hb dX0_payPlanned_32 (by decide) ?_
  refine lv_istore_n (lv' := [(1, .int 0), (2, .int 4), (0, .ref h0)]) hx hb dX0_payPlanned_33 rfl hl (by decide) rfl (fun ls hl => ?_)
  refine lv_iinc (v := 5) (lv' := [(2, .int 5), (1, .int 0), (0, .ref h0)]) hx hb dX0_payPlanned_34 hl (k := 1) rfl (by decide) (by decide) rfl (fun ls hl => ?_)
  refine lv_goto (tgt := 4) hx hb dX0_payPlanned_37 (by decide) ?_
  refine lv_iload_n hx hb dX0_payPlanned_4 rfl (lv_at hl 0 rfl) ?_
  refine lv_bipush (v := 6) hx hb dX0_payPlanned_5 (by decide) ?_
  refine lv_icmp_ge (tgt := 40) hx hb dX0_payPlanned_7 (by decide) (fun h => absurd h (by decide)) (fun _ => ?_)
  refine lv_aload_n hx hb dX0_payPlanned_10 rfl (lv_at hl 2 rfl) ?_
  refine va_get (D := D) (ci := 0) (v := .ref p0) (C := RX0) (T := TX0) (N := 9) hx hb hts w_1 hown hK hP 0 rfl rfl 0 (by decide) w_2 (fun _ h9 => h9) rfl dX0_payPlanned_11 ?_
  refine lv_iload_n hx hb dX0_payPlanned_14 rfl (lv_at hl 0 rfl) ?_
  refine lv_dup2_11 hx hb dX0_payPlanned_15 rfl rfl ?_
  refine sv_iald (v := 0) hx hb hK hP 1 1 rfl rfl (vp_in_iff.mpr (by decide)) rfl dX0_payPlanned_16 ?_
  refine lv_aload_n hx hb dX0_payPlanned_17 rfl (lv_at hl 2 rfl) ?_
  refine va_get (D := D) (ci := 0) (v := .ref p1) (C := RX0) (T := TX0) (N := 9) hx hb hts w_1 hown hK hP 0 rfl rfl 1 (by decide) w_3 (fun _ h9 => h9) rfl dX0_payPlanned_18 ?_
  refine lv_iload_n hx hb dX0_payPlanned_21 rfl (lv_at hl 0 rfl) ?_
  refine sv_iald (v := 0) hx hb hK hP 2 1 rfl rfl (vp_in_iff.mpr (by decide)) rfl dX0_payPlanned_22 ?_
  refine sv_isub (v := 0) hx hb dX0_payPlanned_23 (by decide) ?_
  refine sv_iast hx hb hK hP hD hS 1 1 rfl rfl (vp_in_iff.mpr (by decide)) dX0_payPlanned_24 (fun g_6 H locs eg_6 hP hD hS => ?_)
  have eg_6 : g_6 = (fun _ => 0) := by rw [eg_6]; exact upd_zero _
  subst eg_6
  have hP : va_P D vwCl [(h0, .inr (0, [.ref p0, .ref p1, .ref p2, .int 0, .int 0, .int 0, .ref p6, .ref p7, .ref p8])), (p0, .inl (cI, 6, .inl (fun _ => 0))), (p1, .inl (cI, 6, .inl (fun _ => 0))), (p2, .inl (cI, 8, .inl (fun _ => 0))), (p6, .inl (cI, 8, .inl (fun _ => 0))), (p7, .inl (cI, 8, .inl (fun _ => 0))), (p8, .inl (cI, 64, .inl (fun _ => 0)))] H := hP
  have hD : va_D A [(h0, .inr (0, [.ref p0, .ref p1, .ref p2, .int 0, .int 0, .int 0, .ref p6, .ref p7, .ref p8])), (p0, .inl (cI, 6, .inl (fun _ => 0))), (p1, .inl (cI, 6, .inl (fun _ => 0))), (p2, .inl (cI, 8, .inl (fun _ => 0))), (p6, .inl (cI, 8, .inl (fun _ => 0))), (p7, .inl (cI, 8, .inl (fun _ => 0))), (p8, .inl (cI, 64, .inl (fun _ => 0)))] := hD
  refine lv_iload_n hx hb dX0_payPlanned_25 rfl (lv_at hl 1 rfl) ?_
  refine lv_aload_n hx hb dX0_payPlanned_26 rfl (lv_at hl 2 rfl) ?_
  refine va_get (D := D) (ci := 0) (v := .ref p1) (C := RX0) (T := TX0) (N := 9) hx hb hts w_1 hown hK hP 0 rfl rfl 1 (by decide) w_3 (fun _ h9 => h9) rfl dX0_payPlanned_27 ?_
  refine lv_iload_n hx hb dX0_payPlanned_30 rfl (lv_at hl 0 rfl) ?_
  refine sv_iald (v := 0) hx hb hK hP 2 1 rfl rfl (vp_in_iff.mpr (by decide)) rfl dX0_payPlanned_31 ?_
  refine sv_iadd (v := 0) hx hb dX0_payPlanned_32 (by decide) ?_
  refine lv_istore_n (lv' := [(1, .int 0), (2, .int 5), (0, .ref h0)]) hx hb dX0_payPlanned_33 rfl hl (by decide) rfl (fun ls hl => ?_)
  refine lv_iinc (v := 6) (lv' := [(2, .int 6), (1, .int 0), (0, .ref h0)]) hx hb dX0_payPlanned_34 hl (k := 1) rfl (by decide) (by decide) rfl (fun ls hl => ?_)
  refine lv_goto (tgt := 4) hx hb dX0_payPlanned_37 (by decide) ?_
  refine lv_iload_n hx hb dX0_payPlanned_4 rfl (lv_at hl 0 rfl) ?_
  refine lv_bipush (v := 6) hx hb dX0_payPlanned_5 (by decide) ?_
  refine lv_icmp_ge (tgt := 40) hx hb dX0_payPlanned_7 (by decide) (fun _ => ?_) (fun h => absurd (by decide) h)
  refine lv_iconst (v := 0) hx hb dX0_payPlanned_40 (by decide) ?_
  refine lv_istore_n (lv' := [(2, .int 0), (1, .int 0), (0, .ref h0)]) hx hb dX0_payPlanned_41 rfl hl (by decide) rfl (fun ls hl => ?_)
  refine lv_iload_n hx hb dX0_payPlanned_42 rfl (lv_at hl 0 rfl) ?_
  refine lv_aload_n hx hb dX0_payPlanned_43 rfl (lv_at hl 2 rfl) ?_
  refine va_get (D := D) (ci := 0) (v := .int 0) (C := RX0) (T := TX0) (N := 9) hx hb hts w_1 hown hK hP 0 rfl rfl 3 (by decide) w_4 (fun _ h9 => h9) rfl dX0_payPlanned_44 ?_
  refine lv_icmp_ge (tgt := 71) hx hb dX0_payPlanned_47 (by decide) (fun _ => ?_) (fun h => absurd (by decide) h)
  refine lv_iload_n hx hb dX0_payPlanned_71 rfl (lv_at hl 1 rfl) ?_
  have hP9 := hP.sub (ws' := []) [] rfl
  have hD9 := hD.sub (ws' := []) [] (by decide) rfl
  exact W.iret (v := 0) hx hb hr (fun t ht hW => ⟨⟨_, (), rfl, rfl, by rw [ht]; exact hP9, va_K.moved hW.alike hK, hD9⟩, hS.F ht⟩) hS.2.2 dX0_payPlanned_72

