/-! Pure rows for the dressing: bits below eight guests. -/
theorem sh8 {i : Int32} (h : vp_in i 8) : vp_in ((1 : Int32) <<< (i &&& 31)) 129 := by
  obtain ⟨j, hj, rfl⟩ := vp_in_of h (by decide)
  match j, hj with
  | 0, _ => exact vp_in_iff.mpr (by decide)
  | 1, _ => exact vp_in_iff.mpr (by decide)
  | 2, _ => exact vp_in_iff.mpr (by decide)
  | 3, _ => exact vp_in_iff.mpr (by decide)
  | 4, _ => exact vp_in_iff.mpr (by decide)
  | 5, _ => exact vp_in_iff.mpr (by decide)
  | 6, _ => exact vp_in_iff.mpr (by decide)
  | 7, _ => exact vp_in_iff.mpr (by decide)
  | k + 8, h => exact absurd h (by omega)
theorem sh9 {e : Nat} (h : e ≤ 8) : vp_in ((1 : Int32) <<< (nI e &&& 31)) 257 ∧ vp_in ((1 : Int32) <<< (nI e &&& 31) - 1) 256 := by
  match e, h with
  | 0, _ => exact ⟨vp_in_iff.mpr (by decide), vp_in_iff.mpr (by decide)⟩
  | 1, _ => exact ⟨vp_in_iff.mpr (by decide), vp_in_iff.mpr (by decide)⟩
  | 2, _ => exact ⟨vp_in_iff.mpr (by decide), vp_in_iff.mpr (by decide)⟩
  | 3, _ => exact ⟨vp_in_iff.mpr (by decide), vp_in_iff.mpr (by decide)⟩
  | 4, _ => exact ⟨vp_in_iff.mpr (by decide), vp_in_iff.mpr (by decide)⟩
  | 5, _ => exact ⟨vp_in_iff.mpr (by decide), vp_in_iff.mpr (by decide)⟩
  | 6, _ => exact ⟨vp_in_iff.mpr (by decide), vp_in_iff.mpr (by decide)⟩
  | 7, _ => exact ⟨vp_in_iff.mpr (by decide), vp_in_iff.mpr (by decide)⟩
  | 8, _ => exact ⟨vp_in_iff.mpr (by decide), vp_in_iff.mpr (by decide)⟩
  | k + 9, h => exact absurd h (by omega)
theorem lp_inB {i B : Int32} {n : Nat} (hlo : 0 ≤ i.toInt) (c : ¬ B ≤ i) (hB : vp_in B (n + 1)) : vp_in i n := by
  have h := Int.not_le.mp (fun q => c (Int32.le_iff_toInt_le.mpr q))
  have h2 := (vp_in_iff.mp hB).2
  exact vp_in_iff.mpr ⟨hlo, by omega⟩
theorem i_or256 {x y : Int32} (hx : vp_in x 256) (hy : vp_in y 256) : vp_in (x ||| y) 256 := by
  obtain ⟨a, ha, rfl⟩ := vp_in_of hx (by decide)
  obtain ⟨b, hb, rfl⟩ := vp_in_of hy (by decide)
  rw [nI_or]
  exact vp_in_nI (Nat.or_lt_two_pow (n := 8) ha hb) (by decide)
def gI (f : Nat → Int32) (e : Nat) : Prop := ∀ k, k < e → vp_in (f k) 16
theorem gI_push {f : Nat → Int32} {e : Nat} {i : Int32} (h : gI f e) (hi : vp_in i 16) : gI (upd f e i) (e + 1) := by
  intro k hk
  unfold upd
  split
  · exact hi
  · exact h k (by omega)

set_option maxHeartbeats 4000000 in
set_option maxRecDepth 100000 in
theorem g_X2_gather (l : Launch) (D : va_G) (cB cI cJ cZ : ClassId) (sz : Nat) (h0 p0 p1 p3 p4 e9 : Nat) (b5 : Int32) (ch c0 c1 c2 c3 c4 c5 a : Nat) (f0 f3 g2 g4 : Nat → Int32) (ha : a ≤ 16) : Met l yX2_gather wsX2_gather ({ frames := 0, cells := 0, slots := 0, locals := 0 } : Room) (cPre D (aTy cB cI cJ cZ) [(h0, .inr (2, [.ref p0, .ref p1, .int (nI e9), .ref p3, .ref p4, .int b5])), (p0, .inl (cI, 8, .inl f0)), (p3, .inl (cI, 8, .inl f3)), (ch, .inr (1, [.ref c0, .ref c1, .ref c2, .ref c3, .ref c4, .ref c5, .int (nI a)])), (c2, .inl (cI, 16, .inl g2)), (c4, .inl (cI, 16, .inl g4))] sz [.ref h0, .ref ch]) (va_Qv (fun (u : Nat × (Nat → Int32) × (Nat → Int32)) => u.1 ≤ 8 ∧ gI u.2.1 u.1) (cB_ D (aTy cB cI cJ cZ) (va_A [(h0, .inr (2, [.ref p0, .ref p1, .int (nI e9), .ref p3, .ref p4, .int b5])), (p0, .inl (cI, 8, .inl f0)), (p3, .inl (cI, 8, .inl f3)), (ch, .inr (1, [.ref c0, .ref c1, .ref c2, .ref c3, .ref c4, .ref c5, .int (nI a)])), (c2, .inl (cI, 16, .inl g2)), (c4, .inl (cI, 16, .inl g4))] sz) (fun u => [(h0, .inr (2, [.ref p0, .ref p1, .int (nI (u.1)), .ref p3, .ref p4, .int b5])), (p0, .inl (cI, 8, .inl u.2.1)), (p3, .inl (cI, 8, .inl u.2.2)), (ch, .inr (1, [.ref c0, .ref c1, .ref c2, .ref c3, .ref c4, .ref c5, .int (nI a)])), (c2, .inl (cI, 16, .inl g2)), (c4, .inl (cI, 16, .inl g4))])) (va_A [(h0, .inr (2, [.ref p0, .ref p1, .int (nI e9), .ref p3, .ref p4, .int b5])), (p0, .inl (cI, 8, .inl f0)), (p3, .inl (cI, 8, .inl f3)), (ch, .inr (1, [.ref c0, .ref c1, .ref c2, .ref c3, .ref c4, .ref c5, .int (nI a)])), (c2, .inl (cI, 16, .inl g2)), (c4, .inl (cI, 16, .inl g4))] sz)) 0 0 (va_A [(h0, .inr (2, [.ref p0, .ref p1, .int (nI e9), .ref p3, .ref p4, .int b5])), (p0, .inl (cI, 8, .inl f0)), (p3, .inl (cI, 8, .inl f3)), (ch, .inr (1, [.ref c0, .ref c1, .ref c2, .ref c3, .ref c4, .ref c5, .int (nI a)])), (c2, .inl (cI, 16, .inl g2)), (c4, .inl (cI, 16, .inl g4))] sz) := by
  refine Met.ofW (cc := cX2_gather) (maxL := 3) (ret := none) (by decide) rfl ?_
  intro p e s m args below meth c s₁ B hml hv
  obtain ⟨rfl, hsz, hP, hK, hD0⟩ := hv
  have hx := B.exec
  have hb := B.bytes
  have hr := B.returns
  have hts := atoms_spec (ws := wsX2_gather) B.pre
  have hown : s.vm.findClass RX2 = some m.cls := findClass_of_methodNamed B.named
  have hlocks := B.notSynchronized
  subst hsz
  have hD := hD0.self (sz := s.heap.size)
  generalize hAe : va_A [(h0, .inr (2, [.ref p0, .ref p1, .int (nI e9), .ref p3, .ref p4, .int b5])), (p0, .inl (cI, 8, .inl f0)), (p3, .inl (cI, 8, .inl f3)), (ch, .inr (1, [.ref c0, .ref c1, .ref c2, .ref c3, .ref c4, .ref c5, .int (nI a)])), (c2, .inl (cI, 16, .inl g2)), (c4, .inl (cI, 16, .inl g4))] s.heap.size = A at hD ⊢
  have hA : ∀ q : Nat, s.heap.size ≤ q → A q := fun q h => by rw [← hAe]; exact Or.inr h
  have hS : va_S A s.heap s.heap [] := va_S.rf
  have hP : va_P D vwCl [(h0, .inr (2, [.ref p0, .ref p1, .int (nI e9), .ref p3, .ref p4, .int b5])), (p0, .inl (cI, 8, .inl f0)), (p3, .inl (cI, 8, .inl f3)), (ch, .inr (1, [.ref c0, .ref c1, .ref c2, .ref c3, .ref c4, .ref c5, .int (nI a)])), (c2, .inl (cI, 16, .inl g2)), (c4, .inl (cI, 16, .inl g4))] s.heap := hP
  have w_1 : ∀ w ∈ wsX20, w ∈ wsX2_gather := by decide +kernel
  have w_2 := hts (Cond.fieldLink RX2 39 "BlueCoats$Dressing" "guests" "I") (by decide +kernel)
  have w_3 : ∀ w ∈ wsX10, w ∈ wsX2_gather := by decide +kernel
  have w_4 := hts (Cond.fieldLink RX2 52 "BlueCoats$Children" "number" "I") (by decide +kernel)
  have w_5 := hts (Cond.fieldLink RX2 57 "BlueCoats$Children" "state" "[I") (by decide +kernel)
  have w_6 := hts (Cond.fieldLink RX2 11 "BlueCoats$Dressing" "guest" "[I") (by decide +kernel)
  have w_7 := hts (Cond.fieldLink RX2 18 "BlueCoats$Dressing" "size" "[I") (by decide +kernel)
  have w_8 := hts (Cond.fieldLink RX2 60 "BlueCoats$Children" "size" "[I") (by decide +kernel)
  have hl := lv_entry ([.ref h0, .ref ch]) (n := 3) (Nat.le_of_ble_eq_true rfl)
  rw [lg_entry_eq]
  generalize (lg_sl ([.ref h0, .ref ch]) ++ List.replicate (3 - (lg_sl ([.ref h0, .ref ch])).length) Slot.unset).toArray = ls at hl ⊢
  have hl : lv_has ls 3 [(0, .ref h0), (1, .ref ch)] := hl
  generalize hQ : MQ below _ _ s _ _ _ = Q0
  refine lv_aload_n hx hb dX2_gather_0 rfl (lv_at hl 0 rfl) ?_
  refine lv_iconst (v := 0) hx hb dX2_gather_1 (by decide) ?_
  refine va_put (D := D) (ci := 2) (v := .int 0) (ty := .int) (C := RX2) (T := TX2) (N := 6) hx hb hts w_1 tyX2 tyX2_ok nmX2 hown hK hP hD hS 0 rfl rfl 2 (by decide) w_2 (fun _ h9 => h9) rfl (by decide +kernel) rfl rfl (Nat.le_of_ble_eq_true rfl) dX2_gather_2 (fun H locs hP hD hS => ?_)
  have hP : va_P D vwCl [(h0, .inr (2, [.ref p0, .ref p1, .int 0, .ref p3, .ref p4, .int b5])), (p0, .inl (cI, 8, .inl f0)), (p3, .inl (cI, 8, .inl f3)), (ch, .inr (1, [.ref c0, .ref c1, .ref c2, .ref c3, .ref c4, .ref c5, .int (nI a)])), (c2, .inl (cI, 16, .inl g2)), (c4, .inl (cI, 16, .inl g4))] H := hP
  have hD : va_D A [(h0, .inr (2, [.ref p0, .ref p1, .int 0, .ref p3, .ref p4, .int b5])), (p0, .inl (cI, 8, .inl f0)), (p3, .inl (cI, 8, .inl f3)), (ch, .inr (1, [.ref c0, .ref c1, .ref c2, .ref c3, .ref c4, .ref c5, .int (nI a)])), (c2, .inl (cI, 16, .inl g2)), (c4, .inl (cI, 16, .inl g4))] := hD
  refine lv_iconst (v := 0) hx hb dX2_gather_5 (by decide) ?_
  refine lv_istore_n (lv' := [(2, .int 0), (0, .ref h0), (1, .ref ch)]) hx hb dX2_gather_6 rfl hl (by decide) rfl (fun ls hl => ?_)
  have L_1 : ∀ (n : Nat) (i_7 : Int32) (f_p0_7 : Nat → Int32) (f_p3_7 : Nat → Int32) (n_h0_2_7 : Nat) (H : Heap) (locs : List Loc) (ls : Array Slot), (Int32.toInt (nI a) - i_7.toInt).toNat < n → 0 ≤ i_7.toInt → (n_h0_2_7 ≤ 8) → (gI f_p0_7 n_h0_2_7) → va_P D vwCl [(h0, .inr (2, [.ref p0, .ref p1, .int (nI n_h0_2_7), .ref p3, .ref p4, .int b5])), (p0, .inl (cI, 8, .inl f_p0_7)), (p3, .inl (cI, 8, .inl f_p3_7)), (ch, .inr (1, [.ref c0, .ref c1, .ref c2, .ref c3, .ref c4, .ref c5, .int (nI a)])), (c2, .inl (cI, 16, .inl g2)), (c4, .inl (cI, 16, .inl g4))] H → va_D A [(h0, .inr (2, [.ref p0, .ref p1, .int (nI n_h0_2_7), .ref p3, .ref p4, .int b5])), (p0, .inl (cI, 8, .inl f_p0_7)), (p3, .inl (cI, 8, .inl f_p3_7)), (ch, .inr (1, [.ref c0, .ref c1, .ref c2, .ref c3, .ref c4, .ref c5, .int (nI a)])), (c2, .inl (cI, 16, .inl g2)), (c4, .inl (cI, 16, .inl g4))] → va_S A s.heap H locs → lv_has ls 3 [(0, .ref h0), (1, .ref ch), (2, .int i_7)] → W p l e (headSpec wsX2_gather ({ frames := 0, cells := 0, slots := 0, locals := 0 } : Room)).room s m ([.ref h0, .ref ch] : List Value).toArray below meth c H locs 0 0 Q0 (F0 m 7 ls []) := by
    intro n
    induction n with
    | zero => intro i_7 f_p0_7 f_p3_7 n_h0_2_7 H locs ls hn_7 hlo_7 hg_7 hG_7 hP hD hS hl; exact absurd hn_7 (Nat.not_lt_zero _)
    | succ n ih_L_1 =>
      intro i_7 f_p0_7 f_p3_7 n_h0_2_7 H locs ls hn_7 hlo_7 hg_7 hG_7 hP hD hS hl
      refine lv_iload_n hx hb dX2_gather_7 rfl (lv_at hl 2 rfl) ?_
      refine lv_aload_n hx hb dX2_gather_8 rfl (lv_at hl 1 rfl) ?_
      refine va_get (D := D) (ci := 1) (v := .int (nI a)) (C := RX1) (T := TX1) (N := 7) hx hb hts w_3 hown hK hP 3 rfl rfl 6 (by decide) w_4 (fun _ h9 => h9) rfl dX2_gather_9 ?_
      refine lv_icmp_ge (tgt := 75) hx hb dX2_gather_12 (by decide) (fun c_12 => ?_) (fun c_12 => ?_)
      ·
        rw [← hQ]
        have hP9 := hP.sub (ws' := [(h0, .inr (2, [.ref p0, .ref p1, .int (nI n_h0_2_7), .ref p3, .ref p4, .int b5])), (p0, .inl (cI, 8, .inl f_p0_7)), (p3, .inl (cI, 8, .inl f_p3_7)), (ch, .inr (1, [.ref c0, .ref c1, .ref c2, .ref c3, .ref c4, .ref c5, .int (nI a)])), (c2, .inl (cI, 16, .inl g2)), (c4, .inl (cI, 16, .inl g4))]) [0, 1, 2, 3, 4, 5] rfl
        have hD9 := hD.sub (ws' := [(h0, .inr (2, [.ref p0, .ref p1, .int (nI n_h0_2_7), .ref p3, .ref p4, .int b5])), (p0, .inl (cI, 8, .inl f_p0_7)), (p3, .inl (cI, 8, .inl f_p3_7)), (ch, .inr (1, [.ref c0, .ref c1, .ref c2, .ref c3, .ref c4, .ref c5, .int (nI a)])), (c2, .inl (cI, 16, .inl g2)), (c4, .inl (cI, 16, .inl g4))]) [0, 1, 2, 3, 4, 5] (by decide) rfl
        exact W.vret hx hb hr (fun t ht hW => ⟨⟨(n_h0_2_7, f_p0_7, f_p3_7), rfl, ⟨hg_7, hG_7⟩, by rw [ht]; exact hP9, va_K.moved hW.alike hK, hD9⟩, hS.F ht⟩) hS.2.2 dX2_gather_75
      ·
        refine lv_aload_n hx hb dX2_gather_15 rfl (lv_at hl 0 rfl) ?_
        refine va_get (D := D) (ci := 2) (v := .int (nI n_h0_2_7)) (C := RX2) (T := TX2) (N := 6) hx hb hts w_1 hown hK hP 0 rfl rfl 2 (by decide) w_2 (fun _ h9 => h9) rfl dX2_gather_16 ?_
        refine lv_bipush (v := 8) hx hb dX2_gather_19 (by decide) ?_
        refine lv_icmp_ge (tgt := 75) hx hb dX2_gather_21 (by decide) (fun c_21 => ?_) (fun c_21 => ?_)
        ·
          rw [← hQ]
          have hP9 := hP.sub (ws' := [(h0, .inr (2, [.ref p0, .ref p1, .int (nI n_h0_2_7), .ref p3, .ref p4, .int b5])), (p0, .inl (cI, 8, .inl f_p0_7)), (p3, .inl (cI, 8, .inl f_p3_7)), (ch, .inr (1, [.ref c0, .ref c1, .ref c2, .ref c3, .ref c4, .ref c5, .int (nI a)])), (c2, .inl (cI, 16, .inl g2)), (c4, .inl (cI, 16, .inl g4))]) [0, 1, 2, 3, 4, 5] rfl
          have hD9 := hD.sub (ws' := [(h0, .inr (2, [.ref p0, .ref p1, .int (nI n_h0_2_7), .ref p3, .ref p4, .int b5])), (p0, .inl (cI, 8, .inl f_p0_7)), (p3, .inl (cI, 8, .inl f_p3_7)), (ch, .inr (1, [.ref c0, .ref c1, .ref c2, .ref c3, .ref c4, .ref c5, .int (nI a)])), (c2, .inl (cI, 16, .inl g2)), (c4, .inl (cI, 16, .inl g4))]) [0, 1, 2, 3, 4, 5] (by decide) rfl
          exact W.vret hx hb hr (fun t ht hW => ⟨⟨(n_h0_2_7, f_p0_7, f_p3_7), rfl, ⟨hg_7, hG_7⟩, by rw [ht]; exact hP9, va_K.moved hW.alike hK, hD9⟩, hS.F ht⟩) hS.2.2 dX2_gather_75
        ·
          have h21 : n_h0_2_7 < 8 := nI_ltg 8 (by omega) (by decide) c_21
          refine lv_aload_n hx hb dX2_gather_24 rfl (lv_at hl 1 rfl) ?_
          refine va_get (D := D) (ci := 1) (v := .ref c4) (C := RX1) (T := TX1) (N := 7) hx hb hts w_3 hown hK hP 3 rfl rfl 4 (by decide) w_5 (fun _ h9 => h9) rfl dX2_gather_25 ?_
          refine lv_iload_n hx hb dX2_gather_28 rfl (lv_at hl 2 rfl) ?_
          refine sv_iald (v := g4 i_7.toNatClampNeg) hx hb hK hP 5 1 rfl rfl (lp_inN hlo_7 c_12 ha (by decide)) rfl dX2_gather_29 ?_
          refine lv_topi (fun v_2 ev_2 => ?_)
          refine lv_iconst (v := 1) hx hb dX2_gather_30 (by decide) ?_
          refine lv_icmp_ne (tgt := 69) hx hb dX2_gather_31 (by decide) (fun c_31 => ?_) (fun c_31 => ?_)
          ·
            refine lv_iinc (v := i_7 + 1) (lv' := [(2, .int (i_7 + 1)), (0, .ref h0), (1, .ref ch)]) hx hb dX2_gather_69 hl (k := 2) rfl rfl (by decide) rfl (fun ls hl => ?_)
            refine lv_goto (tgt := 7) hx hb dX2_gather_72 (by decide) ?_
            exact ih_L_1 (i_7 + 1) f_p0_7 f_p3_7 n_h0_2_7 _ _ ls (lp_dec hn_7 c_12) (by have h9 := lp_inc c_12; omega) hg_7 hG_7 hP hD hS (lv_sub hl [1, 2, 0] rfl)
          ·
            refine lv_aload_n hx hb dX2_gather_34 rfl (lv_at hl 0 rfl) ?_
            refine va_get (D := D) (ci := 2) (v := .ref p0) (C := RX2) (T := TX2) (N := 6) hx hb hts w_1 hown hK hP 0 rfl rfl 0 (by decide) w_6 (fun _ h9 => h9) rfl dX2_gather_35 ?_
            refine lv_aload_n hx hb dX2_gather_38 rfl (lv_at hl 0 rfl) ?_
            refine va_get (D := D) (ci := 2) (v := .int (nI n_h0_2_7)) (C := RX2) (T := TX2) (N := 6) hx hb hts w_1 hown hK hP 0 rfl rfl 2 (by decide) w_2 (fun _ h9 => h9) rfl dX2_gather_39 ?_
            refine lv_iload_n hx hb dX2_gather_42 rfl (lv_at hl 2 rfl) ?_
            refine sv_iast hx hb hK hP hD hS 1 1 rfl rfl (vp_in_nI h21 (by decide)) dX2_gather_43 (fun g_3 H locs eg_3 hP hD hS => ?_)
            have eg_3 : g_3 = upd f_p0_7 n_h0_2_7 i_7 := by rw [eg_3, nI_clamp (by omega)]
            subst eg_3
            have hP : va_P D vwCl [(h0, .inr (2, [.ref p0, .ref p1, .int (nI n_h0_2_7), .ref p3, .ref p4, .int b5])), (p0, .inl (cI, 8, .inl (upd f_p0_7 n_h0_2_7 i_7))), (p3, .inl (cI, 8, .inl f_p3_7)), (ch, .inr (1, [.ref c0, .ref c1, .ref c2, .ref c3, .ref c4, .ref c5, .int (nI a)])), (c2, .inl (cI, 16, .inl g2)), (c4, .inl (cI, 16, .inl g4))] H := hP
            have hD : va_D A [(h0, .inr (2, [.ref p0, .ref p1, .int (nI n_h0_2_7), .ref p3, .ref p4, .int b5])), (p0, .inl (cI, 8, .inl (upd f_p0_7 n_h0_2_7 i_7))), (p3, .inl (cI, 8, .inl f_p3_7)), (ch, .inr (1, [.ref c0, .ref c1, .ref c2, .ref c3, .ref c4, .ref c5, .int (nI a)])), (c2, .inl (cI, 16, .inl g2)), (c4, .inl (cI, 16, .inl g4))] := hD
            refine lv_aload_n hx hb dX2_gather_44 rfl (lv_at hl 0 rfl) ?_
            refine va_get (D := D) (ci := 2) (v := .ref p3) (C := RX2) (T := TX2) (N := 6) hx hb hts w_1 hown hK hP 0 rfl rfl 3 (by decide) w_7 (fun _ h9 => h9) rfl dX2_gather_45 ?_
            refine lv_aload_n hx hb dX2_gather_48 rfl (lv_at hl 0 rfl) ?_
            refine va_get (D := D) (ci := 2) (v := .int (nI n_h0_2_7)) (C := RX2) (T := TX2) (N := 6) hx hb hts w_1 hown hK hP 0 rfl rfl 2 (by decide) w_2 (fun _ h9 => h9) rfl dX2_gather_49 ?_
            refine lv_aload_n hx hb dX2_gather_52 rfl (lv_at hl 1 rfl) ?_
            refine va_get (D := D) (ci := 1) (v := .ref c2) (C := RX1) (T := TX1) (N := 7) hx hb hts w_3 hown hK hP 3 rfl rfl 2 (by decide) w_8 (fun _ h9 => h9) rfl dX2_gather_53 ?_
            refine lv_iload_n hx hb dX2_gather_56 rfl (lv_at hl 2 rfl) ?_
            refine sv_iald (v := g2 i_7.toNatClampNeg) hx hb hK hP 4 1 rfl rfl (lp_inN hlo_7 c_12 ha (by decide)) rfl dX2_gather_57 ?_
            refine lv_topi (fun v_4 ev_4 => ?_)
            refine sv_iast hx hb hK hP hD hS 2 1 rfl rfl (vp_in_nI h21 (by decide)) dX2_gather_58 (fun g_5 H locs eg_5 hP hD hS => ?_)
            have hP : va_P D vwCl [(h0, .inr (2, [.ref p0, .ref p1, .int (nI n_h0_2_7), .ref p3, .ref p4, .int b5])), (p0, .inl (cI, 8, .inl (upd f_p0_7 n_h0_2_7 i_7))), (p3, .inl (cI, 8, .inl g_5)), (ch, .inr (1, [.ref c0, .ref c1, .ref c2, .ref c3, .ref c4, .ref c5, .int (nI a)])), (c2, .inl (cI, 16, .inl g2)), (c4, .inl (cI, 16, .inl g4))] H := hP
            have hD : va_D A [(h0, .inr (2, [.ref p0, .ref p1, .int (nI n_h0_2_7), .ref p3, .ref p4, .int b5])), (p0, .inl (cI, 8, .inl (upd f_p0_7 n_h0_2_7 i_7))), (p3, .inl (cI, 8, .inl g_5)), (ch, .inr (1, [.ref c0, .ref c1, .ref c2, .ref c3, .ref c4, .ref c5, .int (nI a)])), (c2, .inl (cI, 16, .inl g2)), (c4, .inl (cI, 16, .inl g4))] := hD
            refine lv_aload_n hx hb dX2_gather_59 rfl (lv_at hl 0 rfl) ?_
            refine lv_dup hx hb dX2_gather_60 rfl ?_
            refine va_get (D := D) (ci := 2) (v := .int (nI n_h0_2_7)) (C := RX2) (T := TX2) (N := 6) hx hb hts w_1 hown hK hP 0 rfl rfl 2 (by decide) w_2 (fun _ h9 => h9) rfl dX2_gather_61 ?_
            refine lv_iconst (v := 1) hx hb dX2_gather_64 (by decide) ?_
            refine sv_iadd (v := nI (n_h0_2_7 + 1)) hx hb dX2_gather_65 (ax_add _ 1) ?_
            refine va_put (D := D) (ci := 2) (v := .int (nI (n_h0_2_7 + 1))) (ty := .int) (C := RX2) (T := TX2) (N := 6) hx hb hts w_1 tyX2 tyX2_ok nmX2 hown hK hP hD hS 0 rfl rfl 2 (by decide) w_2 (fun _ h9 => h9) rfl (by decide +kernel) rfl rfl (Nat.le_of_ble_eq_true rfl) dX2_gather_66 (fun H locs hP hD hS => ?_)
            have hP : va_P D vwCl [(h0, .inr (2, [.ref p0, .ref p1, .int (nI (n_h0_2_7 + 1)), .ref p3, .ref p4, .int b5])), (p0, .inl (cI, 8, .inl (upd f_p0_7 n_h0_2_7 i_7))), (p3, .inl (cI, 8, .inl g_5)), (ch, .inr (1, [.ref c0, .ref c1, .ref c2, .ref c3, .ref c4, .ref c5, .int (nI a)])), (c2, .inl (cI, 16, .inl g2)), (c4, .inl (cI, 16, .inl g4))] H := hP
            have hD : va_D A [(h0, .inr (2, [.ref p0, .ref p1, .int (nI (n_h0_2_7 + 1)), .ref p3, .ref p4, .int b5])), (p0, .inl (cI, 8, .inl (upd f_p0_7 n_h0_2_7 i_7))), (p3, .inl (cI, 8, .inl g_5)), (ch, .inr (1, [.ref c0, .ref c1, .ref c2, .ref c3, .ref c4, .ref c5, .int (nI a)])), (c2, .inl (cI, 16, .inl g2)), (c4, .inl (cI, 16, .inl g4))] := hD
            refine lv_iinc (v := i_7 + 1) (lv' := [(2, .int (i_7 + 1)), (0, .ref h0), (1, .ref ch)]) hx hb dX2_gather_69 hl (k := 2) rfl rfl (by decide) rfl (fun ls hl => ?_)
            refine lv_goto (tgt := 7) hx hb dX2_gather_72 (by decide) ?_
            exact ih_L_1 (i_7 + 1) (upd f_p0_7 n_h0_2_7 i_7) g_5 (n_h0_2_7 + 1) _ _ ls (lp_dec hn_7 c_12) (by have h9 := lp_inc c_12; omega) h21 (gI_push hG_7 (lp_inN hlo_7 c_12 ha (by decide))) hP hD hS (lv_sub hl [1, 2, 0] rfl)
  exact L_1 _ 0 f0 f3 0 _ _ ls (Nat.lt_succ_self _) (by decide) (by decide) (fun k h => absurd h (Nat.not_lt_zero _)) hP hD hS (lv_sub hl [1, 2, 0] rfl)

set_option maxHeartbeats 4000000 in
set_option maxRecDepth 100000 in
theorem g_X2_great (l : Launch) (D : va_G) (cB cI cJ cZ : ClassId) (h0 p0 p1 p3 p4 e9 : Nat) (b5 : Int32) (f3 : Nat → Int32) (q : Int32) (he : e9 ≤ 8) : Met l yX2_greatestBut wsX2_greatestBut ({ frames := 0, cells := 0, slots := 0, locals := 0 } : Room) (cRd D (aTy cB cI cJ cZ) [(h0, .inr (2, [.ref p0, .ref p1, .int (nI e9), .ref p3, .ref p4, .int b5])), (p3, .inl (cI, 8, .inl f3))] [.ref h0, .int q]) (vp_Si (fun r : Int32 => vp_in r 8)) 0 0 (fun _ => False) := by
  refine Met.ofW (cc := cX2_greatestBut) (maxL := 5) (ret := (some .int)) (by decide) rfl ?_
  intro p e s m args below meth c s₁ B hml hv
  obtain ⟨rfl, hP, hK⟩ := hv
  have hx := B.exec
  have hb := B.bytes
  have hr := B.returns
  have hts := atoms_spec (ws := wsX2_greatestBut) B.pre
  have hown : s.vm.findClass RX2 = some m.cls := findClass_of_methodNamed B.named
  have hlocks := B.notSynchronized
  have hP : va_P D vwCl [(h0, .inr (2, [.ref p0, .ref p1, .int (nI e9), .ref p3, .ref p4, .int b5])), (p3, .inl (cI, 8, .inl f3))] s.heap := hP
  have w_1 : ∀ w ∈ wsX20, w ∈ wsX2_greatestBut := by decide +kernel
  have w_2 := hts (Cond.fieldLink RX2 39 "BlueCoats$Dressing" "guests" "I") (by decide +kernel)
  have w_3 := hts (Cond.fieldLink RX2 18 "BlueCoats$Dressing" "size" "[I") (by decide +kernel)
  have hl := lv_entry ([.ref h0, .int q]) (n := 5) (Nat.le_of_ble_eq_true rfl)
  rw [lg_entry_eq]
  generalize (lg_sl ([.ref h0, .int q]) ++ List.replicate (5 - (lg_sl ([.ref h0, .int q])).length) Slot.unset).toArray = ls at hl ⊢
  have hl : lv_has ls 5 [(0, .ref h0), (1, .int q)] := hl
  generalize hQ : MQ below _ _ s _ _ _ = Q0
  refine lv_iconst (v := 0) hx hb dX2_greatestBut_0 (by decide) ?_
  refine lv_istore_n (lv' := [(2, .int 0), (0, .ref h0), (1, .int q)]) hx hb dX2_greatestBut_1 rfl hl (by decide) rfl (fun ls hl => ?_)
  refine lv_iconst (v := (-1)) hx hb dX2_greatestBut_2 (by decide) ?_
  refine lv_istore_n (lv' := [(3, .int (-1)), (2, .int 0), (0, .ref h0), (1, .int q)]) hx hb dX2_greatestBut_3 rfl hl (by decide) rfl (fun ls hl => ?_)
  refine lv_iconst (v := 0) hx hb dX2_greatestBut_4 (by decide) ?_
  refine lv_istore (lv' := [(4, .int 0), (3, .int (-1)), (2, .int 0), (0, .ref h0), (1, .int q)]) hx hb dX2_greatestBut_5 hl (by decide) rfl (fun ls hl => ?_)
  have L_1 : ∀ (n : Nat) (i_7 : Int32) (l_2_7 : Int32) (l_3_7 : Int32) (ls : Array Slot), (Int32.toInt (nI e9) - i_7.toInt).toNat < n → 0 ≤ i_7.toInt → (vp_in l_2_7 8) → va_P D vwCl [(h0, .inr (2, [.ref p0, .ref p1, .int (nI e9), .ref p3, .ref p4, .int b5])), (p3, .inl (cI, 8, .inl f3))] s.heap → lv_has ls 5 [(0, .ref h0), (1, .int q), (2, .int l_2_7), (3, .int l_3_7), (4, .int i_7)] → W p l e (headSpec wsX2_greatestBut ({ frames := 0, cells := 0, slots := 0, locals := 0 } : Room)).room s m ([.ref h0, .int q] : List Value).toArray below meth c s.heap [] 0 0 Q0 (F0 m 7 ls []) := by
    intro n
    induction n with
    | zero => intro i_7 l_2_7 l_3_7 ls hn_7 hlo_7 hi_7 hP hl; exact absurd hn_7 (Nat.not_lt_zero _)
    | succ n ih_L_1 =>
      intro i_7 l_2_7 l_3_7 ls hn_7 hlo_7 hi_7 hP hl
      refine lv_iload hx hb dX2_greatestBut_7 (lv_at hl 4 rfl) ?_
      refine lv_aload_n hx hb dX2_greatestBut_9 rfl (lv_at hl 0 rfl) ?_
      refine va_get (D := D) (ci := 2) (v := .int (nI e9)) (C := RX2) (T := TX2) (N := 6) hx hb hts w_1 hown hK hP 0 rfl rfl 2 (by decide) w_2 (fun _ h9 => h9) rfl dX2_greatestBut_10 ?_
      refine lv_icmp_ge (tgt := 53) hx hb dX2_greatestBut_13 (by decide) (fun c_13 => ?_) (fun c_13 => ?_)
      ·
        refine lv_iload_n hx hb dX2_greatestBut_53 rfl (lv_at hl 2 rfl) ?_
        rw [← hQ]
        exact W.iret (v := l_2_7) hx hb hr (fun t ht hW => ⟨_, rfl, hi_7, ht⟩) (fun q h => nomatch h) dX2_greatestBut_54
      ·
        refine lv_iload_n hx hb dX2_greatestBut_16 rfl (lv_at hl 1 rfl) ?_
        refine lv_iconst (v := 1) hx hb dX2_greatestBut_17 (by decide) ?_
        refine lv_iload hx hb dX2_greatestBut_18 (lv_at hl 4 rfl) ?_
        refine sv_ishl (v := 1 <<< (i_7 &&& 31)) hx hb dX2_greatestBut_20 rfl ?_
        refine lv_topi (fun v_2 ev_2 => ?_)
        refine sv_iand (v := q &&& v_2) hx hb dX2_greatestBut_21 rfl ?_
        refine lv_topi (fun v_3 ev_3 => ?_)
        refine lv_if_ne (tgt := 47) hx hb dX2_greatestBut_22 (by decide) (fun c_22 => ?_) (fun c_22 => ?_)
        ·
          refine lv_iinc (v := i_7 + 1) (lv' := [(4, .int (i_7 + 1)), (0, .ref h0), (1, .int q), (2, .int l_2_7), (3, .int l_3_7)]) hx hb dX2_greatestBut_47 hl (k := 4) rfl rfl (by decide) rfl (fun ls hl => ?_)
          refine lv_goto (tgt := 7) hx hb dX2_greatestBut_50 (by decide) ?_
          exact ih_L_1 (i_7 + 1) l_2_7 l_3_7 ls (lp_dec hn_7 c_13) (by have h9 := lp_inc c_13; omega) hi_7 hP (lv_sub hl [1, 2, 3, 4, 0] rfl)
        ·
          refine lv_aload_n hx hb dX2_greatestBut_25 rfl (lv_at hl 0 rfl) ?_
          refine va_get (D := D) (ci := 2) (v := .ref p3) (C := RX2) (T := TX2) (N := 6) hx hb hts w_1 hown hK hP 0 rfl rfl 3 (by decide) w_3 (fun _ h9 => h9) rfl dX2_greatestBut_26 ?_
          refine lv_iload hx hb dX2_greatestBut_29 (lv_at hl 4 rfl) ?_
          refine sv_iald (v := f3 i_7.toNatClampNeg) hx hb hK hP 1 1 rfl rfl (lp_inN hlo_7 c_13 he (by decide)) rfl dX2_greatestBut_31 ?_
          refine lv_topi (fun v_4 ev_4 => ?_)
          refine lv_iload_n hx hb dX2_greatestBut_32 rfl (lv_at hl 3 rfl) ?_
          refine lv_icmp_le (tgt := 47) hx hb dX2_greatestBut_33 (by decide) (fun c_33 => ?_) (fun c_33 => ?_)
          ·
            refine lv_iinc (v := i_7 + 1) (lv' := [(4, .int (i_7 + 1)), (0, .ref h0), (1, .int q), (2, .int l_2_7), (3, .int l_3_7)]) hx hb dX2_greatestBut_47 hl (k := 4) rfl rfl (by decide) rfl (fun ls hl => ?_)
            refine lv_goto (tgt := 7) hx hb dX2_greatestBut_50 (by decide) ?_
            exact ih_L_1 (i_7 + 1) l_2_7 l_3_7 ls (lp_dec hn_7 c_13) (by have h9 := lp_inc c_13; omega) hi_7 hP (lv_sub hl [1, 2, 3, 4, 0] rfl)
          ·
            refine lv_iload hx hb dX2_greatestBut_36 (lv_at hl 4 rfl) ?_
            refine lv_istore_n (lv' := [(2, .int i_7), (0, .ref h0), (1, .int q), (3, .int l_3_7), (4, .int i_7)]) hx hb dX2_greatestBut_38 rfl hl (by decide) rfl (fun ls hl => ?_)
            refine lv_aload_n hx hb dX2_greatestBut_39 rfl (lv_at hl 1 rfl) ?_
            refine va_get (D := D) (ci := 2) (v := .ref p3) (C := RX2) (T := TX2) (N := 6) hx hb hts w_1 hown hK hP 0 rfl rfl 3 (by decide) w_3 (fun _ h9 => h9) rfl dX2_greatestBut_40 ?_
            refine lv_iload hx hb dX2_greatestBut_43 (lv_at hl 4 rfl) ?_
            refine sv_iald (v := f3 i_7.toNatClampNeg) hx hb hK hP 1 1 rfl rfl (lp_inN hlo_7 c_13 he (by decide)) rfl dX2_greatestBut_45 ?_
            refine lv_topi (fun v_5 ev_5 => ?_)
            refine lv_istore_n (lv' := [(3, .int v_5), (2, .int i_7), (0, .ref h0), (1, .int q), (4, .int i_7)]) hx hb dX2_greatestBut_46 rfl hl (by decide) rfl (fun ls hl => ?_)
            refine lv_iinc (v := i_7 + 1) (lv' := [(4, .int (i_7 + 1)), (3, .int v_5), (2, .int i_7), (0, .ref h0), (1, .int q)]) hx hb dX2_greatestBut_47 hl (k := 4) rfl rfl (by decide) rfl (fun ls hl => ?_)
            refine lv_goto (tgt := 7) hx hb dX2_greatestBut_50 (by decide) ?_
            exact ih_L_1 (i_7 + 1) i_7 v_5 ls (lp_dec hn_7 c_13) (by have h9 := lp_inc c_13; omega) (lp_inN hlo_7 c_13 he (by decide)) hP (lv_sub hl [3, 4, 2, 1, 0] rfl)
  exact L_1 _ 0 0 (-1) ls (Nat.lt_succ_self _) (by decide) (vp_in_iff.mpr (by decide)) hP (lv_sub hl [3, 4, 2, 1, 0] rfl)

set_option maxHeartbeats 4000000 in
set_option maxRecDepth 100000 in
theorem g_bitI (l : Launch) (D : va_G) (cB cI cJ cZ : ClassId) (q : Int32) : Met l yJ6_bitCount_0f7a4 wsJ6_bitCount_0f7a4 ({ frames := 0, cells := 0, slots := 0, locals := 0 } : Room) (cRd D (aTy cB cI cJ cZ) [] [.int q]) (vp_Si (fun r : Int32 => True)) 0 0 (fun _ => False) := by
  refine Met.ofW (cc := cJ6_bitCount_0f7a4) (maxL := 1) (ret := (some .int)) (by decide) rfl ?_
  intro p e s m args below meth c s₁ B hml hv
  obtain ⟨rfl, hP, hK⟩ := hv
  have hx := B.exec
  have hb := B.bytes
  have hr := B.returns
  have hts := atoms_spec (ws := wsJ6_bitCount_0f7a4) B.pre
  have hown : s.vm.findClass RJ6 = some m.cls := findClass_of_methodNamed B.named
  have hlocks := B.notSynchronized
  have hP : va_P D vwCl [] s.heap := hP
  have w_1 := hts (Cond.constant RJ6 265 (1431655765)) (by decide +kernel)
  have w_2 := hts (Cond.constant RJ6 266 (858993459)) (by decide +kernel)
  have w_3 := hts (Cond.constant RJ6 267 (252645135)) (by decide +kernel)
  have hl := lv_entry ([.int q]) (n := 1) (Nat.le_of_ble_eq_true rfl)
  rw [lg_entry_eq]
  generalize (lg_sl ([.int q]) ++ List.replicate (1 - (lg_sl ([.int q])).length) Slot.unset).toArray = ls at hl ⊢
  have hl : lv_has ls 1 [(0, .int q)] := hl
  refine lv_iload_n hx hb dJ6_bitCount_0f7a4_0 rfl (lv_at hl 0 rfl) ?_
  refine lv_iload_n hx hb dJ6_bitCount_0f7a4_1 rfl (lv_at hl 0 rfl) ?_
  refine lv_iconst (v := 1) hx hb dJ6_bitCount_0f7a4_2 (by decide) ?_
  refine lv_iushr (v := (q.toUInt32 >>> ((1 : Int32).toUInt32 &&& Int32.toUInt32 31)).toInt32) hx hb dJ6_bitCount_0f7a4_3 rfl ?_
  refine lv_topi (fun v_1 ev_1 => ?_)
  refine lv_ldcw hx hb hown (w_1) dJ6_bitCount_0f7a4_4 ?_
  refine sv_iand (v := v_1 &&& 1431655765) hx hb dJ6_bitCount_0f7a4_7 rfl ?_
  refine lv_topi (fun v_2 ev_2 => ?_)
  refine sv_isub (v := q - v_2) hx hb dJ6_bitCount_0f7a4_8 rfl ?_
  refine lv_topi (fun v_3 ev_3 => ?_)
  refine lv_istore_n (lv' := [(0, .int v_3)]) hx hb dJ6_bitCount_0f7a4_9 rfl hl (by decide) rfl (fun ls hl => ?_)
  refine lv_iload_n hx hb dJ6_bitCount_0f7a4_10 rfl (lv_at hl 0 rfl) ?_
  refine lv_ldcw hx hb hown (w_2) dJ6_bitCount_0f7a4_11 ?_
  refine sv_iand (v := v_3 &&& 858993459) hx hb dJ6_bitCount_0f7a4_14 rfl ?_
  refine lv_topi (fun v_4 ev_4 => ?_)
  refine lv_iload_n hx hb dJ6_bitCount_0f7a4_15 rfl (lv_at hl 0 rfl) ?_
  refine lv_iconst (v := 2) hx hb dJ6_bitCount_0f7a4_16 (by decide) ?_
  refine lv_iushr (v := (v_3.toUInt32 >>> ((2 : Int32).toUInt32 &&& Int32.toUInt32 31)).toInt32) hx hb dJ6_bitCount_0f7a4_17 rfl ?_
  refine lv_topi (fun v_5 ev_5 => ?_)
  refine lv_ldcw hx hb hown (w_2) dJ6_bitCount_0f7a4_18 ?_
  refine sv_iand (v := v_5 &&& 858993459) hx hb dJ6_bitCount_0f7a4_21 rfl ?_
  refine lv_topi (fun v_6 ev_6 => ?_)
  refine sv_iadd (v := v_4 + v_6) hx hb dJ6_bitCount_0f7a4_22 rfl ?_
  refine lv_topi (fun v_7 ev_7 => ?_)
  refine lv_istore_n (lv' := [(0, .int v_7)]) hx hb dJ6_bitCount_0f7a4_23 rfl hl (by decide) rfl (fun ls hl => ?_)
  refine lv_iload_n hx hb dJ6_bitCount_0f7a4_24 rfl (lv_at hl 0 rfl) ?_
  refine lv_iload_n hx hb dJ6_bitCount_0f7a4_25 rfl (lv_at hl 0 rfl) ?_
  refine lv_iconst (v := 4) hx hb dJ6_bitCount_0f7a4_26 (by decide) ?_
  refine lv_iushr (v := (v_7.toUInt32 >>> ((4 : Int32).toUInt32 &&& Int32.toUInt32 31)).toInt32) hx hb dJ6_bitCount_0f7a4_27 rfl ?_
  refine lv_topi (fun v_8 ev_8 => ?_)
  refine sv_iadd (v := v_7 + v_8) hx hb dJ6_bitCount_0f7a4_28 rfl ?_
  refine lv_topi (fun v_9 ev_9 => ?_)
  refine lv_ldcw hx hb hown (w_3) dJ6_bitCount_0f7a4_29 ?_
  refine sv_iand (v := v_9 &&& 252645135) hx hb dJ6_bitCount_0f7a4_32 rfl ?_
  refine lv_topi (fun v_10 ev_10 => ?_)
  refine lv_istore_n (lv' := [(0, .int v_10)]) hx hb dJ6_bitCount_0f7a4_33 rfl hl (by decide) rfl (fun ls hl => ?_)
  refine lv_iload_n hx hb dJ6_bitCount_0f7a4_34 rfl (lv_at hl 0 rfl) ?_
  refine lv_iload_n hx hb dJ6_bitCount_0f7a4_35 rfl (lv_at hl 0 rfl) ?_
  refine lv_bipush (v := 8) hx hb dJ6_bitCount_0f7a4_36 (by decide) ?_
  refine lv_iushr (v := (v_10.toUInt32 >>> ((8 : Int32).toUInt32 &&& Int32.toUInt32 31)).toInt32) hx hb dJ6_bitCount_0f7a4_38 rfl ?_
  refine lv_topi (fun v_11 ev_11 => ?_)
  refine sv_iadd (v := v_10 + v_11) hx hb dJ6_bitCount_0f7a4_39 rfl ?_
  refine lv_topi (fun v_12 ev_12 => ?_)
  refine lv_istore_n (lv' := [(0, .int v_12)]) hx hb dJ6_bitCount_0f7a4_40 rfl hl (by decide) rfl (fun ls hl => ?_)
  refine lv_iload_n hx hb dJ6_bitCount_0f7a4_41 rfl (lv_at hl 0 rfl) ?_
  refine lv_iload_n hx hb dJ6_bitCount_0f7a4_42 rfl (lv_at hl 0 rfl) ?_
  refine lv_bipush (v := 16) hx hb dJ6_bitCount_0f7a4_43 (by decide) ?_
  refine lv_iushr (v := (v_12.toUInt32 >>> ((16 : Int32).toUInt32 &&& Int32.toUInt32 31)).toInt32) hx hb dJ6_bitCount_0f7a4_45 rfl ?_
  refine lv_topi (fun v_13 ev_13 => ?_)
  refine sv_iadd (v := v_12 + v_13) hx hb dJ6_bitCount_0f7a4_46 rfl ?_
  refine lv_topi (fun v_14 ev_14 => ?_)
  refine lv_istore_n (lv' := [(0, .int v_14)]) hx hb dJ6_bitCount_0f7a4_47 rfl hl (by decide) rfl (fun ls hl => ?_)
  refine lv_iload_n hx hb dJ6_bitCount_0f7a4_48 rfl (lv_at hl 0 rfl) ?_
  refine lv_bipush (v := 63) hx hb dJ6_bitCount_0f7a4_49 (by decide) ?_
  refine sv_iand (v := v_14 &&& 63) hx hb dJ6_bitCount_0f7a4_51 rfl ?_
  refine lv_topi (fun v_15 ev_15 => ?_)
  exact W.iret (v := v_15) hx hb hr (fun t ht hW => ⟨_, rfl, trivial, ht⟩) (fun q h => nomatch h) dJ6_bitCount_0f7a4_52

set_option maxHeartbeats 4000000 in
set_option maxRecDepth 100000 in
theorem g_bitL (l : Launch) (D : va_G) (cB cI cJ cZ : ClassId) (q : Int64) : Met l yJ13_bitCount_95d88 wsJ13_bitCount_95d88 ({ frames := 0, cells := 0, slots := 0, locals := 0 } : Room) (cRd D (aTy cB cI cJ cZ) [] [.long q]) (vp_Si (fun r : Int32 => True)) 0 0 (fun _ => False) := by
  refine Met.ofW (cc := cJ13_bitCount_95d88) (maxL := 2) (ret := (some .int)) (by decide) rfl ?_
  intro p e s m args below meth c s₁ B hml hv
  obtain ⟨rfl, hP, hK⟩ := hv
  have hx := B.exec
  have hb := B.bytes
  have hr := B.returns
  have hts := atoms_spec (ws := wsJ13_bitCount_95d88) B.pre
  have hown : s.vm.findClass RJ13 = some m.cls := findClass_of_methodNamed B.named
  have hlocks := B.notSynchronized
  have hP : va_P D vwCl [] s.heap := hP
  have w_1 := hts (Cond.constantLong RJ13 314 (6148914691236517205)) (by decide +kernel)
  have w_2 := hts (Cond.constantLong RJ13 316 (3689348814741910323)) (by decide +kernel)
  have w_3 := hts (Cond.constantLong RJ13 318 (1085102592571150095)) (by decide +kernel)
  have hl := lv_entry ([.long q]) (n := 2) (Nat.le_of_ble_eq_true rfl)
  rw [lg_entry_eq]
  generalize (lg_sl ([.long q]) ++ List.replicate (2 - (lg_sl ([.long q])).length) Slot.unset).toArray = ls at hl ⊢
  have hl : lv_has ls 2 [(0, .long q)] := hl
  refine lv_lload_n hx hb dJ13_bitCount_95d88_0 rfl (lv_at hl 0 rfl) ?_
  refine lv_lload_n hx hb dJ13_bitCount_95d88_1 rfl (lv_at hl 0 rfl) ?_
  refine lv_iconst (v := 1) hx hb dJ13_bitCount_95d88_2 (by decide) ?_
  refine lv_lushr (v := (q.toUInt64 >>> ((1 : Int32).toInt64.toUInt64 &&& Int64.toUInt64 63)).toInt64) hx hb dJ13_bitCount_95d88_3 rfl ?_
  refine lv_topl (fun v_1 ev_1 => ?_)
  refine lv_ldc2 hx hb hown w_1 dJ13_bitCount_95d88_4 ?_
  refine lv_land hx hb dJ13_bitCount_95d88_7 ?_
  refine lv_topl (fun v_2 ev_2 => ?_)
  refine lv_lsub hx hb dJ13_bitCount_95d88_8 ?_
  refine lv_topl (fun v_3 ev_3 => ?_)
  refine lv_lstore_n (lv' := [(0, .long v_3)]) hx hb dJ13_bitCount_95d88_9 rfl hl (by decide) rfl (fun ls hl => ?_)
  refine lv_lload_n hx hb dJ13_bitCount_95d88_10 rfl (lv_at hl 0 rfl) ?_
  refine lv_ldc2 hx hb hown w_2 dJ13_bitCount_95d88_11 ?_
  refine lv_land hx hb dJ13_bitCount_95d88_14 ?_
  refine lv_topl (fun v_4 ev_4 => ?_)
  refine lv_lload_n hx hb dJ13_bitCount_95d88_15 rfl (lv_at hl 0 rfl) ?_
  refine lv_iconst (v := 2) hx hb dJ13_bitCount_95d88_16 (by decide) ?_
  refine lv_lushr (v := (v_3.toUInt64 >>> ((2 : Int32).toInt64.toUInt64 &&& Int64.toUInt64 63)).toInt64) hx hb dJ13_bitCount_95d88_17 rfl ?_
  refine lv_topl (fun v_5 ev_5 => ?_)
  refine lv_ldc2 hx hb hown w_2 dJ13_bitCount_95d88_18 ?_
  refine lv_land hx hb dJ13_bitCount_95d88_21 ?_
  refine lv_topl (fun v_6 ev_6 => ?_)
  refine lv_ladd hx hb dJ13_bitCount_95d88_22 ?_
  refine lv_topl (fun v_7 ev_7 => ?_)
  refine lv_lstore_n (lv' := [(0, .long v_7)]) hx hb dJ13_bitCount_95d88_23 rfl hl (by decide) rfl (fun ls hl => ?_)
  refine lv_lload_n hx hb dJ13_bitCount_95d88_24 rfl (lv_at hl 0 rfl) ?_
  refine lv_lload_n hx hb dJ13_bitCount_95d88_25 rfl (lv_at hl 0 rfl) ?_
  refine lv_iconst (v := 4) hx hb dJ13_bitCount_95d88_26 (by decide) ?_
  refine lv_lushr (v := (v_7.toUInt64 >>> ((4 : Int32).toInt64.toUInt64 &&& Int64.toUInt64 63)).toInt64) hx hb dJ13_bitCount_95d88_27 rfl ?_
  refine lv_topl (fun v_8 ev_8 => ?_)
  refine lv_ladd hx hb dJ13_bitCount_95d88_28 ?_
  refine lv_topl (fun v_9 ev_9 => ?_)
  refine lv_ldc2 hx hb hown w_3 dJ13_bitCount_95d88_29 ?_
  refine lv_land hx hb dJ13_bitCount_95d88_32 ?_
  refine lv_topl (fun v_10 ev_10 => ?_)
  refine lv_lstore_n (lv' := [(0, .long v_10)]) hx hb dJ13_bitCount_95d88_33 rfl hl (by decide) rfl (fun ls hl => ?_)
  refine lv_lload_n hx hb dJ13_bitCount_95d88_34 rfl (lv_at hl 0 rfl) ?_
  refine lv_lload_n hx hb dJ13_bitCount_95d88_35 rfl (lv_at hl 0 rfl) ?_
  refine lv_bipush (v := 8) hx hb dJ13_bitCount_95d88_36 (by decide) ?_
  refine lv_lushr (v := (v_10.toUInt64 >>> ((8 : Int32).toInt64.toUInt64 &&& Int64.toUInt64 63)).toInt64) hx hb dJ13_bitCount_95d88_38 rfl ?_
  refine lv_topl (fun v_11 ev_11 => ?_)
  refine lv_ladd hx hb dJ13_bitCount_95d88_39 ?_
  refine lv_topl (fun v_12 ev_12 => ?_)
  refine lv_lstore_n (lv' := [(0, .long v_12)]) hx hb dJ13_bitCount_95d88_40 rfl hl (by decide) rfl (fun ls hl => ?_)
  refine lv_lload_n hx hb dJ13_bitCount_95d88_41 rfl (lv_at hl 0 rfl) ?_
  refine lv_lload_n hx hb dJ13_bitCount_95d88_42 rfl (lv_at hl 0 rfl) ?_
  refine lv_bipush (v := 16) hx hb dJ13_bitCount_95d88_43 (by decide) ?_
  refine lv_lushr (v := (v_12.toUInt64 >>> ((16 : Int32).toInt64.toUInt64 &&& Int64.toUInt64 63)).toInt64) hx hb dJ13_bitCount_95d88_45 rfl ?_
  refine lv_topl (fun v_13 ev_13 => ?_)
  refine lv_ladd hx hb dJ13_bitCount_95d88_46 ?_
  refine lv_topl (fun v_14 ev_14 => ?_)
  refine lv_lstore_n (lv' := [(0, .long v_14)]) hx hb dJ13_bitCount_95d88_47 rfl hl (by decide) rfl (fun ls hl => ?_)
  refine lv_lload_n hx hb dJ13_bitCount_95d88_48 rfl (lv_at hl 0 rfl) ?_
  refine lv_lload_n hx hb dJ13_bitCount_95d88_49 rfl (lv_at hl 0 rfl) ?_
  refine lv_bipush (v := 32) hx hb dJ13_bitCount_95d88_50 (by decide) ?_
  refine lv_lushr (v := (v_14.toUInt64 >>> ((32 : Int32).toInt64.toUInt64 &&& Int64.toUInt64 63)).toInt64) hx hb dJ13_bitCount_95d88_52 rfl ?_
  refine lv_topl (fun v_15 ev_15 => ?_)
  refine lv_ladd hx hb dJ13_bitCount_95d88_53 ?_
  refine lv_topl (fun v_16 ev_16 => ?_)
  refine lv_lstore_n (lv' := [(0, .long v_16)]) hx hb dJ13_bitCount_95d88_54 rfl hl (by decide) rfl (fun ls hl => ?_)
  refine lv_lload_n hx hb dJ13_bitCount_95d88_55 rfl (lv_at hl 0 rfl) ?_
  refine lv_l2i (v := v_16.toInt32) hx hb dJ13_bitCount_95d88_56 rfl ?_
  refine lv_topi (fun v_17 ev_17 => ?_)
  refine lv_bipush (v := 127) hx hb dJ13_bitCount_95d88_57 (by decide) ?_
  refine sv_iand (v := v_17 &&& 127) hx hb dJ13_bitCount_95d88_59 rfl ?_
  refine lv_topi (fun v_18 ev_18 => ?_)
  exact W.iret (v := v_18) hx hb hr (fun t ht hW => ⟨_, rfl, trivial, ht⟩) (fun q h => nomatch h) dJ13_bitCount_95d88_60

set_option maxHeartbeats 4000000 in
set_option maxRecDepth 100000 in
theorem g_X2_can (l : Launch) (D : va_G) (cB cI cJ cZ : ClassId) (h0 p0 p1 p3 p4 e9 : Nat) (b5 : Int32) (f4 : Nat → Int64) (q : Int32) (he : e9 ≤ 8) : Met l yX2_canDress wsX2_canDress ({ frames := 1, cells := 0, slots := 0, locals := 21 } : Room) (cRd D (aTy cB cI cJ cZ) [(h0, .inr (2, [.ref p0, .ref p1, .int (nI e9), .ref p3, .ref p4, .int b5])), (p4, .inl (cJ, 256, .inr (.inl f4)))] [.ref h0, .int q]) (vp_Si (fun r : Int32 => True)) 0 0 (fun _ => False) := by
  refine Met.ofW (cc := cX2_canDress) (maxL := 3) (ret := (some .boolean)) (by decide) rfl ?_
  intro p e s m args below meth c s₁ B hml hv
  obtain ⟨rfl, hP, hK⟩ := hv
  have hx := B.exec
  have hb := B.bytes
  have hr := B.returns
  have hts := atoms_spec (ws := wsX2_canDress) B.pre
  have hown : s.vm.findClass RX2 = some m.cls := findClass_of_methodNamed B.named
  have hlocks := B.notSynchronized
  have hP : va_P D vwCl [(h0, .inr (2, [.ref p0, .ref p1, .int (nI e9), .ref p3, .ref p4, .int b5])), (p4, .inl (cJ, 256, .inr (.inl f4)))] s.heap := hP
  have w_1 : ∀ w ∈ wsX20, w ∈ wsX2_canDress := by decide +kernel
  have w_2 := hts (Cond.fieldLink RX2 39 "BlueCoats$Dressing" "guests" "I") (by decide +kernel)
  have w_3 := hts (Cond.fieldLink RX2 21 "BlueCoats$Dressing" "fitting" "[J") (by decide +kernel)
  have hl := lv_entry ([.ref h0, .int q]) (n := 3) (Nat.le_of_ble_eq_true rfl)
  rw [lg_entry_eq]
  generalize (lg_sl ([.ref h0, .int q]) ++ List.replicate (3 - (lg_sl ([.ref h0, .int q])).length) Slot.unset).toArray = ls at hl ⊢
  have hl : lv_has ls 3 [(0, .ref h0), (1, .int q)] := hl
  generalize hQ : MQ below _ _ s _ _ _ = Q0
  refine lv_iconst (v := 1) hx hb dX2_canDress_0 (by decide) ?_
  refine lv_istore_n (lv' := [(2, .int 1), (0, .ref h0), (1, .int q)]) hx hb dX2_canDress_1 rfl hl (by decide) rfl (fun ls hl => ?_)
  have L_1 : ∀ (n : Nat) (i_2 : Int32)  (ls : Array Slot), (Int32.toInt ((1 : Int32) <<< (nI e9 &&& 31)) - i_2.toInt).toNat < n → 0 ≤ i_2.toInt → va_P D vwCl [(h0, .inr (2, [.ref p0, .ref p1, .int (nI e9), .ref p3, .ref p4, .int b5])), (p4, .inl (cJ, 256, .inr (.inl f4)))] s.heap → lv_has ls 3 [(0, .ref h0), (1, .int q), (2, .int i_2)] → W p l e (headSpec wsX2_canDress ({ frames := 1, cells := 0, slots := 0, locals := 21 } : Room)).room s m ([.ref h0, .int q] : List Value).toArray below meth c s.heap [] 0 0 Q0 (F0 m 2 ls []) := by
    intro n
    induction n with
    | zero => intro i_2 ls hn_2 hlo_2 hP hl; exact absurd hn_2 (Nat.not_lt_zero _)
    | succ n ih_L_1 =>
      intro i_2 ls hn_2 hlo_2 hP hl
      refine lv_iload_n hx hb dX2_canDress_2 rfl (lv_at hl 2 rfl) ?_
      refine lv_iconst (v := 1) hx hb dX2_canDress_3 (by decide) ?_
      refine lv_aload_n hx hb dX2_canDress_4 rfl (lv_at hl 0 rfl) ?_
      refine va_get (D := D) (ci := 2) (v := .int (nI e9)) (C := RX2) (T := TX2) (N := 6) hx hb hts w_1 hown hK hP 0 rfl rfl 2 (by decide) w_2 (fun _ h9 => h9) rfl dX2_canDress_5 ?_
      refine sv_ishl (v := (1 : Int32) <<< (nI e9 &&& 31)) hx hb dX2_canDress_8 rfl ?_
      refine lv_icmp_ge (tgt := 44) hx hb dX2_canDress_9 (by decide) (fun c_9 => ?_) (fun c_9 => ?_)
      ·
        refine lv_iconst (v := 1) hx hb dX2_canDress_44 (by decide) ?_
        rw [← hQ]
        exact W.zret (v := 1) hx hb hr rfl (fun t ht hW => ⟨_, rfl, trivial, ht⟩) (fun q h => nomatch h) dX2_canDress_45
      ·
        refine lv_iload_n hx hb dX2_canDress_12 rfl (lv_at hl 2 rfl) ?_
        refine lv_iload_n hx hb dX2_canDress_13 rfl (lv_at hl 1 rfl) ?_
        refine lv_iconst (v := (-1)) hx hb dX2_canDress_14 (by decide) ?_
        refine sv_ixor (v := q ^^^ (-1)) hx hb dX2_canDress_15 rfl ?_
        refine lv_topi (fun v_2 ev_2 => ?_)
        refine sv_iand (v := i_2 &&& v_2) hx hb dX2_canDress_16 rfl ?_
        refine lv_topi (fun v_3 ev_3 => ?_)
        refine lv_if_ne (tgt := 38) hx hb dX2_canDress_17 (by decide) (fun c_17 => ?_) (fun c_17 => ?_)
        ·
          refine lv_iinc (v := i_2 + 1) (lv' := [(2, .int (i_2 + 1)), (0, .ref h0), (1, .int q)]) hx hb dX2_canDress_38 hl (k := 2) rfl rfl (by decide) rfl (fun ls hl => ?_)
          refine lv_goto (tgt := 2) hx hb dX2_canDress_41 (by decide) ?_
          exact ih_L_1 (i_2 + 1) ls (lp_dec hn_2 c_9) (by have h9 := lp_inc c_9; omega) hP (lv_sub hl [1, 2, 0] rfl)
        ·
          refine lv_aload_n hx hb dX2_canDress_20 rfl (lv_at hl 0 rfl) ?_
          refine va_get (D := D) (ci := 2) (v := .ref p4) (C := RX2) (T := TX2) (N := 6) hx hb hts w_1 hown hK hP 0 rfl rfl 4 (by decide) w_3 (fun _ h9 => h9) rfl dX2_canDress_21 ?_
          refine lv_iload_n hx hb dX2_canDress_24 rfl (lv_at hl 2 rfl) ?_
          refine sv_lald (v := f4 i_2.toNatClampNeg) hx hb hK hP 1 2 rfl rfl (lp_inB hlo_2 c_9 (sh9 he).1) rfl dX2_canDress_25 ?_
          refine lv_topl (fun v_4 ev_4 => ?_)
          refine vp_callSi (va_Run.run (va_runS (As := [.long v_4]) (rest := []) ⟨hx, hb, hml, hown, hts⟩ (g_bitL l D cB cI cJ cZ v_4) (va_cwS 1 hts gX2_canDress_J13_bitCount_95d88 rfl rfl rfl (by decide +kernel) ⟨Nat.le_of_ble_eq_true rfl, Nat.le_of_ble_eq_true rfl⟩) (pre_SR (hP.sub (ws' := []) [] rfl) hK) rfl rfl hl.1 rfl (lv_room (Nat.le_of_ble_eq_true rfl)) dX2_canDress_26 ⟨Nat.le_of_ble_eq_true rfl, Nat.le_of_ble_eq_true rfl⟩)) (fun r_5 hw_r_5 => ?_)
          refine lv_iload_n hx hb dX2_canDress_29 rfl (lv_at hl 2 rfl) ?_
          refine vp_callSi (va_Run.run (va_runS (As := [.int i_2]) (rest := [.int r_5]) ⟨hx, hb, hml, hown, hts⟩ (g_bitI l D cB cI cJ cZ i_2) (va_cwS 1 hts gX2_canDress_J6_bitCount_0f7a4 rfl rfl rfl (by decide +kernel) ⟨Nat.le_of_ble_eq_true rfl, Nat.le_of_ble_eq_true rfl⟩) (pre_SR (hP.sub (ws' := []) [] rfl) hK) rfl rfl hl.1 rfl (lv_room (Nat.le_of_ble_eq_true rfl)) dX2_canDress_30 ⟨Nat.le_of_ble_eq_true rfl, Nat.le_of_ble_eq_true rfl⟩)) (fun r_6 hw_r_6 => ?_)
          refine lv_icmp_ge (tgt := 38) hx hb dX2_canDress_33 (by decide) (fun c_33 => ?_) (fun c_33 => ?_)
          ·
            refine lv_iinc (v := i_2 + 1) (lv' := [(2, .int (i_2 + 1)), (0, .ref h0), (1, .int q)]) hx hb dX2_canDress_38 hl (k := 2) rfl rfl (by decide) rfl (fun ls hl => ?_)
            refine lv_goto (tgt := 2) hx hb dX2_canDress_41 (by decide) ?_
            exact ih_L_1 (i_2 + 1) ls (lp_dec hn_2 c_9) (by have h9 := lp_inc c_9; omega) hP (lv_sub hl [1, 2, 0] rfl)
          ·
            refine lv_iconst (v := 0) hx hb dX2_canDress_36 (by decide) ?_
            rw [← hQ]
            exact W.zret (v := 0) hx hb hr rfl (fun t ht hW => ⟨_, rfl, trivial, ht⟩) (fun q h => nomatch h) dX2_canDress_37
  exact L_1 _ 1 ls (Nat.lt_succ_self _) (by decide) hP (lv_sub hl [1, 2, 0] rfl)

set_option maxHeartbeats 4000000 in
set_option maxRecDepth 100000 in
theorem g_X2_needed (l : Launch) (D : va_G) (cB cI cJ cZ : ClassId) (h0 p0 p1 p3 p4 e9 : Nat) (b5 : Int32) (f4 : Nat → Int64) (q : Int32) (fr : Int64) (he : e9 ≤ 8) : Met l yX2_neededBy wsX2_neededBy ({ frames := 1, cells := 0, slots := 0, locals := 21 } : Room) (cRd D (aTy cB cI cJ cZ) [(h0, .inr (2, [.ref p0, .ref p1, .int (nI e9), .ref p3, .ref p4, .int b5])), (p4, .inl (cJ, 256, .inr (.inl f4)))] [.ref h0, .int q, .long fr]) (vp_Sl (fun r : Int64 => True)) 0 0 (fun _ => False) := by
  refine Met.ofW (cc := cX2_neededBy) (maxL := 9) (ret := (some .long)) (by decide) rfl ?_
  intro p e s m args below meth c s₁ B hml hv
  obtain ⟨rfl, hP, hK⟩ := hv
  have hx := B.exec
  have hb := B.bytes
  have hr := B.returns
  have hts := atoms_spec (ws := wsX2_neededBy) B.pre
  have hown : s.vm.findClass RX2 = some m.cls := findClass_of_methodNamed B.named
  have hlocks := B.notSynchronized
  have hP : va_P D vwCl [(h0, .inr (2, [.ref p0, .ref p1, .int (nI e9), .ref p3, .ref p4, .int b5])), (p4, .inl (cJ, 256, .inr (.inl f4)))] s.heap := hP
  have w_1 : ∀ w ∈ wsX20, w ∈ wsX2_neededBy := by decide +kernel
  have w_2 := hts (Cond.fieldLink RX2 39 "BlueCoats$Dressing" "guests" "I") (by decide +kernel)
  have w_3 := hts (Cond.fieldLink RX2 21 "BlueCoats$Dressing" "fitting" "[J") (by decide +kernel)
  have hl := lv_entry ([.ref h0, .int q, .long fr]) (n := 9) (Nat.le_of_ble_eq_true rfl)
  rw [lg_entry_eq]
  generalize (lg_sl ([.ref h0, .int q, .long fr]) ++ List.replicate (9 - (lg_sl ([.ref h0, .int q, .long fr])).length) Slot.unset).toArray = ls at hl ⊢
  have hl : lv_has ls 9 [(0, .ref h0), (1, .int q), (2, .long fr)] := hl
  generalize hQ : MQ below _ _ s _ _ _ = Q0
  refine lv_lconst (v := 0) hx hb dX2_neededBy_0 (by decide) ?_
  refine lv_lstore (lv' := [(4, .long 0), (0, .ref h0), (1, .int q), (2, .long fr)]) hx hb dX2_neededBy_1 hl (by decide) rfl (fun ls hl => ?_)
  refine lv_iconst (v := 1) hx hb dX2_neededBy_3 (by decide) ?_
  refine lv_istore (lv' := [(6, .int 1), (4, .long 0), (0, .ref h0), (1, .int q), (2, .long fr)]) hx hb dX2_neededBy_4 hl (by decide) rfl (fun ls hl => ?_)
  have L_1 : ∀ (n : Nat) (i_6 : Int32) (l_4_6 : Int64) (ls : Array Slot), (Int32.toInt ((1 : Int32) <<< (nI e9 &&& 31)) - i_6.toInt).toNat < n → 0 ≤ i_6.toInt → va_P D vwCl [(h0, .inr (2, [.ref p0, .ref p1, .int (nI e9), .ref p3, .ref p4, .int b5])), (p4, .inl (cJ, 256, .inr (.inl f4)))] s.heap → lv_has ls 9 [(0, .ref h0), (1, .int q), (2, .long fr), (4, .long l_4_6), (6, .int i_6)] → W p l e (headSpec wsX2_neededBy ({ frames := 1, cells := 0, slots := 0, locals := 21 } : Room)).room s m ([.ref h0, .int q, .long fr] : List Value).toArray below meth c s.heap [] 0 0 Q0 (F0 m 6 ls []) := by
    intro n
    induction n with
    | zero => intro i_6 l_4_6 ls hn_6 hlo_6 hP hl; exact absurd hn_6 (Nat.not_lt_zero _)
    | succ n ih_L_1 =>
      intro i_6 l_4_6 ls hn_6 hlo_6 hP hl
      refine lv_iload hx hb dX2_neededBy_6 (lv_at hl 4 rfl) ?_
      refine lv_iconst (v := 1) hx hb dX2_neededBy_8 (by decide) ?_
      refine lv_aload_n hx hb dX2_neededBy_9 rfl (lv_at hl 0 rfl) ?_
      refine va_get (D := D) (ci := 2) (v := .int (nI e9)) (C := RX2) (T := TX2) (N := 6) hx hb hts w_1 hown hK hP 0 rfl rfl 2 (by decide) w_2 (fun _ h9 => h9) rfl dX2_neededBy_10 ?_
      refine sv_ishl (v := (1 : Int32) <<< (nI e9 &&& 31)) hx hb dX2_neededBy_13 rfl ?_
      refine lv_icmp_ge (tgt := 63) hx hb dX2_neededBy_14 (by decide) (fun c_14 => ?_) (fun c_14 => ?_)
      ·
        refine lv_lload hx hb dX2_neededBy_63 (lv_at hl 3 rfl) ?_
        rw [← hQ]
        exact W.lret (v := l_4_6) hx hb hr (fun t ht hW => ⟨_, rfl, trivial, ht⟩) (fun q h => nomatch h) dX2_neededBy_65
      ·
        refine lv_aload_n hx hb dX2_neededBy_17 rfl (lv_at hl 0 rfl) ?_
        refine va_get (D := D) (ci := 2) (v := .ref p4) (C := RX2) (T := TX2) (N := 6) hx hb hts w_1 hown hK hP 0 rfl rfl 4 (by decide) w_3 (fun _ h9 => h9) rfl dX2_neededBy_18 ?_
        refine lv_iload hx hb dX2_neededBy_21 (lv_at hl 4 rfl) ?_
        refine sv_lald (v := f4 i_6.toNatClampNeg) hx hb hK hP 1 2 rfl rfl (lp_inB hlo_6 c_14 (sh9 he).1) rfl dX2_neededBy_23 ?_
        refine lv_topl (fun v_2 ev_2 => ?_)
        refine lv_lload_n hx hb dX2_neededBy_24 rfl (lv_at hl 2 rfl) ?_
        refine lv_land hx hb dX2_neededBy_25 ?_
        refine lv_topl (fun v_3 ev_3 => ?_)
        refine lv_lstore (lv' := [(7, .long v_3), (0, .ref h0), (1, .int q), (2, .long fr), (4, .long l_4_6), (6, .int i_6)]) hx hb dX2_neededBy_26 hl (by decide) rfl (fun ls hl => ?_)
        refine lv_iload hx hb dX2_neededBy_28 (lv_at hl 5 rfl) ?_
        refine lv_iload_n hx hb dX2_neededBy_30 rfl (lv_at hl 2 rfl) ?_
        refine lv_iconst (v := (-1)) hx hb dX2_neededBy_31 (by decide) ?_
        refine sv_ixor (v := q ^^^ (-1)) hx hb dX2_neededBy_32 rfl ?_
        refine lv_topi (fun v_4 ev_4 => ?_)
        refine sv_iand (v := i_6 &&& v_4) hx hb dX2_neededBy_33 rfl ?_
        refine lv_topi (fun v_5 ev_5 => ?_)
        refine lv_if_ne (tgt := 57) hx hb dX2_neededBy_34 (by decide) (fun c_34 => ?_) (fun c_34 => ?_)
        ·
          refine lv_iinc (v := i_6 + 1) (lv' := [(6, .int (i_6 + 1)), (7, .long v_3), (0, .ref h0), (1, .int q), (2, .long fr), (4, .long l_4_6)]) hx hb dX2_neededBy_57 hl (k := 5) rfl rfl (by decide) rfl (fun ls hl => ?_)
          refine lv_goto (tgt := 6) hx hb dX2_neededBy_60 (by decide) ?_
          exact ih_L_1 (i_6 + 1) l_4_6 ls (lp_dec hn_6 c_14) (by have h9 := lp_inc c_14; omega) hP (lv_sub hl [2, 3, 4, 5, 0] rfl)
        ·
          refine lv_lload hx hb dX2_neededBy_37 (lv_at hl 0 rfl) ?_
          refine vp_callSi (va_Run.run (va_runS (As := [.long v_3]) (rest := []) ⟨hx, hb, hml, hown, hts⟩ (g_bitL l D cB cI cJ cZ v_3) (va_cwS 1 hts gX2_neededBy_J13_bitCount_95d88 rfl rfl rfl (by decide +kernel) ⟨Nat.le_of_ble_eq_true rfl, Nat.le_of_ble_eq_true rfl⟩) (pre_SR (hP.sub (ws' := []) [] rfl) hK) rfl rfl hl.1 rfl (lv_room (Nat.le_of_ble_eq_true rfl)) dX2_neededBy_39 ⟨Nat.le_of_ble_eq_true rfl, Nat.le_of_ble_eq_true rfl⟩)) (fun r_6 hw_r_6 => ?_)
          refine lv_iload hx hb dX2_neededBy_42 (lv_at hl 5 rfl) ?_
          refine vp_callSi (va_Run.run (va_runS (As := [.int i_6]) (rest := [.int r_6]) ⟨hx, hb, hml, hown, hts⟩ (g_bitI l D cB cI cJ cZ i_6) (va_cwS 1 hts gX2_neededBy_J6_bitCount_0f7a4 rfl rfl rfl (by decide +kernel) ⟨Nat.le_of_ble_eq_true rfl, Nat.le_of_ble_eq_true rfl⟩) (pre_SR (hP.sub (ws' := []) [] rfl) hK) rfl rfl hl.1 rfl (lv_room (Nat.le_of_ble_eq_true rfl)) dX2_neededBy_44 ⟨Nat.le_of_ble_eq_true rfl, Nat.le_of_ble_eq_true rfl⟩)) (fun r_7 hw_r_7 => ?_)
          refine lv_icmp_gt (tgt := 57) hx hb dX2_neededBy_47 (by decide) (fun c_47 => ?_) (fun c_47 => ?_)
          ·
            refine lv_iinc (v := i_6 + 1) (lv' := [(6, .int (i_6 + 1)), (7, .long v_3), (0, .ref h0), (1, .int q), (2, .long fr), (4, .long l_4_6)]) hx hb dX2_neededBy_57 hl (k := 5) rfl rfl (by decide) rfl (fun ls hl => ?_)
            refine lv_goto (tgt := 6) hx hb dX2_neededBy_60 (by decide) ?_
            exact ih_L_1 (i_6 + 1) l_4_6 ls (lp_dec hn_6 c_14) (by have h9 := lp_inc c_14; omega) hP (lv_sub hl [2, 3, 4, 5, 0] rfl)
          ·
            refine lv_lload hx hb dX2_neededBy_50 (lv_at hl 4 rfl) ?_
            refine lv_lload hx hb dX2_neededBy_52 (lv_at hl 0 rfl) ?_
            refine lv_lor hx hb dX2_neededBy_54 ?_
            refine lv_topl (fun v_8 ev_8 => ?_)
            refine lv_lstore (lv' := [(4, .long v_8), (7, .long v_3), (0, .ref h0), (1, .int q), (2, .long fr), (6, .int i_6)]) hx hb dX2_neededBy_55 hl (by decide) rfl (fun ls hl => ?_)
            refine lv_iinc (v := i_6 + 1) (lv' := [(6, .int (i_6 + 1)), (4, .long v_8), (7, .long v_3), (0, .ref h0), (1, .int q), (2, .long fr)]) hx hb dX2_neededBy_57 hl (k := 5) rfl rfl (by decide) rfl (fun ls hl => ?_)
            refine lv_goto (tgt := 6) hx hb dX2_neededBy_60 (by decide) ?_
            exact ih_L_1 (i_6 + 1) v_8 ls (lp_dec hn_6 c_14) (by have h9 := lp_inc c_14; omega) hP (lv_sub hl [3, 4, 5, 1, 0] rfl)
  exact L_1 _ 1 0 ls (Nat.lt_succ_self _) (by decide) hP (lv_sub hl [2, 3, 4, 1, 0] rfl)

set_option maxHeartbeats 4000000 in
set_option maxRecDepth 100000 in
theorem g_X2_least (l : Launch) (D : va_G) (cB cI cJ cZ : ClassId) (q : Int64) : Met l yX2_leastOf wsX2_leastOf ({ frames := 0, cells := 0, slots := 0, locals := 0 } : Room) (cRd D (aTy cB cI cJ cZ) [] [.long q]) (vp_Si (fun r : Int32 => True)) 0 0 (fun _ => False) := by
  refine Met.ofW (cc := cX2_leastOf) (maxL := 3) (ret := (some .int)) (by decide) rfl ?_
  intro p e s m args below meth c s₁ B hml hv
  obtain ⟨rfl, hP, hK⟩ := hv
  have hx := B.exec
  have hb := B.bytes
  have hr := B.returns
  have hts := atoms_spec (ws := wsX2_leastOf) B.pre
  have hown : s.vm.findClass RX2 = some m.cls := findClass_of_methodNamed B.named
  have hlocks := B.notSynchronized
  have hP : va_P D vwCl [] s.heap := hP
  have hl := lv_entry ([.long q]) (n := 3) (Nat.le_of_ble_eq_true rfl)
  rw [lg_entry_eq]
  generalize (lg_sl ([.long q]) ++ List.replicate (3 - (lg_sl ([.long q])).length) Slot.unset).toArray = ls at hl ⊢
  have hl : lv_has ls 3 [(0, .long q)] := hl
  generalize hQ : MQ below _ _ s _ _ _ = Q0
  refine lv_iconst (v := 0) hx hb dX2_leastOf_0 (by decide) ?_
  refine lv_istore_n (lv' := [(2, .int 0), (0, .long q)]) hx hb dX2_leastOf_1 rfl hl (by decide) rfl (fun ls hl => ?_)
  have L_1 : ∀ (n : Nat) (i_2 : Int32)  (ls : Array Slot), (Int32.toInt 40 - i_2.toInt).toNat < n → 0 ≤ i_2.toInt → va_P D vwCl [] s.heap → lv_has ls 3 [(0, .long q), (2, .int i_2)] → W p l e (headSpec wsX2_leastOf ({ frames := 0, cells := 0, slots := 0, locals := 0 } : Room)).room s m ([.long q] : List Value).toArray below meth c s.heap [] 0 0 Q0 (F0 m 2 ls []) := by
    intro n
    induction n with
    | zero => intro i_2 ls hn_2 hlo_2 hP hl; exact absurd hn_2 (Nat.not_lt_zero _)
    | succ n ih_L_1 =>
      intro i_2 ls hn_2 hlo_2 hP hl
      refine lv_iload_n hx hb dX2_leastOf_2 rfl (lv_at hl 1 rfl) ?_
      refine lv_bipush (v := 40) hx hb dX2_leastOf_3 (by decide) ?_
      refine lv_icmp_ge (tgt := 26) hx hb dX2_leastOf_5 (by decide) (fun c_5 => ?_) (fun c_5 => ?_)
      ·
        refine lv_iconst (v := (-1)) hx hb dX2_leastOf_26 (by decide) ?_
        rw [← hQ]
        exact W.iret (v := (-1)) hx hb hr (fun t ht hW => ⟨_, rfl, trivial, ht⟩) (fun q h => nomatch h) dX2_leastOf_27
      ·
        refine lv_lload_n hx hb dX2_leastOf_8 rfl (lv_at hl 0 rfl) ?_
        refine lv_lconst (v := 1) hx hb dX2_leastOf_9 (by decide) ?_
        refine lv_iload_n hx hb dX2_leastOf_10 rfl (lv_at hl 1 rfl) ?_
        refine lv_lshl (v := (1 : Int64) <<< (i_2.toInt64 &&& 63)) hx hb dX2_leastOf_11 rfl ?_
        refine lv_topl (fun v_2 ev_2 => ?_)
        refine lv_land hx hb dX2_leastOf_12 ?_
        refine lv_topl (fun v_3 ev_3 => ?_)
        refine lv_lconst (v := 0) hx hb dX2_leastOf_13 (by decide) ?_
        refine W.lcmp hx hb dX2_leastOf_14 ?_
        refine lv_topi (fun v_4 ev_4 => ?_)
        refine lv_if_eq (tgt := 20) hx hb dX2_leastOf_15 (by decide) (fun c_15 => ?_) (fun c_15 => ?_)
        ·
          refine lv_iinc (v := i_2 + 1) (lv' := [(2, .int (i_2 + 1)), (0, .long q)]) hx hb dX2_leastOf_20 hl (k := 1) rfl rfl (by decide) rfl (fun ls hl => ?_)
          refine lv_goto (tgt := 2) hx hb dX2_leastOf_23 (by decide) ?_
          exact ih_L_1 (i_2 + 1) ls (lp_dec hn_2 c_5) (by have h9 := lp_inc c_5; omega) hP (lv_sub hl [1, 0] rfl)
        ·
          refine lv_iload_n hx hb dX2_leastOf_18 rfl (lv_at hl 1 rfl) ?_
          rw [← hQ]
          exact W.iret (v := i_2) hx hb hr (fun t ht hW => ⟨_, rfl, trivial, ht⟩) (fun q h => nomatch h) dX2_leastOf_19
  exact L_1 _ 0 ls (Nat.lt_succ_self _) (by decide) hP (lv_sub hl [1, 0] rfl)

