/-! The reader's eight words, as the machine holds them, with their signs. -/
def RdA (A : Nat → Prop) (sk : Nat → Nat) (U : State) (H : Heap) : Prop := (vk_R RX4 116 "cycle" (sk 0) U ∧ strA A (wln 3) (wcf 3) (sk 0) U H) ∧ (vk_R RX4 121 "vote" (sk 1) U ∧ strA A (wln 1) (wcf 1) (sk 1) U H) ∧ (vk_R RX4 122 "age" (sk 2) U ∧ strA A (wln 4) (wcf 4) (sk 2) U H) ∧ (vk_R RX4 124 "wear" (sk 3) U ∧ strA A (wln 5) (wcf 5) (sk 3) U H) ∧ (vk_R RX4 125 "spare" (sk 4) U ∧ strA A (wln 6) (wcf 6) (sk 4) U H) ∧ (vk_R RX4 126 "places" (sk 5) U ∧ strA A (wln 7) (wcf 7) (sk 5) U H) ∧ (vk_R RX4 127 "turn" (sk 6) U ∧ strA A (wln 0) (wcf 0) (sk 6) U H) ∧ (vk_R RX4 129 "need" (sk 7) U ∧ strA A (wln 2) (wcf 2) (sk 7) U H)
theorem RdA.later {A B : Nat → Prop} {sk : Nat → Nat} {s U : State} {H : Heap} {locs : List Loc} (h : RdA A sk s s.heap) (hS : va_S A s.heap H locs) (hU : U.heap = H) (hW : s.WarmedH U.vm) (hAB : ∀ q, B q → A q) : RdA B sk U U.heap := by
  obtain ⟨⟨a0, b0⟩, ⟨a1, b1⟩, ⟨a2, b2⟩, ⟨a3, b3⟩, ⟨a4, b4⟩, ⟨a5, b5⟩, ⟨a6, b6⟩, ⟨a7, b7⟩⟩ := h
  exact ⟨⟨vk_R.warm hW a0, b0.later hS hU hW hAB⟩, ⟨vk_R.warm hW a1, b1.later hS hU hW hAB⟩, ⟨vk_R.warm hW a2, b2.later hS hU hW hAB⟩, ⟨vk_R.warm hW a3, b3.later hS hU hW hAB⟩, ⟨vk_R.warm hW a4, b4.later hS hU hW hAB⟩, ⟨vk_R.warm hW a5, b5.later hS hU hW hAB⟩, ⟨vk_R.warm hW a6, b6.later hS hU hW hAB⟩, ⟨vk_R.warm hW a7, b7.later hS hU hW hAB⟩⟩
theorem RdA.calling {A : Nat → Prop} {sk : Nat → Nat} {U : State} {g : JFrame} {mk : MethodId} {a : Array Value} (h : RdA A sk U U.heap) : RdA A sk (U.calling g mk a) (U.calling g mk a).heap := by
  obtain ⟨⟨a0, b0⟩, ⟨a1, b1⟩, ⟨a2, b2⟩, ⟨a3, b3⟩, ⟨a4, b4⟩, ⟨a5, b5⟩, ⟨a6, b6⟩, ⟨a7, b7⟩⟩ := h
  exact ⟨⟨vk_R.same (u := U) (U := U.calling g mk a) rfl a0, b0.calling⟩, ⟨vk_R.same (u := U) (U := U.calling g mk a) rfl a1, b1.calling⟩, ⟨vk_R.same (u := U) (U := U.calling g mk a) rfl a2, b2.calling⟩, ⟨vk_R.same (u := U) (U := U.calling g mk a) rfl a3, b3.calling⟩, ⟨vk_R.same (u := U) (U := U.calling g mk a) rfl a4, b4.calling⟩, ⟨vk_R.same (u := U) (U := U.calling g mk a) rfl a5, b5.calling⟩, ⟨vk_R.same (u := U) (U := U.calling g mk a) rfl a6, b6.calling⟩, ⟨vk_R.same (u := U) (U := U.calling g mk a) rfl a7, b7.calling⟩⟩

theorem iw_s {t f : Nat → Int32} {s i : Nat} (h : ∀ j, j < i → t (s + j) = f j &&& 255) (e : t (s + i) = f i &&& 255) : ∀ j, j < i + 1 → t (s + j) = f j &&& 255 := fun j hj => by
  by_cases q : j = i
  · rw [q]; exact e
  · exact h j (by omega)

set_option maxHeartbeats 4000000 in
set_option maxRecDepth 100000 in
theorem f_X4_isWord (l : Launch) (D : va_G) (cB cI cJ cZ : ClassId) (h0 dr tp tt ln ps pe to : Nat) (t1 t2 t6 t9 : Int32) (sn : Nat) (f9 : Nat → Int32) (sk : Nat) (rt : Nat → Int32) (b_ln : ln ≤ 300) (hps : ps ≤ pe) (hpl : pe ≤ ln) : Met l yX4_isWord wsX4_isWord ({ frames := 4, cells := 0, slots := 0, locals := 121 } : Room) (va_Pc [.ref h0, .ref sk] (fun U => va_P D vwCl [(h0, .inr (4, [.ref dr, .int t1, .int t2, .int (nI tt), .ref tp, .int (nI ln), .int t6, .int (nI ps), .int (nI pe), .int t9, .int (nI to)])), (tp, .inl (cB, 300, .inl rt))] U.heap ∧ va_K D vwCl (aTy cB cI cJ cZ) U ∧ strU sn f9 sk U)) (vp_Si (fun r : Int32 => isB r (t6 = 1 ∧ pe = ps + sn ∧ ∀ j, j < sn → sg rt (ps + j) = f9 j &&& 255))) 0 0 (fun _ => False) := by
  refine Met.ofW (cc := cX4_isWord) (maxL := 3) (ret := (some .boolean)) (by decide) rfl ?_
  intro p e s m args below meth c s₁ B hml hv
  obtain ⟨rfl, hP, hK, hNw⟩ := hv
  have hx := B.exec
  have hb := B.bytes
  have hr := B.returns
  have hts := atoms_spec (ws := wsX4_isWord) B.pre
  have hown : s.vm.findClass RX4 = some m.cls := findClass_of_methodNamed B.named
  have hlocks := B.notSynchronized
  have hP : va_P D vwCl [(h0, .inr (4, [.ref dr, .int t1, .int t2, .int (nI tt), .ref tp, .int (nI ln), .int t6, .int (nI ps), .int (nI pe), .int t9, .int (nI to)])), (tp, .inl (cB, 300, .inl rt))] s.heap := hP
  have hsn : sn < 2147483648 := by obtain ⟨sv, h1, h2, h3, h4, h5, h6, h7⟩ := hNw; exact h7
  have w_1 : ∀ w ∈ wsX40, w ∈ wsX4_isWord := by decide +kernel
  have w_2 := hts (Cond.fieldLink RX4 53 "BlueCoats$Reader" "kind" "I") (by decide +kernel)
  have w_3 := hts (Cond.fieldLink RX4 41 "BlueCoats$Reader" "end" "I") (by decide +kernel)
  have w_4 := hts (Cond.fieldLink RX4 67 "BlueCoats$Reader" "start" "I") (by decide +kernel)
  have hl := lv_entry ([.ref h0, .ref sk]) (n := 3) (Nat.le_of_ble_eq_true rfl)
  rw [lg_entry_eq]
  generalize (lg_sl ([.ref h0, .ref sk]) ++ List.replicate (3 - (lg_sl ([.ref h0, .ref sk])).length) Slot.unset).toArray = ls at hl ⊢
  have hl : lv_has ls 3 [(0, .ref h0), (1, .ref sk)] := hl
  generalize hQ : MQ below _ _ s _ _ _ = Q0
  refine lv_aload_n hx hb dX4_isWord_0 rfl (lv_at hl 0 rfl) ?_
  refine va_get (D := D) (ci := 4) (v := .int t6) (C := RX4) (T := TX4) (N := 11) hx hb hts w_1 hown hK hP 0 rfl rfl 6 (by decide) w_2 (fun _ h9 => h9) rfl dX4_isWord_1 ?_
  refine lv_iconst (v := 1) hx hb dX4_isWord_4 (by decide) ?_
  refine lv_icmp_ne (tgt := 24) hx hb dX4_isWord_5 (by decide) (fun c_5 => ?_) (fun c_5 => ?_)
  ·
    refine lv_iconst (v := 0) hx hb dX4_isWord_24 (by decide) ?_
    rw [← hQ]
    exact W.zret (v := 0) hx hb hr rfl (fun t ht hW => ⟨_, rfl, Or.inr ⟨rfl, fun h => c_5 h.1⟩, ht⟩) (fun q h => nomatch h) dX4_isWord_25
  ·
    refine lv_aload_n hx hb dX4_isWord_8 rfl (lv_at hl 0 rfl) ?_
    refine va_get (D := D) (ci := 4) (v := .int (nI pe)) (C := RX4) (T := TX4) (N := 11) hx hb hts w_1 hown hK hP 0 rfl rfl 8 (by decide) w_3 (fun _ h9 => h9) rfl dX4_isWord_9 ?_
    refine lv_aload_n hx hb dX4_isWord_12 rfl (lv_at hl 0 rfl) ?_
    refine va_get (D := D) (ci := 4) (v := .int (nI ps)) (C := RX4) (T := TX4) (N := 11) hx hb hts w_1 hown hK hP 0 rfl rfl 7 (by decide) w_4 (fun _ h9 => h9) rfl dX4_isWord_13 ?_
    refine sv_isub (v := nI (pe - ps)) hx hb dX4_isWord_16 (nI_subN hps) ?_
    refine lv_aload_n hx hb dX4_isWord_17 rfl (lv_at hl 1 rfl) ?_
    refine vp_callSi (va_Run.run (va_runV (As := []) (rest := [.int (nI (pe - ps))]) ⟨hx, hb, hml, hown, hts⟩ (s_length l sn f9 sk) (cwV 0 hts gX4_isWord_J0_length_8abf5 rfl rfl rfl (by decide +kernel) ⟨Nat.le_of_ble_eq_true rfl, Nat.le_of_ble_eq_true rfl⟩) (str_V hNw rfl) rfl rfl hl.1 rfl (lv_room (Nat.le_of_ble_eq_true rfl)) dX4_isWord_18 ⟨Nat.le_of_ble_eq_true rfl, Nat.le_of_ble_eq_true rfl⟩)) (fun r_1 hw_r_1 => ?_)
    subst hw_r_1
    refine lv_icmp_eq (tgt := 26) hx hb dX4_isWord_21 (by decide) (fun c_21 => ?_) (fun c_21 => ?_)
    ·
      have hen : pe = ps + sn := by have h9 := (nI_eq (by omega) hsn).mp c_21; omega
      refine lv_iconst (v := 0) hx hb dX4_isWord_26 (by decide) ?_
      refine lv_istore_n (lv' := [(2, .int 0), (0, .ref h0), (1, .ref sk)]) hx hb dX4_isWord_27 rfl hl (by decide) rfl (fun ls hl => ?_)
      have L_2 : ∀ (n : Nat) (i_28 : Nat)  (ls : Array Slot), sn - i_28 < n → (i_28 ≤ sn) → (∀ j, j < i_28 → sg rt (ps + j) = f9 j &&& 255) → va_P D vwCl [(h0, .inr (4, [.ref dr, .int t1, .int t2, .int (nI tt), .ref tp, .int (nI ln), .int t6, .int (nI ps), .int (nI pe), .int t9, .int (nI to)])), (tp, .inl (cB, 300, .inl rt))] s.heap → lv_has ls 3 [(0, .ref h0), (1, .ref sk), (2, .int (nI i_28))] → W p l e (headSpec wsX4_isWord ({ frames := 4, cells := 0, slots := 0, locals := 121 } : Room)).room s m ([.ref h0, .ref sk] : List Value).toArray below meth c s.heap [] 0 0 Q0 (F0 m 28 ls []) := by
        intro n
        induction n with
        | zero => intro i_28 ls hn_28 hle_28 hW_28 hP hl; exact absurd hn_28 (Nat.not_lt_zero _)
        | succ n ih_L_2 =>
          intro i_28 ls hn_28 hle_28 hW_28 hP hl
          refine lv_iload_n hx hb dX4_isWord_28 rfl (lv_at hl 2 rfl) ?_
          refine lv_aload_n hx hb dX4_isWord_29 rfl (lv_at hl 1 rfl) ?_
          refine vp_callSi (va_Run.run (va_runV (As := []) (rest := [.int (nI i_28)]) ⟨hx, hb, hml, hown, hts⟩ (s_length l sn f9 sk) (cwV 0 hts gX4_isWord_J0_length_8abf5 rfl rfl rfl (by decide +kernel) ⟨Nat.le_of_ble_eq_true rfl, Nat.le_of_ble_eq_true rfl⟩) (str_V hNw rfl) rfl rfl hl.1 rfl (lv_room (Nat.le_of_ble_eq_true rfl)) dX4_isWord_30 ⟨Nat.le_of_ble_eq_true rfl, Nat.le_of_ble_eq_true rfl⟩)) (fun r_3 hw_r_3 => ?_)
          subst hw_r_3
          refine lv_icmp_ge (tgt := 62) hx hb dX4_isWord_33 (by decide) (fun c_33 => ?_) (fun c_33 => ?_)
          ·
            refine lv_iconst (v := 1) hx hb dX4_isWord_62 (by decide) ?_
            rw [← hQ]
            exact W.zret (v := 1) hx hb hr rfl (fun t ht hW => ⟨_, rfl, Or.inl ⟨rfl, c_5, hen, fun j hj => hW_28 j (by have h9 := ge3 hsn hle_28 c_33; omega)⟩, ht⟩) (fun q h => nomatch h) dX4_isWord_63
          ·
            have hb_28 : i_28 < sn := lt3 (by omega) hle_28 c_33
            refine lv_aload_n hx hb dX4_isWord_36 rfl (lv_at hl 0 rfl) ?_
            refine lv_aload_n hx hb dX4_isWord_37 rfl (lv_at hl 0 rfl) ?_
            refine va_get (D := D) (ci := 4) (v := .int (nI ps)) (C := RX4) (T := TX4) (N := 11) hx hb hts w_1 hown hK hP 0 rfl rfl 7 (by decide) w_4 (fun _ h9 => h9) rfl dX4_isWord_38 ?_
            refine lv_iload_n hx hb dX4_isWord_41 rfl (lv_at hl 2 rfl) ?_
            refine sv_iadd (v := nI (ps + i_28)) hx hb dX4_isWord_42 (nI_add _ _) ?_
            refine vp_callSi (va_Run.run (va_runV (As := [.int (nI (ps + i_28))]) (rest := []) ⟨hx, hb, hml, hown, hts⟩ (f_X4_signAt l D cB cI cJ cZ h0 dr tp tt ln t1 t2 t6 (nI ps) (nI pe) t9 (nI to) rt (ps + i_28) b_ln (by omega)) (cwV 1 hts gX4_isWord_X4_signAt rfl rfl rfl (by decide +kernel) ⟨Nat.le_of_ble_eq_true rfl, Nat.le_of_ble_eq_true rfl⟩) (pre_VR (hP.sub (ws' := [(h0, .inr (4, [.ref dr, .int t1, .int t2, .int (nI tt), .ref tp, .int (nI ln), .int t6, .int (nI ps), .int (nI pe), .int t9, .int (nI to)])), (tp, .inl (cB, 300, .inl rt))]) [0, 1] rfl) hK 0 rfl rfl rfl) rfl rfl hl.1 rfl (lv_room (Nat.le_of_ble_eq_true rfl)) dX4_isWord_43 ⟨Nat.le_of_ble_eq_true rfl, Nat.le_of_ble_eq_true rfl⟩)) (fun r_4 hw_r_4 => ?_)
            obtain rfl := sgv hw_r_4 (by omega)
            refine lv_aload_n hx hb dX4_isWord_46 rfl (lv_at hl 1 rfl) ?_
            refine lv_iload_n hx hb dX4_isWord_47 rfl (lv_at hl 2 rfl) ?_
            refine vp_callSi (va_Run.run (va_runV (As := [.int (nI i_28)]) (rest := [.int (sg rt (ps + i_28))]) ⟨hx, hb, hml, hown, hts⟩ (s_charAt l sn f9 sk (nI i_28) (vp_in_nI hb_28 hsn)) (cwV 1 hts gX4_isWord_J0_charAt_5068e rfl rfl rfl (by decide +kernel) ⟨Nat.le_of_ble_eq_true rfl, Nat.le_of_ble_eq_true rfl⟩) (str_V hNw rfl) rfl rfl hl.1 rfl (lv_room (Nat.le_of_ble_eq_true rfl)) dX4_isWord_48 ⟨Nat.le_of_ble_eq_true rfl, Nat.le_of_ble_eq_true rfl⟩)) (fun r_5 hw_r_5 => ?_)
            have hwc : r_5 = f9 i_28 &&& 255 := by rw [hw_r_5, nI_clamp (by omega)]
            refine lv_icmp_eq (tgt := 56) hx hb dX4_isWord_51 (by decide) (fun c_51 => ?_) (fun c_51 => ?_)
            ·
              refine lv_iinc (v := nI (i_28 + 1)) (lv' := [(2, .int (nI (i_28 + 1))), (0, .ref h0), (1, .ref sk)]) hx hb dX4_isWord_56 hl (k := 2) rfl (ax_add _ 1) (by decide) rfl (fun ls hl => ?_)
              refine lv_goto (tgt := 28) hx hb dX4_isWord_59 (by decide) ?_
              exact ih_L_2 (i_28 + 1) ls (by omega) (by omega) (iw_s hW_28 (c_51.trans hwc)) hP (lv_sub hl [1, 2, 0] rfl)
            ·
              refine lv_iconst (v := 0) hx hb dX4_isWord_54 (by decide) ?_
              rw [← hQ]
              exact W.zret (v := 0) hx hb hr rfl (fun t ht hW => ⟨_, rfl, Or.inr ⟨rfl, fun h => c_51 ((h.2.2 i_28 hb_28).trans hwc.symm)⟩, ht⟩) (fun q h => nomatch h) dX4_isWord_55
      exact L_2 _ 0 ls (Nat.lt_succ_self _) (by first | exact Nat.zero_le _ | omega) (fun j h => absurd h (Nat.not_lt_zero j)) hP (lv_sub hl [1, 2, 0] rfl)
    ·
      refine lv_iconst (v := 0) hx hb dX4_isWord_24 (by decide) ?_
      rw [← hQ]
      exact W.zret (v := 0) hx hb hr rfl (fun t ht hW => ⟨_, rfl, Or.inr ⟨rfl, fun h => c_21 (by rw [show pe - ps = sn by have h9 := h.2.1; omega])⟩, ht⟩) (fun q h => nomatch h) dX4_isWord_25

set_option maxHeartbeats 4000000 in
set_option maxRecDepth 100000 in
theorem f_X4_line (l : Launch) (D : va_G) (cB cI cJ cZ : ClassId) (h0 dr tp tt ln ps pe to : Nat) (t1 t2 t6 t9 : Int32) (sk : Nat → Nat) (rt : Nat → Int32) (pp : Nat) (b_ln : ln ≤ 300) (hp : pp ≤ ln) (hc : curP (sg rt) ln pp t6 ps pe t9) : Met l yX4_lineNamed wsX4_lineNamed ({ frames := 5, cells := 0, slots := 0, locals := 143 } : Room) (va_Pc [.ref h0] (fun U => va_P D vwCl [(h0, .inr (4, [.ref dr, .int t1, .int t2, .int (nI tt), .ref tp, .int (nI ln), .int t6, .int (nI ps), .int (nI pe), .int t9, .int (nI to)])), (tp, .inl (cB, 300, .inl rt))] U.heap ∧ va_K D vwCl (aTy cB cI cJ cZ) U ∧ RdA (fun _ => False) sk U U.heap)) (vp_Si (fun r : Int32 => (lw (tW (sg rt) ln pp) ∧ r = nI (lx (tW (sg rt) ln pp))) ∨ (¬ lw (tW (sg rt) ln pp) ∧ r = -1))) 0 0 (fun _ => False) := by
  refine Met.ofW (cc := cX4_lineNamed) (maxL := 1) (ret := (some .int)) (by decide) rfl ?_
  intro p e s m args below meth c s₁ B hml hv
  obtain ⟨rfl, hP, hK, hNw⟩ := hv
  have hx := B.exec
  have hb := B.bytes
  have hr := B.returns
  have hts := atoms_spec (ws := wsX4_lineNamed) B.pre
  have hown : s.vm.findClass RX4 = some m.cls := findClass_of_methodNamed B.named
  have hlocks := B.notSynchronized
  have hP : va_P D vwCl [(h0, .inr (4, [.ref dr, .int t1, .int t2, .int (nI tt), .ref tp, .int (nI ln), .int t6, .int (nI ps), .int (nI pe), .int t9, .int (nI to)])), (tp, .inl (cB, 300, .inl rt))] s.heap := hP
  have hps : ps ≤ pe := by rw [hc.2.1, hc.2.2.1]; exact tE_ge
  have hpl : pe ≤ ln := by rw [hc.2.2.1]; exact tE_le hp
  have hl := lv_entry ([.ref h0]) (n := 1) (Nat.le_of_ble_eq_true rfl)
  rw [lg_entry_eq]
  generalize (lg_sl ([.ref h0]) ++ List.replicate (1 - (lg_sl ([.ref h0])).length) Slot.unset).toArray = ls at hl ⊢
  have hl : lv_has ls 1 [(0, .ref h0)] := hl
  refine lv_aload_n hx hb dX4_lineNamed_0 rfl (lv_at hl 0 rfl) ?_
  refine va_ldcS hx hb hown hNw.1.1 dX4_lineNamed_1 ?_
  refine vp_callSi (va_Run.run (va_runV (As := [.ref (sk 0)]) (rest := []) ⟨hx, hb, hml, hown, hts⟩ (f_X4_isWord l D cB cI cJ cZ h0 dr tp tt ln ps pe to t1 t2 t6 t9 (wln 3) (wcf 3) (sk 0) rt b_ln hps hpl) (cwV 1 hts gX4_lineNamed_X4_isWord rfl rfl rfl (by decide +kernel) ⟨Nat.le_of_ble_eq_true rfl, Nat.le_of_ble_eq_true rfl⟩) ⟨fun _ U g9 mk q => ⟨q.1, q.2.1, va_K.moved (u := U) (U := U.calling g9 mk _) (Vm.Alike.refl U.vm) q.2.2.1, q.2.2.2.calling⟩, va_recv hK hP (ci := 4) (q0 := 0) rfl rfl, fun U hU hW => ⟨rfl, by rw [hU]; exact hP, va_K.moved hW.alike hK, strA.later hNw.1.2 va_S.rf hU hW (fun _ h => h)⟩⟩ rfl rfl hl.1 rfl (lv_room (Nat.le_of_ble_eq_true rfl)) dX4_lineNamed_3 ⟨Nat.le_of_ble_eq_true rfl, Nat.le_of_ble_eq_true rfl⟩)) (fun r_1 hw_r_1 => ?_)
  have hq_3 := iw_W (w := 3) hc (by decide) hw_r_1
  refine lv_if_eq (tgt := 11) hx hb dX4_lineNamed_6 (by decide) (fun c_6 => ?_) (fun c_6 => ?_)
  ·
    refine lv_aload_n hx hb dX4_lineNamed_11 rfl (lv_at hl 0 rfl) ?_
    refine va_ldcS hx hb hown hNw.2.1.1 dX4_lineNamed_12 ?_
    refine vp_callSi (va_Run.run (va_runV (As := [.ref (sk 1)]) (rest := []) ⟨hx, hb, hml, hown, hts⟩ (f_X4_isWord l D cB cI cJ cZ h0 dr tp tt ln ps pe to t1 t2 t6 t9 (wln 1) (wcf 1) (sk 1) rt b_ln hps hpl) (cwV 1 hts gX4_lineNamed_X4_isWord rfl rfl rfl (by decide +kernel) ⟨Nat.le_of_ble_eq_true rfl, Nat.le_of_ble_eq_true rfl⟩) ⟨fun _ U g9 mk q => ⟨q.1, q.2.1, va_K.moved (u := U) (U := U.calling g9 mk _) (Vm.Alike.refl U.vm) q.2.2.1, q.2.2.2.calling⟩, va_recv hK hP (ci := 4) (q0 := 0) rfl rfl, fun U hU hW => ⟨rfl, by rw [hU]; exact hP, va_K.moved hW.alike hK, strA.later hNw.2.1.2 va_S.rf hU hW (fun _ h => h)⟩⟩ rfl rfl hl.1 rfl (lv_room (Nat.le_of_ble_eq_true rfl)) dX4_lineNamed_14 ⟨Nat.le_of_ble_eq_true rfl, Nat.le_of_ble_eq_true rfl⟩)) (fun r_2 hw_r_2 => ?_)
    have hq_1 := iw_W (w := 1) hc (by decide) hw_r_2
    refine lv_if_eq (tgt := 22) hx hb dX4_lineNamed_17 (by decide) (fun c_17 => ?_) (fun c_17 => ?_)
    ·
      refine lv_aload_n hx hb dX4_lineNamed_22 rfl (lv_at hl 0 rfl) ?_
      refine va_ldcS hx hb hown hNw.2.2.1.1 dX4_lineNamed_23 ?_
      refine vp_callSi (va_Run.run (va_runV (As := [.ref (sk 2)]) (rest := []) ⟨hx, hb, hml, hown, hts⟩ (f_X4_isWord l D cB cI cJ cZ h0 dr tp tt ln ps pe to t1 t2 t6 t9 (wln 4) (wcf 4) (sk 2) rt b_ln hps hpl) (cwV 1 hts gX4_lineNamed_X4_isWord rfl rfl rfl (by decide +kernel) ⟨Nat.le_of_ble_eq_true rfl, Nat.le_of_ble_eq_true rfl⟩) ⟨fun _ U g9 mk q => ⟨q.1, q.2.1, va_K.moved (u := U) (U := U.calling g9 mk _) (Vm.Alike.refl U.vm) q.2.2.1, q.2.2.2.calling⟩, va_recv hK hP (ci := 4) (q0 := 0) rfl rfl, fun U hU hW => ⟨rfl, by rw [hU]; exact hP, va_K.moved hW.alike hK, strA.later hNw.2.2.1.2 va_S.rf hU hW (fun _ h => h)⟩⟩ rfl rfl hl.1 rfl (lv_room (Nat.le_of_ble_eq_true rfl)) dX4_lineNamed_25 ⟨Nat.le_of_ble_eq_true rfl, Nat.le_of_ble_eq_true rfl⟩)) (fun r_3 hw_r_3 => ?_)
      have hq_4 := iw_W (w := 4) hc (by decide) hw_r_3
      refine lv_if_eq (tgt := 33) hx hb dX4_lineNamed_28 (by decide) (fun c_28 => ?_) (fun c_28 => ?_)
      ·
        refine lv_aload_n hx hb dX4_lineNamed_33 rfl (lv_at hl 0 rfl) ?_
        refine va_ldcS hx hb hown hNw.2.2.2.1.1 dX4_lineNamed_34 ?_
        refine vp_callSi (va_Run.run (va_runV (As := [.ref (sk 3)]) (rest := []) ⟨hx, hb, hml, hown, hts⟩ (f_X4_isWord l D cB cI cJ cZ h0 dr tp tt ln ps pe to t1 t2 t6 t9 (wln 5) (wcf 5) (sk 3) rt b_ln hps hpl) (cwV 1 hts gX4_lineNamed_X4_isWord rfl rfl rfl (by decide +kernel) ⟨Nat.le_of_ble_eq_true rfl, Nat.le_of_ble_eq_true rfl⟩) ⟨fun _ U g9 mk q => ⟨q.1, q.2.1, va_K.moved (u := U) (U := U.calling g9 mk _) (Vm.Alike.refl U.vm) q.2.2.1, q.2.2.2.calling⟩, va_recv hK hP (ci := 4) (q0 := 0) rfl rfl, fun U hU hW => ⟨rfl, by rw [hU]; exact hP, va_K.moved hW.alike hK, strA.later hNw.2.2.2.1.2 va_S.rf hU hW (fun _ h => h)⟩⟩ rfl rfl hl.1 rfl (lv_room (Nat.le_of_ble_eq_true rfl)) dX4_lineNamed_36 ⟨Nat.le_of_ble_eq_true rfl, Nat.le_of_ble_eq_true rfl⟩)) (fun r_4 hw_r_4 => ?_)
        have hq_5 := iw_W (w := 5) hc (by decide) hw_r_4
        refine lv_if_eq (tgt := 44) hx hb dX4_lineNamed_39 (by decide) (fun c_39 => ?_) (fun c_39 => ?_)
        ·
          refine lv_aload_n hx hb dX4_lineNamed_44 rfl (lv_at hl 0 rfl) ?_
          refine va_ldcS hx hb hown hNw.2.2.2.2.1.1 dX4_lineNamed_45 ?_
          refine vp_callSi (va_Run.run (va_runV (As := [.ref (sk 4)]) (rest := []) ⟨hx, hb, hml, hown, hts⟩ (f_X4_isWord l D cB cI cJ cZ h0 dr tp tt ln ps pe to t1 t2 t6 t9 (wln 6) (wcf 6) (sk 4) rt b_ln hps hpl) (cwV 1 hts gX4_lineNamed_X4_isWord rfl rfl rfl (by decide +kernel) ⟨Nat.le_of_ble_eq_true rfl, Nat.le_of_ble_eq_true rfl⟩) ⟨fun _ U g9 mk q => ⟨q.1, q.2.1, va_K.moved (u := U) (U := U.calling g9 mk _) (Vm.Alike.refl U.vm) q.2.2.1, q.2.2.2.calling⟩, va_recv hK hP (ci := 4) (q0 := 0) rfl rfl, fun U hU hW => ⟨rfl, by rw [hU]; exact hP, va_K.moved hW.alike hK, strA.later hNw.2.2.2.2.1.2 va_S.rf hU hW (fun _ h => h)⟩⟩ rfl rfl hl.1 rfl (lv_room (Nat.le_of_ble_eq_true rfl)) dX4_lineNamed_47 ⟨Nat.le_of_ble_eq_true rfl, Nat.le_of_ble_eq_true rfl⟩)) (fun r_5 hw_r_5 => ?_)
          have hq_6 := iw_W (w := 6) hc (by decide) hw_r_5
          refine lv_if_eq (tgt := 55) hx hb dX4_lineNamed_50 (by decide) (fun c_50 => ?_) (fun c_50 => ?_)
          ·
            refine lv_aload_n hx hb dX4_lineNamed_55 rfl (lv_at hl 0 rfl) ?_
            refine va_ldcS hx hb hown hNw.2.2.2.2.2.1.1 dX4_lineNamed_56 ?_
            refine vp_callSi (va_Run.run (va_runV (As := [.ref (sk 5)]) (rest := []) ⟨hx, hb, hml, hown, hts⟩ (f_X4_isWord l D cB cI cJ cZ h0 dr tp tt ln ps pe to t1 t2 t6 t9 (wln 7) (wcf 7) (sk 5) rt b_ln hps hpl) (cwV 1 hts gX4_lineNamed_X4_isWord rfl rfl rfl (by decide +kernel) ⟨Nat.le_of_ble_eq_true rfl, Nat.le_of_ble_eq_true rfl⟩) ⟨fun _ U g9 mk q => ⟨q.1, q.2.1, va_K.moved (u := U) (U := U.calling g9 mk _) (Vm.Alike.refl U.vm) q.2.2.1, q.2.2.2.calling⟩, va_recv hK hP (ci := 4) (q0 := 0) rfl rfl, fun U hU hW => ⟨rfl, by rw [hU]; exact hP, va_K.moved hW.alike hK, strA.later hNw.2.2.2.2.2.1.2 va_S.rf hU hW (fun _ h => h)⟩⟩ rfl rfl hl.1 rfl (lv_room (Nat.le_of_ble_eq_true rfl)) dX4_lineNamed_58 ⟨Nat.le_of_ble_eq_true rfl, Nat.le_of_ble_eq_true rfl⟩)) (fun r_6 hw_r_6 => ?_)
            have hq_7 := iw_W (w := 7) hc (by decide) hw_r_6
            refine lv_if_eq (tgt := 68) hx hb dX4_lineNamed_61 (by decide) (fun c_61 => ?_) (fun c_61 => ?_)
            ·
              refine lv_iconst (v := (-1)) hx hb dX4_lineNamed_68 (by decide) ?_
              exact W.iret (v := (-1)) hx hb hr (fun t ht hW => ⟨_, rfl, Or.inr ⟨ln_n (hq_3.eq c_6) (hq_1.eq c_17) (hq_4.eq c_28) (hq_5.eq c_39) (hq_6.eq c_50) (hq_7.eq c_61), rfl⟩, ht⟩) (fun q h => nomatch h) dX4_lineNamed_69
            ·
              refine lv_iconst (v := 5) hx hb dX4_lineNamed_64 (by decide) ?_
              refine lv_goto (tgt := 69) hx hb dX4_lineNamed_65 (by decide) ?_
              exact W.iret (v := 5) hx hb hr (fun t ht hW => ⟨_, rfl, Or.inl (ln_y (w := 7) (hq_7.ne c_61) (by decide) rfl), ht⟩) (fun q h => nomatch h) dX4_lineNamed_69
          ·
            refine lv_iconst (v := 4) hx hb dX4_lineNamed_53 (by decide) ?_
            exact W.iret (v := 4) hx hb hr (fun t ht hW => ⟨_, rfl, Or.inl (ln_y (w := 6) (hq_6.ne c_50) (by decide) rfl), ht⟩) (fun q h => nomatch h) dX4_lineNamed_54
        ·
          refine lv_iconst (v := 3) hx hb dX4_lineNamed_42 (by decide) ?_
          exact W.iret (v := 3) hx hb hr (fun t ht hW => ⟨_, rfl, Or.inl (ln_y (w := 5) (hq_5.ne c_39) (by decide) rfl), ht⟩) (fun q h => nomatch h) dX4_lineNamed_43
      ·
        refine lv_iconst (v := 2) hx hb dX4_lineNamed_31 (by decide) ?_
        exact W.iret (v := 2) hx hb hr (fun t ht hW => ⟨_, rfl, Or.inl (ln_y (w := 4) (hq_4.ne c_28) (by decide) rfl), ht⟩) (fun q h => nomatch h) dX4_lineNamed_32
    ·
      refine lv_iconst (v := 1) hx hb dX4_lineNamed_20 (by decide) ?_
      exact W.iret (v := 1) hx hb hr (fun t ht hW => ⟨_, rfl, Or.inl (ln_y (w := 1) (hq_1.ne c_17) (by decide) rfl), ht⟩) (fun q h => nomatch h) dX4_lineNamed_21
  ·
    refine lv_iconst (v := 0) hx hb dX4_lineNamed_9 (by decide) ?_
    exact W.iret (v := 0) hx hb hr (fun t ht hW => ⟨_, rfl, Or.inl (ln_y (w := 3) (hq_3.ne c_6) (by decide) rfl), ht⟩) (fun q h => nomatch h) dX4_lineNamed_10

theorem wy_n {W : Nat} (h0 : ¬ W = 0) (h1 : ¬ W = 1) (h2 : ¬ W = 2) : ¬ W ≤ 2 := by omega

set_option maxHeartbeats 4000000 in
set_option maxRecDepth 100000 in
theorem f_X4_wayN (l : Launch) (D : va_G) (cB cI cJ cZ : ClassId) (h0 dr tp tt ln ps pe to : Nat) (t1 t2 t6 t9 : Int32) (sk : Nat → Nat) (rt : Nat → Int32) (pp : Nat) (b_ln : ln ≤ 300) (hp : pp ≤ ln) (hc : curP (sg rt) ln pp t6 ps pe t9) : Met l yX4_wayNamed wsX4_wayNamed ({ frames := 5, cells := 0, slots := 0, locals := 143 } : Room) (va_Pc [.ref h0] (fun U => va_P D vwCl [(h0, .inr (4, [.ref dr, .int t1, .int t2, .int (nI tt), .ref tp, .int (nI ln), .int t6, .int (nI ps), .int (nI pe), .int t9, .int (nI to)])), (tp, .inl (cB, 300, .inl rt))] U.heap ∧ va_K D vwCl (aTy cB cI cJ cZ) U ∧ RdA (fun _ => False) sk U U.heap)) (vp_Si (fun r : Int32 => ((tW (sg rt) ln pp) ≤ 2 ∧ r = nI (tW (sg rt) ln pp)) ∨ (¬ (tW (sg rt) ln pp) ≤ 2 ∧ r = -1))) 0 0 (fun _ => False) := by
  refine Met.ofW (cc := cX4_wayNamed) (maxL := 1) (ret := (some .int)) (by decide) rfl ?_
  intro p e s m args below meth c s₁ B hml hv
  obtain ⟨rfl, hP, hK, hNw⟩ := hv
  have hx := B.exec
  have hb := B.bytes
  have hr := B.returns
  have hts := atoms_spec (ws := wsX4_wayNamed) B.pre
  have hown : s.vm.findClass RX4 = some m.cls := findClass_of_methodNamed B.named
  have hlocks := B.notSynchronized
  have hP : va_P D vwCl [(h0, .inr (4, [.ref dr, .int t1, .int t2, .int (nI tt), .ref tp, .int (nI ln), .int t6, .int (nI ps), .int (nI pe), .int t9, .int (nI to)])), (tp, .inl (cB, 300, .inl rt))] s.heap := hP
  have hps : ps ≤ pe := by rw [hc.2.1, hc.2.2.1]; exact tE_ge
  have hpl : pe ≤ ln := by rw [hc.2.2.1]; exact tE_le hp
  have hl := lv_entry ([.ref h0]) (n := 1) (Nat.le_of_ble_eq_true rfl)
  rw [lg_entry_eq]
  generalize (lg_sl ([.ref h0]) ++ List.replicate (1 - (lg_sl ([.ref h0])).length) Slot.unset).toArray = ls at hl ⊢
  have hl : lv_has ls 1 [(0, .ref h0)] := hl
  refine lv_aload_n hx hb dX4_wayNamed_0 rfl (lv_at hl 0 rfl) ?_
  refine va_ldcS hx hb hown hNw.2.2.2.2.2.2.1.1 dX4_wayNamed_1 ?_
  refine vp_callSi (va_Run.run (va_runV (As := [.ref (sk 6)]) (rest := []) ⟨hx, hb, hml, hown, hts⟩ (f_X4_isWord l D cB cI cJ cZ h0 dr tp tt ln ps pe to t1 t2 t6 t9 (wln 0) (wcf 0) (sk 6) rt b_ln hps hpl) (cwV 1 hts gX4_wayNamed_X4_isWord rfl rfl rfl (by decide +kernel) ⟨Nat.le_of_ble_eq_true rfl, Nat.le_of_ble_eq_true rfl⟩) ⟨fun _ U g9 mk q => ⟨q.1, q.2.1, va_K.moved (u := U) (U := U.calling g9 mk _) (Vm.Alike.refl U.vm) q.2.2.1, q.2.2.2.calling⟩, va_recv hK hP (ci := 4) (q0 := 0) rfl rfl, fun U hU hW => ⟨rfl, by rw [hU]; exact hP, va_K.moved hW.alike hK, strA.later hNw.2.2.2.2.2.2.1.2 va_S.rf hU hW (fun _ h => h)⟩⟩ rfl rfl hl.1 rfl (lv_room (Nat.le_of_ble_eq_true rfl)) dX4_wayNamed_3 ⟨Nat.le_of_ble_eq_true rfl, Nat.le_of_ble_eq_true rfl⟩)) (fun r_1 hw_r_1 => ?_)
  have hq_0 := iw_W (w := 0) hc (by decide) hw_r_1
  refine lv_if_eq (tgt := 11) hx hb dX4_wayNamed_6 (by decide) (fun c_6 => ?_) (fun c_6 => ?_)
  ·
    refine lv_aload_n hx hb dX4_wayNamed_11 rfl (lv_at hl 0 rfl) ?_
    refine va_ldcS hx hb hown hNw.2.1.1 dX4_wayNamed_12 ?_
    refine vp_callSi (va_Run.run (va_runV (As := [.ref (sk 1)]) (rest := []) ⟨hx, hb, hml, hown, hts⟩ (f_X4_isWord l D cB cI cJ cZ h0 dr tp tt ln ps pe to t1 t2 t6 t9 (wln 1) (wcf 1) (sk 1) rt b_ln hps hpl) (cwV 1 hts gX4_wayNamed_X4_isWord rfl rfl rfl (by decide +kernel) ⟨Nat.le_of_ble_eq_true rfl, Nat.le_of_ble_eq_true rfl⟩) ⟨fun _ U g9 mk q => ⟨q.1, q.2.1, va_K.moved (u := U) (U := U.calling g9 mk _) (Vm.Alike.refl U.vm) q.2.2.1, q.2.2.2.calling⟩, va_recv hK hP (ci := 4) (q0 := 0) rfl rfl, fun U hU hW => ⟨rfl, by rw [hU]; exact hP, va_K.moved hW.alike hK, strA.later hNw.2.1.2 va_S.rf hU hW (fun _ h => h)⟩⟩ rfl rfl hl.1 rfl (lv_room (Nat.le_of_ble_eq_true rfl)) dX4_wayNamed_14 ⟨Nat.le_of_ble_eq_true rfl, Nat.le_of_ble_eq_true rfl⟩)) (fun r_2 hw_r_2 => ?_)
    have hq_1 := iw_W (w := 1) hc (by decide) hw_r_2
    refine lv_if_eq (tgt := 22) hx hb dX4_wayNamed_17 (by decide) (fun c_17 => ?_) (fun c_17 => ?_)
    ·
      refine lv_aload_n hx hb dX4_wayNamed_22 rfl (lv_at hl 0 rfl) ?_
      refine va_ldcS hx hb hown hNw.2.2.2.2.2.2.2.1 dX4_wayNamed_23 ?_
      refine vp_callSi (va_Run.run (va_runV (As := [.ref (sk 7)]) (rest := []) ⟨hx, hb, hml, hown, hts⟩ (f_X4_isWord l D cB cI cJ cZ h0 dr tp tt ln ps pe to t1 t2 t6 t9 (wln 2) (wcf 2) (sk 7) rt b_ln hps hpl) (cwV 1 hts gX4_wayNamed_X4_isWord rfl rfl rfl (by decide +kernel) ⟨Nat.le_of_ble_eq_true rfl, Nat.le_of_ble_eq_true rfl⟩) ⟨fun _ U g9 mk q => ⟨q.1, q.2.1, va_K.moved (u := U) (U := U.calling g9 mk _) (Vm.Alike.refl U.vm) q.2.2.1, q.2.2.2.calling⟩, va_recv hK hP (ci := 4) (q0 := 0) rfl rfl, fun U hU hW => ⟨rfl, by rw [hU]; exact hP, va_K.moved hW.alike hK, strA.later hNw.2.2.2.2.2.2.2.2 va_S.rf hU hW (fun _ h => h)⟩⟩ rfl rfl hl.1 rfl (lv_room (Nat.le_of_ble_eq_true rfl)) dX4_wayNamed_25 ⟨Nat.le_of_ble_eq_true rfl, Nat.le_of_ble_eq_true rfl⟩)) (fun r_3 hw_r_3 => ?_)
      have hq_2 := iw_W (w := 2) hc (by decide) hw_r_3
      refine lv_if_eq (tgt := 35) hx hb dX4_wayNamed_28 (by decide) (fun c_28 => ?_) (fun c_28 => ?_)
      ·
        refine lv_iconst (v := (-1)) hx hb dX4_wayNamed_35 (by decide) ?_
        exact W.iret (v := (-1)) hx hb hr (fun t ht hW => ⟨_, rfl, Or.inr ⟨wy_n (hq_0.eq c_6) (hq_1.eq c_17) (hq_2.eq c_28), rfl⟩, ht⟩) (fun q h => nomatch h) dX4_wayNamed_36
      ·
        refine lv_iconst (v := 2) hx hb dX4_wayNamed_31 (by decide) ?_
        refine lv_goto (tgt := 36) hx hb dX4_wayNamed_32 (by decide) ?_
        exact W.iret (v := 2) hx hb hr (fun t ht hW => ⟨_, rfl, Or.inl (wy_y (w := 2) (hq_2.ne c_28) (by decide) rfl), ht⟩) (fun q h => nomatch h) dX4_wayNamed_36
    ·
      refine lv_iconst (v := 1) hx hb dX4_wayNamed_20 (by decide) ?_
      exact W.iret (v := 1) hx hb hr (fun t ht hW => ⟨_, rfl, Or.inl (wy_y (w := 1) (hq_1.ne c_17) (by decide) rfl), ht⟩) (fun q h => nomatch h) dX4_wayNamed_21
  ·
    refine lv_iconst (v := 0) hx hb dX4_wayNamed_9 (by decide) ?_
    exact W.iret (v := 0) hx hb hr (fun t ht hW => ⟨_, rfl, Or.inl (wy_y (w := 0) (hq_0.ne c_6) (by decide) rfl), ht⟩) (fun q h => nomatch h) dX4_wayNamed_10

