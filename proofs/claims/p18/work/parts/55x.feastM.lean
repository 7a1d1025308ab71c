/-! The reference's cloth, and which of two sets comes first. -/
def fsP (r : Int32) (A B g : Nat) : Prop := (r = 1 ∧ ∃ i, i < g ∧ (∀ j, j < i → A.testBit j = B.testBit j) ∧ A.testBit i = true ∧ B.testBit i = false) ∨ (r = 0 ∧ ((∃ i, i < g ∧ (∀ j, j < i → A.testBit j = B.testBit j) ∧ A.testBit i = false ∧ B.testBit i = true) ∨ ∀ j, j < g → A.testBit j = B.testBit j))
def sfI (A B i : Nat) : Prop := ∀ j, j < i → A.testBit j = B.testBit j
theorem sf_0 {A B : Nat} : sfI A B 0 := fun j h => absurd h (Nat.not_lt_zero j)
theorem sf_s {A B i : Nat} (h : sfI A B i) (c : bI A i = bI B i) : sfI A B (i + 1) := fun j hj => by
  by_cases q : j = i
  · subst q
    cases x : A.testBit j
    · rw [bI_0.mpr x] at c; exact (bI_0.mp c.symm).symm
    · rw [bI_1.mpr x] at c; exact (bI_1.mp c.symm).symm
  · exact h j (by omega)
theorem sf_1 {A B i g : Nat} (h : sfI A B i) (hi : i < g) (c : ¬ bI A i = bI B i) (d : bI A i = 1) : fsP 1 A B g := by
  refine Or.inl ⟨rfl, i, hi, h, bI_1.mp d, ?_⟩
  cases x : B.testBit i
  · rfl
  · exact absurd (d.trans (bI_1.mpr x).symm) c
theorem sf_2 {A B i g : Nat} (h : sfI A B i) (hi : i < g) (c : ¬ bI A i = bI B i) (d : ¬ bI A i = 1) : fsP 0 A B g := by
  have a : A.testBit i = false := by
    cases x : A.testBit i
    · rfl
    · exact absurd (bI_1.mpr x) d
  refine Or.inr ⟨rfl, Or.inl ⟨i, hi, h, a, ?_⟩⟩
  cases x : B.testBit i
  · exact absurd ((bI_0.mpr a).trans (bI_0.mpr x).symm) c
  · rfl
def clS (zs ins : Nat → Int32) (A : Nat) : Nat → Int32
  | 0 => 0
  | k + 1 => clS zs ins A k + (if A.testBit k = true then zs (ins k).toNatClampNeg else 0)
theorem cl_y {zs ins : Nat → Int32} {A i : Nat} {x : Int32} (h : x = clS zs ins A i) (c : bI A i = 1) : x + zs (ins i).toNatClampNeg = clS zs ins A (i + 1) := by
  show _ = clS zs ins A i + (if A.testBit i = true then zs (ins i).toNatClampNeg else 0)
  rw [if_pos (bI_1.mp c), h]
theorem cl_n {zs ins : Nat → Int32} {A i : Nat} {x : Int32} (h : x = clS zs ins A i) (c : ¬ bI A i = 1) : x + 0 = clS zs ins A (i + 1) := by
  show _ = clS zs ins A i + (if A.testBit i = true then zs (ins i).toNatClampNeg else 0)
  rw [if_neg (fun z => c (bI_1.mpr z)), h]
/-- in numbers -/
theorem cl_int {zs ins : Nat → Int32} {A : Nat} : ∀ {g : Nat}, g ≤ 16 → (∀ i, i < g → 0 ≤ (zs (ins i).toNatClampNeg).toInt ∧ (zs (ins i).toNatClampNeg).toInt ≤ 99) → (clS zs ins A g).toInt = py_b (fun i => (zs (ins i).toNatClampNeg).toInt) A g ∧ 0 ≤ (clS zs ins A g).toInt ∧ (clS zs ins A g).toInt ≤ 99 * g
  | 0, _, _ => by show (0 : Int32).toInt = 0 ∧ 0 ≤ (0 : Int32).toInt ∧ (0 : Int32).toInt ≤ 99 * ((0 : Nat) : Int); decide
  | g + 1, hg, h => by
    obtain ⟨a, b, c⟩ := cl_int (A := A) (g := g) (by omega) (fun i hi => h i (by omega))
    have hz := h g (by omega)
    rw [py_b_s, ← a]
    show (clS zs ins A g + (if A.testBit g = true then zs (ins g).toNatClampNeg else 0)).toInt = _ ∧ 0 ≤ (clS zs ins A g + (if A.testBit g = true then zs (ins g).toNatClampNeg else 0)).toInt ∧ (clS zs ins A g + (if A.testBit g = true then zs (ins g).toNatClampNeg else 0)).toInt ≤ _
    by_cases q : A.testBit g = true
    · rw [if_pos q, if_pos q, Int32.toInt_add, Int.bmod_eq_of_le (by omega) (by omega)]
      refine ⟨rfl, by omega, by omega⟩
    · rw [if_neg q, if_neg q, Int32.add_zero]
      refine ⟨by omega, b, by omega⟩

set_option maxHeartbeats 4000000 in
set_option maxRecDepth 100000 in
theorem f_X8_isFirst (l : Launch) (D : va_G) (cB cI cJ cZ : ClassId) (y : Nat → Nat) (m_tapeSize m_givers m_children m_coats m_legacies m_insideMany : Nat) (m_thrown m_cycleMany m_vote m_low m_high m_wear m_spare m_places m_cycleNext m_fault m_faultPlace m_giverNext m_years m_end m_next m_kind m_which m_place m_read m_readMany m_readHigh : Int32) (A9 B9 : Nat) (b_insideMany : m_insideMany ≤ 16) (hA9 : A9 < 65536) (hB9 : B9 < 65536) : Met l yX8_isFirst wsX8_isFirst ({ frames := 0, cells := 0, slots := 0, locals := 0 } : Room) (cRd D (aTy cB cI cJ cZ) [((y 0), .inr (8, [.ref (y 1), .int (nI m_tapeSize), .int m_thrown, .ref (y 2), .int m_cycleMany, .int m_vote, .int m_low, .int m_high, .int m_wear, .int m_spare, .int m_places, .int m_cycleNext, .int m_fault, .int m_faultPlace, .int (nI m_givers), .ref (y 3), .ref (y 4), .int m_giverNext, .int (nI m_children), .ref (y 5), .ref (y 6), .ref (y 7), .ref (y 8), .ref (y 9), .int (nI m_coats), .ref (y 10), .ref (y 11), .ref (y 12), .ref (y 13), .int m_years, .int (nI m_legacies), .ref (y 14), .ref (y 15), .ref (y 16), .ref (y 17), .int m_end, .int m_next, .int m_kind, .int m_which, .int m_place, .int m_read, .ref (y 18), .ref (y 19), .int m_readMany, .int m_readHigh, .ref (y 20), .int (nI m_insideMany), .ref (y 21), .ref (y 22), .ref (y 23), .ref (y 24), .ref (y 25)]))] [.ref (y 0), .int (nI A9), .int (nI B9)]) (vp_Si (fun r : Int32 => fsP r A9 B9 m_insideMany)) 0 0 (fun _ => False) := by
  refine Met.ofW (cc := cX8_isFirst) (maxL := 6) (ret := (some .boolean)) (by decide) rfl ?_
  intro p e s m args below meth c s₁ B hml hv
  obtain ⟨rfl, hP, hK⟩ := hv
  have hx := B.exec
  have hb := B.bytes
  have hr := B.returns
  have hts := atoms_spec (ws := wsX8_isFirst) B.pre
  have hown : s.vm.findClass RX8 = some m.cls := findClass_of_methodNamed B.named
  have hlocks := B.notSynchronized
  have hP : va_P D vwCl [((y 0), .inr (8, [.ref (y 1), .int (nI m_tapeSize), .int m_thrown, .ref (y 2), .int m_cycleMany, .int m_vote, .int m_low, .int m_high, .int m_wear, .int m_spare, .int m_places, .int m_cycleNext, .int m_fault, .int m_faultPlace, .int (nI m_givers), .ref (y 3), .ref (y 4), .int m_giverNext, .int (nI m_children), .ref (y 5), .ref (y 6), .ref (y 7), .ref (y 8), .ref (y 9), .int (nI m_coats), .ref (y 10), .ref (y 11), .ref (y 12), .ref (y 13), .int m_years, .int (nI m_legacies), .ref (y 14), .ref (y 15), .ref (y 16), .ref (y 17), .int m_end, .int m_next, .int m_kind, .int m_which, .int m_place, .int m_read, .ref (y 18), .ref (y 19), .int m_readMany, .int m_readHigh, .ref (y 20), .int (nI m_insideMany), .ref (y 21), .ref (y 22), .ref (y 23), .ref (y 24), .ref (y 25)]))] s.heap := hP
  have w_1 : ∀ w ∈ wsX80, w ∈ wsX8_isFirst := by decide +kernel
  have w_2 := hts (Cond.fieldLink RX8 213 "BlueCoatsModel" "insideMany" "I") (by decide +kernel)
  have hl := lv_entry ([.ref (y 0), .int (nI A9), .int (nI B9)]) (n := 6) (Nat.le_of_ble_eq_true rfl)
  rw [lg_entry_eq]
  generalize (lg_sl ([.ref (y 0), .int (nI A9), .int (nI B9)]) ++ List.replicate (6 - (lg_sl ([.ref (y 0), .int (nI A9), .int (nI B9)])).length) Slot.unset).toArray = ls at hl ⊢
  have hl : lv_has ls 6 [(0, .ref (y 0)), (1, .int (nI A9)), (2, .int (nI B9))] := hl
  generalize hQ : MQ below _ _ s _ _ _ = Q0
  refine lv_iconst (v := 0) hx hb dX8_isFirst_0 (by decide) ?_
  refine lv_istore_n (lv' := [(3, .int 0), (0, .ref (y 0)), (1, .int (nI A9)), (2, .int (nI B9))]) hx hb dX8_isFirst_1 rfl hl (by decide) rfl (fun ls hl => ?_)
  have L_1 : ∀ (n : Nat) (i_2 : Nat)  (ls : Array Slot), m_insideMany - i_2 < n → (i_2 ≤ m_insideMany) → (sfI A9 B9 i_2) → va_P D vwCl [((y 0), .inr (8, [.ref (y 1), .int (nI m_tapeSize), .int m_thrown, .ref (y 2), .int m_cycleMany, .int m_vote, .int m_low, .int m_high, .int m_wear, .int m_spare, .int m_places, .int m_cycleNext, .int m_fault, .int m_faultPlace, .int (nI m_givers), .ref (y 3), .ref (y 4), .int m_giverNext, .int (nI m_children), .ref (y 5), .ref (y 6), .ref (y 7), .ref (y 8), .ref (y 9), .int (nI m_coats), .ref (y 10), .ref (y 11), .ref (y 12), .ref (y 13), .int m_years, .int (nI m_legacies), .ref (y 14), .ref (y 15), .ref (y 16), .ref (y 17), .int m_end, .int m_next, .int m_kind, .int m_which, .int m_place, .int m_read, .ref (y 18), .ref (y 19), .int m_readMany, .int m_readHigh, .ref (y 20), .int (nI m_insideMany), .ref (y 21), .ref (y 22), .ref (y 23), .ref (y 24), .ref (y 25)]))] s.heap → lv_has ls 6 [(0, .ref (y 0)), (1, .int (nI A9)), (2, .int (nI B9)), (3, .int (nI i_2))] → W p l e (headSpec wsX8_isFirst ({ frames := 0, cells := 0, slots := 0, locals := 0 } : Room)).room s m ([.ref (y 0), .int (nI A9), .int (nI B9)] : List Value).toArray below meth c s.heap [] 0 0 Q0 (F0 m 2 ls []) := by
    intro n
    induction n with
    | zero => intro i_2 ls hn_2 hle_2 hs_2 hP hl; exact absurd hn_2 (Nat.not_lt_zero _)
    | succ n ih_L_1 =>
      intro i_2 ls hn_2 hle_2 hs_2 hP hl
      refine lv_iload_n hx hb dX8_isFirst_2 rfl (lv_at hl 3 rfl) ?_
      refine lv_aload_n hx hb dX8_isFirst_3 rfl (lv_at hl 0 rfl) ?_
      refine va_get (D := D) (ci := 8) (v := .int (nI m_insideMany)) (C := RX8) (T := TX8) (N := 52) hx hb hts w_1 hown hK hP 0 rfl rfl 46 (by decide) w_2 (fun _ h9 => h9) rfl dX8_isFirst_4 ?_
      refine lv_icmp_ge (tgt := 49) hx hb dX8_isFirst_7 (by decide) (fun c_7 => ?_) (fun c_7 => ?_)
      ·
        refine lv_iconst (v := 0) hx hb dX8_isFirst_49 (by decide) ?_
        rw [← hQ]
        exact W.zret (v := 0) hx hb hr rfl (fun t ht hW => ⟨_, rfl, Or.inr ⟨rfl, Or.inr (by have h := hs_2; rw [(Nat.le_antisymm hle_2 (ge3 (by omega) hle_2 c_7))] at h; exact h)⟩, ht⟩) (fun q h => nomatch h) dX8_isFirst_50
      ·
        have hb_2 : i_2 < m_insideMany := lt3 (by omega) hle_2 c_7
        refine lv_iload_n hx hb dX8_isFirst_10 rfl (lv_at hl 1 rfl) ?_
        refine lv_iload_n hx hb dX8_isFirst_11 rfl (lv_at hl 3 rfl) ?_
        refine sv_ishr (v := (nI A9) >>> (nI i_2 &&& 31)) hx hb dX8_isFirst_12 rfl ?_
        refine lv_iconst (v := 1) hx hb dX8_isFirst_13 (by decide) ?_
        refine sv_iand (v := bI A9 i_2) hx hb dX8_isFirst_14 (bI_shr hA9 (by omega)) ?_
        refine lv_istore (lv' := [(4, .int (bI A9 i_2)), (0, .ref (y 0)), (1, .int (nI A9)), (2, .int (nI B9)), (3, .int (nI i_2))]) hx hb dX8_isFirst_15 hl (by decide) rfl (fun ls hl => ?_)
        refine lv_iload_n hx hb dX8_isFirst_17 rfl (lv_at hl 3 rfl) ?_
        refine lv_iload_n hx hb dX8_isFirst_18 rfl (lv_at hl 4 rfl) ?_
        refine sv_ishr (v := (nI B9) >>> (nI i_2 &&& 31)) hx hb dX8_isFirst_19 rfl ?_
        refine lv_iconst (v := 1) hx hb dX8_isFirst_20 (by decide) ?_
        refine sv_iand (v := bI B9 i_2) hx hb dX8_isFirst_21 (bI_shr hB9 (by omega)) ?_
        refine lv_istore (lv' := [(5, .int (bI B9 i_2)), (4, .int (bI A9 i_2)), (0, .ref (y 0)), (1, .int (nI A9)), (2, .int (nI B9)), (3, .int (nI i_2))]) hx hb dX8_isFirst_22 hl (by decide) rfl (fun ls hl => ?_)
        refine lv_iload hx hb dX8_isFirst_24 (lv_at hl 1 rfl) ?_
        refine lv_iload hx hb dX8_isFirst_26 (lv_at hl 0 rfl) ?_
        refine lv_icmp_eq (tgt := 43) hx hb dX8_isFirst_28 (by decide) (fun c_28 => ?_) (fun c_28 => ?_)
        ·
          refine lv_iinc (v := nI (i_2 + 1)) (lv' := [(3, .int (nI (i_2 + 1))), (5, .int (bI B9 i_2)), (4, .int (bI A9 i_2)), (0, .ref (y 0)), (1, .int (nI A9)), (2, .int (nI B9))]) hx hb dX8_isFirst_43 hl (k := 5) rfl (ax_add _ 1) (by decide) rfl (fun ls hl => ?_)
          refine lv_goto (tgt := 2) hx hb dX8_isFirst_46 (by decide) ?_
          exact ih_L_1 (i_2 + 1) ls (by omega) (by omega) (sf_s hs_2 c_28) hP (lv_sub hl [3, 4, 5, 0] rfl)
        ·
          refine lv_iload hx hb dX8_isFirst_31 (lv_at hl 1 rfl) ?_
          refine lv_iconst (v := 1) hx hb dX8_isFirst_33 (by decide) ?_
          refine lv_icmp_ne (tgt := 41) hx hb dX8_isFirst_34 (by decide) (fun c_34 => ?_) (fun c_34 => ?_)
          ·
            refine lv_iconst (v := 0) hx hb dX8_isFirst_41 (by decide) ?_
            rw [← hQ]
            exact W.zret (v := 0) hx hb hr rfl (fun t ht hW => ⟨_, rfl, sf_2 hs_2 hb_2 c_28 c_34, ht⟩) (fun q h => nomatch h) dX8_isFirst_42
          ·
            refine lv_iconst (v := 1) hx hb dX8_isFirst_37 (by decide) ?_
            refine lv_goto (tgt := 42) hx hb dX8_isFirst_38 (by decide) ?_
            rw [← hQ]
            exact W.zret (v := 1) hx hb hr rfl (fun t ht hW => ⟨_, rfl, sf_1 hs_2 hb_2 c_28 c_34, ht⟩) (fun q h => nomatch h) dX8_isFirst_42
  exact L_1 _ 0 ls (Nat.lt_succ_self _) (by first | exact Nat.zero_le _ | omega) sf_0 hP (lv_sub hl [1, 2, 3, 0] rfl)

set_option maxHeartbeats 4000000 in
set_option maxRecDepth 100000 in
theorem f_X8_clothOf (l : Launch) (D : va_G) (cB cI cJ cZ : ClassId) (y : Nat → Nat) (m_tapeSize m_givers m_children m_coats m_legacies m_insideMany : Nat) (m_thrown m_cycleMany m_vote m_low m_high m_wear m_spare m_places m_cycleNext m_fault m_faultPlace m_giverNext m_years m_end m_next m_kind m_which m_place m_read m_readMany m_readHigh : Int32) (m_size m_inside : Nat → Int32) (A9 : Nat) (b_insideMany : m_insideMany ≤ 16) (hgi : gI m_inside m_insideMany) (hA9 : A9 < 65536) : Met l yX8_clothOf wsX8_clothOf ({ frames := 0, cells := 0, slots := 0, locals := 0 } : Room) (cRd D (aTy cB cI cJ cZ) [((y 0), .inr (8, [.ref (y 1), .int (nI m_tapeSize), .int m_thrown, .ref (y 2), .int m_cycleMany, .int m_vote, .int m_low, .int m_high, .int m_wear, .int m_spare, .int m_places, .int m_cycleNext, .int m_fault, .int m_faultPlace, .int (nI m_givers), .ref (y 3), .ref (y 4), .int m_giverNext, .int (nI m_children), .ref (y 5), .ref (y 6), .ref (y 7), .ref (y 8), .ref (y 9), .int (nI m_coats), .ref (y 10), .ref (y 11), .ref (y 12), .ref (y 13), .int m_years, .int (nI m_legacies), .ref (y 14), .ref (y 15), .ref (y 16), .ref (y 17), .int m_end, .int m_next, .int m_kind, .int m_which, .int m_place, .int m_read, .ref (y 18), .ref (y 19), .int m_readMany, .int m_readHigh, .ref (y 20), .int (nI m_insideMany), .ref (y 21), .ref (y 22), .ref (y 23), .ref (y 24), .ref (y 25)])), ((y 7), .inl (cI, 16, .inl m_size)), ((y 20), .inl (cI, 16, .inl m_inside))] [.ref (y 0), .int (nI A9)]) (vp_Si (fun r : Int32 => r = clS m_size m_inside A9 m_insideMany)) 0 0 (fun _ => False) := by
  refine Met.ofW (cc := cX8_clothOf) (maxL := 4) (ret := (some .int)) (by decide) rfl ?_
  intro p e s m args below meth c s₁ B hml hv
  obtain ⟨rfl, hP, hK⟩ := hv
  have hx := B.exec
  have hb := B.bytes
  have hr := B.returns
  have hts := atoms_spec (ws := wsX8_clothOf) B.pre
  have hown : s.vm.findClass RX8 = some m.cls := findClass_of_methodNamed B.named
  have hlocks := B.notSynchronized
  have hP : va_P D vwCl [((y 0), .inr (8, [.ref (y 1), .int (nI m_tapeSize), .int m_thrown, .ref (y 2), .int m_cycleMany, .int m_vote, .int m_low, .int m_high, .int m_wear, .int m_spare, .int m_places, .int m_cycleNext, .int m_fault, .int m_faultPlace, .int (nI m_givers), .ref (y 3), .ref (y 4), .int m_giverNext, .int (nI m_children), .ref (y 5), .ref (y 6), .ref (y 7), .ref (y 8), .ref (y 9), .int (nI m_coats), .ref (y 10), .ref (y 11), .ref (y 12), .ref (y 13), .int m_years, .int (nI m_legacies), .ref (y 14), .ref (y 15), .ref (y 16), .ref (y 17), .int m_end, .int m_next, .int m_kind, .int m_which, .int m_place, .int m_read, .ref (y 18), .ref (y 19), .int m_readMany, .int m_readHigh, .ref (y 20), .int (nI m_insideMany), .ref (y 21), .ref (y 22), .ref (y 23), .ref (y 24), .ref (y 25)])), ((y 7), .inl (cI, 16, .inl m_size)), ((y 20), .inl (cI, 16, .inl m_inside))] s.heap := hP
  have w_1 : ∀ w ∈ wsX80, w ∈ wsX8_clothOf := by decide +kernel
  have w_2 := hts (Cond.fieldLink RX8 213 "BlueCoatsModel" "insideMany" "I") (by decide +kernel)
  have w_3 := hts (Cond.fieldLink RX8 53 "BlueCoatsModel" "size" "[I") (by decide +kernel)
  have w_4 := hts (Cond.fieldLink RX8 93 "BlueCoatsModel" "inside" "[I") (by decide +kernel)
  have hl := lv_entry ([.ref (y 0), .int (nI A9)]) (n := 4) (Nat.le_of_ble_eq_true rfl)
  rw [lg_entry_eq]
  generalize (lg_sl ([.ref (y 0), .int (nI A9)]) ++ List.replicate (4 - (lg_sl ([.ref (y 0), .int (nI A9)])).length) Slot.unset).toArray = ls at hl ⊢
  have hl : lv_has ls 4 [(0, .ref (y 0)), (1, .int (nI A9))] := hl
  generalize hQ : MQ below _ _ s _ _ _ = Q0
  refine lv_iconst (v := 0) hx hb dX8_clothOf_0 (by decide) ?_
  refine lv_istore_n (lv' := [(2, .int 0), (0, .ref (y 0)), (1, .int (nI A9))]) hx hb dX8_clothOf_1 rfl hl (by decide) rfl (fun ls hl => ?_)
  refine lv_iconst (v := 0) hx hb dX8_clothOf_2 (by decide) ?_
  refine lv_istore_n (lv' := [(3, .int 0), (2, .int 0), (0, .ref (y 0)), (1, .int (nI A9))]) hx hb dX8_clothOf_3 rfl hl (by decide) rfl (fun ls hl => ?_)
  have L_1 : ∀ (n : Nat) (i_4 : Nat) (l_2_4 : Int32) (ls : Array Slot), m_insideMany - i_4 < n → (i_4 ≤ m_insideMany) → (l_2_4 = clS m_size m_inside A9 i_4) → va_P D vwCl [((y 0), .inr (8, [.ref (y 1), .int (nI m_tapeSize), .int m_thrown, .ref (y 2), .int m_cycleMany, .int m_vote, .int m_low, .int m_high, .int m_wear, .int m_spare, .int m_places, .int m_cycleNext, .int m_fault, .int m_faultPlace, .int (nI m_givers), .ref (y 3), .ref (y 4), .int m_giverNext, .int (nI m_children), .ref (y 5), .ref (y 6), .ref (y 7), .ref (y 8), .ref (y 9), .int (nI m_coats), .ref (y 10), .ref (y 11), .ref (y 12), .ref (y 13), .int m_years, .int (nI m_legacies), .ref (y 14), .ref (y 15), .ref (y 16), .ref (y 17), .int m_end, .int m_next, .int m_kind, .int m_which, .int m_place, .int m_read, .ref (y 18), .ref (y 19), .int m_readMany, .int m_readHigh, .ref (y 20), .int (nI m_insideMany), .ref (y 21), .ref (y 22), .ref (y 23), .ref (y 24), .ref (y 25)])), ((y 7), .inl (cI, 16, .inl m_size)), ((y 20), .inl (cI, 16, .inl m_inside))] s.heap → lv_has ls 4 [(0, .ref (y 0)), (1, .int (nI A9)), (2, .int l_2_4), (3, .int (nI i_4))] → W p l e (headSpec wsX8_clothOf ({ frames := 0, cells := 0, slots := 0, locals := 0 } : Room)).room s m ([.ref (y 0), .int (nI A9)] : List Value).toArray below meth c s.heap [] 0 0 Q0 (F0 m 4 ls []) := by
    intro n
    induction n with
    | zero => intro i_4 l_2_4 ls hn_4 hle_4 hv_4 hP hl; exact absurd hn_4 (Nat.not_lt_zero _)
    | succ n ih_L_1 =>
      intro i_4 l_2_4 ls hn_4 hle_4 hv_4 hP hl
      refine lv_iload_n hx hb dX8_clothOf_4 rfl (lv_at hl 3 rfl) ?_
      refine lv_aload_n hx hb dX8_clothOf_5 rfl (lv_at hl 0 rfl) ?_
      refine va_get (D := D) (ci := 8) (v := .int (nI m_insideMany)) (C := RX8) (T := TX8) (N := 52) hx hb hts w_1 hown hK hP 0 rfl rfl 46 (by decide) w_2 (fun _ h9 => h9) rfl dX8_clothOf_6 ?_
      refine lv_icmp_ge (tgt := 45) hx hb dX8_clothOf_9 (by decide) (fun c_9 => ?_) (fun c_9 => ?_)
      ·
        refine lv_iload_n hx hb dX8_clothOf_45 rfl (lv_at hl 2 rfl) ?_
        rw [← hQ]
        exact W.iret (v := l_2_4) hx hb hr (fun t ht hW => ⟨_, rfl, by rw [hv_4, (Nat.le_antisymm hle_4 (ge3 (by omega) hle_4 c_9))], ht⟩) (fun q h => nomatch h) dX8_clothOf_46
      ·
        have hb_4 : i_4 < m_insideMany := lt3 (by omega) hle_4 c_9
        refine lv_iload_n hx hb dX8_clothOf_12 rfl (lv_at hl 2 rfl) ?_
        refine lv_iload_n hx hb dX8_clothOf_13 rfl (lv_at hl 1 rfl) ?_
        refine lv_iload_n hx hb dX8_clothOf_14 rfl (lv_at hl 3 rfl) ?_
        refine sv_ishr (v := (nI A9) >>> (nI i_4 &&& 31)) hx hb dX8_clothOf_15 rfl ?_
        refine lv_iconst (v := 1) hx hb dX8_clothOf_16 (by decide) ?_
        refine sv_iand (v := bI A9 i_4) hx hb dX8_clothOf_17 (bI_shr hA9 (by omega)) ?_
        refine lv_iconst (v := 1) hx hb dX8_clothOf_18 (by decide) ?_
        refine lv_icmp_ne (tgt := 36) hx hb dX8_clothOf_19 (by decide) (fun c_19 => ?_) (fun c_19 => ?_)
        ·
          refine lv_iconst (v := 0) hx hb dX8_clothOf_36 (by decide) ?_
          refine sv_iadd (v := l_2_4 + 0) hx hb dX8_clothOf_37 rfl ?_
          refine lv_istore_n (lv' := [(2, .int (l_2_4 + 0)), (0, .ref (y 0)), (1, .int (nI A9)), (3, .int (nI i_4))]) hx hb dX8_clothOf_38 rfl hl (by decide) rfl (fun ls hl => ?_)
          refine lv_iinc (v := nI (i_4 + 1)) (lv' := [(3, .int (nI (i_4 + 1))), (2, .int (l_2_4 + 0)), (0, .ref (y 0)), (1, .int (nI A9))]) hx hb dX8_clothOf_39 hl (k := 3) rfl (ax_add _ 1) (by decide) rfl (fun ls hl => ?_)
          refine lv_goto (tgt := 4) hx hb dX8_clothOf_42 (by decide) ?_
          exact ih_L_1 (i_4 + 1) (l_2_4 + 0) ls (by omega) (by omega) (cl_n hv_4 c_19) hP (lv_sub hl [2, 3, 1, 0] rfl)
        ·
          refine lv_aload_n hx hb dX8_clothOf_22 rfl (lv_at hl 0 rfl) ?_
          refine va_get (D := D) (ci := 8) (v := .ref (y 7)) (C := RX8) (T := TX8) (N := 52) hx hb hts w_1 hown hK hP 0 rfl rfl 21 (by decide) w_3 (fun _ h9 => h9) rfl dX8_clothOf_23 ?_
          refine lv_aload_n hx hb dX8_clothOf_26 rfl (lv_at hl 0 rfl) ?_
          refine va_get (D := D) (ci := 8) (v := .ref (y 20)) (C := RX8) (T := TX8) (N := 52) hx hb hts w_1 hown hK hP 0 rfl rfl 45 (by decide) w_4 (fun _ h9 => h9) rfl dX8_clothOf_27 ?_
          refine lv_iload_n hx hb dX8_clothOf_30 rfl (lv_at hl 3 rfl) ?_
          refine sv_iald (v := m_inside i_4) hx hb hK hP 2 1 rfl rfl (vp_in_nI (by omega) (by decide)) (congrArg _ (nI_clamp (by omega))) dX8_clothOf_31 ?_
          refine sv_iald (v := m_size (m_inside i_4).toNatClampNeg) hx hb hK hP 1 1 rfl rfl (hgi i_4 (by omega)) rfl dX8_clothOf_32 ?_
          refine lv_goto (tgt := 37) hx hb dX8_clothOf_33 (by decide) ?_
          refine sv_iadd (v := l_2_4 + (m_size (m_inside i_4).toNatClampNeg)) hx hb dX8_clothOf_37 rfl ?_
          refine lv_istore_n (lv' := [(2, .int (l_2_4 + (m_size (m_inside i_4).toNatClampNeg))), (0, .ref (y 0)), (1, .int (nI A9)), (3, .int (nI i_4))]) hx hb dX8_clothOf_38 rfl hl (by decide) rfl (fun ls hl => ?_)
          refine lv_iinc (v := nI (i_4 + 1)) (lv' := [(3, .int (nI (i_4 + 1))), (2, .int (l_2_4 + (m_size (m_inside i_4).toNatClampNeg))), (0, .ref (y 0)), (1, .int (nI A9))]) hx hb dX8_clothOf_39 hl (k := 3) rfl (ax_add _ 1) (by decide) rfl (fun ls hl => ?_)
          refine lv_goto (tgt := 4) hx hb dX8_clothOf_42 (by decide) ?_
          exact ih_L_1 (i_4 + 1) (l_2_4 + (m_size (m_inside i_4).toNatClampNeg)) ls (by omega) (by omega) (cl_y hv_4 c_19) hP (lv_sub hl [2, 3, 1, 0] rfl)
  exact L_1 _ 0 0 ls (Nat.lt_succ_self _) (by first | exact Nat.zero_le _ | omega) rfl hP (lv_sub hl [2, 3, 1, 0] rfl)

