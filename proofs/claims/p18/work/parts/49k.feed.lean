/-! Twenty bytes more. -/
theorem s_u : ∀ n, n < 32 → (((nI n).toUInt32 &&& Int32.toUInt32 31).toBitVec % 32).toNat = n := by decide +kernel
theorem b_ushr (n : Nat) (hn : n < 32) (x : Int32) (i : Nat) : bt ((x.toUInt32 >>> ((nI n).toUInt32 &&& Int32.toUInt32 31)).toInt32) i = bt x (n + i) := by
  show (x.toUInt32 >>> ((nI n).toUInt32 &&& Int32.toUInt32 31)).toBitVec.getLsbD i = x.toUInt32.toBitVec.getLsbD (n + i)
  rw [UInt32.toBitVec_shiftRight]
  show (x.toUInt32.toBitVec >>> (((nI n).toUInt32 &&& Int32.toUInt32 31).toBitVec % 32).toNat).getLsbD i = _
  rw [s_u n hn, BitVec.getLsbD_ushiftRight]
theorem bp_b (x : Int32) : x.toInt8.toInt32 &&& 255 = x &&& 255 := by
  apply Int32.toBitVec_inj.mp
  rw [Int32.toBitVec_and, Int32.toBitVec_and, Int8.toBitVec_toInt32, Int32.toBitVec_toInt8]
  apply BitVec.eq_of_getLsbD_eq
  intro i hi
  rw [BitVec.getLsbD_and, BitVec.getLsbD_and]
  have hm : ∀ i < 32, 8 ≤ i → (255 : Int32).toBitVec.getLsbD i = false := by decide
  rcases Nat.lt_or_ge i 8 with z | z
  · rw [BitVec.getLsbD_signExtend, BitVec.getLsbD_signExtend, if_pos z, if_pos hi]
    simp only [z, hi, decide_true, Bool.true_and]
  · rw [hm i hi z]; simp
def by4 (q : Int32) (s : Nat) : Int32 := (q >>> (nI s &&& 31)) &&& 255
theorem by_u {q : Int32} (s : Nat) (hs : s ≤ 24) : vp_nar .byte ((q.toUInt32 >>> ((nI s).toUInt32 &&& Int32.toUInt32 31)).toInt32.toInt8.toInt32) &&& 255 = by4 q s := by
  rw [pk_vb, bp_b]
  apply b_ext
  intro i hi
  unfold by4
  rw [b_and, b_and, b_ushr s (by omega), b_sshr s (by omega) _ hi]
  by_cases h : s + i < 32
  · rw [if_pos h]
  · rw [if_neg h, show bt 255 i = false from (by decide +kernel : ∀ i, i < 32 → 8 ≤ i → bt 255 i = false) i hi (by omega)]; simp
def ap4 (t : Nat → Int32) (n : Nat) (q : Int32) : Nat → Int32 := upd (upd (upd (upd t n (by4 q 24)) (n + 1) (by4 q 16)) (n + 2) (by4 q 8)) (n + 3) (by4 q 0)
def fd20 (t : Nat → Int32) (n : Nat) (v1 v2 v3 v4 v5 : Int32) : Nat → Int32 := ap4 (ap4 (ap4 (ap4 (ap4 t n v1) (n + 4) v2) (n + 8) v3) (n + 12) v4) (n + 16) v5
theorem sg_upd (f : Nat → Int32) (i : Nat) (x : Int32) : sg (upd f i x) = upd (sg f) i (x &&& 255) := by
  funext k
  unfold sg
  by_cases e : k = i
  · rw [e, pk_us, pk_us]
  · rw [pk_un e, pk_un e]
theorem ap_eq {rt : Nat → Int32} {tt : Nat} {q b0 b1 b2 b3 : Int32} (h0 : b0 &&& 255 = by4 q 24) (h1 : b1 &&& 255 = by4 q 16) (h2 : b2 &&& 255 = by4 q 8) (h3 : b3 &&& 255 = by4 q 0) : sg (upd (upd (upd (upd rt tt b0) (tt + 1) b1) (tt + 2) b2) (tt + 3) b3) = ap4 (sg rt) tt q := by
  rw [sg_upd, sg_upd, sg_upd, sg_upd, h0, h1, h2, h3]; rfl
theorem bst {f g : Nat → Int32} {i : Nat} {x : Int32} (e : g = upd f (nI i).toNatClampNeg (vp_nar .byte x)) (hi : i < 2147483648) : g = upd f i (vp_nar .byte x) := by
  rw [e, nI_clamp hi]
def fdP (t : Nat → Int32) (n : Nat) (v1 v2 v3 v4 v5 r : Int32) (n' : Nat) (t' : Nat → Int32) : Prop := (280 < n ∧ r = -1 ∧ n' = n ∧ t' = t) ∨ (n ≤ 280 ∧ r = nI (n + 20) ∧ n' = n + 20 ∧ t' = fd20 t n v1 v2 v3 v4 v5)
theorem fdP.old {t t' : Nat → Int32} {n n' : Nat} {v1 v2 v3 v4 v5 r : Int32} (h : fdP t n v1 v2 v3 v4 v5 r n' t') : (280 < n ∧ r = -1 ∧ n' = n) ∨ (n ≤ 280 ∧ r = nI (n + 20) ∧ n' = n + 20) := h.imp (fun z => ⟨z.1, z.2.1, z.2.2.1⟩) (fun z => ⟨z.1, z.2.1, z.2.2.1⟩)
def ftP (q t1 t2 r : Int32) : Prop := r = if q = 0 then t1 else if q = 1 then t2 else -1
/-! the law of the class and of the reference -/
def lwE (e1 e3 e4 e5 e6 e7 e8 : Int32) (re : Nat → Int32) (m1 m3 m4 m5 m6 m7 m8 : Int32) (mc : Nat → Int32) : Prop := (e1 = m1 ∧ e3 = m3 ∧ e4 = m4 ∧ e5 = m5 ∧ e6 = m6 ∧ e7 = m7 ∧ e8 = m8) ∧ (∃ m, e1 = nI m ∧ 0 < m ∧ m ≤ 8 ∧ ∀ j, j < m → re j = mc j ∧ ∃ x, x ≤ 2 ∧ re j = nI x) ∧ (∃ v, e3 = nI v ∧ 1 ≤ v ∧ v ≤ 9999) ∧ (∃ a b, e4 = nI a ∧ e5 = nI b ∧ a ≤ b ∧ b ≤ 20) ∧ (∃ v, e6 = nI v ∧ 1 ≤ v ∧ v ≤ 9) ∧ (∃ v, e7 = nI v ∧ v ≤ 9) ∧ ∃ v, e8 = nI v ∧ 1 ≤ v ∧ v ≤ 8
theorem lwE_keep {e1 e3 e4 e5 e6 e7 e8 m1 m3 m4 m5 m6 m7 m8 : Int32} {re mc re' mc' : Nat → Int32} (h : lwE e1 e3 e4 e5 e6 e7 e8 re m1 m3 m4 m5 m6 m7 m8 mc) (h1 : ∀ j, j < 8 → re' j = re j) (h2 : ∀ j, j < 8 → mc' j = mc j) : lwE e1 e3 e4 e5 e6 e7 e8 re' m1 m3 m4 m5 m6 m7 m8 mc' := by
  obtain ⟨a, ⟨m, b1, b2, b3, b4⟩, c⟩ := h
  refine ⟨a, ⟨m, b1, b2, b3, fun j hj => ?_⟩, c⟩
  rw [h1 j (by omega), h2 j (by omega)]; exact b4 j hj
theorem lwE_new {d : Nat → Int32} {e1 e3 e4 e5 e6 e7 e8 m1 m3 m4 m5 m6 m7 m8 : Int32} {re mc : Nat → Int32} (hd : dOK d) (h1 : dX d e1 e3 e4 e5 e6 e7 e8 re) (h2 : dX d m1 m3 m4 m5 m6 m7 m8 mc) : lwE e1 e3 e4 e5 e6 e7 e8 re m1 m3 m4 m5 m6 m7 m8 mc := by
  obtain ⟨⟨a1, a2, a3, a4, a5, a6, a7⟩, m, a8, a9, a10, a11⟩ := h1
  obtain ⟨⟨b1, b2, b3, b4, b5, b6, b7⟩, m', b8, b9, b10, b11⟩ := h2
  have em : m = m' := (nI_eq (by omega) (by omega)).mp (a8.symm.trans (a1.symm.trans (b1.trans b8)))
  obtain ⟨k1, k2, k5, k6, k7, m0, k3, k4, k8', k9⟩ := hd
  have em0 : m0 = m := (nI_eq (by omega) (by omega)).mp (k3.symm.trans (a1.trans a8))
  subst em; subst em0
  rw [← a1, ← a2, ← a3, ← a4, ← a5, ← a6, ← a7, ← b1, ← b2, ← b3, ← b4, ← b5, ← b6, ← b7]
  exact ⟨⟨rfl, rfl, rfl, rfl, rfl, rfl, rfl⟩, ⟨m0, k3, k4, k8', fun j hj => ⟨(a11 j hj).trans (b11 j hj).symm, by rw [a11 j hj]; exact k9 j hj⟩⟩, k1, k2, k5, k6, k7⟩
def txI (rt : Nat → Int32) (t1 t2 e1 e3 e4 e5 e6 e7 e8 : Int32) (re : Nat → Int32) (mt : Nat → Int32) (mf mp m1 m3 m4 m5 m6 m7 m8 : Int32) (mc : Nat → Int32) : Prop := sg rt = mt ∧ (t1 = mf ∧ t2 = mp) ∧ lwE e1 e3 e4 e5 e6 e7 e8 re m1 m3 m4 m5 m6 m7 m8 mc
section TX
variable {rt mt re mc : Nat → Int32} {t1 t2 e1 e2 e3 e4 e5 e6 e7 e8 mf mp m1 m2 m3 m4 m5 m6 m7 m8 q r1 r2 : Int32} {tt ts : Nat}
theorem tx_feed {n1 n2 : Nat} {rt1 mt1 : Nat → Int32} {v1 v2 v3 v4 v5 : Int32} (h : txI rt t1 t2 e1 e3 e4 e5 e6 e7 e8 re mt mf mp m1 m3 m4 m5 m6 m7 m8 mc) (ht : tt = ts) (h1 : fdP (sg rt) tt v1 v2 v3 v4 v5 r1 n1 (sg rt1)) (h2 : fdP mt ts v1 v2 v3 v4 v5 r2 n2 mt1) : txI rt1 t1 t2 e1 e3 e4 e5 e6 e7 e8 re mt1 mf mp m1 m3 m4 m5 m6 m7 m8 mc := by
  obtain ⟨a, b⟩ := h
  subst a; subst ht
  refine ⟨?_, b⟩
  rcases h1 with ⟨x1, x2, x3, x4⟩ | ⟨x1, x2, x3, x4⟩ <;> rcases h2 with ⟨y1, y2, y3, y4⟩ | ⟨y1, y2, y3, y4⟩
  · rw [x4, y4]
  · omega
  · omega
  · rw [x4, y4]
theorem tx_fault (h : txI rt t1 t2 e1 e3 e4 e5 e6 e7 e8 re mt mf mp m1 m3 m4 m5 m6 m7 m8 mc) (h1 : ftP q t1 t2 r1) (h2 : ftP q mf mp r2) : r1 = r2 := by
  obtain ⟨-, ⟨rfl, rfl⟩, -⟩ := h
  exact h1.trans h2.symm
theorem tx_stat {n1 n2 : Nat} {a1 a2 f1 f2 f3 f4 f5 f6 f7 f8 b1 b2 g1 g2 g3 g4 g5 g6 g7 g8 : Int32} {re1 mc1 : Nat → Int32} (h : txI rt t1 t2 e1 e3 e4 e5 e6 e7 e8 re mt mf mp m1 m3 m4 m5 m6 m7 m8 mc) (ht : tt = ts) (hs : tt ≤ 300) (h1 : stX (sg rt) tt t1 t2 e1 e2 e3 e4 e5 e6 e7 e8 re q r1 n1 a1 a2 f1 f2 f3 f4 f5 f6 f7 f8 re1) (h2 : stX mt ts mf mp m1 m2 m3 m4 m5 m6 m7 m8 mc q r2 n2 b1 b2 g1 g2 g3 g4 g5 g6 g7 g8 mc1) : r1 = r2 ∧ txI rt a1 a2 f1 f3 f4 f5 f6 f7 f8 re1 mt b1 b2 g1 g3 g4 g5 g6 g7 g8 mc1 := by
  obtain ⟨a, ⟨b, c⟩, d⟩ := h
  subst a; subst ht; subst b; subst c
  rcases h1 with ⟨x1, x2, -, x4, x5, -, ⟨y1, y3, y4, y5, y6, y7, y8⟩, x8⟩ | ⟨n, x1, x2, -, x3⟩ <;> rcases h2 with ⟨u1, u2, -, u4, u5, -, ⟨v1, v3, v4, v5, v6, v7, v8⟩, u8⟩ | ⟨n', u1, u2, -, u3⟩
  · subst x4; subst x5; subst u4; subst u5; subst y1; subst y3; subst y4; subst y5; subst y6; subst y7; subst y8; subst v1; subst v3; subst v4; subst v5; subst v6; subst v7; subst v8
    exact ⟨x2.trans u2.symm, rfl, ⟨rfl, rfl⟩, lwE_keep d x8 u8⟩
  · exact absurd (by rw [u2]; exact vp_in_nI (by omega) (by omega)) x1
  · exact absurd (by rw [x2]; exact vp_in_nI (by omega) (by omega)) u1
  · have en : n = n' := (nI_eq (by omega) (by omega)).mp (x2.symm.trans u2)
    subst en
    rcases x3 with ⟨M, d1, z1, z2, z3, z4, z5, -, z7⟩ | ⟨f, p, z1, z2, z3, z4, z5, z6, -, ⟨y1, y3, y4, y5, y6, y7, y8⟩, z8⟩ <;> rcases u3 with ⟨M', d1', w1, w2, w3, w4, w5, -, w7⟩ | ⟨f', p', w1, w2, w3, w4, w5, w6, -, ⟨v1, v3, v4, v5, v6, v7, v8⟩, w8⟩
    · obtain ⟨-, -, k⟩ := prE_un z2 w2
      obtain ⟨k1, k2⟩ := k rfl
      subst k1; subst k2
      exact ⟨z3.trans w3.symm, rfl, ⟨z4.trans w4.symm, z5.trans w5.symm⟩, lwE_new (ok_prE z2) z7 w7⟩
    · exact absurd (prE_un z2 w3).1.symm w1
    · exact absurd (prE_un z3 w2).1 z1
    · obtain ⟨k1, k2, -⟩ := prE_un z3 w3
      have k3 := k2 z1
      subst k1; subst k3
      subst y1; subst y3; subst y4; subst y5; subst y6; subst y7; subst y8; subst v1; subst v3; subst v4; subst v5; subst v6; subst v7; subst v8
      exact ⟨z4.trans w4.symm, rfl, ⟨z5.trans w5.symm, z6.trans w6.symm⟩, lwE_keep d z8 w8⟩
end TX
theorem tx_i0 : txI (fun _ => 0) 0 (-1) 1 100 7 14 3 1 8 cyc0 (fun _ => 0) 0 (-1) 1 100 7 14 3 1 8 cyc0 := by
  refine ⟨?_, ⟨rfl, rfl⟩, ⟨rfl, rfl, rfl, rfl, rfl, rfl, rfl⟩, ⟨1, rfl, by decide, by decide, fun j hj => ⟨rfl, 2, by decide, ?_⟩⟩, ⟨100, rfl, by decide, by decide⟩, ⟨7, 14, rfl, rfl, by decide, by decide⟩, ⟨3, rfl, by decide, by decide⟩, ⟨1, rfl, by decide⟩, 8, rfl, by decide, by decide⟩
  · funext k; show (0 : Int32) &&& 255 = 0; decide
  · rw [show j = 0 by omega]; rfl

set_option maxHeartbeats 4000000 in
set_option maxRecDepth 100000 in
theorem f_X4_append (l : Launch) (D : va_G) (cB cI cJ cZ : ClassId) (sz : Nat) (h0 dr tp tt ln : Nat) (t1 t2 t6 t7 t8 t9 t10 : Int32) (rt : Nat → Int32) (q : Int32) (ht : tt ≤ 296) : Met l yX4_append wsX4_append ({ frames := 0, cells := 0, slots := 0, locals := 0 } : Room) (cPre D (aTy cB cI cJ cZ) [(h0, .inr (4, [.ref dr, .int t1, .int t2, .int (nI tt), .ref tp, .int (nI ln), .int t6, .int t7, .int t8, .int t9, .int t10])), (tp, .inl (cB, 300, .inl rt))] sz [.ref h0, .int q]) (va_Qv (fun (u : Nat × (Nat → Int32)) => u.1 = tt + 4 ∧ sg u.2 = ap4 (sg rt) tt q) (cB_ D (aTy cB cI cJ cZ) (va_A [(h0, .inr (4, [.ref dr, .int t1, .int t2, .int (nI tt), .ref tp, .int (nI ln), .int t6, .int t7, .int t8, .int t9, .int t10])), (tp, .inl (cB, 300, .inl rt))] sz) (fun u => [(h0, .inr (4, [.ref dr, .int t1, .int t2, .int (nI (u.1)), .ref tp, .int (nI ln), .int t6, .int t7, .int t8, .int t9, .int t10])), (tp, .inl (cB, 300, .inl u.2))])) (va_A [(h0, .inr (4, [.ref dr, .int t1, .int t2, .int (nI tt), .ref tp, .int (nI ln), .int t6, .int t7, .int t8, .int t9, .int t10])), (tp, .inl (cB, 300, .inl rt))] sz)) 0 0 (va_A [(h0, .inr (4, [.ref dr, .int t1, .int t2, .int (nI tt), .ref tp, .int (nI ln), .int t6, .int t7, .int t8, .int t9, .int t10])), (tp, .inl (cB, 300, .inl rt))] sz) := by
  refine Met.ofW (cc := cX4_append) (maxL := 3) (ret := none) (by decide) rfl ?_
  intro p e s m args below meth c s₁ B hml hv
  obtain ⟨rfl, hsz, hP, hK, hD0⟩ := hv
  have hx := B.exec
  have hb := B.bytes
  have hr := B.returns
  have hts := atoms_spec (ws := wsX4_append) B.pre
  have hown : s.vm.findClass RX4 = some m.cls := findClass_of_methodNamed B.named
  have hlocks := B.notSynchronized
  subst hsz
  have hD := hD0.self (sz := s.heap.size)
  generalize hAe : va_A [(h0, .inr (4, [.ref dr, .int t1, .int t2, .int (nI tt), .ref tp, .int (nI ln), .int t6, .int t7, .int t8, .int t9, .int t10])), (tp, .inl (cB, 300, .inl rt))] s.heap.size = A at hD ⊢
  have hA : ∀ q : Nat, s.heap.size ≤ q → A q := fun q h => by rw [← hAe]; exact Or.inr h
  have hS : va_S A s.heap s.heap [] := va_S.rf
  have hP : va_P D vwCl [(h0, .inr (4, [.ref dr, .int t1, .int t2, .int (nI tt), .ref tp, .int (nI ln), .int t6, .int t7, .int t8, .int t9, .int t10])), (tp, .inl (cB, 300, .inl rt))] s.heap := hP
  have w_1 : ∀ w ∈ wsX40, w ∈ wsX4_append := by decide +kernel
  have w_2 := hts (Cond.fieldLink RX4 29 "BlueCoats$Reader" "taped" "I") (by decide +kernel)
  have w_3 := hts (Cond.fieldLink RX4 25 "BlueCoats$Reader" "tape" "[B") (by decide +kernel)
  have hl := lv_entry ([.ref h0, .int q]) (n := 3) (Nat.le_of_ble_eq_true rfl)
  rw [lg_entry_eq]
  generalize (lg_sl ([.ref h0, .int q]) ++ List.replicate (3 - (lg_sl ([.ref h0, .int q])).length) Slot.unset).toArray = ls at hl ⊢
  have hl : lv_has ls 3 [(0, .ref h0), (1, .int q)] := hl
  refine lv_bipush (v := 24) hx hb dX4_append_0 (by decide) ?_
  refine lv_istore_n (lv' := [(2, .int 24), (0, .ref h0), (1, .int q)]) hx hb dX4_append_2 rfl hl (by decide) rfl (fun ls hl => ?_)
  refine lv_iload_n hx hb dX4_append_3 rfl (lv_at hl 0 rfl) ?_
  refine lv_if_lt (tgt := 46) hx hb dX4_append_4 (by decide) (fun h => absurd h (by decide)) (fun _ => ?_)
  refine lv_aload_n hx hb dX4_append_7 rfl (lv_at hl 1 rfl) ?_
  refine va_get (D := D) (ci := 4) (v := .int (nI tt)) (C := RX4) (T := TX4) (N := 11) hx hb hts w_1 hown hK hP 0 rfl rfl 3 (by decide) w_2 (fun _ h9 => h9) rfl dX4_append_8 ?_
  refine lv_sipush (v := 300) hx hb dX4_append_11 (by decide) ?_
  refine lv_icmp_ge (tgt := 40) hx hb dX4_append_14 (by decide) (fun h => absurd h (fun h => absurd (nI_geg 300 (by omega) (by decide) h) (by omega))) (fun _ => ?_)
  refine lv_aload_n hx hb dX4_append_17 rfl (lv_at hl 1 rfl) ?_
  refine va_get (D := D) (ci := 4) (v := .ref tp) (C := RX4) (T := TX4) (N := 11) hx hb hts w_1 hown hK hP 0 rfl rfl 4 (by decide) w_3 (fun _ h9 => h9) rfl dX4_append_18 ?_
  refine lv_aload_n hx hb dX4_append_21 rfl (lv_at hl 1 rfl) ?_
  refine va_get (D := D) (ci := 4) (v := .int (nI tt)) (C := RX4) (T := TX4) (N := 11) hx hb hts w_1 hown hK hP 0 rfl rfl 3 (by decide) w_2 (fun _ h9 => h9) rfl dX4_append_22 ?_
  refine lv_iload_n hx hb dX4_append_25 rfl (lv_at hl 2 rfl) ?_
  refine lv_iload_n hx hb dX4_append_26 rfl (lv_at hl 0 rfl) ?_
  refine lv_iushr (v := (q.toUInt32 >>> ((nI 24).toUInt32 &&& Int32.toUInt32 31)).toInt32) hx hb dX4_append_27 rfl ?_
  refine lv_i2b (v := ((q.toUInt32 >>> ((nI 24).toUInt32 &&& Int32.toUInt32 31)).toInt32).toInt8.toInt32) hx hb dX4_append_28 rfl ?_
  refine sv_bast hx hb hK hP hD hS 1 0 rfl rfl (vp_in_nI (by omega) (by decide)) dX4_append_29 (fun g_1 H locs eg_1 hP hD hS => ?_)
  have eg_1 : g_1 = upd rt tt (vp_nar .byte (((q.toUInt32 >>> ((nI 24).toUInt32 &&& Int32.toUInt32 31)).toInt32).toInt8.toInt32)) := bst eg_1 (by omega)
  subst eg_1
  have hP : va_P D vwCl [(h0, .inr (4, [.ref dr, .int t1, .int t2, .int (nI tt), .ref tp, .int (nI ln), .int t6, .int t7, .int t8, .int t9, .int t10])), (tp, .inl (cB, 300, .inl (upd rt tt (vp_nar .byte (((q.toUInt32 >>> ((nI 24).toUInt32 &&& Int32.toUInt32 31)).toInt32).toInt8.toInt32)))))] H := hP
  have hD : va_D A [(h0, .inr (4, [.ref dr, .int t1, .int t2, .int (nI tt), .ref tp, .int (nI ln), .int t6, .int t7, .int t8, .int t9, .int t10])), (tp, .inl (cB, 300, .inl (upd rt tt (vp_nar .byte (((q.toUInt32 >>> ((nI 24).toUInt32 &&& Int32.toUInt32 31)).toInt32).toInt8.toInt32)))))] := hD
  refine lv_aload_n hx hb dX4_append_30 rfl (lv_at hl 1 rfl) ?_
  refine lv_dup hx hb dX4_append_31 rfl ?_
  refine va_get (D := D) (ci := 4) (v := .int (nI tt)) (C := RX4) (T := TX4) (N := 11) hx hb hts w_1 hown hK hP 0 rfl rfl 3 (by decide) w_2 (fun _ h9 => h9) rfl dX4_append_32 ?_
  refine lv_iconst (v := 1) hx hb dX4_append_35 (by decide) ?_
  refine sv_iadd (v := nI (tt + 1)) hx hb dX4_append_36 (ax_add _ 1) ?_
  refine va_put (D := D) (ci := 4) (v := .int (nI (tt + 1))) (ty := .int) (C := RX4) (T := TX4) (N := 11) hx hb hts w_1 tyX4 tyX4_ok nmX4 hown hK hP hD hS 0 rfl rfl 3 (by decide) w_2 (fun _ h9 => h9) rfl (by decide +kernel) rfl rfl (Nat.le_of_ble_eq_true rfl) dX4_append_37 (fun H locs hP hD hS => ?_)
  have hP : va_P D vwCl [(h0, .inr (4, [.ref dr, .int t1, .int t2, .int (nI (tt + 1)), .ref tp, .int (nI ln), .int t6, .int t7, .int t8, .int t9, .int t10])), (tp, .inl (cB, 300, .inl (upd rt tt (vp_nar .byte (((q.toUInt32 >>> ((nI 24).toUInt32 &&& Int32.toUInt32 31)).toInt32).toInt8.toInt32)))))] H := hP
  have hD : va_D A [(h0, .inr (4, [.ref dr, .int t1, .int t2, .int (nI (tt + 1)), .ref tp, .int (nI ln), .int t6, .int t7, .int t8, .int t9, .int t10])), (tp, .inl (cB, 300, .inl (upd rt tt (vp_nar .byte (((q.toUInt32 >>> ((nI 24).toUInt32 &&& Int32.toUInt32 31)).toInt32).toInt8.toInt32)))))] := hD
  refine lv_iinc (v := 16) (lv' := [(2, .int 16), (0, .ref h0), (1, .int q)]) hx hb dX4_append_40 hl (k := 0) rfl (by decide) (by decide) rfl (fun ls hl => ?_)
  refine lv_goto (tgt := 3) hx hb dX4_append_43 (by decide) ?_
  refine lv_iload_n hx hb dX4_append_3 rfl (lv_at hl 0 rfl) ?_
  refine lv_if_lt (tgt := 46) hx hb dX4_append_4 (by decide) (fun h => absurd h (by decide)) (fun _ => ?_)
  refine lv_aload_n hx hb dX4_append_7 rfl (lv_at hl 1 rfl) ?_
  refine va_get (D := D) (ci := 4) (v := .int (nI (tt + 1))) (C := RX4) (T := TX4) (N := 11) hx hb hts w_1 hown hK hP 0 rfl rfl 3 (by decide) w_2 (fun _ h9 => h9) rfl dX4_append_8 ?_
  refine lv_sipush (v := 300) hx hb dX4_append_11 (by decide) ?_
  refine lv_icmp_ge (tgt := 40) hx hb dX4_append_14 (by decide) (fun h => absurd h (fun h => absurd (nI_geg 300 (by omega) (by decide) h) (by omega))) (fun _ => ?_)
  refine lv_aload_n hx hb dX4_append_17 rfl (lv_at hl 1 rfl) ?_
  refine va_get (D := D) (ci := 4) (v := .ref tp) (C := RX4) (T := TX4) (N := 11) hx hb hts w_1 hown hK hP 0 rfl rfl 4 (by decide) w_3 (fun _ h9 => h9) rfl dX4_append_18 ?_
  refine lv_aload_n hx hb dX4_append_21 rfl (lv_at hl 1 rfl) ?_
  refine va_get (D := D) (ci := 4) (v := .int (nI (tt + 1))) (C := RX4) (T := TX4) (N := 11) hx hb hts w_1 hown hK hP 0 rfl rfl 3 (by decide) w_2 (fun _ h9 => h9) rfl dX4_append_22 ?_
  refine lv_iload_n hx hb dX4_append_25 rfl (lv_at hl 2 rfl) ?_
  refine lv_iload_n hx hb dX4_append_26 rfl (lv_at hl 0 rfl) ?_
  refine lv_iushr (v := (q.toUInt32 >>> ((nI 16).toUInt32 &&& Int32.toUInt32 31)).toInt32) hx hb dX4_append_27 rfl ?_
  refine lv_i2b (v := ((q.toUInt32 >>> ((nI 16).toUInt32 &&& Int32.toUInt32 31)).toInt32).toInt8.toInt32) hx hb dX4_append_28 rfl ?_
  refine sv_bast hx hb hK hP hD hS 1 0 rfl rfl (vp_in_nI (by omega) (by decide)) dX4_append_29 (fun g_2 H locs eg_2 hP hD hS => ?_)
  have eg_2 : g_2 = upd (upd rt tt (vp_nar .byte (((q.toUInt32 >>> ((nI 24).toUInt32 &&& Int32.toUInt32 31)).toInt32).toInt8.toInt32))) (tt + 1) (vp_nar .byte (((q.toUInt32 >>> ((nI 16).toUInt32 &&& Int32.toUInt32 31)).toInt32).toInt8.toInt32)) := bst eg_2 (by omega)
  subst eg_2
  have hP : va_P D vwCl [(h0, .inr (4, [.ref dr, .int t1, .int t2, .int (nI (tt + 1)), .ref tp, .int (nI ln), .int t6, .int t7, .int t8, .int t9, .int t10])), (tp, .inl (cB, 300, .inl (upd (upd rt tt (vp_nar .byte (((q.toUInt32 >>> ((nI 24).toUInt32 &&& Int32.toUInt32 31)).toInt32).toInt8.toInt32))) (tt + 1) (vp_nar .byte (((q.toUInt32 >>> ((nI 16).toUInt32 &&& Int32.toUInt32 31)).toInt32).toInt8.toInt32)))))] H := hP
  have hD : va_D A [(h0, .inr (4, [.ref dr, .int t1, .int t2, .int (nI (tt + 1)), .ref tp, .int (nI ln), .int t6, .int t7, .int t8, .int t9, .int t10])), (tp, .inl (cB, 300, .inl (upd (upd rt tt (vp_nar .byte (((q.toUInt32 >>> ((nI 24).toUInt32 &&& Int32.toUInt32 31)).toInt32).toInt8.toInt32))) (tt + 1) (vp_nar .byte (((q.toUInt32 >>> ((nI 16).toUInt32 &&& Int32.toUInt32 31)).toInt32).toInt8.toInt32)))))] := hD
  refine lv_aload_n hx hb dX4_append_30 rfl (lv_at hl 1 rfl) ?_
  refine lv_dup hx hb dX4_append_31 rfl ?_
  refine va_get (D := D) (ci := 4) (v := .int (nI (tt + 1))) (C := RX4) (T := TX4) (N := 11) hx hb hts w_1 hown hK hP 0 rfl rfl 3 (by decide) w_2 (fun _ h9 => h9) rfl dX4_append_32 ?_
  refine lv_iconst (v := 1) hx hb dX4_append_35 (by decide) ?_
  refine sv_iadd (v := nI (tt + 2)) hx hb dX4_append_36 (ax_add _ 1) ?_
  refine va_put (D := D) (ci := 4) (v := .int (nI (tt + 2))) (ty := .int) (C := RX4) (T := TX4) (N := 11) hx hb hts w_1 tyX4 tyX4_ok nmX4 hown hK hP hD hS 0 rfl rfl 3 (by decide) w_2 (fun _ h9 => h9) rfl (by decide +kernel) rfl rfl (Nat.le_of_ble_eq_true rfl) dX4_append_37 (fun H locs hP hD hS => ?_)
  have hP : va_P D vwCl [(h0, .inr (4, [.ref dr, .int t1, .int t2, .int (nI (tt + 2)), .ref tp, .int (nI ln), .int t6, .int t7, .int t8, .int t9, .int t10])), (tp, .inl (cB, 300, .inl (upd (upd rt tt (vp_nar .byte (((q.toUInt32 >>> ((nI 24).toUInt32 &&& Int32.toUInt32 31)).toInt32).toInt8.toInt32))) (tt + 1) (vp_nar .byte (((q.toUInt32 >>> ((nI 16).toUInt32 &&& Int32.toUInt32 31)).toInt32).toInt8.toInt32)))))] H := hP
  have hD : va_D A [(h0, .inr (4, [.ref dr, .int t1, .int t2, .int (nI (tt + 2)), .ref tp, .int (nI ln), .int t6, .int t7, .int t8, .int t9, .int t10])), (tp, .inl (cB, 300, .inl (upd (upd rt tt (vp_nar .byte (((q.toUInt32 >>> ((nI 24).toUInt32 &&& Int32.toUInt32 31)).toInt32).toInt8.toInt32))) (tt + 1) (vp_nar .byte (((q.toUInt32 >>> ((nI 16).toUInt32 &&& Int32.toUInt32 31)).toInt32).toInt8.toInt32)))))] := hD
  refine lv_iinc (v := 8) (lv' := [(2, .int 8), (0, .ref h0), (1, .int q)]) hx hb dX4_append_40 hl (k := 0) rfl (by decide) (by decide) rfl (fun ls hl => ?_)
  refine lv_goto (tgt := 3) hx hb dX4_append_43 (by decide) ?_
  refine lv_iload_n hx hb dX4_append_3 rfl (lv_at hl 0 rfl) ?_
  refine lv_if_lt (tgt := 46) hx hb dX4_append_4 (by decide) (fun h => absurd h (by decide)) (fun _ => ?_)
  refine lv_aload_n hx hb dX4_append_7 rfl (lv_at hl 1 rfl) ?_
  refine va_get (D := D) (ci := 4) (v := .int (nI (tt + 2))) (C := RX4) (T := TX4) (N := 11) hx hb hts w_1 hown hK hP 0 rfl rfl 3 (by decide) w_2 (fun _ h9 => h9) rfl dX4_append_8 ?_
  refine lv_sipush (v := 300) hx hb dX4_append_11 (by decide) ?_
  refine lv_icmp_ge (tgt := 40) hx hb dX4_append_14 (by decide) (fun h => absurd h (fun h => absurd (nI_geg 300 (by omega) (by decide) h) (by omega))) (fun _ => ?_)
  refine lv_aload_n hx hb dX4_append_17 rfl (lv_at hl 1 rfl) ?_
  refine va_get (D := D) (ci := 4) (v := .ref tp) (C := RX4) (T := TX4) (N := 11) hx hb hts w_1 hown hK hP 0 rfl rfl 4 (by decide) w_3 (fun _ h9 => h9) rfl dX4_append_18 ?_
  refine lv_aload_n hx hb dX4_append_21 rfl (lv_at hl 1 rfl) ?_
  refine va_get (D := D) (ci := 4) (v := .int (nI (tt + 2))) (C := RX4) (T := TX4) (N := 11) hx hb hts w_1 hown hK hP 0 rfl rfl 3 (by decide) w_2 (fun _ h9 => h9) rfl dX4_append_22 ?_
  refine lv_iload_n hx hb dX4_append_25 rfl (lv_at hl 2 rfl) ?_
  refine lv_iload_n hx hb dX4_append_26 rfl (lv_at hl 0 rfl) ?_
  refine lv_iushr (v := (q.toUInt32 >>> ((nI 8).toUInt32 &&& Int32.toUInt32 31)).toInt32) hx hb dX4_append_27 rfl ?_
  refine lv_i2b (v := ((q.toUInt32 >>> ((nI 8).toUInt32 &&& Int32.toUInt32 31)).toInt32).toInt8.toInt32) hx hb dX4_append_28 rfl ?_
  refine sv_bast hx hb hK hP hD hS 1 0 rfl rfl (vp_in_nI (by omega) (by decide)) dX4_append_29 (fun g_3 H locs eg_3 hP hD hS => ?_)
  have eg_3 : g_3 = upd (upd (upd rt tt (vp_nar .byte (((q.toUInt32 >>> ((nI 24).toUInt32 &&& Int32.toUInt32 31)).toInt32).toInt8.toInt32))) (tt + 1) (vp_nar .byte (((q.toUInt32 >>> ((nI 16).toUInt32 &&& Int32.toUInt32 31)).toInt32).toInt8.toInt32))) (tt + 2) (vp_nar .byte (((q.toUInt32 >>> ((nI 8).toUInt32 &&& Int32.toUInt32 31)).toInt32).toInt8.toInt32)) := bst eg_3 (by omega)
  subst eg_3
  have hP : va_P D vwCl [(h0, .inr (4, [.ref dr, .int t1, .int t2, .int (nI (tt + 2)), .ref tp, .int (nI ln), .int t6, .int t7, .int t8, .int t9, .int t10])), (tp, .inl (cB, 300, .inl (upd (upd (upd rt tt (vp_nar .byte (((q.toUInt32 >>> ((nI 24).toUInt32 &&& Int32.toUInt32 31)).toInt32).toInt8.toInt32))) (tt + 1) (vp_nar .byte (((q.toUInt32 >>> ((nI 16).toUInt32 &&& Int32.toUInt32 31)).toInt32).toInt8.toInt32))) (tt + 2) (vp_nar .byte (((q.toUInt32 >>> ((nI 8).toUInt32 &&& Int32.toUInt32 31)).toInt32).toInt8.toInt32)))))] H := hP
  have hD : va_D A [(h0, .inr (4, [.ref dr, .int t1, .int t2, .int (nI (tt + 2)), .ref tp, .int (nI ln), .int t6, .int t7, .int t8, .int t9, .int t10])), (tp, .inl (cB, 300, .inl (upd (upd (upd rt tt (vp_nar .byte (((q.toUInt32 >>> ((nI 24).toUInt32 &&& Int32.toUInt32 31)).toInt32).toInt8.toInt32))) (tt + 1) (vp_nar .byte (((q.toUInt32 >>> ((nI 16).toUInt32 &&& Int32.toUInt32 31)).toInt32).toInt8.toInt32))) (tt + 2) (vp_nar .byte (((q.toUInt32 >>> ((nI 8).toUInt32 &&& Int32.toUInt32 31)).toInt32).toInt8.toInt32)))))] := hD
  refine lv_aload_n hx hb dX4_append_30 rfl (lv_at hl 1 rfl) ?_
  refine lv_dup hx hb dX4_append_31 rfl ?_
  refine va_get (D := D) (ci := 4) (v := .int (nI (tt + 2))) (C := RX4) (T := TX4) (N := 11) hx hb hts w_1 hown hK hP 0 rfl rfl 3 (by decide) w_2 (fun _ h9 => h9) rfl dX4_append_32 ?_
  refine lv_iconst (v := 1) hx hb dX4_append_35 (by decide) ?_
  refine sv_iadd (v := nI (tt + 3)) hx hb dX4_append_36 (ax_add _ 1) ?_
  refine va_put (D := D) (ci := 4) (v := .int (nI (tt + 3))) (ty := .int) (C := RX4) (T := TX4) (N := 11) hx hb hts w_1 tyX4 tyX4_ok nmX4 hown hK hP hD hS 0 rfl rfl 3 (by decide) w_2 (fun _ h9 => h9) rfl (by decide +kernel) rfl rfl (Nat.le_of_ble_eq_true rfl) dX4_append_37 (fun H locs hP hD hS => ?_)
  have hP : va_P D vwCl [(h0, .inr (4, [.ref dr, .int t1, .int t2, .int (nI (tt + 3)), .ref tp, .int (nI ln), .int t6, .int t7, .int t8, .int t9, .int t10])), (tp, .inl (cB, 300, .inl (upd (upd (upd rt tt (vp_nar .byte (((q.toUInt32 >>> ((nI 24).toUInt32 &&& Int32.toUInt32 31)).toInt32).toInt8.toInt32))) (tt + 1) (vp_nar .byte (((q.toUInt32 >>> ((nI 16).toUInt32 &&& Int32.toUInt32 31)).toInt32).toInt8.toInt32))) (tt + 2) (vp_nar .byte (((q.toUInt32 >>> ((nI 8).toUInt32 &&& Int32.toUInt32 31)).toInt32).toInt8.toInt32)))))] H := hP
  have hD : va_D A [(h0, .inr (4, [.ref dr, .int t1, .int t2, .int (nI (tt + 3)), .ref tp, .int (nI ln), .int t6, .int t7, .int t8, .int t9, .int t10])), (tp, .inl (cB, 300, .inl (upd (upd (upd rt tt (vp_nar .byte (((q.toUInt32 >>> ((nI 24).toUInt32 &&& Int32.toUInt32 31)).toInt32).toInt8.toInt32))) (tt + 1) (vp_nar .byte (((q.toUInt32 >>> ((nI 16).toUInt32 &&& Int32.toUInt32 31)).toInt32).toInt8.toInt32))) (tt + 2) (vp_nar .byte (((q.toUInt32 >>> ((nI 8).toUInt32 &&& Int32.toUInt32 31)).toInt32).toInt8.toInt32)))))] := hD
  refine lv_iinc (v := 0) (lv' := [(2, .int 0), (0, .ref h0), (1, .int q)]) hx hb dX4_append_40 hl (k := 0) rfl (by decide) (by decide) rfl (fun ls hl => ?_)
  refine lv_goto (tgt := 3) hx hb dX4_append_43 (by decide) ?_
  refine lv_iload_n hx hb dX4_append_3 rfl (lv_at hl 0 rfl) ?_
  refine lv_if_lt (tgt := 46) hx hb dX4_append_4 (by decide) (fun h => absurd h (by decide)) (fun _ => ?_)
  refine lv_aload_n hx hb dX4_append_7 rfl (lv_at hl 1 rfl) ?_
  refine va_get (D := D) (ci := 4) (v := .int (nI (tt + 3))) (C := RX4) (T := TX4) (N := 11) hx hb hts w_1 hown hK hP 0 rfl rfl 3 (by decide) w_2 (fun _ h9 => h9) rfl dX4_append_8 ?_
  refine lv_sipush (v := 300) hx hb dX4_append_11 (by decide) ?_
  refine lv_icmp_ge (tgt := 40) hx hb dX4_append_14 (by decide) (fun h => absurd h (fun h => absurd (nI_geg 300 (by omega) (by decide) h) (by omega))) (fun _ => ?_)
  refine lv_aload_n hx hb dX4_append_17 rfl (lv_at hl 1 rfl) ?_
  refine va_get (D := D) (ci := 4) (v := .ref tp) (C := RX4) (T := TX4) (N := 11) hx hb hts w_1 hown hK hP 0 rfl rfl 4 (by decide) w_3 (fun _ h9 => h9) rfl dX4_append_18 ?_
  refine lv_aload_n hx hb dX4_append_21 rfl (lv_at hl 1 rfl) ?_
  refine va_get (D := D) (ci := 4) (v := .int (nI (tt + 3))) (C := RX4) (T := TX4) (N := 11) hx hb hts w_1 hown hK hP 0 rfl rfl 3 (by decide) w_2 (fun _ h9 => h9) rfl dX4_append_22 ?_
  refine lv_iload_n hx hb dX4_append_25 rfl (lv_at hl 2 rfl) ?_
  refine lv_iload_n hx hb dX4_append_26 rfl (lv_at hl 0 rfl) ?_
  refine lv_iushr (v := (q.toUInt32 >>> ((nI 0).toUInt32 &&& Int32.toUInt32 31)).toInt32) hx hb dX4_append_27 rfl ?_
  refine lv_i2b (v := ((q.toUInt32 >>> ((nI 0).toUInt32 &&& Int32.toUInt32 31)).toInt32).toInt8.toInt32) hx hb dX4_append_28 rfl ?_
  refine sv_bast hx hb hK hP hD hS 1 0 rfl rfl (vp_in_nI (by omega) (by decide)) dX4_append_29 (fun g_4 H locs eg_4 hP hD hS => ?_)
  have eg_4 : g_4 = upd (upd (upd (upd rt tt (vp_nar .byte (((q.toUInt32 >>> ((nI 24).toUInt32 &&& Int32.toUInt32 31)).toInt32).toInt8.toInt32))) (tt + 1) (vp_nar .byte (((q.toUInt32 >>> ((nI 16).toUInt32 &&& Int32.toUInt32 31)).toInt32).toInt8.toInt32))) (tt + 2) (vp_nar .byte (((q.toUInt32 >>> ((nI 8).toUInt32 &&& Int32.toUInt32 31)).toInt32).toInt8.toInt32))) (tt + 3) (vp_nar .byte (((q.toUInt32 >>> ((nI 0).toUInt32 &&& Int32.toUInt32 31)).toInt32).toInt8.toInt32)) := bst eg_4 (by omega)
  subst eg_4
  have hP : va_P D vwCl [(h0, .inr (4, [.ref dr, .int t1, .int t2, .int (nI (tt + 3)), .ref tp, .int (nI ln), .int t6, .int t7, .int t8, .int t9, .int t10])), (tp, .inl (cB, 300, .inl (upd (upd (upd (upd rt tt (vp_nar .byte (((q.toUInt32 >>> ((nI 24).toUInt32 &&& Int32.toUInt32 31)).toInt32).toInt8.toInt32))) (tt + 1) (vp_nar .byte (((q.toUInt32 >>> ((nI 16).toUInt32 &&& Int32.toUInt32 31)).toInt32).toInt8.toInt32))) (tt + 2) (vp_nar .byte (((q.toUInt32 >>> ((nI 8).toUInt32 &&& Int32.toUInt32 31)).toInt32).toInt8.toInt32))) (tt + 3) (vp_nar .byte (((q.toUInt32 >>> ((nI 0).toUInt32 &&& Int32.toUInt32 31)).toInt32).toInt8.toInt32)))))] H := hP
  have hD : va_D A [(h0, .inr (4, [.ref dr, .int t1, .int t2, .int (nI (tt + 3)), .ref tp, .int (nI ln), .int t6, .int t7, .int t8, .int t9, .int t10])), (tp, .inl (cB, 300, .inl (upd (upd (upd (upd rt tt (vp_nar .byte (((q.toUInt32 >>> ((nI 24).toUInt32 &&& Int32.toUInt32 31)).toInt32).toInt8.toInt32))) (tt + 1) (vp_nar .byte (((q.toUInt32 >>> ((nI 16).toUInt32 &&& Int32.toUInt32 31)).toInt32).toInt8.toInt32))) (tt + 2) (vp_nar .byte (((q.toUInt32 >>> ((nI 8).toUInt32 &&& Int32.toUInt32 31)).toInt32).toInt8.toInt32))) (tt + 3) (vp_nar .byte (((q.toUInt32 >>> ((nI 0).toUInt32 &&& Int32.toUInt32 31)).toInt32).toInt8.toInt32)))))] := hD
  refine lv_aload_n hx hb dX4_append_30 rfl (lv_at hl 1 rfl) ?_
  refine lv_dup hx hb dX4_append_31 rfl ?_
  refine va_get (D := D) (ci := 4) (v := .int (nI (tt + 3))) (C := RX4) (T := TX4) (N := 11) hx hb hts w_1 hown hK hP 0 rfl rfl 3 (by decide) w_2 (fun _ h9 => h9) rfl dX4_append_32 ?_
  refine lv_iconst (v := 1) hx hb dX4_append_35 (by decide) ?_
  refine sv_iadd (v := nI (tt + 4)) hx hb dX4_append_36 (ax_add _ 1) ?_
  refine va_put (D := D) (ci := 4) (v := .int (nI (tt + 4))) (ty := .int) (C := RX4) (T := TX4) (N := 11) hx hb hts w_1 tyX4 tyX4_ok nmX4 hown hK hP hD hS 0 rfl rfl 3 (by decide) w_2 (fun _ h9 => h9) rfl (by decide +kernel) rfl rfl (Nat.le_of_ble_eq_true rfl) dX4_append_37 (fun H locs hP hD hS => ?_)
  have hP : va_P D vwCl [(h0, .inr (4, [.ref dr, .int t1, .int t2, .int (nI (tt + 4)), .ref tp, .int (nI ln), .int t6, .int t7, .int t8, .int t9, .int t10])), (tp, .inl (cB, 300, .inl (upd (upd (upd (upd rt tt (vp_nar .byte (((q.toUInt32 >>> ((nI 24).toUInt32 &&& Int32.toUInt32 31)).toInt32).toInt8.toInt32))) (tt + 1) (vp_nar .byte (((q.toUInt32 >>> ((nI 16).toUInt32 &&& Int32.toUInt32 31)).toInt32).toInt8.toInt32))) (tt + 2) (vp_nar .byte (((q.toUInt32 >>> ((nI 8).toUInt32 &&& Int32.toUInt32 31)).toInt32).toInt8.toInt32))) (tt + 3) (vp_nar .byte (((q.toUInt32 >>> ((nI 0).toUInt32 &&& Int32.toUInt32 31)).toInt32).toInt8.toInt32)))))] H := hP
  have hD : va_D A [(h0, .inr (4, [.ref dr, .int t1, .int t2, .int (nI (tt + 4)), .ref tp, .int (nI ln), .int t6, .int t7, .int t8, .int t9, .int t10])), (tp, .inl (cB, 300, .inl (upd (upd (upd (upd rt tt (vp_nar .byte (((q.toUInt32 >>> ((nI 24).toUInt32 &&& Int32.toUInt32 31)).toInt32).toInt8.toInt32))) (tt + 1) (vp_nar .byte (((q.toUInt32 >>> ((nI 16).toUInt32 &&& Int32.toUInt32 31)).toInt32).toInt8.toInt32))) (tt + 2) (vp_nar .byte (((q.toUInt32 >>> ((nI 8).toUInt32 &&& Int32.toUInt32 31)).toInt32).toInt8.toInt32))) (tt + 3) (vp_nar .byte (((q.toUInt32 >>> ((nI 0).toUInt32 &&& Int32.toUInt32 31)).toInt32).toInt8.toInt32)))))] := hD
  refine lv_iinc (v := (-8)) (lv' := [(2, .int (-8)), (0, .ref h0), (1, .int q)]) hx hb dX4_append_40 hl (k := 0) rfl (by decide) (by decide) rfl (fun ls hl => ?_)
  refine lv_goto (tgt := 3) hx hb dX4_append_43 (by decide) ?_
  refine lv_iload_n hx hb dX4_append_3 rfl (lv_at hl 0 rfl) ?_
  refine lv_if_lt (tgt := 46) hx hb dX4_append_4 (by decide) (fun _ => ?_) (fun h => absurd (by decide) h)
  have hP9 := hP.sub (ws' := [(h0, .inr (4, [.ref dr, .int t1, .int t2, .int (nI (tt + 4)), .ref tp, .int (nI ln), .int t6, .int t7, .int t8, .int t9, .int t10])), (tp, .inl (cB, 300, .inl (upd (upd (upd (upd rt tt (vp_nar .byte (((q.toUInt32 >>> ((nI 24).toUInt32 &&& Int32.toUInt32 31)).toInt32).toInt8.toInt32))) (tt + 1) (vp_nar .byte (((q.toUInt32 >>> ((nI 16).toUInt32 &&& Int32.toUInt32 31)).toInt32).toInt8.toInt32))) (tt + 2) (vp_nar .byte (((q.toUInt32 >>> ((nI 8).toUInt32 &&& Int32.toUInt32 31)).toInt32).toInt8.toInt32))) (tt + 3) (vp_nar .byte (((q.toUInt32 >>> ((nI 0).toUInt32 &&& Int32.toUInt32 31)).toInt32).toInt8.toInt32)))))]) [0, 1] rfl
  have hD9 := hD.sub (ws' := [(h0, .inr (4, [.ref dr, .int t1, .int t2, .int (nI (tt + 4)), .ref tp, .int (nI ln), .int t6, .int t7, .int t8, .int t9, .int t10])), (tp, .inl (cB, 300, .inl (upd (upd (upd (upd rt tt (vp_nar .byte (((q.toUInt32 >>> ((nI 24).toUInt32 &&& Int32.toUInt32 31)).toInt32).toInt8.toInt32))) (tt + 1) (vp_nar .byte (((q.toUInt32 >>> ((nI 16).toUInt32 &&& Int32.toUInt32 31)).toInt32).toInt8.toInt32))) (tt + 2) (vp_nar .byte (((q.toUInt32 >>> ((nI 8).toUInt32 &&& Int32.toUInt32 31)).toInt32).toInt8.toInt32))) (tt + 3) (vp_nar .byte (((q.toUInt32 >>> ((nI 0).toUInt32 &&& Int32.toUInt32 31)).toInt32).toInt8.toInt32)))))]) [0, 1] (by decide) rfl
  exact W.vret hx hb hr (fun t ht hW => ⟨⟨((tt + 4), upd (upd (upd (upd rt tt (vp_nar .byte (((q.toUInt32 >>> ((nI 24).toUInt32 &&& Int32.toUInt32 31)).toInt32).toInt8.toInt32))) (tt + 1) (vp_nar .byte (((q.toUInt32 >>> ((nI 16).toUInt32 &&& Int32.toUInt32 31)).toInt32).toInt8.toInt32))) (tt + 2) (vp_nar .byte (((q.toUInt32 >>> ((nI 8).toUInt32 &&& Int32.toUInt32 31)).toInt32).toInt8.toInt32))) (tt + 3) (vp_nar .byte (((q.toUInt32 >>> ((nI 0).toUInt32 &&& Int32.toUInt32 31)).toInt32).toInt8.toInt32))), rfl, ⟨rfl, ap_eq (by_u 24 (by decide)) (by_u 16 (by decide)) (by_u 8 (by decide)) (by_u 0 (by decide))⟩, by rw [ht]; exact hP9, va_K.moved hW.alike hK, hD9⟩, hS.F ht⟩) hS.2.2 dX4_append_46

set_option maxHeartbeats 4000000 in
set_option maxRecDepth 100000 in
theorem f_X7_feed (l : Launch) (D : va_G) (cB cI cJ cZ : ClassId) (sz : Nat) (x : Nat → Nat) (yr : Int32) (t1 : Int32) (t2 : Int32) (tt : Nat) (ln : Nat) (t6 : Int32) (t7 : Int32) (t8 : Int32) (t9 : Int32) (t10 : Int32) (rt : Nat → Int32) (v1 v2 v3 v4 v5 : Int32) (b_tt : tt ≤ 300) (b_ln : ln ≤ 300) : Met l yX7_feed wsX7_feed ({ frames := 1, cells := 0, slots := 0, locals := 22 } : Room) (cPre D (aTy cB cI cJ cZ) [((x 0), .inr (7, [.ref (x 1), .ref (x 5), .ref (x 7), .ref (x 10), .ref (x 17), .ref (x 22), .ref (x 27), .int yr])), ((x 1), .inr (4, [.ref (x 2), .int t1, .int t2, .int (nI tt), .ref (x 4), .int (nI ln), .int t6, .int t7, .int t8, .int t9, .int t10])), ((x 4), .inl (cB, 300, .inl rt))] sz [.ref (x 0), .int v1, .int v2, .int v3, .int v4, .int v5]) (va_Qi (fun (r : Int32) (u : Nat × (Nat → Int32)) => fdP (sg rt) tt v1 v2 v3 v4 v5 r u.1 (sg u.2)) (cB_ D (aTy cB cI cJ cZ) (va_A [((x 0), .inr (7, [.ref (x 1), .ref (x 5), .ref (x 7), .ref (x 10), .ref (x 17), .ref (x 22), .ref (x 27), .int yr])), ((x 1), .inr (4, [.ref (x 2), .int t1, .int t2, .int (nI tt), .ref (x 4), .int (nI ln), .int t6, .int t7, .int t8, .int t9, .int t10])), ((x 4), .inl (cB, 300, .inl rt))] sz) (fun u => [((x 0), .inr (7, [.ref (x 1), .ref (x 5), .ref (x 7), .ref (x 10), .ref (x 17), .ref (x 22), .ref (x 27), .int yr])), ((x 1), .inr (4, [.ref (x 2), .int t1, .int t2, .int (nI (u.1)), .ref (x 4), .int (nI ln), .int t6, .int t7, .int t8, .int t9, .int t10])), ((x 4), .inl (cB, 300, .inl u.2))])) (va_A [((x 0), .inr (7, [.ref (x 1), .ref (x 5), .ref (x 7), .ref (x 10), .ref (x 17), .ref (x 22), .ref (x 27), .int yr])), ((x 1), .inr (4, [.ref (x 2), .int t1, .int t2, .int (nI tt), .ref (x 4), .int (nI ln), .int t6, .int t7, .int t8, .int t9, .int t10])), ((x 4), .inl (cB, 300, .inl rt))] sz)) 0 0 (va_A [((x 0), .inr (7, [.ref (x 1), .ref (x 5), .ref (x 7), .ref (x 10), .ref (x 17), .ref (x 22), .ref (x 27), .int yr])), ((x 1), .inr (4, [.ref (x 2), .int t1, .int t2, .int (nI tt), .ref (x 4), .int (nI ln), .int t6, .int t7, .int t8, .int t9, .int t10])), ((x 4), .inl (cB, 300, .inl rt))] sz) := by
  refine Met.ofW (cc := cX7_feed) (maxL := 6) (ret := (some .int)) (by decide) rfl ?_
  intro p e s m args below meth c s₁ B hml hv
  obtain ⟨rfl, hsz, hP, hK, hD0⟩ := hv
  have hx := B.exec
  have hb := B.bytes
  have hr := B.returns
  have hts := atoms_spec (ws := wsX7_feed) B.pre
  have hown : s.vm.findClass RX7 = some m.cls := findClass_of_methodNamed B.named
  have hlocks := B.notSynchronized
  subst hsz
  have hD := hD0.self (sz := s.heap.size)
  generalize hAe : va_A [((x 0), .inr (7, [.ref (x 1), .ref (x 5), .ref (x 7), .ref (x 10), .ref (x 17), .ref (x 22), .ref (x 27), .int yr])), ((x 1), .inr (4, [.ref (x 2), .int t1, .int t2, .int (nI tt), .ref (x 4), .int (nI ln), .int t6, .int t7, .int t8, .int t9, .int t10])), ((x 4), .inl (cB, 300, .inl rt))] s.heap.size = A at hD ⊢
  have hA : ∀ q : Nat, s.heap.size ≤ q → A q := fun q h => by rw [← hAe]; exact Or.inr h
  have hS : va_S A s.heap s.heap [] := va_S.rf
  have hP : va_P D vwCl [((x 0), .inr (7, [.ref (x 1), .ref (x 5), .ref (x 7), .ref (x 10), .ref (x 17), .ref (x 22), .ref (x 27), .int yr])), ((x 1), .inr (4, [.ref (x 2), .int t1, .int t2, .int (nI tt), .ref (x 4), .int (nI ln), .int t6, .int t7, .int t8, .int t9, .int t10])), ((x 4), .inl (cB, 300, .inl rt))] s.heap := hP
  have w_1 : ∀ w ∈ wsX70, w ∈ wsX7_feed := by decide +kernel
  have w_2 := hts (Cond.fieldLink RX7 10 "BlueCoats" "reader" "LBlueCoats$Reader;") (by decide +kernel)
  have w_3 : ∀ w ∈ wsX40, w ∈ wsX7_feed := by decide +kernel
  have w_4 := hts (Cond.fieldLink RX7 62 "BlueCoats$Reader" "taped" "I") (by decide +kernel)
  have hl := lv_entry ([.ref (x 0), .int v1, .int v2, .int v3, .int v4, .int v5]) (n := 6) (Nat.le_of_ble_eq_true rfl)
  rw [lg_entry_eq]
  generalize (lg_sl ([.ref (x 0), .int v1, .int v2, .int v3, .int v4, .int v5]) ++ List.replicate (6 - (lg_sl ([.ref (x 0), .int v1, .int v2, .int v3, .int v4, .int v5])).length) Slot.unset).toArray = ls at hl ⊢
  have hl : lv_has ls 6 [(0, .ref (x 0)), (1, .int v1), (2, .int v2), (3, .int v3), (4, .int v4), (5, .int v5)] := hl
  refine lv_aload_n hx hb dX7_feed_0 rfl (lv_at hl 0 rfl) ?_
  refine va_get (D := D) (ci := 7) (v := .ref (x 1)) (C := RX7) (T := TX7) (N := 8) hx hb hts w_1 hown hK hP 0 rfl rfl 0 (by decide) w_2 (fun _ h9 => h9) rfl dX7_feed_1 ?_
  refine va_get (D := D) (ci := 4) (v := .int (nI tt)) (C := RX4) (T := TX4) (N := 11) hx hb hts w_3 hown hK hP 1 rfl rfl 3 (by decide) w_4 (fun _ h9 => h9) rfl dX7_feed_4 ?_
  refine lv_bipush (v := 20) hx hb dX7_feed_7 (by decide) ?_
  refine sv_iadd (v := nI (tt + 20)) hx hb dX7_feed_9 (nI_add tt 20) ?_
  refine lv_sipush (v := 300) hx hb dX7_feed_10 (by decide) ?_
  refine lv_icmp_le (tgt := 18) hx hb dX7_feed_13 (by decide) (fun c_13 => ?_) (fun c_13 => ?_)
  ·
    have h13 : tt + 20 ≤ 300 := nI_lec 300 (by omega) (by decide) c_13
    refine lv_aload_n hx hb dX7_feed_18 rfl (lv_at hl 0 rfl) ?_
    refine va_get (D := D) (ci := 7) (v := .ref (x 1)) (C := RX7) (T := TX7) (N := 8) hx hb hts w_1 hown hK hP 0 rfl rfl 0 (by decide) w_2 (fun _ h9 => h9) rfl dX7_feed_19 ?_
    refine lv_iload_n hx hb dX7_feed_22 rfl (lv_at hl 1 rfl) ?_
    refine cl_v (wc := [((x 1), .inr (4, [.ref (x 2), .int t1, .int t2, .int (nI tt), .ref (x 4), .int (nI ln), .int t6, .int t7, .int t8, .int t9, .int t10])), ((x 4), .inl (cB, 300, .inl rt))]) (wr := [((x 0), .inr (7, [.ref (x 1), .ref (x 5), .ref (x 7), .ref (x 10), .ref (x 17), .ref (x 22), .ref (x 27), .int yr]))]) (va_runV (As := [.int v1]) (rest := []) ⟨hx, hb, hml, hown, hts⟩ (f_X4_append l D cB cI cJ cZ s.heap.size (x 1) (x 2) (x 4) tt ln t1 t2 t6 t7 t8 t9 t10 rt v1 (by omega)) (cwV 1 hts gX7_feed_X4_append rfl rfl rfl (by decide +kernel) ⟨Nat.le_of_ble_eq_true rfl, Nat.le_of_ble_eq_true rfl⟩) (pre_V (hP.sub (ws' := [((x 1), .inr (4, [.ref (x 2), .int t1, .int t2, .int (nI tt), .ref (x 4), .int (nI ln), .int t6, .int t7, .int t8, .int t9, .int t10])), ((x 4), .inl (cB, 300, .inl rt))]) [1, 2] rfl) hK (hD.sub (ws' := [((x 1), .inr (4, [.ref (x 2), .int t1, .int t2, .int (nI tt), .ref (x 4), .int (nI ln), .int t6, .int t7, .int t8, .int t9, .int t10])), ((x 4), .inl (cB, 300, .inl rt))]) [1, 2] (by decide) rfl) 0 rfl rfl rfl) rfl rfl hl.1 rfl (lv_room (Nat.le_of_ble_eq_true rfl)) dX7_feed_23 ⟨Nat.le_of_ble_eq_true rfl, Nat.le_of_ble_eq_true rfl⟩) hP hD hS hA [1, 2] [0] rfl rfl (by decide) (by decide) 0 0 rfl rfl (fun u_2 H locs hw_u_2 hP hD hS => ?_)
    obtain ⟨tt0, rt0⟩ := u_2
    have ett0 : tt0 = tt + 4 := hw_u_2.1
    have ert0 : sg rt0 = ap4 (sg rt) tt v1 := hw_u_2.2
    have hP : va_P D vwCl [((x 0), .inr (7, [.ref (x 1), .ref (x 5), .ref (x 7), .ref (x 10), .ref (x 17), .ref (x 22), .ref (x 27), .int yr])), ((x 1), .inr (4, [.ref (x 2), .int t1, .int t2, .int (nI tt0), .ref (x 4), .int (nI ln), .int t6, .int t7, .int t8, .int t9, .int t10])), ((x 4), .inl (cB, 300, .inl rt0))] H := hP
    have hD : va_D A [((x 0), .inr (7, [.ref (x 1), .ref (x 5), .ref (x 7), .ref (x 10), .ref (x 17), .ref (x 22), .ref (x 27), .int yr])), ((x 1), .inr (4, [.ref (x 2), .int t1, .int t2, .int (nI tt0), .ref (x 4), .int (nI ln), .int t6, .int t7, .int t8, .int t9, .int t10])), ((x 4), .inl (cB, 300, .inl rt0))] := hD
    refine lv_aload_n hx hb dX7_feed_26 rfl (lv_at hl 0 rfl) ?_
    refine va_get (D := D) (ci := 7) (v := .ref (x 1)) (C := RX7) (T := TX7) (N := 8) hx hb hts w_1 hown hK hP 0 rfl rfl 0 (by decide) w_2 (fun _ h9 => h9) rfl dX7_feed_27 ?_
    refine lv_iload_n hx hb dX7_feed_30 rfl (lv_at hl 2 rfl) ?_
    refine cl_v (wc := [((x 1), .inr (4, [.ref (x 2), .int t1, .int t2, .int (nI tt0), .ref (x 4), .int (nI ln), .int t6, .int t7, .int t8, .int t9, .int t10])), ((x 4), .inl (cB, 300, .inl rt0))]) (wr := [((x 0), .inr (7, [.ref (x 1), .ref (x 5), .ref (x 7), .ref (x 10), .ref (x 17), .ref (x 22), .ref (x 27), .int yr]))]) (va_runV (As := [.int v2]) (rest := []) ⟨hx, hb, hml, hown, hts⟩ (f_X4_append l D cB cI cJ cZ H.size (x 1) (x 2) (x 4) tt0 ln t1 t2 t6 t7 t8 t9 t10 rt0 v2 (by omega)) (cwV 1 hts gX7_feed_X4_append rfl rfl rfl (by decide +kernel) ⟨Nat.le_of_ble_eq_true rfl, Nat.le_of_ble_eq_true rfl⟩) (pre_V (hP.sub (ws' := [((x 1), .inr (4, [.ref (x 2), .int t1, .int t2, .int (nI tt0), .ref (x 4), .int (nI ln), .int t6, .int t7, .int t8, .int t9, .int t10])), ((x 4), .inl (cB, 300, .inl rt0))]) [1, 2] rfl) hK (hD.sub (ws' := [((x 1), .inr (4, [.ref (x 2), .int t1, .int t2, .int (nI tt0), .ref (x 4), .int (nI ln), .int t6, .int t7, .int t8, .int t9, .int t10])), ((x 4), .inl (cB, 300, .inl rt0))]) [1, 2] (by decide) rfl) 0 rfl rfl rfl) rfl rfl hl.1 rfl (lv_room (Nat.le_of_ble_eq_true rfl)) dX7_feed_31 ⟨Nat.le_of_ble_eq_true rfl, Nat.le_of_ble_eq_true rfl⟩) hP hD hS hA [1, 2] [0] rfl rfl (by decide) (by decide) 0 0 rfl rfl (fun u_4 H locs hw_u_4 hP hD hS => ?_)
    obtain ⟨tt1, rt1⟩ := u_4
    have ett1 : tt1 = tt0 + 4 := hw_u_4.1
    have ert1 : sg rt1 = ap4 (sg rt0) tt0 v2 := hw_u_4.2
    have hP : va_P D vwCl [((x 0), .inr (7, [.ref (x 1), .ref (x 5), .ref (x 7), .ref (x 10), .ref (x 17), .ref (x 22), .ref (x 27), .int yr])), ((x 1), .inr (4, [.ref (x 2), .int t1, .int t2, .int (nI tt1), .ref (x 4), .int (nI ln), .int t6, .int t7, .int t8, .int t9, .int t10])), ((x 4), .inl (cB, 300, .inl rt1))] H := hP
    have hD : va_D A [((x 0), .inr (7, [.ref (x 1), .ref (x 5), .ref (x 7), .ref (x 10), .ref (x 17), .ref (x 22), .ref (x 27), .int yr])), ((x 1), .inr (4, [.ref (x 2), .int t1, .int t2, .int (nI tt1), .ref (x 4), .int (nI ln), .int t6, .int t7, .int t8, .int t9, .int t10])), ((x 4), .inl (cB, 300, .inl rt1))] := hD
    refine lv_aload_n hx hb dX7_feed_34 rfl (lv_at hl 0 rfl) ?_
    refine va_get (D := D) (ci := 7) (v := .ref (x 1)) (C := RX7) (T := TX7) (N := 8) hx hb hts w_1 hown hK hP 0 rfl rfl 0 (by decide) w_2 (fun _ h9 => h9) rfl dX7_feed_35 ?_
    refine lv_iload_n hx hb dX7_feed_38 rfl (lv_at hl 3 rfl) ?_
    refine cl_v (wc := [((x 1), .inr (4, [.ref (x 2), .int t1, .int t2, .int (nI tt1), .ref (x 4), .int (nI ln), .int t6, .int t7, .int t8, .int t9, .int t10])), ((x 4), .inl (cB, 300, .inl rt1))]) (wr := [((x 0), .inr (7, [.ref (x 1), .ref (x 5), .ref (x 7), .ref (x 10), .ref (x 17), .ref (x 22), .ref (x 27), .int yr]))]) (va_runV (As := [.int v3]) (rest := []) ⟨hx, hb, hml, hown, hts⟩ (f_X4_append l D cB cI cJ cZ H.size (x 1) (x 2) (x 4) tt1 ln t1 t2 t6 t7 t8 t9 t10 rt1 v3 (by omega)) (cwV 1 hts gX7_feed_X4_append rfl rfl rfl (by decide +kernel) ⟨Nat.le_of_ble_eq_true rfl, Nat.le_of_ble_eq_true rfl⟩) (pre_V (hP.sub (ws' := [((x 1), .inr (4, [.ref (x 2), .int t1, .int t2, .int (nI tt1), .ref (x 4), .int (nI ln), .int t6, .int t7, .int t8, .int t9, .int t10])), ((x 4), .inl (cB, 300, .inl rt1))]) [1, 2] rfl) hK (hD.sub (ws' := [((x 1), .inr (4, [.ref (x 2), .int t1, .int t2, .int (nI tt1), .ref (x 4), .int (nI ln), .int t6, .int t7, .int t8, .int t9, .int t10])), ((x 4), .inl (cB, 300, .inl rt1))]) [1, 2] (by decide) rfl) 0 rfl rfl rfl) rfl rfl hl.1 rfl (lv_room (Nat.le_of_ble_eq_true rfl)) dX7_feed_39 ⟨Nat.le_of_ble_eq_true rfl, Nat.le_of_ble_eq_true rfl⟩) hP hD hS hA [1, 2] [0] rfl rfl (by decide) (by decide) 0 0 rfl rfl (fun u_6 H locs hw_u_6 hP hD hS => ?_)
    obtain ⟨tt2, rt2⟩ := u_6
    have ett2 : tt2 = tt1 + 4 := hw_u_6.1
    have ert2 : sg rt2 = ap4 (sg rt1) tt1 v3 := hw_u_6.2
    have hP : va_P D vwCl [((x 0), .inr (7, [.ref (x 1), .ref (x 5), .ref (x 7), .ref (x 10), .ref (x 17), .ref (x 22), .ref (x 27), .int yr])), ((x 1), .inr (4, [.ref (x 2), .int t1, .int t2, .int (nI tt2), .ref (x 4), .int (nI ln), .int t6, .int t7, .int t8, .int t9, .int t10])), ((x 4), .inl (cB, 300, .inl rt2))] H := hP
    have hD : va_D A [((x 0), .inr (7, [.ref (x 1), .ref (x 5), .ref (x 7), .ref (x 10), .ref (x 17), .ref (x 22), .ref (x 27), .int yr])), ((x 1), .inr (4, [.ref (x 2), .int t1, .int t2, .int (nI tt2), .ref (x 4), .int (nI ln), .int t6, .int t7, .int t8, .int t9, .int t10])), ((x 4), .inl (cB, 300, .inl rt2))] := hD
    refine lv_aload_n hx hb dX7_feed_42 rfl (lv_at hl 0 rfl) ?_
    refine va_get (D := D) (ci := 7) (v := .ref (x 1)) (C := RX7) (T := TX7) (N := 8) hx hb hts w_1 hown hK hP 0 rfl rfl 0 (by decide) w_2 (fun _ h9 => h9) rfl dX7_feed_43 ?_
    refine lv_iload hx hb dX7_feed_46 (lv_at hl 4 rfl) ?_
    refine cl_v (wc := [((x 1), .inr (4, [.ref (x 2), .int t1, .int t2, .int (nI tt2), .ref (x 4), .int (nI ln), .int t6, .int t7, .int t8, .int t9, .int t10])), ((x 4), .inl (cB, 300, .inl rt2))]) (wr := [((x 0), .inr (7, [.ref (x 1), .ref (x 5), .ref (x 7), .ref (x 10), .ref (x 17), .ref (x 22), .ref (x 27), .int yr]))]) (va_runV (As := [.int v4]) (rest := []) ⟨hx, hb, hml, hown, hts⟩ (f_X4_append l D cB cI cJ cZ H.size (x 1) (x 2) (x 4) tt2 ln t1 t2 t6 t7 t8 t9 t10 rt2 v4 (by omega)) (cwV 1 hts gX7_feed_X4_append rfl rfl rfl (by decide +kernel) ⟨Nat.le_of_ble_eq_true rfl, Nat.le_of_ble_eq_true rfl⟩) (pre_V (hP.sub (ws' := [((x 1), .inr (4, [.ref (x 2), .int t1, .int t2, .int (nI tt2), .ref (x 4), .int (nI ln), .int t6, .int t7, .int t8, .int t9, .int t10])), ((x 4), .inl (cB, 300, .inl rt2))]) [1, 2] rfl) hK (hD.sub (ws' := [((x 1), .inr (4, [.ref (x 2), .int t1, .int t2, .int (nI tt2), .ref (x 4), .int (nI ln), .int t6, .int t7, .int t8, .int t9, .int t10])), ((x 4), .inl (cB, 300, .inl rt2))]) [1, 2] (by decide) rfl) 0 rfl rfl rfl) rfl rfl hl.1 rfl (lv_room (Nat.le_of_ble_eq_true rfl)) dX7_feed_48 ⟨Nat.le_of_ble_eq_true rfl, Nat.le_of_ble_eq_true rfl⟩) hP hD hS hA [1, 2] [0] rfl rfl (by decide) (by decide) 0 0 rfl rfl (fun u_8 H locs hw_u_8 hP hD hS => ?_)
    obtain ⟨tt3, rt3⟩ := u_8
    have ett3 : tt3 = tt2 + 4 := hw_u_8.1
    have ert3 : sg rt3 = ap4 (sg rt2) tt2 v4 := hw_u_8.2
    have hP : va_P D vwCl [((x 0), .inr (7, [.ref (x 1), .ref (x 5), .ref (x 7), .ref (x 10), .ref (x 17), .ref (x 22), .ref (x 27), .int yr])), ((x 1), .inr (4, [.ref (x 2), .int t1, .int t2, .int (nI tt3), .ref (x 4), .int (nI ln), .int t6, .int t7, .int t8, .int t9, .int t10])), ((x 4), .inl (cB, 300, .inl rt3))] H := hP
    have hD : va_D A [((x 0), .inr (7, [.ref (x 1), .ref (x 5), .ref (x 7), .ref (x 10), .ref (x 17), .ref (x 22), .ref (x 27), .int yr])), ((x 1), .inr (4, [.ref (x 2), .int t1, .int t2, .int (nI tt3), .ref (x 4), .int (nI ln), .int t6, .int t7, .int t8, .int t9, .int t10])), ((x 4), .inl (cB, 300, .inl rt3))] := hD
    refine lv_aload_n hx hb dX7_feed_51 rfl (lv_at hl 0 rfl) ?_
    refine va_get (D := D) (ci := 7) (v := .ref (x 1)) (C := RX7) (T := TX7) (N := 8) hx hb hts w_1 hown hK hP 0 rfl rfl 0 (by decide) w_2 (fun _ h9 => h9) rfl dX7_feed_52 ?_
    refine lv_iload hx hb dX7_feed_55 (lv_at hl 5 rfl) ?_
    refine cl_v (wc := [((x 1), .inr (4, [.ref (x 2), .int t1, .int t2, .int (nI tt3), .ref (x 4), .int (nI ln), .int t6, .int t7, .int t8, .int t9, .int t10])), ((x 4), .inl (cB, 300, .inl rt3))]) (wr := [((x 0), .inr (7, [.ref (x 1), .ref (x 5), .ref (x 7), .ref (x 10), .ref (x 17), .ref (x 22), .ref (x 27), .int yr]))]) (va_runV (As := [.int v5]) (rest := []) ⟨hx, hb, hml, hown, hts⟩ (f_X4_append l D cB cI cJ cZ H.size (x 1) (x 2) (x 4) tt3 ln t1 t2 t6 t7 t8 t9 t10 rt3 v5 (by omega)) (cwV 1 hts gX7_feed_X4_append rfl rfl rfl (by decide +kernel) ⟨Nat.le_of_ble_eq_true rfl, Nat.le_of_ble_eq_true rfl⟩) (pre_V (hP.sub (ws' := [((x 1), .inr (4, [.ref (x 2), .int t1, .int t2, .int (nI tt3), .ref (x 4), .int (nI ln), .int t6, .int t7, .int t8, .int t9, .int t10])), ((x 4), .inl (cB, 300, .inl rt3))]) [1, 2] rfl) hK (hD.sub (ws' := [((x 1), .inr (4, [.ref (x 2), .int t1, .int t2, .int (nI tt3), .ref (x 4), .int (nI ln), .int t6, .int t7, .int t8, .int t9, .int t10])), ((x 4), .inl (cB, 300, .inl rt3))]) [1, 2] (by decide) rfl) 0 rfl rfl rfl) rfl rfl hl.1 rfl (lv_room (Nat.le_of_ble_eq_true rfl)) dX7_feed_57 ⟨Nat.le_of_ble_eq_true rfl, Nat.le_of_ble_eq_true rfl⟩) hP hD hS hA [1, 2] [0] rfl rfl (by decide) (by decide) 0 0 rfl rfl (fun u_10 H locs hw_u_10 hP hD hS => ?_)
    obtain ⟨tt4, rt4⟩ := u_10
    have ett4 : tt4 = tt3 + 4 := hw_u_10.1
    have ert4 : sg rt4 = ap4 (sg rt3) tt3 v5 := hw_u_10.2
    have hP : va_P D vwCl [((x 0), .inr (7, [.ref (x 1), .ref (x 5), .ref (x 7), .ref (x 10), .ref (x 17), .ref (x 22), .ref (x 27), .int yr])), ((x 1), .inr (4, [.ref (x 2), .int t1, .int t2, .int (nI tt4), .ref (x 4), .int (nI ln), .int t6, .int t7, .int t8, .int t9, .int t10])), ((x 4), .inl (cB, 300, .inl rt4))] H := hP
    have hD : va_D A [((x 0), .inr (7, [.ref (x 1), .ref (x 5), .ref (x 7), .ref (x 10), .ref (x 17), .ref (x 22), .ref (x 27), .int yr])), ((x 1), .inr (4, [.ref (x 2), .int t1, .int t2, .int (nI tt4), .ref (x 4), .int (nI ln), .int t6, .int t7, .int t8, .int t9, .int t10])), ((x 4), .inl (cB, 300, .inl rt4))] := hD
    refine lv_aload_n hx hb dX7_feed_60 rfl (lv_at hl 0 rfl) ?_
    refine va_get (D := D) (ci := 7) (v := .ref (x 1)) (C := RX7) (T := TX7) (N := 8) hx hb hts w_1 hown hK hP 0 rfl rfl 0 (by decide) w_2 (fun _ h9 => h9) rfl dX7_feed_61 ?_
    refine va_get (D := D) (ci := 4) (v := .int (nI tt4)) (C := RX4) (T := TX4) (N := 11) hx hb hts w_3 hown hK hP 1 rfl rfl 3 (by decide) w_4 (fun _ h9 => h9) rfl dX7_feed_64 ?_
    have hP9 := hP.sub (ws' := [((x 0), .inr (7, [.ref (x 1), .ref (x 5), .ref (x 7), .ref (x 10), .ref (x 17), .ref (x 22), .ref (x 27), .int yr])), ((x 1), .inr (4, [.ref (x 2), .int t1, .int t2, .int (nI tt4), .ref (x 4), .int (nI ln), .int t6, .int t7, .int t8, .int t9, .int t10])), ((x 4), .inl (cB, 300, .inl rt4))]) [0, 1, 2] rfl
    have hD9 := hD.sub (ws' := [((x 0), .inr (7, [.ref (x 1), .ref (x 5), .ref (x 7), .ref (x 10), .ref (x 17), .ref (x 22), .ref (x 27), .int yr])), ((x 1), .inr (4, [.ref (x 2), .int t1, .int t2, .int (nI tt4), .ref (x 4), .int (nI ln), .int t6, .int t7, .int t8, .int t9, .int t10])), ((x 4), .inl (cB, 300, .inl rt4))]) [0, 1, 2] (by decide) rfl
    exact W.iret (v := nI tt4) hx hb hr (fun t ht hW => ⟨⟨_, (tt4, rt4), rfl, Or.inr ⟨by omega, by rw [show tt4 = tt + 20 by omega], by omega, by rw [ert4, ert3, ert2, ert1, ert0, ett3, ett2, ett1, ett0]; rfl⟩, by rw [ht]; exact hP9, va_K.moved hW.alike hK, hD9⟩, hS.F ht⟩) hS.2.2 dX7_feed_67
  ·
    refine lv_iconst (v := (-1)) hx hb dX7_feed_16 (by decide) ?_
    have hP9 := hP.sub (ws' := [((x 0), .inr (7, [.ref (x 1), .ref (x 5), .ref (x 7), .ref (x 10), .ref (x 17), .ref (x 22), .ref (x 27), .int yr])), ((x 1), .inr (4, [.ref (x 2), .int t1, .int t2, .int (nI tt), .ref (x 4), .int (nI ln), .int t6, .int t7, .int t8, .int t9, .int t10])), ((x 4), .inl (cB, 300, .inl rt))]) [0, 1, 2] rfl
    have hD9 := hD.sub (ws' := [((x 0), .inr (7, [.ref (x 1), .ref (x 5), .ref (x 7), .ref (x 10), .ref (x 17), .ref (x 22), .ref (x 27), .int yr])), ((x 1), .inr (4, [.ref (x 2), .int t1, .int t2, .int (nI tt), .ref (x 4), .int (nI ln), .int t6, .int t7, .int t8, .int t9, .int t10])), ((x 4), .inl (cB, 300, .inl rt))]) [0, 1, 2] (by decide) rfl
    exact W.iret (v := (-1)) hx hb hr (fun t ht hW => ⟨⟨_, (tt, rt), rfl, Or.inl ⟨by have h9 := nI_gtc 300 (by omega) (by decide) c_13; omega, rfl, rfl, rfl⟩, by rw [ht]; exact hP9, va_K.moved hW.alike hK, hD9⟩, hS.F ht⟩) hS.2.2 dX7_feed_17

set_option maxHeartbeats 4000000 in
set_option maxRecDepth 100000 in
theorem f_X8_feed (l : Launch) (D : va_G) (cB cI cJ cZ : ClassId) (sz : Nat) (y : Nat → Nat) (m_tapeSize m_givers m_children m_coats m_legacies m_insideMany : Nat) (m_thrown m_cycleMany m_vote m_low m_high m_wear m_spare m_places m_cycleNext m_fault m_faultPlace m_giverNext m_years m_end m_next m_kind m_which m_place m_read m_readMany m_readHigh : Int32) (m_tape : Nat → Int32) (v1 v2 v3 v4 v5 : Int32) (b_tapeSize : m_tapeSize ≤ 300) : Met l yX8_feed wsX8_feed ({ frames := 0, cells := 0, slots := 0, locals := 0 } : Room) (cPre D (aTy cB cI cJ cZ) [((y 0), .inr (8, [.ref (y 1), .int (nI m_tapeSize), .int m_thrown, .ref (y 2), .int m_cycleMany, .int m_vote, .int m_low, .int m_high, .int m_wear, .int m_spare, .int m_places, .int m_cycleNext, .int m_fault, .int m_faultPlace, .int (nI m_givers), .ref (y 3), .ref (y 4), .int m_giverNext, .int (nI m_children), .ref (y 5), .ref (y 6), .ref (y 7), .ref (y 8), .ref (y 9), .int (nI m_coats), .ref (y 10), .ref (y 11), .ref (y 12), .ref (y 13), .int m_years, .int (nI m_legacies), .ref (y 14), .ref (y 15), .ref (y 16), .ref (y 17), .int m_end, .int m_next, .int m_kind, .int m_which, .int m_place, .int m_read, .ref (y 18), .ref (y 19), .int m_readMany, .int m_readHigh, .ref (y 20), .int (nI m_insideMany), .ref (y 21), .ref (y 22), .ref (y 23), .ref (y 24), .ref (y 25)])), ((y 1), .inl (cI, 300, .inl m_tape))] sz [.ref (y 0), .int v1, .int v2, .int v3, .int v4, .int v5]) (va_Qi (fun (r : Int32) (u : Int32 × Nat × (Nat → Int32)) => fdP m_tape m_tapeSize v1 v2 v3 v4 v5 r u.2.1 u.2.2) (cB_ D (aTy cB cI cJ cZ) (va_A [((y 0), .inr (8, [.ref (y 1), .int (nI m_tapeSize), .int m_thrown, .ref (y 2), .int m_cycleMany, .int m_vote, .int m_low, .int m_high, .int m_wear, .int m_spare, .int m_places, .int m_cycleNext, .int m_fault, .int m_faultPlace, .int (nI m_givers), .ref (y 3), .ref (y 4), .int m_giverNext, .int (nI m_children), .ref (y 5), .ref (y 6), .ref (y 7), .ref (y 8), .ref (y 9), .int (nI m_coats), .ref (y 10), .ref (y 11), .ref (y 12), .ref (y 13), .int m_years, .int (nI m_legacies), .ref (y 14), .ref (y 15), .ref (y 16), .ref (y 17), .int m_end, .int m_next, .int m_kind, .int m_which, .int m_place, .int m_read, .ref (y 18), .ref (y 19), .int m_readMany, .int m_readHigh, .ref (y 20), .int (nI m_insideMany), .ref (y 21), .ref (y 22), .ref (y 23), .ref (y 24), .ref (y 25)])), ((y 1), .inl (cI, 300, .inl m_tape))] sz) (fun u => [((y 0), .inr (8, [.ref (y 1), .int (nI (u.2.1)), .int (u.1), .ref (y 2), .int m_cycleMany, .int m_vote, .int m_low, .int m_high, .int m_wear, .int m_spare, .int m_places, .int m_cycleNext, .int m_fault, .int m_faultPlace, .int (nI m_givers), .ref (y 3), .ref (y 4), .int m_giverNext, .int (nI m_children), .ref (y 5), .ref (y 6), .ref (y 7), .ref (y 8), .ref (y 9), .int (nI m_coats), .ref (y 10), .ref (y 11), .ref (y 12), .ref (y 13), .int m_years, .int (nI m_legacies), .ref (y 14), .ref (y 15), .ref (y 16), .ref (y 17), .int m_end, .int m_next, .int m_kind, .int m_which, .int m_place, .int m_read, .ref (y 18), .ref (y 19), .int m_readMany, .int m_readHigh, .ref (y 20), .int (nI m_insideMany), .ref (y 21), .ref (y 22), .ref (y 23), .ref (y 24), .ref (y 25)])), ((y 1), .inl (cI, 300, .inl u.2.2))])) (va_A [((y 0), .inr (8, [.ref (y 1), .int (nI m_tapeSize), .int m_thrown, .ref (y 2), .int m_cycleMany, .int m_vote, .int m_low, .int m_high, .int m_wear, .int m_spare, .int m_places, .int m_cycleNext, .int m_fault, .int m_faultPlace, .int (nI m_givers), .ref (y 3), .ref (y 4), .int m_giverNext, .int (nI m_children), .ref (y 5), .ref (y 6), .ref (y 7), .ref (y 8), .ref (y 9), .int (nI m_coats), .ref (y 10), .ref (y 11), .ref (y 12), .ref (y 13), .int m_years, .int (nI m_legacies), .ref (y 14), .ref (y 15), .ref (y 16), .ref (y 17), .int m_end, .int m_next, .int m_kind, .int m_which, .int m_place, .int m_read, .ref (y 18), .ref (y 19), .int m_readMany, .int m_readHigh, .ref (y 20), .int (nI m_insideMany), .ref (y 21), .ref (y 22), .ref (y 23), .ref (y 24), .ref (y 25)])), ((y 1), .inl (cI, 300, .inl m_tape))] sz)) 0 0 (va_A [((y 0), .inr (8, [.ref (y 1), .int (nI m_tapeSize), .int m_thrown, .ref (y 2), .int m_cycleMany, .int m_vote, .int m_low, .int m_high, .int m_wear, .int m_spare, .int m_places, .int m_cycleNext, .int m_fault, .int m_faultPlace, .int (nI m_givers), .ref (y 3), .ref (y 4), .int m_giverNext, .int (nI m_children), .ref (y 5), .ref (y 6), .ref (y 7), .ref (y 8), .ref (y 9), .int (nI m_coats), .ref (y 10), .ref (y 11), .ref (y 12), .ref (y 13), .int m_years, .int (nI m_legacies), .ref (y 14), .ref (y 15), .ref (y 16), .ref (y 17), .int m_end, .int m_next, .int m_kind, .int m_which, .int m_place, .int m_read, .ref (y 18), .ref (y 19), .int m_readMany, .int m_readHigh, .ref (y 20), .int (nI m_insideMany), .ref (y 21), .ref (y 22), .ref (y 23), .ref (y 24), .ref (y 25)])), ((y 1), .inl (cI, 300, .inl m_tape))] sz) := by
  refine Met.ofW (cc := cX8_feed) (maxL := 8) (ret := (some .int)) (by decide) rfl ?_
  intro p e s m args below meth c s₁ B hml hv
  obtain ⟨rfl, hsz, hP, hK, hD0⟩ := hv
  have hx := B.exec
  have hb := B.bytes
  have hr := B.returns
  have hts := atoms_spec (ws := wsX8_feed) B.pre
  have hown : s.vm.findClass RX8 = some m.cls := findClass_of_methodNamed B.named
  have hlocks := B.notSynchronized
  subst hsz
  have hD := hD0.self (sz := s.heap.size)
  generalize hAe : va_A [((y 0), .inr (8, [.ref (y 1), .int (nI m_tapeSize), .int m_thrown, .ref (y 2), .int m_cycleMany, .int m_vote, .int m_low, .int m_high, .int m_wear, .int m_spare, .int m_places, .int m_cycleNext, .int m_fault, .int m_faultPlace, .int (nI m_givers), .ref (y 3), .ref (y 4), .int m_giverNext, .int (nI m_children), .ref (y 5), .ref (y 6), .ref (y 7), .ref (y 8), .ref (y 9), .int (nI m_coats), .ref (y 10), .ref (y 11), .ref (y 12), .ref (y 13), .int m_years, .int (nI m_legacies), .ref (y 14), .ref (y 15), .ref (y 16), .ref (y 17), .int m_end, .int m_next, .int m_kind, .int m_which, .int m_place, .int m_read, .ref (y 18), .ref (y 19), .int m_readMany, .int m_readHigh, .ref (y 20), .int (nI m_insideMany), .ref (y 21), .ref (y 22), .ref (y 23), .ref (y 24), .ref (y 25)])), ((y 1), .inl (cI, 300, .inl m_tape))] s.heap.size = A at hD ⊢
  have hA : ∀ q : Nat, s.heap.size ≤ q → A q := fun q h => by rw [← hAe]; exact Or.inr h
  have hS : va_S A s.heap s.heap [] := va_S.rf
  have hP : va_P D vwCl [((y 0), .inr (8, [.ref (y 1), .int (nI m_tapeSize), .int m_thrown, .ref (y 2), .int m_cycleMany, .int m_vote, .int m_low, .int m_high, .int m_wear, .int m_spare, .int m_places, .int m_cycleNext, .int m_fault, .int m_faultPlace, .int (nI m_givers), .ref (y 3), .ref (y 4), .int m_giverNext, .int (nI m_children), .ref (y 5), .ref (y 6), .ref (y 7), .ref (y 8), .ref (y 9), .int (nI m_coats), .ref (y 10), .ref (y 11), .ref (y 12), .ref (y 13), .int m_years, .int (nI m_legacies), .ref (y 14), .ref (y 15), .ref (y 16), .ref (y 17), .int m_end, .int m_next, .int m_kind, .int m_which, .int m_place, .int m_read, .ref (y 18), .ref (y 19), .int m_readMany, .int m_readHigh, .ref (y 20), .int (nI m_insideMany), .ref (y 21), .ref (y 22), .ref (y 23), .ref (y 24), .ref (y 25)])), ((y 1), .inl (cI, 300, .inl m_tape))] s.heap := hP
  have w_1 : ∀ w ∈ wsX80, w ∈ wsX8_feed := by decide +kernel
  have w_2 := hts (Cond.fieldLink RX8 112 "BlueCoatsModel" "thrown" "I") (by decide +kernel)
  have w_3 := hts (Cond.fieldLink RX8 115 "BlueCoatsModel" "tapeSize" "I") (by decide +kernel)
  have w_4 := hts (Cond.fieldLink RX8 7 "BlueCoatsModel" "tape" "[I") (by decide +kernel)
  have hl := lv_entry ([.ref (y 0), .int v1, .int v2, .int v3, .int v4, .int v5]) (n := 8) (Nat.le_of_ble_eq_true rfl)
  rw [lg_entry_eq]
  generalize (lg_sl ([.ref (y 0), .int v1, .int v2, .int v3, .int v4, .int v5]) ++ List.replicate (8 - (lg_sl ([.ref (y 0), .int v1, .int v2, .int v3, .int v4, .int v5])).length) Slot.unset).toArray = ls at hl ⊢
  have hl : lv_has ls 8 [(0, .ref (y 0)), (1, .int v1), (2, .int v2), (3, .int v3), (4, .int v4), (5, .int v5)] := hl
  refine lv_aload_n hx hb dX8_feed_0 rfl (lv_at hl 0 rfl) ?_
  refine lv_iconst (v := 0) hx hb dX8_feed_1 (by decide) ?_
  refine va_put (D := D) (ci := 8) (v := .int 0) (ty := .int) (C := RX8) (T := TX8) (N := 52) hx hb hts w_1 tyX8 tyX8_ok nmX8 hown hK hP hD hS 0 rfl rfl 2 (by decide) w_2 (fun _ h9 => h9) rfl (by decide +kernel) rfl rfl (Nat.le_of_ble_eq_true rfl) dX8_feed_2 (fun H locs hP hD hS => ?_)
  have hP : va_P D vwCl [((y 0), .inr (8, [.ref (y 1), .int (nI m_tapeSize), .int 0, .ref (y 2), .int m_cycleMany, .int m_vote, .int m_low, .int m_high, .int m_wear, .int m_spare, .int m_places, .int m_cycleNext, .int m_fault, .int m_faultPlace, .int (nI m_givers), .ref (y 3), .ref (y 4), .int m_giverNext, .int (nI m_children), .ref (y 5), .ref (y 6), .ref (y 7), .ref (y 8), .ref (y 9), .int (nI m_coats), .ref (y 10), .ref (y 11), .ref (y 12), .ref (y 13), .int m_years, .int (nI m_legacies), .ref (y 14), .ref (y 15), .ref (y 16), .ref (y 17), .int m_end, .int m_next, .int m_kind, .int m_which, .int m_place, .int m_read, .ref (y 18), .ref (y 19), .int m_readMany, .int m_readHigh, .ref (y 20), .int (nI m_insideMany), .ref (y 21), .ref (y 22), .ref (y 23), .ref (y 24), .ref (y 25)])), ((y 1), .inl (cI, 300, .inl m_tape))] H := hP
  have hD : va_D A [((y 0), .inr (8, [.ref (y 1), .int (nI m_tapeSize), .int 0, .ref (y 2), .int m_cycleMany, .int m_vote, .int m_low, .int m_high, .int m_wear, .int m_spare, .int m_places, .int m_cycleNext, .int m_fault, .int m_faultPlace, .int (nI m_givers), .ref (y 3), .ref (y 4), .int m_giverNext, .int (nI m_children), .ref (y 5), .ref (y 6), .ref (y 7), .ref (y 8), .ref (y 9), .int (nI m_coats), .ref (y 10), .ref (y 11), .ref (y 12), .ref (y 13), .int m_years, .int (nI m_legacies), .ref (y 14), .ref (y 15), .ref (y 16), .ref (y 17), .int m_end, .int m_next, .int m_kind, .int m_which, .int m_place, .int m_read, .ref (y 18), .ref (y 19), .int m_readMany, .int m_readHigh, .ref (y 20), .int (nI m_insideMany), .ref (y 21), .ref (y 22), .ref (y 23), .ref (y 24), .ref (y 25)])), ((y 1), .inl (cI, 300, .inl m_tape))] := hD
  refine lv_aload_n hx hb dX8_feed_5 rfl (lv_at hl 0 rfl) ?_
  refine va_get (D := D) (ci := 8) (v := .int (nI m_tapeSize)) (C := RX8) (T := TX8) (N := 52) hx hb hts w_1 hown hK hP 0 rfl rfl 1 (by decide) w_3 (fun _ h9 => h9) rfl dX8_feed_6 ?_
  refine lv_bipush (v := 20) hx hb dX8_feed_9 (by decide) ?_
  refine sv_iadd (v := nI (m_tapeSize + 20)) hx hb dX8_feed_11 (nI_add m_tapeSize 20) ?_
  refine lv_sipush (v := 300) hx hb dX8_feed_12 (by decide) ?_
  refine lv_icmp_le (tgt := 20) hx hb dX8_feed_15 (by decide) (fun c_15 => ?_) (fun c_15 => ?_)
  ·
    have h15 : m_tapeSize + 20 ≤ 300 := nI_lec 300 (by omega) (by decide) c_15
    refine lv_iconst (v := 0) hx hb dX8_feed_20 (by decide) ?_
    refine lv_istore (lv' := [(6, .int 0), (0, .ref (y 0)), (1, .int v1), (2, .int v2), (3, .int v3), (4, .int v4), (5, .int v5)]) hx hb dX8_feed_21 hl (by decide) rfl (fun ls hl => ?_)
    refine lv_iload hx hb dX8_feed_23 (lv_at hl 0 rfl) ?_
    refine lv_bipush (v := 20) hx hb dX8_feed_25 (by decide) ?_
    refine lv_icmp_ge (tgt := 113) hx hb dX8_feed_27 (by decide) (fun h => absurd h (by decide)) (fun _ => ?_)
    refine lv_iload hx hb dX8_feed_30 (lv_at hl 0 rfl) ?_
    refine lv_iconst (v := 4) hx hb dX8_feed_32 (by decide) ?_
    refine lv_icmp_ge (tgt := 40) hx hb dX8_feed_33 (by decide) (fun h => absurd h (by decide)) (fun _ => ?_)
    refine lv_iload_n hx hb dX8_feed_36 rfl (lv_at hl 2 rfl) ?_
    refine lv_goto (tgt := 76) hx hb dX8_feed_37 (by decide) ?_
    refine lv_istore (lv' := [(7, .int v1), (6, .int 0), (0, .ref (y 0)), (1, .int v1), (2, .int v2), (3, .int v3), (4, .int v4), (5, .int v5)]) hx hb dX8_feed_76 hl (by decide) rfl (fun ls hl => ?_)
    refine lv_aload_n hx hb dX8_feed_78 rfl (lv_at hl 2 rfl) ?_
    refine va_get (D := D) (ci := 8) (v := .ref (y 1)) (C := RX8) (T := TX8) (N := 52) hx hb hts w_1 hown hK hP 0 rfl rfl 0 (by decide) w_4 (fun _ h9 => h9) rfl dX8_feed_79 ?_
    refine lv_aload_n hx hb dX8_feed_82 rfl (lv_at hl 2 rfl) ?_
    refine va_get (D := D) (ci := 8) (v := .int (nI m_tapeSize)) (C := RX8) (T := TX8) (N := 52) hx hb hts w_1 hown hK hP 0 rfl rfl 1 (by decide) w_3 (fun _ h9 => h9) rfl dX8_feed_83 ?_
    refine lv_iload hx hb dX8_feed_86 (lv_at hl 1 rfl) ?_
    refine sv_iadd (v := nI (m_tapeSize + 0)) hx hb dX8_feed_88 (ax_add m_tapeSize 0) ?_
    refine lv_iload hx hb dX8_feed_89 (lv_at hl 0 rfl) ?_
    refine lv_bipush (v := 24) hx hb dX8_feed_91 (by decide) ?_
    refine lv_bipush (v := 8) hx hb dX8_feed_93 (by decide) ?_
    refine lv_iload hx hb dX8_feed_95 (lv_at hl 1 rfl) ?_
    refine lv_iconst (v := 4) hx hb dX8_feed_97 (by decide) ?_
    refine sv_irem (v := 0) hx hb dX8_feed_98 (by decide) (by decide) ?_
    refine sv_imul (v := 0) hx hb dX8_feed_99 (by decide) ?_
    refine sv_isub (v := 24) hx hb dX8_feed_100 (by decide) ?_
    refine sv_ishr (v := v1 >>> (nI 24 &&& 31)) hx hb dX8_feed_101 rfl ?_
    refine lv_sipush (v := 255) hx hb dX8_feed_102 (by decide) ?_
    refine sv_iand (v := (v1 >>> (nI 24 &&& 31)) &&& 255) hx hb dX8_feed_105 rfl ?_
    refine sv_iast hx hb hK hP hD hS 1 1 rfl rfl (vp_in_nI (by omega) (by decide)) dX8_feed_106 (fun g_1 H locs eg_1 hP hD hS => ?_)
    have eg_1 : g_1 = upd m_tape (m_tapeSize + 0) ((v1 >>> (nI 24 &&& 31)) &&& 255) := ist eg_1 (by omega)
    subst eg_1
    have hP : va_P D vwCl [((y 0), .inr (8, [.ref (y 1), .int (nI m_tapeSize), .int 0, .ref (y 2), .int m_cycleMany, .int m_vote, .int m_low, .int m_high, .int m_wear, .int m_spare, .int m_places, .int m_cycleNext, .int m_fault, .int m_faultPlace, .int (nI m_givers), .ref (y 3), .ref (y 4), .int m_giverNext, .int (nI m_children), .ref (y 5), .ref (y 6), .ref (y 7), .ref (y 8), .ref (y 9), .int (nI m_coats), .ref (y 10), .ref (y 11), .ref (y 12), .ref (y 13), .int m_years, .int (nI m_legacies), .ref (y 14), .ref (y 15), .ref (y 16), .ref (y 17), .int m_end, .int m_next, .int m_kind, .int m_which, .int m_place, .int m_read, .ref (y 18), .ref (y 19), .int m_readMany, .int m_readHigh, .ref (y 20), .int (nI m_insideMany), .ref (y 21), .ref (y 22), .ref (y 23), .ref (y 24), .ref (y 25)])), ((y 1), .inl (cI, 300, .inl (upd m_tape (m_tapeSize + 0) ((v1 >>> (nI 24 &&& 31)) &&& 255))))] H := hP
    have hD : va_D A [((y 0), .inr (8, [.ref (y 1), .int (nI m_tapeSize), .int 0, .ref (y 2), .int m_cycleMany, .int m_vote, .int m_low, .int m_high, .int m_wear, .int m_spare, .int m_places, .int m_cycleNext, .int m_fault, .int m_faultPlace, .int (nI m_givers), .ref (y 3), .ref (y 4), .int m_giverNext, .int (nI m_children), .ref (y 5), .ref (y 6), .ref (y 7), .ref (y 8), .ref (y 9), .int (nI m_coats), .ref (y 10), .ref (y 11), .ref (y 12), .ref (y 13), .int m_years, .int (nI m_legacies), .ref (y 14), .ref (y 15), .ref (y 16), .ref (y 17), .int m_end, .int m_next, .int m_kind, .int m_which, .int m_place, .int m_read, .ref (y 18), .ref (y 19), .int m_readMany, .int m_readHigh, .ref (y 20), .int (nI m_insideMany), .ref (y 21), .ref (y 22), .ref (y 23), .ref (y 24), .ref (y 25)])), ((y 1), .inl (cI, 300, .inl (upd m_tape (m_tapeSize + 0) ((v1 >>> (nI 24 &&& 31)) &&& 255))))] := hD
    refine lv_iinc (v := 1) (lv' := [(6, .int 1), (7, .int v1), (0, .ref (y 0)), (1, .int v1), (2, .int v2), (3, .int v3), (4, .int v4), (5, .int v5)]) hx hb dX8_feed_107 hl (k := 1) rfl (by decide) (by decide) rfl (fun ls hl => ?_)
    refine lv_goto (tgt := 23) hx hb dX8_feed_110 (by decide) ?_
    refine lv_iload hx hb dX8_feed_23 (lv_at hl 0 rfl) ?_
    refine lv_bipush (v := 20) hx hb dX8_feed_25 (by decide) ?_
    refine lv_icmp_ge (tgt := 113) hx hb dX8_feed_27 (by decide) (fun h => absurd h (by decide)) (fun _ => ?_)
    refine lv_iload hx hb dX8_feed_30 (lv_at hl 0 rfl) ?_
    refine lv_iconst (v := 4) hx hb dX8_feed_32 (by decide) ?_
    refine lv_icmp_ge (tgt := 40) hx hb dX8_feed_33 (by decide) (fun h => absurd h (by decide)) (fun _ => ?_)
    refine lv_iload_n hx hb dX8_feed_36 rfl (lv_at hl 3 rfl) ?_
    refine lv_goto (tgt := 76) hx hb dX8_feed_37 (by decide) ?_
    refine lv_istore (lv' := [(7, .int v1), (6, .int 1), (0, .ref (y 0)), (1, .int v1), (2, .int v2), (3, .int v3), (4, .int v4), (5, .int v5)]) hx hb dX8_feed_76 hl (by decide) rfl (fun ls hl => ?_)
    refine lv_aload_n hx hb dX8_feed_78 rfl (lv_at hl 2 rfl) ?_
    refine va_get (D := D) (ci := 8) (v := .ref (y 1)) (C := RX8) (T := TX8) (N := 52) hx hb hts w_1 hown hK hP 0 rfl rfl 0 (by decide) w_4 (fun _ h9 => h9) rfl dX8_feed_79 ?_
    refine lv_aload_n hx hb dX8_feed_82 rfl (lv_at hl 2 rfl) ?_
    refine va_get (D := D) (ci := 8) (v := .int (nI m_tapeSize)) (C := RX8) (T := TX8) (N := 52) hx hb hts w_1 hown hK hP 0 rfl rfl 1 (by decide) w_3 (fun _ h9 => h9) rfl dX8_feed_83 ?_
    refine lv_iload hx hb dX8_feed_86 (lv_at hl 1 rfl) ?_
    refine sv_iadd (v := nI (m_tapeSize + 1)) hx hb dX8_feed_88 (ax_add m_tapeSize 1) ?_
    refine lv_iload hx hb dX8_feed_89 (lv_at hl 0 rfl) ?_
    refine lv_bipush (v := 24) hx hb dX8_feed_91 (by decide) ?_
    refine lv_bipush (v := 8) hx hb dX8_feed_93 (by decide) ?_
    refine lv_iload hx hb dX8_feed_95 (lv_at hl 1 rfl) ?_
    refine lv_iconst (v := 4) hx hb dX8_feed_97 (by decide) ?_
    refine sv_irem (v := 1) hx hb dX8_feed_98 (by decide) (by decide) ?_
    refine sv_imul (v := 8) hx hb dX8_feed_99 (by decide) ?_
    refine sv_isub (v := 16) hx hb dX8_feed_100 (by decide) ?_
    refine sv_ishr (v := v1 >>> (nI 16 &&& 31)) hx hb dX8_feed_101 rfl ?_
    refine lv_sipush (v := 255) hx hb dX8_feed_102 (by decide) ?_
    refine sv_iand (v := (v1 >>> (nI 16 &&& 31)) &&& 255) hx hb dX8_feed_105 rfl ?_
    refine sv_iast hx hb hK hP hD hS 1 1 rfl rfl (vp_in_nI (by omega) (by decide)) dX8_feed_106 (fun g_2 H locs eg_2 hP hD hS => ?_)
    have eg_2 : g_2 = upd (upd m_tape (m_tapeSize + 0) ((v1 >>> (nI 24 &&& 31)) &&& 255)) (m_tapeSize + 1) ((v1 >>> (nI 16 &&& 31)) &&& 255) := ist eg_2 (by omega)
    subst eg_2
    have hP : va_P D vwCl [((y 0), .inr (8, [.ref (y 1), .int (nI m_tapeSize), .int 0, .ref (y 2), .int m_cycleMany, .int m_vote, .int m_low, .int m_high, .int m_wear, .int m_spare, .int m_places, .int m_cycleNext, .int m_fault, .int m_faultPlace, .int (nI m_givers), .ref (y 3), .ref (y 4), .int m_giverNext, .int (nI m_children), .ref (y 5), .ref (y 6), .ref (y 7), .ref (y 8), .ref (y 9), .int (nI m_coats), .ref (y 10), .ref (y 11), .ref (y 12), .ref (y 13), .int m_years, .int (nI m_legacies), .ref (y 14), .ref (y 15), .ref (y 16), .ref (y 17), .int m_end, .int m_next, .int m_kind, .int m_which, .int m_place, .int m_read, .ref (y 18), .ref (y 19), .int m_readMany, .int m_readHigh, .ref (y 20), .int (nI m_insideMany), .ref (y 21), .ref (y 22), .ref (y 23), .ref (y 24), .ref (y 25)])), ((y 1), .inl (cI, 300, .inl (upd (upd m_tape (m_tapeSize + 0) ((v1 >>> (nI 24 &&& 31)) &&& 255)) (m_tapeSize + 1) ((v1 >>> (nI 16 &&& 31)) &&& 255))))] H := hP
    have hD : va_D A [((y 0), .inr (8, [.ref (y 1), .int (nI m_tapeSize), .int 0, .ref (y 2), .int m_cycleMany, .int m_vote, .int m_low, .int m_high, .int m_wear, .int m_spare, .int m_places, .int m_cycleNext, .int m_fault, .int m_faultPlace, .int (nI m_givers), .ref (y 3), .ref (y 4), .int m_giverNext, .int (nI m_children), .ref (y 5), .ref (y 6), .ref (y 7), .ref (y 8), .ref (y 9), .int (nI m_coats), .ref (y 10), .ref (y 11), .ref (y 12), .ref (y 13), .int m_years, .int (nI m_legacies), .ref (y 14), .ref (y 15), .ref (y 16), .ref (y 17), .int m_end, .int m_next, .int m_kind, .int m_which, .int m_place, .int m_read, .ref (y 18), .ref (y 19), .int m_readMany, .int m_readHigh, .ref (y 20), .int (nI m_insideMany), .ref (y 21), .ref (y 22), .ref (y 23), .ref (y 24), .ref (y 25)])), ((y 1), .inl (cI, 300, .inl (upd (upd m_tape (m_tapeSize + 0) ((v1 >>> (nI 24 &&& 31)) &&& 255)) (m_tapeSize + 1) ((v1 >>> (nI 16 &&& 31)) &&& 255))))] := hD
    refine lv_iinc (v := 2) (lv' := [(6, .int 2), (7, .int v1), (0, .ref (y 0)), (1, .int v1), (2, .int v2), (3, .int v3), (4, .int v4), (5, .int v5)]) hx hb dX8_feed_107 hl (k := 1) rfl (by decide) (by decide) rfl (fun ls hl => ?_)
    refine lv_goto (tgt := 23) hx hb dX8_feed_110 (by decide) ?_
    refine lv_iload hx hb dX8_feed_23 (lv_at hl 0 rfl) ?_
    refine lv_bipush (v := 20) hx hb dX8_feed_25 (by decide) ?_
    refine lv_icmp_ge (tgt := 113) hx hb dX8_feed_27 (by decide) (fun h => absurd h (by decide)) (fun _ => ?_)
    refine lv_iload hx hb dX8_feed_30 (lv_at hl 0 rfl) ?_
    refine lv_iconst (v := 4) hx hb dX8_feed_32 (by decide) ?_
    refine lv_icmp_ge (tgt := 40) hx hb dX8_feed_33 (by decide) (fun h => absurd h (by decide)) (fun _ => ?_)
    refine lv_iload_n hx hb dX8_feed_36 rfl (lv_at hl 3 rfl) ?_
    refine lv_goto (tgt := 76) hx hb dX8_feed_37 (by decide) ?_
    refine lv_istore (lv' := [(7, .int v1), (6, .int 2), (0, .ref (y 0)), (1, .int v1), (2, .int v2), (3, .int v3), (4, .int v4), (5, .int v5)]) hx hb dX8_feed_76 hl (by decide) rfl (fun ls hl => ?_)
    refine lv_aload_n hx hb dX8_feed_78 rfl (lv_at hl 2 rfl) ?_
    refine va_get (D := D) (ci := 8) (v := .ref (y 1)) (C := RX8) (T := TX8) (N := 52) hx hb hts w_1 hown hK hP 0 rfl rfl 0 (by decide) w_4 (fun _ h9 => h9) rfl dX8_feed_79 ?_
    refine lv_aload_n hx hb dX8_feed_82 rfl (lv_at hl 2 rfl) ?_
    refine va_get (D := D) (ci := 8) (v := .int (nI m_tapeSize)) (C := RX8) (T := TX8) (N := 52) hx hb hts w_1 hown hK hP 0 rfl rfl 1 (by decide) w_3 (fun _ h9 => h9) rfl dX8_feed_83 ?_
    refine lv_iload hx hb dX8_feed_86 (lv_at hl 1 rfl) ?_
    refine sv_iadd (v := nI (m_tapeSize + 2)) hx hb dX8_feed_88 (ax_add m_tapeSize 2) ?_
    refine lv_iload hx hb dX8_feed_89 (lv_at hl 0 rfl) ?_
    refine lv_bipush (v := 24) hx hb dX8_feed_91 (by decide) ?_
    refine lv_bipush (v := 8) hx hb dX8_feed_93 (by decide) ?_
    refine lv_iload hx hb dX8_feed_95 (lv_at hl 1 rfl) ?_
    refine lv_iconst (v := 4) hx hb dX8_feed_97 (by decide) ?_
    refine sv_irem (v := 2) hx hb dX8_feed_98 (by decide) (by decide) ?_
    refine sv_imul (v := 16) hx hb dX8_feed_99 (by decide) ?_
    refine sv_isub (v := 8) hx hb dX8_feed_100 (by decide) ?_
    refine sv_ishr (v := v1 >>> (nI 8 &&& 31)) hx hb dX8_feed_101 rfl ?_
    refine lv_sipush (v := 255) hx hb dX8_feed_102 (by decide) ?_
    refine sv_iand (v := (v1 >>> (nI 8 &&& 31)) &&& 255) hx hb dX8_feed_105 rfl ?_
    refine sv_iast hx hb hK hP hD hS 1 1 rfl rfl (vp_in_nI (by omega) (by decide)) dX8_feed_106 (fun g_3 H locs eg_3 hP hD hS => ?_)
    have eg_3 : g_3 = upd (upd (upd m_tape (m_tapeSize + 0) ((v1 >>> (nI 24 &&& 31)) &&& 255)) (m_tapeSize + 1) ((v1 >>> (nI 16 &&& 31)) &&& 255)) (m_tapeSize + 2) ((v1 >>> (nI 8 &&& 31)) &&& 255) := ist eg_3 (by omega)
    subst eg_3
    have hP : va_P D vwCl [((y 0), .inr (8, [.ref (y 1), .int (nI m_tapeSize), .int 0, .ref (y 2), .int m_cycleMany, .int m_vote, .int m_low, .int m_high, .int m_wear, .int m_spare, .int m_places, .int m_cycleNext, .int m_fault, .int m_faultPlace, .int (nI m_givers), .ref (y 3), .ref (y 4), .int m_giverNext, .int (nI m_children), .ref (y 5), .ref (y 6), .ref (y 7), .ref (y 8), .ref (y 9), .int (nI m_coats), .ref (y 10), .ref (y 11), .ref (y 12), .ref (y 13), .int m_years, .int (nI m_legacies), .ref (y 14), .ref (y 15), .ref (y 16), .ref (y 17), .int m_end, .int m_next, .int m_kind, .int m_which, .int m_place, .int m_read, .ref (y 18), .ref (y 19), .int m_readMany, .int m_readHigh, .ref (y 20), .int (nI m_insideMany), .ref (y 21), .ref (y 22), .ref (y 23), .ref (y 24), .ref (y 25)])), ((y 1), .inl (cI, 300, .inl (upd (upd (upd m_tape (m_tapeSize + 0) ((v1 >>> (nI 24 &&& 31)) &&& 255)) (m_tapeSize + 1) ((v1 >>> (nI 16 &&& 31)) &&& 255)) (m_tapeSize + 2) ((v1 >>> (nI 8 &&& 31)) &&& 255))))] H := hP
    have hD : va_D A [((y 0), .inr (8, [.ref (y 1), .int (nI m_tapeSize), .int 0, .ref (y 2), .int m_cycleMany, .int m_vote, .int m_low, .int m_high, .int m_wear, .int m_spare, .int m_places, .int m_cycleNext, .int m_fault, .int m_faultPlace, .int (nI m_givers), .ref (y 3), .ref (y 4), .int m_giverNext, .int (nI m_children), .ref (y 5), .ref (y 6), .ref (y 7), .ref (y 8), .ref (y 9), .int (nI m_coats), .ref (y 10), .ref (y 11), .ref (y 12), .ref (y 13), .int m_years, .int (nI m_legacies), .ref (y 14), .ref (y 15), .ref (y 16), .ref (y 17), .int m_end, .int m_next, .int m_kind, .int m_which, .int m_place, .int m_read, .ref (y 18), .ref (y 19), .int m_readMany, .int m_readHigh, .ref (y 20), .int (nI m_insideMany), .ref (y 21), .ref (y 22), .ref (y 23), .ref (y 24), .ref (y 25)])), ((y 1), .inl (cI, 300, .inl (upd (upd (upd m_tape (m_tapeSize + 0) ((v1 >>> (nI 24 &&& 31)) &&& 255)) (m_tapeSize + 1) ((v1 >>> (nI 16 &&& 31)) &&& 255)) (m_tapeSize + 2) ((v1 >>> (nI 8 &&& 31)) &&& 255))))] := hD
    refine lv_iinc (v := 3) (lv' := [(6, .int 3), (7, .int v1), (0, .ref (y 0)), (1, .int v1), (2, .int v2), (3, .int v3), (4, .int v4), (5, .int v5)]) hx hb dX8_feed_107 hl (k := 1) rfl (by decide) (by decide) rfl (fun ls hl => ?_)
    refine lv_goto (tgt := 23) hx hb dX8_feed_110 (by decide) ?_
    refine lv_iload hx hb dX8_feed_23 (lv_at hl 0 rfl) ?_
    refine lv_bipush (v := 20) hx hb dX8_feed_25 (by decide) ?_
    refine lv_icmp_ge (tgt := 113) hx hb dX8_feed_27 (by decide) (fun h => absurd h (by decide)) (fun _ => ?_)
    refine lv_iload hx hb dX8_feed_30 (lv_at hl 0 rfl) ?_
    refine lv_iconst (v := 4) hx hb dX8_feed_32 (by decide) ?_
    refine lv_icmp_ge (tgt := 40) hx hb dX8_feed_33 (by decide) (fun h => absurd h (by decide)) (fun _ => ?_)
    refine lv_iload_n hx hb dX8_feed_36 rfl (lv_at hl 3 rfl) ?_
    refine lv_goto (tgt := 76) hx hb dX8_feed_37 (by decide) ?_
    refine lv_istore (lv' := [(7, .int v1), (6, .int 3), (0, .ref (y 0)), (1, .int v1), (2, .int v2), (3, .int v3), (4, .int v4), (5, .int v5)]) hx hb dX8_feed_76 hl (by decide) rfl (fun ls hl => ?_)
    refine lv_aload_n hx hb dX8_feed_78 rfl (lv_at hl 2 rfl) ?_
    refine va_get (D := D) (ci := 8) (v := .ref (y 1)) (C := RX8) (T := TX8) (N := 52) hx hb hts w_1 hown hK hP 0 rfl rfl 0 (by decide) w_4 (fun _ h9 => h9) rfl dX8_feed_79 ?_
    refine lv_aload_n hx hb dX8_feed_82 rfl (lv_at hl 2 rfl) ?_
    refine va_get (D := D) (ci := 8) (v := .int (nI m_tapeSize)) (C := RX8) (T := TX8) (N := 52) hx hb hts w_1 hown hK hP 0 rfl rfl 1 (by decide) w_3 (fun _ h9 => h9) rfl dX8_feed_83 ?_
    refine lv_iload hx hb dX8_feed_86 (lv_at hl 1 rfl) ?_
    refine sv_iadd (v := nI (m_tapeSize + 3)) hx hb dX8_feed_88 (ax_add m_tapeSize 3) ?_
    refine lv_iload hx hb dX8_feed_89 (lv_at hl 0 rfl) ?_
    refine lv_bipush (v := 24) hx hb dX8_feed_91 (by decide) ?_
    refine lv_bipush (v := 8) hx hb dX8_feed_93 (by decide) ?_
    refine lv_iload hx hb dX8_feed_95 (lv_at hl 1 rfl) ?_
    refine lv_iconst (v := 4) hx hb dX8_feed_97 (by decide) ?_
    refine sv_irem (v := 3) hx hb dX8_feed_98 (by decide) (by decide) ?_
    refine sv_imul (v := 24) hx hb dX8_feed_99 (by decide) ?_
    refine sv_isub (v := 0) hx hb dX8_feed_100 (by decide) ?_
    refine sv_ishr (v := v1 >>> (nI 0 &&& 31)) hx hb dX8_feed_101 rfl ?_
    refine lv_sipush (v := 255) hx hb dX8_feed_102 (by decide) ?_
    refine sv_iand (v := (v1 >>> (nI 0 &&& 31)) &&& 255) hx hb dX8_feed_105 rfl ?_
    refine sv_iast hx hb hK hP hD hS 1 1 rfl rfl (vp_in_nI (by omega) (by decide)) dX8_feed_106 (fun g_4 H locs eg_4 hP hD hS => ?_)
    have eg_4 : g_4 = upd (upd (upd (upd m_tape (m_tapeSize + 0) ((v1 >>> (nI 24 &&& 31)) &&& 255)) (m_tapeSize + 1) ((v1 >>> (nI 16 &&& 31)) &&& 255)) (m_tapeSize + 2) ((v1 >>> (nI 8 &&& 31)) &&& 255)) (m_tapeSize + 3) ((v1 >>> (nI 0 &&& 31)) &&& 255) := ist eg_4 (by omega)
    subst eg_4
    have hP : va_P D vwCl [((y 0), .inr (8, [.ref (y 1), .int (nI m_tapeSize), .int 0, .ref (y 2), .int m_cycleMany, .int m_vote, .int m_low, .int m_high, .int m_wear, .int m_spare, .int m_places, .int m_cycleNext, .int m_fault, .int m_faultPlace, .int (nI m_givers), .ref (y 3), .ref (y 4), .int m_giverNext, .int (nI m_children), .ref (y 5), .ref (y 6), .ref (y 7), .ref (y 8), .ref (y 9), .int (nI m_coats), .ref (y 10), .ref (y 11), .ref (y 12), .ref (y 13), .int m_years, .int (nI m_legacies), .ref (y 14), .ref (y 15), .ref (y 16), .ref (y 17), .int m_end, .int m_next, .int m_kind, .int m_which, .int m_place, .int m_read, .ref (y 18), .ref (y 19), .int m_readMany, .int m_readHigh, .ref (y 20), .int (nI m_insideMany), .ref (y 21), .ref (y 22), .ref (y 23), .ref (y 24), .ref (y 25)])), ((y 1), .inl (cI, 300, .inl (upd (upd (upd (upd m_tape (m_tapeSize + 0) ((v1 >>> (nI 24 &&& 31)) &&& 255)) (m_tapeSize + 1) ((v1 >>> (nI 16 &&& 31)) &&& 255)) (m_tapeSize + 2) ((v1 >>> (nI 8 &&& 31)) &&& 255)) (m_tapeSize + 3) ((v1 >>> (nI 0 &&& 31)) &&& 255))))] H := hP
    have hD : va_D A [((y 0), .inr (8, [.ref (y 1), .int (nI m_tapeSize), .int 0, .ref (y 2), .int m_cycleMany, .int m_vote, .int m_low, .int m_high, .int m_wear, .int m_spare, .int m_places, .int m_cycleNext, .int m_fault, .int m_faultPlace, .int (nI m_givers), .ref (y 3), .ref (y 4), .int m_giverNext, .int (nI m_children), .ref (y 5), .ref (y 6), .ref (y 7), .ref (y 8), .ref (y 9), .int (nI m_coats), .ref (y 10), .ref (y 11), .ref (y 12), .ref (y 13), .int m_years, .int (nI m_legacies), .ref (y 14), .ref (y 15), .ref (y 16), .ref (y 17), .int m_end, .int m_next, .int m_kind, .int m_which, .int m_place, .int m_read, .ref (y 18), .ref (y 19), .int m_readMany, .int m_readHigh, .ref (y 20), .int (nI m_insideMany), .ref (y 21), .ref (y 22), .ref (y 23), .ref (y 24), .ref (y 25)])), ((y 1), .inl (cI, 300, .inl (upd (upd (upd (upd m_tape (m_tapeSize + 0) ((v1 >>> (nI 24 &&& 31)) &&& 255)) (m_tapeSize + 1) ((v1 >>> (nI 16 &&& 31)) &&& 255)) (m_tapeSize + 2) ((v1 >>> (nI 8 &&& 31)) &&& 255)) (m_tapeSize + 3) ((v1 >>> (nI 0 &&& 31)) &&& 255))))] := hD
    refine lv_iinc (v := 4) (lv' := [(6, .int 4), (7, .int v1), (0, .ref (y 0)), (1, .int v1), (2, .int v2), (3, .int v3), (4, .int v4), (5, .int v5)]) hx hb dX8_feed_107 hl (k := 1) rfl (by decide) (by decide) rfl (fun ls hl => ?_)
    refine lv_goto (tgt := 23) hx hb dX8_feed_110 (by decide) ?_
    refine lv_iload hx hb dX8_feed_23 (lv_at hl 0 rfl) ?_
    refine lv_bipush (v := 20) hx hb dX8_feed_25 (by decide) ?_
    refine lv_icmp_ge (tgt := 113) hx hb dX8_feed_27 (by decide) (fun h => absurd h (by decide)) (fun _ => ?_)
    refine lv_iload hx hb dX8_feed_30 (lv_at hl 0 rfl) ?_
    refine lv_iconst (v := 4) hx hb dX8_feed_32 (by decide) ?_
    refine lv_icmp_ge (tgt := 40) hx hb dX8_feed_33 (by decide) (fun _ => ?_) (fun h => absurd (by decide) h)
    refine lv_iload hx hb dX8_feed_40 (lv_at hl 0 rfl) ?_
    refine lv_bipush (v := 8) hx hb dX8_feed_42 (by decide) ?_
    refine lv_icmp_ge (tgt := 51) hx hb dX8_feed_44 (by decide) (fun h => absurd h (by decide)) (fun _ => ?_)
    refine lv_iload_n hx hb dX8_feed_47 rfl (lv_at hl 4 rfl) ?_
    refine lv_goto (tgt := 76) hx hb dX8_feed_48 (by decide) ?_
    refine lv_istore (lv' := [(7, .int v2), (6, .int 4), (0, .ref (y 0)), (1, .int v1), (2, .int v2), (3, .int v3), (4, .int v4), (5, .int v5)]) hx hb dX8_feed_76 hl (by decide) rfl (fun ls hl => ?_)
    refine lv_aload_n hx hb dX8_feed_78 rfl (lv_at hl 2 rfl) ?_
    refine va_get (D := D) (ci := 8) (v := .ref (y 1)) (C := RX8) (T := TX8) (N := 52) hx hb hts w_1 hown hK hP 0 rfl rfl 0 (by decide) w_4 (fun _ h9 => h9) rfl dX8_feed_79 ?_
    refine lv_aload_n hx hb dX8_feed_82 rfl (lv_at hl 2 rfl) ?_
    refine va_get (D := D) (ci := 8) (v := .int (nI m_tapeSize)) (C := RX8) (T := TX8) (N := 52) hx hb hts w_1 hown hK hP 0 rfl rfl 1 (by decide) w_3 (fun _ h9 => h9) rfl dX8_feed_83 ?_
    refine lv_iload hx hb dX8_feed_86 (lv_at hl 1 rfl) ?_
    refine sv_iadd (v := nI (m_tapeSize + 4)) hx hb dX8_feed_88 (ax_add m_tapeSize 4) ?_
    refine lv_iload hx hb dX8_feed_89 (lv_at hl 0 rfl) ?_
    refine lv_bipush (v := 24) hx hb dX8_feed_91 (by decide) ?_
    refine lv_bipush (v := 8) hx hb dX8_feed_93 (by decide) ?_
    refine lv_iload hx hb dX8_feed_95 (lv_at hl 1 rfl) ?_
    refine lv_iconst (v := 4) hx hb dX8_feed_97 (by decide) ?_
    refine sv_irem (v := 0) hx hb dX8_feed_98 (by decide) (by decide) ?_
    refine sv_imul (v := 0) hx hb dX8_feed_99 (by decide) ?_
    refine sv_isub (v := 24) hx hb dX8_feed_100 (by decide) ?_
    refine sv_ishr (v := v2 >>> (nI 24 &&& 31)) hx hb dX8_feed_101 rfl ?_
    refine lv_sipush (v := 255) hx hb dX8_feed_102 (by decide) ?_
    refine sv_iand (v := (v2 >>> (nI 24 &&& 31)) &&& 255) hx hb dX8_feed_105 rfl ?_
    refine sv_iast hx hb hK hP hD hS 1 1 rfl rfl (vp_in_nI (by omega) (by decide)) dX8_feed_106 (fun g_5 H locs eg_5 hP hD hS => ?_)
    have eg_5 : g_5 = upd (upd (upd (upd (upd m_tape (m_tapeSize + 0) ((v1 >>> (nI 24 &&& 31)) &&& 255)) (m_tapeSize + 1) ((v1 >>> (nI 16 &&& 31)) &&& 255)) (m_tapeSize + 2) ((v1 >>> (nI 8 &&& 31)) &&& 255)) (m_tapeSize + 3) ((v1 >>> (nI 0 &&& 31)) &&& 255)) (m_tapeSize + 4) ((v2 >>> (nI 24 &&& 31)) &&& 255) := ist eg_5 (by omega)
    subst eg_5
    have hP : va_P D vwCl [((y 0), .inr (8, [.ref (y 1), .int (nI m_tapeSize), .int 0, .ref (y 2), .int m_cycleMany, .int m_vote, .int m_low, .int m_high, .int m_wear, .int m_spare, .int m_places, .int m_cycleNext, .int m_fault, .int m_faultPlace, .int (nI m_givers), .ref (y 3), .ref (y 4), .int m_giverNext, .int (nI m_children), .ref (y 5), .ref (y 6), .ref (y 7), .ref (y 8), .ref (y 9), .int (nI m_coats), .ref (y 10), .ref (y 11), .ref (y 12), .ref (y 13), .int m_years, .int (nI m_legacies), .ref (y 14), .ref (y 15), .ref (y 16), .ref (y 17), .int m_end, .int m_next, .int m_kind, .int m_which, .int m_place, .int m_read, .ref (y 18), .ref (y 19), .int m_readMany, .int m_readHigh, .ref (y 20), .int (nI m_insideMany), .ref (y 21), .ref (y 22), .ref (y 23), .ref (y 24), .ref (y 25)])), ((y 1), .inl (cI, 300, .inl (upd (upd (upd (upd (upd m_tape (m_tapeSize + 0) ((v1 >>> (nI 24 &&& 31)) &&& 255)) (m_tapeSize + 1) ((v1 >>> (nI 16 &&& 31)) &&& 255)) (m_tapeSize + 2) ((v1 >>> (nI 8 &&& 31)) &&& 255)) (m_tapeSize + 3) ((v1 >>> (nI 0 &&& 31)) &&& 255)) (m_tapeSize + 4) ((v2 >>> (nI 24 &&& 31)) &&& 255))))] H := hP
    have hD : va_D A [((y 0), .inr (8, [.ref (y 1), .int (nI m_tapeSize), .int 0, .ref (y 2), .int m_cycleMany, .int m_vote, .int m_low, .int m_high, .int m_wear, .int m_spare, .int m_places, .int m_cycleNext, .int m_fault, .int m_faultPlace, .int (nI m_givers), .ref (y 3), .ref (y 4), .int m_giverNext, .int (nI m_children), .ref (y 5), .ref (y 6), .ref (y 7), .ref (y 8), .ref (y 9), .int (nI m_coats), .ref (y 10), .ref (y 11), .ref (y 12), .ref (y 13), .int m_years, .int (nI m_legacies), .ref (y 14), .ref (y 15), .ref (y 16), .ref (y 17), .int m_end, .int m_next, .int m_kind, .int m_which, .int m_place, .int m_read, .ref (y 18), .ref (y 19), .int m_readMany, .int m_readHigh, .ref (y 20), .int (nI m_insideMany), .ref (y 21), .ref (y 22), .ref (y 23), .ref (y 24), .ref (y 25)])), ((y 1), .inl (cI, 300, .inl (upd (upd (upd (upd (upd m_tape (m_tapeSize + 0) ((v1 >>> (nI 24 &&& 31)) &&& 255)) (m_tapeSize + 1) ((v1 >>> (nI 16 &&& 31)) &&& 255)) (m_tapeSize + 2) ((v1 >>> (nI 8 &&& 31)) &&& 255)) (m_tapeSize + 3) ((v1 >>> (nI 0 &&& 31)) &&& 255)) (m_tapeSize + 4) ((v2 >>> (nI 24 &&& 31)) &&& 255))))] := hD
    refine lv_iinc (v := 5) (lv' := [(6, .int 5), (7, .int v2), (0, .ref (y 0)), (1, .int v1), (2, .int v2), (3, .int v3), (4, .int v4), (5, .int v5)]) hx hb dX8_feed_107 hl (k := 1) rfl (by decide) (by decide) rfl (fun ls hl => ?_)
    refine lv_goto (tgt := 23) hx hb dX8_feed_110 (by decide) ?_
    refine lv_iload hx hb dX8_feed_23 (lv_at hl 0 rfl) ?_
    refine lv_bipush (v := 20) hx hb dX8_feed_25 (by decide) ?_
    refine lv_icmp_ge (tgt := 113) hx hb dX8_feed_27 (by decide) (fun h => absurd h (by decide)) (fun _ => ?_)
    refine lv_iload hx hb dX8_feed_30 (lv_at hl 0 rfl) ?_
    refine lv_iconst (v := 4) hx hb dX8_feed_32 (by decide) ?_
    refine lv_icmp_ge (tgt := 40) hx hb dX8_feed_33 (by decide) (fun _ => ?_) (fun h => absurd (by decide) h)
    refine lv_iload hx hb dX8_feed_40 (lv_at hl 0 rfl) ?_
    refine lv_bipush (v := 8) hx hb dX8_feed_42 (by decide) ?_
    refine lv_icmp_ge (tgt := 51) hx hb dX8_feed_44 (by decide) (fun h => absurd h (by decide)) (fun _ => ?_)
    refine lv_iload_n hx hb dX8_feed_47 rfl (lv_at hl 4 rfl) ?_
    refine lv_goto (tgt := 76) hx hb dX8_feed_48 (by decide) ?_
    refine lv_istore (lv' := [(7, .int v2), (6, .int 5), (0, .ref (y 0)), (1, .int v1), (2, .int v2), (3, .int v3), (4, .int v4), (5, .int v5)]) hx hb dX8_feed_76 hl (by decide) rfl (fun ls hl => ?_)
    refine lv_aload_n hx hb dX8_feed_78 rfl (lv_at hl 2 rfl) ?_
    refine va_get (D := D) (ci := 8) (v := .ref (y 1)) (C := RX8) (T := TX8) (N := 52) hx hb hts w_1 hown hK hP 0 rfl rfl 0 (by decide) w_4 (fun _ h9 => h9) rfl dX8_feed_79 ?_
    refine lv_aload_n hx hb dX8_feed_82 rfl (lv_at hl 2 rfl) ?_
    refine va_get (D := D) (ci := 8) (v := .int (nI m_tapeSize)) (C := RX8) (T := TX8) (N := 52) hx hb hts w_1 hown hK hP 0 rfl rfl 1 (by decide) w_3 (fun _ h9 => h9) rfl dX8_feed_83 ?_
    refine lv_iload hx hb dX8_feed_86 (lv_at hl 1 rfl) ?_
    refine sv_iadd (v := nI (m_tapeSize + 5)) hx hb dX8_feed_88 (ax_add m_tapeSize 5) ?_
    refine lv_iload hx hb dX8_feed_89 (lv_at hl 0 rfl) ?_
    refine lv_bipush (v := 24) hx hb dX8_feed_91 (by decide) ?_
    refine lv_bipush (v := 8) hx hb dX8_feed_93 (by decide) ?_
    refine lv_iload hx hb dX8_feed_95 (lv_at hl 1 rfl) ?_
    refine lv_iconst (v := 4) hx hb dX8_feed_97 (by decide) ?_
    refine sv_irem (v := 1) hx hb dX8_feed_98 (by decide) (by decide) ?_
    refine sv_imul (v := 8) hx hb dX8_feed_99 (by decide) ?_
    refine sv_isub (v := 16) hx hb dX8_feed_100 (by decide) ?_
    refine sv_ishr (v := v2 >>> (nI 16 &&& 31)) hx hb dX8_feed_101 rfl ?_
    refine lv_sipush (v := 255) hx hb dX8_feed_102 (by decide) ?_
    refine sv_iand (v := (v2 >>> (nI 16 &&& 31)) &&& 255) hx hb dX8_feed_105 rfl ?_
    refine sv_iast hx hb hK hP hD hS 1 1 rfl rfl (vp_in_nI (by omega) (by decide)) dX8_feed_106 (fun g_6 H locs eg_6 hP hD hS => ?_)
    have eg_6 : g_6 = upd (upd (upd (upd (upd (upd m_tape (m_tapeSize + 0) ((v1 >>> (nI 24 &&& 31)) &&& 255)) (m_tapeSize + 1) ((v1 >>> (nI 16 &&& 31)) &&& 255)) (m_tapeSize + 2) ((v1 >>> (nI 8 &&& 31)) &&& 255)) (m_tapeSize + 3) ((v1 >>> (nI 0 &&& 31)) &&& 255)) (m_tapeSize + 4) ((v2 >>> (nI 24 &&& 31)) &&& 255)) (m_tapeSize + 5) ((v2 >>> (nI 16 &&& 31)) &&& 255) := ist eg_6 (by omega)
    subst eg_6
    have hP : va_P D vwCl [((y 0), .inr (8, [.ref (y 1), .int (nI m_tapeSize), .int 0, .ref (y 2), .int m_cycleMany, .int m_vote, .int m_low, .int m_high, .int m_wear, .int m_spare, .int m_places, .int m_cycleNext, .int m_fault, .int m_faultPlace, .int (nI m_givers), .ref (y 3), .ref (y 4), .int m_giverNext, .int (nI m_children), .ref (y 5), .ref (y 6), .ref (y 7), .ref (y 8), .ref (y 9), .int (nI m_coats), .ref (y 10), .ref (y 11), .ref (y 12), .ref (y 13), .int m_years, .int (nI m_legacies), .ref (y 14), .ref (y 15), .ref (y 16), .ref (y 17), .int m_end, .int m_next, .int m_kind, .int m_which, .int m_place, .int m_read, .ref (y 18), .ref (y 19), .int m_readMany, .int m_readHigh, .ref (y 20), .int (nI m_insideMany), .ref (y 21), .ref (y 22), .ref (y 23), .ref (y 24), .ref (y 25)])), ((y 1), .inl (cI, 300, .inl (upd (upd (upd (upd (upd (upd m_tape (m_tapeSize + 0) ((v1 >>> (nI 24 &&& 31)) &&& 255)) (m_tapeSize + 1) ((v1 >>> (nI 16 &&& 31)) &&& 255)) (m_tapeSize + 2) ((v1 >>> (nI 8 &&& 31)) &&& 255)) (m_tapeSize + 3) ((v1 >>> (nI 0 &&& 31)) &&& 255)) (m_tapeSize + 4) ((v2 >>> (nI 24 &&& 31)) &&& 255)) (m_tapeSize + 5) ((v2 >>> (nI 16 &&& 31)) &&& 255))))] H := hP
    have hD : va_D A [((y 0), .inr (8, [.ref (y 1), .int (nI m_tapeSize), .int 0, .ref (y 2), .int m_cycleMany, .int m_vote, .int m_low, .int m_high, .int m_wear, .int m_spare, .int m_places, .int m_cycleNext, .int m_fault, .int m_faultPlace, .int (nI m_givers), .ref (y 3), .ref (y 4), .int m_giverNext, .int (nI m_children), .ref (y 5), .ref (y 6), .ref (y 7), .ref (y 8), .ref (y 9), .int (nI m_coats), .ref (y 10), .ref (y 11), .ref (y 12), .ref (y 13), .int m_years, .int (nI m_legacies), .ref (y 14), .ref (y 15), .ref (y 16), .ref (y 17), .int m_end, .int m_next, .int m_kind, .int m_which, .int m_place, .int m_read, .ref (y 18), .ref (y 19), .int m_readMany, .int m_readHigh, .ref (y 20), .int (nI m_insideMany), .ref (y 21), .ref (y 22), .ref (y 23), .ref (y 24), .ref (y 25)])), ((y 1), .inl (cI, 300, .inl (upd (upd (upd (upd (upd (upd m_tape (m_tapeSize + 0) ((v1 >>> (nI 24 &&& 31)) &&& 255)) (m_tapeSize + 1) ((v1 >>> (nI 16 &&& 31)) &&& 255)) (m_tapeSize + 2) ((v1 >>> (nI 8 &&& 31)) &&& 255)) (m_tapeSize + 3) ((v1 >>> (nI 0 &&& 31)) &&& 255)) (m_tapeSize + 4) ((v2 >>> (nI 24 &&& 31)) &&& 255)) (m_tapeSize + 5) ((v2 >>> (nI 16 &&& 31)) &&& 255))))] := hD
    refine lv_iinc (v := 6) (lv' := [(6, .int 6), (7, .int v2), (0, .ref (y 0)), (1, .int v1), (2, .int v2), (3, .int v3), (4, .int v4), (5, .int v5)]) hx hb dX8_feed_107 hl (k := 1) rfl (by decide) (by decide) rfl (fun ls hl => ?_)
    refine lv_goto (tgt := 23) hx hb dX8_feed_110 (by decide) ?_
    refine lv_iload hx hb dX8_feed_23 (lv_at hl 0 rfl) ?_
    refine lv_bipush (v := 20) hx hb dX8_feed_25 (by decide) ?_
    refine lv_icmp_ge (tgt := 113) hx hb dX8_feed_27 (by decide) (fun h => absurd h (by decide)) (fun _ => ?_)
    refine lv_iload hx hb dX8_feed_30 (lv_at hl 0 rfl) ?_
    refine lv_iconst (v := 4) hx hb dX8_feed_32 (by decide) ?_
    refine lv_icmp_ge (tgt := 40) hx hb dX8_feed_33 (by decide) (fun _ => ?_) (fun h => absurd (by decide) h)
    refine lv_iload hx hb dX8_feed_40 (lv_at hl 0 rfl) ?_
    refine lv_bipush (v := 8) hx hb dX8_feed_42 (by decide) ?_
    refine lv_icmp_ge (tgt := 51) hx hb dX8_feed_44 (by decide) (fun h => absurd h (by decide)) (fun _ => ?_)
    refine lv_iload_n hx hb dX8_feed_47 rfl (lv_at hl 4 rfl) ?_
    refine lv_goto (tgt := 76) hx hb dX8_feed_48 (by decide) ?_
    refine lv_istore (lv' := [(7, .int v2), (6, .int 6), (0, .ref (y 0)), (1, .int v1), (2, .int v2), (3, .int v3), (4, .int v4), (5, .int v5)]) hx hb dX8_feed_76 hl (by decide) rfl (fun ls hl => ?_)
    refine lv_aload_n hx hb dX8_feed_78 rfl (lv_at hl 2 rfl) ?_
    refine va_get (D := D) (ci := 8) (v := .ref (y 1)) (C := RX8) (T := TX8) (N := 52) hx hb hts w_1 hown hK hP 0 rfl rfl 0 (by decide) w_4 (fun _ h9 => h9) rfl dX8_feed_79 ?_
    refine lv_aload_n hx hb dX8_feed_82 rfl (lv_at hl 2 rfl) ?_
    refine va_get (D := D) (ci := 8) (v := .int (nI m_tapeSize)) (C := RX8) (T := TX8) (N := 52) hx hb hts w_1 hown hK hP 0 rfl rfl 1 (by decide) w_3 (fun _ h9 => h9) rfl dX8_feed_83 ?_
    refine lv_iload hx hb dX8_feed_86 (lv_at hl 1 rfl) ?_
    refine sv_iadd (v := nI (m_tapeSize + 6)) hx hb dX8_feed_88 (ax_add m_tapeSize 6) ?_
    refine lv_iload hx hb dX8_feed_89 (lv_at hl 0 rfl) ?_
    refine lv_bipush (v := 24) hx hb dX8_feed_91 (by decide) ?_
    refine lv_bipush (v := 8) hx hb dX8_feed_93 (by decide) ?_
    refine lv_iload hx hb dX8_feed_95 (lv_at hl 1 rfl) ?_
    refine lv_iconst (v := 4) hx hb dX8_feed_97 (by decide) ?_
    refine sv_irem (v := 2) hx hb dX8_feed_98 (by decide) (by decide) ?_
    refine sv_imul (v := 16) hx hb dX8_feed_99 (by decide) ?_
    refine sv_isub (v := 8) hx hb dX8_feed_100 (by decide) ?_
    refine sv_ishr (v := v2 >>> (nI 8 &&& 31)) hx hb dX8_feed_101 rfl ?_
    refine lv_sipush (v := 255) hx hb dX8_feed_102 (by decide) ?_
    refine sv_iand (v := (v2 >>> (nI 8 &&& 31)) &&& 255) hx hb dX8_feed_105 rfl ?_
    refine sv_iast hx hb hK hP hD hS 1 1 rfl rfl (vp_in_nI (by omega) (by decide)) dX8_feed_106 (fun g_7 H locs eg_7 hP hD hS => ?_)
    have eg_7 : g_7 = upd (upd (upd (upd (upd (upd (upd m_tape (m_tapeSize + 0) ((v1 >>> (nI 24 &&& 31)) &&& 255)) (m_tapeSize + 1) ((v1 >>> (nI 16 &&& 31)) &&& 255)) (m_tapeSize + 2) ((v1 >>> (nI 8 &&& 31)) &&& 255)) (m_tapeSize + 3) ((v1 >>> (nI 0 &&& 31)) &&& 255)) (m_tapeSize + 4) ((v2 >>> (nI 24 &&& 31)) &&& 255)) (m_tapeSize + 5) ((v2 >>> (nI 16 &&& 31)) &&& 255)) (m_tapeSize + 6) ((v2 >>> (nI 8 &&& 31)) &&& 255) := ist eg_7 (by omega)
    subst eg_7
    have hP : va_P D vwCl [((y 0), .inr (8, [.ref (y 1), .int (nI m_tapeSize), .int 0, .ref (y 2), .int m_cycleMany, .int m_vote, .int m_low, .int m_high, .int m_wear, .int m_spare, .int m_places, .int m_cycleNext, .int m_fault, .int m_faultPlace, .int (nI m_givers), .ref (y 3), .ref (y 4), .int m_giverNext, .int (nI m_children), .ref (y 5), .ref (y 6), .ref (y 7), .ref (y 8), .ref (y 9), .int (nI m_coats), .ref (y 10), .ref (y 11), .ref (y 12), .ref (y 13), .int m_years, .int (nI m_legacies), .ref (y 14), .ref (y 15), .ref (y 16), .ref (y 17), .int m_end, .int m_next, .int m_kind, .int m_which, .int m_place, .int m_read, .ref (y 18), .ref (y 19), .int m_readMany, .int m_readHigh, .ref (y 20), .int (nI m_insideMany), .ref (y 21), .ref (y 22), .ref (y 23), .ref (y 24), .ref (y 25)])), ((y 1), .inl (cI, 300, .inl (upd (upd (upd (upd (upd (upd (upd m_tape (m_tapeSize + 0) ((v1 >>> (nI 24 &&& 31)) &&& 255)) (m_tapeSize + 1) ((v1 >>> (nI 16 &&& 31)) &&& 255)) (m_tapeSize + 2) ((v1 >>> (nI 8 &&& 31)) &&& 255)) (m_tapeSize + 3) ((v1 >>> (nI 0 &&& 31)) &&& 255)) (m_tapeSize + 4) ((v2 >>> (nI 24 &&& 31)) &&& 255)) (m_tapeSize + 5) ((v2 >>> (nI 16 &&& 31)) &&& 255)) (m_tapeSize + 6) ((v2 >>> (nI 8 &&& 31)) &&& 255))))] H := hP
    have hD : va_D A [((y 0), .inr (8, [.ref (y 1), .int (nI m_tapeSize), .int 0, .ref (y 2), .int m_cycleMany, .int m_vote, .int m_low, .int m_high, .int m_wear, .int m_spare, .int m_places, .int m_cycleNext, .int m_fault, .int m_faultPlace, .int (nI m_givers), .ref (y 3), .ref (y 4), .int m_giverNext, .int (nI m_children), .ref (y 5), .ref (y 6), .ref (y 7), .ref (y 8), .ref (y 9), .int (nI m_coats), .ref (y 10), .ref (y 11), .ref (y 12), .ref (y 13), .int m_years, .int (nI m_legacies), .ref (y 14), .ref (y 15), .ref (y 16), .ref (y 17), .int m_end, .int m_next, .int m_kind, .int m_which, .int m_place, .int m_read, .ref (y 18), .ref (y 19), .int m_readMany, .int m_readHigh, .ref (y 20), .int (nI m_insideMany), .ref (y 21), .ref (y 22), .ref (y 23), .ref (y 24), .ref (y 25)])), ((y 1), .inl (cI, 300, .inl (upd (upd (upd (upd (upd (upd (upd m_tape (m_tapeSize + 0) ((v1 >>> (nI 24 &&& 31)) &&& 255)) (m_tapeSize + 1) ((v1 >>> (nI 16 &&& 31)) &&& 255)) (m_tapeSize + 2) ((v1 >>> (nI 8 &&& 31)) &&& 255)) (m_tapeSize + 3) ((v1 >>> (nI 0 &&& 31)) &&& 255)) (m_tapeSize + 4) ((v2 >>> (nI 24 &&& 31)) &&& 255)) (m_tapeSize + 5) ((v2 >>> (nI 16 &&& 31)) &&& 255)) (m_tapeSize + 6) ((v2 >>> (nI 8 &&& 31)) &&& 255))))] := hD
    refine lv_iinc (v := 7) (lv' := [(6, .int 7), (7, .int v2), (0, .ref (y 0)), (1, .int v1), (2, .int v2), (3, .int v3), (4, .int v4), (5, .int v5)]) hx hb dX8_feed_107 hl (k := 1) rfl (by decide) (by decide) rfl (fun ls hl => ?_)
    refine lv_goto (tgt := 23) hx hb dX8_feed_110 (by decide) ?_
    refine lv_iload hx hb dX8_feed_23 (lv_at hl 0 rfl) ?_
    refine lv_bipush (v := 20) hx hb dX8_feed_25 (by decide) ?_
    refine lv_icmp_ge (tgt := 113) hx hb dX8_feed_27 (by decide) (fun h => absurd h (by decide)) (fun _ => ?_)
    refine lv_iload hx hb dX8_feed_30 (lv_at hl 0 rfl) ?_
    refine lv_iconst (v := 4) hx hb dX8_feed_32 (by decide) ?_
    refine lv_icmp_ge (tgt := 40) hx hb dX8_feed_33 (by decide) (fun _ => ?_) (fun h => absurd (by decide) h)
    refine lv_iload hx hb dX8_feed_40 (lv_at hl 0 rfl) ?_
    refine lv_bipush (v := 8) hx hb dX8_feed_42 (by decide) ?_
    refine lv_icmp_ge (tgt := 51) hx hb dX8_feed_44 (by decide) (fun h => absurd h (by decide)) (fun _ => ?_)
    refine lv_iload_n hx hb dX8_feed_47 rfl (lv_at hl 4 rfl) ?_
    refine lv_goto (tgt := 76) hx hb dX8_feed_48 (by decide) ?_
    refine lv_istore (lv' := [(7, .int v2), (6, .int 7), (0, .ref (y 0)), (1, .int v1), (2, .int v2), (3, .int v3), (4, .int v4), (5, .int v5)]) hx hb dX8_feed_76 hl (by decide) rfl (fun ls hl => ?_)
    refine lv_aload_n hx hb dX8_feed_78 rfl (lv_at hl 2 rfl) ?_
    refine va_get (D := D) (ci := 8) (v := .ref (y 1)) (C := RX8) (T := TX8) (N := 52) hx hb hts w_1 hown hK hP 0 rfl rfl 0 (by decide) w_4 (fun _ h9 => h9) rfl dX8_feed_79 ?_
    refine lv_aload_n hx hb dX8_feed_82 rfl (lv_at hl 2 rfl) ?_
    refine va_get (D := D) (ci := 8) (v := .int (nI m_tapeSize)) (C := RX8) (T := TX8) (N := 52) hx hb hts w_1 hown hK hP 0 rfl rfl 1 (by decide) w_3 (fun _ h9 => h9) rfl dX8_feed_83 ?_
    refine lv_iload hx hb dX8_feed_86 (lv_at hl 1 rfl) ?_
    refine sv_iadd (v := nI (m_tapeSize + 7)) hx hb dX8_feed_88 (ax_add m_tapeSize 7) ?_
    refine lv_iload hx hb dX8_feed_89 (lv_at hl 0 rfl) ?_
    refine lv_bipush (v := 24) hx hb dX8_feed_91 (by decide) ?_
    refine lv_bipush (v := 8) hx hb dX8_feed_93 (by decide) ?_
    refine lv_iload hx hb dX8_feed_95 (lv_at hl 1 rfl) ?_
    refine lv_iconst (v := 4) hx hb dX8_feed_97 (by decide) ?_
    refine sv_irem (v := 3) hx hb dX8_feed_98 (by decide) (by decide) ?_
    refine sv_imul (v := 24) hx hb dX8_feed_99 (by decide) ?_
    refine sv_isub (v := 0) hx hb dX8_feed_100 (by decide) ?_
    refine sv_ishr (v := v2 >>> (nI 0 &&& 31)) hx hb dX8_feed_101 rfl ?_
    refine lv_sipush (v := 255) hx hb dX8_feed_102 (by decide) ?_
    refine sv_iand (v := (v2 >>> (nI 0 &&& 31)) &&& 255) hx hb dX8_feed_105 rfl ?_
    refine sv_iast hx hb hK hP hD hS 1 1 rfl rfl (vp_in_nI (by omega) (by decide)) dX8_feed_106 (fun g_8 H locs eg_8 hP hD hS => ?_)
    have eg_8 : g_8 = upd (upd (upd (upd (upd (upd (upd (upd m_tape (m_tapeSize + 0) ((v1 >>> (nI 24 &&& 31)) &&& 255)) (m_tapeSize + 1) ((v1 >>> (nI 16 &&& 31)) &&& 255)) (m_tapeSize + 2) ((v1 >>> (nI 8 &&& 31)) &&& 255)) (m_tapeSize + 3) ((v1 >>> (nI 0 &&& 31)) &&& 255)) (m_tapeSize + 4) ((v2 >>> (nI 24 &&& 31)) &&& 255)) (m_tapeSize + 5) ((v2 >>> (nI 16 &&& 31)) &&& 255)) (m_tapeSize + 6) ((v2 >>> (nI 8 &&& 31)) &&& 255)) (m_tapeSize + 7) ((v2 >>> (nI 0 &&& 31)) &&& 255) := ist eg_8 (by omega)
    subst eg_8
    have hP : va_P D vwCl [((y 0), .inr (8, [.ref (y 1), .int (nI m_tapeSize), .int 0, .ref (y 2), .int m_cycleMany, .int m_vote, .int m_low, .int m_high, .int m_wear, .int m_spare, .int m_places, .int m_cycleNext, .int m_fault, .int m_faultPlace, .int (nI m_givers), .ref (y 3), .ref (y 4), .int m_giverNext, .int (nI m_children), .ref (y 5), .ref (y 6), .ref (y 7), .ref (y 8), .ref (y 9), .int (nI m_coats), .ref (y 10), .ref (y 11), .ref (y 12), .ref (y 13), .int m_years, .int (nI m_legacies), .ref (y 14), .ref (y 15), .ref (y 16), .ref (y 17), .int m_end, .int m_next, .int m_kind, .int m_which, .int m_place, .int m_read, .ref (y 18), .ref (y 19), .int m_readMany, .int m_readHigh, .ref (y 20), .int (nI m_insideMany), .ref (y 21), .ref (y 22), .ref (y 23), .ref (y 24), .ref (y 25)])), ((y 1), .inl (cI, 300, .inl (upd (upd (upd (upd (upd (upd (upd (upd m_tape (m_tapeSize + 0) ((v1 >>> (nI 24 &&& 31)) &&& 255)) (m_tapeSize + 1) ((v1 >>> (nI 16 &&& 31)) &&& 255)) (m_tapeSize + 2) ((v1 >>> (nI 8 &&& 31)) &&& 255)) (m_tapeSize + 3) ((v1 >>> (nI 0 &&& 31)) &&& 255)) (m_tapeSize + 4) ((v2 >>> (nI 24 &&& 31)) &&& 255)) (m_tapeSize + 5) ((v2 >>> (nI 16 &&& 31)) &&& 255)) (m_tapeSize + 6) ((v2 >>> (nI 8 &&& 31)) &&& 255)) (m_tapeSize + 7) ((v2 >>> (nI 0 &&& 31)) &&& 255))))] H := hP
    have hD : va_D A [((y 0), .inr (8, [.ref (y 1), .int (nI m_tapeSize), .int 0, .ref (y 2), .int m_cycleMany, .int m_vote, .int m_low, .int m_high, .int m_wear, .int m_spare, .int m_places, .int m_cycleNext, .int m_fault, .int m_faultPlace, .int (nI m_givers), .ref (y 3), .ref (y 4), .int m_giverNext, .int (nI m_children), .ref (y 5), .ref (y 6), .ref (y 7), .ref (y 8), .ref (y 9), .int (nI m_coats), .ref (y 10), .ref (y 11), .ref (y 12), .ref (y 13), .int m_years, .int (nI m_legacies), .ref (y 14), .ref (y 15), .ref (y 16), .ref (y 17), .int m_end, .int m_next, .int m_kind, .int m_which, .int m_place, .int m_read, .ref (y 18), .ref (y 19), .int m_readMany, .int m_readHigh, .ref (y 20), .int (nI m_insideMany), .ref (y 21), .ref (y 22), .ref (y 23), .ref (y 24), .ref (y 25)])), ((y 1), .inl (cI, 300, .inl (upd (upd (upd (upd (upd (upd (upd (upd m_tape (m_tapeSize + 0) ((v1 >>> (nI 24 &&& 31)) &&& 255)) (m_tapeSize + 1) ((v1 >>> (nI 16 &&& 31)) &&& 255)) (m_tapeSize + 2) ((v1 >>> (nI 8 &&& 31)) &&& 255)) (m_tapeSize + 3) ((v1 >>> (nI 0 &&& 31)) &&& 255)) (m_tapeSize + 4) ((v2 >>> (nI 24 &&& 31)) &&& 255)) (m_tapeSize + 5) ((v2 >>> (nI 16 &&& 31)) &&& 255)) (m_tapeSize + 6) ((v2 >>> (nI 8 &&& 31)) &&& 255)) (m_tapeSize + 7) ((v2 >>> (nI 0 &&& 31)) &&& 255))))] := hD
    refine lv_iinc (v := 8) (lv' := [(6, .int 8), (7, .int v2), (0, .ref (y 0)), (1, .int v1), (2, .int v2), (3, .int v3), (4, .int v4), (5, .int v5)]) hx hb dX8_feed_107 hl (k := 1) rfl (by decide) (by decide) rfl (fun ls hl => ?_)
    refine lv_goto (tgt := 23) hx hb dX8_feed_110 (by decide) ?_
    refine lv_iload hx hb dX8_feed_23 (lv_at hl 0 rfl) ?_
    refine lv_bipush (v := 20) hx hb dX8_feed_25 (by decide) ?_
    refine lv_icmp_ge (tgt := 113) hx hb dX8_feed_27 (by decide) (fun h => absurd h (by decide)) (fun _ => ?_)
    refine lv_iload hx hb dX8_feed_30 (lv_at hl 0 rfl) ?_
    refine lv_iconst (v := 4) hx hb dX8_feed_32 (by decide) ?_
    refine lv_icmp_ge (tgt := 40) hx hb dX8_feed_33 (by decide) (fun _ => ?_) (fun h => absurd (by decide) h)
    refine lv_iload hx hb dX8_feed_40 (lv_at hl 0 rfl) ?_
    refine lv_bipush (v := 8) hx hb dX8_feed_42 (by decide) ?_
    refine lv_icmp_ge (tgt := 51) hx hb dX8_feed_44 (by decide) (fun _ => ?_) (fun h => absurd (by decide) h)
    refine lv_iload hx hb dX8_feed_51 (lv_at hl 0 rfl) ?_
    refine lv_bipush (v := 12) hx hb dX8_feed_53 (by decide) ?_
    refine lv_icmp_ge (tgt := 62) hx hb dX8_feed_55 (by decide) (fun h => absurd h (by decide)) (fun _ => ?_)
    refine lv_iload_n hx hb dX8_feed_58 rfl (lv_at hl 5 rfl) ?_
    refine lv_goto (tgt := 76) hx hb dX8_feed_59 (by decide) ?_
    refine lv_istore (lv' := [(7, .int v3), (6, .int 8), (0, .ref (y 0)), (1, .int v1), (2, .int v2), (3, .int v3), (4, .int v4), (5, .int v5)]) hx hb dX8_feed_76 hl (by decide) rfl (fun ls hl => ?_)
    refine lv_aload_n hx hb dX8_feed_78 rfl (lv_at hl 2 rfl) ?_
    refine va_get (D := D) (ci := 8) (v := .ref (y 1)) (C := RX8) (T := TX8) (N := 52) hx hb hts w_1 hown hK hP 0 rfl rfl 0 (by decide) w_4 (fun _ h9 => h9) rfl dX8_feed_79 ?_
    refine lv_aload_n hx hb dX8_feed_82 rfl (lv_at hl 2 rfl) ?_
    refine va_get (D := D) (ci := 8) (v := .int (nI m_tapeSize)) (C := RX8) (T := TX8) (N := 52) hx hb hts w_1 hown hK hP 0 rfl rfl 1 (by decide) w_3 (fun _ h9 => h9) rfl dX8_feed_83 ?_
    refine lv_iload hx hb dX8_feed_86 (lv_at hl 1 rfl) ?_
    refine sv_iadd (v := nI (m_tapeSize + 8)) hx hb dX8_feed_88 (ax_add m_tapeSize 8) ?_
    refine lv_iload hx hb dX8_feed_89 (lv_at hl 0 rfl) ?_
    refine lv_bipush (v := 24) hx hb dX8_feed_91 (by decide) ?_
    refine lv_bipush (v := 8) hx hb dX8_feed_93 (by decide) ?_
    refine lv_iload hx hb dX8_feed_95 (lv_at hl 1 rfl) ?_
    refine lv_iconst (v := 4) hx hb dX8_feed_97 (by decide) ?_
    refine sv_irem (v := 0) hx hb dX8_feed_98 (by decide) (by decide) ?_
    refine sv_imul (v := 0) hx hb dX8_feed_99 (by decide) ?_
    refine sv_isub (v := 24) hx hb dX8_feed_100 (by decide) ?_
    refine sv_ishr (v := v3 >>> (nI 24 &&& 31)) hx hb dX8_feed_101 rfl ?_
    refine lv_sipush (v := 255) hx hb dX8_feed_102 (by decide) ?_
    refine sv_iand (v := (v3 >>> (nI 24 &&& 31)) &&& 255) hx hb dX8_feed_105 rfl ?_
    refine sv_iast hx hb hK hP hD hS 1 1 rfl rfl (vp_in_nI (by omega) (by decide)) dX8_feed_106 (fun g_9 H locs eg_9 hP hD hS => ?_)
    have eg_9 : g_9 = upd (upd (upd (upd (upd (upd (upd (upd (upd m_tape (m_tapeSize + 0) ((v1 >>> (nI 24 &&& 31)) &&& 255)) (m_tapeSize + 1) ((v1 >>> (nI 16 &&& 31)) &&& 255)) (m_tapeSize + 2) ((v1 >>> (nI 8 &&& 31)) &&& 255)) (m_tapeSize + 3) ((v1 >>> (nI 0 &&& 31)) &&& 255)) (m_tapeSize + 4) ((v2 >>> (nI 24 &&& 31)) &&& 255)) (m_tapeSize + 5) ((v2 >>> (nI 16 &&& 31)) &&& 255)) (m_tapeSize + 6) ((v2 >>> (nI 8 &&& 31)) &&& 255)) (m_tapeSize + 7) ((v2 >>> (nI 0 &&& 31)) &&& 255)) (m_tapeSize + 8) ((v3 >>> (nI 24 &&& 31)) &&& 255) := ist eg_9 (by omega)
    subst eg_9
    have hP : va_P D vwCl [((y 0), .inr (8, [.ref (y 1), .int (nI m_tapeSize), .int 0, .ref (y 2), .int m_cycleMany, .int m_vote, .int m_low, .int m_high, .int m_wear, .int m_spare, .int m_places, .int m_cycleNext, .int m_fault, .int m_faultPlace, .int (nI m_givers), .ref (y 3), .ref (y 4), .int m_giverNext, .int (nI m_children), .ref (y 5), .ref (y 6), .ref (y 7), .ref (y 8), .ref (y 9), .int (nI m_coats), .ref (y 10), .ref (y 11), .ref (y 12), .ref (y 13), .int m_years, .int (nI m_legacies), .ref (y 14), .ref (y 15), .ref (y 16), .ref (y 17), .int m_end, .int m_next, .int m_kind, .int m_which, .int m_place, .int m_read, .ref (y 18), .ref (y 19), .int m_readMany, .int m_readHigh, .ref (y 20), .int (nI m_insideMany), .ref (y 21), .ref (y 22), .ref (y 23), .ref (y 24), .ref (y 25)])), ((y 1), .inl (cI, 300, .inl (upd (upd (upd (upd (upd (upd (upd (upd (upd m_tape (m_tapeSize + 0) ((v1 >>> (nI 24 &&& 31)) &&& 255)) (m_tapeSize + 1) ((v1 >>> (nI 16 &&& 31)) &&& 255)) (m_tapeSize + 2) ((v1 >>> (nI 8 &&& 31)) &&& 255)) (m_tapeSize + 3) ((v1 >>> (nI 0 &&& 31)) &&& 255)) (m_tapeSize + 4) ((v2 >>> (nI 24 &&& 31)) &&& 255)) (m_tapeSize + 5) ((v2 >>> (nI 16 &&& 31)) &&& 255)) (m_tapeSize + 6) ((v2 >>> (nI 8 &&& 31)) &&& 255)) (m_tapeSize + 7) ((v2 >>> (nI 0 &&& 31)) &&& 255)) (m_tapeSize + 8) ((v3 >>> (nI 24 &&& 31)) &&& 255))))] H := hP
    have hD : va_D A [((y 0), .inr (8, [.ref (y 1), .int (nI m_tapeSize), .int 0, .ref (y 2), .int m_cycleMany, .int m_vote, .int m_low, .int m_high, .int m_wear, .int m_spare, .int m_places, .int m_cycleNext, .int m_fault, .int m_faultPlace, .int (nI m_givers), .ref (y 3), .ref (y 4), .int m_giverNext, .int (nI m_children), .ref (y 5), .ref (y 6), .ref (y 7), .ref (y 8), .ref (y 9), .int (nI m_coats), .ref (y 10), .ref (y 11), .ref (y 12), .ref (y 13), .int m_years, .int (nI m_legacies), .ref (y 14), .ref (y 15), .ref (y 16), .ref (y 17), .int m_end, .int m_next, .int m_kind, .int m_which, .int m_place, .int m_read, .ref (y 18), .ref (y 19), .int m_readMany, .int m_readHigh, .ref (y 20), .int (nI m_insideMany), .ref (y 21), .ref (y 22), .ref (y 23), .ref (y 24), .ref (y 25)])), ((y 1), .inl (cI, 300, .inl (upd (upd (upd (upd (upd (upd (upd (upd (upd m_tape (m_tapeSize + 0) ((v1 >>> (nI 24 &&& 31)) &&& 255)) (m_tapeSize + 1) ((v1 >>> (nI 16 &&& 31)) &&& 255)) (m_tapeSize + 2) ((v1 >>> (nI 8 &&& 31)) &&& 255)) (m_tapeSize + 3) ((v1 >>> (nI 0 &&& 31)) &&& 255)) (m_tapeSize + 4) ((v2 >>> (nI 24 &&& 31)) &&& 255)) (m_tapeSize + 5) ((v2 >>> (nI 16 &&& 31)) &&& 255)) (m_tapeSize + 6) ((v2 >>> (nI 8 &&& 31)) &&& 255)) (m_tapeSize + 7) ((v2 >>> (nI 0 &&& 31)) &&& 255)) (m_tapeSize + 8) ((v3 >>> (nI 24 &&& 31)) &&& 255))))] := hD
    refine lv_iinc (v := 9) (lv' := [(6, .int 9), (7, .int v3), (0, .ref (y 0)), (1, .int v1), (2, .int v2), (3, .int v3), (4, .int v4), (5, .int v5)]) hx hb dX8_feed_107 hl (k := 1) rfl (by decide) (by decide) rfl (fun ls hl => ?_)
    refine lv_goto (tgt := 23) hx hb dX8_feed_110 (by decide) ?_
    refine lv_iload hx hb dX8_feed_23 (lv_at hl 0 rfl) ?_
    refine lv_bipush (v := 20) hx hb dX8_feed_25 (by decide) ?_
    refine lv_icmp_ge (tgt := 113) hx hb dX8_feed_27 (by decide) (fun h => absurd h (by decide)) (fun _ => ?_)
    refine lv_iload hx hb dX8_feed_30 (lv_at hl 0 rfl) ?_
    refine lv_iconst (v := 4) hx hb dX8_feed_32 (by decide) ?_
    refine lv_icmp_ge (tgt := 40) hx hb dX8_feed_33 (by decide) (fun _ => ?_) (fun h => absurd (by decide) h)
    refine lv_iload hx hb dX8_feed_40 (lv_at hl 0 rfl) ?_
    refine lv_bipush (v := 8) hx hb dX8_feed_42 (by decide) ?_
    refine lv_icmp_ge (tgt := 51) hx hb dX8_feed_44 (by decide) (fun _ => ?_) (fun h => absurd (by decide) h)
    refine lv_iload hx hb dX8_feed_51 (lv_at hl 0 rfl) ?_
    refine lv_bipush (v := 12) hx hb dX8_feed_53 (by decide) ?_
    refine lv_icmp_ge (tgt := 62) hx hb dX8_feed_55 (by decide) (fun h => absurd h (by decide)) (fun _ => ?_)
    refine lv_iload_n hx hb dX8_feed_58 rfl (lv_at hl 5 rfl) ?_
    refine lv_goto (tgt := 76) hx hb dX8_feed_59 (by decide) ?_
    refine lv_istore (lv' := [(7, .int v3), (6, .int 9), (0, .ref (y 0)), (1, .int v1), (2, .int v2), (3, .int v3), (4, .int v4), (5, .int v5)]) hx hb dX8_feed_76 hl (by decide) rfl (fun ls hl => ?_)
    refine lv_aload_n hx hb dX8_feed_78 rfl (lv_at hl 2 rfl) ?_
    refine va_get (D := D) (ci := 8) (v := .ref (y 1)) (C := RX8) (T := TX8) (N := 52) hx hb hts w_1 hown hK hP 0 rfl rfl 0 (by decide) w_4 (fun _ h9 => h9) rfl dX8_feed_79 ?_
    refine lv_aload_n hx hb dX8_feed_82 rfl (lv_at hl 2 rfl) ?_
    refine va_get (D := D) (ci := 8) (v := .int (nI m_tapeSize)) (C := RX8) (T := TX8) (N := 52) hx hb hts w_1 hown hK hP 0 rfl rfl 1 (by decide) w_3 (fun _ h9 => h9) rfl dX8_feed_83 ?_
    refine lv_iload hx hb dX8_feed_86 (lv_at hl 1 rfl) ?_
    refine sv_iadd (v := nI (m_tapeSize + 9)) hx hb dX8_feed_88 (ax_add m_tapeSize 9) ?_
    refine lv_iload hx hb dX8_feed_89 (lv_at hl 0 rfl) ?_
    refine lv_bipush (v := 24) hx hb dX8_feed_91 (by decide) ?_
    refine lv_bipush (v := 8) hx hb dX8_feed_93 (by decide) ?_
    refine lv_iload hx hb dX8_feed_95 (lv_at hl 1 rfl) ?_
    refine lv_iconst (v := 4) hx hb dX8_feed_97 (by decide) ?_
    refine sv_irem (v := 1) hx hb dX8_feed_98 (by decide) (by decide) ?_
    refine sv_imul (v := 8) hx hb dX8_feed_99 (by decide) ?_
    refine sv_isub (v := 16) hx hb dX8_feed_100 (by decide) ?_
    refine sv_ishr (v := v3 >>> (nI 16 &&& 31)) hx hb dX8_feed_101 rfl ?_
    refine lv_sipush (v := 255) hx hb dX8_feed_102 (by decide) ?_
    refine sv_iand (v := (v3 >>> (nI 16 &&& 31)) &&& 255) hx hb dX8_feed_105 rfl ?_
    refine sv_iast hx hb hK hP hD hS 1 1 rfl rfl (vp_in_nI (by omega) (by decide)) dX8_feed_106 (fun g_10 H locs eg_10 hP hD hS => ?_)
    have eg_10 : g_10 = upd (upd (upd (upd (upd (upd (upd (upd (upd (upd m_tape (m_tapeSize + 0) ((v1 >>> (nI 24 &&& 31)) &&& 255)) (m_tapeSize + 1) ((v1 >>> (nI 16 &&& 31)) &&& 255)) (m_tapeSize + 2) ((v1 >>> (nI 8 &&& 31)) &&& 255)) (m_tapeSize + 3) ((v1 >>> (nI 0 &&& 31)) &&& 255)) (m_tapeSize + 4) ((v2 >>> (nI 24 &&& 31)) &&& 255)) (m_tapeSize + 5) ((v2 >>> (nI 16 &&& 31)) &&& 255)) (m_tapeSize + 6) ((v2 >>> (nI 8 &&& 31)) &&& 255)) (m_tapeSize + 7) ((v2 >>> (nI 0 &&& 31)) &&& 255)) (m_tapeSize + 8) ((v3 >>> (nI 24 &&& 31)) &&& 255)) (m_tapeSize + 9) ((v3 >>> (nI 16 &&& 31)) &&& 255) := ist eg_10 (by omega)
    subst eg_10
    have hP : va_P D vwCl [((y 0), .inr (8, [.ref (y 1), .int (nI m_tapeSize), .int 0, .ref (y 2), .int m_cycleMany, .int m_vote, .int m_low, .int m_high, .int m_wear, .int m_spare, .int m_places, .int m_cycleNext, .int m_fault, .int m_faultPlace, .int (nI m_givers), .ref (y 3), .ref (y 4), .int m_giverNext, .int (nI m_children), .ref (y 5), .ref (y 6), .ref (y 7), .ref (y 8), .ref (y 9), .int (nI m_coats), .ref (y 10), .ref (y 11), .ref (y 12), .ref (y 13), .int m_years, .int (nI m_legacies), .ref (y 14), .ref (y 15), .ref (y 16), .ref (y 17), .int m_end, .int m_next, .int m_kind, .int m_which, .int m_place, .int m_read, .ref (y 18), .ref (y 19), .int m_readMany, .int m_readHigh, .ref (y 20), .int (nI m_insideMany), .ref (y 21), .ref (y 22), .ref (y 23), .ref (y 24), .ref (y 25)])), ((y 1), .inl (cI, 300, .inl (upd (upd (upd (upd (upd (upd (upd (upd (upd (upd m_tape (m_tapeSize + 0) ((v1 >>> (nI 24 &&& 31)) &&& 255)) (m_tapeSize + 1) ((v1 >>> (nI 16 &&& 31)) &&& 255)) (m_tapeSize + 2) ((v1 >>> (nI 8 &&& 31)) &&& 255)) (m_tapeSize + 3) ((v1 >>> (nI 0 &&& 31)) &&& 255)) (m_tapeSize + 4) ((v2 >>> (nI 24 &&& 31)) &&& 255)) (m_tapeSize + 5) ((v2 >>> (nI 16 &&& 31)) &&& 255)) (m_tapeSize + 6) ((v2 >>> (nI 8 &&& 31)) &&& 255)) (m_tapeSize + 7) ((v2 >>> (nI 0 &&& 31)) &&& 255)) (m_tapeSize + 8) ((v3 >>> (nI 24 &&& 31)) &&& 255)) (m_tapeSize + 9) ((v3 >>> (nI 16 &&& 31)) &&& 255))))] H := hP
    have hD : va_D A [((y 0), .inr (8, [.ref (y 1), .int (nI m_tapeSize), .int 0, .ref (y 2), .int m_cycleMany, .int m_vote, .int m_low, .int m_high, .int m_wear, .int m_spare, .int m_places, .int m_cycleNext, .int m_fault, .int m_faultPlace, .int (nI m_givers), .ref (y 3), .ref (y 4), .int m_giverNext, .int (nI m_children), .ref (y 5), .ref (y 6), .ref (y 7), .ref (y 8), .ref (y 9), .int (nI m_coats), .ref (y 10), .ref (y 11), .ref (y 12), .ref (y 13), .int m_years, .int (nI m_legacies), .ref (y 14), .ref (y 15), .ref (y 16), .ref (y 17), .int m_end, .int m_next, .int m_kind, .int m_which, .int m_place, .int m_read, .ref (y 18), .ref (y 19), .int m_readMany, .int m_readHigh, .ref (y 20), .int (nI m_insideMany), .ref (y 21), .ref (y 22), .ref (y 23), .ref (y 24), .ref (y 25)])), ((y 1), .inl (cI, 300, .inl (upd (upd (upd (upd (upd (upd (upd (upd (upd (upd m_tape (m_tapeSize + 0) ((v1 >>> (nI 24 &&& 31)) &&& 255)) (m_tapeSize + 1) ((v1 >>> (nI 16 &&& 31)) &&& 255)) (m_tapeSize + 2) ((v1 >>> (nI 8 &&& 31)) &&& 255)) (m_tapeSize + 3) ((v1 >>> (nI 0 &&& 31)) &&& 255)) (m_tapeSize + 4) ((v2 >>> (nI 24 &&& 31)) &&& 255)) (m_tapeSize + 5) ((v2 >>> (nI 16 &&& 31)) &&& 255)) (m_tapeSize + 6) ((v2 >>> (nI 8 &&& 31)) &&& 255)) (m_tapeSize + 7) ((v2 >>> (nI 0 &&& 31)) &&& 255)) (m_tapeSize + 8) ((v3 >>> (nI 24 &&& 31)) &&& 255)) (m_tapeSize + 9) ((v3 >>> (nI 16 &&& 31)) &&& 255))))] := hD
    refine lv_iinc (v := 10) (lv' := [(6, .int 10), (7, .int v3), (0, .ref (y 0)), (1, .int v1), (2, .int v2), (3, .int v3), (4, .int v4), (5, .int v5)]) hx hb dX8_feed_107 hl (k := 1) rfl (by decide) (by decide) rfl (fun ls hl => ?_)
    refine lv_goto (tgt := 23) hx hb dX8_feed_110 (by decide) ?_
    refine lv_iload hx hb dX8_feed_23 (lv_at hl 0 rfl) ?_
    refine lv_bipush (v := 20) hx hb dX8_feed_25 (by decide) ?_
    refine lv_icmp_ge (tgt := 113) hx hb dX8_feed_27 (by decide) (fun h => absurd h (by decide)) (fun _ => ?_)
    refine lv_iload hx hb dX8_feed_30 (lv_at hl 0 rfl) ?_
    refine lv_iconst (v := 4) hx hb dX8_feed_32 (by decide) ?_
    refine lv_icmp_ge (tgt := 40) hx hb dX8_feed_33 (by decide) (fun _ => ?_) (fun h => absurd (by decide) h)
    refine lv_iload hx hb dX8_feed_40 (lv_at hl 0 rfl) ?_
    refine lv_bipush (v := 8) hx hb dX8_feed_42 (by decide) ?_
    refine lv_icmp_ge (tgt := 51) hx hb dX8_feed_44 (by decide) (fun _ => ?_) (fun h => absurd (by decide) h)
    refine lv_iload hx hb dX8_feed_51 (lv_at hl 0 rfl) ?_
    refine lv_bipush (v := 12) hx hb dX8_feed_53 (by decide) ?_
    refine lv_icmp_ge (tgt := 62) hx hb dX8_feed_55 (by decide) (fun h => absurd h (by decide)) (fun _ => ?_)
    refine lv_iload_n hx hb dX8_feed_58 rfl (lv_at hl 5 rfl) ?_
    refine lv_goto (tgt := 76) hx hb dX8_feed_59 (by decide) ?_
    refine lv_istore (lv' := [(7, .int v3), (6, .int 10), (0, .ref (y 0)), (1, .int v1), (2, .int v2), (3, .int v3), (4, .int v4), (5, .int v5)]) hx hb dX8_feed_76 hl (by decide) rfl (fun ls hl => ?_)
    refine lv_aload_n hx hb dX8_feed_78 rfl (lv_at hl 2 rfl) ?_
    refine va_get (D := D) (ci := 8) (v := .ref (y 1)) (C := RX8) (T := TX8) (N := 52) hx hb hts w_1 hown hK hP 0 rfl rfl 0 (by decide) w_4 (fun _ h9 => h9) rfl dX8_feed_79 ?_
    refine lv_aload_n hx hb dX8_feed_82 rfl (lv_at hl 2 rfl) ?_
    refine va_get (D := D) (ci := 8) (v := .int (nI m_tapeSize)) (C := RX8) (T := TX8) (N := 52) hx hb hts w_1 hown hK hP 0 rfl rfl 1 (by decide) w_3 (fun _ h9 => h9) rfl dX8_feed_83 ?_
    refine lv_iload hx hb dX8_feed_86 (lv_at hl 1 rfl) ?_
    refine sv_iadd (v := nI (m_tapeSize + 10)) hx hb dX8_feed_88 (ax_add m_tapeSize 10) ?_
    refine lv_iload hx hb dX8_feed_89 (lv_at hl 0 rfl) ?_
    refine lv_bipush (v := 24) hx hb dX8_feed_91 (by decide) ?_
    refine lv_bipush (v := 8) hx hb dX8_feed_93 (by decide) ?_
    refine lv_iload hx hb dX8_feed_95 (lv_at hl 1 rfl) ?_
    refine lv_iconst (v := 4) hx hb dX8_feed_97 (by decide) ?_
    refine sv_irem (v := 2) hx hb dX8_feed_98 (by decide) (by decide) ?_
    refine sv_imul (v := 16) hx hb dX8_feed_99 (by decide) ?_
    refine sv_isub (v := 8) hx hb dX8_feed_100 (by decide) ?_
    refine sv_ishr (v := v3 >>> (nI 8 &&& 31)) hx hb dX8_feed_101 rfl ?_
    refine lv_sipush (v := 255) hx hb dX8_feed_102 (by decide) ?_
    refine sv_iand (v := (v3 >>> (nI 8 &&& 31)) &&& 255) hx hb dX8_feed_105 rfl ?_
    refine sv_iast hx hb hK hP hD hS 1 1 rfl rfl (vp_in_nI (by omega) (by decide)) dX8_feed_106 (fun g_11 H locs eg_11 hP hD hS => ?_)
    have eg_11 : g_11 = upd (upd (upd (upd (upd (upd (upd (upd (upd (upd (upd m_tape (m_tapeSize + 0) ((v1 >>> (nI 24 &&& 31)) &&& 255)) (m_tapeSize + 1) ((v1 >>> (nI 16 &&& 31)) &&& 255)) (m_tapeSize + 2) ((v1 >>> (nI 8 &&& 31)) &&& 255)) (m_tapeSize + 3) ((v1 >>> (nI 0 &&& 31)) &&& 255)) (m_tapeSize + 4) ((v2 >>> (nI 24 &&& 31)) &&& 255)) (m_tapeSize + 5) ((v2 >>> (nI 16 &&& 31)) &&& 255)) (m_tapeSize + 6) ((v2 >>> (nI 8 &&& 31)) &&& 255)) (m_tapeSize + 7) ((v2 >>> (nI 0 &&& 31)) &&& 255)) (m_tapeSize + 8) ((v3 >>> (nI 24 &&& 31)) &&& 255)) (m_tapeSize + 9) ((v3 >>> (nI 16 &&& 31)) &&& 255)) (m_tapeSize + 10) ((v3 >>> (nI 8 &&& 31)) &&& 255) := ist eg_11 (by omega)
    subst eg_11
    have hP : va_P D vwCl [((y 0), .inr (8, [.ref (y 1), .int (nI m_tapeSize), .int 0, .ref (y 2), .int m_cycleMany, .int m_vote, .int m_low, .int m_high, .int m_wear, .int m_spare, .int m_places, .int m_cycleNext, .int m_fault, .int m_faultPlace, .int (nI m_givers), .ref (y 3), .ref (y 4), .int m_giverNext, .int (nI m_children), .ref (y 5), .ref (y 6), .ref (y 7), .ref (y 8), .ref (y 9), .int (nI m_coats), .ref (y 10), .ref (y 11), .ref (y 12), .ref (y 13), .int m_years, .int (nI m_legacies), .ref (y 14), .ref (y 15), .ref (y 16), .ref (y 17), .int m_end, .int m_next, .int m_kind, .int m_which, .int m_place, .int m_read, .ref (y 18), .ref (y 19), .int m_readMany, .int m_readHigh, .ref (y 20), .int (nI m_insideMany), .ref (y 21), .ref (y 22), .ref (y 23), .ref (y 24), .ref (y 25)])), ((y 1), .inl (cI, 300, .inl (upd (upd (upd (upd (upd (upd (upd (upd (upd (upd (upd m_tape (m_tapeSize + 0) ((v1 >>> (nI 24 &&& 31)) &&& 255)) (m_tapeSize + 1) ((v1 >>> (nI 16 &&& 31)) &&& 255)) (m_tapeSize + 2) ((v1 >>> (nI 8 &&& 31)) &&& 255)) (m_tapeSize + 3) ((v1 >>> (nI 0 &&& 31)) &&& 255)) (m_tapeSize + 4) ((v2 >>> (nI 24 &&& 31)) &&& 255)) (m_tapeSize + 5) ((v2 >>> (nI 16 &&& 31)) &&& 255)) (m_tapeSize + 6) ((v2 >>> (nI 8 &&& 31)) &&& 255)) (m_tapeSize + 7) ((v2 >>> (nI 0 &&& 31)) &&& 255)) (m_tapeSize + 8) ((v3 >>> (nI 24 &&& 31)) &&& 255)) (m_tapeSize + 9) ((v3 >>> (nI 16 &&& 31)) &&& 255)) (m_tapeSize + 10) ((v3 >>> (nI 8 &&& 31)) &&& 255))))] H := hP
    have hD : va_D A [((y 0), .inr (8, [.ref (y 1), .int (nI m_tapeSize), .int 0, .ref (y 2), .int m_cycleMany, .int m_vote, .int m_low, .int m_high, .int m_wear, .int m_spare, .int m_places, .int m_cycleNext, .int m_fault, .int m_faultPlace, .int (nI m_givers), .ref (y 3), .ref (y 4), .int m_giverNext, .int (nI m_children), .ref (y 5), .ref (y 6), .ref (y 7), .ref (y 8), .ref (y 9), .int (nI m_coats), .ref (y 10), .ref (y 11), .ref (y 12), .ref (y 13), .int m_years, .int (nI m_legacies), .ref (y 14), .ref (y 15), .ref (y 16), .ref (y 17), .int m_end, .int m_next, .int m_kind, .int m_which, .int m_place, .int m_read, .ref (y 18), .ref (y 19), .int m_readMany, .int m_readHigh, .ref (y 20), .int (nI m_insideMany), .ref (y 21), .ref (y 22), .ref (y 23), .ref (y 24), .ref (y 25)])), ((y 1), .inl (cI, 300, .inl (upd (upd (upd (upd (upd (upd (upd (upd (upd (upd (upd m_tape (m_tapeSize + 0) ((v1 >>> (nI 24 &&& 31)) &&& 255)) (m_tapeSize + 1) ((v1 >>> (nI 16 &&& 31)) &&& 255)) (m_tapeSize + 2) ((v1 >>> (nI 8 &&& 31)) &&& 255)) (m_tapeSize + 3) ((v1 >>> (nI 0 &&& 31)) &&& 255)) (m_tapeSize + 4) ((v2 >>> (nI 24 &&& 31)) &&& 255)) (m_tapeSize + 5) ((v2 >>> (nI 16 &&& 31)) &&& 255)) (m_tapeSize + 6) ((v2 >>> (nI 8 &&& 31)) &&& 255)) (m_tapeSize + 7) ((v2 >>> (nI 0 &&& 31)) &&& 255)) (m_tapeSize + 8) ((v3 >>> (nI 24 &&& 31)) &&& 255)) (m_tapeSize + 9) ((v3 >>> (nI 16 &&& 31)) &&& 255)) (m_tapeSize + 10) ((v3 >>> (nI 8 &&& 31)) &&& 255))))] := hD
    refine lv_iinc (v := 11) (lv' := [(6, .int 11), (7, .int v3), (0, .ref (y 0)), (1, .int v1), (2, .int v2), (3, .int v3), (4, .int v4), (5, .int v5)]) hx hb dX8_feed_107 hl (k := 1) rfl (by decide) (by decide) rfl (fun ls hl => ?_)
    refine lv_goto (tgt := 23) hx hb dX8_feed_110 (by decide) ?_
    refine lv_iload hx hb dX8_feed_23 (lv_at hl 0 rfl) ?_
    refine lv_bipush (v := 20) hx hb dX8_feed_25 (by decide) ?_
    refine lv_icmp_ge (tgt := 113) hx hb dX8_feed_27 (by decide) (fun h => absurd h (by decide)) (fun _ => ?_)
    refine lv_iload hx hb dX8_feed_30 (lv_at hl 0 rfl) ?_
    refine lv_iconst (v := 4) hx hb dX8_feed_32 (by decide) ?_
    refine lv_icmp_ge (tgt := 40) hx hb dX8_feed_33 (by decide) (fun _ => ?_) (fun h => absurd (by decide) h)
    refine lv_iload hx hb dX8_feed_40 (lv_at hl 0 rfl) ?_
    refine lv_bipush (v := 8) hx hb dX8_feed_42 (by decide) ?_
    refine lv_icmp_ge (tgt := 51) hx hb dX8_feed_44 (by decide) (fun _ => ?_) (fun h => absurd (by decide) h)
    refine lv_iload hx hb dX8_feed_51 (lv_at hl 0 rfl) ?_
    refine lv_bipush (v := 12) hx hb dX8_feed_53 (by decide) ?_
    refine lv_icmp_ge (tgt := 62) hx hb dX8_feed_55 (by decide) (fun h => absurd h (by decide)) (fun _ => ?_)
    refine lv_iload_n hx hb dX8_feed_58 rfl (lv_at hl 5 rfl) ?_
    refine lv_goto (tgt := 76) hx hb dX8_feed_59 (by decide) ?_
    refine lv_istore (lv' := [(7, .int v3), (6, .int 11), (0, .ref (y 0)), (1, .int v1), (2, .int v2), (3, .int v3), (4, .int v4), (5, .int v5)]) hx hb dX8_feed_76 hl (by decide) rfl (fun ls hl => ?_)
    refine lv_aload_n hx hb dX8_feed_78 rfl (lv_at hl 2 rfl) ?_
    refine va_get (D := D) (ci := 8) (v := .ref (y 1)) (C := RX8) (T := TX8) (N := 52) hx hb hts w_1 hown hK hP 0 rfl rfl 0 (by decide) w_4 (fun _ h9 => h9) rfl dX8_feed_79 ?_
    refine lv_aload_n hx hb dX8_feed_82 rfl (lv_at hl 2 rfl) ?_
    refine va_get (D := D) (ci := 8) (v := .int (nI m_tapeSize)) (C := RX8) (T := TX8) (N := 52) hx hb hts w_1 hown hK hP 0 rfl rfl 1 (by decide) w_3 (fun _ h9 => h9) rfl dX8_feed_83 ?_
    refine lv_iload hx hb dX8_feed_86 (lv_at hl 1 rfl) ?_
    refine sv_iadd (v := nI (m_tapeSize + 11)) hx hb dX8_feed_88 (ax_add m_tapeSize 11) ?_
    refine lv_iload hx hb dX8_feed_89 (lv_at hl 0 rfl) ?_
    refine lv_bipush (v := 24) hx hb dX8_feed_91 (by decide) ?_
    refine lv_bipush (v := 8) hx hb dX8_feed_93 (by decide) ?_
    refine lv_iload hx hb dX8_feed_95 (lv_at hl 1 rfl) ?_
    refine lv_iconst (v := 4) hx hb dX8_feed_97 (by decide) ?_
    refine sv_irem (v := 3) hx hb dX8_feed_98 (by decide) (by decide) ?_
    refine sv_imul (v := 24) hx hb dX8_feed_99 (by decide) ?_
    refine sv_isub (v := 0) hx hb dX8_feed_100 (by decide) ?_
    refine sv_ishr (v := v3 >>> (nI 0 &&& 31)) hx hb dX8_feed_101 rfl ?_
    refine lv_sipush (v := 255) hx hb dX8_feed_102 (by decide) ?_
    refine sv_iand (v := (v3 >>> (nI 0 &&& 31)) &&& 255) hx hb dX8_feed_105 rfl ?_
    refine sv_iast hx hb hK hP hD hS 1 1 rfl rfl (vp_in_nI (by omega) (by decide)) dX8_feed_106 (fun g_12 H locs eg_12 hP hD hS => ?_)
    have eg_12 : g_12 = upd (upd (upd (upd (upd (upd (upd (upd (upd (upd (upd (upd m_tape (m_tapeSize + 0) ((v1 >>> (nI 24 &&& 31)) &&& 255)) (m_tapeSize + 1) ((v1 >>> (nI 16 &&& 31)) &&& 255)) (m_tapeSize + 2) ((v1 >>> (nI 8 &&& 31)) &&& 255)) (m_tapeSize + 3) ((v1 >>> (nI 0 &&& 31)) &&& 255)) (m_tapeSize + 4) ((v2 >>> (nI 24 &&& 31)) &&& 255)) (m_tapeSize + 5) ((v2 >>> (nI 16 &&& 31)) &&& 255)) (m_tapeSize + 6) ((v2 >>> (nI 8 &&& 31)) &&& 255)) (m_tapeSize + 7) ((v2 >>> (nI 0 &&& 31)) &&& 255)) (m_tapeSize + 8) ((v3 >>> (nI 24 &&& 31)) &&& 255)) (m_tapeSize + 9) ((v3 >>> (nI 16 &&& 31)) &&& 255)) (m_tapeSize + 10) ((v3 >>> (nI 8 &&& 31)) &&& 255)) (m_tapeSize + 11) ((v3 >>> (nI 0 &&& 31)) &&& 255) := ist eg_12 (by omega)
    subst eg_12
    have hP : va_P D vwCl [((y 0), .inr (8, [.ref (y 1), .int (nI m_tapeSize), .int 0, .ref (y 2), .int m_cycleMany, .int m_vote, .int m_low, .int m_high, .int m_wear, .int m_spare, .int m_places, .int m_cycleNext, .int m_fault, .int m_faultPlace, .int (nI m_givers), .ref (y 3), .ref (y 4), .int m_giverNext, .int (nI m_children), .ref (y 5), .ref (y 6), .ref (y 7), .ref (y 8), .ref (y 9), .int (nI m_coats), .ref (y 10), .ref (y 11), .ref (y 12), .ref (y 13), .int m_years, .int (nI m_legacies), .ref (y 14), .ref (y 15), .ref (y 16), .ref (y 17), .int m_end, .int m_next, .int m_kind, .int m_which, .int m_place, .int m_read, .ref (y 18), .ref (y 19), .int m_readMany, .int m_readHigh, .ref (y 20), .int (nI m_insideMany), .ref (y 21), .ref (y 22), .ref (y 23), .ref (y 24), .ref (y 25)])), ((y 1), .inl (cI, 300, .inl (upd (upd (upd (upd (upd (upd (upd (upd (upd (upd (upd (upd m_tape (m_tapeSize + 0) ((v1 >>> (nI 24 &&& 31)) &&& 255)) (m_tapeSize + 1) ((v1 >>> (nI 16 &&& 31)) &&& 255)) (m_tapeSize + 2) ((v1 >>> (nI 8 &&& 31)) &&& 255)) (m_tapeSize + 3) ((v1 >>> (nI 0 &&& 31)) &&& 255)) (m_tapeSize + 4) ((v2 >>> (nI 24 &&& 31)) &&& 255)) (m_tapeSize + 5) ((v2 >>> (nI 16 &&& 31)) &&& 255)) (m_tapeSize + 6) ((v2 >>> (nI 8 &&& 31)) &&& 255)) (m_tapeSize + 7) ((v2 >>> (nI 0 &&& 31)) &&& 255)) (m_tapeSize + 8) ((v3 >>> (nI 24 &&& 31)) &&& 255)) (m_tapeSize + 9) ((v3 >>> (nI 16 &&& 31)) &&& 255)) (m_tapeSize + 10) ((v3 >>> (nI 8 &&& 31)) &&& 255)) (m_tapeSize + 11) ((v3 >>> (nI 0 &&& 31)) &&& 255))))] H := hP
    have hD : va_D A [((y 0), .inr (8, [.ref (y 1), .int (nI m_tapeSize), .int 0, .ref (y 2), .int m_cycleMany, .int m_vote, .int m_low, .int m_high, .int m_wear, .int m_spare, .int m_places, .int m_cycleNext, .int m_fault, .int m_faultPlace, .int (nI m_givers), .ref (y 3), .ref (y 4), .int m_giverNext, .int (nI m_children), .ref (y 5), .ref (y 6), .ref (y 7), .ref (y 8), .ref (y 9), .int (nI m_coats), .ref (y 10), .ref (y 11), .ref (y 12), .ref (y 13), .int m_years, .int (nI m_legacies), .ref (y 14), .ref (y 15), .ref (y 16), .ref (y 17), .int m_end, .int m_next, .int m_kind, .int m_which, .int m_place, .int m_read, .ref (y 18), .ref (y 19), .int m_readMany, .int m_readHigh, .ref (y 20), .int (nI m_insideMany), .ref (y 21), .ref (y 22), .ref (y 23), .ref (y 24), .ref (y 25)])), ((y 1), .inl (cI, 300, .inl (upd (upd (upd (upd (upd (upd (upd (upd (upd (upd (upd (upd m_tape (m_tapeSize + 0) ((v1 >>> (nI 24 &&& 31)) &&& 255)) (m_tapeSize + 1) ((v1 >>> (nI 16 &&& 31)) &&& 255)) (m_tapeSize + 2) ((v1 >>> (nI 8 &&& 31)) &&& 255)) (m_tapeSize + 3) ((v1 >>> (nI 0 &&& 31)) &&& 255)) (m_tapeSize + 4) ((v2 >>> (nI 24 &&& 31)) &&& 255)) (m_tapeSize + 5) ((v2 >>> (nI 16 &&& 31)) &&& 255)) (m_tapeSize + 6) ((v2 >>> (nI 8 &&& 31)) &&& 255)) (m_tapeSize + 7) ((v2 >>> (nI 0 &&& 31)) &&& 255)) (m_tapeSize + 8) ((v3 >>> (nI 24 &&& 31)) &&& 255)) (m_tapeSize + 9) ((v3 >>> (nI 16 &&& 31)) &&& 255)) (m_tapeSize + 10) ((v3 >>> (nI 8 &&& 31)) &&& 255)) (m_tapeSize + 11) ((v3 >>> (nI 0 &&& 31)) &&& 255))))] := hD
    refine lv_iinc (v := 12) (lv' := [(6, .int 12), (7, .int v3), (0, .ref (y 0)), (1, .int v1), (2, .int v2), (3, .int v3), (4, .int v4), (5, .int v5)]) hx hb dX8_feed_107 hl (k := 1) rfl (by decide) (by decide) rfl (fun ls hl => ?_)
    refine lv_goto (tgt := 23) hx hb dX8_feed_110 (by decide) ?_
    refine lv_iload hx hb dX8_feed_23 (lv_at hl 0 rfl) ?_
    refine lv_bipush (v := 20) hx hb dX8_feed_25 (by decide) ?_
    refine lv_icmp_ge (tgt := 113) hx hb dX8_feed_27 (by decide) (fun h => absurd h (by decide)) (fun _ => ?_)
    refine lv_iload hx hb dX8_feed_30 (lv_at hl 0 rfl) ?_
    refine lv_iconst (v := 4) hx hb dX8_feed_32 (by decide) ?_
    refine lv_icmp_ge (tgt := 40) hx hb dX8_feed_33 (by decide) (fun _ => ?_) (fun h => absurd (by decide) h)
    refine lv_iload hx hb dX8_feed_40 (lv_at hl 0 rfl) ?_
    refine lv_bipush (v := 8) hx hb dX8_feed_42 (by decide) ?_
    refine lv_icmp_ge (tgt := 51) hx hb dX8_feed_44 (by decide) (fun _ => ?_) (fun h => absurd (by decide) h)
    refine lv_iload hx hb dX8_feed_51 (lv_at hl 0 rfl) ?_
    refine lv_bipush (v := 12) hx hb dX8_feed_53 (by decide) ?_
    refine lv_icmp_ge (tgt := 62) hx hb dX8_feed_55 (by decide) (fun _ => ?_) (fun h => absurd (by decide) h)
    refine lv_iload hx hb dX8_feed_62 (lv_at hl 0 rfl) ?_
    refine lv_bipush (v := 16) hx hb dX8_feed_64 (by decide) ?_
    refine lv_icmp_ge (tgt := 74) hx hb dX8_feed_66 (by decide) (fun h => absurd h (by decide)) (fun _ => ?_)
    refine lv_iload hx hb dX8_feed_69 (lv_at hl 6 rfl) ?_
    refine lv_goto (tgt := 76) hx hb dX8_feed_71 (by decide) ?_
    refine lv_istore (lv' := [(7, .int v4), (6, .int 12), (0, .ref (y 0)), (1, .int v1), (2, .int v2), (3, .int v3), (4, .int v4), (5, .int v5)]) hx hb dX8_feed_76 hl (by decide) rfl (fun ls hl => ?_)
    refine lv_aload_n hx hb dX8_feed_78 rfl (lv_at hl 2 rfl) ?_
    refine va_get (D := D) (ci := 8) (v := .ref (y 1)) (C := RX8) (T := TX8) (N := 52) hx hb hts w_1 hown hK hP 0 rfl rfl 0 (by decide) w_4 (fun _ h9 => h9) rfl dX8_feed_79 ?_
    refine lv_aload_n hx hb dX8_feed_82 rfl (lv_at hl 2 rfl) ?_
    refine va_get (D := D) (ci := 8) (v := .int (nI m_tapeSize)) (C := RX8) (T := TX8) (N := 52) hx hb hts w_1 hown hK hP 0 rfl rfl 1 (by decide) w_3 (fun _ h9 => h9) rfl dX8_feed_83 ?_
    refine lv_iload hx hb dX8_feed_86 (lv_at hl 1 rfl) ?_
    refine sv_iadd (v := nI (m_tapeSize + 12)) hx hb dX8_feed_88 (ax_add m_tapeSize 12) ?_
    refine lv_iload hx hb dX8_feed_89 (lv_at hl 0 rfl) ?_
    refine lv_bipush (v := 24) hx hb dX8_feed_91 (by decide) ?_
    refine lv_bipush (v := 8) hx hb dX8_feed_93 (by decide) ?_
    refine lv_iload hx hb dX8_feed_95 (lv_at hl 1 rfl) ?_
    refine lv_iconst (v := 4) hx hb dX8_feed_97 (by decide) ?_
    refine sv_irem (v := 0) hx hb dX8_feed_98 (by decide) (by decide) ?_
    refine sv_imul (v := 0) hx hb dX8_feed_99 (by decide) ?_
    refine sv_isub (v := 24) hx hb dX8_feed_100 (by decide) ?_
    refine sv_ishr (v := v4 >>> (nI 24 &&& 31)) hx hb dX8_feed_101 rfl ?_
    refine lv_sipush (v := 255) hx hb dX8_feed_102 (by decide) ?_
    refine sv_iand (v := (v4 >>> (nI 24 &&& 31)) &&& 255) hx hb dX8_feed_105 rfl ?_
    refine sv_iast hx hb hK hP hD hS 1 1 rfl rfl (vp_in_nI (by omega) (by decide)) dX8_feed_106 (fun g_13 H locs eg_13 hP hD hS => ?_)
    have eg_13 : g_13 = upd (upd (upd (upd (upd (upd (upd (upd (upd (upd (upd (upd (upd m_tape (m_tapeSize + 0) ((v1 >>> (nI 24 &&& 31)) &&& 255)) (m_tapeSize + 1) ((v1 >>> (nI 16 &&& 31)) &&& 255)) (m_tapeSize + 2) ((v1 >>> (nI 8 &&& 31)) &&& 255)) (m_tapeSize + 3) ((v1 >>> (nI 0 &&& 31)) &&& 255)) (m_tapeSize + 4) ((v2 >>> (nI 24 &&& 31)) &&& 255)) (m_tapeSize + 5) ((v2 >>> (nI 16 &&& 31)) &&& 255)) (m_tapeSize + 6) ((v2 >>> (nI 8 &&& 31)) &&& 255)) (m_tapeSize + 7) ((v2 >>> (nI 0 &&& 31)) &&& 255)) (m_tapeSize + 8) ((v3 >>> (nI 24 &&& 31)) &&& 255)) (m_tapeSize + 9) ((v3 >>> (nI 16 &&& 31)) &&& 255)) (m_tapeSize + 10) ((v3 >>> (nI 8 &&& 31)) &&& 255)) (m_tapeSize + 11) ((v3 >>> (nI 0 &&& 31)) &&& 255)) (m_tapeSize + 12) ((v4 >>> (nI 24 &&& 31)) &&& 255) := ist eg_13 (by omega)
    subst eg_13
    have hP : va_P D vwCl [((y 0), .inr (8, [.ref (y 1), .int (nI m_tapeSize), .int 0, .ref (y 2), .int m_cycleMany, .int m_vote, .int m_low, .int m_high, .int m_wear, .int m_spare, .int m_places, .int m_cycleNext, .int m_fault, .int m_faultPlace, .int (nI m_givers), .ref (y 3), .ref (y 4), .int m_giverNext, .int (nI m_children), .ref (y 5), .ref (y 6), .ref (y 7), .ref (y 8), .ref (y 9), .int (nI m_coats), .ref (y 10), .ref (y 11), .ref (y 12), .ref (y 13), .int m_years, .int (nI m_legacies), .ref (y 14), .ref (y 15), .ref (y 16), .ref (y 17), .int m_end, .int m_next, .int m_kind, .int m_which, .int m_place, .int m_read, .ref (y 18), .ref (y 19), .int m_readMany, .int m_readHigh, .ref (y 20), .int (nI m_insideMany), .ref (y 21), .ref (y 22), .ref (y 23), .ref (y 24), .ref (y 25)])), ((y 1), .inl (cI, 300, .inl (upd (upd (upd (upd (upd (upd (upd (upd (upd (upd (upd (upd (upd m_tape (m_tapeSize + 0) ((v1 >>> (nI 24 &&& 31)) &&& 255)) (m_tapeSize + 1) ((v1 >>> (nI 16 &&& 31)) &&& 255)) (m_tapeSize + 2) ((v1 >>> (nI 8 &&& 31)) &&& 255)) (m_tapeSize + 3) ((v1 >>> (nI 0 &&& 31)) &&& 255)) (m_tapeSize + 4) ((v2 >>> (nI 24 &&& 31)) &&& 255)) (m_tapeSize + 5) ((v2 >>> (nI 16 &&& 31)) &&& 255)) (m_tapeSize + 6) ((v2 >>> (nI 8 &&& 31)) &&& 255)) (m_tapeSize + 7) ((v2 >>> (nI 0 &&& 31)) &&& 255)) (m_tapeSize + 8) ((v3 >>> (nI 24 &&& 31)) &&& 255)) (m_tapeSize + 9) ((v3 >>> (nI 16 &&& 31)) &&& 255)) (m_tapeSize + 10) ((v3 >>> (nI 8 &&& 31)) &&& 255)) (m_tapeSize + 11) ((v3 >>> (nI 0 &&& 31)) &&& 255)) (m_tapeSize + 12) ((v4 >>> (nI 24 &&& 31)) &&& 255))))] H := hP
    have hD : va_D A [((y 0), .inr (8, [.ref (y 1), .int (nI m_tapeSize), .int 0, .ref (y 2), .int m_cycleMany, .int m_vote, .int m_low, .int m_high, .int m_wear, .int m_spare, .int m_places, .int m_cycleNext, .int m_fault, .int m_faultPlace, .int (nI m_givers), .ref (y 3), .ref (y 4), .int m_giverNext, .int (nI m_children), .ref (y 5), .ref (y 6), .ref (y 7), .ref (y 8), .ref (y 9), .int (nI m_coats), .ref (y 10), .ref (y 11), .ref (y 12), .ref (y 13), .int m_years, .int (nI m_legacies), .ref (y 14), .ref (y 15), .ref (y 16), .ref (y 17), .int m_end, .int m_next, .int m_kind, .int m_which, .int m_place, .int m_read, .ref (y 18), .ref (y 19), .int m_readMany, .int m_readHigh, .ref (y 20), .int (nI m_insideMany), .ref (y 21), .ref (y 22), .ref (y 23), .ref (y 24), .ref (y 25)])), ((y 1), .inl (cI, 300, .inl (upd (upd (upd (upd (upd (upd (upd (upd (upd (upd (upd (upd (upd m_tape (m_tapeSize + 0) ((v1 >>> (nI 24 &&& 31)) &&& 255)) (m_tapeSize + 1) ((v1 >>> (nI 16 &&& 31)) &&& 255)) (m_tapeSize + 2) ((v1 >>> (nI 8 &&& 31)) &&& 255)) (m_tapeSize + 3) ((v1 >>> (nI 0 &&& 31)) &&& 255)) (m_tapeSize + 4) ((v2 >>> (nI 24 &&& 31)) &&& 255)) (m_tapeSize + 5) ((v2 >>> (nI 16 &&& 31)) &&& 255)) (m_tapeSize + 6) ((v2 >>> (nI 8 &&& 31)) &&& 255)) (m_tapeSize + 7) ((v2 >>> (nI 0 &&& 31)) &&& 255)) (m_tapeSize + 8) ((v3 >>> (nI 24 &&& 31)) &&& 255)) (m_tapeSize + 9) ((v3 >>> (nI 16 &&& 31)) &&& 255)) (m_tapeSize + 10) ((v3 >>> (nI 8 &&& 31)) &&& 255)) (m_tapeSize + 11) ((v3 >>> (nI 0 &&& 31)) &&& 255)) (m_tapeSize + 12) ((v4 >>> (nI 24 &&& 31)) &&& 255))))] := hD
    refine lv_iinc (v := 13) (lv' := [(6, .int 13), (7, .int v4), (0, .ref (y 0)), (1, .int v1), (2, .int v2), (3, .int v3), (4, .int v4), (5, .int v5)]) hx hb dX8_feed_107 hl (k := 1) rfl (by decide) (by decide) rfl (fun ls hl => ?_)
    refine lv_goto (tgt := 23) hx hb dX8_feed_110 (by decide) ?_
    refine lv_iload hx hb dX8_feed_23 (lv_at hl 0 rfl) ?_
    refine lv_bipush (v := 20) hx hb dX8_feed_25 (by decide) ?_
    refine lv_icmp_ge (tgt := 113) hx hb dX8_feed_27 (by decide) (fun h => absurd h (by decide)) (fun _ => ?_)
    refine lv_iload hx hb dX8_feed_30 (lv_at hl 0 rfl) ?_
    refine lv_iconst (v := 4) hx hb dX8_feed_32 (by decide) ?_
    refine lv_icmp_ge (tgt := 40) hx hb dX8_feed_33 (by decide) (fun _ => ?_) (fun h => absurd (by decide) h)
    refine lv_iload hx hb dX8_feed_40 (lv_at hl 0 rfl) ?_
    refine lv_bipush (v := 8) hx hb dX8_feed_42 (by decide) ?_
    refine lv_icmp_ge (tgt := 51) hx hb dX8_feed_44 (by decide) (fun _ => ?_) (fun h => absurd (by decide) h)
    refine lv_iload hx hb dX8_feed_51 (lv_at hl 0 rfl) ?_
    refine lv_bipush (v := 12) hx hb dX8_feed_53 (by decide) ?_
    refine lv_icmp_ge (tgt := 62) hx hb dX8_feed_55 (by decide) (fun _ => ?_) (fun h => absurd (by decide) h)
    refine lv_iload hx hb dX8_feed_62 (lv_at hl 0 rfl) ?_
    refine lv_bipush (v := 16) hx hb dX8_feed_64 (by decide) ?_
    refine lv_icmp_ge (tgt := 74) hx hb dX8_feed_66 (by decide) (fun h => absurd h (by decide)) (fun _ => ?_)
    refine lv_iload hx hb dX8_feed_69 (lv_at hl 6 rfl) ?_
    refine lv_goto (tgt := 76) hx hb dX8_feed_71 (by decide) ?_
    refine lv_istore (lv' := [(7, .int v4), (6, .int 13), (0, .ref (y 0)), (1, .int v1), (2, .int v2), (3, .int v3), (4, .int v4), (5, .int v5)]) hx hb dX8_feed_76 hl (by decide) rfl (fun ls hl => ?_)
    refine lv_aload_n hx hb dX8_feed_78 rfl (lv_at hl 2 rfl) ?_
    refine va_get (D := D) (ci := 8) (v := .ref (y 1)) (C := RX8) (T := TX8) (N := 52) hx hb hts w_1 hown hK hP 0 rfl rfl 0 (by decide) w_4 (fun _ h9 => h9) rfl dX8_feed_79 ?_
    refine lv_aload_n hx hb dX8_feed_82 rfl (lv_at hl 2 rfl) ?_
    refine va_get (D := D) (ci := 8) (v := .int (nI m_tapeSize)) (C := RX8) (T := TX8) (N := 52) hx hb hts w_1 hown hK hP 0 rfl rfl 1 (by decide) w_3 (fun _ h9 => h9) rfl dX8_feed_83 ?_
    refine lv_iload hx hb dX8_feed_86 (lv_at hl 1 rfl) ?_
    refine sv_iadd (v := nI (m_tapeSize + 13)) hx hb dX8_feed_88 (ax_add m_tapeSize 13) ?_
    refine lv_iload hx hb dX8_feed_89 (lv_at hl 0 rfl) ?_
    refine lv_bipush (v := 24) hx hb dX8_feed_91 (by decide) ?_
    refine lv_bipush (v := 8) hx hb dX8_feed_93 (by decide) ?_
    refine lv_iload hx hb dX8_feed_95 (lv_at hl 1 rfl) ?_
    refine lv_iconst (v := 4) hx hb dX8_feed_97 (by decide) ?_
    refine sv_irem (v := 1) hx hb dX8_feed_98 (by decide) (by decide) ?_
    refine sv_imul (v := 8) hx hb dX8_feed_99 (by decide) ?_
    refine sv_isub (v := 16) hx hb dX8_feed_100 (by decide) ?_
    refine sv_ishr (v := v4 >>> (nI 16 &&& 31)) hx hb dX8_feed_101 rfl ?_
    refine lv_sipush (v := 255) hx hb dX8_feed_102 (by decide) ?_
    refine sv_iand (v := (v4 >>> (nI 16 &&& 31)) &&& 255) hx hb dX8_feed_105 rfl ?_
    refine sv_iast hx hb hK hP hD hS 1 1 rfl rfl (vp_in_nI (by omega) (by decide)) dX8_feed_106 (fun g_14 H locs eg_14 hP hD hS => ?_)
    have eg_14 : g_14 = upd (upd (upd (upd (upd (upd (upd (upd (upd (upd (upd (upd (upd (upd m_tape (m_tapeSize + 0) ((v1 >>> (nI 24 &&& 31)) &&& 255)) (m_tapeSize + 1) ((v1 >>> (nI 16 &&& 31)) &&& 255)) (m_tapeSize + 2) ((v1 >>> (nI 8 &&& 31)) &&& 255)) (m_tapeSize + 3) ((v1 >>> (nI 0 &&& 31)) &&& 255)) (m_tapeSize + 4) ((v2 >>> (nI 24 &&& 31)) &&& 255)) (m_tapeSize + 5) ((v2 >>> (nI 16 &&& 31)) &&& 255)) (m_tapeSize + 6) ((v2 >>> (nI 8 &&& 31)) &&& 255)) (m_tapeSize + 7) ((v2 >>> (nI 0 &&& 31)) &&& 255)) (m_tapeSize + 8) ((v3 >>> (nI 24 &&& 31)) &&& 255)) (m_tapeSize + 9) ((v3 >>> (nI 16 &&& 31)) &&& 255)) (m_tapeSize + 10) ((v3 >>> (nI 8 &&& 31)) &&& 255)) (m_tapeSize + 11) ((v3 >>> (nI 0 &&& 31)) &&& 255)) (m_tapeSize + 12) ((v4 >>> (nI 24 &&& 31)) &&& 255)) (m_tapeSize + 13) ((v4 >>> (nI 16 &&& 31)) &&& 255) := ist eg_14 (by omega)
    subst eg_14
    have hP : va_P D vwCl [((y 0), .inr (8, [.ref (y 1), .int (nI m_tapeSize), .int 0, .ref (y 2), .int m_cycleMany, .int m_vote, .int m_low, .int m_high, .int m_wear, .int m_spare, .int m_places, .int m_cycleNext, .int m_fault, .int m_faultPlace, .int (nI m_givers), .ref (y 3), .ref (y 4), .int m_giverNext, .int (nI m_children), .ref (y 5), .ref (y 6), .ref (y 7), .ref (y 8), .ref (y 9), .int (nI m_coats), .ref (y 10), .ref (y 11), .ref (y 12), .ref (y 13), .int m_years, .int (nI m_legacies), .ref (y 14), .ref (y 15), .ref (y 16), .ref (y 17), .int m_end, .int m_next, .int m_kind, .int m_which, .int m_place, .int m_read, .ref (y 18), .ref (y 19), .int m_readMany, .int m_readHigh, .ref (y 20), .int (nI m_insideMany), .ref (y 21), .ref (y 22), .ref (y 23), .ref (y 24), .ref (y 25)])), ((y 1), .inl (cI, 300, .inl (upd (upd (upd (upd (upd (upd (upd (upd (upd (upd (upd (upd (upd (upd m_tape (m_tapeSize + 0) ((v1 >>> (nI 24 &&& 31)) &&& 255)) (m_tapeSize + 1) ((v1 >>> (nI 16 &&& 31)) &&& 255)) (m_tapeSize + 2) ((v1 >>> (nI 8 &&& 31)) &&& 255)) (m_tapeSize + 3) ((v1 >>> (nI 0 &&& 31)) &&& 255)) (m_tapeSize + 4) ((v2 >>> (nI 24 &&& 31)) &&& 255)) (m_tapeSize + 5) ((v2 >>> (nI 16 &&& 31)) &&& 255)) (m_tapeSize + 6) ((v2 >>> (nI 8 &&& 31)) &&& 255)) (m_tapeSize + 7) ((v2 >>> (nI 0 &&& 31)) &&& 255)) (m_tapeSize + 8) ((v3 >>> (nI 24 &&& 31)) &&& 255)) (m_tapeSize + 9) ((v3 >>> (nI 16 &&& 31)) &&& 255)) (m_tapeSize + 10) ((v3 >>> (nI 8 &&& 31)) &&& 255)) (m_tapeSize + 11) ((v3 >>> (nI 0 &&& 31)) &&& 255)) (m_tapeSize + 12) ((v4 >>> (nI 24 &&& 31)) &&& 255)) (m_tapeSize + 13) ((v4 >>> (nI 16 &&& 31)) &&& 255))))] H := hP
    have hD : va_D A [((y 0), .inr (8, [.ref (y 1), .int (nI m_tapeSize), .int 0, .ref (y 2), .int m_cycleMany, .int m_vote, .int m_low, .int m_high, .int m_wear, .int m_spare, .int m_places, .int m_cycleNext, .int m_fault, .int m_faultPlace, .int (nI m_givers), .ref (y 3), .ref (y 4), .int m_giverNext, .int (nI m_children), .ref (y 5), .ref (y 6), .ref (y 7), .ref (y 8), .ref (y 9), .int (nI m_coats), .ref (y 10), .ref (y 11), .ref (y 12), .ref (y 13), .int m_years, .int (nI m_legacies), .ref (y 14), .ref (y 15), .ref (y 16), .ref (y 17), .int m_end, .int m_next, .int m_kind, .int m_which, .int m_place, .int m_read, .ref (y 18), .ref (y 19), .int m_readMany, .int m_readHigh, .ref (y 20), .int (nI m_insideMany), .ref (y 21), .ref (y 22), .ref (y 23), .ref (y 24), .ref (y 25)])), ((y 1), .inl (cI, 300, .inl (upd (upd (upd (upd (upd (upd (upd (upd (upd (upd (upd (upd (upd (upd m_tape (m_tapeSize + 0) ((v1 >>> (nI 24 &&& 31)) &&& 255)) (m_tapeSize + 1) ((v1 >>> (nI 16 &&& 31)) &&& 255)) (m_tapeSize + 2) ((v1 >>> (nI 8 &&& 31)) &&& 255)) (m_tapeSize + 3) ((v1 >>> (nI 0 &&& 31)) &&& 255)) (m_tapeSize + 4) ((v2 >>> (nI 24 &&& 31)) &&& 255)) (m_tapeSize + 5) ((v2 >>> (nI 16 &&& 31)) &&& 255)) (m_tapeSize + 6) ((v2 >>> (nI 8 &&& 31)) &&& 255)) (m_tapeSize + 7) ((v2 >>> (nI 0 &&& 31)) &&& 255)) (m_tapeSize + 8) ((v3 >>> (nI 24 &&& 31)) &&& 255)) (m_tapeSize + 9) ((v3 >>> (nI 16 &&& 31)) &&& 255)) (m_tapeSize + 10) ((v3 >>> (nI 8 &&& 31)) &&& 255)) (m_tapeSize + 11) ((v3 >>> (nI 0 &&& 31)) &&& 255)) (m_tapeSize + 12) ((v4 >>> (nI 24 &&& 31)) &&& 255)) (m_tapeSize + 13) ((v4 >>> (nI 16 &&& 31)) &&& 255))))] := hD
    refine lv_iinc (v := 14) (lv' := [(6, .int 14), (7, .int v4), (0, .ref (y 0)), (1, .int v1), (2, .int v2), (3, .int v3), (4, .int v4), (5, .int v5)]) hx hb dX8_feed_107 hl (k := 1) rfl (by decide) (by decide) rfl (fun ls hl => ?_)
    refine lv_goto (tgt := 23) hx hb dX8_feed_110 (by decide) ?_
    refine lv_iload hx hb dX8_feed_23 (lv_at hl 0 rfl) ?_
    refine lv_bipush (v := 20) hx hb dX8_feed_25 (by decide) ?_
    refine lv_icmp_ge (tgt := 113) hx hb dX8_feed_27 (by decide) (fun h => absurd h (by decide)) (fun _ => ?_)
    refine lv_iload hx hb dX8_feed_30 (lv_at hl 0 rfl) ?_
    refine lv_iconst (v := 4) hx hb dX8_feed_32 (by decide) ?_
    refine lv_icmp_ge (tgt := 40) hx hb dX8_feed_33 (by decide) (fun _ => ?_) (fun h => absurd (by decide) h)
    refine lv_iload hx hb dX8_feed_40 (lv_at hl 0 rfl) ?_
    refine lv_bipush (v := 8) hx hb dX8_feed_42 (by decide) ?_
    refine lv_icmp_ge (tgt := 51) hx hb dX8_feed_44 (by decide) (fun _ => ?_) (fun h => absurd (by decide) h)
    refine lv_iload hx hb dX8_feed_51 (lv_at hl 0 rfl) ?_
    refine lv_bipush (v := 12) hx hb dX8_feed_53 (by decide) ?_
    refine lv_icmp_ge (tgt := 62) hx hb dX8_feed_55 (by decide) (fun _ => ?_) (fun h => absurd (by decide) h)
    refine lv_iload hx hb dX8_feed_62 (lv_at hl 0 rfl) ?_
    refine lv_bipush (v := 16) hx hb dX8_feed_64 (by decide) ?_
    refine lv_icmp_ge (tgt := 74) hx hb dX8_feed_66 (by decide) (fun h => absurd h (by decide)) (fun _ => ?_)
    refine lv_iload hx hb dX8_feed_69 (lv_at hl 6 rfl) ?_
    refine lv_goto (tgt := 76) hx hb dX8_feed_71 (by decide) ?_
    refine lv_istore (lv' := [(7, .int v4), (6, .int 14), (0, .ref (y 0)), (1, .int v1), (2, .int v2), (3, .int v3), (4, .int v4), (5, .int v5)]) hx hb dX8_feed_76 hl (by decide) rfl (fun ls hl => ?_)
    refine lv_aload_n hx hb dX8_feed_78 rfl (lv_at hl 2 rfl) ?_
    refine va_get (D := D) (ci := 8) (v := .ref (y 1)) (C := RX8) (T := TX8) (N := 52) hx hb hts w_1 hown hK hP 0 rfl rfl 0 (by decide) w_4 (fun _ h9 => h9) rfl dX8_feed_79 ?_
    refine lv_aload_n hx hb dX8_feed_82 rfl (lv_at hl 2 rfl) ?_
    refine va_get (D := D) (ci := 8) (v := .int (nI m_tapeSize)) (C := RX8) (T := TX8) (N := 52) hx hb hts w_1 hown hK hP 0 rfl rfl 1 (by decide) w_3 (fun _ h9 => h9) rfl dX8_feed_83 ?_
    refine lv_iload hx hb dX8_feed_86 (lv_at hl 1 rfl) ?_
    refine sv_iadd (v := nI (m_tapeSize + 14)) hx hb dX8_feed_88 (ax_add m_tapeSize 14) ?_
    refine lv_iload hx hb dX8_feed_89 (lv_at hl 0 rfl) ?_
    refine lv_bipush (v := 24) hx hb dX8_feed_91 (by decide) ?_
    refine lv_bipush (v := 8) hx hb dX8_feed_93 (by decide) ?_
    refine lv_iload hx hb dX8_feed_95 (lv_at hl 1 rfl) ?_
    refine lv_iconst (v := 4) hx hb dX8_feed_97 (by decide) ?_
    refine sv_irem (v := 2) hx hb dX8_feed_98 (by decide) (by decide) ?_
    refine sv_imul (v := 16) hx hb dX8_feed_99 (by decide) ?_
    refine sv_isub (v := 8) hx hb dX8_feed_100 (by decide) ?_
    refine sv_ishr (v := v4 >>> (nI 8 &&& 31)) hx hb dX8_feed_101 rfl ?_
    refine lv_sipush (v := 255) hx hb dX8_feed_102 (by decide) ?_
    refine sv_iand (v := (v4 >>> (nI 8 &&& 31)) &&& 255) hx hb dX8_feed_105 rfl ?_
    refine sv_iast hx hb hK hP hD hS 1 1 rfl rfl (vp_in_nI (by omega) (by decide)) dX8_feed_106 (fun g_15 H locs eg_15 hP hD hS => ?_)
    have eg_15 : g_15 = upd (upd (upd (upd (upd (upd (upd (upd (upd (upd (upd (upd (upd (upd (upd m_tape (m_tapeSize + 0) ((v1 >>> (nI 24 &&& 31)) &&& 255)) (m_tapeSize + 1) ((v1 >>> (nI 16 &&& 31)) &&& 255)) (m_tapeSize + 2) ((v1 >>> (nI 8 &&& 31)) &&& 255)) (m_tapeSize + 3) ((v1 >>> (nI 0 &&& 31)) &&& 255)) (m_tapeSize + 4) ((v2 >>> (nI 24 &&& 31)) &&& 255)) (m_tapeSize + 5) ((v2 >>> (nI 16 &&& 31)) &&& 255)) (m_tapeSize + 6) ((v2 >>> (nI 8 &&& 31)) &&& 255)) (m_tapeSize + 7) ((v2 >>> (nI 0 &&& 31)) &&& 255)) (m_tapeSize + 8) ((v3 >>> (nI 24 &&& 31)) &&& 255)) (m_tapeSize + 9) ((v3 >>> (nI 16 &&& 31)) &&& 255)) (m_tapeSize + 10) ((v3 >>> (nI 8 &&& 31)) &&& 255)) (m_tapeSize + 11) ((v3 >>> (nI 0 &&& 31)) &&& 255)) (m_tapeSize + 12) ((v4 >>> (nI 24 &&& 31)) &&& 255)) (m_tapeSize + 13) ((v4 >>> (nI 16 &&& 31)) &&& 255)) (m_tapeSize + 14) ((v4 >>> (nI 8 &&& 31)) &&& 255) := ist eg_15 (by omega)
    subst eg_15
    have hP : va_P D vwCl [((y 0), .inr (8, [.ref (y 1), .int (nI m_tapeSize), .int 0, .ref (y 2), .int m_cycleMany, .int m_vote, .int m_low, .int m_high, .int m_wear, .int m_spare, .int m_places, .int m_cycleNext, .int m_fault, .int m_faultPlace, .int (nI m_givers), .ref (y 3), .ref (y 4), .int m_giverNext, .int (nI m_children), .ref (y 5), .ref (y 6), .ref (y 7), .ref (y 8), .ref (y 9), .int (nI m_coats), .ref (y 10), .ref (y 11), .ref (y 12), .ref (y 13), .int m_years, .int (nI m_legacies), .ref (y 14), .ref (y 15), .ref (y 16), .ref (y 17), .int m_end, .int m_next, .int m_kind, .int m_which, .int m_place, .int m_read, .ref (y 18), .ref (y 19), .int m_readMany, .int m_readHigh, .ref (y 20), .int (nI m_insideMany), .ref (y 21), .ref (y 22), .ref (y 23), .ref (y 24), .ref (y 25)])), ((y 1), .inl (cI, 300, .inl (upd (upd (upd (upd (upd (upd (upd (upd (upd (upd (upd (upd (upd (upd (upd m_tape (m_tapeSize + 0) ((v1 >>> (nI 24 &&& 31)) &&& 255)) (m_tapeSize + 1) ((v1 >>> (nI 16 &&& 31)) &&& 255)) (m_tapeSize + 2) ((v1 >>> (nI 8 &&& 31)) &&& 255)) (m_tapeSize + 3) ((v1 >>> (nI 0 &&& 31)) &&& 255)) (m_tapeSize + 4) ((v2 >>> (nI 24 &&& 31)) &&& 255)) (m_tapeSize + 5) ((v2 >>> (nI 16 &&& 31)) &&& 255)) (m_tapeSize + 6) ((v2 >>> (nI 8 &&& 31)) &&& 255)) (m_tapeSize + 7) ((v2 >>> (nI 0 &&& 31)) &&& 255)) (m_tapeSize + 8) ((v3 >>> (nI 24 &&& 31)) &&& 255)) (m_tapeSize + 9) ((v3 >>> (nI 16 &&& 31)) &&& 255)) (m_tapeSize + 10) ((v3 >>> (nI 8 &&& 31)) &&& 255)) (m_tapeSize + 11) ((v3 >>> (nI 0 &&& 31)) &&& 255)) (m_tapeSize + 12) ((v4 >>> (nI 24 &&& 31)) &&& 255)) (m_tapeSize + 13) ((v4 >>> (nI 16 &&& 31)) &&& 255)) (m_tapeSize + 14) ((v4 >>> (nI 8 &&& 31)) &&& 255))))] H := hP
    have hD : va_D A [((y 0), .inr (8, [.ref (y 1), .int (nI m_tapeSize), .int 0, .ref (y 2), .int m_cycleMany, .int m_vote, .int m_low, .int m_high, .int m_wear, .int m_spare, .int m_places, .int m_cycleNext, .int m_fault, .int m_faultPlace, .int (nI m_givers), .ref (y 3), .ref (y 4), .int m_giverNext, .int (nI m_children), .ref (y 5), .ref (y 6), .ref (y 7), .ref (y 8), .ref (y 9), .int (nI m_coats), .ref (y 10), .ref (y 11), .ref (y 12), .ref (y 13), .int m_years, .int (nI m_legacies), .ref (y 14), .ref (y 15), .ref (y 16), .ref (y 17), .int m_end, .int m_next, .int m_kind, .int m_which, .int m_place, .int m_read, .ref (y 18), .ref (y 19), .int m_readMany, .int m_readHigh, .ref (y 20), .int (nI m_insideMany), .ref (y 21), .ref (y 22), .ref (y 23), .ref (y 24), .ref (y 25)])), ((y 1), .inl (cI, 300, .inl (upd (upd (upd (upd (upd (upd (upd (upd (upd (upd (upd (upd (upd (upd (upd m_tape (m_tapeSize + 0) ((v1 >>> (nI 24 &&& 31)) &&& 255)) (m_tapeSize + 1) ((v1 >>> (nI 16 &&& 31)) &&& 255)) (m_tapeSize + 2) ((v1 >>> (nI 8 &&& 31)) &&& 255)) (m_tapeSize + 3) ((v1 >>> (nI 0 &&& 31)) &&& 255)) (m_tapeSize + 4) ((v2 >>> (nI 24 &&& 31)) &&& 255)) (m_tapeSize + 5) ((v2 >>> (nI 16 &&& 31)) &&& 255)) (m_tapeSize + 6) ((v2 >>> (nI 8 &&& 31)) &&& 255)) (m_tapeSize + 7) ((v2 >>> (nI 0 &&& 31)) &&& 255)) (m_tapeSize + 8) ((v3 >>> (nI 24 &&& 31)) &&& 255)) (m_tapeSize + 9) ((v3 >>> (nI 16 &&& 31)) &&& 255)) (m_tapeSize + 10) ((v3 >>> (nI 8 &&& 31)) &&& 255)) (m_tapeSize + 11) ((v3 >>> (nI 0 &&& 31)) &&& 255)) (m_tapeSize + 12) ((v4 >>> (nI 24 &&& 31)) &&& 255)) (m_tapeSize + 13) ((v4 >>> (nI 16 &&& 31)) &&& 255)) (m_tapeSize + 14) ((v4 >>> (nI 8 &&& 31)) &&& 255))))] := hD
    refine lv_iinc (v := 15) (lv' := [(6, .int 15), (7, .int v4), (0, .ref (y 0)), (1, .int v1), (2, .int v2), (3, .int v3), (4, .int v4), (5, .int v5)]) hx hb dX8_feed_107 hl (k := 1) rfl (by decide) (by decide) rfl (fun ls hl => ?_)
    refine lv_goto (tgt := 23) hx hb dX8_feed_110 (by decide) ?_
    refine lv_iload hx hb dX8_feed_23 (lv_at hl 0 rfl) ?_
    refine lv_bipush (v := 20) hx hb dX8_feed_25 (by decide) ?_
    refine lv_icmp_ge (tgt := 113) hx hb dX8_feed_27 (by decide) (fun h => absurd h (by decide)) (fun _ => ?_)
    refine lv_iload hx hb dX8_feed_30 (lv_at hl 0 rfl) ?_
    refine lv_iconst (v := 4) hx hb dX8_feed_32 (by decide) ?_
    refine lv_icmp_ge (tgt := 40) hx hb dX8_feed_33 (by decide) (fun _ => ?_) (fun h => absurd (by decide) h)
    refine lv_iload hx hb dX8_feed_40 (lv_at hl 0 rfl) ?_
    refine lv_bipush (v := 8) hx hb dX8_feed_42 (by decide) ?_
    refine lv_icmp_ge (tgt := 51) hx hb dX8_feed_44 (by decide) (fun _ => ?_) (fun h => absurd (by decide) h)
    refine lv_iload hx hb dX8_feed_51 (lv_at hl 0 rfl) ?_
    refine lv_bipush (v := 12) hx hb dX8_feed_53 (by decide) ?_
    refine lv_icmp_ge (tgt := 62) hx hb dX8_feed_55 (by decide) (fun _ => ?_) (fun h => absurd (by decide) h)
    refine lv_iload hx hb dX8_feed_62 (lv_at hl 0 rfl) ?_
    refine lv_bipush (v := 16) hx hb dX8_feed_64 (by decide) ?_
    refine lv_icmp_ge (tgt := 74) hx hb dX8_feed_66 (by decide) (fun h => absurd h (by decide)) (fun _ => ?_)
    refine lv_iload hx hb dX8_feed_69 (lv_at hl 6 rfl) ?_
    refine lv_goto (tgt := 76) hx hb dX8_feed_71 (by decide) ?_
    refine lv_istore (lv' := [(7, .int v4), (6, .int 15), (0, .ref (y 0)), (1, .int v1), (2, .int v2), (3, .int v3), (4, .int v4), (5, .int v5)]) hx hb dX8_feed_76 hl (by decide) rfl (fun ls hl => ?_)
    refine lv_aload_n hx hb dX8_feed_78 rfl (lv_at hl 2 rfl) ?_
    refine va_get (D := D) (ci := 8) (v := .ref (y 1)) (C := RX8) (T := TX8) (N := 52) hx hb hts w_1 hown hK hP 0 rfl rfl 0 (by decide) w_4 (fun _ h9 => h9) rfl dX8_feed_79 ?_
    refine lv_aload_n hx hb dX8_feed_82 rfl (lv_at hl 2 rfl) ?_
    refine va_get (D := D) (ci := 8) (v := .int (nI m_tapeSize)) (C := RX8) (T := TX8) (N := 52) hx hb hts w_1 hown hK hP 0 rfl rfl 1 (by decide) w_3 (fun _ h9 => h9) rfl dX8_feed_83 ?_
    refine lv_iload hx hb dX8_feed_86 (lv_at hl 1 rfl) ?_
    refine sv_iadd (v := nI (m_tapeSize + 15)) hx hb dX8_feed_88 (ax_add m_tapeSize 15) ?_
    refine lv_iload hx hb dX8_feed_89 (lv_at hl 0 rfl) ?_
    refine lv_bipush (v := 24) hx hb dX8_feed_91 (by decide) ?_
    refine lv_bipush (v := 8) hx hb dX8_feed_93 (by decide) ?_
    refine lv_iload hx hb dX8_feed_95 (lv_at hl 1 rfl) ?_
    refine lv_iconst (v := 4) hx hb dX8_feed_97 (by decide) ?_
    refine sv_irem (v := 3) hx hb dX8_feed_98 (by decide) (by decide) ?_
    refine sv_imul (v := 24) hx hb dX8_feed_99 (by decide) ?_
    refine sv_isub (v := 0) hx hb dX8_feed_100 (by decide) ?_
    refine sv_ishr (v := v4 >>> (nI 0 &&& 31)) hx hb dX8_feed_101 rfl ?_
    refine lv_sipush (v := 255) hx hb dX8_feed_102 (by decide) ?_
    refine sv_iand (v := (v4 >>> (nI 0 &&& 31)) &&& 255) hx hb dX8_feed_105 rfl ?_
    refine sv_iast hx hb hK hP hD hS 1 1 rfl rfl (vp_in_nI (by omega) (by decide)) dX8_feed_106 (fun g_16 H locs eg_16 hP hD hS => ?_)
    have eg_16 : g_16 = upd (upd (upd (upd (upd (upd (upd (upd (upd (upd (upd (upd (upd (upd (upd (upd m_tape (m_tapeSize + 0) ((v1 >>> (nI 24 &&& 31)) &&& 255)) (m_tapeSize + 1) ((v1 >>> (nI 16 &&& 31)) &&& 255)) (m_tapeSize + 2) ((v1 >>> (nI 8 &&& 31)) &&& 255)) (m_tapeSize + 3) ((v1 >>> (nI 0 &&& 31)) &&& 255)) (m_tapeSize + 4) ((v2 >>> (nI 24 &&& 31)) &&& 255)) (m_tapeSize + 5) ((v2 >>> (nI 16 &&& 31)) &&& 255)) (m_tapeSize + 6) ((v2 >>> (nI 8 &&& 31)) &&& 255)) (m_tapeSize + 7) ((v2 >>> (nI 0 &&& 31)) &&& 255)) (m_tapeSize + 8) ((v3 >>> (nI 24 &&& 31)) &&& 255)) (m_tapeSize + 9) ((v3 >>> (nI 16 &&& 31)) &&& 255)) (m_tapeSize + 10) ((v3 >>> (nI 8 &&& 31)) &&& 255)) (m_tapeSize + 11) ((v3 >>> (nI 0 &&& 31)) &&& 255)) (m_tapeSize + 12) ((v4 >>> (nI 24 &&& 31)) &&& 255)) (m_tapeSize + 13) ((v4 >>> (nI 16 &&& 31)) &&& 255)) (m_tapeSize + 14) ((v4 >>> (nI 8 &&& 31)) &&& 255)) (m_tapeSize + 15) ((v4 >>> (nI 0 &&& 31)) &&& 255) := ist eg_16 (by omega)
    subst eg_16
    have hP : va_P D vwCl [((y 0), .inr (8, [.ref (y 1), .int (nI m_tapeSize), .int 0, .ref (y 2), .int m_cycleMany, .int m_vote, .int m_low, .int m_high, .int m_wear, .int m_spare, .int m_places, .int m_cycleNext, .int m_fault, .int m_faultPlace, .int (nI m_givers), .ref (y 3), .ref (y 4), .int m_giverNext, .int (nI m_children), .ref (y 5), .ref (y 6), .ref (y 7), .ref (y 8), .ref (y 9), .int (nI m_coats), .ref (y 10), .ref (y 11), .ref (y 12), .ref (y 13), .int m_years, .int (nI m_legacies), .ref (y 14), .ref (y 15), .ref (y 16), .ref (y 17), .int m_end, .int m_next, .int m_kind, .int m_which, .int m_place, .int m_read, .ref (y 18), .ref (y 19), .int m_readMany, .int m_readHigh, .ref (y 20), .int (nI m_insideMany), .ref (y 21), .ref (y 22), .ref (y 23), .ref (y 24), .ref (y 25)])), ((y 1), .inl (cI, 300, .inl (upd (upd (upd (upd (upd (upd (upd (upd (upd (upd (upd (upd (upd (upd (upd (upd m_tape (m_tapeSize + 0) ((v1 >>> (nI 24 &&& 31)) &&& 255)) (m_tapeSize + 1) ((v1 >>> (nI 16 &&& 31)) &&& 255)) (m_tapeSize + 2) ((v1 >>> (nI 8 &&& 31)) &&& 255)) (m_tapeSize + 3) ((v1 >>> (nI 0 &&& 31)) &&& 255)) (m_tapeSize + 4) ((v2 >>> (nI 24 &&& 31)) &&& 255)) (m_tapeSize + 5) ((v2 >>> (nI 16 &&& 31)) &&& 255)) (m_tapeSize + 6) ((v2 >>> (nI 8 &&& 31)) &&& 255)) (m_tapeSize + 7) ((v2 >>> (nI 0 &&& 31)) &&& 255)) (m_tapeSize + 8) ((v3 >>> (nI 24 &&& 31)) &&& 255)) (m_tapeSize + 9) ((v3 >>> (nI 16 &&& 31)) &&& 255)) (m_tapeSize + 10) ((v3 >>> (nI 8 &&& 31)) &&& 255)) (m_tapeSize + 11) ((v3 >>> (nI 0 &&& 31)) &&& 255)) (m_tapeSize + 12) ((v4 >>> (nI 24 &&& 31)) &&& 255)) (m_tapeSize + 13) ((v4 >>> (nI 16 &&& 31)) &&& 255)) (m_tapeSize + 14) ((v4 >>> (nI 8 &&& 31)) &&& 255)) (m_tapeSize + 15) ((v4 >>> (nI 0 &&& 31)) &&& 255))))] H := hP
    have hD : va_D A [((y 0), .inr (8, [.ref (y 1), .int (nI m_tapeSize), .int 0, .ref (y 2), .int m_cycleMany, .int m_vote, .int m_low, .int m_high, .int m_wear, .int m_spare, .int m_places, .int m_cycleNext, .int m_fault, .int m_faultPlace, .int (nI m_givers), .ref (y 3), .ref (y 4), .int m_giverNext, .int (nI m_children), .ref (y 5), .ref (y 6), .ref (y 7), .ref (y 8), .ref (y 9), .int (nI m_coats), .ref (y 10), .ref (y 11), .ref (y 12), .ref (y 13), .int m_years, .int (nI m_legacies), .ref (y 14), .ref (y 15), .ref (y 16), .ref (y 17), .int m_end, .int m_next, .int m_kind, .int m_which, .int m_place, .int m_read, .ref (y 18), .ref (y 19), .int m_readMany, .int m_readHigh, .ref (y 20), .int (nI m_insideMany), .ref (y 21), .ref (y 22), .ref (y 23), .ref (y 24), .ref (y 25)])), ((y 1), .inl (cI, 300, .inl (upd (upd (upd (upd (upd (upd (upd (upd (upd (upd (upd (upd (upd (upd (upd (upd m_tape (m_tapeSize + 0) ((v1 >>> (nI 24 &&& 31)) &&& 255)) (m_tapeSize + 1) ((v1 >>> (nI 16 &&& 31)) &&& 255)) (m_tapeSize + 2) ((v1 >>> (nI 8 &&& 31)) &&& 255)) (m_tapeSize + 3) ((v1 >>> (nI 0 &&& 31)) &&& 255)) (m_tapeSize + 4) ((v2 >>> (nI 24 &&& 31)) &&& 255)) (m_tapeSize + 5) ((v2 >>> (nI 16 &&& 31)) &&& 255)) (m_tapeSize + 6) ((v2 >>> (nI 8 &&& 31)) &&& 255)) (m_tapeSize + 7) ((v2 >>> (nI 0 &&& 31)) &&& 255)) (m_tapeSize + 8) ((v3 >>> (nI 24 &&& 31)) &&& 255)) (m_tapeSize + 9) ((v3 >>> (nI 16 &&& 31)) &&& 255)) (m_tapeSize + 10) ((v3 >>> (nI 8 &&& 31)) &&& 255)) (m_tapeSize + 11) ((v3 >>> (nI 0 &&& 31)) &&& 255)) (m_tapeSize + 12) ((v4 >>> (nI 24 &&& 31)) &&& 255)) (m_tapeSize + 13) ((v4 >>> (nI 16 &&& 31)) &&& 255)) (m_tapeSize + 14) ((v4 >>> (nI 8 &&& 31)) &&& 255)) (m_tapeSize + 15) ((v4 >>> (nI 0 &&& 31)) &&& 255))))] := hD
    refine lv_iinc (v := 16) (lv' := [(6, .int 16), (7, .int v4), (0, .ref (y 0)), (1, .int v1), (2, .int v2), (3, .int v3), (4, .int v4), (5, .int v5)]) hx hb dX8_feed_107 hl (k := 1) rfl (by decide) (by decide) rfl (fun ls hl => ?_)
    refine lv_goto (tgt := 23) hx hb dX8_feed_110 (by decide) ?_
    refine lv_iload hx hb dX8_feed_23 (lv_at hl 0 rfl) ?_
    refine lv_bipush (v := 20) hx hb dX8_feed_25 (by decide) ?_
    refine lv_icmp_ge (tgt := 113) hx hb dX8_feed_27 (by decide) (fun h => absurd h (by decide)) (fun _ => ?_)
    refine lv_iload hx hb dX8_feed_30 (lv_at hl 0 rfl) ?_
    refine lv_iconst (v := 4) hx hb dX8_feed_32 (by decide) ?_
    refine lv_icmp_ge (tgt := 40) hx hb dX8_feed_33 (by decide) (fun _ => ?_) (fun h => absurd (by decide) h)
    refine lv_iload hx hb dX8_feed_40 (lv_at hl 0 rfl) ?_
    refine lv_bipush (v := 8) hx hb dX8_feed_42 (by decide) ?_
    refine lv_icmp_ge (tgt := 51) hx hb dX8_feed_44 (by decide) (fun _ => ?_) (fun h => absurd (by decide) h)
    refine lv_iload hx hb dX8_feed_51 (lv_at hl 0 rfl) ?_
    refine lv_bipush (v := 12) hx hb dX8_feed_53 (by decide) ?_
    refine lv_icmp_ge (tgt := 62) hx hb dX8_feed_55 (by decide) (fun _ => ?_) (fun h => absurd (by decide) h)
    refine lv_iload hx hb dX8_feed_62 (lv_at hl 0 rfl) ?_
    refine lv_bipush (v := 16) hx hb dX8_feed_64 (by decide) ?_
    refine lv_icmp_ge (tgt := 74) hx hb dX8_feed_66 (by decide) (fun _ => ?_) (fun h => absurd (by decide) h)
    refine lv_iload hx hb dX8_feed_74 (lv_at hl 7 rfl) ?_
    refine lv_istore (lv' := [(7, .int v5), (6, .int 16), (0, .ref (y 0)), (1, .int v1), (2, .int v2), (3, .int v3), (4, .int v4), (5, .int v5)]) hx hb dX8_feed_76 hl (by decide) rfl (fun ls hl => ?_)
    refine lv_aload_n hx hb dX8_feed_78 rfl (lv_at hl 2 rfl) ?_
    refine va_get (D := D) (ci := 8) (v := .ref (y 1)) (C := RX8) (T := TX8) (N := 52) hx hb hts w_1 hown hK hP 0 rfl rfl 0 (by decide) w_4 (fun _ h9 => h9) rfl dX8_feed_79 ?_
    refine lv_aload_n hx hb dX8_feed_82 rfl (lv_at hl 2 rfl) ?_
    refine va_get (D := D) (ci := 8) (v := .int (nI m_tapeSize)) (C := RX8) (T := TX8) (N := 52) hx hb hts w_1 hown hK hP 0 rfl rfl 1 (by decide) w_3 (fun _ h9 => h9) rfl dX8_feed_83 ?_
    refine lv_iload hx hb dX8_feed_86 (lv_at hl 1 rfl) ?_
    refine sv_iadd (v := nI (m_tapeSize + 16)) hx hb dX8_feed_88 (ax_add m_tapeSize 16) ?_
    refine lv_iload hx hb dX8_feed_89 (lv_at hl 0 rfl) ?_
    refine lv_bipush (v := 24) hx hb dX8_feed_91 (by decide) ?_
    refine lv_bipush (v := 8) hx hb dX8_feed_93 (by decide) ?_
    refine lv_iload hx hb dX8_feed_95 (lv_at hl 1 rfl) ?_
    refine lv_iconst (v := 4) hx hb dX8_feed_97 (by decide) ?_
    refine sv_irem (v := 0) hx hb dX8_feed_98 (by decide) (by decide) ?_
    refine sv_imul (v := 0) hx hb dX8_feed_99 (by decide) ?_
    refine sv_isub (v := 24) hx hb dX8_feed_100 (by decide) ?_
    refine sv_ishr (v := v5 >>> (nI 24 &&& 31)) hx hb dX8_feed_101 rfl ?_
    refine lv_sipush (v := 255) hx hb dX8_feed_102 (by decide) ?_
    refine sv_iand (v := (v5 >>> (nI 24 &&& 31)) &&& 255) hx hb dX8_feed_105 rfl ?_
    refine sv_iast hx hb hK hP hD hS 1 1 rfl rfl (vp_in_nI (by omega) (by decide)) dX8_feed_106 (fun g_17 H locs eg_17 hP hD hS => ?_)
    have eg_17 : g_17 = upd (upd (upd (upd (upd (upd (upd (upd (upd (upd (upd (upd (upd (upd (upd (upd (upd m_tape (m_tapeSize + 0) ((v1 >>> (nI 24 &&& 31)) &&& 255)) (m_tapeSize + 1) ((v1 >>> (nI 16 &&& 31)) &&& 255)) (m_tapeSize + 2) ((v1 >>> (nI 8 &&& 31)) &&& 255)) (m_tapeSize + 3) ((v1 >>> (nI 0 &&& 31)) &&& 255)) (m_tapeSize + 4) ((v2 >>> (nI 24 &&& 31)) &&& 255)) (m_tapeSize + 5) ((v2 >>> (nI 16 &&& 31)) &&& 255)) (m_tapeSize + 6) ((v2 >>> (nI 8 &&& 31)) &&& 255)) (m_tapeSize + 7) ((v2 >>> (nI 0 &&& 31)) &&& 255)) (m_tapeSize + 8) ((v3 >>> (nI 24 &&& 31)) &&& 255)) (m_tapeSize + 9) ((v3 >>> (nI 16 &&& 31)) &&& 255)) (m_tapeSize + 10) ((v3 >>> (nI 8 &&& 31)) &&& 255)) (m_tapeSize + 11) ((v3 >>> (nI 0 &&& 31)) &&& 255)) (m_tapeSize + 12) ((v4 >>> (nI 24 &&& 31)) &&& 255)) (m_tapeSize + 13) ((v4 >>> (nI 16 &&& 31)) &&& 255)) (m_tapeSize + 14) ((v4 >>> (nI 8 &&& 31)) &&& 255)) (m_tapeSize + 15) ((v4 >>> (nI 0 &&& 31)) &&& 255)) (m_tapeSize + 16) ((v5 >>> (nI 24 &&& 31)) &&& 255) := ist eg_17 (by omega)
    subst eg_17
    have hP : va_P D vwCl [((y 0), .inr (8, [.ref (y 1), .int (nI m_tapeSize), .int 0, .ref (y 2), .int m_cycleMany, .int m_vote, .int m_low, .int m_high, .int m_wear, .int m_spare, .int m_places, .int m_cycleNext, .int m_fault, .int m_faultPlace, .int (nI m_givers), .ref (y 3), .ref (y 4), .int m_giverNext, .int (nI m_children), .ref (y 5), .ref (y 6), .ref (y 7), .ref (y 8), .ref (y 9), .int (nI m_coats), .ref (y 10), .ref (y 11), .ref (y 12), .ref (y 13), .int m_years, .int (nI m_legacies), .ref (y 14), .ref (y 15), .ref (y 16), .ref (y 17), .int m_end, .int m_next, .int m_kind, .int m_which, .int m_place, .int m_read, .ref (y 18), .ref (y 19), .int m_readMany, .int m_readHigh, .ref (y 20), .int (nI m_insideMany), .ref (y 21), .ref (y 22), .ref (y 23), .ref (y 24), .ref (y 25)])), ((y 1), .inl (cI, 300, .inl (upd (upd (upd (upd (upd (upd (upd (upd (upd (upd (upd (upd (upd (upd (upd (upd (upd m_tape (m_tapeSize + 0) ((v1 >>> (nI 24 &&& 31)) &&& 255)) (m_tapeSize + 1) ((v1 >>> (nI 16 &&& 31)) &&& 255)) (m_tapeSize + 2) ((v1 >>> (nI 8 &&& 31)) &&& 255)) (m_tapeSize + 3) ((v1 >>> (nI 0 &&& 31)) &&& 255)) (m_tapeSize + 4) ((v2 >>> (nI 24 &&& 31)) &&& 255)) (m_tapeSize + 5) ((v2 >>> (nI 16 &&& 31)) &&& 255)) (m_tapeSize + 6) ((v2 >>> (nI 8 &&& 31)) &&& 255)) (m_tapeSize + 7) ((v2 >>> (nI 0 &&& 31)) &&& 255)) (m_tapeSize + 8) ((v3 >>> (nI 24 &&& 31)) &&& 255)) (m_tapeSize + 9) ((v3 >>> (nI 16 &&& 31)) &&& 255)) (m_tapeSize + 10) ((v3 >>> (nI 8 &&& 31)) &&& 255)) (m_tapeSize + 11) ((v3 >>> (nI 0 &&& 31)) &&& 255)) (m_tapeSize + 12) ((v4 >>> (nI 24 &&& 31)) &&& 255)) (m_tapeSize + 13) ((v4 >>> (nI 16 &&& 31)) &&& 255)) (m_tapeSize + 14) ((v4 >>> (nI 8 &&& 31)) &&& 255)) (m_tapeSize + 15) ((v4 >>> (nI 0 &&& 31)) &&& 255)) (m_tapeSize + 16) ((v5 >>> (nI 24 &&& 31)) &&& 255))))] H := hP
    have hD : va_D A [((y 0), .inr (8, [.ref (y 1), .int (nI m_tapeSize), .int 0, .ref (y 2), .int m_cycleMany, .int m_vote, .int m_low, .int m_high, .int m_wear, .int m_spare, .int m_places, .int m_cycleNext, .int m_fault, .int m_faultPlace, .int (nI m_givers), .ref (y 3), .ref (y 4), .int m_giverNext, .int (nI m_children), .ref (y 5), .ref (y 6), .ref (y 7), .ref (y 8), .ref (y 9), .int (nI m_coats), .ref (y 10), .ref (y 11), .ref (y 12), .ref (y 13), .int m_years, .int (nI m_legacies), .ref (y 14), .ref (y 15), .ref (y 16), .ref (y 17), .int m_end, .int m_next, .int m_kind, .int m_which, .int m_place, .int m_read, .ref (y 18), .ref (y 19), .int m_readMany, .int m_readHigh, .ref (y 20), .int (nI m_insideMany), .ref (y 21), .ref (y 22), .ref (y 23), .ref (y 24), .ref (y 25)])), ((y 1), .inl (cI, 300, .inl (upd (upd (upd (upd (upd (upd (upd (upd (upd (upd (upd (upd (upd (upd (upd (upd (upd m_tape (m_tapeSize + 0) ((v1 >>> (nI 24 &&& 31)) &&& 255)) (m_tapeSize + 1) ((v1 >>> (nI 16 &&& 31)) &&& 255)) (m_tapeSize + 2) ((v1 >>> (nI 8 &&& 31)) &&& 255)) (m_tapeSize + 3) ((v1 >>> (nI 0 &&& 31)) &&& 255)) (m_tapeSize + 4) ((v2 >>> (nI 24 &&& 31)) &&& 255)) (m_tapeSize + 5) ((v2 >>> (nI 16 &&& 31)) &&& 255)) (m_tapeSize + 6) ((v2 >>> (nI 8 &&& 31)) &&& 255)) (m_tapeSize + 7) ((v2 >>> (nI 0 &&& 31)) &&& 255)) (m_tapeSize + 8) ((v3 >>> (nI 24 &&& 31)) &&& 255)) (m_tapeSize + 9) ((v3 >>> (nI 16 &&& 31)) &&& 255)) (m_tapeSize + 10) ((v3 >>> (nI 8 &&& 31)) &&& 255)) (m_tapeSize + 11) ((v3 >>> (nI 0 &&& 31)) &&& 255)) (m_tapeSize + 12) ((v4 >>> (nI 24 &&& 31)) &&& 255)) (m_tapeSize + 13) ((v4 >>> (nI 16 &&& 31)) &&& 255)) (m_tapeSize + 14) ((v4 >>> (nI 8 &&& 31)) &&& 255)) (m_tapeSize + 15) ((v4 >>> (nI 0 &&& 31)) &&& 255)) (m_tapeSize + 16) ((v5 >>> (nI 24 &&& 31)) &&& 255))))] := hD
    refine lv_iinc (v := 17) (lv' := [(6, .int 17), (7, .int v5), (0, .ref (y 0)), (1, .int v1), (2, .int v2), (3, .int v3), (4, .int v4), (5, .int v5)]) hx hb dX8_feed_107 hl (k := 1) rfl (by decide) (by decide) rfl (fun ls hl => ?_)
    refine lv_goto (tgt := 23) hx hb dX8_feed_110 (by decide) ?_
    refine lv_iload hx hb dX8_feed_23 (lv_at hl 0 rfl) ?_
    refine lv_bipush (v := 20) hx hb dX8_feed_25 (by decide) ?_
    refine lv_icmp_ge (tgt := 113) hx hb dX8_feed_27 (by decide) (fun h => absurd h (by decide)) (fun _ => ?_)
    refine lv_iload hx hb dX8_feed_30 (lv_at hl 0 rfl) ?_
    refine lv_iconst (v := 4) hx hb dX8_feed_32 (by decide) ?_
    refine lv_icmp_ge (tgt := 40) hx hb dX8_feed_33 (by decide) (fun _ => ?_) (fun h => absurd (by decide) h)
    refine lv_iload hx hb dX8_feed_40 (lv_at hl 0 rfl) ?_
    refine lv_bipush (v := 8) hx hb dX8_feed_42 (by decide) ?_
    refine lv_icmp_ge (tgt := 51) hx hb dX8_feed_44 (by decide) (fun _ => ?_) (fun h => absurd (by decide) h)
    refine lv_iload hx hb dX8_feed_51 (lv_at hl 0 rfl) ?_
    refine lv_bipush (v := 12) hx hb dX8_feed_53 (by decide) ?_
    refine lv_icmp_ge (tgt := 62) hx hb dX8_feed_55 (by decide) (fun _ => ?_) (fun h => absurd (by decide) h)
    refine lv_iload hx hb dX8_feed_62 (lv_at hl 0 rfl) ?_
    refine lv_bipush (v := 16) hx hb dX8_feed_64 (by decide) ?_
    refine lv_icmp_ge (tgt := 74) hx hb dX8_feed_66 (by decide) (fun _ => ?_) (fun h => absurd (by decide) h)
    refine lv_iload hx hb dX8_feed_74 (lv_at hl 7 rfl) ?_
    refine lv_istore (lv' := [(7, .int v5), (6, .int 17), (0, .ref (y 0)), (1, .int v1), (2, .int v2), (3, .int v3), (4, .int v4), (5, .int v5)]) hx hb dX8_feed_76 hl (by decide) rfl (fun ls hl => ?_)
    refine lv_aload_n hx hb dX8_feed_78 rfl (lv_at hl 2 rfl) ?_
    refine va_get (D := D) (ci := 8) (v := .ref (y 1)) (C := RX8) (T := TX8) (N := 52) hx hb hts w_1 hown hK hP 0 rfl rfl 0 (by decide) w_4 (fun _ h9 => h9) rfl dX8_feed_79 ?_
    refine lv_aload_n hx hb dX8_feed_82 rfl (lv_at hl 2 rfl) ?_
    refine va_get (D := D) (ci := 8) (v := .int (nI m_tapeSize)) (C := RX8) (T := TX8) (N := 52) hx hb hts w_1 hown hK hP 0 rfl rfl 1 (by decide) w_3 (fun _ h9 => h9) rfl dX8_feed_83 ?_
    refine lv_iload hx hb dX8_feed_86 (lv_at hl 1 rfl) ?_
    refine sv_iadd (v := nI (m_tapeSize + 17)) hx hb dX8_feed_88 (ax_add m_tapeSize 17) ?_
    refine lv_iload hx hb dX8_feed_89 (lv_at hl 0 rfl) ?_
    refine lv_bipush (v := 24) hx hb dX8_feed_91 (by decide) ?_
    refine lv_bipush (v := 8) hx hb dX8_feed_93 (by decide) ?_
    refine lv_iload hx hb dX8_feed_95 (lv_at hl 1 rfl) ?_
    refine lv_iconst (v := 4) hx hb dX8_feed_97 (by decide) ?_
    refine sv_irem (v := 1) hx hb dX8_feed_98 (by decide) (by decide) ?_
    refine sv_imul (v := 8) hx hb dX8_feed_99 (by decide) ?_
    refine sv_isub (v := 16) hx hb dX8_feed_100 (by decide) ?_
    refine sv_ishr (v := v5 >>> (nI 16 &&& 31)) hx hb dX8_feed_101 rfl ?_
    refine lv_sipush (v := 255) hx hb dX8_feed_102 (by decide) ?_
    refine sv_iand (v := (v5 >>> (nI 16 &&& 31)) &&& 255) hx hb dX8_feed_105 rfl ?_
    refine sv_iast hx hb hK hP hD hS 1 1 rfl rfl (vp_in_nI (by omega) (by decide)) dX8_feed_106 (fun g_18 H locs eg_18 hP hD hS => ?_)
    have eg_18 : g_18 = upd (upd (upd (upd (upd (upd (upd (upd (upd (upd (upd (upd (upd (upd (upd (upd (upd (upd m_tape (m_tapeSize + 0) ((v1 >>> (nI 24 &&& 31)) &&& 255)) (m_tapeSize + 1) ((v1 >>> (nI 16 &&& 31)) &&& 255)) (m_tapeSize + 2) ((v1 >>> (nI 8 &&& 31)) &&& 255)) (m_tapeSize + 3) ((v1 >>> (nI 0 &&& 31)) &&& 255)) (m_tapeSize + 4) ((v2 >>> (nI 24 &&& 31)) &&& 255)) (m_tapeSize + 5) ((v2 >>> (nI 16 &&& 31)) &&& 255)) (m_tapeSize + 6) ((v2 >>> (nI 8 &&& 31)) &&& 255)) (m_tapeSize + 7) ((v2 >>> (nI 0 &&& 31)) &&& 255)) (m_tapeSize + 8) ((v3 >>> (nI 24 &&& 31)) &&& 255)) (m_tapeSize + 9) ((v3 >>> (nI 16 &&& 31)) &&& 255)) (m_tapeSize + 10) ((v3 >>> (nI 8 &&& 31)) &&& 255)) (m_tapeSize + 11) ((v3 >>> (nI 0 &&& 31)) &&& 255)) (m_tapeSize + 12) ((v4 >>> (nI 24 &&& 31)) &&& 255)) (m_tapeSize + 13) ((v4 >>> (nI 16 &&& 31)) &&& 255)) (m_tapeSize + 14) ((v4 >>> (nI 8 &&& 31)) &&& 255)) (m_tapeSize + 15) ((v4 >>> (nI 0 &&& 31)) &&& 255)) (m_tapeSize + 16) ((v5 >>> (nI 24 &&& 31)) &&& 255)) (m_tapeSize + 17) ((v5 >>> (nI 16 &&& 31)) &&& 255) := ist eg_18 (by omega)
    subst eg_18
    have hP : va_P D vwCl [((y 0), .inr (8, [.ref (y 1), .int (nI m_tapeSize), .int 0, .ref (y 2), .int m_cycleMany, .int m_vote, .int m_low, .int m_high, .int m_wear, .int m_spare, .int m_places, .int m_cycleNext, .int m_fault, .int m_faultPlace, .int (nI m_givers), .ref (y 3), .ref (y 4), .int m_giverNext, .int (nI m_children), .ref (y 5), .ref (y 6), .ref (y 7), .ref (y 8), .ref (y 9), .int (nI m_coats), .ref (y 10), .ref (y 11), .ref (y 12), .ref (y 13), .int m_years, .int (nI m_legacies), .ref (y 14), .ref (y 15), .ref (y 16), .ref (y 17), .int m_end, .int m_next, .int m_kind, .int m_which, .int m_place, .int m_read, .ref (y 18), .ref (y 19), .int m_readMany, .int m_readHigh, .ref (y 20), .int (nI m_insideMany), .ref (y 21), .ref (y 22), .ref (y 23), .ref (y 24), .ref (y 25)])), ((y 1), .inl (cI, 300, .inl (upd (upd (upd (upd (upd (upd (upd (upd (upd (upd (upd (upd (upd (upd (upd (upd (upd (upd m_tape (m_tapeSize + 0) ((v1 >>> (nI 24 &&& 31)) &&& 255)) (m_tapeSize + 1) ((v1 >>> (nI 16 &&& 31)) &&& 255)) (m_tapeSize + 2) ((v1 >>> (nI 8 &&& 31)) &&& 255)) (m_tapeSize + 3) ((v1 >>> (nI 0 &&& 31)) &&& 255)) (m_tapeSize + 4) ((v2 >>> (nI 24 &&& 31)) &&& 255)) (m_tapeSize + 5) ((v2 >>> (nI 16 &&& 31)) &&& 255)) (m_tapeSize + 6) ((v2 >>> (nI 8 &&& 31)) &&& 255)) (m_tapeSize + 7) ((v2 >>> (nI 0 &&& 31)) &&& 255)) (m_tapeSize + 8) ((v3 >>> (nI 24 &&& 31)) &&& 255)) (m_tapeSize + 9) ((v3 >>> (nI 16 &&& 31)) &&& 255)) (m_tapeSize + 10) ((v3 >>> (nI 8 &&& 31)) &&& 255)) (m_tapeSize + 11) ((v3 >>> (nI 0 &&& 31)) &&& 255)) (m_tapeSize + 12) ((v4 >>> (nI 24 &&& 31)) &&& 255)) (m_tapeSize + 13) ((v4 >>> (nI 16 &&& 31)) &&& 255)) (m_tapeSize + 14) ((v4 >>> (nI 8 &&& 31)) &&& 255)) (m_tapeSize + 15) ((v4 >>> (nI 0 &&& 31)) &&& 255)) (m_tapeSize + 16) ((v5 >>> (nI 24 &&& 31)) &&& 255)) (m_tapeSize + 17) ((v5 >>> (nI 16 &&& 31)) &&& 255))))] H := hP
    have hD : va_D A [((y 0), .inr (8, [.ref (y 1), .int (nI m_tapeSize), .int 0, .ref (y 2), .int m_cycleMany, .int m_vote, .int m_low, .int m_high, .int m_wear, .int m_spare, .int m_places, .int m_cycleNext, .int m_fault, .int m_faultPlace, .int (nI m_givers), .ref (y 3), .ref (y 4), .int m_giverNext, .int (nI m_children), .ref (y 5), .ref (y 6), .ref (y 7), .ref (y 8), .ref (y 9), .int (nI m_coats), .ref (y 10), .ref (y 11), .ref (y 12), .ref (y 13), .int m_years, .int (nI m_legacies), .ref (y 14), .ref (y 15), .ref (y 16), .ref (y 17), .int m_end, .int m_next, .int m_kind, .int m_which, .int m_place, .int m_read, .ref (y 18), .ref (y 19), .int m_readMany, .int m_readHigh, .ref (y 20), .int (nI m_insideMany), .ref (y 21), .ref (y 22), .ref (y 23), .ref (y 24), .ref (y 25)])), ((y 1), .inl (cI, 300, .inl (upd (upd (upd (upd (upd (upd (upd (upd (upd (upd (upd (upd (upd (upd (upd (upd (upd (upd m_tape (m_tapeSize + 0) ((v1 >>> (nI 24 &&& 31)) &&& 255)) (m_tapeSize + 1) ((v1 >>> (nI 16 &&& 31)) &&& 255)) (m_tapeSize + 2) ((v1 >>> (nI 8 &&& 31)) &&& 255)) (m_tapeSize + 3) ((v1 >>> (nI 0 &&& 31)) &&& 255)) (m_tapeSize + 4) ((v2 >>> (nI 24 &&& 31)) &&& 255)) (m_tapeSize + 5) ((v2 >>> (nI 16 &&& 31)) &&& 255)) (m_tapeSize + 6) ((v2 >>> (nI 8 &&& 31)) &&& 255)) (m_tapeSize + 7) ((v2 >>> (nI 0 &&& 31)) &&& 255)) (m_tapeSize + 8) ((v3 >>> (nI 24 &&& 31)) &&& 255)) (m_tapeSize + 9) ((v3 >>> (nI 16 &&& 31)) &&& 255)) (m_tapeSize + 10) ((v3 >>> (nI 8 &&& 31)) &&& 255)) (m_tapeSize + 11) ((v3 >>> (nI 0 &&& 31)) &&& 255)) (m_tapeSize + 12) ((v4 >>> (nI 24 &&& 31)) &&& 255)) (m_tapeSize + 13) ((v4 >>> (nI 16 &&& 31)) &&& 255)) (m_tapeSize + 14) ((v4 >>> (nI 8 &&& 31)) &&& 255)) (m_tapeSize + 15) ((v4 >>> (nI 0 &&& 31)) &&& 255)) (m_tapeSize + 16) ((v5 >>> (nI 24 &&& 31)) &&& 255)) (m_tapeSize + 17) ((v5 >>> (nI 16 &&& 31)) &&& 255))))] := hD
    refine lv_iinc (v := 18) (lv' := [(6, .int 18), (7, .int v5), (0, .ref (y 0)), (1, .int v1), (2, .int v2), (3, .int v3), (4, .int v4), (5, .int v5)]) hx hb dX8_feed_107 hl (k := 1) rfl (by decide) (by decide) rfl (fun ls hl => ?_)
    refine lv_goto (tgt := 23) hx hb dX8_feed_110 (by decide) ?_
    refine lv_iload hx hb dX8_feed_23 (lv_at hl 0 rfl) ?_
    refine lv_bipush (v := 20) hx hb dX8_feed_25 (by decide) ?_
    refine lv_icmp_ge (tgt := 113) hx hb dX8_feed_27 (by decide) (fun h => absurd h (by decide)) (fun _ => ?_)
    refine lv_iload hx hb dX8_feed_30 (lv_at hl 0 rfl) ?_
    refine lv_iconst (v := 4) hx hb dX8_feed_32 (by decide) ?_
    refine lv_icmp_ge (tgt := 40) hx hb dX8_feed_33 (by decide) (fun _ => ?_) (fun h => absurd (by decide) h)
    refine lv_iload hx hb dX8_feed_40 (lv_at hl 0 rfl) ?_
    refine lv_bipush (v := 8) hx hb dX8_feed_42 (by decide) ?_
    refine lv_icmp_ge (tgt := 51) hx hb dX8_feed_44 (by decide) (fun _ => ?_) (fun h => absurd (by decide) h)
    refine lv_iload hx hb dX8_feed_51 (lv_at hl 0 rfl) ?_
    refine lv_bipush (v := 12) hx hb dX8_feed_53 (by decide) ?_
    refine lv_icmp_ge (tgt := 62) hx hb dX8_feed_55 (by decide) (fun _ => ?_) (fun h => absurd (by decide) h)
    refine lv_iload hx hb dX8_feed_62 (lv_at hl 0 rfl) ?_
    refine lv_bipush (v := 16) hx hb dX8_feed_64 (by decide) ?_
    refine lv_icmp_ge (tgt := 74) hx hb dX8_feed_66 (by decide) (fun _ => ?_) (fun h => absurd (by decide) h)
    refine lv_iload hx hb dX8_feed_74 (lv_at hl 7 rfl) ?_
    refine lv_istore (lv' := [(7, .int v5), (6, .int 18), (0, .ref (y 0)), (1, .int v1), (2, .int v2), (3, .int v3), (4, .int v4), (5, .int v5)]) hx hb dX8_feed_76 hl (by decide) rfl (fun ls hl => ?_)
    refine lv_aload_n hx hb dX8_feed_78 rfl (lv_at hl 2 rfl) ?_
    refine va_get (D := D) (ci := 8) (v := .ref (y 1)) (C := RX8) (T := TX8) (N := 52) hx hb hts w_1 hown hK hP 0 rfl rfl 0 (by decide) w_4 (fun _ h9 => h9) rfl dX8_feed_79 ?_
    refine lv_aload_n hx hb dX8_feed_82 rfl (lv_at hl 2 rfl) ?_
    refine va_get (D := D) (ci := 8) (v := .int (nI m_tapeSize)) (C := RX8) (T := TX8) (N := 52) hx hb hts w_1 hown hK hP 0 rfl rfl 1 (by decide) w_3 (fun _ h9 => h9) rfl dX8_feed_83 ?_
    refine lv_iload hx hb dX8_feed_86 (lv_at hl 1 rfl) ?_
    refine sv_iadd (v := nI (m_tapeSize + 18)) hx hb dX8_feed_88 (ax_add m_tapeSize 18) ?_
    refine lv_iload hx hb dX8_feed_89 (lv_at hl 0 rfl) ?_
    refine lv_bipush (v := 24) hx hb dX8_feed_91 (by decide) ?_
    refine lv_bipush (v := 8) hx hb dX8_feed_93 (by decide) ?_
    refine lv_iload hx hb dX8_feed_95 (lv_at hl 1 rfl) ?_
    refine lv_iconst (v := 4) hx hb dX8_feed_97 (by decide) ?_
    refine sv_irem (v := 2) hx hb dX8_feed_98 (by decide) (by decide) ?_
    refine sv_imul (v := 16) hx hb dX8_feed_99 (by decide) ?_
    refine sv_isub (v := 8) hx hb dX8_feed_100 (by decide) ?_
    refine sv_ishr (v := v5 >>> (nI 8 &&& 31)) hx hb dX8_feed_101 rfl ?_
    refine lv_sipush (v := 255) hx hb dX8_feed_102 (by decide) ?_
    refine sv_iand (v := (v5 >>> (nI 8 &&& 31)) &&& 255) hx hb dX8_feed_105 rfl ?_
    refine sv_iast hx hb hK hP hD hS 1 1 rfl rfl (vp_in_nI (by omega) (by decide)) dX8_feed_106 (fun g_19 H locs eg_19 hP hD hS => ?_)
    have eg_19 : g_19 = upd (upd (upd (upd (upd (upd (upd (upd (upd (upd (upd (upd (upd (upd (upd (upd (upd (upd (upd m_tape (m_tapeSize + 0) ((v1 >>> (nI 24 &&& 31)) &&& 255)) (m_tapeSize + 1) ((v1 >>> (nI 16 &&& 31)) &&& 255)) (m_tapeSize + 2) ((v1 >>> (nI 8 &&& 31)) &&& 255)) (m_tapeSize + 3) ((v1 >>> (nI 0 &&& 31)) &&& 255)) (m_tapeSize + 4) ((v2 >>> (nI 24 &&& 31)) &&& 255)) (m_tapeSize + 5) ((v2 >>> (nI 16 &&& 31)) &&& 255)) (m_tapeSize + 6) ((v2 >>> (nI 8 &&& 31)) &&& 255)) (m_tapeSize + 7) ((v2 >>> (nI 0 &&& 31)) &&& 255)) (m_tapeSize + 8) ((v3 >>> (nI 24 &&& 31)) &&& 255)) (m_tapeSize + 9) ((v3 >>> (nI 16 &&& 31)) &&& 255)) (m_tapeSize + 10) ((v3 >>> (nI 8 &&& 31)) &&& 255)) (m_tapeSize + 11) ((v3 >>> (nI 0 &&& 31)) &&& 255)) (m_tapeSize + 12) ((v4 >>> (nI 24 &&& 31)) &&& 255)) (m_tapeSize + 13) ((v4 >>> (nI 16 &&& 31)) &&& 255)) (m_tapeSize + 14) ((v4 >>> (nI 8 &&& 31)) &&& 255)) (m_tapeSize + 15) ((v4 >>> (nI 0 &&& 31)) &&& 255)) (m_tapeSize + 16) ((v5 >>> (nI 24 &&& 31)) &&& 255)) (m_tapeSize + 17) ((v5 >>> (nI 16 &&& 31)) &&& 255)) (m_tapeSize + 18) ((v5 >>> (nI 8 &&& 31)) &&& 255) := ist eg_19 (by omega)
    subst eg_19
    have hP : va_P D vwCl [((y 0), .inr (8, [.ref (y 1), .int (nI m_tapeSize), .int 0, .ref (y 2), .int m_cycleMany, .int m_vote, .int m_low, .int m_high, .int m_wear, .int m_spare, .int m_places, .int m_cycleNext, .int m_fault, .int m_faultPlace, .int (nI m_givers), .ref (y 3), .ref (y 4), .int m_giverNext, .int (nI m_children), .ref (y 5), .ref (y 6), .ref (y 7), .ref (y 8), .ref (y 9), .int (nI m_coats), .ref (y 10), .ref (y 11), .ref (y 12), .ref (y 13), .int m_years, .int (nI m_legacies), .ref (y 14), .ref (y 15), .ref (y 16), .ref (y 17), .int m_end, .int m_next, .int m_kind, .int m_which, .int m_place, .int m_read, .ref (y 18), .ref (y 19), .int m_readMany, .int m_readHigh, .ref (y 20), .int (nI m_insideMany), .ref (y 21), .ref (y 22), .ref (y 23), .ref (y 24), .ref (y 25)])), ((y 1), .inl (cI, 300, .inl (upd (upd (upd (upd (upd (upd (upd (upd (upd (upd (upd (upd (upd (upd (upd (upd (upd (upd (upd m_tape (m_tapeSize + 0) ((v1 >>> (nI 24 &&& 31)) &&& 255)) (m_tapeSize + 1) ((v1 >>> (nI 16 &&& 31)) &&& 255)) (m_tapeSize + 2) ((v1 >>> (nI 8 &&& 31)) &&& 255)) (m_tapeSize + 3) ((v1 >>> (nI 0 &&& 31)) &&& 255)) (m_tapeSize + 4) ((v2 >>> (nI 24 &&& 31)) &&& 255)) (m_tapeSize + 5) ((v2 >>> (nI 16 &&& 31)) &&& 255)) (m_tapeSize + 6) ((v2 >>> (nI 8 &&& 31)) &&& 255)) (m_tapeSize + 7) ((v2 >>> (nI 0 &&& 31)) &&& 255)) (m_tapeSize + 8) ((v3 >>> (nI 24 &&& 31)) &&& 255)) (m_tapeSize + 9) ((v3 >>> (nI 16 &&& 31)) &&& 255)) (m_tapeSize + 10) ((v3 >>> (nI 8 &&& 31)) &&& 255)) (m_tapeSize + 11) ((v3 >>> (nI 0 &&& 31)) &&& 255)) (m_tapeSize + 12) ((v4 >>> (nI 24 &&& 31)) &&& 255)) (m_tapeSize + 13) ((v4 >>> (nI 16 &&& 31)) &&& 255)) (m_tapeSize + 14) ((v4 >>> (nI 8 &&& 31)) &&& 255)) (m_tapeSize + 15) ((v4 >>> (nI 0 &&& 31)) &&& 255)) (m_tapeSize + 16) ((v5 >>> (nI 24 &&& 31)) &&& 255)) (m_tapeSize + 17) ((v5 >>> (nI 16 &&& 31)) &&& 255)) (m_tapeSize + 18) ((v5 >>> (nI 8 &&& 31)) &&& 255))))] H := hP
    have hD : va_D A [((y 0), .inr (8, [.ref (y 1), .int (nI m_tapeSize), .int 0, .ref (y 2), .int m_cycleMany, .int m_vote, .int m_low, .int m_high, .int m_wear, .int m_spare, .int m_places, .int m_cycleNext, .int m_fault, .int m_faultPlace, .int (nI m_givers), .ref (y 3), .ref (y 4), .int m_giverNext, .int (nI m_children), .ref (y 5), .ref (y 6), .ref (y 7), .ref (y 8), .ref (y 9), .int (nI m_coats), .ref (y 10), .ref (y 11), .ref (y 12), .ref (y 13), .int m_years, .int (nI m_legacies), .ref (y 14), .ref (y 15), .ref (y 16), .ref (y 17), .int m_end, .int m_next, .int m_kind, .int m_which, .int m_place, .int m_read, .ref (y 18), .ref (y 19), .int m_readMany, .int m_readHigh, .ref (y 20), .int (nI m_insideMany), .ref (y 21), .ref (y 22), .ref (y 23), .ref (y 24), .ref (y 25)])), ((y 1), .inl (cI, 300, .inl (upd (upd (upd (upd (upd (upd (upd (upd (upd (upd (upd (upd (upd (upd (upd (upd (upd (upd (upd m_tape (m_tapeSize + 0) ((v1 >>> (nI 24 &&& 31)) &&& 255)) (m_tapeSize + 1) ((v1 >>> (nI 16 &&& 31)) &&& 255)) (m_tapeSize + 2) ((v1 >>> (nI 8 &&& 31)) &&& 255)) (m_tapeSize + 3) ((v1 >>> (nI 0 &&& 31)) &&& 255)) (m_tapeSize + 4) ((v2 >>> (nI 24 &&& 31)) &&& 255)) (m_tapeSize + 5) ((v2 >>> (nI 16 &&& 31)) &&& 255)) (m_tapeSize + 6) ((v2 >>> (nI 8 &&& 31)) &&& 255)) (m_tapeSize + 7) ((v2 >>> (nI 0 &&& 31)) &&& 255)) (m_tapeSize + 8) ((v3 >>> (nI 24 &&& 31)) &&& 255)) (m_tapeSize + 9) ((v3 >>> (nI 16 &&& 31)) &&& 255)) (m_tapeSize + 10) ((v3 >>> (nI 8 &&& 31)) &&& 255)) (m_tapeSize + 11) ((v3 >>> (nI 0 &&& 31)) &&& 255)) (m_tapeSize + 12) ((v4 >>> (nI 24 &&& 31)) &&& 255)) (m_tapeSize + 13) ((v4 >>> (nI 16 &&& 31)) &&& 255)) (m_tapeSize + 14) ((v4 >>> (nI 8 &&& 31)) &&& 255)) (m_tapeSize + 15) ((v4 >>> (nI 0 &&& 31)) &&& 255)) (m_tapeSize + 16) ((v5 >>> (nI 24 &&& 31)) &&& 255)) (m_tapeSize + 17) ((v5 >>> (nI 16 &&& 31)) &&& 255)) (m_tapeSize + 18) ((v5 >>> (nI 8 &&& 31)) &&& 255))))] := hD
    refine lv_iinc (v := 19) (lv' := [(6, .int 19), (7, .int v5), (0, .ref (y 0)), (1, .int v1), (2, .int v2), (3, .int v3), (4, .int v4), (5, .int v5)]) hx hb dX8_feed_107 hl (k := 1) rfl (by decide) (by decide) rfl (fun ls hl => ?_)
    refine lv_goto (tgt := 23) hx hb dX8_feed_110 (by decide) ?_
    refine lv_iload hx hb dX8_feed_23 (lv_at hl 0 rfl) ?_
    refine lv_bipush (v := 20) hx hb dX8_feed_25 (by decide) ?_
    refine lv_icmp_ge (tgt := 113) hx hb dX8_feed_27 (by decide) (fun h => absurd h (by decide)) (fun _ => ?_)
    refine lv_iload hx hb dX8_feed_30 (lv_at hl 0 rfl) ?_
    refine lv_iconst (v := 4) hx hb dX8_feed_32 (by decide) ?_
    refine lv_icmp_ge (tgt := 40) hx hb dX8_feed_33 (by decide) (fun _ => ?_) (fun h => absurd (by decide) h)
    refine lv_iload hx hb dX8_feed_40 (lv_at hl 0 rfl) ?_
    refine lv_bipush (v := 8) hx hb dX8_feed_42 (by decide) ?_
    refine lv_icmp_ge (tgt := 51) hx hb dX8_feed_44 (by decide) (fun _ => ?_) (fun h => absurd (by decide) h)
    refine lv_iload hx hb dX8_feed_51 (lv_at hl 0 rfl) ?_
    refine lv_bipush (v := 12) hx hb dX8_feed_53 (by decide) ?_
    refine lv_icmp_ge (tgt := 62) hx hb dX8_feed_55 (by decide) (fun _ => ?_) (fun h => absurd (by decide) h)
    refine lv_iload hx hb dX8_feed_62 (lv_at hl 0 rfl) ?_
    refine lv_bipush (v := 16) hx hb dX8_feed_64 (by decide) ?_
    refine lv_icmp_ge (tgt := 74) hx hb dX8_feed_66 (by decide) (fun _ => ?_) (fun h => absurd (by decide) h)
    refine lv_iload hx hb dX8_feed_74 (lv_at hl 7 rfl) ?_
    refine lv_istore (lv' := [(7, .int v5), (6, .int 19), (0, .ref (y 0)), (1, .int v1), (2, .int v2), (3, .int v3), (4, .int v4), (5, .int v5)]) hx hb dX8_feed_76 hl (by decide) rfl (fun ls hl => ?_)
    refine lv_aload_n hx hb dX8_feed_78 rfl (lv_at hl 2 rfl) ?_
    refine va_get (D := D) (ci := 8) (v := .ref (y 1)) (C := RX8) (T := TX8) (N := 52) hx hb hts w_1 hown hK hP 0 rfl rfl 0 (by decide) w_4 (fun _ h9 => h9) rfl dX8_feed_79 ?_
    refine lv_aload_n hx hb dX8_feed_82 rfl (lv_at hl 2 rfl) ?_
    refine va_get (D := D) (ci := 8) (v := .int (nI m_tapeSize)) (C := RX8) (T := TX8) (N := 52) hx hb hts w_1 hown hK hP 0 rfl rfl 1 (by decide) w_3 (fun _ h9 => h9) rfl dX8_feed_83 ?_
    refine lv_iload hx hb dX8_feed_86 (lv_at hl 1 rfl) ?_
    refine sv_iadd (v := nI (m_tapeSize + 19)) hx hb dX8_feed_88 (ax_add m_tapeSize 19) ?_
    refine lv_iload hx hb dX8_feed_89 (lv_at hl 0 rfl) ?_
    refine lv_bipush (v := 24) hx hb dX8_feed_91 (by decide) ?_
    refine lv_bipush (v := 8) hx hb dX8_feed_93 (by decide) ?_
    refine lv_iload hx hb dX8_feed_95 (lv_at hl 1 rfl) ?_
    refine lv_iconst (v := 4) hx hb dX8_feed_97 (by decide) ?_
    refine sv_irem (v := 3) hx hb dX8_feed_98 (by decide) (by decide) ?_
    refine sv_imul (v := 24) hx hb dX8_feed_99 (by decide) ?_
    refine sv_isub (v := 0) hx hb dX8_feed_100 (by decide) ?_
    refine sv_ishr (v := v5 >>> (nI 0 &&& 31)) hx hb dX8_feed_101 rfl ?_
    refine lv_sipush (v := 255) hx hb dX8_feed_102 (by decide) ?_
    refine sv_iand (v := (v5 >>> (nI 0 &&& 31)) &&& 255) hx hb dX8_feed_105 rfl ?_
    refine sv_iast hx hb hK hP hD hS 1 1 rfl rfl (vp_in_nI (by omega) (by decide)) dX8_feed_106 (fun g_20 H locs eg_20 hP hD hS => ?_)
    have eg_20 : g_20 = upd (upd (upd (upd (upd (upd (upd (upd (upd (upd (upd (upd (upd (upd (upd (upd (upd (upd (upd (upd m_tape (m_tapeSize + 0) ((v1 >>> (nI 24 &&& 31)) &&& 255)) (m_tapeSize + 1) ((v1 >>> (nI 16 &&& 31)) &&& 255)) (m_tapeSize + 2) ((v1 >>> (nI 8 &&& 31)) &&& 255)) (m_tapeSize + 3) ((v1 >>> (nI 0 &&& 31)) &&& 255)) (m_tapeSize + 4) ((v2 >>> (nI 24 &&& 31)) &&& 255)) (m_tapeSize + 5) ((v2 >>> (nI 16 &&& 31)) &&& 255)) (m_tapeSize + 6) ((v2 >>> (nI 8 &&& 31)) &&& 255)) (m_tapeSize + 7) ((v2 >>> (nI 0 &&& 31)) &&& 255)) (m_tapeSize + 8) ((v3 >>> (nI 24 &&& 31)) &&& 255)) (m_tapeSize + 9) ((v3 >>> (nI 16 &&& 31)) &&& 255)) (m_tapeSize + 10) ((v3 >>> (nI 8 &&& 31)) &&& 255)) (m_tapeSize + 11) ((v3 >>> (nI 0 &&& 31)) &&& 255)) (m_tapeSize + 12) ((v4 >>> (nI 24 &&& 31)) &&& 255)) (m_tapeSize + 13) ((v4 >>> (nI 16 &&& 31)) &&& 255)) (m_tapeSize + 14) ((v4 >>> (nI 8 &&& 31)) &&& 255)) (m_tapeSize + 15) ((v4 >>> (nI 0 &&& 31)) &&& 255)) (m_tapeSize + 16) ((v5 >>> (nI 24 &&& 31)) &&& 255)) (m_tapeSize + 17) ((v5 >>> (nI 16 &&& 31)) &&& 255)) (m_tapeSize + 18) ((v5 >>> (nI 8 &&& 31)) &&& 255)) (m_tapeSize + 19) ((v5 >>> (nI 0 &&& 31)) &&& 255) := ist eg_20 (by omega)
    subst eg_20
    have hP : va_P D vwCl [((y 0), .inr (8, [.ref (y 1), .int (nI m_tapeSize), .int 0, .ref (y 2), .int m_cycleMany, .int m_vote, .int m_low, .int m_high, .int m_wear, .int m_spare, .int m_places, .int m_cycleNext, .int m_fault, .int m_faultPlace, .int (nI m_givers), .ref (y 3), .ref (y 4), .int m_giverNext, .int (nI m_children), .ref (y 5), .ref (y 6), .ref (y 7), .ref (y 8), .ref (y 9), .int (nI m_coats), .ref (y 10), .ref (y 11), .ref (y 12), .ref (y 13), .int m_years, .int (nI m_legacies), .ref (y 14), .ref (y 15), .ref (y 16), .ref (y 17), .int m_end, .int m_next, .int m_kind, .int m_which, .int m_place, .int m_read, .ref (y 18), .ref (y 19), .int m_readMany, .int m_readHigh, .ref (y 20), .int (nI m_insideMany), .ref (y 21), .ref (y 22), .ref (y 23), .ref (y 24), .ref (y 25)])), ((y 1), .inl (cI, 300, .inl (upd (upd (upd (upd (upd (upd (upd (upd (upd (upd (upd (upd (upd (upd (upd (upd (upd (upd (upd (upd m_tape (m_tapeSize + 0) ((v1 >>> (nI 24 &&& 31)) &&& 255)) (m_tapeSize + 1) ((v1 >>> (nI 16 &&& 31)) &&& 255)) (m_tapeSize + 2) ((v1 >>> (nI 8 &&& 31)) &&& 255)) (m_tapeSize + 3) ((v1 >>> (nI 0 &&& 31)) &&& 255)) (m_tapeSize + 4) ((v2 >>> (nI 24 &&& 31)) &&& 255)) (m_tapeSize + 5) ((v2 >>> (nI 16 &&& 31)) &&& 255)) (m_tapeSize + 6) ((v2 >>> (nI 8 &&& 31)) &&& 255)) (m_tapeSize + 7) ((v2 >>> (nI 0 &&& 31)) &&& 255)) (m_tapeSize + 8) ((v3 >>> (nI 24 &&& 31)) &&& 255)) (m_tapeSize + 9) ((v3 >>> (nI 16 &&& 31)) &&& 255)) (m_tapeSize + 10) ((v3 >>> (nI 8 &&& 31)) &&& 255)) (m_tapeSize + 11) ((v3 >>> (nI 0 &&& 31)) &&& 255)) (m_tapeSize + 12) ((v4 >>> (nI 24 &&& 31)) &&& 255)) (m_tapeSize + 13) ((v4 >>> (nI 16 &&& 31)) &&& 255)) (m_tapeSize + 14) ((v4 >>> (nI 8 &&& 31)) &&& 255)) (m_tapeSize + 15) ((v4 >>> (nI 0 &&& 31)) &&& 255)) (m_tapeSize + 16) ((v5 >>> (nI 24 &&& 31)) &&& 255)) (m_tapeSize + 17) ((v5 >>> (nI 16 &&& 31)) &&& 255)) (m_tapeSize + 18) ((v5 >>> (nI 8 &&& 31)) &&& 255)) (m_tapeSize + 19) ((v5 >>> (nI 0 &&& 31)) &&& 255))))] H := hP
    have hD : va_D A [((y 0), .inr (8, [.ref (y 1), .int (nI m_tapeSize), .int 0, .ref (y 2), .int m_cycleMany, .int m_vote, .int m_low, .int m_high, .int m_wear, .int m_spare, .int m_places, .int m_cycleNext, .int m_fault, .int m_faultPlace, .int (nI m_givers), .ref (y 3), .ref (y 4), .int m_giverNext, .int (nI m_children), .ref (y 5), .ref (y 6), .ref (y 7), .ref (y 8), .ref (y 9), .int (nI m_coats), .ref (y 10), .ref (y 11), .ref (y 12), .ref (y 13), .int m_years, .int (nI m_legacies), .ref (y 14), .ref (y 15), .ref (y 16), .ref (y 17), .int m_end, .int m_next, .int m_kind, .int m_which, .int m_place, .int m_read, .ref (y 18), .ref (y 19), .int m_readMany, .int m_readHigh, .ref (y 20), .int (nI m_insideMany), .ref (y 21), .ref (y 22), .ref (y 23), .ref (y 24), .ref (y 25)])), ((y 1), .inl (cI, 300, .inl (upd (upd (upd (upd (upd (upd (upd (upd (upd (upd (upd (upd (upd (upd (upd (upd (upd (upd (upd (upd m_tape (m_tapeSize + 0) ((v1 >>> (nI 24 &&& 31)) &&& 255)) (m_tapeSize + 1) ((v1 >>> (nI 16 &&& 31)) &&& 255)) (m_tapeSize + 2) ((v1 >>> (nI 8 &&& 31)) &&& 255)) (m_tapeSize + 3) ((v1 >>> (nI 0 &&& 31)) &&& 255)) (m_tapeSize + 4) ((v2 >>> (nI 24 &&& 31)) &&& 255)) (m_tapeSize + 5) ((v2 >>> (nI 16 &&& 31)) &&& 255)) (m_tapeSize + 6) ((v2 >>> (nI 8 &&& 31)) &&& 255)) (m_tapeSize + 7) ((v2 >>> (nI 0 &&& 31)) &&& 255)) (m_tapeSize + 8) ((v3 >>> (nI 24 &&& 31)) &&& 255)) (m_tapeSize + 9) ((v3 >>> (nI 16 &&& 31)) &&& 255)) (m_tapeSize + 10) ((v3 >>> (nI 8 &&& 31)) &&& 255)) (m_tapeSize + 11) ((v3 >>> (nI 0 &&& 31)) &&& 255)) (m_tapeSize + 12) ((v4 >>> (nI 24 &&& 31)) &&& 255)) (m_tapeSize + 13) ((v4 >>> (nI 16 &&& 31)) &&& 255)) (m_tapeSize + 14) ((v4 >>> (nI 8 &&& 31)) &&& 255)) (m_tapeSize + 15) ((v4 >>> (nI 0 &&& 31)) &&& 255)) (m_tapeSize + 16) ((v5 >>> (nI 24 &&& 31)) &&& 255)) (m_tapeSize + 17) ((v5 >>> (nI 16 &&& 31)) &&& 255)) (m_tapeSize + 18) ((v5 >>> (nI 8 &&& 31)) &&& 255)) (m_tapeSize + 19) ((v5 >>> (nI 0 &&& 31)) &&& 255))))] := hD
    refine lv_iinc (v := 20) (lv' := [(6, .int 20), (7, .int v5), (0, .ref (y 0)), (1, .int v1), (2, .int v2), (3, .int v3), (4, .int v4), (5, .int v5)]) hx hb dX8_feed_107 hl (k := 1) rfl (by decide) (by decide) rfl (fun ls hl => ?_)
    refine lv_goto (tgt := 23) hx hb dX8_feed_110 (by decide) ?_
    refine lv_iload hx hb dX8_feed_23 (lv_at hl 0 rfl) ?_
    refine lv_bipush (v := 20) hx hb dX8_feed_25 (by decide) ?_
    refine lv_icmp_ge (tgt := 113) hx hb dX8_feed_27 (by decide) (fun _ => ?_) (fun h => absurd (by decide) h)
    refine lv_aload_n hx hb dX8_feed_113 rfl (lv_at hl 2 rfl) ?_
    refine lv_dup hx hb dX8_feed_114 rfl ?_
    refine va_get (D := D) (ci := 8) (v := .int (nI m_tapeSize)) (C := RX8) (T := TX8) (N := 52) hx hb hts w_1 hown hK hP 0 rfl rfl 1 (by decide) w_3 (fun _ h9 => h9) rfl dX8_feed_115 ?_
    refine lv_bipush (v := 20) hx hb dX8_feed_118 (by decide) ?_
    refine sv_iadd (v := nI (m_tapeSize + 20)) hx hb dX8_feed_120 (nI_add m_tapeSize 20) ?_
    refine va_put (D := D) (ci := 8) (v := .int (nI (m_tapeSize + 20))) (ty := .int) (C := RX8) (T := TX8) (N := 52) hx hb hts w_1 tyX8 tyX8_ok nmX8 hown hK hP hD hS 0 rfl rfl 1 (by decide) w_3 (fun _ h9 => h9) rfl (by decide +kernel) rfl rfl (Nat.le_of_ble_eq_true rfl) dX8_feed_121 (fun H locs hP hD hS => ?_)
    have hP : va_P D vwCl [((y 0), .inr (8, [.ref (y 1), .int (nI (m_tapeSize + 20)), .int 0, .ref (y 2), .int m_cycleMany, .int m_vote, .int m_low, .int m_high, .int m_wear, .int m_spare, .int m_places, .int m_cycleNext, .int m_fault, .int m_faultPlace, .int (nI m_givers), .ref (y 3), .ref (y 4), .int m_giverNext, .int (nI m_children), .ref (y 5), .ref (y 6), .ref (y 7), .ref (y 8), .ref (y 9), .int (nI m_coats), .ref (y 10), .ref (y 11), .ref (y 12), .ref (y 13), .int m_years, .int (nI m_legacies), .ref (y 14), .ref (y 15), .ref (y 16), .ref (y 17), .int m_end, .int m_next, .int m_kind, .int m_which, .int m_place, .int m_read, .ref (y 18), .ref (y 19), .int m_readMany, .int m_readHigh, .ref (y 20), .int (nI m_insideMany), .ref (y 21), .ref (y 22), .ref (y 23), .ref (y 24), .ref (y 25)])), ((y 1), .inl (cI, 300, .inl (upd (upd (upd (upd (upd (upd (upd (upd (upd (upd (upd (upd (upd (upd (upd (upd (upd (upd (upd (upd m_tape (m_tapeSize + 0) ((v1 >>> (nI 24 &&& 31)) &&& 255)) (m_tapeSize + 1) ((v1 >>> (nI 16 &&& 31)) &&& 255)) (m_tapeSize + 2) ((v1 >>> (nI 8 &&& 31)) &&& 255)) (m_tapeSize + 3) ((v1 >>> (nI 0 &&& 31)) &&& 255)) (m_tapeSize + 4) ((v2 >>> (nI 24 &&& 31)) &&& 255)) (m_tapeSize + 5) ((v2 >>> (nI 16 &&& 31)) &&& 255)) (m_tapeSize + 6) ((v2 >>> (nI 8 &&& 31)) &&& 255)) (m_tapeSize + 7) ((v2 >>> (nI 0 &&& 31)) &&& 255)) (m_tapeSize + 8) ((v3 >>> (nI 24 &&& 31)) &&& 255)) (m_tapeSize + 9) ((v3 >>> (nI 16 &&& 31)) &&& 255)) (m_tapeSize + 10) ((v3 >>> (nI 8 &&& 31)) &&& 255)) (m_tapeSize + 11) ((v3 >>> (nI 0 &&& 31)) &&& 255)) (m_tapeSize + 12) ((v4 >>> (nI 24 &&& 31)) &&& 255)) (m_tapeSize + 13) ((v4 >>> (nI 16 &&& 31)) &&& 255)) (m_tapeSize + 14) ((v4 >>> (nI 8 &&& 31)) &&& 255)) (m_tapeSize + 15) ((v4 >>> (nI 0 &&& 31)) &&& 255)) (m_tapeSize + 16) ((v5 >>> (nI 24 &&& 31)) &&& 255)) (m_tapeSize + 17) ((v5 >>> (nI 16 &&& 31)) &&& 255)) (m_tapeSize + 18) ((v5 >>> (nI 8 &&& 31)) &&& 255)) (m_tapeSize + 19) ((v5 >>> (nI 0 &&& 31)) &&& 255))))] H := hP
    have hD : va_D A [((y 0), .inr (8, [.ref (y 1), .int (nI (m_tapeSize + 20)), .int 0, .ref (y 2), .int m_cycleMany, .int m_vote, .int m_low, .int m_high, .int m_wear, .int m_spare, .int m_places, .int m_cycleNext, .int m_fault, .int m_faultPlace, .int (nI m_givers), .ref (y 3), .ref (y 4), .int m_giverNext, .int (nI m_children), .ref (y 5), .ref (y 6), .ref (y 7), .ref (y 8), .ref (y 9), .int (nI m_coats), .ref (y 10), .ref (y 11), .ref (y 12), .ref (y 13), .int m_years, .int (nI m_legacies), .ref (y 14), .ref (y 15), .ref (y 16), .ref (y 17), .int m_end, .int m_next, .int m_kind, .int m_which, .int m_place, .int m_read, .ref (y 18), .ref (y 19), .int m_readMany, .int m_readHigh, .ref (y 20), .int (nI m_insideMany), .ref (y 21), .ref (y 22), .ref (y 23), .ref (y 24), .ref (y 25)])), ((y 1), .inl (cI, 300, .inl (upd (upd (upd (upd (upd (upd (upd (upd (upd (upd (upd (upd (upd (upd (upd (upd (upd (upd (upd (upd m_tape (m_tapeSize + 0) ((v1 >>> (nI 24 &&& 31)) &&& 255)) (m_tapeSize + 1) ((v1 >>> (nI 16 &&& 31)) &&& 255)) (m_tapeSize + 2) ((v1 >>> (nI 8 &&& 31)) &&& 255)) (m_tapeSize + 3) ((v1 >>> (nI 0 &&& 31)) &&& 255)) (m_tapeSize + 4) ((v2 >>> (nI 24 &&& 31)) &&& 255)) (m_tapeSize + 5) ((v2 >>> (nI 16 &&& 31)) &&& 255)) (m_tapeSize + 6) ((v2 >>> (nI 8 &&& 31)) &&& 255)) (m_tapeSize + 7) ((v2 >>> (nI 0 &&& 31)) &&& 255)) (m_tapeSize + 8) ((v3 >>> (nI 24 &&& 31)) &&& 255)) (m_tapeSize + 9) ((v3 >>> (nI 16 &&& 31)) &&& 255)) (m_tapeSize + 10) ((v3 >>> (nI 8 &&& 31)) &&& 255)) (m_tapeSize + 11) ((v3 >>> (nI 0 &&& 31)) &&& 255)) (m_tapeSize + 12) ((v4 >>> (nI 24 &&& 31)) &&& 255)) (m_tapeSize + 13) ((v4 >>> (nI 16 &&& 31)) &&& 255)) (m_tapeSize + 14) ((v4 >>> (nI 8 &&& 31)) &&& 255)) (m_tapeSize + 15) ((v4 >>> (nI 0 &&& 31)) &&& 255)) (m_tapeSize + 16) ((v5 >>> (nI 24 &&& 31)) &&& 255)) (m_tapeSize + 17) ((v5 >>> (nI 16 &&& 31)) &&& 255)) (m_tapeSize + 18) ((v5 >>> (nI 8 &&& 31)) &&& 255)) (m_tapeSize + 19) ((v5 >>> (nI 0 &&& 31)) &&& 255))))] := hD
    refine lv_aload_n hx hb dX8_feed_124 rfl (lv_at hl 2 rfl) ?_
    refine va_get (D := D) (ci := 8) (v := .int (nI (m_tapeSize + 20))) (C := RX8) (T := TX8) (N := 52) hx hb hts w_1 hown hK hP 0 rfl rfl 1 (by decide) w_3 (fun _ h9 => h9) rfl dX8_feed_125 ?_
    have hP9 := hP.sub (ws' := [((y 0), .inr (8, [.ref (y 1), .int (nI (m_tapeSize + 20)), .int 0, .ref (y 2), .int m_cycleMany, .int m_vote, .int m_low, .int m_high, .int m_wear, .int m_spare, .int m_places, .int m_cycleNext, .int m_fault, .int m_faultPlace, .int (nI m_givers), .ref (y 3), .ref (y 4), .int m_giverNext, .int (nI m_children), .ref (y 5), .ref (y 6), .ref (y 7), .ref (y 8), .ref (y 9), .int (nI m_coats), .ref (y 10), .ref (y 11), .ref (y 12), .ref (y 13), .int m_years, .int (nI m_legacies), .ref (y 14), .ref (y 15), .ref (y 16), .ref (y 17), .int m_end, .int m_next, .int m_kind, .int m_which, .int m_place, .int m_read, .ref (y 18), .ref (y 19), .int m_readMany, .int m_readHigh, .ref (y 20), .int (nI m_insideMany), .ref (y 21), .ref (y 22), .ref (y 23), .ref (y 24), .ref (y 25)])), ((y 1), .inl (cI, 300, .inl (upd (upd (upd (upd (upd (upd (upd (upd (upd (upd (upd (upd (upd (upd (upd (upd (upd (upd (upd (upd m_tape (m_tapeSize + 0) ((v1 >>> (nI 24 &&& 31)) &&& 255)) (m_tapeSize + 1) ((v1 >>> (nI 16 &&& 31)) &&& 255)) (m_tapeSize + 2) ((v1 >>> (nI 8 &&& 31)) &&& 255)) (m_tapeSize + 3) ((v1 >>> (nI 0 &&& 31)) &&& 255)) (m_tapeSize + 4) ((v2 >>> (nI 24 &&& 31)) &&& 255)) (m_tapeSize + 5) ((v2 >>> (nI 16 &&& 31)) &&& 255)) (m_tapeSize + 6) ((v2 >>> (nI 8 &&& 31)) &&& 255)) (m_tapeSize + 7) ((v2 >>> (nI 0 &&& 31)) &&& 255)) (m_tapeSize + 8) ((v3 >>> (nI 24 &&& 31)) &&& 255)) (m_tapeSize + 9) ((v3 >>> (nI 16 &&& 31)) &&& 255)) (m_tapeSize + 10) ((v3 >>> (nI 8 &&& 31)) &&& 255)) (m_tapeSize + 11) ((v3 >>> (nI 0 &&& 31)) &&& 255)) (m_tapeSize + 12) ((v4 >>> (nI 24 &&& 31)) &&& 255)) (m_tapeSize + 13) ((v4 >>> (nI 16 &&& 31)) &&& 255)) (m_tapeSize + 14) ((v4 >>> (nI 8 &&& 31)) &&& 255)) (m_tapeSize + 15) ((v4 >>> (nI 0 &&& 31)) &&& 255)) (m_tapeSize + 16) ((v5 >>> (nI 24 &&& 31)) &&& 255)) (m_tapeSize + 17) ((v5 >>> (nI 16 &&& 31)) &&& 255)) (m_tapeSize + 18) ((v5 >>> (nI 8 &&& 31)) &&& 255)) (m_tapeSize + 19) ((v5 >>> (nI 0 &&& 31)) &&& 255))))]) [0, 1] rfl
    have hD9 := hD.sub (ws' := [((y 0), .inr (8, [.ref (y 1), .int (nI (m_tapeSize + 20)), .int 0, .ref (y 2), .int m_cycleMany, .int m_vote, .int m_low, .int m_high, .int m_wear, .int m_spare, .int m_places, .int m_cycleNext, .int m_fault, .int m_faultPlace, .int (nI m_givers), .ref (y 3), .ref (y 4), .int m_giverNext, .int (nI m_children), .ref (y 5), .ref (y 6), .ref (y 7), .ref (y 8), .ref (y 9), .int (nI m_coats), .ref (y 10), .ref (y 11), .ref (y 12), .ref (y 13), .int m_years, .int (nI m_legacies), .ref (y 14), .ref (y 15), .ref (y 16), .ref (y 17), .int m_end, .int m_next, .int m_kind, .int m_which, .int m_place, .int m_read, .ref (y 18), .ref (y 19), .int m_readMany, .int m_readHigh, .ref (y 20), .int (nI m_insideMany), .ref (y 21), .ref (y 22), .ref (y 23), .ref (y 24), .ref (y 25)])), ((y 1), .inl (cI, 300, .inl (upd (upd (upd (upd (upd (upd (upd (upd (upd (upd (upd (upd (upd (upd (upd (upd (upd (upd (upd (upd m_tape (m_tapeSize + 0) ((v1 >>> (nI 24 &&& 31)) &&& 255)) (m_tapeSize + 1) ((v1 >>> (nI 16 &&& 31)) &&& 255)) (m_tapeSize + 2) ((v1 >>> (nI 8 &&& 31)) &&& 255)) (m_tapeSize + 3) ((v1 >>> (nI 0 &&& 31)) &&& 255)) (m_tapeSize + 4) ((v2 >>> (nI 24 &&& 31)) &&& 255)) (m_tapeSize + 5) ((v2 >>> (nI 16 &&& 31)) &&& 255)) (m_tapeSize + 6) ((v2 >>> (nI 8 &&& 31)) &&& 255)) (m_tapeSize + 7) ((v2 >>> (nI 0 &&& 31)) &&& 255)) (m_tapeSize + 8) ((v3 >>> (nI 24 &&& 31)) &&& 255)) (m_tapeSize + 9) ((v3 >>> (nI 16 &&& 31)) &&& 255)) (m_tapeSize + 10) ((v3 >>> (nI 8 &&& 31)) &&& 255)) (m_tapeSize + 11) ((v3 >>> (nI 0 &&& 31)) &&& 255)) (m_tapeSize + 12) ((v4 >>> (nI 24 &&& 31)) &&& 255)) (m_tapeSize + 13) ((v4 >>> (nI 16 &&& 31)) &&& 255)) (m_tapeSize + 14) ((v4 >>> (nI 8 &&& 31)) &&& 255)) (m_tapeSize + 15) ((v4 >>> (nI 0 &&& 31)) &&& 255)) (m_tapeSize + 16) ((v5 >>> (nI 24 &&& 31)) &&& 255)) (m_tapeSize + 17) ((v5 >>> (nI 16 &&& 31)) &&& 255)) (m_tapeSize + 18) ((v5 >>> (nI 8 &&& 31)) &&& 255)) (m_tapeSize + 19) ((v5 >>> (nI 0 &&& 31)) &&& 255))))]) [0, 1] (by decide) rfl
    exact W.iret (v := nI (m_tapeSize + 20)) hx hb hr (fun t ht hW => ⟨⟨_, ((0 : Int32), (m_tapeSize + 20), upd (upd (upd (upd (upd (upd (upd (upd (upd (upd (upd (upd (upd (upd (upd (upd (upd (upd (upd (upd m_tape (m_tapeSize + 0) ((v1 >>> (nI 24 &&& 31)) &&& 255)) (m_tapeSize + 1) ((v1 >>> (nI 16 &&& 31)) &&& 255)) (m_tapeSize + 2) ((v1 >>> (nI 8 &&& 31)) &&& 255)) (m_tapeSize + 3) ((v1 >>> (nI 0 &&& 31)) &&& 255)) (m_tapeSize + 4) ((v2 >>> (nI 24 &&& 31)) &&& 255)) (m_tapeSize + 5) ((v2 >>> (nI 16 &&& 31)) &&& 255)) (m_tapeSize + 6) ((v2 >>> (nI 8 &&& 31)) &&& 255)) (m_tapeSize + 7) ((v2 >>> (nI 0 &&& 31)) &&& 255)) (m_tapeSize + 8) ((v3 >>> (nI 24 &&& 31)) &&& 255)) (m_tapeSize + 9) ((v3 >>> (nI 16 &&& 31)) &&& 255)) (m_tapeSize + 10) ((v3 >>> (nI 8 &&& 31)) &&& 255)) (m_tapeSize + 11) ((v3 >>> (nI 0 &&& 31)) &&& 255)) (m_tapeSize + 12) ((v4 >>> (nI 24 &&& 31)) &&& 255)) (m_tapeSize + 13) ((v4 >>> (nI 16 &&& 31)) &&& 255)) (m_tapeSize + 14) ((v4 >>> (nI 8 &&& 31)) &&& 255)) (m_tapeSize + 15) ((v4 >>> (nI 0 &&& 31)) &&& 255)) (m_tapeSize + 16) ((v5 >>> (nI 24 &&& 31)) &&& 255)) (m_tapeSize + 17) ((v5 >>> (nI 16 &&& 31)) &&& 255)) (m_tapeSize + 18) ((v5 >>> (nI 8 &&& 31)) &&& 255)) (m_tapeSize + 19) ((v5 >>> (nI 0 &&& 31)) &&& 255)), rfl, Or.inr ⟨by omega, rfl, rfl, rfl⟩, by rw [ht]; exact hP9, va_K.moved hW.alike hK, hD9⟩, hS.F ht⟩) hS.2.2 dX8_feed_128
  ·
    refine lv_iconst (v := (-1)) hx hb dX8_feed_18 (by decide) ?_
    have hP9 := hP.sub (ws' := [((y 0), .inr (8, [.ref (y 1), .int (nI m_tapeSize), .int 0, .ref (y 2), .int m_cycleMany, .int m_vote, .int m_low, .int m_high, .int m_wear, .int m_spare, .int m_places, .int m_cycleNext, .int m_fault, .int m_faultPlace, .int (nI m_givers), .ref (y 3), .ref (y 4), .int m_giverNext, .int (nI m_children), .ref (y 5), .ref (y 6), .ref (y 7), .ref (y 8), .ref (y 9), .int (nI m_coats), .ref (y 10), .ref (y 11), .ref (y 12), .ref (y 13), .int m_years, .int (nI m_legacies), .ref (y 14), .ref (y 15), .ref (y 16), .ref (y 17), .int m_end, .int m_next, .int m_kind, .int m_which, .int m_place, .int m_read, .ref (y 18), .ref (y 19), .int m_readMany, .int m_readHigh, .ref (y 20), .int (nI m_insideMany), .ref (y 21), .ref (y 22), .ref (y 23), .ref (y 24), .ref (y 25)])), ((y 1), .inl (cI, 300, .inl m_tape))]) [0, 1] rfl
    have hD9 := hD.sub (ws' := [((y 0), .inr (8, [.ref (y 1), .int (nI m_tapeSize), .int 0, .ref (y 2), .int m_cycleMany, .int m_vote, .int m_low, .int m_high, .int m_wear, .int m_spare, .int m_places, .int m_cycleNext, .int m_fault, .int m_faultPlace, .int (nI m_givers), .ref (y 3), .ref (y 4), .int m_giverNext, .int (nI m_children), .ref (y 5), .ref (y 6), .ref (y 7), .ref (y 8), .ref (y 9), .int (nI m_coats), .ref (y 10), .ref (y 11), .ref (y 12), .ref (y 13), .int m_years, .int (nI m_legacies), .ref (y 14), .ref (y 15), .ref (y 16), .ref (y 17), .int m_end, .int m_next, .int m_kind, .int m_which, .int m_place, .int m_read, .ref (y 18), .ref (y 19), .int m_readMany, .int m_readHigh, .ref (y 20), .int (nI m_insideMany), .ref (y 21), .ref (y 22), .ref (y 23), .ref (y 24), .ref (y 25)])), ((y 1), .inl (cI, 300, .inl m_tape))]) [0, 1] (by decide) rfl
    exact W.iret (v := (-1)) hx hb hr (fun t ht hW => ⟨⟨_, ((0 : Int32), m_tapeSize, m_tape), rfl, Or.inl ⟨by have h9 := nI_gtc 300 (by omega) (by decide) c_15; omega, rfl, rfl, rfl⟩, by rw [ht]; exact hP9, va_K.moved hW.alike hK, hD9⟩, hS.F ht⟩) hS.2.2 dX8_feed_19

theorem ft_0 {q t1 t2 : Int32} (h : q = 0) : ftP q t1 t2 t1 := by unfold ftP; rw [if_pos h]
theorem ft_1 {q t1 t2 : Int32} (h : q = 1) : ftP q t1 t2 t2 := by unfold ftP; rw [if_neg (by rw [h]; decide), if_pos h]
theorem ft_n {q t1 t2 : Int32} (h0 : ¬ q = 0) (h1 : ¬ q = 1) : ftP q t1 t2 (-1) := by unfold ftP; rw [if_neg h0, if_neg h1]

set_option maxHeartbeats 4000000 in
set_option maxRecDepth 100000 in
theorem f_X7_fault (l : Launch) (D : va_G) (cB cI cJ cZ : ClassId) (x : Nat → Nat) (yr : Int32) (t1 : Int32) (t2 : Int32) (tt : Nat) (ln : Nat) (t6 : Int32) (t7 : Int32) (t8 : Int32) (t9 : Int32) (t10 : Int32) (q : Int32) (b_tt : tt ≤ 300) (b_ln : ln ≤ 300) : Met l yX7_fault wsX7_fault ({ frames := 0, cells := 0, slots := 0, locals := 0 } : Room) (cRd D (aTy cB cI cJ cZ) [((x 0), .inr (7, [.ref (x 1), .ref (x 5), .ref (x 7), .ref (x 10), .ref (x 17), .ref (x 22), .ref (x 27), .int yr])), ((x 1), .inr (4, [.ref (x 2), .int t1, .int t2, .int (nI tt), .ref (x 4), .int (nI ln), .int t6, .int t7, .int t8, .int t9, .int t10]))] [.ref (x 0), .int q]) (vp_Si (fun r : Int32 => ftP q t1 t2 r)) 0 0 (fun _ => False) := by
  refine Met.ofW (cc := cX7_fault) (maxL := 2) (ret := (some .int)) (by decide) rfl ?_
  intro p e s m args below meth c s₁ B hml hv
  obtain ⟨rfl, hP, hK⟩ := hv
  have hx := B.exec
  have hb := B.bytes
  have hr := B.returns
  have hts := atoms_spec (ws := wsX7_fault) B.pre
  have hown : s.vm.findClass RX7 = some m.cls := findClass_of_methodNamed B.named
  have hlocks := B.notSynchronized
  have hP : va_P D vwCl [((x 0), .inr (7, [.ref (x 1), .ref (x 5), .ref (x 7), .ref (x 10), .ref (x 17), .ref (x 22), .ref (x 27), .int yr])), ((x 1), .inr (4, [.ref (x 2), .int t1, .int t2, .int (nI tt), .ref (x 4), .int (nI ln), .int t6, .int t7, .int t8, .int t9, .int t10]))] s.heap := hP
  have w_1 : ∀ w ∈ wsX70, w ∈ wsX7_fault := by decide +kernel
  have w_2 := hts (Cond.fieldLink RX7 10 "BlueCoats" "reader" "LBlueCoats$Reader;") (by decide +kernel)
  have w_3 : ∀ w ∈ wsX40, w ∈ wsX7_fault := by decide +kernel
  have w_4 := hts (Cond.fieldLink RX7 80 "BlueCoats$Reader" "fault" "I") (by decide +kernel)
  have w_5 := hts (Cond.fieldLink RX7 83 "BlueCoats$Reader" "faultPlace" "I") (by decide +kernel)
  have hl := lv_entry ([.ref (x 0), .int q]) (n := 2) (Nat.le_of_ble_eq_true rfl)
  rw [lg_entry_eq]
  generalize (lg_sl ([.ref (x 0), .int q]) ++ List.replicate (2 - (lg_sl ([.ref (x 0), .int q])).length) Slot.unset).toArray = ls at hl ⊢
  have hl : lv_has ls 2 [(0, .ref (x 0)), (1, .int q)] := hl
  refine lv_iload_n hx hb dX7_fault_0 rfl (lv_at hl 1 rfl) ?_
  by_cases k_10 : q = 0
  ·
    subst k_10
    refine lv_lookup (off := 27) (tgt := 28) hx hb dX7_fault_1 (by decide) (by decide) (by decide) ?_
    refine lv_aload_n hx hb dX7_fault_28 rfl (lv_at hl 0 rfl) ?_
    refine va_get (D := D) (ci := 7) (v := .ref (x 1)) (C := RX7) (T := TX7) (N := 8) hx hb hts w_1 hown hK hP 0 rfl rfl 0 (by decide) w_2 (fun _ h9 => h9) rfl dX7_fault_29 ?_
    refine va_get (D := D) (ci := 4) (v := .int t1) (C := RX4) (T := TX4) (N := 11) hx hb hts w_3 hown hK hP 1 rfl rfl 1 (by decide) w_4 (fun _ h9 => h9) rfl dX7_fault_32 ?_
    exact W.iret (v := t1) hx hb hr (fun t ht hW => ⟨_, rfl, (ft_0 rfl), ht⟩) (fun q h => nomatch h) dX7_fault_35
  by_cases k_11 : q = 1
  ·
    subst k_11
    refine lv_lookup (off := 35) (tgt := 36) hx hb dX7_fault_1 (by decide) (by decide) (by decide) ?_
    refine lv_aload_n hx hb dX7_fault_36 rfl (lv_at hl 0 rfl) ?_
    refine va_get (D := D) (ci := 7) (v := .ref (x 1)) (C := RX7) (T := TX7) (N := 8) hx hb hts w_1 hown hK hP 0 rfl rfl 0 (by decide) w_2 (fun _ h9 => h9) rfl dX7_fault_37 ?_
    refine va_get (D := D) (ci := 4) (v := .int t2) (C := RX4) (T := TX4) (N := 11) hx hb hts w_3 hown hK hP 1 rfl rfl 2 (by decide) w_5 (fun _ h9 => h9) rfl dX7_fault_40 ?_
    exact W.iret (v := t2) hx hb hr (fun t ht hW => ⟨_, rfl, (ft_1 rfl), ht⟩) (fun q h => nomatch h) dX7_fault_43
  refine lv_lookup (off := 43) (tgt := 44) hx hb dX7_fault_1 (by decide) (sw_lk2 k_10 k_11) (by decide) ?_
  refine lv_iconst (v := (-1)) hx hb dX7_fault_44 (by decide) ?_
  exact W.iret (v := (-1)) hx hb hr (fun t ht hW => ⟨_, rfl, (ft_n k_10 k_11), ht⟩) (fun q h => nomatch h) dX7_fault_45

set_option maxHeartbeats 4000000 in
set_option maxRecDepth 100000 in
theorem f_X8_fault (l : Launch) (D : va_G) (cB cI cJ cZ : ClassId) (sz : Nat) (y : Nat → Nat) (m_tapeSize m_givers m_children m_coats m_legacies m_insideMany : Nat) (m_thrown m_cycleMany m_vote m_low m_high m_wear m_spare m_places m_cycleNext m_fault m_faultPlace m_giverNext m_years m_end m_next m_kind m_which m_place m_read m_readMany m_readHigh : Int32) (q : Int32) : Met l yX8_fault wsX8_fault ({ frames := 0, cells := 0, slots := 0, locals := 0 } : Room) (cPre D (aTy cB cI cJ cZ) [((y 0), .inr (8, [.ref (y 1), .int (nI m_tapeSize), .int m_thrown, .ref (y 2), .int m_cycleMany, .int m_vote, .int m_low, .int m_high, .int m_wear, .int m_spare, .int m_places, .int m_cycleNext, .int m_fault, .int m_faultPlace, .int (nI m_givers), .ref (y 3), .ref (y 4), .int m_giverNext, .int (nI m_children), .ref (y 5), .ref (y 6), .ref (y 7), .ref (y 8), .ref (y 9), .int (nI m_coats), .ref (y 10), .ref (y 11), .ref (y 12), .ref (y 13), .int m_years, .int (nI m_legacies), .ref (y 14), .ref (y 15), .ref (y 16), .ref (y 17), .int m_end, .int m_next, .int m_kind, .int m_which, .int m_place, .int m_read, .ref (y 18), .ref (y 19), .int m_readMany, .int m_readHigh, .ref (y 20), .int (nI m_insideMany), .ref (y 21), .ref (y 22), .ref (y 23), .ref (y 24), .ref (y 25)]))] sz [.ref (y 0), .int q]) (va_Qi (fun (r : Int32) (u : Int32) => ftP q m_fault m_faultPlace r) (cB_ D (aTy cB cI cJ cZ) (va_A [((y 0), .inr (8, [.ref (y 1), .int (nI m_tapeSize), .int m_thrown, .ref (y 2), .int m_cycleMany, .int m_vote, .int m_low, .int m_high, .int m_wear, .int m_spare, .int m_places, .int m_cycleNext, .int m_fault, .int m_faultPlace, .int (nI m_givers), .ref (y 3), .ref (y 4), .int m_giverNext, .int (nI m_children), .ref (y 5), .ref (y 6), .ref (y 7), .ref (y 8), .ref (y 9), .int (nI m_coats), .ref (y 10), .ref (y 11), .ref (y 12), .ref (y 13), .int m_years, .int (nI m_legacies), .ref (y 14), .ref (y 15), .ref (y 16), .ref (y 17), .int m_end, .int m_next, .int m_kind, .int m_which, .int m_place, .int m_read, .ref (y 18), .ref (y 19), .int m_readMany, .int m_readHigh, .ref (y 20), .int (nI m_insideMany), .ref (y 21), .ref (y 22), .ref (y 23), .ref (y 24), .ref (y 25)]))] sz) (fun u => [((y 0), .inr (8, [.ref (y 1), .int (nI m_tapeSize), .int (u), .ref (y 2), .int m_cycleMany, .int m_vote, .int m_low, .int m_high, .int m_wear, .int m_spare, .int m_places, .int m_cycleNext, .int m_fault, .int m_faultPlace, .int (nI m_givers), .ref (y 3), .ref (y 4), .int m_giverNext, .int (nI m_children), .ref (y 5), .ref (y 6), .ref (y 7), .ref (y 8), .ref (y 9), .int (nI m_coats), .ref (y 10), .ref (y 11), .ref (y 12), .ref (y 13), .int m_years, .int (nI m_legacies), .ref (y 14), .ref (y 15), .ref (y 16), .ref (y 17), .int m_end, .int m_next, .int m_kind, .int m_which, .int m_place, .int m_read, .ref (y 18), .ref (y 19), .int m_readMany, .int m_readHigh, .ref (y 20), .int (nI m_insideMany), .ref (y 21), .ref (y 22), .ref (y 23), .ref (y 24), .ref (y 25)]))])) (va_A [((y 0), .inr (8, [.ref (y 1), .int (nI m_tapeSize), .int m_thrown, .ref (y 2), .int m_cycleMany, .int m_vote, .int m_low, .int m_high, .int m_wear, .int m_spare, .int m_places, .int m_cycleNext, .int m_fault, .int m_faultPlace, .int (nI m_givers), .ref (y 3), .ref (y 4), .int m_giverNext, .int (nI m_children), .ref (y 5), .ref (y 6), .ref (y 7), .ref (y 8), .ref (y 9), .int (nI m_coats), .ref (y 10), .ref (y 11), .ref (y 12), .ref (y 13), .int m_years, .int (nI m_legacies), .ref (y 14), .ref (y 15), .ref (y 16), .ref (y 17), .int m_end, .int m_next, .int m_kind, .int m_which, .int m_place, .int m_read, .ref (y 18), .ref (y 19), .int m_readMany, .int m_readHigh, .ref (y 20), .int (nI m_insideMany), .ref (y 21), .ref (y 22), .ref (y 23), .ref (y 24), .ref (y 25)]))] sz)) 0 0 (va_A [((y 0), .inr (8, [.ref (y 1), .int (nI m_tapeSize), .int m_thrown, .ref (y 2), .int m_cycleMany, .int m_vote, .int m_low, .int m_high, .int m_wear, .int m_spare, .int m_places, .int m_cycleNext, .int m_fault, .int m_faultPlace, .int (nI m_givers), .ref (y 3), .ref (y 4), .int m_giverNext, .int (nI m_children), .ref (y 5), .ref (y 6), .ref (y 7), .ref (y 8), .ref (y 9), .int (nI m_coats), .ref (y 10), .ref (y 11), .ref (y 12), .ref (y 13), .int m_years, .int (nI m_legacies), .ref (y 14), .ref (y 15), .ref (y 16), .ref (y 17), .int m_end, .int m_next, .int m_kind, .int m_which, .int m_place, .int m_read, .ref (y 18), .ref (y 19), .int m_readMany, .int m_readHigh, .ref (y 20), .int (nI m_insideMany), .ref (y 21), .ref (y 22), .ref (y 23), .ref (y 24), .ref (y 25)]))] sz) := by
  refine Met.ofW (cc := cX8_fault) (maxL := 2) (ret := (some .int)) (by decide) rfl ?_
  intro p e s m args below meth c s₁ B hml hv
  obtain ⟨rfl, hsz, hP, hK, hD0⟩ := hv
  have hx := B.exec
  have hb := B.bytes
  have hr := B.returns
  have hts := atoms_spec (ws := wsX8_fault) B.pre
  have hown : s.vm.findClass RX8 = some m.cls := findClass_of_methodNamed B.named
  have hlocks := B.notSynchronized
  subst hsz
  have hD := hD0.self (sz := s.heap.size)
  generalize hAe : va_A [((y 0), .inr (8, [.ref (y 1), .int (nI m_tapeSize), .int m_thrown, .ref (y 2), .int m_cycleMany, .int m_vote, .int m_low, .int m_high, .int m_wear, .int m_spare, .int m_places, .int m_cycleNext, .int m_fault, .int m_faultPlace, .int (nI m_givers), .ref (y 3), .ref (y 4), .int m_giverNext, .int (nI m_children), .ref (y 5), .ref (y 6), .ref (y 7), .ref (y 8), .ref (y 9), .int (nI m_coats), .ref (y 10), .ref (y 11), .ref (y 12), .ref (y 13), .int m_years, .int (nI m_legacies), .ref (y 14), .ref (y 15), .ref (y 16), .ref (y 17), .int m_end, .int m_next, .int m_kind, .int m_which, .int m_place, .int m_read, .ref (y 18), .ref (y 19), .int m_readMany, .int m_readHigh, .ref (y 20), .int (nI m_insideMany), .ref (y 21), .ref (y 22), .ref (y 23), .ref (y 24), .ref (y 25)]))] s.heap.size = A at hD ⊢
  have hA : ∀ q : Nat, s.heap.size ≤ q → A q := fun q h => by rw [← hAe]; exact Or.inr h
  have hS : va_S A s.heap s.heap [] := va_S.rf
  have hP : va_P D vwCl [((y 0), .inr (8, [.ref (y 1), .int (nI m_tapeSize), .int m_thrown, .ref (y 2), .int m_cycleMany, .int m_vote, .int m_low, .int m_high, .int m_wear, .int m_spare, .int m_places, .int m_cycleNext, .int m_fault, .int m_faultPlace, .int (nI m_givers), .ref (y 3), .ref (y 4), .int m_giverNext, .int (nI m_children), .ref (y 5), .ref (y 6), .ref (y 7), .ref (y 8), .ref (y 9), .int (nI m_coats), .ref (y 10), .ref (y 11), .ref (y 12), .ref (y 13), .int m_years, .int (nI m_legacies), .ref (y 14), .ref (y 15), .ref (y 16), .ref (y 17), .int m_end, .int m_next, .int m_kind, .int m_which, .int m_place, .int m_read, .ref (y 18), .ref (y 19), .int m_readMany, .int m_readHigh, .ref (y 20), .int (nI m_insideMany), .ref (y 21), .ref (y 22), .ref (y 23), .ref (y 24), .ref (y 25)]))] s.heap := hP
  have w_1 : ∀ w ∈ wsX80, w ∈ wsX8_fault := by decide +kernel
  have w_2 := hts (Cond.fieldLink RX8 112 "BlueCoatsModel" "thrown" "I") (by decide +kernel)
  have w_3 := hts (Cond.fieldLink RX8 38 "BlueCoatsModel" "faultPlace" "I") (by decide +kernel)
  have w_4 := hts (Cond.fieldLink RX8 118 "BlueCoatsModel" "fault" "I") (by decide +kernel)
  have hl := lv_entry ([.ref (y 0), .int q]) (n := 2) (Nat.le_of_ble_eq_true rfl)
  rw [lg_entry_eq]
  generalize (lg_sl ([.ref (y 0), .int q]) ++ List.replicate (2 - (lg_sl ([.ref (y 0), .int q])).length) Slot.unset).toArray = ls at hl ⊢
  have hl : lv_has ls 2 [(0, .ref (y 0)), (1, .int q)] := hl
  refine lv_aload_n hx hb dX8_fault_0 rfl (lv_at hl 0 rfl) ?_
  refine lv_iconst (v := 0) hx hb dX8_fault_1 (by decide) ?_
  refine va_put (D := D) (ci := 8) (v := .int 0) (ty := .int) (C := RX8) (T := TX8) (N := 52) hx hb hts w_1 tyX8 tyX8_ok nmX8 hown hK hP hD hS 0 rfl rfl 2 (by decide) w_2 (fun _ h9 => h9) rfl (by decide +kernel) rfl rfl (Nat.le_of_ble_eq_true rfl) dX8_fault_2 (fun H locs hP hD hS => ?_)
  have hP : va_P D vwCl [((y 0), .inr (8, [.ref (y 1), .int (nI m_tapeSize), .int 0, .ref (y 2), .int m_cycleMany, .int m_vote, .int m_low, .int m_high, .int m_wear, .int m_spare, .int m_places, .int m_cycleNext, .int m_fault, .int m_faultPlace, .int (nI m_givers), .ref (y 3), .ref (y 4), .int m_giverNext, .int (nI m_children), .ref (y 5), .ref (y 6), .ref (y 7), .ref (y 8), .ref (y 9), .int (nI m_coats), .ref (y 10), .ref (y 11), .ref (y 12), .ref (y 13), .int m_years, .int (nI m_legacies), .ref (y 14), .ref (y 15), .ref (y 16), .ref (y 17), .int m_end, .int m_next, .int m_kind, .int m_which, .int m_place, .int m_read, .ref (y 18), .ref (y 19), .int m_readMany, .int m_readHigh, .ref (y 20), .int (nI m_insideMany), .ref (y 21), .ref (y 22), .ref (y 23), .ref (y 24), .ref (y 25)]))] H := hP
  have hD : va_D A [((y 0), .inr (8, [.ref (y 1), .int (nI m_tapeSize), .int 0, .ref (y 2), .int m_cycleMany, .int m_vote, .int m_low, .int m_high, .int m_wear, .int m_spare, .int m_places, .int m_cycleNext, .int m_fault, .int m_faultPlace, .int (nI m_givers), .ref (y 3), .ref (y 4), .int m_giverNext, .int (nI m_children), .ref (y 5), .ref (y 6), .ref (y 7), .ref (y 8), .ref (y 9), .int (nI m_coats), .ref (y 10), .ref (y 11), .ref (y 12), .ref (y 13), .int m_years, .int (nI m_legacies), .ref (y 14), .ref (y 15), .ref (y 16), .ref (y 17), .int m_end, .int m_next, .int m_kind, .int m_which, .int m_place, .int m_read, .ref (y 18), .ref (y 19), .int m_readMany, .int m_readHigh, .ref (y 20), .int (nI m_insideMany), .ref (y 21), .ref (y 22), .ref (y 23), .ref (y 24), .ref (y 25)]))] := hD
  refine lv_iload_n hx hb dX8_fault_5 rfl (lv_at hl 1 rfl) ?_
  refine lv_if_ne (tgt := 16) hx hb dX8_fault_6 (by decide) (fun c_6 => ?_) (fun c_6 => ?_)
  ·
    refine lv_iload_n hx hb dX8_fault_16 rfl (lv_at hl 1 rfl) ?_
    refine lv_iconst (v := 1) hx hb dX8_fault_17 (by decide) ?_
    refine lv_icmp_ne (tgt := 28) hx hb dX8_fault_18 (by decide) (fun c_18 => ?_) (fun c_18 => ?_)
    ·
      refine lv_iconst (v := (-1)) hx hb dX8_fault_28 (by decide) ?_
      have hP9 := hP.sub (ws' := [((y 0), .inr (8, [.ref (y 1), .int (nI m_tapeSize), .int 0, .ref (y 2), .int m_cycleMany, .int m_vote, .int m_low, .int m_high, .int m_wear, .int m_spare, .int m_places, .int m_cycleNext, .int m_fault, .int m_faultPlace, .int (nI m_givers), .ref (y 3), .ref (y 4), .int m_giverNext, .int (nI m_children), .ref (y 5), .ref (y 6), .ref (y 7), .ref (y 8), .ref (y 9), .int (nI m_coats), .ref (y 10), .ref (y 11), .ref (y 12), .ref (y 13), .int m_years, .int (nI m_legacies), .ref (y 14), .ref (y 15), .ref (y 16), .ref (y 17), .int m_end, .int m_next, .int m_kind, .int m_which, .int m_place, .int m_read, .ref (y 18), .ref (y 19), .int m_readMany, .int m_readHigh, .ref (y 20), .int (nI m_insideMany), .ref (y 21), .ref (y 22), .ref (y 23), .ref (y 24), .ref (y 25)]))]) [0] rfl
      have hD9 := hD.sub (ws' := [((y 0), .inr (8, [.ref (y 1), .int (nI m_tapeSize), .int 0, .ref (y 2), .int m_cycleMany, .int m_vote, .int m_low, .int m_high, .int m_wear, .int m_spare, .int m_places, .int m_cycleNext, .int m_fault, .int m_faultPlace, .int (nI m_givers), .ref (y 3), .ref (y 4), .int m_giverNext, .int (nI m_children), .ref (y 5), .ref (y 6), .ref (y 7), .ref (y 8), .ref (y 9), .int (nI m_coats), .ref (y 10), .ref (y 11), .ref (y 12), .ref (y 13), .int m_years, .int (nI m_legacies), .ref (y 14), .ref (y 15), .ref (y 16), .ref (y 17), .int m_end, .int m_next, .int m_kind, .int m_which, .int m_place, .int m_read, .ref (y 18), .ref (y 19), .int m_readMany, .int m_readHigh, .ref (y 20), .int (nI m_insideMany), .ref (y 21), .ref (y 22), .ref (y 23), .ref (y 24), .ref (y 25)]))]) [0] (by decide) rfl
      exact W.iret (v := (-1)) hx hb hr (fun t ht hW => ⟨⟨_, (0 : Int32), rfl, (ft_n c_6 c_18), by rw [ht]; exact hP9, va_K.moved hW.alike hK, hD9⟩, hS.F ht⟩) hS.2.2 dX8_fault_29
    ·
      refine lv_aload_n hx hb dX8_fault_21 rfl (lv_at hl 0 rfl) ?_
      refine va_get (D := D) (ci := 8) (v := .int m_faultPlace) (C := RX8) (T := TX8) (N := 52) hx hb hts w_1 hown hK hP 0 rfl rfl 13 (by decide) w_3 (fun _ h9 => h9) rfl dX8_fault_22 ?_
      refine lv_goto (tgt := 29) hx hb dX8_fault_25 (by decide) ?_
      have hP9 := hP.sub (ws' := [((y 0), .inr (8, [.ref (y 1), .int (nI m_tapeSize), .int 0, .ref (y 2), .int m_cycleMany, .int m_vote, .int m_low, .int m_high, .int m_wear, .int m_spare, .int m_places, .int m_cycleNext, .int m_fault, .int m_faultPlace, .int (nI m_givers), .ref (y 3), .ref (y 4), .int m_giverNext, .int (nI m_children), .ref (y 5), .ref (y 6), .ref (y 7), .ref (y 8), .ref (y 9), .int (nI m_coats), .ref (y 10), .ref (y 11), .ref (y 12), .ref (y 13), .int m_years, .int (nI m_legacies), .ref (y 14), .ref (y 15), .ref (y 16), .ref (y 17), .int m_end, .int m_next, .int m_kind, .int m_which, .int m_place, .int m_read, .ref (y 18), .ref (y 19), .int m_readMany, .int m_readHigh, .ref (y 20), .int (nI m_insideMany), .ref (y 21), .ref (y 22), .ref (y 23), .ref (y 24), .ref (y 25)]))]) [0] rfl
      have hD9 := hD.sub (ws' := [((y 0), .inr (8, [.ref (y 1), .int (nI m_tapeSize), .int 0, .ref (y 2), .int m_cycleMany, .int m_vote, .int m_low, .int m_high, .int m_wear, .int m_spare, .int m_places, .int m_cycleNext, .int m_fault, .int m_faultPlace, .int (nI m_givers), .ref (y 3), .ref (y 4), .int m_giverNext, .int (nI m_children), .ref (y 5), .ref (y 6), .ref (y 7), .ref (y 8), .ref (y 9), .int (nI m_coats), .ref (y 10), .ref (y 11), .ref (y 12), .ref (y 13), .int m_years, .int (nI m_legacies), .ref (y 14), .ref (y 15), .ref (y 16), .ref (y 17), .int m_end, .int m_next, .int m_kind, .int m_which, .int m_place, .int m_read, .ref (y 18), .ref (y 19), .int m_readMany, .int m_readHigh, .ref (y 20), .int (nI m_insideMany), .ref (y 21), .ref (y 22), .ref (y 23), .ref (y 24), .ref (y 25)]))]) [0] (by decide) rfl
      exact W.iret (v := m_faultPlace) hx hb hr (fun t ht hW => ⟨⟨_, (0 : Int32), rfl, (ft_1 c_18), by rw [ht]; exact hP9, va_K.moved hW.alike hK, hD9⟩, hS.F ht⟩) hS.2.2 dX8_fault_29
  ·
    refine lv_aload_n hx hb dX8_fault_9 rfl (lv_at hl 0 rfl) ?_
    refine va_get (D := D) (ci := 8) (v := .int m_fault) (C := RX8) (T := TX8) (N := 52) hx hb hts w_1 hown hK hP 0 rfl rfl 12 (by decide) w_4 (fun _ h9 => h9) rfl dX8_fault_10 ?_
    refine lv_goto (tgt := 29) hx hb dX8_fault_13 (by decide) ?_
    have hP9 := hP.sub (ws' := [((y 0), .inr (8, [.ref (y 1), .int (nI m_tapeSize), .int 0, .ref (y 2), .int m_cycleMany, .int m_vote, .int m_low, .int m_high, .int m_wear, .int m_spare, .int m_places, .int m_cycleNext, .int m_fault, .int m_faultPlace, .int (nI m_givers), .ref (y 3), .ref (y 4), .int m_giverNext, .int (nI m_children), .ref (y 5), .ref (y 6), .ref (y 7), .ref (y 8), .ref (y 9), .int (nI m_coats), .ref (y 10), .ref (y 11), .ref (y 12), .ref (y 13), .int m_years, .int (nI m_legacies), .ref (y 14), .ref (y 15), .ref (y 16), .ref (y 17), .int m_end, .int m_next, .int m_kind, .int m_which, .int m_place, .int m_read, .ref (y 18), .ref (y 19), .int m_readMany, .int m_readHigh, .ref (y 20), .int (nI m_insideMany), .ref (y 21), .ref (y 22), .ref (y 23), .ref (y 24), .ref (y 25)]))]) [0] rfl
    have hD9 := hD.sub (ws' := [((y 0), .inr (8, [.ref (y 1), .int (nI m_tapeSize), .int 0, .ref (y 2), .int m_cycleMany, .int m_vote, .int m_low, .int m_high, .int m_wear, .int m_spare, .int m_places, .int m_cycleNext, .int m_fault, .int m_faultPlace, .int (nI m_givers), .ref (y 3), .ref (y 4), .int m_giverNext, .int (nI m_children), .ref (y 5), .ref (y 6), .ref (y 7), .ref (y 8), .ref (y 9), .int (nI m_coats), .ref (y 10), .ref (y 11), .ref (y 12), .ref (y 13), .int m_years, .int (nI m_legacies), .ref (y 14), .ref (y 15), .ref (y 16), .ref (y 17), .int m_end, .int m_next, .int m_kind, .int m_which, .int m_place, .int m_read, .ref (y 18), .ref (y 19), .int m_readMany, .int m_readHigh, .ref (y 20), .int (nI m_insideMany), .ref (y 21), .ref (y 22), .ref (y 23), .ref (y 24), .ref (y 25)]))]) [0] (by decide) rfl
    exact W.iret (v := m_fault) hx hb hr (fun t ht hW => ⟨⟨_, (0 : Int32), rfl, (ft_0 c_6), by rw [ht]; exact hP9, va_K.moved hW.alike hK, hD9⟩, hS.F ht⟩) hS.2.2 dX8_fault_29

