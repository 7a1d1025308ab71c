theorem ac_known {s : State} {args : Array Value} {ty : FieldType} (h : (Cond.arrayClass ty).before args s = true) (hp : refKind ty = false) : ∃ cA : ClassId, ArrOfT s cA ty ∧ va_RA s cA ty := by
  obtain ⟨cA, kA, comp, hf, hk, hkind⟩ := Cond.arrayClass_spec h
  refine ⟨cA, fun n z => ⟨fun k h => (by cases h), kA, hk, comp, hkind⟩, ?_⟩
  cases ty with
  | object C => simp [refKind] at hp
  | _ => exact hf

theorem sw_out17 {v : Int32} (h0 : ¬ v = 0) (h1 : ¬ v = 1) (h2 : ¬ v = 2) (h3 : ¬ v = 3) (h4 : ¬ v = 4) (h5 : ¬ v = 5) (h6 : ¬ v = 6) (h7 : ¬ v = 7) (h8 : ¬ v = 8) (h9 : ¬ v = 9) (h10 : ¬ v = 10) (h11 : ¬ v = 11) (h12 : ¬ v = 12) (h13 : ¬ v = 13) (h14 : ¬ v = 14) (h15 : ¬ v = 15) (h16 : ¬ v = 16) : v.toInt < 0 ∨ 16 < v.toInt := by
  have e0 := sw_toInt (k := 0) h0 (by decide) (by decide)
  have e1 := sw_toInt (k := 1) h1 (by decide) (by decide)
  have e2 := sw_toInt (k := 2) h2 (by decide) (by decide)
  have e3 := sw_toInt (k := 3) h3 (by decide) (by decide)
  have e4 := sw_toInt (k := 4) h4 (by decide) (by decide)
  have e5 := sw_toInt (k := 5) h5 (by decide) (by decide)
  have e6 := sw_toInt (k := 6) h6 (by decide) (by decide)
  have e7 := sw_toInt (k := 7) h7 (by decide) (by decide)
  have e8 := sw_toInt (k := 8) h8 (by decide) (by decide)
  have e9 := sw_toInt (k := 9) h9 (by decide) (by decide)
  have e10 := sw_toInt (k := 10) h10 (by decide) (by decide)
  have e11 := sw_toInt (k := 11) h11 (by decide) (by decide)
  have e12 := sw_toInt (k := 12) h12 (by decide) (by decide)
  have e13 := sw_toInt (k := 13) h13 (by decide) (by decide)
  have e14 := sw_toInt (k := 14) h14 (by decide) (by decide)
  have e15 := sw_toInt (k := 15) h15 (by decide) (by decide)
  have e16 := sw_toInt (k := 16) h16 (by decide) (by decide)
  omega

set_option maxHeartbeats 4000000 in
set_option maxRecDepth 100000 in
theorem law_exit {p : Program} {l : Launch} {e : Env} {s : State} {m : MethodId} {below : List Frame} {meth : Method} {c : Code} {D : va_G} {cB cI cJ cZ : ClassId} {b : Nat} {xs : Nat → Int32} {x y : Nat → Nat} {wf : Nat → Int32} {q9 sa : Nat} {L : Nat} (C0 : lw_At p s m meth c b L xs) {H : Heap} {locs : List Loc} {ls : Array Slot} (hS : va_S (fun q : Nat => s.heap.size ≤ q) s.heap H locs) : W p l e room_1 s m #[Value.ref b] below meth c H locs 62 67370 (lw_Z below #[Value.ref b] s) (F0 m 694 ls []) := by
  obtain ⟨hx, hb, hr, hml, hown, hts0, hX, hbl, hlocks, hgv⟩ := id C0
  have hown : s.vm.findClass RL = some m.cls := hown
  have hts : ∀ w ∈ lw_tbl, w.before #[Value.ref b] s = true := hts0
  have hA : ∀ q : Nat, s.heap.size ≤ q → (fun q : Nat => s.heap.size ≤ q) q := fun _ h => h
  have hbA : ¬ (fun q : Nat => s.heap.size ≤ q) b := Nat.not_le.mpr hbl
  refine lv_iconst (v := 1) hx hb dL_law_694 (by decide) ?_
  refine va_forget (fun q hq => hS.2.2 q hq) ?_
  refine W.widen (k := 600002) (n := 7302232) (Nat.le_of_ble_eq_true rfl) (Nat.le_of_ble_eq_true rfl) ?_
  exact lw_ret hx hb hr hlocks dL_law_695
set_option maxHeartbeats 4000000 in
set_option maxRecDepth 100000 in
theorem law_tail {p : Program} {l : Launch} {e : Env} {s : State} {m : MethodId} {below : List Frame} {meth : Method} {c : Code} {D : va_G} {cB cI cJ cZ : ClassId} {b : Nat} {xs : Nat → Int32} {x y : Nat → Nat} {wf : Nat → Int32} {q9 sa : Nat} (C0 : lw_At p s m meth c b 6 xs) {H : Heap} {locs : List Loc} {ls : Array Slot} (hS : va_S (fun q : Nat => s.heap.size ≤ q) s.heap H locs) (hl : lv_has ls 7 [(4, .int 0), (3, .ref q9), (2, .ref (y 0)), (1, .ref (x 0)), (0, .ref b)]) : W p l e room_1 s m #[Value.ref b] below meth c H locs 62 67370 (lw_Z below #[Value.ref b] s) (F0 m 688 ls []) := by
  obtain ⟨hx, hb, hr, hml, hown, hts0, hX, hbl, hlocks, hgv⟩ := id C0
  have hown : s.vm.findClass RL = some m.cls := hown
  have hts : ∀ w ∈ lw_tbl, w.before #[Value.ref b] s = true := hts0
  have hA : ∀ q : Nat, s.heap.size ≤ q → (fun q : Nat => s.heap.size ≤ q) q := fun _ h => h
  have hbA : ¬ (fun q : Nat => s.heap.size ≤ q) b := Nat.not_le.mpr hbl
  refine lv_iinc (v := 6) (lv' := [(4, .int 6), (3, .ref q9), (2, .ref (y 0)), (1, .ref (x 0)), (0, .ref b)]) hx hb dL_law_688 hl (k := 0) rfl (by decide) (by decide) rfl (fun ls hl => ?_)
  refine lv_goto (tgt := 23) hx hb dL_law_691 (by decide) ?_
  refine lv_iload hx hb dL_law_23 (lv_at hl 0 rfl) ?_
  refine lv_aload_n hx hb dL_law_25 rfl (lv_at hl 4 rfl) ?_
  refine va_slen hx hb hX hbl hbA hS dL_law_26 ?_
  refine lv_bipush (v := 6) hx hb dL_law_27 (by decide) ?_
  refine sv_isub (v := 0) hx hb dL_law_29 (by decide) ?_
  refine lv_icmp_gt (tgt := 694) hx hb dL_law_30 (by decide) (fun _ => ?_) (fun h => absurd (by decide) h)
  exact law_exit C0 hS (x := x) (y := y) (wf := wf) (q9 := q9) (sa := sa) (D := D) (cB := cB) (cI := cI) (cJ := cJ) (cZ := cZ)
set_option maxHeartbeats 4000000 in
set_option maxRecDepth 100000 in
theorem law_body {p : Program} {l : Launch} {e : Env} {s : State} {m : MethodId} {below : List Frame} {meth : Method} {c : Code} {D : va_G} {cB cI cJ cZ : ClassId} {b : Nat} {xs : Nat → Int32} {x y : Nat → Nat} {wf : Nat → Int32} {q9 sa : Nat} (hl9 : l.stackTraces = false) (C0 : lw_At p s m meth c b 6 xs) (hK : va_K D vwCl (aTy cB cI cJ cZ) s) (hlk : lkS s.heap.size sa s) {H : Heap} {locs : List Loc} {ls : Array Slot} (hP : va_P D vwCl (freshX cB cI cJ cZ x ++ (freshM cB cI cJ cZ y wf ++ [(q9, .inl (cJ, 1, .inr (.inl (fun _ => 0))))])) H) (hD : va_D (fun q : Nat => s.heap.size ≤ q) (freshX cB cI cJ cZ x ++ (freshM cB cI cJ cZ y wf ++ [(q9, .inl (cJ, 1, .inr (.inl (fun _ => 0))))]))) (hS : va_S (fun q : Nat => s.heap.size ≤ q) s.heap H locs) (hl : lv_has ls 7 [(4, .int 0), (3, .ref q9), (2, .ref (y 0)), (1, .ref (x 0)), (0, .ref b)]) : W p l e room_1 s m #[Value.ref b] below meth c H locs 61 67364 (lw_Z below #[Value.ref b] s) (F0 m 33 ls []) := by
  obtain ⟨hx, hb, hr, hml, hown, hts0, hX, hbl, hlocks, hgv⟩ := id C0
  have hown : s.vm.findClass RL = some m.cls := hown
  have hts : ∀ w ∈ lw_tbl, w.before #[Value.ref b] s = true := hts0
  have hA : ∀ q : Nat, s.heap.size ≤ q → (fun q : Nat => s.heap.size ≤ q) q := fun _ h => h
  have hbA : ¬ (fun q : Nat => s.heap.size ≤ q) b := Nat.not_le.mpr hbl
  have kend : ∀ (H : Heap) (locs : List Loc) (ls : Array Slot), va_S (fun q : Nat => s.heap.size ≤ q) s.heap H locs → lv_has ls 7 [(4, .int 0), (3, .ref q9), (2, .ref (y 0)), (1, .ref (x 0)), (0, .ref b)] → W p l e room_1 s m #[Value.ref b] below meth c H locs 62 67370 (lw_Z below #[Value.ref b] s) (F0 m 688 ls []) := fun H locs ls hS hl => law_tail C0 hS hl (wf := wf) (sa := sa) (D := D) (cB := cB) (cI := cI) (cJ := cJ) (cZ := cZ)
  refine lv_aload_n hx hb dL_law_33 rfl (lv_at hl 4 rfl) ?_
  refine lv_iload hx hb dL_law_34 (lv_at hl 0 rfl) ?_
  refine va_sld hx hb hX hbl hbA hS (i := 0) (vp_in_iff.mpr (by decide)) dL_law_36 ?_
  refine lv_bipush (v := 31) hx hb dL_law_37 (by decide) ?_
  refine lv_iand hx hb dL_law_39 ?_
  refine lv_topi (fun v ev => ?_)
  clear ev
  by_cases k0 : v = 0
  · subst k0
    refine lv_tableIn (off := 84) (tgt := 124) hx hb dL_law_40 (by decide) (by decide) rfl (by decide) ?_
    exact law_0 hl9 C0 hK hlk hP hD hS hl kend
  by_cases k1 : v = 1
  · subst k1
    refine lv_tableIn (off := 157) (tgt := 197) hx hb dL_law_40 (by decide) (by decide) rfl (by decide) ?_
    exact law_1 hl9 C0 hK hlk hP hD hS hl kend
  by_cases k2 : v = 2
  · subst k2
    refine lv_tableIn (off := 182) (tgt := 222) hx hb dL_law_40 (by decide) (by decide) rfl (by decide) ?_
    exact law_2 hl9 C0 hK hlk hP hD hS hl kend
  by_cases k3 : v = 3
  · subst k3
    refine lv_tableIn (off := 207) (tgt := 247) hx hb dL_law_40 (by decide) (by decide) rfl (by decide) ?_
    exact law_3 hl9 C0 hK hlk hP hD hS hl kend
  by_cases k4 : v = 4
  · subst k4
    refine lv_tableIn (off := 220) (tgt := 260) hx hb dL_law_40 (by decide) (by decide) rfl (by decide) ?_
    exact law_4 hl9 C0 hK hlk hP hD hS hl kend
  by_cases k5 : v = 5
  · subst k5
    refine lv_tableIn (off := 257) (tgt := 297) hx hb dL_law_40 (by decide) (by decide) rfl (by decide) ?_
    exact law_5 hl9 C0 hK hlk hP hD hS hl kend
  by_cases k6 : v = 6
  · subst k6
    refine lv_tableIn (off := 294) (tgt := 334) hx hb dL_law_40 (by decide) (by decide) rfl (by decide) ?_
    exact law_6 hl9 C0 hK hlk hP hD hS hl kend
  by_cases k7 : v = 7
  · subst k7
    refine lv_tableIn (off := 355) (tgt := 395) hx hb dL_law_40 (by decide) (by decide) rfl (by decide) ?_
    exact law_7 hl9 C0 hK hlk hP hD hS hl kend
  by_cases k8 : v = 8
  · subst k8
    refine lv_tableIn (off := 368) (tgt := 408) hx hb dL_law_40 (by decide) (by decide) rfl (by decide) ?_
    exact law_8 hl9 C0 hK hlk hP hD hS hl kend
  by_cases k9 : v = 9
  · subst k9
    refine lv_tableIn (off := 381) (tgt := 421) hx hb dL_law_40 (by decide) (by decide) rfl (by decide) ?_
    exact law_9 hl9 C0 hK hlk hP hD hS hl kend
  by_cases k10 : v = 10
  · subst k10
    refine lv_tableIn (off := 394) (tgt := 434) hx hb dL_law_40 (by decide) (by decide) rfl (by decide) ?_
    exact law_10 hl9 C0 hK hlk hP hD hS hl kend
  by_cases k11 : v = 11
  · subst k11
    refine lv_tableIn (off := 431) (tgt := 471) hx hb dL_law_40 (by decide) (by decide) rfl (by decide) ?_
    exact law_11 hl9 C0 hK hlk hP hD hS hl kend
  by_cases k12 : v = 12
  · subst k12
    refine lv_tableIn (off := 468) (tgt := 508) hx hb dL_law_40 (by decide) (by decide) rfl (by decide) ?_
    exact law_12 hl9 C0 hK hlk hP hD hS hl kend
  by_cases k13 : v = 13
  · subst k13
    refine lv_tableIn (off := 505) (tgt := 545) hx hb dL_law_40 (by decide) (by decide) rfl (by decide) ?_
    exact law_13 hl9 C0 hK hlk hP hD hS hl kend
  by_cases k14 : v = 14
  · subst k14
    refine lv_tableIn (off := 518) (tgt := 558) hx hb dL_law_40 (by decide) (by decide) rfl (by decide) ?_
    exact law_14 hl9 C0 hK hlk hP hD hS hl kend
  by_cases k15 : v = 15
  · subst k15
    refine lv_tableIn (off := 586) (tgt := 626) hx hb dL_law_40 (by decide) (by decide) rfl (by decide) ?_
    exact law_15 hl9 C0 hK hlk hP hD hS hl kend
  by_cases k16 : v = 16
  · subst k16
    refine lv_tableIn (off := 623) (tgt := 663) hx hb dL_law_40 (by decide) (by decide) rfl (by decide) ?_
    exact law_16 hl9 C0 hK hlk hP hD hS hl kend
  refine lv_tableOut (tgt := 688) hx hb dL_law_40 (sw_out17 k0 k1 k2 k3 k4 k5 k6 k7 k8 k9 k10 k11 k12 k13 k14 k15 k16) (by decide) ?_
  refine W.widen (k := 62) (n := 67370) (Nat.le_of_ble_eq_true rfl) (Nat.le_of_ble_eq_true rfl) ?_
  exact kend _ _ ls hS hl
theorem law_short {L : Nat} (hL : L ≤ 6) (h : ¬ L = 6) : (Int32.ofNat L - 6 : Int32) < 0 := by
  have : L = 0 ∨ L = 1 ∨ L = 2 ∨ L = 3 ∨ L = 4 ∨ L = 5 := by omega
  rcases this with rfl | rfl | rfl | rfl | rfl | rfl <;> decide

set_option maxHeartbeats 4000000 in
set_option maxRecDepth 100000 in
/-- THE LAW, from its entry -/
theorem whole_start {p : Program} {e : Env} {s : State} {m : MethodId} {below : List Frame} {meth : Method} {c : Code} (l : Launch) (hl9 : l.stackTraces = false) {b L : Nat} {xs : Nat → Int32} (hL : L ≤ 6) (C0 : lw_At p s m meth c b L xs) : W p l e room_1 s m #[Value.ref b] below meth c s.heap [] 0 0 (lw_Z below #[Value.ref b] s) (entryFrame m ([Value.ref b] : List Value).toArray 7) := by
  obtain ⟨hx, hb, hr, hml, hown, hts0, hX, hbl, hlocks, hgv⟩ := id C0
  have hown : s.vm.findClass RL = some m.cls := hown
  have hts : ∀ w ∈ lw_tbl, w.before #[Value.ref b] s = true := hts0
  have hA : ∀ q : Nat, s.heap.size ≤ q → (fun q : Nat => s.heap.size ≤ q) q := fun _ h => h
  have hbA : ¬ (fun q : Nat => s.heap.size ≤ q) b := Nat.not_le.mpr hbl
  obtain ⟨cc0, iS0, hKn0⟩ := u_known (C := RX0) (T := TX0) (N := 9) (n := 9) hts0 inTX0 (hts0 (.instantiable RX0 9) (by decide +kernel))
  obtain ⟨cc1, iS1, hKn1⟩ := u_known (C := RX1) (T := TX1) (N := 7) (n := 7) hts0 inTX1 (hts0 (.instantiable RX1 7) (by decide +kernel))
  obtain ⟨cc2, iS2, hKn2⟩ := u_known (C := RX2) (T := TX2) (N := 6) (n := 6) hts0 inTX2 (hts0 (.instantiable RX2 6) (by decide +kernel))
  obtain ⟨cc3, iS3, hKn3⟩ := u_known (C := RX3) (T := TX3) (N := 4) (n := 4) hts0 inTX3 (hts0 (.instantiable RX3 4) (by decide +kernel))
  obtain ⟨cc4, iS4, hKn4⟩ := u_known (C := RX4) (T := TX4) (N := 11) (n := 11) hts0 inTX4 (hts0 (.instantiable RX4 11) (by decide +kernel))
  obtain ⟨cc5, iS5, hKn5⟩ := u_known (C := RX5) (T := TX5) (N := 9) (n := 9) hts0 inTX5 (hts0 (.instantiable RX5 9) (by decide +kernel))
  obtain ⟨cc6, iS6, hKn6⟩ := u_known (C := RX6) (T := TX6) (N := 5) (n := 5) hts0 inTX6 (hts0 (.instantiable RX6 5) (by decide +kernel))
  obtain ⟨cc7, iS7, hKn7⟩ := u_known (C := RX7) (T := TX7) (N := 8) (n := 8) hts0 inTX7 (hts0 (.instantiable RX7 8) (by decide +kernel))
  obtain ⟨cc8, iS8, hKn8⟩ := u_known (C := RX8) (T := TX8) (N := 52) (n := 52) hts0 inTX8 (hts0 (.instantiable RX8 52) (by decide +kernel))
  obtain ⟨D, hKc⟩ : ∃ (D : va_G), ∀ (k : Nat) (q : vw_C), vwCl[k]? = some q → u_Kn s q.1 q.2.1 q.2.2 (D.1 k) (D.2 k) := by
    refine ⟨(fun k => if k = 0 then cc0 else if k = 1 then cc1 else if k = 2 then cc2 else if k = 3 then cc3 else if k = 4 then cc4 else if k = 5 then cc5 else if k = 6 then cc6 else if k = 7 then cc7 else cc8, fun k => if k = 0 then iS0 else if k = 1 then iS1 else if k = 2 then iS2 else if k = 3 then iS3 else if k = 4 then iS4 else if k = 5 then iS5 else if k = 6 then iS6 else if k = 7 then iS7 else iS8), ?_⟩
    intro k q hq
    match k, hq with
    | 0, hq => cases hq; exact hKn0
    | 1, hq => cases hq; exact hKn1
    | 2, hq => cases hq; exact hKn2
    | 3, hq => cases hq; exact hKn3
    | 4, hq => cases hq; exact hKn4
    | 5, hq => cases hq; exact hKn5
    | 6, hq => cases hq; exact hKn6
    | 7, hq => cases hq; exact hKn7
    | 8, hq => cases hq; exact hKn8
    | k + 9, hq => simp [vwCl] at hq
  obtain ⟨cB, hcB⟩ := ac_known (hts (.arrayClass .byte) (by decide +kernel)) rfl
  obtain ⟨cI, hcI⟩ := ac_known (hts (.arrayClass .int) (by decide +kernel)) rfl
  obtain ⟨cJ, hcJ⟩ := ac_known (hts (.arrayClass .long) (by decide +kernel)) rfl
  obtain ⟨cZ, hcZ⟩ := ac_known (hts (.arrayClass .boolean) (by decide +kernel)) rfl
  have hK : va_K D vwCl (aTy cB cI cJ cZ) s := ⟨hKc, fun k q h => by
    match k, h with
    | 0, h => cases h; exact hcB
    | 1, h => cases h; exact hcI
    | 2, h => cases h; exact hcJ
    | 3, h => cases h; exact hcZ
    | k + 4, h => simp at h⟩
  have hP : va_P D vwCl [] s.heap := fun k q h => by simp at h
  have hD : va_D (fun q : Nat => s.heap.size ≤ q) [] := ⟨fun i j p q h => by simp at h, fun k q h => by simp at h⟩
  have hS : va_S (fun q : Nat => s.heap.size ≤ q) s.heap s.heap [] := va_S.rf
  have hg := flat_of_before _ hgv
  obtain ⟨-, -, -, sa, -, -, -, -, -, hev⟩ := Cond.stringRef_spec (hKc 7 _ rfl).2.1 (hts0 (.stringRef RX7 237 "no such child") (by decide +kernel))
  have hlk : lkS s.heap.size sa s := ⟨vk_R.of (hts0 (.stringRef RX7 237 "no such child") (by decide +kernel)) hev, va_Nw.of rfl (hts0 (.castable "java/lang/IndexOutOfBoundsException" "java/lang/IndexOutOfBoundsException") (by decide +kernel)), va_Nw.of rfl (hts0 (.declares ⟨"java/lang/RuntimeException", "<init>", "(Ljava/lang/String;)V"⟩) (by decide +kernel)), va_Nw.of rfl (hts0 (.declares ⟨"java/lang/Exception", "<init>", "(Ljava/lang/String;)V"⟩) (by decide +kernel)), va_Nw.of rfl (hts0 (.declares ⟨"java/lang/Throwable", "<init>", "(Ljava/lang/String;)V"⟩) (by decide +kernel)), vx_Zqof (hts0 (.laysStatic Bundle.tN "UNASSIGNED_STACK" Bundle.steD) (by decide +kernel)) (hts0 (.initialized Bundle.tN) (by decide +kernel)) (hg (.isRef (.static Bundle.tN "UNASSIGNED_STACK" Bundle.steD)) (by decide +kernel)) (fun a h => Nat.not_le.mpr h), vx_Zqof (hts0 (.laysStatic Bundle.tN "SUPPRESSED_SENTINEL" Bundle.listD) (by decide +kernel)) (hts0 (.initialized Bundle.tN) (by decide +kernel)) (hg (.isRef (.static Bundle.tN "SUPPRESSED_SENTINEL" Bundle.listD)) (by decide +kernel)) (fun a h => Nat.not_le.mpr h)⟩
  have hNw : va_Nw (.methodLinkNest RX7 9 yX4_init RX7) s ∧ va_Nw (.methodLinkNest RX7 25 yX3_init RX7) s ∧ va_Nw (.methodLinkNest RX7 32 yX1_init RX7) s ∧ va_Nw (.methodLinkNest RX7 39 yX6_init RX7) s ∧ va_Nw (.methodLinkNest RX7 46 yX2_init RX7) s ∧ va_Nw (.methodLinkNest RX7 53 yX0_init RX7) s := ⟨va_Nw.of rfl (hts0 (.methodLinkNest RX7 9 yX4_init RX7) (by decide +kernel)), va_Nw.of rfl (hts0 (.methodLinkNest RX7 25 yX3_init RX7) (by decide +kernel)), va_Nw.of rfl (hts0 (.methodLinkNest RX7 32 yX1_init RX7) (by decide +kernel)), va_Nw.of rfl (hts0 (.methodLinkNest RX7 39 yX6_init RX7) (by decide +kernel)), va_Nw.of rfl (hts0 (.methodLinkNest RX7 46 yX2_init RX7) (by decide +kernel)), va_Nw.of rfl (hts0 (.methodLinkNest RX7 53 yX0_init RX7) (by decide +kernel))⟩
  have w_1 : ∀ w ∈ wsX70, w ∈ lw_tbl := inTX7
  have w_2 := hts (Cond.classLink RL 8 RX7) (by decide +kernel)
  have w_3 := hts (Cond.instantiable RX7 8) (by decide +kernel)
  have w_4 := hts (Cond.initialized RX7) (by decide +kernel)
  have w_5 := hts (Cond.methodLink RL 17 yX7_init) (by decide +kernel)
  have w_6 := hts (Cond.instanceMethod yX7_init) (by decide +kernel)
  have w_7 : ∀ w ∈ wsX80, w ∈ lw_tbl := inTX8
  have w_8 := hts (Cond.classLink RL 18 RX8) (by decide +kernel)
  have w_9 := hts (Cond.instantiable RX8 52) (by decide +kernel)
  have w_10 := hts (Cond.initialized RX8) (by decide +kernel)
  have w_11 := hts (Cond.methodLink RL 20 yX8_init) (by decide +kernel)
  have w_12 := hts (Cond.instanceMethod yX8_init) (by decide +kernel)
  have w_13 := hts (Cond.arrayClass .long) (by decide +kernel)
  have hl := lv_entry ([.ref b]) (n := 7) (Nat.le_of_ble_eq_true rfl)
  rw [lg_entry_eq]
  generalize (lg_sl ([.ref b]) ++ List.replicate (7 - (lg_sl ([.ref b])).length) Slot.unset).toArray = ls at hl ⊢
  have hl : lv_has ls 7 [(0, .ref b)] := hl
  refine va_new (ci := 7) (fs := [.null, .null, .null, .null, .null, .null, .null, .int 0]) (C := RX7) (T := TX7) (N := 8) hx hb hts w_1 tyX7 tyX7_ok hown w_2 w_3 w_4 hK hP hD hS hA rfl (nwX7) (Nat.le_of_ble_eq_true rfl) (Nat.le_of_ble_eq_true rfl) dL_law_0 (fun q_1 H hP hD hS => ?_)
  have hP : va_P D vwCl [(q_1, .inr (7, [.null, .null, .null, .null, .null, .null, .null, .int 0]))] H := hP
  have hD : va_D (fun q : Nat => s.heap.size ≤ q) [(q_1, .inr (7, [.null, .null, .null, .null, .null, .null, .null, .int 0]))] := hD
  refine W.widen (k := 1) (n := 8) (Nat.le_refl _) (Nat.le_refl _) ?_
  refine lv_dup hx hb dL_law_3 rfl ?_
  refine cl_v (T := (aTy cB cI cJ cZ)) (wc := [(q_1, .inr (7, [.null, .null, .null, .null, .null, .null, .null, .int 0]))]) (wr := []) (va_runI (As := []) (rest := [.ref q_1]) ⟨hx, hb, hml, hown, hts⟩ (k_X7_init l D cB cI cJ cZ H.size q_1) (cwI 0 hts gT_X7_init rfl rfl rfl w_4 w_5 w_6 rfl (by decide +kernel) ⟨Nat.le_of_ble_eq_true rfl, Nat.le_of_ble_eq_true rfl⟩) ⟨fun a U g9 mk q => by obtain ⟨q0, q1, qP, qK, qD, qN⟩ := q; exact ⟨q0, q1, qP, va_K.moved (u := U) (U := U.calling g9 mk a) (Vm.Alike.refl U.vm) qK, qD, va_Nw.same (u := U) (U := U.calling g9 mk a) rfl rfl qN.1, va_Nw.same (u := U) (U := U.calling g9 mk a) rfl rfl qN.2.1, va_Nw.same (u := U) (U := U.calling g9 mk a) rfl rfl qN.2.2.1, va_Nw.same (u := U) (U := U.calling g9 mk a) rfl rfl qN.2.2.2.1, va_Nw.same (u := U) (U := U.calling g9 mk a) rfl rfl qN.2.2.2.2.1, va_Nw.same (u := U) (U := U.calling g9 mk a) rfl rfl qN.2.2.2.2.2⟩, fun U hU hW => ⟨rfl, by rw [hU], by rw [hU]; exact hP, va_K.moved hW.alike hK, hD.weaken (fun _ _ _ _ => trivial), va_Nw.warmM hW hNw.1, va_Nw.warmM hW hNw.2.1, va_Nw.warmM hW hNw.2.2.1, va_Nw.warmM hW hNw.2.2.2.1, va_Nw.warmM hW hNw.2.2.2.2.1, va_Nw.warmM hW hNw.2.2.2.2.2⟩⟩ rfl rfl hl.1 rfl (lv_room (Nat.le_of_ble_eq_true rfl)) dL_law_4 ⟨Nat.le_of_ble_eq_true rfl, Nat.le_of_ble_eq_true rfl⟩) hP hD hS hA [0] [] rfl rfl (by decide) (by decide) 34 1036 rfl rfl (fun x H locs hwx hP hD hS => ?_)
  have hwx : x 0 = q_1 := hwx
  rw [← hwx]
  have hP : va_P D vwCl [((x 0), .inr (7, [.ref (x 1), .ref (x 5), .ref (x 7), .ref (x 10), .ref (x 17), .ref (x 22), .ref (x 27), .int 0])), ((x 1), .inr (4, [.ref (x 2), .int 0, .int (-1), .int 0, .ref (x 4), .int 0, .int 0, .int 0, .int 0, .int 0, .int 0])), ((x 2), .inr (5, [.ref (x 3), .int 1, .int 0, .int 100, .int 7, .int 14, .int 3, .int 1, .int 8])), ((x 3), .inl (cI, 8, .inl cyc0)), ((x 4), .inl (cB, 300, .inl (fun _ => 0))), ((x 5), .inr (5, [.ref (x 6), .int 1, .int 0, .int 100, .int 7, .int 14, .int 3, .int 1, .int 8])), ((x 6), .inl (cI, 8, .inl cyc0)), ((x 7), .inr (3, [.ref (x 8), .ref (x 9), .int 0, .int 0])), ((x 8), .inl (cI, 8, .inl (fun _ => 0))), ((x 9), .inl (cI, 8, .inl (fun _ => 0))), ((x 10), .inr (1, [.ref (x 11), .ref (x 12), .ref (x 13), .ref (x 14), .ref (x 15), .ref (x 16), .int 0])), ((x 11), .inl (cI, 16, .inl (fun _ => 0))), ((x 12), .inl (cI, 16, .inl (fun _ => 0))), ((x 13), .inl (cI, 16, .inl (fun _ => 0))), ((x 14), .inl (cI, 16, .inl (fun _ => 0))), ((x 15), .inl (cI, 16, .inl (fun _ => 0))), ((x 16), .inl (cI, 16, .inl (fun _ => 0))), ((x 17), .inr (6, [.ref (x 18), .ref (x 19), .ref (x 20), .ref (x 21), .int 0])), ((x 18), .inl (cI, 40, .inl (fun _ => 0))), ((x 19), .inl (cI, 40, .inl (fun _ => 0))), ((x 20), .inl (cZ, 40, .inl (fun _ => 0))), ((x 21), .inl (cI, 40, .inl (fun _ => 0))), ((x 22), .inr (2, [.ref (x 23), .ref (x 24), .int 0, .ref (x 25), .ref (x 26), .int 0])), ((x 23), .inl (cI, 8, .inl (fun _ => 0))), ((x 24), .inl (cI, 8, .inl (fun _ => 0))), ((x 25), .inl (cI, 8, .inl (fun _ => 0))), ((x 26), .inl (cJ, 256, .inr (.inl (fun _ => 0)))), ((x 27), .inr (0, [.ref (x 28), .ref (x 29), .ref (x 30), .int 0, .int 0, .int 0, .ref (x 31), .ref (x 32), .ref (x 33)])), ((x 28), .inl (cI, 6, .inl (fun _ => 0))), ((x 29), .inl (cI, 6, .inl (fun _ => 0))), ((x 30), .inl (cI, 8, .inl (fun _ => 0))), ((x 31), .inl (cI, 8, .inl (fun _ => 0))), ((x 32), .inl (cI, 8, .inl (fun _ => 0))), ((x 33), .inl (cI, 64, .inl (fun _ => 0)))] H := hP
  have hD : va_D (fun q : Nat => s.heap.size ≤ q) [((x 0), .inr (7, [.ref (x 1), .ref (x 5), .ref (x 7), .ref (x 10), .ref (x 17), .ref (x 22), .ref (x 27), .int 0])), ((x 1), .inr (4, [.ref (x 2), .int 0, .int (-1), .int 0, .ref (x 4), .int 0, .int 0, .int 0, .int 0, .int 0, .int 0])), ((x 2), .inr (5, [.ref (x 3), .int 1, .int 0, .int 100, .int 7, .int 14, .int 3, .int 1, .int 8])), ((x 3), .inl (cI, 8, .inl cyc0)), ((x 4), .inl (cB, 300, .inl (fun _ => 0))), ((x 5), .inr (5, [.ref (x 6), .int 1, .int 0, .int 100, .int 7, .int 14, .int 3, .int 1, .int 8])), ((x 6), .inl (cI, 8, .inl cyc0)), ((x 7), .inr (3, [.ref (x 8), .ref (x 9), .int 0, .int 0])), ((x 8), .inl (cI, 8, .inl (fun _ => 0))), ((x 9), .inl (cI, 8, .inl (fun _ => 0))), ((x 10), .inr (1, [.ref (x 11), .ref (x 12), .ref (x 13), .ref (x 14), .ref (x 15), .ref (x 16), .int 0])), ((x 11), .inl (cI, 16, .inl (fun _ => 0))), ((x 12), .inl (cI, 16, .inl (fun _ => 0))), ((x 13), .inl (cI, 16, .inl (fun _ => 0))), ((x 14), .inl (cI, 16, .inl (fun _ => 0))), ((x 15), .inl (cI, 16, .inl (fun _ => 0))), ((x 16), .inl (cI, 16, .inl (fun _ => 0))), ((x 17), .inr (6, [.ref (x 18), .ref (x 19), .ref (x 20), .ref (x 21), .int 0])), ((x 18), .inl (cI, 40, .inl (fun _ => 0))), ((x 19), .inl (cI, 40, .inl (fun _ => 0))), ((x 20), .inl (cZ, 40, .inl (fun _ => 0))), ((x 21), .inl (cI, 40, .inl (fun _ => 0))), ((x 22), .inr (2, [.ref (x 23), .ref (x 24), .int 0, .ref (x 25), .ref (x 26), .int 0])), ((x 23), .inl (cI, 8, .inl (fun _ => 0))), ((x 24), .inl (cI, 8, .inl (fun _ => 0))), ((x 25), .inl (cI, 8, .inl (fun _ => 0))), ((x 26), .inl (cJ, 256, .inr (.inl (fun _ => 0)))), ((x 27), .inr (0, [.ref (x 28), .ref (x 29), .ref (x 30), .int 0, .int 0, .int 0, .ref (x 31), .ref (x 32), .ref (x 33)])), ((x 28), .inl (cI, 6, .inl (fun _ => 0))), ((x 29), .inl (cI, 6, .inl (fun _ => 0))), ((x 30), .inl (cI, 8, .inl (fun _ => 0))), ((x 31), .inl (cI, 8, .inl (fun _ => 0))), ((x 32), .inl (cI, 8, .inl (fun _ => 0))), ((x 33), .inl (cI, 64, .inl (fun _ => 0)))] := hD
  refine lv_astore_n (lv' := [(1, .ref (x 0)), (0, .ref b)]) hx hb dL_law_7 rfl hl (by decide) rfl (fun ls hl => ?_)
  refine va_new (ci := 8) (fs := [.null, .int 0, .int 0, .null, .int 0, .int 0, .int 0, .int 0, .int 0, .int 0, .int 0, .int 0, .int 0, .int 0, .int 0, .null, .null, .int 0, .int 0, .null, .null, .null, .null, .null, .int 0, .null, .null, .null, .null, .int 0, .int 0, .null, .null, .null, .null, .int 0, .int 0, .int 0, .int 0, .int 0, .int 0, .null, .null, .int 0, .int 0, .null, .int 0, .null, .null, .null, .null, .null]) (C := RX8) (T := TX8) (N := 52) hx hb hts w_7 tyX8 tyX8_ok hown w_8 w_9 w_10 hK hP hD hS hA rfl (nwX8) (Nat.le_of_ble_eq_true rfl) (Nat.le_of_ble_eq_true rfl) dL_law_8 (fun q_2 H hP hD hS => ?_)
  have hP : va_P D vwCl [((x 0), .inr (7, [.ref (x 1), .ref (x 5), .ref (x 7), .ref (x 10), .ref (x 17), .ref (x 22), .ref (x 27), .int 0])), ((x 1), .inr (4, [.ref (x 2), .int 0, .int (-1), .int 0, .ref (x 4), .int 0, .int 0, .int 0, .int 0, .int 0, .int 0])), ((x 2), .inr (5, [.ref (x 3), .int 1, .int 0, .int 100, .int 7, .int 14, .int 3, .int 1, .int 8])), ((x 3), .inl (cI, 8, .inl cyc0)), ((x 4), .inl (cB, 300, .inl (fun _ => 0))), ((x 5), .inr (5, [.ref (x 6), .int 1, .int 0, .int 100, .int 7, .int 14, .int 3, .int 1, .int 8])), ((x 6), .inl (cI, 8, .inl cyc0)), ((x 7), .inr (3, [.ref (x 8), .ref (x 9), .int 0, .int 0])), ((x 8), .inl (cI, 8, .inl (fun _ => 0))), ((x 9), .inl (cI, 8, .inl (fun _ => 0))), ((x 10), .inr (1, [.ref (x 11), .ref (x 12), .ref (x 13), .ref (x 14), .ref (x 15), .ref (x 16), .int 0])), ((x 11), .inl (cI, 16, .inl (fun _ => 0))), ((x 12), .inl (cI, 16, .inl (fun _ => 0))), ((x 13), .inl (cI, 16, .inl (fun _ => 0))), ((x 14), .inl (cI, 16, .inl (fun _ => 0))), ((x 15), .inl (cI, 16, .inl (fun _ => 0))), ((x 16), .inl (cI, 16, .inl (fun _ => 0))), ((x 17), .inr (6, [.ref (x 18), .ref (x 19), .ref (x 20), .ref (x 21), .int 0])), ((x 18), .inl (cI, 40, .inl (fun _ => 0))), ((x 19), .inl (cI, 40, .inl (fun _ => 0))), ((x 20), .inl (cZ, 40, .inl (fun _ => 0))), ((x 21), .inl (cI, 40, .inl (fun _ => 0))), ((x 22), .inr (2, [.ref (x 23), .ref (x 24), .int 0, .ref (x 25), .ref (x 26), .int 0])), ((x 23), .inl (cI, 8, .inl (fun _ => 0))), ((x 24), .inl (cI, 8, .inl (fun _ => 0))), ((x 25), .inl (cI, 8, .inl (fun _ => 0))), ((x 26), .inl (cJ, 256, .inr (.inl (fun _ => 0)))), ((x 27), .inr (0, [.ref (x 28), .ref (x 29), .ref (x 30), .int 0, .int 0, .int 0, .ref (x 31), .ref (x 32), .ref (x 33)])), ((x 28), .inl (cI, 6, .inl (fun _ => 0))), ((x 29), .inl (cI, 6, .inl (fun _ => 0))), ((x 30), .inl (cI, 8, .inl (fun _ => 0))), ((x 31), .inl (cI, 8, .inl (fun _ => 0))), ((x 32), .inl (cI, 8, .inl (fun _ => 0))), ((x 33), .inl (cI, 64, .inl (fun _ => 0))), (q_2, .inr (8, [.null, .int 0, .int 0, .null, .int 0, .int 0, .int 0, .int 0, .int 0, .int 0, .int 0, .int 0, .int 0, .int 0, .int 0, .null, .null, .int 0, .int 0, .null, .null, .null, .null, .null, .int 0, .null, .null, .null, .null, .int 0, .int 0, .null, .null, .null, .null, .int 0, .int 0, .int 0, .int 0, .int 0, .int 0, .null, .null, .int 0, .int 0, .null, .int 0, .null, .null, .null, .null, .null]))] H := hP
  have hD : va_D (fun q : Nat => s.heap.size ≤ q) [((x 0), .inr (7, [.ref (x 1), .ref (x 5), .ref (x 7), .ref (x 10), .ref (x 17), .ref (x 22), .ref (x 27), .int 0])), ((x 1), .inr (4, [.ref (x 2), .int 0, .int (-1), .int 0, .ref (x 4), .int 0, .int 0, .int 0, .int 0, .int 0, .int 0])), ((x 2), .inr (5, [.ref (x 3), .int 1, .int 0, .int 100, .int 7, .int 14, .int 3, .int 1, .int 8])), ((x 3), .inl (cI, 8, .inl cyc0)), ((x 4), .inl (cB, 300, .inl (fun _ => 0))), ((x 5), .inr (5, [.ref (x 6), .int 1, .int 0, .int 100, .int 7, .int 14, .int 3, .int 1, .int 8])), ((x 6), .inl (cI, 8, .inl cyc0)), ((x 7), .inr (3, [.ref (x 8), .ref (x 9), .int 0, .int 0])), ((x 8), .inl (cI, 8, .inl (fun _ => 0))), ((x 9), .inl (cI, 8, .inl (fun _ => 0))), ((x 10), .inr (1, [.ref (x 11), .ref (x 12), .ref (x 13), .ref (x 14), .ref (x 15), .ref (x 16), .int 0])), ((x 11), .inl (cI, 16, .inl (fun _ => 0))), ((x 12), .inl (cI, 16, .inl (fun _ => 0))), ((x 13), .inl (cI, 16, .inl (fun _ => 0))), ((x 14), .inl (cI, 16, .inl (fun _ => 0))), ((x 15), .inl (cI, 16, .inl (fun _ => 0))), ((x 16), .inl (cI, 16, .inl (fun _ => 0))), ((x 17), .inr (6, [.ref (x 18), .ref (x 19), .ref (x 20), .ref (x 21), .int 0])), ((x 18), .inl (cI, 40, .inl (fun _ => 0))), ((x 19), .inl (cI, 40, .inl (fun _ => 0))), ((x 20), .inl (cZ, 40, .inl (fun _ => 0))), ((x 21), .inl (cI, 40, .inl (fun _ => 0))), ((x 22), .inr (2, [.ref (x 23), .ref (x 24), .int 0, .ref (x 25), .ref (x 26), .int 0])), ((x 23), .inl (cI, 8, .inl (fun _ => 0))), ((x 24), .inl (cI, 8, .inl (fun _ => 0))), ((x 25), .inl (cI, 8, .inl (fun _ => 0))), ((x 26), .inl (cJ, 256, .inr (.inl (fun _ => 0)))), ((x 27), .inr (0, [.ref (x 28), .ref (x 29), .ref (x 30), .int 0, .int 0, .int 0, .ref (x 31), .ref (x 32), .ref (x 33)])), ((x 28), .inl (cI, 6, .inl (fun _ => 0))), ((x 29), .inl (cI, 6, .inl (fun _ => 0))), ((x 30), .inl (cI, 8, .inl (fun _ => 0))), ((x 31), .inl (cI, 8, .inl (fun _ => 0))), ((x 32), .inl (cI, 8, .inl (fun _ => 0))), ((x 33), .inl (cI, 64, .inl (fun _ => 0))), (q_2, .inr (8, [.null, .int 0, .int 0, .null, .int 0, .int 0, .int 0, .int 0, .int 0, .int 0, .int 0, .int 0, .int 0, .int 0, .int 0, .null, .null, .int 0, .int 0, .null, .null, .null, .null, .null, .int 0, .null, .null, .null, .null, .int 0, .int 0, .null, .null, .null, .null, .int 0, .int 0, .int 0, .int 0, .int 0, .int 0, .null, .null, .int 0, .int 0, .null, .int 0, .null, .null, .null, .null, .null]))] := hD
  refine W.widen (k := 35) (n := 1088) (Nat.le_refl _) (Nat.le_refl _) ?_
  refine lv_dup hx hb dL_law_11 rfl ?_
  refine cl_v (wc := [(q_2, .inr (8, [.null, .int 0, .int 0, .null, .int 0, .int 0, .int 0, .int 0, .int 0, .int 0, .int 0, .int 0, .int 0, .int 0, .int 0, .null, .null, .int 0, .int 0, .null, .null, .null, .null, .null, .int 0, .null, .null, .null, .null, .int 0, .int 0, .null, .null, .null, .null, .int 0, .int 0, .int 0, .int 0, .int 0, .int 0, .null, .null, .int 0, .int 0, .null, .int 0, .null, .null, .null, .null, .null]))]) (wr := [((x 0), .inr (7, [.ref (x 1), .ref (x 5), .ref (x 7), .ref (x 10), .ref (x 17), .ref (x 22), .ref (x 27), .int 0])), ((x 1), .inr (4, [.ref (x 2), .int 0, .int (-1), .int 0, .ref (x 4), .int 0, .int 0, .int 0, .int 0, .int 0, .int 0])), ((x 2), .inr (5, [.ref (x 3), .int 1, .int 0, .int 100, .int 7, .int 14, .int 3, .int 1, .int 8])), ((x 3), .inl (cI, 8, .inl cyc0)), ((x 4), .inl (cB, 300, .inl (fun _ => 0))), ((x 5), .inr (5, [.ref (x 6), .int 1, .int 0, .int 100, .int 7, .int 14, .int 3, .int 1, .int 8])), ((x 6), .inl (cI, 8, .inl cyc0)), ((x 7), .inr (3, [.ref (x 8), .ref (x 9), .int 0, .int 0])), ((x 8), .inl (cI, 8, .inl (fun _ => 0))), ((x 9), .inl (cI, 8, .inl (fun _ => 0))), ((x 10), .inr (1, [.ref (x 11), .ref (x 12), .ref (x 13), .ref (x 14), .ref (x 15), .ref (x 16), .int 0])), ((x 11), .inl (cI, 16, .inl (fun _ => 0))), ((x 12), .inl (cI, 16, .inl (fun _ => 0))), ((x 13), .inl (cI, 16, .inl (fun _ => 0))), ((x 14), .inl (cI, 16, .inl (fun _ => 0))), ((x 15), .inl (cI, 16, .inl (fun _ => 0))), ((x 16), .inl (cI, 16, .inl (fun _ => 0))), ((x 17), .inr (6, [.ref (x 18), .ref (x 19), .ref (x 20), .ref (x 21), .int 0])), ((x 18), .inl (cI, 40, .inl (fun _ => 0))), ((x 19), .inl (cI, 40, .inl (fun _ => 0))), ((x 20), .inl (cZ, 40, .inl (fun _ => 0))), ((x 21), .inl (cI, 40, .inl (fun _ => 0))), ((x 22), .inr (2, [.ref (x 23), .ref (x 24), .int 0, .ref (x 25), .ref (x 26), .int 0])), ((x 23), .inl (cI, 8, .inl (fun _ => 0))), ((x 24), .inl (cI, 8, .inl (fun _ => 0))), ((x 25), .inl (cI, 8, .inl (fun _ => 0))), ((x 26), .inl (cJ, 256, .inr (.inl (fun _ => 0)))), ((x 27), .inr (0, [.ref (x 28), .ref (x 29), .ref (x 30), .int 0, .int 0, .int 0, .ref (x 31), .ref (x 32), .ref (x 33)])), ((x 28), .inl (cI, 6, .inl (fun _ => 0))), ((x 29), .inl (cI, 6, .inl (fun _ => 0))), ((x 30), .inl (cI, 8, .inl (fun _ => 0))), ((x 31), .inl (cI, 8, .inl (fun _ => 0))), ((x 32), .inl (cI, 8, .inl (fun _ => 0))), ((x 33), .inl (cI, 64, .inl (fun _ => 0)))]) (va_runI (As := []) (rest := [.ref q_2]) ⟨hx, hb, hml, hown, hts⟩ (k_X8_init l D cB cI cJ cZ H.size q_2) (cwI 0 hts gT_X8_init rfl rfl rfl w_10 w_11 w_12 rfl (by decide +kernel) ⟨Nat.le_of_ble_eq_true rfl, Nat.le_of_ble_eq_true rfl⟩) (pre_I (hP.sub (ws' := [(q_2, .inr (8, [.null, .int 0, .int 0, .null, .int 0, .int 0, .int 0, .int 0, .int 0, .int 0, .int 0, .int 0, .int 0, .int 0, .int 0, .null, .null, .int 0, .int 0, .null, .null, .null, .null, .null, .int 0, .null, .null, .null, .null, .int 0, .int 0, .null, .null, .null, .null, .int 0, .int 0, .int 0, .int 0, .int 0, .int 0, .null, .null, .int 0, .int 0, .null, .int 0, .null, .null, .null, .null, .null]))]) [34] rfl) hK (hD.sub (ws' := [(q_2, .inr (8, [.null, .int 0, .int 0, .null, .int 0, .int 0, .int 0, .int 0, .int 0, .int 0, .int 0, .int 0, .int 0, .int 0, .int 0, .null, .null, .int 0, .int 0, .null, .null, .null, .null, .null, .int 0, .null, .null, .null, .null, .int 0, .int 0, .null, .null, .null, .null, .int 0, .int 0, .int 0, .int 0, .int 0, .int 0, .null, .null, .int 0, .int 0, .null, .int 0, .null, .null, .null, .null, .null]))]) [34] (by decide) rfl) rfl) rfl rfl hl.1 rfl (lv_room (Nat.le_of_ble_eq_true rfl)) dL_law_12 ⟨Nat.le_of_ble_eq_true rfl, Nat.le_of_ble_eq_true rfl⟩) hP hD hS hA [34] [0, 1, 2, 3, 4, 5, 6, 7, 8, 9, 10, 11, 12, 13, 14, 15, 16, 17, 18, 19, 20, 21, 22, 23, 24, 25, 26, 27, 28, 29, 30, 31, 32, 33] rfl rfl (by decide) (by decide) 60 67363 rfl rfl (fun u_4 H locs hw_u_4 hP hD hS => ?_)
  obtain ⟨y, wf⟩ := u_4
  have hwy : y 0 = q_2 := hw_u_4
  rw [← hwy]
  have hP : va_P D vwCl [((x 0), .inr (7, [.ref (x 1), .ref (x 5), .ref (x 7), .ref (x 10), .ref (x 17), .ref (x 22), .ref (x 27), .int 0])), ((x 1), .inr (4, [.ref (x 2), .int 0, .int (-1), .int 0, .ref (x 4), .int 0, .int 0, .int 0, .int 0, .int 0, .int 0])), ((x 2), .inr (5, [.ref (x 3), .int 1, .int 0, .int 100, .int 7, .int 14, .int 3, .int 1, .int 8])), ((x 3), .inl (cI, 8, .inl cyc0)), ((x 4), .inl (cB, 300, .inl (fun _ => 0))), ((x 5), .inr (5, [.ref (x 6), .int 1, .int 0, .int 100, .int 7, .int 14, .int 3, .int 1, .int 8])), ((x 6), .inl (cI, 8, .inl cyc0)), ((x 7), .inr (3, [.ref (x 8), .ref (x 9), .int 0, .int 0])), ((x 8), .inl (cI, 8, .inl (fun _ => 0))), ((x 9), .inl (cI, 8, .inl (fun _ => 0))), ((x 10), .inr (1, [.ref (x 11), .ref (x 12), .ref (x 13), .ref (x 14), .ref (x 15), .ref (x 16), .int 0])), ((x 11), .inl (cI, 16, .inl (fun _ => 0))), ((x 12), .inl (cI, 16, .inl (fun _ => 0))), ((x 13), .inl (cI, 16, .inl (fun _ => 0))), ((x 14), .inl (cI, 16, .inl (fun _ => 0))), ((x 15), .inl (cI, 16, .inl (fun _ => 0))), ((x 16), .inl (cI, 16, .inl (fun _ => 0))), ((x 17), .inr (6, [.ref (x 18), .ref (x 19), .ref (x 20), .ref (x 21), .int 0])), ((x 18), .inl (cI, 40, .inl (fun _ => 0))), ((x 19), .inl (cI, 40, .inl (fun _ => 0))), ((x 20), .inl (cZ, 40, .inl (fun _ => 0))), ((x 21), .inl (cI, 40, .inl (fun _ => 0))), ((x 22), .inr (2, [.ref (x 23), .ref (x 24), .int 0, .ref (x 25), .ref (x 26), .int 0])), ((x 23), .inl (cI, 8, .inl (fun _ => 0))), ((x 24), .inl (cI, 8, .inl (fun _ => 0))), ((x 25), .inl (cI, 8, .inl (fun _ => 0))), ((x 26), .inl (cJ, 256, .inr (.inl (fun _ => 0)))), ((x 27), .inr (0, [.ref (x 28), .ref (x 29), .ref (x 30), .int 0, .int 0, .int 0, .ref (x 31), .ref (x 32), .ref (x 33)])), ((x 28), .inl (cI, 6, .inl (fun _ => 0))), ((x 29), .inl (cI, 6, .inl (fun _ => 0))), ((x 30), .inl (cI, 8, .inl (fun _ => 0))), ((x 31), .inl (cI, 8, .inl (fun _ => 0))), ((x 32), .inl (cI, 8, .inl (fun _ => 0))), ((x 33), .inl (cI, 64, .inl (fun _ => 0))), ((y 0), .inr (8, [.ref (y 1), .int 0, .int 0, .ref (y 2), .int 1, .int 100, .int 7, .int 14, .int 3, .int 1, .int 8, .int 0, .int 0, .int (-1), .int 0, .ref (y 3), .ref (y 4), .int 0, .int 0, .ref (y 5), .ref (y 6), .ref (y 7), .ref (y 8), .ref (y 9), .int 0, .ref (y 10), .ref (y 11), .ref (y 12), .ref (y 13), .int 0, .int 0, .ref (y 14), .ref (y 15), .ref (y 16), .ref (y 17), .int 0, .int 0, .int 0, .int 0, .int 0, .int 0, .ref (y 18), .ref (y 19), .int 0, .int 0, .ref (y 20), .int 0, .ref (y 21), .ref (y 22), .ref (y 23), .ref (y 24), .ref (y 25)])), ((y 1), .inl (cI, 300, .inl (fun _ => 0))), ((y 2), .inl (cI, 16, .inl cyc0)), ((y 3), .inl (cI, 8, .inl (fun _ => 0))), ((y 4), .inl (cI, 8, .inl (fun _ => 0))), ((y 5), .inl (cI, 16, .inl (fun _ => 0))), ((y 6), .inl (cI, 16, .inl (fun _ => 0))), ((y 7), .inl (cI, 16, .inl (fun _ => 0))), ((y 8), .inl (cI, 16, .inl (fun _ => 0))), ((y 9), .inl (cI, 16, .inl (fun _ => 0))), ((y 10), .inl (cI, 40, .inl (fun _ => 0))), ((y 11), .inl (cI, 40, .inl (fun _ => 0))), ((y 12), .inl (cZ, 40, .inl (fun _ => 0))), ((y 13), .inl (cI, 40, .inl (fun _ => 0))), ((y 14), .inl (cI, 8, .inl (fun _ => 0))), ((y 15), .inl (cI, 8, .inl (fun _ => 0))), ((y 16), .inl (cI, 6, .inl (fun _ => 0))), ((y 17), .inl (cI, 43, .inl wf)), ((y 18), .inl (cZ, 8, .inl (fun _ => 0))), ((y 19), .inl (cI, 8, .inl (fun _ => 0))), ((y 20), .inl (cI, 16, .inl (fun _ => 0))), ((y 21), .inl (cZ, 65536, .inl (fun _ => 0))), ((y 22), .inl (cZ, 40, .inl (fun _ => 0))), ((y 23), .inl (cI, 16, .inl (fun _ => 0))), ((y 24), .inl (cI, 6, .inl (fun _ => 0))), ((y 25), .inl (cI, 8, .inl (fun _ => 0)))] H := hP
  have hD : va_D (fun q : Nat => s.heap.size ≤ q) [((x 0), .inr (7, [.ref (x 1), .ref (x 5), .ref (x 7), .ref (x 10), .ref (x 17), .ref (x 22), .ref (x 27), .int 0])), ((x 1), .inr (4, [.ref (x 2), .int 0, .int (-1), .int 0, .ref (x 4), .int 0, .int 0, .int 0, .int 0, .int 0, .int 0])), ((x 2), .inr (5, [.ref (x 3), .int 1, .int 0, .int 100, .int 7, .int 14, .int 3, .int 1, .int 8])), ((x 3), .inl (cI, 8, .inl cyc0)), ((x 4), .inl (cB, 300, .inl (fun _ => 0))), ((x 5), .inr (5, [.ref (x 6), .int 1, .int 0, .int 100, .int 7, .int 14, .int 3, .int 1, .int 8])), ((x 6), .inl (cI, 8, .inl cyc0)), ((x 7), .inr (3, [.ref (x 8), .ref (x 9), .int 0, .int 0])), ((x 8), .inl (cI, 8, .inl (fun _ => 0))), ((x 9), .inl (cI, 8, .inl (fun _ => 0))), ((x 10), .inr (1, [.ref (x 11), .ref (x 12), .ref (x 13), .ref (x 14), .ref (x 15), .ref (x 16), .int 0])), ((x 11), .inl (cI, 16, .inl (fun _ => 0))), ((x 12), .inl (cI, 16, .inl (fun _ => 0))), ((x 13), .inl (cI, 16, .inl (fun _ => 0))), ((x 14), .inl (cI, 16, .inl (fun _ => 0))), ((x 15), .inl (cI, 16, .inl (fun _ => 0))), ((x 16), .inl (cI, 16, .inl (fun _ => 0))), ((x 17), .inr (6, [.ref (x 18), .ref (x 19), .ref (x 20), .ref (x 21), .int 0])), ((x 18), .inl (cI, 40, .inl (fun _ => 0))), ((x 19), .inl (cI, 40, .inl (fun _ => 0))), ((x 20), .inl (cZ, 40, .inl (fun _ => 0))), ((x 21), .inl (cI, 40, .inl (fun _ => 0))), ((x 22), .inr (2, [.ref (x 23), .ref (x 24), .int 0, .ref (x 25), .ref (x 26), .int 0])), ((x 23), .inl (cI, 8, .inl (fun _ => 0))), ((x 24), .inl (cI, 8, .inl (fun _ => 0))), ((x 25), .inl (cI, 8, .inl (fun _ => 0))), ((x 26), .inl (cJ, 256, .inr (.inl (fun _ => 0)))), ((x 27), .inr (0, [.ref (x 28), .ref (x 29), .ref (x 30), .int 0, .int 0, .int 0, .ref (x 31), .ref (x 32), .ref (x 33)])), ((x 28), .inl (cI, 6, .inl (fun _ => 0))), ((x 29), .inl (cI, 6, .inl (fun _ => 0))), ((x 30), .inl (cI, 8, .inl (fun _ => 0))), ((x 31), .inl (cI, 8, .inl (fun _ => 0))), ((x 32), .inl (cI, 8, .inl (fun _ => 0))), ((x 33), .inl (cI, 64, .inl (fun _ => 0))), ((y 0), .inr (8, [.ref (y 1), .int 0, .int 0, .ref (y 2), .int 1, .int 100, .int 7, .int 14, .int 3, .int 1, .int 8, .int 0, .int 0, .int (-1), .int 0, .ref (y 3), .ref (y 4), .int 0, .int 0, .ref (y 5), .ref (y 6), .ref (y 7), .ref (y 8), .ref (y 9), .int 0, .ref (y 10), .ref (y 11), .ref (y 12), .ref (y 13), .int 0, .int 0, .ref (y 14), .ref (y 15), .ref (y 16), .ref (y 17), .int 0, .int 0, .int 0, .int 0, .int 0, .int 0, .ref (y 18), .ref (y 19), .int 0, .int 0, .ref (y 20), .int 0, .ref (y 21), .ref (y 22), .ref (y 23), .ref (y 24), .ref (y 25)])), ((y 1), .inl (cI, 300, .inl (fun _ => 0))), ((y 2), .inl (cI, 16, .inl cyc0)), ((y 3), .inl (cI, 8, .inl (fun _ => 0))), ((y 4), .inl (cI, 8, .inl (fun _ => 0))), ((y 5), .inl (cI, 16, .inl (fun _ => 0))), ((y 6), .inl (cI, 16, .inl (fun _ => 0))), ((y 7), .inl (cI, 16, .inl (fun _ => 0))), ((y 8), .inl (cI, 16, .inl (fun _ => 0))), ((y 9), .inl (cI, 16, .inl (fun _ => 0))), ((y 10), .inl (cI, 40, .inl (fun _ => 0))), ((y 11), .inl (cI, 40, .inl (fun _ => 0))), ((y 12), .inl (cZ, 40, .inl (fun _ => 0))), ((y 13), .inl (cI, 40, .inl (fun _ => 0))), ((y 14), .inl (cI, 8, .inl (fun _ => 0))), ((y 15), .inl (cI, 8, .inl (fun _ => 0))), ((y 16), .inl (cI, 6, .inl (fun _ => 0))), ((y 17), .inl (cI, 43, .inl wf)), ((y 18), .inl (cZ, 8, .inl (fun _ => 0))), ((y 19), .inl (cI, 8, .inl (fun _ => 0))), ((y 20), .inl (cI, 16, .inl (fun _ => 0))), ((y 21), .inl (cZ, 65536, .inl (fun _ => 0))), ((y 22), .inl (cZ, 40, .inl (fun _ => 0))), ((y 23), .inl (cI, 16, .inl (fun _ => 0))), ((y 24), .inl (cI, 6, .inl (fun _ => 0))), ((y 25), .inl (cI, 8, .inl (fun _ => 0)))] := hD
  refine lv_astore_n (lv' := [(2, .ref (y 0)), (1, .ref (x 0)), (0, .ref b)]) hx hb dL_law_15 rfl hl (by decide) rfl (fun ls hl => ?_)
  refine lv_iconst (v := 1) hx hb dL_law_16 (by decide) ?_
  refine sv_newa (atype := .long) (ty := .long) (cA := cJ) (a0 := (1, .inr (.inl (fun _ => 0)))) (N' := 1) hx hb w_13 rfl rfl hK hP hD hS hA 2 rfl (fun _ => rfl) (by decide) (by decide) (by decide) (Nat.le_of_ble_eq_true rfl) (Nat.le_of_ble_eq_true rfl) 61 67364 rfl rfl dL_law_17 (fun q_5 H hP hD hS => ?_)
  have hP : va_P D vwCl [((x 0), .inr (7, [.ref (x 1), .ref (x 5), .ref (x 7), .ref (x 10), .ref (x 17), .ref (x 22), .ref (x 27), .int 0])), ((x 1), .inr (4, [.ref (x 2), .int 0, .int (-1), .int 0, .ref (x 4), .int 0, .int 0, .int 0, .int 0, .int 0, .int 0])), ((x 2), .inr (5, [.ref (x 3), .int 1, .int 0, .int 100, .int 7, .int 14, .int 3, .int 1, .int 8])), ((x 3), .inl (cI, 8, .inl cyc0)), ((x 4), .inl (cB, 300, .inl (fun _ => 0))), ((x 5), .inr (5, [.ref (x 6), .int 1, .int 0, .int 100, .int 7, .int 14, .int 3, .int 1, .int 8])), ((x 6), .inl (cI, 8, .inl cyc0)), ((x 7), .inr (3, [.ref (x 8), .ref (x 9), .int 0, .int 0])), ((x 8), .inl (cI, 8, .inl (fun _ => 0))), ((x 9), .inl (cI, 8, .inl (fun _ => 0))), ((x 10), .inr (1, [.ref (x 11), .ref (x 12), .ref (x 13), .ref (x 14), .ref (x 15), .ref (x 16), .int 0])), ((x 11), .inl (cI, 16, .inl (fun _ => 0))), ((x 12), .inl (cI, 16, .inl (fun _ => 0))), ((x 13), .inl (cI, 16, .inl (fun _ => 0))), ((x 14), .inl (cI, 16, .inl (fun _ => 0))), ((x 15), .inl (cI, 16, .inl (fun _ => 0))), ((x 16), .inl (cI, 16, .inl (fun _ => 0))), ((x 17), .inr (6, [.ref (x 18), .ref (x 19), .ref (x 20), .ref (x 21), .int 0])), ((x 18), .inl (cI, 40, .inl (fun _ => 0))), ((x 19), .inl (cI, 40, .inl (fun _ => 0))), ((x 20), .inl (cZ, 40, .inl (fun _ => 0))), ((x 21), .inl (cI, 40, .inl (fun _ => 0))), ((x 22), .inr (2, [.ref (x 23), .ref (x 24), .int 0, .ref (x 25), .ref (x 26), .int 0])), ((x 23), .inl (cI, 8, .inl (fun _ => 0))), ((x 24), .inl (cI, 8, .inl (fun _ => 0))), ((x 25), .inl (cI, 8, .inl (fun _ => 0))), ((x 26), .inl (cJ, 256, .inr (.inl (fun _ => 0)))), ((x 27), .inr (0, [.ref (x 28), .ref (x 29), .ref (x 30), .int 0, .int 0, .int 0, .ref (x 31), .ref (x 32), .ref (x 33)])), ((x 28), .inl (cI, 6, .inl (fun _ => 0))), ((x 29), .inl (cI, 6, .inl (fun _ => 0))), ((x 30), .inl (cI, 8, .inl (fun _ => 0))), ((x 31), .inl (cI, 8, .inl (fun _ => 0))), ((x 32), .inl (cI, 8, .inl (fun _ => 0))), ((x 33), .inl (cI, 64, .inl (fun _ => 0))), ((y 0), .inr (8, [.ref (y 1), .int 0, .int 0, .ref (y 2), .int 1, .int 100, .int 7, .int 14, .int 3, .int 1, .int 8, .int 0, .int 0, .int (-1), .int 0, .ref (y 3), .ref (y 4), .int 0, .int 0, .ref (y 5), .ref (y 6), .ref (y 7), .ref (y 8), .ref (y 9), .int 0, .ref (y 10), .ref (y 11), .ref (y 12), .ref (y 13), .int 0, .int 0, .ref (y 14), .ref (y 15), .ref (y 16), .ref (y 17), .int 0, .int 0, .int 0, .int 0, .int 0, .int 0, .ref (y 18), .ref (y 19), .int 0, .int 0, .ref (y 20), .int 0, .ref (y 21), .ref (y 22), .ref (y 23), .ref (y 24), .ref (y 25)])), ((y 1), .inl (cI, 300, .inl (fun _ => 0))), ((y 2), .inl (cI, 16, .inl cyc0)), ((y 3), .inl (cI, 8, .inl (fun _ => 0))), ((y 4), .inl (cI, 8, .inl (fun _ => 0))), ((y 5), .inl (cI, 16, .inl (fun _ => 0))), ((y 6), .inl (cI, 16, .inl (fun _ => 0))), ((y 7), .inl (cI, 16, .inl (fun _ => 0))), ((y 8), .inl (cI, 16, .inl (fun _ => 0))), ((y 9), .inl (cI, 16, .inl (fun _ => 0))), ((y 10), .inl (cI, 40, .inl (fun _ => 0))), ((y 11), .inl (cI, 40, .inl (fun _ => 0))), ((y 12), .inl (cZ, 40, .inl (fun _ => 0))), ((y 13), .inl (cI, 40, .inl (fun _ => 0))), ((y 14), .inl (cI, 8, .inl (fun _ => 0))), ((y 15), .inl (cI, 8, .inl (fun _ => 0))), ((y 16), .inl (cI, 6, .inl (fun _ => 0))), ((y 17), .inl (cI, 43, .inl wf)), ((y 18), .inl (cZ, 8, .inl (fun _ => 0))), ((y 19), .inl (cI, 8, .inl (fun _ => 0))), ((y 20), .inl (cI, 16, .inl (fun _ => 0))), ((y 21), .inl (cZ, 65536, .inl (fun _ => 0))), ((y 22), .inl (cZ, 40, .inl (fun _ => 0))), ((y 23), .inl (cI, 16, .inl (fun _ => 0))), ((y 24), .inl (cI, 6, .inl (fun _ => 0))), ((y 25), .inl (cI, 8, .inl (fun _ => 0))), (q_5, .inl (cJ, 1, .inr (.inl (fun _ => 0))))] H := hP
  have hD : va_D (fun q : Nat => s.heap.size ≤ q) [((x 0), .inr (7, [.ref (x 1), .ref (x 5), .ref (x 7), .ref (x 10), .ref (x 17), .ref (x 22), .ref (x 27), .int 0])), ((x 1), .inr (4, [.ref (x 2), .int 0, .int (-1), .int 0, .ref (x 4), .int 0, .int 0, .int 0, .int 0, .int 0, .int 0])), ((x 2), .inr (5, [.ref (x 3), .int 1, .int 0, .int 100, .int 7, .int 14, .int 3, .int 1, .int 8])), ((x 3), .inl (cI, 8, .inl cyc0)), ((x 4), .inl (cB, 300, .inl (fun _ => 0))), ((x 5), .inr (5, [.ref (x 6), .int 1, .int 0, .int 100, .int 7, .int 14, .int 3, .int 1, .int 8])), ((x 6), .inl (cI, 8, .inl cyc0)), ((x 7), .inr (3, [.ref (x 8), .ref (x 9), .int 0, .int 0])), ((x 8), .inl (cI, 8, .inl (fun _ => 0))), ((x 9), .inl (cI, 8, .inl (fun _ => 0))), ((x 10), .inr (1, [.ref (x 11), .ref (x 12), .ref (x 13), .ref (x 14), .ref (x 15), .ref (x 16), .int 0])), ((x 11), .inl (cI, 16, .inl (fun _ => 0))), ((x 12), .inl (cI, 16, .inl (fun _ => 0))), ((x 13), .inl (cI, 16, .inl (fun _ => 0))), ((x 14), .inl (cI, 16, .inl (fun _ => 0))), ((x 15), .inl (cI, 16, .inl (fun _ => 0))), ((x 16), .inl (cI, 16, .inl (fun _ => 0))), ((x 17), .inr (6, [.ref (x 18), .ref (x 19), .ref (x 20), .ref (x 21), .int 0])), ((x 18), .inl (cI, 40, .inl (fun _ => 0))), ((x 19), .inl (cI, 40, .inl (fun _ => 0))), ((x 20), .inl (cZ, 40, .inl (fun _ => 0))), ((x 21), .inl (cI, 40, .inl (fun _ => 0))), ((x 22), .inr (2, [.ref (x 23), .ref (x 24), .int 0, .ref (x 25), .ref (x 26), .int 0])), ((x 23), .inl (cI, 8, .inl (fun _ => 0))), ((x 24), .inl (cI, 8, .inl (fun _ => 0))), ((x 25), .inl (cI, 8, .inl (fun _ => 0))), ((x 26), .inl (cJ, 256, .inr (.inl (fun _ => 0)))), ((x 27), .inr (0, [.ref (x 28), .ref (x 29), .ref (x 30), .int 0, .int 0, .int 0, .ref (x 31), .ref (x 32), .ref (x 33)])), ((x 28), .inl (cI, 6, .inl (fun _ => 0))), ((x 29), .inl (cI, 6, .inl (fun _ => 0))), ((x 30), .inl (cI, 8, .inl (fun _ => 0))), ((x 31), .inl (cI, 8, .inl (fun _ => 0))), ((x 32), .inl (cI, 8, .inl (fun _ => 0))), ((x 33), .inl (cI, 64, .inl (fun _ => 0))), ((y 0), .inr (8, [.ref (y 1), .int 0, .int 0, .ref (y 2), .int 1, .int 100, .int 7, .int 14, .int 3, .int 1, .int 8, .int 0, .int 0, .int (-1), .int 0, .ref (y 3), .ref (y 4), .int 0, .int 0, .ref (y 5), .ref (y 6), .ref (y 7), .ref (y 8), .ref (y 9), .int 0, .ref (y 10), .ref (y 11), .ref (y 12), .ref (y 13), .int 0, .int 0, .ref (y 14), .ref (y 15), .ref (y 16), .ref (y 17), .int 0, .int 0, .int 0, .int 0, .int 0, .int 0, .ref (y 18), .ref (y 19), .int 0, .int 0, .ref (y 20), .int 0, .ref (y 21), .ref (y 22), .ref (y 23), .ref (y 24), .ref (y 25)])), ((y 1), .inl (cI, 300, .inl (fun _ => 0))), ((y 2), .inl (cI, 16, .inl cyc0)), ((y 3), .inl (cI, 8, .inl (fun _ => 0))), ((y 4), .inl (cI, 8, .inl (fun _ => 0))), ((y 5), .inl (cI, 16, .inl (fun _ => 0))), ((y 6), .inl (cI, 16, .inl (fun _ => 0))), ((y 7), .inl (cI, 16, .inl (fun _ => 0))), ((y 8), .inl (cI, 16, .inl (fun _ => 0))), ((y 9), .inl (cI, 16, .inl (fun _ => 0))), ((y 10), .inl (cI, 40, .inl (fun _ => 0))), ((y 11), .inl (cI, 40, .inl (fun _ => 0))), ((y 12), .inl (cZ, 40, .inl (fun _ => 0))), ((y 13), .inl (cI, 40, .inl (fun _ => 0))), ((y 14), .inl (cI, 8, .inl (fun _ => 0))), ((y 15), .inl (cI, 8, .inl (fun _ => 0))), ((y 16), .inl (cI, 6, .inl (fun _ => 0))), ((y 17), .inl (cI, 43, .inl wf)), ((y 18), .inl (cZ, 8, .inl (fun _ => 0))), ((y 19), .inl (cI, 8, .inl (fun _ => 0))), ((y 20), .inl (cI, 16, .inl (fun _ => 0))), ((y 21), .inl (cZ, 65536, .inl (fun _ => 0))), ((y 22), .inl (cZ, 40, .inl (fun _ => 0))), ((y 23), .inl (cI, 16, .inl (fun _ => 0))), ((y 24), .inl (cI, 6, .inl (fun _ => 0))), ((y 25), .inl (cI, 8, .inl (fun _ => 0))), (q_5, .inl (cJ, 1, .inr (.inl (fun _ => 0))))] := hD
  refine lv_astore_n (lv' := [(3, .ref q_5), (2, .ref (y 0)), (1, .ref (x 0)), (0, .ref b)]) hx hb dL_law_19 rfl hl (by decide) rfl (fun ls hl => ?_)
  refine lv_iconst (v := 0) hx hb dL_law_20 (by decide) ?_
  refine lv_istore (lv' := [(4, .int 0), (3, .ref q_5), (2, .ref (y 0)), (1, .ref (x 0)), (0, .ref b)]) hx hb dL_law_21 hl (by decide) rfl (fun ls hl => ?_)
  have hP : va_P D vwCl (freshX cB cI cJ cZ x ++ (freshM cB cI cJ cZ y wf ++ [(q_5, .inl (cJ, 1, .inr (.inl (fun _ => 0))))])) H := hP.sub [0, 1, 2, 3, 4, 5, 6, 7, 8, 9, 10, 11, 12, 13, 14, 15, 16, 17, 18, 19, 20, 21, 22, 23, 24, 25, 26, 27, 28, 29, 30, 31, 32, 33, 34, 35, 36, 37, 38, 39, 40, 41, 42, 43, 44, 45, 46, 47, 48, 49, 50, 51, 52, 53, 54, 55, 56, 57, 58, 59, 60] rfl
  have hD : va_D (fun q : Nat => s.heap.size ≤ q) (freshX cB cI cJ cZ x ++ (freshM cB cI cJ cZ y wf ++ [(q_5, .inl (cJ, 1, .inr (.inl (fun _ => 0))))])) := hD.sub [0, 1, 2, 3, 4, 5, 6, 7, 8, 9, 10, 11, 12, 13, 14, 15, 16, 17, 18, 19, 20, 21, 22, 23, 24, 25, 26, 27, 28, 29, 30, 31, 32, 33, 34, 35, 36, 37, 38, 39, 40, 41, 42, 43, 44, 45, 46, 47, 48, 49, 50, 51, 52, 53, 54, 55, 56, 57, 58, 59, 60] (by decide) rfl
  have hl : lv_has ls 7 [(4, .int 0), (3, .ref q_5), (2, .ref (y 0)), (1, .ref (x 0)), (0, .ref b)] := hl
  refine lv_iload hx hb dL_law_23 (lv_at hl 0 rfl) ?_
  refine lv_aload_n hx hb dL_law_25 rfl (lv_at hl 4 rfl) ?_
  refine va_slen hx hb hX hbl hbA hS dL_law_26 ?_
  refine lv_bipush (v := 6) hx hb dL_law_27 (by decide) ?_
  refine lv_isub hx hb dL_law_29 ?_
  by_cases h6 : L = 6
  · subst h6
    refine lv_icmp_gt (tgt := 694) hx hb dL_law_30 (by decide) (fun h => absurd h (by decide)) (fun _ => ?_)
    exact law_body hl9 C0 hK hlk hP hD hS hl
  · refine lv_icmp_gt (tgt := 694) hx hb dL_law_30 (by decide) (fun _ => ?_) (fun h => absurd (law_short hL h6) h)
    refine W.widen (k := 62) (n := 67370) (Nat.le_of_ble_eq_true rfl) (Nat.le_of_ble_eq_true rfl) ?_
    exact law_exit C0 hS (x := x) (y := y) (wf := wf) (q9 := q_5) (sa := sa) (D := D) (cB := cB) (cI := cI) (cJ := cJ) (cZ := cZ)
