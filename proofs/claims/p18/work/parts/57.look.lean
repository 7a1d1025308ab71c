/-- what look's throws need of the start: the texts' places, the classes may be cast to themselves, the constructors above are declared, two statics of Throwable; the one isn't the other -/
def lkS (sz sa sb : Nat) (U : State) : Prop := vk_R RX7 237 "no such child" sa U ∧ vk_R RX7 244 "no such what" sb U ∧ va_Nw (.castable "java/lang/IndexOutOfBoundsException" "java/lang/IndexOutOfBoundsException") U ∧ va_Nw (.castable "java/util/NoSuchElementException" "java/util/NoSuchElementException") U ∧ va_Nw (.declares ⟨"java/lang/RuntimeException", "<init>", "(Ljava/lang/String;)V"⟩) U ∧ va_Nw (.declares ⟨"java/lang/Exception", "<init>", "(Ljava/lang/String;)V"⟩) U ∧ va_Nw (.declares ⟨"java/lang/Throwable", "<init>", "(Ljava/lang/String;)V"⟩) U ∧ vx_Zq Bundle.tN "UNASSIGNED_STACK" Bundle.steD (fun q => sz ≤ q) U U.heap ∧ vx_Zq Bundle.tN "SUPPRESSED_SENTINEL" Bundle.listD (fun q => sz ≤ q) U U.heap ∧ va_Nc "java/util/NoSuchElementException" "java/lang/IndexOutOfBoundsException" U
theorem lkS.calling {sz sa sb : Nat} {U : State} {g : JFrame} {mk : MethodId} {a : Array Value} (h : lkS sz sa sb U) : lkS sz sa sb (U.calling g mk a) := by
  obtain ⟨h1, h1b, h2, h2b, h3, h4, h5, h6, h7, h8⟩ := h
  exact ⟨vk_R.same (u := U) (U := U.calling g mk a) rfl h1, vk_R.same (u := U) (U := U.calling g mk a) rfl h1b, va_Nw.same (u := U) (U := U.calling g mk a) rfl rfl h2, va_Nw.same (u := U) (U := U.calling g mk a) rfl rfl h2b, va_Nw.same (u := U) (U := U.calling g mk a) rfl rfl h3, va_Nw.same (u := U) (U := U.calling g mk a) rfl rfl h4, va_Nw.same (u := U) (U := U.calling g mk a) rfl rfl h5, vx_Zq.moved (u := U) (U := U.calling g mk a) (Vm.Alike.refl U.vm) h6, vx_Zq.moved (u := U) (U := U.calling g mk a) (Vm.Alike.refl U.vm) h7, va_Nc.moved (u := U) (U := U.calling g mk a) (Vm.Alike.refl U.vm) h8⟩
theorem lkS.later {sz sa sb : Nat} {s U : State} {H : Heap} {locs : List Loc} (h : lkS sz sa sb s) (hsz : s.heap.size = sz) (hS : va_S (fun q => sz ≤ q) s.heap H locs) (hU : U.heap = H) (hW : s.WarmedH U.vm) : lkS H.size sa sb U := by
  obtain ⟨h1, h1b, h2, h2b, h3, h4, h5, h6, h7, h8⟩ := h
  have hle : sz ≤ H.size := by rw [← hsz]; exact hS.1
  refine ⟨vk_R.warm hW h1, vk_R.warm hW h1b, va_Nw.warmC hW h2, va_Nw.warmC hW h2b, va_Nw.warmD hW h3, va_Nw.warmD hW h4, va_Nw.warmD hW h5, ?_, ?_, va_Nc.moved hW.alike h8⟩
  · rw [hU]; exact ((vx_Zq.kept h6 hS.2.1).moved hW.alike).narrow (fun q (hq : H.size ≤ q) => Nat.le_trans hle hq)
  · rw [hU]; exact ((vx_Zq.kept h7 hS.2.1).moved hW.alike).narrow (fun q (hq : H.size ≤ q) => Nat.le_trans hle hq)
theorem lk_rest : ∀ w ∈ (vx_atS RX7 239 "java/lang/IndexOutOfBoundsException" ["java/lang/RuntimeException", "java/lang/Exception"]).filter (fun w => !goodWord w), w ∈ ([.castable "java/lang/IndexOutOfBoundsException" "java/lang/IndexOutOfBoundsException", .declares ⟨"java/lang/RuntimeException", "<init>", "(Ljava/lang/String;)V"⟩, .declares ⟨"java/lang/Exception", "<init>", "(Ljava/lang/String;)V"⟩, .declares ⟨"java/lang/Throwable", "<init>", "(Ljava/lang/String;)V"⟩] : List Cond) := by decide +kernel
theorem lk_ot : ∀ w ∈ Cond.classLink RX7 235 "java/lang/IndexOutOfBoundsException" :: Cond.initialized "java/lang/IndexOutOfBoundsException" :: vx_atS RX7 239 "java/lang/IndexOutOfBoundsException" ["java/lang/RuntimeException", "java/lang/Exception"], vx_ot w = true := by decide +kernel
theorem lk_rest2 : ∀ w ∈ ((nsAt RX7 246).filter vx_no).filter (fun w => !goodWord w), w ∈ ([.castable "java/util/NoSuchElementException" "java/util/NoSuchElementException", .declares ⟨"java/lang/RuntimeException", "<init>", "(Ljava/lang/String;)V"⟩, .declares ⟨"java/lang/Exception", "<init>", "(Ljava/lang/String;)V"⟩, .declares ⟨"java/lang/Throwable", "<init>", "(Ljava/lang/String;)V"⟩] : List Cond) := by decide +kernel
theorem lk_ot2 : ∀ w ∈ Cond.classLink RX7 242 "java/util/NoSuchElementException" :: Cond.initialized "java/util/NoSuchElementException" :: ((nsAt RX7 246).filter vx_no), vx_ot w = true := by decide +kernel
theorem lk_kept {D : va_G} {ws : va_W} {H H1 : Heap} (h : va_P D vwCl ws H) (hk : ∀ q : Nat, q < H.size → ¬ H.size ≤ q → H1[q]? = H[q]?) : va_P D vwCl ws H1 := fun k q hq => (h k q hq).kept (hk q.1 (h k q hq).lt (Nat.not_le.mpr (h k q hq).lt))

set_option maxHeartbeats 4000000 in
set_option maxRecDepth 100000 in
/-- look, of the class: it answers, or throws one of the two -/
theorem n_X7_look (l : Launch) (D : va_G) (cB cI cJ cZ : ClassId) (sz sa sb : Nat) (x : Nat → Nat) (yr : Int32) (e1 : Int32) (e2 : Int32) (e3 : Int32) (e4 : Int32) (e5 : Int32) (e6 : Int32) (e7 : Int32) (e8 : Int32) (ga : Nat) (gx : Int32) (gv : Nat → Int32) (gs : Nat → Int32) (ca : Nat) (k11 : Nat → Int32) (k12 : Nat → Int32) (k13 : Nat → Int32) (k14 : Nat → Int32) (k15 : Nat → Int32) (k16 : Nat → Int32) (q q2 : Int32) (hl9 : l.stackTraces = false)  (b_ga : ga ≤ 8) (b_ca : ca ≤ 16) : vx_Met l yX7_look wsLkX ({ frames := 6, cells := 1, slots := 6, locals := 100 } : Room) (va_Pc [.ref (x 0), .int q, .int q2] (fun U => U.heap.size = sz ∧ va_P D vwCl [((x 0), .inr (7, [.ref (x 1), .ref (x 5), .ref (x 7), .ref (x 10), .ref (x 17), .ref (x 22), .ref (x 27), .int yr])), ((x 5), .inr (5, [.ref (x 6), .int e1, .int e2, .int e3, .int e4, .int e5, .int e6, .int e7, .int e8])), ((x 7), .inr (3, [.ref (x 8), .ref (x 9), .int (nI ga), .int gx])), ((x 8), .inl (cI, 8, .inl gv)), ((x 9), .inl (cI, 8, .inl gs)), ((x 10), .inr (1, [.ref (x 11), .ref (x 12), .ref (x 13), .ref (x 14), .ref (x 15), .ref (x 16), .int (nI ca)])), ((x 11), .inl (cI, 16, .inl k11)), ((x 12), .inl (cI, 16, .inl k12)), ((x 13), .inl (cI, 16, .inl k13)), ((x 14), .inl (cI, 16, .inl k14)), ((x 15), .inl (cI, 16, .inl k15)), ((x 16), .inl (cI, 16, .inl k16))] U.heap ∧ va_K D vwCl (aTy cB cI cJ cZ) U ∧ lkS sz sa sb U)) (va_Qi (fun (_ : Int32) (_ : Unit) => True) (fun _ _ => True) (fun q => sz ≤ q)) (vx_X (fun _ : Unit => True) (fun E _ _ => E = "java/lang/IndexOutOfBoundsException" ∨ E = "java/util/NoSuchElementException") (fun q => sz ≤ q)) 1 6 (fun q => sz ≤ q) := by
  refine vx_ofW (cc := cX7_look) (maxL := 3) (ret := (some .int)) (by decide) rfl ?_
  intro p e s m args below meth c s₁ B hml htb hv
  obtain ⟨rfl, hsz, hP, hK, hst, hst2, hcs, hcs2, hd1, hd2, hd3, hU, hN, hNc⟩ := hv
  subst hsz
  have hx := B.exec
  have hb := B.bytes
  have hr := B.returns
  have hts := atoms_spec (ws := wsLkX) B.pre
  have hown : s.vm.findClass RX7 = some m.cls := findClass_of_methodNamed B.named
  have hlocks := B.notSynchronized
  have w_1 : ∀ w ∈ wsX70, w ∈ wsLkX := by decide +kernel
  have w_2 := hts (Cond.fieldLink RX7 33 "BlueCoats" "children" "LBlueCoats$Children;") (by decide +kernel)
  have w_3 : ∀ w ∈ wsX10, w ∈ wsLkX := by decide +kernel
  have w_4 := hts (Cond.fieldLink RX7 155 "BlueCoats$Children" "age" "[I") (by decide +kernel)
  have w_5 := hts (Cond.fieldLink RX7 152 "BlueCoats$Children" "need" "[I") (by decide +kernel)
  have w_6 := hts (Cond.fieldLink RX7 204 "BlueCoats$Children" "size" "[I") (by decide +kernel)
  have w_7 := hts (Cond.fieldLink RX7 118 "BlueCoats$Children" "state" "[I") (by decide +kernel)
  have w_8 := hts (Cond.fieldLink RX7 167 "BlueCoats$Children" "coat" "[I") (by decide +kernel)
  have w_9 := hts (Cond.fieldLink RX7 26 "BlueCoats" "givers" "LBlueCoats$Givers;") (by decide +kernel)
  have w_10 := hts (Cond.fieldLink RX7 19 "BlueCoats" "law" "LBlueCoats$Statutes;") (by decide +kernel)
  have w_11 : ∀ w ∈ wsX50, w ∈ wsLkX := by decide +kernel
  have w_12 := hts (Cond.fieldLink RX7 146 "BlueCoats$Statutes" "vote" "I") (by decide +kernel)
  have hl := lv_entry ([.ref (x 0), .int q, .int q2]) (n := 3) (Nat.le_of_ble_eq_true rfl)
  rw [lg_entry_eq]
  generalize (lg_sl ([.ref (x 0), .int q, .int q2]) ++ List.replicate (3 - (lg_sl ([.ref (x 0), .int q, .int q2])).length) Slot.unset).toArray = ls at hl ⊢
  have hl : lv_has ls 3 [(0, .ref (x 0)), (1, .int q), (2, .int q2)] := hl
  refine lv_aload_n hx hb dX7_look_0 rfl (lv_at hl 0 rfl) ?_
  refine va_get (D := D) (ci := 7) (v := .ref (x 10)) (C := RX7) (T := TX7) (N := 8) hx hb hts w_1 hown hK hP 0 rfl rfl 3 (by decide) w_2 (fun _ h9 => h9) rfl dX7_look_1 ?_
  refine lv_iload_n hx hb dX7_look_4 rfl (lv_at hl 1 rfl) ?_
  refine vp_callSi (va_Run.run (va_runV (As := [.int q]) (rest := []) ⟨hx, hb, hml, hown, hts⟩ (g_X1_has l D cB cI cJ cZ (x 10) (x 11) (x 12) (x 13) (x 14) (x 15) (x 16) ca q (by omega)) (cwV 1 hts gLkh rfl rfl rfl (by decide +kernel) ⟨Nat.le_of_ble_eq_true rfl, Nat.le_of_ble_eq_true rfl⟩) (pre_VR (hP.sub (ws' := [((x 10), .inr (1, [.ref (x 11), .ref (x 12), .ref (x 13), .ref (x 14), .ref (x 15), .ref (x 16), .int (nI ca)]))]) [5] rfl) hK 0 rfl rfl rfl) rfl rfl hl.1 rfl (lv_room (Nat.le_of_ble_eq_true rfl)) dX7_look_5 ⟨Nat.le_of_ble_eq_true rfl, Nat.le_of_ble_eq_true rfl⟩)) (fun r_1 hw_r_1 => ?_)
  refine lv_if_ne (tgt := 21) hx hb dX7_look_8 (by decide) (fun c_8 => ?_) (fun c_8 => ?_)
  ·
    refine lv_iload_n hx hb dX7_look_21 rfl (lv_at hl 2 rfl) ?_
    by_cases k_220 : q2 = 0
    ·
      subst k_220
      refine lv_tableIn (off := 38) (tgt := 60) hx hb dX7_look_22 (by decide) (by decide) rfl (by decide) ?_
      refine lv_aload_n hx hb dX7_look_60 rfl (lv_at hl 0 rfl) ?_
      refine va_get (D := D) (ci := 7) (v := .ref (x 10)) (C := RX7) (T := TX7) (N := 8) hx hb hts w_1 hown hK hP 0 rfl rfl 3 (by decide) w_2 (fun _ h9 => h9) rfl dX7_look_61 ?_
      refine va_get (D := D) (ci := 1) (v := .ref (x 11)) (C := RX1) (T := TX1) (N := 7) hx hb hts w_3 hown hK hP 5 rfl rfl 0 (by decide) w_4 (fun _ h9 => h9) rfl dX7_look_64 ?_
      refine lv_iload_n hx hb dX7_look_67 rfl (lv_at hl 1 rfl) ?_
      refine sv_iald (v := k11 q.toNatClampNeg) hx hb hK hP 6 1 rfl rfl (in_up (has_in hw_r_1 c_8) b_ca) rfl dX7_look_68 ?_
      refine vx_ret ?_
      refine W.widen (k := 1) (n := 6) (Nat.le_of_ble_eq_true rfl) (Nat.le_of_ble_eq_true rfl) ?_
      exact W.iret (v := k11 q.toNatClampNeg) hx hb hr (fun t ht hW => ⟨⟨_, (), rfl, trivial, trivial⟩, va_S.F va_S.rf ht⟩) (fun q h => nomatch h) dX7_look_69
    by_cases k_221 : q2 = 1
    ·
      subst k_221
      refine lv_tableIn (off := 48) (tgt := 70) hx hb dX7_look_22 (by decide) (by decide) rfl (by decide) ?_
      refine lv_aload_n hx hb dX7_look_70 rfl (lv_at hl 0 rfl) ?_
      refine va_get (D := D) (ci := 7) (v := .ref (x 10)) (C := RX7) (T := TX7) (N := 8) hx hb hts w_1 hown hK hP 0 rfl rfl 3 (by decide) w_2 (fun _ h9 => h9) rfl dX7_look_71 ?_
      refine va_get (D := D) (ci := 1) (v := .ref (x 12)) (C := RX1) (T := TX1) (N := 7) hx hb hts w_3 hown hK hP 5 rfl rfl 1 (by decide) w_5 (fun _ h9 => h9) rfl dX7_look_74 ?_
      refine lv_iload_n hx hb dX7_look_77 rfl (lv_at hl 1 rfl) ?_
      refine sv_iald (v := k12 q.toNatClampNeg) hx hb hK hP 7 1 rfl rfl (in_up (has_in hw_r_1 c_8) b_ca) rfl dX7_look_78 ?_
      refine vx_ret ?_
      refine W.widen (k := 1) (n := 6) (Nat.le_of_ble_eq_true rfl) (Nat.le_of_ble_eq_true rfl) ?_
      exact W.iret (v := k12 q.toNatClampNeg) hx hb hr (fun t ht hW => ⟨⟨_, (), rfl, trivial, trivial⟩, va_S.F va_S.rf ht⟩) (fun q h => nomatch h) dX7_look_79
    by_cases k_222 : q2 = 2
    ·
      subst k_222
      refine lv_tableIn (off := 58) (tgt := 80) hx hb dX7_look_22 (by decide) (by decide) rfl (by decide) ?_
      refine lv_aload_n hx hb dX7_look_80 rfl (lv_at hl 0 rfl) ?_
      refine va_get (D := D) (ci := 7) (v := .ref (x 10)) (C := RX7) (T := TX7) (N := 8) hx hb hts w_1 hown hK hP 0 rfl rfl 3 (by decide) w_2 (fun _ h9 => h9) rfl dX7_look_81 ?_
      refine va_get (D := D) (ci := 1) (v := .ref (x 13)) (C := RX1) (T := TX1) (N := 7) hx hb hts w_3 hown hK hP 5 rfl rfl 2 (by decide) w_6 (fun _ h9 => h9) rfl dX7_look_84 ?_
      refine lv_iload_n hx hb dX7_look_87 rfl (lv_at hl 1 rfl) ?_
      refine sv_iald (v := k13 q.toNatClampNeg) hx hb hK hP 8 1 rfl rfl (in_up (has_in hw_r_1 c_8) b_ca) rfl dX7_look_88 ?_
      refine vx_ret ?_
      refine W.widen (k := 1) (n := 6) (Nat.le_of_ble_eq_true rfl) (Nat.le_of_ble_eq_true rfl) ?_
      exact W.iret (v := k13 q.toNatClampNeg) hx hb hr (fun t ht hW => ⟨⟨_, (), rfl, trivial, trivial⟩, va_S.F va_S.rf ht⟩) (fun q h => nomatch h) dX7_look_89
    by_cases k_223 : q2 = 3
    ·
      subst k_223
      refine lv_tableIn (off := 68) (tgt := 90) hx hb dX7_look_22 (by decide) (by decide) rfl (by decide) ?_
      refine lv_aload_n hx hb dX7_look_90 rfl (lv_at hl 0 rfl) ?_
      refine va_get (D := D) (ci := 7) (v := .ref (x 10)) (C := RX7) (T := TX7) (N := 8) hx hb hts w_1 hown hK hP 0 rfl rfl 3 (by decide) w_2 (fun _ h9 => h9) rfl dX7_look_91 ?_
      refine va_get (D := D) (ci := 1) (v := .ref (x 15)) (C := RX1) (T := TX1) (N := 7) hx hb hts w_3 hown hK hP 5 rfl rfl 4 (by decide) w_7 (fun _ h9 => h9) rfl dX7_look_94 ?_
      refine lv_iload_n hx hb dX7_look_97 rfl (lv_at hl 1 rfl) ?_
      refine sv_iald (v := k15 q.toNatClampNeg) hx hb hK hP 10 1 rfl rfl (in_up (has_in hw_r_1 c_8) b_ca) rfl dX7_look_98 ?_
      refine vx_ret ?_
      refine W.widen (k := 1) (n := 6) (Nat.le_of_ble_eq_true rfl) (Nat.le_of_ble_eq_true rfl) ?_
      exact W.iret (v := k15 q.toNatClampNeg) hx hb hr (fun t ht hW => ⟨⟨_, (), rfl, trivial, trivial⟩, va_S.F va_S.rf ht⟩) (fun q h => nomatch h) dX7_look_99
    by_cases k_224 : q2 = 4
    ·
      subst k_224
      refine lv_tableIn (off := 78) (tgt := 100) hx hb dX7_look_22 (by decide) (by decide) rfl (by decide) ?_
      refine lv_aload_n hx hb dX7_look_100 rfl (lv_at hl 0 rfl) ?_
      refine va_get (D := D) (ci := 7) (v := .ref (x 10)) (C := RX7) (T := TX7) (N := 8) hx hb hts w_1 hown hK hP 0 rfl rfl 3 (by decide) w_2 (fun _ h9 => h9) rfl dX7_look_101 ?_
      refine va_get (D := D) (ci := 1) (v := .ref (x 16)) (C := RX1) (T := TX1) (N := 7) hx hb hts w_3 hown hK hP 5 rfl rfl 5 (by decide) w_8 (fun _ h9 => h9) rfl dX7_look_104 ?_
      refine lv_iload_n hx hb dX7_look_107 rfl (lv_at hl 1 rfl) ?_
      refine sv_iald (v := k16 q.toNatClampNeg) hx hb hK hP 11 1 rfl rfl (in_up (has_in hw_r_1 c_8) b_ca) rfl dX7_look_108 ?_
      refine vx_ret ?_
      refine W.widen (k := 1) (n := 6) (Nat.le_of_ble_eq_true rfl) (Nat.le_of_ble_eq_true rfl) ?_
      exact W.iret (v := k16 q.toNatClampNeg) hx hb hr (fun t ht hW => ⟨⟨_, (), rfl, trivial, trivial⟩, va_S.F va_S.rf ht⟩) (fun q h => nomatch h) dX7_look_109
    by_cases k_225 : q2 = 5
    ·
      subst k_225
      refine lv_tableIn (off := 88) (tgt := 110) hx hb dX7_look_22 (by decide) (by decide) rfl (by decide) ?_
      refine lv_aload_n hx hb dX7_look_110 rfl (lv_at hl 0 rfl) ?_
      refine va_get (D := D) (ci := 7) (v := .ref (x 7)) (C := RX7) (T := TX7) (N := 8) hx hb hts w_1 hown hK hP 0 rfl rfl 2 (by decide) w_9 (fun _ h9 => h9) rfl dX7_look_111 ?_
      refine lv_iload_n hx hb dX7_look_114 rfl (lv_at hl 1 rfl) ?_
      refine lv_aload_n hx hb dX7_look_115 rfl (lv_at hl 0 rfl) ?_
      refine va_get (D := D) (ci := 7) (v := .ref (x 5)) (C := RX7) (T := TX7) (N := 8) hx hb hts w_1 hown hK hP 0 rfl rfl 1 (by decide) w_10 (fun _ h9 => h9) rfl dX7_look_116 ?_
      refine va_get (D := D) (ci := 5) (v := .int e3) (C := RX5) (T := TX5) (N := 9) hx hb hts w_11 hown hK hP 1 rfl rfl 3 (by decide) w_12 (fun _ h9 => h9) rfl dX7_look_119 ?_
      refine vp_callSi (va_Run.run (va_runV (As := [.int q, .int e3]) (rest := []) ⟨hx, hb, hml, hown, hts⟩ (g_X3_votes l D cB cI cJ cZ (x 7) (x 8) (x 9) ga gx gv gs q e3 b_ga) (cwV 2 hts gLkv rfl rfl rfl (by decide +kernel) ⟨Nat.le_of_ble_eq_true rfl, Nat.le_of_ble_eq_true rfl⟩) (pre_VR (hP.sub (ws' := [((x 7), .inr (3, [.ref (x 8), .ref (x 9), .int (nI ga), .int gx])), ((x 8), .inl (cI, 8, .inl gv)), ((x 9), .inl (cI, 8, .inl gs))]) [2, 3, 4] rfl) hK 0 rfl rfl rfl) rfl rfl hl.1 rfl (lv_room (Nat.le_of_ble_eq_true rfl)) dX7_look_122 ⟨Nat.le_of_ble_eq_true rfl, Nat.le_of_ble_eq_true rfl⟩)) (fun r_2 hw_r_2 => ?_)
      refine vx_ret ?_
      refine W.widen (k := 1) (n := 6) (Nat.le_of_ble_eq_true rfl) (Nat.le_of_ble_eq_true rfl) ?_
      exact W.iret (v := r_2) hx hb hr (fun t ht hW => ⟨⟨_, (), rfl, trivial, trivial⟩, va_S.F va_S.rf ht⟩) (fun q h => nomatch h) dX7_look_125
    refine lv_tableOut (tgt := 126) hx hb dX7_look_22 (sw_out6 k_220 k_221 k_222 k_223 k_224 k_225) (by decide) ?_
    exact vx_throwN (own := RX7) (text := "no such what") (A := fun q => s.heap.size ≤ q) hx hb hl9 hown (hts (Cond.classLink RX7 242 "java/util/NoSuchElementException") (by decide +kernel)) (hts (Cond.initialized "java/util/NoSuchElementException") (by decide +kernel)) hst2 (vx_hat (fun w h => hts w (List.mem_cons_of_mem _ (List.mem_append_right _ h))) lk_rest2 (vx_c (va_Nw.use rfl hcs2) (vx_c (va_Nw.use rfl hd1) (vx_c (va_Nw.use rfl hd2) (vx_c (va_Nw.use rfl hd3) vx_n))))) lk_ot2 hU hN va_S.rf (by rw [hml]; exact hl.1) dX7_look_126 dX7_look_129 dX7_look_130 dX7_look_132 dX7_look_135 (fun x9 h9 => (htb x9 h9).elim) (Nat.lt_of_lt_of_le (by decide) (Nat.le_refl 6)) (Nat.le_of_ble_eq_true rfl) (Nat.le_of_ble_eq_true rfl) (Nat.le_of_ble_eq_true rfl) hlocks (fun t ha hz hk => ⟨(), trivial, Or.inr rfl, hz, fun q hq _ => hk q hq⟩) (fun z h => nomatch h) (Nat.le_refl 1) (Nat.le_refl 6)
  ·
    exact vx_throwS (own := RX7) (cls := "java/lang/IndexOutOfBoundsException") (text := "no such child") (names := ["java/lang/RuntimeException", "java/lang/Exception"]) (A := fun q => s.heap.size ≤ q) hx hb hl9 hown (by decide) (by decide) (hts (Cond.classLink RX7 235 "java/lang/IndexOutOfBoundsException") (by decide +kernel)) (hts (Cond.initialized "java/lang/IndexOutOfBoundsException") (by decide +kernel)) hst (vx_hat (fun w h => hts w (List.mem_cons_of_mem _ (List.mem_append_left _ (List.mem_append_right _ h)))) lk_rest (vx_c (va_Nw.use rfl hcs) (vx_c (va_Nw.use rfl hd1) (vx_c (va_Nw.use rfl hd2) (vx_c (va_Nw.use rfl hd3) vx_n))))) lk_ot hU hN va_S.rf (by rw [hml]; exact hl.1) dX7_look_11 dX7_look_14 dX7_look_15 dX7_look_17 dX7_look_20 (fun x9 h9 => (htb x9 h9).elim) (Nat.lt_of_lt_of_le (by decide) (Nat.le_refl 6)) (Nat.le_of_ble_eq_true rfl) (Nat.le_of_ble_eq_true rfl) (Nat.le_of_ble_eq_true rfl) hlocks (fun t ha hz hk => ⟨(), trivial, Or.inl rfl, hz, fun q hq _ => hk q hq⟩) (fun z h => nomatch h) (Nat.le_refl 1) (Nat.le_refl 6)
set_option maxHeartbeats 4000000 in
set_option maxRecDepth 100000 in
/-- the law's own look: what is thrown is caught -/
theorem n_L_look (l : Launch) (D : va_G) (cB cI cJ cZ : ClassId) (sz sa sb : Nat) (x : Nat → Nat) (yr : Int32) (e1 : Int32) (e2 : Int32) (e3 : Int32) (e4 : Int32) (e5 : Int32) (e6 : Int32) (e7 : Int32) (e8 : Int32) (ga : Nat) (gx : Int32) (gv : Nat → Int32) (gs : Nat → Int32) (ca : Nat) (k11 : Nat → Int32) (k12 : Nat → Int32) (k13 : Nat → Int32) (k14 : Nat → Int32) (k15 : Nat → Int32) (k16 : Nat → Int32) (q q2 : Int32) (q9 : Nat) (fo : Nat → Int64) (hl9 : l.stackTraces = false)  (b_ga : ga ≤ 8) (b_ca : ca ≤ 16) : Met l yL_look wsLkL ({ frames := 7, cells := 1, slots := 6, locals := 122 } : Room) (va_Pc [.ref (x 0), .int q, .int q2, .ref q9] (fun U => U.heap.size = sz ∧ va_P D vwCl [((x 0), .inr (7, [.ref (x 1), .ref (x 5), .ref (x 7), .ref (x 10), .ref (x 17), .ref (x 22), .ref (x 27), .int yr])), ((x 5), .inr (5, [.ref (x 6), .int e1, .int e2, .int e3, .int e4, .int e5, .int e6, .int e7, .int e8])), ((x 7), .inr (3, [.ref (x 8), .ref (x 9), .int (nI ga), .int gx])), ((x 8), .inl (cI, 8, .inl gv)), ((x 9), .inl (cI, 8, .inl gs)), ((x 10), .inr (1, [.ref (x 11), .ref (x 12), .ref (x 13), .ref (x 14), .ref (x 15), .ref (x 16), .int (nI ca)])), ((x 11), .inl (cI, 16, .inl k11)), ((x 12), .inl (cI, 16, .inl k12)), ((x 13), .inl (cI, 16, .inl k13)), ((x 14), .inl (cI, 16, .inl k14)), ((x 15), .inl (cI, 16, .inl k15)), ((x 16), .inl (cI, 16, .inl k16)), (q9, .inl (cJ, 1, .inr (.inl fo)))] U.heap ∧ va_K D vwCl (aTy cB cI cJ cZ) U ∧ va_D (fun _ => True) [((x 0), .inr (7, [.ref (x 1), .ref (x 5), .ref (x 7), .ref (x 10), .ref (x 17), .ref (x 22), .ref (x 27), .int yr])), ((x 5), .inr (5, [.ref (x 6), .int e1, .int e2, .int e3, .int e4, .int e5, .int e6, .int e7, .int e8])), ((x 7), .inr (3, [.ref (x 8), .ref (x 9), .int (nI ga), .int gx])), ((x 8), .inl (cI, 8, .inl gv)), ((x 9), .inl (cI, 8, .inl gs)), ((x 10), .inr (1, [.ref (x 11), .ref (x 12), .ref (x 13), .ref (x 14), .ref (x 15), .ref (x 16), .int (nI ca)])), ((x 11), .inl (cI, 16, .inl k11)), ((x 12), .inl (cI, 16, .inl k12)), ((x 13), .inl (cI, 16, .inl k13)), ((x 14), .inl (cI, 16, .inl k14)), ((x 15), .inl (cI, 16, .inl k15)), ((x 16), .inl (cI, 16, .inl k16)), (q9, .inl (cJ, 1, .inr (.inl fo)))] ∧ lkS sz sa sb U)) (va_Qi (fun (_ : Int32) (_ : Nat → Int64) => True) (cB_ D (aTy cB cI cJ cZ) (va_A [((x 0), .inr (7, [.ref (x 1), .ref (x 5), .ref (x 7), .ref (x 10), .ref (x 17), .ref (x 22), .ref (x 27), .int yr])), ((x 5), .inr (5, [.ref (x 6), .int e1, .int e2, .int e3, .int e4, .int e5, .int e6, .int e7, .int e8])), ((x 7), .inr (3, [.ref (x 8), .ref (x 9), .int (nI ga), .int gx])), ((x 8), .inl (cI, 8, .inl gv)), ((x 9), .inl (cI, 8, .inl gs)), ((x 10), .inr (1, [.ref (x 11), .ref (x 12), .ref (x 13), .ref (x 14), .ref (x 15), .ref (x 16), .int (nI ca)])), ((x 11), .inl (cI, 16, .inl k11)), ((x 12), .inl (cI, 16, .inl k12)), ((x 13), .inl (cI, 16, .inl k13)), ((x 14), .inl (cI, 16, .inl k14)), ((x 15), .inl (cI, 16, .inl k15)), ((x 16), .inl (cI, 16, .inl k16)), (q9, .inl (cJ, 1, .inr (.inl fo)))] sz) (fun u => [((x 0), .inr (7, [.ref (x 1), .ref (x 5), .ref (x 7), .ref (x 10), .ref (x 17), .ref (x 22), .ref (x 27), .int yr])), ((x 5), .inr (5, [.ref (x 6), .int e1, .int e2, .int e3, .int e4, .int e5, .int e6, .int e7, .int e8])), ((x 7), .inr (3, [.ref (x 8), .ref (x 9), .int (nI ga), .int gx])), ((x 8), .inl (cI, 8, .inl gv)), ((x 9), .inl (cI, 8, .inl gs)), ((x 10), .inr (1, [.ref (x 11), .ref (x 12), .ref (x 13), .ref (x 14), .ref (x 15), .ref (x 16), .int (nI ca)])), ((x 11), .inl (cI, 16, .inl k11)), ((x 12), .inl (cI, 16, .inl k12)), ((x 13), .inl (cI, 16, .inl k13)), ((x 14), .inl (cI, 16, .inl k14)), ((x 15), .inl (cI, 16, .inl k15)), ((x 16), .inl (cI, 16, .inl k16)), (q9, .inl (cJ, 1, .inr (.inl u)))])) (va_A [((x 0), .inr (7, [.ref (x 1), .ref (x 5), .ref (x 7), .ref (x 10), .ref (x 17), .ref (x 22), .ref (x 27), .int yr])), ((x 5), .inr (5, [.ref (x 6), .int e1, .int e2, .int e3, .int e4, .int e5, .int e6, .int e7, .int e8])), ((x 7), .inr (3, [.ref (x 8), .ref (x 9), .int (nI ga), .int gx])), ((x 8), .inl (cI, 8, .inl gv)), ((x 9), .inl (cI, 8, .inl gs)), ((x 10), .inr (1, [.ref (x 11), .ref (x 12), .ref (x 13), .ref (x 14), .ref (x 15), .ref (x 16), .int (nI ca)])), ((x 11), .inl (cI, 16, .inl k11)), ((x 12), .inl (cI, 16, .inl k12)), ((x 13), .inl (cI, 16, .inl k13)), ((x 14), .inl (cI, 16, .inl k14)), ((x 15), .inl (cI, 16, .inl k15)), ((x 16), .inl (cI, 16, .inl k16)), (q9, .inl (cJ, 1, .inr (.inl fo)))] sz)) 1 6 (va_A [((x 0), .inr (7, [.ref (x 1), .ref (x 5), .ref (x 7), .ref (x 10), .ref (x 17), .ref (x 22), .ref (x 27), .int yr])), ((x 5), .inr (5, [.ref (x 6), .int e1, .int e2, .int e3, .int e4, .int e5, .int e6, .int e7, .int e8])), ((x 7), .inr (3, [.ref (x 8), .ref (x 9), .int (nI ga), .int gx])), ((x 8), .inl (cI, 8, .inl gv)), ((x 9), .inl (cI, 8, .inl gs)), ((x 10), .inr (1, [.ref (x 11), .ref (x 12), .ref (x 13), .ref (x 14), .ref (x 15), .ref (x 16), .int (nI ca)])), ((x 11), .inl (cI, 16, .inl k11)), ((x 12), .inl (cI, 16, .inl k12)), ((x 13), .inl (cI, 16, .inl k13)), ((x 14), .inl (cI, 16, .inl k14)), ((x 15), .inl (cI, 16, .inl k15)), ((x 16), .inl (cI, 16, .inl k16)), (q9, .inl (cJ, 1, .inr (.inl fo)))] sz) := by
  refine va_MetW (cc := cL_look) (maxL := 5) (ret := (some .int)) (hh := [(0, 10, 13, 13), (0, 10, 17, 15)]) (by decide) rfl ?_
  intro p e s m args below meth c s₁ B hml hv
  obtain ⟨rfl, hsz, hP, hK, hD0, hlk⟩ := hv
  subst hsz
  have hx := B.exec
  have hb := B.bytes
  have hr := B.returns
  have hts := atoms_spec (ws := wsLkL) B.pre
  have hown : s.vm.findClass RL = some m.cls := findClass_of_methodNamed B.named
  have hlocks := B.notSynchronized
  have htab := vx_table (x := yL_look) B (hts _ List.mem_cons_self)
  have hD := hD0.self (sz := s.heap.size)
  generalize hAe : va_A [((x 0), .inr (7, [.ref (x 1), .ref (x 5), .ref (x 7), .ref (x 10), .ref (x 17), .ref (x 22), .ref (x 27), .int yr])), ((x 5), .inr (5, [.ref (x 6), .int e1, .int e2, .int e3, .int e4, .int e5, .int e6, .int e7, .int e8])), ((x 7), .inr (3, [.ref (x 8), .ref (x 9), .int (nI ga), .int gx])), ((x 8), .inl (cI, 8, .inl gv)), ((x 9), .inl (cI, 8, .inl gs)), ((x 10), .inr (1, [.ref (x 11), .ref (x 12), .ref (x 13), .ref (x 14), .ref (x 15), .ref (x 16), .int (nI ca)])), ((x 11), .inl (cI, 16, .inl k11)), ((x 12), .inl (cI, 16, .inl k12)), ((x 13), .inl (cI, 16, .inl k13)), ((x 14), .inl (cI, 16, .inl k14)), ((x 15), .inl (cI, 16, .inl k15)), ((x 16), .inl (cI, 16, .inl k16)), (q9, .inl (cJ, 1, .inr (.inl fo)))] s.heap.size = A at hD ⊢
  have hA : ∀ q : Nat, s.heap.size ≤ q → A q := fun q h => by rw [← hAe]; exact Or.inr h
  have hS : va_S A s.heap s.heap [] := va_S.rf
  have hl := lv_entry ([.ref (x 0), .int q, .int q2, .ref q9]) (n := 5) (Nat.le_of_ble_eq_true rfl)
  rw [lg_entry_eq]
  generalize (lg_sl ([.ref (x 0), .int q, .int q2, .ref q9]) ++ List.replicate (5 - (lg_sl ([.ref (x 0), .int q, .int q2, .ref q9])).length) Slot.unset).toArray = ls at hl ⊢
  have hl : lv_has ls 5 [(0, .ref (x 0)), (1, .int q), (2, .int q2), (3, .ref q9)] := hl
  refine lv_aload_n hx hb dL_look_0 rfl (lv_at hl 3 rfl) ?_
  refine lv_iconst (v := 0) hx hb dL_look_1 (by decide) ?_
  refine lv_aload_n hx hb dL_look_2 rfl (lv_at hl 0 rfl) ?_
  refine lv_iload_n hx hb dL_look_3 rfl (lv_at hl 1 rfl) ?_
  refine lv_iload_n hx hb dL_look_4 rfl (lv_at hl 2 rfl) ?_
  refine vx_calli (vx_runV (As := [.int q, .int q2]) (rest := [.int 0, .ref q9]) ⟨hx, hb, hml, hown, hts⟩ (n_X7_look l D cB cI cJ cZ s.heap.size sa sb x yr e1 e2 e3 e4 e5 e6 e7 e8 ga gx gv gs ca k11 k12 k13 k14 k15 k16 q q2 hl9 b_ga b_ca) (cwV 2 hts gLk rfl rfl rfl (by decide +kernel) ⟨Nat.le_of_ble_eq_true rfl, Nat.le_of_ble_eq_true rfl⟩) ⟨fun a U g9 mk q => by obtain ⟨q0, q1, qP, qK, qL⟩ := q; exact ⟨q0, q1, qP, va_K.moved (u := U) (U := U.calling g9 mk a) (Vm.Alike.refl U.vm) qK, qL.calling⟩, va_recv hK hP (ci := 7) (q0 := 0) rfl rfl, fun U hU hW => ⟨rfl, by rw [hU], by rw [hU]; exact hP.sub (ws' := [((x 0), .inr (7, [.ref (x 1), .ref (x 5), .ref (x 7), .ref (x 10), .ref (x 17), .ref (x 22), .ref (x 27), .int yr])), ((x 5), .inr (5, [.ref (x 6), .int e1, .int e2, .int e3, .int e4, .int e5, .int e6, .int e7, .int e8])), ((x 7), .inr (3, [.ref (x 8), .ref (x 9), .int (nI ga), .int gx])), ((x 8), .inl (cI, 8, .inl gv)), ((x 9), .inl (cI, 8, .inl gs)), ((x 10), .inr (1, [.ref (x 11), .ref (x 12), .ref (x 13), .ref (x 14), .ref (x 15), .ref (x 16), .int (nI ca)])), ((x 11), .inl (cI, 16, .inl k11)), ((x 12), .inl (cI, 16, .inl k12)), ((x 13), .inl (cI, 16, .inl k13)), ((x 14), .inl (cI, 16, .inl k14)), ((x 15), .inl (cI, 16, .inl k15)), ((x 16), .inl (cI, 16, .inl k16))]) [0, 1, 2, 3, 4, 5, 6, 7, 8, 9, 10, 11] rfl, va_K.moved hW.alike hK, lkS.later hlk rfl va_S.rf hU hW⟩⟩ rfl rfl hl.1 rfl (lv_room (Nat.le_of_ble_eq_true rfl)) dL_look_5 ⟨Nat.le_of_ble_eq_true rfl, Nat.le_of_ble_eq_true rfl⟩) hS (fun q _ h => hA q h) (fun q h => hA q h) (fun q _ h => hA q h) (fun E ce q8 u t H1 locs1 ht hvm hpx hBX hz hk hS1 hce hcv hcl => ?_) (fun r u t H1 locs1 ht hvm hp hB hz hk hS1 => ?_)
  · have hP1 := lk_kept hP hk
    have hBX : E = "java/lang/IndexOutOfBoundsException" ∨ E = "java/util/NoSuchElementException" := hBX
    rcases hBX with hBX | hBX
    · subst hBX
      refine vx_catch hown [] ⟨0, 10, 13, 13⟩ [⟨0, 10, 17, 15⟩] (by rw [htab]; rfl) (fun z h => nomatch h) (by decide) (by decide) (hts (Cond.classLink RL 13 "java/lang/IndexOutOfBoundsException") (by decide +kernel)) (va_Nw.use rfl hlk.2.2.1) hce hcv hcl ?_
      refine W.eq (g2 := F0 m 13 ls [.ref q8]) rfl ?_
      refine lv_astore (lv' := [(4, .ref q8), (0, .ref (x 0)), (1, .int q), (2, .int q2), (3, .ref q9)]) hx hb dL_look_13 hl (by decide) rfl (fun ls hl => ?_)
      refine lv_iconst (v := 1) hx hb dL_look_15 (by decide) ?_
      have hD9 : va_D A [((x 0), .inr (7, [.ref (x 1), .ref (x 5), .ref (x 7), .ref (x 10), .ref (x 17), .ref (x 22), .ref (x 27), .int yr])), ((x 5), .inr (5, [.ref (x 6), .int e1, .int e2, .int e3, .int e4, .int e5, .int e6, .int e7, .int e8])), ((x 7), .inr (3, [.ref (x 8), .ref (x 9), .int (nI ga), .int gx])), ((x 8), .inl (cI, 8, .inl gv)), ((x 9), .inl (cI, 8, .inl gs)), ((x 10), .inr (1, [.ref (x 11), .ref (x 12), .ref (x 13), .ref (x 14), .ref (x 15), .ref (x 16), .int (nI ca)])), ((x 11), .inl (cI, 16, .inl k11)), ((x 12), .inl (cI, 16, .inl k12)), ((x 13), .inl (cI, 16, .inl k13)), ((x 14), .inl (cI, 16, .inl k14)), ((x 15), .inl (cI, 16, .inl k15)), ((x 16), .inl (cI, 16, .inl k16)), (q9, .inl (cJ, 1, .inr (.inl fo)))] := hD.sub [0, 1, 2, 3, 4, 5, 6, 7, 8, 9, 10, 11, 12] (by decide) rfl
      refine W.widen (k := 1) (n := 6) (Nat.le_refl _) (Nat.le_refl _) ?_
      exact W.iret (v := 1) hx hb hr (fun t ht hW => ⟨⟨_, fo, rfl, trivial, by rw [ht]; exact hP1, va_K.moved hW.alike hK, hD9⟩, hS1.F ht⟩) hS1.2.2 dL_look_16
    · subst hBX
      refine vx_catch hown [⟨0, 10, 13, 13⟩] ⟨0, 10, 17, 15⟩ [] (by rw [htab]; rfl) (fun z h => by cases List.mem_singleton.mp h; exact Or.inr ⟨by decide, _, hts (Cond.classLink RL 13 "java/lang/IndexOutOfBoundsException") (by decide +kernel), hlk.2.2.2.2.2.2.2.2.2⟩) (by decide) (by decide) (hts (Cond.classLink RL 15 "java/util/NoSuchElementException") (by decide +kernel)) (va_Nw.use rfl hlk.2.2.2.1) hce hcv hcl ?_
      refine W.eq (g2 := F0 m 17 ls [.ref q8]) rfl ?_
      refine lv_astore (lv' := [(4, .ref q8), (0, .ref (x 0)), (1, .int q), (2, .int q2), (3, .ref q9)]) hx hb dL_look_17 hl (by decide) rfl (fun ls hl => ?_)
      refine lv_iconst (v := 2) hx hb dL_look_19 (by decide) ?_
      have hD9 : va_D A [((x 0), .inr (7, [.ref (x 1), .ref (x 5), .ref (x 7), .ref (x 10), .ref (x 17), .ref (x 22), .ref (x 27), .int yr])), ((x 5), .inr (5, [.ref (x 6), .int e1, .int e2, .int e3, .int e4, .int e5, .int e6, .int e7, .int e8])), ((x 7), .inr (3, [.ref (x 8), .ref (x 9), .int (nI ga), .int gx])), ((x 8), .inl (cI, 8, .inl gv)), ((x 9), .inl (cI, 8, .inl gs)), ((x 10), .inr (1, [.ref (x 11), .ref (x 12), .ref (x 13), .ref (x 14), .ref (x 15), .ref (x 16), .int (nI ca)])), ((x 11), .inl (cI, 16, .inl k11)), ((x 12), .inl (cI, 16, .inl k12)), ((x 13), .inl (cI, 16, .inl k13)), ((x 14), .inl (cI, 16, .inl k14)), ((x 15), .inl (cI, 16, .inl k15)), ((x 16), .inl (cI, 16, .inl k16)), (q9, .inl (cJ, 1, .inr (.inl fo)))] := hD.sub [0, 1, 2, 3, 4, 5, 6, 7, 8, 9, 10, 11, 12] (by decide) rfl
      refine W.widen (k := 1) (n := 6) (Nat.le_refl _) (Nat.le_refl _) ?_
      exact W.iret (v := 2) hx hb hr (fun t ht hW => ⟨⟨_, fo, rfl, trivial, by rw [ht]; exact hP1, va_K.moved hW.alike hK, hD9⟩, hS1.F ht⟩) hS1.2.2 dL_look_20
  · have hP1 := lk_kept hP hk
    refine lv_i2l (v := r.toInt64) hx hb dL_look_8 rfl ?_
    refine sv_last hx hb hK hP1 hD hS1 12 2 rfl rfl (vp_in_iff.mpr (by decide)) dL_look_9 (fun g1 H locs eg1 hP hD hS => ?_)
    refine lv_goto (tgt := 21) hx hb dL_look_10 (by decide) ?_
    refine lv_iconst (v := 0) hx hb dL_look_21 (by decide) ?_
    have hD9 := hD
    refine W.widen (k := 1) (n := 6) (Nat.le_refl _) (Nat.le_refl _) ?_
    exact W.iret (v := 0) hx hb hr (fun t ht hW => ⟨⟨_, g1, rfl, trivial, by rw [ht]; exact hP, va_K.moved hW.alike hK, hD9⟩, hS.F ht⟩) hS.2.2 dL_look_22
