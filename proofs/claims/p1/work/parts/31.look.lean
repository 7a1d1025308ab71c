/-- what a throw of look's needs of the start: the text's place, the class may be cast to itself, the constructors above it are declared, two statics of Throwable -/
def lkS (sz sa : Nat) (U : State) : Prop := vk_R RX7 237 "no such child" sa U ∧ va_Nw (.castable "java/lang/IndexOutOfBoundsException" "java/lang/IndexOutOfBoundsException") U ∧ va_Nw (.declares ⟨"java/lang/RuntimeException", "<init>", "(Ljava/lang/String;)V"⟩) U ∧ va_Nw (.declares ⟨"java/lang/Exception", "<init>", "(Ljava/lang/String;)V"⟩) U ∧ va_Nw (.declares ⟨"java/lang/Throwable", "<init>", "(Ljava/lang/String;)V"⟩) U ∧ vx_Zq Bundle.tN "UNASSIGNED_STACK" Bundle.steD (fun q => sz ≤ q) U U.heap ∧ vx_Zq Bundle.tN "SUPPRESSED_SENTINEL" Bundle.listD (fun q => sz ≤ q) U U.heap
theorem lkS.calling {sz sa : Nat} {U : State} {g : JFrame} {mk : MethodId} {a : Array Value} (h : lkS sz sa U) : lkS sz sa (U.calling g mk a) := by
  obtain ⟨h1, h2, h3, h4, h5, h6, h7⟩ := h
  exact ⟨vk_R.same (u := U) (U := U.calling g mk a) rfl h1, va_Nw.same (u := U) (U := U.calling g mk a) rfl rfl h2, va_Nw.same (u := U) (U := U.calling g mk a) rfl rfl h3, va_Nw.same (u := U) (U := U.calling g mk a) rfl rfl h4, va_Nw.same (u := U) (U := U.calling g mk a) rfl rfl h5, vx_Zq.moved (u := U) (U := U.calling g mk a) (Vm.Alike.refl U.vm) h6, vx_Zq.moved (u := U) (U := U.calling g mk a) (Vm.Alike.refl U.vm) h7⟩
theorem lkS.later {sz sa : Nat} {s U : State} {H : Heap} {locs : List Loc} (h : lkS sz sa s) (hsz : s.heap.size = sz) (hS : va_S (fun q => sz ≤ q) s.heap H locs) (hU : U.heap = H) (hW : s.WarmedH U.vm) : lkS H.size sa U := by
  obtain ⟨h1, h2, h3, h4, h5, h6, h7⟩ := h
  have hle : sz ≤ H.size := by rw [← hsz]; exact hS.1
  refine ⟨vk_R.warm hW h1, va_Nw.warmC hW h2, va_Nw.warmD hW h3, va_Nw.warmD hW h4, va_Nw.warmD hW h5, ?_, ?_⟩
  · rw [hU]; exact ((vx_Zq.kept h6 hS.2.1).moved hW.alike).narrow (fun q (hq : H.size ≤ q) => Nat.le_trans hle hq)
  · rw [hU]; exact ((vx_Zq.kept h7 hS.2.1).moved hW.alike).narrow (fun q (hq : H.size ≤ q) => Nat.le_trans hle hq)
theorem lk_rest : ∀ w ∈ (vx_atS RX7 239 "java/lang/IndexOutOfBoundsException" ["java/lang/RuntimeException", "java/lang/Exception"]).filter (fun w => !goodWord w), w ∈ ([.castable "java/lang/IndexOutOfBoundsException" "java/lang/IndexOutOfBoundsException", .declares ⟨"java/lang/RuntimeException", "<init>", "(Ljava/lang/String;)V"⟩, .declares ⟨"java/lang/Exception", "<init>", "(Ljava/lang/String;)V"⟩, .declares ⟨"java/lang/Throwable", "<init>", "(Ljava/lang/String;)V"⟩] : List Cond) := by decide +kernel
theorem lk_ot : ∀ w ∈ Cond.classLink RX7 235 "java/lang/IndexOutOfBoundsException" :: Cond.initialized "java/lang/IndexOutOfBoundsException" :: vx_atS RX7 239 "java/lang/IndexOutOfBoundsException" ["java/lang/RuntimeException", "java/lang/Exception"], vx_ot w = true := by decide +kernel

set_option maxHeartbeats 4000000 in
set_option maxRecDepth 100000 in
/-- look(g, n): nobody is there: it throws -/
theorem m_X7_look (l : Launch) (D : va_G) (cB cI cJ cZ : ClassId) (sz sa : Nat) (x : Nat → Nat) (g n : Int32) (hl9 : l.stackTraces = false) : vx_Met l yX7_look wsLkX ({ frames := 6, cells := 1, slots := 6, locals := 100 } : Room) (va_Pc [.ref (x 0), .int g, .int n] (fun U => U.heap.size = sz ∧ va_P D vwCl (freshX cB cI cJ cZ x) U.heap ∧ va_K D vwCl (aTy cB cI cJ cZ) U ∧ lkS sz sa U)) (va_Qi (fun (_ : Int32) (_ : Unit) => False) (fun _ _ => True) (fun q => sz ≤ q)) (vx_X (fun _ : Unit => True) (fun E _ _ => E = "java/lang/IndexOutOfBoundsException") (fun q => sz ≤ q)) 1 6 (fun q => sz ≤ q) := by
  refine vx_ofW (cc := cX7_look) (maxL := 3) (ret := (some .int)) (by decide) rfl ?_
  intro p e s m args below meth c s₁ B hml htb hv
  obtain ⟨rfl, hsz, hP, hK, hst, hcs, hd1, hd2, hd3, hU, hN⟩ := hv
  subst hsz
  have hx := B.exec
  have hb := B.bytes
  have hts := atoms_spec (ws := wsLkX) B.pre
  have hown : s.vm.findClass RX7 = some m.cls := findClass_of_methodNamed B.named
  have hlocks := B.notSynchronized
  have hP : va_P D vwCl [((x 0), .inr (7, [.ref (x 1), .ref (x 5), .ref (x 7), .ref (x 10), .ref (x 17), .ref (x 22), .ref (x 27), .int 0])), ((x 1), .inr (4, [.ref (x 2), .int 0, .int (-1), .int 0, .ref (x 4), .int 0, .int 0, .int 0, .int 0, .int 0, .int 0])), ((x 2), .inr (5, [.ref (x 3), .int 1, .int 0, .int 100, .int 7, .int 14, .int 3, .int 1, .int 8])), ((x 3), .inl (cI, 8, .inl cyc0)), ((x 4), .inl (cB, 300, .inl (fun _ => 0))), ((x 5), .inr (5, [.ref (x 6), .int 1, .int 0, .int 100, .int 7, .int 14, .int 3, .int 1, .int 8])), ((x 6), .inl (cI, 8, .inl cyc0)), ((x 7), .inr (3, [.ref (x 8), .ref (x 9), .int 0, .int 0])), ((x 8), .inl (cI, 8, .inl (fun _ => 0))), ((x 9), .inl (cI, 8, .inl (fun _ => 0))), ((x 10), .inr (1, [.ref (x 11), .ref (x 12), .ref (x 13), .ref (x 14), .ref (x 15), .ref (x 16), .int 0])), ((x 11), .inl (cI, 16, .inl (fun _ => 0))), ((x 12), .inl (cI, 16, .inl (fun _ => 0))), ((x 13), .inl (cI, 16, .inl (fun _ => 0))), ((x 14), .inl (cI, 16, .inl (fun _ => 0))), ((x 15), .inl (cI, 16, .inl (fun _ => 0))), ((x 16), .inl (cI, 16, .inl (fun _ => 0))), ((x 17), .inr (6, [.ref (x 18), .ref (x 19), .ref (x 20), .ref (x 21), .int 0])), ((x 18), .inl (cI, 40, .inl (fun _ => 0))), ((x 19), .inl (cI, 40, .inl (fun _ => 0))), ((x 20), .inl (cZ, 40, .inl (fun _ => 0))), ((x 21), .inl (cI, 40, .inl (fun _ => 0))), ((x 22), .inr (2, [.ref (x 23), .ref (x 24), .int 0, .ref (x 25), .ref (x 26), .int 0])), ((x 23), .inl (cI, 8, .inl (fun _ => 0))), ((x 24), .inl (cI, 8, .inl (fun _ => 0))), ((x 25), .inl (cI, 8, .inl (fun _ => 0))), ((x 26), .inl (cJ, 256, .inr (.inl (fun _ => 0)))), ((x 27), .inr (0, [.ref (x 28), .ref (x 29), .ref (x 30), .int 0, .int 0, .int 0, .ref (x 31), .ref (x 32), .ref (x 33)])), ((x 28), .inl (cI, 6, .inl (fun _ => 0))), ((x 29), .inl (cI, 6, .inl (fun _ => 0))), ((x 30), .inl (cI, 8, .inl (fun _ => 0))), ((x 31), .inl (cI, 8, .inl (fun _ => 0))), ((x 32), .inl (cI, 8, .inl (fun _ => 0))), ((x 33), .inl (cI, 64, .inl (fun _ => 0)))] s.heap := hP
  have w_1 : ∀ w ∈ wsX70, w ∈ wsLkX := by decide +kernel
  have w_2 := hts (Cond.fieldLink RX7 33 "BlueCoats" "children" "LBlueCoats$Children;") (by decide +kernel)
  have hl := lv_entry ([.ref (x 0), .int g, .int n]) (n := 3) (Nat.le_of_ble_eq_true rfl)
  rw [lg_entry_eq]
  generalize (lg_sl ([.ref (x 0), .int g, .int n]) ++ List.replicate (3 - (lg_sl ([.ref (x 0), .int g, .int n])).length) Slot.unset).toArray = ls at hl ⊢
  have hl : lv_has ls 3 [(0, .ref (x 0)), (1, .int g), (2, .int n)] := hl
  refine lv_aload_n hx hb dX7_look_0 rfl (lv_at hl 0 rfl) ?_
  refine va_get (D := D) (ci := 7) (v := .ref (x 10)) (C := RX7) (T := TX7) (N := 8) hx hb hts w_1 hown hK hP 0 rfl rfl 3 (by decide) w_2 (fun _ h9 => h9) rfl dX7_look_1 ?_
  refine lv_iload_n hx hb dX7_look_4 rfl (lv_at hl 1 rfl) ?_
  refine vp_callSi (va_Run.run (va_runV (As := [.int g]) (rest := []) ⟨hx, hb, hml, hown, hts⟩ (k_X1_has l D cB cI cJ cZ (x 10) (x 11) (x 12) (x 13) (x 14) (x 15) (x 16) g) (cwV 1 hts gLkh rfl rfl rfl (by decide +kernel) ⟨Nat.le_of_ble_eq_true rfl, Nat.le_of_ble_eq_true rfl⟩) (pre_VR (hP.sub (ws' := [((x 10), .inr (1, [.ref (x 11), .ref (x 12), .ref (x 13), .ref (x 14), .ref (x 15), .ref (x 16), .int 0]))]) [10] rfl) hK 0 rfl rfl rfl) rfl rfl hl.1 rfl (lv_room (Nat.le_of_ble_eq_true rfl)) dX7_look_5 ⟨Nat.le_of_ble_eq_true rfl, Nat.le_of_ble_eq_true rfl⟩)) (fun r_1 hw_r_1 => ?_)
  subst hw_r_1
  refine lv_if_ne (tgt := 21) hx hb dX7_look_8 (by decide) (fun h => absurd h (by decide)) (fun _ => ?_)
  exact vx_throwS (own := RX7) (cls := "java/lang/IndexOutOfBoundsException") (text := "no such child") (names := ["java/lang/RuntimeException", "java/lang/Exception"]) (A := fun q => s.heap.size ≤ q) hx hb hl9 hown (by decide) (by decide) (hts (Cond.classLink RX7 235 "java/lang/IndexOutOfBoundsException") (by decide +kernel)) (hts (Cond.initialized "java/lang/IndexOutOfBoundsException") (by decide +kernel)) hst (vx_hat (fun w h => hts w (List.mem_cons_of_mem _ (List.mem_append_right _ h))) lk_rest (vx_c (va_Nw.use rfl hcs) (vx_c (va_Nw.use rfl hd1) (vx_c (va_Nw.use rfl hd2) (vx_c (va_Nw.use rfl hd3) vx_n))))) lk_ot hU hN va_S.rf (by rw [hml]; exact hl.1) dX7_look_11 dX7_look_14 dX7_look_15 dX7_look_17 dX7_look_20 (fun x9 h9 => (htb x9 h9).elim) (Nat.lt_of_lt_of_le (by decide) (Nat.le_refl 6)) (Nat.le_of_ble_eq_true rfl) (Nat.le_of_ble_eq_true rfl) (Nat.le_of_ble_eq_true rfl) hlocks (fun t ha hz hk => ⟨(), trivial, rfl, hz, fun q hq _ => hk q hq⟩) (fun z h => nomatch h) (Nat.le_refl 1) (Nat.le_refl 6)
set_option maxHeartbeats 4000000 in
set_option maxRecDepth 100000 in
/-- the law's own look: 1, what was thrown is caught -/
theorem m_L_look (l : Launch) (D : va_G) (cB cI cJ cZ : ClassId) (sz sa : Nat) (x : Nat → Nat) (g n : Int32) (q9 : Nat) (hl9 : l.stackTraces = false) : Met l yL_look wsLkL ({ frames := 7, cells := 1, slots := 6, locals := 122 } : Room) (va_Pc [.ref (x 0), .int g, .int n, .ref q9] (fun U => U.heap.size = sz ∧ va_P D vwCl (freshX cB cI cJ cZ x) U.heap ∧ va_K D vwCl (aTy cB cI cJ cZ) U ∧ lkS sz sa U)) (va_Qi (fun (r : Int32) (_ : Unit) => r = 1) (cB_ D (aTy cB cI cJ cZ) (va_A (freshX cB cI cJ cZ x) sz) (fun _ => [])) (va_A (freshX cB cI cJ cZ x) sz)) 1 6 (va_A (freshX cB cI cJ cZ x) sz) := by
  refine va_MetW (cc := cL_look) (maxL := 5) (ret := (some .int)) (hh := [(0, 10, 13, 13), (0, 10, 17, 15)]) (by decide) rfl ?_
  intro p e s m args below meth c s₁ B hml hv
  obtain ⟨rfl, hsz, hP, hK, hlk⟩ := hv
  subst hsz
  have hx := B.exec
  have hb := B.bytes
  have hr := B.returns
  have hts := atoms_spec (ws := wsLkL) B.pre
  have hown : s.vm.findClass RL = some m.cls := findClass_of_methodNamed B.named
  have hlocks := B.notSynchronized
  have htab := vx_table (x := yL_look) B (hts _ List.mem_cons_self)
  generalize hAe : va_A (freshX cB cI cJ cZ x) s.heap.size = A
  have hA : ∀ q : Nat, s.heap.size ≤ q → A q := fun q h => by rw [← hAe]; exact Or.inr h
  have hS : va_S A s.heap s.heap [] := va_S.rf
  have hl := lv_entry ([.ref (x 0), .int g, .int n, .ref q9]) (n := 5) (Nat.le_of_ble_eq_true rfl)
  rw [lg_entry_eq]
  generalize (lg_sl ([.ref (x 0), .int g, .int n, .ref q9]) ++ List.replicate (5 - (lg_sl ([.ref (x 0), .int g, .int n, .ref q9])).length) Slot.unset).toArray = ls at hl ⊢
  have hl : lv_has ls 5 [(0, .ref (x 0)), (1, .int g), (2, .int n), (3, .ref q9)] := hl
  refine lv_aload_n hx hb dL_look_0 rfl (lv_at hl 3 rfl) ?_
  refine lv_iconst (v := 0) hx hb dL_look_1 (by decide) ?_
  refine lv_aload_n hx hb dL_look_2 rfl (lv_at hl 0 rfl) ?_
  refine lv_iload_n hx hb dL_look_3 rfl (lv_at hl 1 rfl) ?_
  refine lv_iload_n hx hb dL_look_4 rfl (lv_at hl 2 rfl) ?_
  refine vx_calli (vx_runV (As := [.int g, .int n]) (rest := [.int 0, .ref q9]) ⟨hx, hb, hml, hown, hts⟩ (m_X7_look l D cB cI cJ cZ s.heap.size sa x g n hl9) (cwV 2 hts gLk rfl rfl rfl (by decide +kernel) ⟨Nat.le_of_ble_eq_true rfl, Nat.le_of_ble_eq_true rfl⟩) ⟨fun a U g9 mk q => by obtain ⟨q0, q1, qP, qK, qL⟩ := q; exact ⟨q0, q1, qP, va_K.moved (u := U) (U := U.calling g9 mk a) (Vm.Alike.refl U.vm) qK, qL.calling⟩, va_recv hK hP (ci := 7) (q0 := 0) rfl rfl, fun U hU hW => ⟨rfl, by rw [hU], by rw [hU]; exact hP, va_K.moved hW.alike hK, lkS.later hlk rfl va_S.rf hU hW⟩⟩ rfl rfl hl.1 rfl (lv_room (Nat.le_of_ble_eq_true rfl)) dL_look_5 ⟨Nat.le_of_ble_eq_true rfl, Nat.le_of_ble_eq_true rfl⟩) hS (fun q _ h => hA q h) (fun q h => hA q h) (fun q _ h => hA q h) (fun E ce q8 u t H1 locs1 ht hvm hpx hBX hz hk hS1 hce hcv hcl => ?_) (fun r u t H1 locs1 ht hvm hp => hp.elim)
  have hBX : E = "java/lang/IndexOutOfBoundsException" := hBX
  subst hBX
  refine vx_catch hown [] ⟨0, 10, 13, 13⟩ [⟨0, 10, 17, 15⟩] (by rw [htab]; rfl) (fun z h => nomatch h) (by decide) (by decide) (hts (Cond.classLink RL 13 "java/lang/IndexOutOfBoundsException") (by decide +kernel)) (va_Nw.use rfl hlk.2.1) hce hcv hcl ?_
  refine W.eq (g2 := F0 m 13 ls [.ref q8]) rfl ?_
  refine lv_astore (lv' := [(4, .ref q8), (0, .ref (x 0)), (1, .int g), (2, .int n), (3, .ref q9)]) hx hb dL_look_13 hl (by decide) rfl (fun ls hl => ?_)
  refine lv_iconst (v := 1) hx hb dL_look_15 (by decide) ?_
  refine W.widen (k := 1) (n := 6) (Nat.le_refl _) (Nat.le_refl _) ?_
  exact W.iret (v := 1) hx hb hr (fun t ht hW => ⟨⟨_, (), rfl, rfl, fun k q h => by simp at h, va_K.moved hW.alike hK, ⟨fun i j p q h => by simp at h, fun k q h => by simp at h⟩⟩, hS1.F ht⟩) hS1.2.2 dL_look_16
