set_option maxHeartbeats 4000000 in
set_option maxRecDepth 100000 in
theorem m_X7_pay (l : Launch) (D : va_G) (cB cI cJ cZ : ClassId) (sz : Nat) (x : Nat → Nat) : Met l yX7_pay wsX7_pay ({ frames := 3, cells := 0, slots := 0, locals := 67 } : Room) (cPre D (aTy cB cI cJ cZ) (freshX cB cI cJ cZ x) sz [.ref (x 0)]) (va_Qi (fun (r : Int32) (u : Unit) => r = 0) (cB_ D (aTy cB cI cJ cZ) (va_A (freshX cB cI cJ cZ x) sz) (fun _ => [])) (va_A (freshX cB cI cJ cZ x) sz)) 0 0 (va_A (freshX cB cI cJ cZ x) sz) := by
  refine Met.ofW (cc := cX7_pay) (maxL := 1) (ret := (some .int)) (by decide) rfl ?_
  intro p e s m args below meth c s₁ B hml hv
  obtain ⟨rfl, hsz, hP, hK, hD0⟩ := hv
  have hx := B.exec
  have hb := B.bytes
  have hr := B.returns
  have hts := atoms_spec (ws := wsX7_pay) B.pre
  have hown : s.vm.findClass RX7 = some m.cls := findClass_of_methodNamed B.named
  have hlocks := B.notSynchronized
  subst hsz
  have hD := hD0.self (sz := s.heap.size)
  generalize hAe : va_A (freshX cB cI cJ cZ x) s.heap.size = A at hD ⊢
  have hA : ∀ q : Nat, s.heap.size ≤ q → A q := fun q h => by rw [← hAe]; exact Or.inr h
  have hS : va_S A s.heap s.heap [] := va_S.rf
  have hP : va_P D vwCl [((x 0), .inr (7, [.ref (x 1), .ref (x 5), .ref (x 7), .ref (x 10), .ref (x 17), .ref (x 22), .ref (x 27), .int 0])), ((x 1), .inr (4, [.ref (x 2), .int 0, .int (-1), .int 0, .ref (x 4), .int 0, .int 0, .int 0, .int 0, .int 0, .int 0])), ((x 2), .inr (5, [.ref (x 3), .int 1, .int 0, .int 100, .int 7, .int 14, .int 3, .int 1, .int 8])), ((x 3), .inl (cI, 8, .inl cyc0)), ((x 4), .inl (cB, 300, .inl (fun _ => 0))), ((x 5), .inr (5, [.ref (x 6), .int 1, .int 0, .int 100, .int 7, .int 14, .int 3, .int 1, .int 8])), ((x 6), .inl (cI, 8, .inl cyc0)), ((x 7), .inr (3, [.ref (x 8), .ref (x 9), .int 0, .int 0])), ((x 8), .inl (cI, 8, .inl (fun _ => 0))), ((x 9), .inl (cI, 8, .inl (fun _ => 0))), ((x 10), .inr (1, [.ref (x 11), .ref (x 12), .ref (x 13), .ref (x 14), .ref (x 15), .ref (x 16), .int 0])), ((x 11), .inl (cI, 16, .inl (fun _ => 0))), ((x 12), .inl (cI, 16, .inl (fun _ => 0))), ((x 13), .inl (cI, 16, .inl (fun _ => 0))), ((x 14), .inl (cI, 16, .inl (fun _ => 0))), ((x 15), .inl (cI, 16, .inl (fun _ => 0))), ((x 16), .inl (cI, 16, .inl (fun _ => 0))), ((x 17), .inr (6, [.ref (x 18), .ref (x 19), .ref (x 20), .ref (x 21), .int 0])), ((x 18), .inl (cI, 40, .inl (fun _ => 0))), ((x 19), .inl (cI, 40, .inl (fun _ => 0))), ((x 20), .inl (cZ, 40, .inl (fun _ => 0))), ((x 21), .inl (cI, 40, .inl (fun _ => 0))), ((x 22), .inr (2, [.ref (x 23), .ref (x 24), .int 0, .ref (x 25), .ref (x 26), .int 0])), ((x 23), .inl (cI, 8, .inl (fun _ => 0))), ((x 24), .inl (cI, 8, .inl (fun _ => 0))), ((x 25), .inl (cI, 8, .inl (fun _ => 0))), ((x 26), .inl (cJ, 256, .inr (.inl (fun _ => 0)))), ((x 27), .inr (0, [.ref (x 28), .ref (x 29), .ref (x 30), .int 0, .int 0, .int 0, .ref (x 31), .ref (x 32), .ref (x 33)])), ((x 28), .inl (cI, 6, .inl (fun _ => 0))), ((x 29), .inl (cI, 6, .inl (fun _ => 0))), ((x 30), .inl (cI, 8, .inl (fun _ => 0))), ((x 31), .inl (cI, 8, .inl (fun _ => 0))), ((x 32), .inl (cI, 8, .inl (fun _ => 0))), ((x 33), .inl (cI, 64, .inl (fun _ => 0)))] s.heap := hP
  have hD : va_D A [((x 0), .inr (7, [.ref (x 1), .ref (x 5), .ref (x 7), .ref (x 10), .ref (x 17), .ref (x 22), .ref (x 27), .int 0])), ((x 1), .inr (4, [.ref (x 2), .int 0, .int (-1), .int 0, .ref (x 4), .int 0, .int 0, .int 0, .int 0, .int 0, .int 0])), ((x 2), .inr (5, [.ref (x 3), .int 1, .int 0, .int 100, .int 7, .int 14, .int 3, .int 1, .int 8])), ((x 3), .inl (cI, 8, .inl cyc0)), ((x 4), .inl (cB, 300, .inl (fun _ => 0))), ((x 5), .inr (5, [.ref (x 6), .int 1, .int 0, .int 100, .int 7, .int 14, .int 3, .int 1, .int 8])), ((x 6), .inl (cI, 8, .inl cyc0)), ((x 7), .inr (3, [.ref (x 8), .ref (x 9), .int 0, .int 0])), ((x 8), .inl (cI, 8, .inl (fun _ => 0))), ((x 9), .inl (cI, 8, .inl (fun _ => 0))), ((x 10), .inr (1, [.ref (x 11), .ref (x 12), .ref (x 13), .ref (x 14), .ref (x 15), .ref (x 16), .int 0])), ((x 11), .inl (cI, 16, .inl (fun _ => 0))), ((x 12), .inl (cI, 16, .inl (fun _ => 0))), ((x 13), .inl (cI, 16, .inl (fun _ => 0))), ((x 14), .inl (cI, 16, .inl (fun _ => 0))), ((x 15), .inl (cI, 16, .inl (fun _ => 0))), ((x 16), .inl (cI, 16, .inl (fun _ => 0))), ((x 17), .inr (6, [.ref (x 18), .ref (x 19), .ref (x 20), .ref (x 21), .int 0])), ((x 18), .inl (cI, 40, .inl (fun _ => 0))), ((x 19), .inl (cI, 40, .inl (fun _ => 0))), ((x 20), .inl (cZ, 40, .inl (fun _ => 0))), ((x 21), .inl (cI, 40, .inl (fun _ => 0))), ((x 22), .inr (2, [.ref (x 23), .ref (x 24), .int 0, .ref (x 25), .ref (x 26), .int 0])), ((x 23), .inl (cI, 8, .inl (fun _ => 0))), ((x 24), .inl (cI, 8, .inl (fun _ => 0))), ((x 25), .inl (cI, 8, .inl (fun _ => 0))), ((x 26), .inl (cJ, 256, .inr (.inl (fun _ => 0)))), ((x 27), .inr (0, [.ref (x 28), .ref (x 29), .ref (x 30), .int 0, .int 0, .int 0, .ref (x 31), .ref (x 32), .ref (x 33)])), ((x 28), .inl (cI, 6, .inl (fun _ => 0))), ((x 29), .inl (cI, 6, .inl (fun _ => 0))), ((x 30), .inl (cI, 8, .inl (fun _ => 0))), ((x 31), .inl (cI, 8, .inl (fun _ => 0))), ((x 32), .inl (cI, 8, .inl (fun _ => 0))), ((x 33), .inl (cI, 64, .inl (fun _ => 0)))] := hD
  have w_1 : ∀ w ∈ wsX70, w ∈ wsX7_pay := by decide +kernel
  have w_2 := hts (Cond.fieldLink RX7 54 "BlueCoats" "chest" "LBlueCoats$Chest;") (by decide +kernel)
  have hl := lv_entry ([.ref (x 0)]) (n := 1) (Nat.le_of_ble_eq_true rfl)
  rw [lg_entry_eq]
  generalize (lg_sl ([.ref (x 0)]) ++ List.replicate (1 - (lg_sl ([.ref (x 0)])).length) Slot.unset).toArray = ls at hl ⊢
  have hl : lv_has ls 1 [(0, .ref (x 0))] := hl
  refine lv_aload_n hx hb dX7_pay_0 rfl (lv_at hl 0 rfl) ?_
  refine va_get (D := D) (ci := 7) (v := .ref (x 27)) (C := RX7) (T := TX7) (N := 8) hx hb hts w_1 hown hK hP 0 rfl rfl 6 (by decide) w_2 (fun _ h9 => h9) rfl dX7_pay_1 ?_
  refine cl_v (wc := [((x 27), .inr (0, [.ref (x 28), .ref (x 29), .ref (x 30), .int 0, .int 0, .int 0, .ref (x 31), .ref (x 32), .ref (x 33)])), ((x 28), .inl (cI, 6, .inl (fun _ => 0))), ((x 29), .inl (cI, 6, .inl (fun _ => 0))), ((x 30), .inl (cI, 8, .inl (fun _ => 0))), ((x 31), .inl (cI, 8, .inl (fun _ => 0))), ((x 32), .inl (cI, 8, .inl (fun _ => 0))), ((x 33), .inl (cI, 64, .inl (fun _ => 0)))]) (wr := [((x 0), .inr (7, [.ref (x 1), .ref (x 5), .ref (x 7), .ref (x 10), .ref (x 17), .ref (x 22), .ref (x 27), .int 0])), ((x 1), .inr (4, [.ref (x 2), .int 0, .int (-1), .int 0, .ref (x 4), .int 0, .int 0, .int 0, .int 0, .int 0, .int 0])), ((x 2), .inr (5, [.ref (x 3), .int 1, .int 0, .int 100, .int 7, .int 14, .int 3, .int 1, .int 8])), ((x 3), .inl (cI, 8, .inl cyc0)), ((x 4), .inl (cB, 300, .inl (fun _ => 0))), ((x 5), .inr (5, [.ref (x 6), .int 1, .int 0, .int 100, .int 7, .int 14, .int 3, .int 1, .int 8])), ((x 6), .inl (cI, 8, .inl cyc0)), ((x 7), .inr (3, [.ref (x 8), .ref (x 9), .int 0, .int 0])), ((x 8), .inl (cI, 8, .inl (fun _ => 0))), ((x 9), .inl (cI, 8, .inl (fun _ => 0))), ((x 10), .inr (1, [.ref (x 11), .ref (x 12), .ref (x 13), .ref (x 14), .ref (x 15), .ref (x 16), .int 0])), ((x 11), .inl (cI, 16, .inl (fun _ => 0))), ((x 12), .inl (cI, 16, .inl (fun _ => 0))), ((x 13), .inl (cI, 16, .inl (fun _ => 0))), ((x 14), .inl (cI, 16, .inl (fun _ => 0))), ((x 15), .inl (cI, 16, .inl (fun _ => 0))), ((x 16), .inl (cI, 16, .inl (fun _ => 0))), ((x 17), .inr (6, [.ref (x 18), .ref (x 19), .ref (x 20), .ref (x 21), .int 0])), ((x 18), .inl (cI, 40, .inl (fun _ => 0))), ((x 19), .inl (cI, 40, .inl (fun _ => 0))), ((x 20), .inl (cZ, 40, .inl (fun _ => 0))), ((x 21), .inl (cI, 40, .inl (fun _ => 0))), ((x 22), .inr (2, [.ref (x 23), .ref (x 24), .int 0, .ref (x 25), .ref (x 26), .int 0])), ((x 23), .inl (cI, 8, .inl (fun _ => 0))), ((x 24), .inl (cI, 8, .inl (fun _ => 0))), ((x 25), .inl (cI, 8, .inl (fun _ => 0))), ((x 26), .inl (cJ, 256, .inr (.inl (fun _ => 0))))]) (va_runV (As := []) (rest := []) ⟨hx, hb, hml, hown, hts⟩ (k_X0_plan l D cB cI cJ cZ s.heap.size (x 27) (x 28) (x 29) (x 30) (x 31) (x 32) (x 33)) (cwV 0 hts gX7_pay_X0_plan rfl rfl rfl (by decide +kernel) ⟨Nat.le_of_ble_eq_true rfl, Nat.le_of_ble_eq_true rfl⟩) (pre_V (hP.sub (ws' := [((x 27), .inr (0, [.ref (x 28), .ref (x 29), .ref (x 30), .int 0, .int 0, .int 0, .ref (x 31), .ref (x 32), .ref (x 33)])), ((x 28), .inl (cI, 6, .inl (fun _ => 0))), ((x 29), .inl (cI, 6, .inl (fun _ => 0))), ((x 30), .inl (cI, 8, .inl (fun _ => 0))), ((x 31), .inl (cI, 8, .inl (fun _ => 0))), ((x 32), .inl (cI, 8, .inl (fun _ => 0))), ((x 33), .inl (cI, 64, .inl (fun _ => 0)))]) [27, 28, 29, 30, 31, 32, 33] rfl) hK (hD.sub (ws' := [((x 27), .inr (0, [.ref (x 28), .ref (x 29), .ref (x 30), .int 0, .int 0, .int 0, .ref (x 31), .ref (x 32), .ref (x 33)])), ((x 28), .inl (cI, 6, .inl (fun _ => 0))), ((x 29), .inl (cI, 6, .inl (fun _ => 0))), ((x 30), .inl (cI, 8, .inl (fun _ => 0))), ((x 31), .inl (cI, 8, .inl (fun _ => 0))), ((x 32), .inl (cI, 8, .inl (fun _ => 0))), ((x 33), .inl (cI, 64, .inl (fun _ => 0)))]) [27, 28, 29, 30, 31, 32, 33] (by decide) rfl) 0 rfl rfl rfl) rfl rfl hl.1 rfl (lv_room (Nat.le_of_ble_eq_true rfl)) dX7_pay_4 ⟨Nat.le_of_ble_eq_true rfl, Nat.le_of_ble_eq_true rfl⟩) hP hD hS hA [27, 28, 29, 30, 31, 32, 33] [0, 1, 2, 3, 4, 5, 6, 7, 8, 9, 10, 11, 12, 13, 14, 15, 16, 17, 18, 19, 20, 21, 22, 23, 24, 25, 26] rfl rfl (by decide) (by decide) 0 0 rfl rfl (fun u_2 H locs hw_u_2 hP hD hS => ?_)
  have hP : va_P D vwCl [((x 0), .inr (7, [.ref (x 1), .ref (x 5), .ref (x 7), .ref (x 10), .ref (x 17), .ref (x 22), .ref (x 27), .int 0])), ((x 1), .inr (4, [.ref (x 2), .int 0, .int (-1), .int 0, .ref (x 4), .int 0, .int 0, .int 0, .int 0, .int 0, .int 0])), ((x 2), .inr (5, [.ref (x 3), .int 1, .int 0, .int 100, .int 7, .int 14, .int 3, .int 1, .int 8])), ((x 3), .inl (cI, 8, .inl cyc0)), ((x 4), .inl (cB, 300, .inl (fun _ => 0))), ((x 5), .inr (5, [.ref (x 6), .int 1, .int 0, .int 100, .int 7, .int 14, .int 3, .int 1, .int 8])), ((x 6), .inl (cI, 8, .inl cyc0)), ((x 7), .inr (3, [.ref (x 8), .ref (x 9), .int 0, .int 0])), ((x 8), .inl (cI, 8, .inl (fun _ => 0))), ((x 9), .inl (cI, 8, .inl (fun _ => 0))), ((x 10), .inr (1, [.ref (x 11), .ref (x 12), .ref (x 13), .ref (x 14), .ref (x 15), .ref (x 16), .int 0])), ((x 11), .inl (cI, 16, .inl (fun _ => 0))), ((x 12), .inl (cI, 16, .inl (fun _ => 0))), ((x 13), .inl (cI, 16, .inl (fun _ => 0))), ((x 14), .inl (cI, 16, .inl (fun _ => 0))), ((x 15), .inl (cI, 16, .inl (fun _ => 0))), ((x 16), .inl (cI, 16, .inl (fun _ => 0))), ((x 17), .inr (6, [.ref (x 18), .ref (x 19), .ref (x 20), .ref (x 21), .int 0])), ((x 18), .inl (cI, 40, .inl (fun _ => 0))), ((x 19), .inl (cI, 40, .inl (fun _ => 0))), ((x 20), .inl (cZ, 40, .inl (fun _ => 0))), ((x 21), .inl (cI, 40, .inl (fun _ => 0))), ((x 22), .inr (2, [.ref (x 23), .ref (x 24), .int 0, .ref (x 25), .ref (x 26), .int 0])), ((x 23), .inl (cI, 8, .inl (fun _ => 0))), ((x 24), .inl (cI, 8, .inl (fun _ => 0))), ((x 25), .inl (cI, 8, .inl (fun _ => 0))), ((x 26), .inl (cJ, 256, .inr (.inl (fun _ => 0)))), ((x 27), .inr (0, [.ref (x 28), .ref (x 29), .ref (x 30), .int 0, .int 0, .int 0, .ref (x 31), .ref (x 32), .ref (x 33)])), ((x 28), .inl (cI, 6, .inl (fun _ => 0))), ((x 29), .inl (cI, 6, .inl (fun _ => 0))), ((x 30), .inl (cI, 8, .inl (fun _ => 0))), ((x 31), .inl (cI, 8, .inl (fun _ => 0))), ((x 32), .inl (cI, 8, .inl (fun _ => 0))), ((x 33), .inl (cI, 64, .inl (fun _ => 0)))] H := hP
  have hD : va_D A [((x 0), .inr (7, [.ref (x 1), .ref (x 5), .ref (x 7), .ref (x 10), .ref (x 17), .ref (x 22), .ref (x 27), .int 0])), ((x 1), .inr (4, [.ref (x 2), .int 0, .int (-1), .int 0, .ref (x 4), .int 0, .int 0, .int 0, .int 0, .int 0, .int 0])), ((x 2), .inr (5, [.ref (x 3), .int 1, .int 0, .int 100, .int 7, .int 14, .int 3, .int 1, .int 8])), ((x 3), .inl (cI, 8, .inl cyc0)), ((x 4), .inl (cB, 300, .inl (fun _ => 0))), ((x 5), .inr (5, [.ref (x 6), .int 1, .int 0, .int 100, .int 7, .int 14, .int 3, .int 1, .int 8])), ((x 6), .inl (cI, 8, .inl cyc0)), ((x 7), .inr (3, [.ref (x 8), .ref (x 9), .int 0, .int 0])), ((x 8), .inl (cI, 8, .inl (fun _ => 0))), ((x 9), .inl (cI, 8, .inl (fun _ => 0))), ((x 10), .inr (1, [.ref (x 11), .ref (x 12), .ref (x 13), .ref (x 14), .ref (x 15), .ref (x 16), .int 0])), ((x 11), .inl (cI, 16, .inl (fun _ => 0))), ((x 12), .inl (cI, 16, .inl (fun _ => 0))), ((x 13), .inl (cI, 16, .inl (fun _ => 0))), ((x 14), .inl (cI, 16, .inl (fun _ => 0))), ((x 15), .inl (cI, 16, .inl (fun _ => 0))), ((x 16), .inl (cI, 16, .inl (fun _ => 0))), ((x 17), .inr (6, [.ref (x 18), .ref (x 19), .ref (x 20), .ref (x 21), .int 0])), ((x 18), .inl (cI, 40, .inl (fun _ => 0))), ((x 19), .inl (cI, 40, .inl (fun _ => 0))), ((x 20), .inl (cZ, 40, .inl (fun _ => 0))), ((x 21), .inl (cI, 40, .inl (fun _ => 0))), ((x 22), .inr (2, [.ref (x 23), .ref (x 24), .int 0, .ref (x 25), .ref (x 26), .int 0])), ((x 23), .inl (cI, 8, .inl (fun _ => 0))), ((x 24), .inl (cI, 8, .inl (fun _ => 0))), ((x 25), .inl (cI, 8, .inl (fun _ => 0))), ((x 26), .inl (cJ, 256, .inr (.inl (fun _ => 0)))), ((x 27), .inr (0, [.ref (x 28), .ref (x 29), .ref (x 30), .int 0, .int 0, .int 0, .ref (x 31), .ref (x 32), .ref (x 33)])), ((x 28), .inl (cI, 6, .inl (fun _ => 0))), ((x 29), .inl (cI, 6, .inl (fun _ => 0))), ((x 30), .inl (cI, 8, .inl (fun _ => 0))), ((x 31), .inl (cI, 8, .inl (fun _ => 0))), ((x 32), .inl (cI, 8, .inl (fun _ => 0))), ((x 33), .inl (cI, 64, .inl (fun _ => 0)))] := hD
  refine lv_aload_n hx hb dX7_pay_7 rfl (lv_at hl 0 rfl) ?_
  refine va_get (D := D) (ci := 7) (v := .ref (x 27)) (C := RX7) (T := TX7) (N := 8) hx hb hts w_1 hown hK hP 0 rfl rfl 6 (by decide) w_2 (fun _ h9 => h9) rfl dX7_pay_8 ?_
  refine cl_i (wc := [((x 27), .inr (0, [.ref (x 28), .ref (x 29), .ref (x 30), .int 0, .int 0, .int 0, .ref (x 31), .ref (x 32), .ref (x 33)])), ((x 28), .inl (cI, 6, .inl (fun _ => 0))), ((x 29), .inl (cI, 6, .inl (fun _ => 0))), ((x 30), .inl (cI, 8, .inl (fun _ => 0))), ((x 31), .inl (cI, 8, .inl (fun _ => 0))), ((x 32), .inl (cI, 8, .inl (fun _ => 0))), ((x 33), .inl (cI, 64, .inl (fun _ => 0)))]) (wr := []) (va_runV (As := []) (rest := []) ⟨hx, hb, hml, hown, hts⟩ (k_X0_payP l D cB cI cJ cZ H.size (x 27) (x 28) (x 29) (x 30) (x 31) (x 32) (x 33)) (cwV 0 hts gX7_pay_X0_payPlanned rfl rfl rfl (by decide +kernel) ⟨Nat.le_of_ble_eq_true rfl, Nat.le_of_ble_eq_true rfl⟩) (pre_V (hP.sub (ws' := [((x 27), .inr (0, [.ref (x 28), .ref (x 29), .ref (x 30), .int 0, .int 0, .int 0, .ref (x 31), .ref (x 32), .ref (x 33)])), ((x 28), .inl (cI, 6, .inl (fun _ => 0))), ((x 29), .inl (cI, 6, .inl (fun _ => 0))), ((x 30), .inl (cI, 8, .inl (fun _ => 0))), ((x 31), .inl (cI, 8, .inl (fun _ => 0))), ((x 32), .inl (cI, 8, .inl (fun _ => 0))), ((x 33), .inl (cI, 64, .inl (fun _ => 0)))]) [27, 28, 29, 30, 31, 32, 33] rfl) hK (hD.sub (ws' := [((x 27), .inr (0, [.ref (x 28), .ref (x 29), .ref (x 30), .int 0, .int 0, .int 0, .ref (x 31), .ref (x 32), .ref (x 33)])), ((x 28), .inl (cI, 6, .inl (fun _ => 0))), ((x 29), .inl (cI, 6, .inl (fun _ => 0))), ((x 30), .inl (cI, 8, .inl (fun _ => 0))), ((x 31), .inl (cI, 8, .inl (fun _ => 0))), ((x 32), .inl (cI, 8, .inl (fun _ => 0))), ((x 33), .inl (cI, 64, .inl (fun _ => 0)))]) [27, 28, 29, 30, 31, 32, 33] (by decide) rfl) 0 rfl rfl rfl) rfl rfl hl.1 rfl (lv_room (Nat.le_of_ble_eq_true rfl)) dX7_pay_11 ⟨Nat.le_of_ble_eq_true rfl, Nat.le_of_ble_eq_true rfl⟩) hP hD hS hA [27, 28, 29, 30, 31, 32, 33] [] rfl rfl (by decide) (by decide) 0 0 rfl rfl (fun r_3 u_4 H locs hw_u_4 hP hD hS => ?_)
  have hP : va_P D vwCl [] H := hP
  have hD : va_D A [] := hD
  obtain ⟨rfl⟩ : r_3 = 0 := hw_u_4
  have hP9 := hP.sub (ws' := []) [] rfl
  have hD9 := hD.sub (ws' := []) [] (by decide) rfl
  exact W.iret (v := 0) hx hb hr (fun t ht hW => ⟨⟨_, (), rfl, rfl, by rw [ht]; exact hP9, va_K.moved hW.alike hK, hD9⟩, hS.F ht⟩) hS.2.2 dX7_pay_14

set_option maxHeartbeats 4000000 in
set_option maxRecDepth 100000 in
theorem m_X7_owed (l : Launch) (D : va_G) (cB cI cJ cZ : ClassId) (sz : Nat) (x : Nat → Nat) (q k : Int32) : Met l yX7_owed wsX7_owed ({ frames := 3, cells := 0, slots := 0, locals := 67 } : Room) (cPre D (aTy cB cI cJ cZ) (freshX cB cI cJ cZ x) sz [.ref (x 0), .int q, .int k]) (va_Qi (fun (r : Int32) (u : Unit) => r = sOwed q k) (cB_ D (aTy cB cI cJ cZ) (va_A (freshX cB cI cJ cZ x) sz) (fun _ => [])) (va_A (freshX cB cI cJ cZ x) sz)) 0 0 (va_A (freshX cB cI cJ cZ x) sz) := by
  refine Met.ofW (cc := cX7_owed) (maxL := 3) (ret := (some .int)) (by decide) rfl ?_
  intro p e s m args below meth c s₁ B hml hv
  obtain ⟨rfl, hsz, hP, hK, hD0⟩ := hv
  have hx := B.exec
  have hb := B.bytes
  have hr := B.returns
  have hts := atoms_spec (ws := wsX7_owed) B.pre
  have hown : s.vm.findClass RX7 = some m.cls := findClass_of_methodNamed B.named
  have hlocks := B.notSynchronized
  subst hsz
  have hD := hD0.self (sz := s.heap.size)
  generalize hAe : va_A (freshX cB cI cJ cZ x) s.heap.size = A at hD ⊢
  have hA : ∀ q : Nat, s.heap.size ≤ q → A q := fun q h => by rw [← hAe]; exact Or.inr h
  have hS : va_S A s.heap s.heap [] := va_S.rf
  have hP : va_P D vwCl [((x 0), .inr (7, [.ref (x 1), .ref (x 5), .ref (x 7), .ref (x 10), .ref (x 17), .ref (x 22), .ref (x 27), .int 0])), ((x 1), .inr (4, [.ref (x 2), .int 0, .int (-1), .int 0, .ref (x 4), .int 0, .int 0, .int 0, .int 0, .int 0, .int 0])), ((x 2), .inr (5, [.ref (x 3), .int 1, .int 0, .int 100, .int 7, .int 14, .int 3, .int 1, .int 8])), ((x 3), .inl (cI, 8, .inl cyc0)), ((x 4), .inl (cB, 300, .inl (fun _ => 0))), ((x 5), .inr (5, [.ref (x 6), .int 1, .int 0, .int 100, .int 7, .int 14, .int 3, .int 1, .int 8])), ((x 6), .inl (cI, 8, .inl cyc0)), ((x 7), .inr (3, [.ref (x 8), .ref (x 9), .int 0, .int 0])), ((x 8), .inl (cI, 8, .inl (fun _ => 0))), ((x 9), .inl (cI, 8, .inl (fun _ => 0))), ((x 10), .inr (1, [.ref (x 11), .ref (x 12), .ref (x 13), .ref (x 14), .ref (x 15), .ref (x 16), .int 0])), ((x 11), .inl (cI, 16, .inl (fun _ => 0))), ((x 12), .inl (cI, 16, .inl (fun _ => 0))), ((x 13), .inl (cI, 16, .inl (fun _ => 0))), ((x 14), .inl (cI, 16, .inl (fun _ => 0))), ((x 15), .inl (cI, 16, .inl (fun _ => 0))), ((x 16), .inl (cI, 16, .inl (fun _ => 0))), ((x 17), .inr (6, [.ref (x 18), .ref (x 19), .ref (x 20), .ref (x 21), .int 0])), ((x 18), .inl (cI, 40, .inl (fun _ => 0))), ((x 19), .inl (cI, 40, .inl (fun _ => 0))), ((x 20), .inl (cZ, 40, .inl (fun _ => 0))), ((x 21), .inl (cI, 40, .inl (fun _ => 0))), ((x 22), .inr (2, [.ref (x 23), .ref (x 24), .int 0, .ref (x 25), .ref (x 26), .int 0])), ((x 23), .inl (cI, 8, .inl (fun _ => 0))), ((x 24), .inl (cI, 8, .inl (fun _ => 0))), ((x 25), .inl (cI, 8, .inl (fun _ => 0))), ((x 26), .inl (cJ, 256, .inr (.inl (fun _ => 0)))), ((x 27), .inr (0, [.ref (x 28), .ref (x 29), .ref (x 30), .int 0, .int 0, .int 0, .ref (x 31), .ref (x 32), .ref (x 33)])), ((x 28), .inl (cI, 6, .inl (fun _ => 0))), ((x 29), .inl (cI, 6, .inl (fun _ => 0))), ((x 30), .inl (cI, 8, .inl (fun _ => 0))), ((x 31), .inl (cI, 8, .inl (fun _ => 0))), ((x 32), .inl (cI, 8, .inl (fun _ => 0))), ((x 33), .inl (cI, 64, .inl (fun _ => 0)))] s.heap := hP
  have hD : va_D A [((x 0), .inr (7, [.ref (x 1), .ref (x 5), .ref (x 7), .ref (x 10), .ref (x 17), .ref (x 22), .ref (x 27), .int 0])), ((x 1), .inr (4, [.ref (x 2), .int 0, .int (-1), .int 0, .ref (x 4), .int 0, .int 0, .int 0, .int 0, .int 0, .int 0])), ((x 2), .inr (5, [.ref (x 3), .int 1, .int 0, .int 100, .int 7, .int 14, .int 3, .int 1, .int 8])), ((x 3), .inl (cI, 8, .inl cyc0)), ((x 4), .inl (cB, 300, .inl (fun _ => 0))), ((x 5), .inr (5, [.ref (x 6), .int 1, .int 0, .int 100, .int 7, .int 14, .int 3, .int 1, .int 8])), ((x 6), .inl (cI, 8, .inl cyc0)), ((x 7), .inr (3, [.ref (x 8), .ref (x 9), .int 0, .int 0])), ((x 8), .inl (cI, 8, .inl (fun _ => 0))), ((x 9), .inl (cI, 8, .inl (fun _ => 0))), ((x 10), .inr (1, [.ref (x 11), .ref (x 12), .ref (x 13), .ref (x 14), .ref (x 15), .ref (x 16), .int 0])), ((x 11), .inl (cI, 16, .inl (fun _ => 0))), ((x 12), .inl (cI, 16, .inl (fun _ => 0))), ((x 13), .inl (cI, 16, .inl (fun _ => 0))), ((x 14), .inl (cI, 16, .inl (fun _ => 0))), ((x 15), .inl (cI, 16, .inl (fun _ => 0))), ((x 16), .inl (cI, 16, .inl (fun _ => 0))), ((x 17), .inr (6, [.ref (x 18), .ref (x 19), .ref (x 20), .ref (x 21), .int 0])), ((x 18), .inl (cI, 40, .inl (fun _ => 0))), ((x 19), .inl (cI, 40, .inl (fun _ => 0))), ((x 20), .inl (cZ, 40, .inl (fun _ => 0))), ((x 21), .inl (cI, 40, .inl (fun _ => 0))), ((x 22), .inr (2, [.ref (x 23), .ref (x 24), .int 0, .ref (x 25), .ref (x 26), .int 0])), ((x 23), .inl (cI, 8, .inl (fun _ => 0))), ((x 24), .inl (cI, 8, .inl (fun _ => 0))), ((x 25), .inl (cI, 8, .inl (fun _ => 0))), ((x 26), .inl (cJ, 256, .inr (.inl (fun _ => 0)))), ((x 27), .inr (0, [.ref (x 28), .ref (x 29), .ref (x 30), .int 0, .int 0, .int 0, .ref (x 31), .ref (x 32), .ref (x 33)])), ((x 28), .inl (cI, 6, .inl (fun _ => 0))), ((x 29), .inl (cI, 6, .inl (fun _ => 0))), ((x 30), .inl (cI, 8, .inl (fun _ => 0))), ((x 31), .inl (cI, 8, .inl (fun _ => 0))), ((x 32), .inl (cI, 8, .inl (fun _ => 0))), ((x 33), .inl (cI, 64, .inl (fun _ => 0)))] := hD
  have w_1 : ∀ w ∈ wsX70, w ∈ wsX7_owed := by decide +kernel
  have w_2 := hts (Cond.fieldLink RX7 54 "BlueCoats" "chest" "LBlueCoats$Chest;") (by decide +kernel)
  have w_3 : ∀ w ∈ wsX00, w ∈ wsX7_owed := by decide +kernel
  have w_4 := hts (Cond.fieldLink RX7 219 "BlueCoats$Chest" "toEnd" "[I") (by decide +kernel)
  have w_5 := hts (Cond.fieldLink RX7 222 "BlueCoats$Chest" "number" "I") (by decide +kernel)
  have w_6 := hts (Cond.fieldLink RX7 223 "BlueCoats$Chest" "fromLegacy" "[I") (by decide +kernel)
  have w_7 := hts (Cond.fieldLink RX7 226 "BlueCoats$Chest" "shortfall" "I") (by decide +kernel)
  have w_8 := hts (Cond.fieldLink RX7 229 "BlueCoats$Chest" "proof" "I") (by decide +kernel)
  have hl := lv_entry ([.ref (x 0), .int q, .int k]) (n := 3) (Nat.le_of_ble_eq_true rfl)
  rw [lg_entry_eq]
  generalize (lg_sl ([.ref (x 0), .int q, .int k]) ++ List.replicate (3 - (lg_sl ([.ref (x 0), .int q, .int k])).length) Slot.unset).toArray = ls at hl ⊢
  have hl : lv_has ls 3 [(0, .ref (x 0)), (1, .int q), (2, .int k)] := hl
  refine lv_aload_n hx hb dX7_owed_0 rfl (lv_at hl 0 rfl) ?_
  refine va_get (D := D) (ci := 7) (v := .ref (x 27)) (C := RX7) (T := TX7) (N := 8) hx hb hts w_1 hown hK hP 0 rfl rfl 6 (by decide) w_2 (fun _ h9 => h9) rfl dX7_owed_1 ?_
  refine cl_v (wc := [((x 27), .inr (0, [.ref (x 28), .ref (x 29), .ref (x 30), .int 0, .int 0, .int 0, .ref (x 31), .ref (x 32), .ref (x 33)])), ((x 28), .inl (cI, 6, .inl (fun _ => 0))), ((x 29), .inl (cI, 6, .inl (fun _ => 0))), ((x 30), .inl (cI, 8, .inl (fun _ => 0))), ((x 31), .inl (cI, 8, .inl (fun _ => 0))), ((x 32), .inl (cI, 8, .inl (fun _ => 0))), ((x 33), .inl (cI, 64, .inl (fun _ => 0)))]) (wr := [((x 0), .inr (7, [.ref (x 1), .ref (x 5), .ref (x 7), .ref (x 10), .ref (x 17), .ref (x 22), .ref (x 27), .int 0])), ((x 1), .inr (4, [.ref (x 2), .int 0, .int (-1), .int 0, .ref (x 4), .int 0, .int 0, .int 0, .int 0, .int 0, .int 0])), ((x 2), .inr (5, [.ref (x 3), .int 1, .int 0, .int 100, .int 7, .int 14, .int 3, .int 1, .int 8])), ((x 3), .inl (cI, 8, .inl cyc0)), ((x 4), .inl (cB, 300, .inl (fun _ => 0))), ((x 5), .inr (5, [.ref (x 6), .int 1, .int 0, .int 100, .int 7, .int 14, .int 3, .int 1, .int 8])), ((x 6), .inl (cI, 8, .inl cyc0)), ((x 7), .inr (3, [.ref (x 8), .ref (x 9), .int 0, .int 0])), ((x 8), .inl (cI, 8, .inl (fun _ => 0))), ((x 9), .inl (cI, 8, .inl (fun _ => 0))), ((x 10), .inr (1, [.ref (x 11), .ref (x 12), .ref (x 13), .ref (x 14), .ref (x 15), .ref (x 16), .int 0])), ((x 11), .inl (cI, 16, .inl (fun _ => 0))), ((x 12), .inl (cI, 16, .inl (fun _ => 0))), ((x 13), .inl (cI, 16, .inl (fun _ => 0))), ((x 14), .inl (cI, 16, .inl (fun _ => 0))), ((x 15), .inl (cI, 16, .inl (fun _ => 0))), ((x 16), .inl (cI, 16, .inl (fun _ => 0))), ((x 17), .inr (6, [.ref (x 18), .ref (x 19), .ref (x 20), .ref (x 21), .int 0])), ((x 18), .inl (cI, 40, .inl (fun _ => 0))), ((x 19), .inl (cI, 40, .inl (fun _ => 0))), ((x 20), .inl (cZ, 40, .inl (fun _ => 0))), ((x 21), .inl (cI, 40, .inl (fun _ => 0))), ((x 22), .inr (2, [.ref (x 23), .ref (x 24), .int 0, .ref (x 25), .ref (x 26), .int 0])), ((x 23), .inl (cI, 8, .inl (fun _ => 0))), ((x 24), .inl (cI, 8, .inl (fun _ => 0))), ((x 25), .inl (cI, 8, .inl (fun _ => 0))), ((x 26), .inl (cJ, 256, .inr (.inl (fun _ => 0))))]) (va_runV (As := []) (rest := []) ⟨hx, hb, hml, hown, hts⟩ (k_X0_plan l D cB cI cJ cZ s.heap.size (x 27) (x 28) (x 29) (x 30) (x 31) (x 32) (x 33)) (cwV 0 hts gX7_owed_X0_plan rfl rfl rfl (by decide +kernel) ⟨Nat.le_of_ble_eq_true rfl, Nat.le_of_ble_eq_true rfl⟩) (pre_V (hP.sub (ws' := [((x 27), .inr (0, [.ref (x 28), .ref (x 29), .ref (x 30), .int 0, .int 0, .int 0, .ref (x 31), .ref (x 32), .ref (x 33)])), ((x 28), .inl (cI, 6, .inl (fun _ => 0))), ((x 29), .inl (cI, 6, .inl (fun _ => 0))), ((x 30), .inl (cI, 8, .inl (fun _ => 0))), ((x 31), .inl (cI, 8, .inl (fun _ => 0))), ((x 32), .inl (cI, 8, .inl (fun _ => 0))), ((x 33), .inl (cI, 64, .inl (fun _ => 0)))]) [27, 28, 29, 30, 31, 32, 33] rfl) hK (hD.sub (ws' := [((x 27), .inr (0, [.ref (x 28), .ref (x 29), .ref (x 30), .int 0, .int 0, .int 0, .ref (x 31), .ref (x 32), .ref (x 33)])), ((x 28), .inl (cI, 6, .inl (fun _ => 0))), ((x 29), .inl (cI, 6, .inl (fun _ => 0))), ((x 30), .inl (cI, 8, .inl (fun _ => 0))), ((x 31), .inl (cI, 8, .inl (fun _ => 0))), ((x 32), .inl (cI, 8, .inl (fun _ => 0))), ((x 33), .inl (cI, 64, .inl (fun _ => 0)))]) [27, 28, 29, 30, 31, 32, 33] (by decide) rfl) 0 rfl rfl rfl) rfl rfl hl.1 rfl (lv_room (Nat.le_of_ble_eq_true rfl)) dX7_owed_4 ⟨Nat.le_of_ble_eq_true rfl, Nat.le_of_ble_eq_true rfl⟩) hP hD hS hA [27, 28, 29, 30, 31, 32, 33] [0, 1, 2, 3, 4, 5, 6, 7, 8, 9, 10, 11, 12, 13, 14, 15, 16, 17, 18, 19, 20, 21, 22, 23, 24, 25, 26] rfl rfl (by decide) (by decide) 0 0 rfl rfl (fun u_2 H locs hw_u_2 hP hD hS => ?_)
  have hP : va_P D vwCl [((x 0), .inr (7, [.ref (x 1), .ref (x 5), .ref (x 7), .ref (x 10), .ref (x 17), .ref (x 22), .ref (x 27), .int 0])), ((x 1), .inr (4, [.ref (x 2), .int 0, .int (-1), .int 0, .ref (x 4), .int 0, .int 0, .int 0, .int 0, .int 0, .int 0])), ((x 2), .inr (5, [.ref (x 3), .int 1, .int 0, .int 100, .int 7, .int 14, .int 3, .int 1, .int 8])), ((x 3), .inl (cI, 8, .inl cyc0)), ((x 4), .inl (cB, 300, .inl (fun _ => 0))), ((x 5), .inr (5, [.ref (x 6), .int 1, .int 0, .int 100, .int 7, .int 14, .int 3, .int 1, .int 8])), ((x 6), .inl (cI, 8, .inl cyc0)), ((x 7), .inr (3, [.ref (x 8), .ref (x 9), .int 0, .int 0])), ((x 8), .inl (cI, 8, .inl (fun _ => 0))), ((x 9), .inl (cI, 8, .inl (fun _ => 0))), ((x 10), .inr (1, [.ref (x 11), .ref (x 12), .ref (x 13), .ref (x 14), .ref (x 15), .ref (x 16), .int 0])), ((x 11), .inl (cI, 16, .inl (fun _ => 0))), ((x 12), .inl (cI, 16, .inl (fun _ => 0))), ((x 13), .inl (cI, 16, .inl (fun _ => 0))), ((x 14), .inl (cI, 16, .inl (fun _ => 0))), ((x 15), .inl (cI, 16, .inl (fun _ => 0))), ((x 16), .inl (cI, 16, .inl (fun _ => 0))), ((x 17), .inr (6, [.ref (x 18), .ref (x 19), .ref (x 20), .ref (x 21), .int 0])), ((x 18), .inl (cI, 40, .inl (fun _ => 0))), ((x 19), .inl (cI, 40, .inl (fun _ => 0))), ((x 20), .inl (cZ, 40, .inl (fun _ => 0))), ((x 21), .inl (cI, 40, .inl (fun _ => 0))), ((x 22), .inr (2, [.ref (x 23), .ref (x 24), .int 0, .ref (x 25), .ref (x 26), .int 0])), ((x 23), .inl (cI, 8, .inl (fun _ => 0))), ((x 24), .inl (cI, 8, .inl (fun _ => 0))), ((x 25), .inl (cI, 8, .inl (fun _ => 0))), ((x 26), .inl (cJ, 256, .inr (.inl (fun _ => 0)))), ((x 27), .inr (0, [.ref (x 28), .ref (x 29), .ref (x 30), .int 0, .int 0, .int 0, .ref (x 31), .ref (x 32), .ref (x 33)])), ((x 28), .inl (cI, 6, .inl (fun _ => 0))), ((x 29), .inl (cI, 6, .inl (fun _ => 0))), ((x 30), .inl (cI, 8, .inl (fun _ => 0))), ((x 31), .inl (cI, 8, .inl (fun _ => 0))), ((x 32), .inl (cI, 8, .inl (fun _ => 0))), ((x 33), .inl (cI, 64, .inl (fun _ => 0)))] H := hP
  have hD : va_D A [((x 0), .inr (7, [.ref (x 1), .ref (x 5), .ref (x 7), .ref (x 10), .ref (x 17), .ref (x 22), .ref (x 27), .int 0])), ((x 1), .inr (4, [.ref (x 2), .int 0, .int (-1), .int 0, .ref (x 4), .int 0, .int 0, .int 0, .int 0, .int 0, .int 0])), ((x 2), .inr (5, [.ref (x 3), .int 1, .int 0, .int 100, .int 7, .int 14, .int 3, .int 1, .int 8])), ((x 3), .inl (cI, 8, .inl cyc0)), ((x 4), .inl (cB, 300, .inl (fun _ => 0))), ((x 5), .inr (5, [.ref (x 6), .int 1, .int 0, .int 100, .int 7, .int 14, .int 3, .int 1, .int 8])), ((x 6), .inl (cI, 8, .inl cyc0)), ((x 7), .inr (3, [.ref (x 8), .ref (x 9), .int 0, .int 0])), ((x 8), .inl (cI, 8, .inl (fun _ => 0))), ((x 9), .inl (cI, 8, .inl (fun _ => 0))), ((x 10), .inr (1, [.ref (x 11), .ref (x 12), .ref (x 13), .ref (x 14), .ref (x 15), .ref (x 16), .int 0])), ((x 11), .inl (cI, 16, .inl (fun _ => 0))), ((x 12), .inl (cI, 16, .inl (fun _ => 0))), ((x 13), .inl (cI, 16, .inl (fun _ => 0))), ((x 14), .inl (cI, 16, .inl (fun _ => 0))), ((x 15), .inl (cI, 16, .inl (fun _ => 0))), ((x 16), .inl (cI, 16, .inl (fun _ => 0))), ((x 17), .inr (6, [.ref (x 18), .ref (x 19), .ref (x 20), .ref (x 21), .int 0])), ((x 18), .inl (cI, 40, .inl (fun _ => 0))), ((x 19), .inl (cI, 40, .inl (fun _ => 0))), ((x 20), .inl (cZ, 40, .inl (fun _ => 0))), ((x 21), .inl (cI, 40, .inl (fun _ => 0))), ((x 22), .inr (2, [.ref (x 23), .ref (x 24), .int 0, .ref (x 25), .ref (x 26), .int 0])), ((x 23), .inl (cI, 8, .inl (fun _ => 0))), ((x 24), .inl (cI, 8, .inl (fun _ => 0))), ((x 25), .inl (cI, 8, .inl (fun _ => 0))), ((x 26), .inl (cJ, 256, .inr (.inl (fun _ => 0)))), ((x 27), .inr (0, [.ref (x 28), .ref (x 29), .ref (x 30), .int 0, .int 0, .int 0, .ref (x 31), .ref (x 32), .ref (x 33)])), ((x 28), .inl (cI, 6, .inl (fun _ => 0))), ((x 29), .inl (cI, 6, .inl (fun _ => 0))), ((x 30), .inl (cI, 8, .inl (fun _ => 0))), ((x 31), .inl (cI, 8, .inl (fun _ => 0))), ((x 32), .inl (cI, 8, .inl (fun _ => 0))), ((x 33), .inl (cI, 64, .inl (fun _ => 0)))] := hD
  refine lv_iload_n hx hb dX7_owed_7 rfl (lv_at hl 1 rfl) ?_
  by_cases k_80 : q = 0
  ·
    subst k_80
    refine lv_tableIn (off := 32) (tgt := 40) hx hb dX7_owed_8 (by decide) (by decide) rfl (by decide) ?_
    refine lv_iload_n hx hb dX7_owed_40 rfl (lv_at hl 2 rfl) ?_
    refine lv_if_lt (tgt := 62) hx hb dX7_owed_41 (by decide) (fun c_41 => ?_) (fun c_41 => ?_)
    ·
      refine lv_iconst (v := (-1)) hx hb dX7_owed_62 (by decide) ?_
      have hP9 := hP.sub (ws' := []) [] rfl
      have hD9 := hD.sub (ws' := []) [] (by decide) rfl
      exact W.iret (v := (-1)) hx hb hr (fun t ht hW => ⟨⟨_, (), rfl, (sOwed0.trans (if_neg (fun h => h.1 c_41))).symm, by rw [ht]; exact hP9, va_K.moved hW.alike hK, hD9⟩, hS.F ht⟩) hS.2.2 dX7_owed_63
    ·
      refine lv_iload_n hx hb dX7_owed_44 rfl (lv_at hl 2 rfl) ?_
      refine lv_bipush (v := 6) hx hb dX7_owed_45 (by decide) ?_
      refine lv_icmp_ge (tgt := 62) hx hb dX7_owed_47 (by decide) (fun c_47 => ?_) (fun c_47 => ?_)
      ·
        refine lv_iconst (v := (-1)) hx hb dX7_owed_62 (by decide) ?_
        have hP9 := hP.sub (ws' := []) [] rfl
        have hD9 := hD.sub (ws' := []) [] (by decide) rfl
        exact W.iret (v := (-1)) hx hb hr (fun t ht hW => ⟨⟨_, (), rfl, (sOwed0.trans (if_neg (fun h => h.2 (i_le6.mp c_47)))).symm, by rw [ht]; exact hP9, va_K.moved hW.alike hK, hD9⟩, hS.F ht⟩) hS.2.2 dX7_owed_63
      ·
        refine lv_aload_n hx hb dX7_owed_50 rfl (lv_at hl 0 rfl) ?_
        refine va_get (D := D) (ci := 7) (v := .ref (x 27)) (C := RX7) (T := TX7) (N := 8) hx hb hts w_1 hown hK hP 0 rfl rfl 6 (by decide) w_2 (fun _ h9 => h9) rfl dX7_owed_51 ?_
        refine va_get (D := D) (ci := 0) (v := .ref (x 29)) (C := RX0) (T := TX0) (N := 9) hx hb hts w_3 hown hK hP 27 rfl rfl 1 (by decide) w_4 (fun _ h9 => h9) rfl dX7_owed_54 ?_
        refine lv_iload_n hx hb dX7_owed_57 rfl (lv_at hl 2 rfl) ?_
        refine sv_iald (v := 0) hx hb hK hP 29 1 rfl rfl (i_in6 c_41 c_47) rfl dX7_owed_58 ?_
        refine lv_goto (tgt := 63) hx hb dX7_owed_59 (by decide) ?_
        have hP9 := hP.sub (ws' := []) [] rfl
        have hD9 := hD.sub (ws' := []) [] (by decide) rfl
        exact W.iret (v := 0) hx hb hr (fun t ht hW => ⟨⟨_, (), rfl, (sOwed0.trans (if_pos ⟨c_41, fun h => c_47 (i_le6.mpr h)⟩)).symm, by rw [ht]; exact hP9, va_K.moved hW.alike hK, hD9⟩, hS.F ht⟩) hS.2.2 dX7_owed_63
  by_cases k_81 : q = 1
  ·
    subst k_81
    refine lv_tableIn (off := 56) (tgt := 64) hx hb dX7_owed_8 (by decide) (by decide) rfl (by decide) ?_
    refine lv_iload_n hx hb dX7_owed_64 rfl (lv_at hl 2 rfl) ?_
    refine lv_if_lt (tgt := 91) hx hb dX7_owed_65 (by decide) (fun c_65 => ?_) (fun c_65 => ?_)
    ·
      refine lv_iconst (v := (-1)) hx hb dX7_owed_91 (by decide) ?_
      have hP9 := hP.sub (ws' := []) [] rfl
      have hD9 := hD.sub (ws' := []) [] (by decide) rfl
      exact W.iret (v := (-1)) hx hb hr (fun t ht hW => ⟨⟨_, (), rfl, sOwed1.symm, by rw [ht]; exact hP9, va_K.moved hW.alike hK, hD9⟩, hS.F ht⟩) hS.2.2 dX7_owed_92
    ·
      refine lv_iload_n hx hb dX7_owed_68 rfl (lv_at hl 2 rfl) ?_
      refine lv_aload_n hx hb dX7_owed_69 rfl (lv_at hl 0 rfl) ?_
      refine va_get (D := D) (ci := 7) (v := .ref (x 27)) (C := RX7) (T := TX7) (N := 8) hx hb hts w_1 hown hK hP 0 rfl rfl 6 (by decide) w_2 (fun _ h9 => h9) rfl dX7_owed_70 ?_
      refine va_get (D := D) (ci := 0) (v := .int 0) (C := RX0) (T := TX0) (N := 9) hx hb hts w_3 hown hK hP 27 rfl rfl 3 (by decide) w_5 (fun _ h9 => h9) rfl dX7_owed_73 ?_
      refine lv_icmp_ge (tgt := 91) hx hb dX7_owed_76 (by decide) (fun c_76 => ?_) (fun c_76 => ?_)
      ·
        refine lv_iconst (v := (-1)) hx hb dX7_owed_91 (by decide) ?_
        have hP9 := hP.sub (ws' := []) [] rfl
        have hD9 := hD.sub (ws' := []) [] (by decide) rfl
        exact W.iret (v := (-1)) hx hb hr (fun t ht hW => ⟨⟨_, (), rfl, sOwed1.symm, by rw [ht]; exact hP9, va_K.moved hW.alike hK, hD9⟩, hS.F ht⟩) hS.2.2 dX7_owed_92
      ·
        refine lv_aload_n hx hb dX7_owed_79 rfl (lv_at hl 0 rfl) ?_
        refine va_get (D := D) (ci := 7) (v := .ref (x 27)) (C := RX7) (T := TX7) (N := 8) hx hb hts w_1 hown hK hP 0 rfl rfl 6 (by decide) w_2 (fun _ h9 => h9) rfl dX7_owed_80 ?_
        refine va_get (D := D) (ci := 0) (v := .ref (x 30)) (C := RX0) (T := TX0) (N := 9) hx hb hts w_3 hown hK hP 27 rfl rfl 2 (by decide) w_6 (fun _ h9 => h9) rfl dX7_owed_83 ?_
        refine lv_iload_n hx hb dX7_owed_86 rfl (lv_at hl 2 rfl) ?_
        refine sv_iald (v := 0) hx hb hK hP 30 1 rfl rfl (absurd (Int32.not_lt.mp c_65) c_76) rfl dX7_owed_87 ?_
        refine lv_goto (tgt := 92) hx hb dX7_owed_88 (by decide) ?_
        exact absurd (Int32.not_lt.mp c_65) c_76
  by_cases k_82 : q = 2
  ·
    subst k_82
    refine lv_tableIn (off := 85) (tgt := 93) hx hb dX7_owed_8 (by decide) (by decide) rfl (by decide) ?_
    refine lv_aload_n hx hb dX7_owed_93 rfl (lv_at hl 0 rfl) ?_
    refine va_get (D := D) (ci := 7) (v := .ref (x 27)) (C := RX7) (T := TX7) (N := 8) hx hb hts w_1 hown hK hP 0 rfl rfl 6 (by decide) w_2 (fun _ h9 => h9) rfl dX7_owed_94 ?_
    refine va_get (D := D) (ci := 0) (v := .int 0) (C := RX0) (T := TX0) (N := 9) hx hb hts w_3 hown hK hP 27 rfl rfl 4 (by decide) w_7 (fun _ h9 => h9) rfl dX7_owed_97 ?_
    have hP9 := hP.sub (ws' := []) [] rfl
    have hD9 := hD.sub (ws' := []) [] (by decide) rfl
    exact W.iret (v := 0) hx hb hr (fun t ht hW => ⟨⟨_, (), rfl, sOwed2.symm, by rw [ht]; exact hP9, va_K.moved hW.alike hK, hD9⟩, hS.F ht⟩) hS.2.2 dX7_owed_100
  by_cases k_83 : q = 3
  ·
    subst k_83
    refine lv_tableIn (off := 93) (tgt := 101) hx hb dX7_owed_8 (by decide) (by decide) rfl (by decide) ?_
    refine lv_aload_n hx hb dX7_owed_101 rfl (lv_at hl 0 rfl) ?_
    refine va_get (D := D) (ci := 7) (v := .ref (x 27)) (C := RX7) (T := TX7) (N := 8) hx hb hts w_1 hown hK hP 0 rfl rfl 6 (by decide) w_2 (fun _ h9 => h9) rfl dX7_owed_102 ?_
    refine va_get (D := D) (ci := 0) (v := .int 0) (C := RX0) (T := TX0) (N := 9) hx hb hts w_3 hown hK hP 27 rfl rfl 5 (by decide) w_8 (fun _ h9 => h9) rfl dX7_owed_105 ?_
    have hP9 := hP.sub (ws' := []) [] rfl
    have hD9 := hD.sub (ws' := []) [] (by decide) rfl
    exact W.iret (v := 0) hx hb hr (fun t ht hW => ⟨⟨_, (), rfl, sOwed3.symm, by rw [ht]; exact hP9, va_K.moved hW.alike hK, hD9⟩, hS.F ht⟩) hS.2.2 dX7_owed_108
  refine lv_tableOut (tgt := 109) hx hb dX7_owed_8 (sw_out4 k_80 k_81 k_82 k_83) (by decide) ?_
  refine lv_iconst (v := (-1)) hx hb dX7_owed_109 (by decide) ?_
  have hP9 := hP.sub (ws' := []) [] rfl
  have hD9 := hD.sub (ws' := []) [] (by decide) rfl
  exact W.iret (v := (-1)) hx hb hr (fun t ht hW => ⟨⟨_, (), rfl, (sOwed9 k_80 k_82 k_83).symm, by rw [ht]; exact hP9, va_K.moved hW.alike hK, hD9⟩, hS.F ht⟩) hS.2.2 dX7_owed_110

set_option maxHeartbeats 4000000 in
set_option maxRecDepth 100000 in
/-- no bit -/
theorem k_bit0 (l : Launch) (D : va_G) (cB cI cJ cZ : ClassId)  : Met l yJ6_bitCount_0f7a4 wsJ6_bitCount_0f7a4 ({ frames := 0, cells := 0, slots := 0, locals := 0 } : Room) (cRd D (aTy cB cI cJ cZ) [] [.int 0]) (vp_Si (fun r : Int32 => r = 0)) 0 0 (fun _ => False) := by
  refine Met.ofW (cc := cJ6_bitCount_0f7a4) (maxL := 1) (ret := (some .int)) (by decide) rfl ?_
  intro p e s m args below meth c s₁ B hml hv
  obtain ⟨rfl, hP, hK⟩ := hv
  have hx := B.exec
  have hb := B.bytes
  have hr := B.returns
  have hts := atoms_spec (ws := wsJ6_bitCount_0f7a4) B.pre
  have hown : s.vm.findClass RJ6 = some m.cls := findClass_of_methodNamed B.named
  have hlocks := B.notSynchronized
  have hP : va_P D vwCl [] s.heap := hP
  have w_1 := hts (Cond.constant RJ6 265 (1431655765)) (by decide +kernel)
  have w_2 := hts (Cond.constant RJ6 266 (858993459)) (by decide +kernel)
  have w_3 := hts (Cond.constant RJ6 267 (252645135)) (by decide +kernel)
  have hl := lv_entry ([.int 0]) (n := 1) (Nat.le_of_ble_eq_true rfl)
  rw [lg_entry_eq]
  generalize (lg_sl ([.int 0]) ++ List.replicate (1 - (lg_sl ([.int 0])).length) Slot.unset).toArray = ls at hl ⊢
  have hl : lv_has ls 1 [(0, .int 0)] := hl
  refine lv_iload_n hx hb dJ6_bitCount_0f7a4_0 rfl (lv_at hl 0 rfl) ?_
  refine lv_iload_n hx hb dJ6_bitCount_0f7a4_1 rfl (lv_at hl 0 rfl) ?_
  refine lv_iconst (v := 1) hx hb dJ6_bitCount_0f7a4_2 (by decide) ?_
  refine lv_iushr (v := 0) hx hb dJ6_bitCount_0f7a4_3 (by decide) ?_
  refine lv_ldcw hx hb hown (w_1) dJ6_bitCount_0f7a4_4 ?_
  refine sv_iand (v := 0) hx hb dJ6_bitCount_0f7a4_7 (by decide) ?_
  refine sv_isub (v := 0) hx hb dJ6_bitCount_0f7a4_8 (by decide) ?_
  refine lv_istore_n (lv' := [(0, .int 0)]) hx hb dJ6_bitCount_0f7a4_9 rfl hl (by decide) rfl (fun ls hl => ?_)
  refine lv_iload_n hx hb dJ6_bitCount_0f7a4_10 rfl (lv_at hl 0 rfl) ?_
  refine lv_ldcw hx hb hown (w_2) dJ6_bitCount_0f7a4_11 ?_
  refine sv_iand (v := 0) hx hb dJ6_bitCount_0f7a4_14 (by decide) ?_
  refine lv_iload_n hx hb dJ6_bitCount_0f7a4_15 rfl (lv_at hl 0 rfl) ?_
  refine lv_iconst (v := 2) hx hb dJ6_bitCount_0f7a4_16 (by decide) ?_
  refine lv_iushr (v := 0) hx hb dJ6_bitCount_0f7a4_17 (by decide) ?_
  refine lv_ldcw hx hb hown (w_2) dJ6_bitCount_0f7a4_18 ?_
  refine sv_iand (v := 0) hx hb dJ6_bitCount_0f7a4_21 (by decide) ?_
  refine sv_iadd (v := 0) hx hb dJ6_bitCount_0f7a4_22 (by decide) ?_
  refine lv_istore_n (lv' := [(0, .int 0)]) hx hb dJ6_bitCount_0f7a4_23 rfl hl (by decide) rfl (fun ls hl => ?_)
  refine lv_iload_n hx hb dJ6_bitCount_0f7a4_24 rfl (lv_at hl 0 rfl) ?_
  refine lv_iload_n hx hb dJ6_bitCount_0f7a4_25 rfl (lv_at hl 0 rfl) ?_
  refine lv_iconst (v := 4) hx hb dJ6_bitCount_0f7a4_26 (by decide) ?_
  refine lv_iushr (v := 0) hx hb dJ6_bitCount_0f7a4_27 (by decide) ?_
  refine sv_iadd (v := 0) hx hb dJ6_bitCount_0f7a4_28 (by decide) ?_
  refine lv_ldcw hx hb hown (w_3) dJ6_bitCount_0f7a4_29 ?_
  refine sv_iand (v := 0) hx hb dJ6_bitCount_0f7a4_32 (by decide) ?_
  refine lv_istore_n (lv' := [(0, .int 0)]) hx hb dJ6_bitCount_0f7a4_33 rfl hl (by decide) rfl (fun ls hl => ?_)
  refine lv_iload_n hx hb dJ6_bitCount_0f7a4_34 rfl (lv_at hl 0 rfl) ?_
  refine lv_iload_n hx hb dJ6_bitCount_0f7a4_35 rfl (lv_at hl 0 rfl) ?_
  refine lv_bipush (v := 8) hx hb dJ6_bitCount_0f7a4_36 (by decide) ?_
  refine lv_iushr (v := 0) hx hb dJ6_bitCount_0f7a4_38 (by decide) ?_
  refine sv_iadd (v := 0) hx hb dJ6_bitCount_0f7a4_39 (by decide) ?_
  refine lv_istore_n (lv' := [(0, .int 0)]) hx hb dJ6_bitCount_0f7a4_40 rfl hl (by decide) rfl (fun ls hl => ?_)
  refine lv_iload_n hx hb dJ6_bitCount_0f7a4_41 rfl (lv_at hl 0 rfl) ?_
  refine lv_iload_n hx hb dJ6_bitCount_0f7a4_42 rfl (lv_at hl 0 rfl) ?_
  refine lv_bipush (v := 16) hx hb dJ6_bitCount_0f7a4_43 (by decide) ?_
  refine lv_iushr (v := 0) hx hb dJ6_bitCount_0f7a4_45 (by decide) ?_
  refine sv_iadd (v := 0) hx hb dJ6_bitCount_0f7a4_46 (by decide) ?_
  refine lv_istore_n (lv' := [(0, .int 0)]) hx hb dJ6_bitCount_0f7a4_47 rfl hl (by decide) rfl (fun ls hl => ?_)
  refine lv_iload_n hx hb dJ6_bitCount_0f7a4_48 rfl (lv_at hl 0 rfl) ?_
  refine lv_bipush (v := 63) hx hb dJ6_bitCount_0f7a4_49 (by decide) ?_
  refine sv_iand (v := 0) hx hb dJ6_bitCount_0f7a4_51 (by decide) ?_
  exact W.iret (v := 0) hx hb hr (fun t ht hW => ⟨_, rfl, rfl, ht⟩) (fun q h => nomatch h) dJ6_bitCount_0f7a4_52

set_option maxHeartbeats 4000000 in
set_option maxRecDepth 100000 in
/-- no guests -/
theorem k_X2_gather (l : Launch) (D : va_G) (cB cI cJ cZ : ClassId) (sz : Nat) (h0 p0 p1 p3 p4 : Nat) (ch c0 c1 c2 c3 c4 c5 : Nat) : Met l yX2_gather wsX2_gather ({ frames := 0, cells := 0, slots := 0, locals := 0 } : Room) (cPre D (aTy cB cI cJ cZ) [(h0, .inr (2, [.ref p0, .ref p1, .int 0, .ref p3, .ref p4, .int 0])), (ch, .inr (1, [.ref c0, .ref c1, .ref c2, .ref c3, .ref c4, .ref c5, .int 0]))] sz [.ref h0, .ref ch]) (va_Qv (fun (u : Unit) => True) (cB_ D (aTy cB cI cJ cZ) (va_A [(h0, .inr (2, [.ref p0, .ref p1, .int 0, .ref p3, .ref p4, .int 0])), (ch, .inr (1, [.ref c0, .ref c1, .ref c2, .ref c3, .ref c4, .ref c5, .int 0]))] sz) (fun _ => [(h0, .inr (2, [.ref p0, .ref p1, .int 0, .ref p3, .ref p4, .int 0])), (ch, .inr (1, [.ref c0, .ref c1, .ref c2, .ref c3, .ref c4, .ref c5, .int 0]))])) (va_A [(h0, .inr (2, [.ref p0, .ref p1, .int 0, .ref p3, .ref p4, .int 0])), (ch, .inr (1, [.ref c0, .ref c1, .ref c2, .ref c3, .ref c4, .ref c5, .int 0]))] sz)) 0 0 (va_A [(h0, .inr (2, [.ref p0, .ref p1, .int 0, .ref p3, .ref p4, .int 0])), (ch, .inr (1, [.ref c0, .ref c1, .ref c2, .ref c3, .ref c4, .ref c5, .int 0]))] sz) := by
  refine Met.ofW (cc := cX2_gather) (maxL := 3) (ret := none) (by decide) rfl ?_
  intro p e s m args below meth c s₁ B hml hv
  obtain ⟨rfl, hsz, hP, hK, hD0⟩ := hv
  have hx := B.exec
  have hb := B.bytes
  have hr := B.returns
  have hts := atoms_spec (ws := wsX2_gather) B.pre
  have hown : s.vm.findClass RX2 = some m.cls := findClass_of_methodNamed B.named
  have hlocks := B.notSynchronized
  subst hsz
  have hD := hD0.self (sz := s.heap.size)
  generalize hAe : va_A [(h0, .inr (2, [.ref p0, .ref p1, .int 0, .ref p3, .ref p4, .int 0])), (ch, .inr (1, [.ref c0, .ref c1, .ref c2, .ref c3, .ref c4, .ref c5, .int 0]))] s.heap.size = A at hD ⊢
  have hA : ∀ q : Nat, s.heap.size ≤ q → A q := fun q h => by rw [← hAe]; exact Or.inr h
  have hS : va_S A s.heap s.heap [] := va_S.rf
  have hP : va_P D vwCl [(h0, .inr (2, [.ref p0, .ref p1, .int 0, .ref p3, .ref p4, .int 0])), (ch, .inr (1, [.ref c0, .ref c1, .ref c2, .ref c3, .ref c4, .ref c5, .int 0]))] s.heap := hP
  have w_1 : ∀ w ∈ wsX20, w ∈ wsX2_gather := by decide +kernel
  have w_2 := hts (Cond.fieldLink RX2 39 "BlueCoats$Dressing" "guests" "I") (by decide +kernel)
  have w_3 : ∀ w ∈ wsX10, w ∈ wsX2_gather := by decide +kernel
  have w_4 := hts (Cond.fieldLink RX2 52 "BlueCoats$Children" "number" "I") (by decide +kernel)
  have hl := lv_entry ([.ref h0, .ref ch]) (n := 3) (Nat.le_of_ble_eq_true rfl)
  rw [lg_entry_eq]
  generalize (lg_sl ([.ref h0, .ref ch]) ++ List.replicate (3 - (lg_sl ([.ref h0, .ref ch])).length) Slot.unset).toArray = ls at hl ⊢
  have hl : lv_has ls 3 [(0, .ref h0), (1, .ref ch)] := hl
  refine lv_aload_n hx hb dX2_gather_0 rfl (lv_at hl 0 rfl) ?_
  refine lv_iconst (v := 0) hx hb dX2_gather_1 (by decide) ?_
  refine va_put (D := D) (ci := 2) (v := .int 0) (ty := .int) (C := RX2) (T := TX2) (N := 6) hx hb hts w_1 tyX2 tyX2_ok nmX2 hown hK hP hD hS 0 rfl rfl 2 (by decide) w_2 (fun _ h9 => h9) rfl (by decide +kernel) rfl rfl (Nat.le_of_ble_eq_true rfl) dX2_gather_2 (fun H locs hP hD hS => ?_)
  have hP : va_P D vwCl [(h0, .inr (2, [.ref p0, .ref p1, .int 0, .ref p3, .ref p4, .int 0])), (ch, .inr (1, [.ref c0, .ref c1, .ref c2, .ref c3, .ref c4, .ref c5, .int 0]))] H := hP
  have hD : va_D A [(h0, .inr (2, [.ref p0, .ref p1, .int 0, .ref p3, .ref p4, .int 0])), (ch, .inr (1, [.ref c0, .ref c1, .ref c2, .ref c3, .ref c4, .ref c5, .int 0]))] := hD
  refine lv_iconst (v := 0) hx hb dX2_gather_5 (by decide) ?_
  refine lv_istore_n (lv' := [(2, .int 0), (0, .ref h0), (1, .ref ch)]) hx hb dX2_gather_6 rfl hl (by decide) rfl (fun ls hl => ?_)
  refine lv_iload_n hx hb dX2_gather_7 rfl (lv_at hl 0 rfl) ?_
  refine lv_aload_n hx hb dX2_gather_8 rfl (lv_at hl 2 rfl) ?_
  refine va_get (D := D) (ci := 1) (v := .int 0) (C := RX1) (T := TX1) (N := 7) hx hb hts w_3 hown hK hP 1 rfl rfl 6 (by decide) w_4 (fun _ h9 => h9) rfl dX2_gather_9 ?_
  refine lv_icmp_ge (tgt := 75) hx hb dX2_gather_12 (by decide) (fun _ => ?_) (fun h => absurd (by decide) h)
  have hP9 := hP.sub (ws' := [(h0, .inr (2, [.ref p0, .ref p1, .int 0, .ref p3, .ref p4, .int 0])), (ch, .inr (1, [.ref c0, .ref c1, .ref c2, .ref c3, .ref c4, .ref c5, .int 0]))]) [0, 1] rfl
  have hD9 := hD.sub (ws' := [(h0, .inr (2, [.ref p0, .ref p1, .int 0, .ref p3, .ref p4, .int 0])), (ch, .inr (1, [.ref c0, .ref c1, .ref c2, .ref c3, .ref c4, .ref c5, .int 0]))]) [0, 1] (by decide) rfl
  exact W.vret hx hb hr (fun t ht hW => ⟨⟨(), rfl, trivial, by rw [ht]; exact hP9, va_K.moved hW.alike hK, hD9⟩, hS.F ht⟩) hS.2.2 dX2_gather_75

set_option maxHeartbeats 4000000 in
set_option maxRecDepth 100000 in
/-- nothing to measure -/
theorem k_X2_measure (l : Launch) (D : va_G) (cB cI cJ cZ : ClassId) (sz : Nat) (h0 p0 p1 p3 p4 : Nat) (wd : Nat) (sp : Int32) (f : Nat → Int64) : Met l yX2_measure wsX2_measure ({ frames := 0, cells := 0, slots := 0, locals := 0 } : Room) (cPre D (aTy cB cI cJ cZ) [(h0, .inr (2, [.ref p0, .ref p1, .int 0, .ref p3, .ref p4, .int 0])), (p4, .inl (cJ, 256, .inr (.inl f)))] sz [.ref h0, .ref wd, .int sp]) (va_Qv (fun (u : Nat → Int64) => True) (cB_ D (aTy cB cI cJ cZ) (va_A [(h0, .inr (2, [.ref p0, .ref p1, .int 0, .ref p3, .ref p4, .int 0])), (p4, .inl (cJ, 256, .inr (.inl f)))] sz) (fun g => [(h0, .inr (2, [.ref p0, .ref p1, .int 0, .ref p3, .ref p4, .int 0])), (p4, .inl (cJ, 256, .inr (.inl g)))])) (va_A [(h0, .inr (2, [.ref p0, .ref p1, .int 0, .ref p3, .ref p4, .int 0])), (p4, .inl (cJ, 256, .inr (.inl f)))] sz)) 0 0 (va_A [(h0, .inr (2, [.ref p0, .ref p1, .int 0, .ref p3, .ref p4, .int 0])), (p4, .inl (cJ, 256, .inr (.inl f)))] sz) := by
  refine Met.ofW (cc := cX2_measure) (maxL := 7) (ret := none) (by decide) rfl ?_
  intro p e s m args below meth c s₁ B hml hv
  obtain ⟨rfl, hsz, hP, hK, hD0⟩ := hv
  have hx := B.exec
  have hb := B.bytes
  have hr := B.returns
  have hts := atoms_spec (ws := wsX2_measure) B.pre
  have hown : s.vm.findClass RX2 = some m.cls := findClass_of_methodNamed B.named
  have hlocks := B.notSynchronized
  subst hsz
  have hD := hD0.self (sz := s.heap.size)
  generalize hAe : va_A [(h0, .inr (2, [.ref p0, .ref p1, .int 0, .ref p3, .ref p4, .int 0])), (p4, .inl (cJ, 256, .inr (.inl f)))] s.heap.size = A at hD ⊢
  have hA : ∀ q : Nat, s.heap.size ≤ q → A q := fun q h => by rw [← hAe]; exact Or.inr h
  have hS : va_S A s.heap s.heap [] := va_S.rf
  have hP : va_P D vwCl [(h0, .inr (2, [.ref p0, .ref p1, .int 0, .ref p3, .ref p4, .int 0])), (p4, .inl (cJ, 256, .inr (.inl f)))] s.heap := hP
  have w_1 : ∀ w ∈ wsX20, w ∈ wsX2_measure := by decide +kernel
  have w_2 := hts (Cond.fieldLink RX2 21 "BlueCoats$Dressing" "fitting" "[J") (by decide +kernel)
  have w_3 := hts (Cond.fieldLink RX2 39 "BlueCoats$Dressing" "guests" "I") (by decide +kernel)
  have hl := lv_entry ([.ref h0, .ref wd, .int sp]) (n := 7) (Nat.le_of_ble_eq_true rfl)
  rw [lg_entry_eq]
  generalize (lg_sl ([.ref h0, .ref wd, .int sp]) ++ List.replicate (7 - (lg_sl ([.ref h0, .ref wd, .int sp])).length) Slot.unset).toArray = ls at hl ⊢
  have hl : lv_has ls 7 [(0, .ref h0), (1, .ref wd), (2, .int sp)] := hl
  refine lv_aload_n hx hb dX2_measure_0 rfl (lv_at hl 0 rfl) ?_
  refine va_get (D := D) (ci := 2) (v := .ref p4) (C := RX2) (T := TX2) (N := 6) hx hb hts w_1 hown hK hP 0 rfl rfl 4 (by decide) w_2 (fun _ h9 => h9) rfl dX2_measure_1 ?_
  refine lv_iconst (v := 0) hx hb dX2_measure_4 (by decide) ?_
  refine lv_lconst (v := 0) hx hb dX2_measure_5 (by decide) ?_
  refine sv_last hx hb hK hP hD hS 1 2 rfl rfl (vp_in_iff.mpr (by decide)) dX2_measure_6 (fun g_1 H locs eg_1 hP hD hS => ?_)
  have hP : va_P D vwCl [(h0, .inr (2, [.ref p0, .ref p1, .int 0, .ref p3, .ref p4, .int 0])), (p4, .inl (cJ, 256, .inr (.inl g_1)))] H := hP
  have hD : va_D A [(h0, .inr (2, [.ref p0, .ref p1, .int 0, .ref p3, .ref p4, .int 0])), (p4, .inl (cJ, 256, .inr (.inl g_1)))] := hD
  refine lv_iconst (v := 0) hx hb dX2_measure_7 (by decide) ?_
  refine lv_istore_n (lv' := [(3, .int 0), (0, .ref h0), (1, .ref wd), (2, .int sp)]) hx hb dX2_measure_8 rfl hl (by decide) rfl (fun ls hl => ?_)
  refine lv_iload_n hx hb dX2_measure_9 rfl (lv_at hl 0 rfl) ?_
  refine lv_aload_n hx hb dX2_measure_10 rfl (lv_at hl 1 rfl) ?_
  refine va_get (D := D) (ci := 2) (v := .int 0) (C := RX2) (T := TX2) (N := 6) hx hb hts w_1 hown hK hP 0 rfl rfl 2 (by decide) w_3 (fun _ h9 => h9) rfl dX2_measure_11 ?_
  refine lv_icmp_ge (tgt := 74) hx hb dX2_measure_14 (by decide) (fun _ => ?_) (fun h => absurd (by decide) h)
  have hP9 := hP.sub (ws' := [(h0, .inr (2, [.ref p0, .ref p1, .int 0, .ref p3, .ref p4, .int 0])), (p4, .inl (cJ, 256, .inr (.inl g_1)))]) [0, 1] rfl
  have hD9 := hD.sub (ws' := [(h0, .inr (2, [.ref p0, .ref p1, .int 0, .ref p3, .ref p4, .int 0])), (p4, .inl (cJ, 256, .inr (.inl g_1)))]) [0, 1] (by decide) rfl
  exact W.vret hx hb hr (fun t ht hW => ⟨⟨g_1, rfl, trivial, by rw [ht]; exact hP9, va_K.moved hW.alike hK, hD9⟩, hS.F ht⟩) hS.2.2 dX2_measure_74

set_option maxHeartbeats 4000000 in
set_option maxRecDepth 100000 in
/-- nobody is dressed -/
theorem k_X2_dressed (l : Launch) (D : va_G) (cB cI cJ cZ : ClassId) (sz : Nat) (h0 p0 p1 p3 p4 : Nat) : Met l yX2_chooseDressed wsX2_chooseDressed ({ frames := 0, cells := 0, slots := 0, locals := 0 } : Room) (cPre D (aTy cB cI cJ cZ) [(h0, .inr (2, [.ref p0, .ref p1, .int 0, .ref p3, .ref p4, .int 0]))] sz [.ref h0]) (va_Qv (fun (u : Unit) => True) (cB_ D (aTy cB cI cJ cZ) (va_A [(h0, .inr (2, [.ref p0, .ref p1, .int 0, .ref p3, .ref p4, .int 0]))] sz) (fun _ => [(h0, .inr (2, [.ref p0, .ref p1, .int 0, .ref p3, .ref p4, .int 0]))])) (va_A [(h0, .inr (2, [.ref p0, .ref p1, .int 0, .ref p3, .ref p4, .int 0]))] sz)) 0 0 (va_A [(h0, .inr (2, [.ref p0, .ref p1, .int 0, .ref p3, .ref p4, .int 0]))] sz) := by
  refine Met.ofW (cc := cX2_chooseDressed) (maxL := 4) (ret := none) (by decide) rfl ?_
  intro p e s m args below meth c s₁ B hml hv
  obtain ⟨rfl, hsz, hP, hK, hD0⟩ := hv
  have hx := B.exec
  have hb := B.bytes
  have hr := B.returns
  have hts := atoms_spec (ws := wsX2_chooseDressed) B.pre
  have hown : s.vm.findClass RX2 = some m.cls := findClass_of_methodNamed B.named
  have hlocks := B.notSynchronized
  subst hsz
  have hD := hD0.self (sz := s.heap.size)
  generalize hAe : va_A [(h0, .inr (2, [.ref p0, .ref p1, .int 0, .ref p3, .ref p4, .int 0]))] s.heap.size = A at hD ⊢
  have hA : ∀ q : Nat, s.heap.size ≤ q → A q := fun q h => by rw [← hAe]; exact Or.inr h
  have hS : va_S A s.heap s.heap [] := va_S.rf
  have hP : va_P D vwCl [(h0, .inr (2, [.ref p0, .ref p1, .int 0, .ref p3, .ref p4, .int 0]))] s.heap := hP
  have w_1 : ∀ w ∈ wsX20, w ∈ wsX2_chooseDressed := by decide +kernel
  have w_2 := hts (Cond.fieldLink RX2 43 "BlueCoats$Dressing" "dressed" "I") (by decide +kernel)
  have w_3 := hts (Cond.fieldLink RX2 39 "BlueCoats$Dressing" "guests" "I") (by decide +kernel)
  have hl := lv_entry ([.ref h0]) (n := 4) (Nat.le_of_ble_eq_true rfl)
  rw [lg_entry_eq]
  generalize (lg_sl ([.ref h0]) ++ List.replicate (4 - (lg_sl ([.ref h0])).length) Slot.unset).toArray = ls at hl ⊢
  have hl : lv_has ls 4 [(0, .ref h0)] := hl
  refine lv_aload_n hx hb dX2_chooseDressed_0 rfl (lv_at hl 0 rfl) ?_
  refine lv_iconst (v := 0) hx hb dX2_chooseDressed_1 (by decide) ?_
  refine va_put (D := D) (ci := 2) (v := .int 0) (ty := .int) (C := RX2) (T := TX2) (N := 6) hx hb hts w_1 tyX2 tyX2_ok nmX2 hown hK hP hD hS 0 rfl rfl 5 (by decide) w_2 (fun _ h9 => h9) rfl (by decide +kernel) rfl rfl (Nat.le_of_ble_eq_true rfl) dX2_chooseDressed_2 (fun H locs hP hD hS => ?_)
  have hP : va_P D vwCl [(h0, .inr (2, [.ref p0, .ref p1, .int 0, .ref p3, .ref p4, .int 0]))] H := hP
  have hD : va_D A [(h0, .inr (2, [.ref p0, .ref p1, .int 0, .ref p3, .ref p4, .int 0]))] := hD
  refine lv_iconst (v := 0) hx hb dX2_chooseDressed_5 (by decide) ?_
  refine lv_istore_n (lv' := [(1, .int 0), (0, .ref h0)]) hx hb dX2_chooseDressed_6 rfl hl (by decide) rfl (fun ls hl => ?_)
  refine lv_iconst (v := 0) hx hb dX2_chooseDressed_7 (by decide) ?_
  refine lv_istore_n (lv' := [(2, .int 0), (1, .int 0), (0, .ref h0)]) hx hb dX2_chooseDressed_8 rfl hl (by decide) rfl (fun ls hl => ?_)
  refine lv_iload_n hx hb dX2_chooseDressed_9 rfl (lv_at hl 0 rfl) ?_
  refine lv_aload_n hx hb dX2_chooseDressed_10 rfl (lv_at hl 2 rfl) ?_
  refine va_get (D := D) (ci := 2) (v := .int 0) (C := RX2) (T := TX2) (N := 6) hx hb hts w_1 hown hK hP 0 rfl rfl 2 (by decide) w_3 (fun _ h9 => h9) rfl dX2_chooseDressed_11 ?_
  refine lv_icmp_ge (tgt := 62) hx hb dX2_chooseDressed_14 (by decide) (fun _ => ?_) (fun h => absurd (by decide) h)
  have hP9 := hP.sub (ws' := [(h0, .inr (2, [.ref p0, .ref p1, .int 0, .ref p3, .ref p4, .int 0]))]) [0] rfl
  have hD9 := hD.sub (ws' := [(h0, .inr (2, [.ref p0, .ref p1, .int 0, .ref p3, .ref p4, .int 0]))]) [0] (by decide) rfl
  exact W.vret hx hb hr (fun t ht hW => ⟨⟨(), rfl, trivial, by rw [ht]; exact hP9, va_K.moved hW.alike hK, hD9⟩, hS.F ht⟩) hS.2.2 dX2_chooseDressed_62

set_option maxHeartbeats 4000000 in
set_option maxRecDepth 100000 in
/-- no coats -/
theorem k_X2_coats (l : Launch) (D : va_G) (cB cI cJ cZ : ClassId) (sz : Nat) (h0 p0 p1 p3 p4 : Nat) (f : Nat → Int64) : Met l yX2_chooseCoats wsX2_chooseCoats ({ frames := 0, cells := 0, slots := 0, locals := 0 } : Room) (cPre D (aTy cB cI cJ cZ) [(h0, .inr (2, [.ref p0, .ref p1, .int 0, .ref p3, .ref p4, .int 0])), (p4, .inl (cJ, 256, .inr (.inl f)))] sz [.ref h0]) (va_Qv (fun (u : Unit) => True) (cB_ D (aTy cB cI cJ cZ) (va_A [(h0, .inr (2, [.ref p0, .ref p1, .int 0, .ref p3, .ref p4, .int 0])), (p4, .inl (cJ, 256, .inr (.inl f)))] sz) (fun _ => [(h0, .inr (2, [.ref p0, .ref p1, .int 0, .ref p3, .ref p4, .int 0])), (p4, .inl (cJ, 256, .inr (.inl f)))])) (va_A [(h0, .inr (2, [.ref p0, .ref p1, .int 0, .ref p3, .ref p4, .int 0])), (p4, .inl (cJ, 256, .inr (.inl f)))] sz)) 0 0 (va_A [(h0, .inr (2, [.ref p0, .ref p1, .int 0, .ref p3, .ref p4, .int 0])), (p4, .inl (cJ, 256, .inr (.inl f)))] sz) := by
  refine Met.ofW (cc := cX2_chooseCoats) (maxL := 7) (ret := none) (by decide) rfl ?_
  intro p e s m args below meth c s₁ B hml hv
  obtain ⟨rfl, hsz, hP, hK, hD0⟩ := hv
  have hx := B.exec
  have hb := B.bytes
  have hr := B.returns
  have hts := atoms_spec (ws := wsX2_chooseCoats) B.pre
  have hown : s.vm.findClass RX2 = some m.cls := findClass_of_methodNamed B.named
  have hlocks := B.notSynchronized
  subst hsz
  have hD := hD0.self (sz := s.heap.size)
  generalize hAe : va_A [(h0, .inr (2, [.ref p0, .ref p1, .int 0, .ref p3, .ref p4, .int 0])), (p4, .inl (cJ, 256, .inr (.inl f)))] s.heap.size = A at hD ⊢
  have hA : ∀ q : Nat, s.heap.size ≤ q → A q := fun q h => by rw [← hAe]; exact Or.inr h
  have hS : va_S A s.heap s.heap [] := va_S.rf
  have hP : va_P D vwCl [(h0, .inr (2, [.ref p0, .ref p1, .int 0, .ref p3, .ref p4, .int 0])), (p4, .inl (cJ, 256, .inr (.inl f)))] s.heap := hP
  have w_1 : ∀ w ∈ wsX20, w ∈ wsX2_chooseCoats := by decide +kernel
  have w_2 := hts (Cond.fieldLink RX2 21 "BlueCoats$Dressing" "fitting" "[J") (by decide +kernel)
  have w_3 := hts (Cond.fieldLink RX2 39 "BlueCoats$Dressing" "guests" "I") (by decide +kernel)
  have hl := lv_entry ([.ref h0]) (n := 7) (Nat.le_of_ble_eq_true rfl)
  rw [lg_entry_eq]
  generalize (lg_sl ([.ref h0]) ++ List.replicate (7 - (lg_sl ([.ref h0])).length) Slot.unset).toArray = ls at hl ⊢
  have hl : lv_has ls 7 [(0, .ref h0)] := hl
  refine lv_aload_n hx hb dX2_chooseCoats_0 rfl (lv_at hl 0 rfl) ?_
  refine va_get (D := D) (ci := 2) (v := .ref p4) (C := RX2) (T := TX2) (N := 6) hx hb hts w_1 hown hK hP 0 rfl rfl 4 (by decide) w_2 (fun _ h9 => h9) rfl dX2_chooseCoats_1 ?_
  refine lv_iconst (v := 1) hx hb dX2_chooseCoats_4 (by decide) ?_
  refine lv_aload_n hx hb dX2_chooseCoats_5 rfl (lv_at hl 0 rfl) ?_
  refine va_get (D := D) (ci := 2) (v := .int 0) (C := RX2) (T := TX2) (N := 6) hx hb hts w_1 hown hK hP 0 rfl rfl 2 (by decide) w_3 (fun _ h9 => h9) rfl dX2_chooseCoats_6 ?_
  refine sv_ishl (v := 1) hx hb dX2_chooseCoats_9 (by decide) ?_
  refine lv_iconst (v := 1) hx hb dX2_chooseCoats_10 (by decide) ?_
  refine sv_isub (v := 0) hx hb dX2_chooseCoats_11 (by decide) ?_
  refine sv_lald (v := f (0 : Int32).toNatClampNeg) hx hb hK hP 1 2 rfl rfl (vp_in_iff.mpr (by decide)) rfl dX2_chooseCoats_12 ?_
  refine lv_lstore_n (lv' := [(1, .long (f (0 : Int32).toNatClampNeg)), (0, .ref h0)]) hx hb dX2_chooseCoats_13 rfl hl (by decide) rfl (fun ls hl => ?_)
  refine lv_iconst (v := 0) hx hb dX2_chooseCoats_14 (by decide) ?_
  refine lv_istore_n (lv' := [(3, .int 0), (1, .long (f (0 : Int32).toNatClampNeg)), (0, .ref h0)]) hx hb dX2_chooseCoats_15 rfl hl (by decide) rfl (fun ls hl => ?_)
  refine lv_iload_n hx hb dX2_chooseCoats_16 rfl (lv_at hl 0 rfl) ?_
  refine lv_aload_n hx hb dX2_chooseCoats_17 rfl (lv_at hl 2 rfl) ?_
  refine va_get (D := D) (ci := 2) (v := .int 0) (C := RX2) (T := TX2) (N := 6) hx hb hts w_1 hown hK hP 0 rfl rfl 2 (by decide) w_3 (fun _ h9 => h9) rfl dX2_chooseCoats_18 ?_
  refine lv_icmp_ge (tgt := 107) hx hb dX2_chooseCoats_21 (by decide) (fun _ => ?_) (fun h => absurd (by decide) h)
  have hP9 := hP.sub (ws' := [(h0, .inr (2, [.ref p0, .ref p1, .int 0, .ref p3, .ref p4, .int 0])), (p4, .inl (cJ, 256, .inr (.inl f)))]) [0, 1] rfl
  have hD9 := hD.sub (ws' := [(h0, .inr (2, [.ref p0, .ref p1, .int 0, .ref p3, .ref p4, .int 0])), (p4, .inl (cJ, 256, .inr (.inl f)))]) [0, 1] (by decide) rfl
  exact W.vret hx hb hr (fun t ht hW => ⟨⟨(), rfl, trivial, by rw [ht]; exact hP9, va_K.moved hW.alike hK, hD9⟩, hS.F ht⟩) hS.2.2 dX2_chooseCoats_107

set_option maxHeartbeats 4000000 in
set_option maxRecDepth 100000 in
/-- plan(): nobody comes -/
theorem k_X2_plan (l : Launch) (D : va_G) (cB cI cJ cZ : ClassId) (sz : Nat) (h0 p0 p1 p3 p4 : Nat) (ch c0 c1 c2 c3 c4 c5 : Nat) (wd : Nat) (sp : Int32) (f : Nat → Int64) : Met l yX2_plan wsX2_plan ({ frames := 1, cells := 0, slots := 0, locals := 26 } : Room) (cPre D (aTy cB cI cJ cZ) [(h0, .inr (2, [.ref p0, .ref p1, .int 0, .ref p3, .ref p4, .int 0])), (p4, .inl (cJ, 256, .inr (.inl f))), (ch, .inr (1, [.ref c0, .ref c1, .ref c2, .ref c3, .ref c4, .ref c5, .int 0]))] sz [.ref h0, .ref ch, .ref wd, .int sp]) (va_Qv (fun (u : Nat → Int64) => True) (cB_ D (aTy cB cI cJ cZ) (va_A [(h0, .inr (2, [.ref p0, .ref p1, .int 0, .ref p3, .ref p4, .int 0])), (p4, .inl (cJ, 256, .inr (.inl f))), (ch, .inr (1, [.ref c0, .ref c1, .ref c2, .ref c3, .ref c4, .ref c5, .int 0]))] sz) (fun g => [(h0, .inr (2, [.ref p0, .ref p1, .int 0, .ref p3, .ref p4, .int 0])), (p4, .inl (cJ, 256, .inr (.inl g))), (ch, .inr (1, [.ref c0, .ref c1, .ref c2, .ref c3, .ref c4, .ref c5, .int 0]))])) (va_A [(h0, .inr (2, [.ref p0, .ref p1, .int 0, .ref p3, .ref p4, .int 0])), (p4, .inl (cJ, 256, .inr (.inl f))), (ch, .inr (1, [.ref c0, .ref c1, .ref c2, .ref c3, .ref c4, .ref c5, .int 0]))] sz)) 0 0 (va_A [(h0, .inr (2, [.ref p0, .ref p1, .int 0, .ref p3, .ref p4, .int 0])), (p4, .inl (cJ, 256, .inr (.inl f))), (ch, .inr (1, [.ref c0, .ref c1, .ref c2, .ref c3, .ref c4, .ref c5, .int 0]))] sz) := by
  refine Met.ofW (cc := cX2_plan) (maxL := 4) (ret := none) (by decide) rfl ?_
  intro p e s m args below meth c s₁ B hml hv
  obtain ⟨rfl, hsz, hP, hK, hD0⟩ := hv
  have hx := B.exec
  have hb := B.bytes
  have hr := B.returns
  have hts := atoms_spec (ws := wsX2_plan) B.pre
  have hown : s.vm.findClass RX2 = some m.cls := findClass_of_methodNamed B.named
  have hlocks := B.notSynchronized
  subst hsz
  have hD := hD0.self (sz := s.heap.size)
  generalize hAe : va_A [(h0, .inr (2, [.ref p0, .ref p1, .int 0, .ref p3, .ref p4, .int 0])), (p4, .inl (cJ, 256, .inr (.inl f))), (ch, .inr (1, [.ref c0, .ref c1, .ref c2, .ref c3, .ref c4, .ref c5, .int 0]))] s.heap.size = A at hD ⊢
  have hA : ∀ q : Nat, s.heap.size ≤ q → A q := fun q h => by rw [← hAe]; exact Or.inr h
  have hS : va_S A s.heap s.heap [] := va_S.rf
  have hP : va_P D vwCl [(h0, .inr (2, [.ref p0, .ref p1, .int 0, .ref p3, .ref p4, .int 0])), (p4, .inl (cJ, 256, .inr (.inl f))), (ch, .inr (1, [.ref c0, .ref c1, .ref c2, .ref c3, .ref c4, .ref c5, .int 0]))] s.heap := hP
  have hl := lv_entry ([.ref h0, .ref ch, .ref wd, .int sp]) (n := 4) (Nat.le_of_ble_eq_true rfl)
  rw [lg_entry_eq]
  generalize (lg_sl ([.ref h0, .ref ch, .ref wd, .int sp]) ++ List.replicate (4 - (lg_sl ([.ref h0, .ref ch, .ref wd, .int sp])).length) Slot.unset).toArray = ls at hl ⊢
  have hl : lv_has ls 4 [(0, .ref h0), (1, .ref ch), (2, .ref wd), (3, .int sp)] := hl
  refine lv_aload_n hx hb dX2_plan_0 rfl (lv_at hl 0 rfl) ?_
  refine lv_aload_n hx hb dX2_plan_1 rfl (lv_at hl 1 rfl) ?_
  refine cl_v (wc := [(h0, .inr (2, [.ref p0, .ref p1, .int 0, .ref p3, .ref p4, .int 0])), (ch, .inr (1, [.ref c0, .ref c1, .ref c2, .ref c3, .ref c4, .ref c5, .int 0]))]) (wr := [(p4, .inl (cJ, 256, .inr (.inl f)))]) (va_runV (As := [.ref ch]) (rest := []) ⟨hx, hb, hml, hown, hts⟩ (k_X2_gather l D cB cI cJ cZ s.heap.size h0 p0 p1 p3 p4 ch c0 c1 c2 c3 c4 c5) (cwV 1 hts gX2_plan_X2_gather rfl rfl rfl (by decide +kernel) ⟨Nat.le_of_ble_eq_true rfl, Nat.le_of_ble_eq_true rfl⟩) (pre_V (hP.sub (ws' := [(h0, .inr (2, [.ref p0, .ref p1, .int 0, .ref p3, .ref p4, .int 0])), (ch, .inr (1, [.ref c0, .ref c1, .ref c2, .ref c3, .ref c4, .ref c5, .int 0]))]) [0, 2] rfl) hK (hD.sub (ws' := [(h0, .inr (2, [.ref p0, .ref p1, .int 0, .ref p3, .ref p4, .int 0])), (ch, .inr (1, [.ref c0, .ref c1, .ref c2, .ref c3, .ref c4, .ref c5, .int 0]))]) [0, 2] (by decide) rfl) 0 rfl rfl rfl) rfl rfl hl.1 rfl (lv_room (Nat.le_of_ble_eq_true rfl)) dX2_plan_2 ⟨Nat.le_of_ble_eq_true rfl, Nat.le_of_ble_eq_true rfl⟩) hP hD hS hA [0, 2] [1] rfl rfl (by decide) (by decide) 0 0 rfl rfl (fun u_2 H locs hw_u_2 hP hD hS => ?_)
  have hP : va_P D vwCl [(p4, .inl (cJ, 256, .inr (.inl f))), (h0, .inr (2, [.ref p0, .ref p1, .int 0, .ref p3, .ref p4, .int 0])), (ch, .inr (1, [.ref c0, .ref c1, .ref c2, .ref c3, .ref c4, .ref c5, .int 0]))] H := hP
  have hD : va_D A [(p4, .inl (cJ, 256, .inr (.inl f))), (h0, .inr (2, [.ref p0, .ref p1, .int 0, .ref p3, .ref p4, .int 0])), (ch, .inr (1, [.ref c0, .ref c1, .ref c2, .ref c3, .ref c4, .ref c5, .int 0]))] := hD
  refine lv_aload_n hx hb dX2_plan_5 rfl (lv_at hl 0 rfl) ?_
  refine lv_aload_n hx hb dX2_plan_6 rfl (lv_at hl 2 rfl) ?_
  refine lv_iload_n hx hb dX2_plan_7 rfl (lv_at hl 3 rfl) ?_
  refine cl_v (wc := [(h0, .inr (2, [.ref p0, .ref p1, .int 0, .ref p3, .ref p4, .int 0])), (p4, .inl (cJ, 256, .inr (.inl f)))]) (wr := [(ch, .inr (1, [.ref c0, .ref c1, .ref c2, .ref c3, .ref c4, .ref c5, .int 0]))]) (va_runV (As := [.ref wd, .int sp]) (rest := []) ⟨hx, hb, hml, hown, hts⟩ (k_X2_measure l D cB cI cJ cZ H.size h0 p0 p1 p3 p4 wd sp f) (cwV 2 hts gX2_plan_X2_measure rfl rfl rfl (by decide +kernel) ⟨Nat.le_of_ble_eq_true rfl, Nat.le_of_ble_eq_true rfl⟩) (pre_V (hP.sub (ws' := [(h0, .inr (2, [.ref p0, .ref p1, .int 0, .ref p3, .ref p4, .int 0])), (p4, .inl (cJ, 256, .inr (.inl f)))]) [1, 0] rfl) hK (hD.sub (ws' := [(h0, .inr (2, [.ref p0, .ref p1, .int 0, .ref p3, .ref p4, .int 0])), (p4, .inl (cJ, 256, .inr (.inl f)))]) [1, 0] (by decide) rfl) 0 rfl rfl rfl) rfl rfl hl.1 rfl (lv_room (Nat.le_of_ble_eq_true rfl)) dX2_plan_8 ⟨Nat.le_of_ble_eq_true rfl, Nat.le_of_ble_eq_true rfl⟩) hP hD hS hA [1, 0] [2] rfl rfl (by decide) (by decide) 0 0 rfl rfl (fun u_4 H locs hw_u_4 hP hD hS => ?_)
  have hP : va_P D vwCl [(ch, .inr (1, [.ref c0, .ref c1, .ref c2, .ref c3, .ref c4, .ref c5, .int 0])), (h0, .inr (2, [.ref p0, .ref p1, .int 0, .ref p3, .ref p4, .int 0])), (p4, .inl (cJ, 256, .inr (.inl u_4)))] H := hP
  have hD : va_D A [(ch, .inr (1, [.ref c0, .ref c1, .ref c2, .ref c3, .ref c4, .ref c5, .int 0])), (h0, .inr (2, [.ref p0, .ref p1, .int 0, .ref p3, .ref p4, .int 0])), (p4, .inl (cJ, 256, .inr (.inl u_4)))] := hD
  refine lv_aload_n hx hb dX2_plan_11 rfl (lv_at hl 0 rfl) ?_
  refine cl_v (wc := [(h0, .inr (2, [.ref p0, .ref p1, .int 0, .ref p3, .ref p4, .int 0]))]) (wr := [(ch, .inr (1, [.ref c0, .ref c1, .ref c2, .ref c3, .ref c4, .ref c5, .int 0])), (p4, .inl (cJ, 256, .inr (.inl u_4)))]) (va_runV (As := []) (rest := []) ⟨hx, hb, hml, hown, hts⟩ (k_X2_dressed l D cB cI cJ cZ H.size h0 p0 p1 p3 p4) (cwV 0 hts gX2_plan_X2_chooseDressed rfl rfl rfl (by decide +kernel) ⟨Nat.le_of_ble_eq_true rfl, Nat.le_of_ble_eq_true rfl⟩) (pre_V (hP.sub (ws' := [(h0, .inr (2, [.ref p0, .ref p1, .int 0, .ref p3, .ref p4, .int 0]))]) [1] rfl) hK (hD.sub (ws' := [(h0, .inr (2, [.ref p0, .ref p1, .int 0, .ref p3, .ref p4, .int 0]))]) [1] (by decide) rfl) 0 rfl rfl rfl) rfl rfl hl.1 rfl (lv_room (Nat.le_of_ble_eq_true rfl)) dX2_plan_12 ⟨Nat.le_of_ble_eq_true rfl, Nat.le_of_ble_eq_true rfl⟩) hP hD hS hA [1] [0, 2] rfl rfl (by decide) (by decide) 0 0 rfl rfl (fun u_6 H locs hw_u_6 hP hD hS => ?_)
  have hP : va_P D vwCl [(ch, .inr (1, [.ref c0, .ref c1, .ref c2, .ref c3, .ref c4, .ref c5, .int 0])), (p4, .inl (cJ, 256, .inr (.inl u_4))), (h0, .inr (2, [.ref p0, .ref p1, .int 0, .ref p3, .ref p4, .int 0]))] H := hP
  have hD : va_D A [(ch, .inr (1, [.ref c0, .ref c1, .ref c2, .ref c3, .ref c4, .ref c5, .int 0])), (p4, .inl (cJ, 256, .inr (.inl u_4))), (h0, .inr (2, [.ref p0, .ref p1, .int 0, .ref p3, .ref p4, .int 0]))] := hD
  refine lv_aload_n hx hb dX2_plan_15 rfl (lv_at hl 0 rfl) ?_
  refine cl_v (wc := [(h0, .inr (2, [.ref p0, .ref p1, .int 0, .ref p3, .ref p4, .int 0])), (p4, .inl (cJ, 256, .inr (.inl u_4)))]) (wr := [(ch, .inr (1, [.ref c0, .ref c1, .ref c2, .ref c3, .ref c4, .ref c5, .int 0]))]) (va_runV (As := []) (rest := []) ⟨hx, hb, hml, hown, hts⟩ (k_X2_coats l D cB cI cJ cZ H.size h0 p0 p1 p3 p4 u_4) (cwV 0 hts gX2_plan_X2_chooseCoats rfl rfl rfl (by decide +kernel) ⟨Nat.le_of_ble_eq_true rfl, Nat.le_of_ble_eq_true rfl⟩) (pre_V (hP.sub (ws' := [(h0, .inr (2, [.ref p0, .ref p1, .int 0, .ref p3, .ref p4, .int 0])), (p4, .inl (cJ, 256, .inr (.inl u_4)))]) [2, 1] rfl) hK (hD.sub (ws' := [(h0, .inr (2, [.ref p0, .ref p1, .int 0, .ref p3, .ref p4, .int 0])), (p4, .inl (cJ, 256, .inr (.inl u_4)))]) [2, 1] (by decide) rfl) 0 rfl rfl rfl) rfl rfl hl.1 rfl (lv_room (Nat.le_of_ble_eq_true rfl)) dX2_plan_16 ⟨Nat.le_of_ble_eq_true rfl, Nat.le_of_ble_eq_true rfl⟩) hP hD hS hA [2, 1] [0] rfl rfl (by decide) (by decide) 0 0 rfl rfl (fun u_8 H locs hw_u_8 hP hD hS => ?_)
  have hP : va_P D vwCl [(ch, .inr (1, [.ref c0, .ref c1, .ref c2, .ref c3, .ref c4, .ref c5, .int 0])), (h0, .inr (2, [.ref p0, .ref p1, .int 0, .ref p3, .ref p4, .int 0])), (p4, .inl (cJ, 256, .inr (.inl u_4)))] H := hP
  have hD : va_D A [(ch, .inr (1, [.ref c0, .ref c1, .ref c2, .ref c3, .ref c4, .ref c5, .int 0])), (h0, .inr (2, [.ref p0, .ref p1, .int 0, .ref p3, .ref p4, .int 0])), (p4, .inl (cJ, 256, .inr (.inl u_4)))] := hD
  have hP9 := hP.sub (ws' := [(h0, .inr (2, [.ref p0, .ref p1, .int 0, .ref p3, .ref p4, .int 0])), (p4, .inl (cJ, 256, .inr (.inl u_4))), (ch, .inr (1, [.ref c0, .ref c1, .ref c2, .ref c3, .ref c4, .ref c5, .int 0]))]) [1, 2, 0] rfl
  have hD9 := hD.sub (ws' := [(h0, .inr (2, [.ref p0, .ref p1, .int 0, .ref p3, .ref p4, .int 0])), (p4, .inl (cJ, 256, .inr (.inl u_4))), (ch, .inr (1, [.ref c0, .ref c1, .ref c2, .ref c3, .ref c4, .ref c5, .int 0]))]) [1, 2, 0] (by decide) rfl
  exact W.vret hx hb hr (fun t ht hW => ⟨⟨u_4, rfl, trivial, by rw [ht]; exact hP9, va_K.moved hW.alike hK, hD9⟩, hS.F ht⟩) hS.2.2 dX2_plan_19

set_option maxHeartbeats 4000000 in
set_option maxRecDepth 100000 in
/-- no new coats -/
theorem k_X2_new (l : Launch) (D : va_G) (cB cI cJ cZ : ClassId) (h0 p0 p1 p3 p4 : Nat) : Met l yX2_newCoats wsX2_newCoats ({ frames := 1, cells := 0, slots := 0, locals := 20 } : Room) (cRd D (aTy cB cI cJ cZ) [(h0, .inr (2, [.ref p0, .ref p1, .int 0, .ref p3, .ref p4, .int 0]))] [.ref h0]) (vp_Si (fun r : Int32 => r = 0)) 0 0 (fun _ => False) := by
  refine Met.ofW (cc := cX2_newCoats) (maxL := 1) (ret := (some .int)) (by decide) rfl ?_
  intro p e s m args below meth c s₁ B hml hv
  obtain ⟨rfl, hP, hK⟩ := hv
  have hx := B.exec
  have hb := B.bytes
  have hr := B.returns
  have hts := atoms_spec (ws := wsX2_newCoats) B.pre
  have hown : s.vm.findClass RX2 = some m.cls := findClass_of_methodNamed B.named
  have hlocks := B.notSynchronized
  have hP : va_P D vwCl [(h0, .inr (2, [.ref p0, .ref p1, .int 0, .ref p3, .ref p4, .int 0]))] s.heap := hP
  have w_1 : ∀ w ∈ wsX20, w ∈ wsX2_newCoats := by decide +kernel
  have w_2 := hts (Cond.fieldLink RX2 39 "BlueCoats$Dressing" "guests" "I") (by decide +kernel)
  have w_3 := hts (Cond.fieldLink RX2 43 "BlueCoats$Dressing" "dressed" "I") (by decide +kernel)
  have hl := lv_entry ([.ref h0]) (n := 1) (Nat.le_of_ble_eq_true rfl)
  rw [lg_entry_eq]
  generalize (lg_sl ([.ref h0]) ++ List.replicate (1 - (lg_sl ([.ref h0])).length) Slot.unset).toArray = ls at hl ⊢
  have hl : lv_has ls 1 [(0, .ref h0)] := hl
  refine lv_aload_n hx hb dX2_newCoats_0 rfl (lv_at hl 0 rfl) ?_
  refine va_get (D := D) (ci := 2) (v := .int 0) (C := RX2) (T := TX2) (N := 6) hx hb hts w_1 hown hK hP 0 rfl rfl 2 (by decide) w_2 (fun _ h9 => h9) rfl dX2_newCoats_1 ?_
  refine lv_aload_n hx hb dX2_newCoats_4 rfl (lv_at hl 0 rfl) ?_
  refine va_get (D := D) (ci := 2) (v := .int 0) (C := RX2) (T := TX2) (N := 6) hx hb hts w_1 hown hK hP 0 rfl rfl 5 (by decide) w_3 (fun _ h9 => h9) rfl dX2_newCoats_5 ?_
  refine vp_callSi (va_Run.run (va_runS (As := [.int 0]) (rest := [.int 0]) ⟨hx, hb, hml, hown, hts⟩ (k_bit0 l D cB cI cJ cZ ) (va_cwS 1 hts gX2_newCoats_J6_bitCount_0f7a4 rfl rfl rfl (by decide +kernel) ⟨Nat.le_of_ble_eq_true rfl, Nat.le_of_ble_eq_true rfl⟩) (pre_SR (hP.sub (ws' := []) [] rfl) hK) rfl rfl hl.1 rfl (lv_room (Nat.le_of_ble_eq_true rfl)) dX2_newCoats_8 ⟨Nat.le_of_ble_eq_true rfl, Nat.le_of_ble_eq_true rfl⟩)) (fun r_1 hw_r_1 => ?_)
  subst hw_r_1
  refine sv_isub (v := 0) hx hb dX2_newCoats_11 (by decide) ?_
  exact W.iret (v := 0) hx hb hr (fun t ht hW => ⟨_, rfl, rfl, ht⟩) (fun q h => nomatch h) dX2_newCoats_12

set_option maxHeartbeats 4000000 in
set_option maxRecDepth 100000 in
theorem m_X7_feast (l : Launch) (D : va_G) (cB cI cJ cZ : ClassId) (sz : Nat) (x : Nat → Nat) : Met l yX7_feast wsX7_feast ({ frames := 2, cells := 0, slots := 0, locals := 49 } : Room) (cPre D (aTy cB cI cJ cZ) (freshX cB cI cJ cZ x) sz [.ref (x 0)]) (va_Qi (fun (r : Int32) (u : Unit) => r = 0) (cB_ D (aTy cB cI cJ cZ) (va_A (freshX cB cI cJ cZ x) sz) (fun _ => [])) (va_A (freshX cB cI cJ cZ x) sz)) 0 0 (va_A (freshX cB cI cJ cZ x) sz) := by
  refine Met.ofW (cc := cX7_feast) (maxL := 5) (ret := (some .int)) (by decide) rfl ?_
  intro p e s m args below meth c s₁ B hml hv
  obtain ⟨rfl, hsz, hP, hK, hD0⟩ := hv
  have hx := B.exec
  have hb := B.bytes
  have hr := B.returns
  have hts := atoms_spec (ws := wsX7_feast) B.pre
  have hown : s.vm.findClass RX7 = some m.cls := findClass_of_methodNamed B.named
  have hlocks := B.notSynchronized
  subst hsz
  have hD := hD0.self (sz := s.heap.size)
  generalize hAe : va_A (freshX cB cI cJ cZ x) s.heap.size = A at hD ⊢
  have hA : ∀ q : Nat, s.heap.size ≤ q → A q := fun q h => by rw [← hAe]; exact Or.inr h
  have hS : va_S A s.heap s.heap [] := va_S.rf
  have hP : va_P D vwCl [((x 0), .inr (7, [.ref (x 1), .ref (x 5), .ref (x 7), .ref (x 10), .ref (x 17), .ref (x 22), .ref (x 27), .int 0])), ((x 1), .inr (4, [.ref (x 2), .int 0, .int (-1), .int 0, .ref (x 4), .int 0, .int 0, .int 0, .int 0, .int 0, .int 0])), ((x 2), .inr (5, [.ref (x 3), .int 1, .int 0, .int 100, .int 7, .int 14, .int 3, .int 1, .int 8])), ((x 3), .inl (cI, 8, .inl cyc0)), ((x 4), .inl (cB, 300, .inl (fun _ => 0))), ((x 5), .inr (5, [.ref (x 6), .int 1, .int 0, .int 100, .int 7, .int 14, .int 3, .int 1, .int 8])), ((x 6), .inl (cI, 8, .inl cyc0)), ((x 7), .inr (3, [.ref (x 8), .ref (x 9), .int 0, .int 0])), ((x 8), .inl (cI, 8, .inl (fun _ => 0))), ((x 9), .inl (cI, 8, .inl (fun _ => 0))), ((x 10), .inr (1, [.ref (x 11), .ref (x 12), .ref (x 13), .ref (x 14), .ref (x 15), .ref (x 16), .int 0])), ((x 11), .inl (cI, 16, .inl (fun _ => 0))), ((x 12), .inl (cI, 16, .inl (fun _ => 0))), ((x 13), .inl (cI, 16, .inl (fun _ => 0))), ((x 14), .inl (cI, 16, .inl (fun _ => 0))), ((x 15), .inl (cI, 16, .inl (fun _ => 0))), ((x 16), .inl (cI, 16, .inl (fun _ => 0))), ((x 17), .inr (6, [.ref (x 18), .ref (x 19), .ref (x 20), .ref (x 21), .int 0])), ((x 18), .inl (cI, 40, .inl (fun _ => 0))), ((x 19), .inl (cI, 40, .inl (fun _ => 0))), ((x 20), .inl (cZ, 40, .inl (fun _ => 0))), ((x 21), .inl (cI, 40, .inl (fun _ => 0))), ((x 22), .inr (2, [.ref (x 23), .ref (x 24), .int 0, .ref (x 25), .ref (x 26), .int 0])), ((x 23), .inl (cI, 8, .inl (fun _ => 0))), ((x 24), .inl (cI, 8, .inl (fun _ => 0))), ((x 25), .inl (cI, 8, .inl (fun _ => 0))), ((x 26), .inl (cJ, 256, .inr (.inl (fun _ => 0)))), ((x 27), .inr (0, [.ref (x 28), .ref (x 29), .ref (x 30), .int 0, .int 0, .int 0, .ref (x 31), .ref (x 32), .ref (x 33)])), ((x 28), .inl (cI, 6, .inl (fun _ => 0))), ((x 29), .inl (cI, 6, .inl (fun _ => 0))), ((x 30), .inl (cI, 8, .inl (fun _ => 0))), ((x 31), .inl (cI, 8, .inl (fun _ => 0))), ((x 32), .inl (cI, 8, .inl (fun _ => 0))), ((x 33), .inl (cI, 64, .inl (fun _ => 0)))] s.heap := hP
  have hD : va_D A [((x 0), .inr (7, [.ref (x 1), .ref (x 5), .ref (x 7), .ref (x 10), .ref (x 17), .ref (x 22), .ref (x 27), .int 0])), ((x 1), .inr (4, [.ref (x 2), .int 0, .int (-1), .int 0, .ref (x 4), .int 0, .int 0, .int 0, .int 0, .int 0, .int 0])), ((x 2), .inr (5, [.ref (x 3), .int 1, .int 0, .int 100, .int 7, .int 14, .int 3, .int 1, .int 8])), ((x 3), .inl (cI, 8, .inl cyc0)), ((x 4), .inl (cB, 300, .inl (fun _ => 0))), ((x 5), .inr (5, [.ref (x 6), .int 1, .int 0, .int 100, .int 7, .int 14, .int 3, .int 1, .int 8])), ((x 6), .inl (cI, 8, .inl cyc0)), ((x 7), .inr (3, [.ref (x 8), .ref (x 9), .int 0, .int 0])), ((x 8), .inl (cI, 8, .inl (fun _ => 0))), ((x 9), .inl (cI, 8, .inl (fun _ => 0))), ((x 10), .inr (1, [.ref (x 11), .ref (x 12), .ref (x 13), .ref (x 14), .ref (x 15), .ref (x 16), .int 0])), ((x 11), .inl (cI, 16, .inl (fun _ => 0))), ((x 12), .inl (cI, 16, .inl (fun _ => 0))), ((x 13), .inl (cI, 16, .inl (fun _ => 0))), ((x 14), .inl (cI, 16, .inl (fun _ => 0))), ((x 15), .inl (cI, 16, .inl (fun _ => 0))), ((x 16), .inl (cI, 16, .inl (fun _ => 0))), ((x 17), .inr (6, [.ref (x 18), .ref (x 19), .ref (x 20), .ref (x 21), .int 0])), ((x 18), .inl (cI, 40, .inl (fun _ => 0))), ((x 19), .inl (cI, 40, .inl (fun _ => 0))), ((x 20), .inl (cZ, 40, .inl (fun _ => 0))), ((x 21), .inl (cI, 40, .inl (fun _ => 0))), ((x 22), .inr (2, [.ref (x 23), .ref (x 24), .int 0, .ref (x 25), .ref (x 26), .int 0])), ((x 23), .inl (cI, 8, .inl (fun _ => 0))), ((x 24), .inl (cI, 8, .inl (fun _ => 0))), ((x 25), .inl (cI, 8, .inl (fun _ => 0))), ((x 26), .inl (cJ, 256, .inr (.inl (fun _ => 0)))), ((x 27), .inr (0, [.ref (x 28), .ref (x 29), .ref (x 30), .int 0, .int 0, .int 0, .ref (x 31), .ref (x 32), .ref (x 33)])), ((x 28), .inl (cI, 6, .inl (fun _ => 0))), ((x 29), .inl (cI, 6, .inl (fun _ => 0))), ((x 30), .inl (cI, 8, .inl (fun _ => 0))), ((x 31), .inl (cI, 8, .inl (fun _ => 0))), ((x 32), .inl (cI, 8, .inl (fun _ => 0))), ((x 33), .inl (cI, 64, .inl (fun _ => 0)))] := hD
  have w_1 : ∀ w ∈ wsX70, w ∈ wsX7_feast := by decide +kernel
  have w_2 := hts (Cond.fieldLink RX7 47 "BlueCoats" "dressing" "LBlueCoats$Dressing;") (by decide +kernel)
  have w_3 := hts (Cond.fieldLink RX7 33 "BlueCoats" "children" "LBlueCoats$Children;") (by decide +kernel)
  have w_4 := hts (Cond.fieldLink RX7 40 "BlueCoats" "wardrobe" "LBlueCoats$Wardrobe;") (by decide +kernel)
  have w_5 := hts (Cond.fieldLink RX7 19 "BlueCoats" "law" "LBlueCoats$Statutes;") (by decide +kernel)
  have w_6 : ∀ w ∈ wsX50, w ∈ wsX7_feast := by decide +kernel
  have w_7 := hts (Cond.fieldLink RX7 185 "BlueCoats$Statutes" "spare" "I") (by decide +kernel)
  have w_8 : ∀ w ∈ wsX60, w ∈ wsX7_feast := by decide +kernel
  have w_9 := hts (Cond.fieldLink RX7 173 "BlueCoats$Wardrobe" "number" "I") (by decide +kernel)
  have w_10 : ∀ w ∈ wsX20, w ∈ wsX7_feast := by decide +kernel
  have w_11 := hts (Cond.fieldLink RX7 195 "BlueCoats$Dressing" "guests" "I") (by decide +kernel)
  have hl := lv_entry ([.ref (x 0)]) (n := 5) (Nat.le_of_ble_eq_true rfl)
  rw [lg_entry_eq]
  generalize (lg_sl ([.ref (x 0)]) ++ List.replicate (5 - (lg_sl ([.ref (x 0)])).length) Slot.unset).toArray = ls at hl ⊢
  have hl : lv_has ls 5 [(0, .ref (x 0))] := hl
  refine lv_aload_n hx hb dX7_feast_0 rfl (lv_at hl 0 rfl) ?_
  refine va_get (D := D) (ci := 7) (v := .ref (x 22)) (C := RX7) (T := TX7) (N := 8) hx hb hts w_1 hown hK hP 0 rfl rfl 5 (by decide) w_2 (fun _ h9 => h9) rfl dX7_feast_1 ?_
  refine lv_aload_n hx hb dX7_feast_4 rfl (lv_at hl 0 rfl) ?_
  refine va_get (D := D) (ci := 7) (v := .ref (x 10)) (C := RX7) (T := TX7) (N := 8) hx hb hts w_1 hown hK hP 0 rfl rfl 3 (by decide) w_3 (fun _ h9 => h9) rfl dX7_feast_5 ?_
  refine lv_aload_n hx hb dX7_feast_8 rfl (lv_at hl 0 rfl) ?_
  refine va_get (D := D) (ci := 7) (v := .ref (x 17)) (C := RX7) (T := TX7) (N := 8) hx hb hts w_1 hown hK hP 0 rfl rfl 4 (by decide) w_4 (fun _ h9 => h9) rfl dX7_feast_9 ?_
  refine lv_aload_n hx hb dX7_feast_12 rfl (lv_at hl 0 rfl) ?_
  refine va_get (D := D) (ci := 7) (v := .ref (x 5)) (C := RX7) (T := TX7) (N := 8) hx hb hts w_1 hown hK hP 0 rfl rfl 1 (by decide) w_5 (fun _ h9 => h9) rfl dX7_feast_13 ?_
  refine va_get (D := D) (ci := 5) (v := .int 1) (C := RX5) (T := TX5) (N := 9) hx hb hts w_6 hown hK hP 5 rfl rfl 7 (by decide) w_7 (fun _ h9 => h9) rfl dX7_feast_16 ?_
  refine cl_v (wc := [((x 22), .inr (2, [.ref (x 23), .ref (x 24), .int 0, .ref (x 25), .ref (x 26), .int 0])), ((x 26), .inl (cJ, 256, .inr (.inl (fun _ => 0)))), ((x 10), .inr (1, [.ref (x 11), .ref (x 12), .ref (x 13), .ref (x 14), .ref (x 15), .ref (x 16), .int 0]))]) (wr := [((x 0), .inr (7, [.ref (x 1), .ref (x 5), .ref (x 7), .ref (x 10), .ref (x 17), .ref (x 22), .ref (x 27), .int 0])), ((x 1), .inr (4, [.ref (x 2), .int 0, .int (-1), .int 0, .ref (x 4), .int 0, .int 0, .int 0, .int 0, .int 0, .int 0])), ((x 2), .inr (5, [.ref (x 3), .int 1, .int 0, .int 100, .int 7, .int 14, .int 3, .int 1, .int 8])), ((x 3), .inl (cI, 8, .inl cyc0)), ((x 4), .inl (cB, 300, .inl (fun _ => 0))), ((x 5), .inr (5, [.ref (x 6), .int 1, .int 0, .int 100, .int 7, .int 14, .int 3, .int 1, .int 8])), ((x 6), .inl (cI, 8, .inl cyc0)), ((x 7), .inr (3, [.ref (x 8), .ref (x 9), .int 0, .int 0])), ((x 8), .inl (cI, 8, .inl (fun _ => 0))), ((x 9), .inl (cI, 8, .inl (fun _ => 0))), ((x 11), .inl (cI, 16, .inl (fun _ => 0))), ((x 12), .inl (cI, 16, .inl (fun _ => 0))), ((x 13), .inl (cI, 16, .inl (fun _ => 0))), ((x 14), .inl (cI, 16, .inl (fun _ => 0))), ((x 15), .inl (cI, 16, .inl (fun _ => 0))), ((x 16), .inl (cI, 16, .inl (fun _ => 0))), ((x 17), .inr (6, [.ref (x 18), .ref (x 19), .ref (x 20), .ref (x 21), .int 0])), ((x 18), .inl (cI, 40, .inl (fun _ => 0))), ((x 19), .inl (cI, 40, .inl (fun _ => 0))), ((x 20), .inl (cZ, 40, .inl (fun _ => 0))), ((x 21), .inl (cI, 40, .inl (fun _ => 0))), ((x 23), .inl (cI, 8, .inl (fun _ => 0))), ((x 24), .inl (cI, 8, .inl (fun _ => 0))), ((x 25), .inl (cI, 8, .inl (fun _ => 0))), ((x 27), .inr (0, [.ref (x 28), .ref (x 29), .ref (x 30), .int 0, .int 0, .int 0, .ref (x 31), .ref (x 32), .ref (x 33)])), ((x 28), .inl (cI, 6, .inl (fun _ => 0))), ((x 29), .inl (cI, 6, .inl (fun _ => 0))), ((x 30), .inl (cI, 8, .inl (fun _ => 0))), ((x 31), .inl (cI, 8, .inl (fun _ => 0))), ((x 32), .inl (cI, 8, .inl (fun _ => 0))), ((x 33), .inl (cI, 64, .inl (fun _ => 0)))]) (va_runV (As := [.ref (x 10), .ref (x 17), .int 1]) (rest := []) ⟨hx, hb, hml, hown, hts⟩ (k_X2_plan l D cB cI cJ cZ s.heap.size (x 22) (x 23) (x 24) (x 25) (x 26) (x 10) (x 11) (x 12) (x 13) (x 14) (x 15) (x 16) (x 17) 1 (fun _ => 0)) (cwV 3 hts gX7_feast_X2_plan rfl rfl rfl (by decide +kernel) ⟨Nat.le_of_ble_eq_true rfl, Nat.le_of_ble_eq_true rfl⟩) (pre_V (hP.sub (ws' := [((x 22), .inr (2, [.ref (x 23), .ref (x 24), .int 0, .ref (x 25), .ref (x 26), .int 0])), ((x 26), .inl (cJ, 256, .inr (.inl (fun _ => 0)))), ((x 10), .inr (1, [.ref (x 11), .ref (x 12), .ref (x 13), .ref (x 14), .ref (x 15), .ref (x 16), .int 0]))]) [22, 26, 10] rfl) hK (hD.sub (ws' := [((x 22), .inr (2, [.ref (x 23), .ref (x 24), .int 0, .ref (x 25), .ref (x 26), .int 0])), ((x 26), .inl (cJ, 256, .inr (.inl (fun _ => 0)))), ((x 10), .inr (1, [.ref (x 11), .ref (x 12), .ref (x 13), .ref (x 14), .ref (x 15), .ref (x 16), .int 0]))]) [22, 26, 10] (by decide) rfl) 0 rfl rfl rfl) rfl rfl hl.1 rfl (lv_room (Nat.le_of_ble_eq_true rfl)) dX7_feast_19 ⟨Nat.le_of_ble_eq_true rfl, Nat.le_of_ble_eq_true rfl⟩) hP hD hS hA [22, 26, 10] [0, 1, 2, 3, 4, 5, 6, 7, 8, 9, 11, 12, 13, 14, 15, 16, 17, 18, 19, 20, 21, 23, 24, 25, 27, 28, 29, 30, 31, 32, 33] rfl rfl (by decide) (by decide) 0 0 rfl rfl (fun u_2 H locs hw_u_2 hP hD hS => ?_)
  have hP : va_P D vwCl [((x 0), .inr (7, [.ref (x 1), .ref (x 5), .ref (x 7), .ref (x 10), .ref (x 17), .ref (x 22), .ref (x 27), .int 0])), ((x 1), .inr (4, [.ref (x 2), .int 0, .int (-1), .int 0, .ref (x 4), .int 0, .int 0, .int 0, .int 0, .int 0, .int 0])), ((x 2), .inr (5, [.ref (x 3), .int 1, .int 0, .int 100, .int 7, .int 14, .int 3, .int 1, .int 8])), ((x 3), .inl (cI, 8, .inl cyc0)), ((x 4), .inl (cB, 300, .inl (fun _ => 0))), ((x 5), .inr (5, [.ref (x 6), .int 1, .int 0, .int 100, .int 7, .int 14, .int 3, .int 1, .int 8])), ((x 6), .inl (cI, 8, .inl cyc0)), ((x 7), .inr (3, [.ref (x 8), .ref (x 9), .int 0, .int 0])), ((x 8), .inl (cI, 8, .inl (fun _ => 0))), ((x 9), .inl (cI, 8, .inl (fun _ => 0))), ((x 11), .inl (cI, 16, .inl (fun _ => 0))), ((x 12), .inl (cI, 16, .inl (fun _ => 0))), ((x 13), .inl (cI, 16, .inl (fun _ => 0))), ((x 14), .inl (cI, 16, .inl (fun _ => 0))), ((x 15), .inl (cI, 16, .inl (fun _ => 0))), ((x 16), .inl (cI, 16, .inl (fun _ => 0))), ((x 17), .inr (6, [.ref (x 18), .ref (x 19), .ref (x 20), .ref (x 21), .int 0])), ((x 18), .inl (cI, 40, .inl (fun _ => 0))), ((x 19), .inl (cI, 40, .inl (fun _ => 0))), ((x 20), .inl (cZ, 40, .inl (fun _ => 0))), ((x 21), .inl (cI, 40, .inl (fun _ => 0))), ((x 23), .inl (cI, 8, .inl (fun _ => 0))), ((x 24), .inl (cI, 8, .inl (fun _ => 0))), ((x 25), .inl (cI, 8, .inl (fun _ => 0))), ((x 27), .inr (0, [.ref (x 28), .ref (x 29), .ref (x 30), .int 0, .int 0, .int 0, .ref (x 31), .ref (x 32), .ref (x 33)])), ((x 28), .inl (cI, 6, .inl (fun _ => 0))), ((x 29), .inl (cI, 6, .inl (fun _ => 0))), ((x 30), .inl (cI, 8, .inl (fun _ => 0))), ((x 31), .inl (cI, 8, .inl (fun _ => 0))), ((x 32), .inl (cI, 8, .inl (fun _ => 0))), ((x 33), .inl (cI, 64, .inl (fun _ => 0))), ((x 22), .inr (2, [.ref (x 23), .ref (x 24), .int 0, .ref (x 25), .ref (x 26), .int 0])), ((x 26), .inl (cJ, 256, .inr (.inl u_2))), ((x 10), .inr (1, [.ref (x 11), .ref (x 12), .ref (x 13), .ref (x 14), .ref (x 15), .ref (x 16), .int 0]))] H := hP
  have hD : va_D A [((x 0), .inr (7, [.ref (x 1), .ref (x 5), .ref (x 7), .ref (x 10), .ref (x 17), .ref (x 22), .ref (x 27), .int 0])), ((x 1), .inr (4, [.ref (x 2), .int 0, .int (-1), .int 0, .ref (x 4), .int 0, .int 0, .int 0, .int 0, .int 0, .int 0])), ((x 2), .inr (5, [.ref (x 3), .int 1, .int 0, .int 100, .int 7, .int 14, .int 3, .int 1, .int 8])), ((x 3), .inl (cI, 8, .inl cyc0)), ((x 4), .inl (cB, 300, .inl (fun _ => 0))), ((x 5), .inr (5, [.ref (x 6), .int 1, .int 0, .int 100, .int 7, .int 14, .int 3, .int 1, .int 8])), ((x 6), .inl (cI, 8, .inl cyc0)), ((x 7), .inr (3, [.ref (x 8), .ref (x 9), .int 0, .int 0])), ((x 8), .inl (cI, 8, .inl (fun _ => 0))), ((x 9), .inl (cI, 8, .inl (fun _ => 0))), ((x 11), .inl (cI, 16, .inl (fun _ => 0))), ((x 12), .inl (cI, 16, .inl (fun _ => 0))), ((x 13), .inl (cI, 16, .inl (fun _ => 0))), ((x 14), .inl (cI, 16, .inl (fun _ => 0))), ((x 15), .inl (cI, 16, .inl (fun _ => 0))), ((x 16), .inl (cI, 16, .inl (fun _ => 0))), ((x 17), .inr (6, [.ref (x 18), .ref (x 19), .ref (x 20), .ref (x 21), .int 0])), ((x 18), .inl (cI, 40, .inl (fun _ => 0))), ((x 19), .inl (cI, 40, .inl (fun _ => 0))), ((x 20), .inl (cZ, 40, .inl (fun _ => 0))), ((x 21), .inl (cI, 40, .inl (fun _ => 0))), ((x 23), .inl (cI, 8, .inl (fun _ => 0))), ((x 24), .inl (cI, 8, .inl (fun _ => 0))), ((x 25), .inl (cI, 8, .inl (fun _ => 0))), ((x 27), .inr (0, [.ref (x 28), .ref (x 29), .ref (x 30), .int 0, .int 0, .int 0, .ref (x 31), .ref (x 32), .ref (x 33)])), ((x 28), .inl (cI, 6, .inl (fun _ => 0))), ((x 29), .inl (cI, 6, .inl (fun _ => 0))), ((x 30), .inl (cI, 8, .inl (fun _ => 0))), ((x 31), .inl (cI, 8, .inl (fun _ => 0))), ((x 32), .inl (cI, 8, .inl (fun _ => 0))), ((x 33), .inl (cI, 64, .inl (fun _ => 0))), ((x 22), .inr (2, [.ref (x 23), .ref (x 24), .int 0, .ref (x 25), .ref (x 26), .int 0])), ((x 26), .inl (cJ, 256, .inr (.inl u_2))), ((x 10), .inr (1, [.ref (x 11), .ref (x 12), .ref (x 13), .ref (x 14), .ref (x 15), .ref (x 16), .int 0]))] := hD
  refine lv_aload_n hx hb dX7_feast_22 rfl (lv_at hl 0 rfl) ?_
  refine va_get (D := D) (ci := 7) (v := .ref (x 17)) (C := RX7) (T := TX7) (N := 8) hx hb hts w_1 hown hK hP 0 rfl rfl 4 (by decide) w_4 (fun _ h9 => h9) rfl dX7_feast_23 ?_
  refine va_get (D := D) (ci := 6) (v := .int 0) (C := RX6) (T := TX6) (N := 5) hx hb hts w_8 hown hK hP 16 rfl rfl 4 (by decide) w_9 (fun _ h9 => h9) rfl dX7_feast_26 ?_
  refine lv_aload_n hx hb dX7_feast_29 rfl (lv_at hl 0 rfl) ?_
  refine va_get (D := D) (ci := 7) (v := .ref (x 22)) (C := RX7) (T := TX7) (N := 8) hx hb hts w_1 hown hK hP 0 rfl rfl 5 (by decide) w_2 (fun _ h9 => h9) rfl dX7_feast_30 ?_
  refine vp_callSi (va_Run.run (va_runV (As := []) (rest := [.int 0]) ⟨hx, hb, hml, hown, hts⟩ (k_X2_new l D cB cI cJ cZ (x 22) (x 23) (x 24) (x 25) (x 26)) (cwV 0 hts gX7_feast_X2_newCoats rfl rfl rfl (by decide +kernel) ⟨Nat.le_of_ble_eq_true rfl, Nat.le_of_ble_eq_true rfl⟩) (pre_VR (hP.sub (ws' := [((x 22), .inr (2, [.ref (x 23), .ref (x 24), .int 0, .ref (x 25), .ref (x 26), .int 0]))]) [31] rfl) hK 0 rfl rfl rfl) rfl rfl hl.1 rfl (lv_room (Nat.le_of_ble_eq_true rfl)) dX7_feast_33 ⟨Nat.le_of_ble_eq_true rfl, Nat.le_of_ble_eq_true rfl⟩)) (fun r_3 hw_r_3 => ?_)
  subst hw_r_3
  refine sv_iadd (v := 0) hx hb dX7_feast_36 (by decide) ?_
  refine lv_bipush (v := 40) hx hb dX7_feast_37 (by decide) ?_
  refine lv_icmp_le (tgt := 44) hx hb dX7_feast_39 (by decide) (fun _ => ?_) (fun h => absurd (by decide) h)
  refine lv_iconst (v := 0) hx hb dX7_feast_44 (by decide) ?_
  refine lv_istore_n (lv' := [(1, .int 0), (0, .ref (x 0))]) hx hb dX7_feast_45 rfl hl (by decide) rfl (fun ls hl => ?_)
  refine lv_iload_n hx hb dX7_feast_46 rfl (lv_at hl 0 rfl) ?_
  refine lv_aload_n hx hb dX7_feast_47 rfl (lv_at hl 1 rfl) ?_
  refine va_get (D := D) (ci := 7) (v := .ref (x 17)) (C := RX7) (T := TX7) (N := 8) hx hb hts w_1 hown hK hP 0 rfl rfl 4 (by decide) w_4 (fun _ h9 => h9) rfl dX7_feast_48 ?_
  refine va_get (D := D) (ci := 6) (v := .int 0) (C := RX6) (T := TX6) (N := 5) hx hb hts w_8 hown hK hP 16 rfl rfl 4 (by decide) w_9 (fun _ h9 => h9) rfl dX7_feast_51 ?_
  refine lv_icmp_ge (tgt := 68) hx hb dX7_feast_54 (by decide) (fun _ => ?_) (fun h => absurd (by decide) h)
  refine lv_iconst (v := 0) hx hb dX7_feast_68 (by decide) ?_
  refine lv_istore_n (lv' := [(1, .int 0), (0, .ref (x 0))]) hx hb dX7_feast_69 rfl hl (by decide) rfl (fun ls hl => ?_)
  refine lv_iconst (v := 0) hx hb dX7_feast_70 (by decide) ?_
  refine lv_istore_n (lv' := [(2, .int 0), (1, .int 0), (0, .ref (x 0))]) hx hb dX7_feast_71 rfl hl (by decide) rfl (fun ls hl => ?_)
  refine lv_iload_n hx hb dX7_feast_72 rfl (lv_at hl 0 rfl) ?_
  refine lv_aload_n hx hb dX7_feast_73 rfl (lv_at hl 2 rfl) ?_
  refine va_get (D := D) (ci := 7) (v := .ref (x 22)) (C := RX7) (T := TX7) (N := 8) hx hb hts w_1 hown hK hP 0 rfl rfl 5 (by decide) w_2 (fun _ h9 => h9) rfl dX7_feast_74 ?_
  refine va_get (D := D) (ci := 2) (v := .int 0) (C := RX2) (T := TX2) (N := 6) hx hb hts w_10 hown hK hP 31 rfl rfl 2 (by decide) w_11 (fun _ h9 => h9) rfl dX7_feast_77 ?_
  refine lv_icmp_ge (tgt := 153) hx hb dX7_feast_80 (by decide) (fun _ => ?_) (fun h => absurd (by decide) h)
  refine lv_iload_n hx hb dX7_feast_153 rfl (lv_at hl 1 rfl) ?_
  have hP9 := hP.sub (ws' := []) [] rfl
  have hD9 := hD.sub (ws' := []) [] (by decide) rfl
  exact W.iret (v := 0) hx hb hr (fun t ht hW => ⟨⟨_, (), rfl, rfl, by rw [ht]; exact hP9, va_K.moved hW.alike hK, hD9⟩, hS.F ht⟩) hS.2.2 dX7_feast_154

