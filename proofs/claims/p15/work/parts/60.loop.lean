theorem sw_out17 {v : Int32} (h0 : ¬ v = 0) (h1 : ¬ v = 1) (h2 : ¬ v = 2) (h3 : ¬ v = 3) (h4 : ¬ v = 4) (h5 : ¬ v = 5) (h6 : ¬ v = 6) (h7 : ¬ v = 7) (h8 : ¬ v = 8) (h9 : ¬ v = 9) (h10 : ¬ v = 10) (h11 : ¬ v = 11) (h12 : ¬ v = 12) (h13 : ¬ v = 13) (h14 : ¬ v = 14) (h15 : ¬ v = 15) (h16 : ¬ v = 16) : v.toInt < 0 ∨ 16 < v.toInt := by
  have e0 := sw_toInt (k := 0) h0 (by decide) (by decide)
  have e1 := sw_toInt (k := 1) h1 (by decide) (by decide)
  have e2 := sw_toInt (k := 2) h2 (by decide) (by decide)
  have e3 := sw_toInt (k := 3) h3 (by decide) (by decide)
  have e4 := sw_toInt (k := 4) h4 (by decide) (by decide)
  have e5 := sw_toInt (k := 5) h5 (by decide) (by decide)
  have e6 := sw_toInt (k := 6) h6 (by decide) (by decide)
  have e7 := sw_toInt (k := 7) h7 (by decide) (by decide)
  have e8 := sw_toInt (k := 8) h8 (by decide) (by decide)
  have e9 := sw_toInt (k := 9) h9 (by decide) (by decide)
  have e10 := sw_toInt (k := 10) h10 (by decide) (by decide)
  have e11 := sw_toInt (k := 11) h11 (by decide) (by decide)
  have e12 := sw_toInt (k := 12) h12 (by decide) (by decide)
  have e13 := sw_toInt (k := 13) h13 (by decide) (by decide)
  have e14 := sw_toInt (k := 14) h14 (by decide) (by decide)
  have e15 := sw_toInt (k := 15) h15 (by decide) (by decide)
  have e16 := sw_toInt (k := 16) h16 (by decide) (by decide)
  omega

set_option maxHeartbeats 4000000 in
set_option maxRecDepth 100000 in
theorem law_exit {p : Program} {l : Launch} {e : Env} {s : State} {m : MethodId} {below : List Frame} {meth : Method} {c : Code} {b : Nat} {xs : Nat → Int32} {L ce sl : Nat} (C0 : lw_At p s m meth c b L xs) (hce : ce ≤ 5000) (hsl : sl ≤ 200000) {H : Heap} {locs : List Loc} {ls : Array Slot} (hS : va_S (fun q : Nat => s.heap.size ≤ q) s.heap H locs) : W p l e room_1 s m #[Value.ref b] below meth c H locs ce sl (lw_Z below #[Value.ref b] s) (F0 m 666 ls []) := by
  obtain ⟨hx, hb, hr, hml, hown, hts0, hX, hbl, hlocks, hgv⟩ := id C0
  have hown : s.vm.findClass RL = some m.cls := hown
  have hts : ∀ w ∈ lw_tbl, w.before #[Value.ref b] s = true := hts0
  have hA : ∀ q : Nat, s.heap.size ≤ q → (fun q : Nat => s.heap.size ≤ q) q := fun _ h => h
  have hbA : ¬ (fun q : Nat => s.heap.size ≤ q) b := Nat.not_le.mpr hbl
  refine lv_iconst (v := 1) hx hb dL_law_666 (by decide) ?_
  refine va_forget (fun q hq => hS.2.2 q hq) ?_
  refine W.widen (k := 601024) (n := 7293033) (Nat.le_trans hce (Nat.le_of_ble_eq_true rfl)) (Nat.le_trans hsl (Nat.le_of_ble_eq_true rfl)) ?_
  exact lw_ret hx hb hr hlocks dL_law_667
set_option maxHeartbeats 4000000 in
set_option maxRecDepth 100000 in
theorem law_body {p : Program} {l : Launch} {e : Env} {s : State} {m : MethodId} {below : List Frame} {meth : Method} {c : Code} {D : va_G} {cB cI cJ cZ : ClassId} {b : Nat} {xs : Nat → Int32} {x y sk : Nat → Nat} {q9 sa sb L i ce sl : Nat} {yr : Int32} {t1 : Int32} {t2 : Int32} {tt : Nat} {ln : Nat} {t6 : Int32} {t7 : Int32} {t8 : Int32} {t9 : Int32} {t10 : Int32} {d1 : Int32} {d2 : Int32} {d3 : Int32} {d4 : Int32} {d5 : Int32} {d6 : Int32} {d7 : Int32} {d8 : Int32} {rd : Nat → Int32} {rt : Nat → Int32} {e1 : Int32} {e2 : Int32} {e3 : Int32} {e4 : Int32} {e5 : Int32} {e6 : Int32} {e7 : Int32} {e8 : Int32} {re : Nat → Int32} {ga : Nat} {gx : Int32} {gv : Nat → Int32} {gs : Nat → Int32} {ca : Nat} {k11 : Nat → Int32} {k12 : Nat → Int32} {k13 : Nat → Int32} {k14 : Nat → Int32} {k15 : Nat → Int32} {k16 : Nat → Int32} {wa : Nat} {w18 : Nat → Int32} {w19 : Nat → Int32} {w20 : Nat → Int32} {w21 : Nat → Int32} {de : Nat} {db : Int32} {dg : Nat → Int32} {dv : Nat → Int32} {ds : Nat → Int32} {df : Nat → Int64} {hn : Nat} {h4 : Int32} {h5 : Int32} {n28 : Nat → Int32} {n29 : Nat → Int32} {n30 : Nat → Int32} {n31 : Nat → Int32} {n32 : Nat → Int32} {n33 : Nat → Int32} {m_tapeSize m_givers m_children m_coats m_legacies m_insideMany : Nat} {m_thrown m_cycleMany m_vote m_low m_high m_wear m_spare m_places m_cycleNext m_fault m_faultPlace m_giverNext m_years m_end m_next m_kind m_which m_place m_read m_readMany m_readHigh : Int32} {m_tape m_cycle m_gave m_supports m_age m_want m_size m_growth m_state m_coatSize m_worn m_gone m_wearer m_coins m_ends m_needs m_told m_rules m_inside m_can m_used m_given m_gets m_pays : Nat → Int32} {fo : Nat → Int64} (hl9 : l.stackTraces = false) (C0 : lw_At p s m meth c b L xs) (hL : L ≤ 3072) (hi6 : i + 6 ≤ L) (hce : ce + 1 ≤ 5000) (hsl : sl + 6 ≤ 200000) (hK : va_K D vwCl (aTy cB cI cJ cZ) s) (hlk : lkS s.heap.size sa sb s) (hNw : RdA (fun q : Nat => s.heap.size ≤ q) sk s s.heap) {H : Heap} {locs : List Loc} {ls : Array Slot} (hI : lawI tt ln ga ca wa hn w20 gv m_tapeSize m_givers m_children m_coats m_legacies m_vote m_giverNext m_cycleNext m_cycleMany m_supports m_gave) (hJ : payI hn n28 n31 n32 m_legacies m_needs m_coins m_ends) (hP : va_P D vwCl (lawW cB cI cJ cZ x y q9 yr t1 t2 tt ln t6 t7 t8 t9 t10 d1 d2 d3 d4 d5 d6 d7 d8 rd rt e1 e2 e3 e4 e5 e6 e7 e8 re ga gx gv gs ca k11 k12 k13 k14 k15 k16 wa w18 w19 w20 w21 de db dg dv ds df hn h4 h5 n28 n29 n30 n31 n32 n33 m_tapeSize m_givers m_children m_coats m_legacies m_insideMany m_thrown m_cycleMany m_vote m_low m_high m_wear m_spare m_places m_cycleNext m_fault m_faultPlace m_giverNext m_years m_end m_next m_kind m_which m_place m_read m_readMany m_readHigh m_tape m_cycle m_gave m_supports m_age m_want m_size m_growth m_state m_coatSize m_worn m_gone m_wearer m_coins m_ends m_needs m_told m_rules m_inside m_can m_used m_given m_gets m_pays fo) H) (hD : va_D (fun q : Nat => s.heap.size ≤ q) (lawW cB cI cJ cZ x y q9 yr t1 t2 tt ln t6 t7 t8 t9 t10 d1 d2 d3 d4 d5 d6 d7 d8 rd rt e1 e2 e3 e4 e5 e6 e7 e8 re ga gx gv gs ca k11 k12 k13 k14 k15 k16 wa w18 w19 w20 w21 de db dg dv ds df hn h4 h5 n28 n29 n30 n31 n32 n33 m_tapeSize m_givers m_children m_coats m_legacies m_insideMany m_thrown m_cycleMany m_vote m_low m_high m_wear m_spare m_places m_cycleNext m_fault m_faultPlace m_giverNext m_years m_end m_next m_kind m_which m_place m_read m_readMany m_readHigh m_tape m_cycle m_gave m_supports m_age m_want m_size m_growth m_state m_coatSize m_worn m_gone m_wearer m_coins m_ends m_needs m_told m_rules m_inside m_can m_used m_given m_gets m_pays fo)) (hS : va_S (fun q : Nat => s.heap.size ≤ q) s.heap H locs) (hl : lv_has ls 7 [(4, .int (nI i)), (3, .ref q9), (2, .ref (y 0)), (1, .ref (x 0)), (0, .ref b)]) (kend : ∀ (yr : Int32) (t1 : Int32) (t2 : Int32) (tt : Nat) (ln : Nat) (t6 : Int32) (t7 : Int32) (t8 : Int32) (t9 : Int32) (t10 : Int32) (d1 : Int32) (d2 : Int32) (d3 : Int32) (d4 : Int32) (d5 : Int32) (d6 : Int32) (d7 : Int32) (d8 : Int32) (rd : Nat → Int32) (rt : Nat → Int32) (e1 : Int32) (e2 : Int32) (e3 : Int32) (e4 : Int32) (e5 : Int32) (e6 : Int32) (e7 : Int32) (e8 : Int32) (re : Nat → Int32) (ga : Nat) (gx : Int32) (gv : Nat → Int32) (gs : Nat → Int32) (ca : Nat) (k11 : Nat → Int32) (k12 : Nat → Int32) (k13 : Nat → Int32) (k14 : Nat → Int32) (k15 : Nat → Int32) (k16 : Nat → Int32) (wa : Nat) (w18 : Nat → Int32) (w19 : Nat → Int32) (w20 : Nat → Int32) (w21 : Nat → Int32) (de : Nat) (db : Int32) (dg : Nat → Int32) (dv : Nat → Int32) (ds : Nat → Int32) (df : Nat → Int64) (hn : Nat) (h4 : Int32) (h5 : Int32) (n28 : Nat → Int32) (n29 : Nat → Int32) (n30 : Nat → Int32) (n31 : Nat → Int32) (n32 : Nat → Int32) (n33 : Nat → Int32) (m_tapeSize m_givers m_children m_coats m_legacies m_insideMany : Nat) (m_thrown m_cycleMany m_vote m_low m_high m_wear m_spare m_places m_cycleNext m_fault m_faultPlace m_giverNext m_years m_end m_next m_kind m_which m_place m_read m_readMany m_readHigh : Int32) (m_tape m_cycle m_gave m_supports m_age m_want m_size m_growth m_state m_coatSize m_worn m_gone m_wearer m_coins m_ends m_needs m_told m_rules m_inside m_can m_used m_given m_gets m_pays : Nat → Int32) (fo : Nat → Int64) (H : Heap) (locs : List Loc) (ls : Array Slot), lawI tt ln ga ca wa hn w20 gv m_tapeSize m_givers m_children m_coats m_legacies m_vote m_giverNext m_cycleNext m_cycleMany m_supports m_gave → payI hn n28 n31 n32 m_legacies m_needs m_coins m_ends → va_P D vwCl (lawW cB cI cJ cZ x y q9 yr t1 t2 tt ln t6 t7 t8 t9 t10 d1 d2 d3 d4 d5 d6 d7 d8 rd rt e1 e2 e3 e4 e5 e6 e7 e8 re ga gx gv gs ca k11 k12 k13 k14 k15 k16 wa w18 w19 w20 w21 de db dg dv ds df hn h4 h5 n28 n29 n30 n31 n32 n33 m_tapeSize m_givers m_children m_coats m_legacies m_insideMany m_thrown m_cycleMany m_vote m_low m_high m_wear m_spare m_places m_cycleNext m_fault m_faultPlace m_giverNext m_years m_end m_next m_kind m_which m_place m_read m_readMany m_readHigh m_tape m_cycle m_gave m_supports m_age m_want m_size m_growth m_state m_coatSize m_worn m_gone m_wearer m_coins m_ends m_needs m_told m_rules m_inside m_can m_used m_given m_gets m_pays fo) H → va_D (fun q : Nat => s.heap.size ≤ q) (lawW cB cI cJ cZ x y q9 yr t1 t2 tt ln t6 t7 t8 t9 t10 d1 d2 d3 d4 d5 d6 d7 d8 rd rt e1 e2 e3 e4 e5 e6 e7 e8 re ga gx gv gs ca k11 k12 k13 k14 k15 k16 wa w18 w19 w20 w21 de db dg dv ds df hn h4 h5 n28 n29 n30 n31 n32 n33 m_tapeSize m_givers m_children m_coats m_legacies m_insideMany m_thrown m_cycleMany m_vote m_low m_high m_wear m_spare m_places m_cycleNext m_fault m_faultPlace m_giverNext m_years m_end m_next m_kind m_which m_place m_read m_readMany m_readHigh m_tape m_cycle m_gave m_supports m_age m_want m_size m_growth m_state m_coatSize m_worn m_gone m_wearer m_coins m_ends m_needs m_told m_rules m_inside m_can m_used m_given m_gets m_pays fo) → va_S (fun q : Nat => s.heap.size ≤ q) s.heap H locs → lv_has ls 7 [(4, .int (nI i)), (3, .ref q9), (2, .ref (y 0)), (1, .ref (x 0)), (0, .ref b)] → W p l e room_1 s m #[Value.ref b] below meth c H locs (ce + 1) (sl + 6) (lw_Z below #[Value.ref b] s) (F0 m 660 ls [])) : W p l e room_1 s m #[Value.ref b] below meth c H locs ce sl (lw_Z below #[Value.ref b] s) (F0 m 33 ls []) := by
  obtain ⟨hx, hb, hr, hml, hown, hts0, hX, hbl, hlocks, hgv⟩ := id C0
  have hown : s.vm.findClass RL = some m.cls := hown
  have hts : ∀ w ∈ lw_tbl, w.before #[Value.ref b] s = true := hts0
  have hA : ∀ q : Nat, s.heap.size ≤ q → (fun q : Nat => s.heap.size ≤ q) q := fun _ h => h
  have hbA : ¬ (fun q : Nat => s.heap.size ≤ q) b := Nat.not_le.mpr hbl
  obtain ⟨⟨b_tt, b_ln, b_ga, b_ca, b_wa, b_hn, b_coats⟩, hz, ⟨E1, E2, E3, E4, E5⟩, ⟨hvt, hgn, hcn, hcm, hc0⟩, hsb⟩ := id hI
  have b_tapeSize : m_tapeSize ≤ 300 := by omega
  have b_givers : m_givers ≤ 8 := by omega
  have b_children : m_children ≤ 16 := by omega
  have b_legacies : m_legacies ≤ 8 := by omega
  have hP : va_P D vwCl [((x 0), .inr (7, [.ref (x 1), .ref (x 5), .ref (x 7), .ref (x 10), .ref (x 17), .ref (x 22), .ref (x 27), .int yr])), ((x 1), .inr (4, [.ref (x 2), .int t1, .int t2, .int (nI tt), .ref (x 4), .int (nI ln), .int t6, .int t7, .int t8, .int t9, .int t10])), ((x 2), .inr (5, [.ref (x 3), .int d1, .int d2, .int d3, .int d4, .int d5, .int d6, .int d7, .int d8])), ((x 3), .inl (cI, 8, .inl rd)), ((x 4), .inl (cB, 300, .inl rt)), ((x 5), .inr (5, [.ref (x 6), .int e1, .int e2, .int e3, .int e4, .int e5, .int e6, .int e7, .int e8])), ((x 6), .inl (cI, 8, .inl re)), ((x 7), .inr (3, [.ref (x 8), .ref (x 9), .int (nI ga), .int gx])), ((x 8), .inl (cI, 8, .inl gv)), ((x 9), .inl (cI, 8, .inl gs)), ((x 10), .inr (1, [.ref (x 11), .ref (x 12), .ref (x 13), .ref (x 14), .ref (x 15), .ref (x 16), .int (nI ca)])), ((x 11), .inl (cI, 16, .inl k11)), ((x 12), .inl (cI, 16, .inl k12)), ((x 13), .inl (cI, 16, .inl k13)), ((x 14), .inl (cI, 16, .inl k14)), ((x 15), .inl (cI, 16, .inl k15)), ((x 16), .inl (cI, 16, .inl k16)), ((x 17), .inr (6, [.ref (x 18), .ref (x 19), .ref (x 20), .ref (x 21), .int (nI wa)])), ((x 18), .inl (cI, 40, .inl w18)), ((x 19), .inl (cI, 40, .inl w19)), ((x 20), .inl (cZ, 40, .inl w20)), ((x 21), .inl (cI, 40, .inl w21)), ((x 22), .inr (2, [.ref (x 23), .ref (x 24), .int (nI de), .ref (x 25), .ref (x 26), .int db])), ((x 23), .inl (cI, 8, .inl dg)), ((x 24), .inl (cI, 8, .inl dv)), ((x 25), .inl (cI, 8, .inl ds)), ((x 26), .inl (cJ, 256, .inr (.inl df))), ((x 27), .inr (0, [.ref (x 28), .ref (x 29), .ref (x 30), .int (nI hn), .int h4, .int h5, .ref (x 31), .ref (x 32), .ref (x 33)])), ((x 28), .inl (cI, 6, .inl n28)), ((x 29), .inl (cI, 6, .inl n29)), ((x 30), .inl (cI, 8, .inl n30)), ((x 31), .inl (cI, 8, .inl n31)), ((x 32), .inl (cI, 8, .inl n32)), ((x 33), .inl (cI, 64, .inl n33)), ((y 0), .inr (8, [.ref (y 1), .int (nI m_tapeSize), .int m_thrown, .ref (y 2), .int m_cycleMany, .int m_vote, .int m_low, .int m_high, .int m_wear, .int m_spare, .int m_places, .int m_cycleNext, .int m_fault, .int m_faultPlace, .int (nI m_givers), .ref (y 3), .ref (y 4), .int m_giverNext, .int (nI m_children), .ref (y 5), .ref (y 6), .ref (y 7), .ref (y 8), .ref (y 9), .int (nI m_coats), .ref (y 10), .ref (y 11), .ref (y 12), .ref (y 13), .int m_years, .int (nI m_legacies), .ref (y 14), .ref (y 15), .ref (y 16), .ref (y 17), .int m_end, .int m_next, .int m_kind, .int m_which, .int m_place, .int m_read, .ref (y 18), .ref (y 19), .int m_readMany, .int m_readHigh, .ref (y 20), .int (nI m_insideMany), .ref (y 21), .ref (y 22), .ref (y 23), .ref (y 24), .ref (y 25)])), ((y 1), .inl (cI, 300, .inl m_tape)), ((y 2), .inl (cI, 16, .inl m_cycle)), ((y 3), .inl (cI, 8, .inl m_gave)), ((y 4), .inl (cI, 8, .inl m_supports)), ((y 5), .inl (cI, 16, .inl m_age)), ((y 6), .inl (cI, 16, .inl m_want)), ((y 7), .inl (cI, 16, .inl m_size)), ((y 8), .inl (cI, 16, .inl m_growth)), ((y 9), .inl (cI, 16, .inl m_state)), ((y 10), .inl (cI, 40, .inl m_coatSize)), ((y 11), .inl (cI, 40, .inl m_worn)), ((y 12), .inl (cZ, 40, .inl m_gone)), ((y 13), .inl (cI, 40, .inl m_wearer)), ((y 14), .inl (cI, 8, .inl m_coins)), ((y 15), .inl (cI, 8, .inl m_ends)), ((y 16), .inl (cI, 6, .inl m_needs)), ((y 17), .inl (cI, 43, .inl (fa_fill (fun j => wsg.getD j 0) (fun _ => 0) 43))), ((y 18), .inl (cZ, 8, .inl m_told)), ((y 19), .inl (cI, 8, .inl m_rules)), ((y 20), .inl (cI, 16, .inl m_inside)), ((y 21), .inl (cZ, 65536, .inl m_can)), ((y 22), .inl (cZ, 40, .inl m_used)), ((y 23), .inl (cI, 16, .inl m_given)), ((y 24), .inl (cI, 6, .inl m_gets)), ((y 25), .inl (cI, 8, .inl m_pays)), (q9, .inl (cJ, 1, .inr (.inl fo)))] H := hP
  have hD : va_D (fun q : Nat => s.heap.size ≤ q) [((x 0), .inr (7, [.ref (x 1), .ref (x 5), .ref (x 7), .ref (x 10), .ref (x 17), .ref (x 22), .ref (x 27), .int yr])), ((x 1), .inr (4, [.ref (x 2), .int t1, .int t2, .int (nI tt), .ref (x 4), .int (nI ln), .int t6, .int t7, .int t8, .int t9, .int t10])), ((x 2), .inr (5, [.ref (x 3), .int d1, .int d2, .int d3, .int d4, .int d5, .int d6, .int d7, .int d8])), ((x 3), .inl (cI, 8, .inl rd)), ((x 4), .inl (cB, 300, .inl rt)), ((x 5), .inr (5, [.ref (x 6), .int e1, .int e2, .int e3, .int e4, .int e5, .int e6, .int e7, .int e8])), ((x 6), .inl (cI, 8, .inl re)), ((x 7), .inr (3, [.ref (x 8), .ref (x 9), .int (nI ga), .int gx])), ((x 8), .inl (cI, 8, .inl gv)), ((x 9), .inl (cI, 8, .inl gs)), ((x 10), .inr (1, [.ref (x 11), .ref (x 12), .ref (x 13), .ref (x 14), .ref (x 15), .ref (x 16), .int (nI ca)])), ((x 11), .inl (cI, 16, .inl k11)), ((x 12), .inl (cI, 16, .inl k12)), ((x 13), .inl (cI, 16, .inl k13)), ((x 14), .inl (cI, 16, .inl k14)), ((x 15), .inl (cI, 16, .inl k15)), ((x 16), .inl (cI, 16, .inl k16)), ((x 17), .inr (6, [.ref (x 18), .ref (x 19), .ref (x 20), .ref (x 21), .int (nI wa)])), ((x 18), .inl (cI, 40, .inl w18)), ((x 19), .inl (cI, 40, .inl w19)), ((x 20), .inl (cZ, 40, .inl w20)), ((x 21), .inl (cI, 40, .inl w21)), ((x 22), .inr (2, [.ref (x 23), .ref (x 24), .int (nI de), .ref (x 25), .ref (x 26), .int db])), ((x 23), .inl (cI, 8, .inl dg)), ((x 24), .inl (cI, 8, .inl dv)), ((x 25), .inl (cI, 8, .inl ds)), ((x 26), .inl (cJ, 256, .inr (.inl df))), ((x 27), .inr (0, [.ref (x 28), .ref (x 29), .ref (x 30), .int (nI hn), .int h4, .int h5, .ref (x 31), .ref (x 32), .ref (x 33)])), ((x 28), .inl (cI, 6, .inl n28)), ((x 29), .inl (cI, 6, .inl n29)), ((x 30), .inl (cI, 8, .inl n30)), ((x 31), .inl (cI, 8, .inl n31)), ((x 32), .inl (cI, 8, .inl n32)), ((x 33), .inl (cI, 64, .inl n33)), ((y 0), .inr (8, [.ref (y 1), .int (nI m_tapeSize), .int m_thrown, .ref (y 2), .int m_cycleMany, .int m_vote, .int m_low, .int m_high, .int m_wear, .int m_spare, .int m_places, .int m_cycleNext, .int m_fault, .int m_faultPlace, .int (nI m_givers), .ref (y 3), .ref (y 4), .int m_giverNext, .int (nI m_children), .ref (y 5), .ref (y 6), .ref (y 7), .ref (y 8), .ref (y 9), .int (nI m_coats), .ref (y 10), .ref (y 11), .ref (y 12), .ref (y 13), .int m_years, .int (nI m_legacies), .ref (y 14), .ref (y 15), .ref (y 16), .ref (y 17), .int m_end, .int m_next, .int m_kind, .int m_which, .int m_place, .int m_read, .ref (y 18), .ref (y 19), .int m_readMany, .int m_readHigh, .ref (y 20), .int (nI m_insideMany), .ref (y 21), .ref (y 22), .ref (y 23), .ref (y 24), .ref (y 25)])), ((y 1), .inl (cI, 300, .inl m_tape)), ((y 2), .inl (cI, 16, .inl m_cycle)), ((y 3), .inl (cI, 8, .inl m_gave)), ((y 4), .inl (cI, 8, .inl m_supports)), ((y 5), .inl (cI, 16, .inl m_age)), ((y 6), .inl (cI, 16, .inl m_want)), ((y 7), .inl (cI, 16, .inl m_size)), ((y 8), .inl (cI, 16, .inl m_growth)), ((y 9), .inl (cI, 16, .inl m_state)), ((y 10), .inl (cI, 40, .inl m_coatSize)), ((y 11), .inl (cI, 40, .inl m_worn)), ((y 12), .inl (cZ, 40, .inl m_gone)), ((y 13), .inl (cI, 40, .inl m_wearer)), ((y 14), .inl (cI, 8, .inl m_coins)), ((y 15), .inl (cI, 8, .inl m_ends)), ((y 16), .inl (cI, 6, .inl m_needs)), ((y 17), .inl (cI, 43, .inl (fa_fill (fun j => wsg.getD j 0) (fun _ => 0) 43))), ((y 18), .inl (cZ, 8, .inl m_told)), ((y 19), .inl (cI, 8, .inl m_rules)), ((y 20), .inl (cI, 16, .inl m_inside)), ((y 21), .inl (cZ, 65536, .inl m_can)), ((y 22), .inl (cZ, 40, .inl m_used)), ((y 23), .inl (cI, 16, .inl m_given)), ((y 24), .inl (cI, 6, .inl m_gets)), ((y 25), .inl (cI, 8, .inl m_pays)), (q9, .inl (cJ, 1, .inr (.inl fo)))] := hD
  have hndx := (pj_x hJ).1
  have hlgx := (pj_x hJ).2
  have hndm := (pj_m hJ).1
  have hlgm := (pj_m hJ).2
  refine lv_aload_n hx hb dL_law_33 rfl (lv_at hl 4 rfl) ?_
  refine lv_iload hx hb dL_law_34 (lv_at hl 0 rfl) ?_
  refine va_sld hx hb hX hbl hbA hS (i := nI i) (vp_in_nI (by omega) (by omega)) dL_law_36 ?_
  refine lv_bipush (v := 31) hx hb dL_law_37 (by decide) ?_
  refine lv_iand hx hb dL_law_39 ?_
  refine lv_topi (fun v ev => ?_)
  clear ev
  by_cases kc0 : v = 0
  · subst kc0
    refine lv_tableIn (off := 84) (tgt := 124) hx hb dL_law_40 (by decide) (by decide) rfl (by decide) ?_
    exact law_0 hl9 C0 hL hi6 hce hsl hK hlk hNw hI hJ hP hD hS hl kend
  by_cases kc1 : v = 1
  · subst kc1
    refine lv_tableIn (off := 157) (tgt := 197) hx hb dL_law_40 (by decide) (by decide) rfl (by decide) ?_
    exact law_1 hl9 C0 hL hi6 hce hsl hK hlk hNw hI hJ hP hD hS hl kend
  by_cases kc2 : v = 2
  · subst kc2
    refine lv_tableIn (off := 182) (tgt := 222) hx hb dL_law_40 (by decide) (by decide) rfl (by decide) ?_
    exact law_2 hl9 C0 hL hi6 hce hsl hK hlk hNw hI hJ hP hD hS hl kend
  by_cases kc3 : v = 3
  · subst kc3
    refine lv_tableIn (off := 207) (tgt := 247) hx hb dL_law_40 (by decide) (by decide) rfl (by decide) ?_
    exact law_3 hl9 C0 hL hi6 hce hsl hK hlk hNw hI hJ hP hD hS hl kend
  by_cases kc4 : v = 4
  · subst kc4
    refine lv_tableIn (off := 220) (tgt := 260) hx hb dL_law_40 (by decide) (by decide) rfl (by decide) ?_
    exact law_4 hl9 C0 hL hi6 hce hsl hK hlk hNw hI hJ hP hD hS hl kend
  by_cases kc5 : v = 5
  · subst kc5
    refine lv_tableIn (off := 257) (tgt := 297) hx hb dL_law_40 (by decide) (by decide) rfl (by decide) ?_
    exact law_5 hl9 C0 hL hi6 hce hsl hK hlk hNw hI hJ hP hD hS hl kend
  by_cases kc6 : v = 6
  · subst kc6
    refine lv_tableIn (off := 294) (tgt := 334) hx hb dL_law_40 (by decide) (by decide) rfl (by decide) ?_
    exact law_6 hl9 C0 hL hi6 hce hsl hK hlk hNw hI hJ hP hD hS hl kend
  by_cases kc7 : v = 7
  · subst kc7
    refine lv_tableIn (off := 355) (tgt := 395) hx hb dL_law_40 (by decide) (by decide) rfl (by decide) ?_
    exact law_7 hl9 C0 hL hi6 hce hsl hK hlk hNw hI hJ hP hD hS hl kend
  by_cases kc8 : v = 8
  · subst kc8
    refine lv_tableIn (off := 368) (tgt := 408) hx hb dL_law_40 (by decide) (by decide) rfl (by decide) ?_
    exact law_8 hl9 C0 hL hi6 hce hsl hK hlk hNw hI hJ hP hD hS hl kend
  by_cases kc9 : v = 9
  · subst kc9
    refine lv_tableIn (off := 381) (tgt := 421) hx hb dL_law_40 (by decide) (by decide) rfl (by decide) ?_
    exact law_9 hl9 C0 hL hi6 hce hsl hK hlk hNw hI hJ hP hD hS hl kend
  by_cases kc10 : v = 10
  · subst kc10
    refine lv_tableIn (off := 394) (tgt := 434) hx hb dL_law_40 (by decide) (by decide) rfl (by decide) ?_
    exact law_10 hl9 C0 hL hi6 hce hsl hK hlk hNw hI hJ hP hD hS hl kend
  by_cases kc11 : v = 11
  · subst kc11
    refine lv_tableIn (off := 431) (tgt := 471) hx hb dL_law_40 (by decide) (by decide) rfl (by decide) ?_
    exact law_11 hl9 C0 hL hi6 hce hsl hK hlk hNw hI hJ hP hD hS hl kend
  by_cases kc12 : v = 12
  · subst kc12
    refine lv_tableIn (off := 468) (tgt := 508) hx hb dL_law_40 (by decide) (by decide) rfl (by decide) ?_
    exact law_12 hl9 C0 hL hi6 hce hsl hK hlk hNw hI hJ hP hD hS hl kend
  by_cases kc13 : v = 13
  · subst kc13
    refine lv_tableIn (off := 505) (tgt := 545) hx hb dL_law_40 (by decide) (by decide) rfl (by decide) ?_
    exact law_13 hl9 C0 hL hi6 hce hsl hK hlk hNw hI hJ hP hD hS hl kend
  by_cases kc14 : v = 14
  · subst kc14
    refine lv_tableIn (off := 518) (tgt := 558) hx hb dL_law_40 (by decide) (by decide) rfl (by decide) ?_
    exact law_14 hl9 C0 hL hi6 hce hsl hK hlk hNw hI hJ hP hD hS hl kend
  by_cases kc15 : v = 15
  · subst kc15
    refine lv_tableIn (off := 558) (tgt := 598) hx hb dL_law_40 (by decide) (by decide) rfl (by decide) ?_
    exact law_15 hl9 C0 hL hi6 hce hsl hK hlk hNw hI hJ hP hD hS hl kend
  by_cases kc16 : v = 16
  · subst kc16
    refine lv_tableIn (off := 595) (tgt := 635) hx hb dL_law_40 (by decide) (by decide) rfl (by decide) ?_
    exact law_16 hl9 C0 hL hi6 hce hsl hK hlk hNw hI hJ hP hD hS hl kend
  refine lv_tableOut (tgt := 660) hx hb dL_law_40 (sw_out17 kc0 kc1 kc2 kc3 kc4 kc5 kc6 kc7 kc8 kc9 kc10 kc11 kc12 kc13 kc14 kc15 kc16) (by decide) ?_
  refine W.widen (k := ce + 1) (n := sl + 6) (Nat.le_add_right _ _) (Nat.le_add_right _ _) ?_
  exact kend yr t1 t2 tt ln t6 t7 t8 t9 t10 d1 d2 d3 d4 d5 d6 d7 d8 rd rt e1 e2 e3 e4 e5 e6 e7 e8 re ga gx gv gs ca k11 k12 k13 k14 k15 k16 wa w18 w19 w20 w21 de db dg dv ds df hn h4 h5 n28 n29 n30 n31 n32 n33 m_tapeSize m_givers m_children m_coats m_legacies m_insideMany m_thrown m_cycleMany m_vote m_low m_high m_wear m_spare m_places m_cycleNext m_fault m_faultPlace m_giverNext m_years m_end m_next m_kind m_which m_place m_read m_readMany m_readHigh m_tape m_cycle m_gave m_supports m_age m_want m_size m_growth m_state m_coatSize m_worn m_gone m_wearer m_coins m_ends m_needs m_told m_rules m_inside m_can m_used m_given m_gets m_pays fo H locs ls hI hJ hP hD hS hl
set_option maxHeartbeats 4000000 in
set_option maxRecDepth 100000 in
theorem law_loop {p : Program} {l : Launch} {e : Env} {s : State} {m : MethodId} {below : List Frame} {meth : Method} {c : Code} {D : va_G} {cB cI cJ cZ : ClassId} {b : Nat} {xs : Nat → Int32} {x y sk : Nat → Nat} {q9 sa sb L : Nat} (hl9 : l.stackTraces = false) (C0 : lw_At p s m meth c b L xs) (hL : L ≤ 3072) (hK : va_K D vwCl (aTy cB cI cJ cZ) s) (hlk : lkS s.heap.size sa sb s) (hNw : RdA (fun q : Nat => s.heap.size ≤ q) sk s s.heap) : ∀ (n i ce sl : Nat) (yr : Int32) (t1 : Int32) (t2 : Int32) (tt : Nat) (ln : Nat) (t6 : Int32) (t7 : Int32) (t8 : Int32) (t9 : Int32) (t10 : Int32) (d1 : Int32) (d2 : Int32) (d3 : Int32) (d4 : Int32) (d5 : Int32) (d6 : Int32) (d7 : Int32) (d8 : Int32) (rd : Nat → Int32) (rt : Nat → Int32) (e1 : Int32) (e2 : Int32) (e3 : Int32) (e4 : Int32) (e5 : Int32) (e6 : Int32) (e7 : Int32) (e8 : Int32) (re : Nat → Int32) (ga : Nat) (gx : Int32) (gv : Nat → Int32) (gs : Nat → Int32) (ca : Nat) (k11 : Nat → Int32) (k12 : Nat → Int32) (k13 : Nat → Int32) (k14 : Nat → Int32) (k15 : Nat → Int32) (k16 : Nat → Int32) (wa : Nat) (w18 : Nat → Int32) (w19 : Nat → Int32) (w20 : Nat → Int32) (w21 : Nat → Int32) (de : Nat) (db : Int32) (dg : Nat → Int32) (dv : Nat → Int32) (ds : Nat → Int32) (df : Nat → Int64) (hn : Nat) (h4 : Int32) (h5 : Int32) (n28 : Nat → Int32) (n29 : Nat → Int32) (n30 : Nat → Int32) (n31 : Nat → Int32) (n32 : Nat → Int32) (n33 : Nat → Int32) (m_tapeSize m_givers m_children m_coats m_legacies m_insideMany : Nat) (m_thrown m_cycleMany m_vote m_low m_high m_wear m_spare m_places m_cycleNext m_fault m_faultPlace m_giverNext m_years m_end m_next m_kind m_which m_place m_read m_readMany m_readHigh : Int32) (m_tape m_cycle m_gave m_supports m_age m_want m_size m_growth m_state m_coatSize m_worn m_gone m_wearer m_coins m_ends m_needs m_told m_rules m_inside m_can m_used m_given m_gets m_pays : Nat → Int32) (fo : Nat → Int64) (H : Heap) (locs : List Loc) (ls : Array Slot), L + 6 - i < n → i ≤ 3078 → ce ≤ 61 + i → sl ≤ 67364 + i → lawI tt ln ga ca wa hn w20 gv m_tapeSize m_givers m_children m_coats m_legacies m_vote m_giverNext m_cycleNext m_cycleMany m_supports m_gave → payI hn n28 n31 n32 m_legacies m_needs m_coins m_ends → va_P D vwCl (lawW cB cI cJ cZ x y q9 yr t1 t2 tt ln t6 t7 t8 t9 t10 d1 d2 d3 d4 d5 d6 d7 d8 rd rt e1 e2 e3 e4 e5 e6 e7 e8 re ga gx gv gs ca k11 k12 k13 k14 k15 k16 wa w18 w19 w20 w21 de db dg dv ds df hn h4 h5 n28 n29 n30 n31 n32 n33 m_tapeSize m_givers m_children m_coats m_legacies m_insideMany m_thrown m_cycleMany m_vote m_low m_high m_wear m_spare m_places m_cycleNext m_fault m_faultPlace m_giverNext m_years m_end m_next m_kind m_which m_place m_read m_readMany m_readHigh m_tape m_cycle m_gave m_supports m_age m_want m_size m_growth m_state m_coatSize m_worn m_gone m_wearer m_coins m_ends m_needs m_told m_rules m_inside m_can m_used m_given m_gets m_pays fo) H → va_D (fun q : Nat => s.heap.size ≤ q) (lawW cB cI cJ cZ x y q9 yr t1 t2 tt ln t6 t7 t8 t9 t10 d1 d2 d3 d4 d5 d6 d7 d8 rd rt e1 e2 e3 e4 e5 e6 e7 e8 re ga gx gv gs ca k11 k12 k13 k14 k15 k16 wa w18 w19 w20 w21 de db dg dv ds df hn h4 h5 n28 n29 n30 n31 n32 n33 m_tapeSize m_givers m_children m_coats m_legacies m_insideMany m_thrown m_cycleMany m_vote m_low m_high m_wear m_spare m_places m_cycleNext m_fault m_faultPlace m_giverNext m_years m_end m_next m_kind m_which m_place m_read m_readMany m_readHigh m_tape m_cycle m_gave m_supports m_age m_want m_size m_growth m_state m_coatSize m_worn m_gone m_wearer m_coins m_ends m_needs m_told m_rules m_inside m_can m_used m_given m_gets m_pays fo) → va_S (fun q : Nat => s.heap.size ≤ q) s.heap H locs → lv_has ls 7 [(4, .int (nI i)), (3, .ref q9), (2, .ref (y 0)), (1, .ref (x 0)), (0, .ref b)] → W p l e room_1 s m #[Value.ref b] below meth c H locs ce sl (lw_Z below #[Value.ref b] s) (F0 m 23 ls []) := by
  obtain ⟨hx, hb, hr, hml, hown, hts0, hX, hbl, hlocks, hgv⟩ := id C0
  have hown : s.vm.findClass RL = some m.cls := hown
  have hts : ∀ w ∈ lw_tbl, w.before #[Value.ref b] s = true := hts0
  have hA : ∀ q : Nat, s.heap.size ≤ q → (fun q : Nat => s.heap.size ≤ q) q := fun _ h => h
  have hbA : ¬ (fun q : Nat => s.heap.size ≤ q) b := Nat.not_le.mpr hbl
  intro n
  induction n with
  | zero => intro i ce sl yr t1 t2 tt ln t6 t7 t8 t9 t10 d1 d2 d3 d4 d5 d6 d7 d8 rd rt e1 e2 e3 e4 e5 e6 e7 e8 re ga gx gv gs ca k11 k12 k13 k14 k15 k16 wa w18 w19 w20 w21 de db dg dv ds df hn h4 h5 n28 n29 n30 n31 n32 n33 m_tapeSize m_givers m_children m_coats m_legacies m_insideMany m_thrown m_cycleMany m_vote m_low m_high m_wear m_spare m_places m_cycleNext m_fault m_faultPlace m_giverNext m_years m_end m_next m_kind m_which m_place m_read m_readMany m_readHigh m_tape m_cycle m_gave m_supports m_age m_want m_size m_growth m_state m_coatSize m_worn m_gone m_wearer m_coins m_ends m_needs m_told m_rules m_inside m_can m_used m_given m_gets m_pays fo H locs ls hn; exact absurd hn (Nat.not_lt_zero _)
  | succ n ih =>
    intro i ce sl yr t1 t2 tt ln t6 t7 t8 t9 t10 d1 d2 d3 d4 d5 d6 d7 d8 rd rt e1 e2 e3 e4 e5 e6 e7 e8 re ga gx gv gs ca k11 k12 k13 k14 k15 k16 wa w18 w19 w20 w21 de db dg dv ds df hn h4 h5 n28 n29 n30 n31 n32 n33 m_tapeSize m_givers m_children m_coats m_legacies m_insideMany m_thrown m_cycleMany m_vote m_low m_high m_wear m_spare m_places m_cycleNext m_fault m_faultPlace m_giverNext m_years m_end m_next m_kind m_which m_place m_read m_readMany m_readHigh m_tape m_cycle m_gave m_supports m_age m_want m_size m_growth m_state m_coatSize m_worn m_gone m_wearer m_coins m_ends m_needs m_told m_rules m_inside m_can m_used m_given m_gets m_pays fo H locs ls hn hi hce hsl hI hJ hP hD hS hl
    refine lv_iload hx hb dL_law_23 (lv_at hl 0 rfl) ?_
    refine lv_aload_n hx hb dL_law_25 rfl (lv_at hl 4 rfl) ?_
    refine va_slen hx hb hX hbl hbA hS dL_law_26 ?_
    refine lv_bipush (v := 6) hx hb dL_law_27 (by decide) ?_
    refine lv_isub hx hb dL_law_29 ?_
    refine lv_icmp_gt (tgt := 666) hx hb dL_law_30 (by decide) (fun _ => ?_) (fun hc => ?_)
    · exact law_exit C0 (by omega) (by omega) hS
    · have hi6 : i + 6 ≤ L := law_go hL hi hc
      refine law_body hl9 C0 hL hi6 (by omega) (by omega) hK hlk hNw hI hJ hP hD hS hl ?_
      intro yr t1 t2 tt ln t6 t7 t8 t9 t10 d1 d2 d3 d4 d5 d6 d7 d8 rd rt e1 e2 e3 e4 e5 e6 e7 e8 re ga gx gv gs ca k11 k12 k13 k14 k15 k16 wa w18 w19 w20 w21 de db dg dv ds df hn h4 h5 n28 n29 n30 n31 n32 n33 m_tapeSize m_givers m_children m_coats m_legacies m_insideMany m_thrown m_cycleMany m_vote m_low m_high m_wear m_spare m_places m_cycleNext m_fault m_faultPlace m_giverNext m_years m_end m_next m_kind m_which m_place m_read m_readMany m_readHigh m_tape m_cycle m_gave m_supports m_age m_want m_size m_growth m_state m_coatSize m_worn m_gone m_wearer m_coins m_ends m_needs m_told m_rules m_inside m_can m_used m_given m_gets m_pays fo H locs ls hI hJ hP hD hS hl
      refine lv_iinc (v := nI (i + 6)) (lv' := [(4, .int (nI (i + 6))), (3, .ref q9), (2, .ref (y 0)), (1, .ref (x 0)), (0, .ref b)]) hx hb dL_law_660 hl (k := 0) rfl (ax_add i 6) (by decide) rfl (fun ls hl => ?_)
      refine lv_goto (tgt := 23) hx hb dL_law_663 (by decide) ?_
      exact ih (i + 6) (ce + 1) (sl + 6) yr t1 t2 tt ln t6 t7 t8 t9 t10 d1 d2 d3 d4 d5 d6 d7 d8 rd rt e1 e2 e3 e4 e5 e6 e7 e8 re ga gx gv gs ca k11 k12 k13 k14 k15 k16 wa w18 w19 w20 w21 de db dg dv ds df hn h4 h5 n28 n29 n30 n31 n32 n33 m_tapeSize m_givers m_children m_coats m_legacies m_insideMany m_thrown m_cycleMany m_vote m_low m_high m_wear m_spare m_places m_cycleNext m_fault m_faultPlace m_giverNext m_years m_end m_next m_kind m_which m_place m_read m_readMany m_readHigh m_tape m_cycle m_gave m_supports m_age m_want m_size m_growth m_state m_coatSize m_worn m_gone m_wearer m_coins m_ends m_needs m_told m_rules m_inside m_can m_used m_given m_gets m_pays fo H locs ls (by omega) (by omega) (by omega) (by omega) hI hJ hP hD hS hl
