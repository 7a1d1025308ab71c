/-! THE CLAIM OUT OF ONE WALK OF THE LAW'S BODY. Your part is whole_start (and what it stands on); all else here is the same for every law, but numbers. -/
def R_law : String := "BlueCoatsLaw"
def lw_P (b : Addr) (xs : List Int32) (args : Array Value) (s : State) : Prop := args = #[.ref b] ∧ s.IntsAt b xs ∧ xs.length ≤ 3072 ∧ (Jvm.Cond.and given_1 narrow_1).before args s = true
def lw_Q (_ : Array Value) (s : State) (o : Outcome) (t : State) : Prop := o = .returned (some (.int 1)) ∧ Framed s o t [] 601024 7293033
def lw_Z (below : List Frame) (a : Array Value) (s : State) : State → Prop := fun t => ∃ o, t.status = .running ∧ Ended t below o ∧ lw_Q a s o t
/-- the law's own end, with 1 on the stack, nothing written that was there before, its room as the claim has it -/
theorem lw_ret {p : Program} {l : Launch} {e : Env} {s : State} {m : MethodId} {below : List Frame} {meth : Method} {c : Code} {b : Nat} (hx : p.tables.exec = Jvm.exec) (hb : c.code = code) (hr : meth.sig.returnType = ret) (hlocks : meth.locks = false) {pc : Nat} {H : Heap} {ls : Array Slot} (hdg : decode code pc = .ok (.ireturn, 1)) : W p l e room_1 s m #[Value.ref b] below meth c H [] 601024 7293033 (lw_Z below #[Value.ref b] s) (F0 m pc ls [.int 1]) := by
  intro T hT X
  obtain ⟨fs, hret, hrun, hended, hW, hframe⟩ := X.leave (v := some (.int 1)) (hlocks := hlocks) (fun h => by rw [hr] at h; cases h)
  have hmeth' : T.vm.method? m = some meth := X.method'
  refine ⟨T.setFrames fs, ?_, .returned (some (.int 1)), hrun, hended, rfl, ⟨_, rfl⟩, hW, hframe⟩
  jvm_step X.here [X.here.top, hx, hb, hdg, hmeth', hr, ret, narrow_b1]
  (try refine ⟨rfl, ?_⟩); (try refine ⟨rfl, ?_⟩)
  first | (intro acts; rw [hret _ acts rfl rfl rfl]) | rw [hret _ _ rfl rfl rfl]
  exact Steps.refl _
/-- what holds at the law's entry: the machine, the code, the tables' words (any of lw_tbl by 'hts w (by decide +kernel)'), the script of L ints xs at the cell b, what the Statement gives of the start (any of its parts by flat_of_before) -/
def lw_At (p : Program) (s : State) (m : MethodId) (meth : Method) (c : Code) (b L : Nat) (xs : Nat → Int32) : Prop :=
  p.tables.exec = Jvm.exec ∧ c.code = code ∧ meth.sig.returnType = ret ∧ c.maxLocals = 7 ∧ s.vm.findClass R_law = some m.cls ∧ (∀ w ∈ lw_tbl, w.before #[Value.ref b] s = true) ∧ va_X b L xs s s.heap ∧ b < s.heap.size ∧ meth.locks = false ∧ (Jvm.Cond.and given_1 narrow_1).before #[Value.ref b] s = true
/-! The law: what holds between its calls. -/
abbrev lawW (cB cI cJ cZ : ClassId) (x y : Nat → Nat) (q9 : Nat) (yr : Int32) (t1 : Int32) (t2 : Int32) (tt : Nat) (ln : Nat) (t6 : Int32) (t7 : Int32) (t8 : Int32) (t9 : Int32) (t10 : Int32) (d1 : Int32) (d2 : Int32) (d3 : Int32) (d4 : Int32) (d5 : Int32) (d6 : Int32) (d7 : Int32) (d8 : Int32) (rd : Nat → Int32) (rt : Nat → Int32) (e1 : Int32) (e2 : Int32) (e3 : Int32) (e4 : Int32) (e5 : Int32) (e6 : Int32) (e7 : Int32) (e8 : Int32) (re : Nat → Int32) (ga : Nat) (gx : Int32) (gv : Nat → Int32) (gs : Nat → Int32) (ca : Nat) (k11 : Nat → Int32) (k12 : Nat → Int32) (k13 : Nat → Int32) (k14 : Nat → Int32) (k15 : Nat → Int32) (k16 : Nat → Int32) (wa : Nat) (w18 : Nat → Int32) (w19 : Nat → Int32) (w20 : Nat → Int32) (w21 : Nat → Int32) (de : Nat) (db : Int32) (dg : Nat → Int32) (dv : Nat → Int32) (ds : Nat → Int32) (df : Nat → Int64) (hn : Nat) (h4 : Int32) (h5 : Int32) (n28 : Nat → Int32) (n29 : Nat → Int32) (n30 : Nat → Int32) (n31 : Nat → Int32) (n32 : Nat → Int32) (n33 : Nat → Int32) (m_tapeSize m_givers m_children m_coats m_legacies m_insideMany : Nat) (m_thrown m_cycleMany m_vote m_low m_high m_wear m_spare m_places m_cycleNext m_fault m_faultPlace m_giverNext m_years m_end m_next m_kind m_which m_place m_read m_readMany m_readHigh : Int32) (m_tape m_cycle m_gave m_supports m_age m_want m_size m_growth m_state m_coatSize m_worn m_gone m_wearer m_coins m_ends m_needs m_told m_rules m_inside m_can m_used m_given m_gets m_pays : Nat → Int32) (fo : Nat → Int64) : va_W := [((x 0), .inr (7, [.ref (x 1), .ref (x 5), .ref (x 7), .ref (x 10), .ref (x 17), .ref (x 22), .ref (x 27), .int yr])), ((x 1), .inr (4, [.ref (x 2), .int t1, .int t2, .int (nI tt), .ref (x 4), .int (nI ln), .int t6, .int t7, .int t8, .int t9, .int t10])), ((x 2), .inr (5, [.ref (x 3), .int d1, .int d2, .int d3, .int d4, .int d5, .int d6, .int d7, .int d8])), ((x 3), .inl (cI, 8, .inl rd)), ((x 4), .inl (cB, 300, .inl rt)), ((x 5), .inr (5, [.ref (x 6), .int e1, .int e2, .int e3, .int e4, .int e5, .int e6, .int e7, .int e8])), ((x 6), .inl (cI, 8, .inl re)), ((x 7), .inr (3, [.ref (x 8), .ref (x 9), .int (nI ga), .int gx])), ((x 8), .inl (cI, 8, .inl gv)), ((x 9), .inl (cI, 8, .inl gs)), ((x 10), .inr (1, [.ref (x 11), .ref (x 12), .ref (x 13), .ref (x 14), .ref (x 15), .ref (x 16), .int (nI ca)])), ((x 11), .inl (cI, 16, .inl k11)), ((x 12), .inl (cI, 16, .inl k12)), ((x 13), .inl (cI, 16, .inl k13)), ((x 14), .inl (cI, 16, .inl k14)), ((x 15), .inl (cI, 16, .inl k15)), ((x 16), .inl (cI, 16, .inl k16)), ((x 17), .inr (6, [.ref (x 18), .ref (x 19), .ref (x 20), .ref (x 21), .int (nI wa)])), ((x 18), .inl (cI, 40, .inl w18)), ((x 19), .inl (cI, 40, .inl w19)), ((x 20), .inl (cZ, 40, .inl w20)), ((x 21), .inl (cI, 40, .inl w21)), ((x 22), .inr (2, [.ref (x 23), .ref (x 24), .int (nI de), .ref (x 25), .ref (x 26), .int db])), ((x 23), .inl (cI, 8, .inl dg)), ((x 24), .inl (cI, 8, .inl dv)), ((x 25), .inl (cI, 8, .inl ds)), ((x 26), .inl (cJ, 256, .inr (.inl df))), ((x 27), .inr (0, [.ref (x 28), .ref (x 29), .ref (x 30), .int (nI hn), .int h4, .int h5, .ref (x 31), .ref (x 32), .ref (x 33)])), ((x 28), .inl (cI, 6, .inl n28)), ((x 29), .inl (cI, 6, .inl n29)), ((x 30), .inl (cI, 8, .inl n30)), ((x 31), .inl (cI, 8, .inl n31)), ((x 32), .inl (cI, 8, .inl n32)), ((x 33), .inl (cI, 64, .inl n33)), ((y 0), .inr (8, [.ref (y 1), .int (nI m_tapeSize), .int m_thrown, .ref (y 2), .int m_cycleMany, .int m_vote, .int m_low, .int m_high, .int m_wear, .int m_spare, .int m_places, .int m_cycleNext, .int m_fault, .int m_faultPlace, .int (nI m_givers), .ref (y 3), .ref (y 4), .int m_giverNext, .int (nI m_children), .ref (y 5), .ref (y 6), .ref (y 7), .ref (y 8), .ref (y 9), .int (nI m_coats), .ref (y 10), .ref (y 11), .ref (y 12), .ref (y 13), .int m_years, .int (nI m_legacies), .ref (y 14), .ref (y 15), .ref (y 16), .ref (y 17), .int m_end, .int m_next, .int m_kind, .int m_which, .int m_place, .int m_read, .ref (y 18), .ref (y 19), .int m_readMany, .int m_readHigh, .ref (y 20), .int (nI m_insideMany), .ref (y 21), .ref (y 22), .ref (y 23), .ref (y 24), .ref (y 25)])), ((y 1), .inl (cI, 300, .inl m_tape)), ((y 2), .inl (cI, 16, .inl m_cycle)), ((y 3), .inl (cI, 8, .inl m_gave)), ((y 4), .inl (cI, 8, .inl m_supports)), ((y 5), .inl (cI, 16, .inl m_age)), ((y 6), .inl (cI, 16, .inl m_want)), ((y 7), .inl (cI, 16, .inl m_size)), ((y 8), .inl (cI, 16, .inl m_growth)), ((y 9), .inl (cI, 16, .inl m_state)), ((y 10), .inl (cI, 40, .inl m_coatSize)), ((y 11), .inl (cI, 40, .inl m_worn)), ((y 12), .inl (cZ, 40, .inl m_gone)), ((y 13), .inl (cI, 40, .inl m_wearer)), ((y 14), .inl (cI, 8, .inl m_coins)), ((y 15), .inl (cI, 8, .inl m_ends)), ((y 16), .inl (cI, 6, .inl m_needs)), ((y 17), .inl (cI, 43, .inl (fa_fill (fun j => wsg.getD j 0) (fun _ => 0) 43))), ((y 18), .inl (cZ, 8, .inl m_told)), ((y 19), .inl (cI, 8, .inl m_rules)), ((y 20), .inl (cI, 16, .inl m_inside)), ((y 21), .inl (cZ, 65536, .inl m_can)), ((y 22), .inl (cZ, 40, .inl m_used)), ((y 23), .inl (cI, 16, .inl m_given)), ((y 24), .inl (cI, 6, .inl m_gets)), ((y 25), .inl (cI, 8, .inl m_pays)), (q9, .inl (cJ, 1, .inr (.inl fo)))]
def lawI (tt ln ga ca wa hn : Nat) (w20 gv : Nat → Int32) (ts mg mc mk ml : Nat) (vt gn cn cm : Int32) (sp gg : Nat → Int32) : Prop :=
  (tt ≤ 300 ∧ ln ≤ 300 ∧ ga ≤ 8 ∧ ca ≤ 16 ∧ wa ≤ 40 ∧ hn ≤ 8 ∧ mk ≤ 40) ∧ (∀ j, w20 j = 0 ∨ w20 j = 1) ∧ (tt = ts ∧ ga = mg ∧ ca = mc ∧ hn = ml ∧ gv = gg) ∧ (¬ vt = 0 ∧ vp_in gn 8 ∧ vp_in cn 8 ∧ vp_in cm 9 ∧ ¬ cm = 0) ∧ (∀ j, sp j = -1 ∨ vp_in (sp j) 16)
section LI
variable {tt ln ga ca wa hn ts mg mc mk ml : Nat} {w20 gv sp gg : Nat → Int32} {vt gn cn cm r1 r2 q q2 : Int32}
theorem li_feed {t1 t2 : Nat} (h : lawI tt ln ga ca wa hn w20 gv ts mg mc mk ml vt gn cn cm sp gg) (h1 : (280 < tt ∧ r1 = -1 ∧ t1 = tt) ∨ (tt ≤ 280 ∧ r1 = nI (tt + 20) ∧ t1 = tt + 20)) (h2 : (280 < ts ∧ r2 = -1 ∧ t2 = ts) ∨ (ts ≤ 280 ∧ r2 = nI (ts + 20) ∧ t2 = ts + 20)) : r1 = r2 ∧ lawI t1 ln ga ca wa hn w20 gv t2 mg mc mk ml vt gn cn cm sp gg := by
  obtain ⟨⟨a1, a2⟩, b, ⟨e1, e2⟩, c⟩ := h
  subst e1
  rcases h1 with ⟨z1, z2, z3⟩ | ⟨z1, z2, z3⟩ <;> rcases h2 with ⟨y1, y2, y3⟩ | ⟨y1, y2, y3⟩
  · exact ⟨z2.trans y2.symm, ⟨by omega, a2⟩, b, ⟨z3.trans y3.symm, e2⟩, c⟩
  · omega
  · omega
  · exact ⟨z2.trans y2.symm, ⟨by omega, a2⟩, b, ⟨z3.trans y3.symm, e2⟩, c⟩
theorem li_stat {t1 l1 t2 : Nat} {v2 n2 m2 : Int32} (h : lawI tt ln ga ca wa hn w20 gv ts mg mc mk ml vt gn cn cm sp gg) (h1 : ((vp_in q (tt + 1) ∧ t1 = 0) ∨ (¬ vp_in q (tt + 1) ∧ t1 = tt)) ∧ l1 ≤ 300) (h2 : ((vp_in q (ts + 1) ∧ t2 = 0) ∨ (¬ vp_in q (ts + 1) ∧ t2 = ts)) ∧ ¬ v2 = 0 ∧ vp_in n2 8 ∧ vp_in m2 9 ∧ ¬ m2 = 0) : lawI t1 l1 ga ca wa hn w20 gv t2 mg mc mk ml v2 gn n2 m2 sp gg := by
  obtain ⟨⟨a1, a2, a3⟩, b, ⟨e1, e2⟩, ⟨c1, c2, c3⟩, d⟩ := h
  subst e1
  obtain ⟨h1, h1b⟩ := h1
  obtain ⟨h2, h3, h4, h5, h6⟩ := h2
  rcases h1 with ⟨z1, z2⟩ | ⟨z1, z2⟩ <;> rcases h2 with ⟨y1, y2⟩ | ⟨y1, y2⟩
  · exact ⟨⟨by omega, h1b, a3⟩, b, ⟨z2.trans y2.symm, e2⟩, ⟨h3, c2, h4, h5, h6⟩, d⟩
  · exact absurd z1 y1
  · exact absurd y1 z1
  · exact ⟨⟨by omega, h1b, a3⟩, b, ⟨z2.trans y2.symm, e2⟩, ⟨h3, c2, h4, h5, h6⟩, d⟩
theorem li_giver {g1 g2 : Nat} {gv1 gg2 sp2 gs gs1 : Nat → Int32} (h : lawI tt ln ga ca wa hn w20 gv ts mg mc mk ml vt gn cn cm sp gg) (h1 : (ga = 8 ∧ r1 = -1 ∧ g1 = ga ∧ gv1 = gv ∧ gs1 = gs) ∨ (ga < 8 ∧ r1 = nI ga ∧ g1 = ga + 1 ∧ gv1 = upd gv ga 0 ∧ gs1 = upd gs ga (-1))) (h2 : ((mg = 8 ∧ r2 = -1 ∧ g2 = mg ∧ gg2 = gg) ∨ (mg < 8 ∧ r2 = nI mg ∧ g2 = mg + 1 ∧ gg2 = upd gg mg 0)) ∧ ∀ j, sp2 j = -1 ∨ vp_in (sp2 j) 16) : r1 = r2 ∧ lawI tt ln g1 ca wa hn w20 gv1 ts g2 mc mk ml vt gn cn cm sp2 gg2 := by
  obtain ⟨⟨a1, a2, a3, a4⟩, b, ⟨e1, e2, e3, e4, e5⟩, c, d⟩ := h
  subst e2; subst e5
  obtain ⟨h2, h3⟩ := h2
  rcases h1 with ⟨z1, z2, z3, z4, z5⟩ | ⟨z1, z2, z3, z4, z5⟩ <;> rcases h2 with ⟨y1, y2, y3, y4⟩ | ⟨y1, y2, y3, y4⟩
  · exact ⟨z2.trans y2.symm, ⟨a1, a2, by omega, a4⟩, b, ⟨e1, z3.trans y3.symm, e3, e4, z4.trans y4.symm⟩, c, h3⟩
  · omega
  · omega
  · exact ⟨z2.trans y2.symm, ⟨a1, a2, by omega, a4⟩, b, ⟨e1, z3.trans y3.symm, e3, e4, z4.trans y4.symm⟩, c, h3⟩
theorem li_gift {gv1 gg2 : Nat → Int32} (h : lawI tt ln ga ca wa hn w20 gv ts mg mc mk ml vt gn cn cm sp gg) (h1 : gfP gv gv1 ga q q2 r1) (h2 : gfP gg gg2 mg q q2 r2) : r1 = r2 ∧ lawI tt ln ga ca wa hn w20 gv1 ts mg mc mk ml vt gn cn cm sp gg2 := by
  obtain ⟨a, b, ⟨e1, e2, e3, e4, e5⟩, c, d⟩ := h
  subst e2; subst e5
  obtain ⟨z1, z2⟩ := gf_eq h1 h2
  exact ⟨z1, a, b, ⟨e1, rfl, e3, e4, z2⟩, c, d⟩
theorem li_support {gs gs1 sp2 : Nat → Int32} (h : lawI tt ln ga ca wa hn w20 gv ts mg mc mk ml vt gn cn cm sp gg) (h1 : spP gs gs1 ga ca q q2 r1) (h2 : spP sp sp2 mg mc q q2 r2) : r1 = r2 ∧ lawI tt ln ga ca wa hn w20 gv ts mg mc mk ml vt gn cn cm sp2 gg := by
  obtain ⟨a, b, ⟨e1, e2, e3, e4, e5⟩, c, d⟩ := h
  subst e2; subst e3
  exact ⟨sp_eq h1 h2, a, b, ⟨e1, rfl, rfl, e4, e5⟩, c, sp_sb h2 a.2.2.2.1 d⟩
theorem li_child {c1 c2 : Nat} {p0 p1 p2 p3 : Int32} (h : lawI tt ln ga ca wa hn w20 gv ts mg mc mk ml vt gn cn cm sp gg) (h1 : (r1 = -1 ∧ c1 = ca ∧ (ca = 16 ∨ ¬ okC p0 p1 p2 p3)) ∨ (ca < 16 ∧ okC p0 p1 p2 p3 ∧ c1 = ca + 1 ∧ r1 = nI ca)) (h2 : (r2 = -1 ∧ c2 = mc ∧ (mc = 16 ∨ ¬ okC p0 p1 p2 p3)) ∨ (mc < 16 ∧ okC p0 p1 p2 p3 ∧ c2 = mc + 1 ∧ r2 = nI mc)) : r1 = r2 ∧ lawI tt ln ga c1 wa hn w20 gv ts mg c2 mk ml vt gn cn cm sp gg := by
  obtain ⟨⟨a1, a2, a3, a4, a5⟩, b, ⟨e1, e2, e3, e4, e5⟩, c, d⟩ := h
  subst e3
  rcases h1 with ⟨z1, z2, z3⟩ | ⟨z1, z2, z3, z4⟩ <;> rcases h2 with ⟨y1, y2, y3⟩ | ⟨y1, y2, y3, y4⟩
  · exact ⟨z1.trans y1.symm, ⟨a1, a2, a3, by omega, a5⟩, b, ⟨e1, e2, z2.trans y2.symm, e4, e5⟩, c, d⟩
  · exact absurd y2 (z3.resolve_left (by omega))
  · exact absurd z2 (y3.resolve_left (by omega))
  · exact ⟨z4.trans y4.symm, ⟨a1, a2, a3, by omega, a5⟩, b, ⟨e1, e2, z3.trans y3.symm, e4, e5⟩, c, d⟩
theorem li_fill {n2 m2 : Int32} (h : lawI tt ln ga ca wa hn w20 gv ts mg mc mk ml vt gn cn cm sp gg) (h2 : vp_in n2 8 ∧ vp_in m2 8) : lawI tt ln ga ca wa hn w20 gv ts mg mc mk ml vt n2 m2 cm sp gg := by
  obtain ⟨a, b, e, ⟨c1, c2, c3, c4⟩, d⟩ := h
  exact ⟨a, b, e, ⟨c1, h2.1, h2.2, c4⟩, d⟩
theorem li_year {z1 : Nat → Int32} (h : lawI tt ln ga ca wa hn w20 gv ts mg mc mk ml vt gn cn cm sp gg) (h1 : ∀ k, z1 k = 0 ∨ z1 k = 1) : lawI tt ln ga ca wa hn z1 gv ts mg mc mk ml vt gn cn cm sp gg := by
  obtain ⟨a, b, e⟩ := h
  exact ⟨a, h1, e⟩
theorem li_feast {w1 k2 i2 : Nat} {z1 : Nat → Int32} (h : lawI tt ln ga ca wa hn w20 gv ts mg mc mk ml vt gn cn cm sp gg) (h1 : w1 ≤ 40 ∧ ∀ k, z1 k = 0 ∨ z1 k = 1) (h2 : k2 ≤ 40 ∧ i2 ≤ 16) : lawI tt ln ga ca w1 hn z1 gv ts mg mc k2 ml vt gn cn cm sp gg := by
  obtain ⟨⟨a1, a2, a3, a4, a5, a6, a7⟩, b, e⟩ := h
  exact ⟨⟨a1, a2, a3, a4, h1.1, a6, h2.1⟩, h1.2, e⟩
theorem li_legacy {n1 n2 : Nat} {p0 p1 : Int32} (h : lawI tt ln ga ca wa hn w20 gv ts mg mc mk ml vt gn cn cm sp gg) (h1 : (r1 = -1 ∧ n1 = hn ∧ (hn = 8 ∨ ¬ okL p0 p1)) ∨ (hn < 8 ∧ okL p0 p1 ∧ n1 = hn + 1 ∧ r1 = nI hn)) (h2 : (r2 = -1 ∧ n2 = ml ∧ (ml = 8 ∨ ¬ okL p0 p1)) ∨ (ml < 8 ∧ okL p0 p1 ∧ n2 = ml + 1 ∧ r2 = nI ml)) : r1 = r2 ∧ lawI tt ln ga ca wa n1 w20 gv ts mg mc mk n2 vt gn cn cm sp gg := by
  obtain ⟨⟨a1, a2, a3, a4, a5, a6, a7⟩, b, ⟨e1, e2, e3, e4, e5⟩, c, d⟩ := h
  subst e4
  rcases h1 with ⟨z1, z2, z3⟩ | ⟨z1, z2, z3, z4⟩ <;> rcases h2 with ⟨y1, y2, y3⟩ | ⟨y1, y2, y3, y4⟩
  · exact ⟨z1.trans y1.symm, ⟨a1, a2, a3, a4, a5, by omega, a7⟩, b, ⟨e1, e2, e3, z2.trans y2.symm, e5⟩, c, d⟩
  · exact absurd y2 (z3.resolve_left (by omega))
  · exact absurd z2 (y3.resolve_left (by omega))
  · exact ⟨z4.trans y4.symm, ⟨a1, a2, a3, a4, a5, by omega, a7⟩, b, ⟨e1, e2, e3, z3.trans y3.symm, e5⟩, c, d⟩
end LI
theorem law_go {i L : Nat} (hL : L ≤ 3072) (hi : i ≤ 3078) (c : ¬ (nI L - 6 : Int32) < nI i) : i + 6 ≤ L := by
  have h := Int.not_lt.mp (fun q => c (Int32.lt_iff_toInt_lt.mpr q))
  have e6 : (6 : Int32).toInt = 6 := by decide
  rw [Int32.toInt_sub, nI_toInt (by omega), nI_toInt (by omega), e6, Int.bmod_eq_of_le (by omega) (by omega)] at h
  omega
theorem lrc {ce k : Nat} (h : ce ≤ 5000) (hk : 5000 + k ≤ room_1.cells) : ce + k ≤ room_1.cells := Nat.le_trans (Nat.add_le_add_right h k) hk
theorem lrs {sl k : Nat} (h : sl ≤ 200000) (hk : 200000 + k ≤ room_1.slots) : sl + k ≤ room_1.slots := Nat.le_trans (Nat.add_le_add_right h k) hk

