/-! What holds between the calls of givers and children. -/
def chQ (ca : Nat) (ag nd sz gr st : Nat → Int32) (q0 q1 q2 q3 r : Int32) (ca' : Nat) (ag' nd' sz' gr' st' : Nat → Int32) : Prop := (r = -1 ∧ ca' = ca ∧ (ag' = ag ∧ nd' = nd ∧ sz' = sz ∧ gr' = gr ∧ st' = st) ∧ (ca = 16 ∨ ¬ okC q0 q1 q2 q3)) ∨ (ca < 16 ∧ okC q0 q1 q2 q3 ∧ ca' = ca + 1 ∧ r = nI ca ∧ (ag' = upd ag ca q0 ∧ nd' = upd nd ca q1 ∧ sz' = upd sz ca q2 ∧ gr' = upd gr ca q3 ∧ st' = upd st ca 0))
theorem chQ.old {ca ca' : Nat} {ag nd sz gr st ag' nd' sz' gr' st' : Nat → Int32} {q0 q1 q2 q3 r : Int32} (h : chQ ca ag nd sz gr st q0 q1 q2 q3 r ca' ag' nd' sz' gr' st') : (r = -1 ∧ ca' = ca ∧ (ca = 16 ∨ ¬ okC q0 q1 q2 q3)) ∨ (ca < 16 ∧ okC q0 q1 q2 q3 ∧ ca' = ca + 1 ∧ r = nI ca) := h.imp (fun z => ⟨z.1, z.2.1, z.2.2.2⟩) (fun z => ⟨z.1, z.2.1, z.2.2.1, z.2.2.2.1⟩)
def chB (ca : Nat) (ag nd sz gr st : Nat → Int32) : Prop := ∀ j, j < ca → (0 ≤ (ag j).toInt ∧ (ag j).toInt ≤ 99) ∧ (0 ≤ (nd j).toInt ∧ (nd j).toInt ≤ 99) ∧ (10 ≤ (sz j).toInt ∧ (sz j).toInt ≤ 99) ∧ (0 ≤ (gr j).toInt ∧ (gr j).toInt ≤ 4) ∧ (st j = 0 ∨ st j = 1 ∨ st j = 2)
def flI (ga : Nat) (gv gs : Nat → Int32) (gx : Int32) (ca : Nat) (k11 k12 k13 k14 k15 : Nat → Int32) (e1 e2 yr : Int32) (sp : Nat → Int32) (gn : Int32) (ma mw mz mr mt : Nat → Int32) (cn my : Int32) : Prop :=
  (gs = sp ∧ k11 = ma ∧ k12 = mw ∧ k13 = mz ∧ k14 = mr ∧ k15 = mt ∧ gx = gn ∧ e2 = cn ∧ yr = my) ∧ (∃ x, gx = nI x ∧ (x < ga ∨ x = 0)) ∧ (∃ y m, e2 = nI y ∧ e1 = nI m ∧ y < m ∧ m ≤ 8) ∧ (∀ j, j < ga → gs j = -1 ∨ vp_in (gs j) ca) ∧ gvB gv ga ∧ chB ca k11 k12 k13 k14 k15
section FL
variable {ga ca mg mc : Nat} {gv gs k11 k12 k13 k14 k15 sp ma mw mz mr mt gg : Nat → Int32} {gx e1 e2 yr gn cn my q q2 r1 r2 : Int32}
theorem fl_giver {g1 g2 : Nat} {gv1 gs1 sp2 : Nat → Int32} (h : flI ga gv gs gx ca k11 k12 k13 k14 k15 e1 e2 yr sp gn ma mw mz mr mt cn my) (hg : ga = mg) (h1 : (ga = 8 ∧ r1 = -1 ∧ g1 = ga ∧ gv1 = gv ∧ gs1 = gs) ∨ (ga < 8 ∧ r1 = nI ga ∧ g1 = ga + 1 ∧ gv1 = upd gv ga 0 ∧ gs1 = upd gs ga (-1))) (h2 : (g2 = mg ∧ sp2 = sp) ∨ (g2 = mg + 1 ∧ sp2 = upd sp mg (-1))) (h3 : g1 = g2) : flI g1 gv1 gs1 gx ca k11 k12 k13 k14 k15 e1 e2 yr sp2 gn ma mw mz mr mt cn my := by
  obtain ⟨⟨a1, a2⟩, ⟨x, b1, b2⟩, c, d, e, f⟩ := h
  subst hg; subst a1
  rcases h1 with ⟨-, -, z3, z4, z5⟩ | ⟨z1, -, z3, z4, z5⟩ <;> rcases h2 with ⟨y3, y4⟩ | ⟨y3, y4⟩
  · subst z3; subst z4; subst z5; subst y4
    exact ⟨⟨rfl, a2⟩, ⟨x, b1, b2⟩, c, d, e, f⟩
  · omega
  · omega
  · subst z3; subst z4; subst z5; subst y4
    refine ⟨⟨rfl, a2⟩, ⟨x, b1, by omega⟩, c, fun j hj => ?_, fun j hj => ?_, f⟩
    · by_cases w : j = ga
      · rw [w, pk_us]; exact Or.inl rfl
      · rw [pk_un w]; exact d j (by omega)
    · by_cases w : j = ga
      · rw [w, pk_us]; decide
      · rw [pk_un w]; exact e j (by omega)
theorem fl_gift {gv1 : Nat → Int32} (h : flI ga gv gs gx ca k11 k12 k13 k14 k15 e1 e2 yr sp gn ma mw mz mr mt cn my) (hga : ga ≤ 8) (h1 : gfP gv gv1 ga q q2 r1) : flI ga gv1 gs gx ca k11 k12 k13 k14 k15 e1 e2 yr sp gn ma mw mz mr mt cn my := by
  obtain ⟨a, b, c, d, e, f⟩ := h
  refine ⟨a, b, c, d, ?_, f⟩
  rcases h1 with ⟨⟨z1, z2, z3⟩, -, z5⟩ | ⟨-, -, z5⟩
  · subst z5
    intro j hj
    by_cases w : j = q.toNatClampNeg
    · subst w
      rw [pk_us]
      have e0 := e _ hj
      have e1 : (1 : Int32).toInt = 1 := by decide
      have e9 : (99999 : Int32).toInt = 99999 := by decide
      have p1 := Int.not_lt.mp (fun y => z2 (Int32.lt_iff_toInt_lt.mpr y))
      have p2 := Int32.le_iff_toInt_le.mp z3
      rw [Int32.toInt_sub, e9, Int.bmod_eq_of_le (by omega) (by omega)] at p2
      rw [Int32.toInt_add, Int.bmod_eq_of_le (by omega) (by omega)]
      omega
    · rw [pk_un w]; exact e j hj
  · subst z5; exact e
theorem fl_support {gs1 sp2 : Nat → Int32} (h : flI ga gv gs gx ca k11 k12 k13 k14 k15 e1 e2 yr sp gn ma mw mz mr mt cn my) (hg : ga = mg) (hc : ca = mc) (h1 : spP gs gs1 ga ca q q2 r1) (h2 : spP sp sp2 mg mc q q2 r2) : flI ga gv gs1 gx ca k11 k12 k13 k14 k15 e1 e2 yr sp2 gn ma mw mz mr mt cn my := by
  obtain ⟨⟨a1, a2⟩, b, c, d, e, f⟩ := h
  subst hg; subst hc; subst a1
  rcases h1 with ⟨z1, -, z3⟩ | ⟨z1, -, z3⟩ <;> rcases h2 with ⟨y1, -, y3⟩ | ⟨y1, -, y3⟩
  · subst z3; subst y3
    refine ⟨⟨rfl, a2⟩, b, c, fun j hj => ?_, e, f⟩
    by_cases w : j = q.toNatClampNeg
    · rw [w, pk_us]; exact z1.2
    · rw [pk_un w]; exact d j hj
  · exact absurd z1 y1
  · exact absurd y1 z1
  · subst z3; subst y3; exact ⟨⟨rfl, a2⟩, b, c, d, e, f⟩
theorem okc_b {q0 q1 q2 q3 : Int32} (h : okC q0 q1 q2 q3) : (0 ≤ q0.toInt ∧ q0.toInt ≤ 20) ∧ (0 ≤ q1.toInt ∧ q1.toInt ≤ 99) ∧ (10 ≤ q2.toInt ∧ q2.toInt ≤ 60) ∧ (0 ≤ q3.toInt ∧ q3.toInt ≤ 4) := by
  obtain ⟨a, b, c, d, e, f, g, i⟩ := h
  have k : ∀ {x y : Int32}, ¬ x < y → y.toInt ≤ x.toInt := fun w => Int.not_lt.mp (fun z => w (Int32.lt_iff_toInt_lt.mpr z))
  exact ⟨⟨k a, k b⟩, ⟨k c, k d⟩, ⟨k e, k f⟩, ⟨k g, k i⟩⟩
theorem fl_child {c1 c2 : Nat} {q0 q1 q3 : Int32} {l11 l12 l13 l14 l15 na nw nz nr nt : Nat → Int32} (h : flI ga gv gs gx ca k11 k12 k13 k14 k15 e1 e2 yr sp gn ma mw mz mr mt cn my) (hc : ca = mc) (h1 : chQ ca k11 k12 k13 k14 k15 q0 q1 q2 q3 r1 c1 l11 l12 l13 l14 l15) (h2 : chQ mc ma mw mz mr mt q0 q1 q2 q3 r2 c2 na nw nz nr nt) : flI ga gv gs gx c1 l11 l12 l13 l14 l15 e1 e2 yr sp gn na nw nz nr nt cn my := by
  obtain ⟨⟨a1, a2, a3, a4, a5, a6, a7⟩, b, c, d, e, f⟩ := h
  subst hc; subst a2; subst a3; subst a4; subst a5; subst a6
  rcases h1 with ⟨-, z2, ⟨z3, z4, z5, z6, z7⟩, z8⟩ | ⟨z1, z2, z3, -, z5, z6, z7, z8, z9⟩ <;> rcases h2 with ⟨-, -, ⟨y3, y4, y5, y6, y7⟩, y8⟩ | ⟨y1, y2, -, -, y5, y6, y7, y8, y9⟩
  · subst z2; subst z3; subst z4; subst z5; subst z6; subst z7; subst y3; subst y4; subst y5; subst y6; subst y7
    exact ⟨⟨a1, rfl, rfl, rfl, rfl, rfl, a7⟩, b, c, d, e, f⟩
  · exact absurd y2 (z8.resolve_left (by omega))
  · exact absurd z2 (y8.resolve_left (by omega))
  · subst z3; subst z5; subst z6; subst z7; subst z8; subst z9; subst y5; subst y6; subst y7; subst y8; subst y9
    obtain ⟨o1, o2, o3, o4⟩ := okc_b z2
    refine ⟨⟨a1, rfl, rfl, rfl, rfl, rfl, a7⟩, b, c, fun j hj => (d j hj).imp (fun w => w) (fun w => in_up w (by omega)), e, fun j hj => ?_⟩
    by_cases w : j = ca
    · subst w
      rw [pk_us, pk_us, pk_us, pk_us, pk_us]
      exact ⟨⟨o1.1, by omega⟩, o2, ⟨o3.1, by omega⟩, o4, Or.inl rfl⟩
    · rw [pk_un w, pk_un w, pk_un w, pk_un w, pk_un w]; exact f j (by omega)
theorem fl_fill {x y m : Nat} {gx1 e21 gn1 cn1 lo hi pr pl : Int32} {l15 nt re : Nat → Int32} (h : flI ga gv gs gx ca k11 k12 k13 k14 k15 e1 e2 yr sp gn ma mw mz mr mt cn my) (hca : ca ≤ 16) (hga : ga ≤ 8) (hx : gx = nI x) (hy : e2 = nI y) (hm : e1 = nI m) (hym : y < m) (hm8 : m ≤ 8) (h1 : fiP ga x ca y m gv gs k15 k11 k12 re pr lo hi pl gx r1 gx1 e21 l15) (h2 : fiP ga x ca y m gv gs k15 k11 k12 re pr lo hi pl gx r2 gn1 cn1 nt) : r1 = r2 ∧ flI ga gv gs gx1 ca k11 k12 k13 k14 l15 e1 e21 yr sp gn1 ma mw mz mr nt cn1 my := by
  obtain ⟨u1, u2, u3, u4⟩ := fi_un h1 h2
  obtain ⟨⟨a1, a2, a3, a4, a5, a6, a7, a8, a9⟩, b, c, d, e, f⟩ := h
  subst u2; subst u3; subst u4
  refine ⟨u1, ⟨a1, a2, a3, a4, a5, rfl, rfl, rfl, a9⟩, ?_, ?_, d, e, ?_⟩
  · rcases h1 with ⟨-, -, z3, -⟩ | ⟨-, z2, -⟩
    · rw [z3]; exact b
    · rcases z2 with ⟨-, ⟨k, k1, -, -, -, k5⟩ | ⟨-, -, k3⟩⟩ | ⟨-, -, k3⟩ | ⟨-, -, -, k3⟩
      · exact ⟨_, k5, Or.inl (Nat.mod_lt _ (by omega))⟩
      · rw [k3, ← hx]; exact b
      · rw [k3]; exact b
      · rw [k3]; exact b
  · rcases h1 with ⟨-, -, -, z4, -⟩ | ⟨-, -, ⟨-, z4, -⟩ | ⟨-, z4, -⟩⟩
    · exact ⟨y, m, z4, hm, hym, hm8⟩
    · exact ⟨y, m, z4, hm, hym, hm8⟩
    · exact ⟨_, m, z4, hm, Nat.mod_lt _ (by omega), hm8⟩
  · have key : l15 = k15 ∨ ∃ w, l15 = upd k15 w 1 := by
      rcases h1 with ⟨-, -, -, -, z5⟩ | ⟨-, -, ⟨-, -, z5⟩ | ⟨-, -, z5⟩⟩
      · exact Or.inl z5
      · exact Or.inl z5
      · exact Or.inr ⟨_, z5⟩
    rcases key with k | ⟨w, k⟩
    · rw [k]; exact f
    · rw [k]
      intro j hj
      obtain ⟨f1, f2, f3, f4, f5⟩ := f j hj
      refine ⟨f1, f2, f3, f4, ?_⟩
      by_cases z : j = w
      · rw [z, pk_us]; exact Or.inr (Or.inl rfl)
      · rw [pk_un z]; exact f5
theorem fl_year {hi yr1 my1 : Int32} {l11 l13 l15 na nz nt : Nat → Int32} (h : flI ga gv gs gx ca k11 k12 k13 k14 k15 e1 e2 yr sp gn ma mw mz mr mt cn my) (h1 : yeP k15 k11 k13 k14 hi ca l15 l11 l13 ∧ r1 = nI (ybC k15 k11 hi ca) ∧ yr1 = yr + 1) (h2 : yeP mt ma mz mr hi ca nt na nz ∧ r2 = nI (ybC mt ma hi ca) ∧ my1 = my + 1) : r1 = r2 ∧ flI ga gv gs gx ca l11 k12 l13 k14 l15 e1 e2 yr1 sp gn na mw nz mr nt cn my1 := by
  obtain ⟨⟨a1, a2, a3, a4, a5, a6, a7, a8, a9⟩, b, c, d, e, f⟩ := h
  subst a2; subst a4; subst a5; subst a6; subst a9
  obtain ⟨x1, x2, x3⟩ := h1
  obtain ⟨y1, y2, y3⟩ := h2
  obtain ⟨u1, u2, u3⟩ := ye_un x1 y1
  subst u1; subst u2; subst u3
  refine ⟨x2.trans y2.symm, ⟨a1, rfl, a3, rfl, rfl, rfl, a7, a8, x3.trans y3.symm⟩, b, c, d, e, fun j hj => ?_⟩
  obtain ⟨f1, f2, f3, f4, f5⟩ := f j hj
  have e99 : (99 : Int32).toInt = 99 := by decide
  have e1' : (1 : Int32).toInt = 1 := by decide
  refine ⟨?_, f2, ?_, f4, ?_⟩
  · rw [x1.1 j, if_pos hj]
    unfold gA
    split
    · rename_i w
      have := Int32.lt_iff_toInt_lt.mp w
      rw [Int32.toInt_add, e1', Int.bmod_eq_of_le (by omega) (by omega)] at this ⊢
      omega
    · rw [e99]; omega
  · rw [x1.2.1 j, if_pos hj]
    unfold gS
    split
    · rename_i w
      have := Int32.lt_iff_toInt_lt.mp w
      rw [Int32.toInt_add, Int.bmod_eq_of_le (by omega) (by omega)] at this ⊢
      omega
    · rw [e99]; omega
  · rw [x1.2.2 j]
    split
    · exact Or.inr (Or.inr rfl)
    · exact f5
theorem fl_stat {t mt' : Nat → Int32} {tt ts n1 n2 : Nat} {t1 t2 e3 e4 e5 e6 e7 e8 a1 a2 f1 f2 f3 f4 f5 f6 f7 f8 mf mp m1 m3 m4 m5 m6 m7 m8 b1 b2 g1 g2 g3 g4 g5 g6 g7 g8 : Int32} {re re1 mc' mc1 : Nat → Int32} (h : flI ga gv gs gx ca k11 k12 k13 k14 k15 e1 e2 yr sp gn ma mw mz mr mt cn my) (hr : r1 = r2) (h1 : stX t tt t1 t2 e1 e2 e3 e4 e5 e6 e7 e8 re q r1 n1 a1 a2 f1 f2 f3 f4 f5 f6 f7 f8 re1) (h2 : stX mt' ts mf mp m1 cn m3 m4 m5 m6 m7 m8 mc' q r2 n2 b1 b2 g1 g2 g3 g4 g5 g6 g7 g8 mc1) : flI ga gv gs gx ca k11 k12 k13 k14 k15 f1 f2 yr sp gn ma mw mz mr mt g2 my := by
  obtain ⟨⟨x1, x2, x3, x4, x5, x6, x7, x8, x9⟩, b, ⟨y, m, c1, c2, c3, c4⟩, d⟩ := h
  have neg : ∀ M : Nat, M ≤ 300 → ¬ nI M = -1 ∧ ¬ nI M = -2 := fun M hM => ⟨fun z => by
      have a : (nI M).toInt = (-1 : Int32).toInt := by rw [z]
      rw [nI_toInt (by omega), show (-1 : Int32).toInt = -1 by decide] at a
      omega, fun z => by
      have a : (nI M).toInt = (-2 : Int32).toInt := by rw [z]
      rw [nI_toInt (by omega), show (-2 : Int32).toInt = -2 by decide] at a
      omega⟩
  rcases h1 with ⟨-, p2, -, -, -, p6, ⟨p7, -⟩, -⟩ | ⟨-, -, -, -, ⟨M, dd, p0, -, p2, -, -, p6, ⟨⟨-, -⟩, mm, p7, p8, p9, -⟩⟩ | ⟨-, -, -, -, -, p2, -, -, p6, ⟨p7, -⟩, -⟩⟩ <;> rcases h2 with ⟨-, q2', -, -, -, q6, ⟨q7, -⟩, -⟩ | ⟨-, -, -, -, ⟨M', dd', q0', -, q2', -, -, q6, -⟩ | ⟨-, -, -, -, -, q2', -, -, q6, -, -⟩⟩
  · rw [p6, p7, q6]; exact ⟨⟨x1, x2, x3, x4, x5, x6, x7, x8, x9⟩, b, ⟨y, m, c1, c2, c3, c4⟩, d⟩
  · exact absurd (q2'.symm.trans (hr.symm.trans p2)) (neg _ q0').2
  · exact absurd (q2'.symm.trans (hr.symm.trans p2)) (by decide)
  · exact absurd (p2.symm.trans (hr.trans q2')) (neg _ p0).2
  · rw [p6, q6]; exact ⟨⟨x1, x2, x3, x4, x5, x6, x7, rfl, x9⟩, b, ⟨0, mm, rfl, p7, p8, p9⟩, d⟩
  · exact absurd (p2.symm.trans (hr.trans q2')) (neg _ p0).1
  · exact absurd (p2.symm.trans (hr.trans q2')) (by decide)
  · exact absurd (q2'.symm.trans (hr.symm.trans p2)) (neg _ q0').1
  · rw [p6, p7, q6]; exact ⟨⟨x1, x2, x3, x4, x5, x6, x7, x8, x9⟩, b, ⟨y, m, c1, c2, c3, c4⟩, d⟩
end FL
theorem fl_i0 : flI 0 (fun _ => 0) (fun _ => 0) 0 0 (fun _ => 0) (fun _ => 0) (fun _ => 0) (fun _ => 0) (fun _ => 0) 1 0 0 (fun _ => 0) 0 (fun _ => 0) (fun _ => 0) (fun _ => 0) (fun _ => 0) (fun _ => 0) 0 0 := ⟨⟨rfl, rfl, rfl, rfl, rfl, rfl, rfl, rfl, rfl⟩, ⟨0, rfl, Or.inr rfl⟩, ⟨0, 1, rfl, rfl, by decide, by decide⟩, fun j hj => absurd hj (Nat.not_lt_zero j), fun j hj => absurd hj (Nat.not_lt_zero j), fun j hj => absurd hj (Nat.not_lt_zero j)⟩
theorem pr_pos {e : Int32} {v : Nat} (h : e = nI v) (h1 : 1 ≤ v) (h9 : v ≤ 9999) : ¬ e ≤ 0 := fun z => by
  rw [h] at z
  have := (nI_leI (b := 0) (by omega) (by decide)).mp z
  omega
theorem fi_cy {ga x ca y m : Nat} {gv gs st ag nd cy cy' : Nat → Int32} {pr lo hi pl gx r gx' e2' : Int32} {st' : Nat → Int32} (h : fiP ga x ca y m gv gs st ag nd cy pr lo hi pl gx r gx' e2' st') (e : cy y = cy' y) : fiP ga x ca y m gv gs st ag nd cy' pr lo hi pl gx r gx' e2' st' := by
  unfold fiP at h ⊢
  rw [← e]; exact h
theorem fl_fill2 {ga ca mg mc x y m : Nat} {gv gs k11 k12 k13 k14 k15 sp ma mw mz mr mt gg re mcy l15 nt : Nat → Int32} {gx e1 e2 yr gn cn my r1 r2 e3 e4 e5 e6 e7 e8 m1 m3 m4 m5 m6 m7 m8 gx1 e21 gn1 cn1 : Int32} (h : flI ga gv gs gx ca k11 k12 k13 k14 k15 e1 e2 yr sp gn ma mw mz mr mt cn my) (hL : lwE e1 e3 e4 e5 e6 e7 e8 re m1 m3 m4 m5 m6 m7 m8 mcy) (hca : ca ≤ 16) (hga : ga ≤ 8) (E2 : ga = mg) (E3 : ca = mc) (E5 : gv = gg) (hx : gx = nI x) (hy : e2 = nI y) (hm : e1 = nI m) (hym : y < m) (hm8 : m ≤ 8) (h1 : fiP ga x ca y m gv gs k15 k11 k12 re e3 e4 e5 e8 gx r1 gx1 e21 l15) (h2 : fiP mg x mc y m gg sp mt ma mw mcy m3 m4 m5 m8 gn r2 gn1 cn1 nt) : r1 = r2 ∧ flI ga gv gs gx1 ca k11 k12 k13 k14 l15 e1 e21 yr sp gn1 ma mw mz mr nt cn1 my := by
  obtain ⟨⟨a1, a2, a3, a4, a5, a6, a7, a8, a9⟩, -⟩ := id h
  obtain ⟨⟨b1, b3, b4, b5, b6, b7, b8⟩, ⟨mm, c1, c2, c3, c4⟩, -⟩ := hL
  have em : mm = m := (nI_eq (by omega) (by omega)).mp (c1.symm.trans hm)
  subst em
  have ey := (c4 y hym).1
  rw [← E2, ← E3, ← E5, ← a1, ← a2, ← a3, ← a6, ← a7, ← b3, ← b4, ← b5, ← b8] at h2
  exact fl_fill h hca hga hx hy hm hym hm8 h1 (fi_cy h2 ey.symm)
theorem fl_year2 {ga ca mc : Nat} {gv gs k11 k12 k13 k14 k15 sp ma mw mz mr mt l11 l13 l15 na nz nt : Nat → Int32} {gx e1 e2 yr gn cn my r1 r2 hi mh yr1 my1 : Int32} (h : flI ga gv gs gx ca k11 k12 k13 k14 k15 e1 e2 yr sp gn ma mw mz mr mt cn my) (E3 : ca = mc) (eh : hi = mh) (h1 : yeP k15 k11 k13 k14 hi ca l15 l11 l13 ∧ r1 = nI (ybC k15 k11 hi ca) ∧ yr1 = yr + 1) (h2 : yeP mt ma mz mr mh mc nt na nz ∧ r2 = nI (ybC mt ma mh mc) ∧ my1 = my + 1) : r1 = r2 ∧ flI ga gv gs gx ca l11 k12 l13 k14 l15 e1 e2 yr1 sp gn na mw nz mr nt cn my1 := by
  subst E3; subst eh
  exact fl_year h h1 h2
theorem fl_li {ga ca : Nat} {gv gs k11 k12 k13 k14 k15 sp ma mw mz mr mt : Nat → Int32} {gx e1 e2 yr gn cn my : Int32} (h : flI ga gv gs gx ca k11 k12 k13 k14 k15 e1 e2 yr sp gn ma mw mz mr mt cn my) (hga : ga ≤ 8) : vp_in gn 8 ∧ vp_in cn 8 := by
  obtain ⟨⟨-, -, -, -, -, -, a7, a8, -⟩, ⟨x, b1, b2⟩, ⟨y, m, c1, c2, c3, c4⟩, -⟩ := h
  rw [← a7, ← a8, b1, c1]
  exact ⟨vp_in_nI (by omega) (by decide), vp_in_nI (by omega) (by decide)⟩

