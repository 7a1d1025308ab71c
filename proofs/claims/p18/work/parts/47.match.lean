/-! Sets of guests as bits; who can have a coat each (the rows 'bt' .. 'b_sshr' and 'fa_and', 'fb_xorI' began as the kit's rows to paste). -/
def bt (x : Int32) (i : Nat) : Bool := x.toBitVec.getLsbD i
theorem b_ext {x y : Int32} (h : ∀ i, i < 32 → bt x i = bt y i) : x = y := Int32.toBitVec_inj.mp (BitVec.eq_of_getLsbD_eq (fun i hi => h i hi))
theorem b_and (x y : Int32) (i : Nat) : bt (x &&& y) i = (bt x i && bt y i) := by unfold bt; rw [Int32.toBitVec_and, BitVec.getLsbD_and]
theorem b_xor (x y : Int32) (i : Nat) : bt (x ^^^ y) i = (bt x i ^^ bt y i) := by unfold bt; rw [Int32.toBitVec_xor, BitVec.getLsbD_xor]
theorem b_big {x : Int32} {i : Nat} (h : 32 ≤ i) : bt x i = false := BitVec.getLsbD_of_ge _ _ h
theorem b_m1 : ∀ i, i < 32 → bt (-1) i = true := by decide +kernel
theorem b_0 (i : Nat) : bt 0 i = false := BitVec.getLsbD_zero
theorem s_l : ∀ n, n < 32 → ((nI n &&& 31).toBitVec.smod 32).toNat = n := by decide +kernel
theorem b_sshr (n : Nat) (hn : n < 32) (x : Int32) {i : Nat} (hi : i < 32) : bt (x >>> (nI n &&& 31)) i = if n + i < 32 then bt x (n + i) else bt x 31 := by
  unfold bt
  rw [Int32.toBitVec_shiftRight]
  show (x.toBitVec.sshiftRight ((nI n &&& 31).toBitVec.smod 32).toNat).getLsbD i = _
  rw [s_l n hn, BitVec.getLsbD_sshiftRight, BitVec.msb_eq_getLsbD_last]
  simp [hi]
theorem fa_and (a b : Nat) : nI a &&& nI b = nI (a &&& b) := by
  apply Int32.toBitVec_inj.1
  show BitVec.ofNat 32 a &&& BitVec.ofNat 32 b = BitVec.ofNat 32 (a &&& b)
  apply BitVec.eq_of_getLsbD_eq
  intro i hi
  simp [hi]
theorem fa_upd_same {f : Nat → Int32} {i : Nat} {x : Int32} (h : f i = x) : upd f i x = f := by
  funext k
  by_cases e : k = i
  · subst e
    rw [pk_us, h]
  · rw [pk_un e]
theorem fa_upd_twice (f : Nat → Int32) (i : Nat) (x y : Int32) : upd (upd f i x) i y = upd f i y := by
  funext k
  by_cases e : k = i
  · subst e
    rw [pk_us, pk_us]
  · rw [pk_un e, pk_un e, pk_un e]
theorem fb_xorI (a b : Nat) : nI a ^^^ nI b = nI (a ^^^ b) := by
  apply Int32.toBitVec_inj.1
  show BitVec.ofNat 32 a ^^^ BitVec.ofNat 32 b = BitVec.ofNat 32 (a ^^^ b)
  apply BitVec.eq_of_getLsbD_eq
  intro i hi
  simp [hi]
theorem bt_nI {S i : Nat} (hi : i < 32) : bt (nI S) i = S.testBit i := by
  unfold bt
  show (BitVec.ofNat 32 S).getLsbD i = _
  rw [BitVec.getLsbD_ofNat]
  simp [hi]
def bI (S i : Nat) : Int32 := if S.testBit i = true then 1 else 0
theorem bI_1 {S i : Nat} : bI S i = 1 ↔ S.testBit i = true := by
  unfold bI
  split
  · rename_i h; exact ⟨fun _ => h, fun _ => rfl⟩
  · rename_i h; exact ⟨fun q => absurd q (by decide), fun q => absurd q h⟩
theorem bI_0 {S i : Nat} : bI S i = 0 ↔ S.testBit i = false := by
  unfold bI
  split
  · rename_i h; exact ⟨fun q => absurd q (by decide), fun q => absurd (h.symm.trans q) (by decide)⟩
  · rename_i h; exact ⟨fun _ => Bool.eq_false_iff.mpr h, fun _ => rfl⟩
theorem bI_shr {S i : Nat} (hS : S < 65536) (hi : i < 16) : (nI S >>> (nI i &&& 31)) &&& 1 = bI S i := by
  apply b_ext
  intro j hj
  rw [b_and, b_sshr i (by omega) _ hj]
  have h1 : bt 1 j = decide (j = 0) := (by decide +kernel : ∀ j, j < 32 → bt 1 j = decide (j = 0)) j hj
  rw [h1]
  by_cases h0 : j = 0
  · subst h0
    rw [if_pos (by omega), bt_nI (by omega)]
    unfold bI
    cases hb : S.testBit (i + 0) with
    | true => rw [if_pos (by simpa using hb)]; decide
    | false => rw [if_neg (by simpa using hb)]; decide
  · rw [decide_eq_false h0, Bool.and_false]
    unfold bI
    split
    · rw [h1, decide_eq_false h0]
    · exact (b_0 j).symm
theorem sh16 {n : Nat} (h : n ≤ 16) : (1 : Int32) <<< (nI n &&& 31) = nI (2 ^ n) := by
  have : ∀ n, n < 17 → (1 : Int32) <<< (nI n &&& 31) = nI (2 ^ n) := by decide +kernel
  exact this n (by omega)
theorem pow16 {n : Nat} (h : n ≤ 16) : 2 ^ n ≤ 65536 := Nat.le_trans (Nat.pow_le_pow_right (by decide) h) (by decide)
theorem pow_pos2 (n : Nat) : 0 < 2 ^ n := Nat.pow_pos (by decide)
theorem nI_m1 {m : Nat} (h : 0 < m) : nI m - 1 = nI (m - 1) := by
  obtain ⟨k, rfl⟩ : ∃ k, m = k + 1 := ⟨m - 1, by omega⟩
  rw [Nat.add_sub_cancel]; exact nI_pred k
theorem nI_dec {m : Nat} (h : 0 < m) : nI m + (-1) = nI (m - 1) := by
  rw [← nI_m1 h]; rw [Int32.sub_eq_add_neg]
def clr (S i : Nat) : Nat := S &&& (4294967295 ^^^ 2 ^ i)
theorem clrI {S i : Nat} (hi : i < 16) : nI S &&& (((1 : Int32) <<< (nI i &&& 31)) ^^^ (-1)) = nI (clr S i) := by
  rw [sh16 (by omega), show (-1 : Int32) = nI 4294967295 from by decide, fb_xorI, fa_and]
  unfold clr
  rw [Nat.xor_comm]
theorem clr_le (S i : Nat) : clr S i ≤ S := Nat.and_le_left
theorem tb_lt {S i n : Nat} (hS : S < 2 ^ n) (h : S.testBit i = true) : i < n := by
  apply Nat.lt_of_not_le
  intro q
  have := Nat.testBit_lt_two_pow (Nat.lt_of_lt_of_le hS (Nat.pow_le_pow_right (by decide) q))
  rw [this] at h; exact absurd h (by decide)
theorem clr_bit {S i j : Nat} (hS : S < 65536) : (clr S i).testBit j = (S.testBit j && !decide (i = j)) := by
  unfold clr
  rw [Nat.testBit_and, Nat.testBit_xor, show (4294967295 : Nat) = 2 ^ 32 - 1 from rfl, Nat.testBit_two_pow_sub_one, Nat.testBit_two_pow]
  by_cases hj : j < 32
  · simp [hj]
  · rw [Nat.testBit_lt_two_pow (Nat.lt_of_lt_of_le hS (Nat.le_trans (by decide : 65536 ≤ 2 ^ 32) (Nat.pow_le_pow_right (by decide) (by omega))))]
    simp
theorem clr_lt {S i : Nat} (hS : S < 65536) (h : S.testBit i = true) : clr S i < S := by
  refine Nat.lt_of_le_of_ne (clr_le S i) (fun e => ?_)
  have h1 : (clr S i).testBit i = S.testBit i := by rw [e]
  rw [clr_bit hS, h, decide_eq_true rfl] at h1
  exact absurd h1 (by decide)
theorem clr_comm (S i j : Nat) : clr (clr S i) j = clr (clr S j) i := by
  unfold clr
  rw [Nat.and_assoc, Nat.and_comm (4294967295 ^^^ 2 ^ i), ← Nat.and_assoc]
def sub_ (S T : Nat) : Prop := ∀ j, S.testBit j = true → T.testBit j = true
theorem sub_rf (S : Nat) : sub_ S S := fun _ h => h
theorem sub_clr {S T i : Nat} (hS : S < 65536) (h : sub_ S T) : sub_ (clr S i) T := fun j hj => by
  rw [clr_bit hS, Bool.and_eq_true] at hj
  exact h j hj.1
theorem sub_all {S n : Nat} (hS : S < 2 ^ n) : sub_ S (2 ^ n - 1) := fun j hj => by
  rw [Nat.testBit_two_pow_sub_one, decide_eq_true_eq]
  exact tb_lt hS hj
theorem nI_and1 {S am : Nat} (hS : S < 65536) (ham : am < 65536) : (nI S &&& (nI am ^^^ (-1)) = 0) ↔ sub_ S am := by
  have key : ∀ j, j < 32 → bt (nI S &&& (nI am ^^^ (-1))) j = (S.testBit j && !am.testBit j) := by
    intro j hj
    rw [b_and, b_xor, bt_nI hj, bt_nI hj, b_m1 j hj]
    cases am.testBit j <;> simp
  constructor
  · intro h j hj
    have hj16 : j < 16 := tb_lt (n := 16) hS hj
    have := key j (by omega)
    rw [h, b_0, hj] at this
    cases ha : am.testBit j with
    | true => rfl
    | false => rw [ha] at this; exact absurd this (by decide)
  · intro h
    apply b_ext
    intro j hj
    rw [key j hj, b_0]
    cases hs : S.testBit j with
    | false => rfl
    | true => rw [h j hs]; rfl
/-- the set S can have an old coat each, of the coats below k: what the reference's row 'can' counts -/
def mM (av : Nat → Prop) (su : Nat → Nat → Prop) : Nat → Nat → Prop
  | 0, S => S = 0
  | k + 1, S => mM av su k S ∨ (av k ∧ ∃ i, S.testBit i = true ∧ su k i ∧ mM av su k (clr S i))
theorem mM_zero {av : Nat → Prop} {su : Nat → Nat → Prop} : ∀ k, mM av su k 0
  | 0 => rfl
  | k + 1 => Or.inl (mM_zero k)
theorem mM_cong {av av' : Nat → Prop} {su : Nat → Nat → Prop} : ∀ k, (∀ j, j < k → (av j ↔ av' j)) → ∀ S, mM av su k S ↔ mM av' su k S
  | 0, _, _ => Iff.rfl
  | k + 1, h, S => by
    have ih := mM_cong (su := su) k (fun j hj => h j (Nat.lt_succ_of_lt hj))
    unfold mM
    rw [ih S, h k (Nat.lt_succ_self k)]
    constructor
    · rintro (q | ⟨q, i, h1, h2, h3⟩)
      · exact Or.inl q
      · exact Or.inr ⟨q, i, h1, h2, (ih _).mp h3⟩
    · rintro (q | ⟨q, i, h1, h2, h3⟩)
      · exact Or.inl q
      · exact Or.inr ⟨q, i, h1, h2, (ih _).mpr h3⟩
theorem mM_pick {av : Nat → Prop} {su : Nat → Nat → Prop} {i : Nat} : ∀ (k S : Nat), S < 65536 → mM av su k S → S.testBit i = true → ∃ c, c < k ∧ av c ∧ su c i ∧ mM (fun j => av j ∧ j ≠ c) su k (clr S i)
  | 0, S, _, h, hi => by
    have h : S = 0 := h
    rw [h, Nat.zero_testBit] at hi; exact absurd hi (by decide)
  | k + 1, S, hS, h, hi => by
    rcases h with h | ⟨ha, j, hj, hs, hm⟩
    · obtain ⟨c, h1, h2, h3, h4⟩ := mM_pick k S hS h hi
      exact ⟨c, by omega, h2, h3, Or.inl h4⟩
    · by_cases hji : j = i
      · subst hji
        exact ⟨k, by omega, ha, hs, Or.inl ((mM_cong k (fun x hx => ⟨fun q => ⟨q, by omega⟩, fun q => q.1⟩) _).mp hm)⟩
      · have hS2 : clr S j < 65536 := Nat.lt_of_le_of_lt (clr_le S j) hS
        obtain ⟨c, h1, h2, h3, h4⟩ := mM_pick k (clr S j) hS2 hm (by rw [clr_bit hS, hi, decide_eq_false hji]; rfl)
        refine ⟨c, by omega, h2, h3, Or.inr ⟨⟨ha, by omega⟩, j, ?_, hs, ?_⟩⟩
        · rw [clr_bit hS, hj, decide_eq_false (fun q => hji q.symm)]; rfl
        · rw [clr_comm]; exact h4
/-! What the rows hold. -/
def suQ (cs sz : Nat → Int32) (sp q q2 : Int32) : Prop := sz q2.toNatClampNeg ≤ cs q.toNatClampNeg ∧ cs q.toNatClampNeg ≤ sz q2.toNatClampNeg + sp
def suP (cs sz ins : Nat → Int32) (sp : Int32) (k i : Nat) : Prop := suQ cs sz sp (nI k) (ins i)
def avP (gn us : Nat → Int32) (k : Nat) : Prop := gn k = 0 ∧ us k = 0
def isB (x : Int32) (p : Prop) : Prop := (x = 1 ∧ p) ∨ (x = 0 ∧ ¬ p)
theorem isB.ne {x : Int32} {p : Prop} (h : isB x p) (c : ¬ x = 0) : p := h.elim (fun q => q.2) (fun q => absurd q.1 c)
theorem isB.eq {x : Int32} {p : Prop} (h : isB x p) (c : x = 0) : ¬ p := h.elim (fun q => absurd (q.1.symm.trans c) (by decide)) (fun q => q.2)
theorem isB.iff {x : Int32} {p q : Prop} (h : isB x p) (g : p ↔ q) : isB x q := h.imp (fun z => ⟨z.1, g.mp z.2⟩) (fun z => ⟨z.1, fun y => z.2 (g.mpr y)⟩)
theorem isB.b {x : Int32} {p : Prop} (h : isB x p) : x = 0 ∨ x = 1 := h.elim (fun q => Or.inr q.1) (fun q => Or.inl q.1)
def canI (f : Nat → Int32) (n am : Nat) (M : Nat → Prop) : Prop := ∀ S, S < 2 ^ n → sub_ S am → isB (f S) (M S)
def canC (f : Nat → Int32) (n am : Nat) (M M' : Nat → Prop) (s : Nat) : Prop := ∀ S, S < 2 ^ n → sub_ S am → (S ≤ s → isB (f S) (M S)) ∧ (s < S → isB (f S) (M' S))
def saA (f : Nat → Int32) (i : Nat) : Prop := ∀ S, S < i → f S = if S = 0 then 1 else 0
theorem zst {f g : Nat → Int32} {i : Nat} {x : Int32} (e : g = upd f (nI i).toNatClampNeg (vp_nar .boolean x)) (hi : i < 2147483648) (hx : x = 0 ∨ x = 1) : g = upd f i x := by
  rw [e, nI_clamp hi]
  rcases hx with rfl | rfl <;> rfl
theorem ist {f g : Nat → Int32} {i : Nat} {x : Int32} (e : g = upd f (nI i).toNatClampNeg x) (hi : i < 2147483648) : g = upd f i x := by
  rw [e, nI_clamp hi]
theorem saA_0 {f : Nat → Int32} : saA f 0 := fun S h => absurd h (Nat.not_lt_zero S)
theorem saA_step {f : Nat → Int32} {i : Nat} {x : Int32} (h : saA f i) (hx : x = if i = 0 then 1 else 0) : saA (upd f i x) (i + 1) := by
  intro S hS
  unfold upd
  split
  · rename_i q; rw [q]; exact hx
  · exact h S (by omega)
theorem saA_y {i : Nat} (hi : i < 2147483648) (c : nI i = 0) : (1 : Int32) = if i = 0 then 1 else 0 := by
  rw [if_pos ((nI_eq hi (by decide)).mp c)]
theorem saA_n {i : Nat} (c : nI i ≠ 0) : (0 : Int32) = if i = 0 then 1 else 0 := by
  rw [if_neg (fun q => c (by rw [q]; rfl))]
theorem sB_0 {f : Nat → Int32} {n am i : Nat} {av : Nat → Prop} {su : Nat → Nat → Prop} (h : saA f i) (hi : 2 ^ n ≤ i) : canI f n am (mM av su 0) := by
  intro S hS _
  have := h S (by omega)
  by_cases h0 : S = 0
  · rw [if_pos h0] at this; exact Or.inl ⟨this, h0⟩
  · rw [if_neg h0] at this; exact Or.inr ⟨this, h0⟩
theorem sB_skip {f : Nat → Int32} {n am k : Nat} {av : Nat → Prop} {su : Nat → Nat → Prop} (h : canI f n am (mM av su k)) (hk : ¬ av k) : canI f n am (mM av su (k + 1)) :=
  fun S hS hs => (h S hS hs).iff ⟨fun q => Or.inl q, fun q => q.elim (fun z => z) (fun z => absurd z.1 hk)⟩
theorem sC_0 {f : Nat → Int32} {n am : Nat} {M M' : Nat → Prop} (h : canI f n am M) : canC f n am M M' (2 ^ n - 1) :=
  fun S hS hs => ⟨fun _ => h S hS hs, fun q => by omega⟩
theorem sC_end {f : Nat → Int32} {n am s k : Nat} {av : Nat → Prop} {su : Nat → Nat → Prop} (h : canC f n am (mM av su k) (mM av su (k + 1)) s) (h0 : s = 0) : canI f n am (mM av su (k + 1)) := by
  intro S hS hs
  by_cases q : S = 0
  · exact ((h S hS hs).1 (by omega)).iff ⟨fun z => Or.inl z, fun _ => by rw [q]; exact mM_zero k⟩
  · exact (h S hS hs).2 (by omega)
theorem sC_has {f : Nat → Int32} {n am s k : Nat} {av : Nat → Prop} {su : Nat → Nat → Prop} (h : canC f n am (mM av su k) (mM av su (k + 1)) s) (hs0 : 0 < s) (c : ¬ f s = 0) : canC f n am (mM av su k) (mM av su (k + 1)) (s - 1) := by
  intro S hS hs
  refine ⟨fun q => (h S hS hs).1 (by omega), fun q => ?_⟩
  by_cases e : S = s
  · have := (h S hS hs).1 (by omega)
    rw [e] at this ⊢
    exact this.iff ⟨fun z => Or.inl z, fun _ => this.ne c⟩
  · exact (h S hS hs).2 (by omega)
theorem sC_out {f : Nat → Int32} {n am s : Nat} {M M' : Nat → Prop} (h : canC f n am M M' s) (hs0 : 0 < s) (c : ¬ sub_ s am) : canC f n am M M' (s - 1) := by
  intro S hS hs
  refine ⟨fun q => (h S hS hs).1 (by omega), fun q => ?_⟩
  by_cases e : S = s
  · rw [e] at hs; exact absurd hs c
  · exact (h S hS hs).2 (by omega)
/-- a guest of s whom coat k may dress, the others of s by coats below k -/
def ddP (f : Nat → Int32) (su : Nat → Nat → Prop) (s k j : Nat) : Prop := s.testBit j = true ∧ ¬ f (clr s j) = 0 ∧ su k j
def orD (x : Int32) (f : Nat → Int32) (su : Nat → Nat → Prop) (s k i : Nat) : Prop := isB x (∃ j, j < i ∧ ddP f su s k j)
theorem orD_0 {f : Nat → Int32} {su : Nat → Nat → Prop} {s k : Nat} : orD 0 f su s k 0 := Or.inr ⟨rfl, fun ⟨_, h, _⟩ => absurd h (Nat.not_lt_zero _)⟩
theorem orD_no {x : Int32} {f : Nat → Int32} {su : Nat → Nat → Prop} {s k i : Nat} (h : orD x f su s k i) (hx : x = 0) (hn : ¬ ddP f su s k i) : orD 0 f su s k (i + 1) := by
  refine Or.inr ⟨rfl, fun ⟨j, hj, hd⟩ => ?_⟩
  by_cases e : j = i
  · rw [e] at hd; exact hn hd
  · exact h.eq hx ⟨j, by omega, hd⟩
theorem orD_yes {f : Nat → Int32} {su : Nat → Nat → Prop} {s k i : Nat} (hn : ddP f su s k i) : orD 1 f su s k (i + 1) := Or.inl ⟨rfl, i, by omega, hn⟩
/-- the row is told of s -/
theorem sC_put {x : Int32} {f : Nat → Int32} {n am s k i : Nat} {av : Nat → Prop} {su : Nat → Nat → Prop} (hn : n ≤ 16) (h : canC f n am (mM av su k) (mM av su (k + 1)) s) (hs0 : 0 < s) (hsn : s < 2 ^ n) (hsa : sub_ s am) (c : f s = 0) (hav : av k) (hd : orD x f su s k i) (hx : n ≤ i ∨ ¬ x = 0) : canC (upd f s x) n am (mM av su k) (mM av su (k + 1)) (s - 1) := by
  have hs16 : s < 65536 := Nat.lt_of_lt_of_le hsn (pow16 hn)
  intro S hS hs
  unfold upd
  split
  · rename_i e
    refine ⟨fun q => by omega, fun _ => ?_⟩
    rw [e]
    have hno : ¬ mM av su k s := ((h s hsn hsa).1 (Nat.le_refl s)).eq c
    have step : ∀ j, ddP f su s k j ↔ (s.testBit j = true ∧ su k j ∧ mM av su k (clr s j)) := by
      intro j
      constructor
      · rintro ⟨h1, h2, h3⟩
        have hlt := clr_lt hs16 h1
        exact ⟨h1, h3, ((h _ (by omega) (sub_clr hs16 hsa)).1 (by omega)).ne h2⟩
      · rintro ⟨h1, h3, h2⟩
        have hlt := clr_lt hs16 h1
        refine ⟨h1, fun q => ?_, h3⟩
        exact ((h _ (by omega) (sub_clr hs16 hsa)).1 (by omega)).eq q h2
    refine hd.iff ⟨?_, ?_⟩
    · rintro ⟨j, -, hj⟩
      exact Or.inr ⟨hav, j, (step j).mp hj⟩
    · rintro (q | ⟨_, j, hj⟩)
      · exact absurd q hno
      · rcases hx with hx | hx
        · exact ⟨j, Nat.lt_of_lt_of_le (tb_lt hsn hj.1) hx, (step j).mpr hj⟩
        · exact hd.ne hx
  · rename_i e
    exact ⟨fun q => (h S hS hs).1 (by omega), fun q => (h S hS hs).2 (by omega)⟩

