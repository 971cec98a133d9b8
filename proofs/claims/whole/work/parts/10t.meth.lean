/-! shares in lowest terms -/
def i64 (n : Nat) : Int64 := Int64.ofNat n
theorem i64_toInt {n : Nat} (h : n < 9223372036854775808) : (i64 n).toInt = n := Int64.toInt_ofNat_of_lt h
theorem i64_add (a b : Nat) : i64 a + i64 b = i64 (a + b) := (Int64.ofNat_add a b).symm
theorem i64_mul (a b : Nat) : i64 a * i64 b = i64 (a * b) := (Int64.ofNat_mul a b).symm
theorem i64_sub {a b : Nat} (h : b ≤ a) : i64 a - i64 b = i64 (a - b) := by
  have e : i64 a = i64 (a - b) + i64 b := by rw [i64_add, Nat.sub_add_cancel h]
  rw [e, Int64.add_sub_cancel]
theorem i64_inj {a b : Nat} (ha : a < 9223372036854775808) (hb : b < 9223372036854775808) : i64 a = i64 b ↔ a = b := by
  constructor
  · intro h
    have := congrArg Int64.toInt h
    rw [i64_toInt ha, i64_toInt hb] at this; omega
  · rintro rfl; rfl
theorem i64_div (a : Nat) (b : Nat) (ha : a < 9223372036854775808) (hb' : b < 9223372036854775808) : i64 a / i64 b = i64 (a / b) := by
  apply Int64.toInt_inj.mp
  have h1 : a / b ≤ a := Nat.div_le_self a b
  rw [i64_toInt (by omega : a / b < 9223372036854775808), Int64.toInt_div_of_ne_left _ _ (by rw [Int64.minValue]; intro h; have := congrArg Int64.toInt h; rw [i64_toInt ha] at this; simp at this), i64_toInt ha, i64_toInt hb']
  rfl
theorem sub_dm (a b : Nat) : a - a / b * b = a % b := by
  have := Nat.div_add_mod a b
  rw [Nat.mul_comm] at this; omega
theorem i64_mod (a b : Nat) (ha : a < 9223372036854775808) (hb' : b < 9223372036854775808) : i64 a - i64 a / i64 b * i64 b = i64 (a % b) := by
  rw [i64_div a b ha hb', i64_mul, i64_sub (Nat.div_mul_le_self a b), sub_dm]
theorem i32_mod (a b : Nat) (hb : 0 < b) (ha : a < 2147483648) (hb' : b < 2147483648) : i32 a - i32 a / i32 b * i32 b = i32 (a % b) := by
  rw [i32_divz a b hb ha hb', i32_mul, i32_sub (Nat.div_mul_le_self a b), sub_dm]
theorem i32_64 {n : Nat} (h : n < 2147483648) : (i32 n).toInt64 = i64 n := by
  apply Int64.toInt_inj.mp
  rw [Int32.toInt_toInt64, i32_toInt h, i64_toInt (by omega)]
theorem i64_ne0 {n : Nat} (h : 0 < n ∧ n < 9223372036854775808) : (i64 n = (0 : Int64)) = False := eq_false fun q => by
  have q' : i64 n = i64 0 := q
  rw [i64_inj h.2 (by omega)] at q'; omega
theorem lg_z : lg_cmp (i64 0) (0 : Int64) = i32 0 := by decide
theorem lg_n {n : Nat} (h : 0 < n ∧ n < 9223372036854775808) : lg_cmp (i64 n) (0 : Int64) = i32 1 := by
  have q : (0 : Int64) < i64 n := by
    rw [Int64.lt_iff_toInt_lt, i64_toInt h.2]
    show (0 : Int) < _
    omega
  unfold lg_cmp
  rw [if_pos q]; rfl
def ch (w a b : Nat) : Nat := if w = 0 then a else b
theorem low_end {N fu w a b r : Nat} {x : Int32} (g : Mem) (hw : w < 2) (ha : a < 2147483648) (hb : b < 2147483648) (hr : 0 < r ∧ r < 2147483648) : X5_lowest_L8 N (i32 a) (i32 b) (i32 w) (fu + 1) (i32 0) (i32 r) x g = some (i64 (ch w a b / r), g) := by
  have e1 := i32_divz a r hr.1 ha hr.2
  have e2 := i32_divz b r hr.1 hb hr.2
  have h1 : a / r ≤ a := Nat.div_le_self a r
  have h2 : b / r ≤ b := Nat.div_le_self b r
  have f1 := i32_64 (n := a / r) (by omega)
  have f2 := i32_64 (n := b / r) (by omega)
  rcases (by omega : w = 0 ∨ w = 1) with rfl | rfl
  · by_cases hx : i32 64 ≤ x
    · simp -dsimp -implicitDefEqProofs (disch := omega) only [X5_lowest_L8, hx, e1, f1, ch, i32_lit, i32_add, i32_mul, i32_tn, i32_sub, le_t, le_f, lt_t, lt_f, eq_t, eq_f, eq_rfl, inR_t, ↓ob_x, obx_s, ↓bnd_s, ↓oT_x, oTx_s, ↓ite_x, itx_T, itx_F, ↓reduceIte, not_true_eq_false, not_false_eq_true, true_and, and_true, Nat.reduceAdd, Nat.reduceMul, Nat.reduceSub, Nat.reduceEqDiff, isB0, isB1, Int32.neg_neg, Nat.zero_add, Nat.add_zero, Nat.mul_zero, Nat.mul_one, Nat.zero_mul]
    · simp -dsimp -implicitDefEqProofs (disch := omega) only [X5_lowest_L8, hx, e1, f1, ch, i32_lit, i32_add, i32_mul, i32_tn, i32_sub, le_t, le_f, lt_t, lt_f, eq_t, eq_f, eq_rfl, inR_t, ↓ob_x, obx_s, ↓bnd_s, ↓oT_x, oTx_s, ↓ite_x, itx_T, itx_F, ↓reduceIte, not_true_eq_false, not_false_eq_true, true_and, and_true, Nat.reduceAdd, Nat.reduceMul, Nat.reduceSub, Nat.reduceEqDiff, isB0, isB1, Int32.neg_neg, Nat.zero_add, Nat.add_zero, Nat.mul_zero, Nat.mul_one, Nat.zero_mul]
  · by_cases hx : i32 64 ≤ x
    · simp -dsimp -implicitDefEqProofs (disch := omega) only [X5_lowest_L8, hx, e2, f2, ch, Nat.one_ne_zero, i32_lit, i32_add, i32_mul, i32_tn, i32_sub, le_t, le_f, lt_t, lt_f, eq_t, eq_f, eq_rfl, inR_t, ↓ob_x, obx_s, ↓bnd_s, ↓oT_x, oTx_s, ↓ite_x, itx_T, itx_F, ↓reduceIte, not_true_eq_false, not_false_eq_true, true_and, and_true, Nat.reduceAdd, Nat.reduceMul, Nat.reduceSub, Nat.reduceEqDiff, isB0, isB1, Int32.neg_neg, Nat.zero_add, Nat.add_zero, Nat.mul_zero, Nat.mul_one, Nat.zero_mul]
    · simp -dsimp -implicitDefEqProofs (disch := omega) only [X5_lowest_L8, hx, e2, f2, ch, Nat.one_ne_zero, i32_lit, i32_add, i32_mul, i32_tn, i32_sub, le_t, le_f, lt_t, lt_f, eq_t, eq_f, eq_rfl, inR_t, ↓ob_x, obx_s, ↓bnd_s, ↓oT_x, oTx_s, ↓ite_x, itx_T, itx_F, ↓reduceIte, not_true_eq_false, not_false_eq_true, true_and, and_true, Nat.reduceAdd, Nat.reduceMul, Nat.reduceSub, Nat.reduceEqDiff, isB0, isB1, Int32.neg_neg, Nat.zero_add, Nat.add_zero, Nat.mul_zero, Nat.mul_one, Nat.zero_mul]
theorem low_step {N fu w a b d r x : Nat} (g : Mem) (hd : 0 < d ∧ d < 2147483648) (hr : r < 2147483648) (hx : x < 64) : X5_lowest_L8 N (i32 a) (i32 b) (i32 w) (fu + 1) (i32 d) (i32 r) (i32 x) g = X5_lowest_L8 N (i32 a) (i32 b) (i32 w) fu (i32 (r % d)) (i32 d) (i32 (x + 1)) g := by
  have e := i32_mod r d hd.1 hr hd.2
  simp -dsimp -implicitDefEqProofs (disch := omega) only [X5_lowest_L8, e, i32_lit, i32_add, i32_mul, i32_tn, i32_sub, le_t, le_f, lt_t, lt_f, eq_t, eq_f, eq_rfl, inR_t, ↓ob_x, obx_s, ↓bnd_s, ↓oT_x, oTx_s, ↓ite_x, itx_T, itx_F, ↓reduceIte, not_true_eq_false, not_false_eq_true, true_and, and_true, Nat.reduceAdd, Nat.reduceMul, Nat.reduceSub, Nat.reduceEqDiff, isB0, isB1, Int32.neg_neg, Nat.zero_add, Nat.add_zero, Nat.mul_zero, Nat.mul_one, Nat.zero_mul]
theorem half_mod {d e : Nat} (h : 0 < e) (h2 : e < d) : 2 * (d % e) < d := by
  by_cases q : 2 * e ≤ d
  · have := Nat.mod_lt d h; omega
  · have e1 : d % e = d - e := by
      rw [Nat.mod_eq_sub_mod (by omega), Nat.mod_eq_of_lt (by omega)]
    omega
theorem low_I {N w a b : Nat} (g : Mem) (hw : w < 2) (ha : a < 2147483648) (hb : b < 2147483648) : ∀ (k d r x fu : Nat), d < 2 ^ k → 0 < r ∨ 0 < d → d < 2147483648 → r < 2147483648 → x + 2 * k ≤ 60 → 2 * k + 1 < fu →
    X5_lowest_L8 N (i32 a) (i32 b) (i32 w) fu (i32 d) (i32 r) (i32 x) g = some (i64 (ch w a b / Nat.gcd d r), g)
  | 0, d, r, x, fu, h1, h2, h3, h4, h5, h6 => by
    obtain ⟨fu, rfl⟩ : ∃ q, fu = q + 1 := ⟨fu - 1, by omega⟩
    have : d = 0 := by have : 2 ^ 0 = 1 := rfl; omega
    subst this
    rw [low_end g hw ha hb (by omega), Nat.gcd_zero_left]
  | k + 1, d, r, x, fu, h1, h2, h3, h4, h5, h6 => by
    obtain ⟨fu, rfl⟩ : ∃ q, fu = q + 1 := ⟨fu - 1, by omega⟩
    obtain ⟨fu, rfl⟩ : ∃ q, fu = q + 1 := ⟨fu - 1, by omega⟩
    by_cases hd : d = 0
    · subst hd
      rw [low_end g hw ha hb (by omega), Nat.gcd_zero_left]
    · have hm := Nat.mod_lt r (by omega : 0 < d)
      rw [low_step g (by omega) h4 (by omega), Nat.gcd_rec d r]
      by_cases he : r % d = 0
      · rw [he, low_end g hw ha hb (by omega), Nat.gcd_zero_left]
      · have hh := half_mod (d := d) (e := r % d) (by omega) hm
        have hp : 2 ^ (k + 1) = 2 * 2 ^ k := by rw [Nat.pow_succ]; omega
        rw [low_step g (by omega) (by omega) (by omega), Nat.gcd_rec (r % d) d]
        exact low_I g hw ha hb k (d % (r % d)) (r % d) (x + 1 + 1) fu (by omega) (by omega) (by omega) (by omega) (by omega) (by omega)
theorem low_M {N w a b : Nat} (g : Mem) (hw : w < 2) (ha : a < 2147483648) (hb : b < 2147483648) : ∀ (y x fu : Nat), y < fu → 0 < x → x < 2147483648 → y < 2147483648 →
    X6_lowest_L16 N (i64 a) (i64 b) (i32 w) fu (i64 x) (i64 y) g = some (i64 (ch w a b / Nat.gcd y x), g) := by
  intro y
  induction y using Nat.strongRecOn with
  | ind y ih =>
    intro x fu h1 h2 h3 h4
    obtain ⟨fu, rfl⟩ : ∃ q, fu = q + 1 := ⟨fu - 1, by omega⟩
    have n0 := i64_ne0 (n := x) (by omega)
    have e1 := i64_div a x (by omega) (by omega)
    have e2 := i64_div b x (by omega) (by omega)
    by_cases hy : y = 0
    · subst hy
      rw [Nat.gcd_zero_left]
      rcases (by omega : w = 0 ∨ w = 1) with rfl | rfl
      · simp -dsimp -implicitDefEqProofs (disch := omega) only [X6_lowest_L16, lg_z, n0, e1, ch, i32_lit, i32_add, i32_mul, i32_tn, i32_sub, le_t, le_f, lt_t, lt_f, eq_t, eq_f, eq_rfl, inR_t, ↓ob_x, obx_s, ↓bnd_s, ↓oT_x, oTx_s, ↓ite_x, itx_T, itx_F, ↓reduceIte, not_true_eq_false, not_false_eq_true, true_and, and_true, Nat.reduceAdd, Nat.reduceMul, Nat.reduceSub, Nat.reduceEqDiff, isB0, isB1, Int32.neg_neg, Nat.zero_add, Nat.add_zero, Nat.mul_zero, Nat.mul_one, Nat.zero_mul]
      · simp -dsimp -implicitDefEqProofs (disch := omega) only [X6_lowest_L16, lg_z, n0, e2, ch, Nat.one_ne_zero, i32_lit, i32_add, i32_mul, i32_tn, i32_sub, le_t, le_f, lt_t, lt_f, eq_t, eq_f, eq_rfl, inR_t, ↓ob_x, obx_s, ↓bnd_s, ↓oT_x, oTx_s, ↓ite_x, itx_T, itx_F, ↓reduceIte, not_true_eq_false, not_false_eq_true, true_and, and_true, Nat.reduceAdd, Nat.reduceMul, Nat.reduceSub, Nat.reduceEqDiff, isB0, isB1, Int32.neg_neg, Nat.zero_add, Nat.add_zero, Nat.mul_zero, Nat.mul_one, Nat.zero_mul]
    · have hm := Nat.mod_lt x (by omega : 0 < y)
      have n1 := i64_ne0 (n := y) (by omega)
      have l1 := lg_n (n := y) (by omega)
      have e3 := i64_mod x y (by omega) (by omega)
      rw [Nat.gcd_rec, ← ih (x % y) hm y fu (by omega) (by omega) (by omega) (by omega)]
      simp -dsimp -implicitDefEqProofs (disch := omega) only [X6_lowest_L16, l1, n1, e3, i32_lit, i32_add, i32_mul, i32_tn, i32_sub, le_t, le_f, lt_t, lt_f, eq_t, eq_f, eq_rfl, inR_t, ↓ob_x, obx_s, ↓bnd_s, ↓oT_x, oTx_s, ↓ite_x, itx_T, itx_F, ↓reduceIte, not_true_eq_false, not_false_eq_true, true_and, and_true, Nat.reduceAdd, Nat.reduceMul, Nat.reduceSub, Nat.reduceEqDiff, isB0, isB1, Int32.neg_neg, Nat.zero_add, Nat.add_zero, Nat.mul_zero, Nat.mul_one, Nat.zero_mul]
/-- both, of small numbers -/
theorem low_eq {N w a b : Nat} (hN : 6000 ≤ N) (gI gM : Mem) (hw : w < 2) (ha : a < 1024) (hb : 0 < b) (hb2 : b < 1024) : ∃ r, X5_lowest N (i32 a) (i32 b) (i32 w) gI = some (r, gI) ∧ X6_lowest N (i64 a) (i64 b) (i32 w) gM = some (r, gM) := by
  refine ⟨i64 (ch w a b / Nat.gcd a b), low_I gI hw (by omega) (by omega) 10 a b 0 N (by omega) (by omega) (by omega) (by omega) (by omega) (by omega), ?_⟩
  by_cases h0 : a = 0
  · subst h0
    rw [Nat.gcd_zero_left]
    rcases (by omega : w = 0 ∨ w = 1) with rfl | rfl
    · simp -dsimp -implicitDefEqProofs (disch := omega) only [X6_lowest, lg_z, ch, i32_lit, i32_add, i32_mul, i32_tn, i32_sub, le_t, le_f, lt_t, lt_f, eq_t, eq_f, eq_rfl, inR_t, ↓ob_x, obx_s, ↓bnd_s, ↓oT_x, oTx_s, ↓ite_x, itx_T, itx_F, ↓reduceIte, not_true_eq_false, not_false_eq_true, true_and, and_true, Nat.reduceAdd, Nat.reduceMul, Nat.reduceSub, Nat.reduceEqDiff, isB0, isB1, Int32.neg_neg, Nat.zero_add, Nat.add_zero, Nat.mul_zero, Nat.mul_one, Nat.zero_mul, i32_64, Nat.zero_div]
    · rw [show ch 1 0 b = b from rfl, Nat.div_self hb]
      simp -dsimp -implicitDefEqProofs (disch := omega) only [X6_lowest, lg_z, i32_lit, i32_add, i32_mul, i32_tn, i32_sub, le_t, le_f, lt_t, lt_f, eq_t, eq_f, eq_rfl, inR_t, ↓ob_x, obx_s, ↓bnd_s, ↓oT_x, oTx_s, ↓ite_x, itx_T, itx_F, ↓reduceIte, not_true_eq_false, not_false_eq_true, true_and, and_true, Nat.reduceAdd, Nat.reduceMul, Nat.reduceSub, Nat.reduceEqDiff, isB0, isB1, Int32.neg_neg, Nat.zero_add, Nat.add_zero, Nat.mul_zero, Nat.mul_one, Nat.zero_mul, i32_64]
  · have l1 := lg_n (n := a) (by omega)
    rw [Nat.gcd_comm, ← low_M (N := N) (fu := N) gM hw (by omega : a < 2147483648) (by omega : b < 2147483648) b a (by omega) (by omega) (by omega) (by omega)]
    simp -dsimp -implicitDefEqProofs (disch := omega) only [X6_lowest, l1, i32_lit, i32_add, i32_mul, i32_tn, i32_sub, le_t, le_f, lt_t, lt_f, eq_t, eq_f, eq_rfl, inR_t, ↓ob_x, obx_s, ↓bnd_s, ↓oT_x, oTx_s, ↓ite_x, itx_T, itx_F, ↓reduceIte, not_true_eq_false, not_false_eq_true, true_and, and_true, Nat.reduceAdd, Nat.reduceMul, Nat.reduceSub, Nat.reduceEqDiff, isB0, isB1, Int32.neg_neg, Nat.zero_add, Nat.add_zero, Nat.mul_zero, Nat.mul_one, Nat.zero_mul]
def smW (g : Mem) : Nat → Nat → Int32 → Int32
  | _, 0, x => x
  | j, n + 1, x => smW g (j + 1) n (x + g.1 5 j)
theorem smW_nb {d : Nat} {g : Mem} (q : Bd d g) : ∀ (n j m : Nat) (x : Int32), j + n = 6 → NB m x → NB (m + 99 * n) (smW g j n x)
  | 0, j, m, x, h1, h => by rw [smW]; exact h
  | n + 1, j, m, x, h1, h => by
    rw [smW]
    exact NB_up (smW_nb q n (j + 1) (m + 99) (x + g.1 5 j) (by omega) (NB_add h (q.1 j (by omega)))) (by omega)
set_option maxRecDepth 100000 in
theorem share_l {N : Nat} {gI gM : Mem} (h : ∀ t, t < 6 → gI.1 43 t = gM.1 5 t) (a1 a2 : Int32) : ∀ (n j fu : Nat) (x : Int32), j + n = 6 → n < fu →
    X5_share_L24 N a1 a2 fu x (i32 j) gI = X5_share_L24 N a1 a2 (fu - n) (smW gM j n x) (i32 6) gI ∧ X6_share_L5 N a1 a2 fu x (i32 j) gM = X6_share_L5 N a1 a2 (fu - n) (smW gM j n x) (i32 6) gM
  | 0, j, fu, x, h1, h2 => by
    have : j = 6 := by omega
    subst this
    exact ⟨rfl, rfl⟩
  | n + 1, j, fu, x, h1, h2 => by
    obtain ⟨fu, rfl⟩ : ∃ q, fu = q + 1 := ⟨fu - 1, by omega⟩
    obtain ⟨e1, e2⟩ := share_l (N := N) h a1 a2 n (j + 1) fu (x + gM.1 5 j) (by omega) (by omega)
    rw [show fu + 1 - (n + 1) = fu - n by omega, smW, ← e1, ← e2]
    constructor
    · simp -dsimp -implicitDefEqProofs (disch := omega) only [X5_share_L24, h, i32_lit, i32_add, i32_mul, i32_tn, i32_sub, le_t, le_f, lt_t, lt_f, eq_t, eq_f, eq_rfl, inR_t, ↓ob_x, obx_s, ↓bnd_s, ↓oT_x, oTx_s, ↓ite_x, itx_T, itx_F, ↓reduceIte, not_true_eq_false, not_false_eq_true, true_and, and_true, Nat.reduceAdd, Nat.reduceMul, Nat.reduceSub, Nat.reduceEqDiff, isB0, isB1, Int32.neg_neg, Nat.zero_add, Nat.add_zero, Nat.mul_zero, Nat.mul_one, Nat.zero_mul]
    · simp -dsimp -implicitDefEqProofs (disch := omega) only [X6_share_L5, i32_lit, i32_add, i32_mul, i32_tn, i32_sub, le_t, le_f, lt_t, lt_f, eq_t, eq_f, eq_rfl, inR_t, ↓ob_x, obx_s, ↓bnd_s, ↓oT_x, oTx_s, ↓ite_x, itx_T, itx_F, ↓reduceIte, not_true_eq_false, not_false_eq_true, true_and, and_true, Nat.reduceAdd, Nat.reduceMul, Nat.reduceSub, Nat.reduceEqDiff, isB0, isB1, Int32.neg_neg, Nat.zero_add, Nat.add_zero, Nat.mul_zero, Nat.mul_one, Nat.zero_mul]
set_option maxRecDepth 100000 in
theorem e_share {N : Nat} (hN : 6000 ≤ N) {gI gM : Mem} (h : R gI gM) (a1 a2 : Int32) : EQ (X5_share N a1 a2 gI) (X6_share N a1 a2 gM) := by
  obtain ⟨d, i, c, hR⟩ := h
  obtain ⟨⟨hS, hB, hG, hH⟩, hT, hP, hSh, hK⟩ := id hR
  obtain ⟨⟨a0_, hd6, hi6⟩, s1_, s2_, s3_, s4_, s5_, s6_, b7, b8, s9_, s10_, b11, b12, b13, b14⟩ := id hS
  have b1 : ∀ t, t < 6 → gI.1 43 t = gM.1 5 t := s1_
  have b2 : ∀ k, k < 12 → gI.1 44 k = gM.1 4 (4 * k) := s2_
  have b3 : ∀ k, k < 12 → gI.1 45 k = gM.1 4 (4 * k + 1) := s3_
  have b4 : ∀ k, k < 12 → gI.1 46 k = gM.1 4 (4 * k + 2) := s4_
  have b5 : ∀ k, k < 12 → gI.1 47 k = gM.1 4 (4 * k + 3) := s5_
  have b6 : ∀ p, p < 6 → gI.1 50 p = gM.1 3 (2 * p) := s6_
  have b9 : ∀ p, p < d → gI.1 48 p = gM.1 1 p := s9_
  have b10 : ∀ p, p < d → gI.1 49 p = gM.1 2 p := s10_
  have bG : ∀ p, p < 6 → gI.1 51 p = gM.1 3 (2 * p + 1) := hG
  clear s1_ s2_ s3_ s4_ s5_ s6_ s9_ s10_
  obtain ⟨m, hm, em⟩ := smW_nb hB 6 0 0 (i32 0) (by omega) ⟨0, by omega, rfl⟩
  obtain ⟨l1, l2⟩ := share_l (N := N) b1 a1 a2 6 0 N (i32 0) (by omega) (by omega)
  rw [em] at l1 l2
  obtain ⟨f, hf⟩ : ∃ q, N - 6 = q + 1 := ⟨N - 6 - 1, by omega⟩
  rw [hf] at l1 l2
  have l2' : X6_share N a1 a2 gM = X6_share_L5 N a1 a2 (f + 1) (i32 m) (i32 6) gM := l2
  rcases rg a1 6 (by omega) with ⟨t, ht, rfl⟩ | o1
  · rcases rg a2 2 (by omega) with ⟨w, hw, rfl⟩ | o2
    · by_cases h0 : m = 0
      · subst h0
        refine ⟨-4611686018427387904, gI, gM, ?_, ?_, d, i, c, hR⟩
        · simp -dsimp -implicitDefEqProofs (disch := omega) only [X5_share, isS_t, isW_t, l1, X5_share_L24, i32_lit, i32_add, i32_mul, i32_tn, i32_sub, le_t, le_f, lt_t, lt_f, eq_t, eq_f, eq_rfl, inR_t, ↓ob_x, obx_s, ↓bnd_s, ↓oT_x, oTx_s, ↓ite_x, itx_T, itx_F, ↓reduceIte, not_true_eq_false, not_false_eq_true, true_and, and_true, Nat.reduceAdd, Nat.reduceMul, Nat.reduceSub, Nat.reduceEqDiff, isB0, isB1, Int32.neg_neg, Nat.zero_add, Nat.add_zero, Nat.mul_zero, Nat.mul_one, Nat.zero_mul]
        · rw [l2']; simp -dsimp -implicitDefEqProofs (disch := omega) only [mS_t, in_t, X6_share_L5, i32_lit, i32_add, i32_mul, i32_tn, i32_sub, le_t, le_f, lt_t, lt_f, eq_t, eq_f, eq_rfl, inR_t, ↓ob_x, obx_s, ↓bnd_s, ↓oT_x, oTx_s, ↓ite_x, itx_T, itx_F, ↓reduceIte, not_true_eq_false, not_false_eq_true, true_and, and_true, Nat.reduceAdd, Nat.reduceMul, Nat.reduceSub, Nat.reduceEqDiff, isB0, isB1, Int32.neg_neg, Nat.zero_add, Nat.add_zero, Nat.mul_zero, Nat.mul_one, Nat.zero_mul]
      · obtain ⟨a, ha, ea⟩ := hB.1 t ht
        obtain ⟨r, r1, r2⟩ := low_eq (w := w) hN gI gM hw (by omega : a < 1024) (by omega : 0 < m) (by omega)
        have c1 := i32_64 (n := a) (by omega)
        have c2 := i32_64 (n := m) (by omega)
        refine ⟨r, gI, gM, ?_, ?_, d, i, c, hR⟩
        · simp -dsimp -implicitDefEqProofs (disch := omega) only [X5_share, isS_t, isW_t, l1, X5_share_L24, b1, ea, r1, i32_lit, i32_add, i32_mul, i32_tn, i32_sub, le_t, le_f, lt_t, lt_f, eq_t, eq_f, eq_rfl, inR_t, ↓ob_x, obx_s, ↓bnd_s, ↓oT_x, oTx_s, ↓ite_x, itx_T, itx_F, ↓reduceIte, not_true_eq_false, not_false_eq_true, true_and, and_true, Nat.reduceAdd, Nat.reduceMul, Nat.reduceSub, Nat.reduceEqDiff, isB0, isB1, Int32.neg_neg, Nat.zero_add, Nat.add_zero, Nat.mul_zero, Nat.mul_one, Nat.zero_mul]
        · rw [l2']; simp -dsimp -implicitDefEqProofs (disch := omega) only [mS_t, in_t, X6_share_L5, ea, c1, c2, r2, i32_lit, i32_add, i32_mul, i32_tn, i32_sub, le_t, le_f, lt_t, lt_f, eq_t, eq_f, eq_rfl, inR_t, ↓ob_x, obx_s, ↓bnd_s, ↓oT_x, oTx_s, ↓ite_x, itx_T, itx_F, ↓reduceIte, not_true_eq_false, not_false_eq_true, true_and, and_true, Nat.reduceAdd, Nat.reduceMul, Nat.reduceSub, Nat.reduceEqDiff, isB0, isB1, Int32.neg_neg, Nat.zero_add, Nat.add_zero, Nat.mul_zero, Nat.mul_one, Nat.zero_mul]
    · refine ⟨-4611686018427387904, gI, gM, ?_, ?_, d, i, c, hR⟩
      · simp -dsimp -implicitDefEqProofs (disch := omega) only [X5_share, isS_t, isW_f gI (by omega : 1 < 1000000) o2, i32_lit, i32_add, i32_mul, i32_tn, i32_sub, le_t, le_f, lt_t, lt_f, eq_t, eq_f, eq_rfl, inR_t, ↓ob_x, obx_s, ↓bnd_s, ↓oT_x, oTx_s, ↓ite_x, itx_T, itx_F, ↓reduceIte, not_true_eq_false, not_false_eq_true, true_and, and_true, Nat.reduceAdd, Nat.reduceMul, Nat.reduceSub, Nat.reduceEqDiff, isB0, isB1, Int32.neg_neg, Nat.zero_add, Nat.add_zero, Nat.mul_zero, Nat.mul_one, Nat.zero_mul]
      · rw [l2']; simp -dsimp -implicitDefEqProofs (disch := omega) only [mS_t, in_f gM (by omega : 1 < 1000000) o2, X6_share_L5, i32_lit, i32_add, i32_mul, i32_tn, i32_sub, le_t, le_f, lt_t, lt_f, eq_t, eq_f, eq_rfl, inR_t, ↓ob_x, obx_s, ↓bnd_s, ↓oT_x, oTx_s, ↓ite_x, itx_T, itx_F, ↓reduceIte, not_true_eq_false, not_false_eq_true, true_and, and_true, Nat.reduceAdd, Nat.reduceMul, Nat.reduceSub, Nat.reduceEqDiff, isB0, isB1, Int32.neg_neg, Nat.zero_add, Nat.add_zero, Nat.mul_zero, Nat.mul_one, Nat.zero_mul]
  · refine ⟨-4611686018427387904, gI, gM, ?_, ?_, d, i, c, hR⟩
    · simp -dsimp -implicitDefEqProofs (disch := omega) only [X5_share, isS_f gI o1, i32_lit, i32_add, i32_mul, i32_tn, i32_sub, le_t, le_f, lt_t, lt_f, eq_t, eq_f, eq_rfl, inR_t, ↓ob_x, obx_s, ↓bnd_s, ↓oT_x, oTx_s, ↓ite_x, itx_T, itx_F, ↓reduceIte, not_true_eq_false, not_false_eq_true, true_and, and_true, Nat.reduceAdd, Nat.reduceMul, Nat.reduceSub, Nat.reduceEqDiff, isB0, isB1, Int32.neg_neg, Nat.zero_add, Nat.add_zero, Nat.mul_zero, Nat.mul_one, Nat.zero_mul]
    · rw [l2']; simp -dsimp -implicitDefEqProofs (disch := omega) only [mS_f gM o1, X6_share_L5, i32_lit, i32_add, i32_mul, i32_tn, i32_sub, le_t, le_f, lt_t, lt_f, eq_t, eq_f, eq_rfl, inR_t, ↓ob_x, obx_s, ↓bnd_s, ↓oT_x, oTx_s, ↓ite_x, itx_T, itx_F, ↓reduceIte, not_true_eq_false, not_false_eq_true, true_and, and_true, Nat.reduceAdd, Nat.reduceMul, Nat.reduceSub, Nat.reduceEqDiff, isB0, isB1, Int32.neg_neg, Nat.zero_add, Nat.add_zero, Nat.mul_zero, Nat.mul_one, Nat.zero_mul]
