/-! WHAT A TEXT SAYS: the class's steps and the reference's codes, one beside the other -/
def stp (s c : Int32) (n n' : Nat) : Prop :=
  n ≤ 40 ∧ ((n' = n + 1 ∧ n < 40 ∧ ((∃ v, v ≤ 9999 ∧ s = i32 v ∧ c = i32 (100000 + v)) ∨ (∃ v, v < 6 ∧ s = -(i32 (266 + v)) ∧ c = i32 v))) ∨
  (n' = n ∧ 1 ≤ n ∧ ((s = -(i32 265) ∧ c = i32 13) ∨ (s = -(i32 259) ∧ c = i32 19))) ∨
  (n' + 1 = n ∧ 2 ≤ n ∧ ((s = -(i32 264) ∧ c = i32 11) ∨ (s = -(i32 263) ∧ c = i32 12) ∨ (s = -(i32 60) ∧ c = i32 14) ∨ (s = -(i32 61) ∧ c = i32 15) ∨ (s = -(i32 43) ∧ c = i32 16) ∨ (s = -(i32 45) ∧ c = i32 17) ∨ (s = -(i32 42) ∧ c = i32 18))))
def WFx (f h : Nat → Int32) : Nat → Nat → Nat → Prop
  | _, 0, n => n = 1
  | k, l + 1, n => ∃ n', stp (f k) (h k) n n' ∧ WFx f h (k + 1) l n'
def SH (i e p : Nat) (f h : Nat → Int32) (n : Nat) (gI gM : Mem) : Prop :=
  i < 6 ∧ p < 3 ∧ e ≤ 160 ∧ gI.1 (4 + 5 * i + 2) p = i32 e ∧ gM.1 0 12 = i32 i ∧ gM.1 8 (4 * i + p + 1) = i32 e ∧
  (∀ j, j < 160 → gI.1 (4 + 5 * i + 1) j = f j) ∧ (∀ j, j < 160 → gM.1 7 (200 * i + j) = h j) ∧ (∀ j, j < n → gI.1 (4 + 5 * i + 4) j = gM.1 17 j) ∧
  (∀ j, j < 6 → gI.1 (4 + 5 * i + 3) j = gM.1 18 j)
theorem SH_st {i e p : Nat} {f h : Nat → Int32} {n : Nat} {gI gM : Mem} (H : SH i e p f h n gI gM) (m : Nat) (x : Int32) (n' : Nat) (hn : n' = m + 1) (hm : m ≤ n) : SH i e p f h n' (stI gI (4 + 5 * i + 4) m x) (stI gM 17 m x) := by
  obtain ⟨a, b, c, d, e1, e2, e3, e4, e5, e6⟩ := H
  refine ⟨a, b, c, ?_, ?_, ?_, ?_, ?_, ?_, ?_⟩
  · rw [stI_ne _ _ _ _ _ (by omega)]; exact d
  · rw [stI_ne _ _ _ _ _ (by omega)]; exact e1
  · rw [stI_ne _ _ _ _ _ (by omega)]; exact e2
  · rw [stI_ne _ _ _ _ _ (by omega)]; exact e3
  · rw [stI_ne _ _ _ _ _ (by omega)]; exact e4
  · intro j hj
    rw [stI_1, stI_1, if_pos rfl, if_pos rfl]
    by_cases hjm : j = m
    · rw [if_pos hjm, if_pos hjm]
    · rw [if_neg hjm, if_neg hjm]; exact e5 j (by omega)
  · intro j hj
    rw [stI_ne _ _ _ _ _ (by omega), stI_ne _ _ _ _ _ (by omega)]; exact e6 j hj
theorem i32_negI {v : Nat} (h : v < 2147483648) : (-(i32 v)).toInt = -(v : Int) := by
  rw [show -(i32 v) = Int32.ofInt (-(v : Int)) from Int32.neg_ofNat, Int32.toInt_ofInt_of_le (by omega) (by omega)]
theorem cl_def (s : Int32) : (if (0 : Int32) < (if s < (99 : Int32) then s else (99 : Int32)) then (if s < (99 : Int32) then s else (99 : Int32)) else (0 : Int32)) = cl s := rfl
theorem neg_nlt {v : Nat} (h : v < 2147483648) : (i32 0 < -(i32 v)) = False := by
  apply eq_false
  rw [Int32.lt_iff_toInt_lt, i32_toInt (by omega), i32_negI h]
  omega
theorem m1_add {n : Nat} (h : 1 ≤ n) : i32 n + -(i32 1) = i32 (n - 1) := by
  rw [← i32_sub h, Int32.sub_eq_add_neg]
def two' (c x y : Int32) : Int32 :=
  if c = i32 11 then (if x = i32 0 then (if y = i32 0 then i32 0 else i32 1) else i32 1)
  else if c = i32 12 then (if x = i32 0 then i32 0 else if y = i32 0 then i32 0 else i32 1)
  else if c = i32 14 then (if y ≤ x then i32 0 else i32 1)
  else if c = i32 15 then (if x = y then i32 1 else i32 0)
  else if c = i32 16 then x + y else if c = i32 17 then x - y else x * y
/-- the reckoning of codes k, k+1, .. (l of them) over a stack of n -/
def evs (h a : Nat → Int32) : Nat → Nat → Nat → (Nat → Int32) → Int32
  | _, 0, _, st => st 0
  | k, l + 1, n, st =>
    if i32 100000 ≤ h k then evs h a (k + 1) l (n + 1) (upd st n (h k - i32 100000))
    else if h k < i32 11 then evs h a (k + 1) l (n + 1) (upd st n (a (h k).toNatClampNeg))
    else if h k = i32 13 then evs h a (k + 1) l n (upd st (n - 1) (if st (n - 1) = i32 0 then i32 1 else i32 0))
    else if h k = i32 19 then evs h a (k + 1) l n (upd st (n - 1) (-(st (n - 1))))
    else evs h a (k + 1) l (n - 1) (upd st (n - 2) (two' (h k) (st (n - 2)) (st (n - 1))))
theorem upd_j (st : Nat → Int32) (m : Nat) (x : Int32) (j : Nat) : upd st m x j = if j = m then x else st j := rfl
set_option maxHeartbeats 2000000 in
theorem evs_congr {f h a a' : Nat → Int32} (ha : ∀ j, j < 6 → a j = a' j) : ∀ (l k n : Nat) (st st' : Nat → Int32), WFx f h k l n → (∀ j, j < n → st j = st' j) → evs h a k l n st = evs h a' k l n st'
  | 0, k, n, st, st', W, hst => by
    have hn : n = 1 := W
    exact hst 0 (by omega)
  | l + 1, k, n, st, st', W, hst => by
    obtain ⟨n', ⟨hn, hs⟩, W'⟩ := W
    have key : ∀ m x, n' = m + 1 → m ≤ n → evs h a (k + 1) l n' (upd st m x) = evs h a' (k + 1) l n' (upd st' m x) := by
      intro m x q1 q2
      refine evs_congr ha l (k + 1) n' _ _ W' ?_
      intro j hj
      rw [upd_j, upd_j]
      by_cases e : j = m
      · rw [if_pos e, if_pos e]
      · rw [if_neg e, if_neg e]; exact hst j (by omega)
    rcases hs with ⟨hn', h40, hs⟩ | ⟨hn', h40, hs⟩ | ⟨hn', h40, hs⟩
    · subst hn'
      rcases hs with ⟨v, hv, hs, hc⟩ | ⟨v, hv, hs, hc⟩
      · simp -dsimp -implicitDefEqProofs (disch := omega) only [evs, i32_lit, i32_add, i32_mul, i32_tn, i32_sub, le_t, le_f, lt_t, lt_f, eq_t, eq_f, eq_rfl, inR_t, ↓ob_x, obx_s, ↓bnd_s, ↓oT_x, oTx_s, ↓ite_x, itx_T, itx_F, ↓reduceIte, not_true_eq_false, not_false_eq_true, true_and, and_true, Nat.reduceAdd, Nat.reduceMul, Nat.reduceSub, Nat.reduceEqDiff, isB0, isB1, Int32.neg_neg, Nat.zero_add, Nat.add_zero, Nat.mul_zero, Nat.mul_one, Nat.zero_mul, hc]; rw [key n _ rfl (by omega)]
      · simp -dsimp -implicitDefEqProofs (disch := omega) only [evs, i32_lit, i32_add, i32_mul, i32_tn, i32_sub, le_t, le_f, lt_t, lt_f, eq_t, eq_f, eq_rfl, inR_t, ↓ob_x, obx_s, ↓bnd_s, ↓oT_x, oTx_s, ↓ite_x, itx_T, itx_F, ↓reduceIte, not_true_eq_false, not_false_eq_true, true_and, and_true, Nat.reduceAdd, Nat.reduceMul, Nat.reduceSub, Nat.reduceEqDiff, isB0, isB1, Int32.neg_neg, Nat.zero_add, Nat.add_zero, Nat.mul_zero, Nat.mul_one, Nat.zero_mul, hc, ha v hv]; rw [key n _ rfl (by omega)]
    · subst hn'
      have e := hst (n' - 1) (by omega)
      rcases hs with ⟨hs, hc⟩ | ⟨hs, hc⟩ <;> (simp -dsimp -implicitDefEqProofs (disch := omega) only [evs, i32_lit, i32_add, i32_mul, i32_tn, i32_sub, le_t, le_f, lt_t, lt_f, eq_t, eq_f, eq_rfl, inR_t, ↓ob_x, obx_s, ↓bnd_s, ↓oT_x, oTx_s, ↓ite_x, itx_T, itx_F, ↓reduceIte, not_true_eq_false, not_false_eq_true, true_and, and_true, Nat.reduceAdd, Nat.reduceMul, Nat.reduceSub, Nat.reduceEqDiff, isB0, isB1, Int32.neg_neg, Nat.zero_add, Nat.add_zero, Nat.mul_zero, Nat.mul_one, Nat.zero_mul, hc, e]; rw [key (n' - 1) _ (by omega) (by omega)])
    · have e := hst (n - 1) (by omega)
      have e2 := hst (n - 2) (by omega)
      have e3 : n - 1 = n' := by omega
      rw [e3] at e
      rcases hs with ⟨hs, hc⟩ | ⟨hs, hc⟩ | ⟨hs, hc⟩ | ⟨hs, hc⟩ | ⟨hs, hc⟩ | ⟨hs, hc⟩ | ⟨hs, hc⟩ <;> (simp -dsimp -implicitDefEqProofs (disch := omega) only [evs, i32_lit, i32_add, i32_mul, i32_tn, i32_sub, le_t, le_f, lt_t, lt_f, eq_t, eq_f, eq_rfl, inR_t, ↓ob_x, obx_s, ↓bnd_s, ↓oT_x, oTx_s, ↓ite_x, itx_T, itx_F, ↓reduceIte, not_true_eq_false, not_false_eq_true, true_and, and_true, Nat.reduceAdd, Nat.reduceMul, Nat.reduceSub, Nat.reduceEqDiff, isB0, isB1, Int32.neg_neg, Nat.zero_add, Nat.add_zero, Nat.mul_zero, Nat.mul_one, Nat.zero_mul, hc, e, e2, e3]; rw [key (n - 2) _ (by omega) (by omega)])
def binc (s c : Nat) : Prop := (s = 264 ∧ c = 11) ∨ (s = 263 ∧ c = 12) ∨ (s = 60 ∧ c = 14) ∨ (s = 61 ∧ c = 15) ∨ (s = 43 ∧ c = 16) ∨ (s = 45 ∧ c = 17) ∨ (s = 42 ∧ c = 18)
theorem J_t {s c : Nat} (N : Nat) (x y : Int32) (g : Mem) (h : binc s c) : X4_joined N (i32 s) x y g = some (two' (i32 c) x y, g) := by
  rcases h with ⟨rfl, rfl⟩ | ⟨rfl, rfl⟩ | ⟨rfl, rfl⟩ | ⟨rfl, rfl⟩ | ⟨rfl, rfl⟩ | ⟨rfl, rfl⟩ | ⟨rfl, rfl⟩
  · by_cases hx : x = i32 0 <;> by_cases hy : y = i32 0 <;> simp -dsimp -implicitDefEqProofs (disch := omega) only [X4_joined, two', i32_lit, i32_add, i32_mul, i32_tn, i32_sub, le_t, le_f, lt_t, lt_f, eq_t, eq_f, eq_rfl, inR_t, ↓ob_x, obx_s, ↓bnd_s, ↓oT_x, oTx_s, ↓ite_x, itx_T, itx_F, ↓reduceIte, not_true_eq_false, not_false_eq_true, true_and, and_true, Nat.reduceAdd, Nat.reduceMul, Nat.reduceSub, Nat.reduceEqDiff, isB0, isB1, Int32.neg_neg, Nat.zero_add, Nat.add_zero, Nat.mul_zero, Nat.mul_one, Nat.zero_mul, hx, hy]
  · by_cases hx : x = i32 0 <;> by_cases hy : y = i32 0 <;> simp -dsimp -implicitDefEqProofs (disch := omega) only [X4_joined, two', i32_lit, i32_add, i32_mul, i32_tn, i32_sub, le_t, le_f, lt_t, lt_f, eq_t, eq_f, eq_rfl, inR_t, ↓ob_x, obx_s, ↓bnd_s, ↓oT_x, oTx_s, ↓ite_x, itx_T, itx_F, ↓reduceIte, not_true_eq_false, not_false_eq_true, true_and, and_true, Nat.reduceAdd, Nat.reduceMul, Nat.reduceSub, Nat.reduceEqDiff, isB0, isB1, Int32.neg_neg, Nat.zero_add, Nat.add_zero, Nat.mul_zero, Nat.mul_one, Nat.zero_mul, hx, hy]
  · by_cases hx : y ≤ x <;> simp -dsimp -implicitDefEqProofs (disch := omega) only [X4_joined, two', i32_lit, i32_add, i32_mul, i32_tn, i32_sub, le_t, le_f, lt_t, lt_f, eq_t, eq_f, eq_rfl, inR_t, ↓ob_x, obx_s, ↓bnd_s, ↓oT_x, oTx_s, ↓ite_x, itx_T, itx_F, ↓reduceIte, not_true_eq_false, not_false_eq_true, true_and, and_true, Nat.reduceAdd, Nat.reduceMul, Nat.reduceSub, Nat.reduceEqDiff, isB0, isB1, Int32.neg_neg, Nat.zero_add, Nat.add_zero, Nat.mul_zero, Nat.mul_one, Nat.zero_mul, hx]
  · by_cases hx : x = y <;> simp -dsimp -implicitDefEqProofs (disch := omega) only [X4_joined, two', i32_lit, i32_add, i32_mul, i32_tn, i32_sub, le_t, le_f, lt_t, lt_f, eq_t, eq_f, eq_rfl, inR_t, ↓ob_x, obx_s, ↓bnd_s, ↓oT_x, oTx_s, ↓ite_x, itx_T, itx_F, ↓reduceIte, not_true_eq_false, not_false_eq_true, true_and, and_true, Nat.reduceAdd, Nat.reduceMul, Nat.reduceSub, Nat.reduceEqDiff, isB0, isB1, Int32.neg_neg, Nat.zero_add, Nat.add_zero, Nat.mul_zero, Nat.mul_one, Nat.zero_mul, hx]
  · simp -dsimp -implicitDefEqProofs (disch := omega) only [X4_joined, two', i32_lit, i32_add, i32_mul, i32_tn, i32_sub, le_t, le_f, lt_t, lt_f, eq_t, eq_f, eq_rfl, inR_t, ↓ob_x, obx_s, ↓bnd_s, ↓oT_x, oTx_s, ↓ite_x, itx_T, itx_F, ↓reduceIte, not_true_eq_false, not_false_eq_true, true_and, and_true, Nat.reduceAdd, Nat.reduceMul, Nat.reduceSub, Nat.reduceEqDiff, isB0, isB1, Int32.neg_neg, Nat.zero_add, Nat.add_zero, Nat.mul_zero, Nat.mul_one, Nat.zero_mul]
  · simp -dsimp -implicitDefEqProofs (disch := omega) only [X4_joined, two', i32_lit, i32_add, i32_mul, i32_tn, i32_sub, le_t, le_f, lt_t, lt_f, eq_t, eq_f, eq_rfl, inR_t, ↓ob_x, obx_s, ↓bnd_s, ↓oT_x, oTx_s, ↓ite_x, itx_T, itx_F, ↓reduceIte, not_true_eq_false, not_false_eq_true, true_and, and_true, Nat.reduceAdd, Nat.reduceMul, Nat.reduceSub, Nat.reduceEqDiff, isB0, isB1, Int32.neg_neg, Nat.zero_add, Nat.add_zero, Nat.mul_zero, Nat.mul_one, Nat.zero_mul]
  · simp -dsimp -implicitDefEqProofs (disch := omega) only [X4_joined, two', i32_lit, i32_add, i32_mul, i32_tn, i32_sub, le_t, le_f, lt_t, lt_f, eq_t, eq_f, eq_rfl, inR_t, ↓ob_x, obx_s, ↓bnd_s, ↓oT_x, oTx_s, ↓ite_x, itx_T, itx_F, ↓reduceIte, not_true_eq_false, not_false_eq_true, true_and, and_true, Nat.reduceAdd, Nat.reduceMul, Nat.reduceSub, Nat.reduceEqDiff, isB0, isB1, Int32.neg_neg, Nat.zero_add, Nat.add_zero, Nat.mul_zero, Nat.mul_one, Nat.zero_mul]
theorem T_t {s c : Nat} (N : Nat) (x y : Int32) (g : Mem) (h : binc s c) : X6_two N (i32 c) x y g = some (two' (i32 c) x y, g) := by
  rcases h with ⟨rfl, rfl⟩ | ⟨rfl, rfl⟩ | ⟨rfl, rfl⟩ | ⟨rfl, rfl⟩ | ⟨rfl, rfl⟩ | ⟨rfl, rfl⟩ | ⟨rfl, rfl⟩
  · by_cases hx : x = i32 0 <;> by_cases hy : y = i32 0 <;> simp -dsimp -implicitDefEqProofs (disch := omega) only [X6_two, two', i32_lit, i32_add, i32_mul, i32_tn, i32_sub, le_t, le_f, lt_t, lt_f, eq_t, eq_f, eq_rfl, inR_t, ↓ob_x, obx_s, ↓bnd_s, ↓oT_x, oTx_s, ↓ite_x, itx_T, itx_F, ↓reduceIte, not_true_eq_false, not_false_eq_true, true_and, and_true, Nat.reduceAdd, Nat.reduceMul, Nat.reduceSub, Nat.reduceEqDiff, isB0, isB1, Int32.neg_neg, Nat.zero_add, Nat.add_zero, Nat.mul_zero, Nat.mul_one, Nat.zero_mul, hx, hy]
  · by_cases hx : x = i32 0 <;> by_cases hy : y = i32 0 <;> simp -dsimp -implicitDefEqProofs (disch := omega) only [X6_two, two', i32_lit, i32_add, i32_mul, i32_tn, i32_sub, le_t, le_f, lt_t, lt_f, eq_t, eq_f, eq_rfl, inR_t, ↓ob_x, obx_s, ↓bnd_s, ↓oT_x, oTx_s, ↓ite_x, itx_T, itx_F, ↓reduceIte, not_true_eq_false, not_false_eq_true, true_and, and_true, Nat.reduceAdd, Nat.reduceMul, Nat.reduceSub, Nat.reduceEqDiff, isB0, isB1, Int32.neg_neg, Nat.zero_add, Nat.add_zero, Nat.mul_zero, Nat.mul_one, Nat.zero_mul, hx, hy]
  · by_cases hx : y ≤ x <;> simp -dsimp -implicitDefEqProofs (disch := omega) only [X6_two, two', i32_lit, i32_add, i32_mul, i32_tn, i32_sub, le_t, le_f, lt_t, lt_f, eq_t, eq_f, eq_rfl, inR_t, ↓ob_x, obx_s, ↓bnd_s, ↓oT_x, oTx_s, ↓ite_x, itx_T, itx_F, ↓reduceIte, not_true_eq_false, not_false_eq_true, true_and, and_true, Nat.reduceAdd, Nat.reduceMul, Nat.reduceSub, Nat.reduceEqDiff, isB0, isB1, Int32.neg_neg, Nat.zero_add, Nat.add_zero, Nat.mul_zero, Nat.mul_one, Nat.zero_mul, hx]
  · by_cases hx : x = y <;> simp -dsimp -implicitDefEqProofs (disch := omega) only [X6_two, two', i32_lit, i32_add, i32_mul, i32_tn, i32_sub, le_t, le_f, lt_t, lt_f, eq_t, eq_f, eq_rfl, inR_t, ↓ob_x, obx_s, ↓bnd_s, ↓oT_x, oTx_s, ↓ite_x, itx_T, itx_F, ↓reduceIte, not_true_eq_false, not_false_eq_true, true_and, and_true, Nat.reduceAdd, Nat.reduceMul, Nat.reduceSub, Nat.reduceEqDiff, isB0, isB1, Int32.neg_neg, Nat.zero_add, Nat.add_zero, Nat.mul_zero, Nat.mul_one, Nat.zero_mul, hx]
  · simp -dsimp -implicitDefEqProofs (disch := omega) only [X6_two, two', i32_lit, i32_add, i32_mul, i32_tn, i32_sub, le_t, le_f, lt_t, lt_f, eq_t, eq_f, eq_rfl, inR_t, ↓ob_x, obx_s, ↓bnd_s, ↓oT_x, oTx_s, ↓ite_x, itx_T, itx_F, ↓reduceIte, not_true_eq_false, not_false_eq_true, true_and, and_true, Nat.reduceAdd, Nat.reduceMul, Nat.reduceSub, Nat.reduceEqDiff, isB0, isB1, Int32.neg_neg, Nat.zero_add, Nat.add_zero, Nat.mul_zero, Nat.mul_one, Nat.zero_mul]
  · simp -dsimp -implicitDefEqProofs (disch := omega) only [X6_two, two', i32_lit, i32_add, i32_mul, i32_tn, i32_sub, le_t, le_f, lt_t, lt_f, eq_t, eq_f, eq_rfl, inR_t, ↓ob_x, obx_s, ↓bnd_s, ↓oT_x, oTx_s, ↓ite_x, itx_T, itx_F, ↓reduceIte, not_true_eq_false, not_false_eq_true, true_and, and_true, Nat.reduceAdd, Nat.reduceMul, Nat.reduceSub, Nat.reduceEqDiff, isB0, isB1, Int32.neg_neg, Nat.zero_add, Nat.add_zero, Nat.mul_zero, Nat.mul_one, Nat.zero_mul]
  · simp -dsimp -implicitDefEqProofs (disch := omega) only [X6_two, two', i32_lit, i32_add, i32_mul, i32_tn, i32_sub, le_t, le_f, lt_t, lt_f, eq_t, eq_f, eq_rfl, inR_t, ↓ob_x, obx_s, ↓bnd_s, ↓oT_x, oTx_s, ↓ite_x, itx_T, itx_F, ↓reduceIte, not_true_eq_false, not_false_eq_true, true_and, and_true, Nat.reduceAdd, Nat.reduceMul, Nat.reduceSub, Nat.reduceEqDiff, isB0, isB1, Int32.neg_neg, Nat.zero_add, Nat.add_zero, Nat.mul_zero, Nat.mul_one, Nat.zero_mul]
set_option maxRecDepth 100000 in
set_option maxHeartbeats 400000 in
theorem says_loop (N : Nat) (i e p : Nat) (f h : Nat → Int32) (a2 a3 a4 a5 a6 a7 : Int32) : ∀ (l k n fuI fuM : Nat) (gI gM : Mem), SH i e p f h n gI gM → WFx f h k l n → k + l = e → l < fuI → l < fuM →
    ∃ gI' gM', X4_says_L78 N (4 + 5 * i) (i32 p) a2 a3 a4 a5 a6 a7 fuI (i32 n) (i32 k) gI = some (cl (evs h (gM.1 18) k l n (gM.1 17)), gI') ∧ X6_says_L16 N (i32 p) fuM (i32 n) (i32 k) gM = some (evs h (gM.1 18) k l n (gM.1 17), gM') ∧ SI gI gI' ∧ SM gM gM'
  | 0, k, n, fuI, fuM, gI, gM, H, W, hk, h1, h2 => by
    obtain ⟨hi, hp, he, d, e1, e2, e3, e4, e5, e6⟩ := H
    obtain ⟨fI, rfl⟩ : ∃ q, fuI = q + 1 := ⟨fuI - 1, by omega⟩
    obtain ⟨fM, rfl⟩ : ∃ q, fuM = q + 1 := ⟨fuM - 1, by omega⟩
    have hn : n = 1 := W
    subst hn
    refine ⟨gI, gM, ?_, ?_, SI_rfl _, SM_rfl _⟩
    · simp -dsimp -implicitDefEqProofs (disch := omega) only [X4_says_L78, ↓cl_def, i32_lit, i32_add, i32_mul, i32_tn, i32_sub, le_t, le_f, lt_t, lt_f, eq_t, eq_f, eq_rfl, inR_t, ↓ob_x, obx_s, ↓bnd_s, ↓oT_x, oTx_s, ↓ite_x, itx_T, itx_F, ↓reduceIte, not_true_eq_false, not_false_eq_true, true_and, and_true, Nat.reduceAdd, Nat.reduceMul, Nat.reduceSub, Nat.reduceEqDiff, isB0, isB1, Int32.neg_neg, Nat.zero_add, Nat.add_zero, Nat.mul_zero, Nat.mul_one, Nat.zero_mul, d, e5, evs]
    · simp -dsimp -implicitDefEqProofs (disch := omega) only [X6_says_L16, i32_lit, i32_add, i32_mul, i32_tn, i32_sub, le_t, le_f, lt_t, lt_f, eq_t, eq_f, eq_rfl, inR_t, ↓ob_x, obx_s, ↓bnd_s, ↓oT_x, oTx_s, ↓ite_x, itx_T, itx_F, ↓reduceIte, not_true_eq_false, not_false_eq_true, true_and, and_true, Nat.reduceAdd, Nat.reduceMul, Nat.reduceSub, Nat.reduceEqDiff, isB0, isB1, Int32.neg_neg, Nat.zero_add, Nat.add_zero, Nat.mul_zero, Nat.mul_one, Nat.zero_mul, e1, e2, evs]
  | l + 1, k, n, fuI, fuM, gI, gM, H, W, hk, h1, h2 => by
    obtain ⟨hi, hp, he, d, e1, e2, e3, e4, e5, e6⟩ := id H
    obtain ⟨fI, rfl⟩ : ∃ q, fuI = q + 1 := ⟨fuI - 1, by omega⟩
    obtain ⟨fM, rfl⟩ : ∃ q, fuM = q + 1 := ⟨fuM - 1, by omega⟩
    obtain ⟨n', ⟨hn, hs⟩, W'⟩ := W
    have f3 := e3 k (by omega)
    have f4 := e4 k (by omega)
    have key : ∀ (m : Nat) (x : Int32), n' = m + 1 → m ≤ n → evs h (gM.1 18) k (l + 1) n (gM.1 17) = evs h (gM.1 18) (k + 1) l n' (upd (gM.1 17) m x) → ∃ gI' gM', X4_says_L78 N (4 + 5 * i) (i32 p) a2 a3 a4 a5 a6 a7 fI (i32 n') (i32 (k + 1)) (stI gI (4 + 5 * i + 4) m x) = some (cl (evs h (gM.1 18) k (l + 1) n (gM.1 17)), gI') ∧ X6_says_L16 N (i32 p) fM (i32 n') (i32 (k + 1)) (stI gM 17 m x) = some (evs h (gM.1 18) k (l + 1) n (gM.1 17), gM') ∧ SI gI gI' ∧ SM gM gM' := by
      intro m x q1 q2 q3
      obtain ⟨gI', gM', r1, r2, r3, r4⟩ := says_loop N i e p f h a2 a3 a4 a5 a6 a7 l (k + 1) n' fI fM _ _ (SH_st H m x n' q1 q2) W' (by omega) (by omega) (by omega)
      rw [q3]
      have q4 : (stI gM 17 m x).1 17 = upd (gM.1 17) m x := rfl
      have q5 : (stI gM 17 m x).1 18 = gM.1 18 := rfl
      rw [q4, q5] at r1 r2
      exact ⟨gI', gM', r1, r2, SI_tr (SI_st gI i 4 m x hi (Or.inr rfl)) r3, SM_tr (SM_st gM 17 m x (Or.inl rfl)) r4⟩
    rcases hs with ⟨hn', h40, hs⟩ | ⟨hn', h40, hs⟩ | ⟨hn', h40, hs⟩
    · subst hn'
      rcases hs with ⟨v, hv, hs, hc⟩ | ⟨v, hv, hs, hc⟩
      · obtain ⟨gI', gM', r1, r2, r3, r4⟩ := key n (i32 v) rfl (by omega) (by simp -dsimp -implicitDefEqProofs (disch := omega) only [evs, i32_lit, i32_add, i32_mul, i32_tn, i32_sub, le_t, le_f, lt_t, lt_f, eq_t, eq_f, eq_rfl, inR_t, ↓ob_x, obx_s, ↓bnd_s, ↓oT_x, oTx_s, ↓ite_x, itx_T, itx_F, ↓reduceIte, not_true_eq_false, not_false_eq_true, true_and, and_true, Nat.reduceAdd, Nat.reduceMul, Nat.reduceSub, Nat.reduceEqDiff, isB0, isB1, Int32.neg_neg, Nat.zero_add, Nat.add_zero, Nat.mul_zero, Nat.mul_one, Nat.zero_mul, hc, Nat.add_sub_cancel_left])
        refine ⟨gI', gM', ?_, ?_, r3, r4⟩
        · simp -dsimp -implicitDefEqProofs (disch := omega) only [X4_says_L78, i32_lit, i32_add, i32_mul, i32_tn, i32_sub, le_t, le_f, lt_t, lt_f, eq_t, eq_f, eq_rfl, inR_t, ↓ob_x, obx_s, ↓bnd_s, ↓oT_x, oTx_s, ↓ite_x, itx_T, itx_F, ↓reduceIte, not_true_eq_false, not_false_eq_true, true_and, and_true, Nat.reduceAdd, Nat.reduceMul, Nat.reduceSub, Nat.reduceEqDiff, isB0, isB1, Int32.neg_neg, Nat.zero_add, Nat.add_zero, Nat.mul_zero, Nat.mul_one, Nat.zero_mul, d, f3, hs, neg_nlt, r1]
        · simp -dsimp -implicitDefEqProofs (disch := omega) only [X6_says_L16, i32_lit, i32_add, i32_mul, i32_tn, i32_sub, le_t, le_f, lt_t, lt_f, eq_t, eq_f, eq_rfl, inR_t, ↓ob_x, obx_s, ↓bnd_s, ↓oT_x, oTx_s, ↓ite_x, itx_T, itx_F, ↓reduceIte, not_true_eq_false, not_false_eq_true, true_and, and_true, Nat.reduceAdd, Nat.reduceMul, Nat.reduceSub, Nat.reduceEqDiff, isB0, isB1, Int32.neg_neg, Nat.zero_add, Nat.add_zero, Nat.mul_zero, Nat.mul_one, Nat.zero_mul, e1, e2, f4, hc, Nat.add_sub_cancel_left, r2]
      · obtain ⟨gI', gM', r1, r2, r3, r4⟩ := key n (gM.1 18 v) rfl (by omega) (by simp -dsimp -implicitDefEqProofs (disch := omega) only [evs, i32_lit, i32_add, i32_mul, i32_tn, i32_sub, le_t, le_f, lt_t, lt_f, eq_t, eq_f, eq_rfl, inR_t, ↓ob_x, obx_s, ↓bnd_s, ↓oT_x, oTx_s, ↓ite_x, itx_T, itx_F, ↓reduceIte, not_true_eq_false, not_false_eq_true, true_and, and_true, Nat.reduceAdd, Nat.reduceMul, Nat.reduceSub, Nat.reduceEqDiff, isB0, isB1, Int32.neg_neg, Nat.zero_add, Nat.add_zero, Nat.mul_zero, Nat.mul_one, Nat.zero_mul, hc])
        refine ⟨gI', gM', ?_, ?_, r3, r4⟩
        · simp -dsimp -implicitDefEqProofs (disch := omega) only [X4_says_L78, X3_isName, i32_lit, i32_add, i32_mul, i32_tn, i32_sub, le_t, le_f, lt_t, lt_f, eq_t, eq_f, eq_rfl, inR_t, ↓ob_x, obx_s, ↓bnd_s, ↓oT_x, oTx_s, ↓ite_x, itx_T, itx_F, ↓reduceIte, not_true_eq_false, not_false_eq_true, true_and, and_true, Nat.reduceAdd, Nat.reduceMul, Nat.reduceSub, Nat.reduceEqDiff, isB0, isB1, Int32.neg_neg, Nat.zero_add, Nat.add_zero, Nat.mul_zero, Nat.mul_one, Nat.zero_mul, d, f3, hs, Nat.add_sub_cancel_left, e6, r1]
        · simp -dsimp -implicitDefEqProofs (disch := omega) only [X6_says_L16, i32_lit, i32_add, i32_mul, i32_tn, i32_sub, le_t, le_f, lt_t, lt_f, eq_t, eq_f, eq_rfl, inR_t, ↓ob_x, obx_s, ↓bnd_s, ↓oT_x, oTx_s, ↓ite_x, itx_T, itx_F, ↓reduceIte, not_true_eq_false, not_false_eq_true, true_and, and_true, Nat.reduceAdd, Nat.reduceMul, Nat.reduceSub, Nat.reduceEqDiff, isB0, isB1, Int32.neg_neg, Nat.zero_add, Nat.add_zero, Nat.mul_zero, Nat.mul_one, Nat.zero_mul, e1, e2, f4, hc, r2]
    · subst hn'
      rcases hs with ⟨hs, hc⟩ | ⟨hs, hc⟩
      · by_cases hz : gM.1 17 (n' - 1) = i32 0
        · obtain ⟨gI', gM', r1, r2, r3, r4⟩ := key (n' - 1) (i32 1) (by omega) (by omega) (by simp -dsimp -implicitDefEqProofs (disch := omega) only [evs, i32_lit, i32_add, i32_mul, i32_tn, i32_sub, le_t, le_f, lt_t, lt_f, eq_t, eq_f, eq_rfl, inR_t, ↓ob_x, obx_s, ↓bnd_s, ↓oT_x, oTx_s, ↓ite_x, itx_T, itx_F, ↓reduceIte, not_true_eq_false, not_false_eq_true, true_and, and_true, Nat.reduceAdd, Nat.reduceMul, Nat.reduceSub, Nat.reduceEqDiff, isB0, isB1, Int32.neg_neg, Nat.zero_add, Nat.add_zero, Nat.mul_zero, Nat.mul_one, Nat.zero_mul, hc, hz])
          refine ⟨gI', gM', ?_, ?_, r3, r4⟩
          · simp -dsimp -implicitDefEqProofs (disch := omega) only [X4_says_L78, X3_isName, i32_lit, i32_add, i32_mul, i32_tn, i32_sub, le_t, le_f, lt_t, lt_f, eq_t, eq_f, eq_rfl, inR_t, ↓ob_x, obx_s, ↓bnd_s, ↓oT_x, oTx_s, ↓ite_x, itx_T, itx_F, ↓reduceIte, not_true_eq_false, not_false_eq_true, true_and, and_true, Nat.reduceAdd, Nat.reduceMul, Nat.reduceSub, Nat.reduceEqDiff, isB0, isB1, Int32.neg_neg, Nat.zero_add, Nat.add_zero, Nat.mul_zero, Nat.mul_one, Nat.zero_mul, d, f3, hs, e5, hz, r1]
          · simp -dsimp -implicitDefEqProofs (disch := omega) only [X6_says_L16, i32_lit, i32_add, i32_mul, i32_tn, i32_sub, le_t, le_f, lt_t, lt_f, eq_t, eq_f, eq_rfl, inR_t, ↓ob_x, obx_s, ↓bnd_s, ↓oT_x, oTx_s, ↓ite_x, itx_T, itx_F, ↓reduceIte, not_true_eq_false, not_false_eq_true, true_and, and_true, Nat.reduceAdd, Nat.reduceMul, Nat.reduceSub, Nat.reduceEqDiff, isB0, isB1, Int32.neg_neg, Nat.zero_add, Nat.add_zero, Nat.mul_zero, Nat.mul_one, Nat.zero_mul, e1, e2, f4, hc, hz, r2]
        · obtain ⟨gI', gM', r1, r2, r3, r4⟩ := key (n' - 1) (i32 0) (by omega) (by omega) (by simp -dsimp -implicitDefEqProofs (disch := omega) only [evs, i32_lit, i32_add, i32_mul, i32_tn, i32_sub, le_t, le_f, lt_t, lt_f, eq_t, eq_f, eq_rfl, inR_t, ↓ob_x, obx_s, ↓bnd_s, ↓oT_x, oTx_s, ↓ite_x, itx_T, itx_F, ↓reduceIte, not_true_eq_false, not_false_eq_true, true_and, and_true, Nat.reduceAdd, Nat.reduceMul, Nat.reduceSub, Nat.reduceEqDiff, isB0, isB1, Int32.neg_neg, Nat.zero_add, Nat.add_zero, Nat.mul_zero, Nat.mul_one, Nat.zero_mul, hc, hz])
          refine ⟨gI', gM', ?_, ?_, r3, r4⟩
          · simp -dsimp -implicitDefEqProofs (disch := omega) only [X4_says_L78, X3_isName, i32_lit, i32_add, i32_mul, i32_tn, i32_sub, le_t, le_f, lt_t, lt_f, eq_t, eq_f, eq_rfl, inR_t, ↓ob_x, obx_s, ↓bnd_s, ↓oT_x, oTx_s, ↓ite_x, itx_T, itx_F, ↓reduceIte, not_true_eq_false, not_false_eq_true, true_and, and_true, Nat.reduceAdd, Nat.reduceMul, Nat.reduceSub, Nat.reduceEqDiff, isB0, isB1, Int32.neg_neg, Nat.zero_add, Nat.add_zero, Nat.mul_zero, Nat.mul_one, Nat.zero_mul, d, f3, hs, e5, hz, r1]
          · simp -dsimp -implicitDefEqProofs (disch := omega) only [X6_says_L16, i32_lit, i32_add, i32_mul, i32_tn, i32_sub, le_t, le_f, lt_t, lt_f, eq_t, eq_f, eq_rfl, inR_t, ↓ob_x, obx_s, ↓bnd_s, ↓oT_x, oTx_s, ↓ite_x, itx_T, itx_F, ↓reduceIte, not_true_eq_false, not_false_eq_true, true_and, and_true, Nat.reduceAdd, Nat.reduceMul, Nat.reduceSub, Nat.reduceEqDiff, isB0, isB1, Int32.neg_neg, Nat.zero_add, Nat.add_zero, Nat.mul_zero, Nat.mul_one, Nat.zero_mul, e1, e2, f4, hc, hz, r2]
      · obtain ⟨gI', gM', r1, r2, r3, r4⟩ := key (n' - 1) (-(gM.1 17 (n' - 1))) (by omega) (by omega) (by simp -dsimp -implicitDefEqProofs (disch := omega) only [evs, i32_lit, i32_add, i32_mul, i32_tn, i32_sub, le_t, le_f, lt_t, lt_f, eq_t, eq_f, eq_rfl, inR_t, ↓ob_x, obx_s, ↓bnd_s, ↓oT_x, oTx_s, ↓ite_x, itx_T, itx_F, ↓reduceIte, not_true_eq_false, not_false_eq_true, true_and, and_true, Nat.reduceAdd, Nat.reduceMul, Nat.reduceSub, Nat.reduceEqDiff, isB0, isB1, Int32.neg_neg, Nat.zero_add, Nat.add_zero, Nat.mul_zero, Nat.mul_one, Nat.zero_mul, hc])
        refine ⟨gI', gM', ?_, ?_, r3, r4⟩
        · simp -dsimp -implicitDefEqProofs (disch := omega) only [X4_says_L78, X3_isName, i32_lit, i32_add, i32_mul, i32_tn, i32_sub, le_t, le_f, lt_t, lt_f, eq_t, eq_f, eq_rfl, inR_t, ↓ob_x, obx_s, ↓bnd_s, ↓oT_x, oTx_s, ↓ite_x, itx_T, itx_F, ↓reduceIte, not_true_eq_false, not_false_eq_true, true_and, and_true, Nat.reduceAdd, Nat.reduceMul, Nat.reduceSub, Nat.reduceEqDiff, isB0, isB1, Int32.neg_neg, Nat.zero_add, Nat.add_zero, Nat.mul_zero, Nat.mul_one, Nat.zero_mul, d, f3, hs, e5, r1]
        · simp -dsimp -implicitDefEqProofs (disch := omega) only [X6_says_L16, i32_lit, i32_add, i32_mul, i32_tn, i32_sub, le_t, le_f, lt_t, lt_f, eq_t, eq_f, eq_rfl, inR_t, ↓ob_x, obx_s, ↓bnd_s, ↓oT_x, oTx_s, ↓ite_x, itx_T, itx_F, ↓reduceIte, not_true_eq_false, not_false_eq_true, true_and, and_true, Nat.reduceAdd, Nat.reduceMul, Nat.reduceSub, Nat.reduceEqDiff, isB0, isB1, Int32.neg_neg, Nat.zero_add, Nat.add_zero, Nat.mul_zero, Nat.mul_one, Nat.zero_mul, e1, e2, f4, hc, r2]
    · obtain ⟨w, hw⟩ : ∃ w, n = w + 2 := ⟨n - 2, by omega⟩
      subst hw
      have e7 : w + 2 - 1 = w + 1 := by omega
      have e8 : n' = w + 1 := by omega
      have e9 : w + 1 - 1 = w := by omega
      have e10 : w + 2 - 2 = w := by omega
      subst e8
      have hb : ∃ s c, binc s c ∧ f k = -(i32 s) ∧ h k = i32 c := by
        rcases hs with ⟨hs, hc⟩ | ⟨hs, hc⟩ | ⟨hs, hc⟩ | ⟨hs, hc⟩ | ⟨hs, hc⟩ | ⟨hs, hc⟩ | ⟨hs, hc⟩ <;> exact ⟨_, _, by unfold binc; first | exact Or.inl ⟨rfl, rfl⟩ | exact Or.inr (Or.inl ⟨rfl, rfl⟩) | exact Or.inr (Or.inr (Or.inl ⟨rfl, rfl⟩)) | exact Or.inr (Or.inr (Or.inr (Or.inl ⟨rfl, rfl⟩))) | exact Or.inr (Or.inr (Or.inr (Or.inr (Or.inl ⟨rfl, rfl⟩)))) | exact Or.inr (Or.inr (Or.inr (Or.inr (Or.inr (Or.inl ⟨rfl, rfl⟩))))) | exact Or.inr (Or.inr (Or.inr (Or.inr (Or.inr (Or.inr ⟨rfl, rfl⟩))))), hs, hc⟩
      clear hs
      obtain ⟨s, c, hb, hs, hc⟩ := hb
      have hs1 : s < 265 ∧ 0 < s ∧ s ≠ 259 ∧ 11 ≤ c ∧ c < 19 ∧ c ≠ 13 := by unfold binc at hb; omega
      have b1 := fun x y g => J_t N x y g hb
      have b2 := fun x y g => T_t N x y g hb
      clear hb
      obtain ⟨gI', gM', r1, r2, r3, r4⟩ := key w (two' (i32 c) (gM.1 17 w) (gM.1 17 (w + 1))) rfl (by omega) (by simp -dsimp -implicitDefEqProofs (disch := omega) only [evs, e7, e9, e10, i32_lit, i32_add, i32_mul, i32_tn, i32_sub, le_t, le_f, lt_t, lt_f, eq_t, eq_f, eq_rfl, inR_t, ↓ob_x, obx_s, ↓bnd_s, ↓oT_x, oTx_s, ↓ite_x, itx_T, itx_F, ↓reduceIte, not_true_eq_false, not_false_eq_true, true_and, and_true, Nat.reduceAdd, Nat.reduceMul, Nat.reduceSub, Nat.reduceEqDiff, isB0, isB1, Int32.neg_neg, Nat.zero_add, Nat.add_zero, Nat.mul_zero, Nat.mul_one, Nat.zero_mul, hc])
      refine ⟨gI', gM', ?_, ?_, r3, r4⟩
      · have q1 : X3_isName N (i32 s) gI = some (i32 0, gI) := by simp -dsimp -implicitDefEqProofs (disch := omega) only [X3_isName, i32_lit, i32_add, i32_mul, i32_tn, i32_sub, le_t, le_f, lt_t, lt_f, eq_t, eq_f, eq_rfl, inR_t, ↓ob_x, obx_s, ↓bnd_s, ↓oT_x, oTx_s, ↓ite_x, itx_T, itx_F, ↓reduceIte, not_true_eq_false, not_false_eq_true, true_and, and_true, Nat.reduceAdd, Nat.reduceMul, Nat.reduceSub, Nat.reduceEqDiff, isB0, isB1, Int32.neg_neg, Nat.zero_add, Nat.add_zero, Nat.mul_zero, Nat.mul_one, Nat.zero_mul]
        simp -dsimp -implicitDefEqProofs (disch := omega) only [X4_says_L78, q1, e7, e9, e10, i32_lit, i32_add, i32_mul, i32_tn, i32_sub, le_t, le_f, lt_t, lt_f, eq_t, eq_f, eq_rfl, inR_t, ↓ob_x, obx_s, ↓bnd_s, ↓oT_x, oTx_s, ↓ite_x, itx_T, itx_F, ↓reduceIte, not_true_eq_false, not_false_eq_true, true_and, and_true, Nat.reduceAdd, Nat.reduceMul, Nat.reduceSub, Nat.reduceEqDiff, isB0, isB1, Int32.neg_neg, Nat.zero_add, Nat.add_zero, Nat.mul_zero, Nat.mul_one, Nat.zero_mul, m1_add, d, f3, hs, e5, b1, r1]
      · simp -dsimp -implicitDefEqProofs (disch := omega) only [X6_says_L16, e7, e9, e10, i32_lit, i32_add, i32_mul, i32_tn, i32_sub, le_t, le_f, lt_t, lt_f, eq_t, eq_f, eq_rfl, inR_t, ↓ob_x, obx_s, ↓bnd_s, ↓oT_x, oTx_s, ↓ite_x, itx_T, itx_F, ↓reduceIte, not_true_eq_false, not_false_eq_true, true_and, and_true, Nat.reduceAdd, Nat.reduceMul, Nat.reduceSub, Nat.reduceEqDiff, isB0, isB1, Int32.neg_neg, Nat.zero_add, Nat.add_zero, Nat.mul_zero, Nat.mul_one, Nat.zero_mul, m1_add, e1, e2, f4, hc, b2, r2]
