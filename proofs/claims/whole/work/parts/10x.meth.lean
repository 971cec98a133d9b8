/-! cell, copy, diversBy, taken, film -/
theorem sub_I {a b : Nat} (ha : a < 1000000000) (hb : b < 1000000000) : (i32 a - i32 b).toInt = (a : Int) - b := by
  by_cases h : b ≤ a
  · rw [i32_sub h, i32_toInt (by omega)]; omega
  · rw [show i32 a - i32 b = -(i32 (b - a)) by rw [← i32_sub (by omega : a ≤ b), Int32.neg_sub], i32_negI (by omega)]; omega
theorem out1 {m : Nat} {a : Int32} (hm : m ≤ 40) (o : Out a m) (h : ¬ a < i32 0) : i32 m - i32 1 < a := pr_lt (by omega) o h
/-- number j of a sheet, on both sides -/
theorem RR_cell {d i c s m j : Nat} {gI gM : Mem} (hR : RR d i c gI gM) (S0 : ShS s m gI gM) (hj : j < 40) (v : Int32) : RR d i c (stI gI (34 + 2 * s + 1) j v) (stI gM 13 (40 * s + j) v) := by
  obtain ⟨hs, hm, e1, e2, e3⟩ := S0
  refine RR_sh hR (fun e he => stI_ne _ _ _ _ _ (by omega)) rfl (fun e _ _ h => stI_ne _ _ _ _ _ h) ?_
  obtain ⟨a, b, q, r⟩ := hR.2.2.2.1 s hs
  refine Sh_one hR.2.2.2.1 (fun e _ h _ => stI_ne _ _ _ _ _ h) (fun j _ => by rw [stI_ne _ _ _ _ _ (by omega)]) (fun j _ => by rw [stI_ne _ _ _ _ _ (by omega)]) (fun y hy => by rw [stI_nj _ _ _ _ _ (by omega)]) ⟨?_, ?_, ⟨m, hm, ?_, ?_⟩, fun y hy => ?_⟩
  · rw [stI_ne _ _ _ _ _ (by omega), stI_ne _ _ _ _ _ (by omega)]; exact a
  · rw [stI_ne _ _ _ _ _ (by omega)]; exact b
  · rw [stI_ne _ _ _ _ _ (by omega)]; exact e1
  · rw [stI_ne _ _ _ _ _ (by omega)]; exact e2
  · by_cases hyj : y = j
    · subst hyj; rw [stI_eq, stI_eq]
    · rw [stI_nj _ _ _ _ _ hyj, stI_nj _ _ _ _ _ (by omega)]; exact e3 y hy
set_option maxRecDepth 100000 in
theorem e_cell {N : Nat} (hN : 6000 ≤ N) {gI gM : Mem} (h : R gI gM) (a1 a2 a3 : Int32) : EQ (X5_cell N a1 a2 a3 gI) (X6_cell N a1 a2 a3 gM) := by
  obtain ⟨d, i, c, hR⟩ := h
  rcases rg a1 4 (by omega) with ⟨s, hs, rfl⟩ | o1
  · obtain ⟨e1, e2, ⟨m, hm, e3, e4⟩, e5⟩ := hR.2.2.2.1 s hs
    have S0 : ShS s m gI gM := ⟨hs, hm, e3, e4, e5⟩
    rcases e2 with e2 | ⟨t, ht, e2⟩
    · exact ⟨-11, gI, gM, by simp -dsimp -implicitDefEqProofs (disch := omega) only [X5_cell, X5_refusalOfSheet, isH_t, e1, e2, m_ne, i32_lit, i32_add, i32_mul, i32_tn, i32_sub, le_t, le_f, lt_t, lt_f, eq_t, eq_f, eq_rfl, inR_t, ↓ob_x, obx_s, ↓bnd_s, ↓oT_x, oTx_s, ↓ite_x, itx_T, itx_F, ↓reduceIte, not_true_eq_false, not_false_eq_true, true_and, and_true, Nat.reduceAdd, Nat.reduceMul, Nat.reduceSub, Nat.reduceEqDiff, isB0, isB1, Int32.neg_neg, Nat.zero_add, Nat.add_zero, Nat.mul_zero, Nat.mul_one, Nat.zero_mul], by simp -dsimp -implicitDefEqProofs (disch := omega) only [X6_cell, in_t, e2, i32_lit, i32_add, i32_mul, i32_tn, i32_sub, le_t, le_f, lt_t, lt_f, eq_t, eq_f, eq_rfl, inR_t, ↓ob_x, obx_s, ↓bnd_s, ↓oT_x, oTx_s, ↓ite_x, itx_T, itx_F, ↓reduceIte, not_true_eq_false, not_false_eq_true, true_and, and_true, Nat.reduceAdd, Nat.reduceMul, Nat.reduceSub, Nat.reduceEqDiff, isB0, isB1, Int32.neg_neg, Nat.zero_add, Nat.add_zero, Nat.mul_zero, Nat.mul_one, Nat.zero_mul], d, i, c, hR⟩
    · have n1 := ne_m (x := t) (v := 1) (by omega)
      rcases rg a2 m (by omega) with ⟨j, hj, rfl⟩ | o2
      · rcases (by omega : t = 0 ∨ t = 1 ∨ t = 2) with rfl | rfl | rfl
        · exact ⟨1, _, _, by simp -dsimp -implicitDefEqProofs (disch := omega) only [X5_cell, X5_refusalOfSheet, X2_set, X2_holds, isH_t, e1, e2, e3, n1, i32_lit, i32_add, i32_mul, i32_tn, i32_sub, le_t, le_f, lt_t, lt_f, eq_t, eq_f, eq_rfl, inR_t, ↓ob_x, obx_s, ↓bnd_s, ↓oT_x, oTx_s, ↓ite_x, itx_T, itx_F, ↓reduceIte, not_true_eq_false, not_false_eq_true, true_and, and_true, Nat.reduceAdd, Nat.reduceMul, Nat.reduceSub, Nat.reduceEqDiff, isB0, isB1, Int32.neg_neg, Nat.zero_add, Nat.add_zero, Nat.mul_zero, Nat.mul_one, Nat.zero_mul], by simp -dsimp -implicitDefEqProofs (disch := omega) only [X6_cell, in_t, e2, e4, n1, i32_lit, i32_add, i32_mul, i32_tn, i32_sub, le_t, le_f, lt_t, lt_f, eq_t, eq_f, eq_rfl, inR_t, ↓ob_x, obx_s, ↓bnd_s, ↓oT_x, oTx_s, ↓ite_x, itx_T, itx_F, ↓reduceIte, not_true_eq_false, not_false_eq_true, true_and, and_true, Nat.reduceAdd, Nat.reduceMul, Nat.reduceSub, Nat.reduceEqDiff, isB0, isB1, Int32.neg_neg, Nat.zero_add, Nat.add_zero, Nat.mul_zero, Nat.mul_one, Nat.zero_mul], d, i, c, RR_cell (j := j) hR S0 (by omega) (a3.toInt8.toInt32)⟩
        · exact ⟨1, _, _, by simp -dsimp -implicitDefEqProofs (disch := omega) only [X5_cell, X5_refusalOfSheet, X2_set, X2_holds, isH_t, e1, e2, e3, n1, i32_lit, i32_add, i32_mul, i32_tn, i32_sub, le_t, le_f, lt_t, lt_f, eq_t, eq_f, eq_rfl, inR_t, ↓ob_x, obx_s, ↓bnd_s, ↓oT_x, oTx_s, ↓ite_x, itx_T, itx_F, ↓reduceIte, not_true_eq_false, not_false_eq_true, true_and, and_true, Nat.reduceAdd, Nat.reduceMul, Nat.reduceSub, Nat.reduceEqDiff, isB0, isB1, Int32.neg_neg, Nat.zero_add, Nat.add_zero, Nat.mul_zero, Nat.mul_one, Nat.zero_mul], by simp -dsimp -implicitDefEqProofs (disch := omega) only [X6_cell, in_t, e2, e4, n1, i32_lit, i32_add, i32_mul, i32_tn, i32_sub, le_t, le_f, lt_t, lt_f, eq_t, eq_f, eq_rfl, inR_t, ↓ob_x, obx_s, ↓bnd_s, ↓oT_x, oTx_s, ↓ite_x, itx_T, itx_F, ↓reduceIte, not_true_eq_false, not_false_eq_true, true_and, and_true, Nat.reduceAdd, Nat.reduceMul, Nat.reduceSub, Nat.reduceEqDiff, isB0, isB1, Int32.neg_neg, Nat.zero_add, Nat.add_zero, Nat.mul_zero, Nat.mul_one, Nat.zero_mul], d, i, c, RR_cell (j := j) hR S0 (by omega) (a3.toInt16.toInt32)⟩
        · exact ⟨1, _, _, by simp -dsimp -implicitDefEqProofs (disch := omega) only [X5_cell, X5_refusalOfSheet, X2_set, X2_holds, isH_t, e1, e2, e3, n1, i32_lit, i32_add, i32_mul, i32_tn, i32_sub, le_t, le_f, lt_t, lt_f, eq_t, eq_f, eq_rfl, inR_t, ↓ob_x, obx_s, ↓bnd_s, ↓oT_x, oTx_s, ↓ite_x, itx_T, itx_F, ↓reduceIte, not_true_eq_false, not_false_eq_true, true_and, and_true, Nat.reduceAdd, Nat.reduceMul, Nat.reduceSub, Nat.reduceEqDiff, isB0, isB1, Int32.neg_neg, Nat.zero_add, Nat.add_zero, Nat.mul_zero, Nat.mul_one, Nat.zero_mul], by simp -dsimp -implicitDefEqProofs (disch := omega) only [X6_cell, in_t, e2, e4, n1, i32_lit, i32_add, i32_mul, i32_tn, i32_sub, le_t, le_f, lt_t, lt_f, eq_t, eq_f, eq_rfl, inR_t, ↓ob_x, obx_s, ↓bnd_s, ↓oT_x, oTx_s, ↓ite_x, itx_T, itx_F, ↓reduceIte, not_true_eq_false, not_false_eq_true, true_and, and_true, Nat.reduceAdd, Nat.reduceMul, Nat.reduceSub, Nat.reduceEqDiff, isB0, isB1, Int32.neg_neg, Nat.zero_add, Nat.add_zero, Nat.mul_zero, Nat.mul_one, Nat.zero_mul], d, i, c, RR_cell (j := j) hR S0 (by omega) (a3)⟩
      · by_cases h0 : a2 < i32 0
        · exact ⟨-12, gI, gM, by simp -dsimp -implicitDefEqProofs (disch := omega) only [X5_cell, X5_refusalOfSheet, X2_set, X2_holds, isH_t, e1, e2, e3, n1, h0, i32_lit, i32_add, i32_mul, i32_tn, i32_sub, le_t, le_f, lt_t, lt_f, eq_t, eq_f, eq_rfl, inR_t, ↓ob_x, obx_s, ↓bnd_s, ↓oT_x, oTx_s, ↓ite_x, itx_T, itx_F, ↓reduceIte, not_true_eq_false, not_false_eq_true, true_and, and_true, Nat.reduceAdd, Nat.reduceMul, Nat.reduceSub, Nat.reduceEqDiff, isB0, isB1, Int32.neg_neg, Nat.zero_add, Nat.add_zero, Nat.mul_zero, Nat.mul_one, Nat.zero_mul], by simp -dsimp -implicitDefEqProofs (disch := omega) only [X6_cell, X6_in, e2, e4, n1, h0, i32_lit, i32_add, i32_mul, i32_tn, i32_sub, le_t, le_f, lt_t, lt_f, eq_t, eq_f, eq_rfl, inR_t, ↓ob_x, obx_s, ↓bnd_s, ↓oT_x, oTx_s, ↓ite_x, itx_T, itx_F, ↓reduceIte, not_true_eq_false, not_false_eq_true, true_and, and_true, Nat.reduceAdd, Nat.reduceMul, Nat.reduceSub, Nat.reduceEqDiff, isB0, isB1, Int32.neg_neg, Nat.zero_add, Nat.add_zero, Nat.mul_zero, Nat.mul_one, Nat.zero_mul], d, i, c, hR⟩
        · have h1 := out1 hm o2 h0
          exact ⟨-12, gI, gM, by simp -dsimp -implicitDefEqProofs (disch := omega) only [X5_cell, X5_refusalOfSheet, X2_set, X2_holds, isH_t, e1, e2, e3, n1, h0, h1, i32_lit, i32_add, i32_mul, i32_tn, i32_sub, le_t, le_f, lt_t, lt_f, eq_t, eq_f, eq_rfl, inR_t, ↓ob_x, obx_s, ↓bnd_s, ↓oT_x, oTx_s, ↓ite_x, itx_T, itx_F, ↓reduceIte, not_true_eq_false, not_false_eq_true, true_and, and_true, Nat.reduceAdd, Nat.reduceMul, Nat.reduceSub, Nat.reduceEqDiff, isB0, isB1, Int32.neg_neg, Nat.zero_add, Nat.add_zero, Nat.mul_zero, Nat.mul_one, Nat.zero_mul], by simp -dsimp -implicitDefEqProofs (disch := omega) only [X6_cell, X6_in, e2, e4, n1, h0, h1, i32_lit, i32_add, i32_mul, i32_tn, i32_sub, le_t, le_f, lt_t, lt_f, eq_t, eq_f, eq_rfl, inR_t, ↓ob_x, obx_s, ↓bnd_s, ↓oT_x, oTx_s, ↓ite_x, itx_T, itx_F, ↓reduceIte, not_true_eq_false, not_false_eq_true, true_and, and_true, Nat.reduceAdd, Nat.reduceMul, Nat.reduceSub, Nat.reduceEqDiff, isB0, isB1, Int32.neg_neg, Nat.zero_add, Nat.add_zero, Nat.mul_zero, Nat.mul_one, Nat.zero_mul], d, i, c, hR⟩
  · exact ⟨-2, gI, gM, by simp -dsimp -implicitDefEqProofs (disch := omega) only [X5_cell, X5_refusalOfSheet, isH_f gI o1, m_ne, i32_lit, i32_add, i32_mul, i32_tn, i32_sub, le_t, le_f, lt_t, lt_f, eq_t, eq_f, eq_rfl, inR_t, ↓ob_x, obx_s, ↓bnd_s, ↓oT_x, oTx_s, ↓ite_x, itx_T, itx_F, ↓reduceIte, not_true_eq_false, not_false_eq_true, true_and, and_true, Nat.reduceAdd, Nat.reduceMul, Nat.reduceSub, Nat.reduceEqDiff, isB0, isB1, Int32.neg_neg, Nat.zero_add, Nat.add_zero, Nat.mul_zero, Nat.mul_one, Nat.zero_mul], by simp -dsimp -implicitDefEqProofs (disch := omega) only [X6_cell, in_f gM (by omega : 3 < 1000000) o1, i32_lit, i32_add, i32_mul, i32_tn, i32_sub, le_t, le_f, lt_t, lt_f, eq_t, eq_f, eq_rfl, inR_t, ↓ob_x, obx_s, ↓bnd_s, ↓oT_x, oTx_s, ↓ite_x, itx_T, itx_F, ↓reduceIte, not_true_eq_false, not_false_eq_true, true_and, and_true, Nat.reduceAdd, Nat.reduceMul, Nat.reduceSub, Nat.reduceEqDiff, isB0, isB1, Int32.neg_neg, Nat.zero_add, Nat.add_zero, Nat.mul_zero, Nat.mul_one, Nat.zero_mul], d, i, c, hR⟩
set_option maxRecDepth 100000 in
theorem cpF {N a b n : Nat} (ha : a + n ≤ 160) (hb : b + n ≤ 160) (hab : b ≤ a) (q1 q2 q3 q4 : Int32) {gM : Mem} : ∀ (k x fu : Nat) (g : Mem), x + k = n → k < fu → (∀ e, ¬ e = 13 → g.1 e = gM.1 e) → (∀ j, g.1 13 j = if b ≤ j ∧ j < b + x then gM.1 13 (a + (j - b)) else gM.1 13 j) →
    ∃ g', X6_copy_L147 N q1 q2 q3 q4 (i32 n) fu (i32 a) (i32 b) (i32 x) g = some (i32 n, g') ∧ (∀ e, ¬ e = 13 → g'.1 e = gM.1 e) ∧ (∀ j, g'.1 13 j = if b ≤ j ∧ j < b + n then gM.1 13 (a + (j - b)) else gM.1 13 j)
  | 0, x, fu, g, h1, h2, h3, h4 => by
    obtain ⟨fu, rfl⟩ : ∃ q, fu = q + 1 := ⟨fu - 1, by omega⟩
    have : x = n := by omega
    subst this
    exact ⟨g, by simp -dsimp -implicitDefEqProofs (disch := omega) only [X6_copy_L147, i32_lit, i32_add, i32_mul, i32_tn, i32_sub, le_t, le_f, lt_t, lt_f, eq_t, eq_f, eq_rfl, inR_t, ↓ob_x, obx_s, ↓bnd_s, ↓oT_x, oTx_s, ↓ite_x, itx_T, itx_F, ↓reduceIte, not_true_eq_false, not_false_eq_true, true_and, and_true, Nat.reduceAdd, Nat.reduceMul, Nat.reduceSub, Nat.reduceEqDiff, isB0, isB1, Int32.neg_neg, Nat.zero_add, Nat.add_zero, Nat.mul_zero, Nat.mul_one, Nat.zero_mul], h3, h4⟩
  | k + 1, x, fu, g, h1, h2, h3, h4 => by
    obtain ⟨fu, rfl⟩ : ∃ q, fu = q + 1 := ⟨fu - 1, by omega⟩
    have e := h4 (a + x)
    rw [if_neg (by omega)] at e
    obtain ⟨g', r1, r2⟩ := cpF (N := N) (gM := gM) ha hb hab q1 q2 q3 q4 k (x + 1) fu (stI g 13 (b + x) (gM.1 13 (a + x))) (by omega) (by omega) (fun e he => by rw [stI_ne _ _ _ _ _ he]; exact h3 e he) (fun j => by
      by_cases hj : j = b + x
      · subst hj
        rw [stI_eq, if_pos (by omega), show b + x - b = x by omega]
      · rw [stI_nj _ _ _ _ _ hj, h4 j]
        by_cases hj2 : b ≤ j ∧ j < b + x
        · rw [if_pos hj2, if_pos (by omega)]
        · rw [if_neg hj2, if_neg (by omega)])
    exact ⟨g', by simp -dsimp -implicitDefEqProofs (disch := omega) only [X6_copy_L147, e, r1, i32_lit, i32_add, i32_mul, i32_tn, i32_sub, le_t, le_f, lt_t, lt_f, eq_t, eq_f, eq_rfl, inR_t, ↓ob_x, obx_s, ↓bnd_s, ↓oT_x, oTx_s, ↓ite_x, itx_T, itx_F, ↓reduceIte, not_true_eq_false, not_false_eq_true, true_and, and_true, Nat.reduceAdd, Nat.reduceMul, Nat.reduceSub, Nat.reduceEqDiff, isB0, isB1, Int32.neg_neg, Nat.zero_add, Nat.add_zero, Nat.mul_zero, Nat.mul_one, Nat.zero_mul], r2⟩
set_option maxRecDepth 100000 in
theorem cpB {N a b n : Nat} (ha : a + n ≤ 160) (hb : b + n ≤ 160) (hab : a < b) (q1 q2 q3 q4 : Int32) {gM : Mem} : ∀ (k x fu : Nat) (g : Mem), x + k = n → k < fu → (∀ e, ¬ e = 13 → g.1 e = gM.1 e) → (∀ j, g.1 13 j = if b + k ≤ j ∧ j < b + n then gM.1 13 (a + (j - b)) else gM.1 13 j) →
    ∃ g', X6_copy_L147 N q1 q2 q3 q4 (i32 n) fu (i32 a) (i32 b) (i32 x) g = some (i32 n, g') ∧ (∀ e, ¬ e = 13 → g'.1 e = gM.1 e) ∧ (∀ j, g'.1 13 j = if b ≤ j ∧ j < b + n then gM.1 13 (a + (j - b)) else gM.1 13 j)
  | 0, x, fu, g, h1, h2, h3, h4 => by
    obtain ⟨fu, rfl⟩ : ∃ q, fu = q + 1 := ⟨fu - 1, by omega⟩
    have : x = n := by omega
    subst this
    exact ⟨g, by simp -dsimp -implicitDefEqProofs (disch := omega) only [X6_copy_L147, i32_lit, i32_add, i32_mul, i32_tn, i32_sub, le_t, le_f, lt_t, lt_f, eq_t, eq_f, eq_rfl, inR_t, ↓ob_x, obx_s, ↓bnd_s, ↓oT_x, oTx_s, ↓ite_x, itx_T, itx_F, ↓reduceIte, not_true_eq_false, not_false_eq_true, true_and, and_true, Nat.reduceAdd, Nat.reduceMul, Nat.reduceSub, Nat.reduceEqDiff, isB0, isB1, Int32.neg_neg, Nat.zero_add, Nat.add_zero, Nat.mul_zero, Nat.mul_one, Nat.zero_mul], h3, h4⟩
  | k + 1, x, fu, g, h1, h2, h3, h4 => by
    obtain ⟨fu, rfl⟩ : ∃ q, fu = q + 1 := ⟨fu - 1, by omega⟩
    have e := h4 (a + k)
    rw [if_neg (by omega)] at e
    have ek : n - 1 - x = k := by omega
    obtain ⟨g', r1, r2⟩ := cpB (N := N) (gM := gM) ha hb hab q1 q2 q3 q4 k (x + 1) fu (stI g 13 (b + k) (gM.1 13 (a + k))) (by omega) (by omega) (fun e he => by rw [stI_ne _ _ _ _ _ he]; exact h3 e he) (fun j => by
      by_cases hj : j = b + k
      · subst hj
        rw [stI_eq, if_pos (by omega), show b + k - b = k by omega]
      · rw [stI_nj _ _ _ _ _ hj, h4 j]
        by_cases hj2 : b + (k + 1) ≤ j ∧ j < b + n
        · rw [if_pos hj2, if_pos (by omega)]
        · rw [if_neg hj2, if_neg (by omega)])
    exact ⟨g', by simp -dsimp -implicitDefEqProofs (disch := omega) only [X6_copy_L147, ek, e, r1, i32_lit, i32_add, i32_mul, i32_tn, i32_sub, le_t, le_f, lt_t, lt_f, eq_t, eq_f, eq_rfl, inR_t, ↓ob_x, obx_s, ↓bnd_s, ↓oT_x, oTx_s, ↓ite_x, itx_T, itx_F, ↓reduceIte, not_true_eq_false, not_false_eq_true, true_and, and_true, Nat.reduceAdd, Nat.reduceMul, Nat.reduceSub, Nat.reduceEqDiff, isB0, isB1, Int32.neg_neg, Nat.zero_add, Nat.add_zero, Nat.mul_zero, Nat.mul_one, Nat.zero_mul], r2⟩
theorem holds_neg {N b : Nat} {a n : Int32} (g : Mem) (h : a < i32 0 ∨ n < i32 0) : X2_holds N b a n g = some (i32 0, g) := by
  by_cases h1 : a < i32 0
  · simp -dsimp -implicitDefEqProofs (disch := omega) only [X2_holds, h1, i32_lit, i32_add, i32_mul, i32_tn, i32_sub, le_t, le_f, lt_t, lt_f, eq_t, eq_f, eq_rfl, inR_t, ↓ob_x, obx_s, ↓bnd_s, ↓oT_x, oTx_s, ↓ite_x, itx_T, itx_F, ↓reduceIte, not_true_eq_false, not_false_eq_true, true_and, and_true, Nat.reduceAdd, Nat.reduceMul, Nat.reduceSub, Nat.reduceEqDiff, isB0, isB1, Int32.neg_neg, Nat.zero_add, Nat.add_zero, Nat.mul_zero, Nat.mul_one, Nat.zero_mul]
  · have h2 : n < i32 0 := by rcases h with h | h; exact absurd h h1; exact h
    simp -dsimp -implicitDefEqProofs (disch := omega) only [X2_holds, h1, h2, i32_lit, i32_add, i32_mul, i32_tn, i32_sub, le_t, le_f, lt_t, lt_f, eq_t, eq_f, eq_rfl, inR_t, ↓ob_x, obx_s, ↓bnd_s, ↓oT_x, oTx_s, ↓ite_x, itx_T, itx_F, ↓reduceIte, not_true_eq_false, not_false_eq_true, true_and, and_true, Nat.reduceAdd, Nat.reduceMul, Nat.reduceSub, Nat.reduceEqDiff, isB0, isB1, Int32.neg_neg, Nat.zero_add, Nat.add_zero, Nat.mul_zero, Nat.mul_one, Nat.zero_mul]
theorem holds_i {N b m a n : Nat} {g : Mem} (e : g.1 b 2 = i32 m) (hm : m ≤ 40) (ha : a < 2147483648) (hn : n < 2147483648) : X2_holds N b (i32 a) (i32 n) g = some (if a + n ≤ m then i32 1 else i32 0, g) := by
  have k : (i32 m - i32 n < i32 a) ↔ ¬ a + n ≤ m := by
    rw [Int32.lt_iff_toInt_lt, i32_toInt ha]
    by_cases h : n ≤ m
    · rw [i32_sub h, i32_toInt (by omega)]; omega
    · rw [show i32 m - i32 n = -(i32 (n - m)) by rw [← i32_sub (by omega : m ≤ n), Int32.neg_sub], i32_negI (by omega)]; omega
  by_cases h : a + n ≤ m
  · have q : (i32 m - i32 n < i32 a) = False := eq_false (fun x => (k.mp x) h)
    rw [if_pos h]
    have : i32 m - i32 n = i32 (m - n) := i32_sub (by omega)
    simp -dsimp -implicitDefEqProofs (disch := omega) only [X2_holds, e, i32_lit, i32_add, i32_mul, i32_tn, i32_sub, le_t, le_f, lt_t, lt_f, eq_t, eq_f, eq_rfl, inR_t, ↓ob_x, obx_s, ↓bnd_s, ↓oT_x, oTx_s, ↓ite_x, itx_T, itx_F, ↓reduceIte, not_true_eq_false, not_false_eq_true, true_and, and_true, Nat.reduceAdd, Nat.reduceMul, Nat.reduceSub, Nat.reduceEqDiff, isB0, isB1, Int32.neg_neg, Nat.zero_add, Nat.add_zero, Nat.mul_zero, Nat.mul_one, Nat.zero_mul]
  · have q : (i32 m - i32 n < i32 a) = True := eq_true (k.mpr h)
    rw [if_neg h]
    unfold X2_holds
    rw [e, if_neg (by rw [show (0 : Int32) = i32 0 from rfl, i32_lt ha (by omega)]; omega), if_neg (by rw [show (0 : Int32) = i32 0 from rfl, i32_lt hn (by omega)]; omega), if_pos (k.mpr h)]
    rfl
theorem holds_any (N b : Nat) (a n : Int32) (g : Mem) : X2_holds N b a n g = some (i32 0, g) ∨ X2_holds N b a n g = some (i32 1, g) := by
  by_cases h1 : a < i32 0
  · exact Or.inl (by simp -dsimp -implicitDefEqProofs (disch := omega) only [X2_holds, h1, i32_lit, i32_add, i32_mul, i32_tn, i32_sub, le_t, le_f, lt_t, lt_f, eq_t, eq_f, eq_rfl, inR_t, ↓ob_x, obx_s, ↓bnd_s, ↓oT_x, oTx_s, ↓ite_x, itx_T, itx_F, ↓reduceIte, not_true_eq_false, not_false_eq_true, true_and, and_true, Nat.reduceAdd, Nat.reduceMul, Nat.reduceSub, Nat.reduceEqDiff, isB0, isB1, Int32.neg_neg, Nat.zero_add, Nat.add_zero, Nat.mul_zero, Nat.mul_one, Nat.zero_mul])
  · by_cases h2 : n < i32 0
    · exact Or.inl (by simp -dsimp -implicitDefEqProofs (disch := omega) only [X2_holds, h1, h2, i32_lit, i32_add, i32_mul, i32_tn, i32_sub, le_t, le_f, lt_t, lt_f, eq_t, eq_f, eq_rfl, inR_t, ↓ob_x, obx_s, ↓bnd_s, ↓oT_x, oTx_s, ↓ite_x, itx_T, itx_F, ↓reduceIte, not_true_eq_false, not_false_eq_true, true_and, and_true, Nat.reduceAdd, Nat.reduceMul, Nat.reduceSub, Nat.reduceEqDiff, isB0, isB1, Int32.neg_neg, Nat.zero_add, Nat.add_zero, Nat.mul_zero, Nat.mul_one, Nat.zero_mul])
    · by_cases h3 : g.1 b 2 - n < a
      · exact Or.inl (by simp -dsimp -implicitDefEqProofs (disch := omega) only [X2_holds, h1, h2, h3, i32_lit, i32_add, i32_mul, i32_tn, i32_sub, le_t, le_f, lt_t, lt_f, eq_t, eq_f, eq_rfl, inR_t, ↓ob_x, obx_s, ↓bnd_s, ↓oT_x, oTx_s, ↓ite_x, itx_T, itx_F, ↓reduceIte, not_true_eq_false, not_false_eq_true, true_and, and_true, Nat.reduceAdd, Nat.reduceMul, Nat.reduceSub, Nat.reduceEqDiff, isB0, isB1, Int32.neg_neg, Nat.zero_add, Nat.add_zero, Nat.mul_zero, Nat.mul_one, Nat.zero_mul])
      · exact Or.inr (by simp -dsimp -implicitDefEqProofs (disch := omega) only [X2_holds, h1, h2, h3, i32_lit, i32_add, i32_mul, i32_tn, i32_sub, le_t, le_f, lt_t, lt_f, eq_t, eq_f, eq_rfl, inR_t, ↓ob_x, obx_s, ↓bnd_s, ↓oT_x, oTx_s, ↓ite_x, itx_T, itx_F, ↓reduceIte, not_true_eq_false, not_false_eq_true, true_and, and_true, Nat.reduceAdd, Nat.reduceMul, Nat.reduceSub, Nat.reduceEqDiff, isB0, isB1, Int32.neg_neg, Nat.zero_add, Nat.add_zero, Nat.mul_zero, Nat.mul_one, Nat.zero_mul])
set_option maxRecDepth 100000 in
theorem copy_RR {d i c s o m p x y n : Nat} {gI gM gM' : Mem} (hR : RR d i c gI gM) (S0 : ShS s m gI gM) (S1 : ShS o p gI gM) (h1 : x + n ≤ m) (h2 : y + n ≤ p) (k1 : ∀ e, ¬ e = 13 → gM'.1 e = gM.1 e) (k2 : ∀ j, gM'.1 13 j = if 40 * o + y ≤ j ∧ j < 40 * o + y + n then gM.1 13 (40 * s + x + (j - (40 * o + y))) else gM.1 13 j) :
    RR d i c (stA gI (34 + 2 * o + 1) (va_cpy (gI.1 (34 + 2 * s + 1)) (gI.1 (34 + 2 * o + 1)) x y n)) gM' := by
  obtain ⟨hs, hm, _, _, f1⟩ := S0
  obtain ⟨ho, hp, g1, g2, f2⟩ := S1
  refine RR_sh hR (fun e he => stA_ne _ _ _ _ (by omega)) rfl (fun e _ _ h => k1 e h) ?_
  obtain ⟨a, b, q, r⟩ := hR.2.2.2.1 o ho
  refine Sh_one hR.2.2.2.1 (s := o) (fun e _ h _ => stA_ne _ _ _ _ h) (fun j _ => by rw [k1 11 (by omega)]) (fun j _ => by rw [k1 12 (by omega)]) (fun j hj => by rw [k2 j, if_neg (by omega)]) ⟨?_, ?_, ⟨p, hp, ?_, ?_⟩, fun j hj => ?_⟩
  · rw [stA_ne _ _ _ _ (by omega), k1 11 (by omega)]; exact a
  · rw [k1 11 (by omega)]; exact b
  · rw [stA_ne _ _ _ _ (by omega)]; exact g1
  · rw [k1 12 (by omega)]; exact g2
  · rw [stA_eq, k2]
    unfold va_cpy
    by_cases hy : y ≤ j ∧ j < y + n
    · rw [if_pos hy, if_pos (by omega), f1 _ (by omega), show 40 * s + x + (40 * o + j - (40 * o + y)) = 40 * s + (x + (j - y)) by omega]
    · rw [if_neg hy, if_neg (by omega), f2 j hj]
set_option maxRecDepth 100000 in
theorem e_copy {N : Nat} (hN : 6000 ≤ N) {gI gM : Mem} (h : R gI gM) (a1 a2 a3 a4 a5 : Int32) : EQ (X5_copy N a1 a2 a3 a4 a5 gI) (X6_copy N a1 a2 a3 a4 a5 gM) := by
  obtain ⟨d, i, c, hR⟩ := h
  rcases rg a1 4 (by omega) with ⟨s, hs, rfl⟩ | o1
  · rcases rg a3 4 (by omega) with ⟨o, ho, rfl⟩ | o3
    · obtain ⟨e1, e2, ⟨m, hm, e3, e4⟩, e5⟩ := hR.2.2.2.1 s hs
      obtain ⟨f1, f2, ⟨p, hp, f3, f4⟩, f5⟩ := hR.2.2.2.1 o ho
      have S0 : ShS s m gI gM := ⟨hs, hm, e3, e4, e5⟩
      have S1 : ShS o p gI gM := ⟨ho, hp, f3, f4, f5⟩
      rcases e2 with e2 | ⟨t, ht, e2⟩
      · exact ⟨-11, gI, gM, by simp -dsimp -implicitDefEqProofs (disch := omega) only [X5_copy, isH_t, e1, e2, i32_lit, i32_add, i32_mul, i32_tn, i32_sub, le_t, le_f, lt_t, lt_f, eq_t, eq_f, eq_rfl, inR_t, ↓ob_x, obx_s, ↓bnd_s, ↓oT_x, oTx_s, ↓ite_x, itx_T, itx_F, ↓reduceIte, not_true_eq_false, not_false_eq_true, true_and, and_true, Nat.reduceAdd, Nat.reduceMul, Nat.reduceSub, Nat.reduceEqDiff, isB0, isB1, Int32.neg_neg, Nat.zero_add, Nat.add_zero, Nat.mul_zero, Nat.mul_one, Nat.zero_mul], by simp -dsimp -implicitDefEqProofs (disch := omega) only [X6_copy, in_t, e2, i32_lit, i32_add, i32_mul, i32_tn, i32_sub, le_t, le_f, lt_t, lt_f, eq_t, eq_f, eq_rfl, inR_t, ↓ob_x, obx_s, ↓bnd_s, ↓oT_x, oTx_s, ↓ite_x, itx_T, itx_F, ↓reduceIte, not_true_eq_false, not_false_eq_true, true_and, and_true, Nat.reduceAdd, Nat.reduceMul, Nat.reduceSub, Nat.reduceEqDiff, isB0, isB1, Int32.neg_neg, Nat.zero_add, Nat.add_zero, Nat.mul_zero, Nat.mul_one, Nat.zero_mul], d, i, c, hR⟩
      · have n1 := ne_m (x := t) (v := 1) (by omega)
        rcases f2 with f2 | ⟨t', ht', f2⟩
        · exact ⟨-11, gI, gM, by simp -dsimp -implicitDefEqProofs (disch := omega) only [X5_copy, isH_t, e1, e2, n1, f1, f2, i32_lit, i32_add, i32_mul, i32_tn, i32_sub, le_t, le_f, lt_t, lt_f, eq_t, eq_f, eq_rfl, inR_t, ↓ob_x, obx_s, ↓bnd_s, ↓oT_x, oTx_s, ↓ite_x, itx_T, itx_F, ↓reduceIte, not_true_eq_false, not_false_eq_true, true_and, and_true, Nat.reduceAdd, Nat.reduceMul, Nat.reduceSub, Nat.reduceEqDiff, isB0, isB1, Int32.neg_neg, Nat.zero_add, Nat.add_zero, Nat.mul_zero, Nat.mul_one, Nat.zero_mul], by simp -dsimp -implicitDefEqProofs (disch := omega) only [X6_copy, in_t, e2, n1, f2, i32_lit, i32_add, i32_mul, i32_tn, i32_sub, le_t, le_f, lt_t, lt_f, eq_t, eq_f, eq_rfl, inR_t, ↓ob_x, obx_s, ↓bnd_s, ↓oT_x, oTx_s, ↓ite_x, itx_T, itx_F, ↓reduceIte, not_true_eq_false, not_false_eq_true, true_and, and_true, Nat.reduceAdd, Nat.reduceMul, Nat.reduceSub, Nat.reduceEqDiff, isB0, isB1, Int32.neg_neg, Nat.zero_add, Nat.add_zero, Nat.mul_zero, Nat.mul_one, Nat.zero_mul], d, i, c, hR⟩
        · have n2 := ne_m (x := t') (v := 1) (by omega)
          by_cases htt : t = t'
          · subst htt
            by_cases hneg : a2 < i32 0 ∨ a4 < i32 0 ∨ a5 < i32 0
            · refine ⟨-12, gI, gM, ?_, ?_, d, i, c, hR⟩
              · by_cases q : a2 < i32 0 ∨ a5 < i32 0
                · have u := holds_neg (N := N) (b := 34 + 2 * s) gI q
                  simp -dsimp -implicitDefEqProofs (disch := omega) only [X5_copy, isH_t, e1, e2, n1, f1, f2, u, i32_lit, i32_add, i32_mul, i32_tn, i32_sub, le_t, le_f, lt_t, lt_f, eq_t, eq_f, eq_rfl, inR_t, ↓ob_x, obx_s, ↓bnd_s, ↓oT_x, oTx_s, ↓ite_x, itx_T, itx_F, ↓reduceIte, not_true_eq_false, not_false_eq_true, true_and, and_true, Nat.reduceAdd, Nat.reduceMul, Nat.reduceSub, Nat.reduceEqDiff, isB0, isB1, Int32.neg_neg, Nat.zero_add, Nat.add_zero, Nat.mul_zero, Nat.mul_one, Nat.zero_mul]
                · have u := holds_neg (N := N) (b := 34 + 2 * o) (a := a4) (n := a5) gI (by
                    rcases hneg with x | x | x
                    · exact absurd (Or.inl x) q
                    · exact Or.inl x
                    · exact Or.inr x)
                  rcases holds_any N (34 + 2 * s) a2 a5 gI with w | w
                  · simp -dsimp -implicitDefEqProofs (disch := omega) only [X5_copy, isH_t, e1, e2, n1, f1, f2, w, i32_lit, i32_add, i32_mul, i32_tn, i32_sub, le_t, le_f, lt_t, lt_f, eq_t, eq_f, eq_rfl, inR_t, ↓ob_x, obx_s, ↓bnd_s, ↓oT_x, oTx_s, ↓ite_x, itx_T, itx_F, ↓reduceIte, not_true_eq_false, not_false_eq_true, true_and, and_true, Nat.reduceAdd, Nat.reduceMul, Nat.reduceSub, Nat.reduceEqDiff, isB0, isB1, Int32.neg_neg, Nat.zero_add, Nat.add_zero, Nat.mul_zero, Nat.mul_one, Nat.zero_mul]
                  · simp -dsimp -implicitDefEqProofs (disch := omega) only [X5_copy, isH_t, e1, e2, n1, f1, f2, w, u, i32_lit, i32_add, i32_mul, i32_tn, i32_sub, le_t, le_f, lt_t, lt_f, eq_t, eq_f, eq_rfl, inR_t, ↓ob_x, obx_s, ↓bnd_s, ↓oT_x, oTx_s, ↓ite_x, itx_T, itx_F, ↓reduceIte, not_true_eq_false, not_false_eq_true, true_and, and_true, Nat.reduceAdd, Nat.reduceMul, Nat.reduceSub, Nat.reduceEqDiff, isB0, isB1, Int32.neg_neg, Nat.zero_add, Nat.add_zero, Nat.mul_zero, Nat.mul_one, Nat.zero_mul]
              · by_cases h5 : a5 < i32 0
                · simp -dsimp -implicitDefEqProofs (disch := omega) only [X6_copy, in_t, e2, n1, f2, h5, i32_lit, i32_add, i32_mul, i32_tn, i32_sub, le_t, le_f, lt_t, lt_f, eq_t, eq_f, eq_rfl, inR_t, ↓ob_x, obx_s, ↓bnd_s, ↓oT_x, oTx_s, ↓ite_x, itx_T, itx_F, ↓reduceIte, not_true_eq_false, not_false_eq_true, true_and, and_true, Nat.reduceAdd, Nat.reduceMul, Nat.reduceSub, Nat.reduceEqDiff, isB0, isB1, Int32.neg_neg, Nat.zero_add, Nat.add_zero, Nat.mul_zero, Nat.mul_one, Nat.zero_mul]
                · by_cases h2 : a2 < i32 0
                  · simp -dsimp -implicitDefEqProofs (disch := omega) only [X6_copy, in_t, e2, n1, f2, h5, h2, i32_lit, i32_add, i32_mul, i32_tn, i32_sub, le_t, le_f, lt_t, lt_f, eq_t, eq_f, eq_rfl, inR_t, ↓ob_x, obx_s, ↓bnd_s, ↓oT_x, oTx_s, ↓ite_x, itx_T, itx_F, ↓reduceIte, not_true_eq_false, not_false_eq_true, true_and, and_true, Nat.reduceAdd, Nat.reduceMul, Nat.reduceSub, Nat.reduceEqDiff, isB0, isB1, Int32.neg_neg, Nat.zero_add, Nat.add_zero, Nat.mul_zero, Nat.mul_one, Nat.zero_mul]
                  · have h4 : a4 < i32 0 := by
                      rcases hneg with x | x | x
                      · exact absurd x h2
                      · exact x
                      · exact absurd x h5
                    simp -dsimp -implicitDefEqProofs (disch := omega) only [X6_copy, in_t, e2, n1, f2, h5, h2, h4, i32_lit, i32_add, i32_mul, i32_tn, i32_sub, le_t, le_f, lt_t, lt_f, eq_t, eq_f, eq_rfl, inR_t, ↓ob_x, obx_s, ↓bnd_s, ↓oT_x, oTx_s, ↓ite_x, itx_T, itx_F, ↓reduceIte, not_true_eq_false, not_false_eq_true, true_and, and_true, Nat.reduceAdd, Nat.reduceMul, Nat.reduceSub, Nat.reduceEqDiff, isB0, isB1, Int32.neg_neg, Nat.zero_add, Nat.add_zero, Nat.mul_zero, Nat.mul_one, Nat.zero_mul]
            · have k2 : ¬ a2 < i32 0 := fun q => hneg (Or.inl q)
              have k4 : ¬ a4 < i32 0 := fun q => hneg (Or.inr (Or.inl q))
              have k5 : ¬ a5 < i32 0 := fun q => hneg (Or.inr (Or.inr q))
              obtain ⟨x, hx, rfl⟩ := nn_i k2
              obtain ⟨y, hy, rfl⟩ := nn_i k4
              obtain ⟨n, hn, rfl⟩ := nn_i k5
              have u1 := holds_i (N := N) (b := 34 + 2 * s) e3 hm hx hn
              have u2 := holds_i (N := N) (b := 34 + 2 * o) f3 hp hy hn
              by_cases c1 : x + n ≤ m
              · rw [if_pos c1] at u1
                by_cases c2 : y + n ≤ p
                · rw [if_pos c2] at u2
                  have cp : cpOk (i32 x) (i32 y) (i32 n) 40 40 := by
                    refine ⟨?_, ?_, ?_, ?_, ?_⟩
                    · exact k2
                    · exact k4
                    · exact k5
                    · rw [i32_tn (by omega), i32_tn (by omega)]; omega
                    · rw [i32_tn (by omega), i32_tn (by omega)]; omega
                  have cp' := eq_true cp
                  have key : ∃ g', X6_copy_L147 N (i32 s) (i32 x) (i32 o) (i32 y) (i32 n) N (i32 (40 * s + x)) (i32 (40 * o + y)) (i32 0) gM = some (i32 n, g') ∧ (∀ e, ¬ e = 13 → g'.1 e = gM.1 e) ∧ (∀ j, g'.1 13 j = if 40 * o + y ≤ j ∧ j < 40 * o + y + n then gM.1 13 (40 * s + x + (j - (40 * o + y))) else gM.1 13 j) := by
                    by_cases hab : 40 * o + y ≤ 40 * s + x
                    · exact cpF (N := N) (by omega) (by omega) hab _ _ _ _ n 0 N gM (by omega) (by omega) (fun _ _ => rfl) (fun j => by rw [if_neg (by omega)])
                    · exact cpB (N := N) (by omega) (by omega) (by omega) _ _ _ _ n 0 N gM (by omega) (by omega) (fun _ _ => rfl) (fun j => by rw [if_neg (by omega)])
                  obtain ⟨g', r1, r2, r3⟩ := key
                  refine ⟨i32 n, _, g', ?_, ?_, d, i, c, copy_RR hR S0 S1 c1 c2 r2 r3⟩
                  · simp -dsimp -implicitDefEqProofs (disch := omega) only [X5_copy, isH_t, e1, e2, n1, f1, f2, u1, u2, ↓cp', i32_lit, i32_add, i32_mul, i32_tn, i32_sub, le_t, le_f, lt_t, lt_f, eq_t, eq_f, eq_rfl, inR_t, ↓ob_x, obx_s, ↓bnd_s, ↓oT_x, oTx_s, ↓ite_x, itx_T, itx_F, ↓reduceIte, not_true_eq_false, not_false_eq_true, true_and, and_true, Nat.reduceAdd, Nat.reduceMul, Nat.reduceSub, Nat.reduceEqDiff, isB0, isB1, Int32.neg_neg, Nat.zero_add, Nat.add_zero, Nat.mul_zero, Nat.mul_one, Nat.zero_mul]
                  · simp -dsimp -implicitDefEqProofs (disch := omega) only [X6_copy, in_t, e2, n1, f2, e4, f4, r1, i32_lit, i32_add, i32_mul, i32_tn, i32_sub, le_t, le_f, lt_t, lt_f, eq_t, eq_f, eq_rfl, inR_t, ↓ob_x, obx_s, ↓bnd_s, ↓oT_x, oTx_s, ↓ite_x, itx_T, itx_F, ↓reduceIte, not_true_eq_false, not_false_eq_true, true_and, and_true, Nat.reduceAdd, Nat.reduceMul, Nat.reduceSub, Nat.reduceEqDiff, isB0, isB1, Int32.neg_neg, Nat.zero_add, Nat.add_zero, Nat.mul_zero, Nat.mul_one, Nat.zero_mul]
                · rw [if_neg c2] at u2
                  refine ⟨-12, gI, gM, by simp -dsimp -implicitDefEqProofs (disch := omega) only [X5_copy, isH_t, e1, e2, n1, f1, f2, u1, u2, i32_lit, i32_add, i32_mul, i32_tn, i32_sub, le_t, le_f, lt_t, lt_f, eq_t, eq_f, eq_rfl, inR_t, ↓ob_x, obx_s, ↓bnd_s, ↓oT_x, oTx_s, ↓ite_x, itx_T, itx_F, ↓reduceIte, not_true_eq_false, not_false_eq_true, true_and, and_true, Nat.reduceAdd, Nat.reduceMul, Nat.reduceSub, Nat.reduceEqDiff, isB0, isB1, Int32.neg_neg, Nat.zero_add, Nat.add_zero, Nat.mul_zero, Nat.mul_one, Nat.zero_mul], ?_, d, i, c, hR⟩
                  by_cases hpy : p < y
                  · simp -dsimp -implicitDefEqProofs (disch := omega) only [X6_copy, in_t, e2, n1, f2, e4, f4, i32_lit, i32_add, i32_mul, i32_tn, i32_sub, le_t, le_f, lt_t, lt_f, eq_t, eq_f, eq_rfl, inR_t, ↓ob_x, obx_s, ↓bnd_s, ↓oT_x, oTx_s, ↓ite_x, itx_T, itx_F, ↓reduceIte, not_true_eq_false, not_false_eq_true, true_and, and_true, Nat.reduceAdd, Nat.reduceMul, Nat.reduceSub, Nat.reduceEqDiff, isB0, isB1, Int32.neg_neg, Nat.zero_add, Nat.add_zero, Nat.mul_zero, Nat.mul_one, Nat.zero_mul]
                  · simp -dsimp -implicitDefEqProofs (disch := omega) only [X6_copy, in_t, e2, n1, f2, e4, f4, i32_lit, i32_add, i32_mul, i32_tn, i32_sub, le_t, le_f, lt_t, lt_f, eq_t, eq_f, eq_rfl, inR_t, ↓ob_x, obx_s, ↓bnd_s, ↓oT_x, oTx_s, ↓ite_x, itx_T, itx_F, ↓reduceIte, not_true_eq_false, not_false_eq_true, true_and, and_true, Nat.reduceAdd, Nat.reduceMul, Nat.reduceSub, Nat.reduceEqDiff, isB0, isB1, Int32.neg_neg, Nat.zero_add, Nat.add_zero, Nat.mul_zero, Nat.mul_one, Nat.zero_mul]
              · rw [if_neg c1] at u1
                refine ⟨-12, gI, gM, by simp -dsimp -implicitDefEqProofs (disch := omega) only [X5_copy, isH_t, e1, e2, n1, f1, f2, u1, i32_lit, i32_add, i32_mul, i32_tn, i32_sub, le_t, le_f, lt_t, lt_f, eq_t, eq_f, eq_rfl, inR_t, ↓ob_x, obx_s, ↓bnd_s, ↓oT_x, oTx_s, ↓ite_x, itx_T, itx_F, ↓reduceIte, not_true_eq_false, not_false_eq_true, true_and, and_true, Nat.reduceAdd, Nat.reduceMul, Nat.reduceSub, Nat.reduceEqDiff, isB0, isB1, Int32.neg_neg, Nat.zero_add, Nat.add_zero, Nat.mul_zero, Nat.mul_one, Nat.zero_mul], ?_, d, i, c, hR⟩
                by_cases hmx : m < x
                · simp -dsimp -implicitDefEqProofs (disch := omega) only [X6_copy, in_t, e2, n1, f2, e4, f4, i32_lit, i32_add, i32_mul, i32_tn, i32_sub, le_t, le_f, lt_t, lt_f, eq_t, eq_f, eq_rfl, inR_t, ↓ob_x, obx_s, ↓bnd_s, ↓oT_x, oTx_s, ↓ite_x, itx_T, itx_F, ↓reduceIte, not_true_eq_false, not_false_eq_true, true_and, and_true, Nat.reduceAdd, Nat.reduceMul, Nat.reduceSub, Nat.reduceEqDiff, isB0, isB1, Int32.neg_neg, Nat.zero_add, Nat.add_zero, Nat.mul_zero, Nat.mul_one, Nat.zero_mul]
                · by_cases hpy : p < y
                  · simp -dsimp -implicitDefEqProofs (disch := omega) only [X6_copy, in_t, e2, n1, f2, e4, f4, i32_lit, i32_add, i32_mul, i32_tn, i32_sub, le_t, le_f, lt_t, lt_f, eq_t, eq_f, eq_rfl, inR_t, ↓ob_x, obx_s, ↓bnd_s, ↓oT_x, oTx_s, ↓ite_x, itx_T, itx_F, ↓reduceIte, not_true_eq_false, not_false_eq_true, true_and, and_true, Nat.reduceAdd, Nat.reduceMul, Nat.reduceSub, Nat.reduceEqDiff, isB0, isB1, Int32.neg_neg, Nat.zero_add, Nat.add_zero, Nat.mul_zero, Nat.mul_one, Nat.zero_mul]
                  · simp -dsimp -implicitDefEqProofs (disch := omega) only [X6_copy, in_t, e2, n1, f2, e4, f4, i32_lit, i32_add, i32_mul, i32_tn, i32_sub, le_t, le_f, lt_t, lt_f, eq_t, eq_f, eq_rfl, inR_t, ↓ob_x, obx_s, ↓bnd_s, ↓oT_x, oTx_s, ↓ite_x, itx_T, itx_F, ↓reduceIte, not_true_eq_false, not_false_eq_true, true_and, and_true, Nat.reduceAdd, Nat.reduceMul, Nat.reduceSub, Nat.reduceEqDiff, isB0, isB1, Int32.neg_neg, Nat.zero_add, Nat.add_zero, Nat.mul_zero, Nat.mul_one, Nat.zero_mul]
          · exact ⟨-13, gI, gM, by simp -dsimp -implicitDefEqProofs (disch := omega) only [X5_copy, isH_t, e1, e2, n1, n2, f1, f2, i32_lit, i32_add, i32_mul, i32_tn, i32_sub, le_t, le_f, lt_t, lt_f, eq_t, eq_f, eq_rfl, inR_t, ↓ob_x, obx_s, ↓bnd_s, ↓oT_x, oTx_s, ↓ite_x, itx_T, itx_F, ↓reduceIte, not_true_eq_false, not_false_eq_true, true_and, and_true, Nat.reduceAdd, Nat.reduceMul, Nat.reduceSub, Nat.reduceEqDiff, isB0, isB1, Int32.neg_neg, Nat.zero_add, Nat.add_zero, Nat.mul_zero, Nat.mul_one, Nat.zero_mul], by simp -dsimp -implicitDefEqProofs (disch := omega) only [X6_copy, in_t, e2, n1, n2, f2, i32_lit, i32_add, i32_mul, i32_tn, i32_sub, le_t, le_f, lt_t, lt_f, eq_t, eq_f, eq_rfl, inR_t, ↓ob_x, obx_s, ↓bnd_s, ↓oT_x, oTx_s, ↓ite_x, itx_T, itx_F, ↓reduceIte, not_true_eq_false, not_false_eq_true, true_and, and_true, Nat.reduceAdd, Nat.reduceMul, Nat.reduceSub, Nat.reduceEqDiff, isB0, isB1, Int32.neg_neg, Nat.zero_add, Nat.add_zero, Nat.mul_zero, Nat.mul_one, Nat.zero_mul], d, i, c, hR⟩
    · exact ⟨-2, gI, gM, by simp -dsimp -implicitDefEqProofs (disch := omega) only [X5_copy, isH_t, isH_f gI o3, i32_lit, i32_add, i32_mul, i32_tn, i32_sub, le_t, le_f, lt_t, lt_f, eq_t, eq_f, eq_rfl, inR_t, ↓ob_x, obx_s, ↓bnd_s, ↓oT_x, oTx_s, ↓ite_x, itx_T, itx_F, ↓reduceIte, not_true_eq_false, not_false_eq_true, true_and, and_true, Nat.reduceAdd, Nat.reduceMul, Nat.reduceSub, Nat.reduceEqDiff, isB0, isB1, Int32.neg_neg, Nat.zero_add, Nat.add_zero, Nat.mul_zero, Nat.mul_one, Nat.zero_mul], by simp -dsimp -implicitDefEqProofs (disch := omega) only [X6_copy, in_t, in_f gM (by omega : 3 < 1000000) o3, i32_lit, i32_add, i32_mul, i32_tn, i32_sub, le_t, le_f, lt_t, lt_f, eq_t, eq_f, eq_rfl, inR_t, ↓ob_x, obx_s, ↓bnd_s, ↓oT_x, oTx_s, ↓ite_x, itx_T, itx_F, ↓reduceIte, not_true_eq_false, not_false_eq_true, true_and, and_true, Nat.reduceAdd, Nat.reduceMul, Nat.reduceSub, Nat.reduceEqDiff, isB0, isB1, Int32.neg_neg, Nat.zero_add, Nat.add_zero, Nat.mul_zero, Nat.mul_one, Nat.zero_mul], d, i, c, hR⟩
  · exact ⟨-2, gI, gM, by simp -dsimp -implicitDefEqProofs (disch := omega) only [X5_copy, isH_f gI o1, i32_lit, i32_add, i32_mul, i32_tn, i32_sub, le_t, le_f, lt_t, lt_f, eq_t, eq_f, eq_rfl, inR_t, ↓ob_x, obx_s, ↓bnd_s, ↓oT_x, oTx_s, ↓ite_x, itx_T, itx_F, ↓reduceIte, not_true_eq_false, not_false_eq_true, true_and, and_true, Nat.reduceAdd, Nat.reduceMul, Nat.reduceSub, Nat.reduceEqDiff, isB0, isB1, Int32.neg_neg, Nat.zero_add, Nat.add_zero, Nat.mul_zero, Nat.mul_one, Nat.zero_mul], by simp -dsimp -implicitDefEqProofs (disch := omega) only [X6_copy, in_f gM (by omega : 3 < 1000000) o1, i32_lit, i32_add, i32_mul, i32_tn, i32_sub, le_t, le_f, lt_t, lt_f, eq_t, eq_f, eq_rfl, inR_t, ↓ob_x, obx_s, ↓bnd_s, ↓oT_x, oTx_s, ↓ite_x, itx_T, itx_F, ↓reduceIte, not_true_eq_false, not_false_eq_true, true_and, and_true, Nat.reduceAdd, Nat.reduceMul, Nat.reduceSub, Nat.reduceEqDiff, isB0, isB1, Int32.neg_neg, Nat.zero_add, Nat.add_zero, Nat.mul_zero, Nat.mul_one, Nat.zero_mul], d, i, c, hR⟩
