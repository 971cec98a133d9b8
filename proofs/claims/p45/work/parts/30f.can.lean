/-! reach, cost, whether one can; sets of casks; breathing: both sides -/
theorem b_or0 (x : Int32) : x ||| i32 0 = x := Int32.or_zero
set_option maxRecDepth 100000 in
theorem reach_I {N b d i p k : Nat} (hN : 6000 ≤ N) {gI gM : Mem} (h : Sc b d i gI gM) (hp : p < d) (hk : k < 12) : ∃ gI', X1_reach N b (i32 p) (i32 k) gI = some (RV gM i p k, gI') ∧ SI gI gI' := by
  obtain ⟨gI', r1, r2⟩ := saidR_I hN h hp hk
  obtain ⟨⟨a1, a2, a3⟩, b1, b2, b3, b4, b5, b6, b7, b8, b9, b10, b11, b12, b13, b14⟩ := h
  refine ⟨gI', ?_, r2⟩
  have c7 : gI'.1 (b + 7) = gI.1 (b + 7) := SI_hi r2 (b + 7) (by omega)
  unfold RV
  by_cases h1 : gM.1 1 p = i32 1
  · simp -dsimp -implicitDefEqProofs (disch := omega) only [X1_reach, X0_reach, i32_lit, i32_add, i32_mul, i32_tn, i32_sub, le_t, le_f, lt_t, lt_f, eq_t, eq_f, eq_rfl, inR_t, ↓ob_x, obx_s, ↓bnd_s, ↓oT_x, oTx_s, ↓ite_x, itx_T, itx_F, ↓reduceIte, not_true_eq_false, not_false_eq_true, true_and, and_true, Nat.reduceAdd, Nat.reduceMul, Nat.reduceSub, Nat.reduceEqDiff, isB0, isB1, Int32.neg_neg, Nat.zero_add, Nat.add_zero, Nat.mul_zero, Nat.mul_one, Nat.zero_mul, r1, c7, b9, b10, h1]
  · by_cases h2 : gM.1 1 p = i32 2
    · simp -dsimp -implicitDefEqProofs (disch := omega) only [X1_reach, X0_reach, i32_lit, i32_add, i32_mul, i32_tn, i32_sub, le_t, le_f, lt_t, lt_f, eq_t, eq_f, eq_rfl, inR_t, ↓ob_x, obx_s, ↓bnd_s, ↓oT_x, oTx_s, ↓ite_x, itx_T, itx_F, ↓reduceIte, not_true_eq_false, not_false_eq_true, true_and, and_true, Nat.reduceAdd, Nat.reduceMul, Nat.reduceSub, Nat.reduceEqDiff, isB0, isB1, Int32.neg_neg, Nat.zero_add, Nat.add_zero, Nat.mul_zero, Nat.mul_one, Nat.zero_mul, r1, c7, b9, b10, h2]
    · by_cases h3 : gM.1 1 p = i32 3
      · simp -dsimp -implicitDefEqProofs (disch := omega) only [X1_reach, X0_reach, i32_lit, i32_add, i32_mul, i32_tn, i32_sub, le_t, le_f, lt_t, lt_f, eq_t, eq_f, eq_rfl, inR_t, ↓ob_x, obx_s, ↓bnd_s, ↓oT_x, oTx_s, ↓ite_x, itx_T, itx_F, ↓reduceIte, not_true_eq_false, not_false_eq_true, true_and, and_true, Nat.reduceAdd, Nat.reduceMul, Nat.reduceSub, Nat.reduceEqDiff, isB0, isB1, Int32.neg_neg, Nat.zero_add, Nat.add_zero, Nat.mul_zero, Nat.mul_one, Nat.zero_mul, r1, c7, b9, b10, h3]
      · by_cases h4 : gM.1 1 p = i32 4
        · simp -dsimp -implicitDefEqProofs (disch := omega) only [X1_reach, X0_reach, i32_lit, i32_add, i32_mul, i32_tn, i32_sub, le_t, le_f, lt_t, lt_f, eq_t, eq_f, eq_rfl, inR_t, ↓ob_x, obx_s, ↓bnd_s, ↓oT_x, oTx_s, ↓ite_x, itx_T, itx_F, ↓reduceIte, not_true_eq_false, not_false_eq_true, true_and, and_true, Nat.reduceAdd, Nat.reduceMul, Nat.reduceSub, Nat.reduceEqDiff, isB0, isB1, Int32.neg_neg, Nat.zero_add, Nat.add_zero, Nat.mul_zero, Nat.mul_one, Nat.zero_mul, r1, c7, b9, b10, h4]
        · by_cases h5 : gM.1 1 p = i32 5
          · simp -dsimp -implicitDefEqProofs (disch := omega) only [X1_reach, X0_reach, i32_lit, i32_add, i32_mul, i32_tn, i32_sub, le_t, le_f, lt_t, lt_f, eq_t, eq_f, eq_rfl, inR_t, ↓ob_x, obx_s, ↓bnd_s, ↓oT_x, oTx_s, ↓ite_x, itx_T, itx_F, ↓reduceIte, not_true_eq_false, not_false_eq_true, true_and, and_true, Nat.reduceAdd, Nat.reduceMul, Nat.reduceSub, Nat.reduceEqDiff, isB0, isB1, Int32.neg_neg, Nat.zero_add, Nat.add_zero, Nat.mul_zero, Nat.mul_one, Nat.zero_mul, r1, c7, b9, b10, h5]
          · simp -dsimp -implicitDefEqProofs (disch := omega) only [X1_reach, X0_reach, i32_lit, i32_add, i32_mul, i32_tn, i32_sub, le_t, le_f, lt_t, lt_f, eq_t, eq_f, eq_rfl, inR_t, ↓ob_x, obx_s, ↓bnd_s, ↓oT_x, oTx_s, ↓ite_x, itx_T, itx_F, ↓reduceIte, not_true_eq_false, not_false_eq_true, true_and, and_true, Nat.reduceAdd, Nat.reduceMul, Nat.reduceSub, Nat.reduceEqDiff, isB0, isB1, Int32.neg_neg, Nat.zero_add, Nat.add_zero, Nat.mul_zero, Nat.mul_one, Nat.zero_mul, r1, c7, b9, b10, h1, h2, h3, h4, h5]
set_option maxRecDepth 100000 in
theorem cost_I {N b d i p k : Nat} (hN : 6000 ≤ N) {gI gM : Mem} (h : Sc b d i gI gM) (hp : p < d) (hk : k < 12) : ∃ gI', X1_cost N b (i32 p) (i32 k) gI = some (CoV gM i p k, gI') ∧ SI gI gI' := by
  obtain ⟨gI', r1, r2⟩ := saidC_I hN h hp hk
  obtain ⟨⟨a1, a2, a3⟩, b1, b2, b3, b4, b5, b6, b7, b8, b9, b10, b11, b12, b13, b14⟩ := h
  refine ⟨gI', ?_, r2⟩
  have c7 : gI'.1 (b + 7) = gI.1 (b + 7) := SI_hi r2 (b + 7) (by omega)
  have c2 : gI'.1 (b + 2) = gI.1 (b + 2) := SI_hi r2 (b + 2) (by omega)
  have c0 : gI'.1 b = gI.1 b := SI_hi r2 b (by omega)
  unfold CoV
  by_cases h2 : gM.1 1 p = i32 2
  · by_cases hs : gM.1 4 (4 * k) = i32 0
    · simp -dsimp -implicitDefEqProofs (disch := omega) only [X1_cost, X0_cost, i32_lit, i32_add, i32_mul, i32_tn, i32_sub, le_t, le_f, lt_t, lt_f, eq_t, eq_f, eq_rfl, inR_t, ↓ob_x, obx_s, ↓bnd_s, ↓oT_x, oTx_s, ↓ite_x, itx_T, itx_F, ↓reduceIte, not_true_eq_false, not_false_eq_true, true_and, and_true, Nat.reduceAdd, Nat.reduceMul, Nat.reduceSub, Nat.reduceEqDiff, isB0, isB1, Int32.neg_neg, Nat.zero_add, Nat.add_zero, Nat.mul_zero, Nat.mul_one, Nat.zero_mul, r1, c7, c2, c0, b9, b10, b2, b11, h2, hs]
    · simp -dsimp -implicitDefEqProofs (disch := omega) only [X1_cost, X0_cost, i32_lit, i32_add, i32_mul, i32_tn, i32_sub, le_t, le_f, lt_t, lt_f, eq_t, eq_f, eq_rfl, inR_t, ↓ob_x, obx_s, ↓bnd_s, ↓oT_x, oTx_s, ↓ite_x, itx_T, itx_F, ↓reduceIte, not_true_eq_false, not_false_eq_true, true_and, and_true, Nat.reduceAdd, Nat.reduceMul, Nat.reduceSub, Nat.reduceEqDiff, isB0, isB1, Int32.neg_neg, Nat.zero_add, Nat.add_zero, Nat.mul_zero, Nat.mul_one, Nat.zero_mul, r1, c7, c2, c0, b9, b10, b2, b11, h2, hs]
  · by_cases h3 : gM.1 1 p = i32 3
    · by_cases hs : gM.1 0 6 - gM.1 0 6 / i32 4 * i32 4 = i32 0
      · simp -dsimp -implicitDefEqProofs (disch := omega) only [X1_cost, X0_cost, i32_lit, i32_add, i32_mul, i32_tn, i32_sub, le_t, le_f, lt_t, lt_f, eq_t, eq_f, eq_rfl, inR_t, ↓ob_x, obx_s, ↓bnd_s, ↓oT_x, oTx_s, ↓ite_x, itx_T, itx_F, ↓reduceIte, not_true_eq_false, not_false_eq_true, true_and, and_true, Nat.reduceAdd, Nat.reduceMul, Nat.reduceSub, Nat.reduceEqDiff, isB0, isB1, Int32.neg_neg, Nat.zero_add, Nat.add_zero, Nat.mul_zero, Nat.mul_one, Nat.zero_mul, r1, c7, c2, c0, b9, b10, b2, b11, h3, hs]
      · simp -dsimp -implicitDefEqProofs (disch := omega) only [X1_cost, X0_cost, i32_lit, i32_add, i32_mul, i32_tn, i32_sub, le_t, le_f, lt_t, lt_f, eq_t, eq_f, eq_rfl, inR_t, ↓ob_x, obx_s, ↓bnd_s, ↓oT_x, oTx_s, ↓ite_x, itx_T, itx_F, ↓reduceIte, not_true_eq_false, not_false_eq_true, true_and, and_true, Nat.reduceAdd, Nat.reduceMul, Nat.reduceSub, Nat.reduceEqDiff, isB0, isB1, Int32.neg_neg, Nat.zero_add, Nat.add_zero, Nat.mul_zero, Nat.mul_one, Nat.zero_mul, r1, c7, c2, c0, b9, b10, b2, b11, h3, hs]
    · by_cases h4 : gM.1 1 p = i32 4
      · by_cases hs : gM.1 4 (4 * k) = i32 0
        · simp -dsimp -implicitDefEqProofs (disch := omega) only [X1_cost, X0_cost, i32_lit, i32_add, i32_mul, i32_tn, i32_sub, le_t, le_f, lt_t, lt_f, eq_t, eq_f, eq_rfl, inR_t, ↓ob_x, obx_s, ↓bnd_s, ↓oT_x, oTx_s, ↓ite_x, itx_T, itx_F, ↓reduceIte, not_true_eq_false, not_false_eq_true, true_and, and_true, Nat.reduceAdd, Nat.reduceMul, Nat.reduceSub, Nat.reduceEqDiff, isB0, isB1, Int32.neg_neg, Nat.zero_add, Nat.add_zero, Nat.mul_zero, Nat.mul_one, Nat.zero_mul, r1, c7, c2, c0, b9, b10, b2, b11, h4, hs]
        · simp -dsimp -implicitDefEqProofs (disch := omega) only [X1_cost, X0_cost, i32_lit, i32_add, i32_mul, i32_tn, i32_sub, le_t, le_f, lt_t, lt_f, eq_t, eq_f, eq_rfl, inR_t, ↓ob_x, obx_s, ↓bnd_s, ↓oT_x, oTx_s, ↓ite_x, itx_T, itx_F, ↓reduceIte, not_true_eq_false, not_false_eq_true, true_and, and_true, Nat.reduceAdd, Nat.reduceMul, Nat.reduceSub, Nat.reduceEqDiff, isB0, isB1, Int32.neg_neg, Nat.zero_add, Nat.add_zero, Nat.mul_zero, Nat.mul_one, Nat.zero_mul, r1, c7, c2, c0, b9, b10, b2, b11, h4, hs]
      · simp -dsimp -implicitDefEqProofs (disch := omega) only [X1_cost, X0_cost, i32_lit, i32_add, i32_mul, i32_tn, i32_sub, le_t, le_f, lt_t, lt_f, eq_t, eq_f, eq_rfl, inR_t, ↓ob_x, obx_s, ↓bnd_s, ↓oT_x, oTx_s, ↓ite_x, itx_T, itx_F, ↓reduceIte, not_true_eq_false, not_false_eq_true, true_and, and_true, Nat.reduceAdd, Nat.reduceMul, Nat.reduceSub, Nat.reduceEqDiff, isB0, isB1, Int32.neg_neg, Nat.zero_add, Nat.add_zero, Nat.mul_zero, Nat.mul_one, Nat.zero_mul, r1, c7, c2, c0, b9, b10, b2, b11, h2, h3, h4]
set_option maxRecDepth 100000 in
theorem reach_M {N i p k : Nat} (hN : 6000 ≤ N) {gI gM : Mem} (hT : TxI i gI gM) (hi : i < 6) (hr : gM.1 0 12 = i32 i) (hp : p < 6) (hk : k < 12) : ∃ gM', X6_reachesOf N (i32 p) (i32 k) gM = some (RV gM i p k, gM') ∧ SM gM gM' := by
  obtain ⟨g', r1, r2⟩ := asks_M (q := 0) hN hT hi hr (by omega) hp hk
  have c1 : g'.1 1 = gM.1 1 := SM_r r2 1 (by omega)
  have c2 : g'.1 2 = gM.1 2 := SM_r r2 2 (by omega)
  unfold RV
  by_cases h5 : gM.1 1 p = i32 5
  · exact ⟨gM, by simp -dsimp -implicitDefEqProofs (disch := omega) only [X6_reachesOf, i32_lit, i32_add, i32_mul, i32_tn, i32_sub, le_t, le_f, lt_t, lt_f, eq_t, eq_f, eq_rfl, inR_t, ↓ob_x, obx_s, ↓bnd_s, ↓oT_x, oTx_s, ↓ite_x, itx_T, itx_F, ↓reduceIte, not_true_eq_false, not_false_eq_true, true_and, and_true, Nat.reduceAdd, Nat.reduceMul, Nat.reduceSub, Nat.reduceEqDiff, isB0, isB1, Int32.neg_neg, Nat.zero_add, Nat.add_zero, Nat.mul_zero, Nat.mul_one, Nat.zero_mul, h5], SM_rfl gM⟩
  · refine ⟨g', ?_, r2⟩
    by_cases h1 : gM.1 1 p = i32 1
    · simp -dsimp -implicitDefEqProofs (disch := omega) only [X6_reachesOf, i32_lit, i32_add, i32_mul, i32_tn, i32_sub, le_t, le_f, lt_t, lt_f, eq_t, eq_f, eq_rfl, inR_t, ↓ob_x, obx_s, ↓bnd_s, ↓oT_x, oTx_s, ↓ite_x, itx_T, itx_F, ↓reduceIte, not_true_eq_false, not_false_eq_true, true_and, and_true, Nat.reduceAdd, Nat.reduceMul, Nat.reduceSub, Nat.reduceEqDiff, isB0, isB1, Int32.neg_neg, Nat.zero_add, Nat.add_zero, Nat.mul_zero, Nat.mul_one, Nat.zero_mul, r1, c1, c2, h1]
    · by_cases h2 : gM.1 1 p = i32 2
      · simp -dsimp -implicitDefEqProofs (disch := omega) only [X6_reachesOf, i32_lit, i32_add, i32_mul, i32_tn, i32_sub, le_t, le_f, lt_t, lt_f, eq_t, eq_f, eq_rfl, inR_t, ↓ob_x, obx_s, ↓bnd_s, ↓oT_x, oTx_s, ↓ite_x, itx_T, itx_F, ↓reduceIte, not_true_eq_false, not_false_eq_true, true_and, and_true, Nat.reduceAdd, Nat.reduceMul, Nat.reduceSub, Nat.reduceEqDiff, isB0, isB1, Int32.neg_neg, Nat.zero_add, Nat.add_zero, Nat.mul_zero, Nat.mul_one, Nat.zero_mul, r1, c1, c2, h2]
      · by_cases h3 : gM.1 1 p = i32 3
        · simp -dsimp -implicitDefEqProofs (disch := omega) only [X6_reachesOf, i32_lit, i32_add, i32_mul, i32_tn, i32_sub, le_t, le_f, lt_t, lt_f, eq_t, eq_f, eq_rfl, inR_t, ↓ob_x, obx_s, ↓bnd_s, ↓oT_x, oTx_s, ↓ite_x, itx_T, itx_F, ↓reduceIte, not_true_eq_false, not_false_eq_true, true_and, and_true, Nat.reduceAdd, Nat.reduceMul, Nat.reduceSub, Nat.reduceEqDiff, isB0, isB1, Int32.neg_neg, Nat.zero_add, Nat.add_zero, Nat.mul_zero, Nat.mul_one, Nat.zero_mul, r1, c1, c2, h3]
        · by_cases h4 : gM.1 1 p = i32 4
          · simp -dsimp -implicitDefEqProofs (disch := omega) only [X6_reachesOf, i32_lit, i32_add, i32_mul, i32_tn, i32_sub, le_t, le_f, lt_t, lt_f, eq_t, eq_f, eq_rfl, inR_t, ↓ob_x, obx_s, ↓bnd_s, ↓oT_x, oTx_s, ↓ite_x, itx_T, itx_F, ↓reduceIte, not_true_eq_false, not_false_eq_true, true_and, and_true, Nat.reduceAdd, Nat.reduceMul, Nat.reduceSub, Nat.reduceEqDiff, isB0, isB1, Int32.neg_neg, Nat.zero_add, Nat.add_zero, Nat.mul_zero, Nat.mul_one, Nat.zero_mul, r1, c1, c2, h4]
          · simp -dsimp -implicitDefEqProofs (disch := omega) only [X6_reachesOf, i32_lit, i32_add, i32_mul, i32_tn, i32_sub, le_t, le_f, lt_t, lt_f, eq_t, eq_f, eq_rfl, inR_t, ↓ob_x, obx_s, ↓bnd_s, ↓oT_x, oTx_s, ↓ite_x, itx_T, itx_F, ↓reduceIte, not_true_eq_false, not_false_eq_true, true_and, and_true, Nat.reduceAdd, Nat.reduceMul, Nat.reduceSub, Nat.reduceEqDiff, isB0, isB1, Int32.neg_neg, Nat.zero_add, Nat.add_zero, Nat.mul_zero, Nat.mul_one, Nat.zero_mul, r1, c1, c2, h1, h2, h3, h4, h5]
set_option maxRecDepth 100000 in
theorem cost_M {N i p k : Nat} (hN : 6000 ≤ N) {gI gM : Mem} (hT : TxI i gI gM) (hi : i < 6) (hr : gM.1 0 12 = i32 i) (hp : p < 6) (hk : k < 12) : ∃ gM', X6_costsOf N (i32 p) (i32 k) gM = some (CoV gM i p k, gM') ∧ SM gM gM' := by
  obtain ⟨g', r1, r2⟩ := asks_M (q := 1) hN hT hi hr (by omega) hp hk
  have c1 : g'.1 1 = gM.1 1 := SM_r r2 1 (by omega)
  have c2 : g'.1 2 = gM.1 2 := SM_r r2 2 (by omega)
  have c4 : g'.1 4 = gM.1 4 := SM_r r2 4 (by omega)
  have c0 : g'.1 0 = gM.1 0 := SM_r r2 0 (by omega)
  unfold CoV
  refine ⟨g', ?_, r2⟩
  by_cases h2 : gM.1 1 p = i32 2
  · by_cases hs : gM.1 4 (4 * k) = i32 0
    · simp -dsimp -implicitDefEqProofs (disch := omega) only [X6_costsOf, i32_lit, i32_add, i32_mul, i32_tn, i32_sub, le_t, le_f, lt_t, lt_f, eq_t, eq_f, eq_rfl, inR_t, ↓ob_x, obx_s, ↓bnd_s, ↓oT_x, oTx_s, ↓ite_x, itx_T, itx_F, ↓reduceIte, not_true_eq_false, not_false_eq_true, true_and, and_true, Nat.reduceAdd, Nat.reduceMul, Nat.reduceSub, Nat.reduceEqDiff, isB0, isB1, Int32.neg_neg, Nat.zero_add, Nat.add_zero, Nat.mul_zero, Nat.mul_one, Nat.zero_mul, r1, c1, c2, c4, c0, h2, hs]
    · simp -dsimp -implicitDefEqProofs (disch := omega) only [X6_costsOf, i32_lit, i32_add, i32_mul, i32_tn, i32_sub, le_t, le_f, lt_t, lt_f, eq_t, eq_f, eq_rfl, inR_t, ↓ob_x, obx_s, ↓bnd_s, ↓oT_x, oTx_s, ↓ite_x, itx_T, itx_F, ↓reduceIte, not_true_eq_false, not_false_eq_true, true_and, and_true, Nat.reduceAdd, Nat.reduceMul, Nat.reduceSub, Nat.reduceEqDiff, isB0, isB1, Int32.neg_neg, Nat.zero_add, Nat.add_zero, Nat.mul_zero, Nat.mul_one, Nat.zero_mul, r1, c1, c2, c4, c0, h2, hs]
  · by_cases h3 : gM.1 1 p = i32 3
    · by_cases hs : gM.1 0 6 - gM.1 0 6 / i32 4 * i32 4 = i32 0
      · simp -dsimp -implicitDefEqProofs (disch := omega) only [X6_costsOf, i32_lit, i32_add, i32_mul, i32_tn, i32_sub, le_t, le_f, lt_t, lt_f, eq_t, eq_f, eq_rfl, inR_t, ↓ob_x, obx_s, ↓bnd_s, ↓oT_x, oTx_s, ↓ite_x, itx_T, itx_F, ↓reduceIte, not_true_eq_false, not_false_eq_true, true_and, and_true, Nat.reduceAdd, Nat.reduceMul, Nat.reduceSub, Nat.reduceEqDiff, isB0, isB1, Int32.neg_neg, Nat.zero_add, Nat.add_zero, Nat.mul_zero, Nat.mul_one, Nat.zero_mul, r1, c1, c2, c4, c0, h3, hs]
      · simp -dsimp -implicitDefEqProofs (disch := omega) only [X6_costsOf, i32_lit, i32_add, i32_mul, i32_tn, i32_sub, le_t, le_f, lt_t, lt_f, eq_t, eq_f, eq_rfl, inR_t, ↓ob_x, obx_s, ↓bnd_s, ↓oT_x, oTx_s, ↓ite_x, itx_T, itx_F, ↓reduceIte, not_true_eq_false, not_false_eq_true, true_and, and_true, Nat.reduceAdd, Nat.reduceMul, Nat.reduceSub, Nat.reduceEqDiff, isB0, isB1, Int32.neg_neg, Nat.zero_add, Nat.add_zero, Nat.mul_zero, Nat.mul_one, Nat.zero_mul, r1, c1, c2, c4, c0, h3, hs]
    · by_cases h4 : gM.1 1 p = i32 4
      · by_cases hs : gM.1 4 (4 * k) = i32 0
        · simp -dsimp -implicitDefEqProofs (disch := omega) only [X6_costsOf, i32_lit, i32_add, i32_mul, i32_tn, i32_sub, le_t, le_f, lt_t, lt_f, eq_t, eq_f, eq_rfl, inR_t, ↓ob_x, obx_s, ↓bnd_s, ↓oT_x, oTx_s, ↓ite_x, itx_T, itx_F, ↓reduceIte, not_true_eq_false, not_false_eq_true, true_and, and_true, Nat.reduceAdd, Nat.reduceMul, Nat.reduceSub, Nat.reduceEqDiff, isB0, isB1, Int32.neg_neg, Nat.zero_add, Nat.add_zero, Nat.mul_zero, Nat.mul_one, Nat.zero_mul, r1, c1, c2, c4, c0, h4, hs]
        · simp -dsimp -implicitDefEqProofs (disch := omega) only [X6_costsOf, i32_lit, i32_add, i32_mul, i32_tn, i32_sub, le_t, le_f, lt_t, lt_f, eq_t, eq_f, eq_rfl, inR_t, ↓ob_x, obx_s, ↓bnd_s, ↓oT_x, oTx_s, ↓ite_x, itx_T, itx_F, ↓reduceIte, not_true_eq_false, not_false_eq_true, true_and, and_true, Nat.reduceAdd, Nat.reduceMul, Nat.reduceSub, Nat.reduceEqDiff, isB0, isB1, Int32.neg_neg, Nat.zero_add, Nat.add_zero, Nat.mul_zero, Nat.mul_one, Nat.zero_mul, r1, c1, c2, c4, c0, h4, hs]
      · simp -dsimp -implicitDefEqProofs (disch := omega) only [X6_costsOf, i32_lit, i32_add, i32_mul, i32_tn, i32_sub, le_t, le_f, lt_t, lt_f, eq_t, eq_f, eq_rfl, inR_t, ↓ob_x, obx_s, ↓bnd_s, ↓oT_x, oTx_s, ↓ite_x, itx_T, itx_F, ↓reduceIte, not_true_eq_false, not_false_eq_true, true_and, and_true, Nat.reduceAdd, Nat.reduceMul, Nat.reduceSub, Nat.reduceEqDiff, isB0, isB1, Int32.neg_neg, Nat.zero_add, Nat.add_zero, Nat.mul_zero, Nat.mul_one, Nat.zero_mul, r1, c1, c2, c4, c0, h2, h3, h4]
set_option maxRecDepth 100000 in
theorem can_I {N b d i p k : Nat} (hN : 6000 ≤ N) {gI gM : Mem} (h : Sc b d i gI gM) (hp : p < d) (hk : k < 12) : ∃ gI', X1_can N b (i32 p) (i32 k) gI = some (i32 (canV gM i p k), gI') ∧ SI gI gI' := by
  obtain ⟨g1, r1, r2⟩ := reach_I hN h hp hk
  obtain ⟨g2, s1, s2⟩ := cost_I hN (Sc_SI h r2) hp hk
  obtain ⟨⟨a1, a2, a3⟩, b1, b2, b3, b4, b5, b6, b7, b8, b9, b10, b11, b12, b13, b14⟩ := h
  have c4 : g1.1 (b + 4) = gI.1 (b + 4) := SI_hi r2 (b + 4) (by omega)
  have c8 : g2.1 (b + 8) = gI.1 (b + 8) := SI_hi (SI_tr r2 s2) (b + 8) (by omega)
  unfold canV
  by_cases h1 : gM.1 4 (4 * k + 3) = i32 0
  · by_cases h2 : RV gM i p k < gM.1 4 (4 * k + 2)
    · exact ⟨g1, by simp -dsimp -implicitDefEqProofs (disch := omega) only [X1_can, i32_lit, i32_add, i32_mul, i32_tn, i32_sub, le_t, le_f, lt_t, lt_f, eq_t, eq_f, eq_rfl, inR_t, ↓ob_x, obx_s, ↓bnd_s, ↓oT_x, oTx_s, ↓ite_x, itx_T, itx_F, ↓reduceIte, not_true_eq_false, not_false_eq_true, true_and, and_true, Nat.reduceAdd, Nat.reduceMul, Nat.reduceSub, Nat.reduceEqDiff, isB0, isB1, Int32.neg_neg, Nat.zero_add, Nat.add_zero, Nat.mul_zero, Nat.mul_one, Nat.zero_mul, r1, b5, c4, b4, h1, h2], r2⟩
    · refine ⟨g2, ?_, SI_tr r2 s2⟩
      by_cases h3 : gM.1 3 (2 * p) < CoV gM i p k
      · simp -dsimp -implicitDefEqProofs (disch := omega) only [X1_can, i32_lit, i32_add, i32_mul, i32_tn, i32_sub, le_t, le_f, lt_t, lt_f, eq_t, eq_f, eq_rfl, inR_t, ↓ob_x, obx_s, ↓bnd_s, ↓oT_x, oTx_s, ↓ite_x, itx_T, itx_F, ↓reduceIte, not_true_eq_false, not_false_eq_true, true_and, and_true, Nat.reduceAdd, Nat.reduceMul, Nat.reduceSub, Nat.reduceEqDiff, isB0, isB1, Int32.neg_neg, Nat.zero_add, Nat.add_zero, Nat.mul_zero, Nat.mul_one, Nat.zero_mul, r1, s1, b5, c4, b4, c8, b6, h1, h2, h3]
      · simp -dsimp -implicitDefEqProofs (disch := omega) only [X1_can, i32_lit, i32_add, i32_mul, i32_tn, i32_sub, le_t, le_f, lt_t, lt_f, eq_t, eq_f, eq_rfl, inR_t, ↓ob_x, obx_s, ↓bnd_s, ↓oT_x, oTx_s, ↓ite_x, itx_T, itx_F, ↓reduceIte, not_true_eq_false, not_false_eq_true, true_and, and_true, Nat.reduceAdd, Nat.reduceMul, Nat.reduceSub, Nat.reduceEqDiff, isB0, isB1, Int32.neg_neg, Nat.zero_add, Nat.add_zero, Nat.mul_zero, Nat.mul_one, Nat.zero_mul, r1, s1, b5, c4, b4, c8, b6, h1, h2, h3]
  · exact ⟨gI, by simp -dsimp -implicitDefEqProofs (disch := omega) only [X1_can, i32_lit, i32_add, i32_mul, i32_tn, i32_sub, le_t, le_f, lt_t, lt_f, eq_t, eq_f, eq_rfl, inR_t, ↓ob_x, obx_s, ↓bnd_s, ↓oT_x, oTx_s, ↓ite_x, itx_T, itx_F, ↓reduceIte, not_true_eq_false, not_false_eq_true, true_and, and_true, Nat.reduceAdd, Nat.reduceMul, Nat.reduceSub, Nat.reduceEqDiff, isB0, isB1, Int32.neg_neg, Nat.zero_add, Nat.add_zero, Nat.mul_zero, Nat.mul_one, Nat.zero_mul, b5, h1], SI_rfl gI⟩
set_option maxRecDepth 100000 in
theorem can_M {N i p k : Nat} (hN : 6000 ≤ N) {gI gM : Mem} (hT : TxI i gI gM) (hi : i < 6) (hr : gM.1 0 12 = i32 i) (hp : p < 6) (hk : k < 12) : ∃ gM', X6_can N (i32 p) (i32 k) gM = some (i32 (canV gM i p k), gM') ∧ SM gM gM' := by
  obtain ⟨g1, r1, r2⟩ := reach_M hN hT hi hr hp hk
  obtain ⟨g2, s1, s2⟩ := cost_M hN (TxI_SM hT r2) hi (by rw [SM_r r2 0 (by omega)]; exact hr) hp hk
  rw [CoV_EV (EV_SM r2)] at s1
  have c4 : g1.1 4 = gM.1 4 := SM_r r2 4 (by omega)
  have c3 : g2.1 3 = gM.1 3 := SM_r (SM_tr r2 s2) 3 (by omega)
  unfold canV
  by_cases h1 : gM.1 4 (4 * k + 3) = i32 0
  · by_cases h2 : RV gM i p k < gM.1 4 (4 * k + 2)
    · exact ⟨g1, by simp -dsimp -implicitDefEqProofs (disch := omega) only [X6_can, i32_lit, i32_add, i32_mul, i32_tn, i32_sub, le_t, le_f, lt_t, lt_f, eq_t, eq_f, eq_rfl, inR_t, ↓ob_x, obx_s, ↓bnd_s, ↓oT_x, oTx_s, ↓ite_x, itx_T, itx_F, ↓reduceIte, not_true_eq_false, not_false_eq_true, true_and, and_true, Nat.reduceAdd, Nat.reduceMul, Nat.reduceSub, Nat.reduceEqDiff, isB0, isB1, Int32.neg_neg, Nat.zero_add, Nat.add_zero, Nat.mul_zero, Nat.mul_one, Nat.zero_mul, r1, c4, h1, h2], r2⟩
    · refine ⟨g2, ?_, SM_tr r2 s2⟩
      by_cases h3 : gM.1 3 (2 * p) < CoV gM i p k
      · simp -dsimp -implicitDefEqProofs (disch := omega) only [X6_can, i32_lit, i32_add, i32_mul, i32_tn, i32_sub, le_t, le_f, lt_t, lt_f, eq_t, eq_f, eq_rfl, inR_t, ↓ob_x, obx_s, ↓bnd_s, ↓oT_x, oTx_s, ↓ite_x, itx_T, itx_F, ↓reduceIte, not_true_eq_false, not_false_eq_true, true_and, and_true, Nat.reduceAdd, Nat.reduceMul, Nat.reduceSub, Nat.reduceEqDiff, isB0, isB1, Int32.neg_neg, Nat.zero_add, Nat.add_zero, Nat.mul_zero, Nat.mul_one, Nat.zero_mul, r1, s1, c4, c3, h1, h2, h3]
      · simp -dsimp -implicitDefEqProofs (disch := omega) only [X6_can, i32_lit, i32_add, i32_mul, i32_tn, i32_sub, le_t, le_f, lt_t, lt_f, eq_t, eq_f, eq_rfl, inR_t, ↓ob_x, obx_s, ↓bnd_s, ↓oT_x, oTx_s, ↓ite_x, itx_T, itx_F, ↓reduceIte, not_true_eq_false, not_false_eq_true, true_and, and_true, Nat.reduceAdd, Nat.reduceMul, Nat.reduceSub, Nat.reduceEqDiff, isB0, isB1, Int32.neg_neg, Nat.zero_add, Nat.add_zero, Nat.mul_zero, Nat.mul_one, Nat.zero_mul, r1, s1, c4, c3, h1, h2, h3]
  · exact ⟨gM, by simp -dsimp -implicitDefEqProofs (disch := omega) only [X6_can, i32_lit, i32_add, i32_mul, i32_tn, i32_sub, le_t, le_f, lt_t, lt_f, eq_t, eq_f, eq_rfl, inR_t, ↓ob_x, obx_s, ↓bnd_s, ↓oT_x, oTx_s, ↓ite_x, itx_T, itx_F, ↓reduceIte, not_true_eq_false, not_false_eq_true, true_and, and_true, Nat.reduceAdd, Nat.reduceMul, Nat.reduceSub, Nat.reduceEqDiff, isB0, isB1, Int32.neg_neg, Nat.zero_add, Nat.add_zero, Nat.mul_zero, Nat.mul_one, Nat.zero_mul, h1], SM_rfl gM⟩
/-- a set of numbers j, j + 1, .. by what c says of each -/
def bitF (c : Nat → Nat) : Nat → Nat → Int32 → Int32
  | _, 0, x => x
  | j, n + 1, x => bitF c (j + 1) n (if c j = 0 then x else x ||| (i32 1 <<< (i32 j &&& i32 31)))
theorem canV_SM {gM g : Mem} (s : SM gM g) (i p : Nat) : canV g i p = canV gM i p := funext fun k => canV_EV (EV_SM s) i p k
set_option maxRecDepth 100000 in
theorem cset_I {N b d i p : Nat} (hN : 6000 ≤ N) {gM : Mem} (hp : p < d) : ∀ (n j fu : Nat) (x : Int32) (gI : Mem), j + n = 12 → n < fu → Sc b d i gI gM → ∃ gI', X1_casksFor_L4 N b (i32 p) fu x (i32 j) gI = some (bitF (canV gM i p) j n x, gI') ∧ SI gI gI'
  | 0, j, fu, x, gI, h1, h2, h => by
    obtain ⟨f, rfl⟩ : ∃ q, fu = q + 1 := ⟨fu - 1, by omega⟩
    exact ⟨gI, by simp -dsimp -implicitDefEqProofs (disch := omega) only [X1_casksFor_L4, i32_lit, i32_add, i32_mul, i32_tn, i32_sub, le_t, le_f, lt_t, lt_f, eq_t, eq_f, eq_rfl, inR_t, ↓ob_x, obx_s, ↓bnd_s, ↓oT_x, oTx_s, ↓ite_x, itx_T, itx_F, ↓reduceIte, not_true_eq_false, not_false_eq_true, true_and, and_true, Nat.reduceAdd, Nat.reduceMul, Nat.reduceSub, Nat.reduceEqDiff, isB0, isB1, Int32.neg_neg, Nat.zero_add, Nat.add_zero, Nat.mul_zero, Nat.mul_one, Nat.zero_mul, bitF], SI_rfl gI⟩
  | n + 1, j, fu, x, gI, h1, h2, h => by
    obtain ⟨f, rfl⟩ : ∃ q, fu = q + 1 := ⟨fu - 1, by omega⟩
    obtain ⟨g1, r1, r2⟩ := can_I (k := j) hN h hp (by omega)
    rcases canV_le gM i p j with hc | hc
    · obtain ⟨g2, s1, s2⟩ := cset_I hN hp n (j + 1) f x g1 (by omega) (by omega) (Sc_SI h r2)
      exact ⟨g2, by simp -dsimp -implicitDefEqProofs (disch := omega) only [X1_casksFor_L4, i32_lit, i32_add, i32_mul, i32_tn, i32_sub, le_t, le_f, lt_t, lt_f, eq_t, eq_f, eq_rfl, inR_t, ↓ob_x, obx_s, ↓bnd_s, ↓oT_x, oTx_s, ↓ite_x, itx_T, itx_F, ↓reduceIte, not_true_eq_false, not_false_eq_true, true_and, and_true, Nat.reduceAdd, Nat.reduceMul, Nat.reduceSub, Nat.reduceEqDiff, isB0, isB1, Int32.neg_neg, Nat.zero_add, Nat.add_zero, Nat.mul_zero, Nat.mul_one, Nat.zero_mul, r1, hc, s1, bitF], SI_tr r2 s2⟩
    · obtain ⟨g2, s1, s2⟩ := cset_I hN hp n (j + 1) f (x ||| (i32 1 <<< (i32 j &&& i32 31))) g1 (by omega) (by omega) (Sc_SI h r2)
      exact ⟨g2, by simp -dsimp -implicitDefEqProofs (disch := omega) only [X1_casksFor_L4, i32_lit, i32_add, i32_mul, i32_tn, i32_sub, le_t, le_f, lt_t, lt_f, eq_t, eq_f, eq_rfl, inR_t, ↓ob_x, obx_s, ↓bnd_s, ↓oT_x, oTx_s, ↓ite_x, itx_T, itx_F, ↓reduceIte, not_true_eq_false, not_false_eq_true, true_and, and_true, Nat.reduceAdd, Nat.reduceMul, Nat.reduceSub, Nat.reduceEqDiff, isB0, isB1, Int32.neg_neg, Nat.zero_add, Nat.add_zero, Nat.mul_zero, Nat.mul_one, Nat.zero_mul, r1, hc, s1, bitF, Nat.one_ne_zero], SI_tr r2 s2⟩
set_option maxRecDepth 100000 in
theorem cset_M {N i p : Nat} (hN : 6000 ≤ N) {gI : Mem} (hi : i < 6) (hp : p < 6) : ∀ (n j fu : Nat) (x : Int32) (gM : Mem), j + n = 12 → n < fu → TxI i gI gM → gM.1 0 12 = i32 i → ∃ gM', X6_canSet_L4 N (i32 p) fu x (i32 j) gM = some (bitF (canV gM i p) j n x, gM') ∧ SM gM gM'
  | 0, j, fu, x, gM, h1, h2, h, hr => by
    obtain ⟨f, rfl⟩ : ∃ q, fu = q + 1 := ⟨fu - 1, by omega⟩
    exact ⟨gM, by simp -dsimp -implicitDefEqProofs (disch := omega) only [X6_canSet_L4, i32_lit, i32_add, i32_mul, i32_tn, i32_sub, le_t, le_f, lt_t, lt_f, eq_t, eq_f, eq_rfl, inR_t, ↓ob_x, obx_s, ↓bnd_s, ↓oT_x, oTx_s, ↓ite_x, itx_T, itx_F, ↓reduceIte, not_true_eq_false, not_false_eq_true, true_and, and_true, Nat.reduceAdd, Nat.reduceMul, Nat.reduceSub, Nat.reduceEqDiff, isB0, isB1, Int32.neg_neg, Nat.zero_add, Nat.add_zero, Nat.mul_zero, Nat.mul_one, Nat.zero_mul, bitF], SM_rfl gM⟩
  | n + 1, j, fu, x, gM, h1, h2, h, hr => by
    obtain ⟨f, rfl⟩ : ∃ q, fu = q + 1 := ⟨fu - 1, by omega⟩
    obtain ⟨g1, r1, r2⟩ := can_M (k := j) hN h hi hr hp (by omega)
    have hr1 : g1.1 0 12 = i32 i := by rw [SM_r r2 0 (by omega)]; exact hr
    rcases canV_le gM i p j with hc | hc
    · obtain ⟨g2, s1, s2⟩ := cset_M hN hi hp n (j + 1) f x g1 (by omega) (by omega) (TxI_SM h r2) hr1
      rw [canV_SM r2] at s1
      exact ⟨g2, by simp -dsimp -implicitDefEqProofs (disch := omega) only [X6_canSet_L4, i32_lit, i32_add, i32_mul, i32_tn, i32_sub, le_t, le_f, lt_t, lt_f, eq_t, eq_f, eq_rfl, inR_t, ↓ob_x, obx_s, ↓bnd_s, ↓oT_x, oTx_s, ↓ite_x, itx_T, itx_F, ↓reduceIte, not_true_eq_false, not_false_eq_true, true_and, and_true, Nat.reduceAdd, Nat.reduceMul, Nat.reduceSub, Nat.reduceEqDiff, isB0, isB1, Int32.neg_neg, Nat.zero_add, Nat.add_zero, Nat.mul_zero, Nat.mul_one, Nat.zero_mul, r1, hc, s1, bitF, b_or0], SM_tr r2 s2⟩
    · obtain ⟨g2, s1, s2⟩ := cset_M hN hi hp n (j + 1) f (x ||| (i32 1 <<< (i32 j &&& i32 31))) g1 (by omega) (by omega) (TxI_SM h r2) hr1
      rw [canV_SM r2] at s1
      exact ⟨g2, by simp -dsimp -implicitDefEqProofs (disch := omega) only [X6_canSet_L4, i32_lit, i32_add, i32_mul, i32_tn, i32_sub, le_t, le_f, lt_t, lt_f, eq_t, eq_f, eq_rfl, inR_t, ↓ob_x, obx_s, ↓bnd_s, ↓oT_x, oTx_s, ↓ite_x, itx_T, itx_F, ↓reduceIte, not_true_eq_false, not_false_eq_true, true_and, and_true, Nat.reduceAdd, Nat.reduceMul, Nat.reduceSub, Nat.reduceEqDiff, isB0, isB1, Int32.neg_neg, Nat.zero_add, Nat.add_zero, Nat.mul_zero, Nat.mul_one, Nat.zero_mul, r1, hc, s1, bitF, Nat.one_ne_zero], SM_tr r2 s2⟩
def plV (gM : Mem) (w : Int32) (k : Nat) : Nat := if gM.1 4 (4 * k + 3) = w then 1 else 0
set_option maxRecDepth 100000 in
theorem at_I {N b : Nat} {gI gM : Mem} (w : Int32) (h : ∀ k, k < 12 → gI.1 (b + 5) k = gM.1 4 (4 * k + 3)) : ∀ (n j fu : Nat) (x : Int32), j + n = 12 → n < fu → X1_casksAt_L4 N b w fu x (i32 j) gI = some (bitF (plV gM w) j n x, gI)
  | 0, j, fu, x, h1, h2 => by
    obtain ⟨f, rfl⟩ : ∃ q, fu = q + 1 := ⟨fu - 1, by omega⟩
    simp -dsimp -implicitDefEqProofs (disch := omega) only [X1_casksAt_L4, i32_lit, i32_add, i32_mul, i32_tn, i32_sub, le_t, le_f, lt_t, lt_f, eq_t, eq_f, eq_rfl, inR_t, ↓ob_x, obx_s, ↓bnd_s, ↓oT_x, oTx_s, ↓ite_x, itx_T, itx_F, ↓reduceIte, not_true_eq_false, not_false_eq_true, true_and, and_true, Nat.reduceAdd, Nat.reduceMul, Nat.reduceSub, Nat.reduceEqDiff, isB0, isB1, Int32.neg_neg, Nat.zero_add, Nat.add_zero, Nat.mul_zero, Nat.mul_one, Nat.zero_mul, bitF]
  | n + 1, j, fu, x, h1, h2 => by
    obtain ⟨f, rfl⟩ : ∃ q, fu = q + 1 := ⟨fu - 1, by omega⟩
    by_cases hc : gM.1 4 (4 * j + 3) = w
    · have s1 := at_I (N := N) w h n (j + 1) f (x ||| (i32 1 <<< (i32 j &&& i32 31))) (by omega) (by omega)
      simp -dsimp -implicitDefEqProofs (disch := omega) only [X1_casksAt_L4, i32_lit, i32_add, i32_mul, i32_tn, i32_sub, le_t, le_f, lt_t, lt_f, eq_t, eq_f, eq_rfl, inR_t, ↓ob_x, obx_s, ↓bnd_s, ↓oT_x, oTx_s, ↓ite_x, itx_T, itx_F, ↓reduceIte, not_true_eq_false, not_false_eq_true, true_and, and_true, Nat.reduceAdd, Nat.reduceMul, Nat.reduceSub, Nat.reduceEqDiff, isB0, isB1, Int32.neg_neg, Nat.zero_add, Nat.add_zero, Nat.mul_zero, Nat.mul_one, Nat.zero_mul, h, hc, s1, bitF, plV, Nat.one_ne_zero]
    · have s1 := at_I (N := N) w h n (j + 1) f x (by omega) (by omega)
      simp -dsimp -implicitDefEqProofs (disch := omega) only [X1_casksAt_L4, i32_lit, i32_add, i32_mul, i32_tn, i32_sub, le_t, le_f, lt_t, lt_f, eq_t, eq_f, eq_rfl, inR_t, ↓ob_x, obx_s, ↓bnd_s, ↓oT_x, oTx_s, ↓ite_x, itx_T, itx_F, ↓reduceIte, not_true_eq_false, not_false_eq_true, true_and, and_true, Nat.reduceAdd, Nat.reduceMul, Nat.reduceSub, Nat.reduceEqDiff, isB0, isB1, Int32.neg_neg, Nat.zero_add, Nat.add_zero, Nat.mul_zero, Nat.mul_one, Nat.zero_mul, h, hc, s1, bitF, plV]
set_option maxRecDepth 100000 in
theorem at_M {N : Nat} {gM : Mem} (w : Int32) : ∀ (n j fu : Nat) (x : Int32), j + n = 12 → n < fu → X6_placed_L4 N w fu x (i32 j) gM = some (bitF (plV gM w) j n x, gM)
  | 0, j, fu, x, h1, h2 => by
    obtain ⟨f, rfl⟩ : ∃ q, fu = q + 1 := ⟨fu - 1, by omega⟩
    simp -dsimp -implicitDefEqProofs (disch := omega) only [X6_placed_L4, i32_lit, i32_add, i32_mul, i32_tn, i32_sub, le_t, le_f, lt_t, lt_f, eq_t, eq_f, eq_rfl, inR_t, ↓ob_x, obx_s, ↓bnd_s, ↓oT_x, oTx_s, ↓ite_x, itx_T, itx_F, ↓reduceIte, not_true_eq_false, not_false_eq_true, true_and, and_true, Nat.reduceAdd, Nat.reduceMul, Nat.reduceSub, Nat.reduceEqDiff, isB0, isB1, Int32.neg_neg, Nat.zero_add, Nat.add_zero, Nat.mul_zero, Nat.mul_one, Nat.zero_mul, bitF]
  | n + 1, j, fu, x, h1, h2 => by
    obtain ⟨f, rfl⟩ : ∃ q, fu = q + 1 := ⟨fu - 1, by omega⟩
    by_cases hc : gM.1 4 (4 * j + 3) = w
    · have s1 := at_M (N := N) (gM := gM) w n (j + 1) f (x ||| (i32 1 <<< (i32 j &&& i32 31))) (by omega) (by omega)
      simp -dsimp -implicitDefEqProofs (disch := omega) only [X6_placed_L4, i32_lit, i32_add, i32_mul, i32_tn, i32_sub, le_t, le_f, lt_t, lt_f, eq_t, eq_f, eq_rfl, inR_t, ↓ob_x, obx_s, ↓bnd_s, ↓oT_x, oTx_s, ↓ite_x, itx_T, itx_F, ↓reduceIte, not_true_eq_false, not_false_eq_true, true_and, and_true, Nat.reduceAdd, Nat.reduceMul, Nat.reduceSub, Nat.reduceEqDiff, isB0, isB1, Int32.neg_neg, Nat.zero_add, Nat.add_zero, Nat.mul_zero, Nat.mul_one, Nat.zero_mul, hc, s1, bitF, plV, Nat.one_ne_zero]
    · have s1 := at_M (N := N) (gM := gM) w n (j + 1) f x (by omega) (by omega)
      simp -dsimp -implicitDefEqProofs (disch := omega) only [X6_placed_L4, i32_lit, i32_add, i32_mul, i32_tn, i32_sub, le_t, le_f, lt_t, lt_f, eq_t, eq_f, eq_rfl, inR_t, ↓ob_x, obx_s, ↓bnd_s, ↓oT_x, oTx_s, ↓ite_x, itx_T, itx_F, ↓reduceIte, not_true_eq_false, not_false_eq_true, true_and, and_true, Nat.reduceAdd, Nat.reduceMul, Nat.reduceSub, Nat.reduceEqDiff, isB0, isB1, Int32.neg_neg, Nat.zero_add, Nat.add_zero, Nat.mul_zero, Nat.mul_one, Nat.zero_mul, hc, s1, bitF, plV, b_or0]
theorem bitF_or (c : Nat → Nat) : ∀ (n j : Nat) (x : Int32), ∃ y : Int32, bitF c j n x = x ||| y
  | 0, j, x => ⟨0, by rw [bitF, Int32.or_zero]⟩
  | n + 1, j, x => by
    rw [bitF]
    obtain ⟨y, hy⟩ := bitF_or c n (j + 1) (if c j = 0 then x else x ||| (i32 1 <<< (i32 j &&& i32 31)))
    rw [hy]
    by_cases h : c j = 0
    · rw [if_pos h]; exact ⟨y, rfl⟩
    · rw [if_neg h]; exact ⟨_, Int32.or_assoc _ _ _⟩
