theorem At_pass {L R R' : List Nat} {c s t v : Nat} {g0 g : Mem} {K : List Nat} (h : At L c s g0 g R K) (k : TK L R t v R') {N : Nat} (hN : 6000 ≤ N) : ∃ g', X3_passes N (i32 t) g = some (i32 1, g') ∧ At L c s g0 g' R' K := by
  obtain ⟨t1, t2, t3, t4, t5⟩ := At_tok h k
  obtain ⟨g', e, h'⟩ := At_next h k hN
  exact ⟨g', by simp -dsimp -implicitDefEqProofs (disch := omega) only [X3_passes, t1, e, i32_lit, i32_add, i32_mul, i32_tn, i32_sub, le_t, le_f, lt_t, lt_f, eq_t, eq_f, eq_rfl, inR_t, ↓ob_x, obx_s, ↓bnd_s, ↓oT_x, oTx_s, ↓ite_x, itx_T, itx_F, ↓reduceIte, not_true_eq_false, not_false_eq_true, true_and, and_true, Nat.reduceAdd, Nat.reduceMul, Nat.reduceSub, Nat.reduceEqDiff, isB0, isB1, Int32.neg_neg, Nat.zero_add, Nat.add_zero, Nat.mul_zero, Nat.mul_one, Nat.zero_mul], h'⟩
set_option maxRecDepth 100000 in
theorem J6_par {N : Nat} (hN : 6000 ≤ N) {L R R1 R2 R3 : List Nat} {c s v w : Nat} {g0 : Mem} {K K2 : List Nat} {D a : Nat} (ha : a < 5) (k1 : TK L R 40 v R1) (j : JJ N L c s g0 0 D (a + 1) R1 K R2 K2) (k2 : TK L R2 41 w R3) : JJ N L c s g0 6 (D + 1) a R K R3 K2 := by
  intro g h
  obtain ⟨t1, t2, t3, t4, t5⟩ := At_tok h k1
  have nm := isNm_e (N := N) g t3
  rw [if_neg (by omega)] at nm
  obtain ⟨g1, e1, h1⟩ := At_pass h k1 hN
  obtain ⟨g2, e2, h2⟩ := j g1 h1
  obtain ⟨g3, e3, h3⟩ := At_pass h2 k2 hN
  refine ⟨g3, ?_, h3⟩
  show X3_readsOne N (PG N D) (i32 a) g = _
  simp -dsimp -implicitDefEqProofs (disch := omega) only [X3_readsOne, t1, nm, e1, e2, e3, i32_lit, i32_add, i32_mul, i32_tn, i32_sub, le_t, le_f, lt_t, lt_f, eq_t, eq_f, eq_rfl, inR_t, ↓ob_x, obx_s, ↓bnd_s, ↓oT_x, oTx_s, ↓ite_x, itx_T, itx_F, ↓reduceIte, not_true_eq_false, not_false_eq_true, true_and, and_true, Nat.reduceAdd, Nat.reduceMul, Nat.reduceSub, Nat.reduceEqDiff, isB0, isB1, Int32.neg_neg, Nat.zero_add, Nat.add_zero, Nat.mul_zero, Nat.mul_one, Nat.zero_mul]
def LT (N : Nat) (L : List Nat) (c s : Nat) (g0 : Mem) (D a n : Nat) (R K R' K' : List Nat) : Prop := ∀ g x fu, x + n < 160 → n < fu → At L c s g0 g R K → ∃ g', X3_readsTerm_L8 N (PG N D) (i32 a) fu (i32 1) (i32 x) g = some (i32 1, g') ∧ At L c s g0 g' R' K'
def LU (N : Nat) (L : List Nat) (c s : Nat) (g0 : Mem) (D a n : Nat) (R K R' K' : List Nat) : Prop := ∀ g x fu, x + n < 160 → n < fu → At L c s g0 g R K → ∃ g', X3_readsSum_L8 N (PG N D) (i32 a) fu (i32 1) (i32 x) g = some (i32 1, g') ∧ At L c s g0 g' R' K'
set_option maxRecDepth 100000 in
theorem LT_0 {N : Nat} {L R R' : List Nat} {c s t v : Nat} {g0 : Mem} {K : List Nat} {D a : Nat} (k : TK L R t v R') (ht : ¬ t = 42) : LT N L c s g0 D a 0 R K R K := by
  intro g x fu h1 h2 h
  obtain ⟨f, rfl⟩ : ∃ q, fu = q + 1 := ⟨fu - 1, by omega⟩
  obtain ⟨t1, t2, t3, t4, t5⟩ := At_tok h k
  exact ⟨g, by simp -dsimp -implicitDefEqProofs (disch := omega) only [X3_readsTerm_L8, t1, i32_lit, i32_add, i32_mul, i32_tn, i32_sub, le_t, le_f, lt_t, lt_f, eq_t, eq_f, eq_rfl, inR_t, ↓ob_x, obx_s, ↓bnd_s, ↓oT_x, oTx_s, ↓ite_x, itx_T, itx_F, ↓reduceIte, not_true_eq_false, not_false_eq_true, true_and, and_true, Nat.reduceAdd, Nat.reduceMul, Nat.reduceSub, Nat.reduceEqDiff, isB0, isB1, Int32.neg_neg, Nat.zero_add, Nat.add_zero, Nat.mul_zero, Nat.mul_one, Nat.zero_mul], h⟩
set_option maxRecDepth 100000 in
theorem LT_s {N : Nat} (hN : 6000 ≤ N) {L R R1 R2 R' : List Nat} {c s v n : Nat} {g0 : Mem} {K K2 K' : List Nat} {D a : Nat} (k : TK L R 42 v R1) (j : JJ N L c s g0 6 D a R1 K R2 K2) (hb : s + K2.length < 100) (l : LT N L c s g0 D a n R2 (18 :: K2) R' K') : LT N L c s g0 D a (n + 1) R K R' K' := by
  intro g x fu h1 h2 h
  obtain ⟨f, rfl⟩ : ∃ q, fu = q + 1 := ⟨fu - 1, by omega⟩
  obtain ⟨t1, t2, t3, t4, t5⟩ := At_tok h k
  obtain ⟨g1, e1, h3⟩ := At_next h k hN
  obtain ⟨g2, e2, h4⟩ := j g1 h3
  have u4 : g2.2 0 = some (4 + 5 * c) := by obtain ⟨_, p, hc, _⟩ := h4; exact hc.2.2.2.2.1
  obtain ⟨g3, e3, h5⟩ := At_add h4 18 hb N
  have ec : cs 18 = -(i32 42) := rfl
  rw [ec] at e3
  obtain ⟨g4, e4, h6⟩ := l g3 (x + 1) f (by omega) (by omega) h5
  exact ⟨g4, by simp -dsimp -implicitDefEqProofs (disch := omega) only [X3_readsTerm_L8, t1, e1, e2, u4, e3, e4, i32_lit, i32_add, i32_mul, i32_tn, i32_sub, le_t, le_f, lt_t, lt_f, eq_t, eq_f, eq_rfl, inR_t, ↓ob_x, obx_s, ↓bnd_s, ↓oT_x, oTx_s, ↓ite_x, itx_T, itx_F, ↓reduceIte, not_true_eq_false, not_false_eq_true, true_and, and_true, Nat.reduceAdd, Nat.reduceMul, Nat.reduceSub, Nat.reduceEqDiff, isB0, isB1, Int32.neg_neg, Nat.zero_add, Nat.add_zero, Nat.mul_zero, Nat.mul_one, Nat.zero_mul], h6⟩
set_option maxRecDepth 100000 in
theorem J5 {N : Nat} (hN : 6000 ≤ N) {L R R1 R' : List Nat} {c s n : Nat} {g0 : Mem} {K K1 K' : List Nat} {D a : Nat} (j : JJ N L c s g0 6 D a R K R1 K1) (hn : n < 100) (l : LT N L c s g0 D a n R1 K1 R' K') : JJ N L c s g0 5 (D + 1) a R K R' K' := by
  intro g h
  obtain ⟨g1, e1, h1⟩ := j g h
  obtain ⟨g2, e2, h2⟩ := l g1 0 N (by omega) (by omega) h1
  refine ⟨g2, ?_, h2⟩
  show X3_readsTerm N (PG N D) (i32 a) g = _
  simp -dsimp -implicitDefEqProofs (disch := omega) only [X3_readsTerm, e1, e2, i32_lit, i32_add, i32_mul, i32_tn, i32_sub, le_t, le_f, lt_t, lt_f, eq_t, eq_f, eq_rfl, inR_t, ↓ob_x, obx_s, ↓bnd_s, ↓oT_x, oTx_s, ↓ite_x, itx_T, itx_F, ↓reduceIte, not_true_eq_false, not_false_eq_true, true_and, and_true, Nat.reduceAdd, Nat.reduceMul, Nat.reduceSub, Nat.reduceEqDiff, isB0, isB1, Int32.neg_neg, Nat.zero_add, Nat.add_zero, Nat.mul_zero, Nat.mul_one, Nat.zero_mul]
set_option maxRecDepth 100000 in
theorem LU_0 {N : Nat} {L R R' : List Nat} {c s t v : Nat} {g0 : Mem} {K : List Nat} {D a : Nat} (k : TK L R t v R') (ht : ¬ t = 43 ∧ ¬ t = 45) : LU N L c s g0 D a 0 R K R K := by
  intro g x fu h1 h2 h
  obtain ⟨f, rfl⟩ : ∃ q, fu = q + 1 := ⟨fu - 1, by omega⟩
  obtain ⟨t1, t2, t3, t4, t5⟩ := At_tok h k
  exact ⟨g, by simp -dsimp -implicitDefEqProofs (disch := omega) only [X3_readsSum_L8, t1, i32_lit, i32_add, i32_mul, i32_tn, i32_sub, le_t, le_f, lt_t, lt_f, eq_t, eq_f, eq_rfl, inR_t, ↓ob_x, obx_s, ↓bnd_s, ↓oT_x, oTx_s, ↓ite_x, itx_T, itx_F, ↓reduceIte, not_true_eq_false, not_false_eq_true, true_and, and_true, Nat.reduceAdd, Nat.reduceMul, Nat.reduceSub, Nat.reduceEqDiff, isB0, isB1, Int32.neg_neg, Nat.zero_add, Nat.add_zero, Nat.mul_zero, Nat.mul_one, Nat.zero_mul], h⟩
set_option maxRecDepth 100000 in
theorem LU_s {N : Nat} (hN : 6000 ≤ N) {L R R1 R2 R' : List Nat} {c s v n t : Nat} {g0 : Mem} {K K2 K' : List Nat} {D a : Nat} (k : TK L R t v R1) (ht : t = 43 ∨ t = 45) (j : JJ N L c s g0 5 D a R1 K R2 K2) (hb : s + K2.length < 100) (l : LU N L c s g0 D a n R2 ((if t = 43 then 16 else 17) :: K2) R' K') : LU N L c s g0 D a (n + 1) R K R' K' := by
  intro g x fu h1 h2 h
  obtain ⟨f, rfl⟩ : ∃ q, fu = q + 1 := ⟨fu - 1, by omega⟩
  obtain ⟨t1, t2, t3, t4, t5⟩ := At_tok h k
  obtain ⟨g1, e1, h3⟩ := At_next h k hN
  obtain ⟨g2, e2, h4⟩ := j g1 h3
  have u4 : g2.2 0 = some (4 + 5 * c) := by obtain ⟨_, p, hc, _⟩ := h4; exact hc.2.2.2.2.1
  obtain ⟨g3, e3, h5⟩ := At_add h4 (if t = 43 then 16 else 17) hb N
  obtain ⟨g4, e4, h6⟩ := l g3 (x + 1) f (by omega) (by omega) h5
  refine ⟨g4, ?_, h6⟩
  rcases ht with rfl | rfl
  · have ec : cs (if 43 = 43 then 16 else 17) = -(i32 43) := rfl
    rw [ec] at e3
    simp -dsimp -implicitDefEqProofs (disch := omega) only [X3_readsSum_L8, t1, e1, e2, u4, e3, e4, i32_lit, i32_add, i32_mul, i32_tn, i32_sub, le_t, le_f, lt_t, lt_f, eq_t, eq_f, eq_rfl, inR_t, ↓ob_x, obx_s, ↓bnd_s, ↓oT_x, oTx_s, ↓ite_x, itx_T, itx_F, ↓reduceIte, not_true_eq_false, not_false_eq_true, true_and, and_true, Nat.reduceAdd, Nat.reduceMul, Nat.reduceSub, Nat.reduceEqDiff, isB0, isB1, Int32.neg_neg, Nat.zero_add, Nat.add_zero, Nat.mul_zero, Nat.mul_one, Nat.zero_mul]
  · have ec : cs (if 45 = 43 then 16 else 17) = -(i32 45) := rfl
    rw [ec] at e3
    simp -dsimp -implicitDefEqProofs (disch := omega) only [X3_readsSum_L8, t1, e1, e2, u4, e3, e4, i32_lit, i32_add, i32_mul, i32_tn, i32_sub, le_t, le_f, lt_t, lt_f, eq_t, eq_f, eq_rfl, inR_t, ↓ob_x, obx_s, ↓bnd_s, ↓oT_x, oTx_s, ↓ite_x, itx_T, itx_F, ↓reduceIte, not_true_eq_false, not_false_eq_true, true_and, and_true, Nat.reduceAdd, Nat.reduceMul, Nat.reduceSub, Nat.reduceEqDiff, isB0, isB1, Int32.neg_neg, Nat.zero_add, Nat.add_zero, Nat.mul_zero, Nat.mul_one, Nat.zero_mul]
set_option maxRecDepth 100000 in
theorem J4 {N : Nat} (hN : 6000 ≤ N) {L R R1 R' : List Nat} {c s n : Nat} {g0 : Mem} {K K1 K' : List Nat} {D a : Nat} (j : JJ N L c s g0 5 D a R K R1 K1) (hn : n < 100) (l : LU N L c s g0 D a n R1 K1 R' K') : JJ N L c s g0 4 (D + 1) a R K R' K' := by
  intro g h
  obtain ⟨g1, e1, h1⟩ := j g h
  obtain ⟨g2, e2, h2⟩ := l g1 0 N (by omega) (by omega) h1
  refine ⟨g2, ?_, h2⟩
  show X3_readsSum N (PG N D) (i32 a) g = _
  simp -dsimp -implicitDefEqProofs (disch := omega) only [X3_readsSum, e1, e2, i32_lit, i32_add, i32_mul, i32_tn, i32_sub, le_t, le_f, lt_t, lt_f, eq_t, eq_f, eq_rfl, inR_t, ↓ob_x, obx_s, ↓bnd_s, ↓oT_x, oTx_s, ↓ite_x, itx_T, itx_F, ↓reduceIte, not_true_eq_false, not_false_eq_true, true_and, and_true, Nat.reduceAdd, Nat.reduceMul, Nat.reduceSub, Nat.reduceEqDiff, isB0, isB1, Int32.neg_neg, Nat.zero_add, Nat.add_zero, Nat.mul_zero, Nat.mul_one, Nat.zero_mul]
set_option maxRecDepth 100000 in
theorem J2_0 {N : Nat} {L R R0 R1 R' : List Nat} {c s t t' v v' : Nat} {g0 : Mem} {K K1 : List Nat} {D a : Nat} (k0 : TK L R t v R0) (ht : ¬ t = 265) (j : JJ N L c s g0 4 D a R K R1 K1) (k1 : TK L R1 t' v' R') (ht' : ¬ t' = 60 ∧ ¬ t' = 61) : JJ N L c s g0 2 (D + 1) a R K R1 K1 := by
  intro g h
  obtain ⟨t1, t2, t3, t4, t5⟩ := At_tok h k0
  obtain ⟨g1, e1, h1⟩ := j g h
  obtain ⟨u1, u2, u3, u4, u5⟩ := At_tok h1 k1
  refine ⟨g1, ?_, h1⟩
  show X3_readsNot N (PG N D) (i32 a) g = _
  simp -dsimp -implicitDefEqProofs (disch := omega) only [X3_readsNot, t1, e1, u1, i32_lit, i32_add, i32_mul, i32_tn, i32_sub, le_t, le_f, lt_t, lt_f, eq_t, eq_f, eq_rfl, inR_t, ↓ob_x, obx_s, ↓bnd_s, ↓oT_x, oTx_s, ↓ite_x, itx_T, itx_F, ↓reduceIte, not_true_eq_false, not_false_eq_true, true_and, and_true, Nat.reduceAdd, Nat.reduceMul, Nat.reduceSub, Nat.reduceEqDiff, isB0, isB1, Int32.neg_neg, Nat.zero_add, Nat.add_zero, Nat.mul_zero, Nat.mul_one, Nat.zero_mul]
set_option maxRecDepth 100000 in
theorem J2_lt {N : Nat} (hN : 6000 ≤ N) {L R R0 R1 R2 R3 : List Nat} {c s t v v' : Nat} {g0 : Mem} {K K1 K3 : List Nat} {D a : Nat} (k0 : TK L R t v R0) (ht : ¬ t = 265) (j : JJ N L c s g0 4 D a R K R1 K1) (k1 : TK L R1 60 v' R2) (j2 : JJ N L c s g0 4 D a R2 K1 R3 K3) (hb : s + K3.length < 100) : JJ N L c s g0 2 (D + 1) a R K R3 (14 :: K3) := by
  intro g h
  obtain ⟨t1, t2, t3, t4, t5⟩ := At_tok h k0
  obtain ⟨g1, e1, h1⟩ := j g h
  obtain ⟨u1, u2, u3, u4, u5⟩ := At_tok h1 k1
  obtain ⟨g2, e2, h2⟩ := At_next h1 k1 hN
  obtain ⟨g3, e3, h3⟩ := j2 g2 h2
  have w4 : g3.2 0 = some (4 + 5 * c) := by obtain ⟨_, p, hc, _⟩ := h3; exact hc.2.2.2.2.1
  obtain ⟨g4, e4, h4⟩ := At_add h3 14 hb N
  have ec : cs 14 = -(i32 60) := rfl
  rw [ec] at e4
  refine ⟨g4, ?_, h4⟩
  show X3_readsNot N (PG N D) (i32 a) g = _
  simp -dsimp -implicitDefEqProofs (disch := omega) only [X3_readsNot, t1, e1, u1, e2, e3, w4, e4, i32_lit, i32_add, i32_mul, i32_tn, i32_sub, le_t, le_f, lt_t, lt_f, eq_t, eq_f, eq_rfl, inR_t, ↓ob_x, obx_s, ↓bnd_s, ↓oT_x, oTx_s, ↓ite_x, itx_T, itx_F, ↓reduceIte, not_true_eq_false, not_false_eq_true, true_and, and_true, Nat.reduceAdd, Nat.reduceMul, Nat.reduceSub, Nat.reduceEqDiff, isB0, isB1, Int32.neg_neg, Nat.zero_add, Nat.add_zero, Nat.mul_zero, Nat.mul_one, Nat.zero_mul]
set_option maxRecDepth 100000 in
theorem J0 {N : Nat} (hN : 6000 ≤ N) {L R R1 R' : List Nat} {c s t v : Nat} {g0 : Mem} {K K1 : List Nat} {D a : Nat} (j : JJ N L c s g0 2 D a R K R1 K1) (k1 : TK L R1 t v R') (ht : ¬ t = 263 ∧ ¬ t = 264) : JJ N L c s g0 0 (D + 1 + 1) a R K R1 K1 := by
  intro g h
  obtain ⟨g1, e1, h1⟩ := j g h
  obtain ⟨u1, u2, u3, u4, u5⟩ := At_tok h1 k1
  obtain ⟨M, rfl⟩ : ∃ q, N = q + 1 := ⟨N - 1, by omega⟩
  refine ⟨g1, ?_, h1⟩
  have ea : PG (M + 1) (D + 1) 1 (i32 a) g = some (i32 1, g1) := by
    show X3_readsAnd (M + 1) (PG (M + 1) D) (i32 a) g = _
    simp -dsimp -implicitDefEqProofs (disch := omega) only [X3_readsAnd, X3_readsAnd_L8, e1, u1, i32_lit, i32_add, i32_mul, i32_tn, i32_sub, le_t, le_f, lt_t, lt_f, eq_t, eq_f, eq_rfl, inR_t, ↓ob_x, obx_s, ↓bnd_s, ↓oT_x, oTx_s, ↓ite_x, itx_T, itx_F, ↓reduceIte, not_true_eq_false, not_false_eq_true, true_and, and_true, Nat.reduceAdd, Nat.reduceMul, Nat.reduceSub, Nat.reduceEqDiff, isB0, isB1, Int32.neg_neg, Nat.zero_add, Nat.add_zero, Nat.mul_zero, Nat.mul_one, Nat.zero_mul]
  show X3_readsOr (M + 1) (PG (M + 1) (D + 1)) (i32 a) g = _
  simp -dsimp -implicitDefEqProofs (disch := omega) only [X3_readsOr, X3_readsOr_L8, ea, u1, i32_lit, i32_add, i32_mul, i32_tn, i32_sub, le_t, le_f, lt_t, lt_f, eq_t, eq_f, eq_rfl, inR_t, ↓ob_x, obx_s, ↓bnd_s, ↓oT_x, oTx_s, ↓ite_x, itx_T, itx_F, ↓reduceIte, not_true_eq_false, not_false_eq_true, true_and, and_true, Nat.reduceAdd, Nat.reduceMul, Nat.reduceSub, Nat.reduceEqDiff, isB0, isB1, Int32.neg_neg, Nat.zero_add, Nat.add_zero, Nat.mul_zero, Nat.mul_one, Nat.zero_mul]
