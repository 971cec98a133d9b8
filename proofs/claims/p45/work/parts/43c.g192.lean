set_option maxRecDepth 100000 in
theorem g19_k {sa : SA} {s : LST} {i : Nat} {g gM : Mem} (h : WLD sa s i g gM) {N : Nat} (hN : 6000 ≤ N) {p k : Nat} (hp : p < mnN sa) (hk : k < 12) (f : Nat) (x3 : Int32) :
    ∃ g', L_law_G192 N sa (f + 1) 1 x3 (i32 p) (i32 k) g = L_law_G192 N sa f 1 x3 (i32 p) (i32 (k + 1)) g' ∧ FI 52 g g' := by
  have hd := mn_le sa
  obtain ⟨g1, r1, f1⟩ := q_t4 h hN hp
  have h1 := WLD_SI h f1
  have eb := bit_e (caN sa s p) hk (by have := caN_01 sa s p k; omega)
  rcases caN_01 sa s p k with c | c
  · obtain ⟨g2, r2, f2⟩ := la_0 h1 hN hp hk c
    rw [c] at eb
    refine ⟨g2, ?_, FI_tr (FI_SI f1) f2⟩
    simp -dsimp -implicitDefEqProofs (disch := omega) only [L_law_G192.eq_3, r1, ↓shv_e, eb, r2, i32_lit, i32_add, i32_mul, i32_tn, i32_sub, le_t, le_f, lt_t, lt_f, eq_t, eq_f, eq_rfl, inR_t, ↓ob_x, obx_s, ↓bnd_s, ↓oT_x, oTx_s, ↓ite_x, itx_T, itx_F, ↓reduceIte, not_true_eq_false, not_false_eq_true, true_and, and_true, Nat.reduceAdd, Nat.reduceMul, Nat.reduceSub, Nat.reduceEqDiff, isB0, isB1, Int32.neg_neg, Nat.zero_add, Nat.add_zero, Nat.mul_zero, Nat.mul_one, Nat.zero_mul]
  · obtain ⟨g2, r2, f2⟩ := la_1 h1 hN hp hk c
    have h2 := WLD_FI h1 f2
    have r3 := q_t0 h2 N hp
    obtain ⟨g3, r4, f3⟩ := q_d1 h2 hN hp hk
    rw [c] at eb
    have nc := (ca_1 c).2
    have n0 := lb_br h.2.2.2.2.2.1 p
    refine ⟨g3, ?_, FI_tr (FI_SI f1) (FI_tr f2 (FI_SI f3))⟩
    simp -dsimp -implicitDefEqProofs (disch := omega) only [L_law_G192.eq_3, r1, ↓shv_e, eb, r2, r3, r4, i32_lit, i32_add, i32_mul, i32_tn, i32_sub, le_t, le_f, lt_t, lt_f, eq_t, eq_f, eq_rfl, inR_t, ↓ob_x, obx_s, ↓bnd_s, ↓oT_x, oTx_s, ↓ite_x, itx_T, itx_F, ↓reduceIte, not_true_eq_false, not_false_eq_true, true_and, and_true, Nat.reduceAdd, Nat.reduceMul, Nat.reduceSub, Nat.reduceEqDiff, isB0, isB1, Int32.neg_neg, Nat.zero_add, Nat.add_zero, Nat.mul_zero, Nat.mul_one, Nat.zero_mul]
theorem g19_ks {sa : SA} {s : LST} {i : Nat} {gM : Mem} {N : Nat} (hN : 6000 ≤ N) {p : Nat} (hp : p < mnN sa) (x3 : Int32) : ∀ (n k f : Nat) (g : Mem), k + n = 12 → WLD sa s i g gM →
    ∃ g', L_law_G192 N sa (f + n) 1 x3 (i32 p) (i32 k) g = L_law_G192 N sa f 1 x3 (i32 p) (i32 12) g' ∧ FI 52 g g' := by
  intro n
  induction n with
  | zero =>
    intro k f g h1 h
    have : k = 12 := by omega
    subst this
    exact ⟨g, rfl, FI_rfl 52 g⟩
  | succ n ih =>
    intro k f g h1 h
    obtain ⟨g1, e1, f1⟩ := g19_k h hN hp (show k < 12 by omega) (f + n) x3
    obtain ⟨g2, e2, f2⟩ := ih (k + 1) f g1 (by omega) (WLD_FI h f1)
    exact ⟨g2, e1.trans e2, FI_tr f1 f2⟩
set_option maxRecDepth 100000 in
theorem g19_p {sa : SA} {s : LST} {i : Nat} {g gM : Mem} (h : WLD sa s i g gM) {N : Nat} (hN : 6000 ≤ N) {p : Nat} (hp : p < mnN sa) (f : Nat) (x5 : Int32) :
    ∃ g', L_law_G192 N sa (f + 14) 0 (i32 (mnN sa)) (i32 p) x5 g = L_law_G192 N sa f 0 (i32 (mnN sa)) (i32 (p + 1)) (i32 0) g' ∧ FI 52 g g' := by
  have hd := mn_le sa
  obtain ⟨g1, e1, f1⟩ := g19_ks hN hp (i32 (mnN sa)) 12 0 (f + 1) g (by omega) h
  have h1 := WLD_FI h f1
  obtain ⟨v, g2, r2, q, f2⟩ := be_e h1 hN
  have h2 := WLD_SI h1 f2
  obtain ⟨g3, r3, f3⟩ := q_t4 h2 hN hp
  have q' : bcE (bitF (caN sa s p) 0 12 (i32 0)) ≤ v := q p hp
  refine ⟨g3, ?_, FI_tr f1 (FI_tr (FI_SI f2) (FI_SI f3))⟩
  have e0 : L_law_G192 N sa (f + 14) 0 (i32 (mnN sa)) (i32 p) x5 g = L_law_G192 N sa (f + 1 + 12) 1 (i32 (mnN sa)) (i32 p) (i32 0) g := by
    show L_law_G192 N sa ((f + 13) + 1) 0 (i32 (mnN sa)) (i32 p) x5 g = L_law_G192 N sa (f + 13) 1 (i32 (mnN sa)) (i32 p) (i32 0) g
    simp -dsimp -implicitDefEqProofs (disch := omega) only [L_law_G192.eq_2, i32_lit, i32_add, i32_mul, i32_tn, i32_sub, le_t, le_f, lt_t, lt_f, eq_t, eq_f, eq_rfl, inR_t, ↓ob_x, obx_s, ↓bnd_s, ↓oT_x, oTx_s, ↓ite_x, itx_T, itx_F, ↓reduceIte, not_true_eq_false, not_false_eq_true, true_and, and_true, Nat.reduceAdd, Nat.reduceMul, Nat.reduceSub, Nat.reduceEqDiff, isB0, isB1, Int32.neg_neg, Nat.zero_add, Nat.add_zero, Nat.mul_zero, Nat.mul_one, Nat.zero_mul]
  rw [e0, e1]
  simp -dsimp -implicitDefEqProofs (disch := omega) only [L_law_G192.eq_3, r2, r3, bc_I, q', i32_lit, i32_add, i32_mul, i32_tn, i32_sub, le_t, le_f, lt_t, lt_f, eq_t, eq_f, eq_rfl, inR_t, ↓ob_x, obx_s, ↓bnd_s, ↓oT_x, oTx_s, ↓ite_x, itx_T, itx_F, ↓reduceIte, not_true_eq_false, not_false_eq_true, true_and, and_true, Nat.reduceAdd, Nat.reduceMul, Nat.reduceSub, Nat.reduceEqDiff, isB0, isB1, Int32.neg_neg, Nat.zero_add, Nat.add_zero, Nat.mul_zero, Nat.mul_one, Nat.zero_mul]
theorem g19_e {sa : SA} (hL : sa.2.2.1 ≤ 260) {s : LST} {i : Nat} {gM : Mem} {N : Nat} (hN : 6000 ≤ N) (v : IV sa 0 0 s) : ∀ (n p f : Nat) (x5 : Int32) (g : Mem), p + n = mnN sa → 14 * n < f → WLD sa s i g gM → ∃ g', L_law_G192 N sa f 0 (i32 (mnN sa)) (i32 p) x5 g = some (i32 1, g') := by
  intro n
  have hd := mn_le sa
  induction n with
  | zero =>
    intro p f x5 g h1 h2 h
    obtain ⟨f, rfl⟩ : ∃ q, f = q + 1 := ⟨f - 1, by omega⟩
    obtain ⟨g', e⟩ := rds_e hL h v hN
    have hp : p = mnN sa := by omega
    subst hp
    exact ⟨g', by simp -dsimp -implicitDefEqProofs (disch := omega) only [L_law_G192.eq_2, e, i32_lit, i32_add, i32_mul, i32_tn, i32_sub, le_t, le_f, lt_t, lt_f, eq_t, eq_f, eq_rfl, inR_t, ↓ob_x, obx_s, ↓bnd_s, ↓oT_x, oTx_s, ↓ite_x, itx_T, itx_F, ↓reduceIte, not_true_eq_false, not_false_eq_true, true_and, and_true, Nat.reduceAdd, Nat.reduceMul, Nat.reduceSub, Nat.reduceEqDiff, isB0, isB1, Int32.neg_neg, Nat.zero_add, Nat.add_zero, Nat.mul_zero, Nat.mul_one, Nat.zero_mul]⟩
  | succ n ih =>
    intro p f x5 g h1 h2 h
    obtain ⟨f, rfl⟩ : ∃ q, f = q + 14 := ⟨f - 14, by omega⟩
    obtain ⟨g1, e1, f1⟩ := g19_p h hN (show p < mnN sa by omega) f x5
    obtain ⟨g2, e2⟩ := ih (p + 1) f (i32 0) g1 (by omega) (by omega) (WLD_FI h f1)
    exact ⟨g2, e1.trans e2⟩
