/-! WHICH, RUN -/
theorem th_I {sa : SA} {s : LST} {i : Nat} {g gM : Mem} (h : WLD sa s i g gM) (N : Nat) : ∃ g1, X1_becomes N 52 42 g = some (i32 0, g1) ∧ Sc 52 (mnN sa) i g1 gM ∧ Bg 52 g1 gM ∧ FI 52 g g1 := by
  obtain ⟨g1, r1, r2, r3⟩ := becomes_I (N := N) (b := 52) (a := 42) (i := i) (gI := g) (by omega) h.1.2.2.2.2.2.2.2.2.2.2.2.2.1 h.1.1.2.2
  exact ⟨g1, r1, Sc_LK h.1 (by omega) r2 r3, Bg_LK h.2.2.1 r3, r2⟩
theorem m1_ck (N : Nat) (g : Mem) : X5_isCask N (-(i32 1)) g = some (i32 0, g) := by
  simp -dsimp -implicitDefEqProofs (disch := omega) only [X5_isCask, X5_isWithin, m1_lt, i32_lit, i32_add, i32_mul, i32_tn, i32_sub, le_t, le_f, lt_t, lt_f, eq_t, eq_f, eq_rfl, inR_t, ↓ob_x, obx_s, ↓bnd_s, ↓oT_x, oTx_s, ↓ite_x, itx_T, itx_F, ↓reduceIte, not_true_eq_false, not_false_eq_true, true_and, and_true, Nat.reduceAdd, Nat.reduceMul, Nat.reduceSub, Nat.reduceEqDiff, isB0, isB1, Int32.neg_neg, Nat.zero_add, Nat.add_zero, Nat.mul_zero, Nat.mul_one, Nat.zero_mul]
theorem fr52 {b d i N : Nat} {gI gM : Mem} (h : Sc b d i gI gM) : X1_fair N b gI = some (fairV gM, gI) := fair_I h
theorem fb_m {sa : SA} {s : LST} {i : Nat} {g gM : Mem} (h : WLD sa s i g gM) {N : Nat} (hN : 6000 ≤ N) {n : Nat} (hn : n ≤ 40) {m : Mem} (hm : X6_goes N (i32 n) gM = some (i32 0, m)) :
    ∃ g', X5_fairBehind N (i32 n) (-(i32 1)) g = some (fairV m, g') ∧ FI 52 g g' := by
  obtain ⟨g1, r1, r2, r3, r4⟩ := th_I h N
  obtain ⟨g2, m2, t1, t2, o, _⟩ := goes_sim hN (show n ≤ 100 by omega) r2 h.2.1
  have em : m2 = m := by
    rw [hm] at t2
    injection t2 with t2
    injection t2 with _ t2
    exact t2.symm
  subst em
  refine ⟨g2, ?_, FI_tr r4 o.2.2.1⟩
  simp -dsimp -implicitDefEqProofs (disch := omega) only [X5_fairBehind, r1, m1_ck, t1, fr52 o.1, i32_lit, i32_add, i32_mul, i32_tn, i32_sub, le_t, le_f, lt_t, lt_f, eq_t, eq_f, eq_rfl, inR_t, ↓ob_x, obx_s, ↓bnd_s, ↓oT_x, oTx_s, ↓ite_x, itx_T, itx_F, ↓reduceIte, not_true_eq_false, not_false_eq_true, true_and, and_true, Nat.reduceAdd, Nat.reduceMul, Nat.reduceSub, Nat.reduceEqDiff, isB0, isB1, Int32.neg_neg, Nat.zero_add, Nat.add_zero, Nat.mul_zero, Nat.mul_one, Nat.zero_mul]
theorem rn_m {sa : SA} {s : LST} {i : Nat} {g gM : Mem} (h : WLD sa s i g gM) {N : Nat} (hN : 6000 ≤ N) {n : Nat} (hn : n ≤ 40) {m : Mem} (hm : X6_goes N (i32 n) gM = some (i32 0, m)) :
    ∃ g', X5_run N (i32 n) (i32 7) g = some (fairV m, g') ∧ FI 52 g g' := by
  obtain ⟨g1, r1, r2, r3, r4⟩ := th_I h N
  obtain ⟨g2, m2, t1, t2, o, _⟩ := goes_sim hN (show n ≤ 100 by omega) r2 h.2.1
  have em : m2 = m := by
    rw [hm] at t2
    injection t2 with t2
    injection t2 with _ t2
    exact t2.symm
  subst em
  have e := bay_I hN o.1 (show 7 < 8 by omega)
  rw [bay7] at e
  refine ⟨g2, ?_, FI_tr r4 o.2.2.1⟩
  simp -dsimp -implicitDefEqProofs (disch := omega) only [X5_run, isW_t, r1, t1, e, i32_lit, i32_add, i32_mul, i32_tn, i32_sub, le_t, le_f, lt_t, lt_f, eq_t, eq_f, eq_rfl, inR_t, ↓ob_x, obx_s, ↓bnd_s, ↓oT_x, oTx_s, ↓ite_x, itx_T, itx_F, ↓reduceIte, not_true_eq_false, not_false_eq_true, true_and, and_true, Nat.reduceAdd, Nat.reduceMul, Nat.reduceSub, Nat.reduceEqDiff, isB0, isB1, Int32.neg_neg, Nat.zero_add, Nat.add_zero, Nat.mul_zero, Nat.mul_one, Nat.zero_mul]
theorem fb_k {sa : SA} {s : LST} {i : Nat} {g gM : Mem} (h : WLD sa s i g gM) {N : Nat} (hN : 6000 ≤ N) {n k : Nat} (hn : n ≤ 40) (hk : k < 12) :
    ∃ v g', X5_fairBehind N (i32 n) (i32 k) g = some (v, g') ∧ FI 52 g g' := by
  obtain ⟨g1, r1, r2, r3, r4⟩ := th_I h N
  obtain ⟨t, g2, ht, e4, t1, _, o⟩ := loose_sim (N := N) r2 h.2.1 hk
  obtain ⟨g3, m3, u1, u2, o', _⟩ := goes_sim hN (show n ≤ 100 by omega) o.1 o.2.1
  refine ⟨fairV m3, g3, ?_, FI_tr r4 (FI_tr o.2.2.1 o'.2.2.1)⟩
  simp -dsimp -implicitDefEqProofs (disch := omega) only [X5_fairBehind, r1, isK_t, t1, u1, fr52 o'.1, i32_lit, i32_add, i32_mul, i32_tn, i32_sub, le_t, le_f, lt_t, lt_f, eq_t, eq_f, eq_rfl, inR_t, ↓ob_x, obx_s, ↓bnd_s, ↓oT_x, oTx_s, ↓ite_x, itx_T, itx_F, ↓reduceIte, not_true_eq_false, not_false_eq_true, true_and, and_true, Nat.reduceAdd, Nat.reduceMul, Nat.reduceSub, Nat.reduceEqDiff, isB0, isB1, Int32.neg_neg, Nat.zero_add, Nat.add_zero, Nat.mul_zero, Nat.mul_one, Nat.zero_mul]
theorem le_lt {a b c : Int32} (h : a ≤ b) (k : ¬ c ≤ b) : a ≤ c := by
  rw [Int32.le_iff_toInt_le] at *
  omega
theorem le_r (a : Int32) : a ≤ a := by rw [Int32.le_iff_toInt_le]; omega
theorem wh_l {sa : SA} {s : LST} {i : Nat} {gM : Mem} {N : Nat} (hN : 6000 ≤ N) {n : Nat} (hn : n ≤ 40) : ∀ (m j fu : Nat) (x y : Int32) (g : Mem), j + m = 12 → m < fu → WLD sa s i g gM →
    ∃ v g', X5_which_L34 N (i32 n) (i32 1) fu x y (i32 j) g = some (v, g') ∧ y ≤ v ∧ FI 52 g g' := by
  intro m
  induction m with
  | zero =>
    intro j fu x y g h1 h2 h
    obtain ⟨f, rfl⟩ : ∃ q, fu = q + 1 := ⟨fu - 1, by omega⟩
    exact ⟨y, g, by simp -dsimp -implicitDefEqProofs (disch := omega) only [X5_which_L34, i32_lit, i32_add, i32_mul, i32_tn, i32_sub, le_t, le_f, lt_t, lt_f, eq_t, eq_f, eq_rfl, inR_t, ↓ob_x, obx_s, ↓bnd_s, ↓oT_x, oTx_s, ↓ite_x, itx_T, itx_F, ↓reduceIte, not_true_eq_false, not_false_eq_true, true_and, and_true, Nat.reduceAdd, Nat.reduceMul, Nat.reduceSub, Nat.reduceEqDiff, isB0, isB1, Int32.neg_neg, Nat.zero_add, Nat.add_zero, Nat.mul_zero, Nat.mul_one, Nat.zero_mul], le_r y, FI_rfl 52 g⟩
  | succ m ih =>
    intro j fu x y g h1 h2 h
    obtain ⟨f, rfl⟩ : ∃ q, fu = q + 1 := ⟨fu - 1, by omega⟩
    have hj : j < 12 := by omega
    have b5 : g.1 47 j = gM.1 4 (4 * j + 3) := h.1.2.2.2.2.2.1 j hj
    rw [lm_pl h.2.2.2.1 j hj] at b5
    have n7 := lb_pl h.2.2.2.2.2.1 j
    by_cases c : s 7 j = 1
    · obtain ⟨w, g1, r1, f1⟩ := fb_k h hN hn hj
      have h' := WLD_FI h f1
      by_cases e : w ≤ y
      · obtain ⟨v, g2, r2, q, f2⟩ := ih (j + 1) f x y g1 (by omega) (by omega) h'
        exact ⟨v, g2, by simp -dsimp -implicitDefEqProofs (disch := omega) only [X5_which_L34, b5, c, r1, e, r2, i32_lit, i32_add, i32_mul, i32_tn, i32_sub, le_t, le_f, lt_t, lt_f, eq_t, eq_f, eq_rfl, inR_t, ↓ob_x, obx_s, ↓bnd_s, ↓oT_x, oTx_s, ↓ite_x, itx_T, itx_F, ↓reduceIte, not_true_eq_false, not_false_eq_true, true_and, and_true, Nat.reduceAdd, Nat.reduceMul, Nat.reduceSub, Nat.reduceEqDiff, isB0, isB1, Int32.neg_neg, Nat.zero_add, Nat.add_zero, Nat.mul_zero, Nat.mul_one, Nat.zero_mul], q, FI_tr f1 f2⟩
      · obtain ⟨v, g2, r2, q, f2⟩ := ih (j + 1) f (i32 j) w g1 (by omega) (by omega) h'
        refine ⟨v, g2, by simp -dsimp -implicitDefEqProofs (disch := omega) only [X5_which_L34, b5, c, r1, e, r2, i32_lit, i32_add, i32_mul, i32_tn, i32_sub, le_t, le_f, lt_t, lt_f, eq_t, eq_f, eq_rfl, inR_t, ↓ob_x, obx_s, ↓bnd_s, ↓oT_x, oTx_s, ↓ite_x, itx_T, itx_F, ↓reduceIte, not_true_eq_false, not_false_eq_true, true_and, and_true, Nat.reduceAdd, Nat.reduceMul, Nat.reduceSub, Nat.reduceEqDiff, isB0, isB1, Int32.neg_neg, Nat.zero_add, Nat.add_zero, Nat.mul_zero, Nat.mul_one, Nat.zero_mul], ?_, FI_tr f1 f2⟩
        have q1 := le_lt (le_r y) e
        rw [Int32.le_iff_toInt_le] at *
        omega
    · obtain ⟨v, g2, r2, q, f2⟩ := ih (j + 1) f x y g (by omega) (by omega) h
      exact ⟨v, g2, by simp -dsimp -implicitDefEqProofs (disch := omega) only [X5_which_L34, b5, c, r2, i32_lit, i32_add, i32_mul, i32_tn, i32_sub, le_t, le_f, lt_t, lt_f, eq_t, eq_f, eq_rfl, inR_t, ↓ob_x, obx_s, ↓bnd_s, ↓oT_x, oTx_s, ↓ite_x, itx_T, itx_F, ↓reduceIte, not_true_eq_false, not_false_eq_true, true_and, and_true, Nat.reduceAdd, Nat.reduceMul, Nat.reduceSub, Nat.reduceEqDiff, isB0, isB1, Int32.neg_neg, Nat.zero_add, Nat.add_zero, Nat.mul_zero, Nat.mul_one, Nat.zero_mul], q, f2⟩
theorem wr_e {sa : SA} {s : LST} {i : Nat} {g gM : Mem} (h : WLD sa s i g gM) {N : Nat} (hN : 6000 ≤ N) {n : Nat} (hn : n ≤ 40) :
    ∃ v g1 w g2, X5_which N (i32 n) (i32 1) g = some (v, g1) ∧ X5_run N (i32 n) (i32 7) g1 = some (w, g2) ∧ w ≤ v ∧ FI 52 g g2 := by
  obtain ⟨g1, r1, r2, r3, r4⟩ := th_I h N
  obtain ⟨g2, m2, t1, t2, o, _⟩ := goes_sim hN (show n ≤ 100 by omega) r2 h.2.1
  obtain ⟨g3, u1, f1⟩ := fb_m h hN hn t2
  have h3 := WLD_FI h f1
  obtain ⟨v, g4, u2, q, f2⟩ := wh_l hN hn 12 0 N (-(i32 1)) (fairV m2) g3 (by omega) (by omega) h3
  have h4 := WLD_FI h3 f2
  obtain ⟨g5, u3, f3⟩ := rn_m h4 hN hn t2
  refine ⟨v, g4, fairV m2, g5, ?_, u3, q, FI_tr f1 (FI_tr f2 f3)⟩
  simp -dsimp -implicitDefEqProofs (disch := omega) only [X5_which, isW_t, u1, u2, i32_lit, i32_add, i32_mul, i32_tn, i32_sub, le_t, le_f, lt_t, lt_f, eq_t, eq_f, eq_rfl, inR_t, ↓ob_x, obx_s, ↓bnd_s, ↓oT_x, oTx_s, ↓ite_x, itx_T, itx_F, ↓reduceIte, not_true_eq_false, not_false_eq_true, true_and, and_true, Nat.reduceAdd, Nat.reduceMul, Nat.reduceSub, Nat.reduceEqDiff, isB0, isB1, Int32.neg_neg, Nat.zero_add, Nat.add_zero, Nat.mul_zero, Nat.mul_one, Nat.zero_mul]
theorem l23_e {sa : SA} {s : LST} {i : Nat} {gM : Mem} {N : Nat} (hN : 6000 ≤ N) (x3 : Int32) (f : Nat) {g : Mem} (h : WLD sa s i g gM) :
    ∃ g', L_law_L23 N sa (f + 1 + 1 + 1 + 1) x3 (i32 0) g = L_law_G59 N sa N 0 x3 (i32 0) (i32 0) (i32 0) (i32 0) (i32 0) g' ∧ FI 52 g g' := by
  obtain ⟨v0, g0, w0, g1, a0, b0, c0, f0⟩ := wr_e h hN (show 0 ≤ 40 by omega)
  have h1 := WLD_FI h f0
  obtain ⟨v1, g2, w1, g3, a1, b1, c1, f1⟩ := wr_e h1 hN (show 4 ≤ 40 by omega)
  have h3 := WLD_FI h1 f1
  obtain ⟨v2, g4, w2, g5, a2, b2, c2, f2⟩ := wr_e h3 hN (show 8 ≤ 40 by omega)
  refine ⟨g5, ?_, FI_tr f0 (FI_tr f1 f2)⟩
  simp -dsimp -implicitDefEqProofs (disch := omega) only [L_law_L23, a0, b0, c0, a1, b1, c1, a2, b2, c2, i32_lit, i32_add, i32_mul, i32_tn, i32_sub, le_t, le_f, lt_t, lt_f, eq_t, eq_f, eq_rfl, inR_t, ↓ob_x, obx_s, ↓bnd_s, ↓oT_x, oTx_s, ↓ite_x, itx_T, itx_F, ↓reduceIte, not_true_eq_false, not_false_eq_true, true_and, and_true, Nat.reduceAdd, Nat.reduceMul, Nat.reduceSub, Nat.reduceEqDiff, isB0, isB1, Int32.neg_neg, Nat.zero_add, Nat.add_zero, Nat.mul_zero, Nat.mul_one, Nat.zero_mul]
