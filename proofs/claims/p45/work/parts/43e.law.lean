set_option maxRecDepth 100000 in
theorem g59_k {sa : SA} {s : LST} {i : Nat} {g gM : Mem} (h : WLD sa s i g gM) (N : Nat) (x3 : Int32) (room B : Nat) (hr : room < 1000) (hB : ∀ k, k < 12 → ¬ shv (i32 B) (i32 k) &&& i32 1 = i32 0 → s 7 k = 1) : ∀ (n k f a b : Nat), k + n = 12 → a + 99 * n < 100000 → b + 99 * n < 100000 →
    L_law_G59 N sa (f + n) 1 x3 (i32 room) (i32 B) (i32 a) (i32 b) (i32 k) g = L_law_G59 N sa f 1 x3 (i32 room) (i32 B) (i32 (sumF (s 6) (i32 B) k n a)) (i32 (sumF (s 5) (i32 B) k n b)) (i32 12) g := by
  have bb := h.2.2.2.2.2.1
  intro n
  induction n with
  | zero =>
    intro k f a b h1 h2 h3
    have : k = 12 := by omega
    subst this
    rfl
  | succ n ih =>
    intro k f a b h1 h2 h3
    have hk : k < 12 := by omega
    have n5 := lb_st bb k
    have n6 := lb_dp bb k
    have e0 : L_law_G59 N sa (f + (n + 1)) 1 x3 (i32 room) (i32 B) (i32 a) (i32 b) (i32 k) g = L_law_G59 N sa ((f + n) + 1) 1 x3 (i32 room) (i32 B) (i32 a) (i32 b) (i32 k) g := rfl
    rw [e0, sumF, sumF]
    by_cases q : shv (i32 B) (i32 k) &&& i32 1 = i32 0
    · have e := ih (k + 1) f a b (by omega) (by omega) (by omega)
      rw [if_pos q, if_pos q, ← e]
      simp -dsimp -implicitDefEqProofs (disch := omega) only [L_law_G59.eq_3, ↓shv_e, q, i32_lit, i32_add, i32_mul, i32_tn, i32_sub, le_t, le_f, lt_t, lt_f, eq_t, eq_f, eq_rfl, inR_t, ↓ob_x, obx_s, ↓bnd_s, ↓oT_x, oTx_s, ↓ite_x, itx_T, itx_F, ↓reduceIte, not_true_eq_false, not_false_eq_true, true_and, and_true, Nat.reduceAdd, Nat.reduceMul, Nat.reduceSub, Nat.reduceEqDiff, isB0, isB1, Int32.neg_neg, Nat.zero_add, Nat.add_zero, Nat.mul_zero, Nat.mul_one, Nat.zero_mul]
    · have e := ih (k + 1) f (a + s 6 k) (b + s 5 k) (by omega) (by omega) (by omega)
      have l3 := q_ls h N hk (show 3 < 4 by omega)
      have l2 := q_ls h N hk (show 2 < 4 by omega)
      have l1 := q_ls h N hk (show 1 < 4 by omega)
      have p7 := hB k hk q
      have p7' : s (4 + 3) k = 1 := p7
      rw [p7'] at l3
      have w2 : s (4 + 2) k = s 6 k := rfl
      have w1 : s (4 + 1) k = s 5 k := rfl
      rw [w2] at l2
      rw [w1] at l1
      rw [if_neg q, if_neg q, ← e]
      simp -dsimp -implicitDefEqProofs (disch := omega) only [L_law_G59.eq_3, ↓shv_e, q, l3, l2, l1, i32_lit, i32_add, i32_mul, i32_tn, i32_sub, le_t, le_f, lt_t, lt_f, eq_t, eq_f, eq_rfl, inR_t, ↓ob_x, obx_s, ↓bnd_s, ↓oT_x, oTx_s, ↓ite_x, itx_T, itx_F, ↓reduceIte, not_true_eq_false, not_false_eq_true, true_and, and_true, Nat.reduceAdd, Nat.reduceMul, Nat.reduceSub, Nat.reduceEqDiff, isB0, isB1, Int32.neg_neg, Nat.zero_add, Nat.add_zero, Nat.mul_zero, Nat.mul_one, Nat.zero_mul]
set_option maxRecDepth 100000 in
theorem g59_r {sa : SA} {s : LST} {i : Nat} {g gM : Mem} (h : WLD sa s i g gM) {N : Nat} (hN : 6000 ≤ N) (x3 : Int32) (room : Nat) (hr : room < 80) (f : Nat) (a b c d : Int32) :
    L_law_G59 N sa (f + 14) 0 x3 (i32 room) a b c d g = L_law_G59 N sa f 0 x3 (i32 (room + 20)) (i32 0) (i32 0) (i32 0) (i32 0) g := by
  have bb := h.2.2.2.2.2.1
  obtain ⟨B, V, hI, e⟩ := cg_e h hN (show room < 1000 by omega)
  obtain ⟨B', V', hI', e'⟩ := cg_e h hN (show room + 20 < 1000 by omega)
  have r0 := e 0 (by omega)
  have r1 := e 1 (by omega)
  have r2 := e' 1 (by omega)
  rw [if_pos rfl] at r0
  rw [if_neg (by omega)] at r1 r2
  have s5 := sumF_le (m := i32 B) (lb_st bb) 12 0 0
  have s5' := sumF_le (m := i32 B') (lb_st bb) 12 0 0
  have s6 := sumF_le (m := i32 B) (lb_dp bb) 12 0 0
  have v5 := hI.2.1
  have v5' := hI'.2.1
  have hB : ∀ k, k < 12 → ¬ shv (i32 B) (i32 k) &&& i32 1 = i32 0 → s 7 k = 1 := by
    intro k hk c
    rcases hI.2.2.1 with z | ok
    · subst z; exact absurd (szb0 hk) c
    · exact okm_q ok hk c
  have hdp : sumF (s 6) (i32 B) 0 12 0 ≤ room := by
    rcases hI.2.2.1 with z | ok
    · subst z; rw [sumF_0 _ 12 0 0 (by omega)]; omega
    · exact ok.2
  have hmo : V ≤ V' := by
    rcases hI.2.2.1 with z | ok
    · subst z; rw [sumF_0 _ 12 0 0 (by omega)] at v5; omega
    · by_cases z : B = 0
      · subst z; rw [sumF_0 _ 12 0 0 (by omega)] at v5; omega
      · have := hI'.2.2.2 B (by omega) hI.1 ⟨ok.1, by have := ok.2; omega⟩
        omega
  have k1 := g59_k h N x3 room B (by omega) hB 12 0 (f + 1) 0 0 (by omega) (by omega) (by omega)
  rw [← v5] at k1
  have e0 : L_law_G59 N sa (f + 14) 0 x3 (i32 room) a b c d g = L_law_G59 N sa (f + 1 + 12) 1 x3 (i32 room) (i32 B) (i32 0) (i32 0) (i32 0) g := by
    show L_law_G59 N sa ((f + 13) + 1) 0 x3 (i32 room) a b c d g = L_law_G59 N sa (f + 13) 1 x3 (i32 room) (i32 B) (i32 0) (i32 0) (i32 0) g
    simp -dsimp -implicitDefEqProofs (disch := omega) only [L_law_G59.eq_2, r0, i32_lit, i32_add, i32_mul, i32_tn, i32_sub, le_t, le_f, lt_t, lt_f, eq_t, eq_f, eq_rfl, inR_t, ↓ob_x, obx_s, ↓bnd_s, ↓oT_x, oTx_s, ↓ite_x, itx_T, itx_F, ↓reduceIte, not_true_eq_false, not_false_eq_true, true_and, and_true, Nat.reduceAdd, Nat.reduceMul, Nat.reduceSub, Nat.reduceEqDiff, isB0, isB1, Int32.neg_neg, Nat.zero_add, Nat.add_zero, Nat.mul_zero, Nat.mul_one, Nat.zero_mul]
  rw [e0, k1]
  simp -dsimp -implicitDefEqProofs (disch := omega) only [L_law_G59.eq_3, r1, r2, i32_lit, i32_add, i32_mul, i32_tn, i32_sub, le_t, le_f, lt_t, lt_f, eq_t, eq_f, eq_rfl, inR_t, ↓ob_x, obx_s, ↓bnd_s, ↓oT_x, oTx_s, ↓ite_x, itx_T, itx_F, ↓reduceIte, not_true_eq_false, not_false_eq_true, true_and, and_true, Nat.reduceAdd, Nat.reduceMul, Nat.reduceSub, Nat.reduceEqDiff, isB0, isB1, Int32.neg_neg, Nat.zero_add, Nat.add_zero, Nat.mul_zero, Nat.mul_one, Nat.zero_mul]
theorem g59_e {sa : SA} (hL : sa.2.2.1 ≤ 260) {s : LST} {i : Nat} {g gM : Mem} (h : WLD sa s i g gM) (v : IV sa 0 0 s) {N : Nat} (hN : 6000 ≤ N) :
    ∃ g', L_law_G59 N sa N 0 (i32 (mnN sa)) (i32 0) (i32 0) (i32 0) (i32 0) (i32 0) g = some (i32 1, g') := by
  have hd := mn_le sa
  obtain ⟨g', e⟩ := g19_e hL hN v (mnN sa) 0 N (i32 0) g (by omega) (by omega) h
  obtain ⟨M, hM⟩ : ∃ M, N = M + 1 + 14 + 14 + 14 + 14 := ⟨N - 57, by omega⟩
  have ef : L_law_G59 N sa N 0 (i32 (mnN sa)) (i32 0) (i32 0) (i32 0) (i32 0) (i32 0) g = L_law_G59 N sa (M + 1 + 14 + 14 + 14 + 14) 0 (i32 (mnN sa)) (i32 0) (i32 0) (i32 0) (i32 0) (i32 0) g := by rw [← hM]
  refine ⟨g', ?_⟩
  rw [ef, g59_r h hN _ 0 (by omega), g59_r h hN _ 20 (by omega), g59_r h hN _ 40 (by omega), g59_r h hN _ 60 (by omega)]
  simp -dsimp -implicitDefEqProofs (disch := omega) only [L_law_G59.eq_2, e, i32_lit, i32_add, i32_mul, i32_tn, i32_sub, le_t, le_f, lt_t, lt_f, eq_t, eq_f, eq_rfl, inR_t, ↓ob_x, obx_s, ↓bnd_s, ↓oT_x, oTx_s, ↓ite_x, itx_T, itx_F, ↓reduceIte, not_true_eq_false, not_false_eq_true, true_and, and_true, Nat.reduceAdd, Nat.reduceMul, Nat.reduceSub, Nat.reduceEqDiff, isB0, isB1, Int32.neg_neg, Nat.zero_add, Nat.add_zero, Nat.mul_zero, Nat.mul_one, Nat.zero_mul]
/-- the law answers 1 about an object built as its script says -/
theorem law_1 {sa : SA} (hL : sa.2.2.1 ≤ 260) {i : Nat} {g gM : Mem} (h : CW sa (s0S sa) i g gM) {N : Nat} (hN : 6000 ≤ N) : ∃ g', L_law N sa g = some (i32 1, g') := by
  obtain ⟨r, g1, e1, f1, l1⟩ := st_e hL hN g
  have h1 := CW_WLD (CW_GL h f1) l1
  have v : IV sa 0 0 (s0S sa) := by
    refine ⟨fun p => Nat.le_refl 0, ?_, fun j => ⟨rfl, rfl⟩⟩
    have := fz_le (shv (AT sa 0) (i32 27)) 15 (by omega)
    show hrN sa ≤ 15 + 0
    unfold hrN; omega
  obtain ⟨M, hM⟩ : ∃ M, N = M + 1 + 1 + 1 + 1 := ⟨N - 4, by omega⟩
  obtain ⟨g2, e2, f2⟩ := l23_e hN (i32 (mnN sa)) M h1
  have h2 := WLD_FI h1 f2
  obtain ⟨g3, e3⟩ := g59_e hL h2 v hN
  refine ⟨g3, ?_⟩
  have ef : L_law_L23 N sa N (i32 (mnN sa)) (i32 0) g1 = L_law_L23 N sa (M + 1 + 1 + 1 + 1) (i32 (mnN sa)) (i32 0) g1 := by rw [← hM]
  simp -dsimp -implicitDefEqProofs (disch := omega) only [L_law, mn_e hL, e1, ef, e2, e3, i32_lit, i32_add, i32_mul, i32_tn, i32_sub, le_t, le_f, lt_t, lt_f, eq_t, eq_f, eq_rfl, inR_t, ↓ob_x, obx_s, ↓bnd_s, ↓oT_x, oTx_s, ↓ite_x, itx_T, itx_F, ↓reduceIte, not_true_eq_false, not_false_eq_true, true_and, and_true, Nat.reduceAdd, Nat.reduceMul, Nat.reduceSub, Nat.reduceEqDiff, isB0, isB1, Int32.neg_neg, Nat.zero_add, Nat.add_zero, Nat.mul_zero, Nat.mul_one, Nat.zero_mul]
