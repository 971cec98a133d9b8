set_option maxRecDepth 100000 in
theorem sm_p {sa : SA} (hL : sa.2.2.1 ≤ 260) {s : LST} {i : Nat} {gM : Mem} {N : Nat} (hN : 6000 ≤ N) : ∀ (n p fu : Nat) (g : Mem), p + n = mnN sa → n < fu → WLD sa s i g gM → (∀ j, j < mnN sa → s 2 j = kdN sa j ∧ s 3 j = moN sa j) →
    ∃ g', L_same_L8 N sa fu (i32 0) (i32 0) (i32 p) g = L_same_G221 N sa N 0 (i32 0) (i32 0) (i32 0) (i32 0) g' ∧ SI g g'
  | 0, p, fu, g, h1, h2, h, hk => by
    obtain ⟨f, rfl⟩ : ∃ q, fu = q + 1 := ⟨fu - 1, by omega⟩
    have hp : p = mnN sa := by omega
    subst hp
    have hm := mn_le sa
    exact ⟨g, by simp -dsimp -implicitDefEqProofs (disch := omega) only [L_same_L8, mn_e hL, i32_lit, i32_add, i32_mul, i32_tn, i32_sub, le_t, le_f, lt_t, lt_f, eq_t, eq_f, eq_rfl, inR_t, ↓ob_x, obx_s, ↓bnd_s, ↓oT_x, oTx_s, ↓ite_x, itx_T, itx_F, ↓reduceIte, not_true_eq_false, not_false_eq_true, true_and, and_true, Nat.reduceAdd, Nat.reduceMul, Nat.reduceSub, Nat.reduceEqDiff, isB0, isB1, Int32.neg_neg, Nat.zero_add, Nat.add_zero, Nat.mul_zero, Nat.mul_one, Nat.zero_mul], SI_rfl g⟩
  | n + 1, p, fu, g, h1, h2, h, hk => by
    obtain ⟨f, rfl⟩ : ∃ q, fu = q + 1 := ⟨fu - 1, by omega⟩
    have hm := mn_le sa
    have hp : p < mnN sa := by omega
    have b := h.2.2.2.2.2.1
    have r0 := q_t0 h N hp
    have r1 := q_t1 h N hp
    have r2 := q_t2 h N hp
    have r3 := q_t3 h N hp
    obtain ⟨g1, r4, f1⟩ := q_t4 h hN hp
    have h' := WLD_SI h f1
    have r5 := q_t5 h' N hp
    have c4 := cs_e hL hm.2 h'.2.2.2.2.1 b hN hp
    have c5 := kb_e hm.2 h'.2.2.2.2.1 b N hp
    have v9 := ll_h h'.2.2.2.2.1
    have hq := Nat.mod_lt (s 9 0) (show 0 < 12 by omega)
    obtain ⟨g2, r6, f2⟩ := q_d0 h' hN hp hq
    have h2' := WLD_SI h' f2
    have c6 := re_e hL hm.2 h2'.2.2.2.2.1 b N hp hq
    obtain ⟨g3, r7, f3⟩ := q_d1 h2' hN hp hq
    have h3' := WLD_SI h2' f3
    have c7 := co_e hL hm.2 h3'.2.2.2.2.1 b N hp hq
    obtain ⟨g4, r8, f4⟩ := q_d2 h3' hN hp hq
    have h4' := WLD_SI h3' f4
    have c8 := ca_e hL hm.2 h4'.2.2.2.2.1 b N hp hq
    obtain ⟨g', e, f'⟩ := sm_p hL hN n (p + 1) f g4 (by omega) (by omega) h4' hk
    refine ⟨g', ?_, SI_tr f1 (SI_tr f2 (SI_tr f3 (SI_tr f4 f')))⟩
    have v0 := ll_br h.2.2.2.2.1 p hp
    have v1 := ll_bg h.2.2.2.2.1 p hp
    have n0 := lb_br b p
    have n1 := lb_bg b p
    have n2 := lb_kd b p
    have n3 := lb_mo b p
    have n9 := lb_h b
    have n5 := kb_le b p
    have m6 := reN_le (sa := sa) b p (s 9 0 % 12)
    have m7 := coN_le (sa := sa) b p (s 9 0 % 12)
    have k2 := kd_e hL N p (by omega)
    have k3 := mo_e hL N p (by omega)
    rw [← (hk p hp).1] at k2
    rw [← (hk p hp).2] at k3
    rw [← e]
    rcases caN_01 sa s p (s 9 0 % 12) with c | c <;> rw [c] at r8 c8 <;>
    simp -dsimp -implicitDefEqProofs (disch := omega) only [L_same_L8, mn_e hL, r0, r1, r2, r3, r4, r5, r6, r7, r8, c4, c5, c6, c7, c8, k2, k3, v0, v1, v9, i32_64, i64_lit, i64_div, i64_mul, i64_md, i64_32, i64_tF, lg_eq, i32_lit, i32_add, i32_mul, i32_tn, i32_sub, le_t, le_f, lt_t, lt_f, eq_t, eq_f, eq_rfl, inR_t, ↓ob_x, obx_s, ↓bnd_s, ↓oT_x, oTx_s, ↓ite_x, itx_T, itx_F, ↓reduceIte, not_true_eq_false, not_false_eq_true, true_and, and_true, Nat.reduceAdd, Nat.reduceMul, Nat.reduceSub, Nat.reduceEqDiff, isB0, isB1, Int32.neg_neg, Nat.zero_add, Nat.add_zero, Nat.mul_zero, Nat.mul_one, Nat.zero_mul]
set_option maxRecDepth 100000 in
theorem sm_k {sa : SA} {s : LST} {i : Nat} {g gM : Mem} {N : Nat} (h : WLD sa s i g gM) : ∀ (n k fu a b : Nat) (x : Int32), k + n = 12 → 6 * n < fu → a + n < 100 → b + n < 100 →
    L_same_G221 N sa fu 0 (i32 a) (i32 b) (i32 k) x g = L_same_L325 N sa N (i32 (cntF (plN7 s 0) k n a)) (i32 (cntF (plN7 s 1) k n b)) (i32 0) g
  | 0, k, fu, a, b, x, h1, h2, h3, h4 => by
    obtain ⟨f, rfl⟩ : ∃ q, fu = q + 1 := ⟨fu - 1, by omega⟩
    simp -dsimp -implicitDefEqProofs (disch := omega) only [L_same_G221, cntF, i32_lit, i32_add, i32_mul, i32_tn, i32_sub, le_t, le_f, lt_t, lt_f, eq_t, eq_f, eq_rfl, inR_t, ↓ob_x, obx_s, ↓bnd_s, ↓oT_x, oTx_s, ↓ite_x, itx_T, itx_F, ↓reduceIte, not_true_eq_false, not_false_eq_true, true_and, and_true, Nat.reduceAdd, Nat.reduceMul, Nat.reduceSub, Nat.reduceEqDiff, isB0, isB1, Int32.neg_neg, Nat.zero_add, Nat.add_zero, Nat.mul_zero, Nat.mul_one, Nat.zero_mul]
  | n + 1, k, fu, a, b, x, h1, h2, h3, h4 => by
    obtain ⟨f, rfl⟩ : ∃ q, fu = q + 1 + 1 + 1 + 1 + 1 + 1 := ⟨fu - 6, by omega⟩
    have hk : k < 12 := by omega
    have bb := h.2.2.2.2.2.1
    have v7 := ll_pl h.2.2.2.2.1 k hk
    have n7 := lb_pl bb k
    have l0 := q_ls h N hk (show 0 < 4 by omega)
    have l1 := q_ls h N hk (show 1 < 4 by omega)
    have l2 := q_ls h N hk (show 2 < 4 by omega)
    have l3 := q_ls h N hk (show 3 < 4 by omega)
    have v4 := ll_so h.2.2.2.2.1 k hk
    have v5 : ldL g (16 + 4 * k + 1) = i64 (s 5 k) := by rw [show 16 + 4 * k + 1 = 17 + 4 * k by omega]; exact ll_st h.2.2.2.2.1 k hk
    have v6 : ldL g (16 + 4 * k + 2) = i64 (s 6 k) := by rw [show 16 + 4 * k + 2 = 18 + 4 * k by omega]; exact ll_dp h.2.2.2.2.1 k hk
    have v8 : ldL g (16 + 4 * k + 3) = i64 (s 7 k) := by rw [show 16 + 4 * k + 3 = 19 + 4 * k by omega]; exact v7
    have n4 := lb_so bb k
    have n5 := lb_st bb k
    have n6 := lb_dp bb k
    have inner : ∀ a' b' : Nat, L_same_G221 N sa (f + 1 + 1 + 1 + 1 + 1) 1 (i32 a') (i32 b') (i32 k) (i32 0) g = L_same_G221 N sa f 0 (i32 a') (i32 b') (i32 (k + 1)) (i32 0) g := by
      intro a' b'
      simp -dsimp -implicitDefEqProofs (disch := omega) only [L_same_G221.eq_3, l0, l1, l2, l3, v4, v5, v6, v8, i32_64, lg_eq, i32_lit, i32_add, i32_mul, i32_tn, i32_sub, le_t, le_f, lt_t, lt_f, eq_t, eq_f, eq_rfl, inR_t, ↓ob_x, obx_s, ↓bnd_s, ↓oT_x, oTx_s, ↓ite_x, itx_T, itx_F, ↓reduceIte, not_true_eq_false, not_false_eq_true, true_and, and_true, Nat.reduceAdd, Nat.reduceMul, Nat.reduceSub, Nat.reduceEqDiff, isB0, isB1, Int32.neg_neg, Nat.zero_add, Nat.add_zero, Nat.mul_zero, Nat.mul_one, Nat.zero_mul]
    rw [cntF, cntF]
    have e0 := sm_k (N := N) h n (k + 1) f
    rcases (by omega : s 7 k = 0 ∨ s 7 k = 1 ∨ s 7 k = 2) with c | c | c
    · have w0 : plN7 s 0 k = 1 := by unfold plN7; rw [c]; rfl
      have w1 : plN7 s 1 k = 0 := by unfold plN7; rw [c]; rfl
      have e := e0 (a + 1) b (i32 0) (by omega) (by omega) (by omega) (by omega)
      rw [w0, w1, if_neg (show ¬ (1 : Nat) = 0 by omega), if_pos rfl, ← e, ← inner]
      simp -dsimp -implicitDefEqProofs (disch := omega) only [L_same_G221.eq_2, v7, c, i64_lit, lg_eq, i32_lit, i32_add, i32_mul, i32_tn, i32_sub, le_t, le_f, lt_t, lt_f, eq_t, eq_f, eq_rfl, inR_t, ↓ob_x, obx_s, ↓bnd_s, ↓oT_x, oTx_s, ↓ite_x, itx_T, itx_F, ↓reduceIte, not_true_eq_false, not_false_eq_true, true_and, and_true, Nat.reduceAdd, Nat.reduceMul, Nat.reduceSub, Nat.reduceEqDiff, isB0, isB1, Int32.neg_neg, Nat.zero_add, Nat.add_zero, Nat.mul_zero, Nat.mul_one, Nat.zero_mul]
    · have w0 : plN7 s 0 k = 0 := by unfold plN7; rw [c]; rfl
      have w1 : plN7 s 1 k = 1 := by unfold plN7; rw [c]; rfl
      have e := e0 a (b + 1) (i32 0) (by omega) (by omega) (by omega) (by omega)
      rw [w0, w1, if_neg (show ¬ (1 : Nat) = 0 by omega), if_pos rfl, ← e, ← inner]
      simp -dsimp -implicitDefEqProofs (disch := omega) only [L_same_G221.eq_2, v7, c, i64_lit, lg_eq, i32_lit, i32_add, i32_mul, i32_tn, i32_sub, le_t, le_f, lt_t, lt_f, eq_t, eq_f, eq_rfl, inR_t, ↓ob_x, obx_s, ↓bnd_s, ↓oT_x, oTx_s, ↓ite_x, itx_T, itx_F, ↓reduceIte, not_true_eq_false, not_false_eq_true, true_and, and_true, Nat.reduceAdd, Nat.reduceMul, Nat.reduceSub, Nat.reduceEqDiff, isB0, isB1, Int32.neg_neg, Nat.zero_add, Nat.add_zero, Nat.mul_zero, Nat.mul_one, Nat.zero_mul]
    · have w0 : plN7 s 0 k = 0 := by unfold plN7; rw [c]; rfl
      have w1 : plN7 s 1 k = 0 := by unfold plN7; rw [c]; rfl
      have e := e0 a b (i32 0) (by omega) (by omega) (by omega) (by omega)
      rw [w0, w1, if_pos rfl, if_pos rfl, ← e, ← inner]
      simp -dsimp -implicitDefEqProofs (disch := omega) only [L_same_G221.eq_2, v7, c, i64_lit, lg_eq, i32_lit, i32_add, i32_mul, i32_tn, i32_sub, le_t, le_f, lt_t, lt_f, eq_t, eq_f, eq_rfl, inR_t, ↓ob_x, obx_s, ↓bnd_s, ↓oT_x, oTx_s, ↓ite_x, itx_T, itx_F, ↓reduceIte, not_true_eq_false, not_false_eq_true, true_and, and_true, Nat.reduceAdd, Nat.reduceMul, Nat.reduceSub, Nat.reduceEqDiff, isB0, isB1, Int32.neg_neg, Nat.zero_add, Nat.add_zero, Nat.mul_zero, Nat.mul_one, Nat.zero_mul]
