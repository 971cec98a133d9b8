theorem fz_b {s : LST} (b : LB s) : -1000000 < fairZ s ∧ fairZ s < 1000000 := by
  have n0 := lb_sk b 0
  have n3 := lb_sk b 3
  have n2 := lb_sk b 2
  have n5 := lb_sk b 5
  unfold fairZ; omega
theorem fz_z {s : LST} (b : LB s) : lg_cmp (j64 (fairZ s)) (j64 (fairZ s)) = i32 0 := by
  rw [lgz (fz_b b) (fz_b b), if_neg (by omega), if_pos rfl]
theorem bay6 (g : Mem) : bayV g 6 = mainV g := by
  unfold bayV
  rw [if_neg (by omega), if_pos rfl]
theorem bay7 (g : Mem) : bayV g 7 = fairV g := by
  unfold bayV
  rw [if_neg (by omega), if_neg (by omega)]
set_option maxRecDepth 100000 in
theorem sm_f {sa : SA} (hL : sa.2.2.1 ≤ 260) {s : LST} {i : Nat} {g gM : Mem} {N : Nat} (hN : 6000 ≤ N) (h : WLD sa s i g gM) (A B : Int32) (r1 : X5_count N (i32 1) g = some (A, g)) (r2 : X5_count N (i32 2) g = some (B, g)) (f : Nat) :
    L_same_L325 N sa (f + 1) A B (i32 6) g = some (i32 1, g) := by
  have b := h.2.2.2.2.2.1
  have l := h.2.2.2.2.1
  have m := h.2.2.2.1
  have r6 := q_by h hN (show 6 < 8 by omega)
  have r7 := q_by h hN (show 7 < 8 by omega)
  rw [bay6] at r6
  rw [bay7] at r7
  generalize hm : mainV gM = MV at r6
  have w6 := fs_e l m b hN
  rw [hm] at w6
  have w7 := fr_e l N
  have w8 := fairV_e m b
  generalize fairV gM = FW at r7 w8
  have n9 := lb_h b
  have z := fz_z b
  generalize j64 (fairZ s) = ZZ at w7 w8 z
  have r0 := q_c0 h N
  have r3 := q_c3 h N
  have v9 := ll_h l
  simp -dsimp -implicitDefEqProofs (disch := omega) only [L_same_L325, r6, r7, w6, w7, w8, z, r0, r1, r2, mn_e hL, r3, v9, i32_64, lg_eq, i32_lit, i32_add, i32_mul, i32_tn, i32_sub, le_t, le_f, lt_t, lt_f, eq_t, eq_f, eq_rfl, inR_t, ↓ob_x, obx_s, ↓bnd_s, ↓oT_x, oTx_s, ↓ite_x, itx_T, itx_F, ↓reduceIte, not_true_eq_false, not_false_eq_true, true_and, and_true, Nat.reduceAdd, Nat.reduceMul, Nat.reduceSub, Nat.reduceEqDiff, isB0, isB1, Int32.neg_neg, Nat.zero_add, Nat.add_zero, Nat.mul_zero, Nat.mul_one, Nat.zero_mul]
set_option maxRecDepth 100000 in
theorem sm_s {sa : SA} {s : LST} {i : Nat} {g gM : Mem} {N : Nat} (hN : 6000 ≤ N) (h : WLD sa s i g gM) (A B : Int32) (t f : Nat) (ht : t < 6) :
    L_same_L325 N sa (f + 1) A B (i32 t) g = L_same_L325 N sa f A B (i32 (t + 1)) g := by
  have b := h.2.2.2.2.2.1
  have r := q_bt h hN ht
  have v := ll_sk h.2.2.2.2.1 t ht
  have n8 := lb_sk b t
  simp -dsimp -implicitDefEqProofs (disch := omega) only [L_same_L325, r, v, i32_64, lg_eq, i32_lit, i32_add, i32_mul, i32_tn, i32_sub, le_t, le_f, lt_t, lt_f, eq_t, eq_f, eq_rfl, inR_t, ↓ob_x, obx_s, ↓bnd_s, ↓oT_x, oTx_s, ↓ite_x, itx_T, itx_F, ↓reduceIte, not_true_eq_false, not_false_eq_true, true_and, and_true, Nat.reduceAdd, Nat.reduceMul, Nat.reduceSub, Nat.reduceEqDiff, isB0, isB1, Int32.neg_neg, Nat.zero_add, Nat.add_zero, Nat.mul_zero, Nat.mul_one, Nat.zero_mul]
theorem sm_e {sa : SA} (hL : sa.2.2.1 ≤ 260) {s : LST} {i : Nat} {g gM : Mem} {N : Nat} (hN : 6000 ≤ N) (h : WLD sa s i g gM) (hk : ∀ j, j < mnN sa → s 2 j = kdN sa j ∧ s 3 j = moN sa j) : ∃ g', L_same N sa g = some (i32 1, g') ∧ SI g g' := by
  have hm := mn_le sa
  obtain ⟨g', e1, f⟩ := sm_p hL hN (mnN sa) 0 N g (by omega) (by omega) h hk
  have h' := WLD_SI h f
  refine ⟨g', ?_, f⟩
  have e2 := sm_k (N := N) h' 12 0 N 0 0 (i32 0) (by omega) (by omega) (by omega) (by omega)
  obtain ⟨M, rfl⟩ : ∃ M, N = M + 1 + 1 + 1 + 1 + 1 + 1 + 1 := ⟨N - 7, by omega⟩
  have r1 := q_c12 h' hN 0 (by omega)
  have r2 := q_c12 h' hN 1 (by omega)
  refine e1.trans (e2.trans ?_)
  generalize i32 (cntF (plN7 s 0) 0 12 0) = A at r1 ⊢
  generalize i32 (cntF (plN7 s 1) 0 12 0) = B at r2 ⊢
  rw [sm_s hN h' A B 0 _ (by omega), sm_s hN h' A B 1 _ (by omega), sm_s hN h' A B 2 _ (by omega), sm_s hN h' A B 3 _ (by omega), sm_s hN h' A B 4 _ (by omega), sm_s hN h' A B 5 _ (by omega)]
  exact sm_f hL hN h' A B r1 r2 _
