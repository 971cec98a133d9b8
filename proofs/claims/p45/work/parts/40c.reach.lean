theorem i64_tF {a b : Nat} (h : ¬ a = b ∧ a < 1000000 ∧ b < 1000000) : (i64 a = i64 b) = False := eq_false fun q => h.1 ((i64_inj (by omega) (by omega)).mp q)
theorem zn_e2 (sa : SA) (a : Int32) (m : Nat) : shv (AT sa 0) a &&& i32 m = i32 (zn sa a m) := fz_eq _ m
theorem le_pT {a b : Nat} (h : a ≤ b) : (a ≤ b) = True := eq_true h
theorem le_pF {a b : Nat} (h : b < a) : (a ≤ b) = False := eq_false (by omega)
theorem kd_6 {s : LST} (b : LB s) (p : Nat) : s 2 p = 0 ∨ s 2 p = 1 ∨ s 2 p = 2 ∨ s 2 p = 3 ∨ s 2 p = 4 ∨ s 2 p = 5 := by have := lb_kd b p; omega
set_option maxRecDepth 100000 in
theorem re_e {sa : SA} (hL : sa.2.2.1 ≤ 260) {d : Nat} {s : LST} {g : Mem} (hd : d ≤ 4) (h : LL d s g) (b : LB s) (N : Nat) {p k : Nat} (hp : p < d) (hk : k < 12) : L_reaches N sa (i32 p) (i32 k) g = some (i64 (reN sa s p k), g) := by
  have v0 := ll_br h p hp
  have v2 := ll_kd h p hp
  have v3 := ll_mo h p hp
  have v4 := ll_so h k hk
  have n0 := lb_br b p
  have n3 := lb_mo b p
  have n4 := lb_so b k
  have q1 := zn_le sa (i32 3) 31 (by omega)
  have q2 := zn_le sa (i32 8) 7 (by omega)
  have q3 := zn_le sa (i32 11) 15 (by omega)
  have r1 := reB_le (sa := sa) (T := s 4 k) n0
  unfold reB at r1
  rcases pl_01 sa with e | e
  · by_cases c : zn sa (i32 8) 7 ≤ s 4 k
    · have c' := eq_true c
      rw [if_pos e, if_pos c] at r1
      rcases kd_6 b p with z | z | z | z | z | z <;>
      simp -dsimp -implicitDefEqProofs (disch := omega) only [L_reaches, reN, reB, v0, v2, v3, v4, pl_e hL, at_e hL, ↓shv_e, zn_e2, i32_64, i64_lit, i64_add, i64_mul, i64_div, lg_eq, lg_ge, lg_lt, lg_gt, lg_le, held_1, held_2, held_3, i64_tF, z, e, c, c', i32_lit, i32_add, i32_mul, i32_tn, i32_sub, le_t, le_f, lt_t, lt_f, eq_t, eq_f, eq_rfl, inR_t, ↓ob_x, obx_s, ↓bnd_s, ↓oT_x, oTx_s, ↓ite_x, itx_T, itx_F, ↓reduceIte, not_true_eq_false, not_false_eq_true, true_and, and_true, Nat.reduceAdd, Nat.reduceMul, Nat.reduceSub, Nat.reduceEqDiff, isB0, isB1, Int32.neg_neg, Nat.zero_add, Nat.add_zero, Nat.mul_zero, Nat.mul_one, Nat.zero_mul]
    · have c' := eq_false c
      rw [if_pos e, if_neg c] at r1
      rcases kd_6 b p with z | z | z | z | z | z <;>
      simp -dsimp -implicitDefEqProofs (disch := omega) only [L_reaches, reN, reB, v0, v2, v3, v4, pl_e hL, at_e hL, ↓shv_e, zn_e2, i32_64, i64_lit, i64_add, i64_mul, i64_div, lg_eq, lg_ge, lg_lt, lg_gt, lg_le, held_1, held_2, held_3, i64_tF, z, e, c, c', i32_lit, i32_add, i32_mul, i32_tn, i32_sub, le_t, le_f, lt_t, lt_f, eq_t, eq_f, eq_rfl, inR_t, ↓ob_x, obx_s, ↓bnd_s, ↓oT_x, oTx_s, ↓ite_x, itx_T, itx_F, ↓reduceIte, not_true_eq_false, not_false_eq_true, true_and, and_true, Nat.reduceAdd, Nat.reduceMul, Nat.reduceSub, Nat.reduceEqDiff, isB0, isB1, Int32.neg_neg, Nat.zero_add, Nat.add_zero, Nat.mul_zero, Nat.mul_one, Nat.zero_mul]
  · rcases kd_6 b p with z | z | z | z | z | z <;>
    simp -dsimp -implicitDefEqProofs (disch := omega) only [L_reaches, reN, reB, v0, v2, v3, v4, pl_e hL, at_e hL, ↓shv_e, zn_e2, i32_64, i64_lit, i64_add, i64_mul, i64_div, lg_eq, lg_ge, lg_lt, lg_gt, lg_le, held_1, held_2, held_3, i64_tF, z, e, i32_lit, i32_add, i32_mul, i32_tn, i32_sub, le_t, le_f, lt_t, lt_f, eq_t, eq_f, eq_rfl, inR_t, ↓ob_x, obx_s, ↓bnd_s, ↓oT_x, oTx_s, ↓ite_x, itx_T, itx_F, ↓reduceIte, not_true_eq_false, not_false_eq_true, true_and, and_true, Nat.reduceAdd, Nat.reduceMul, Nat.reduceSub, Nat.reduceEqDiff, isB0, isB1, Int32.neg_neg, Nat.zero_add, Nat.add_zero, Nat.mul_zero, Nat.mul_one, Nat.zero_mul]
theorem kb_e {d : Nat} {s : LST} {g : Mem} (hd : d ≤ 4) (h : LL d s g) (b : LB s) (N : Nat) {p : Nat} (hp : p < d) : L_breathes N (i32 p) g = some (i64 (kbN s p), g) := by
  have v2 := ll_kd h p hp
  have v3 := ll_mo h p hp
  have n3 := lb_mo b p
  rcases kd_6 b p with z | z | z | z | z | z <;>
  simp -dsimp -implicitDefEqProofs (disch := omega) only [L_breathes, kbN, v2, v3, i32_64, i64_lit, i64_add, lg_eq, z, i32_lit, i32_add, i32_mul, i32_tn, i32_sub, le_t, le_f, lt_t, lt_f, eq_t, eq_f, eq_rfl, inR_t, ↓ob_x, obx_s, ↓bnd_s, ↓oT_x, oTx_s, ↓ite_x, itx_T, itx_F, ↓reduceIte, not_true_eq_false, not_false_eq_true, true_and, and_true, Nat.reduceAdd, Nat.reduceMul, Nat.reduceSub, Nat.reduceEqDiff, isB0, isB1, Int32.neg_neg, Nat.zero_add, Nat.add_zero, Nat.mul_zero, Nat.mul_one, Nat.zero_mul]
