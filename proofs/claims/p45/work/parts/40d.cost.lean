theorem held_4 (N : Nat) {a b : Nat} (h : a < 100000 ∧ b < 100000) (g : Mem) : L_held N (i64 a - i64 b) (i32 0) (i32 99) g = some (i32 (clN ((a : Int) - b)), g) := by
  rw [i64_z, i64_z, j64_sub]; exact held_z N (by omega) g
theorem held_5 (N : Nat) {a : Nat} (h : a < 100000) (g : Mem) : L_held N (i64 a) (i32 0) (i32 99) g = some (i32 (clN (a : Int)), g) := by
  rw [i64_z]; exact held_z N (by omega) g
theorem i64_md (n m : Nat) : i64 n - i64 (n / m * m) = i64 (n % m) := by rw [i64_sub (Nat.div_mul_le_self n m), sub_dm]
set_option maxRecDepth 100000 in
theorem co_e {sa : SA} (hL : sa.2.2.1 ≤ 260) {d : Nat} {s : LST} {g : Mem} (hd : d ≤ 4) (h : LL d s g) (b : LB s) (N : Nat) {p k : Nat} (hp : p < d) (hk : k < 12) : L_costs N sa (i32 p) (i32 k) g = some (i64 (coN sa s p k), g) := by
  have v2 := ll_kd h p hp
  have v3 := ll_mo h p hp
  have v4 := ll_so h k hk
  have v5 := ll_st h k hk
  have v6 := ll_dp h k hk
  have v9 := ll_h h
  have n3 := lb_mo b p
  have n4 := lb_so b k
  have n5 := lb_st b k
  have n6 := lb_dp b k
  have n9 := lb_h b
  have q1 := zn_le sa (i32 15) 7 (by omega)
  have q2 := zn_le sa (i32 18) 63 (by omega)
  have r1 := coB_le (sa := sa) (D := s 6 k) (S := s 5 k)
  unfold coB at r1
  have hm := Nat.mod_lt (s 9 0) (show 0 < 4 by omega)
  rcases pl_01 sa with e | e
  · by_cases c : zn sa (i32 18) 63 ≤ s 5 k
    · have c' := eq_true c
      rw [if_pos e, if_pos c] at r1
      rcases kd_6 b p with z | z | z | z | z | z <;> by_cases t : s 4 k = 0 <;> by_cases u : s 9 0 % 4 = 0 <;>
      simp -dsimp -implicitDefEqProofs (disch := omega) only [L_costs, coN, coB, v2, v3, v4, v5, v6, v9, pl_e hL, at_e hL, ↓shv_e, zn_e2, i32_64, i64_lit, i64_add, i64_mul, i64_div, i64_md, lg_eq, lg_ge, lg_lt, lg_gt, lg_le, held_4, held_5, i64_tF, z, e, c, c', t, u, i32_lit, i32_add, i32_mul, i32_tn, i32_sub, le_t, le_f, lt_t, lt_f, eq_t, eq_f, eq_rfl, inR_t, ↓ob_x, obx_s, ↓bnd_s, ↓oT_x, oTx_s, ↓ite_x, itx_T, itx_F, ↓reduceIte, not_true_eq_false, not_false_eq_true, true_and, and_true, Nat.reduceAdd, Nat.reduceMul, Nat.reduceSub, Nat.reduceEqDiff, isB0, isB1, Int32.neg_neg, Nat.zero_add, Nat.add_zero, Nat.mul_zero, Nat.mul_one, Nat.zero_mul]
    · have c' := eq_false c
      rw [if_pos e, if_neg c] at r1
      rcases kd_6 b p with z | z | z | z | z | z <;> by_cases t : s 4 k = 0 <;> by_cases u : s 9 0 % 4 = 0 <;>
      simp -dsimp -implicitDefEqProofs (disch := omega) only [L_costs, coN, coB, v2, v3, v4, v5, v6, v9, pl_e hL, at_e hL, ↓shv_e, zn_e2, i32_64, i64_lit, i64_add, i64_mul, i64_div, i64_md, lg_eq, lg_ge, lg_lt, lg_gt, lg_le, held_4, held_5, i64_tF, z, e, c, c', t, u, i32_lit, i32_add, i32_mul, i32_tn, i32_sub, le_t, le_f, lt_t, lt_f, eq_t, eq_f, eq_rfl, inR_t, ↓ob_x, obx_s, ↓bnd_s, ↓oT_x, oTx_s, ↓ite_x, itx_T, itx_F, ↓reduceIte, not_true_eq_false, not_false_eq_true, true_and, and_true, Nat.reduceAdd, Nat.reduceMul, Nat.reduceSub, Nat.reduceEqDiff, isB0, isB1, Int32.neg_neg, Nat.zero_add, Nat.add_zero, Nat.mul_zero, Nat.mul_one, Nat.zero_mul]
  · rw [if_neg (show ¬ plN sa = 0 by omega)] at r1
    rcases kd_6 b p with z | z | z | z | z | z <;> by_cases t : s 4 k = 0 <;> by_cases u : s 9 0 % 4 = 0 <;>
    simp -dsimp -implicitDefEqProofs (disch := omega) only [L_costs, coN, coB, v2, v3, v4, v5, v6, v9, pl_e hL, at_e hL, ↓shv_e, zn_e2, i32_64, i64_lit, i64_add, i64_mul, i64_div, i64_md, lg_eq, lg_ge, lg_lt, lg_gt, lg_le, held_4, held_5, i64_tF, z, e, t, u, i32_lit, i32_add, i32_mul, i32_tn, i32_sub, le_t, le_f, lt_t, lt_f, eq_t, eq_f, eq_rfl, inR_t, ↓ob_x, obx_s, ↓bnd_s, ↓oT_x, oTx_s, ↓ite_x, itx_T, itx_F, ↓reduceIte, not_true_eq_false, not_false_eq_true, true_and, and_true, Nat.reduceAdd, Nat.reduceMul, Nat.reduceSub, Nat.reduceEqDiff, isB0, isB1, Int32.neg_neg, Nat.zero_add, Nat.add_zero, Nat.mul_zero, Nat.mul_one, Nat.zero_mul]
theorem caN_01 (sa : SA) (s : LST) (p k : Nat) : caN sa s p k = 0 ∨ caN sa s p k = 1 := by
  unfold caN; repeat' split
  all_goals omega
set_option maxRecDepth 100000 in
theorem ca_e {sa : SA} (hL : sa.2.2.1 ≤ 260) {d : Nat} {s : LST} {g : Mem} (hd : d ≤ 4) (h : LL d s g) (b : LB s) (N : Nat) {p k : Nat} (hp : p < d) (hk : k < 12) : L_can N sa (i32 p) (i32 k) g = some (i32 (caN sa s p k), g) := by
  have v0 := ll_br h p hp
  have v6 := ll_dp h k hk
  have v7 := ll_pl h k hk
  have n0 := lb_br b p
  have n6 := lb_dp b k
  have n7 := lb_pl b k
  have r1 := reN_le (sa := sa) b p k
  have r2 := coN_le (sa := sa) b p k
  by_cases c1 : s 7 k = 0 <;> by_cases c2 : reN sa s p k < s 6 k <;> by_cases c3 : s 0 p < coN sa s p k <;>
  simp -dsimp -implicitDefEqProofs (disch := omega) only [L_can, caN, v0, v6, v7, re_e hL hd h b N hp hk, co_e hL hd h b N hp hk, i64_lit, lg_eq, lg_ge, lg_lt, lg_gt, lg_le, c1, c2, c3, i32_lit, i32_add, i32_mul, i32_tn, i32_sub, le_t, le_f, lt_t, lt_f, eq_t, eq_f, eq_rfl, inR_t, ↓ob_x, obx_s, ↓bnd_s, ↓oT_x, oTx_s, ↓ite_x, itx_T, itx_F, ↓reduceIte, not_true_eq_false, not_false_eq_true, true_and, and_true, Nat.reduceAdd, Nat.reduceMul, Nat.reduceSub, Nat.reduceEqDiff, isB0, isB1, Int32.neg_neg, Nat.zero_add, Nat.add_zero, Nat.mul_zero, Nat.mul_one, Nat.zero_mul]
set_option maxRecDepth 100000 in
theorem cs_l {sa : SA} (hL : sa.2.2.1 ≤ 260) {d : Nat} {s : LST} {g : Mem} (hd : d ≤ 4) (h : LL d s g) (b : LB s) (N : Nat) {p : Nat} (hp : p < d) : ∀ (n j fu : Nat) (x : Int32), j + n = 12 → n < fu → L_cans_L5 N sa (i32 p) fu x (i32 j) g = some (bitF (caN sa s p) j n x, g)
  | 0, j, fu, x, h1, h2 => by
    obtain ⟨f, rfl⟩ : ∃ q, fu = q + 1 := ⟨fu - 1, by omega⟩
    simp -dsimp -implicitDefEqProofs (disch := omega) only [L_cans_L5, bitF, i32_lit, i32_add, i32_mul, i32_tn, i32_sub, le_t, le_f, lt_t, lt_f, eq_t, eq_f, eq_rfl, inR_t, ↓ob_x, obx_s, ↓bnd_s, ↓oT_x, oTx_s, ↓ite_x, itx_T, itx_F, ↓reduceIte, not_true_eq_false, not_false_eq_true, true_and, and_true, Nat.reduceAdd, Nat.reduceMul, Nat.reduceSub, Nat.reduceEqDiff, isB0, isB1, Int32.neg_neg, Nat.zero_add, Nat.add_zero, Nat.mul_zero, Nat.mul_one, Nat.zero_mul]
  | n + 1, j, fu, x, h1, h2 => by
    obtain ⟨f, rfl⟩ : ∃ q, fu = q + 1 := ⟨fu - 1, by omega⟩
    have s1 := cs_l hL hd h b N hp n (j + 1) f
    have s2 := ca_e hL hd h b N hp (show j < 12 by omega)
    rcases caN_01 sa s p j with c | c <;> rw [c] at s2 <;>
    simp -dsimp -implicitDefEqProofs (disch := omega) only [L_cans_L5, bitF, s2, s1, c, b_or0, i32_lit, i32_add, i32_mul, i32_tn, i32_sub, le_t, le_f, lt_t, lt_f, eq_t, eq_f, eq_rfl, inR_t, ↓ob_x, obx_s, ↓bnd_s, ↓oT_x, oTx_s, ↓ite_x, itx_T, itx_F, ↓reduceIte, not_true_eq_false, not_false_eq_true, true_and, and_true, Nat.reduceAdd, Nat.reduceMul, Nat.reduceSub, Nat.reduceEqDiff, isB0, isB1, Int32.neg_neg, Nat.zero_add, Nat.add_zero, Nat.mul_zero, Nat.mul_one, Nat.zero_mul]
theorem cs_e {sa : SA} (hL : sa.2.2.1 ≤ 260) {d : Nat} {s : LST} {g : Mem} (hd : d ≤ 4) (h : LL d s g) (b : LB s) {N : Nat} (hN : 6000 ≤ N) {p : Nat} (hp : p < d) : L_cans N sa (i32 p) g = some (bitF (caN sa s p) 0 12 (i32 0), g) :=
  cs_l hL hd h b N hp 12 0 N (i32 0) (by omega) (by omega)
