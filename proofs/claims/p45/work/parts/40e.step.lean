theorem i64_lt {a b : Nat} (h : a < 1000000 ∧ b < 1000000) : (i64 a < i64 b) = (a < b) := by
  rw [i64_z, i64_z, j64_lt (by omega) (by omega)]
  exact propext ⟨fun q => by omega, fun q => by omega⟩
theorem m1_ge : (i32 0 ≤ -(i32 1)) = False := by decide
def fairZ (s : LST) : Int := (s 8 0 : Int) + s 8 3 - s 8 2 - 2 * (s 8 5 : Nat)
theorem fr_e {d : Nat} {s : LST} {g : Mem} (h : LL d s g) (N : Nat) : L_fair N g = some (j64 (fairZ s), g) := by
  have v0 := ll_sk h 0 (by omega)
  have v3 := ll_sk h 3 (by omega)
  have v2 := ll_sk h 2 (by omega)
  have v5 := ll_sk h 5 (by omega)
  simp -dsimp -implicitDefEqProofs (disch := omega) only [L_fair, v0, v2, v3, v5, i64_lit, i32_lit, i32_add, i32_mul, i32_tn, i32_sub, le_t, le_f, lt_t, lt_f, eq_t, eq_f, eq_rfl, inR_t, ↓ob_x, obx_s, ↓bnd_s, ↓oT_x, oTx_s, ↓ite_x, itx_T, itx_F, ↓reduceIte, not_true_eq_false, not_false_eq_true, true_and, and_true, Nat.reduceAdd, Nat.reduceMul, Nat.reduceSub, Nat.reduceEqDiff, isB0, isB1, Int32.neg_neg, Nat.zero_add, Nat.add_zero, Nat.mul_zero, Nat.mul_one, Nat.zero_mul]
  rw [i64_mul, i64_z, i64_z, i64_z, i64_z, j64_add, j64_sub, j64_sub]
  rfl
set_option maxRecDepth 100000 in
theorem fs_l {d : Nat} {s : LST} {g gM : Mem} (h : LL d s g) (m : LM d s gM) (b : LB s) (N : Nat) : ∀ (n j fu : Nat) (x : Int32) (y : Nat), j + n = 6 → n < fu → ((x = -(i32 1) ∧ y = 0) ∨ ∃ t, t < 6 ∧ x = i32 t ∧ y = s 8 t) → L_first_L4 N fu x (i32 j) g = some (mainF gM j n x (i32 y), g)
  | 0, j, fu, x, y, h1, h2, h3 => by
    obtain ⟨f, rfl⟩ : ∃ q, fu = q + 1 := ⟨fu - 1, by omega⟩
    simp -dsimp -implicitDefEqProofs (disch := omega) only [L_first_L4, mainF, i32_lit, i32_add, i32_mul, i32_tn, i32_sub, le_t, le_f, lt_t, lt_f, eq_t, eq_f, eq_rfl, inR_t, ↓ob_x, obx_s, ↓bnd_s, ↓oT_x, oTx_s, ↓ite_x, itx_T, itx_F, ↓reduceIte, not_true_eq_false, not_false_eq_true, true_and, and_true, Nat.reduceAdd, Nat.reduceMul, Nat.reduceSub, Nat.reduceEqDiff, isB0, isB1, Int32.neg_neg, Nat.zero_add, Nat.add_zero, Nat.mul_zero, Nat.mul_one, Nat.zero_mul]
  | n + 1, j, fu, x, y, h1, h2, h3 => by
    obtain ⟨f, rfl⟩ : ∃ q, fu = q + 1 := ⟨fu - 1, by omega⟩
    have s1 := fs_l h m b N n (j + 1) f
    have v := ll_sk h j (by omega)
    have w := lm_sk m j (by omega)
    have n1 := lb_sk b j
    rcases h3 with ⟨rfl, rfl⟩ | ⟨t, ht, rfl, rfl⟩
    · by_cases c : s 8 j ≤ 0
      · have e := s1 (-(i32 1)) 0 (by omega) (by omega) (Or.inl ⟨rfl, rfl⟩)
        have c' := eq_true c
        simp -dsimp -implicitDefEqProofs (disch := omega) only [L_first_L4, mainF, v, w, m1_ge, i64_lit, lg_le, c', e, i32_lit, i32_add, i32_mul, i32_tn, i32_sub, le_t, le_f, lt_t, lt_f, eq_t, eq_f, eq_rfl, inR_t, ↓ob_x, obx_s, ↓bnd_s, ↓oT_x, oTx_s, ↓ite_x, itx_T, itx_F, ↓reduceIte, not_true_eq_false, not_false_eq_true, true_and, and_true, Nat.reduceAdd, Nat.reduceMul, Nat.reduceSub, Nat.reduceEqDiff, isB0, isB1, Int32.neg_neg, Nat.zero_add, Nat.add_zero, Nat.mul_zero, Nat.mul_one, Nat.zero_mul]
      · have e := s1 (i32 j) (s 8 j) (by omega) (by omega) (Or.inr ⟨j, by omega, rfl, rfl⟩)
        have c' := eq_false c
        simp -dsimp -implicitDefEqProofs (disch := omega) only [L_first_L4, mainF, v, w, m1_ge, i64_lit, lg_le, c', e, i32_lit, i32_add, i32_mul, i32_tn, i32_sub, le_t, le_f, lt_t, lt_f, eq_t, eq_f, eq_rfl, inR_t, ↓ob_x, obx_s, ↓bnd_s, ↓oT_x, oTx_s, ↓ite_x, itx_T, itx_F, ↓reduceIte, not_true_eq_false, not_false_eq_true, true_and, and_true, Nat.reduceAdd, Nat.reduceMul, Nat.reduceSub, Nat.reduceEqDiff, isB0, isB1, Int32.neg_neg, Nat.zero_add, Nat.add_zero, Nat.mul_zero, Nat.mul_one, Nat.zero_mul]
    · have v' := ll_sk h t ht
      have n2 := lb_sk b t
      by_cases c : s 8 j ≤ s 8 t
      · have e := s1 (i32 t) (s 8 t) (by omega) (by omega) (Or.inr ⟨t, ht, rfl, rfl⟩)
        have c' := eq_true c
        simp -dsimp -implicitDefEqProofs (disch := omega) only [L_first_L4, mainF, v, v', w, i64_lit, lg_le, c', e, i32_lit, i32_add, i32_mul, i32_tn, i32_sub, le_t, le_f, lt_t, lt_f, eq_t, eq_f, eq_rfl, inR_t, ↓ob_x, obx_s, ↓bnd_s, ↓oT_x, oTx_s, ↓ite_x, itx_T, itx_F, ↓reduceIte, not_true_eq_false, not_false_eq_true, true_and, and_true, Nat.reduceAdd, Nat.reduceMul, Nat.reduceSub, Nat.reduceEqDiff, isB0, isB1, Int32.neg_neg, Nat.zero_add, Nat.add_zero, Nat.mul_zero, Nat.mul_one, Nat.zero_mul]
      · have e := s1 (i32 j) (s 8 j) (by omega) (by omega) (Or.inr ⟨j, by omega, rfl, rfl⟩)
        have c' := eq_false c
        simp -dsimp -implicitDefEqProofs (disch := omega) only [L_first_L4, mainF, v, v', w, i64_lit, lg_le, c', e, i32_lit, i32_add, i32_mul, i32_tn, i32_sub, le_t, le_f, lt_t, lt_f, eq_t, eq_f, eq_rfl, inR_t, ↓ob_x, obx_s, ↓bnd_s, ↓oT_x, oTx_s, ↓ite_x, itx_T, itx_F, ↓reduceIte, not_true_eq_false, not_false_eq_true, true_and, and_true, Nat.reduceAdd, Nat.reduceMul, Nat.reduceSub, Nat.reduceEqDiff, isB0, isB1, Int32.neg_neg, Nat.zero_add, Nat.add_zero, Nat.mul_zero, Nat.mul_one, Nat.zero_mul]
theorem fs_e {d : Nat} {s : LST} {g gM : Mem} (h : LL d s g) (m : LM d s gM) (b : LB s) {N : Nat} (hN : 6000 ≤ N) : L_first N g = some (mainV gM, g) :=
  fs_l h m b N 6 0 N (-(i32 1)) 0 (by omega) (by omega) (Or.inl ⟨rfl, rfl⟩)
def diS (sa : SA) (s : LST) (p k : Nat) : LST := ups (ups (ups s 0 p (s 0 p - coN sa s p k)) 1 p (s 1 p + 1)) 7 k 1
def diG (sa : SA) (s : LST) (g : Mem) (p k : Nat) : Mem := stL (stL (stL g (2 * p) (i64 (s 0 p - coN sa s p k))) (2 * p + 1) (i64 (s 1 p + 1))) (19 + 4 * k) (i64 1)
theorem ca_1 {sa : SA} {s : LST} {p k : Nat} (h : caN sa s p k = 1) : s 7 k = 0 ∧ coN sa s p k ≤ s 0 p := by
  unfold caN at h
  by_cases a : s 7 k = 0
  · rw [if_pos a] at h
    by_cases c : reN sa s p k < s 6 k
    · rw [if_pos c] at h; omega
    · rw [if_neg c] at h
      by_cases e : s 0 p < coN sa s p k
      · rw [if_pos e] at h; omega
      · exact ⟨a, by omega⟩
  · rw [if_neg a] at h; omega
set_option maxRecDepth 100000 in
theorem di_e {sa : SA} (hL : sa.2.2.1 ≤ 260) {d : Nat} {s : LST} {g : Mem} (hd : d ≤ 4) (h : LL d s g) (b : LB s) (N : Nat) {p k : Nat} (hp : p < d) (hk : k < 12) (c : caN sa s p k = 1) : L_dive N sa (i32 p) (i32 k) g = some (i32 1, diG sa s g p k) := by
  have v0 := ll_br h p hp
  have v1 := ll_bg h p hp
  have s1 := ca_e hL hd h b N hp hk
  have s2 := co_e hL hd h b N hp hk
  rw [c] at s1
  have s3 := i64_sub (ca_1 c).2
  simp -dsimp -implicitDefEqProofs (disch := omega) only [L_dive, diG, s1, s2, v0, v1, ldL_stL, s3, i64_lit, i64_add, if_neg (show ¬ 2 * p + 1 = 2 * p by omega), i32_lit, i32_add, i32_mul, i32_tn, i32_sub, le_t, le_f, lt_t, lt_f, eq_t, eq_f, eq_rfl, inR_t, ↓ob_x, obx_s, ↓bnd_s, ↓oT_x, oTx_s, ↓ite_x, itx_T, itx_F, ↓reduceIte, not_true_eq_false, not_false_eq_true, true_and, and_true, Nat.reduceAdd, Nat.reduceMul, Nat.reduceSub, Nat.reduceEqDiff, isB0, isB1, Int32.neg_neg, Nat.zero_add, Nat.add_zero, Nat.mul_zero, Nat.mul_one, Nat.zero_mul]
theorem di_0 {sa : SA} (hL : sa.2.2.1 ≤ 260) {d : Nat} {s : LST} {g : Mem} (hd : d ≤ 4) (h : LL d s g) (b : LB s) (N : Nat) {p k : Nat} (hp : p < d) (hk : k < 12) (c : caN sa s p k = 0) : L_dive N sa (i32 p) (i32 k) g = some (i32 0, g) := by
  have s1 := ca_e hL hd h b N hp hk
  rw [c] at s1
  simp -dsimp -implicitDefEqProofs (disch := omega) only [L_dive, s1, i32_lit, i32_add, i32_mul, i32_tn, i32_sub, le_t, le_f, lt_t, lt_f, eq_t, eq_f, eq_rfl, inR_t, ↓ob_x, obx_s, ↓bnd_s, ↓oT_x, oTx_s, ↓ite_x, itx_T, itx_F, ↓reduceIte, not_true_eq_false, not_false_eq_true, true_and, and_true, Nat.reduceAdd, Nat.reduceMul, Nat.reduceSub, Nat.reduceEqDiff, isB0, isB1, Int32.neg_neg, Nat.zero_add, Nat.add_zero, Nat.mul_zero, Nat.mul_one, Nat.zero_mul]
theorem di_LL {sa : SA} {d : Nat} {s : LST} {g : Mem} (hd : d ≤ 4) (h : LL d s g) {p k : Nat} (hp : p < d) (hk : k < 12) : LL d (diS sa s p k) (diG sa s g p k) := by
  have e := LL_up (c := 7) (j := k) hd (LL_up (c := 1) (j := p) hd (LL_up (c := 0) (j := p) hd h (by unfold vaN; omega) (s 0 p - coN sa s p k)) (by unfold vaN; omega) (s 1 p + 1)) (by unfold vaN; omega) 1
  exact e
theorem di_LB {sa : SA} {s : LST} (b : LB s) {p k : Nat} (h : s 1 p < 90) : LB (diS sa s p k) := by
  have := lb_br b p
  exact LB_up (LB_up (LB_up b 0 p _ (show _ ≤ 99 by omega)) 1 p _ (show _ ≤ 99 by omega)) 7 k 1 (show 1 ≤ 2 by omega)
def mi99 (n : Nat) : Nat := if n < 99 then n else 99
theorem mi_le (n : Nat) : mi99 n ≤ 99 := by unfold mi99; split <;> omega
def opS (s : LST) (k : Nat) : LST := ups (ups s 8 (s 4 k) (mi99 (s 8 (s 4 k) + s 5 k))) 7 k 2
def opG (s : LST) (g : Mem) (k : Nat) : Mem := stL (stL g (64 + s 4 k) (i64 (mi99 (s 8 (s 4 k) + s 5 k)))) (19 + 4 * k) (i64 2)
theorem i64_mi {n : Nat} (h : n < 1000000) : (if i64 n < i64 99 then i64 n else i64 99) = i64 (mi99 n) := by
  unfold mi99; simp only [i64_lt (show n < 1000000 ∧ 99 < 1000000 by omega)]
  split <;> rfl
set_option maxRecDepth 100000 in
theorem op_e {d : Nat} {s : LST} {g : Mem} (h : LL d s g) (b : LB s) (N : Nat) {k : Nat} (hk : k < 12) (c : s 7 k = 1) : L_open N (i32 k) g = some (i32 1, opG s g k) := by
  have v4 := ll_so h k hk
  have v5 := ll_st h k hk
  have v7 := ll_pl h k hk
  have n4 := lb_so b k
  have n5 := lb_st b k
  have v8 := ll_sk h (s 4 k) (by omega)
  have n8 := lb_sk b (s 4 k)
  rw [c] at v7
  have e1 : i64 99 = i64 99 := rfl
  simp -dsimp -implicitDefEqProofs (disch := omega) only [L_open, opG, v4, v5, v7, v8, lg_eq, i64_lit, i64_add, i64_32, ↓i64_mi, i32_lit, i32_add, i32_mul, i32_tn, i32_sub, le_t, le_f, lt_t, lt_f, eq_t, eq_f, eq_rfl, inR_t, ↓ob_x, obx_s, ↓bnd_s, ↓oT_x, oTx_s, ↓ite_x, itx_T, itx_F, ↓reduceIte, not_true_eq_false, not_false_eq_true, true_and, and_true, Nat.reduceAdd, Nat.reduceMul, Nat.reduceSub, Nat.reduceEqDiff, isB0, isB1, Int32.neg_neg, Nat.zero_add, Nat.add_zero, Nat.mul_zero, Nat.mul_one, Nat.zero_mul]
theorem op_0 {d : Nat} {s : LST} {g : Mem} (h : LL d s g) (b : LB s) (N : Nat) {k : Nat} (hk : k < 12) (c : ¬ s 7 k = 1) : L_open N (i32 k) g = some (i32 0, g) := by
  have v7 := ll_pl h k hk
  have n7 := lb_pl b k
  simp -dsimp -implicitDefEqProofs (disch := omega) only [L_open, v7, lg_eq, i64_lit, c, i32_lit, i32_add, i32_mul, i32_tn, i32_sub, le_t, le_f, lt_t, lt_f, eq_t, eq_f, eq_rfl, inR_t, ↓ob_x, obx_s, ↓bnd_s, ↓oT_x, oTx_s, ↓ite_x, itx_T, itx_F, ↓reduceIte, not_true_eq_false, not_false_eq_true, true_and, and_true, Nat.reduceAdd, Nat.reduceMul, Nat.reduceSub, Nat.reduceEqDiff, isB0, isB1, Int32.neg_neg, Nat.zero_add, Nat.add_zero, Nat.mul_zero, Nat.mul_one, Nat.zero_mul]
theorem op_LL {d : Nat} {s : LST} {g : Mem} (hd : d ≤ 4) (h : LL d s g) (b : LB s) {k : Nat} (hk : k < 12) : LL d (opS s k) (opG s g k) := by
  have n4 := lb_so b k
  have e := LL_up (c := 7) (j := k) hd (LL_up (c := 8) (j := s 4 k) hd h (by unfold vaN; omega) (mi99 (s 8 (s 4 k) + s 5 k))) (by unfold vaN; omega) 2
  exact e
theorem op_LB {s : LST} (b : LB s) {k : Nat} : LB (opS s k) :=
  LB_up (LB_up b 8 (s 4 k) _ (mi_le _)) 7 k 2 (show 2 ≤ 2 by omega)
