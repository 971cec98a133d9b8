/-! THE LAW'S NUMBERS AND THE MODEL'S -/
def TXS (sa : SA) (i : Nat) (gM : Mem) : Prop := ∀ B D S T H M : Nat, B ≤ 99 → D ≤ 99 → S ≤ 99 → T ≤ 5 → H ≤ 100 → M ≤ 9 →
  tv gM i 0 (nm (i32 B) (i32 D) (i32 S) (i32 T) (i32 H) (i32 M)) = i32 (reB sa B T) ∧ tv gM i 1 (nm (i32 B) (i32 D) (i32 S) (i32 T) (i32 H) (i32 M)) = i32 (coB sa D S) ∧
  tv gM i 2 (nm (i32 0) (i32 0) (i32 S) (i32 T) (i32 H) (i32 0)) = i32 (faB sa S T H)
theorem TXS_fr {sa : SA} {i : Nat} {gM gM' : Mem} (h : TXS sa i gM) (c : gM'.1 7 = gM.1 7) (d : gM'.1 8 = gM.1 8) : TXS sa i gM' := by
  intro B D S T H M hB hD hS hT hH hM
  rw [tv_fr c d, tv_fr c d, tv_fr c d]
  exact h B D S T H M hB hD hS hT hH hM
theorem SV0_e {sa : SA} {i d : Nat} {s : LST} {gM : Mem} (x : TXS sa i gM) (m : LM d s gM) (b : LB s) {p k : Nat} (hp : p < d) (hk : k < 12) : SV gM i 0 p k = i32 (reB sa (s 0 p) (s 4 k)) ∧ SV gM i 1 p k = i32 (coB sa (s 6 k) (s 5 k)) := by
  have e := x (s 0 p) (s 6 k) (s 5 k) (s 4 k) (s 9 0) (s 3 p) (b 0 p) (b 6 k) (b 5 k) (b 4 k) (b 9 0) (b 3 p)
  unfold SV
  rw [lm_br m p hp, lm_dp m k hk, lm_st m k hk, lm_so m k hk, lm_h m, lm_mo m p hp]
  exact ⟨e.1, e.2.1⟩
theorem FV_e {sa : SA} {i : Nat} {gM : Mem} (x : TXS sa i gM) {w t h : Nat} (hw : w ≤ 99) (ht : t < 6) (hh : h ≤ 100) : FV gM i (i32 w) (i32 t) (i32 h) = i32 (faB sa w t h) :=
  (x 0 0 w t h 0 (by omega) (by omega) hw (by omega) hh (by omega)).2.2
theorem RV_e {sa : SA} {i d : Nat} {s : LST} {gM : Mem} (x : TXS sa i gM) (m : LM d s gM) (b : LB s) {p k : Nat} (hp : p < d) (hk : k < 12) : RV gM i p k = i32 (reN sa s p k) := by
  have e := (SV0_e x m b hp hk).1
  have n := reB_le (sa := sa) (T := s 4 k) (lb_br b p)
  have n3 := lb_mo b p
  have v2 := lm_kd m p hp
  have v3 := lm_mo m p hp
  rcases kd_6 b p with z | z | z | z | z | z <;>
  simp -dsimp -implicitDefEqProofs (disch := omega) only [RV, reN, e, v2, v3, z, i32_divz, i32_lit, i32_add, i32_mul, i32_tn, i32_sub, le_t, le_f, lt_t, lt_f, eq_t, eq_f, eq_rfl, inR_t, ↓ob_x, obx_s, ↓bnd_s, ↓oT_x, oTx_s, ↓ite_x, itx_T, itx_F, ↓reduceIte, not_true_eq_false, not_false_eq_true, true_and, and_true, Nat.reduceAdd, Nat.reduceMul, Nat.reduceSub, Nat.reduceEqDiff, isB0, isB1, Int32.neg_neg, Nat.zero_add, Nat.add_zero, Nat.mul_zero, Nat.mul_one, Nat.zero_mul]
theorem CoV_e {sa : SA} {i d : Nat} {s : LST} {gM : Mem} (x : TXS sa i gM) (m : LM d s gM) (b : LB s) {p k : Nat} (hp : p < d) (hk : k < 12) : CoV gM i p k = i32 (coN sa s p k) := by
  have e := (SV0_e x m b hp hk).2
  have n := coB_le (sa := sa) (D := s 6 k) (S := s 5 k)
  have n3 := lb_mo b p
  have n4 := lb_so b k
  have n9 := lb_h b
  have v2 := lm_kd m p hp
  have v3 := lm_mo m p hp
  have v4 := lm_so m k hk
  have v9 := lm_h m
  have hm := Nat.mod_lt (s 9 0) (show 0 < 4 by omega)
  rcases kd_6 b p with z | z | z | z | z | z <;> by_cases t : s 4 k = 0 <;> by_cases u : s 9 0 % 4 = 0 <;>
  simp -dsimp -implicitDefEqProofs (disch := omega) only [CoV, coN, e, v2, v3, v4, v9, z, t, u, i32_divz, sub_dm, i32_lit, i32_add, i32_mul, i32_tn, i32_sub, le_t, le_f, lt_t, lt_f, eq_t, eq_f, eq_rfl, inR_t, ↓ob_x, obx_s, ↓bnd_s, ↓oT_x, oTx_s, ↓ite_x, itx_T, itx_F, ↓reduceIte, not_true_eq_false, not_false_eq_true, true_and, and_true, Nat.reduceAdd, Nat.reduceMul, Nat.reduceSub, Nat.reduceEqDiff, isB0, isB1, Int32.neg_neg, Nat.zero_add, Nat.add_zero, Nat.mul_zero, Nat.mul_one, Nat.zero_mul]
theorem canV_e {sa : SA} {i d : Nat} {s : LST} {gM : Mem} (x : TXS sa i gM) (m : LM d s gM) (b : LB s) {p k : Nat} (hp : p < d) (hk : k < 12) : canV gM i p k = caN sa s p k := by
  have e1 := RV_e x m b hp hk
  have e2 := CoV_e x m b hp hk
  have v0 := lm_br m p hp
  have v6 := lm_dp m k hk
  have v7 := lm_pl m k hk
  have n0 := lb_br b p
  have n6 := lb_dp b k
  have n7 := lb_pl b k
  have r1 := reN_le (sa := sa) b p k
  have r2 := coN_le (sa := sa) b p k
  by_cases c1 : s 7 k = 0 <;> by_cases c2 : reN sa s p k < s 6 k <;> by_cases c3 : s 0 p < coN sa s p k <;>
  simp -dsimp -implicitDefEqProofs (disch := omega) only [canV, caN, e1, e2, v0, v6, v7, c1, c2, c3, i32_lit, i32_add, i32_mul, i32_tn, i32_sub, le_t, le_f, lt_t, lt_f, eq_t, eq_f, eq_rfl, inR_t, ↓ob_x, obx_s, ↓bnd_s, ↓oT_x, oTx_s, ↓ite_x, itx_T, itx_F, ↓reduceIte, not_true_eq_false, not_false_eq_true, true_and, and_true, Nat.reduceAdd, Nat.reduceMul, Nat.reduceSub, Nat.reduceEqDiff, isB0, isB1, Int32.neg_neg, Nat.zero_add, Nat.add_zero, Nat.mul_zero, Nat.mul_one, Nat.zero_mul]
theorem bitF_congr {c c' : Nat → Nat} (h : ∀ k, k < 12 → c k = c' k) : ∀ (n j : Nat) (x : Int32), j + n = 12 → bitF c j n x = bitF c' j n x
  | 0, j, x, _ => rfl
  | n + 1, j, x, e => by
    rw [bitF, bitF, h j (by omega)]
    exact bitF_congr h n (j + 1) _ (by omega)
theorem bits_e {sa : SA} {i d : Nat} {s : LST} {gM : Mem} (x : TXS sa i gM) (m : LM d s gM) (b : LB s) {p : Nat} (hp : p < d) : bitF (canV gM i p) 0 12 (i32 0) = bitF (caN sa s p) 0 12 (i32 0) :=
  bitF_congr (fun k hk => canV_e x m b hp hk) 12 0 _ (by omega)
theorem brK_e {d : Nat} {s : LST} {gM : Mem} (m : LM d s gM) (b : LB s) {p : Nat} (hp : p < d) : brK (gM.1 1 p) (gM.1 2 p) = i32 (kbN s p) := by
  have v2 := lm_kd m p hp
  have v3 := lm_mo m p hp
  have n3 := lb_mo b p
  rcases kd_6 b p with z | z | z | z | z | z <;>
  simp -dsimp -implicitDefEqProofs (disch := omega) only [brK, kbN, v2, v3, z, i32_lit, i32_add, i32_mul, i32_tn, i32_sub, le_t, le_f, lt_t, lt_f, eq_t, eq_f, eq_rfl, inR_t, ↓ob_x, obx_s, ↓bnd_s, ↓oT_x, oTx_s, ↓ite_x, itx_T, itx_F, ↓reduceIte, not_true_eq_false, not_false_eq_true, true_and, and_true, Nat.reduceAdd, Nat.reduceMul, Nat.reduceSub, Nat.reduceEqDiff, isB0, isB1, Int32.neg_neg, Nat.zero_add, Nat.add_zero, Nat.mul_zero, Nat.mul_one, Nat.zero_mul]
theorem cl_e {n : Nat} (h : n < 100000) : cl (i32 n) = i32 (mi99 n) := by
  unfold cl mi99
  by_cases c : n < 99
  · by_cases z : 0 < n
    · simp -dsimp -implicitDefEqProofs (disch := omega) only [c, z, i32_lit, i32_add, i32_mul, i32_tn, i32_sub, le_t, le_f, lt_t, lt_f, eq_t, eq_f, eq_rfl, inR_t, ↓ob_x, obx_s, ↓bnd_s, ↓oT_x, oTx_s, ↓ite_x, itx_T, itx_F, ↓reduceIte, not_true_eq_false, not_false_eq_true, true_and, and_true, Nat.reduceAdd, Nat.reduceMul, Nat.reduceSub, Nat.reduceEqDiff, isB0, isB1, Int32.neg_neg, Nat.zero_add, Nat.add_zero, Nat.mul_zero, Nat.mul_one, Nat.zero_mul]
    · have : n = 0 := by omega
      subst this
      rfl
  · simp -dsimp -implicitDefEqProofs (disch := omega) only [c, i32_lit, i32_add, i32_mul, i32_tn, i32_sub, le_t, le_f, lt_t, lt_f, eq_t, eq_f, eq_rfl, inR_t, ↓ob_x, obx_s, ↓bnd_s, ↓oT_x, oTx_s, ↓ite_x, itx_T, itx_F, ↓reduceIte, not_true_eq_false, not_false_eq_true, true_and, and_true, Nat.reduceAdd, Nat.reduceMul, Nat.reduceSub, Nat.reduceEqDiff, isB0, isB1, Int32.neg_neg, Nat.zero_add, Nat.add_zero, Nat.mul_zero, Nat.mul_one, Nat.zero_mul]
theorem mx_sub {a b : Nat} (ha : a < 100000) (hb : b < 100000) : mx (i32 a - i32 b) = i32 (a - b) := by
  by_cases h : b < a
  · rw [i32_sub (by omega)]
    unfold mx; simp -dsimp -implicitDefEqProofs (disch := omega) only [i32_lit, i32_add, i32_mul, i32_tn, i32_sub, le_t, le_f, lt_t, lt_f, eq_t, eq_f, eq_rfl, inR_t, ↓ob_x, obx_s, ↓bnd_s, ↓oT_x, oTx_s, ↓ite_x, itx_T, itx_F, ↓reduceIte, not_true_eq_false, not_false_eq_true, true_and, and_true, Nat.reduceAdd, Nat.reduceMul, Nat.reduceSub, Nat.reduceEqDiff, isB0, isB1, Int32.neg_neg, Nat.zero_add, Nat.add_zero, Nat.mul_zero, Nat.mul_one, Nat.zero_mul]
  · unfold mx
    by_cases e : a = b
    · subst e
      rw [i32_sub (by omega), Nat.sub_self]; rfl
    · rw [show a - b = 0 by omega]
      rw [if_neg]
      intro q
      have q' := Int32.lt_iff_toInt_lt.mp q
      have e1 : i32 a - i32 b = -(i32 (b - a)) := by
        have : i32 b = i32 a + i32 (b - a) := by rw [i32_add]; congr 1; omega
        rw [this, Int32.sub_eq_add_neg, Int32.neg_add, Int32.sub_eq_add_neg, ← Int32.add_assoc, Int32.add_right_neg, Int32.zero_add]
      rw [e1, i32_negI (by omega), i32_toInt (by omega)] at q'
      omega
theorem brW_e {d : Nat} {s : LST} {gM : Mem} (m : LM d s gM) (b : LB s) {p : Nat} (hp : p < d) : brW gM p = i32 (mi99 (s 0 p + kbN s p)) := by
  have n0 := lb_br b p
  have n1 := kb_le b p
  unfold brW
  rw [brK_e m b hp, lm_br m p hp, i32_add, cl_e (by omega)]
theorem fdW_e {sa : SA} {i d : Nat} {s : LST} {gM : Mem} (x : TXS sa i gM) (m : LM d s gM) (b : LB s) {t : Nat} (ht : t < 6) : fdW gM i (gM.1 5 t) (i32 t) (gM.1 0 6) = i32 (s 8 t - faB sa (s 8 t) t (s 9 0)) := by
  have n8 := lb_sk b t
  have n1 := fa_le (sa := sa) (w := s 8 t) (h := s 9 0) ht
  unfold fdW
  rw [lm_sk m t ht, lm_h m, FV_e x (b 8 t) ht (b 9 0), mx_sub (by omega) (by omega)]
theorem fairV_e {d : Nat} {s : LST} {gM : Mem} (m : LM d s gM) (b : LB s) : (fairV gM).toInt64 = j64 (fairZ s) := by
  have n0 := lb_sk b 0
  have n3 := lb_sk b 3
  have n2 := lb_sk b 2
  have n5 := lb_sk b 5
  unfold fairV fairZ
  rw [lm_sk m 0 (by omega), lm_sk m 3 (by omega), lm_sk m 2 (by omega), lm_sk m 5 (by omega), i32_add, i32_mul]
  apply Int64.toInt_inj.mp
  rw [Int32.toInt_toInt64, j64_toInt (by omega), Int32.toInt_sub, Int32.toInt_sub, i32_toInt (by omega), i32_toInt (by omega), i32_toInt (by omega), Int.bmod_eq_of_le (n := ((s 8 0 + s 8 3 : Nat) : Int) - (s 8 2 : Nat)) (by omega) (by omega), Int.bmod_eq_of_le (by omega) (by omega)]
  omega
