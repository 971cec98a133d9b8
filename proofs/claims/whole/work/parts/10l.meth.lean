theorem think {N d i c : Nat} (hN : 6000 ≤ N) {gI gM : Mem} (h : RR d i c gI gM) : ∃ g1 m1, X1_becomes N 52 42 gI = some (i32 0, g1) ∧ X6_keeps N gM = some (i32 0, m1) ∧ Sc 52 d i g1 m1 ∧ Bd d m1 ∧ Bg 52 g1 m1 ∧ FI 52 gI g1 ∧ KP 67 gM m1 := by
  obtain ⟨⟨hS, hB, hG, hH⟩, _⟩ := h
  obtain ⟨m1, k1, k2⟩ := keeps_M hN gM
  obtain ⟨g1, r1, r2, r3⟩ := becomes_I (N := N) (b := 52) (a := 42) (i := i) (gI := gI) (by omega) hS.2.2.2.2.2.2.2.2.2.2.2.2.1 hS.1.2.2
  have m : LkM d gM m1 := ⟨fun _ _ => by rw [k2.1 3 (by omega)], fun _ _ => by rw [k2.1 4 (by omega)], fun _ _ => by rw [k2.1 5 (by omega)], by rw [k2.1 0 (by omega)], by rw [k2.1 0 (by omega)], by rw [k2.1 0 (by omega)], fun _ _ => by rw [k2.1 1 (by omega)], fun _ _ => by rw [k2.1 2 (by omega)], k2.1 7 (by omega), k2.1 8 (by omega)⟩
  have l : LkI 52 g1 g1 := ⟨fun _ _ _ => rfl, rfl, fun _ _ => ⟨rfl, rfl⟩⟩
  exact ⟨g1, m1, r1, k1, Sc_Lk (Sc_LK hS (by omega) r2 r3) l m (Nat.le_refl d), Bd_Lk hB m (Nat.le_refl d), Bg_Lk (Bg_LK hG r3) l m, r2, k2⟩
theorem laid {N : Nat} (hN : 6000 ≤ N) {gM m1 m2 : Mem} (k : KP 67 gM m1) (f : FM m1 m2) : ∃ m3, X6_lays N m2 = some (i32 0, m3) ∧ EqM gM m3 := by
  obtain ⟨m3, r1, r2⟩ := lays_M hN m2
  exact ⟨m3, r1, EqM_back k f r2⟩
theorem Out_c {a : Int32} {c : Nat} (h : Out a c) (hc : 0 < c) : Out a (c - 1 + 1) := by
  rw [Nat.sub_add_cancel hc]; exact h
set_option maxRecDepth 100000 in
theorem e_force {N : Nat} (hN : 6000 ≤ N) {gI gM : Mem} (h : R gI gM) (a : Int32) : EQ (X5_force N a gI) (X6_force N a gM) := by
  obtain ⟨d, i, c, hR⟩ := h
  obtain ⟨⟨hS, hB, hG, hH⟩, hT, hP, hSh, hK⟩ := id hR
  obtain ⟨⟨a0_, hd6, hi6⟩, s1_, s2_, s3_, s4_, s5_, s6_, b7, b8, s9_, s10_, b11, b12, b13, b14⟩ := id hS
  have b1 : ∀ t, t < 6 → gI.1 43 t = gM.1 5 t := s1_
  have b2 : ∀ k, k < 12 → gI.1 44 k = gM.1 4 (4 * k) := s2_
  have b3 : ∀ k, k < 12 → gI.1 45 k = gM.1 4 (4 * k + 1) := s3_
  have b4 : ∀ k, k < 12 → gI.1 46 k = gM.1 4 (4 * k + 2) := s4_
  have b5 : ∀ k, k < 12 → gI.1 47 k = gM.1 4 (4 * k + 3) := s5_
  have b6 : ∀ p, p < 6 → gI.1 50 p = gM.1 3 (2 * p) := s6_
  have b9 : ∀ p, p < d → gI.1 48 p = gM.1 1 p := s9_
  have b10 : ∀ p, p < d → gI.1 49 p = gM.1 2 p := s10_
  have bG : ∀ p, p < 6 → gI.1 51 p = gM.1 3 (2 * p + 1) := hG
  clear s1_ s2_ s3_ s4_ s5_ s6_ s9_ s10_
  obtain ⟨u1, u2, u3, u4, u5, u6⟩ := id hT
  rcases rg a c (by omega) with ⟨n, hn, rfl⟩ | o
  · refine ⟨i32 i, stR gI 42 (4 + 5 * n), stI gM 0 12 (i32 n), by simp -dsimp -implicitDefEqProofs (disch := omega) only [X5_force, u3, isW_t, b12, u5, i32_lit, i32_add, i32_mul, i32_tn, i32_sub, le_t, le_f, lt_t, lt_f, eq_t, eq_f, eq_rfl, inR_t, ↓ob_x, obx_s, ↓bnd_s, ↓oT_x, oTx_s, ↓ite_x, itx_T, itx_F, ↓reduceIte, not_true_eq_false, not_false_eq_true, true_and, and_true, Nat.reduceAdd, Nat.reduceMul, Nat.reduceSub, Nat.reduceEqDiff, isB0, isB1, Int32.neg_neg, Nat.zero_add, Nat.add_zero, Nat.mul_zero, Nat.mul_one, Nat.zero_mul], by simp -dsimp -implicitDefEqProofs (disch := omega) only [X6_force, u4, in_t, b13, i32_lit, i32_add, i32_mul, i32_tn, i32_sub, le_t, le_f, lt_t, lt_f, eq_t, eq_f, eq_rfl, inR_t, ↓ob_x, obx_s, ↓bnd_s, ↓oT_x, oTx_s, ↓ite_x, itx_T, itx_F, ↓reduceIte, not_true_eq_false, not_false_eq_true, true_and, and_true, Nat.reduceAdd, Nat.reduceMul, Nat.reduceSub, Nat.reduceEqDiff, isB0, isB1, Int32.neg_neg, Nat.zero_add, Nat.add_zero, Nat.mul_zero, Nat.mul_one, Nat.zero_mul], d, n, c, ?_⟩
    have f : ∀ e, ¬ e = 0 → (stI gM 0 12 (i32 n)).1 e = gM.1 e := fun e he => stI_ne _ _ _ _ _ he
    have v : VI gI (stR gI 42 (4 + 5 * n)) := ⟨fun _ _ _ => rfl, fun e he => by rw [stR_2, if_neg (by omega)]⟩
    have w : VM d gM (stI gM 0 12 (i32 n)) := ⟨fun e he _ _ _ _ _ _ _ _ => f e he, fun j hj => stI_nj _ _ _ _ _ (by omega), fun p _ => ⟨by rw [f 1 (by omega)], by rw [f 2 (by omega)]⟩⟩
    obtain ⟨⟨p0, p1, p2⟩, q1, q2, q3, q4, q5, q6, q7, q8, q9, q10, q11, q12, q13, q14⟩ := hS
    have T := Tq_fr hT v w
    refine ⟨⟨⟨⟨p0, p1, by omega⟩, ?_, ?_, ?_, ?_, ?_, ?_, q7, ?_, ?_, ?_, ?_, ?_, stI_eq _ _ _ _, T.2.2.2.2.2 n hn⟩, ?_, ?_, ?_⟩, ⟨hn, T.2⟩, Tp_fr hP v w, Sh_fr hSh v w, Kp_fr hK v w (Nat.le_refl d) (Nat.le_refl d)⟩
    · rw [f 5 (by omega)]; exact q1
    · rw [f 4 (by omega)]; exact q2
    · rw [f 4 (by omega)]; exact q3
    · rw [f 4 (by omega)]; exact q4
    · rw [f 4 (by omega)]; exact q5
    · rw [f 3 (by omega)]; exact q6
    · rw [stI_nj _ _ _ _ _ (by omega)]; exact q8
    · rw [f 1 (by omega)]; exact q9
    · rw [f 2 (by omega)]; exact q10
    · rw [stI_nj _ _ _ _ _ (by omega)]; exact q11
    · rw [stR_2, if_pos rfl]
    · unfold Bd
      rw [f 5 (by omega), f 4 (by omega), f 3 (by omega), f 1 (by omega), f 2 (by omega)]; exact hB
    · intro p hp
      rw [f 3 (by omega)]; exact hG p hp
    · rw [stI_nj _ _ _ _ _ (by omega)]; exact hH
  · have o' := Out_c o (by omega)
    exact ⟨-2, gI, gM, by simp -dsimp -implicitDefEqProofs (disch := omega) only [X5_force, u3, isW_f gI (by omega : c - 1 < 1000000) o', i32_lit, i32_add, i32_mul, i32_tn, i32_sub, le_t, le_f, lt_t, lt_f, eq_t, eq_f, eq_rfl, inR_t, ↓ob_x, obx_s, ↓bnd_s, ↓oT_x, oTx_s, ↓ite_x, itx_T, itx_F, ↓reduceIte, not_true_eq_false, not_false_eq_true, true_and, and_true, Nat.reduceAdd, Nat.reduceMul, Nat.reduceSub, Nat.reduceEqDiff, isB0, isB1, Int32.neg_neg, Nat.zero_add, Nat.add_zero, Nat.mul_zero, Nat.mul_one, Nat.zero_mul], by simp -dsimp -implicitDefEqProofs (disch := omega) only [X6_force, u4, in_f gM (by omega : c - 1 < 1000000) o', i32_lit, i32_add, i32_mul, i32_tn, i32_sub, le_t, le_f, lt_t, lt_f, eq_t, eq_f, eq_rfl, inR_t, ↓ob_x, obx_s, ↓bnd_s, ↓oT_x, oTx_s, ↓ite_x, itx_T, itx_F, ↓reduceIte, not_true_eq_false, not_false_eq_true, true_and, and_true, Nat.reduceAdd, Nat.reduceMul, Nat.reduceSub, Nat.reduceEqDiff, isB0, isB1, Int32.neg_neg, Nat.zero_add, Nat.add_zero, Nat.mul_zero, Nat.mul_one, Nat.zero_mul], d, i, c, hR⟩
set_option maxRecDepth 100000 in
theorem e_asks {N : Nat} (hN : 6000 ≤ N) {gI gM : Mem} (h : R gI gM) (a1 a2 a3 : Int32) : EQ (X5_asks N a1 a2 a3 gI) (X6_asks N a1 a2 a3 gM) := by
  obtain ⟨d, i, c, hR⟩ := h
  obtain ⟨⟨hS, hB, hG, hH⟩, hT, hP, hSh, hK⟩ := id hR
  obtain ⟨⟨a0_, hd6, hi6⟩, s1_, s2_, s3_, s4_, s5_, s6_, b7, b8, s9_, s10_, b11, b12, b13, b14⟩ := id hS
  have b1 : ∀ t, t < 6 → gI.1 43 t = gM.1 5 t := s1_
  have b2 : ∀ k, k < 12 → gI.1 44 k = gM.1 4 (4 * k) := s2_
  have b3 : ∀ k, k < 12 → gI.1 45 k = gM.1 4 (4 * k + 1) := s3_
  have b4 : ∀ k, k < 12 → gI.1 46 k = gM.1 4 (4 * k + 2) := s4_
  have b5 : ∀ k, k < 12 → gI.1 47 k = gM.1 4 (4 * k + 3) := s5_
  have b6 : ∀ p, p < 6 → gI.1 50 p = gM.1 3 (2 * p) := s6_
  have b9 : ∀ p, p < d → gI.1 48 p = gM.1 1 p := s9_
  have b10 : ∀ p, p < d → gI.1 49 p = gM.1 2 p := s10_
  have bG : ∀ p, p < 6 → gI.1 51 p = gM.1 3 (2 * p + 1) := hG
  clear s1_ s2_ s3_ s4_ s5_ s6_ s9_ s10_
  have no : ∀ (p1 : ¬ a1 = i32 2) (p2 : X5_asks N a1 a2 a3 gI = some (-1000, gI)) (p3 : X6_asks N a1 a2 a3 gM = some (-1000, gM)), EQ (X5_asks N a1 a2 a3 gI) (X6_asks N a1 a2 a3 gM) := fun _ p2 p3 => ⟨-1000, gI, gM, p2, p3, d, i, c, hR⟩
  by_cases h2 : a1 = i32 2
  · subst h2
    rcases rg a3 6 (by omega) with ⟨t, ht, rfl⟩ | o
    · obtain ⟨g1, r1, r2⟩ := fading_I (b := 42) hN b14 hi6 b12 (gM.1 5 t) (i32 t) (gM.1 0 6)
      obtain ⟨m1, s1, s2⟩ := asks2_M hN b14 hi6 b13 a2 ht
      exact ⟨FV gM i (gM.1 5 t) (i32 t) (gM.1 0 6), g1, m1, by simp -dsimp -implicitDefEqProofs (disch := omega) only [X5_asks, isS_t, b1, b11, r1, i32_lit, i32_add, i32_mul, i32_tn, i32_sub, le_t, le_f, lt_t, lt_f, eq_t, eq_f, eq_rfl, inR_t, ↓ob_x, obx_s, ↓bnd_s, ↓oT_x, oTx_s, ↓ite_x, itx_T, itx_F, ↓reduceIte, not_true_eq_false, not_false_eq_true, true_and, and_true, Nat.reduceAdd, Nat.reduceMul, Nat.reduceSub, Nat.reduceEqDiff, isB0, isB1, Int32.neg_neg, Nat.zero_add, Nat.add_zero, Nat.mul_zero, Nat.mul_one, Nat.zero_mul], by simp -dsimp -implicitDefEqProofs (disch := omega) only [X6_asks, mS_t, s1, i32_lit, i32_add, i32_mul, i32_tn, i32_sub, le_t, le_f, lt_t, lt_f, eq_t, eq_f, eq_rfl, inR_t, ↓ob_x, obx_s, ↓bnd_s, ↓oT_x, oTx_s, ↓ite_x, itx_T, itx_F, ↓reduceIte, not_true_eq_false, not_false_eq_true, true_and, and_true, Nat.reduceAdd, Nat.reduceMul, Nat.reduceSub, Nat.reduceEqDiff, isB0, isB1, Int32.neg_neg, Nat.zero_add, Nat.add_zero, Nat.mul_zero, Nat.mul_one, Nat.zero_mul], d, i, c, RR_S hR r2 s2⟩
    · exact ⟨-1000, gI, gM, by simp -dsimp -implicitDefEqProofs (disch := omega) only [X5_asks, isS_f gI o, i32_lit, i32_add, i32_mul, i32_tn, i32_sub, le_t, le_f, lt_t, lt_f, eq_t, eq_f, eq_rfl, inR_t, ↓ob_x, obx_s, ↓bnd_s, ↓oT_x, oTx_s, ↓ite_x, itx_T, itx_F, ↓reduceIte, not_true_eq_false, not_false_eq_true, true_and, and_true, Nat.reduceAdd, Nat.reduceMul, Nat.reduceSub, Nat.reduceEqDiff, isB0, isB1, Int32.neg_neg, Nat.zero_add, Nat.add_zero, Nat.mul_zero, Nat.mul_one, Nat.zero_mul], by simp -dsimp -implicitDefEqProofs (disch := omega) only [X6_asks, mS_f gM o, i32_lit, i32_add, i32_mul, i32_tn, i32_sub, le_t, le_f, lt_t, lt_f, eq_t, eq_f, eq_rfl, inR_t, ↓ob_x, obx_s, ↓bnd_s, ↓oT_x, oTx_s, ↓ite_x, itx_T, itx_F, ↓reduceIte, not_true_eq_false, not_false_eq_true, true_and, and_true, Nat.reduceAdd, Nat.reduceMul, Nat.reduceSub, Nat.reduceEqDiff, isB0, isB1, Int32.neg_neg, Nat.zero_add, Nat.add_zero, Nat.mul_zero, Nat.mul_one, Nat.zero_mul], d, i, c, hR⟩
  · rcases rg a2 d (by omega) with ⟨p, hp, rfl⟩ | o2
    · rcases rg a3 12 (by omega) with ⟨k, hk, rfl⟩ | o3
      · rcases rg a1 2 (by omega) with ⟨q, hq, rfl⟩ | o1
        · obtain ⟨m1, s1, s2⟩ := asks_M (q := q) (p := p) (k := k) hN b14 hi6 b13 hq (by omega) hk
          rcases (by omega : q = 0 ∨ q = 1) with rfl | rfl
          · obtain ⟨g1, r1, r2⟩ := saidR_I hN hS hp hk
            exact ⟨SV gM i 0 p k, g1, m1, by simp -dsimp -implicitDefEqProofs (disch := omega) only [X5_asks, isD_t b7 hp hd6, isK_t, r1, i32_lit, i32_add, i32_mul, i32_tn, i32_sub, le_t, le_f, lt_t, lt_f, eq_t, eq_f, eq_rfl, inR_t, ↓ob_x, obx_s, ↓bnd_s, ↓oT_x, oTx_s, ↓ite_x, itx_T, itx_F, ↓reduceIte, not_true_eq_false, not_false_eq_true, true_and, and_true, Nat.reduceAdd, Nat.reduceMul, Nat.reduceSub, Nat.reduceEqDiff, isB0, isB1, Int32.neg_neg, Nat.zero_add, Nat.add_zero, Nat.mul_zero, Nat.mul_one, Nat.zero_mul], by simp -dsimp -implicitDefEqProofs (disch := omega) only [X6_asks, in_t, mO_t b8 hp hd6, mK_t, s1, i32_lit, i32_add, i32_mul, i32_tn, i32_sub, le_t, le_f, lt_t, lt_f, eq_t, eq_f, eq_rfl, inR_t, ↓ob_x, obx_s, ↓bnd_s, ↓oT_x, oTx_s, ↓ite_x, itx_T, itx_F, ↓reduceIte, not_true_eq_false, not_false_eq_true, true_and, and_true, Nat.reduceAdd, Nat.reduceMul, Nat.reduceSub, Nat.reduceEqDiff, isB0, isB1, Int32.neg_neg, Nat.zero_add, Nat.add_zero, Nat.mul_zero, Nat.mul_one, Nat.zero_mul], d, i, c, RR_S hR r2 s2⟩
          · obtain ⟨g1, r1, r2⟩ := saidC_I hN hS hp hk
            exact ⟨SV gM i 1 p k, g1, m1, by simp -dsimp -implicitDefEqProofs (disch := omega) only [X5_asks, isD_t b7 hp hd6, isK_t, r1, i32_lit, i32_add, i32_mul, i32_tn, i32_sub, le_t, le_f, lt_t, lt_f, eq_t, eq_f, eq_rfl, inR_t, ↓ob_x, obx_s, ↓bnd_s, ↓oT_x, oTx_s, ↓ite_x, itx_T, itx_F, ↓reduceIte, not_true_eq_false, not_false_eq_true, true_and, and_true, Nat.reduceAdd, Nat.reduceMul, Nat.reduceSub, Nat.reduceEqDiff, isB0, isB1, Int32.neg_neg, Nat.zero_add, Nat.add_zero, Nat.mul_zero, Nat.mul_one, Nat.zero_mul], by simp -dsimp -implicitDefEqProofs (disch := omega) only [X6_asks, in_t, mO_t b8 hp hd6, mK_t, s1, i32_lit, i32_add, i32_mul, i32_tn, i32_sub, le_t, le_f, lt_t, lt_f, eq_t, eq_f, eq_rfl, inR_t, ↓ob_x, obx_s, ↓bnd_s, ↓oT_x, oTx_s, ↓ite_x, itx_T, itx_F, ↓reduceIte, not_true_eq_false, not_false_eq_true, true_and, and_true, Nat.reduceAdd, Nat.reduceMul, Nat.reduceSub, Nat.reduceEqDiff, isB0, isB1, Int32.neg_neg, Nat.zero_add, Nat.add_zero, Nat.mul_zero, Nat.mul_one, Nat.zero_mul], d, i, c, RR_S hR r2 s2⟩
        · have n0 := Out_ne o1
          exact no h2 (by simp -dsimp -implicitDefEqProofs (disch := omega) only [X5_asks, h2, n0, isD_t b7 hp hd6, isK_t, i32_lit, i32_add, i32_mul, i32_tn, i32_sub, le_t, le_f, lt_t, lt_f, eq_t, eq_f, eq_rfl, inR_t, ↓ob_x, obx_s, ↓bnd_s, ↓oT_x, oTx_s, ↓ite_x, itx_T, itx_F, ↓reduceIte, not_true_eq_false, not_false_eq_true, true_and, and_true, Nat.reduceAdd, Nat.reduceMul, Nat.reduceSub, Nat.reduceEqDiff, isB0, isB1, Int32.neg_neg, Nat.zero_add, Nat.add_zero, Nat.mul_zero, Nat.mul_one, Nat.zero_mul]) (by simp -dsimp -implicitDefEqProofs (disch := omega) only [X6_asks, h2, in_f gM (by omega : 1 < 1000000) o1, i32_lit, i32_add, i32_mul, i32_tn, i32_sub, le_t, le_f, lt_t, lt_f, eq_t, eq_f, eq_rfl, inR_t, ↓ob_x, obx_s, ↓bnd_s, ↓oT_x, oTx_s, ↓ite_x, itx_T, itx_F, ↓reduceIte, not_true_eq_false, not_false_eq_true, true_and, and_true, Nat.reduceAdd, Nat.reduceMul, Nat.reduceSub, Nat.reduceEqDiff, isB0, isB1, Int32.neg_neg, Nat.zero_add, Nat.add_zero, Nat.mul_zero, Nat.mul_one, Nat.zero_mul])
      · refine no h2 (by simp -dsimp -implicitDefEqProofs (disch := omega) only [X5_asks, h2, isD_t b7 hp hd6, isK_f gI o3, i32_lit, i32_add, i32_mul, i32_tn, i32_sub, le_t, le_f, lt_t, lt_f, eq_t, eq_f, eq_rfl, inR_t, ↓ob_x, obx_s, ↓bnd_s, ↓oT_x, oTx_s, ↓ite_x, itx_T, itx_F, ↓reduceIte, not_true_eq_false, not_false_eq_true, true_and, and_true, Nat.reduceAdd, Nat.reduceMul, Nat.reduceSub, Nat.reduceEqDiff, isB0, isB1, Int32.neg_neg, Nat.zero_add, Nat.add_zero, Nat.mul_zero, Nat.mul_one, Nat.zero_mul]) ?_
        rcases rg a1 2 (by omega) with ⟨q, hq, rfl⟩ | o1
        · simp -dsimp -implicitDefEqProofs (disch := omega) only [X6_asks, h2, in_t, mO_t b8 hp hd6, mK_f gM o3, i32_lit, i32_add, i32_mul, i32_tn, i32_sub, le_t, le_f, lt_t, lt_f, eq_t, eq_f, eq_rfl, inR_t, ↓ob_x, obx_s, ↓bnd_s, ↓oT_x, oTx_s, ↓ite_x, itx_T, itx_F, ↓reduceIte, not_true_eq_false, not_false_eq_true, true_and, and_true, Nat.reduceAdd, Nat.reduceMul, Nat.reduceSub, Nat.reduceEqDiff, isB0, isB1, Int32.neg_neg, Nat.zero_add, Nat.add_zero, Nat.mul_zero, Nat.mul_one, Nat.zero_mul]
        · simp -dsimp -implicitDefEqProofs (disch := omega) only [X6_asks, h2, in_f gM (by omega : 1 < 1000000) o1, i32_lit, i32_add, i32_mul, i32_tn, i32_sub, le_t, le_f, lt_t, lt_f, eq_t, eq_f, eq_rfl, inR_t, ↓ob_x, obx_s, ↓bnd_s, ↓oT_x, oTx_s, ↓ite_x, itx_T, itx_F, ↓reduceIte, not_true_eq_false, not_false_eq_true, true_and, and_true, Nat.reduceAdd, Nat.reduceMul, Nat.reduceSub, Nat.reduceEqDiff, isB0, isB1, Int32.neg_neg, Nat.zero_add, Nat.add_zero, Nat.mul_zero, Nat.mul_one, Nat.zero_mul]
    · refine no h2 (by simp -dsimp -implicitDefEqProofs (disch := omega) only [X5_asks, h2, isD_f b7 o2 hd6, i32_lit, i32_add, i32_mul, i32_tn, i32_sub, le_t, le_f, lt_t, lt_f, eq_t, eq_f, eq_rfl, inR_t, ↓ob_x, obx_s, ↓bnd_s, ↓oT_x, oTx_s, ↓ite_x, itx_T, itx_F, ↓reduceIte, not_true_eq_false, not_false_eq_true, true_and, and_true, Nat.reduceAdd, Nat.reduceMul, Nat.reduceSub, Nat.reduceEqDiff, isB0, isB1, Int32.neg_neg, Nat.zero_add, Nat.add_zero, Nat.mul_zero, Nat.mul_one, Nat.zero_mul]) ?_
      rcases rg a1 2 (by omega) with ⟨q, hq, rfl⟩ | o1
      · simp -dsimp -implicitDefEqProofs (disch := omega) only [X6_asks, h2, in_t, mO_f b8 o2 hd6, i32_lit, i32_add, i32_mul, i32_tn, i32_sub, le_t, le_f, lt_t, lt_f, eq_t, eq_f, eq_rfl, inR_t, ↓ob_x, obx_s, ↓bnd_s, ↓oT_x, oTx_s, ↓ite_x, itx_T, itx_F, ↓reduceIte, not_true_eq_false, not_false_eq_true, true_and, and_true, Nat.reduceAdd, Nat.reduceMul, Nat.reduceSub, Nat.reduceEqDiff, isB0, isB1, Int32.neg_neg, Nat.zero_add, Nat.add_zero, Nat.mul_zero, Nat.mul_one, Nat.zero_mul]
      · simp -dsimp -implicitDefEqProofs (disch := omega) only [X6_asks, h2, in_f gM (by omega : 1 < 1000000) o1, i32_lit, i32_add, i32_mul, i32_tn, i32_sub, le_t, le_f, lt_t, lt_f, eq_t, eq_f, eq_rfl, inR_t, ↓ob_x, obx_s, ↓bnd_s, ↓oT_x, oTx_s, ↓ite_x, itx_T, itx_F, ↓reduceIte, not_true_eq_false, not_false_eq_true, true_and, and_true, Nat.reduceAdd, Nat.reduceMul, Nat.reduceSub, Nat.reduceEqDiff, isB0, isB1, Int32.neg_neg, Nat.zero_add, Nat.add_zero, Nat.mul_zero, Nat.mul_one, Nat.zero_mul]
set_option maxRecDepth 100000 in
theorem diver_RR {d i c : Nat} {gI gM : Mem} (hR : RR d i c gI gM) (hd : d < 6) (k m v : Nat) (hk : k ≤ 5) (hm : m ≤ 9) (hv : v ≤ 99) :
    RR (d + 1) i c (stI (stI (stI (stI (stI gI 48 d (i32 k)) 49 d (i32 m)) 50 d (i32 v)) 51 d (i32 0)) 42 9 (i32 (d + 1))) (stI (stI (stI (stI (stI gM 1 d (i32 k)) 2 d (i32 m)) 3 (2 * d) (i32 v)) 3 (2 * d + 1) (i32 0)) 0 0 (i32 (d + 1))) := by
  obtain ⟨⟨hS, hB, hG, hH⟩, hT, hP, hSh, hK⟩ := hR
  obtain ⟨⟨p0, p1, p2⟩, q1, q2, q3, q4, q5, q6, q7, q8, q9, q10, q11, q12, q13, q14⟩ := hS
  obtain ⟨w1, w2, w3, w4, w5, w6, w7, w8⟩ := hB
  have v0 : VI gI (stI (stI (stI (stI (stI gI 48 d (i32 k)) 49 d (i32 m)) 50 d (i32 v)) 51 d (i32 0)) 42 9 (i32 (d + 1))) := ⟨fun e h1 h2 => by simp -dsimp -implicitDefEqProofs (disch := omega) only [stI_eq, stI_nj, stI_ne, stI_2, stA_eq, stA_ne, stA_2, stR_1, stR_2], fun _ _ => rfl⟩
  have w0 : VM d gM (stI (stI (stI (stI (stI gM 1 d (i32 k)) 2 d (i32 m)) 3 (2 * d) (i32 v)) 3 (2 * d + 1) (i32 0)) 0 0 (i32 (d + 1))) := ⟨fun e _ _ _ _ _ _ _ _ _ => by simp -dsimp -implicitDefEqProofs (disch := omega) only [stI_eq, stI_nj, stI_ne, stI_2, stA_eq, stA_ne, stA_2, stR_1, stR_2], fun j hj => by simp -dsimp -implicitDefEqProofs (disch := omega) only [stI_eq, stI_nj, stI_ne, stI_2, stA_eq, stA_ne, stA_2, stR_1, stR_2], fun p hp => ⟨by simp -dsimp -implicitDefEqProofs (disch := omega) only [stI_eq, stI_nj, stI_ne, stI_2, stA_eq, stA_ne, stA_2, stR_1, stR_2], by simp -dsimp -implicitDefEqProofs (disch := omega) only [stI_eq, stI_nj, stI_ne, stI_2, stA_eq, stA_ne, stA_2, stR_1, stR_2]⟩⟩
  have T := Tq_fr hT v0 w0
  refine ⟨⟨⟨⟨p0, by omega, p2⟩, ?_, ?_, ?_, ?_, ?_, fun p hp => ?_, ?_, ?_, fun p hp => ?_, fun p hp => ?_, ?_, q12, ?_, T.2.2.2.2.2 i T.1⟩, ⟨?_, ?_, ?_, ?_, ?_, fun p hp => ?_, fun p hp => ?_, fun p hp => ?_⟩, fun p hp => ?_, ?_⟩, T, Tp_fr hP v0 w0, Sh_fr hSh v0 w0, Kp_fr hK v0 w0 (Nat.le_refl d) (Nat.le_succ d)⟩
  · simp -dsimp -implicitDefEqProofs (disch := omega) only [stI_eq, stI_nj, stI_ne, stI_2, stA_eq, stA_ne, stA_2, stR_1, stR_2]; exact q1
  · simp -dsimp -implicitDefEqProofs (disch := omega) only [stI_eq, stI_nj, stI_ne, stI_2, stA_eq, stA_ne, stA_2, stR_1, stR_2]; exact q2
  · simp -dsimp -implicitDefEqProofs (disch := omega) only [stI_eq, stI_nj, stI_ne, stI_2, stA_eq, stA_ne, stA_2, stR_1, stR_2]; exact q3
  · simp -dsimp -implicitDefEqProofs (disch := omega) only [stI_eq, stI_nj, stI_ne, stI_2, stA_eq, stA_ne, stA_2, stR_1, stR_2]; exact q4
  · simp -dsimp -implicitDefEqProofs (disch := omega) only [stI_eq, stI_nj, stI_ne, stI_2, stA_eq, stA_ne, stA_2, stR_1, stR_2]; exact q5
  · by_cases e : p = d
    · subst e; simp -dsimp -implicitDefEqProofs (disch := omega) only [stI_eq, stI_nj, stI_ne, stI_2, stA_eq, stA_ne, stA_2, stR_1, stR_2]
    · simp -dsimp -implicitDefEqProofs (disch := omega) only [stI_eq, stI_nj, stI_ne, stI_2, stA_eq, stA_ne, stA_2, stR_1, stR_2]; exact q6 p hp
  · simp -dsimp -implicitDefEqProofs (disch := omega) only [stI_eq, stI_nj, stI_ne, stI_2, stA_eq, stA_ne, stA_2, stR_1, stR_2]
  · simp -dsimp -implicitDefEqProofs (disch := omega) only [stI_eq, stI_nj, stI_ne, stI_2, stA_eq, stA_ne, stA_2, stR_1, stR_2]
  · by_cases e : p = d
    · subst e; simp -dsimp -implicitDefEqProofs (disch := omega) only [stI_eq, stI_nj, stI_ne, stI_2, stA_eq, stA_ne, stA_2, stR_1, stR_2]
    · simp -dsimp -implicitDefEqProofs (disch := omega) only [stI_eq, stI_nj, stI_ne, stI_2, stA_eq, stA_ne, stA_2, stR_1, stR_2]; exact q9 p (by omega)
  · by_cases e : p = d
    · subst e; simp -dsimp -implicitDefEqProofs (disch := omega) only [stI_eq, stI_nj, stI_ne, stI_2, stA_eq, stA_ne, stA_2, stR_1, stR_2]
    · simp -dsimp -implicitDefEqProofs (disch := omega) only [stI_eq, stI_nj, stI_ne, stI_2, stA_eq, stA_ne, stA_2, stR_1, stR_2]; exact q10 p (by omega)
  · simp -dsimp -implicitDefEqProofs (disch := omega) only [stI_eq, stI_nj, stI_ne, stI_2, stA_eq, stA_ne, stA_2, stR_1, stR_2]; exact q11
  · simp -dsimp -implicitDefEqProofs (disch := omega) only [stI_eq, stI_nj, stI_ne, stI_2, stA_eq, stA_ne, stA_2, stR_1, stR_2]; exact q13
  · simp -dsimp -implicitDefEqProofs (disch := omega) only [stI_eq, stI_nj, stI_ne, stI_2, stA_eq, stA_ne, stA_2, stR_1, stR_2]; exact w1
  · simp -dsimp -implicitDefEqProofs (disch := omega) only [stI_eq, stI_nj, stI_ne, stI_2, stA_eq, stA_ne, stA_2, stR_1, stR_2]; exact w2
  · simp -dsimp -implicitDefEqProofs (disch := omega) only [stI_eq, stI_nj, stI_ne, stI_2, stA_eq, stA_ne, stA_2, stR_1, stR_2]; exact w3
  · simp -dsimp -implicitDefEqProofs (disch := omega) only [stI_eq, stI_nj, stI_ne, stI_2, stA_eq, stA_ne, stA_2, stR_1, stR_2]; exact w4
  · simp -dsimp -implicitDefEqProofs (disch := omega) only [stI_eq, stI_nj, stI_ne, stI_2, stA_eq, stA_ne, stA_2, stR_1, stR_2]; exact w5
  · by_cases e : p = d
    · subst e; simp -dsimp -implicitDefEqProofs (disch := omega) only [stI_eq, stI_nj, stI_ne, stI_2, stA_eq, stA_ne, stA_2, stR_1, stR_2]; exact ⟨v, hv, rfl⟩
    · simp -dsimp -implicitDefEqProofs (disch := omega) only [stI_eq, stI_nj, stI_ne, stI_2, stA_eq, stA_ne, stA_2, stR_1, stR_2]; exact w6 p hp
  · by_cases e : p = d
    · subst e; simp -dsimp -implicitDefEqProofs (disch := omega) only [stI_eq, stI_nj, stI_ne, stI_2, stA_eq, stA_ne, stA_2, stR_1, stR_2]; exact ⟨k, hk, rfl⟩
    · simp -dsimp -implicitDefEqProofs (disch := omega) only [stI_eq, stI_nj, stI_ne, stI_2, stA_eq, stA_ne, stA_2, stR_1, stR_2]; exact w7 p (by omega)
  · by_cases e : p = d
    · subst e; simp -dsimp -implicitDefEqProofs (disch := omega) only [stI_eq, stI_nj, stI_ne, stI_2, stA_eq, stA_ne, stA_2, stR_1, stR_2]; exact ⟨m, hm, rfl⟩
    · simp -dsimp -implicitDefEqProofs (disch := omega) only [stI_eq, stI_nj, stI_ne, stI_2, stA_eq, stA_ne, stA_2, stR_1, stR_2]; exact w8 p (by omega)
  · by_cases e : p = d
    · subst e; simp -dsimp -implicitDefEqProofs (disch := omega) only [stI_eq, stI_nj, stI_ne, stI_2, stA_eq, stA_ne, stA_2, stR_1, stR_2]
    · simp -dsimp -implicitDefEqProofs (disch := omega) only [stI_eq, stI_nj, stI_ne, stI_2, stA_eq, stA_ne, stA_2, stR_1, stR_2]; exact hG p hp
  · simp -dsimp -implicitDefEqProofs (disch := omega) only [stI_eq, stI_nj, stI_ne, stI_2, stA_eq, stA_ne, stA_2, stR_1, stR_2]; exact hH
set_option maxRecDepth 100000 in
theorem diver_c {N d i c : Nat} (hN : 6000 ≤ N) {gI gM : Mem} (hR : RR d i c gI gM) (a1 a2 : Int32) : ∃ r gI' gM' d', X5_diver N a1 a2 gI = some (r, gI') ∧ X6_diver N a1 a2 gM = some (r, gM') ∧ RR d' i c gI' gM' ∧ (∀ e, ¬ (42 ≤ e ∧ e ≤ 51) → gI'.1 e = gI.1 e) ∧ (∀ e, ¬ e = 0 → ¬ e = 1 → ¬ e = 2 → ¬ e = 3 → gM'.1 e = gM.1 e) ∧ (r = -(i32 2) ∨ r = -(i32 4) ∨ NB 6 r) := by
  obtain ⟨⟨hS, hB, hG, hH⟩, hT, hP, hSh, hK⟩ := id hR
  have b7 := hS.2.2.2.2.2.2.2.1
  have b8 := hS.2.2.2.2.2.2.2.2.1
  have hd6 := hS.1.2.1
  rcases rg a1 60 (by omega) with ⟨n, hn, rfl⟩ | o1
  · rcases rg a2 100 (by omega) with ⟨v, hv, rfl⟩ | o2
    · by_cases hd : d = 6
      · subst hd
        exact ⟨-4, gI, gM, 6, by simp -dsimp -implicitDefEqProofs (disch := omega) only [X5_diver, isW_t, b7, i32_lit, i32_add, i32_mul, i32_tn, i32_sub, le_t, le_f, lt_t, lt_f, eq_t, eq_f, eq_rfl, inR_t, ↓ob_x, obx_s, ↓bnd_s, ↓oT_x, oTx_s, ↓ite_x, itx_T, itx_F, ↓reduceIte, not_true_eq_false, not_false_eq_true, true_and, and_true, Nat.reduceAdd, Nat.reduceMul, Nat.reduceSub, Nat.reduceEqDiff, isB0, isB1, Int32.neg_neg, Nat.zero_add, Nat.add_zero, Nat.mul_zero, Nat.mul_one, Nat.zero_mul], by simp -dsimp -implicitDefEqProofs (disch := omega) only [X6_diver, in_t, b8, i32_lit, i32_add, i32_mul, i32_tn, i32_sub, le_t, le_f, lt_t, lt_f, eq_t, eq_f, eq_rfl, inR_t, ↓ob_x, obx_s, ↓bnd_s, ↓oT_x, oTx_s, ↓ite_x, itx_T, itx_F, ↓reduceIte, not_true_eq_false, not_false_eq_true, true_and, and_true, Nat.reduceAdd, Nat.reduceMul, Nat.reduceSub, Nat.reduceEqDiff, isB0, isB1, Int32.neg_neg, Nat.zero_add, Nat.add_zero, Nat.mul_zero, Nat.mul_one, Nat.zero_mul], hR, fun _ _ => rfl, fun _ _ _ _ _ => rfl, Or.inr (Or.inl rfl)⟩
      · exact ⟨i32 d, _, _, d + 1, by simp -dsimp -implicitDefEqProofs (disch := omega) only [X5_diver, X1_comes, isW_t, b7, i32_divz, i32_lit, i32_add, i32_mul, i32_tn, i32_sub, le_t, le_f, lt_t, lt_f, eq_t, eq_f, eq_rfl, inR_t, ↓ob_x, obx_s, ↓bnd_s, ↓oT_x, oTx_s, ↓ite_x, itx_T, itx_F, ↓reduceIte, not_true_eq_false, not_false_eq_true, true_and, and_true, Nat.reduceAdd, Nat.reduceMul, Nat.reduceSub, Nat.reduceEqDiff, isB0, isB1, Int32.neg_neg, Nat.zero_add, Nat.add_zero, Nat.mul_zero, Nat.mul_one, Nat.zero_mul, stI_eq, stI_nj, stI_ne, stI_2, stA_eq, stA_ne, stA_2, stR_1, stR_2], by simp -dsimp -implicitDefEqProofs (disch := omega) only [X6_diver, in_t, b8, i32_divz, i32_lit, i32_add, i32_mul, i32_tn, i32_sub, le_t, le_f, lt_t, lt_f, eq_t, eq_f, eq_rfl, inR_t, ↓ob_x, obx_s, ↓bnd_s, ↓oT_x, oTx_s, ↓ite_x, itx_T, itx_F, ↓reduceIte, not_true_eq_false, not_false_eq_true, true_and, and_true, Nat.reduceAdd, Nat.reduceMul, Nat.reduceSub, Nat.reduceEqDiff, isB0, isB1, Int32.neg_neg, Nat.zero_add, Nat.add_zero, Nat.mul_zero, Nat.mul_one, Nat.zero_mul, stI_eq, stI_nj, stI_ne, stI_2, stA_eq, stA_ne, stA_2, stR_1, stR_2, Nat.add_sub_cancel], diver_RR hR (by omega) (n / 10) (n - n / 10 * 10) v (by omega) (by omega) (by omega), fun e he => by simp -dsimp -implicitDefEqProofs (disch := omega) only [stI_eq, stI_nj, stI_ne, stI_2, stA_eq, stA_ne, stA_2, stR_1, stR_2], fun e _ _ _ _ => by simp -dsimp -implicitDefEqProofs (disch := omega) only [stI_eq, stI_nj, stI_ne, stI_2, stA_eq, stA_ne, stA_2, stR_1, stR_2], Or.inr (Or.inr ⟨d, by omega, rfl⟩)⟩
    · exact ⟨-2, gI, gM, d, by simp -dsimp -implicitDefEqProofs (disch := omega) only [X5_diver, isW_t, isW_f gI (by omega : 99 < 1000000) o2, i32_lit, i32_add, i32_mul, i32_tn, i32_sub, le_t, le_f, lt_t, lt_f, eq_t, eq_f, eq_rfl, inR_t, ↓ob_x, obx_s, ↓bnd_s, ↓oT_x, oTx_s, ↓ite_x, itx_T, itx_F, ↓reduceIte, not_true_eq_false, not_false_eq_true, true_and, and_true, Nat.reduceAdd, Nat.reduceMul, Nat.reduceSub, Nat.reduceEqDiff, isB0, isB1, Int32.neg_neg, Nat.zero_add, Nat.add_zero, Nat.mul_zero, Nat.mul_one, Nat.zero_mul], by simp -dsimp -implicitDefEqProofs (disch := omega) only [X6_diver, in_t, in_f gM (by omega : 99 < 1000000) o2, i32_lit, i32_add, i32_mul, i32_tn, i32_sub, le_t, le_f, lt_t, lt_f, eq_t, eq_f, eq_rfl, inR_t, ↓ob_x, obx_s, ↓bnd_s, ↓oT_x, oTx_s, ↓ite_x, itx_T, itx_F, ↓reduceIte, not_true_eq_false, not_false_eq_true, true_and, and_true, Nat.reduceAdd, Nat.reduceMul, Nat.reduceSub, Nat.reduceEqDiff, isB0, isB1, Int32.neg_neg, Nat.zero_add, Nat.add_zero, Nat.mul_zero, Nat.mul_one, Nat.zero_mul], hR, fun _ _ => rfl, fun _ _ _ _ _ => rfl, Or.inl rfl⟩
  · exact ⟨-2, gI, gM, d, by simp -dsimp -implicitDefEqProofs (disch := omega) only [X5_diver, isW_f gI (by omega : 59 < 1000000) o1, i32_lit, i32_add, i32_mul, i32_tn, i32_sub, le_t, le_f, lt_t, lt_f, eq_t, eq_f, eq_rfl, inR_t, ↓ob_x, obx_s, ↓bnd_s, ↓oT_x, oTx_s, ↓ite_x, itx_T, itx_F, ↓reduceIte, not_true_eq_false, not_false_eq_true, true_and, and_true, Nat.reduceAdd, Nat.reduceMul, Nat.reduceSub, Nat.reduceEqDiff, isB0, isB1, Int32.neg_neg, Nat.zero_add, Nat.add_zero, Nat.mul_zero, Nat.mul_one, Nat.zero_mul], by simp -dsimp -implicitDefEqProofs (disch := omega) only [X6_diver, in_f gM (by omega : 59 < 1000000) o1, i32_lit, i32_add, i32_mul, i32_tn, i32_sub, le_t, le_f, lt_t, lt_f, eq_t, eq_f, eq_rfl, inR_t, ↓ob_x, obx_s, ↓bnd_s, ↓oT_x, oTx_s, ↓ite_x, itx_T, itx_F, ↓reduceIte, not_true_eq_false, not_false_eq_true, true_and, and_true, Nat.reduceAdd, Nat.reduceMul, Nat.reduceSub, Nat.reduceEqDiff, isB0, isB1, Int32.neg_neg, Nat.zero_add, Nat.add_zero, Nat.mul_zero, Nat.mul_one, Nat.zero_mul], hR, fun _ _ => rfl, fun _ _ _ _ _ => rfl, Or.inl rfl⟩
theorem e_diver {N : Nat} (hN : 6000 ≤ N) {gI gM : Mem} (h : R gI gM) (a1 a2 : Int32) : EQ (X5_diver N a1 a2 gI) (X6_diver N a1 a2 gM) := by
  obtain ⟨d, i, c, hR⟩ := h
  obtain ⟨r, gI', gM', d', h1, h2, h3, _⟩ := diver_c hN hR a1 a2
  exact ⟨r, gI', gM', h1, h2, d', i, c, h3⟩
set_option maxRecDepth 100000 in
theorem e_put {N : Nat} (hN : 6000 ≤ N) {gI gM : Mem} (h : R gI gM) (a1 a2 : Int32) : EQ (X5_put N a1 a2 gI) (X6_put N a1 a2 gM) := by
  obtain ⟨d, i, c, hR⟩ := h
  obtain ⟨⟨hS, hB, hG, hH⟩, hT, hP, hSh, hK⟩ := id hR
  obtain ⟨⟨a0_, hd6, hi6⟩, s1_, s2_, s3_, s4_, s5_, s6_, b7, b8, s9_, s10_, b11, b12, b13, b14⟩ := id hS
  have b1 : ∀ t, t < 6 → gI.1 43 t = gM.1 5 t := s1_
  have b2 : ∀ k, k < 12 → gI.1 44 k = gM.1 4 (4 * k) := s2_
  have b3 : ∀ k, k < 12 → gI.1 45 k = gM.1 4 (4 * k + 1) := s3_
  have b4 : ∀ k, k < 12 → gI.1 46 k = gM.1 4 (4 * k + 2) := s4_
  have b5 : ∀ k, k < 12 → gI.1 47 k = gM.1 4 (4 * k + 3) := s5_
  have b6 : ∀ p, p < 6 → gI.1 50 p = gM.1 3 (2 * p) := s6_
  have b9 : ∀ p, p < d → gI.1 48 p = gM.1 1 p := s9_
  have b10 : ∀ p, p < d → gI.1 49 p = gM.1 2 p := s10_
  have bG : ∀ p, p < 6 → gI.1 51 p = gM.1 3 (2 * p + 1) := hG
  clear s1_ s2_ s3_ s4_ s5_ s6_ s9_ s10_
  rcases rg a1 d (by omega) with ⟨p, hp, rfl⟩ | o1
  · rcases rg a2 100 (by omega) with ⟨v, hv, rfl⟩ | o2
    · exact ⟨gM.1 3 (2 * p), stI gI 50 p (i32 v), stI gM 3 (2 * p) (i32 v), by simp -dsimp -implicitDefEqProofs (disch := omega) only [X5_put, isD_t b7 hp hd6, isW_t, b6, i32_lit, i32_add, i32_mul, i32_tn, i32_sub, le_t, le_f, lt_t, lt_f, eq_t, eq_f, eq_rfl, inR_t, ↓ob_x, obx_s, ↓bnd_s, ↓oT_x, oTx_s, ↓ite_x, itx_T, itx_F, ↓reduceIte, not_true_eq_false, not_false_eq_true, true_and, and_true, Nat.reduceAdd, Nat.reduceMul, Nat.reduceSub, Nat.reduceEqDiff, isB0, isB1, Int32.neg_neg, Nat.zero_add, Nat.add_zero, Nat.mul_zero, Nat.mul_one, Nat.zero_mul], by simp -dsimp -implicitDefEqProofs (disch := omega) only [X6_put, mO_t b8 hp hd6, in_t, i32_lit, i32_add, i32_mul, i32_tn, i32_sub, le_t, le_f, lt_t, lt_f, eq_t, eq_f, eq_rfl, inR_t, ↓ob_x, obx_s, ↓bnd_s, ↓oT_x, oTx_s, ↓ite_x, itx_T, itx_F, ↓reduceIte, not_true_eq_false, not_false_eq_true, true_and, and_true, Nat.reduceAdd, Nat.reduceMul, Nat.reduceSub, Nat.reduceEqDiff, isB0, isB1, Int32.neg_neg, Nat.zero_add, Nat.add_zero, Nat.mul_zero, Nat.mul_one, Nat.zero_mul], d, i, c, RR_tr hR (OKs_B hS hB p (i32 v) ⟨v, by omega, rfl⟩) (by rw [stI_ne _ _ _ _ _ (by omega)]; exact hH)⟩
    · exact ⟨-7, gI, gM, by simp -dsimp -implicitDefEqProofs (disch := omega) only [X5_put, isD_t b7 hp hd6, isW_f gI (by omega : 99 < 1000000) o2, i32_lit, i32_add, i32_mul, i32_tn, i32_sub, le_t, le_f, lt_t, lt_f, eq_t, eq_f, eq_rfl, inR_t, ↓ob_x, obx_s, ↓bnd_s, ↓oT_x, oTx_s, ↓ite_x, itx_T, itx_F, ↓reduceIte, not_true_eq_false, not_false_eq_true, true_and, and_true, Nat.reduceAdd, Nat.reduceMul, Nat.reduceSub, Nat.reduceEqDiff, isB0, isB1, Int32.neg_neg, Nat.zero_add, Nat.add_zero, Nat.mul_zero, Nat.mul_one, Nat.zero_mul], by simp -dsimp -implicitDefEqProofs (disch := omega) only [X6_put, mO_t b8 hp hd6, in_f gM (by omega : 99 < 1000000) o2, i32_lit, i32_add, i32_mul, i32_tn, i32_sub, le_t, le_f, lt_t, lt_f, eq_t, eq_f, eq_rfl, inR_t, ↓ob_x, obx_s, ↓bnd_s, ↓oT_x, oTx_s, ↓ite_x, itx_T, itx_F, ↓reduceIte, not_true_eq_false, not_false_eq_true, true_and, and_true, Nat.reduceAdd, Nat.reduceMul, Nat.reduceSub, Nat.reduceEqDiff, isB0, isB1, Int32.neg_neg, Nat.zero_add, Nat.add_zero, Nat.mul_zero, Nat.mul_one, Nat.zero_mul], d, i, c, hR⟩
  · exact ⟨-5, gI, gM, by simp -dsimp -implicitDefEqProofs (disch := omega) only [X5_put, isD_f b7 o1 hd6, i32_lit, i32_add, i32_mul, i32_tn, i32_sub, le_t, le_f, lt_t, lt_f, eq_t, eq_f, eq_rfl, inR_t, ↓ob_x, obx_s, ↓bnd_s, ↓oT_x, oTx_s, ↓ite_x, itx_T, itx_F, ↓reduceIte, not_true_eq_false, not_false_eq_true, true_and, and_true, Nat.reduceAdd, Nat.reduceMul, Nat.reduceSub, Nat.reduceEqDiff, isB0, isB1, Int32.neg_neg, Nat.zero_add, Nat.add_zero, Nat.mul_zero, Nat.mul_one, Nat.zero_mul], by simp -dsimp -implicitDefEqProofs (disch := omega) only [X6_put, mO_f b8 o1 hd6, i32_lit, i32_add, i32_mul, i32_tn, i32_sub, le_t, le_f, lt_t, lt_f, eq_t, eq_f, eq_rfl, inR_t, ↓ob_x, obx_s, ↓bnd_s, ↓oT_x, oTx_s, ↓ite_x, itx_T, itx_F, ↓reduceIte, not_true_eq_false, not_false_eq_true, true_and, and_true, Nat.reduceAdd, Nat.reduceMul, Nat.reduceSub, Nat.reduceEqDiff, isB0, isB1, Int32.neg_neg, Nat.zero_add, Nat.add_zero, Nat.mul_zero, Nat.mul_one, Nat.zero_mul], d, i, c, hR⟩
set_option maxRecDepth 100000 in
theorem e_told {N : Nat} (hN : 6000 ≤ N) {gI gM : Mem} (h : R gI gM) (a1 a2 : Int32) : EQ (X5_told N a1 a2 gI) (X6_told N a1 a2 gM) := by
  obtain ⟨d, i, c, hR⟩ := h
  obtain ⟨⟨hS, hB, hG, hH⟩, hT, hP, hSh, hK⟩ := id hR
  obtain ⟨⟨a0_, hd6, hi6⟩, s1_, s2_, s3_, s4_, s5_, s6_, b7, b8, s9_, s10_, b11, b12, b13, b14⟩ := id hS
  have b1 : ∀ t, t < 6 → gI.1 43 t = gM.1 5 t := s1_
  have b2 : ∀ k, k < 12 → gI.1 44 k = gM.1 4 (4 * k) := s2_
  have b3 : ∀ k, k < 12 → gI.1 45 k = gM.1 4 (4 * k + 1) := s3_
  have b4 : ∀ k, k < 12 → gI.1 46 k = gM.1 4 (4 * k + 2) := s4_
  have b5 : ∀ k, k < 12 → gI.1 47 k = gM.1 4 (4 * k + 3) := s5_
  have b6 : ∀ p, p < 6 → gI.1 50 p = gM.1 3 (2 * p) := s6_
  have b9 : ∀ p, p < d → gI.1 48 p = gM.1 1 p := s9_
  have b10 : ∀ p, p < d → gI.1 49 p = gM.1 2 p := s10_
  have bG : ∀ p, p < 6 → gI.1 51 p = gM.1 3 (2 * p + 1) := hG
  clear s1_ s2_ s3_ s4_ s5_ s6_ s9_ s10_
  rcases rg a1 d (by omega) with ⟨p, hp, rfl⟩ | o1
  · rcases rg a2 6 (by omega) with ⟨w, hw, rfl⟩ | o2
    · rcases (by omega : w = 0 ∨ w = 1 ∨ w = 2 ∨ w = 3 ∨ w = 4 ∨ w = 5) with rfl | rfl | rfl | rfl | rfl | rfl
      · exact ⟨gM.1 3 (2 * p), gI, gM, by simp -dsimp -implicitDefEqProofs (disch := omega) only [X5_told, isD_t b7 hp hd6, b6, i32_lit, i32_add, i32_mul, i32_tn, i32_sub, le_t, le_f, lt_t, lt_f, eq_t, eq_f, eq_rfl, inR_t, ↓ob_x, obx_s, ↓bnd_s, ↓oT_x, oTx_s, ↓ite_x, itx_T, itx_F, ↓reduceIte, not_true_eq_false, not_false_eq_true, true_and, and_true, Nat.reduceAdd, Nat.reduceMul, Nat.reduceSub, Nat.reduceEqDiff, isB0, isB1, Int32.neg_neg, Nat.zero_add, Nat.add_zero, Nat.mul_zero, Nat.mul_one, Nat.zero_mul], by simp -dsimp -implicitDefEqProofs (disch := omega) only [X6_told, mO_t b8 hp hd6, i32_lit, i32_add, i32_mul, i32_tn, i32_sub, le_t, le_f, lt_t, lt_f, eq_t, eq_f, eq_rfl, inR_t, ↓ob_x, obx_s, ↓bnd_s, ↓oT_x, oTx_s, ↓ite_x, itx_T, itx_F, ↓reduceIte, not_true_eq_false, not_false_eq_true, true_and, and_true, Nat.reduceAdd, Nat.reduceMul, Nat.reduceSub, Nat.reduceEqDiff, isB0, isB1, Int32.neg_neg, Nat.zero_add, Nat.add_zero, Nat.mul_zero, Nat.mul_one, Nat.zero_mul], d, i, c, hR⟩
      · exact ⟨gM.1 3 (2 * p + 1), gI, gM, by simp -dsimp -implicitDefEqProofs (disch := omega) only [X5_told, isD_t b7 hp hd6, bG, i32_lit, i32_add, i32_mul, i32_tn, i32_sub, le_t, le_f, lt_t, lt_f, eq_t, eq_f, eq_rfl, inR_t, ↓ob_x, obx_s, ↓bnd_s, ↓oT_x, oTx_s, ↓ite_x, itx_T, itx_F, ↓reduceIte, not_true_eq_false, not_false_eq_true, true_and, and_true, Nat.reduceAdd, Nat.reduceMul, Nat.reduceSub, Nat.reduceEqDiff, isB0, isB1, Int32.neg_neg, Nat.zero_add, Nat.add_zero, Nat.mul_zero, Nat.mul_one, Nat.zero_mul], by simp -dsimp -implicitDefEqProofs (disch := omega) only [X6_told, mO_t b8 hp hd6, i32_lit, i32_add, i32_mul, i32_tn, i32_sub, le_t, le_f, lt_t, lt_f, eq_t, eq_f, eq_rfl, inR_t, ↓ob_x, obx_s, ↓bnd_s, ↓oT_x, oTx_s, ↓ite_x, itx_T, itx_F, ↓reduceIte, not_true_eq_false, not_false_eq_true, true_and, and_true, Nat.reduceAdd, Nat.reduceMul, Nat.reduceSub, Nat.reduceEqDiff, isB0, isB1, Int32.neg_neg, Nat.zero_add, Nat.add_zero, Nat.mul_zero, Nat.mul_one, Nat.zero_mul], d, i, c, hR⟩
      · exact ⟨gM.1 1 p, gI, gM, by simp -dsimp -implicitDefEqProofs (disch := omega) only [X5_told, isD_t b7 hp hd6, b9, i32_lit, i32_add, i32_mul, i32_tn, i32_sub, le_t, le_f, lt_t, lt_f, eq_t, eq_f, eq_rfl, inR_t, ↓ob_x, obx_s, ↓bnd_s, ↓oT_x, oTx_s, ↓ite_x, itx_T, itx_F, ↓reduceIte, not_true_eq_false, not_false_eq_true, true_and, and_true, Nat.reduceAdd, Nat.reduceMul, Nat.reduceSub, Nat.reduceEqDiff, isB0, isB1, Int32.neg_neg, Nat.zero_add, Nat.add_zero, Nat.mul_zero, Nat.mul_one, Nat.zero_mul], by simp -dsimp -implicitDefEqProofs (disch := omega) only [X6_told, mO_t b8 hp hd6, i32_lit, i32_add, i32_mul, i32_tn, i32_sub, le_t, le_f, lt_t, lt_f, eq_t, eq_f, eq_rfl, inR_t, ↓ob_x, obx_s, ↓bnd_s, ↓oT_x, oTx_s, ↓ite_x, itx_T, itx_F, ↓reduceIte, not_true_eq_false, not_false_eq_true, true_and, and_true, Nat.reduceAdd, Nat.reduceMul, Nat.reduceSub, Nat.reduceEqDiff, isB0, isB1, Int32.neg_neg, Nat.zero_add, Nat.add_zero, Nat.mul_zero, Nat.mul_one, Nat.zero_mul], d, i, c, hR⟩
      · exact ⟨gM.1 2 p, gI, gM, by simp -dsimp -implicitDefEqProofs (disch := omega) only [X5_told, isD_t b7 hp hd6, b10, i32_lit, i32_add, i32_mul, i32_tn, i32_sub, le_t, le_f, lt_t, lt_f, eq_t, eq_f, eq_rfl, inR_t, ↓ob_x, obx_s, ↓bnd_s, ↓oT_x, oTx_s, ↓ite_x, itx_T, itx_F, ↓reduceIte, not_true_eq_false, not_false_eq_true, true_and, and_true, Nat.reduceAdd, Nat.reduceMul, Nat.reduceSub, Nat.reduceEqDiff, isB0, isB1, Int32.neg_neg, Nat.zero_add, Nat.add_zero, Nat.mul_zero, Nat.mul_one, Nat.zero_mul], by simp -dsimp -implicitDefEqProofs (disch := omega) only [X6_told, mO_t b8 hp hd6, i32_lit, i32_add, i32_mul, i32_tn, i32_sub, le_t, le_f, lt_t, lt_f, eq_t, eq_f, eq_rfl, inR_t, ↓ob_x, obx_s, ↓bnd_s, ↓oT_x, oTx_s, ↓ite_x, itx_T, itx_F, ↓reduceIte, not_true_eq_false, not_false_eq_true, true_and, and_true, Nat.reduceAdd, Nat.reduceMul, Nat.reduceSub, Nat.reduceEqDiff, isB0, isB1, Int32.neg_neg, Nat.zero_add, Nat.add_zero, Nat.mul_zero, Nat.mul_one, Nat.zero_mul], d, i, c, hR⟩
      · obtain ⟨g1, r1, r2⟩ := cset_I (p := p) hN hp 12 0 N (i32 0) gI (by omega) (by omega) hS
        obtain ⟨m1, s1, s2⟩ := cset_M (p := p) hN hi6 (by omega) 12 0 N (i32 0) gM (by omega) (by omega) b14 b13
        exact ⟨bitF (canV gM i p) 0 12 (i32 0), g1, m1, by simp -dsimp -implicitDefEqProofs (disch := omega) only [X5_told, X1_casksFor, isD_t b7 hp hd6, r1, i32_lit, i32_add, i32_mul, i32_tn, i32_sub, le_t, le_f, lt_t, lt_f, eq_t, eq_f, eq_rfl, inR_t, ↓ob_x, obx_s, ↓bnd_s, ↓oT_x, oTx_s, ↓ite_x, itx_T, itx_F, ↓reduceIte, not_true_eq_false, not_false_eq_true, true_and, and_true, Nat.reduceAdd, Nat.reduceMul, Nat.reduceSub, Nat.reduceEqDiff, isB0, isB1, Int32.neg_neg, Nat.zero_add, Nat.add_zero, Nat.mul_zero, Nat.mul_one, Nat.zero_mul], by simp -dsimp -implicitDefEqProofs (disch := omega) only [X6_told, X6_canSet, mO_t b8 hp hd6, s1, i32_lit, i32_add, i32_mul, i32_tn, i32_sub, le_t, le_f, lt_t, lt_f, eq_t, eq_f, eq_rfl, inR_t, ↓ob_x, obx_s, ↓bnd_s, ↓oT_x, oTx_s, ↓ite_x, itx_T, itx_F, ↓reduceIte, not_true_eq_false, not_false_eq_true, true_and, and_true, Nat.reduceAdd, Nat.reduceMul, Nat.reduceSub, Nat.reduceEqDiff, isB0, isB1, Int32.neg_neg, Nat.zero_add, Nat.add_zero, Nat.mul_zero, Nat.mul_one, Nat.zero_mul], d, i, c, RR_S hR r2 s2⟩
      · have e1 := br_M N p gM (by omega)
        exact ⟨brK (gM.1 1 p) (gM.1 2 p), gI, gM, by simp -dsimp -implicitDefEqProofs (disch := omega) only [X5_told, isD_t b7 hp hd6, b9, b10, br_I, i32_lit, i32_add, i32_mul, i32_tn, i32_sub, le_t, le_f, lt_t, lt_f, eq_t, eq_f, eq_rfl, inR_t, ↓ob_x, obx_s, ↓bnd_s, ↓oT_x, oTx_s, ↓ite_x, itx_T, itx_F, ↓reduceIte, not_true_eq_false, not_false_eq_true, true_and, and_true, Nat.reduceAdd, Nat.reduceMul, Nat.reduceSub, Nat.reduceEqDiff, isB0, isB1, Int32.neg_neg, Nat.zero_add, Nat.add_zero, Nat.mul_zero, Nat.mul_one, Nat.zero_mul], by simp -dsimp -implicitDefEqProofs (disch := omega) only [X6_told, mO_t b8 hp hd6, e1, i32_lit, i32_add, i32_mul, i32_tn, i32_sub, le_t, le_f, lt_t, lt_f, eq_t, eq_f, eq_rfl, inR_t, ↓ob_x, obx_s, ↓bnd_s, ↓oT_x, oTx_s, ↓ite_x, itx_T, itx_F, ↓reduceIte, not_true_eq_false, not_false_eq_true, true_and, and_true, Nat.reduceAdd, Nat.reduceMul, Nat.reduceSub, Nat.reduceEqDiff, isB0, isB1, Int32.neg_neg, Nat.zero_add, Nat.add_zero, Nat.mul_zero, Nat.mul_one, Nat.zero_mul], d, i, c, hR⟩
    · have n0 := Out_ne o2
      exact ⟨-7, gI, gM, by simp -dsimp -implicitDefEqProofs (disch := omega) only [X5_told, isD_t b7 hp hd6, n0, i32_lit, i32_add, i32_mul, i32_tn, i32_sub, le_t, le_f, lt_t, lt_f, eq_t, eq_f, eq_rfl, inR_t, ↓ob_x, obx_s, ↓bnd_s, ↓oT_x, oTx_s, ↓ite_x, itx_T, itx_F, ↓reduceIte, not_true_eq_false, not_false_eq_true, true_and, and_true, Nat.reduceAdd, Nat.reduceMul, Nat.reduceSub, Nat.reduceEqDiff, isB0, isB1, Int32.neg_neg, Nat.zero_add, Nat.add_zero, Nat.mul_zero, Nat.mul_one, Nat.zero_mul], by simp -dsimp -implicitDefEqProofs (disch := omega) only [X6_told, mO_t b8 hp hd6, n0, i32_lit, i32_add, i32_mul, i32_tn, i32_sub, le_t, le_f, lt_t, lt_f, eq_t, eq_f, eq_rfl, inR_t, ↓ob_x, obx_s, ↓bnd_s, ↓oT_x, oTx_s, ↓ite_x, itx_T, itx_F, ↓reduceIte, not_true_eq_false, not_false_eq_true, true_and, and_true, Nat.reduceAdd, Nat.reduceMul, Nat.reduceSub, Nat.reduceEqDiff, isB0, isB1, Int32.neg_neg, Nat.zero_add, Nat.add_zero, Nat.mul_zero, Nat.mul_one, Nat.zero_mul], d, i, c, hR⟩
  · exact ⟨-5, gI, gM, by simp -dsimp -implicitDefEqProofs (disch := omega) only [X5_told, isD_f b7 o1 hd6, i32_lit, i32_add, i32_mul, i32_tn, i32_sub, le_t, le_f, lt_t, lt_f, eq_t, eq_f, eq_rfl, inR_t, ↓ob_x, obx_s, ↓bnd_s, ↓oT_x, oTx_s, ↓ite_x, itx_T, itx_F, ↓reduceIte, not_true_eq_false, not_false_eq_true, true_and, and_true, Nat.reduceAdd, Nat.reduceMul, Nat.reduceSub, Nat.reduceEqDiff, isB0, isB1, Int32.neg_neg, Nat.zero_add, Nat.add_zero, Nat.mul_zero, Nat.mul_one, Nat.zero_mul], by simp -dsimp -implicitDefEqProofs (disch := omega) only [X6_told, mO_f b8 o1 hd6, i32_lit, i32_add, i32_mul, i32_tn, i32_sub, le_t, le_f, lt_t, lt_f, eq_t, eq_f, eq_rfl, inR_t, ↓ob_x, obx_s, ↓bnd_s, ↓oT_x, oTx_s, ↓ite_x, itx_T, itx_F, ↓reduceIte, not_true_eq_false, not_false_eq_true, true_and, and_true, Nat.reduceAdd, Nat.reduceMul, Nat.reduceSub, Nat.reduceEqDiff, isB0, isB1, Int32.neg_neg, Nat.zero_add, Nat.add_zero, Nat.mul_zero, Nat.mul_one, Nat.zero_mul], d, i, c, hR⟩
set_option maxRecDepth 100000 in
theorem e_dives {N : Nat} (hN : 6000 ≤ N) {gI gM : Mem} (h : R gI gM) (a1 a2 a3 : Int32) : EQ (X5_dives N a1 a2 a3 gI) (X6_dives N a1 a2 a3 gM) := by
  obtain ⟨d, i, c, hR⟩ := h
  obtain ⟨⟨hS, hB, hG, hH⟩, hT, hP, hSh, hK⟩ := id hR
  obtain ⟨⟨a0_, hd6, hi6⟩, s1_, s2_, s3_, s4_, s5_, s6_, b7, b8, s9_, s10_, b11, b12, b13, b14⟩ := id hS
  have b1 : ∀ t, t < 6 → gI.1 43 t = gM.1 5 t := s1_
  have b2 : ∀ k, k < 12 → gI.1 44 k = gM.1 4 (4 * k) := s2_
  have b3 : ∀ k, k < 12 → gI.1 45 k = gM.1 4 (4 * k + 1) := s3_
  have b4 : ∀ k, k < 12 → gI.1 46 k = gM.1 4 (4 * k + 2) := s4_
  have b5 : ∀ k, k < 12 → gI.1 47 k = gM.1 4 (4 * k + 3) := s5_
  have b6 : ∀ p, p < 6 → gI.1 50 p = gM.1 3 (2 * p) := s6_
  have b9 : ∀ p, p < d → gI.1 48 p = gM.1 1 p := s9_
  have b10 : ∀ p, p < d → gI.1 49 p = gM.1 2 p := s10_
  have bG : ∀ p, p < 6 → gI.1 51 p = gM.1 3 (2 * p + 1) := hG
  clear s1_ s2_ s3_ s4_ s5_ s6_ s9_ s10_
  rcases rg a1 d (by omega) with ⟨p, hp, rfl⟩ | o1
  · rcases rg a2 12 (by omega) with ⟨k, hk, rfl⟩ | o2
    · rcases rg a3 3 (by omega) with ⟨w, hw, rfl⟩ | o3
      · rcases (by omega : w = 0 ∨ w = 1 ∨ w = 2) with rfl | rfl | rfl
        · obtain ⟨g1, r1, r2⟩ := reach_I hN hS hp hk
          obtain ⟨m1, s1, s2⟩ := reach_M (k := k) hN b14 hi6 b13 (by omega : p < 6) hk
          exact ⟨RV gM i p k, g1, m1, by simp -dsimp -implicitDefEqProofs (disch := omega) only [X5_dives, isD_t b7 hp hd6, isK_t, r1, i32_lit, i32_add, i32_mul, i32_tn, i32_sub, le_t, le_f, lt_t, lt_f, eq_t, eq_f, eq_rfl, inR_t, ↓ob_x, obx_s, ↓bnd_s, ↓oT_x, oTx_s, ↓ite_x, itx_T, itx_F, ↓reduceIte, not_true_eq_false, not_false_eq_true, true_and, and_true, Nat.reduceAdd, Nat.reduceMul, Nat.reduceSub, Nat.reduceEqDiff, isB0, isB1, Int32.neg_neg, Nat.zero_add, Nat.add_zero, Nat.mul_zero, Nat.mul_one, Nat.zero_mul], by simp -dsimp -implicitDefEqProofs (disch := omega) only [X6_dives, mO_t b8 hp hd6, mK_t, in_t, s1, i32_lit, i32_add, i32_mul, i32_tn, i32_sub, le_t, le_f, lt_t, lt_f, eq_t, eq_f, eq_rfl, inR_t, ↓ob_x, obx_s, ↓bnd_s, ↓oT_x, oTx_s, ↓ite_x, itx_T, itx_F, ↓reduceIte, not_true_eq_false, not_false_eq_true, true_and, and_true, Nat.reduceAdd, Nat.reduceMul, Nat.reduceSub, Nat.reduceEqDiff, isB0, isB1, Int32.neg_neg, Nat.zero_add, Nat.add_zero, Nat.mul_zero, Nat.mul_one, Nat.zero_mul], d, i, c, RR_S hR r2 s2⟩
        · obtain ⟨g1, r1, r2⟩ := cost_I hN hS hp hk
          obtain ⟨m1, s1, s2⟩ := cost_M (k := k) hN b14 hi6 b13 (by omega : p < 6) hk
          exact ⟨CoV gM i p k, g1, m1, by simp -dsimp -implicitDefEqProofs (disch := omega) only [X5_dives, isD_t b7 hp hd6, isK_t, r1, i32_lit, i32_add, i32_mul, i32_tn, i32_sub, le_t, le_f, lt_t, lt_f, eq_t, eq_f, eq_rfl, inR_t, ↓ob_x, obx_s, ↓bnd_s, ↓oT_x, oTx_s, ↓ite_x, itx_T, itx_F, ↓reduceIte, not_true_eq_false, not_false_eq_true, true_and, and_true, Nat.reduceAdd, Nat.reduceMul, Nat.reduceSub, Nat.reduceEqDiff, isB0, isB1, Int32.neg_neg, Nat.zero_add, Nat.add_zero, Nat.mul_zero, Nat.mul_one, Nat.zero_mul], by simp -dsimp -implicitDefEqProofs (disch := omega) only [X6_dives, mO_t b8 hp hd6, mK_t, in_t, s1, i32_lit, i32_add, i32_mul, i32_tn, i32_sub, le_t, le_f, lt_t, lt_f, eq_t, eq_f, eq_rfl, inR_t, ↓ob_x, obx_s, ↓bnd_s, ↓oT_x, oTx_s, ↓ite_x, itx_T, itx_F, ↓reduceIte, not_true_eq_false, not_false_eq_true, true_and, and_true, Nat.reduceAdd, Nat.reduceMul, Nat.reduceSub, Nat.reduceEqDiff, isB0, isB1, Int32.neg_neg, Nat.zero_add, Nat.add_zero, Nat.mul_zero, Nat.mul_one, Nat.zero_mul], d, i, c, RR_S hR r2 s2⟩
        · obtain ⟨g1, r1, r2⟩ := can_I hN hS hp hk
          obtain ⟨m1, s1, s2⟩ := can_M (k := k) hN b14 hi6 b13 (by omega : p < 6) hk
          rcases canV_le gM i p k with hc | hc
          · exact ⟨i32 0, g1, m1, by simp -dsimp -implicitDefEqProofs (disch := omega) only [X5_dives, isD_t b7 hp hd6, isK_t, r1, hc, i32_lit, i32_add, i32_mul, i32_tn, i32_sub, le_t, le_f, lt_t, lt_f, eq_t, eq_f, eq_rfl, inR_t, ↓ob_x, obx_s, ↓bnd_s, ↓oT_x, oTx_s, ↓ite_x, itx_T, itx_F, ↓reduceIte, not_true_eq_false, not_false_eq_true, true_and, and_true, Nat.reduceAdd, Nat.reduceMul, Nat.reduceSub, Nat.reduceEqDiff, isB0, isB1, Int32.neg_neg, Nat.zero_add, Nat.add_zero, Nat.mul_zero, Nat.mul_one, Nat.zero_mul], by simp -dsimp -implicitDefEqProofs (disch := omega) only [X6_dives, mO_t b8 hp hd6, mK_t, in_t, s1, hc, i32_lit, i32_add, i32_mul, i32_tn, i32_sub, le_t, le_f, lt_t, lt_f, eq_t, eq_f, eq_rfl, inR_t, ↓ob_x, obx_s, ↓bnd_s, ↓oT_x, oTx_s, ↓ite_x, itx_T, itx_F, ↓reduceIte, not_true_eq_false, not_false_eq_true, true_and, and_true, Nat.reduceAdd, Nat.reduceMul, Nat.reduceSub, Nat.reduceEqDiff, isB0, isB1, Int32.neg_neg, Nat.zero_add, Nat.add_zero, Nat.mul_zero, Nat.mul_one, Nat.zero_mul], d, i, c, RR_S hR r2 s2⟩
          · exact ⟨i32 1, g1, m1, by simp -dsimp -implicitDefEqProofs (disch := omega) only [X5_dives, isD_t b7 hp hd6, isK_t, r1, hc, i32_lit, i32_add, i32_mul, i32_tn, i32_sub, le_t, le_f, lt_t, lt_f, eq_t, eq_f, eq_rfl, inR_t, ↓ob_x, obx_s, ↓bnd_s, ↓oT_x, oTx_s, ↓ite_x, itx_T, itx_F, ↓reduceIte, not_true_eq_false, not_false_eq_true, true_and, and_true, Nat.reduceAdd, Nat.reduceMul, Nat.reduceSub, Nat.reduceEqDiff, isB0, isB1, Int32.neg_neg, Nat.zero_add, Nat.add_zero, Nat.mul_zero, Nat.mul_one, Nat.zero_mul], by simp -dsimp -implicitDefEqProofs (disch := omega) only [X6_dives, mO_t b8 hp hd6, mK_t, in_t, s1, hc, i32_lit, i32_add, i32_mul, i32_tn, i32_sub, le_t, le_f, lt_t, lt_f, eq_t, eq_f, eq_rfl, inR_t, ↓ob_x, obx_s, ↓bnd_s, ↓oT_x, oTx_s, ↓ite_x, itx_T, itx_F, ↓reduceIte, not_true_eq_false, not_false_eq_true, true_and, and_true, Nat.reduceAdd, Nat.reduceMul, Nat.reduceSub, Nat.reduceEqDiff, isB0, isB1, Int32.neg_neg, Nat.zero_add, Nat.add_zero, Nat.mul_zero, Nat.mul_one, Nat.zero_mul], d, i, c, RR_S hR r2 s2⟩
      · have n0 := Out_ne o3
        exact ⟨-7, gI, gM, by simp -dsimp -implicitDefEqProofs (disch := omega) only [X5_dives, isD_t b7 hp hd6, isK_t, n0, i32_lit, i32_add, i32_mul, i32_tn, i32_sub, le_t, le_f, lt_t, lt_f, eq_t, eq_f, eq_rfl, inR_t, ↓ob_x, obx_s, ↓bnd_s, ↓oT_x, oTx_s, ↓ite_x, itx_T, itx_F, ↓reduceIte, not_true_eq_false, not_false_eq_true, true_and, and_true, Nat.reduceAdd, Nat.reduceMul, Nat.reduceSub, Nat.reduceEqDiff, isB0, isB1, Int32.neg_neg, Nat.zero_add, Nat.add_zero, Nat.mul_zero, Nat.mul_one, Nat.zero_mul], by simp -dsimp -implicitDefEqProofs (disch := omega) only [X6_dives, mO_t b8 hp hd6, mK_t, in_f gM (by omega : 2 < 1000000) o3, i32_lit, i32_add, i32_mul, i32_tn, i32_sub, le_t, le_f, lt_t, lt_f, eq_t, eq_f, eq_rfl, inR_t, ↓ob_x, obx_s, ↓bnd_s, ↓oT_x, oTx_s, ↓ite_x, itx_T, itx_F, ↓reduceIte, not_true_eq_false, not_false_eq_true, true_and, and_true, Nat.reduceAdd, Nat.reduceMul, Nat.reduceSub, Nat.reduceEqDiff, isB0, isB1, Int32.neg_neg, Nat.zero_add, Nat.add_zero, Nat.mul_zero, Nat.mul_one, Nat.zero_mul], d, i, c, hR⟩
    · exact ⟨-5, gI, gM, by simp -dsimp -implicitDefEqProofs (disch := omega) only [X5_dives, isD_t b7 hp hd6, isK_f gI o2, i32_lit, i32_add, i32_mul, i32_tn, i32_sub, le_t, le_f, lt_t, lt_f, eq_t, eq_f, eq_rfl, inR_t, ↓ob_x, obx_s, ↓bnd_s, ↓oT_x, oTx_s, ↓ite_x, itx_T, itx_F, ↓reduceIte, not_true_eq_false, not_false_eq_true, true_and, and_true, Nat.reduceAdd, Nat.reduceMul, Nat.reduceSub, Nat.reduceEqDiff, isB0, isB1, Int32.neg_neg, Nat.zero_add, Nat.add_zero, Nat.mul_zero, Nat.mul_one, Nat.zero_mul], by simp -dsimp -implicitDefEqProofs (disch := omega) only [X6_dives, mO_t b8 hp hd6, mK_f gM o2, i32_lit, i32_add, i32_mul, i32_tn, i32_sub, le_t, le_f, lt_t, lt_f, eq_t, eq_f, eq_rfl, inR_t, ↓ob_x, obx_s, ↓bnd_s, ↓oT_x, oTx_s, ↓ite_x, itx_T, itx_F, ↓reduceIte, not_true_eq_false, not_false_eq_true, true_and, and_true, Nat.reduceAdd, Nat.reduceMul, Nat.reduceSub, Nat.reduceEqDiff, isB0, isB1, Int32.neg_neg, Nat.zero_add, Nat.add_zero, Nat.mul_zero, Nat.mul_one, Nat.zero_mul], d, i, c, hR⟩
  · exact ⟨-5, gI, gM, by simp -dsimp -implicitDefEqProofs (disch := omega) only [X5_dives, isD_f b7 o1 hd6, i32_lit, i32_add, i32_mul, i32_tn, i32_sub, le_t, le_f, lt_t, lt_f, eq_t, eq_f, eq_rfl, inR_t, ↓ob_x, obx_s, ↓bnd_s, ↓oT_x, oTx_s, ↓ite_x, itx_T, itx_F, ↓reduceIte, not_true_eq_false, not_false_eq_true, true_and, and_true, Nat.reduceAdd, Nat.reduceMul, Nat.reduceSub, Nat.reduceEqDiff, isB0, isB1, Int32.neg_neg, Nat.zero_add, Nat.add_zero, Nat.mul_zero, Nat.mul_one, Nat.zero_mul], by simp -dsimp -implicitDefEqProofs (disch := omega) only [X6_dives, mO_f b8 o1 hd6, i32_lit, i32_add, i32_mul, i32_tn, i32_sub, le_t, le_f, lt_t, lt_f, eq_t, eq_f, eq_rfl, inR_t, ↓ob_x, obx_s, ↓bnd_s, ↓oT_x, oTx_s, ↓ite_x, itx_T, itx_F, ↓reduceIte, not_true_eq_false, not_false_eq_true, true_and, and_true, Nat.reduceAdd, Nat.reduceMul, Nat.reduceSub, Nat.reduceEqDiff, isB0, isB1, Int32.neg_neg, Nat.zero_add, Nat.add_zero, Nat.mul_zero, Nat.mul_one, Nat.zero_mul], d, i, c, hR⟩
theorem OKs_h {b d i : Nat} {gI gM gI' gM' : Mem} {p k : Nat} (t : SM (dvM gM i p k) gM') : gM'.1 0 6 = gM.1 0 6 := by
  rw [SM_r t 0 (by omega)]; unfold dvM; simp -dsimp -implicitDefEqProofs (disch := omega) only [stI_eq, stI_nj, stI_ne, stI_2, stA_eq, stA_ne, stA_2, stR_1, stR_2]
set_option maxRecDepth 100000 in
theorem e_dive {N : Nat} (hN : 6000 ≤ N) {gI gM : Mem} (h : R gI gM) (a1 a2 : Int32) : EQ (X5_dive N a1 a2 gI) (X6_dive N a1 a2 gM) := by
  obtain ⟨d, i, c, hR⟩ := h
  obtain ⟨⟨hS, hB, hG, hH⟩, hT, hP, hSh, hK⟩ := id hR
  obtain ⟨⟨a0_, hd6, hi6⟩, s1_, s2_, s3_, s4_, s5_, s6_, b7, b8, s9_, s10_, b11, b12, b13, b14⟩ := id hS
  have b1 : ∀ t, t < 6 → gI.1 43 t = gM.1 5 t := s1_
  have b2 : ∀ k, k < 12 → gI.1 44 k = gM.1 4 (4 * k) := s2_
  have b3 : ∀ k, k < 12 → gI.1 45 k = gM.1 4 (4 * k + 1) := s3_
  have b4 : ∀ k, k < 12 → gI.1 46 k = gM.1 4 (4 * k + 2) := s4_
  have b5 : ∀ k, k < 12 → gI.1 47 k = gM.1 4 (4 * k + 3) := s5_
  have b6 : ∀ p, p < 6 → gI.1 50 p = gM.1 3 (2 * p) := s6_
  have b9 : ∀ p, p < d → gI.1 48 p = gM.1 1 p := s9_
  have b10 : ∀ p, p < d → gI.1 49 p = gM.1 2 p := s10_
  have bG : ∀ p, p < 6 → gI.1 51 p = gM.1 3 (2 * p + 1) := hG
  clear s1_ s2_ s3_ s4_ s5_ s6_ s9_ s10_
  rcases rg a1 d (by omega) with ⟨p, hp, rfl⟩ | o1
  · rcases rg a2 12 (by omega) with ⟨k, hk, rfl⟩ | o2
    · obtain ⟨g1, r1, r2⟩ := can_I hN hS hp hk
      obtain ⟨m1, s1, s2⟩ := can_M (k := k) hN b14 hi6 b13 (by omega : p < 6) hk
      rcases canV_le gM i p k with hc | hc
      · exact ⟨-3, g1, m1, by simp -dsimp -implicitDefEqProofs (disch := omega) only [X5_dive, isD_t b7 hp hd6, isK_t, r1, hc, i32_lit, i32_add, i32_mul, i32_tn, i32_sub, le_t, le_f, lt_t, lt_f, eq_t, eq_f, eq_rfl, inR_t, ↓ob_x, obx_s, ↓bnd_s, ↓oT_x, oTx_s, ↓ite_x, itx_T, itx_F, ↓reduceIte, not_true_eq_false, not_false_eq_true, true_and, and_true, Nat.reduceAdd, Nat.reduceMul, Nat.reduceSub, Nat.reduceEqDiff, isB0, isB1, Int32.neg_neg, Nat.zero_add, Nat.add_zero, Nat.mul_zero, Nat.mul_one, Nat.zero_mul], by simp -dsimp -implicitDefEqProofs (disch := omega) only [X6_dive, mO_t b8 hp hd6, mK_t, s1, hc, i32_lit, i32_add, i32_mul, i32_tn, i32_sub, le_t, le_f, lt_t, lt_f, eq_t, eq_f, eq_rfl, inR_t, ↓ob_x, obx_s, ↓bnd_s, ↓oT_x, oTx_s, ↓ite_x, itx_T, itx_F, ↓reduceIte, not_true_eq_false, not_false_eq_true, true_and, and_true, Nat.reduceAdd, Nat.reduceMul, Nat.reduceSub, Nat.reduceEqDiff, isB0, isB1, Int32.neg_neg, Nat.zero_add, Nat.add_zero, Nat.mul_zero, Nat.mul_one, Nat.zero_mul], d, i, c, RR_S hR r2 s2⟩
      · have hR1 := RR_S hR r2 s2
        obtain ⟨g2, m2, t1, t2, t3, t4, _⟩ := dive_sim hN hR1.1.1 hR1.1.2.1 hp hk (by rw [canV_SM s2]; exact hc)
        have e : g2.1 50 p = m2.1 3 (2 * p) := t3.1.2.2.2.2.2.2.1 p (by omega)
        refine ⟨m2.1 3 (2 * p), g2, m2, by simp -dsimp -implicitDefEqProofs (disch := omega) only [X5_dive, isD_t b7 hp hd6, isK_t, r1, hc, t1, e, i32_lit, i32_add, i32_mul, i32_tn, i32_sub, le_t, le_f, lt_t, lt_f, eq_t, eq_f, eq_rfl, inR_t, ↓ob_x, obx_s, ↓bnd_s, ↓oT_x, oTx_s, ↓ite_x, itx_T, itx_F, ↓reduceIte, not_true_eq_false, not_false_eq_true, true_and, and_true, Nat.reduceAdd, Nat.reduceMul, Nat.reduceSub, Nat.reduceEqDiff, isB0, isB1, Int32.neg_neg, Nat.zero_add, Nat.add_zero, Nat.mul_zero, Nat.mul_one, Nat.zero_mul], by simp -dsimp -implicitDefEqProofs (disch := omega) only [X6_dive, mO_t b8 hp hd6, mK_t, s1, hc, t2, i32_lit, i32_add, i32_mul, i32_tn, i32_sub, le_t, le_f, lt_t, lt_f, eq_t, eq_f, eq_rfl, inR_t, ↓ob_x, obx_s, ↓bnd_s, ↓oT_x, oTx_s, ↓ite_x, itx_T, itx_F, ↓reduceIte, not_true_eq_false, not_false_eq_true, true_and, and_true, Nat.reduceAdd, Nat.reduceMul, Nat.reduceSub, Nat.reduceEqDiff, isB0, isB1, Int32.neg_neg, Nat.zero_add, Nat.add_zero, Nat.mul_zero, Nat.mul_one, Nat.zero_mul], d, i, c, RR_tr hR1 t3 ?_⟩
        rw [OKs_h (b := 42) (d := d) (gI := gI) (gI' := gI) t4]
        exact hR1.1.2.2.2
    · exact ⟨-6, gI, gM, by simp -dsimp -implicitDefEqProofs (disch := omega) only [X5_dive, isD_t b7 hp hd6, isK_f gI o2, i32_lit, i32_add, i32_mul, i32_tn, i32_sub, le_t, le_f, lt_t, lt_f, eq_t, eq_f, eq_rfl, inR_t, ↓ob_x, obx_s, ↓bnd_s, ↓oT_x, oTx_s, ↓ite_x, itx_T, itx_F, ↓reduceIte, not_true_eq_false, not_false_eq_true, true_and, and_true, Nat.reduceAdd, Nat.reduceMul, Nat.reduceSub, Nat.reduceEqDiff, isB0, isB1, Int32.neg_neg, Nat.zero_add, Nat.add_zero, Nat.mul_zero, Nat.mul_one, Nat.zero_mul], by simp -dsimp -implicitDefEqProofs (disch := omega) only [X6_dive, mO_t b8 hp hd6, mK_f gM o2, i32_lit, i32_add, i32_mul, i32_tn, i32_sub, le_t, le_f, lt_t, lt_f, eq_t, eq_f, eq_rfl, inR_t, ↓ob_x, obx_s, ↓bnd_s, ↓oT_x, oTx_s, ↓ite_x, itx_T, itx_F, ↓reduceIte, not_true_eq_false, not_false_eq_true, true_and, and_true, Nat.reduceAdd, Nat.reduceMul, Nat.reduceSub, Nat.reduceEqDiff, isB0, isB1, Int32.neg_neg, Nat.zero_add, Nat.add_zero, Nat.mul_zero, Nat.mul_one, Nat.zero_mul], d, i, c, hR⟩
  · exact ⟨-5, gI, gM, by simp -dsimp -implicitDefEqProofs (disch := omega) only [X5_dive, isD_f b7 o1 hd6, i32_lit, i32_add, i32_mul, i32_tn, i32_sub, le_t, le_f, lt_t, lt_f, eq_t, eq_f, eq_rfl, inR_t, ↓ob_x, obx_s, ↓bnd_s, ↓oT_x, oTx_s, ↓ite_x, itx_T, itx_F, ↓reduceIte, not_true_eq_false, not_false_eq_true, true_and, and_true, Nat.reduceAdd, Nat.reduceMul, Nat.reduceSub, Nat.reduceEqDiff, isB0, isB1, Int32.neg_neg, Nat.zero_add, Nat.add_zero, Nat.mul_zero, Nat.mul_one, Nat.zero_mul], by simp -dsimp -implicitDefEqProofs (disch := omega) only [X6_dive, mO_f b8 o1 hd6, i32_lit, i32_add, i32_mul, i32_tn, i32_sub, le_t, le_f, lt_t, lt_f, eq_t, eq_f, eq_rfl, inR_t, ↓ob_x, obx_s, ↓bnd_s, ↓oT_x, oTx_s, ↓ite_x, itx_T, itx_F, ↓reduceIte, not_true_eq_false, not_false_eq_true, true_and, and_true, Nat.reduceAdd, Nat.reduceMul, Nat.reduceSub, Nat.reduceEqDiff, isB0, isB1, Int32.neg_neg, Nat.zero_add, Nat.add_zero, Nat.mul_zero, Nat.mul_one, Nat.zero_mul], d, i, c, hR⟩
set_option maxRecDepth 100000 in
theorem e_open {N : Nat} (hN : 6000 ≤ N) {gI gM : Mem} (h : R gI gM) (a : Int32) : EQ (X5_open N a gI) (X6_open N a gM) := by
  obtain ⟨d, i, c, hR⟩ := h
  obtain ⟨⟨hS, hB, hG, hH⟩, hT, hP, hSh, hK⟩ := id hR
  obtain ⟨⟨a0_, hd6, hi6⟩, s1_, s2_, s3_, s4_, s5_, s6_, b7, b8, s9_, s10_, b11, b12, b13, b14⟩ := id hS
  have b1 : ∀ t, t < 6 → gI.1 43 t = gM.1 5 t := s1_
  have b2 : ∀ k, k < 12 → gI.1 44 k = gM.1 4 (4 * k) := s2_
  have b3 : ∀ k, k < 12 → gI.1 45 k = gM.1 4 (4 * k + 1) := s3_
  have b4 : ∀ k, k < 12 → gI.1 46 k = gM.1 4 (4 * k + 2) := s4_
  have b5 : ∀ k, k < 12 → gI.1 47 k = gM.1 4 (4 * k + 3) := s5_
  have b6 : ∀ p, p < 6 → gI.1 50 p = gM.1 3 (2 * p) := s6_
  have b9 : ∀ p, p < d → gI.1 48 p = gM.1 1 p := s9_
  have b10 : ∀ p, p < d → gI.1 49 p = gM.1 2 p := s10_
  have bG : ∀ p, p < 6 → gI.1 51 p = gM.1 3 (2 * p + 1) := hG
  clear s1_ s2_ s3_ s4_ s5_ s6_ s9_ s10_
  rcases rg a 12 (by omega) with ⟨k, hk, rfl⟩ | o
  · by_cases hq : gM.1 4 (4 * k + 3) = i32 1
    · obtain ⟨s, g1, hs, es, r1, r2, r3⟩ := loose_sim (N := N) hS hB hk
      have e4 : (loM gM s k).1 4 (4 * k) = i32 s := by
        unfold loM
        rw [stI_nj _ _ _ _ _ (by omega), stI_ne _ _ _ _ _ (by omega)]; exact es
      have f4 : g1.1 44 k = i32 s := (r3.1.2.2.1 k hk).trans e4
      have f5 : g1.1 43 s = (loM gM s k).1 5 s := r3.1.2.1 s hs
      refine ⟨(loM gM s k).1 5 s, g1, loM gM s k, by simp -dsimp -implicitDefEqProofs (disch := omega) only [X5_open, isK_t, b5, hq, r1, f4, f5, i32_lit, i32_add, i32_mul, i32_tn, i32_sub, le_t, le_f, lt_t, lt_f, eq_t, eq_f, eq_rfl, inR_t, ↓ob_x, obx_s, ↓bnd_s, ↓oT_x, oTx_s, ↓ite_x, itx_T, itx_F, ↓reduceIte, not_true_eq_false, not_false_eq_true, true_and, and_true, Nat.reduceAdd, Nat.reduceMul, Nat.reduceSub, Nat.reduceEqDiff, isB0, isB1, Int32.neg_neg, Nat.zero_add, Nat.add_zero, Nat.mul_zero, Nat.mul_one, Nat.zero_mul], by simp -dsimp -implicitDefEqProofs (disch := omega) only [X6_open, mK_t, hq, r2, e4, i32_lit, i32_add, i32_mul, i32_tn, i32_sub, le_t, le_f, lt_t, lt_f, eq_t, eq_f, eq_rfl, inR_t, ↓ob_x, obx_s, ↓bnd_s, ↓oT_x, oTx_s, ↓ite_x, itx_T, itx_F, ↓reduceIte, not_true_eq_false, not_false_eq_true, true_and, and_true, Nat.reduceAdd, Nat.reduceMul, Nat.reduceSub, Nat.reduceEqDiff, isB0, isB1, Int32.neg_neg, Nat.zero_add, Nat.add_zero, Nat.mul_zero, Nat.mul_one, Nat.zero_mul], d, i, c, RR_tr hR r3 ?_⟩
      unfold loM
      rw [stI_ne _ _ _ _ _ (by omega), stI_ne _ _ _ _ _ (by omega)]; exact hH
    · exact ⟨-3, gI, gM, by simp -dsimp -implicitDefEqProofs (disch := omega) only [X5_open, isK_t, b5, hq, i32_lit, i32_add, i32_mul, i32_tn, i32_sub, le_t, le_f, lt_t, lt_f, eq_t, eq_f, eq_rfl, inR_t, ↓ob_x, obx_s, ↓bnd_s, ↓oT_x, oTx_s, ↓ite_x, itx_T, itx_F, ↓reduceIte, not_true_eq_false, not_false_eq_true, true_and, and_true, Nat.reduceAdd, Nat.reduceMul, Nat.reduceSub, Nat.reduceEqDiff, isB0, isB1, Int32.neg_neg, Nat.zero_add, Nat.add_zero, Nat.mul_zero, Nat.mul_one, Nat.zero_mul], by simp -dsimp -implicitDefEqProofs (disch := omega) only [X6_open, mK_t, hq, i32_lit, i32_add, i32_mul, i32_tn, i32_sub, le_t, le_f, lt_t, lt_f, eq_t, eq_f, eq_rfl, inR_t, ↓ob_x, obx_s, ↓bnd_s, ↓oT_x, oTx_s, ↓ite_x, itx_T, itx_F, ↓reduceIte, not_true_eq_false, not_false_eq_true, true_and, and_true, Nat.reduceAdd, Nat.reduceMul, Nat.reduceSub, Nat.reduceEqDiff, isB0, isB1, Int32.neg_neg, Nat.zero_add, Nat.add_zero, Nat.mul_zero, Nat.mul_one, Nat.zero_mul], d, i, c, hR⟩
  · exact ⟨-6, gI, gM, by simp -dsimp -implicitDefEqProofs (disch := omega) only [X5_open, isK_f gI o, i32_lit, i32_add, i32_mul, i32_tn, i32_sub, le_t, le_f, lt_t, lt_f, eq_t, eq_f, eq_rfl, inR_t, ↓ob_x, obx_s, ↓bnd_s, ↓oT_x, oTx_s, ↓ite_x, itx_T, itx_F, ↓reduceIte, not_true_eq_false, not_false_eq_true, true_and, and_true, Nat.reduceAdd, Nat.reduceMul, Nat.reduceSub, Nat.reduceEqDiff, isB0, isB1, Int32.neg_neg, Nat.zero_add, Nat.add_zero, Nat.mul_zero, Nat.mul_one, Nat.zero_mul], by simp -dsimp -implicitDefEqProofs (disch := omega) only [X6_open, mK_f gM o, i32_lit, i32_add, i32_mul, i32_tn, i32_sub, le_t, le_f, lt_t, lt_f, eq_t, eq_f, eq_rfl, inR_t, ↓ob_x, obx_s, ↓bnd_s, ↓oT_x, oTx_s, ↓ite_x, itx_T, itx_F, ↓reduceIte, not_true_eq_false, not_false_eq_true, true_and, and_true, Nat.reduceAdd, Nat.reduceMul, Nat.reduceSub, Nat.reduceEqDiff, isB0, isB1, Int32.neg_neg, Nat.zero_add, Nat.add_zero, Nat.mul_zero, Nat.mul_one, Nat.zero_mul], d, i, c, hR⟩
set_option maxRecDepth 100000 in
theorem e_hour {N : Nat} (hN : 6000 ≤ N) {gI gM : Mem} (h : R gI gM) : EQ (X5_hour N gI) (X6_hour N gM) := by
  obtain ⟨d, i, c, hR⟩ := h
  obtain ⟨⟨hS, hB, hG, hH⟩, hT, hP, hSh, hK⟩ := id hR
  obtain ⟨⟨a0_, hd6, hi6⟩, s1_, s2_, s3_, s4_, s5_, s6_, b7, b8, s9_, s10_, b11, b12, b13, b14⟩ := id hS
  have b1 : ∀ t, t < 6 → gI.1 43 t = gM.1 5 t := s1_
  have b2 : ∀ k, k < 12 → gI.1 44 k = gM.1 4 (4 * k) := s2_
  have b3 : ∀ k, k < 12 → gI.1 45 k = gM.1 4 (4 * k + 1) := s3_
  have b4 : ∀ k, k < 12 → gI.1 46 k = gM.1 4 (4 * k + 2) := s4_
  have b5 : ∀ k, k < 12 → gI.1 47 k = gM.1 4 (4 * k + 3) := s5_
  have b6 : ∀ p, p < 6 → gI.1 50 p = gM.1 3 (2 * p) := s6_
  have b9 : ∀ p, p < d → gI.1 48 p = gM.1 1 p := s9_
  have b10 : ∀ p, p < d → gI.1 49 p = gM.1 2 p := s10_
  have bG : ∀ p, p < 6 → gI.1 51 p = gM.1 3 (2 * p + 1) := hG
  clear s1_ s2_ s3_ s4_ s5_ s6_ s9_ s10_
  obtain ⟨n, hn, e⟩ := id hH
  by_cases h9 : n = 999
  · subst h9
    exact ⟨-3, gI, gM, by simp -dsimp -implicitDefEqProofs (disch := omega) only [X5_hour, b11, e, i32_lit, i32_add, i32_mul, i32_tn, i32_sub, le_t, le_f, lt_t, lt_f, eq_t, eq_f, eq_rfl, inR_t, ↓ob_x, obx_s, ↓bnd_s, ↓oT_x, oTx_s, ↓ite_x, itx_T, itx_F, ↓reduceIte, not_true_eq_false, not_false_eq_true, true_and, and_true, Nat.reduceAdd, Nat.reduceMul, Nat.reduceSub, Nat.reduceEqDiff, isB0, isB1, Int32.neg_neg, Nat.zero_add, Nat.add_zero, Nat.mul_zero, Nat.mul_one, Nat.zero_mul], by simp -dsimp -implicitDefEqProofs (disch := omega) only [X6_hour, e, i32_lit, i32_add, i32_mul, i32_tn, i32_sub, le_t, le_f, lt_t, lt_f, eq_t, eq_f, eq_rfl, inR_t, ↓ob_x, obx_s, ↓bnd_s, ↓oT_x, oTx_s, ↓ite_x, itx_T, itx_F, ↓reduceIte, not_true_eq_false, not_false_eq_true, true_and, and_true, Nat.reduceAdd, Nat.reduceMul, Nat.reduceSub, Nat.reduceEqDiff, isB0, isB1, Int32.neg_neg, Nat.zero_add, Nat.add_zero, Nat.mul_zero, Nat.mul_one, Nat.zero_mul], d, i, c, hR⟩
  · obtain ⟨g1, m1, r1, r2, r3, r4, _⟩ := hour_sim hN hS hB
    refine ⟨mainV m1, g1, m1, by simp -dsimp -implicitDefEqProofs (disch := omega) only [X5_hour, b11, e, r1, main_I hN r3.1, i32_lit, i32_add, i32_mul, i32_tn, i32_sub, le_t, le_f, lt_t, lt_f, eq_t, eq_f, eq_rfl, inR_t, ↓ob_x, obx_s, ↓bnd_s, ↓oT_x, oTx_s, ↓ite_x, itx_T, itx_F, ↓reduceIte, not_true_eq_false, not_false_eq_true, true_and, and_true, Nat.reduceAdd, Nat.reduceMul, Nat.reduceSub, Nat.reduceEqDiff, isB0, isB1, Int32.neg_neg, Nat.zero_add, Nat.add_zero, Nat.mul_zero, Nat.mul_one, Nat.zero_mul], by simp -dsimp -implicitDefEqProofs (disch := omega) only [X6_hour, e, r2, main_M hN, i32_lit, i32_add, i32_mul, i32_tn, i32_sub, le_t, le_f, lt_t, lt_f, eq_t, eq_f, eq_rfl, inR_t, ↓ob_x, obx_s, ↓bnd_s, ↓oT_x, oTx_s, ↓ite_x, itx_T, itx_F, ↓reduceIte, not_true_eq_false, not_false_eq_true, true_and, and_true, Nat.reduceAdd, Nat.reduceMul, Nat.reduceSub, Nat.reduceEqDiff, isB0, isB1, Int32.neg_neg, Nat.zero_add, Nat.add_zero, Nat.mul_zero, Nat.mul_one, Nat.zero_mul], d, i, c, RR_tr hR r3 ?_⟩
    rw [r4, e, i32_add]
    exact ⟨n + 1, by omega, rfl⟩
set_option maxRecDepth 100000 in
theorem e_bay {N : Nat} (hN : 6000 ≤ N) {gI gM : Mem} (h : R gI gM) (a : Int32) : EQ (X5_bay N a gI) (X6_bay N a gM) := by
  obtain ⟨d, i, c, hR⟩ := h
  obtain ⟨⟨hS, hB, hG, hH⟩, hT, hP, hSh, hK⟩ := id hR
  obtain ⟨⟨a0_, hd6, hi6⟩, s1_, s2_, s3_, s4_, s5_, s6_, b7, b8, s9_, s10_, b11, b12, b13, b14⟩ := id hS
  have b1 : ∀ t, t < 6 → gI.1 43 t = gM.1 5 t := s1_
  have b2 : ∀ k, k < 12 → gI.1 44 k = gM.1 4 (4 * k) := s2_
  have b3 : ∀ k, k < 12 → gI.1 45 k = gM.1 4 (4 * k + 1) := s3_
  have b4 : ∀ k, k < 12 → gI.1 46 k = gM.1 4 (4 * k + 2) := s4_
  have b5 : ∀ k, k < 12 → gI.1 47 k = gM.1 4 (4 * k + 3) := s5_
  have b6 : ∀ p, p < 6 → gI.1 50 p = gM.1 3 (2 * p) := s6_
  have b9 : ∀ p, p < d → gI.1 48 p = gM.1 1 p := s9_
  have b10 : ∀ p, p < d → gI.1 49 p = gM.1 2 p := s10_
  have bG : ∀ p, p < 6 → gI.1 51 p = gM.1 3 (2 * p + 1) := hG
  clear s1_ s2_ s3_ s4_ s5_ s6_ s9_ s10_
  rcases rg a 8 (by omega) with ⟨w, hw, rfl⟩ | o
  · exact ⟨bayV gM w, gI, gM, by simp -dsimp -implicitDefEqProofs (disch := omega) only [X5_bay, isW_t, bay_I hN hS hw, i32_lit, i32_add, i32_mul, i32_tn, i32_sub, le_t, le_f, lt_t, lt_f, eq_t, eq_f, eq_rfl, inR_t, ↓ob_x, obx_s, ↓bnd_s, ↓oT_x, oTx_s, ↓ite_x, itx_T, itx_F, ↓reduceIte, not_true_eq_false, not_false_eq_true, true_and, and_true, Nat.reduceAdd, Nat.reduceMul, Nat.reduceSub, Nat.reduceEqDiff, isB0, isB1, Int32.neg_neg, Nat.zero_add, Nat.add_zero, Nat.mul_zero, Nat.mul_one, Nat.zero_mul], by simp -dsimp -implicitDefEqProofs (disch := omega) only [X6_bay, in_t, bay_M hN gM hw, i32_lit, i32_add, i32_mul, i32_tn, i32_sub, le_t, le_f, lt_t, lt_f, eq_t, eq_f, eq_rfl, inR_t, ↓ob_x, obx_s, ↓bnd_s, ↓oT_x, oTx_s, ↓ite_x, itx_T, itx_F, ↓reduceIte, not_true_eq_false, not_false_eq_true, true_and, and_true, Nat.reduceAdd, Nat.reduceMul, Nat.reduceSub, Nat.reduceEqDiff, isB0, isB1, Int32.neg_neg, Nat.zero_add, Nat.add_zero, Nat.mul_zero, Nat.mul_one, Nat.zero_mul], d, i, c, hR⟩
  · exact ⟨-1000, gI, gM, by simp -dsimp -implicitDefEqProofs (disch := omega) only [X5_bay, isW_f gI (by omega : 7 < 1000000) o, i32_lit, i32_add, i32_mul, i32_tn, i32_sub, le_t, le_f, lt_t, lt_f, eq_t, eq_f, eq_rfl, inR_t, ↓ob_x, obx_s, ↓bnd_s, ↓oT_x, oTx_s, ↓ite_x, itx_T, itx_F, ↓reduceIte, not_true_eq_false, not_false_eq_true, true_and, and_true, Nat.reduceAdd, Nat.reduceMul, Nat.reduceSub, Nat.reduceEqDiff, isB0, isB1, Int32.neg_neg, Nat.zero_add, Nat.add_zero, Nat.mul_zero, Nat.mul_one, Nat.zero_mul], by simp -dsimp -implicitDefEqProofs (disch := omega) only [X6_bay, in_f gM (by omega : 7 < 1000000) o, i32_lit, i32_add, i32_mul, i32_tn, i32_sub, le_t, le_f, lt_t, lt_f, eq_t, eq_f, eq_rfl, inR_t, ↓ob_x, obx_s, ↓bnd_s, ↓oT_x, oTx_s, ↓ite_x, itx_T, itx_F, ↓reduceIte, not_true_eq_false, not_false_eq_true, true_and, and_true, Nat.reduceAdd, Nat.reduceMul, Nat.reduceSub, Nat.reduceEqDiff, isB0, isB1, Int32.neg_neg, Nat.zero_add, Nat.add_zero, Nat.mul_zero, Nat.mul_one, Nat.zero_mul], d, i, c, hR⟩
