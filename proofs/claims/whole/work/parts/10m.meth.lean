/-! hours in thought; rows of dives; why a sheet is refused -/
theorem nn_i {a : Int32} (h : ¬ a < i32 0) : ∃ m, m < 2147483648 ∧ a = i32 m := by
  rw [Int32.lt_iff_toInt_lt, i32_toInt (by omega)] at h
  have h2 := Int32.toInt_lt a
  refine ⟨a.toInt.toNat, by omega, Int32.toInt_inj.mp ?_⟩
  rw [i32_toInt (by omega)]; omega
theorem ne_m {x v : Nat} (h : 0 < v ∧ x < 2147483648 ∧ v < 2147483648) : (i32 x = -(i32 v)) = False := eq_false fun q => by
  have := congrArg Int32.toInt q
  rw [i32_toInt h.2.1, i32_negI h.2.2] at this; omega
theorem m_ne {x v : Nat} (h : 0 < v ∧ x < 2147483648 ∧ v < 2147483648) : (-(i32 v) = i32 x) = False := eq_false fun q => by
  have := congrArg Int32.toInt q
  rw [i32_toInt h.2.1, i32_negI h.2.2] at this; omega
theorem isW_any (N : Nat) (a m : Int32) (g : Mem) : X5_isWithin N a m g = some (i32 0, g) ∨ X5_isWithin N a m g = some (i32 1, g) := by
  by_cases h1 : a < i32 0
  · exact Or.inl (by simp -dsimp -implicitDefEqProofs (disch := omega) only [X5_isWithin, i32_lit, i32_add, i32_mul, i32_tn, i32_sub, le_t, le_f, lt_t, lt_f, eq_t, eq_f, eq_rfl, inR_t, ↓ob_x, obx_s, ↓bnd_s, ↓oT_x, oTx_s, ↓ite_x, itx_T, itx_F, ↓reduceIte, not_true_eq_false, not_false_eq_true, true_and, and_true, Nat.reduceAdd, Nat.reduceMul, Nat.reduceSub, Nat.reduceEqDiff, isB0, isB1, Int32.neg_neg, Nat.zero_add, Nat.add_zero, Nat.mul_zero, Nat.mul_one, Nat.zero_mul, h1])
  · by_cases h2 : m < a
    · exact Or.inl (by simp -dsimp -implicitDefEqProofs (disch := omega) only [X5_isWithin, i32_lit, i32_add, i32_mul, i32_tn, i32_sub, le_t, le_f, lt_t, lt_f, eq_t, eq_f, eq_rfl, inR_t, ↓ob_x, obx_s, ↓bnd_s, ↓oT_x, oTx_s, ↓ite_x, itx_T, itx_F, ↓reduceIte, not_true_eq_false, not_false_eq_true, true_and, and_true, Nat.reduceAdd, Nat.reduceMul, Nat.reduceSub, Nat.reduceEqDiff, isB0, isB1, Int32.neg_neg, Nat.zero_add, Nat.add_zero, Nat.mul_zero, Nat.mul_one, Nat.zero_mul, h1, h2])
    · exact Or.inr (by simp -dsimp -implicitDefEqProofs (disch := omega) only [X5_isWithin, i32_lit, i32_add, i32_mul, i32_tn, i32_sub, le_t, le_f, lt_t, lt_f, eq_t, eq_f, eq_rfl, inR_t, ↓ob_x, obx_s, ↓bnd_s, ↓oT_x, oTx_s, ↓ite_x, itx_T, itx_F, ↓reduceIte, not_true_eq_false, not_false_eq_true, true_and, and_true, Nat.reduceAdd, Nat.reduceMul, Nat.reduceSub, Nat.reduceEqDiff, isB0, isB1, Int32.neg_neg, Nat.zero_add, Nat.add_zero, Nat.mul_zero, Nat.mul_one, Nat.zero_mul, h1, h2])
theorem isD_any {N d : Nat} {g : Mem} (e : g.1 42 9 = i32 d) (hd : d ≤ 6) (a : Int32) : X5_isDiver N a g = some (i32 0, g) ∨ X5_isDiver N a g = some (i32 1, g) := by
  rcases rg a d (by omega) with ⟨n, hn, rfl⟩ | o
  · exact Or.inr (isD_t e hn hd)
  · exact Or.inl (isD_f e o hd)
set_option maxRecDepth 100000 in
theorem e_run {N : Nat} (hN : 6000 ≤ N) {gI gM : Mem} (h : R gI gM) (a1 a2 : Int32) : EQ (X5_run N a1 a2 gI) (X6_run N a1 a2 gM) := by
  obtain ⟨d, i, c, hR⟩ := h
  obtain ⟨⟨hS, hB, hG, hH⟩, hT, hP, hSh, hK⟩ := id hR
  obtain ⟨⟨a0_, hd6, hi6⟩, s1_, s2_, s3_, s4_, s5_, s6_, b7, b8, s9_, s10_, b11, b12, b13, b14⟩ := id hS
  have b1 : ∀ t, t < 6 → gI.1 43 t = gM.1 5 t := s1_
  have b2 : ∀ k, k < 12 → gI.1 44 k = gM.1 4 (4 * k) := s2_
  have b3 : ∀ k, k < 12 → gI.1 45 k = gM.1 4 (4 * k + 1) := s3_
  have b4 : ∀ k, k < 12 → gI.1 46 k = gM.1 4 (4 * k + 2) := s4_
  have b5 : ∀ k, k < 12 → gI.1 47 k = gM.1 4 (4 * k + 3) := s5_
  have b6 : ∀ p, p < 6 → gI.1 50 p = gM.1 3 (2 * p) := s6_
  have b9 : ∀ p, p < d → gI.1 48 p = gM.1 1 p := s9_
  have b10 : ∀ p, p < d → gI.1 49 p = gM.1 2 p := s10_
  have bG : ∀ p, p < 6 → gI.1 51 p = gM.1 3 (2 * p + 1) := hG
  clear s1_ s2_ s3_ s4_ s5_ s6_ s9_ s10_
  rcases rg a1 41 (by omega) with ⟨n, hn, rfl⟩ | o1
  · obtain ⟨g1, m1, t1, t2, t3, t4, t5, t6, t7⟩ := think hN hR
    obtain ⟨g2, m2, u1, u2, u3, u4⟩ := goes_sim (n := n) hN (by omega) t3 t4
    obtain ⟨m3, l1, l2⟩ := laid hN t7 u3.2.2.2.1
    have hR3 := RR_th hR (FI_tr t6 u3.2.2.1) l2
    rcases rg a2 8 (by omega) with ⟨w, hw, rfl⟩ | o2
    · exact ⟨bayV m2 w, g2, m3, by simp -dsimp -implicitDefEqProofs (disch := omega) only [X5_run, isW_t, t1, u1, bay_I hN u3.1 hw, i32_lit, i32_add, i32_mul, i32_tn, i32_sub, le_t, le_f, lt_t, lt_f, eq_t, eq_f, eq_rfl, inR_t, ↓ob_x, obx_s, ↓bnd_s, ↓oT_x, oTx_s, ↓ite_x, itx_T, itx_F, ↓reduceIte, not_true_eq_false, not_false_eq_true, true_and, and_true, Nat.reduceAdd, Nat.reduceMul, Nat.reduceSub, Nat.reduceEqDiff, isB0, isB1, Int32.neg_neg, Nat.zero_add, Nat.add_zero, Nat.mul_zero, Nat.mul_one, Nat.zero_mul], by simp -dsimp -implicitDefEqProofs (disch := omega) only [X6_run, in_t, t2, u2, bay_M hN m2 hw, l1, i32_lit, i32_add, i32_mul, i32_tn, i32_sub, le_t, le_f, lt_t, lt_f, eq_t, eq_f, eq_rfl, inR_t, ↓ob_x, obx_s, ↓bnd_s, ↓oT_x, oTx_s, ↓ite_x, itx_T, itx_F, ↓reduceIte, not_true_eq_false, not_false_eq_true, true_and, and_true, Nat.reduceAdd, Nat.reduceMul, Nat.reduceSub, Nat.reduceEqDiff, isB0, isB1, Int32.neg_neg, Nat.zero_add, Nat.add_zero, Nat.mul_zero, Nat.mul_one, Nat.zero_mul], d, i, c, hR3⟩
    · have e1 := isW_f (N := N) gI (by omega : 7 < 1000000) o2
      have e2 := in_f (N := N) gM (by omega : 7 < 1000000) o2
      by_cases h10 : a2 < i32 10
      · have e3 : X6_in N a2 (i32 10) (i32 (9 + d)) gM = some (i32 0, gM) := by simp -dsimp -implicitDefEqProofs (disch := omega) only [X6_in, i32_lit, i32_add, i32_mul, i32_tn, i32_sub, le_t, le_f, lt_t, lt_f, eq_t, eq_f, eq_rfl, inR_t, ↓ob_x, obx_s, ↓bnd_s, ↓oT_x, oTx_s, ↓ite_x, itx_T, itx_F, ↓reduceIte, not_true_eq_false, not_false_eq_true, true_and, and_true, Nat.reduceAdd, Nat.reduceMul, Nat.reduceSub, Nat.reduceEqDiff, isB0, isB1, Int32.neg_neg, Nat.zero_add, Nat.add_zero, Nat.mul_zero, Nat.mul_one, Nat.zero_mul, h10]
        exact ⟨-1000, gI, gM, by simp -dsimp -implicitDefEqProofs (disch := omega) only [X5_run, isW_t, e1, h10, i32_lit, i32_add, i32_mul, i32_tn, i32_sub, le_t, le_f, lt_t, lt_f, eq_t, eq_f, eq_rfl, inR_t, ↓ob_x, obx_s, ↓bnd_s, ↓oT_x, oTx_s, ↓ite_x, itx_T, itx_F, ↓reduceIte, not_true_eq_false, not_false_eq_true, true_and, and_true, Nat.reduceAdd, Nat.reduceMul, Nat.reduceSub, Nat.reduceEqDiff, isB0, isB1, Int32.neg_neg, Nat.zero_add, Nat.add_zero, Nat.mul_zero, Nat.mul_one, Nat.zero_mul], by simp -dsimp -implicitDefEqProofs (disch := omega) only [X6_run, in_t, e2, b8, e3, i32_lit, i32_add, i32_mul, i32_tn, i32_sub, le_t, le_f, lt_t, lt_f, eq_t, eq_f, eq_rfl, inR_t, ↓ob_x, obx_s, ↓bnd_s, ↓oT_x, oTx_s, ↓ite_x, itx_T, itx_F, ↓reduceIte, not_true_eq_false, not_false_eq_true, true_and, and_true, Nat.reduceAdd, Nat.reduceMul, Nat.reduceSub, Nat.reduceEqDiff, isB0, isB1, Int32.neg_neg, Nat.zero_add, Nat.add_zero, Nat.mul_zero, Nat.mul_one, Nat.zero_mul], d, i, c, hR⟩
      · have h0 : ¬ a2 < i32 0 := fun q => h10 (by
          rw [Int32.lt_iff_toInt_lt, i32_toInt (by omega)] at q ⊢; omega)
        obtain ⟨m, hm, rfl⟩ := nn_i h0
        rw [i32_lt (by omega) (by omega)] at h10
        by_cases hd : m < 10 + d
        · have e3 : X6_in N (i32 m) (i32 10) (i32 (9 + d)) gM = some (i32 1, gM) := by simp -dsimp -implicitDefEqProofs (disch := omega) only [X6_in, i32_lit, i32_add, i32_mul, i32_tn, i32_sub, le_t, le_f, lt_t, lt_f, eq_t, eq_f, eq_rfl, inR_t, ↓ob_x, obx_s, ↓bnd_s, ↓oT_x, oTx_s, ↓ite_x, itx_T, itx_F, ↓reduceIte, not_true_eq_false, not_false_eq_true, true_and, and_true, Nat.reduceAdd, Nat.reduceMul, Nat.reduceSub, Nat.reduceEqDiff, isB0, isB1, Int32.neg_neg, Nat.zero_add, Nat.add_zero, Nat.mul_zero, Nat.mul_one, Nat.zero_mul]
          have e4 := isD_t (N := N) (n := m - 10) b7 (by omega) hd6
          have e5 : g2.1 60 (m - 10) = m2.1 3 (2 * (m - 10)) := u3.1.2.2.2.2.2.2.1 (m - 10) (by omega)
          exact ⟨m2.1 3 (2 * (m - 10)), g2, m3, by simp -dsimp -implicitDefEqProofs (disch := omega) only [X5_run, isW_t, e1, e4, t1, u1, e5, i32_lit, i32_add, i32_mul, i32_tn, i32_sub, le_t, le_f, lt_t, lt_f, eq_t, eq_f, eq_rfl, inR_t, ↓ob_x, obx_s, ↓bnd_s, ↓oT_x, oTx_s, ↓ite_x, itx_T, itx_F, ↓reduceIte, not_true_eq_false, not_false_eq_true, true_and, and_true, Nat.reduceAdd, Nat.reduceMul, Nat.reduceSub, Nat.reduceEqDiff, isB0, isB1, Int32.neg_neg, Nat.zero_add, Nat.add_zero, Nat.mul_zero, Nat.mul_one, Nat.zero_mul], by simp -dsimp -implicitDefEqProofs (disch := omega) only [X6_run, in_t, e2, b8, e3, t2, u2, l1, i32_lit, i32_add, i32_mul, i32_tn, i32_sub, le_t, le_f, lt_t, lt_f, eq_t, eq_f, eq_rfl, inR_t, ↓ob_x, obx_s, ↓bnd_s, ↓oT_x, oTx_s, ↓ite_x, itx_T, itx_F, ↓reduceIte, not_true_eq_false, not_false_eq_true, true_and, and_true, Nat.reduceAdd, Nat.reduceMul, Nat.reduceSub, Nat.reduceEqDiff, isB0, isB1, Int32.neg_neg, Nat.zero_add, Nat.add_zero, Nat.mul_zero, Nat.mul_one, Nat.zero_mul], d, i, c, hR3⟩
        · have e3 : X6_in N (i32 m) (i32 10) (i32 (9 + d)) gM = some (i32 0, gM) := by simp -dsimp -implicitDefEqProofs (disch := omega) only [X6_in, i32_lit, i32_add, i32_mul, i32_tn, i32_sub, le_t, le_f, lt_t, lt_f, eq_t, eq_f, eq_rfl, inR_t, ↓ob_x, obx_s, ↓bnd_s, ↓oT_x, oTx_s, ↓ite_x, itx_T, itx_F, ↓reduceIte, not_true_eq_false, not_false_eq_true, true_and, and_true, Nat.reduceAdd, Nat.reduceMul, Nat.reduceSub, Nat.reduceEqDiff, isB0, isB1, Int32.neg_neg, Nat.zero_add, Nat.add_zero, Nat.mul_zero, Nat.mul_one, Nat.zero_mul]
          have e4 := isD_f (N := N) (a := i32 (m - 10)) b7 (Out_i (by omega)) hd6
          exact ⟨-1000, gI, gM, by simp -dsimp -implicitDefEqProofs (disch := omega) only [X5_run, isW_t, e1, e4, i32_lit, i32_add, i32_mul, i32_tn, i32_sub, le_t, le_f, lt_t, lt_f, eq_t, eq_f, eq_rfl, inR_t, ↓ob_x, obx_s, ↓bnd_s, ↓oT_x, oTx_s, ↓ite_x, itx_T, itx_F, ↓reduceIte, not_true_eq_false, not_false_eq_true, true_and, and_true, Nat.reduceAdd, Nat.reduceMul, Nat.reduceSub, Nat.reduceEqDiff, isB0, isB1, Int32.neg_neg, Nat.zero_add, Nat.add_zero, Nat.mul_zero, Nat.mul_one, Nat.zero_mul], by simp -dsimp -implicitDefEqProofs (disch := omega) only [X6_run, in_t, e2, b8, e3, i32_lit, i32_add, i32_mul, i32_tn, i32_sub, le_t, le_f, lt_t, lt_f, eq_t, eq_f, eq_rfl, inR_t, ↓ob_x, obx_s, ↓bnd_s, ↓oT_x, oTx_s, ↓ite_x, itx_T, itx_F, ↓reduceIte, not_true_eq_false, not_false_eq_true, true_and, and_true, Nat.reduceAdd, Nat.reduceMul, Nat.reduceSub, Nat.reduceEqDiff, isB0, isB1, Int32.neg_neg, Nat.zero_add, Nat.add_zero, Nat.mul_zero, Nat.mul_one, Nat.zero_mul], d, i, c, hR⟩
  · refine ⟨-1000, gI, gM, ?_, by simp -dsimp -implicitDefEqProofs (disch := omega) only [X6_run, in_f gM (by omega : 40 < 1000000) o1, i32_lit, i32_add, i32_mul, i32_tn, i32_sub, le_t, le_f, lt_t, lt_f, eq_t, eq_f, eq_rfl, inR_t, ↓ob_x, obx_s, ↓bnd_s, ↓oT_x, oTx_s, ↓ite_x, itx_T, itx_F, ↓reduceIte, not_true_eq_false, not_false_eq_true, true_and, and_true, Nat.reduceAdd, Nat.reduceMul, Nat.reduceSub, Nat.reduceEqDiff, isB0, isB1, Int32.neg_neg, Nat.zero_add, Nat.add_zero, Nat.mul_zero, Nat.mul_one, Nat.zero_mul], d, i, c, hR⟩
    have e0 := isW_f (N := N) gI (by omega : 40 < 1000000) o1
    rcases isW_any N a2 (i32 7) gI with e | e <;> by_cases h10 : a2 < i32 10 <;> rcases isD_any (N := N) b7 hd6 (a2 - i32 10) with e2 | e2 <;> simp -dsimp -implicitDefEqProofs (disch := omega) only [X5_run, e, e2, h10, e0, i32_lit, i32_add, i32_mul, i32_tn, i32_sub, le_t, le_f, lt_t, lt_f, eq_t, eq_f, eq_rfl, inR_t, ↓ob_x, obx_s, ↓bnd_s, ↓oT_x, oTx_s, ↓ite_x, itx_T, itx_F, ↓reduceIte, not_true_eq_false, not_false_eq_true, true_and, and_true, Nat.reduceAdd, Nat.reduceMul, Nat.reduceSub, Nat.reduceEqDiff, isB0, isB1, Int32.neg_neg, Nat.zero_add, Nat.add_zero, Nat.mul_zero, Nat.mul_one, Nat.zero_mul]
set_option maxRecDepth 100000 in
theorem stills_l {N d i : Nat} (hN : 6000 ≤ N) {g0 m0 : Mem} (k : KP 67 g0 m0) : ∀ (n x fu fM : Nat) (gI gM : Mem), x + n = 61 → n < fu → n + 1 < fM → Sc 52 d i gI gM → Bd d gM → FM m0 gM →
    ∃ r gI' gM', X5_stills_L13 N fu (i32 x) gI = some (r, gI') ∧ X6_stills_L8 N fM (-(i32 1)) (i32 x) gM = some (r, gM') ∧ FI 52 gI gI' ∧ EqM g0 gM' := by
  intro n
  induction n with
  | zero =>
    intro x fu fM gI gM h1 h2 h3 h q f
    obtain ⟨fu, rfl⟩ : ∃ q, fu = q + 1 := ⟨fu - 1, by omega⟩
    obtain ⟨fM, rfl⟩ : ∃ q, fM = q + 1 := ⟨fM - 1, by omega⟩
    obtain ⟨m3, l1, l2⟩ := laid hN k f
    have : x = 61 := by omega
    subst this
    exact ⟨-1, gI, m3, by simp -dsimp -implicitDefEqProofs (disch := omega) only [X5_stills_L13, i32_lit, i32_add, i32_mul, i32_tn, i32_sub, le_t, le_f, lt_t, lt_f, eq_t, eq_f, eq_rfl, inR_t, ↓ob_x, obx_s, ↓bnd_s, ↓oT_x, oTx_s, ↓ite_x, itx_T, itx_F, ↓reduceIte, not_true_eq_false, not_false_eq_true, true_and, and_true, Nat.reduceAdd, Nat.reduceMul, Nat.reduceSub, Nat.reduceEqDiff, isB0, isB1, Int32.neg_neg, Nat.zero_add, Nat.add_zero, Nat.mul_zero, Nat.mul_one, Nat.zero_mul], by simp -dsimp -implicitDefEqProofs (disch := omega) only [X6_stills_L8, l1, i32_lit, i32_add, i32_mul, i32_tn, i32_sub, le_t, le_f, lt_t, lt_f, eq_t, eq_f, eq_rfl, inR_t, ↓ob_x, obx_s, ↓bnd_s, ↓oT_x, oTx_s, ↓ite_x, itx_T, itx_F, ↓reduceIte, not_true_eq_false, not_false_eq_true, true_and, and_true, Nat.reduceAdd, Nat.reduceMul, Nat.reduceSub, Nat.reduceEqDiff, isB0, isB1, Int32.neg_neg, Nat.zero_add, Nat.add_zero, Nat.mul_zero, Nat.mul_one, Nat.zero_mul], FI_rfl _ _, l2⟩
  | succ n ih =>
    intro x fu fM gI gM h1 h2 h3 h q f
    obtain ⟨fu, rfl⟩ : ∃ q, fu = q + 1 := ⟨fu - 1, by omega⟩
    obtain ⟨fM, rfl⟩ : ∃ q, fM = q + 1 := ⟨fM - 1, by omega⟩
    have eI := main_I hN h
    have eM := main_M hN gM
    obtain ⟨g1, m1, r1, r2, r3, r4, _⟩ := hour_sim hN h q
    by_cases hm : mainV gM = -(i32 1)
    · obtain ⟨fM, rfl⟩ : ∃ q, fM = q + 1 := ⟨fM - 1, by omega⟩
      obtain ⟨m3, l1, l2⟩ := laid hN k (FM_tr f r3.2.2.2.1)
      have e1 := ne_m (x := x) (v := 1) (by omega)
      refine ⟨i32 x, gI, m3, by simp -dsimp -implicitDefEqProofs (disch := omega) only [X5_stills_L13, eI, hm, i32_lit, i32_add, i32_mul, i32_tn, i32_sub, le_t, le_f, lt_t, lt_f, eq_t, eq_f, eq_rfl, inR_t, ↓ob_x, obx_s, ↓bnd_s, ↓oT_x, oTx_s, ↓ite_x, itx_T, itx_F, ↓reduceIte, not_true_eq_false, not_false_eq_true, true_and, and_true, Nat.reduceAdd, Nat.reduceMul, Nat.reduceSub, Nat.reduceEqDiff, isB0, isB1, Int32.neg_neg, Nat.zero_add, Nat.add_zero, Nat.mul_zero, Nat.mul_one, Nat.zero_mul], ?_, FI_rfl _ _, l2⟩
      by_cases hx : x = 60
      · subst hx
        simp -dsimp -implicitDefEqProofs (disch := omega) only [X6_stills_L8, eM, hm, r2, l1, e1, i32_lit, i32_add, i32_mul, i32_tn, i32_sub, le_t, le_f, lt_t, lt_f, eq_t, eq_f, eq_rfl, inR_t, ↓ob_x, obx_s, ↓bnd_s, ↓oT_x, oTx_s, ↓ite_x, itx_T, itx_F, ↓reduceIte, not_true_eq_false, not_false_eq_true, true_and, and_true, Nat.reduceAdd, Nat.reduceMul, Nat.reduceSub, Nat.reduceEqDiff, isB0, isB1, Int32.neg_neg, Nat.zero_add, Nat.add_zero, Nat.mul_zero, Nat.mul_one, Nat.zero_mul]
      · simp -dsimp -implicitDefEqProofs (disch := omega) only [X6_stills_L8, eM, hm, r2, l1, e1, i32_lit, i32_add, i32_mul, i32_tn, i32_sub, le_t, le_f, lt_t, lt_f, eq_t, eq_f, eq_rfl, inR_t, ↓ob_x, obx_s, ↓bnd_s, ↓oT_x, oTx_s, ↓ite_x, itx_T, itx_F, ↓reduceIte, not_true_eq_false, not_false_eq_true, true_and, and_true, Nat.reduceAdd, Nat.reduceMul, Nat.reduceSub, Nat.reduceEqDiff, isB0, isB1, Int32.neg_neg, Nat.zero_add, Nat.add_zero, Nat.mul_zero, Nat.mul_one, Nat.zero_mul]
    · obtain ⟨r, g2, m2, s1, s2, s3, s4⟩ := ih (x + 1) fu fM g1 m1 (by omega) (by omega) (by omega) r3.1 r3.2.1 (FM_tr f r3.2.2.2.1)
      exact ⟨r, g2, m2, by simp -dsimp -implicitDefEqProofs (disch := omega) only [X5_stills_L13, eI, hm, r1, s1, i32_lit, i32_add, i32_mul, i32_tn, i32_sub, le_t, le_f, lt_t, lt_f, eq_t, eq_f, eq_rfl, inR_t, ↓ob_x, obx_s, ↓bnd_s, ↓oT_x, oTx_s, ↓ite_x, itx_T, itx_F, ↓reduceIte, not_true_eq_false, not_false_eq_true, true_and, and_true, Nat.reduceAdd, Nat.reduceMul, Nat.reduceSub, Nat.reduceEqDiff, isB0, isB1, Int32.neg_neg, Nat.zero_add, Nat.add_zero, Nat.mul_zero, Nat.mul_one, Nat.zero_mul], by simp -dsimp -implicitDefEqProofs (disch := omega) only [X6_stills_L8, eM, hm, r2, s2, i32_lit, i32_add, i32_mul, i32_tn, i32_sub, le_t, le_f, lt_t, lt_f, eq_t, eq_f, eq_rfl, inR_t, ↓ob_x, obx_s, ↓bnd_s, ↓oT_x, oTx_s, ↓ite_x, itx_T, itx_F, ↓reduceIte, not_true_eq_false, not_false_eq_true, true_and, and_true, Nat.reduceAdd, Nat.reduceMul, Nat.reduceSub, Nat.reduceEqDiff, isB0, isB1, Int32.neg_neg, Nat.zero_add, Nat.add_zero, Nat.mul_zero, Nat.mul_one, Nat.zero_mul], FI_tr r3.2.2.1 s3, s4⟩
theorem e_stills {N : Nat} (hN : 6000 ≤ N) {gI gM : Mem} (h : R gI gM) : EQ (X5_stills N gI) (X6_stills N gM) := by
  obtain ⟨d, i, c, hR⟩ := h
  obtain ⟨g1, m1, t1, t2, t3, t4, t5, t6, t7⟩ := think hN hR
  obtain ⟨r, g2, m2, s1, s2, s3, s4⟩ := stills_l hN t7 61 0 N N g1 m1 (by omega) (by omega) (by omega) t3 t4 (FM_rfl m1)
  exact ⟨r, g2, m2, by simp -dsimp -implicitDefEqProofs (disch := omega) only [X5_stills, t1, s1, i32_lit, i32_add, i32_mul, i32_tn, i32_sub, le_t, le_f, lt_t, lt_f, eq_t, eq_f, eq_rfl, inR_t, ↓ob_x, obx_s, ↓bnd_s, ↓oT_x, oTx_s, ↓ite_x, itx_T, itx_F, ↓reduceIte, not_true_eq_false, not_false_eq_true, true_and, and_true, Nat.reduceAdd, Nat.reduceMul, Nat.reduceSub, Nat.reduceEqDiff, isB0, isB1, Int32.neg_neg, Nat.zero_add, Nat.add_zero, Nat.mul_zero, Nat.mul_one, Nat.zero_mul], by simp -dsimp -implicitDefEqProofs (disch := omega) only [X6_stills, t2, s2, i32_lit, i32_add, i32_mul, i32_tn, i32_sub, le_t, le_f, lt_t, lt_f, eq_t, eq_f, eq_rfl, inR_t, ↓ob_x, obx_s, ↓bnd_s, ↓oT_x, oTx_s, ↓ite_x, itx_T, itx_F, ↓reduceIte, not_true_eq_false, not_false_eq_true, true_and, and_true, Nat.reduceAdd, Nat.reduceMul, Nat.reduceSub, Nat.reduceEqDiff, isB0, isB1, Int32.neg_neg, Nat.zero_add, Nat.add_zero, Nat.mul_zero, Nat.mul_one, Nat.zero_mul], d, i, c, RR_th hR (FI_tr t6 s3) s4⟩
