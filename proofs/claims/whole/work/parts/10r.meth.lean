/-! told dives: breaths, kinds; best -/
theorem stI_stI (g : Mem) (k j : Nat) (x y : Int32) : stI (stI g k j x) k j y = stI g k j y := by
  refine Prod.ext (funext fun c => funext fun i => ?_) rfl
  rw [stI_1 (stI g k j x) k j y, stI_1 g k j x, stI_1 g k j y]
  by_cases h : c = k
  · simp only [if_pos h]
    by_cases h2 : i = j
    · simp only [if_pos h2]
    · simp only [if_neg h2]
  · simp only [if_neg h]
theorem stI_own (g : Mem) (k j : Nat) (x : Int32) (hx : x = g.1 k j) : stI g k j x = g := by
  subst hx
  refine Prod.ext (funext fun c => funext fun i => ?_) rfl
  rw [stI_1]
  by_cases h : c = k
  · rw [if_pos h]
    by_cases h2 : i = j
    · rw [if_pos h2, h, h2]
    · rw [if_neg h2]
  · rw [if_neg h]
/-- whether it is so of all -/
def soF (g : Mem) (i s p : Nat) : Nat → Nat → Nat
  | _, 0 => 1
  | x, n + 1 => if g.1 13 (40 * s + x) = i32 (canV g i p x) then soF g i s p (x + 1) n else 0
theorem soF_le (g : Mem) (i s p : Nat) : ∀ (n x : Nat), soF g i s p x n = 0 ∨ soF g i s p x n = 1
  | 0, x => Or.inr rfl
  | n + 1, x => by
    rw [soF]
    split
    · exact soF_le g i s p n (x + 1)
    · exact Or.inl rfl
set_option maxRecDepth 100000 in
theorem so_I {N b d i s m p : Nat} (hN : 6000 ≤ N) (hp : p < d) (hm : m ≤ 12) {gM : Mem} : ∀ (n x fu : Nat) (gI : Mem), x + n = m → n < fu → Sc b d i gI gM → ShS s m gI gM →
    ∃ gI', X1_isSoOfAll_L2 N b (34 + 2 * s) (i32 p) fu (i32 x) gI = some (i32 (soF gM i s p x n), gI') ∧ SI gI gI'
  | 0, x, fu, gI, h1, h2, h, S0 => by
    obtain ⟨fu, rfl⟩ : ∃ q, fu = q + 1 := ⟨fu - 1, by omega⟩
    obtain ⟨hs, _, e1, e2, e3⟩ := S0
    exact ⟨gI, by simp -dsimp -implicitDefEqProofs (disch := omega) only [X1_isSoOfAll_L2, e1, soF, i32_lit, i32_add, i32_mul, i32_tn, i32_sub, le_t, le_f, lt_t, lt_f, eq_t, eq_f, eq_rfl, inR_t, ↓ob_x, obx_s, ↓bnd_s, ↓oT_x, oTx_s, ↓ite_x, itx_T, itx_F, ↓reduceIte, not_true_eq_false, not_false_eq_true, true_and, and_true, Nat.reduceAdd, Nat.reduceMul, Nat.reduceSub, Nat.reduceEqDiff, isB0, isB1, Int32.neg_neg, Nat.zero_add, Nat.add_zero, Nat.mul_zero, Nat.mul_one, Nat.zero_mul], SI_rfl gI⟩
  | n + 1, x, fu, gI, h1, h2, h, S0 => by
    obtain ⟨fu, rfl⟩ : ∃ q, fu = q + 1 := ⟨fu - 1, by omega⟩
    obtain ⟨hs, _, e1, e2, e3⟩ := id S0
    obtain ⟨g1, r1, r2⟩ := can_I (k := x) hN h hp (by omega)
    have S1 := ShS_SI S0 r2
    have e4 := e3 x (by omega)
    by_cases hc : gM.1 13 (40 * s + x) = i32 (canV gM i p x)
    · obtain ⟨g2, s1, s2⟩ := so_I hN hp hm n (x + 1) fu g1 (by omega) (by omega) (Sc_SI h r2) S1
      refine ⟨g2, ?_, SI_tr r2 s2⟩
      rw [soF, if_pos hc, ← s1]
      rcases canV_le gM i p x with hv | hv
      · rw [hv] at hc
        simp -dsimp -implicitDefEqProofs (disch := omega) only [X1_isSoOfAll_L2, e1, e4, r1, hc, hv, i32_lit, i32_add, i32_mul, i32_tn, i32_sub, le_t, le_f, lt_t, lt_f, eq_t, eq_f, eq_rfl, inR_t, ↓ob_x, obx_s, ↓bnd_s, ↓oT_x, oTx_s, ↓ite_x, itx_T, itx_F, ↓reduceIte, not_true_eq_false, not_false_eq_true, true_and, and_true, Nat.reduceAdd, Nat.reduceMul, Nat.reduceSub, Nat.reduceEqDiff, isB0, isB1, Int32.neg_neg, Nat.zero_add, Nat.add_zero, Nat.mul_zero, Nat.mul_one, Nat.zero_mul]
      · rw [hv] at hc
        simp -dsimp -implicitDefEqProofs (disch := omega) only [X1_isSoOfAll_L2, e1, e4, r1, hc, hv, i32_lit, i32_add, i32_mul, i32_tn, i32_sub, le_t, le_f, lt_t, lt_f, eq_t, eq_f, eq_rfl, inR_t, ↓ob_x, obx_s, ↓bnd_s, ↓oT_x, oTx_s, ↓ite_x, itx_T, itx_F, ↓reduceIte, not_true_eq_false, not_false_eq_true, true_and, and_true, Nat.reduceAdd, Nat.reduceMul, Nat.reduceSub, Nat.reduceEqDiff, isB0, isB1, Int32.neg_neg, Nat.zero_add, Nat.add_zero, Nat.mul_zero, Nat.mul_one, Nat.zero_mul]
    · refine ⟨g1, ?_, r2⟩
      rw [soF, if_neg hc]
      rcases canV_le gM i p x with hv | hv
      · rw [hv] at hc
        simp -dsimp -implicitDefEqProofs (disch := omega) only [X1_isSoOfAll_L2, e1, e4, r1, hc, hv, i32_lit, i32_add, i32_mul, i32_tn, i32_sub, le_t, le_f, lt_t, lt_f, eq_t, eq_f, eq_rfl, inR_t, ↓ob_x, obx_s, ↓bnd_s, ↓oT_x, oTx_s, ↓ite_x, itx_T, itx_F, ↓reduceIte, not_true_eq_false, not_false_eq_true, true_and, and_true, Nat.reduceAdd, Nat.reduceMul, Nat.reduceSub, Nat.reduceEqDiff, isB0, isB1, Int32.neg_neg, Nat.zero_add, Nat.add_zero, Nat.mul_zero, Nat.mul_one, Nat.zero_mul]
      · rw [hv] at hc
        simp -dsimp -implicitDefEqProofs (disch := omega) only [X1_isSoOfAll_L2, e1, e4, r1, hc, hv, i32_lit, i32_add, i32_mul, i32_tn, i32_sub, le_t, le_f, lt_t, lt_f, eq_t, eq_f, eq_rfl, inR_t, ↓ob_x, obx_s, ↓bnd_s, ↓oT_x, oTx_s, ↓ite_x, itx_T, itx_F, ↓reduceIte, not_true_eq_false, not_false_eq_true, true_and, and_true, Nat.reduceAdd, Nat.reduceMul, Nat.reduceSub, Nat.reduceEqDiff, isB0, isB1, Int32.neg_neg, Nat.zero_add, Nat.add_zero, Nat.mul_zero, Nat.mul_one, Nat.zero_mul]
theorem soF_fr {g g' : Mem} {i p : Nat} (h : canV g' i p = canV g i p) (k : g'.1 13 = g.1 13) (s : Nat) : ∀ (n x : Nat), soF g' i s p x n = soF g i s p x n
  | 0, x => rfl
  | n + 1, x => by rw [soF, soF, h, k, soF_fr h k s n]
set_option maxRecDepth 100000 in
theorem so_M {N i d s m p : Nat} (hN : 6000 ≤ N) (hp : p < 6) (hs : s < 4) (hm : m ≤ 12) {gI : Mem} : ∀ (n x fu : Nat) (gM : Mem), x + n = m → n < fu → MR i d gI gM → gM.1 12 s = i32 m →
    ∃ gM', X6_divesSo_L2 N (i32 s) (i32 p) fu (i32 x) gM = some (i32 (soF gM i s p x n), gM') ∧ SM gM gM'
  | 0, x, fu, gM, h1, h2, h, e2 => by
    obtain ⟨fu, rfl⟩ : ∃ q, fu = q + 1 := ⟨fu - 1, by omega⟩
    exact ⟨gM, by simp -dsimp -implicitDefEqProofs (disch := omega) only [X6_divesSo_L2, e2, soF, i32_lit, i32_add, i32_mul, i32_tn, i32_sub, le_t, le_f, lt_t, lt_f, eq_t, eq_f, eq_rfl, inR_t, ↓ob_x, obx_s, ↓bnd_s, ↓oT_x, oTx_s, ↓ite_x, itx_T, itx_F, ↓reduceIte, not_true_eq_false, not_false_eq_true, true_and, and_true, Nat.reduceAdd, Nat.reduceMul, Nat.reduceSub, Nat.reduceEqDiff, isB0, isB1, Int32.neg_neg, Nat.zero_add, Nat.add_zero, Nat.mul_zero, Nat.mul_one, Nat.zero_mul], SM_rfl gM⟩
  | n + 1, x, fu, gM, h1, h2, h, e2 => by
    obtain ⟨fu, rfl⟩ : ∃ q, fu = q + 1 := ⟨fu - 1, by omega⟩
    obtain ⟨g1, r1, r2⟩ := can_M (k := x) hN h.1 h.2.1 h.2.2.1 hp (by omega)
    have e13 : g1.1 13 = gM.1 13 := SM_r r2 13 (by omega)
    by_cases hc : gM.1 13 (40 * s + x) = i32 (canV gM i p x)
    · obtain ⟨g2, s1, s2⟩ := so_M hN hp hs hm n (x + 1) fu g1 (by omega) (by omega) (MR_E h (EqM_SM r2)) (by rw [SM_r r2 12 (by omega)]; exact e2)
      rw [soF_fr (canV_SM r2 i p) e13] at s1
      refine ⟨g2, ?_, SM_tr r2 s2⟩
      rw [soF, if_pos hc, ← s1]
      rcases canV_le gM i p x with hv | hv
      · rw [hv] at hc
        simp -dsimp -implicitDefEqProofs (disch := omega) only [X6_divesSo_L2, e2, e13, r1, hc, hv, i32_lit, i32_add, i32_mul, i32_tn, i32_sub, le_t, le_f, lt_t, lt_f, eq_t, eq_f, eq_rfl, inR_t, ↓ob_x, obx_s, ↓bnd_s, ↓oT_x, oTx_s, ↓ite_x, itx_T, itx_F, ↓reduceIte, not_true_eq_false, not_false_eq_true, true_and, and_true, Nat.reduceAdd, Nat.reduceMul, Nat.reduceSub, Nat.reduceEqDiff, isB0, isB1, Int32.neg_neg, Nat.zero_add, Nat.add_zero, Nat.mul_zero, Nat.mul_one, Nat.zero_mul]
      · rw [hv] at hc
        simp -dsimp -implicitDefEqProofs (disch := omega) only [X6_divesSo_L2, e2, e13, r1, hc, hv, i32_lit, i32_add, i32_mul, i32_tn, i32_sub, le_t, le_f, lt_t, lt_f, eq_t, eq_f, eq_rfl, inR_t, ↓ob_x, obx_s, ↓bnd_s, ↓oT_x, oTx_s, ↓ite_x, itx_T, itx_F, ↓reduceIte, not_true_eq_false, not_false_eq_true, true_and, and_true, Nat.reduceAdd, Nat.reduceMul, Nat.reduceSub, Nat.reduceEqDiff, isB0, isB1, Int32.neg_neg, Nat.zero_add, Nat.add_zero, Nat.mul_zero, Nat.mul_one, Nat.zero_mul]
    · refine ⟨g1, ?_, r2⟩
      rw [soF, if_neg hc]
      rcases canV_le gM i p x with hv | hv
      · rw [hv] at hc
        simp -dsimp -implicitDefEqProofs (disch := omega) only [X6_divesSo_L2, e2, e13, r1, hc, hv, i32_lit, i32_add, i32_mul, i32_tn, i32_sub, le_t, le_f, lt_t, lt_f, eq_t, eq_f, eq_rfl, inR_t, ↓ob_x, obx_s, ↓bnd_s, ↓oT_x, oTx_s, ↓ite_x, itx_T, itx_F, ↓reduceIte, not_true_eq_false, not_false_eq_true, true_and, and_true, Nat.reduceAdd, Nat.reduceMul, Nat.reduceSub, Nat.reduceEqDiff, isB0, isB1, Int32.neg_neg, Nat.zero_add, Nat.add_zero, Nat.mul_zero, Nat.mul_one, Nat.zero_mul]
      · rw [hv] at hc
        simp -dsimp -implicitDefEqProofs (disch := omega) only [X6_divesSo_L2, e2, e13, r1, hc, hv, i32_lit, i32_add, i32_mul, i32_tn, i32_sub, le_t, le_f, lt_t, lt_f, eq_t, eq_f, eq_rfl, inR_t, ↓ob_x, obx_s, ↓bnd_s, ↓oT_x, oTx_s, ↓ite_x, itx_T, itx_F, ↓reduceIte, not_true_eq_false, not_false_eq_true, true_and, and_true, Nat.reduceAdd, Nat.reduceMul, Nat.reduceSub, Nat.reduceEqDiff, isB0, isB1, Int32.neg_neg, Nat.zero_add, Nat.add_zero, Nat.mul_zero, Nat.mul_one, Nat.zero_mul]
theorem isSo_I {N b d i s m p : Nat} (hN : 6000 ≤ N) (hp : p < d) (hm : m ≤ 12) {gI gM : Mem} (h : Sc b d i gI gM) (S0 : ShS s m gI gM) :
    ∃ gI', X1_isSoOfAll N b (34 + 2 * s) (i32 p) gI = some (i32 (soF gM i s p 0 m), gI') ∧ SI gI gI' := so_I hN hp hm m 0 N gI (by omega) (by omega) h S0
theorem isSo_M {N d i s m p : Nat} (hN : 6000 ≤ N) (hp : p < 6) (hs : s < 4) (hm : m ≤ 12) {gI gM : Mem} (h : MR i d gI gM) (e : gM.1 12 s = i32 m) :
    ∃ gM', X6_divesSo N (i32 s) (i32 p) gM = some (i32 (soF gM i s p 0 m), gM') ∧ SM gM gM' := so_M hN hp hs hm m 0 N gM (by omega) (by omega) h e
set_option maxRecDepth 100000 in
theorem ref_tries {N d i c : Nat} {gI gM : Mem} (h : RR d i c gI gM) (a1 a2 a3 : Int32) :
    (∃ v, 0 < v ∧ v < 100 ∧ X5_refusalOfTries N a1 a2 a3 gI = some (-(i32 v), gI) ∧ (X6_divesWrong N a1 a2 gM = some (-(i32 v), gM) ∨ (v = 7 ∧ X6_divesWrong N a1 a2 gM = some (i32 0, gM) ∧ X6_in N a3 (i32 0) (i32 1) gM = some (i32 0, gM)))) ∨
    (∃ s m p w, a1 = i32 s ∧ a2 = i32 p ∧ a3 = i32 w ∧ p < d ∧ w < 2 ∧ m ≤ 12 ∧ ShS s m gI gM ∧ X5_refusalOfTries N a1 a2 a3 gI = some (i32 0, gI) ∧ X6_divesWrong N a1 a2 gM = some (i32 0, gM)) := by
  have b7 := h.1.1.2.2.2.2.2.2.2.1
  have b8 := h.1.1.2.2.2.2.2.2.2.2.1
  have hd6 := h.1.1.1.2.1
  rcases ref_sheet (N := N) (M := 12) h.2.2.2.1 (by omega) a1 with ⟨v, hv, hv2, r1, r2⟩ | ⟨s, m, rfl, hm, S0, _, _, r1, r2⟩
  · have n0 := m_ne (x := 0) (v := v) (by omega)
    exact Or.inl ⟨v, hv, hv2, by simp -dsimp -implicitDefEqProofs (disch := omega) only [X5_refusalOfTries, r1, n0, i32_lit, i32_add, i32_mul, i32_tn, i32_sub, le_t, le_f, lt_t, lt_f, eq_t, eq_f, eq_rfl, inR_t, ↓ob_x, obx_s, ↓bnd_s, ↓oT_x, oTx_s, ↓ite_x, itx_T, itx_F, ↓reduceIte, not_true_eq_false, not_false_eq_true, true_and, and_true, Nat.reduceAdd, Nat.reduceMul, Nat.reduceSub, Nat.reduceEqDiff, isB0, isB1, Int32.neg_neg, Nat.zero_add, Nat.add_zero, Nat.mul_zero, Nat.mul_one, Nat.zero_mul], Or.inl (by simp -dsimp -implicitDefEqProofs (disch := omega) only [X6_divesWrong, r2, n0, i32_lit, i32_add, i32_mul, i32_tn, i32_sub, le_t, le_f, lt_t, lt_f, eq_t, eq_f, eq_rfl, inR_t, ↓ob_x, obx_s, ↓bnd_s, ↓oT_x, oTx_s, ↓ite_x, itx_T, itx_F, ↓reduceIte, not_true_eq_false, not_false_eq_true, true_and, and_true, Nat.reduceAdd, Nat.reduceMul, Nat.reduceSub, Nat.reduceEqDiff, isB0, isB1, Int32.neg_neg, Nat.zero_add, Nat.add_zero, Nat.mul_zero, Nat.mul_one, Nat.zero_mul])⟩
  · rcases rg a2 d (by omega) with ⟨p, hp, rfl⟩ | o
    · rcases rg a3 2 (by omega) with ⟨w, hw, rfl⟩ | o3
      · exact Or.inr ⟨s, m, p, w, rfl, rfl, rfl, hp, hw, hm, S0, by simp -dsimp -implicitDefEqProofs (disch := omega) only [X5_refusalOfTries, r1, isD_t b7 hp hd6, isW_t, i32_lit, i32_add, i32_mul, i32_tn, i32_sub, le_t, le_f, lt_t, lt_f, eq_t, eq_f, eq_rfl, inR_t, ↓ob_x, obx_s, ↓bnd_s, ↓oT_x, oTx_s, ↓ite_x, itx_T, itx_F, ↓reduceIte, not_true_eq_false, not_false_eq_true, true_and, and_true, Nat.reduceAdd, Nat.reduceMul, Nat.reduceSub, Nat.reduceEqDiff, isB0, isB1, Int32.neg_neg, Nat.zero_add, Nat.add_zero, Nat.mul_zero, Nat.mul_one, Nat.zero_mul], by simp -dsimp -implicitDefEqProofs (disch := omega) only [X6_divesWrong, r2, mO_t b8 hp hd6, i32_lit, i32_add, i32_mul, i32_tn, i32_sub, le_t, le_f, lt_t, lt_f, eq_t, eq_f, eq_rfl, inR_t, ↓ob_x, obx_s, ↓bnd_s, ↓oT_x, oTx_s, ↓ite_x, itx_T, itx_F, ↓reduceIte, not_true_eq_false, not_false_eq_true, true_and, and_true, Nat.reduceAdd, Nat.reduceMul, Nat.reduceSub, Nat.reduceEqDiff, isB0, isB1, Int32.neg_neg, Nat.zero_add, Nat.add_zero, Nat.mul_zero, Nat.mul_one, Nat.zero_mul]⟩
      · exact Or.inl ⟨7, by omega, by omega, by simp -dsimp -implicitDefEqProofs (disch := omega) only [X5_refusalOfTries, r1, isD_t b7 hp hd6, isW_f gI (by omega : 1 < 1000000) o3, i32_lit, i32_add, i32_mul, i32_tn, i32_sub, le_t, le_f, lt_t, lt_f, eq_t, eq_f, eq_rfl, inR_t, ↓ob_x, obx_s, ↓bnd_s, ↓oT_x, oTx_s, ↓ite_x, itx_T, itx_F, ↓reduceIte, not_true_eq_false, not_false_eq_true, true_and, and_true, Nat.reduceAdd, Nat.reduceMul, Nat.reduceSub, Nat.reduceEqDiff, isB0, isB1, Int32.neg_neg, Nat.zero_add, Nat.add_zero, Nat.mul_zero, Nat.mul_one, Nat.zero_mul], Or.inr ⟨rfl, by simp -dsimp -implicitDefEqProofs (disch := omega) only [X6_divesWrong, r2, mO_t b8 hp hd6, i32_lit, i32_add, i32_mul, i32_tn, i32_sub, le_t, le_f, lt_t, lt_f, eq_t, eq_f, eq_rfl, inR_t, ↓ob_x, obx_s, ↓bnd_s, ↓oT_x, oTx_s, ↓ite_x, itx_T, itx_F, ↓reduceIte, not_true_eq_false, not_false_eq_true, true_and, and_true, Nat.reduceAdd, Nat.reduceMul, Nat.reduceSub, Nat.reduceEqDiff, isB0, isB1, Int32.neg_neg, Nat.zero_add, Nat.add_zero, Nat.mul_zero, Nat.mul_one, Nat.zero_mul], in_f gM (by omega) o3⟩⟩
    · exact Or.inl ⟨5, by omega, by omega, by simp -dsimp -implicitDefEqProofs (disch := omega) only [X5_refusalOfTries, r1, isD_f b7 o hd6, i32_lit, i32_add, i32_mul, i32_tn, i32_sub, le_t, le_f, lt_t, lt_f, eq_t, eq_f, eq_rfl, inR_t, ↓ob_x, obx_s, ↓bnd_s, ↓oT_x, oTx_s, ↓ite_x, itx_T, itx_F, ↓reduceIte, not_true_eq_false, not_false_eq_true, true_and, and_true, Nat.reduceAdd, Nat.reduceMul, Nat.reduceSub, Nat.reduceEqDiff, isB0, isB1, Int32.neg_neg, Nat.zero_add, Nat.add_zero, Nat.mul_zero, Nat.mul_one, Nat.zero_mul], Or.inl (by simp -dsimp -implicitDefEqProofs (disch := omega) only [X6_divesWrong, r2, mO_f b8 o hd6, i32_lit, i32_add, i32_mul, i32_tn, i32_sub, le_t, le_f, lt_t, lt_f, eq_t, eq_f, eq_rfl, inR_t, ↓ob_x, obx_s, ↓bnd_s, ↓oT_x, oTx_s, ↓ite_x, itx_T, itx_F, ↓reduceIte, not_true_eq_false, not_false_eq_true, true_and, and_true, Nat.reduceAdd, Nat.reduceMul, Nat.reduceSub, Nat.reduceEqDiff, isB0, isB1, Int32.neg_neg, Nat.zero_add, Nat.add_zero, Nat.mul_zero, Nat.mul_one, Nat.zero_mul])⟩
def brC (gM : Mem) (i s p m v : Nat) : Nat := soF (stI gM 3 (2 * p) (i32 v)) i s p 0 m
set_option maxRecDepth 100000 in
theorem breaths_I {N d i s m p w : Nat} (hN : 6000 ≤ N) (hw : w < 2) (hp : p < d) (hm : m ≤ 12) {gM : Mem} (hB : Bd d gM) : ∀ (n fu : Nat) (x5 x6 v : Int32) (gI : Mem), n ≤ 100 → n < fu → NB 99 v → Sc 52 d i gI (stI gM 3 (2 * p) v) → ShS s m gI gM →
    ∃ gI', X5_breaths_L38 N (i32 s) (i32 p) (i32 w) fu x5 x6 (ct n) gI = some (sel w (dnF (brC gM i s p m) n x5 x6), gI') ∧ FI 52 gI gI'
  | 0, fu, x5, x6, v, gI, h1, h2, hv, h, S0 => by
    obtain ⟨fu, rfl⟩ : ∃ q, fu = q + 1 := ⟨fu - 1, by omega⟩
    refine ⟨gI, ?_, FI_rfl 52 gI⟩
    rcases (by omega : w = 0 ∨ w = 1) with rfl | rfl <;> simp -dsimp -implicitDefEqProofs (disch := omega) only [X5_breaths_L38, ct_0, neg1_lt, sel, dnF, Nat.one_ne_zero, i32_lit, i32_add, i32_mul, i32_tn, i32_sub, le_t, le_f, lt_t, lt_f, eq_t, eq_f, eq_rfl, inR_t, ↓ob_x, obx_s, ↓bnd_s, ↓oT_x, oTx_s, ↓ite_x, itx_T, itx_F, ↓reduceIte, not_true_eq_false, not_false_eq_true, true_and, and_true, Nat.reduceAdd, Nat.reduceMul, Nat.reduceSub, Nat.reduceEqDiff, isB0, isB1, Int32.neg_neg, Nat.zero_add, Nat.add_zero, Nat.mul_zero, Nat.mul_one, Nat.zero_mul]
  | n + 1, fu, x5, x6, v, gI, h1, h2, hv, h, S0 => by
    obtain ⟨fu, rfl⟩ : ∃ q, fu = q + 1 := ⟨fu - 1, by omega⟩
    have hs := S0.1
    have hd := h.1.2.1
    have q0 : Bd d (stI gM 3 (2 * p) v) := by
      obtain ⟨q1, q2, q3, q4, q5, q6, q7, q8⟩ := hB
      have e : ∀ c, ¬ c = 3 → (stI gM 3 (2 * p) v).1 c = gM.1 c := fun c hc => stI_ne _ _ _ _ _ hc
      refine ⟨by rw [e 5 (by omega)]; exact q1, by rw [e 4 (by omega)]; exact q2, by rw [e 4 (by omega)]; exact q3, by rw [e 4 (by omega)]; exact q4, by rw [e 4 (by omega)]; exact q5, fun j hj => ?_, by rw [e 1 (by omega)]; exact q7, by rw [e 2 (by omega)]; exact q8⟩
      by_cases hjp : j = p
      · subst hjp; rw [stI_eq]; exact hv
      · rw [stI_nj _ _ _ _ _ (by omega)]; exact q6 j hj
    have o := OKs_B h q0 p (i32 n) ⟨n, by omega, rfl⟩
    rw [stI_stI] at o
    have S1 := ShS_fr (b := 52) S0 (by omega) o.2.2.1 (FM_rfl gM)
    have S2 := ShS_fr (b := 52) (gI' := stI gI 60 p (i32 n)) S1 (by omega) (FI_rfl 52 _) (FM_st gM (j := 2 * p) (i32 n) (Or.inl rfl))
    obtain ⟨g1, r1, r2⟩ := isSo_I hN hp hm o.1 S2
    have cc : brC gM i s p m n = soF (stI gM 3 (2 * p) (i32 n)) i s p 0 m := rfl
    rw [← cc] at r1
    have hn1 : NB 99 (i32 n) := ⟨n, by omega, rfl⟩
    have f1 : FI 52 gI g1 := FI_tr o.2.2.1 (FI_SI r2)
    have S3 := ShS_SI S1 r2
    rcases soF_le (stI gM 3 (2 * p) (i32 n)) i s p m 0 with hv | hv
    · rw [← cc] at hv
      obtain ⟨g2, y1, y2⟩ := breaths_I hN hw hp hm hB n fu x5 x6 (i32 n) g1 (by omega) (by omega) hn1 (Sc_SI o.1 r2) S3
      exact ⟨g2, by simp -dsimp -implicitDefEqProofs (disch := omega) only [X5_breaths_L38, ct_n, r1, hv, ct_s, y1, dnF, i32_lit, i32_add, i32_mul, i32_tn, i32_sub, le_t, le_f, lt_t, lt_f, eq_t, eq_f, eq_rfl, inR_t, ↓ob_x, obx_s, ↓bnd_s, ↓oT_x, oTx_s, ↓ite_x, itx_T, itx_F, ↓reduceIte, not_true_eq_false, not_false_eq_true, true_and, and_true, Nat.reduceAdd, Nat.reduceMul, Nat.reduceSub, Nat.reduceEqDiff, isB0, isB1, Int32.neg_neg, Nat.zero_add, Nat.add_zero, Nat.mul_zero, Nat.mul_one, Nat.zero_mul], FI_tr f1 y2⟩
    · rw [← cc] at hv
      obtain ⟨g2, y1, y2⟩ := breaths_I hN hw hp hm hB n fu (x5 + i32 1) (i32 n) (i32 n) g1 (by omega) (by omega) hn1 (Sc_SI o.1 r2) S3
      exact ⟨g2, by simp -dsimp -implicitDefEqProofs (disch := omega) only [X5_breaths_L38, ct_n, r1, hv, ct_s, y1, dnF, Nat.one_ne_zero, i32_lit, i32_add, i32_mul, i32_tn, i32_sub, le_t, le_f, lt_t, lt_f, eq_t, eq_f, eq_rfl, inR_t, ↓ob_x, obx_s, ↓bnd_s, ↓oT_x, oTx_s, ↓ite_x, itx_T, itx_F, ↓reduceIte, not_true_eq_false, not_false_eq_true, true_and, and_true, Nat.reduceAdd, Nat.reduceMul, Nat.reduceSub, Nat.reduceEqDiff, isB0, isB1, Int32.neg_neg, Nat.zero_add, Nat.add_zero, Nat.mul_zero, Nat.mul_one, Nat.zero_mul], FI_tr f1 y2⟩
theorem MR_at {i d k j : Nat} {gI gM : Mem} {v : Int32} (h : MR i d gI gM) (hk : ¬ k = 0 ∧ ¬ k = 7 ∧ ¬ k = 8) : MR i d gI (stI gM k j v) := by
  obtain ⟨a, b, c1, c2, c3⟩ := h
  exact ⟨TxI_fr a rfl rfl (stI_ne _ _ _ _ _ (by omega)) (stI_ne _ _ _ _ _ (by omega)), b, by rw [stI_ne _ _ _ _ _ (by omega)]; exact c1, c2, by rw [stI_ne _ _ _ _ _ (by omega)]; exact c3⟩
set_option maxRecDepth 100000 in
theorem breaths_M {N i d s m p w : Nat} (hN : 6000 ≤ N) (hw : w < 2) (hp : p < 6) (hm : m ≤ 12) {gI gM : Mem} (S0 : ShS s m gI gM) (M0 : MR i d gI gM) (was : Int32) : ∀ (n j fu : Nat) (x6 x7 v : Int32) (g : Mem), j + n = 100 → n < fu → SM (stI gM 3 (2 * p) v) g →
    ∃ g', X6_breaths_L47 N (i32 s) (i32 p) (i32 w) fu was x6 x7 (i32 j) g = some (sel w (upF (brC gM i s p m) j n x6 x7), g') ∧ SM (stI gM 3 (2 * p) was) g'
  | 0, j, fu, x6, x7, v, g, h1, h2, h => by
    obtain ⟨fu, rfl⟩ : ∃ q, fu = q + 1 := ⟨fu - 1, by omega⟩
    have h' := SM_st2 h 3 (2 * p) was (by omega)
    rw [stI_stI] at h'
    refine ⟨stI g 3 (2 * p) was, ?_, h'⟩
    rcases (by omega : w = 0 ∨ w = 1) with rfl | rfl <;> simp -dsimp -implicitDefEqProofs (disch := omega) only [X6_breaths_L47, sel, upF, Nat.one_ne_zero, i32_lit, i32_add, i32_mul, i32_tn, i32_sub, le_t, le_f, lt_t, lt_f, eq_t, eq_f, eq_rfl, inR_t, ↓ob_x, obx_s, ↓bnd_s, ↓oT_x, oTx_s, ↓ite_x, itx_T, itx_F, ↓reduceIte, not_true_eq_false, not_false_eq_true, true_and, and_true, Nat.reduceAdd, Nat.reduceMul, Nat.reduceSub, Nat.reduceEqDiff, isB0, isB1, Int32.neg_neg, Nat.zero_add, Nat.add_zero, Nat.mul_zero, Nat.mul_one, Nat.zero_mul]
  | n + 1, j, fu, x6, x7, v, g, h1, h2, h => by
    obtain ⟨fu, rfl⟩ : ∃ q, fu = q + 1 := ⟨fu - 1, by omega⟩
    have hs := S0.1
    have h' := SM_st2 h 3 (2 * p) (i32 j) (by omega)
    rw [stI_stI] at h'
    have M1 : MR i d gI (stI g 3 (2 * p) (i32 j)) := MR_E (MR_at M0 (by omega)) (EqM_SM h')
    have e12 : (stI g 3 (2 * p) (i32 j)).1 12 s = i32 m := by rw [SM_r h' 12 (by omega), stI_ne _ _ _ _ _ (by omega)]; exact S0.2.2.2.1
    obtain ⟨g1, r1, r2⟩ := isSo_M hN hp hs hm M1 e12
    have cc : brC gM i s p m j = soF (stI gM 3 (2 * p) (i32 j)) i s p 0 m := rfl
    rw [soF_fr (canV_SM h' i p) (SM_r h' 13 (by omega)), ← cc] at r1
    have z : x6 + i32 0 = x6 := Int32.add_zero x6
    rcases soF_le (stI gM 3 (2 * p) (i32 j)) i s p m 0 with hv | hv
    · rw [← cc] at hv
      obtain ⟨g2, y1, y2⟩ := breaths_M hN hw hp hm S0 M0 was n (j + 1) fu x6 x7 (i32 j) g1 (by omega) (by omega) (SM_tr h' r2)
      exact ⟨g2, by simp -dsimp -implicitDefEqProofs (disch := omega) only [X6_breaths_L47, r1, hv, z, y1, upF, i32_lit, i32_add, i32_mul, i32_tn, i32_sub, le_t, le_f, lt_t, lt_f, eq_t, eq_f, eq_rfl, inR_t, ↓ob_x, obx_s, ↓bnd_s, ↓oT_x, oTx_s, ↓ite_x, itx_T, itx_F, ↓reduceIte, not_true_eq_false, not_false_eq_true, true_and, and_true, Nat.reduceAdd, Nat.reduceMul, Nat.reduceSub, Nat.reduceEqDiff, isB0, isB1, Int32.neg_neg, Nat.zero_add, Nat.add_zero, Nat.mul_zero, Nat.mul_one, Nat.zero_mul], y2⟩
    · rw [← cc] at hv
      by_cases hx : x7 = -(i32 1)
      · obtain ⟨g2, y1, y2⟩ := breaths_M hN hw hp hm S0 M0 was n (j + 1) fu (x6 + i32 1) (i32 j) (i32 j) g1 (by omega) (by omega) (SM_tr h' r2)
        exact ⟨g2, by simp -dsimp -implicitDefEqProofs (disch := omega) only [X6_breaths_L47, r1, hv, hx, y1, upF, Nat.one_ne_zero, i32_lit, i32_add, i32_mul, i32_tn, i32_sub, le_t, le_f, lt_t, lt_f, eq_t, eq_f, eq_rfl, inR_t, ↓ob_x, obx_s, ↓bnd_s, ↓oT_x, oTx_s, ↓ite_x, itx_T, itx_F, ↓reduceIte, not_true_eq_false, not_false_eq_true, true_and, and_true, Nat.reduceAdd, Nat.reduceMul, Nat.reduceSub, Nat.reduceEqDiff, isB0, isB1, Int32.neg_neg, Nat.zero_add, Nat.add_zero, Nat.mul_zero, Nat.mul_one, Nat.zero_mul], y2⟩
      · obtain ⟨g2, y1, y2⟩ := breaths_M hN hw hp hm S0 M0 was n (j + 1) fu (x6 + i32 1) x7 (i32 j) g1 (by omega) (by omega) (SM_tr h' r2)
        exact ⟨g2, by simp -dsimp -implicitDefEqProofs (disch := omega) only [X6_breaths_L47, r1, hv, hx, y1, upF, Nat.one_ne_zero, i32_lit, i32_add, i32_mul, i32_tn, i32_sub, le_t, le_f, lt_t, lt_f, eq_t, eq_f, eq_rfl, inR_t, ↓ob_x, obx_s, ↓bnd_s, ↓oT_x, oTx_s, ↓ite_x, itx_T, itx_F, ↓reduceIte, not_true_eq_false, not_false_eq_true, true_and, and_true, Nat.reduceAdd, Nat.reduceMul, Nat.reduceSub, Nat.reduceEqDiff, isB0, isB1, Int32.neg_neg, Nat.zero_add, Nat.add_zero, Nat.mul_zero, Nat.mul_one, Nat.zero_mul], y2⟩
set_option maxRecDepth 100000 in
theorem e_breaths {N : Nat} (hN : 6000 ≤ N) {gI gM : Mem} (h : R gI gM) (a1 a2 a3 : Int32) : EQ (X5_breaths N a1 a2 a3 gI) (X6_breaths N a1 a2 a3 gM) := by
  obtain ⟨d, i, c, hR⟩ := h
  rcases ref_tries (N := N) hR a1 a2 a3 with ⟨v, hv, hv2, r1, r2⟩ | ⟨s, m, p, w, rfl, rfl, rfl, hp, hw, hm, S0, r1, r2⟩
  · have n0 := m_ne (x := 0) (v := v) (by omega)
    refine ⟨-(i32 v), gI, gM, by simp -dsimp -implicitDefEqProofs (disch := omega) only [X5_breaths, r1, n0, i32_lit, i32_add, i32_mul, i32_tn, i32_sub, le_t, le_f, lt_t, lt_f, eq_t, eq_f, eq_rfl, inR_t, ↓ob_x, obx_s, ↓bnd_s, ↓oT_x, oTx_s, ↓ite_x, itx_T, itx_F, ↓reduceIte, not_true_eq_false, not_false_eq_true, true_and, and_true, Nat.reduceAdd, Nat.reduceMul, Nat.reduceSub, Nat.reduceEqDiff, isB0, isB1, Int32.neg_neg, Nat.zero_add, Nat.add_zero, Nat.mul_zero, Nat.mul_one, Nat.zero_mul], ?_, d, i, c, hR⟩
    rcases r2 with r2 | ⟨rfl, r2, r3⟩
    · simp -dsimp -implicitDefEqProofs (disch := omega) only [X6_breaths, r2, n0, i32_lit, i32_add, i32_mul, i32_tn, i32_sub, le_t, le_f, lt_t, lt_f, eq_t, eq_f, eq_rfl, inR_t, ↓ob_x, obx_s, ↓bnd_s, ↓oT_x, oTx_s, ↓ite_x, itx_T, itx_F, ↓reduceIte, not_true_eq_false, not_false_eq_true, true_and, and_true, Nat.reduceAdd, Nat.reduceMul, Nat.reduceSub, Nat.reduceEqDiff, isB0, isB1, Int32.neg_neg, Nat.zero_add, Nat.add_zero, Nat.mul_zero, Nat.mul_one, Nat.zero_mul]
    · simp -dsimp -implicitDefEqProofs (disch := omega) only [X6_breaths, r2, r3, i32_lit, i32_add, i32_mul, i32_tn, i32_sub, le_t, le_f, lt_t, lt_f, eq_t, eq_f, eq_rfl, inR_t, ↓ob_x, obx_s, ↓bnd_s, ↓oT_x, oTx_s, ↓ite_x, itx_T, itx_F, ↓reduceIte, not_true_eq_false, not_false_eq_true, true_and, and_true, Nat.reduceAdd, Nat.reduceMul, Nat.reduceSub, Nat.reduceEqDiff, isB0, isB1, Int32.neg_neg, Nat.zero_add, Nat.add_zero, Nat.mul_zero, Nat.mul_one, Nat.zero_mul]
  · obtain ⟨⟨hS, hB, hG, hH⟩, hT, _⟩ := id hR
    have hd := hS.1.2.1
    have hs := S0.1
    obtain ⟨g1, q1, q2, q3⟩ := becomes_I (N := N) (b := 52) (a := 42) (i := i) (gI := gI) (by omega) hS.2.2.2.2.2.2.2.2.2.2.2.2.1 hS.1.2.2
    have hS1 := Sc_LK hS (by omega) q2 q3
    have S1 := ShS_fr (b := 52) S0 (by omega) q2 (FM_rfl gM)
    have own := stI_own gM 3 (2 * p) (gM.1 3 (2 * p)) rfl
    obtain ⟨g2, u1, u2⟩ := breaths_I hN hw hp hm hB 100 N (i32 0) (-(i32 1)) (gM.1 3 (2 * p)) g1 (by omega) (by omega) (hB.2.2.2.2.2.1 p (by omega)) (by rw [own]; exact hS1) S1
    obtain ⟨m2, y1, y2⟩ := breaths_M hN hw (by omega : p < 6) hm S0 (RR_MR hR) (gM.1 3 (2 * p)) 100 0 N (i32 0) (-(i32 1)) (gM.1 3 (2 * p)) gM (by omega) (by omega) (by rw [own]; exact SM_rfl gM)
    rw [own] at y2
    rw [dn_up1 _ 100 (by omega), show ct 100 = i32 99 from rfl] at u1
    exact ⟨_, g2, m2, by simp -dsimp -implicitDefEqProofs (disch := omega) only [X5_breaths, r1, q1, i32_lit, i32_add, i32_mul, i32_tn, i32_sub, le_t, le_f, lt_t, lt_f, eq_t, eq_f, eq_rfl, inR_t, ↓ob_x, obx_s, ↓bnd_s, ↓oT_x, oTx_s, ↓ite_x, itx_T, itx_F, ↓reduceIte, not_true_eq_false, not_false_eq_true, true_and, and_true, Nat.reduceAdd, Nat.reduceMul, Nat.reduceSub, Nat.reduceEqDiff, isB0, isB1, Int32.neg_neg, Nat.zero_add, Nat.add_zero, Nat.mul_zero, Nat.mul_one, Nat.zero_mul]; exact u1, by simp -dsimp -implicitDefEqProofs (disch := omega) only [X6_breaths, r2, in_t, i32_lit, i32_add, i32_mul, i32_tn, i32_sub, le_t, le_f, lt_t, lt_f, eq_t, eq_f, eq_rfl, inR_t, ↓ob_x, obx_s, ↓bnd_s, ↓oT_x, oTx_s, ↓ite_x, itx_T, itx_F, ↓reduceIte, not_true_eq_false, not_false_eq_true, true_and, and_true, Nat.reduceAdd, Nat.reduceMul, Nat.reduceSub, Nat.reduceEqDiff, isB0, isB1, Int32.neg_neg, Nat.zero_add, Nat.add_zero, Nat.mul_zero, Nat.mul_one, Nat.zero_mul]; exact y1, d, i, c, RR_th hR (FI_tr q2 u2) (EqM_SM y2)⟩
