/-! why a sheet is refused; rows of dives -/
/-- what a sheet holds, on both sides -/
def ShS (s m : Nat) (gI gM : Mem) : Prop := s < 4 ∧ m ≤ 40 ∧ gI.1 (34 + 2 * s) 2 = i32 m ∧ gM.1 12 s = i32 m ∧ ∀ j, j < 40 → gI.1 (34 + 2 * s + 1) j = gM.1 13 (40 * s + j)
theorem ShS_fr {s m b : Nat} {gI gM gI' gM' : Mem} (h : ShS s m gI gM) (hb : 42 ≤ b) (f : FI b gI gI') (g : FM gM gM') : ShS s m gI' gM' := by
  obtain ⟨a, e, e1, e2, e3⟩ := h
  refine ⟨a, e, ?_, ?_, ?_⟩
  · rw [f.1 _ (by omega) (by omega)]; exact e1
  · rw [g.1 12 (by omega) (by omega) (by omega) (by omega) (by omega) (by omega)]; exact e2
  · rw [f.1 _ (by omega) (by omega), g.1 13 (by omega) (by omega) (by omega) (by omega) (by omega) (by omega)]; exact e3
theorem ShS_E {s m b : Nat} {gI gM gI' gM' : Mem} (h : ShS s m gI gM) (hb : 42 ≤ b) (f : FI b gI gI') (g : EqM gM gM') : ShS s m gI' gM' := by
  obtain ⟨a, e, e1, e2, e3⟩ := h
  refine ⟨a, e, ?_, ?_, ?_⟩
  · rw [f.1 _ (by omega) (by omega)]; exact e1
  · rw [g.1 12 (by omega) (by omega) (by omega) (by omega) (by omega) (by omega) (by omega)]; exact e2
  · rw [f.1 _ (by omega) (by omega), g.1 13 (by omega) (by omega) (by omega) (by omega) (by omega) (by omega) (by omega)]; exact e3
theorem KP_FM {s m : Nat} {gI gM gI' gM' : Mem} (h : ShS s m gI gM) (f : FI 52 gI gI') (k : KP 67 gM gM') : ShS s m gI' gM' := by
  obtain ⟨a, e, e1, e2, e3⟩ := h
  refine ⟨a, e, ?_, ?_, ?_⟩
  · rw [f.1 _ (by omega) (by omega)]; exact e1
  · rw [k.1 12 (by omega)]; exact e2
  · rw [f.1 _ (by omega) (by omega), k.1 13 (by omega)]; exact e3
set_option maxRecDepth 100000 in
theorem ref_sheet {N M : Nat} {gI gM : Mem} (hSh : Sh gI gM) (hM : M ≤ 40) (a : Int32) :
    (∃ v, 0 < v ∧ v < 100 ∧ X5_refusalOfSheet N a (i32 M) gI = some (-(i32 v), gI) ∧ X6_sheetWrong N a (i32 M) gM = some (-(i32 v), gM)) ∨
    (∃ s m, a = i32 s ∧ m ≤ M ∧ ShS s m gI gM ∧ NB 2 (gM.1 11 s) ∧ gI.1 (34 + 2 * s) 1 = gM.1 11 s ∧ X5_refusalOfSheet N a (i32 M) gI = some (i32 0, gI) ∧ X6_sheetWrong N a (i32 M) gM = some (i32 0, gM)) := by
  rcases rg a 4 (by omega) with ⟨s, hs, rfl⟩ | o
  · obtain ⟨e1, e2, ⟨m, hm, e3, e4⟩, e5⟩ := hSh s hs
    rcases e2 with e2 | ⟨t, ht, e2⟩
    · exact Or.inl ⟨11, by omega, by omega, by simp -dsimp -implicitDefEqProofs (disch := omega) only [X5_refusalOfSheet, isH_t, e1, e2, i32_lit, i32_add, i32_mul, i32_tn, i32_sub, le_t, le_f, lt_t, lt_f, eq_t, eq_f, eq_rfl, inR_t, ↓ob_x, obx_s, ↓bnd_s, ↓oT_x, oTx_s, ↓ite_x, itx_T, itx_F, ↓reduceIte, not_true_eq_false, not_false_eq_true, true_and, and_true, Nat.reduceAdd, Nat.reduceMul, Nat.reduceSub, Nat.reduceEqDiff, isB0, isB1, Int32.neg_neg, Nat.zero_add, Nat.add_zero, Nat.mul_zero, Nat.mul_one, Nat.zero_mul], by simp -dsimp -implicitDefEqProofs (disch := omega) only [X6_sheetWrong, in_t, e2, i32_lit, i32_add, i32_mul, i32_tn, i32_sub, le_t, le_f, lt_t, lt_f, eq_t, eq_f, eq_rfl, inR_t, ↓ob_x, obx_s, ↓bnd_s, ↓oT_x, oTx_s, ↓ite_x, itx_T, itx_F, ↓reduceIte, not_true_eq_false, not_false_eq_true, true_and, and_true, Nat.reduceAdd, Nat.reduceMul, Nat.reduceSub, Nat.reduceEqDiff, isB0, isB1, Int32.neg_neg, Nat.zero_add, Nat.add_zero, Nat.mul_zero, Nat.mul_one, Nat.zero_mul]⟩
    · have n1 := ne_m (x := t) (v := 1) (by omega)
      by_cases hmM : m ≤ M
      · exact Or.inr ⟨s, m, rfl, hmM, ⟨hs, hm, e3, e4, e5⟩, ⟨t, ht, e2⟩, e1, by simp -dsimp -implicitDefEqProofs (disch := omega) only [X5_refusalOfSheet, isH_t, e1, e2, e3, n1, i32_lit, i32_add, i32_mul, i32_tn, i32_sub, le_t, le_f, lt_t, lt_f, eq_t, eq_f, eq_rfl, inR_t, ↓ob_x, obx_s, ↓bnd_s, ↓oT_x, oTx_s, ↓ite_x, itx_T, itx_F, ↓reduceIte, not_true_eq_false, not_false_eq_true, true_and, and_true, Nat.reduceAdd, Nat.reduceMul, Nat.reduceSub, Nat.reduceEqDiff, isB0, isB1, Int32.neg_neg, Nat.zero_add, Nat.add_zero, Nat.mul_zero, Nat.mul_one, Nat.zero_mul], by simp -dsimp -implicitDefEqProofs (disch := omega) only [X6_sheetWrong, in_t, e2, e4, n1, i32_lit, i32_add, i32_mul, i32_tn, i32_sub, le_t, le_f, lt_t, lt_f, eq_t, eq_f, eq_rfl, inR_t, ↓ob_x, obx_s, ↓bnd_s, ↓oT_x, oTx_s, ↓ite_x, itx_T, itx_F, ↓reduceIte, not_true_eq_false, not_false_eq_true, true_and, and_true, Nat.reduceAdd, Nat.reduceMul, Nat.reduceSub, Nat.reduceEqDiff, isB0, isB1, Int32.neg_neg, Nat.zero_add, Nat.add_zero, Nat.mul_zero, Nat.mul_one, Nat.zero_mul]⟩
      · exact Or.inl ⟨2, by omega, by omega, by simp -dsimp -implicitDefEqProofs (disch := omega) only [X5_refusalOfSheet, isH_t, e1, e2, e3, n1, i32_lit, i32_add, i32_mul, i32_tn, i32_sub, le_t, le_f, lt_t, lt_f, eq_t, eq_f, eq_rfl, inR_t, ↓ob_x, obx_s, ↓bnd_s, ↓oT_x, oTx_s, ↓ite_x, itx_T, itx_F, ↓reduceIte, not_true_eq_false, not_false_eq_true, true_and, and_true, Nat.reduceAdd, Nat.reduceMul, Nat.reduceSub, Nat.reduceEqDiff, isB0, isB1, Int32.neg_neg, Nat.zero_add, Nat.add_zero, Nat.mul_zero, Nat.mul_one, Nat.zero_mul], by simp -dsimp -implicitDefEqProofs (disch := omega) only [X6_sheetWrong, in_t, e2, e4, n1, i32_lit, i32_add, i32_mul, i32_tn, i32_sub, le_t, le_f, lt_t, lt_f, eq_t, eq_f, eq_rfl, inR_t, ↓ob_x, obx_s, ↓bnd_s, ↓oT_x, oTx_s, ↓ite_x, itx_T, itx_F, ↓reduceIte, not_true_eq_false, not_false_eq_true, true_and, and_true, Nat.reduceAdd, Nat.reduceMul, Nat.reduceSub, Nat.reduceEqDiff, isB0, isB1, Int32.neg_neg, Nat.zero_add, Nat.add_zero, Nat.mul_zero, Nat.mul_one, Nat.zero_mul]⟩
  · exact Or.inl ⟨2, by omega, by omega, by simp -dsimp -implicitDefEqProofs (disch := omega) only [X5_refusalOfSheet, isH_f gI o, i32_lit, i32_add, i32_mul, i32_tn, i32_sub, le_t, le_f, lt_t, lt_f, eq_t, eq_f, eq_rfl, inR_t, ↓ob_x, obx_s, ↓bnd_s, ↓oT_x, oTx_s, ↓ite_x, itx_T, itx_F, ↓reduceIte, not_true_eq_false, not_false_eq_true, true_and, and_true, Nat.reduceAdd, Nat.reduceMul, Nat.reduceSub, Nat.reduceEqDiff, isB0, isB1, Int32.neg_neg, Nat.zero_add, Nat.add_zero, Nat.mul_zero, Nat.mul_one, Nat.zero_mul], by simp -dsimp -implicitDefEqProofs (disch := omega) only [X6_sheetWrong, in_f gM (by omega : 3 < 1000000) o, i32_lit, i32_add, i32_mul, i32_tn, i32_sub, le_t, le_f, lt_t, lt_f, eq_t, eq_f, eq_rfl, inR_t, ↓ob_x, obx_s, ↓bnd_s, ↓oT_x, oTx_s, ↓ite_x, itx_T, itx_F, ↓reduceIte, not_true_eq_false, not_false_eq_true, true_and, and_true, Nat.reduceAdd, Nat.reduceMul, Nat.reduceSub, Nat.reduceEqDiff, isB0, isB1, Int32.neg_neg, Nat.zero_add, Nat.add_zero, Nat.mul_zero, Nat.mul_one, Nat.zero_mul]⟩
set_option maxRecDepth 100000 in
theorem tells_l {N s m v : Nat} {gI gM : Mem} (h : ShS s m gI gM) (a2 : Int32) (hv : v ≤ 1) (e : X6_isOne N a2 gM = some (i32 v, gM)) : ∀ (n x fu fM : Nat), x + n = m → n < fu → n < fM →
    (X2_tellsOnly_L2 N (34 + 2 * s) (i32 12) fu (i32 x) gI = some (i32 0, gI) ∧ X6_rowWrong_L27 N (i32 s) a2 fM (i32 x) gM = some (-(i32 2), gM)) ∨
    (X2_tellsOnly_L2 N (34 + 2 * s) (i32 12) fu (i32 x) gI = some (i32 1, gI) ∧ X6_rowWrong_L27 N (i32 s) a2 fM (i32 x) gM = some (if v = 0 then -(i32 5) else i32 0, gM) ∧ ∀ j, x ≤ j → j < m → ∃ k, k < 12 ∧ gM.1 13 (40 * s + j) = i32 k)
  | 0, x, fu, fM, h1, h2, h3 => by
    obtain ⟨f, rfl⟩ : ∃ q, fu = q + 1 := ⟨fu - 1, by omega⟩
    obtain ⟨f', rfl⟩ : ∃ q, fM = q + 1 := ⟨fM - 1, by omega⟩
    obtain ⟨hs, hm, e1, e2, e3⟩ := h
    have : x = m := by omega
    subst this
    refine Or.inr ⟨by simp -dsimp -implicitDefEqProofs (disch := omega) only [X2_tellsOnly_L2, e1, i32_lit, i32_add, i32_mul, i32_tn, i32_sub, le_t, le_f, lt_t, lt_f, eq_t, eq_f, eq_rfl, inR_t, ↓ob_x, obx_s, ↓bnd_s, ↓oT_x, oTx_s, ↓ite_x, itx_T, itx_F, ↓reduceIte, not_true_eq_false, not_false_eq_true, true_and, and_true, Nat.reduceAdd, Nat.reduceMul, Nat.reduceSub, Nat.reduceEqDiff, isB0, isB1, Int32.neg_neg, Nat.zero_add, Nat.add_zero, Nat.mul_zero, Nat.mul_one, Nat.zero_mul], ?_, fun j h4 h5 => by omega⟩
    rcases (by omega : v = 0 ∨ v = 1) with rfl | rfl
    · simp -dsimp -implicitDefEqProofs (disch := omega) only [X6_rowWrong_L27, e2, e, i32_lit, i32_add, i32_mul, i32_tn, i32_sub, le_t, le_f, lt_t, lt_f, eq_t, eq_f, eq_rfl, inR_t, ↓ob_x, obx_s, ↓bnd_s, ↓oT_x, oTx_s, ↓ite_x, itx_T, itx_F, ↓reduceIte, not_true_eq_false, not_false_eq_true, true_and, and_true, Nat.reduceAdd, Nat.reduceMul, Nat.reduceSub, Nat.reduceEqDiff, isB0, isB1, Int32.neg_neg, Nat.zero_add, Nat.add_zero, Nat.mul_zero, Nat.mul_one, Nat.zero_mul]
    · simp -dsimp -implicitDefEqProofs (disch := omega) only [X6_rowWrong_L27, e2, e, Nat.one_ne_zero, i32_lit, i32_add, i32_mul, i32_tn, i32_sub, le_t, le_f, lt_t, lt_f, eq_t, eq_f, eq_rfl, inR_t, ↓ob_x, obx_s, ↓bnd_s, ↓oT_x, oTx_s, ↓ite_x, itx_T, itx_F, ↓reduceIte, not_true_eq_false, not_false_eq_true, true_and, and_true, Nat.reduceAdd, Nat.reduceMul, Nat.reduceSub, Nat.reduceEqDiff, isB0, isB1, Int32.neg_neg, Nat.zero_add, Nat.add_zero, Nat.mul_zero, Nat.mul_one, Nat.zero_mul]
  | n + 1, x, fu, fM, h1, h2, h3 => by
    obtain ⟨f, rfl⟩ : ∃ q, fu = q + 1 := ⟨fu - 1, by omega⟩
    obtain ⟨f', rfl⟩ : ∃ q, fM = q + 1 := ⟨fM - 1, by omega⟩
    obtain ⟨hs, hm, e1, e2, e3⟩ := id h
    have e4 := e3 x (by omega)
    rcases rg (gM.1 13 (40 * s + x)) 12 (by omega) with ⟨k, hk, ek⟩ | o
    · have m1 := mK_t (N := N) gM hk
      rcases tells_l h a2 hv e n (x + 1) f f' (by omega) (by omega) (by omega) with ⟨r1, r2⟩ | ⟨r1, r2, r3⟩
      · exact Or.inl ⟨by simp -dsimp -implicitDefEqProofs (disch := omega) only [X2_tellsOnly_L2, e1, e4, ek, r1, i32_lit, i32_add, i32_mul, i32_tn, i32_sub, le_t, le_f, lt_t, lt_f, eq_t, eq_f, eq_rfl, inR_t, ↓ob_x, obx_s, ↓bnd_s, ↓oT_x, oTx_s, ↓ite_x, itx_T, itx_F, ↓reduceIte, not_true_eq_false, not_false_eq_true, true_and, and_true, Nat.reduceAdd, Nat.reduceMul, Nat.reduceSub, Nat.reduceEqDiff, isB0, isB1, Int32.neg_neg, Nat.zero_add, Nat.add_zero, Nat.mul_zero, Nat.mul_one, Nat.zero_mul], by simp -dsimp -implicitDefEqProofs (disch := omega) only [X6_rowWrong_L27, e2, ek, m1, r2, i32_lit, i32_add, i32_mul, i32_tn, i32_sub, le_t, le_f, lt_t, lt_f, eq_t, eq_f, eq_rfl, inR_t, ↓ob_x, obx_s, ↓bnd_s, ↓oT_x, oTx_s, ↓ite_x, itx_T, itx_F, ↓reduceIte, not_true_eq_false, not_false_eq_true, true_and, and_true, Nat.reduceAdd, Nat.reduceMul, Nat.reduceSub, Nat.reduceEqDiff, isB0, isB1, Int32.neg_neg, Nat.zero_add, Nat.add_zero, Nat.mul_zero, Nat.mul_one, Nat.zero_mul]⟩
      · refine Or.inr ⟨by simp -dsimp -implicitDefEqProofs (disch := omega) only [X2_tellsOnly_L2, e1, e4, ek, r1, i32_lit, i32_add, i32_mul, i32_tn, i32_sub, le_t, le_f, lt_t, lt_f, eq_t, eq_f, eq_rfl, inR_t, ↓ob_x, obx_s, ↓bnd_s, ↓oT_x, oTx_s, ↓ite_x, itx_T, itx_F, ↓reduceIte, not_true_eq_false, not_false_eq_true, true_and, and_true, Nat.reduceAdd, Nat.reduceMul, Nat.reduceSub, Nat.reduceEqDiff, isB0, isB1, Int32.neg_neg, Nat.zero_add, Nat.add_zero, Nat.mul_zero, Nat.mul_one, Nat.zero_mul], by simp -dsimp -implicitDefEqProofs (disch := omega) only [X6_rowWrong_L27, e2, ek, m1, r2, i32_lit, i32_add, i32_mul, i32_tn, i32_sub, le_t, le_f, lt_t, lt_f, eq_t, eq_f, eq_rfl, inR_t, ↓ob_x, obx_s, ↓bnd_s, ↓oT_x, oTx_s, ↓ite_x, itx_T, itx_F, ↓reduceIte, not_true_eq_false, not_false_eq_true, true_and, and_true, Nat.reduceAdd, Nat.reduceMul, Nat.reduceSub, Nat.reduceEqDiff, isB0, isB1, Int32.neg_neg, Nat.zero_add, Nat.add_zero, Nat.mul_zero, Nat.mul_one, Nat.zero_mul], fun j h4 h5 => ?_⟩
        by_cases hj : j = x
        · subst hj; exact ⟨k, hk, ek⟩
        · exact r3 j (by omega) h5
    · have m1 := mK_f (N := N) gM o
      refine Or.inl ⟨?_, by simp -dsimp -implicitDefEqProofs (disch := omega) only [X6_rowWrong_L27, e2, m1, i32_lit, i32_add, i32_mul, i32_tn, i32_sub, le_t, le_f, lt_t, lt_f, eq_t, eq_f, eq_rfl, inR_t, ↓ob_x, obx_s, ↓bnd_s, ↓oT_x, oTx_s, ↓ite_x, itx_T, itx_F, ↓reduceIte, not_true_eq_false, not_false_eq_true, true_and, and_true, Nat.reduceAdd, Nat.reduceMul, Nat.reduceSub, Nat.reduceEqDiff, isB0, isB1, Int32.neg_neg, Nat.zero_add, Nat.add_zero, Nat.mul_zero, Nat.mul_one, Nat.zero_mul]⟩
      by_cases h0 : gM.1 13 (40 * s + x) < i32 0
      · simp -dsimp -implicitDefEqProofs (disch := omega) only [X2_tellsOnly_L2, e1, e4, h0, i32_lit, i32_add, i32_mul, i32_tn, i32_sub, le_t, le_f, lt_t, lt_f, eq_t, eq_f, eq_rfl, inR_t, ↓ob_x, obx_s, ↓bnd_s, ↓oT_x, oTx_s, ↓ite_x, itx_T, itx_F, ↓reduceIte, not_true_eq_false, not_false_eq_true, true_and, and_true, Nat.reduceAdd, Nat.reduceMul, Nat.reduceSub, Nat.reduceEqDiff, isB0, isB1, Int32.neg_neg, Nat.zero_add, Nat.add_zero, Nat.mul_zero, Nat.mul_one, Nat.zero_mul]
      · have h12 : ¬ gM.1 13 (40 * s + x) < i32 12 := by
          rcases o with o | ⟨o, _⟩
          · exact absurd o h0
          · rw [Int32.le_iff_toInt_le] at o
            rw [Int32.lt_iff_toInt_lt]; omega
        simp -dsimp -implicitDefEqProofs (disch := omega) only [X2_tellsOnly_L2, e1, e4, h0, h12, i32_lit, i32_add, i32_mul, i32_tn, i32_sub, le_t, le_f, lt_t, lt_f, eq_t, eq_f, eq_rfl, inR_t, ↓ob_x, obx_s, ↓bnd_s, ↓oT_x, oTx_s, ↓ite_x, itx_T, itx_F, ↓reduceIte, not_true_eq_false, not_false_eq_true, true_and, and_true, Nat.reduceAdd, Nat.reduceMul, Nat.reduceSub, Nat.reduceEqDiff, isB0, isB1, Int32.neg_neg, Nat.zero_add, Nat.add_zero, Nat.mul_zero, Nat.mul_one, Nat.zero_mul]
/-- a row is refused by both, alike, or by none -/
theorem ref_row {N d i c : Nat} (hN : 6000 ≤ N) {gI gM : Mem} (h : RR d i c gI gM) (a1 a2 : Int32) :
    (∃ v, 0 < v ∧ v < 100 ∧ X5_refusalOfRow N a1 a2 gI = some (-(i32 v), gI) ∧ X6_rowWrong N a1 a2 gM = some (-(i32 v), gM)) ∨
    (∃ s p m, a1 = i32 s ∧ a2 = i32 p ∧ p < d ∧ ShS s m gI gM ∧ (∀ j, j < m → ∃ k, k < 12 ∧ gM.1 13 (40 * s + j) = i32 k) ∧ X5_refusalOfRow N a1 a2 gI = some (i32 0, gI) ∧ X6_rowWrong N a1 a2 gM = some (i32 0, gM)) := by
  obtain ⟨⟨hS, hB, hG, hH⟩, hT, hP, hSh, hK⟩ := h
  have b7 := hS.2.2.2.2.2.2.2.1
  have b8 := hS.2.2.2.2.2.2.2.2.1
  have hd6 := hS.1.2.1
  rcases rg a1 4 (by omega) with ⟨s, hs, rfl⟩ | o1
  · obtain ⟨e1, e2, ⟨m, hm, e3, e4⟩, e5⟩ := hSh s hs
    have S0 : ShS s m gI gM := ⟨hs, hm, e3, e4, e5⟩
    rcases e2 with e2 | ⟨t, ht, e2⟩
    · exact Or.inl ⟨11, by omega, by omega, by simp -dsimp -implicitDefEqProofs (disch := omega) only [X5_refusalOfRow, X5_refusalOfSheet, isH_t, e1, e2, m_ne, i32_lit, i32_add, i32_mul, i32_tn, i32_sub, le_t, le_f, lt_t, lt_f, eq_t, eq_f, eq_rfl, inR_t, ↓ob_x, obx_s, ↓bnd_s, ↓oT_x, oTx_s, ↓ite_x, itx_T, itx_F, ↓reduceIte, not_true_eq_false, not_false_eq_true, true_and, and_true, Nat.reduceAdd, Nat.reduceMul, Nat.reduceSub, Nat.reduceEqDiff, isB0, isB1, Int32.neg_neg, Nat.zero_add, Nat.add_zero, Nat.mul_zero, Nat.mul_one, Nat.zero_mul], by simp -dsimp -implicitDefEqProofs (disch := omega) only [X6_rowWrong, in_t, e2, i32_lit, i32_add, i32_mul, i32_tn, i32_sub, le_t, le_f, lt_t, lt_f, eq_t, eq_f, eq_rfl, inR_t, ↓ob_x, obx_s, ↓bnd_s, ↓oT_x, oTx_s, ↓ite_x, itx_T, itx_F, ↓reduceIte, not_true_eq_false, not_false_eq_true, true_and, and_true, Nat.reduceAdd, Nat.reduceMul, Nat.reduceSub, Nat.reduceEqDiff, isB0, isB1, Int32.neg_neg, Nat.zero_add, Nat.add_zero, Nat.mul_zero, Nat.mul_one, Nat.zero_mul]⟩
    · have n1 := ne_m (x := t) (v := 1) (by omega)
      rcases rg a2 d (by omega) with ⟨p, hp, rfl⟩ | o2
      · have u1 := mO_t (N := N) b8 hp hd6
        have u2 := isD_t (N := N) b7 hp hd6
        rcases tells_l (N := N) S0 (i32 p) (Nat.le_refl 1) u1 m 0 N N (by omega) (by omega) (by omega) with ⟨r1, r2⟩ | ⟨r1, r2, r3⟩
        · exact Or.inl ⟨2, by omega, by omega, by simp -dsimp -implicitDefEqProofs (disch := omega) only [X5_refusalOfRow, X5_refusalOfSheet, X2_tellsOnly, isH_t, e1, e2, e3, n1, r1, i32_lit, i32_add, i32_mul, i32_tn, i32_sub, le_t, le_f, lt_t, lt_f, eq_t, eq_f, eq_rfl, inR_t, ↓ob_x, obx_s, ↓bnd_s, ↓oT_x, oTx_s, ↓ite_x, itx_T, itx_F, ↓reduceIte, not_true_eq_false, not_false_eq_true, true_and, and_true, Nat.reduceAdd, Nat.reduceMul, Nat.reduceSub, Nat.reduceEqDiff, isB0, isB1, Int32.neg_neg, Nat.zero_add, Nat.add_zero, Nat.mul_zero, Nat.mul_one, Nat.zero_mul], by simp -dsimp -implicitDefEqProofs (disch := omega) only [X6_rowWrong, in_t, e2, n1, r2, i32_lit, i32_add, i32_mul, i32_tn, i32_sub, le_t, le_f, lt_t, lt_f, eq_t, eq_f, eq_rfl, inR_t, ↓ob_x, obx_s, ↓bnd_s, ↓oT_x, oTx_s, ↓ite_x, itx_T, itx_F, ↓reduceIte, not_true_eq_false, not_false_eq_true, true_and, and_true, Nat.reduceAdd, Nat.reduceMul, Nat.reduceSub, Nat.reduceEqDiff, isB0, isB1, Int32.neg_neg, Nat.zero_add, Nat.add_zero, Nat.mul_zero, Nat.mul_one, Nat.zero_mul]⟩
        · rw [if_neg Nat.one_ne_zero] at r2
          exact Or.inr ⟨s, p, m, rfl, rfl, hp, S0, fun j hj => r3 j (by omega) hj, by simp -dsimp -implicitDefEqProofs (disch := omega) only [X5_refusalOfRow, X5_refusalOfSheet, X2_tellsOnly, isH_t, e1, e2, e3, n1, r1, u2, i32_lit, i32_add, i32_mul, i32_tn, i32_sub, le_t, le_f, lt_t, lt_f, eq_t, eq_f, eq_rfl, inR_t, ↓ob_x, obx_s, ↓bnd_s, ↓oT_x, oTx_s, ↓ite_x, itx_T, itx_F, ↓reduceIte, not_true_eq_false, not_false_eq_true, true_and, and_true, Nat.reduceAdd, Nat.reduceMul, Nat.reduceSub, Nat.reduceEqDiff, isB0, isB1, Int32.neg_neg, Nat.zero_add, Nat.add_zero, Nat.mul_zero, Nat.mul_one, Nat.zero_mul], by simp -dsimp -implicitDefEqProofs (disch := omega) only [X6_rowWrong, in_t, e2, n1, r2, i32_lit, i32_add, i32_mul, i32_tn, i32_sub, le_t, le_f, lt_t, lt_f, eq_t, eq_f, eq_rfl, inR_t, ↓ob_x, obx_s, ↓bnd_s, ↓oT_x, oTx_s, ↓ite_x, itx_T, itx_F, ↓reduceIte, not_true_eq_false, not_false_eq_true, true_and, and_true, Nat.reduceAdd, Nat.reduceMul, Nat.reduceSub, Nat.reduceEqDiff, isB0, isB1, Int32.neg_neg, Nat.zero_add, Nat.add_zero, Nat.mul_zero, Nat.mul_one, Nat.zero_mul]⟩
      · have u1 := mO_f (N := N) b8 o2 hd6
        have u2 := isD_f (N := N) b7 o2 hd6
        rcases tells_l (N := N) S0 a2 (Nat.zero_le 1) u1 m 0 N N (by omega) (by omega) (by omega) with ⟨r1, r2⟩ | ⟨r1, r2, r3⟩
        · exact Or.inl ⟨2, by omega, by omega, by simp -dsimp -implicitDefEqProofs (disch := omega) only [X5_refusalOfRow, X5_refusalOfSheet, X2_tellsOnly, isH_t, e1, e2, e3, n1, r1, i32_lit, i32_add, i32_mul, i32_tn, i32_sub, le_t, le_f, lt_t, lt_f, eq_t, eq_f, eq_rfl, inR_t, ↓ob_x, obx_s, ↓bnd_s, ↓oT_x, oTx_s, ↓ite_x, itx_T, itx_F, ↓reduceIte, not_true_eq_false, not_false_eq_true, true_and, and_true, Nat.reduceAdd, Nat.reduceMul, Nat.reduceSub, Nat.reduceEqDiff, isB0, isB1, Int32.neg_neg, Nat.zero_add, Nat.add_zero, Nat.mul_zero, Nat.mul_one, Nat.zero_mul], by simp -dsimp -implicitDefEqProofs (disch := omega) only [X6_rowWrong, in_t, e2, n1, r2, i32_lit, i32_add, i32_mul, i32_tn, i32_sub, le_t, le_f, lt_t, lt_f, eq_t, eq_f, eq_rfl, inR_t, ↓ob_x, obx_s, ↓bnd_s, ↓oT_x, oTx_s, ↓ite_x, itx_T, itx_F, ↓reduceIte, not_true_eq_false, not_false_eq_true, true_and, and_true, Nat.reduceAdd, Nat.reduceMul, Nat.reduceSub, Nat.reduceEqDiff, isB0, isB1, Int32.neg_neg, Nat.zero_add, Nat.add_zero, Nat.mul_zero, Nat.mul_one, Nat.zero_mul]⟩
        · rw [if_pos rfl] at r2
          exact Or.inl ⟨5, by omega, by omega, by simp -dsimp -implicitDefEqProofs (disch := omega) only [X5_refusalOfRow, X5_refusalOfSheet, X2_tellsOnly, isH_t, e1, e2, e3, n1, r1, u2, i32_lit, i32_add, i32_mul, i32_tn, i32_sub, le_t, le_f, lt_t, lt_f, eq_t, eq_f, eq_rfl, inR_t, ↓ob_x, obx_s, ↓bnd_s, ↓oT_x, oTx_s, ↓ite_x, itx_T, itx_F, ↓reduceIte, not_true_eq_false, not_false_eq_true, true_and, and_true, Nat.reduceAdd, Nat.reduceMul, Nat.reduceSub, Nat.reduceEqDiff, isB0, isB1, Int32.neg_neg, Nat.zero_add, Nat.add_zero, Nat.mul_zero, Nat.mul_one, Nat.zero_mul], by simp -dsimp -implicitDefEqProofs (disch := omega) only [X6_rowWrong, in_t, e2, n1, r2, i32_lit, i32_add, i32_mul, i32_tn, i32_sub, le_t, le_f, lt_t, lt_f, eq_t, eq_f, eq_rfl, inR_t, ↓ob_x, obx_s, ↓bnd_s, ↓oT_x, oTx_s, ↓ite_x, itx_T, itx_F, ↓reduceIte, not_true_eq_false, not_false_eq_true, true_and, and_true, Nat.reduceAdd, Nat.reduceMul, Nat.reduceSub, Nat.reduceEqDiff, isB0, isB1, Int32.neg_neg, Nat.zero_add, Nat.add_zero, Nat.mul_zero, Nat.mul_one, Nat.zero_mul]⟩
  · exact Or.inl ⟨2, by omega, by omega, by simp -dsimp -implicitDefEqProofs (disch := omega) only [X5_refusalOfRow, X5_refusalOfSheet, isH_f gI o1, m_ne, i32_lit, i32_add, i32_mul, i32_tn, i32_sub, le_t, le_f, lt_t, lt_f, eq_t, eq_f, eq_rfl, inR_t, ↓ob_x, obx_s, ↓bnd_s, ↓oT_x, oTx_s, ↓ite_x, itx_T, itx_F, ↓reduceIte, not_true_eq_false, not_false_eq_true, true_and, and_true, Nat.reduceAdd, Nat.reduceMul, Nat.reduceSub, Nat.reduceEqDiff, isB0, isB1, Int32.neg_neg, Nat.zero_add, Nat.add_zero, Nat.mul_zero, Nat.mul_one, Nat.zero_mul], by simp -dsimp -implicitDefEqProofs (disch := omega) only [X6_rowWrong, in_f gM (by omega : 3 < 1000000) o1, i32_lit, i32_add, i32_mul, i32_tn, i32_sub, le_t, le_f, lt_t, lt_f, eq_t, eq_f, eq_rfl, inR_t, ↓ob_x, obx_s, ↓bnd_s, ↓oT_x, oTx_s, ↓ite_x, itx_T, itx_F, ↓reduceIte, not_true_eq_false, not_false_eq_true, true_and, and_true, Nat.reduceAdd, Nat.reduceMul, Nat.reduceSub, Nat.reduceEqDiff, isB0, isB1, Int32.neg_neg, Nat.zero_add, Nat.add_zero, Nat.mul_zero, Nat.mul_one, Nat.zero_mul]⟩
theorem within11 {N k : Nat} (h : k < 12) (g : Mem) : X6_within N (i32 k) (i32 0) (i32 11) g = some (i32 k, g) := by
  simp -dsimp -implicitDefEqProofs (disch := omega) only [X6_within, i32_lit, i32_add, i32_mul, i32_tn, i32_sub, le_t, le_f, lt_t, lt_f, eq_t, eq_f, eq_rfl, inR_t, ↓ob_x, obx_s, ↓bnd_s, ↓oT_x, oTx_s, ↓ite_x, itx_T, itx_F, ↓reduceIte, not_true_eq_false, not_false_eq_true, true_and, and_true, Nat.reduceAdd, Nat.reduceMul, Nat.reduceSub, Nat.reduceEqDiff, isB0, isB1, Int32.neg_neg, Nat.zero_add, Nat.add_zero, Nat.mul_zero, Nat.mul_one, Nat.zero_mul]
theorem hour_sim2 {N b d i : Nat} (hN : 6000 ≤ N) {gI gM : Mem} (h : Sc b d i gI gM) (q : Bd d gM) :
    ∃ gI' gM', X1_passHours N b (i32 1) gI = some (i32 0, gI') ∧ X6_hourOf N gM = some (i32 0, gM') ∧ OKs b d i gI gM gI' gM' ∧ gM'.1 0 6 = gM.1 0 6 + i32 1 ∧ ∀ j, ¬ j = 6 → gM'.1 0 j = gM.1 0 j := by
  obtain ⟨p1, p2, p3, p4, p5⟩ := Sc_p h
  obtain ⟨g1, r1, r2⟩ := hour_I hN h q 1 0 N (i32 0) (by omega) (by omega) (by omega)
  obtain ⟨m1, s1, s2⟩ := hour_M hN p1 p2 p3 p4 p5
  refine ⟨g1, m1, ?_, s1, OKs_hr h q r2 s2, hrM_h gM i d s2, fun j hj => ?_⟩
  · have e : X1_passHours N b (i32 1) gI = X1_passHours_G2 N b (i32 1) N 0 (i32 0) (i32 0) gI := rfl
    rw [e, r1]
    obtain ⟨f, hf⟩ : ∃ q, N - (d + 9) = q + 1 := ⟨N - (d + 9) - 1, by omega⟩
    rw [hf]
    simp -dsimp -implicitDefEqProofs (disch := omega) only [X1_passHours_G2, i32_lit, i32_add, i32_mul, i32_tn, i32_sub, le_t, le_f, lt_t, lt_f, eq_t, eq_f, eq_rfl, inR_t, ↓ob_x, obx_s, ↓bnd_s, ↓oT_x, oTx_s, ↓ite_x, itx_T, itx_F, ↓reduceIte, not_true_eq_false, not_false_eq_true, true_and, and_true, Nat.reduceAdd, Nat.reduceMul, Nat.reduceSub, Nat.reduceEqDiff, isB0, isB1, Int32.neg_neg, Nat.zero_add, Nat.add_zero, Nat.mul_zero, Nat.mul_one, Nat.zero_mul]
  · rw [SM_r s2 0 (by omega), hrM, stI_nj _ _ _ _ _ hj, hbM_n _ _ _ (by omega), hsM_n _ _ _ _ (by omega)]
set_option maxRecDepth 100000 in
theorem rows_l {N b d i s p m : Nat} (hN : 6000 ≤ N) (hp : p < d) : ∀ (n x y hg fu fM : Nat) (gI gM : Mem), x + n = m → n < fu → n < fM → Sc b d i gI gM → Bd d gM → ShS s m gI gM → (∀ j, j < m → ∃ k, k < 12 ∧ gM.1 13 (40 * s + j) = i32 k) → gM.1 0 32 = i32 hg →
    ∃ r hg' gI' gM', X1_bringsInRow_L5 N b (34 + 2 * s) (i32 p) fu (i32 y) (i32 x) gI = some (i32 r, gI') ∧ X6_rowOf_L10 N (i32 s) (i32 p) fM (i32 y) (i32 x) gM = some (i32 r, gM') ∧ OKs b d i gI gM gI' gM' ∧ gM'.1 0 32 = i32 (hg + hg') ∧ hg' ≤ n ∧ gM'.1 0 6 = gM.1 0 6 + i32 hg' := by
  intro n
  induction n with
  | zero =>
    intro x y hg fu fM gI gM h1 h2 h3 h q S0 hk eh
    obtain ⟨fu, rfl⟩ : ∃ q, fu = q + 1 := ⟨fu - 1, by omega⟩
    obtain ⟨fM, rfl⟩ : ∃ q, fM = q + 1 := ⟨fM - 1, by omega⟩
    obtain ⟨hs, hm, e1, e2, e3⟩ := id S0
    have : x = m := by omega
    subst this
    refine ⟨y, 0, gI, gM, by simp -dsimp -implicitDefEqProofs (disch := omega) only [X1_bringsInRow_L5, e1, i32_lit, i32_add, i32_mul, i32_tn, i32_sub, le_t, le_f, lt_t, lt_f, eq_t, eq_f, eq_rfl, inR_t, ↓ob_x, obx_s, ↓bnd_s, ↓oT_x, oTx_s, ↓ite_x, itx_T, itx_F, ↓reduceIte, not_true_eq_false, not_false_eq_true, true_and, and_true, Nat.reduceAdd, Nat.reduceMul, Nat.reduceSub, Nat.reduceEqDiff, isB0, isB1, Int32.neg_neg, Nat.zero_add, Nat.add_zero, Nat.mul_zero, Nat.mul_one, Nat.zero_mul], by simp -dsimp -implicitDefEqProofs (disch := omega) only [X6_rowOf_L10, e2, i32_lit, i32_add, i32_mul, i32_tn, i32_sub, le_t, le_f, lt_t, lt_f, eq_t, eq_f, eq_rfl, inR_t, ↓ob_x, obx_s, ↓bnd_s, ↓oT_x, oTx_s, ↓ite_x, itx_T, itx_F, ↓reduceIte, not_true_eq_false, not_false_eq_true, true_and, and_true, Nat.reduceAdd, Nat.reduceMul, Nat.reduceSub, Nat.reduceEqDiff, isB0, isB1, Int32.neg_neg, Nat.zero_add, Nat.add_zero, Nat.mul_zero, Nat.mul_one, Nat.zero_mul], OKs_S h q (SI_rfl _) (SM_rfl _), eh, Nat.le_refl 0, ?_⟩
    rw [show i32 0 = (0 : Int32) from rfl, Int32.add_zero]
  | succ n ih =>
    intro x y hg fu fM gI gM h1 h2 h3 h q S0 hk eh
    obtain ⟨fu, rfl⟩ : ∃ q, fu = q + 1 := ⟨fu - 1, by omega⟩
    obtain ⟨fM, rfl⟩ : ∃ q, fM = q + 1 := ⟨fM - 1, by omega⟩
    obtain ⟨hs, hm, e1, e2, e3⟩ := id S0
    obtain ⟨p1, p2, p3, p4, p5⟩ := Sc_p h
    have hb := h.1.1
    obtain ⟨k, hk12, ek⟩ := hk x (by omega)
    have e4 := e3 x (by omega)
    rw [ek] at e4
    obtain ⟨g1, r1, r2⟩ := can_I hN h hp hk12
    obtain ⟨m1, s1, s2⟩ := can_M (k := k) hN p1 p2 p3 (by omega : p < 6) hk12
    have o1 := OKs_S h q r2 s2
    have cM : m1.1 0 = gM.1 0 := SM_r s2 0 (by omega)
    have w1 := within11 (N := N) hk12 gM
    have w2 := isK_t (N := N) gI hk12
    rcases canV_le gM i p k with hc | hc
    · obtain ⟨g2, m2, t1, t2, t3, t4, t5⟩ := hour_sim2 hN o1.1 o1.2.1
      have c2 : m2.1 0 32 = i32 hg := by rw [t5 32 (by omega), cM]; exact eh
      have o3 := OKs_tr (OKs_tr o1 t3) (OKs_N t3.1 t3.2.1 32 (Or.inl rfl) (i32 (hg + 1)))
      have S1 := ShS_fr S0 hb o3.2.2.1 o3.2.2.2.1
      obtain ⟨r, h', g3, m3, v1, v2, v3, v4, v5, v6⟩ := ih (x + 1) y (hg + 1) fu fM g2 (stI m2 0 32 (i32 (hg + 1))) (by omega) (by omega) (by omega) o3.1 o3.2.1 S1 (by rw [o3.2.2.2.1.1 13 (by omega) (by omega) (by omega) (by omega) (by omega) (by omega)]; exact hk) (stI_eq _ _ _ _)
      refine ⟨r, h' + 1, g3, m3, by simp -dsimp -implicitDefEqProofs (disch := omega) only [X1_bringsInRow_L5, e1, e4, w2, r1, hc, t1, v1, i32_lit, i32_add, i32_mul, i32_tn, i32_sub, le_t, le_f, lt_t, lt_f, eq_t, eq_f, eq_rfl, inR_t, ↓ob_x, obx_s, ↓bnd_s, ↓oT_x, oTx_s, ↓ite_x, itx_T, itx_F, ↓reduceIte, not_true_eq_false, not_false_eq_true, true_and, and_true, Nat.reduceAdd, Nat.reduceMul, Nat.reduceSub, Nat.reduceEqDiff, isB0, isB1, Int32.neg_neg, Nat.zero_add, Nat.add_zero, Nat.mul_zero, Nat.mul_one, Nat.zero_mul], by simp -dsimp -implicitDefEqProofs (disch := omega) only [X6_rowOf_L10, e2, ek, w1, s1, hc, t2, c2, v2, i32_lit, i32_add, i32_mul, i32_tn, i32_sub, le_t, le_f, lt_t, lt_f, eq_t, eq_f, eq_rfl, inR_t, ↓ob_x, obx_s, ↓bnd_s, ↓oT_x, oTx_s, ↓ite_x, itx_T, itx_F, ↓reduceIte, not_true_eq_false, not_false_eq_true, true_and, and_true, Nat.reduceAdd, Nat.reduceMul, Nat.reduceSub, Nat.reduceEqDiff, isB0, isB1, Int32.neg_neg, Nat.zero_add, Nat.add_zero, Nat.mul_zero, Nat.mul_one, Nat.zero_mul], OKs_tr o3 v3, by rw [v4]; congr 1; omega, by omega, ?_⟩
      rw [v6, stI_nj _ _ _ _ _ (by omega), t4, cM, Int32.add_assoc, i32_add, Nat.add_comm]
    · obtain ⟨g2, m2, t1, t2, t3, t4, _⟩ := dive_sim hN o1.1 o1.2.1 hp hk12 (by rw [canV_SM s2]; exact hc)
      have o3 := OKs_tr o1 t3
      have S1 := ShS_fr S0 hb o3.2.2.1 o3.2.2.2.1
      have c2 : m2.1 0 = gM.1 0 := by
        rw [SM_r t4 0 (by omega), ← cM]; unfold dvM
        rw [stI_ne _ _ _ _ _ (by omega), stI_ne _ _ _ _ _ (by omega), stI_ne _ _ _ _ _ (by omega)]
      obtain ⟨r, h', g3, m3, v1, v2, v3, v4, v5, v6⟩ := ih (x + 1) (y + 1) hg fu fM g2 m2 (by omega) (by omega) (by omega) o3.1 o3.2.1 S1 (by rw [o3.2.2.2.1.1 13 (by omega) (by omega) (by omega) (by omega) (by omega) (by omega)]; exact hk) (by rw [c2]; exact eh)
      exact ⟨r, h', g3, m3, by simp -dsimp -implicitDefEqProofs (disch := omega) only [X1_bringsInRow_L5, e1, e4, w2, r1, hc, t1, v1, i32_lit, i32_add, i32_mul, i32_tn, i32_sub, le_t, le_f, lt_t, lt_f, eq_t, eq_f, eq_rfl, inR_t, ↓ob_x, obx_s, ↓bnd_s, ↓oT_x, oTx_s, ↓ite_x, itx_T, itx_F, ↓reduceIte, not_true_eq_false, not_false_eq_true, true_and, and_true, Nat.reduceAdd, Nat.reduceMul, Nat.reduceSub, Nat.reduceEqDiff, isB0, isB1, Int32.neg_neg, Nat.zero_add, Nat.add_zero, Nat.mul_zero, Nat.mul_one, Nat.zero_mul], by simp -dsimp -implicitDefEqProofs (disch := omega) only [X6_rowOf_L10, e2, ek, w1, s1, hc, t2, v2, i32_lit, i32_add, i32_mul, i32_tn, i32_sub, le_t, le_f, lt_t, lt_f, eq_t, eq_f, eq_rfl, inR_t, ↓ob_x, obx_s, ↓bnd_s, ↓oT_x, oTx_s, ↓ite_x, itx_T, itx_F, ↓reduceIte, not_true_eq_false, not_false_eq_true, true_and, and_true, Nat.reduceAdd, Nat.reduceMul, Nat.reduceSub, Nat.reduceEqDiff, isB0, isB1, Int32.neg_neg, Nat.zero_add, Nat.add_zero, Nat.mul_zero, Nat.mul_one, Nat.zero_mul], OKs_tr o3 v3, v4, by omega, by rw [v6, c2]⟩
/-- a whole row -/
theorem row_sim {N b d i s p m : Nat} (hN : 6000 ≤ N) (hp : p < d) {gI gM : Mem} (h : Sc b d i gI gM) (q : Bd d gM) (S0 : ShS s m gI gM) (hk : ∀ j, j < m → ∃ k, k < 12 ∧ gM.1 13 (40 * s + j) = i32 k) :
    ∃ r hg gI' gM', X1_bringsInRow N b (34 + 2 * s) (i32 p) gI = some (i32 r, gI') ∧ X6_rowOf N (i32 s) (i32 p) gM = some (i32 r, gM') ∧ OKs b d i gI gM gI' gM' ∧ gM'.1 0 32 = i32 hg ∧ hg ≤ m ∧ gM'.1 0 6 = gM.1 0 6 + i32 hg := by
  have hm := S0.2.1
  have o := OKs_N h q 32 (Or.inl rfl) (i32 0)
  obtain ⟨r, hg, gI', gM', v1, v2, v3, v4, v5, v6⟩ := rows_l hN hp m 0 0 0 N N gI (stI gM 0 32 (i32 0)) (by omega) (by omega) (by omega) o.1 o.2.1 (ShS_fr S0 h.1.1 o.2.2.1 o.2.2.2.1) (by rw [stI_ne _ _ _ _ _ (by omega)]; exact hk) (stI_eq _ _ _ _)
  refine ⟨r, hg, gI', gM', v1, ?_, OKs_tr o v3, ?_, v5, ?_⟩
  · rw [← v2]; simp -dsimp -implicitDefEqProofs (disch := omega) only [X6_rowOf, i32_lit, i32_add, i32_mul, i32_tn, i32_sub, le_t, le_f, lt_t, lt_f, eq_t, eq_f, eq_rfl, inR_t, ↓ob_x, obx_s, ↓bnd_s, ↓oT_x, oTx_s, ↓ite_x, itx_T, itx_F, ↓reduceIte, not_true_eq_false, not_false_eq_true, true_and, and_true, Nat.reduceAdd, Nat.reduceMul, Nat.reduceSub, Nat.reduceEqDiff, isB0, isB1, Int32.neg_neg, Nat.zero_add, Nat.add_zero, Nat.mul_zero, Nat.mul_one, Nat.zero_mul]
  · rw [v4, Nat.zero_add]
  · rw [v6, stI_nj _ _ _ _ _ (by omega)]
set_option maxRecDepth 100000 in
theorem e_row {N : Nat} (hN : 6000 ≤ N) {gI gM : Mem} (h : R gI gM) (a1 a2 a3 : Int32) : EQ (X5_row N a1 a2 a3 gI) (X6_row N a1 a2 a3 gM) := by
  obtain ⟨d, i, c, hR⟩ := h
  obtain ⟨⟨hS, hB, hG, hH⟩, hT, hP, hSh, hK⟩ := id hR
  obtain ⟨⟨a0_, hd6, hi6⟩, s1_, s2_, s3_, s4_, s5_, s6_, b7, b8, s9_, s10_, b11, b12, b13, b14⟩ := id hS
  have b1 : ∀ t, t < 6 → gI.1 43 t = gM.1 5 t := s1_
  have b2 : ∀ k, k < 12 → gI.1 44 k = gM.1 4 (4 * k) := s2_
  have b3 : ∀ k, k < 12 → gI.1 45 k = gM.1 4 (4 * k + 1) := s3_
  have b4 : ∀ k, k < 12 → gI.1 46 k = gM.1 4 (4 * k + 2) := s4_
  have b5 : ∀ k, k < 12 → gI.1 47 k = gM.1 4 (4 * k + 3) := s5_
  have b6 : ∀ p, p < 6 → gI.1 50 p = gM.1 3 (2 * p) := s6_
  have b9 : ∀ p, p < d → gI.1 48 p = gM.1 1 p := s9_
  have b10 : ∀ p, p < d → gI.1 49 p = gM.1 2 p := s10_
  have bG : ∀ p, p < 6 → gI.1 51 p = gM.1 3 (2 * p + 1) := hG
  clear s1_ s2_ s3_ s4_ s5_ s6_ s9_ s10_
  rcases ref_row hN hR a1 a2 with ⟨v, hv, hv2, r1, r2⟩ | ⟨s, p, m, rfl, rfl, hp, S0, hk, r1, r2⟩
  · have n0 := m_ne (x := 0) (v := v) (by omega)
    exact ⟨-(i32 v), gI, gM, by simp -dsimp -implicitDefEqProofs (disch := omega) only [X5_row, r1, n0, i32_lit, i32_add, i32_mul, i32_tn, i32_sub, le_t, le_f, lt_t, lt_f, eq_t, eq_f, eq_rfl, inR_t, ↓ob_x, obx_s, ↓bnd_s, ↓oT_x, oTx_s, ↓ite_x, itx_T, itx_F, ↓reduceIte, not_true_eq_false, not_false_eq_true, true_and, and_true, Nat.reduceAdd, Nat.reduceMul, Nat.reduceSub, Nat.reduceEqDiff, isB0, isB1, Int32.neg_neg, Nat.zero_add, Nat.add_zero, Nat.mul_zero, Nat.mul_one, Nat.zero_mul], by simp -dsimp -implicitDefEqProofs (disch := omega) only [X6_row, r2, n0, i32_lit, i32_add, i32_mul, i32_tn, i32_sub, le_t, le_f, lt_t, lt_f, eq_t, eq_f, eq_rfl, inR_t, ↓ob_x, obx_s, ↓bnd_s, ↓oT_x, oTx_s, ↓ite_x, itx_T, itx_F, ↓reduceIte, not_true_eq_false, not_false_eq_true, true_and, and_true, Nat.reduceAdd, Nat.reduceMul, Nat.reduceSub, Nat.reduceEqDiff, isB0, isB1, Int32.neg_neg, Nat.zero_add, Nat.add_zero, Nat.mul_zero, Nat.mul_one, Nat.zero_mul], d, i, c, hR⟩
  · rcases rg a3 4 (by omega) with ⟨w, hw, rfl⟩ | o
    · obtain ⟨g1, m1, t1, t2, t3, t4, t5, t6, t7⟩ := think hN hR
      have hk1 : ∀ j, j < m → ∃ k, k < 12 ∧ m1.1 13 (40 * s + j) = i32 k := by rw [t7.1 13 (by omega)]; exact hk
      obtain ⟨r, hg, g2, m2, u1, u2, u3, u4, u5, u6⟩ := row_sim (b := 52) hN hp t3 t4 (KP_FM S0 t6 t7) hk1
      obtain ⟨m3, l1, l2⟩ := laid hN t7 u3.2.2.2.1
      have hR3 := RR_th hR (FI_tr t6 u3.2.2.1) l2
      have hs4 := S0.1
      have hm40 := S0.2.1
      have c42 : g2.1 42 = gI.1 42 := by rw [u3.2.2.1.1 42 (by omega) (by omega), t6.1 42 (by omega) (by omega)]
      have c52 : g2.1 52 10 = m2.1 0 6 := u3.1.2.2.2.2.2.2.2.2.2.2.2.1
      have cm6 : m1.1 0 6 = gM.1 0 6 := by rw [t7.1 0 (by omega)]
      rcases (by omega : w = 0 ∨ w = 1 ∨ w = 2 ∨ w = 3) with rfl | rfl | rfl | rfl
      · have e1 := at_I (N := N) (b := 52) (i32 1) u3.1.2.2.2.2.2.1 12 0 N (i32 0) (by omega) (by omega)
        have e2 := at_M (N := N) (gM := m2) (i32 1) 12 0 N (i32 0) (by omega) (by omega)
        exact ⟨bitF (plV m2 (i32 1)) 0 12 (i32 0), g2, m3, by simp -dsimp -implicitDefEqProofs (disch := omega) only [X5_row, X1_casksAt, r1, isW_t, t1, u1, e1, i32_lit, i32_add, i32_mul, i32_tn, i32_sub, le_t, le_f, lt_t, lt_f, eq_t, eq_f, eq_rfl, inR_t, ↓ob_x, obx_s, ↓bnd_s, ↓oT_x, oTx_s, ↓ite_x, itx_T, itx_F, ↓reduceIte, not_true_eq_false, not_false_eq_true, true_and, and_true, Nat.reduceAdd, Nat.reduceMul, Nat.reduceSub, Nat.reduceEqDiff, isB0, isB1, Int32.neg_neg, Nat.zero_add, Nat.add_zero, Nat.mul_zero, Nat.mul_one, Nat.zero_mul], by simp -dsimp -implicitDefEqProofs (disch := omega) only [X6_row, X6_placed, r2, in_t, t2, u2, e2, l1, i32_lit, i32_add, i32_mul, i32_tn, i32_sub, le_t, le_f, lt_t, lt_f, eq_t, eq_f, eq_rfl, inR_t, ↓ob_x, obx_s, ↓bnd_s, ↓oT_x, oTx_s, ↓ite_x, itx_T, itx_F, ↓reduceIte, not_true_eq_false, not_false_eq_true, true_and, and_true, Nat.reduceAdd, Nat.reduceMul, Nat.reduceSub, Nat.reduceEqDiff, isB0, isB1, Int32.neg_neg, Nat.zero_add, Nat.add_zero, Nat.mul_zero, Nat.mul_one, Nat.zero_mul], d, i, c, hR3⟩
      · exact ⟨i32 r, g2, m3, by simp -dsimp -implicitDefEqProofs (disch := omega) only [X5_row, r1, isW_t, t1, u1, i32_lit, i32_add, i32_mul, i32_tn, i32_sub, le_t, le_f, lt_t, lt_f, eq_t, eq_f, eq_rfl, inR_t, ↓ob_x, obx_s, ↓bnd_s, ↓oT_x, oTx_s, ↓ite_x, itx_T, itx_F, ↓reduceIte, not_true_eq_false, not_false_eq_true, true_and, and_true, Nat.reduceAdd, Nat.reduceMul, Nat.reduceSub, Nat.reduceEqDiff, isB0, isB1, Int32.neg_neg, Nat.zero_add, Nat.add_zero, Nat.mul_zero, Nat.mul_one, Nat.zero_mul], by simp -dsimp -implicitDefEqProofs (disch := omega) only [X6_row, r2, in_t, t2, u2, l1, i32_lit, i32_add, i32_mul, i32_tn, i32_sub, le_t, le_f, lt_t, lt_f, eq_t, eq_f, eq_rfl, inR_t, ↓ob_x, obx_s, ↓bnd_s, ↓oT_x, oTx_s, ↓ite_x, itx_T, itx_F, ↓reduceIte, not_true_eq_false, not_false_eq_true, true_and, and_true, Nat.reduceAdd, Nat.reduceMul, Nat.reduceSub, Nat.reduceEqDiff, isB0, isB1, Int32.neg_neg, Nat.zero_add, Nat.add_zero, Nat.mul_zero, Nat.mul_one, Nat.zero_mul], d, i, c, hR3⟩
      · have e5 : g2.1 60 p = m2.1 3 (2 * p) := u3.1.2.2.2.2.2.2.1 p (by omega)
        exact ⟨m2.1 3 (2 * p), g2, m3, by simp -dsimp -implicitDefEqProofs (disch := omega) only [X5_row, r1, isW_t, t1, u1, e5, i32_lit, i32_add, i32_mul, i32_tn, i32_sub, le_t, le_f, lt_t, lt_f, eq_t, eq_f, eq_rfl, inR_t, ↓ob_x, obx_s, ↓bnd_s, ↓oT_x, oTx_s, ↓ite_x, itx_T, itx_F, ↓reduceIte, not_true_eq_false, not_false_eq_true, true_and, and_true, Nat.reduceAdd, Nat.reduceMul, Nat.reduceSub, Nat.reduceEqDiff, isB0, isB1, Int32.neg_neg, Nat.zero_add, Nat.add_zero, Nat.mul_zero, Nat.mul_one, Nat.zero_mul], by simp -dsimp -implicitDefEqProofs (disch := omega) only [X6_row, r2, in_t, t2, u2, l1, i32_lit, i32_add, i32_mul, i32_tn, i32_sub, le_t, le_f, lt_t, lt_f, eq_t, eq_f, eq_rfl, inR_t, ↓ob_x, obx_s, ↓bnd_s, ↓oT_x, oTx_s, ↓ite_x, itx_T, itx_F, ↓reduceIte, not_true_eq_false, not_false_eq_true, true_and, and_true, Nat.reduceAdd, Nat.reduceMul, Nat.reduceSub, Nat.reduceEqDiff, isB0, isB1, Int32.neg_neg, Nat.zero_add, Nat.add_zero, Nat.mul_zero, Nat.mul_one, Nat.zero_mul], d, i, c, hR3⟩
      · obtain ⟨H, hH1, hH2⟩ := id hH
        exact ⟨i32 hg, g2, m3, by simp -dsimp -implicitDefEqProofs (disch := omega) only [X5_row, r1, isW_t, t1, u1, c42, c52, u6, cm6, b11, hH2, Nat.add_sub_cancel_left, i32_lit, i32_add, i32_mul, i32_tn, i32_sub, le_t, le_f, lt_t, lt_f, eq_t, eq_f, eq_rfl, inR_t, ↓ob_x, obx_s, ↓bnd_s, ↓oT_x, oTx_s, ↓ite_x, itx_T, itx_F, ↓reduceIte, not_true_eq_false, not_false_eq_true, true_and, and_true, Nat.reduceAdd, Nat.reduceMul, Nat.reduceSub, Nat.reduceEqDiff, isB0, isB1, Int32.neg_neg, Nat.zero_add, Nat.add_zero, Nat.mul_zero, Nat.mul_one, Nat.zero_mul], by simp -dsimp -implicitDefEqProofs (disch := omega) only [X6_row, r2, in_t, t2, u2, u4, l1, i32_lit, i32_add, i32_mul, i32_tn, i32_sub, le_t, le_f, lt_t, lt_f, eq_t, eq_f, eq_rfl, inR_t, ↓ob_x, obx_s, ↓bnd_s, ↓oT_x, oTx_s, ↓ite_x, itx_T, itx_F, ↓reduceIte, not_true_eq_false, not_false_eq_true, true_and, and_true, Nat.reduceAdd, Nat.reduceMul, Nat.reduceSub, Nat.reduceEqDiff, isB0, isB1, Int32.neg_neg, Nat.zero_add, Nat.add_zero, Nat.mul_zero, Nat.mul_one, Nat.zero_mul], d, i, c, hR3⟩
    · exact ⟨-7, gI, gM, by simp -dsimp -implicitDefEqProofs (disch := omega) only [X5_row, r1, isW_f gI (by omega : 3 < 1000000) o, i32_lit, i32_add, i32_mul, i32_tn, i32_sub, le_t, le_f, lt_t, lt_f, eq_t, eq_f, eq_rfl, inR_t, ↓ob_x, obx_s, ↓bnd_s, ↓oT_x, oTx_s, ↓ite_x, itx_T, itx_F, ↓reduceIte, not_true_eq_false, not_false_eq_true, true_and, and_true, Nat.reduceAdd, Nat.reduceMul, Nat.reduceSub, Nat.reduceEqDiff, isB0, isB1, Int32.neg_neg, Nat.zero_add, Nat.add_zero, Nat.mul_zero, Nat.mul_one, Nat.zero_mul], by simp -dsimp -implicitDefEqProofs (disch := omega) only [X6_row, r2, in_f gM (by omega : 3 < 1000000) o, i32_lit, i32_add, i32_mul, i32_tn, i32_sub, le_t, le_f, lt_t, lt_f, eq_t, eq_f, eq_rfl, inR_t, ↓ob_x, obx_s, ↓bnd_s, ↓oT_x, oTx_s, ↓ite_x, itx_T, itx_F, ↓reduceIte, not_true_eq_false, not_false_eq_true, true_and, and_true, Nat.reduceAdd, Nat.reduceMul, Nat.reduceSub, Nat.reduceEqDiff, isB0, isB1, Int32.neg_neg, Nat.zero_add, Nat.add_zero, Nat.mul_zero, Nat.mul_one, Nat.zero_mul], d, i, c, hR⟩
set_option maxRecDepth 100000 in
theorem e_salvage {N : Nat} (hN : 6000 ≤ N) {gI gM : Mem} (h : R gI gM) (a1 a2 : Int32) : EQ (X5_salvage N a1 a2 gI) (X6_salvage N a1 a2 gM) := by
  obtain ⟨d, i, c, hR⟩ := h
  obtain ⟨⟨hS, hB, hG, hH⟩, hT, hP, hSh, hK⟩ := id hR
  obtain ⟨⟨a0_, hd6, hi6⟩, s1_, s2_, s3_, s4_, s5_, s6_, b7, b8, s9_, s10_, b11, b12, b13, b14⟩ := id hS
  have b1 : ∀ t, t < 6 → gI.1 43 t = gM.1 5 t := s1_
  have b2 : ∀ k, k < 12 → gI.1 44 k = gM.1 4 (4 * k) := s2_
  have b3 : ∀ k, k < 12 → gI.1 45 k = gM.1 4 (4 * k + 1) := s3_
  have b4 : ∀ k, k < 12 → gI.1 46 k = gM.1 4 (4 * k + 2) := s4_
  have b5 : ∀ k, k < 12 → gI.1 47 k = gM.1 4 (4 * k + 3) := s5_
  have b6 : ∀ p, p < 6 → gI.1 50 p = gM.1 3 (2 * p) := s6_
  have b9 : ∀ p, p < d → gI.1 48 p = gM.1 1 p := s9_
  have b10 : ∀ p, p < d → gI.1 49 p = gM.1 2 p := s10_
  have bG : ∀ p, p < 6 → gI.1 51 p = gM.1 3 (2 * p + 1) := hG
  clear s1_ s2_ s3_ s4_ s5_ s6_ s9_ s10_
  rcases ref_row hN hR a1 a2 with ⟨v, hv, hv2, r1, r2⟩ | ⟨s, p, m, rfl, rfl, hp, S0, hk, r1, r2⟩
  · have n0 := m_ne (x := 0) (v := v) (by omega)
    exact ⟨-(i32 v), gI, gM, by simp -dsimp -implicitDefEqProofs (disch := omega) only [X5_salvage, r1, n0, i32_lit, i32_add, i32_mul, i32_tn, i32_sub, le_t, le_f, lt_t, lt_f, eq_t, eq_f, eq_rfl, inR_t, ↓ob_x, obx_s, ↓bnd_s, ↓oT_x, oTx_s, ↓ite_x, itx_T, itx_F, ↓reduceIte, not_true_eq_false, not_false_eq_true, true_and, and_true, Nat.reduceAdd, Nat.reduceMul, Nat.reduceSub, Nat.reduceEqDiff, isB0, isB1, Int32.neg_neg, Nat.zero_add, Nat.add_zero, Nat.mul_zero, Nat.mul_one, Nat.zero_mul], by simp -dsimp -implicitDefEqProofs (disch := omega) only [X6_salvage, r2, n0, i32_lit, i32_add, i32_mul, i32_tn, i32_sub, le_t, le_f, lt_t, lt_f, eq_t, eq_f, eq_rfl, inR_t, ↓ob_x, obx_s, ↓bnd_s, ↓oT_x, oTx_s, ↓ite_x, itx_T, itx_F, ↓reduceIte, not_true_eq_false, not_false_eq_true, true_and, and_true, Nat.reduceAdd, Nat.reduceMul, Nat.reduceSub, Nat.reduceEqDiff, isB0, isB1, Int32.neg_neg, Nat.zero_add, Nat.add_zero, Nat.mul_zero, Nat.mul_one, Nat.zero_mul], d, i, c, hR⟩
  · obtain ⟨H, hH1, hH2⟩ := id hH
    obtain ⟨hs4, hm40, e1, e2, _⟩ := id S0
    by_cases h9 : H + m ≤ 999
    · obtain ⟨r, hg, g2, m2, u1, u2, u3, u4, u5, u6⟩ := row_sim (b := 42) hN hp hS hB S0 hk
      refine ⟨i32 r, g2, m2, by simp -dsimp -implicitDefEqProofs (disch := omega) only [X5_salvage, r1, b11, hH2, e1, u1, i32_lit, i32_add, i32_mul, i32_tn, i32_sub, le_t, le_f, lt_t, lt_f, eq_t, eq_f, eq_rfl, inR_t, ↓ob_x, obx_s, ↓bnd_s, ↓oT_x, oTx_s, ↓ite_x, itx_T, itx_F, ↓reduceIte, not_true_eq_false, not_false_eq_true, true_and, and_true, Nat.reduceAdd, Nat.reduceMul, Nat.reduceSub, Nat.reduceEqDiff, isB0, isB1, Int32.neg_neg, Nat.zero_add, Nat.add_zero, Nat.mul_zero, Nat.mul_one, Nat.zero_mul], by simp -dsimp -implicitDefEqProofs (disch := omega) only [X6_salvage, r2, hH2, e2, u2, i32_lit, i32_add, i32_mul, i32_tn, i32_sub, le_t, le_f, lt_t, lt_f, eq_t, eq_f, eq_rfl, inR_t, ↓ob_x, obx_s, ↓bnd_s, ↓oT_x, oTx_s, ↓ite_x, itx_T, itx_F, ↓reduceIte, not_true_eq_false, not_false_eq_true, true_and, and_true, Nat.reduceAdd, Nat.reduceMul, Nat.reduceSub, Nat.reduceEqDiff, isB0, isB1, Int32.neg_neg, Nat.zero_add, Nat.add_zero, Nat.mul_zero, Nat.mul_one, Nat.zero_mul], d, i, c, RR_tr hR u3 ?_⟩
      rw [u6, hH2, i32_add]
      exact ⟨H + hg, by omega, rfl⟩
    · exact ⟨-3, gI, gM, by simp -dsimp -implicitDefEqProofs (disch := omega) only [X5_salvage, r1, b11, hH2, e1, i32_lit, i32_add, i32_mul, i32_tn, i32_sub, le_t, le_f, lt_t, lt_f, eq_t, eq_f, eq_rfl, inR_t, ↓ob_x, obx_s, ↓bnd_s, ↓oT_x, oTx_s, ↓ite_x, itx_T, itx_F, ↓reduceIte, not_true_eq_false, not_false_eq_true, true_and, and_true, Nat.reduceAdd, Nat.reduceMul, Nat.reduceSub, Nat.reduceEqDiff, isB0, isB1, Int32.neg_neg, Nat.zero_add, Nat.add_zero, Nat.mul_zero, Nat.mul_one, Nat.zero_mul], by simp -dsimp -implicitDefEqProofs (disch := omega) only [X6_salvage, r2, hH2, e2, i32_lit, i32_add, i32_mul, i32_tn, i32_sub, le_t, le_f, lt_t, lt_f, eq_t, eq_f, eq_rfl, inR_t, ↓ob_x, obx_s, ↓bnd_s, ↓oT_x, oTx_s, ↓ite_x, itx_T, itx_F, ↓reduceIte, not_true_eq_false, not_false_eq_true, true_and, and_true, Nat.reduceAdd, Nat.reduceMul, Nat.reduceSub, Nat.reduceEqDiff, isB0, isB1, Int32.neg_neg, Nat.zero_add, Nat.add_zero, Nat.mul_zero, Nat.mul_one, Nat.zero_mul], d, i, c, hR⟩
