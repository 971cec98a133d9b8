/-! kinds, best, share -/
theorem Sc_kd {d i p w : Nat} {gI gM : Mem} (h : Sc 52 d i gI gM) (hw : w < 2) (v : Int32) : Sc 52 d i (stI gI (58 + w) p v) (stI gM (1 + w) p v) := by
  obtain ⟨⟨a1, a2, a3⟩, b1, b2, b3, b4, b5, b6, b7, b8, b9, b10, b11, b12, b13, b14⟩ := h
  have e : ∀ c, ¬ c = 58 + w → (stI gI (58 + w) p v).1 c = gI.1 c := fun c hc => stI_ne _ _ _ _ _ hc
  have f : ∀ c, ¬ c = 1 + w → (stI gM (1 + w) p v).1 c = gM.1 c := fun c hc => stI_ne _ _ _ _ _ hc
  refine ⟨⟨a1, a2, a3⟩, ?_, ?_, ?_, ?_, ?_, ?_, ?_, ?_, fun j hj => ?_, fun j hj => ?_, ?_, b12, ?_, TxI_fr b14 (e _ (by omega)) (e _ (by omega)) (f _ (by omega)) (f _ (by omega))⟩
  · rw [e _ (by omega), f _ (by omega)]; exact b1
  · rw [e _ (by omega), f _ (by omega)]; exact b2
  · rw [e _ (by omega), f _ (by omega)]; exact b3
  · rw [e _ (by omega), f _ (by omega)]; exact b4
  · rw [e _ (by omega), f _ (by omega)]; exact b5
  · rw [e _ (by omega), f _ (by omega)]; exact b6
  · rw [e _ (by omega)]; exact b7
  · rw [f _ (by omega)]; exact b8
  · rcases (by omega : w = 0 ∨ w = 1) with rfl | rfl
    · by_cases hj2 : j = p
      · subst hj2; rw [show 52 + 6 = 58 + 0 from rfl, show 1 = 1 + 0 from rfl, stI_eq, stI_eq]
      · rw [show 52 + 6 = 58 + 0 from rfl, show 1 = 1 + 0 from rfl, stI_nj _ _ _ _ _ hj2, stI_nj _ _ _ _ _ hj2]; exact b9 j hj
    · rw [e _ (by omega), f _ (by omega)]; exact b9 j hj
  · rcases (by omega : w = 0 ∨ w = 1) with rfl | rfl
    · rw [e _ (by omega), f _ (by omega)]; exact b10 j hj
    · by_cases hj2 : j = p
      · subst hj2; rw [show 52 + 7 = 58 + 1 from rfl, show 2 = 1 + 1 from rfl, stI_eq, stI_eq]
      · rw [show 52 + 7 = 58 + 1 from rfl, show 2 = 1 + 1 from rfl, stI_nj _ _ _ _ _ hj2, stI_nj _ _ _ _ _ hj2]; exact b10 j hj
  · rw [e _ (by omega), f _ (by omega)]; exact b11
  · rw [f _ (by omega)]; exact b13
def kiC (gM : Mem) (i s p m w v : Nat) : Nat := soF (stI gM (1 + w) p (i32 v)) i s p 0 m
theorem kd58 : kdI 58 = 0 := rfl
theorem kd59 : kdI 59 = 0 := rfl
theorem ln58 : lnI 58 = 6 := rfl
theorem ln59 : lnI 59 = 6 := rfl
set_option maxRecDepth 100000 in
theorem kinds_I {N d i s m p w : Nat} (hN : 6000 ≤ N) (hw : w < 2) (hp : p < d) (hm : m ≤ 12) {gM : Mem} : ∀ (n j fu : Nat) (x v : Int32) (gI : Mem), j + n = 6 + 4 * w → n < fu → Sc 52 d i gI (stI gM (1 + w) p v) → ShS s m gI gM →
    ∃ gI', X5_kinds_L57 N (i32 s) (i32 p) (i32 w) fu (58 + w) x (i32 j) gI = some (bitF (kiC gM i s p m w) j n x, gI') ∧ FI 52 gI gI'
  | 0, j, fu, x, v, gI, h1, h2, h, S0 => by
    obtain ⟨fu, rfl⟩ : ∃ q, fu = q + 1 := ⟨fu - 1, by omega⟩
    refine ⟨gI, ?_, FI_rfl 52 gI⟩
    rcases (by omega : w = 0 ∨ w = 1) with rfl | rfl <;> simp -dsimp -implicitDefEqProofs (disch := omega) only [X5_kinds_L57, bitF, i32_lit, i32_add, i32_mul, i32_tn, i32_sub, le_t, le_f, lt_t, lt_f, eq_t, eq_f, eq_rfl, inR_t, ↓ob_x, obx_s, ↓bnd_s, ↓oT_x, oTx_s, ↓ite_x, itx_T, itx_F, ↓reduceIte, not_true_eq_false, not_false_eq_true, true_and, and_true, Nat.reduceAdd, Nat.reduceMul, Nat.reduceSub, Nat.reduceEqDiff, isB0, isB1, Int32.neg_neg, Nat.zero_add, Nat.add_zero, Nat.mul_zero, Nat.mul_one, Nat.zero_mul]
  | n + 1, j, fu, x, v, gI, h1, h2, h, S0 => by
    obtain ⟨fu, rfl⟩ : ∃ q, fu = q + 1 := ⟨fu - 1, by omega⟩
    have hs := S0.1
    have hd := h.1.2.1
    have h' := Sc_kd (p := p) h hw (i32 j)
    rw [stI_stI] at h'
    have f0 : FI 52 gI (stI gI (58 + w) p (i32 j)) := FI_st _ _ (by omega)
    have S1 : ShS s m (stI gI (58 + w) p (i32 j)) gM := ShS_fr (b := 52) S0 (by omega) f0 (FM_rfl gM)
    have S2 : ShS s m (stI gI (58 + w) p (i32 j)) (stI gM (1 + w) p (i32 j)) := by
      obtain ⟨c1, c2, c3, c4, c5⟩ := S1
      exact ⟨c1, c2, c3, by rw [stI_ne _ _ _ _ _ (by omega)]; exact c4, by rw [stI_ne gM _ _ _ _ (by omega)]; exact c5⟩
    obtain ⟨g1, r1, r2⟩ := isSo_I hN hp hm h' S2
    have cc : kiC gM i s p m w j = soF (stI gM (1 + w) p (i32 j)) i s p 0 m := rfl
    rw [← cc] at r1
    have f1 : FI 52 gI g1 := FI_tr f0 (FI_SI r2)
    have S3 := ShS_SI S1 r2
    rcases soF_le (stI gM (1 + w) p (i32 j)) i s p m 0 with hv | hv
    · rw [← cc] at hv
      obtain ⟨g2, y1, y2⟩ := kinds_I hN hw hp hm n (j + 1) fu x (i32 j) g1 (by omega) (by omega) (Sc_SI h' r2) S3
      refine ⟨g2, ?_, FI_tr f1 y2⟩
      rcases (by omega : w = 0 ∨ w = 1) with rfl | rfl <;> simp -dsimp -implicitDefEqProofs (disch := omega) only [X5_kinds_L57, kd58, kd59, ln58, ln59, r1, hv, bitF, i32_lit, i32_add, i32_mul, i32_tn, i32_sub, le_t, le_f, lt_t, lt_f, eq_t, eq_f, eq_rfl, inR_t, ↓ob_x, obx_s, ↓bnd_s, ↓oT_x, oTx_s, ↓ite_x, itx_T, itx_F, ↓reduceIte, not_true_eq_false, not_false_eq_true, true_and, and_true, Nat.reduceAdd, Nat.reduceMul, Nat.reduceSub, Nat.reduceEqDiff, isB0, isB1, Int32.neg_neg, Nat.zero_add, Nat.add_zero, Nat.mul_zero, Nat.mul_one, Nat.zero_mul] <;> simp -dsimp -implicitDefEqProofs (disch := omega) only [y1, i32_lit, i32_add, i32_mul, i32_tn, i32_sub, le_t, le_f, lt_t, lt_f, eq_t, eq_f, eq_rfl, inR_t, ↓ob_x, obx_s, ↓bnd_s, ↓oT_x, oTx_s, ↓ite_x, itx_T, itx_F, ↓reduceIte, not_true_eq_false, not_false_eq_true, true_and, and_true, Nat.reduceAdd, Nat.reduceMul, Nat.reduceSub, Nat.reduceEqDiff, isB0, isB1, Int32.neg_neg, Nat.zero_add, Nat.add_zero, Nat.mul_zero, Nat.mul_one, Nat.zero_mul]
    · rw [← cc] at hv
      obtain ⟨g2, y1, y2⟩ := kinds_I hN hw hp hm n (j + 1) fu (x ||| (i32 1 <<< (i32 j &&& i32 31))) (i32 j) g1 (by omega) (by omega) (Sc_SI h' r2) S3
      refine ⟨g2, ?_, FI_tr f1 y2⟩
      rcases (by omega : w = 0 ∨ w = 1) with rfl | rfl <;> simp -dsimp -implicitDefEqProofs (disch := omega) only [X5_kinds_L57, kd58, kd59, ln58, ln59, r1, hv, bitF, Nat.one_ne_zero, i32_lit, i32_add, i32_mul, i32_tn, i32_sub, le_t, le_f, lt_t, lt_f, eq_t, eq_f, eq_rfl, inR_t, ↓ob_x, obx_s, ↓bnd_s, ↓oT_x, oTx_s, ↓ite_x, itx_T, itx_F, ↓reduceIte, not_true_eq_false, not_false_eq_true, true_and, and_true, Nat.reduceAdd, Nat.reduceMul, Nat.reduceSub, Nat.reduceEqDiff, isB0, isB1, Int32.neg_neg, Nat.zero_add, Nat.add_zero, Nat.mul_zero, Nat.mul_one, Nat.zero_mul] <;> simp -dsimp -implicitDefEqProofs (disch := omega) only [y1, i32_lit, i32_add, i32_mul, i32_tn, i32_sub, le_t, le_f, lt_t, lt_f, eq_t, eq_f, eq_rfl, inR_t, ↓ob_x, obx_s, ↓bnd_s, ↓oT_x, oTx_s, ↓ite_x, itx_T, itx_F, ↓reduceIte, not_true_eq_false, not_false_eq_true, true_and, and_true, Nat.reduceAdd, Nat.reduceMul, Nat.reduceSub, Nat.reduceEqDiff, isB0, isB1, Int32.neg_neg, Nat.zero_add, Nat.add_zero, Nat.mul_zero, Nat.mul_one, Nat.zero_mul]
theorem kd_set {gM g : Mem} {p w j : Nat} {v : Int32} (hw : w < 2) (h : SM (stI gM (1 + w) p v) g) : SM (stI gM (1 + w) p (i32 j)) (stI (stI g 1 p (if w = 0 then i32 j else gM.1 1 p)) 2 p (if w = 1 then i32 j else gM.1 2 p)) := by
  have e := SM_st2 (SM_st2 h 1 p (if w = 0 then i32 j else gM.1 1 p) (by omega)) 2 p (if w = 1 then i32 j else gM.1 2 p) (by omega)
  have q : stI (stI (stI gM (1 + w) p v) 1 p (if w = 0 then i32 j else gM.1 1 p)) 2 p (if w = 1 then i32 j else gM.1 2 p) = stI gM (1 + w) p (i32 j) := by
    rcases (by omega : w = 0 ∨ w = 1) with rfl | rfl
    · rw [if_pos rfl, if_neg (by omega), show 1 + 0 = 1 from rfl, stI_stI]
      exact stI_own _ _ _ _ (by rw [stI_ne _ _ _ _ _ (by omega)])
    · rw [if_neg (by omega), if_pos rfl, show 1 + 1 = 2 from rfl, stI_own (stI gM 2 p v) 1 p (gM.1 1 p) (by rw [stI_ne _ _ _ _ _ (by omega)]), stI_stI]
  rw [q] at e; exact e
theorem kd_end {gM g : Mem} {p w : Nat} {v : Int32} (hw : w < 2) (h : SM (stI gM (1 + w) p v) g) : SM gM (stI (stI g 1 p (gM.1 1 p)) 2 p (gM.1 2 p)) := by
  have e := SM_st2 (SM_st2 h 1 p (gM.1 1 p) (by omega)) 2 p (gM.1 2 p) (by omega)
  have q : stI (stI (stI gM (1 + w) p v) 1 p (gM.1 1 p)) 2 p (gM.1 2 p) = gM := by
    rcases (by omega : w = 0 ∨ w = 1) with rfl | rfl
    · rw [show 1 + 0 = 1 from rfl, stI_stI, stI_own gM 1 p _ rfl, stI_own gM 2 p _ rfl]
    · rw [show 1 + 1 = 2 from rfl, stI_own (stI gM 2 p v) 1 p (gM.1 1 p) (by rw [stI_ne _ _ _ _ _ (by omega)]), stI_stI, stI_own gM 2 p _ rfl]
  rw [q] at e; exact e
set_option maxRecDepth 100000 in
theorem kinds_M {N i d s m p w : Nat} (hN : 6000 ≤ N) (hw : w < 2) (hp : p < 6) (hm : m ≤ 12) {gI gM : Mem} (S0 : ShS s m gI gM) (M0 : MR i d gI gM) : ∀ (n j fu : Nat) (x v : Int32) (g : Mem), j + n = 6 + 4 * w → n < fu → SM (stI gM (1 + w) p v) g →
    ∃ g', X6_kinds_L50 N (i32 s) (i32 p) (i32 w) fu (gM.1 1 p) (gM.1 2 p) x (i32 j) g = some (bitF (kiC gM i s p m w) j n x, g') ∧ SM gM g'
  | 0, j, fu, x, v, g, h1, h2, h => by
    obtain ⟨fu, rfl⟩ : ∃ q, fu = q + 1 := ⟨fu - 1, by omega⟩
    refine ⟨_, ?_, kd_end hw h⟩
    rcases (by omega : w = 0 ∨ w = 1) with rfl | rfl <;> simp -dsimp -implicitDefEqProofs (disch := omega) only [X6_kinds_L50, bitF, i32_lit, i32_add, i32_mul, i32_tn, i32_sub, le_t, le_f, lt_t, lt_f, eq_t, eq_f, eq_rfl, inR_t, ↓ob_x, obx_s, ↓bnd_s, ↓oT_x, oTx_s, ↓ite_x, itx_T, itx_F, ↓reduceIte, not_true_eq_false, not_false_eq_true, true_and, and_true, Nat.reduceAdd, Nat.reduceMul, Nat.reduceSub, Nat.reduceEqDiff, isB0, isB1, Int32.neg_neg, Nat.zero_add, Nat.add_zero, Nat.mul_zero, Nat.mul_one, Nat.zero_mul]
  | n + 1, j, fu, x, v, g, h1, h2, h => by
    obtain ⟨fu, rfl⟩ : ∃ q, fu = q + 1 := ⟨fu - 1, by omega⟩
    have hs := S0.1
    have h' := kd_set (j := j) hw h
    have M1 := MR_E (MR_at (k := 1 + w) (j := p) (v := i32 j) M0 (by omega)) (EqM_SM h')
    have e12 : (stI (stI g 1 p (if w = 0 then i32 j else gM.1 1 p)) 2 p (if w = 1 then i32 j else gM.1 2 p)).1 12 s = i32 m := by rw [SM_r h' 12 (by omega), stI_ne _ _ _ _ _ (by omega)]; exact S0.2.2.2.1
    obtain ⟨g1, r1, r2⟩ := isSo_M hN hp hs hm M1 e12
    have cc : kiC gM i s p m w j = soF (stI gM (1 + w) p (i32 j)) i s p 0 m := rfl
    rw [soF_fr (canV_SM h' i p) (SM_r h' 13 (by omega)), ← cc] at r1
    rcases soF_le (stI gM (1 + w) p (i32 j)) i s p m 0 with hv | hv
    · rw [← cc] at hv
      obtain ⟨g2, y1, y2⟩ := kinds_M hN hw hp hm S0 M0 n (j + 1) fu x (i32 j) g1 (by omega) (by omega) (SM_tr h' r2)
      refine ⟨g2, ?_, y2⟩
      rcases (by omega : w = 0 ∨ w = 1) with rfl | rfl
      · rw [if_pos rfl, if_neg (by omega)] at r1
        simp -dsimp -implicitDefEqProofs (disch := omega) only [X6_kinds_L50, r1, hv, b_or0, y1, bitF, i32_lit, i32_add, i32_mul, i32_tn, i32_sub, le_t, le_f, lt_t, lt_f, eq_t, eq_f, eq_rfl, inR_t, ↓ob_x, obx_s, ↓bnd_s, ↓oT_x, oTx_s, ↓ite_x, itx_T, itx_F, ↓reduceIte, not_true_eq_false, not_false_eq_true, true_and, and_true, Nat.reduceAdd, Nat.reduceMul, Nat.reduceSub, Nat.reduceEqDiff, isB0, isB1, Int32.neg_neg, Nat.zero_add, Nat.add_zero, Nat.mul_zero, Nat.mul_one, Nat.zero_mul]
      · rw [if_neg (by omega), if_pos rfl] at r1
        simp -dsimp -implicitDefEqProofs (disch := omega) only [X6_kinds_L50, r1, hv, b_or0, y1, bitF, i32_lit, i32_add, i32_mul, i32_tn, i32_sub, le_t, le_f, lt_t, lt_f, eq_t, eq_f, eq_rfl, inR_t, ↓ob_x, obx_s, ↓bnd_s, ↓oT_x, oTx_s, ↓ite_x, itx_T, itx_F, ↓reduceIte, not_true_eq_false, not_false_eq_true, true_and, and_true, Nat.reduceAdd, Nat.reduceMul, Nat.reduceSub, Nat.reduceEqDiff, isB0, isB1, Int32.neg_neg, Nat.zero_add, Nat.add_zero, Nat.mul_zero, Nat.mul_one, Nat.zero_mul]
    · rw [← cc] at hv
      obtain ⟨g2, y1, y2⟩ := kinds_M hN hw hp hm S0 M0 n (j + 1) fu (x ||| (i32 1 <<< (i32 j &&& i32 31))) (i32 j) g1 (by omega) (by omega) (SM_tr h' r2)
      refine ⟨g2, ?_, y2⟩
      rcases (by omega : w = 0 ∨ w = 1) with rfl | rfl
      · rw [if_pos rfl, if_neg (by omega)] at r1
        simp -dsimp -implicitDefEqProofs (disch := omega) only [X6_kinds_L50, r1, hv, y1, bitF, Nat.one_ne_zero, i32_lit, i32_add, i32_mul, i32_tn, i32_sub, le_t, le_f, lt_t, lt_f, eq_t, eq_f, eq_rfl, inR_t, ↓ob_x, obx_s, ↓bnd_s, ↓oT_x, oTx_s, ↓ite_x, itx_T, itx_F, ↓reduceIte, not_true_eq_false, not_false_eq_true, true_and, and_true, Nat.reduceAdd, Nat.reduceMul, Nat.reduceSub, Nat.reduceEqDiff, isB0, isB1, Int32.neg_neg, Nat.zero_add, Nat.add_zero, Nat.mul_zero, Nat.mul_one, Nat.zero_mul]
      · rw [if_neg (by omega), if_pos rfl] at r1
        simp -dsimp -implicitDefEqProofs (disch := omega) only [X6_kinds_L50, r1, hv, y1, bitF, Nat.one_ne_zero, i32_lit, i32_add, i32_mul, i32_tn, i32_sub, le_t, le_f, lt_t, lt_f, eq_t, eq_f, eq_rfl, inR_t, ↓ob_x, obx_s, ↓bnd_s, ↓oT_x, oTx_s, ↓ite_x, itx_T, itx_F, ↓reduceIte, not_true_eq_false, not_false_eq_true, true_and, and_true, Nat.reduceAdd, Nat.reduceMul, Nat.reduceSub, Nat.reduceEqDiff, isB0, isB1, Int32.neg_neg, Nat.zero_add, Nat.add_zero, Nat.mul_zero, Nat.mul_one, Nat.zero_mul]
set_option maxRecDepth 100000 in
theorem e_kinds {N : Nat} (hN : 6000 ≤ N) {gI gM : Mem} (h : R gI gM) (a1 a2 a3 : Int32) : EQ (X5_kinds N a1 a2 a3 gI) (X6_kinds N a1 a2 a3 gM) := by
  obtain ⟨d, i, c, hR⟩ := h
  rcases ref_tries (N := N) hR a1 a2 a3 with ⟨v, hv, hv2, r1, r2⟩ | ⟨s, m, p, w, rfl, rfl, rfl, hp, hw, hm, S0, r1, r2⟩
  · have n0 := m_ne (x := 0) (v := v) (by omega)
    refine ⟨-(i32 v), gI, gM, by simp -dsimp -implicitDefEqProofs (disch := omega) only [X5_kinds, r1, n0, i32_lit, i32_add, i32_mul, i32_tn, i32_sub, le_t, le_f, lt_t, lt_f, eq_t, eq_f, eq_rfl, inR_t, ↓ob_x, obx_s, ↓bnd_s, ↓oT_x, oTx_s, ↓ite_x, itx_T, itx_F, ↓reduceIte, not_true_eq_false, not_false_eq_true, true_and, and_true, Nat.reduceAdd, Nat.reduceMul, Nat.reduceSub, Nat.reduceEqDiff, isB0, isB1, Int32.neg_neg, Nat.zero_add, Nat.add_zero, Nat.mul_zero, Nat.mul_one, Nat.zero_mul], ?_, d, i, c, hR⟩
    rcases r2 with r2 | ⟨rfl, r2, r3⟩
    · simp -dsimp -implicitDefEqProofs (disch := omega) only [X6_kinds, r2, n0, i32_lit, i32_add, i32_mul, i32_tn, i32_sub, le_t, le_f, lt_t, lt_f, eq_t, eq_f, eq_rfl, inR_t, ↓ob_x, obx_s, ↓bnd_s, ↓oT_x, oTx_s, ↓ite_x, itx_T, itx_F, ↓reduceIte, not_true_eq_false, not_false_eq_true, true_and, and_true, Nat.reduceAdd, Nat.reduceMul, Nat.reduceSub, Nat.reduceEqDiff, isB0, isB1, Int32.neg_neg, Nat.zero_add, Nat.add_zero, Nat.mul_zero, Nat.mul_one, Nat.zero_mul]
    · simp -dsimp -implicitDefEqProofs (disch := omega) only [X6_kinds, r2, r3, i32_lit, i32_add, i32_mul, i32_tn, i32_sub, le_t, le_f, lt_t, lt_f, eq_t, eq_f, eq_rfl, inR_t, ↓ob_x, obx_s, ↓bnd_s, ↓oT_x, oTx_s, ↓ite_x, itx_T, itx_F, ↓reduceIte, not_true_eq_false, not_false_eq_true, true_and, and_true, Nat.reduceAdd, Nat.reduceMul, Nat.reduceSub, Nat.reduceEqDiff, isB0, isB1, Int32.neg_neg, Nat.zero_add, Nat.add_zero, Nat.mul_zero, Nat.mul_one, Nat.zero_mul]
  · obtain ⟨⟨hS, hB, hG, hH⟩, hT, _⟩ := id hR
    have hd := hS.1.2.1
    have hs := S0.1
    obtain ⟨g1, q1, q2, q3⟩ := becomes_I (N := N) (b := 52) (a := 42) (i := i) (gI := gI) (by omega) hS.2.2.2.2.2.2.2.2.2.2.2.2.1 hS.1.2.2
    have hS1 := Sc_LK hS (by omega) q2 q3
    have S1 := ShS_fr (b := 52) S0 (by omega) q2 (FM_rfl gM)
    have own := stI_own gM (1 + w) p (gM.1 (1 + w) p) rfl
    obtain ⟨g2, u1, u2⟩ := kinds_I hN hw hp hm (6 + 4 * w) 0 N (i32 0) (gM.1 (1 + w) p) g1 (by omega) (by omega) (by rw [own]; exact hS1) S1
    obtain ⟨m2, y1, y2⟩ := kinds_M hN hw (by omega : p < 6) hm S0 (RR_MR hR) (6 + 4 * w) 0 N (i32 0) (gM.1 (1 + w) p) gM (by omega) (by omega) (by rw [own]; exact SM_rfl gM)
    refine ⟨bitF (kiC gM i s p m w) 0 (6 + 4 * w) (i32 0), g2, m2, ?_, ?_, d, i, c, RR_th hR (FI_tr q2 u2) (EqM_SM y2)⟩
    · rw [← u1]
      rcases (by omega : w = 0 ∨ w = 1) with rfl | rfl <;> simp -dsimp -implicitDefEqProofs (disch := omega) only [X5_kinds, r1, q1, i32_lit, i32_add, i32_mul, i32_tn, i32_sub, le_t, le_f, lt_t, lt_f, eq_t, eq_f, eq_rfl, inR_t, ↓ob_x, obx_s, ↓bnd_s, ↓oT_x, oTx_s, ↓ite_x, itx_T, itx_F, ↓reduceIte, not_true_eq_false, not_false_eq_true, true_and, and_true, Nat.reduceAdd, Nat.reduceMul, Nat.reduceSub, Nat.reduceEqDiff, isB0, isB1, Int32.neg_neg, Nat.zero_add, Nat.add_zero, Nat.mul_zero, Nat.mul_one, Nat.zero_mul]
    · rw [← y1]
      rcases (by omega : w = 0 ∨ w = 1) with rfl | rfl <;> simp -dsimp -implicitDefEqProofs (disch := omega) only [X6_kinds, r2, in_t, i32_lit, i32_add, i32_mul, i32_tn, i32_sub, le_t, le_f, lt_t, lt_f, eq_t, eq_f, eq_rfl, inR_t, ↓ob_x, obx_s, ↓bnd_s, ↓oT_x, oTx_s, ↓ite_x, itx_T, itx_F, ↓reduceIte, not_true_eq_false, not_false_eq_true, true_and, and_true, Nat.reduceAdd, Nat.reduceMul, Nat.reduceSub, Nat.reduceEqDiff, isB0, isB1, Int32.neg_neg, Nat.zero_add, Nat.add_zero, Nat.mul_zero, Nat.mul_one, Nat.zero_mul]
set_option maxRecDepth 100000 in
theorem best_l {N d i c w : Nat} (hN : 6000 ≤ N) (hw : w < 2) : ∀ (n p fu fM : Nat) (x y : Int32) (gI gM : Mem), p + n = d → n < fu → n < fM → RR d i c gI gM →
    ∃ r gI' gM', X5_best_L18 N (i32 w) fu x y (i32 p) gI = some (r, gI') ∧ X6_best_L19 N (i32 w) fM x y (i32 p) gM = some (r, gM') ∧ RR d i c gI' gM'
  | 0, p, fu, fM, x, y, gI, gM, h1, h2, h3, hR => by
    obtain ⟨fu, rfl⟩ : ∃ q, fu = q + 1 := ⟨fu - 1, by omega⟩
    obtain ⟨fM, rfl⟩ : ∃ q, fM = q + 1 := ⟨fM - 1, by omega⟩
    have b7 := hR.1.1.2.2.2.2.2.2.2.1
    have b8 := hR.1.1.2.2.2.2.2.2.2.2.1
    have hd6 := hR.1.1.1.2.1
    rcases (by omega : w = 0 ∨ w = 1) with rfl | rfl
    · exact ⟨x, gI, gM, by simp -dsimp -implicitDefEqProofs (disch := omega) only [X5_best_L18, b7, i32_lit, i32_add, i32_mul, i32_tn, i32_sub, le_t, le_f, lt_t, lt_f, eq_t, eq_f, eq_rfl, inR_t, ↓ob_x, obx_s, ↓bnd_s, ↓oT_x, oTx_s, ↓ite_x, itx_T, itx_F, ↓reduceIte, not_true_eq_false, not_false_eq_true, true_and, and_true, Nat.reduceAdd, Nat.reduceMul, Nat.reduceSub, Nat.reduceEqDiff, isB0, isB1, Int32.neg_neg, Nat.zero_add, Nat.add_zero, Nat.mul_zero, Nat.mul_one, Nat.zero_mul], by simp -dsimp -implicitDefEqProofs (disch := omega) only [X6_best_L19, b8, i32_lit, i32_add, i32_mul, i32_tn, i32_sub, le_t, le_f, lt_t, lt_f, eq_t, eq_f, eq_rfl, inR_t, ↓ob_x, obx_s, ↓bnd_s, ↓oT_x, oTx_s, ↓ite_x, itx_T, itx_F, ↓reduceIte, not_true_eq_false, not_false_eq_true, true_and, and_true, Nat.reduceAdd, Nat.reduceMul, Nat.reduceSub, Nat.reduceEqDiff, isB0, isB1, Int32.neg_neg, Nat.zero_add, Nat.add_zero, Nat.mul_zero, Nat.mul_one, Nat.zero_mul], hR⟩
    · exact ⟨y, gI, gM, by simp -dsimp -implicitDefEqProofs (disch := omega) only [X5_best_L18, b7, i32_lit, i32_add, i32_mul, i32_tn, i32_sub, le_t, le_f, lt_t, lt_f, eq_t, eq_f, eq_rfl, inR_t, ↓ob_x, obx_s, ↓bnd_s, ↓oT_x, oTx_s, ↓ite_x, itx_T, itx_F, ↓reduceIte, not_true_eq_false, not_false_eq_true, true_and, and_true, Nat.reduceAdd, Nat.reduceMul, Nat.reduceSub, Nat.reduceEqDiff, isB0, isB1, Int32.neg_neg, Nat.zero_add, Nat.add_zero, Nat.mul_zero, Nat.mul_one, Nat.zero_mul], by simp -dsimp -implicitDefEqProofs (disch := omega) only [X6_best_L19, b8, i32_lit, i32_add, i32_mul, i32_tn, i32_sub, le_t, le_f, lt_t, lt_f, eq_t, eq_f, eq_rfl, inR_t, ↓ob_x, obx_s, ↓bnd_s, ↓oT_x, oTx_s, ↓ite_x, itx_T, itx_F, ↓reduceIte, not_true_eq_false, not_false_eq_true, true_and, and_true, Nat.reduceAdd, Nat.reduceMul, Nat.reduceSub, Nat.reduceEqDiff, isB0, isB1, Int32.neg_neg, Nat.zero_add, Nat.add_zero, Nat.mul_zero, Nat.mul_one, Nat.zero_mul], hR⟩
  | n + 1, p, fu, fM, x, y, gI, gM, h1, h2, h3, hR => by
    obtain ⟨fu, rfl⟩ : ∃ q, fu = q + 1 := ⟨fu - 1, by omega⟩
    obtain ⟨fM, rfl⟩ : ∃ q, fM = q + 1 := ⟨fM - 1, by omega⟩
    have b7 := hR.1.1.2.2.2.2.2.2.2.1
    have b8 := hR.1.1.2.2.2.2.2.2.2.2.1
    have hd6 := hR.1.1.1.2.1
    obtain ⟨p1, p2, p3, p4, p5⟩ := RR_MR hR
    obtain ⟨g1, r1, r2⟩ := cset_I (p := p) hN (by omega) 12 0 N (i32 0) gI (by omega) (by omega) hR.1.1
    obtain ⟨m1, s1, s2⟩ := cset_M (p := p) hN p2 (by omega) 12 0 N (i32 0) gM (by omega) (by omega) p1 p3
    obtain ⟨v, v1, v2, _⟩ := cnt_eq hN (canV gM i p) g1 m1
    have hR1 := RR_S hR r2 s2
    by_cases hc : v ≤ y
    · obtain ⟨r, g2, m2, y1, y2, y3⟩ := best_l hN hw n (p + 1) fu fM x y g1 m1 (by omega) (by omega) (by omega) hR1
      exact ⟨r, g2, m2, by simp -dsimp -implicitDefEqProofs (disch := omega) only [X5_best_L18, X1_casksFor, b7, r1, v1, hc, y1, i32_lit, i32_add, i32_mul, i32_tn, i32_sub, le_t, le_f, lt_t, lt_f, eq_t, eq_f, eq_rfl, inR_t, ↓ob_x, obx_s, ↓bnd_s, ↓oT_x, oTx_s, ↓ite_x, itx_T, itx_F, ↓reduceIte, not_true_eq_false, not_false_eq_true, true_and, and_true, Nat.reduceAdd, Nat.reduceMul, Nat.reduceSub, Nat.reduceEqDiff, isB0, isB1, Int32.neg_neg, Nat.zero_add, Nat.add_zero, Nat.mul_zero, Nat.mul_one, Nat.zero_mul], by simp -dsimp -implicitDefEqProofs (disch := omega) only [X6_best_L19, X6_canSet, b8, s1, v2, hc, y2, i32_lit, i32_add, i32_mul, i32_tn, i32_sub, le_t, le_f, lt_t, lt_f, eq_t, eq_f, eq_rfl, inR_t, ↓ob_x, obx_s, ↓bnd_s, ↓oT_x, oTx_s, ↓ite_x, itx_T, itx_F, ↓reduceIte, not_true_eq_false, not_false_eq_true, true_and, and_true, Nat.reduceAdd, Nat.reduceMul, Nat.reduceSub, Nat.reduceEqDiff, isB0, isB1, Int32.neg_neg, Nat.zero_add, Nat.add_zero, Nat.mul_zero, Nat.mul_one, Nat.zero_mul], y3⟩
    · obtain ⟨r, g2, m2, y1, y2, y3⟩ := best_l hN hw n (p + 1) fu fM (i32 p) v g1 m1 (by omega) (by omega) (by omega) hR1
      exact ⟨r, g2, m2, by simp -dsimp -implicitDefEqProofs (disch := omega) only [X5_best_L18, X1_casksFor, b7, r1, v1, hc, y1, i32_lit, i32_add, i32_mul, i32_tn, i32_sub, le_t, le_f, lt_t, lt_f, eq_t, eq_f, eq_rfl, inR_t, ↓ob_x, obx_s, ↓bnd_s, ↓oT_x, oTx_s, ↓ite_x, itx_T, itx_F, ↓reduceIte, not_true_eq_false, not_false_eq_true, true_and, and_true, Nat.reduceAdd, Nat.reduceMul, Nat.reduceSub, Nat.reduceEqDiff, isB0, isB1, Int32.neg_neg, Nat.zero_add, Nat.add_zero, Nat.mul_zero, Nat.mul_one, Nat.zero_mul], by simp -dsimp -implicitDefEqProofs (disch := omega) only [X6_best_L19, X6_canSet, b8, s1, v2, hc, y2, i32_lit, i32_add, i32_mul, i32_tn, i32_sub, le_t, le_f, lt_t, lt_f, eq_t, eq_f, eq_rfl, inR_t, ↓ob_x, obx_s, ↓bnd_s, ↓oT_x, oTx_s, ↓ite_x, itx_T, itx_F, ↓reduceIte, not_true_eq_false, not_false_eq_true, true_and, and_true, Nat.reduceAdd, Nat.reduceMul, Nat.reduceSub, Nat.reduceEqDiff, isB0, isB1, Int32.neg_neg, Nat.zero_add, Nat.add_zero, Nat.mul_zero, Nat.mul_one, Nat.zero_mul], y3⟩
set_option maxRecDepth 100000 in
theorem e_best {N : Nat} (hN : 6000 ≤ N) {gI gM : Mem} (h : R gI gM) (a : Int32) : EQ (X5_best N a gI) (X6_best N a gM) := by
  obtain ⟨d, i, c, hR⟩ := h
  have hd6 := hR.1.1.1.2.1
  rcases rg a 2 (by omega) with ⟨w, hw, rfl⟩ | o
  · obtain ⟨r, g2, m2, y1, y2, y3⟩ := best_l hN hw d 0 N N (-(i32 1)) (i32 0) gI gM (by omega) (by omega) (by omega) hR
    exact ⟨r, g2, m2, by simp -dsimp -implicitDefEqProofs (disch := omega) only [X5_best, isW_t, y1, i32_lit, i32_add, i32_mul, i32_tn, i32_sub, le_t, le_f, lt_t, lt_f, eq_t, eq_f, eq_rfl, inR_t, ↓ob_x, obx_s, ↓bnd_s, ↓oT_x, oTx_s, ↓ite_x, itx_T, itx_F, ↓reduceIte, not_true_eq_false, not_false_eq_true, true_and, and_true, Nat.reduceAdd, Nat.reduceMul, Nat.reduceSub, Nat.reduceEqDiff, isB0, isB1, Int32.neg_neg, Nat.zero_add, Nat.add_zero, Nat.mul_zero, Nat.mul_one, Nat.zero_mul], by simp -dsimp -implicitDefEqProofs (disch := omega) only [X6_best, in_t, y2, i32_lit, i32_add, i32_mul, i32_tn, i32_sub, le_t, le_f, lt_t, lt_f, eq_t, eq_f, eq_rfl, inR_t, ↓ob_x, obx_s, ↓bnd_s, ↓oT_x, oTx_s, ↓ite_x, itx_T, itx_F, ↓reduceIte, not_true_eq_false, not_false_eq_true, true_and, and_true, Nat.reduceAdd, Nat.reduceMul, Nat.reduceSub, Nat.reduceEqDiff, isB0, isB1, Int32.neg_neg, Nat.zero_add, Nat.add_zero, Nat.mul_zero, Nat.mul_one, Nat.zero_mul], d, i, c, y3⟩
  · exact ⟨-2, gI, gM, by simp -dsimp -implicitDefEqProofs (disch := omega) only [X5_best, isW_f gI (by omega : 1 < 1000000) o, i32_lit, i32_add, i32_mul, i32_tn, i32_sub, le_t, le_f, lt_t, lt_f, eq_t, eq_f, eq_rfl, inR_t, ↓ob_x, obx_s, ↓bnd_s, ↓oT_x, oTx_s, ↓ite_x, itx_T, itx_F, ↓reduceIte, not_true_eq_false, not_false_eq_true, true_and, and_true, Nat.reduceAdd, Nat.reduceMul, Nat.reduceSub, Nat.reduceEqDiff, isB0, isB1, Int32.neg_neg, Nat.zero_add, Nat.add_zero, Nat.mul_zero, Nat.mul_one, Nat.zero_mul], by simp -dsimp -implicitDefEqProofs (disch := omega) only [X6_best, in_f gM (by omega : 1 < 1000000) o, i32_lit, i32_add, i32_mul, i32_tn, i32_sub, le_t, le_f, lt_t, lt_f, eq_t, eq_f, eq_rfl, inR_t, ↓ob_x, obx_s, ↓bnd_s, ↓oT_x, oTx_s, ↓ite_x, itx_T, itx_F, ↓reduceIte, not_true_eq_false, not_false_eq_true, true_and, and_true, Nat.reduceAdd, Nat.reduceMul, Nat.reduceSub, Nat.reduceEqDiff, isB0, isB1, Int32.neg_neg, Nat.zero_add, Nat.add_zero, Nat.mul_zero, Nat.mul_one, Nat.zero_mul], d, i, c, hR⟩
