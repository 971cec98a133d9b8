/-! told hours -/
theorem fdW_fr {g g' : Mem} (f : g'.1 7 = g.1 7) (h : g'.1 8 = g.1 8) (i : Nat) (w t x : Int32) : fdW g' i w t x = fdW g i w t x := by
  unfold fdW; rw [FV_fr f h]
theorem faded_I {N b i : Nat} (hN : 6000 ≤ N) {gI gM : Mem} (hT : TxI i gI gM) (hi : i < 6) (hl : gI.2 b = some (4 + 5 * i)) (w t x : Int32) : ∃ gI', X1_faded N b t w x gI = some (fdW gM i w t x, gI') ∧ SI gI gI' := by
  obtain ⟨g1, r1, r2⟩ := fading_I (b := b) hN hT hi hl w t x
  exact ⟨g1, by simp -dsimp -implicitDefEqProofs (disch := omega) only [X1_faded, ↓mx_def, i32_lit, i32_add, i32_mul, i32_tn, i32_sub, le_t, le_f, lt_t, lt_f, eq_t, eq_f, eq_rfl, inR_t, ↓ob_x, obx_s, ↓bnd_s, ↓oT_x, oTx_s, ↓ite_x, itx_T, itx_F, ↓reduceIte, not_true_eq_false, not_false_eq_true, true_and, and_true, Nat.reduceAdd, Nat.reduceMul, Nat.reduceSub, Nat.reduceEqDiff, isB0, isB1, Int32.neg_neg, Nat.zero_add, Nat.add_zero, Nat.mul_zero, Nat.mul_one, Nat.zero_mul, r1, fdW], r2⟩
def MR (i d : Nat) (gI gM : Mem) : Prop := TxI i gI gM ∧ i < 6 ∧ gM.1 0 12 = i32 i ∧ d ≤ 6 ∧ gM.1 0 0 = i32 d
theorem MR_FM {i d : Nat} {gI gM gM' : Mem} (h : MR i d gI gM) (f : FM gM gM') : MR i d gI gM' := by
  obtain ⟨a, b, e, e1, e2⟩ := h
  exact ⟨TxI_fr a rfl rfl (f.1 7 (by omega) (by omega) (by omega) (by omega) (by omega) (by omega)) (f.1 8 (by omega) (by omega) (by omega) (by omega) (by omega) (by omega)), b, by rw [f.2 12 (by omega) (by omega) (by omega)]; exact e, e1, by rw [f.2 0 (by omega) (by omega) (by omega)]; exact e2⟩
theorem MR_E {i d : Nat} {gI gM gM' : Mem} (h : MR i d gI gM) (f : EqM gM gM') : MR i d gI gM' := by
  obtain ⟨a, b, e, e1, e2⟩ := h
  exact ⟨TxI_fr a rfl rfl (f.1 7 (by omega) (by omega) (by omega) (by omega) (by omega) (by omega) (by omega)) (f.1 8 (by omega) (by omega) (by omega) (by omega) (by omega) (by omega) (by omega)), b, by rw [f.2.1 12 (by omega) (by omega)]; exact e, e1, by rw [f.2.1 0 (by omega) (by omega)]; exact e2⟩
theorem hourM2 {N i d : Nat} (hN : 6000 ≤ N) {gI gM : Mem} (h : MR i d gI gM) : ∃ g2, X6_hourOf N gM = some (i32 0, g2) ∧ FM gM g2 ∧ g2.1 0 6 = gM.1 0 6 + i32 1 ∧ ∀ j, j < 6 → g2.1 5 j = fdW gM i (gM.1 5 j) (i32 j) (gM.1 0 6) := by
  obtain ⟨a, b, e, e1, e2⟩ := h
  obtain ⟨m1, s1, s2⟩ := hour_M hN a b e e1 e2
  exact ⟨m1, s1, FM_tr (FM_hr gM i d) (FM_SM s2), hrM_h gM i d s2, hrM_5 gM i d s2⟩
/-- the first number that is otherwise -/
def unF (g : Mem) (i s t : Nat) : Nat → Nat → Int32 → Int32 → Int32
  | _, 0, _, _ => -(i32 1)
  | x, n + 1, w, h => if g.1 13 (40 * s + x) = fdW g i w (i32 t) h then unF g i s t (x + 1) n (fdW g i w (i32 t) h) (h + i32 1) else i32 x
theorem unF_fr {g g' : Mem} (f : g'.1 7 = g.1 7) (h : g'.1 8 = g.1 8) (k : g'.1 13 = g.1 13) (i s t : Nat) : ∀ (n x : Nat) (w y : Int32), unF g' i s t x n w y = unF g i s t x n w y
  | 0, x, w, y => rfl
  | n + 1, x, w, y => by
    rw [unF, unF, fdW_fr f h, k, unF_fr f h k i s t n]
theorem ShS_SI {s m : Nat} {gI gM gI' : Mem} (h : ShS s m gI gM) (f : SI gI gI') : ShS s m gI' gM := ShS_fr (b := 42) h (Nat.le_refl 42) (FI_SI f) (FM_rfl gM)
set_option maxRecDepth 100000 in
theorem un_I {N b i s m t : Nat} (hN : 6000 ≤ N) (hb : 42 ≤ b) (hi : i < 6) {gM : Mem} (H : Int32) : ∀ (n x fu : Nat) (w : Int32) (gI : Mem), x + n = m → n < fu → ShS s m gI gM → TxI i gI gM → gI.2 b = some (4 + 5 * i) → gI.1 b 10 = H →
    ∃ gI', X1_firstOtherwise_L10 N b (34 + 2 * s) (i32 t) fu w (i32 x) gI = some (unF gM i s t x n w (H + i32 x), gI') ∧ SI gI gI'
  | 0, x, fu, w, gI, h1, h2, S0, hT, hl, hH => by
    obtain ⟨f, rfl⟩ : ∃ q, fu = q + 1 := ⟨fu - 1, by omega⟩
    obtain ⟨hs, hm, e1, e2, e3⟩ := S0
    exact ⟨gI, by simp -dsimp -implicitDefEqProofs (disch := omega) only [X1_firstOtherwise_L10, e1, unF, i32_lit, i32_add, i32_mul, i32_tn, i32_sub, le_t, le_f, lt_t, lt_f, eq_t, eq_f, eq_rfl, inR_t, ↓ob_x, obx_s, ↓bnd_s, ↓oT_x, oTx_s, ↓ite_x, itx_T, itx_F, ↓reduceIte, not_true_eq_false, not_false_eq_true, true_and, and_true, Nat.reduceAdd, Nat.reduceMul, Nat.reduceSub, Nat.reduceEqDiff, isB0, isB1, Int32.neg_neg, Nat.zero_add, Nat.add_zero, Nat.mul_zero, Nat.mul_one, Nat.zero_mul], SI_rfl gI⟩
  | n + 1, x, fu, w, gI, h1, h2, S0, hT, hl, hH => by
    obtain ⟨f, rfl⟩ : ∃ q, fu = q + 1 := ⟨fu - 1, by omega⟩
    obtain ⟨hs, hm, e1, e2, e3⟩ := id S0
    obtain ⟨g1, r1, r2⟩ := faded_I (b := b) hN hT hi hl w (i32 t) (H + i32 x)
    have S1 := ShS_SI S0 r2
    have e4 := S1.2.2.2.2 x (by omega)
    by_cases hc : gM.1 13 (40 * s + x) = fdW gM i w (i32 t) (H + i32 x)
    · obtain ⟨g2, s1, s2⟩ := un_I hN hb hi (t := t) H n (x + 1) f (fdW gM i w (i32 t) (H + i32 x)) g1 (by omega) (by omega) S1 (TxI_SI hT r2) (by rw [r2.2]; exact hl) (by rw [SI_hi r2 b (by omega)]; exact hH)
      refine ⟨g2, ?_, SI_tr r2 s2⟩
      rw [unF, if_pos hc, Int32.add_assoc, i32_add, ← s1]
      simp -dsimp -implicitDefEqProofs (disch := omega) only [X1_firstOtherwise_L10, e1, hH, r1, e4, hc, i32_lit, i32_add, i32_mul, i32_tn, i32_sub, le_t, le_f, lt_t, lt_f, eq_t, eq_f, eq_rfl, inR_t, ↓ob_x, obx_s, ↓bnd_s, ↓oT_x, oTx_s, ↓ite_x, itx_T, itx_F, ↓reduceIte, not_true_eq_false, not_false_eq_true, true_and, and_true, Nat.reduceAdd, Nat.reduceMul, Nat.reduceSub, Nat.reduceEqDiff, isB0, isB1, Int32.neg_neg, Nat.zero_add, Nat.add_zero, Nat.mul_zero, Nat.mul_one, Nat.zero_mul]
    · refine ⟨g1, ?_, r2⟩
      rw [unF, if_neg hc]
      simp -dsimp -implicitDefEqProofs (disch := omega) only [X1_firstOtherwise_L10, e1, hH, r1, e4, hc, i32_lit, i32_add, i32_mul, i32_tn, i32_sub, le_t, le_f, lt_t, lt_f, eq_t, eq_f, eq_rfl, inR_t, ↓ob_x, obx_s, ↓bnd_s, ↓oT_x, oTx_s, ↓ite_x, itx_T, itx_F, ↓reduceIte, not_true_eq_false, not_false_eq_true, true_and, and_true, Nat.reduceAdd, Nat.reduceMul, Nat.reduceSub, Nat.reduceEqDiff, isB0, isB1, Int32.neg_neg, Nat.zero_add, Nat.add_zero, Nat.mul_zero, Nat.mul_one, Nat.zero_mul]
theorem unlike_I {N b i s m t : Nat} (hN : 6000 ≤ N) (hb : 42 ≤ b) (hi : i < 6) (ht : t < 6) {gI gM : Mem} (S0 : ShS s m gI gM) (hT : TxI i gI gM) (hl : gI.2 b = some (4 + 5 * i)) :
    ∃ gI', X1_firstOtherwise N b (34 + 2 * s) (i32 t) gI = some (unF gM i s t 0 m (gI.1 (b + 1) t) (gI.1 b 10), gI') ∧ SI gI gI' := by
  have hm := S0.2.1
  obtain ⟨g1, r1, r2⟩ := un_I (t := t) hN hb hi (gI.1 b 10) m 0 N (gI.1 (b + 1) t) gI (by omega) (by omega) S0 hT hl rfl
  refine ⟨g1, ?_, r2⟩
  rw [show gI.1 b 10 + i32 0 = gI.1 b 10 from Int32.add_zero _] at r1
  rw [← r1]
  simp -dsimp -implicitDefEqProofs (disch := omega) only [X1_firstOtherwise, i32_lit, i32_add, i32_mul, i32_tn, i32_sub, le_t, le_f, lt_t, lt_f, eq_t, eq_f, eq_rfl, inR_t, ↓ob_x, obx_s, ↓bnd_s, ↓oT_x, oTx_s, ↓ite_x, itx_T, itx_F, ↓reduceIte, not_true_eq_false, not_false_eq_true, true_and, and_true, Nat.reduceAdd, Nat.reduceMul, Nat.reduceSub, Nat.reduceEqDiff, isB0, isB1, Int32.neg_neg, Nat.zero_add, Nat.add_zero, Nat.mul_zero, Nat.mul_one, Nat.zero_mul]
set_option maxRecDepth 100000 in
theorem un_M {N i d s m t : Nat} (hN : 6000 ≤ N) (hs : s < 4) (hm : m ≤ 40) (ht : t < 6) {gI g0 m0 : Mem} (k : KP 67 g0 m0) : ∀ (n x fu : Nat) (gM : Mem), x + n = m → n + 1 < fu → MR i d gI gM → gM.1 12 s = i32 m → FM m0 gM →
    ∃ g', X6_unlike_L9 N (i32 s) (i32 t) fu (-(i32 1)) (i32 x) gM = some (unF gM i s t x n (gM.1 5 t) (gM.1 0 6), g') ∧ EqM g0 g'
  | 0, x, fu, gM, h1, h2, h, e, f => by
    obtain ⟨fu, rfl⟩ : ∃ q, fu = q + 1 := ⟨fu - 1, by omega⟩
    obtain ⟨m3, l1, l2⟩ := laid hN k f
    exact ⟨m3, by simp -dsimp -implicitDefEqProofs (disch := omega) only [X6_unlike_L9, e, l1, unF, i32_lit, i32_add, i32_mul, i32_tn, i32_sub, le_t, le_f, lt_t, lt_f, eq_t, eq_f, eq_rfl, inR_t, ↓ob_x, obx_s, ↓bnd_s, ↓oT_x, oTx_s, ↓ite_x, itx_T, itx_F, ↓reduceIte, not_true_eq_false, not_false_eq_true, true_and, and_true, Nat.reduceAdd, Nat.reduceMul, Nat.reduceSub, Nat.reduceEqDiff, isB0, isB1, Int32.neg_neg, Nat.zero_add, Nat.add_zero, Nat.mul_zero, Nat.mul_one, Nat.zero_mul], l2⟩
  | n + 1, x, fu, gM, h1, h2, h, e, f => by
    obtain ⟨fu, rfl⟩ : ∃ q, fu = q + 1 := ⟨fu - 1, by omega⟩
    obtain ⟨g1, r1, r2, r3, r4⟩ := hourM2 hN h
    have e5 := r4 t ht
    have c13 : g1.1 13 = gM.1 13 := r2.1 13 (by omega) (by omega) (by omega) (by omega) (by omega) (by omega)
    have c12 : g1.1 12 s = i32 m := by rw [r2.1 12 (by omega) (by omega) (by omega) (by omega) (by omega) (by omega)]; exact e
    have c7 : g1.1 7 = gM.1 7 := r2.1 7 (by omega) (by omega) (by omega) (by omega) (by omega) (by omega)
    have c8 : g1.1 8 = gM.1 8 := r2.1 8 (by omega) (by omega) (by omega) (by omega) (by omega) (by omega)
    by_cases hc : gM.1 13 (40 * s + x) = fdW gM i (gM.1 5 t) (i32 t) (gM.1 0 6)
    · obtain ⟨g2, s1, s2⟩ := un_M hN hs hm ht k n (x + 1) fu g1 (by omega) (by omega) (MR_FM h r2) c12 (FM_tr f r2)
      rw [unF_fr c7 c8 c13, e5, r3] at s1
      refine ⟨g2, ?_, s2⟩
      rw [unF, if_pos hc, ← s1]
      simp -dsimp -implicitDefEqProofs (disch := omega) only [X6_unlike_L9, e, r1, c13, e5, hc, i32_lit, i32_add, i32_mul, i32_tn, i32_sub, le_t, le_f, lt_t, lt_f, eq_t, eq_f, eq_rfl, inR_t, ↓ob_x, obx_s, ↓bnd_s, ↓oT_x, oTx_s, ↓ite_x, itx_T, itx_F, ↓reduceIte, not_true_eq_false, not_false_eq_true, true_and, and_true, Nat.reduceAdd, Nat.reduceMul, Nat.reduceSub, Nat.reduceEqDiff, isB0, isB1, Int32.neg_neg, Nat.zero_add, Nat.add_zero, Nat.mul_zero, Nat.mul_one, Nat.zero_mul]
    · obtain ⟨m3, l1, l2⟩ := laid hN k (FM_tr f r2)
      obtain ⟨fu, rfl⟩ : ∃ q, fu = q + 1 := ⟨fu - 1, by omega⟩
      have n1 := ne_m (x := x) (v := 1) (by omega)
      refine ⟨m3, ?_, l2⟩
      rw [unF, if_neg hc]
      by_cases hx : x + 1 = m
      · simp -dsimp -implicitDefEqProofs (disch := omega) only [X6_unlike_L9, e, r1, c13, c12, e5, hc, n1, hx, l1, i32_lit, i32_add, i32_mul, i32_tn, i32_sub, le_t, le_f, lt_t, lt_f, eq_t, eq_f, eq_rfl, inR_t, ↓ob_x, obx_s, ↓bnd_s, ↓oT_x, oTx_s, ↓ite_x, itx_T, itx_F, ↓reduceIte, not_true_eq_false, not_false_eq_true, true_and, and_true, Nat.reduceAdd, Nat.reduceMul, Nat.reduceSub, Nat.reduceEqDiff, isB0, isB1, Int32.neg_neg, Nat.zero_add, Nat.add_zero, Nat.mul_zero, Nat.mul_one, Nat.zero_mul]
      · simp -dsimp -implicitDefEqProofs (disch := omega) only [X6_unlike_L9, e, r1, c13, c12, e5, hc, n1, l1, i32_lit, i32_add, i32_mul, i32_tn, i32_sub, le_t, le_f, lt_t, lt_f, eq_t, eq_f, eq_rfl, inR_t, ↓ob_x, obx_s, ↓bnd_s, ↓oT_x, oTx_s, ↓ite_x, itx_T, itx_F, ↓reduceIte, not_true_eq_false, not_false_eq_true, true_and, and_true, Nat.reduceAdd, Nat.reduceMul, Nat.reduceSub, Nat.reduceEqDiff, isB0, isB1, Int32.neg_neg, Nat.zero_add, Nat.add_zero, Nat.mul_zero, Nat.mul_one, Nat.zero_mul]
theorem unlike_M {N i d s m t : Nat} (hN : 6000 ≤ N) (hs : s < 4) (hm : m ≤ 40) (ht : t < 6) {gI gM : Mem} (h : MR i d gI gM) (e : gM.1 12 s = i32 m) :
    ∃ g', X6_unlike N (i32 s) (i32 t) gM = some (unF gM i s t 0 m (gM.1 5 t) (gM.1 0 6), g') ∧ EqM gM g' := by
  obtain ⟨m1, k1, k2⟩ := keeps_M hN gM
  have c0 : m1.1 0 = gM.1 0 := k2.1 0 (by omega)
  have hR : MR i d gI m1 := ⟨TxI_fr h.1 rfl rfl (k2.1 7 (by omega)) (k2.1 8 (by omega)), h.2.1, by rw [c0]; exact h.2.2.1, h.2.2.2.1, by rw [c0]; exact h.2.2.2.2⟩
  obtain ⟨g', r1, r2⟩ := un_M hN hs hm ht k2 m 0 N m1 (by omega) (by omega) hR (by rw [k2.1 12 (by omega)]; exact e) (FM_rfl m1)
  rw [unF_fr (k2.1 7 (by omega)) (k2.1 8 (by omega)) (k2.1 13 (by omega)), c0, k2.1 5 (by omega)] at r1
  exact ⟨g', by simp -dsimp -implicitDefEqProofs (disch := omega) only [X6_unlike, k1, r1, i32_lit, i32_add, i32_mul, i32_tn, i32_sub, le_t, le_f, lt_t, lt_f, eq_t, eq_f, eq_rfl, inR_t, ↓ob_x, obx_s, ↓bnd_s, ↓oT_x, oTx_s, ↓ite_x, itx_T, itx_F, ↓reduceIte, not_true_eq_false, not_false_eq_true, true_and, and_true, Nat.reduceAdd, Nat.reduceMul, Nat.reduceSub, Nat.reduceEqDiff, isB0, isB1, Int32.neg_neg, Nat.zero_add, Nat.add_zero, Nat.mul_zero, Nat.mul_one, Nat.zero_mul], r2⟩
theorem RR_MR {d i c : Nat} {gI gM : Mem} (h : RR d i c gI gM) : MR i d gI gM := Sc_p h.1.1
set_option maxRecDepth 100000 in
theorem ref_hours {N d i c : Nat} {gI gM : Mem} (h : RR d i c gI gM) (a1 a2 : Int32) :
    (∃ v, 0 < v ∧ v < 100 ∧ X5_refusalOfHours N a1 a2 gI = some (-(i32 v), gI) ∧ X6_toldWrong N a1 a2 gM = some (-(i32 v), gM)) ∨
    (∃ s m t, a1 = i32 s ∧ a2 = i32 t ∧ t < 6 ∧ m ≤ 20 ∧ ShS s m gI gM ∧ X5_refusalOfHours N a1 a2 gI = some (i32 0, gI) ∧ X6_toldWrong N a1 a2 gM = some (i32 0, gM)) := by
  rcases ref_sheet (N := N) (M := 20) h.2.2.2.1 (by omega) a1 with ⟨v, hv, hv2, r1, r2⟩ | ⟨s, m, rfl, hm, S0, _, _, r1, r2⟩
  · have n0 := m_ne (x := 0) (v := v) (by omega)
    exact Or.inl ⟨v, hv, hv2, by simp -dsimp -implicitDefEqProofs (disch := omega) only [X5_refusalOfHours, r1, n0, i32_lit, i32_add, i32_mul, i32_tn, i32_sub, le_t, le_f, lt_t, lt_f, eq_t, eq_f, eq_rfl, inR_t, ↓ob_x, obx_s, ↓bnd_s, ↓oT_x, oTx_s, ↓ite_x, itx_T, itx_F, ↓reduceIte, not_true_eq_false, not_false_eq_true, true_and, and_true, Nat.reduceAdd, Nat.reduceMul, Nat.reduceSub, Nat.reduceEqDiff, isB0, isB1, Int32.neg_neg, Nat.zero_add, Nat.add_zero, Nat.mul_zero, Nat.mul_one, Nat.zero_mul], by simp -dsimp -implicitDefEqProofs (disch := omega) only [X6_toldWrong, r2, n0, i32_lit, i32_add, i32_mul, i32_tn, i32_sub, le_t, le_f, lt_t, lt_f, eq_t, eq_f, eq_rfl, inR_t, ↓ob_x, obx_s, ↓bnd_s, ↓oT_x, oTx_s, ↓ite_x, itx_T, itx_F, ↓reduceIte, not_true_eq_false, not_false_eq_true, true_and, and_true, Nat.reduceAdd, Nat.reduceMul, Nat.reduceSub, Nat.reduceEqDiff, isB0, isB1, Int32.neg_neg, Nat.zero_add, Nat.add_zero, Nat.mul_zero, Nat.mul_one, Nat.zero_mul]⟩
  · rcases rg a2 6 (by omega) with ⟨t, ht, rfl⟩ | o
    · exact Or.inr ⟨s, m, t, rfl, rfl, ht, hm, S0, by simp -dsimp -implicitDefEqProofs (disch := omega) only [X5_refusalOfHours, r1, isS_t, i32_lit, i32_add, i32_mul, i32_tn, i32_sub, le_t, le_f, lt_t, lt_f, eq_t, eq_f, eq_rfl, inR_t, ↓ob_x, obx_s, ↓bnd_s, ↓oT_x, oTx_s, ↓ite_x, itx_T, itx_F, ↓reduceIte, not_true_eq_false, not_false_eq_true, true_and, and_true, Nat.reduceAdd, Nat.reduceMul, Nat.reduceSub, Nat.reduceEqDiff, isB0, isB1, Int32.neg_neg, Nat.zero_add, Nat.add_zero, Nat.mul_zero, Nat.mul_one, Nat.zero_mul], by simp -dsimp -implicitDefEqProofs (disch := omega) only [X6_toldWrong, r2, mS_t, i32_lit, i32_add, i32_mul, i32_tn, i32_sub, le_t, le_f, lt_t, lt_f, eq_t, eq_f, eq_rfl, inR_t, ↓ob_x, obx_s, ↓bnd_s, ↓oT_x, oTx_s, ↓ite_x, itx_T, itx_F, ↓reduceIte, not_true_eq_false, not_false_eq_true, true_and, and_true, Nat.reduceAdd, Nat.reduceMul, Nat.reduceSub, Nat.reduceEqDiff, isB0, isB1, Int32.neg_neg, Nat.zero_add, Nat.add_zero, Nat.mul_zero, Nat.mul_one, Nat.zero_mul]⟩
    · exact Or.inl ⟨5, by omega, by omega, by simp -dsimp -implicitDefEqProofs (disch := omega) only [X5_refusalOfHours, r1, isS_f gI o, i32_lit, i32_add, i32_mul, i32_tn, i32_sub, le_t, le_f, lt_t, lt_f, eq_t, eq_f, eq_rfl, inR_t, ↓ob_x, obx_s, ↓bnd_s, ↓oT_x, oTx_s, ↓ite_x, itx_T, itx_F, ↓reduceIte, not_true_eq_false, not_false_eq_true, true_and, and_true, Nat.reduceAdd, Nat.reduceMul, Nat.reduceSub, Nat.reduceEqDiff, isB0, isB1, Int32.neg_neg, Nat.zero_add, Nat.add_zero, Nat.mul_zero, Nat.mul_one, Nat.zero_mul], by simp -dsimp -implicitDefEqProofs (disch := omega) only [X6_toldWrong, r2, mS_f gM o, i32_lit, i32_add, i32_mul, i32_tn, i32_sub, le_t, le_f, lt_t, lt_f, eq_t, eq_f, eq_rfl, inR_t, ↓ob_x, obx_s, ↓bnd_s, ↓oT_x, oTx_s, ↓ite_x, itx_T, itx_F, ↓reduceIte, not_true_eq_false, not_false_eq_true, true_and, and_true, Nat.reduceAdd, Nat.reduceMul, Nat.reduceSub, Nat.reduceEqDiff, isB0, isB1, Int32.neg_neg, Nat.zero_add, Nat.add_zero, Nat.mul_zero, Nat.mul_one, Nat.zero_mul]⟩
set_option maxRecDepth 100000 in
theorem judge_c {N d i c s m t : Nat} (hN : 6000 ≤ N) {gI gM : Mem} (hR : RR d i c gI gM) (S0 : ShS s m gI gM) (ht : t < 6) :
    ∃ r gI' gM', X1_firstOtherwise N 42 (34 + 2 * s) (i32 t) gI = some (r, gI') ∧ X6_unlike N (i32 s) (i32 t) gM = some (r, gM') ∧ RR d i c gI' gM' ∧ ShS s m gI' gM' := by
  have hS := hR.1.1
  obtain ⟨g1, r1, r2⟩ := unlike_I (N := N) (b := 42) hN (Nat.le_refl 42) hS.1.2.2 ht S0 (RR_MR hR).1 hS.2.2.2.2.2.2.2.2.2.2.2.2.1
  obtain ⟨m1, s1, s2⟩ := unlike_M hN S0.1 S0.2.1 ht (RR_MR hR) S0.2.2.2.1
  rw [hS.2.1 t ht, hS.2.2.2.2.2.2.2.2.2.2.2.1] at r1
  exact ⟨_, g1, m1, r1, s1, RR_th hR (FI_SI r2) s2, ShS_E (b := 52) S0 (by omega) (FI_SI r2) s2⟩
set_option maxRecDepth 100000 in
theorem e_judge {N : Nat} (hN : 6000 ≤ N) {gI gM : Mem} (h : R gI gM) (a1 a2 : Int32) : EQ (X5_judge N a1 a2 gI) (X6_judge N a1 a2 gM) := by
  obtain ⟨d, i, c, hR⟩ := h
  rcases ref_hours (N := N) hR a1 a2 with ⟨v, hv, hv2, r1, r2⟩ | ⟨s, m, t, rfl, rfl, ht, hm, S0, r1, r2⟩
  · have n0 := m_ne (x := 0) (v := v) (by omega)
    exact ⟨-(i32 v), gI, gM, by simp -dsimp -implicitDefEqProofs (disch := omega) only [X5_judge, r1, n0, i32_lit, i32_add, i32_mul, i32_tn, i32_sub, le_t, le_f, lt_t, lt_f, eq_t, eq_f, eq_rfl, inR_t, ↓ob_x, obx_s, ↓bnd_s, ↓oT_x, oTx_s, ↓ite_x, itx_T, itx_F, ↓reduceIte, not_true_eq_false, not_false_eq_true, true_and, and_true, Nat.reduceAdd, Nat.reduceMul, Nat.reduceSub, Nat.reduceEqDiff, isB0, isB1, Int32.neg_neg, Nat.zero_add, Nat.add_zero, Nat.mul_zero, Nat.mul_one, Nat.zero_mul], by simp -dsimp -implicitDefEqProofs (disch := omega) only [X6_judge, r2, n0, i32_lit, i32_add, i32_mul, i32_tn, i32_sub, le_t, le_f, lt_t, lt_f, eq_t, eq_f, eq_rfl, inR_t, ↓ob_x, obx_s, ↓bnd_s, ↓oT_x, oTx_s, ↓ite_x, itx_T, itx_F, ↓reduceIte, not_true_eq_false, not_false_eq_true, true_and, and_true, Nat.reduceAdd, Nat.reduceMul, Nat.reduceSub, Nat.reduceEqDiff, isB0, isB1, Int32.neg_neg, Nat.zero_add, Nat.add_zero, Nat.mul_zero, Nat.mul_one, Nat.zero_mul], d, i, c, hR⟩
  · obtain ⟨r, g1, m1, u1, u2, u3, _⟩ := judge_c hN hR S0 ht
    have hs := S0.1
    exact ⟨r, g1, m1, by simp -dsimp -implicitDefEqProofs (disch := omega) only [X5_judge, r1, u1, i32_lit, i32_add, i32_mul, i32_tn, i32_sub, le_t, le_f, lt_t, lt_f, eq_t, eq_f, eq_rfl, inR_t, ↓ob_x, obx_s, ↓bnd_s, ↓oT_x, oTx_s, ↓ite_x, itx_T, itx_F, ↓reduceIte, not_true_eq_false, not_false_eq_true, true_and, and_true, Nat.reduceAdd, Nat.reduceMul, Nat.reduceSub, Nat.reduceEqDiff, isB0, isB1, Int32.neg_neg, Nat.zero_add, Nat.add_zero, Nat.mul_zero, Nat.mul_one, Nat.zero_mul], by simp -dsimp -implicitDefEqProofs (disch := omega) only [X6_judge, r2, u2, i32_lit, i32_add, i32_mul, i32_tn, i32_sub, le_t, le_f, lt_t, lt_f, eq_t, eq_f, eq_rfl, inR_t, ↓ob_x, obx_s, ↓bnd_s, ↓oT_x, oTx_s, ↓ite_x, itx_T, itx_F, ↓reduceIte, not_true_eq_false, not_false_eq_true, true_and, and_true, Nat.reduceAdd, Nat.reduceMul, Nat.reduceSub, Nat.reduceEqDiff, isB0, isB1, Int32.neg_neg, Nat.zero_add, Nat.add_zero, Nat.mul_zero, Nat.mul_one, Nat.zero_mul], d, i, c, u3⟩
set_option maxRecDepth 100000 in
theorem whose_l {N d i c s m : Nat} (hN : 6000 ≤ N) : ∀ (n j fu fM : Nat) (x : Int32) (gI gM : Mem), j + n = 6 → n < fu → n < fM → RR d i c gI gM → ShS s m gI gM →
    ∃ r gI' gM', X5_whose_L19 N (i32 s) fu x (i32 j) gI = some (r, gI') ∧ X6_whose_L19 N (i32 s) fM x (i32 j) gM = some (r, gM') ∧ RR d i c gI' gM'
  | 0, j, fu, fM, x, gI, gM, h1, h2, h3, hR, S0 => by
    obtain ⟨fu, rfl⟩ : ∃ q, fu = q + 1 := ⟨fu - 1, by omega⟩
    obtain ⟨fM, rfl⟩ : ∃ q, fM = q + 1 := ⟨fM - 1, by omega⟩
    exact ⟨x, gI, gM, by simp -dsimp -implicitDefEqProofs (disch := omega) only [X5_whose_L19, i32_lit, i32_add, i32_mul, i32_tn, i32_sub, le_t, le_f, lt_t, lt_f, eq_t, eq_f, eq_rfl, inR_t, ↓ob_x, obx_s, ↓bnd_s, ↓oT_x, oTx_s, ↓ite_x, itx_T, itx_F, ↓reduceIte, not_true_eq_false, not_false_eq_true, true_and, and_true, Nat.reduceAdd, Nat.reduceMul, Nat.reduceSub, Nat.reduceEqDiff, isB0, isB1, Int32.neg_neg, Nat.zero_add, Nat.add_zero, Nat.mul_zero, Nat.mul_one, Nat.zero_mul], by simp -dsimp -implicitDefEqProofs (disch := omega) only [X6_whose_L19, i32_lit, i32_add, i32_mul, i32_tn, i32_sub, le_t, le_f, lt_t, lt_f, eq_t, eq_f, eq_rfl, inR_t, ↓ob_x, obx_s, ↓bnd_s, ↓oT_x, oTx_s, ↓ite_x, itx_T, itx_F, ↓reduceIte, not_true_eq_false, not_false_eq_true, true_and, and_true, Nat.reduceAdd, Nat.reduceMul, Nat.reduceSub, Nat.reduceEqDiff, isB0, isB1, Int32.neg_neg, Nat.zero_add, Nat.add_zero, Nat.mul_zero, Nat.mul_one, Nat.zero_mul], hR⟩
  | n + 1, j, fu, fM, x, gI, gM, h1, h2, h3, hR, S0 => by
    obtain ⟨fu, rfl⟩ : ∃ q, fu = q + 1 := ⟨fu - 1, by omega⟩
    obtain ⟨fM, rfl⟩ : ∃ q, fM = q + 1 := ⟨fM - 1, by omega⟩
    have hs := S0.1
    obtain ⟨r, g1, m1, u1, u2, u3, u4⟩ := judge_c (t := j) hN hR S0 (by omega)
    by_cases hc : r = -(i32 1)
    · obtain ⟨r', g2, m2, v1, v2, v3⟩ := whose_l hN n (j + 1) fu fM (x ||| (i32 1 <<< (i32 j &&& i32 31))) g1 m1 (by omega) (by omega) (by omega) u3 u4
      exact ⟨r', g2, m2, by simp -dsimp -implicitDefEqProofs (disch := omega) only [X5_whose_L19, u1, hc, v1, i32_lit, i32_add, i32_mul, i32_tn, i32_sub, le_t, le_f, lt_t, lt_f, eq_t, eq_f, eq_rfl, inR_t, ↓ob_x, obx_s, ↓bnd_s, ↓oT_x, oTx_s, ↓ite_x, itx_T, itx_F, ↓reduceIte, not_true_eq_false, not_false_eq_true, true_and, and_true, Nat.reduceAdd, Nat.reduceMul, Nat.reduceSub, Nat.reduceEqDiff, isB0, isB1, Int32.neg_neg, Nat.zero_add, Nat.add_zero, Nat.mul_zero, Nat.mul_one, Nat.zero_mul], by simp -dsimp -implicitDefEqProofs (disch := omega) only [X6_whose_L19, u2, hc, v2, i32_lit, i32_add, i32_mul, i32_tn, i32_sub, le_t, le_f, lt_t, lt_f, eq_t, eq_f, eq_rfl, inR_t, ↓ob_x, obx_s, ↓bnd_s, ↓oT_x, oTx_s, ↓ite_x, itx_T, itx_F, ↓reduceIte, not_true_eq_false, not_false_eq_true, true_and, and_true, Nat.reduceAdd, Nat.reduceMul, Nat.reduceSub, Nat.reduceEqDiff, isB0, isB1, Int32.neg_neg, Nat.zero_add, Nat.add_zero, Nat.mul_zero, Nat.mul_one, Nat.zero_mul], v3⟩
    · obtain ⟨r', g2, m2, v1, v2, v3⟩ := whose_l hN n (j + 1) fu fM x g1 m1 (by omega) (by omega) (by omega) u3 u4
      exact ⟨r', g2, m2, by simp -dsimp -implicitDefEqProofs (disch := omega) only [X5_whose_L19, u1, hc, v1, i32_lit, i32_add, i32_mul, i32_tn, i32_sub, le_t, le_f, lt_t, lt_f, eq_t, eq_f, eq_rfl, inR_t, ↓ob_x, obx_s, ↓bnd_s, ↓oT_x, oTx_s, ↓ite_x, itx_T, itx_F, ↓reduceIte, not_true_eq_false, not_false_eq_true, true_and, and_true, Nat.reduceAdd, Nat.reduceMul, Nat.reduceSub, Nat.reduceEqDiff, isB0, isB1, Int32.neg_neg, Nat.zero_add, Nat.add_zero, Nat.mul_zero, Nat.mul_one, Nat.zero_mul], by simp -dsimp -implicitDefEqProofs (disch := omega) only [X6_whose_L19, u2, hc, v2, b_or0, i32_lit, i32_add, i32_mul, i32_tn, i32_sub, le_t, le_f, lt_t, lt_f, eq_t, eq_f, eq_rfl, inR_t, ↓ob_x, obx_s, ↓bnd_s, ↓oT_x, oTx_s, ↓ite_x, itx_T, itx_F, ↓reduceIte, not_true_eq_false, not_false_eq_true, true_and, and_true, Nat.reduceAdd, Nat.reduceMul, Nat.reduceSub, Nat.reduceEqDiff, isB0, isB1, Int32.neg_neg, Nat.zero_add, Nat.add_zero, Nat.mul_zero, Nat.mul_one, Nat.zero_mul], v3⟩
set_option maxRecDepth 100000 in
theorem e_whose {N : Nat} (hN : 6000 ≤ N) {gI gM : Mem} (h : R gI gM) (a1 : Int32) : EQ (X5_whose N a1 gI) (X6_whose N a1 gM) := by
  obtain ⟨d, i, c, hR⟩ := h
  rcases ref_sheet (N := N) (M := 20) hR.2.2.2.1 (by omega) a1 with ⟨v, hv, hv2, r1, r2⟩ | ⟨s, m, rfl, hm, S0, _, _, r1, r2⟩
  · have n0 := m_ne (x := 0) (v := v) (by omega)
    exact ⟨-(i32 v), gI, gM, by simp -dsimp -implicitDefEqProofs (disch := omega) only [X5_whose, r1, n0, i32_lit, i32_add, i32_mul, i32_tn, i32_sub, le_t, le_f, lt_t, lt_f, eq_t, eq_f, eq_rfl, inR_t, ↓ob_x, obx_s, ↓bnd_s, ↓oT_x, oTx_s, ↓ite_x, itx_T, itx_F, ↓reduceIte, not_true_eq_false, not_false_eq_true, true_and, and_true, Nat.reduceAdd, Nat.reduceMul, Nat.reduceSub, Nat.reduceEqDiff, isB0, isB1, Int32.neg_neg, Nat.zero_add, Nat.add_zero, Nat.mul_zero, Nat.mul_one, Nat.zero_mul], by simp -dsimp -implicitDefEqProofs (disch := omega) only [X6_whose, r2, n0, i32_lit, i32_add, i32_mul, i32_tn, i32_sub, le_t, le_f, lt_t, lt_f, eq_t, eq_f, eq_rfl, inR_t, ↓ob_x, obx_s, ↓bnd_s, ↓oT_x, oTx_s, ↓ite_x, itx_T, itx_F, ↓reduceIte, not_true_eq_false, not_false_eq_true, true_and, and_true, Nat.reduceAdd, Nat.reduceMul, Nat.reduceSub, Nat.reduceEqDiff, isB0, isB1, Int32.neg_neg, Nat.zero_add, Nat.add_zero, Nat.mul_zero, Nat.mul_one, Nat.zero_mul], d, i, c, hR⟩
  · obtain ⟨r, g1, m1, u1, u2, u3⟩ := whose_l hN 6 0 N N (i32 0) gI gM (by omega) (by omega) (by omega) hR S0
    exact ⟨r, g1, m1, by simp -dsimp -implicitDefEqProofs (disch := omega) only [X5_whose, r1, u1, i32_lit, i32_add, i32_mul, i32_tn, i32_sub, le_t, le_f, lt_t, lt_f, eq_t, eq_f, eq_rfl, inR_t, ↓ob_x, obx_s, ↓bnd_s, ↓oT_x, oTx_s, ↓ite_x, itx_T, itx_F, ↓reduceIte, not_true_eq_false, not_false_eq_true, true_and, and_true, Nat.reduceAdd, Nat.reduceMul, Nat.reduceSub, Nat.reduceEqDiff, isB0, isB1, Int32.neg_neg, Nat.zero_add, Nat.add_zero, Nat.mul_zero, Nat.mul_one, Nat.zero_mul], by simp -dsimp -implicitDefEqProofs (disch := omega) only [X6_whose, r2, u2, i32_lit, i32_add, i32_mul, i32_tn, i32_sub, le_t, le_f, lt_t, lt_f, eq_t, eq_f, eq_rfl, inR_t, ↓ob_x, obx_s, ↓bnd_s, ↓oT_x, oTx_s, ↓ite_x, itx_T, itx_F, ↓reduceIte, not_true_eq_false, not_false_eq_true, true_and, and_true, Nat.reduceAdd, Nat.reduceMul, Nat.reduceSub, Nat.reduceEqDiff, isB0, isB1, Int32.neg_neg, Nat.zero_add, Nat.add_zero, Nat.mul_zero, Nat.mul_one, Nat.zero_mul], d, i, c, u3⟩
