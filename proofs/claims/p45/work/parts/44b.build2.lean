theorem s0_ck (sa : SA) (k w : Nat) (hw : w < 4) : s0S sa (4 + w) k = ckN sa k w := by
  unfold s0S
  rw [if_neg (by omega), if_neg (by omega), if_neg (by omega), if_neg (by omega), if_pos (by omega), Nat.add_sub_cancel_left]
set_option maxRecDepth 100000 in
theorem bck {sa : SA} {P : Nat → Nat → Prop} (N : Nat) {k w : Nat} (hk : k < 12) (hw : w < 4) (g : Mem) (h : BI sa P 0 g) (P' : Nat → Nat → Prop) (hP : ∀ c' j', vaN (mnN sa) c' j' → P' c' j' → P c' j' ∨ (c' = 4 + w ∧ j' = k)) :
    ∃ r g', X5_cask N (i32 k) (i32 w) (i32 (ckN sa k w)) g = some (r, g') ∧ BI sa P' 0 g' ∧ BF g g' := by
  have b := BI_st h (c := 4 + w) (j := k) (by unfold vaN; omega) (by omega) hP
  rw [s0_ck sa k w hw] at b
  have n := s0_LB sa (4 + w) k
  rw [s0_ck sa k w hw] at n
  rcases (by omega : w = 0 ∨ w = 1 ∨ w = 2 ∨ w = 3) with rfl | rfl | rfl | rfl
  · have n' : ckN sa k 0 ≤ 5 := n
    exact ⟨g.1 44 k, stI g 44 k (i32 (ckN sa k 0)), by simp -dsimp -implicitDefEqProofs (disch := omega) only [X5_cask, X1_caskRow, isK_t, isW_t, kd44, ln44, fCM0, i32_lit, i32_add, i32_mul, i32_tn, i32_sub, le_t, le_f, lt_t, lt_f, eq_t, eq_f, eq_rfl, inR_t, ↓ob_x, obx_s, ↓bnd_s, ↓oT_x, oTx_s, ↓ite_x, itx_T, itx_F, ↓reduceIte, not_true_eq_false, not_false_eq_true, true_and, and_true, Nat.reduceAdd, Nat.reduceMul, Nat.reduceSub, Nat.reduceEqDiff, isB0, isB1, Int32.neg_neg, Nat.zero_add, Nat.add_zero, Nat.mul_zero, Nat.mul_one, Nat.zero_mul], b, BF_st _ _ _ _ (by decide)⟩
  · have n' : ckN sa k 1 ≤ 99 := n
    exact ⟨g.1 45 k, stI g 45 k (i32 (ckN sa k 1)), by simp -dsimp -implicitDefEqProofs (disch := omega) only [X5_cask, X1_caskRow, isK_t, isW_t, kd45, ln45, fCM1, i32_lit, i32_add, i32_mul, i32_tn, i32_sub, le_t, le_f, lt_t, lt_f, eq_t, eq_f, eq_rfl, inR_t, ↓ob_x, obx_s, ↓bnd_s, ↓oT_x, oTx_s, ↓ite_x, itx_T, itx_F, ↓reduceIte, not_true_eq_false, not_false_eq_true, true_and, and_true, Nat.reduceAdd, Nat.reduceMul, Nat.reduceSub, Nat.reduceEqDiff, isB0, isB1, Int32.neg_neg, Nat.zero_add, Nat.add_zero, Nat.mul_zero, Nat.mul_one, Nat.zero_mul], b, BF_st _ _ _ _ (by decide)⟩
  · have n' : ckN sa k 2 ≤ 99 := n
    exact ⟨g.1 46 k, stI g 46 k (i32 (ckN sa k 2)), by simp -dsimp -implicitDefEqProofs (disch := omega) only [X5_cask, X1_caskRow, isK_t, isW_t, kd46, ln46, fCM2, i32_lit, i32_add, i32_mul, i32_tn, i32_sub, le_t, le_f, lt_t, lt_f, eq_t, eq_f, eq_rfl, inR_t, ↓ob_x, obx_s, ↓bnd_s, ↓oT_x, oTx_s, ↓ite_x, itx_T, itx_F, ↓reduceIte, not_true_eq_false, not_false_eq_true, true_and, and_true, Nat.reduceAdd, Nat.reduceMul, Nat.reduceSub, Nat.reduceEqDiff, isB0, isB1, Int32.neg_neg, Nat.zero_add, Nat.add_zero, Nat.mul_zero, Nat.mul_one, Nat.zero_mul], b, BF_st _ _ _ _ (by decide)⟩
  · have n' : ckN sa k 3 ≤ 2 := n
    exact ⟨g.1 47 k, stI g 47 k (i32 (ckN sa k 3)), by simp -dsimp -implicitDefEqProofs (disch := omega) only [X5_cask, X1_caskRow, isK_t, isW_t, kd47, ln47, fCM3, i32_lit, i32_add, i32_mul, i32_tn, i32_sub, le_t, le_f, lt_t, lt_f, eq_t, eq_f, eq_rfl, inR_t, ↓ob_x, obx_s, ↓bnd_s, ↓oT_x, oTx_s, ↓ite_x, itx_T, itx_F, ↓reduceIte, not_true_eq_false, not_false_eq_true, true_and, and_true, Nat.reduceAdd, Nat.reduceMul, Nat.reduceSub, Nat.reduceEqDiff, isB0, isB1, Int32.neg_neg, Nat.zero_add, Nat.add_zero, Nat.mul_zero, Nat.mul_one, Nat.zero_mul], b, BF_st _ _ _ _ (by decide)⟩
set_option maxRecDepth 100000 in
theorem b46w {sa : SA} (hL : sa.2.2.1 ≤ 260) (N : Nat) {k : Nat} (hk : k < 12) : ∀ (n w f : Nat) (g : Mem), w + n = 4 → BI sa (fun c j => 8 ≤ c ∨ (4 ≤ c ∧ (j < k ∨ (j = k ∧ c - 4 < w)))) 0 g →
    ∃ g', L_buildA_G46 N sa (f + n) 1 (i32 k) (i32 w) g = L_buildA_G46 N sa f 1 (i32 k) (i32 4) g' ∧ BI sa (fun c j => 8 ≤ c ∨ (4 ≤ c ∧ j < k + 1)) 0 g' ∧ BF g g' := by
  intro n
  induction n with
  | zero =>
    intro w f g h1 h
    have : w = 4 := by omega
    subst this
    exact ⟨g, rfl, ⟨fun c j hv hp => h.1 c j hv (by unfold vaN at hv; omega), h.2⟩, BF_rfl g⟩
  | succ n ih =>
    intro w f g h1 h
    obtain ⟨r, g1, e1, b1, f1⟩ := bck N hk (show w < 4 by omega) g h (fun c j => 8 ≤ c ∨ (4 ≤ c ∧ (j < k ∨ (j = k ∧ c - 4 < w + 1)))) (fun c' j' hv hp => by omega)
    obtain ⟨g2, e2, b2, f2⟩ := ih (w + 1) f g1 (by omega) b1
    refine ⟨g2, ?_, b2, BF_tr f1 f2⟩
    have c := ck_e hL N k w hk (by omega) g
    rw [← e2]
    show L_buildA_G46 N sa ((f + n) + 1) 1 (i32 k) (i32 w) g = _
    simp -dsimp -implicitDefEqProofs (disch := omega) only [L_buildA_G46.eq_3, c, e1, i32_lit, i32_add, i32_mul, i32_tn, i32_sub, le_t, le_f, lt_t, lt_f, eq_t, eq_f, eq_rfl, inR_t, ↓ob_x, obx_s, ↓bnd_s, ↓oT_x, oTx_s, ↓ite_x, itx_T, itx_F, ↓reduceIte, not_true_eq_false, not_false_eq_true, true_and, and_true, Nat.reduceAdd, Nat.reduceMul, Nat.reduceSub, Nat.reduceEqDiff, isB0, isB1, Int32.neg_neg, Nat.zero_add, Nat.add_zero, Nat.mul_zero, Nat.mul_one, Nat.zero_mul]
set_option maxRecDepth 100000 in
theorem b46 {sa : SA} (hL : sa.2.2.1 ≤ 260) {N : Nat} (hN : 6000 ≤ N) : ∀ (n k f : Nat) (x : Int32) (g : Mem), k + n = 12 → 6 * n < f → BI sa (fun c j => 8 ≤ c ∨ (4 ≤ c ∧ j < k)) 0 g →
    ∃ g', L_buildA_G46 N sa f 0 (i32 k) x g = some (i32 (if plN sa = 1 then 1 else 0), g') ∧ BI sa (fun _ _ => True) (mnN sa) g' ∧ BF g g' := by
  intro n
  have hm := mn_le sa
  induction n with
  | zero =>
    intro k f x g h1 h2 h
    obtain ⟨f, rfl⟩ : ∃ q, f = q + 1 := ⟨f - 1, by omega⟩
    have : k = 12 := by omega
    subst this
    obtain ⟨g', e, b, q⟩ := b86 hL N (mnN sa) 0 N g (by omega) (by omega) ⟨fun c j hv hp => h.1 c j hv (by unfold vaN at hv; omega), h.2⟩
    refine ⟨g', ?_, b, q⟩
    rw [← e]
    simp -dsimp -implicitDefEqProofs (disch := omega) only [L_buildA_G46.eq_2, i32_lit, i32_add, i32_mul, i32_tn, i32_sub, le_t, le_f, lt_t, lt_f, eq_t, eq_f, eq_rfl, inR_t, ↓ob_x, obx_s, ↓bnd_s, ↓oT_x, oTx_s, ↓ite_x, itx_T, itx_F, ↓reduceIte, not_true_eq_false, not_false_eq_true, true_and, and_true, Nat.reduceAdd, Nat.reduceMul, Nat.reduceSub, Nat.reduceEqDiff, isB0, isB1, Int32.neg_neg, Nat.zero_add, Nat.add_zero, Nat.mul_zero, Nat.mul_one, Nat.zero_mul]
  | succ n ih =>
    intro k f x g h1 h2 h
    obtain ⟨f, rfl⟩ : ∃ q, f = q + 6 := ⟨f - 6, by omega⟩
    obtain ⟨g1, e1, b1, f1⟩ := b46w hL N (show k < 12 by omega) 4 0 (f + 1) g (by omega) ⟨fun c j hv hp => h.1 c j hv (by omega), h.2⟩
    obtain ⟨g2, e2, b2, f2⟩ := ih (k + 1) f (i32 0) g1 (by omega) (by omega) b1
    refine ⟨g2, ?_, b2, BF_tr f1 f2⟩
    have e0 : L_buildA_G46 N sa (f + 6) 0 (i32 k) x g = L_buildA_G46 N sa (f + 1 + 4) 1 (i32 k) (i32 0) g := by
      show L_buildA_G46 N sa ((f + 5) + 1) 0 (i32 k) x g = L_buildA_G46 N sa (f + 5) 1 (i32 k) (i32 0) g
      simp -dsimp -implicitDefEqProofs (disch := omega) only [L_buildA_G46.eq_2, i32_lit, i32_add, i32_mul, i32_tn, i32_sub, le_t, le_f, lt_t, lt_f, eq_t, eq_f, eq_rfl, inR_t, ↓ob_x, obx_s, ↓bnd_s, ↓oT_x, oTx_s, ↓ite_x, itx_T, itx_F, ↓reduceIte, not_true_eq_false, not_false_eq_true, true_and, and_true, Nat.reduceAdd, Nat.reduceMul, Nat.reduceSub, Nat.reduceEqDiff, isB0, isB1, Int32.neg_neg, Nat.zero_add, Nat.add_zero, Nat.mul_zero, Nat.mul_one, Nat.zero_mul]
    rw [e0, e1, ← e2]
    simp -dsimp -implicitDefEqProofs (disch := omega) only [L_buildA_G46.eq_3, i32_lit, i32_add, i32_mul, i32_tn, i32_sub, le_t, le_f, lt_t, lt_f, eq_t, eq_f, eq_rfl, inR_t, ↓ob_x, obx_s, ↓bnd_s, ↓oT_x, oTx_s, ↓ite_x, itx_T, itx_F, ↓reduceIte, not_true_eq_false, not_false_eq_true, true_and, and_true, Nat.reduceAdd, Nat.reduceMul, Nat.reduceSub, Nat.reduceEqDiff, isB0, isB1, Int32.neg_neg, Nat.zero_add, Nat.add_zero, Nat.mul_zero, Nat.mul_one, Nat.zero_mul]
set_option maxRecDepth 100000 in
theorem b21 {sa : SA} (hL : sa.2.2.1 ≤ 260) {N : Nat} (hN : 6000 ≤ N) : ∀ (n t f : Nat) (g : Mem), t + n = 6 → n < f → BI sa (fun c j => c = 9 ∨ (c = 8 ∧ j < t)) 0 g →
    ∃ g', L_buildA_L21 N sa f (i32 t) g = some (i32 (if plN sa = 1 then 1 else 0), g') ∧ BI sa (fun _ _ => True) (mnN sa) g' ∧ BF g g' := by
  intro n
  induction n with
  | zero =>
    intro t f g h1 h2 h
    obtain ⟨f, rfl⟩ : ∃ q, f = q + 1 := ⟨f - 1, by omega⟩
    have : t = 6 := by omega
    subst this
    obtain ⟨g', e, b, q⟩ := b46 hL hN 12 0 N (i32 0) g (by omega) (by omega) ⟨fun c j hv hp => h.1 c j hv (by unfold vaN at hv; omega), h.2⟩
    refine ⟨g', ?_, b, q⟩
    rw [← e]
    simp -dsimp -implicitDefEqProofs (disch := omega) only [L_buildA_L21, i32_lit, i32_add, i32_mul, i32_tn, i32_sub, le_t, le_f, lt_t, lt_f, eq_t, eq_f, eq_rfl, inR_t, ↓ob_x, obx_s, ↓bnd_s, ↓oT_x, oTx_s, ↓ite_x, itx_T, itx_F, ↓reduceIte, not_true_eq_false, not_false_eq_true, true_and, and_true, Nat.reduceAdd, Nat.reduceMul, Nat.reduceSub, Nat.reduceEqDiff, isB0, isB1, Int32.neg_neg, Nat.zero_add, Nat.add_zero, Nat.mul_zero, Nat.mul_one, Nat.zero_mul]
  | succ n ih =>
    intro t f g h1 h2 h
    obtain ⟨f, rfl⟩ : ∃ q, f = q + 1 := ⟨f - 1, by omega⟩
    have ht : t < 6 := by omega
    have b := BI_st h (c := 8) (j := t) (by unfold vaN; omega) (by omega) (P' := fun c j => c = 9 ∨ (c = 8 ∧ j < t + 1)) (fun c' j' hv hp => by omega)
    have n8 : skN sa t ≤ 99 := s0_LB sa 8 t
    have es : s0S sa 8 t = skN sa t := rfl
    rw [es] at b
    obtain ⟨g', e, b', f'⟩ := ih (t + 1) f _ (by omega) (by omega) b
    refine ⟨g', ?_, b', BF_tr (BF_st g 43 t _ (by omega)) f'⟩
    rw [← e]
    have hs : X5_sky N (i32 t) (i32 (skN sa t)) g = some (g.1 43 t, stI g 43 t (i32 (skN sa t))) := by
      simp -dsimp -implicitDefEqProofs (disch := omega) only [X5_sky, isS_t, isW_t, i32_lit, i32_add, i32_mul, i32_tn, i32_sub, le_t, le_f, lt_t, lt_f, eq_t, eq_f, eq_rfl, inR_t, ↓ob_x, obx_s, ↓bnd_s, ↓oT_x, oTx_s, ↓ite_x, itx_T, itx_F, ↓reduceIte, not_true_eq_false, not_false_eq_true, true_and, and_true, Nat.reduceAdd, Nat.reduceMul, Nat.reduceSub, Nat.reduceEqDiff, isB0, isB1, Int32.neg_neg, Nat.zero_add, Nat.add_zero, Nat.mul_zero, Nat.mul_one, Nat.zero_mul]
    simp -dsimp -implicitDefEqProofs (disch := omega) only [L_buildA_L21, sk_e hL, hs, i32_lit, i32_add, i32_mul, i32_tn, i32_sub, le_t, le_f, lt_t, lt_f, eq_t, eq_f, eq_rfl, inR_t, ↓ob_x, obx_s, ↓bnd_s, ↓oT_x, oTx_s, ↓ite_x, itx_T, itx_F, ↓reduceIte, not_true_eq_false, not_false_eq_true, true_and, and_true, Nat.reduceAdd, Nat.reduceMul, Nat.reduceSub, Nat.reduceEqDiff, isB0, isB1, Int32.neg_neg, Nat.zero_add, Nat.add_zero, Nat.mul_zero, Nat.mul_one, Nat.zero_mul]
    rfl
theorem bA_e {sa : SA} (hL : sa.2.2.1 ≤ 260) {N : Nat} (hN : 6000 ≤ N) {g : Mem} (h : BI sa (fun _ _ => False) 0 g) :
    ∃ g', L_buildA N sa g = some (i32 (if plN sa = 1 then 1 else 0), g') ∧ BI sa (fun _ _ => True) (mnN sa) g' ∧ BF g g' := by
  have b := BI_st h (c := 9) (j := 0) (by unfold vaN; omega) (by omega) (P' := fun c j => c = 9 ∨ (c = 8 ∧ j < 0)) (fun c' j' hv hp => by unfold vaN at hv; omega)
  have n9 : hrN sa ≤ 100 := s0_LB sa 9 0
  have es : s0S sa 9 0 = hrN sa := rfl
  rw [es] at b
  obtain ⟨g', e, b', f'⟩ := b21 hL hN 6 0 N _ (by omega) (by omega) b
  refine ⟨g', ?_, b', BF_tr (BF_st g 42 10 _ (by omega)) f'⟩
  rw [← e]
  have hs : X5_sky N (i32 6) (i32 (hrN sa)) g = some (g.1 42 10, stI g 42 10 (i32 (hrN sa))) := by
    simp -dsimp -implicitDefEqProofs (disch := omega) only [X5_sky, X5_setHour, isW_t, i32_lit, i32_add, i32_mul, i32_tn, i32_sub, le_t, le_f, lt_t, lt_f, eq_t, eq_f, eq_rfl, inR_t, ↓ob_x, obx_s, ↓bnd_s, ↓oT_x, oTx_s, ↓ite_x, itx_T, itx_F, ↓reduceIte, not_true_eq_false, not_false_eq_true, true_and, and_true, Nat.reduceAdd, Nat.reduceMul, Nat.reduceSub, Nat.reduceEqDiff, isB0, isB1, Int32.neg_neg, Nat.zero_add, Nat.add_zero, Nat.mul_zero, Nat.mul_one, Nat.zero_mul]
  simp -dsimp -implicitDefEqProofs (disch := omega) only [L_buildA, hr_e hL, hs, i32_lit, i32_add, i32_mul, i32_tn, i32_sub, le_t, le_f, lt_t, lt_f, eq_t, eq_f, eq_rfl, inR_t, ↓ob_x, obx_s, ↓bnd_s, ↓oT_x, oTx_s, ↓ite_x, itx_T, itx_F, ↓reduceIte, not_true_eq_false, not_false_eq_true, true_and, and_true, Nat.reduceAdd, Nat.reduceMul, Nat.reduceSub, Nat.reduceEqDiff, isB0, isB1, Int32.neg_neg, Nat.zero_add, Nat.add_zero, Nat.mul_zero, Nat.mul_one, Nat.zero_mul]
  rfl
/-! THE MODEL'S MEMORY OUT OF THE CLASS'S -/
def mkM (g : Mem) (i : Nat) (f7 f8 : Nat → Int32) : Mem := (fun c j => if c = 0 then (if j = 12 then i32 i else if j = 0 then g.1 42 9 else g.1 42 10) else if c = 1 then g.1 48 j else if c = 2 then g.1 49 j
  else if c = 3 then (if j % 2 = 0 then g.1 50 (j / 2) else g.1 51 (j / 2)) else if c = 4 then g.1 (44 + j % 4) (j / 4) else if c = 5 then g.1 43 j else if c = 7 then f7 j else if c = 8 then f8 j else 0, fun _ => none)
theorem mk_3 (g : Mem) (i : Nat) (f7 f8 : Nat → Int32) (p : Nat) : (mkM g i f7 f8).1 3 (2 * p) = g.1 50 p := by
  show (if 2 * p % 2 = 0 then g.1 50 (2 * p / 2) else g.1 51 (2 * p / 2)) = _
  rw [if_pos (by omega), show 2 * p / 2 = p by omega]
theorem mk_3b (g : Mem) (i : Nat) (f7 f8 : Nat → Int32) (p : Nat) : (mkM g i f7 f8).1 3 (2 * p + 1) = g.1 51 p := by
  show (if (2 * p + 1) % 2 = 0 then g.1 50 ((2 * p + 1) / 2) else g.1 51 ((2 * p + 1) / 2)) = _
  rw [if_neg (by omega), show (2 * p + 1) / 2 = p by omega]
theorem mk_4 (g : Mem) (i : Nat) (f7 f8 : Nat → Int32) (k w : Nat) (hw : w < 4) : (mkM g i f7 f8).1 4 (4 * k + w) = g.1 (44 + w) k := by
  show g.1 (44 + (4 * k + w) % 4) ((4 * k + w) / 4) = _
  rw [show (4 * k + w) % 4 = w by omega, show (4 * k + w) / 4 = k by omega]
theorem mk_LM {sa : SA} {g : Mem} (h : BI sa (fun _ _ => True) (mnN sa) g) (i : Nat) (f7 f8 : Nat → Int32) : LM (mnN sa) (s0S sa) (mkM g i f7 f8) := by
  intro c j hv
  have w := h.1 c j hv trivial
  rcases vaN_c hv with rfl | rfl | rfl | rfl | rfl | rfl | rfl | rfl | rfl | rfl
  · exact (mk_3 g i f7 f8 j).trans w
  · exact (mk_3b g i f7 f8 j).trans w
  · exact w
  · exact w
  · exact (mk_4 g i f7 f8 j 0 (by omega)).trans w
  · exact (mk_4 g i f7 f8 j 1 (by omega)).trans w
  · exact (mk_4 g i f7 f8 j 2 (by omega)).trans w
  · exact (mk_4 g i f7 f8 j 3 (by omega)).trans w
  · exact w
  · exact w
theorem mk_CW {sa : SA} {g : Mem} (h : BI sa (fun _ _ => True) (mnN sa) g) {i : Nat} (hi : i < 6) {f7 f8 : Nat → Int32} (h42 : g.2 42 = some (4 + 5 * i)) (hT : TxI i g (mkM g i f7 f8)) (hX : TXS sa i (mkM g i f7 f8)) : CW sa (s0S sa) i g (mkM g i f7 f8) := by
  have hm := mn_le sa
  have lm := mk_LM h i f7 f8
  have lb := s0_LB sa
  refine ⟨⟨⟨by omega, by omega, hi⟩, fun t _ => rfl, fun k _ => (mk_4 g i f7 f8 k 0 (by omega)).symm, fun k _ => (mk_4 g i f7 f8 k 1 (by omega)).symm, fun k _ => (mk_4 g i f7 f8 k 2 (by omega)).symm, fun k _ => (mk_4 g i f7 f8 k 3 (by omega)).symm, fun p _ => (mk_3 g i f7 f8 p).symm, h.2.1, h.2.1, fun p _ => rfl, fun p _ => rfl, rfl, h42, rfl, hT⟩, ⟨?_, ?_, ?_, ?_, ?_, ?_, ?_, ?_⟩, fun p _ => (mk_3b g i f7 f8 p).symm, lm, lb, hX⟩
  · intro t ht; rw [lm_sk lm t ht]; exact NB_of 99 _ (lb 8 t)
  · intro k hk; rw [lm_so lm k hk]; exact NB_of 5 _ (lb 4 k)
  · intro k hk; rw [lm_st lm k hk]; exact NB_of 99 _ (lb 5 k)
  · intro k hk; rw [lm_dp lm k hk]; exact NB_of 99 _ (lb 6 k)
  · intro k hk; rw [lm_pl lm k hk]; exact NB_of 2 _ (lb 7 k)
  · intro p hp
    by_cases e : p < mnN sa
    · rw [lm_br lm p e]; exact NB_of 99 _ (lb 0 p)
    · rw [mk_3, (h.2.2 p (by omega) hp).1]; exact NB_of 99 0 (by omega)
  · intro p hp; rw [lm_kd lm p hp]; exact NB_of 5 _ (lb 2 p)
  · intro p hp; rw [lm_mo lm p hp]; exact NB_of 9 _ (lb 3 p)
