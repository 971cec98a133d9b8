def CW (sa : SA) (s : LST) (i : Nat) (gI gM : Mem) : Prop := Sc 42 (mnN sa) i gI gM ∧ Bd (mnN sa) gM ∧ Bg 42 gI gM ∧ LM (mnN sa) s gM ∧ LB s ∧ TXS sa i gM
theorem WLD_CW {sa : SA} {s : LST} {i : Nat} {gI gM : Mem} (h : WLD sa s i gI gM) : CW sa s i gI gM := ⟨h.1, h.2.1, h.2.2.1, h.2.2.2.1, h.2.2.2.2.2.1, h.2.2.2.2.2.2⟩
theorem CW_WLD {sa : SA} {s : LST} {i : Nat} {gI gM : Mem} (h : CW sa s i gI gM) (l : LL (mnN sa) s gI) : WLD sa s i gI gM := ⟨h.1, h.2.1, h.2.2.1, h.2.2.2.1, l, h.2.2.2.2.1, h.2.2.2.2.2⟩
theorem CW_GL {sa : SA} {s : LST} {i : Nat} {gI gM gI' : Mem} (h : CW sa s i gI gM) (f : GL gI gI') : CW sa s i gI' gM := by
  obtain ⟨h1, h2, h3, h4, h6, h7⟩ := h
  have l : LkI 42 gI gI' := ⟨fun c a b => by rw [f.1], f.2 42 (by omega), fun j hj => ⟨by rw [f.1], by rw [f.1]⟩⟩
  have m : LkM (mnN sa) gM gM := ⟨fun _ _ => rfl, fun _ _ => rfl, fun _ _ => rfl, rfl, rfl, rfl, fun _ _ => rfl, fun _ _ => rfl, rfl, rfl⟩
  exact ⟨Sc_Lk h1 l m (Nat.le_refl _), h2, Bg_Lk h3 l m, h4, h6, h7⟩
theorem CW_SI {sa : SA} {s : LST} {i : Nat} {gI gM gI' : Mem} (h : CW sa s i gI gM) (f : SI gI gI') : CW sa s i gI' gM := by
  obtain ⟨h1, h2, h3, h4, h6, h7⟩ := h
  exact ⟨Sc_SI h1 f, h2, Bg_SI (by omega) h3 f (SM_rfl _), h4, h6, h7⟩
theorem LL_FI {d b : Nat} {s : LST} {g g' : Mem} (h : LL d s g) (f : FI b g g') (hb : b < 1000) : LL d s g' := LL_2 h (fun c hc => f.2 c (by omega))
theorem LL_SI {d : Nat} {s : LST} {g g' : Mem} (h : LL d s g) (f : SI g g') : LL d s g' := LL_2 h (fun c _ => by rw [f.2])
theorem LM_SM {d : Nat} {s : LST} {g g' : Mem} (h : LM d s g) (f : SM g g') : LM d s g' := by
  intro c j hv
  rw [SM_r f (rwM c) (by unfold rwM; repeat' split
                         all_goals omega)]
  exact h c j hv
theorem ups_c (s : LST) (c j v c' j' v' : Nat) (h : ¬ c = c') : ups (ups s c j v) c' j' v' = ups (ups s c' j' v') c j v := by
  funext x y
  unfold ups
  by_cases a : x = c' ∧ y = j'
  · rw [if_pos a, if_neg (by omega), if_pos a]
  · rw [if_neg a, if_neg a]
theorem q_dv1 {sa : SA} {s : LST} {i : Nat} {gI gM : Mem} (h : CW sa s i gI gM) {N : Nat} (hN : 6000 ≤ N) {p k : Nat} (hp : p < mnN sa) (hk : k < 12) (c : caN sa s p k = 1) (h1p : s 1 p < 90) :
    ∃ gI' gM', X5_dive N (i32 p) (i32 k) gI = some (i32 (s 0 p - coN sa s p k), gI') ∧ CW sa (diS sa s p k) i gI' gM' ∧ FI 42 gI gI' := by
  obtain ⟨h1, h2, h3, h4, h6, h7⟩ := h
  have hd := mn_le sa
  have b7 : gI.1 42 9 = i32 (mnN sa) := h1.2.2.2.2.2.2.2.1
  obtain ⟨g1, r1, r2⟩ := can_I hN h1 hp hk
  have ec := canV_e h7 h4 h6 hp hk
  rw [c] at ec
  rw [ec] at r1
  have e1 := Sc_SI h1 r2
  obtain ⟨g2, m2, t1, _, o, t2, _⟩ := dive_sim hN e1 h2 hp hk ec
  have n0 := lb_br h6 p
  have nc := (ca_1 c).2
  have lm1 : LM (mnN sa) (ups (ups (ups s 0 p (s 0 p - coN sa s p k)) 7 k 1) 1 p (s 1 p + 1)) (dvM gM i p k) := by
    have u := LM_up (c := 1) (j := p) (LM_up (c := 7) (j := k) (LM_up (c := 0) (j := p) h4 (by unfold vaN; omega) (s 0 p - coN sa s p k)) (by unfold vaN; omega) 1) (by unfold vaN; omega) (s 1 p + 1)
    unfold dvM
    rw [lm_br h4 p hp, lm_bg h4 p hp, CoV_e h7 h4 h6 hp hk, i32_sub nc, i32_add]
    exact u
  rw [ups_c _ 7 k 1 1 p _ (by omega)] at lm1
  have lm2 : LM (mnN sa) (diS sa s p k) m2 := LM_SM lm1 t2
  have lb2 := di_LB (sa := sa) (k := k) h6 h1p
  have cw : CW sa (diS sa s p k) i g2 m2 := by
    refine ⟨o.1, o.2.1, o.2.2.2.2 (Bg_SI (by omega) h3 r2 (SM_rfl _)), lm2, lb2, TXS_fr h7 ?_ ?_⟩
    · exact o.2.2.2.1.1 7 (by omega) (by omega) (by omega) (by omega) (by omega) (by omega)
    · exact o.2.2.2.1.1 8 (by omega) (by omega) (by omega) (by omega) (by omega) (by omega)
  have v : g2.1 50 p = i32 (s 0 p - coN sa s p k) := by
    have a : g2.1 50 p = m2.1 3 (2 * p) := o.1.2.2.2.2.2.2.1 p (by omega)
    rw [a, lm_br lm2 p hp]
    unfold diS
    rw [ups_n _ _ _ _ _ _ (by omega), ups_n _ _ _ _ _ _ (by omega), ups_e]
  refine ⟨g2, m2, ?_, cw, FI_tr (FI_SI r2) o.2.2.1⟩
  simp -dsimp -implicitDefEqProofs (disch := omega) only [X5_dive, isD_t b7 hp (by omega : mnN sa ≤ 6), isK_t, r1, t1, v, i32_lit, i32_add, i32_mul, i32_tn, i32_sub, le_t, le_f, lt_t, lt_f, eq_t, eq_f, eq_rfl, inR_t, ↓ob_x, obx_s, ↓bnd_s, ↓oT_x, oTx_s, ↓ite_x, itx_T, itx_F, ↓reduceIte, not_true_eq_false, not_false_eq_true, true_and, and_true, Nat.reduceAdd, Nat.reduceMul, Nat.reduceSub, Nat.reduceEqDiff, isB0, isB1, Int32.neg_neg, Nat.zero_add, Nat.add_zero, Nat.mul_zero, Nat.mul_one, Nat.zero_mul]
theorem q_dv0 {sa : SA} {s : LST} {i : Nat} {gI gM : Mem} (h : CW sa s i gI gM) {N : Nat} (hN : 6000 ≤ N) {p k : Nat} (hp : p < mnN sa) (hk : k < 12) (c : caN sa s p k = 0) :
    ∃ gI', X5_dive N (i32 p) (i32 k) gI = some (-(i32 3), gI') ∧ SI gI gI' := by
  obtain ⟨h1, h2, h3, h4, h6, h7⟩ := h
  have hd := mn_le sa
  have b7 : gI.1 42 9 = i32 (mnN sa) := h1.2.2.2.2.2.2.2.1
  obtain ⟨g1, r1, r2⟩ := can_I hN h1 hp hk
  rw [canV_e h7 h4 h6 hp hk, c] at r1
  refine ⟨g1, ?_, r2⟩
  simp -dsimp -implicitDefEqProofs (disch := omega) only [X5_dive, isD_t b7 hp (by omega : mnN sa ≤ 6), isK_t, r1, i32_lit, i32_add, i32_mul, i32_tn, i32_sub, le_t, le_f, lt_t, lt_f, eq_t, eq_f, eq_rfl, inR_t, ↓ob_x, obx_s, ↓bnd_s, ↓oT_x, oTx_s, ↓ite_x, itx_T, itx_F, ↓reduceIte, not_true_eq_false, not_false_eq_true, true_and, and_true, Nat.reduceAdd, Nat.reduceMul, Nat.reduceSub, Nat.reduceEqDiff, isB0, isB1, Int32.neg_neg, Nat.zero_add, Nat.add_zero, Nat.mul_zero, Nat.mul_one, Nat.zero_mul]
theorem q_op1 {sa : SA} {s : LST} {i : Nat} {gI gM : Mem} (h : CW sa s i gI gM) (N : Nat) {k : Nat} (hk : k < 12) (c : s 7 k = 1) :
    ∃ gI' gM', X5_open N (i32 k) gI = some (i32 (mi99 (s 8 (s 4 k) + s 5 k)), gI') ∧ CW sa (opS s k) i gI' gM' ∧ FI 42 gI gI' := by
  obtain ⟨h1, h2, h3, h4, h6, h7⟩ := h
  have b5 : gI.1 47 k = gM.1 4 (4 * k + 3) := h1.2.2.2.2.2.1 k hk
  rw [lm_pl h4 k hk, c] at b5
  obtain ⟨t, g2, ht, e4, t1, _, o⟩ := loose_sim (N := N) h1 h2 hk
  have n4 := lb_so h6 k
  have n5 := lb_st h6 k
  have n8 := lb_sk h6 (s 4 k)
  rw [lm_so h4 k hk] at e4
  have et : t = s 4 k := ((i32_inj (by omega) (by omega)).mp e4).symm
  subst et
  have lm2 : LM (mnN sa) (opS s k) (loM gM (s 4 k) k) := by
    have u := LM_up (c := 7) (j := k) (LM_up (c := 8) (j := s 4 k) h4 (by unfold vaN; omega) (mi99 (s 8 (s 4 k) + s 5 k))) (by unfold vaN; omega) 2
    unfold loM
    rw [lm_sk h4 (s 4 k) ht, lm_st h4 k hk, i32_add, cl_e (by omega)]
    exact u
  have cw : CW sa (opS s k) i g2 (loM gM (s 4 k) k) := by
    refine ⟨o.1, o.2.1, o.2.2.2.2 h3, lm2, op_LB h6, TXS_fr h7 ?_ ?_⟩
    · exact o.2.2.2.1.1 7 (by omega) (by omega) (by omega) (by omega) (by omega) (by omega)
    · exact o.2.2.2.1.1 8 (by omega) (by omega) (by omega) (by omega) (by omega) (by omega)
  have v4 : g2.1 44 k = i32 (s 4 k) := by
    have a : g2.1 44 k = (loM gM (s 4 k) k).1 4 (4 * k) := o.1.2.2.1 k hk
    rw [a, lm_so lm2 k hk]
    unfold opS
    rw [ups_n _ _ _ _ _ _ (by omega), ups_n _ _ _ _ _ _ (by omega)]
  have v : g2.1 43 (s 4 k) = i32 (mi99 (s 8 (s 4 k) + s 5 k)) := by
    have a : g2.1 43 (s 4 k) = (loM gM (s 4 k) k).1 5 (s 4 k) := o.1.2.1 (s 4 k) ht
    rw [a, lm_sk lm2 (s 4 k) ht]
    unfold opS
    rw [ups_n _ _ _ _ _ _ (by omega), ups_e]
  refine ⟨g2, _, ?_, cw, o.2.2.1⟩
  simp -dsimp -implicitDefEqProofs (disch := omega) only [X5_open, isK_t, b5, t1, v4, v, i32_lit, i32_add, i32_mul, i32_tn, i32_sub, le_t, le_f, lt_t, lt_f, eq_t, eq_f, eq_rfl, inR_t, ↓ob_x, obx_s, ↓bnd_s, ↓oT_x, oTx_s, ↓ite_x, itx_T, itx_F, ↓reduceIte, not_true_eq_false, not_false_eq_true, true_and, and_true, Nat.reduceAdd, Nat.reduceMul, Nat.reduceSub, Nat.reduceEqDiff, isB0, isB1, Int32.neg_neg, Nat.zero_add, Nat.add_zero, Nat.mul_zero, Nat.mul_one, Nat.zero_mul]
theorem q_op0 {sa : SA} {s : LST} {i : Nat} {gI gM : Mem} (h : CW sa s i gI gM) (N : Nat) {k : Nat} (hk : k < 12) (c : ¬ s 7 k = 1) : X5_open N (i32 k) gI = some (-(i32 3), gI) := by
  obtain ⟨h1, h2, h3, h4, h6, h7⟩ := h
  have n7 := lb_pl h6 k
  have b5 : gI.1 47 k = gM.1 4 (4 * k + 3) := h1.2.2.2.2.2.1 k hk
  rw [lm_pl h4 k hk] at b5
  simp -dsimp -implicitDefEqProofs (disch := omega) only [X5_open, isK_t, b5, c, i32_lit, i32_add, i32_mul, i32_tn, i32_sub, le_t, le_f, lt_t, lt_f, eq_t, eq_f, eq_rfl, inR_t, ↓ob_x, obx_s, ↓bnd_s, ↓oT_x, oTx_s, ↓ite_x, itx_T, itx_F, ↓reduceIte, not_true_eq_false, not_false_eq_true, true_and, and_true, Nat.reduceAdd, Nat.reduceMul, Nat.reduceSub, Nat.reduceEqDiff, isB0, isB1, Int32.neg_neg, Nat.zero_add, Nat.add_zero, Nat.mul_zero, Nat.mul_one, Nat.zero_mul]
theorem hr_LM {sa : SA} {s : LST} {i : Nat} {gI gM : Mem} (h : CW sa s i gI gM) : LM (mnN sa) (paS sa (mnN sa) s) (hrM gM i (mnN sa)) := by
  obtain ⟨h1, h2, h3, h4, h6, h7⟩ := h
  have hm := mn_le sa
  unfold paS hrM
  rw [lm_h h4, i32_add]
  refine LM_up (c := 9) (j := 0) ?_ (by unfold vaN; omega) (s 9 0 + 1)
  intro c j hv
  by_cases c0 : c = 0
  · subst c0
    have hj : j < mnN sa := by unfold vaN at hv; omega
    show (hbM (hsM gM i 6) (mnN sa)).1 3 (2 * j) = _
    unfold hbM pbS
    rw [stA_eq, if_pos (show 2 * j % 2 = 0 ∧ 2 * j / 2 < mnN sa by omega), if_pos (show 0 = 0 ∧ j < mnN sa from ⟨rfl, hj⟩), show 2 * j / 2 = j by omega, brW_fr (g := gM) (hsM_n _ _ _ _ (by omega)) (hsM_n _ _ _ _ (by omega)) (hsM_n _ _ _ _ (by omega)), brW_e h4 h6 hj]
  · by_cases c1 : c = 1
    · subst c1
      have hj : j < mnN sa := by unfold vaN at hv; omega
      show (hbM (hsM gM i 6) (mnN sa)).1 3 (2 * j + 1) = _
      unfold hbM
      rw [stA_eq, pbS_n _ _ _ _ _ (by omega) (by omega)]
      show (if (2 * j + 1) % 2 = 0 ∧ (2 * j + 1) / 2 < mnN sa then brW (hsM gM i 6) ((2 * j + 1) / 2) else _) = _
      rw [if_neg (by omega), hsM_n _ _ _ _ (by omega), lm_bg h4 j hj]
    · by_cases c8 : c = 8
      · subst c8
        have hj : j < 6 := by unfold vaN at hv; omega
        show (hbM (hsM gM i 6) (mnN sa)).1 5 j = _
        rw [hbM_n _ _ _ (by omega)]
        unfold hsM pbS psS
        rw [stA_eq, if_pos hj, if_neg (show ¬ (8 = 0 ∧ j < mnN sa) by omega), if_pos (show 8 = 8 ∧ j < 6 from ⟨rfl, hj⟩), fdW_e h7 h4 h6 hj]
      · have r : ¬ rwM c = 3 ∧ ¬ rwM c = 5 := by
          unfold vaN at hv; unfold rwM
          rcases (by omega : c = 2 ∨ c = 3 ∨ c = 4 ∨ c = 5 ∨ c = 6 ∨ c = 7 ∨ c = 9) with rfl | rfl | rfl | rfl | rfl | rfl | rfl <;> decide
        rw [hbM_n _ _ _ r.1, hsM_n _ _ _ _ r.2, pbS_n _ _ _ _ _ (by omega) (by omega)]
        exact h4 c j hv
theorem q_hr {sa : SA} {s : LST} {i : Nat} {gI gM : Mem} (h : CW sa s i gI gM) {N : Nat} (hN : 6000 ≤ N) (h9 : s 9 0 ≤ 99) :
    ∃ gI', X5_hour N gI = some (mainV (hrM gM i (mnN sa)), gI') ∧ CW sa (paS sa (mnN sa) s) i gI' (hrM gM i (mnN sa)) ∧ FI 42 gI gI' := by
  have lm := hr_LM h
  obtain ⟨h1, h2, h3, h4, h6, h7⟩ := h
  have hm := mn_le sa
  have b11 : gI.1 42 10 = gM.1 0 6 := h1.2.2.2.2.2.2.2.2.2.2.2.1
  rw [lm_h h4] at b11
  obtain ⟨g1, r1, r2⟩ := hour_I hN h1 h2 1 0 N (i32 0) (by omega) (by omega) (by omega)
  have o := OKs_hr h1 h2 r2 (SM_rfl _)
  obtain ⟨f, hf⟩ : ∃ q, N - (mnN sa + 9) = q + 1 := ⟨N - (mnN sa + 9) - 1, by omega⟩
  have r3 : X1_passHours N 42 (i32 1) gI = some (i32 0, g1) := by
    unfold X1_passHours
    have r1' : X1_passHours_G2 N 42 (i32 1) N 0 0 0 gI = X1_passHours_G2 N 42 (i32 1) (N - (mnN sa + 9)) 0 (i32 (0 + 1)) (i32 0) g1 := r1
    rw [r1', hf]
    simp -dsimp -implicitDefEqProofs (disch := omega) only [X1_passHours_G2, i32_lit, i32_add, i32_mul, i32_tn, i32_sub, le_t, le_f, lt_t, lt_f, eq_t, eq_f, eq_rfl, inR_t, ↓ob_x, obx_s, ↓bnd_s, ↓oT_x, oTx_s, ↓ite_x, itx_T, itx_F, ↓reduceIte, not_true_eq_false, not_false_eq_true, true_and, and_true, Nat.reduceAdd, Nat.reduceMul, Nat.reduceSub, Nat.reduceEqDiff, isB0, isB1, Int32.neg_neg, Nat.zero_add, Nat.add_zero, Nat.mul_zero, Nat.mul_one, Nat.zero_mul]
  refine ⟨g1, ?_, ⟨o.1, o.2.1, o.2.2.2.2 h3, lm, paS_LB h6 _ h9, TXS_fr h7 ?_ ?_⟩, o.2.2.1⟩
  · simp -dsimp -implicitDefEqProofs (disch := omega) only [X5_hour, b11, r3, main_I hN o.1, i32_lit, i32_add, i32_mul, i32_tn, i32_sub, le_t, le_f, lt_t, lt_f, eq_t, eq_f, eq_rfl, inR_t, ↓ob_x, obx_s, ↓bnd_s, ↓oT_x, oTx_s, ↓ite_x, itx_T, itx_F, ↓reduceIte, not_true_eq_false, not_false_eq_true, true_and, and_true, Nat.reduceAdd, Nat.reduceMul, Nat.reduceSub, Nat.reduceEqDiff, isB0, isB1, Int32.neg_neg, Nat.zero_add, Nat.add_zero, Nat.mul_zero, Nat.mul_one, Nat.zero_mul]
  · exact o.2.2.2.1.1 7 (by omega) (by omega) (by omega) (by omega) (by omega) (by omega)
  · exact o.2.2.2.1.1 8 (by omega) (by omega) (by omega) (by omega) (by omega) (by omega)
