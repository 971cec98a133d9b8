theorem i32_smd (n m : Nat) : i32 n - i32 (n / m * m) = i32 (n % m) := by rw [i32_sub (Nat.div_mul_le_self n m), sub_dm]
theorem m1_lt : (-(i32 1) < i32 0) = True := by decide
theorem fCM0 : fCM 0 = i32 5 := rfl
theorem fCM1 : fCM 1 = i32 99 := rfl
theorem fCM2 : fCM 2 = i32 99 := rfl
theorem fCM3 : fCM 3 = i32 2 := rfl
set_option maxRecDepth 100000 in
theorem er_e {sa : SA} {s : LST} {i : Nat} {g gM : Mem} (h : WLD sa s i g gM) (N f : Nat) (x3 : Int32) {g0 : Mem} (hs : L_same N sa g0 = some (i32 1, g)) : L_law_L306 N sa (f + 1) x3 (i32 6) g0 = some (i32 1, g) := by
  have b7 : g.1 42 9 = i32 (mnN sa) := h.1.2.2.2.2.2.2.2.1
  have hm := mn_le sa
  simp -dsimp -implicitDefEqProofs (disch := omega) only [L_law_L306, hs, X5_dive, X5_open, X5_cask, X5_lies, X5_sky, X5_setHour, X5_put, X5_told, X5_dives, X5_bay, X5_isDiver, X5_isCask, X5_isSort, X5_isWithin, b7, m1_lt, fCM0, fCM1, fCM2, fCM3, i32_lit, i32_add, i32_mul, i32_tn, i32_sub, le_t, le_f, lt_t, lt_f, eq_t, eq_f, eq_rfl, inR_t, ↓ob_x, obx_s, ↓bnd_s, ↓oT_x, oTx_s, ↓ite_x, itx_T, itx_F, ↓reduceIte, not_true_eq_false, not_false_eq_true, true_and, and_true, Nat.reduceAdd, Nat.reduceMul, Nat.reduceSub, Nat.reduceEqDiff, isB0, isB1, Int32.neg_neg, Nat.zero_add, Nat.add_zero, Nat.mul_zero, Nat.mul_one, Nat.zero_mul]
def IV (sa : SA) (r u : Nat) (s : LST) : Prop := (∀ p, s 1 p ≤ r) ∧ s 9 0 ≤ 15 + u ∧ ∀ j, s 2 j = kdN sa j ∧ s 3 j = moN sa j
theorem lg_m3 : lg_cmp ((-(i32 3)).toInt64) (-(i64 3)) = i32 0 := by decide
theorem st_dv {sa : SA} (hL : sa.2.2.1 ≤ 260) {s : LST} {i r u : Nat} {g gM : Mem} (h : WLD sa s i g gM) (v : IV sa r u s) (hr : r < 10) {N : Nat} (hN : 6000 ≤ N) {p k : Nat} (hp : p < mnN sa) (hk : k < 12) :
    ∃ v1 g1 v2 g2 s1 gM1, X5_dive N (i32 p) (i32 k) g = some (v1, g1) ∧ L_dive N sa (i32 p) (i32 k) g1 = some (v2, g2) ∧ WLD sa s1 i g2 gM1 ∧ IV sa (r + 1) u s1 ∧ ((v2 = i32 0 ∧ lg_cmp v1.toInt64 (-(i64 3)) = i32 0) ∨ (v2 = i32 1 ∧ lg_cmp v1.toInt64 (ldL g2 (2 * p)) = i32 0)) := by
  have hm := mn_le sa
  have cw := WLD_CW h
  have l := h.2.2.2.2.1
  have b := h.2.2.2.2.2.1
  rcases caN_01 sa s p k with c | c
  · obtain ⟨g1, r1, f1⟩ := q_dv0 cw hN hp hk c
    have h' := WLD_SI h f1
    exact ⟨_, g1, _, g1, s, gM, r1, di_0 hL hm.2 h'.2.2.2.2.1 b N hp hk c, h', ⟨fun p => by have := v.1 p; omega, by have := v.2.1; omega, v.2.2⟩, Or.inl ⟨rfl, lg_m3⟩⟩
  · have v1 := v.1 p
    obtain ⟨g1, m1, r1, c1, f1⟩ := q_dv1 cw hN hp hk c (by omega)
    have l1 := LL_FI l f1 (by omega)
    have r2 := di_e hL hm.2 l1 b N hp hk c
    have l2 := di_LL (sa := sa) hm.2 l1 hp hk
    have c2 : CW sa (diS sa s p k) i (diG sa s g1 p k) m1 := CW_GL c1 (GL_tr (GL_tr (GL_st _ _ _) (GL_st _ _ _)) (GL_st _ _ _))
    have n0 := lb_br b p
    have e0 := ll_br l2 p hp
    have es : diS sa s p k 0 p = s 0 p - coN sa s p k := by
      unfold diS
      rw [ups_n _ _ _ _ _ _ (by omega), ups_n _ _ _ _ _ _ (by omega), ups_e]
    rw [es] at e0
    refine ⟨_, g1, _, _, _, m1, r1, r2, CW_WLD c2 l2, ⟨fun q => ?_, ?_, fun j => ?_⟩, Or.inr ⟨rfl, ?_⟩⟩
    · unfold diS
      rw [ups_n _ _ _ _ _ _ (by omega)]
      by_cases e : q = p
      · subst e; rw [ups_e]; omega
      · rw [ups_n _ _ _ _ _ _ (by omega), ups_n _ _ _ _ _ _ (by omega)]; have := v.1 q; omega
    · unfold diS
      rw [ups_n _ _ _ _ _ _ (by omega), ups_n _ _ _ _ _ _ (by omega), ups_n _ _ _ _ _ _ (by omega)]; have := v.2.1; omega
    · unfold diS
      rw [ups_n _ _ _ _ _ _ (by omega), ups_n _ _ _ _ _ _ (by omega), ups_n _ _ _ _ _ _ (by omega), ups_n _ _ _ _ _ _ (by omega), ups_n _ _ _ _ _ _ (by omega), ups_n _ _ _ _ _ _ (by omega)]; exact v.2.2 j
    · rw [e0, i32_64 (by omega), lg_eq (by omega) (by omega)]
theorem st_op {sa : SA} {s : LST} {i r u : Nat} {g gM : Mem} (h : WLD sa s i g gM) (v : IV sa r u s) (N : Nat) {k : Nat} (hk : k < 12) :
    ∃ v1 g1 v2 g2 s1 gM1, X5_open N (i32 k) g = some (v1, g1) ∧ L_open N (i32 k) g1 = some (v2, g2) ∧ WLD sa s1 i g2 gM1 ∧ IV sa r u s1 ∧ ((v2 = i32 0 ∧ lg_cmp v1.toInt64 (-(i64 3)) = i32 0) ∨ (v2 = i32 1 ∧ ∃ t, t < 6 ∧ ldL g2 (16 + 4 * k) = i64 t ∧ lg_cmp v1.toInt64 (ldL g2 (64 + t)) = i32 0)) := by
  have hm := mn_le sa
  have cw := WLD_CW h
  have l := h.2.2.2.2.1
  have b := h.2.2.2.2.2.1
  by_cases c : s 7 k = 1
  · obtain ⟨g1, m1, r1, c1, f1⟩ := q_op1 cw N hk c
    have l1 := LL_FI l f1 (by omega)
    have r2 := op_e l1 b N hk c
    have l2 := op_LL hm.2 l1 b hk
    have c2 : CW sa (opS s k) i (opG s g1 k) m1 := CW_GL c1 (GL_tr (GL_st _ _ _) (GL_st _ _ _))
    have n4 := lb_so b k
    have nn := mi_le (s 8 (s 4 k) + s 5 k)
    have e4 := ll_so l2 k hk
    have e8 := ll_sk l2 (s 4 k) (by omega)
    have es : opS s k 4 k = s 4 k := by
      unfold opS
      rw [ups_n _ _ _ _ _ _ (by omega), ups_n _ _ _ _ _ _ (by omega)]
    have es8 : opS s k 8 (s 4 k) = mi99 (s 8 (s 4 k) + s 5 k) := by
      unfold opS
      rw [ups_n _ _ _ _ _ _ (by omega), ups_e]
    rw [es] at e4
    rw [es8] at e8
    refine ⟨_, g1, _, _, _, m1, r1, r2, CW_WLD c2 l2, ⟨fun q => ?_, ?_, fun j => ?_⟩, Or.inr ⟨rfl, s 4 k, by omega, e4, ?_⟩⟩
    · unfold opS
      rw [ups_n _ _ _ _ _ _ (by omega), ups_n _ _ _ _ _ _ (by omega)]; exact v.1 q
    · unfold opS
      rw [ups_n _ _ _ _ _ _ (by omega), ups_n _ _ _ _ _ _ (by omega)]; exact v.2.1
    · unfold opS
      rw [ups_n _ _ _ _ _ _ (by omega), ups_n _ _ _ _ _ _ (by omega), ups_n _ _ _ _ _ _ (by omega), ups_n _ _ _ _ _ _ (by omega)]; exact v.2.2 j
    · rw [e8, i32_64 (by omega), lg_eq (by omega) (by omega)]
  · exact ⟨_, g, _, g, s, gM, q_op0 cw N hk c, op_0 l b N hk c, h, v, Or.inl ⟨rfl, lg_m3⟩⟩
theorem st_hr {sa : SA} (hL : sa.2.2.1 ≤ 260) {s : LST} {i r u : Nat} {g gM : Mem} (h : WLD sa s i g gM) (v : IV sa r u s) (h10 : u < 10) {N : Nat} (hN : 6000 ≤ N) :
    ∃ v1 g1 g2 s1 gM1, X5_hour N g = some (v1, g1) ∧ L_pass N sa g1 = some (v1, g2) ∧ WLD sa s1 i g2 gM1 ∧ IV sa r (u + 1) s1 := by
  have hm := mn_le sa
  have cw := WLD_CW h
  have l := h.2.2.2.2.1
  have b := h.2.2.2.2.2.1
  have v9 := v.2.1
  obtain ⟨g1, r1, c1, f1⟩ := q_hr cw hN (by omega)
  have l1 := LL_FI l f1 (by omega)
  obtain ⟨g2, e1, e2, e3⟩ := pa_e hL b hN l1 (by omega)
  refine ⟨_, g1, g2, _, _, r1, e3 _ c1.2.2.2.1, CW_WLD (CW_GL c1 e1) e2, ⟨fun q => ?_, ?_, fun j => ?_⟩⟩
  · unfold paS
    rw [ups_n _ _ _ _ _ _ (by omega), pbS_n _ _ _ _ _ (by omega) (by omega)]; exact v.1 q
  · unfold paS
    rw [ups_e]; omega
  · unfold paS
    rw [ups_n _ _ _ _ _ _ (by omega), pbS_n _ _ _ _ _ (by omega) (by omega), ups_n _ _ _ _ _ _ (by omega), pbS_n _ _ _ _ _ (by omega) (by omega)]; exact v.2.2 j
set_option maxRecDepth 100000 in
theorem rd_e {sa : SA} (hL : sa.2.2.1 ≤ 260) {s : LST} {i x : Nat} {g gM : Mem} (h : WLD sa s i g gM) (v : IV sa x x s) (hx : x < 6) {N : Nat} (hN : 6000 ≤ N) (f : Nat) :
    ∃ g' s' gM', L_law_L306 N sa (f + 1) (i32 (mnN sa)) (i32 x) g = L_law_L306 N sa f (i32 (mnN sa)) (i32 (x + 1)) g' ∧ WLD sa s' i g' gM' ∧ IV sa (x + 1) (x + 1) s' := by
  have hm := mn_le sa
  obtain ⟨g1, e1, f1⟩ := sm_e hL hN h (fun j _ => v.2.2 j)
  have h1 := WLD_SI h f1
  have z1 := fz_le (shv (AT sa 12) (i32 (5 * x))) 3 (by omega)
  have z2 := fz_le (shv (shv (AT sa 12) (i32 (5 * x))) (i32 1)) 15 (by omega)
  have z3 := fz_le (shv (AT sa 12) (i32 (5 * x))) 15 (by omega)
  have hp : fz (shv (AT sa 12) (i32 (5 * x))) 3 % mnN sa < mnN sa := Nat.mod_lt _ (by omega)
  have hk : fz (shv (shv (AT sa 12) (i32 (5 * x))) (i32 1)) 15 % 12 < 12 := Nat.mod_lt _ (by omega)
  have hq : fz (shv (AT sa 12) (i32 (5 * x))) 15 % 12 < 12 := Nat.mod_lt _ (by omega)
  obtain ⟨v1, g2, v2, g3, s1, m1, d1, d2, d3, d4, d5⟩ := st_dv hL h1 v (by omega) hN hp hk
  obtain ⟨w1, g4, w2, g5, s2, m2, o1, o2, o3, o4, o5⟩ := st_op d3 d4 N hq
  obtain ⟨g6, e2, f2⟩ := sm_e hL hN o3 (fun j _ => o4.2.2 j)
  have h2 := WLD_SI o3 f2
  obtain ⟨y, g7, g8, s3, m3, t1, t2, t3, t4⟩ := st_hr hL h2 o4 (by omega) hN
  refine ⟨g8, s3, m3, ?_, t3, t4⟩
  have a12 := at_e hL N 12 (by omega) g1
  generalize hA : shv (AT sa 12) (i32 (5 * x)) = A at *
  generalize hP : fz A 3 % mnN sa = P at *
  generalize hK : fz (shv A (i32 1)) 15 % 12 = K at *
  generalize hQ : fz A 15 % 12 = Q at *
  rcases d5 with ⟨rfl, d6⟩ | ⟨rfl, d6⟩ <;> rcases o5 with ⟨rfl, o6⟩ | ⟨rfl, t, ht, o6, o7⟩
  · simp -dsimp -implicitDefEqProofs (disch := omega) only [L_law_L306, e1, a12, ↓shv_e, fz_eq, i32_divz, i32_smd, sub_dm, hA, hP, hK, hQ, d1, d2, d6, o1, o2, o6, e2, t1, t2, i64_lit, i32_lit, i32_add, i32_mul, i32_tn, i32_sub, le_t, le_f, lt_t, lt_f, eq_t, eq_f, eq_rfl, inR_t, ↓ob_x, obx_s, ↓bnd_s, ↓oT_x, oTx_s, ↓ite_x, itx_T, itx_F, ↓reduceIte, not_true_eq_false, not_false_eq_true, true_and, and_true, Nat.reduceAdd, Nat.reduceMul, Nat.reduceSub, Nat.reduceEqDiff, isB0, isB1, Int32.neg_neg, Nat.zero_add, Nat.add_zero, Nat.mul_zero, Nat.mul_one, Nat.zero_mul]
  · simp -dsimp -implicitDefEqProofs (disch := omega) only [L_law_L306, e1, a12, ↓shv_e, fz_eq, i32_divz, i32_smd, sub_dm, hA, hP, hK, hQ, d1, d2, d6, o1, o2, o6, o7, i64_32, e2, t1, t2, i64_lit, i32_lit, i32_add, i32_mul, i32_tn, i32_sub, le_t, le_f, lt_t, lt_f, eq_t, eq_f, eq_rfl, inR_t, ↓ob_x, obx_s, ↓bnd_s, ↓oT_x, oTx_s, ↓ite_x, itx_T, itx_F, ↓reduceIte, not_true_eq_false, not_false_eq_true, true_and, and_true, Nat.reduceAdd, Nat.reduceMul, Nat.reduceSub, Nat.reduceEqDiff, isB0, isB1, Int32.neg_neg, Nat.zero_add, Nat.add_zero, Nat.mul_zero, Nat.mul_one, Nat.zero_mul]
  · simp -dsimp -implicitDefEqProofs (disch := omega) only [L_law_L306, e1, a12, ↓shv_e, fz_eq, i32_divz, i32_smd, sub_dm, hA, hP, hK, hQ, d1, d2, d6, o1, o2, o6, e2, t1, t2, i64_lit, i32_lit, i32_add, i32_mul, i32_tn, i32_sub, le_t, le_f, lt_t, lt_f, eq_t, eq_f, eq_rfl, inR_t, ↓ob_x, obx_s, ↓bnd_s, ↓oT_x, oTx_s, ↓ite_x, itx_T, itx_F, ↓reduceIte, not_true_eq_false, not_false_eq_true, true_and, and_true, Nat.reduceAdd, Nat.reduceMul, Nat.reduceSub, Nat.reduceEqDiff, isB0, isB1, Int32.neg_neg, Nat.zero_add, Nat.add_zero, Nat.mul_zero, Nat.mul_one, Nat.zero_mul]
  · simp -dsimp -implicitDefEqProofs (disch := omega) only [L_law_L306, e1, a12, ↓shv_e, fz_eq, i32_divz, i32_smd, sub_dm, hA, hP, hK, hQ, d1, d2, d6, o1, o2, o6, o7, i64_32, e2, t1, t2, i64_lit, i32_lit, i32_add, i32_mul, i32_tn, i32_sub, le_t, le_f, lt_t, lt_f, eq_t, eq_f, eq_rfl, inR_t, ↓ob_x, obx_s, ↓bnd_s, ↓oT_x, oTx_s, ↓ite_x, itx_T, itx_F, ↓reduceIte, not_true_eq_false, not_false_eq_true, true_and, and_true, Nat.reduceAdd, Nat.reduceMul, Nat.reduceSub, Nat.reduceEqDiff, isB0, isB1, Int32.neg_neg, Nat.zero_add, Nat.add_zero, Nat.mul_zero, Nat.mul_one, Nat.zero_mul]
theorem rds_e {sa : SA} (hL : sa.2.2.1 ≤ 260) {s : LST} {i : Nat} {g gM : Mem} (h : WLD sa s i g gM) (v : IV sa 0 0 s) {N : Nat} (hN : 6000 ≤ N) : ∃ g', L_law_L306 N sa N (i32 (mnN sa)) (i32 0) g = some (i32 1, g') := by
  obtain ⟨M, hM⟩ : ∃ M, N = M + 1 + 1 + 1 + 1 + 1 + 1 + 1 := ⟨N - 7, by omega⟩
  obtain ⟨g1, s1, m1, e1, h1, v1⟩ := rd_e hL h v (by omega) hN (M + 1 + 1 + 1 + 1 + 1 + 1)
  obtain ⟨g2, s2, m2, e2, h2, v2⟩ := rd_e hL h1 v1 (by omega) hN (M + 1 + 1 + 1 + 1 + 1)
  obtain ⟨g3, s3, m3, e3, h3, v3⟩ := rd_e hL h2 v2 (by omega) hN (M + 1 + 1 + 1 + 1)
  obtain ⟨g4, s4, m4, e4, h4, v4⟩ := rd_e hL h3 v3 (by omega) hN (M + 1 + 1 + 1)
  obtain ⟨g5, s5, m5, e5, h5, v5⟩ := rd_e hL h4 v4 (by omega) hN (M + 1 + 1)
  obtain ⟨g6, s6, m6, e6, h6, v6⟩ := rd_e hL h5 v5 (by omega) hN (M + 1)
  obtain ⟨g7, e7, f7⟩ := sm_e hL hN h6 (fun j _ => v6.2.2 j)
  have e8 := er_e (WLD_SI h6 f7) N M (i32 (mnN sa)) e7
  refine ⟨g7, ?_⟩
  have ef : L_law_L306 N sa N (i32 (mnN sa)) (i32 0) g = L_law_L306 N sa (M + 1 + 1 + 1 + 1 + 1 + 1 + 1) (i32 (mnN sa)) (i32 0) g := by rw [← hM]
  rw [ef]
  exact e1.trans (e2.trans (e3.trans (e4.trans (e5.trans (e6.trans e8)))))
