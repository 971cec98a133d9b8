/-! the divers breathe; an hour whole; hours -/
theorem hsI_n (b : Nat) (gI gM : Mem) (i t c : Nat) (h : ¬ c = b + 1) : (hsI b gI gM i t).1 c = gI.1 c := stA_ne _ _ _ _ h
theorem hbI_n (b : Nat) (gI gM : Mem) (p c : Nat) (h : ¬ c = b + 8) : (hbI b gI gM p).1 c = gI.1 c := stA_ne _ _ _ _ h
theorem hbI_0 (b : Nat) (gI gM : Mem) : SI (hbI b gI gM 0) gI := ⟨fun c _ => by
  by_cases hc : c = b + 8
  · subst hc
    rw [hbI, stA_eq]
    funext j
    rw [if_neg (by omega)]
  · rw [hbI_n _ _ _ _ _ hc], rfl⟩
theorem hsM_n (gM : Mem) (i t c : Nat) (h : ¬ c = 5) : (hsM gM i t).1 c = gM.1 c := stA_ne _ _ _ _ h
theorem hbM_n (gM : Mem) (p c : Nat) (h : ¬ c = 3) : (hbM gM p).1 c = gM.1 c := stA_ne _ _ _ _ h
theorem brW_fr {g g' : Mem} (a : g'.1 1 = g.1 1) (b : g'.1 2 = g.1 2) (c : g'.1 3 = g.1 3) (p : Nat) : brW g' p = brW g p := by
  unfold brW; rw [a, b, c]
/-- breathing needs the divers' rows to be like, and breath from 0 on -/
def Bq (b d : Nat) (gI gM : Mem) : Prop := 42 ≤ b ∧ d ≤ 6 ∧ gI.1 b 9 = i32 d ∧ gM.1 0 0 = i32 d ∧ (∀ p, p < 6 → gI.1 (b + 8) p = gM.1 3 (2 * p)) ∧ (∀ p, p < d → gI.1 (b + 6) p = gM.1 1 p) ∧ (∀ p, p < d → gI.1 (b + 7) p = gM.1 2 p) ∧
  (∀ p, p < 6 → NB 99 (gM.1 3 (2 * p))) ∧ (∀ p, p < d → NB 9 (gM.1 2 p))
set_option maxRecDepth 100000 in
theorem brs_I {N b d : Nat} {gI gM : Mem} (h : Bq b d gI gM) (a x : Int32) : ∀ (n p fu : Nat) (g1 : Mem), p + n = d → n < fu → SI (hbI b gI gM p) g1 →
    ∃ g2, X1_passHours_G2 N b a fu 2 x (i32 p) g1 = X1_passHours_G2 N b a (fu - (n + 1)) 0 (x + i32 1) (i32 0) g2 ∧ SI (stI (hbI b gI gM d) b 10 (gI.1 b 10 + i32 1)) g2
  | 0, p, fu, g1, h1, h2, hs => by
    obtain ⟨f, rfl⟩ : ∃ q, fu = q + 1 := ⟨fu - 1, by omega⟩
    obtain ⟨a1, a2, b9, m0, b8, b6, b7, n3, n2⟩ := id h
    have : p = d := by omega
    subst this
    have c0 : g1.1 b = gI.1 b := by rw [SI_hi hs b (by omega), hbI_n _ _ _ _ _ (by omega)]
    refine ⟨stI g1 b 10 (gI.1 b 10 + i32 1), ?_, SI_st2 hs b 10 _ (by omega)⟩
    simp -dsimp -implicitDefEqProofs (disch := omega) only [X1_passHours_G2, i32_lit, i32_add, i32_mul, i32_tn, i32_sub, le_t, le_f, lt_t, lt_f, eq_t, eq_f, eq_rfl, inR_t, ↓ob_x, obx_s, ↓bnd_s, ↓oT_x, oTx_s, ↓ite_x, itx_T, itx_F, ↓reduceIte, not_true_eq_false, not_false_eq_true, true_and, and_true, Nat.reduceAdd, Nat.reduceMul, Nat.reduceSub, Nat.reduceEqDiff, isB0, isB1, Int32.neg_neg, Nat.zero_add, Nat.add_zero, Nat.mul_zero, Nat.mul_one, Nat.zero_mul, c0, b9, Nat.add_sub_cancel]
  | n + 1, p, fu, g1, h1, h2, hs => by
    obtain ⟨f, rfl⟩ : ∃ q, fu = q + 1 := ⟨fu - 1, by omega⟩
    obtain ⟨a1, a2, b9, m0, b8, b6, b7, n3, n2⟩ := id h
    have c0 : g1.1 b = gI.1 b := by rw [SI_hi hs b (by omega), hbI_n _ _ _ _ _ (by omega)]
    have c6 : g1.1 (b + 6) p = gM.1 1 p := by rw [SI_hi hs (b + 6) (by omega), hbI_n _ _ _ _ _ (by omega), b6 p (by omega)]
    have c7 : g1.1 (b + 7) p = gM.1 2 p := by rw [SI_hi hs (b + 7) (by omega), hbI_n _ _ _ _ _ (by omega), b7 p (by omega)]
    have c8 : g1.1 (b + 8) p = gM.1 3 (2 * p) := by rw [SI_hi hs (b + 8) (by omega), hbI, stA_eq, if_neg (by omega), b8 p (by omega)]
    have e : mn (gM.1 3 (2 * p) + brK (gM.1 1 p) (gM.1 2 p)) = brW gM p := mn_cl (NB_up (NB_add (n3 p (by omega)) (brK_nb (n2 p (by omega)))) (by omega))
    obtain ⟨g3, s1, s2⟩ := brs_I h a x n (p + 1) f (stI g1 (b + 8) p (brW gM p)) (by omega) (by omega) (SI_upd hs (by omega) (row_t _ _ p))
    refine ⟨g3, ?_, s2⟩
    rw [show f + 1 - (n + 1 + 1) = f - (n + 1) by omega, ← s1]
    simp -dsimp -implicitDefEqProofs (disch := omega) only [X1_passHours_G2, ↓mn_def, i32_lit, i32_add, i32_mul, i32_tn, i32_sub, le_t, le_f, lt_t, lt_f, eq_t, eq_f, eq_rfl, inR_t, ↓ob_x, obx_s, ↓bnd_s, ↓oT_x, oTx_s, ↓ite_x, itx_T, itx_F, ↓reduceIte, not_true_eq_false, not_false_eq_true, true_and, and_true, Nat.reduceAdd, Nat.reduceMul, Nat.reduceSub, Nat.reduceEqDiff, isB0, isB1, Int32.neg_neg, Nat.zero_add, Nat.add_zero, Nat.mul_zero, Nat.mul_one, Nat.zero_mul, c0, b9, c6, c7, c8, br_I, e]
theorem row_2 (F : Nat → Int32) (A : Nat → Int32) (p : Nat) : (fun j => if j % 2 = 0 ∧ j / 2 < p + 1 then F (j / 2) else A j) = upd (fun j => if j % 2 = 0 ∧ j / 2 < p then F (j / 2) else A j) (2 * p) (F p) := by
  funext j
  rw [upd_j]
  by_cases h : j = 2 * p
  · subst h; rw [if_pos rfl, if_pos (by omega), show 2 * p / 2 = p by omega]
  · rw [if_neg h]
    by_cases h2 : j % 2 = 0 ∧ j / 2 < p
    · rw [if_pos h2, if_pos (by omega)]
    · rw [if_neg h2, if_neg (by omega)]
set_option maxRecDepth 100000 in
theorem brs_M {N d : Nat} {gM : Mem} (hd : d ≤ 6) (m0 : gM.1 0 0 = i32 d) : ∀ (n p fu : Nat) (g1 : Mem), p + n = d → n < fu → SM (hbM gM p) g1 →
    ∃ g2, X6_hourOf_L46 N fu (i32 p) g1 = some (i32 0, g2) ∧ SM (stI (hbM gM d) 0 6 (gM.1 0 6 + i32 1)) g2
  | 0, p, fu, g1, h1, h2, hs => by
    obtain ⟨f, rfl⟩ : ∃ q, fu = q + 1 := ⟨fu - 1, by omega⟩
    have : p = d := by omega
    subst this
    have c0 : g1.1 0 = gM.1 0 := by rw [SM_r hs 0 (by omega), hbM_n _ _ _ (by omega)]
    refine ⟨stI g1 0 6 (gM.1 0 6 + i32 1), ?_, SM_st2 hs 0 6 _ (by omega)⟩
    simp -dsimp -implicitDefEqProofs (disch := omega) only [X6_hourOf_L46, i32_lit, i32_add, i32_mul, i32_tn, i32_sub, le_t, le_f, lt_t, lt_f, eq_t, eq_f, eq_rfl, inR_t, ↓ob_x, obx_s, ↓bnd_s, ↓oT_x, oTx_s, ↓ite_x, itx_T, itx_F, ↓reduceIte, not_true_eq_false, not_false_eq_true, true_and, and_true, Nat.reduceAdd, Nat.reduceMul, Nat.reduceSub, Nat.reduceEqDiff, isB0, isB1, Int32.neg_neg, Nat.zero_add, Nat.add_zero, Nat.mul_zero, Nat.mul_one, Nat.zero_mul, c0, m0]
  | n + 1, p, fu, g1, h1, h2, hs => by
    obtain ⟨f, rfl⟩ : ∃ q, fu = q + 1 := ⟨fu - 1, by omega⟩
    have c0 : g1.1 0 = gM.1 0 := by rw [SM_r hs 0 (by omega), hbM_n _ _ _ (by omega)]
    have c1 : g1.1 1 = gM.1 1 := by rw [SM_r hs 1 (by omega), hbM_n _ _ _ (by omega)]
    have c2 : g1.1 2 = gM.1 2 := by rw [SM_r hs 2 (by omega), hbM_n _ _ _ (by omega)]
    have c3 : g1.1 3 (2 * p) = gM.1 3 (2 * p) := by rw [SM_r hs 3 (by omega), hbM, stA_eq, if_neg (by omega)]
    obtain ⟨g3, s1, s2⟩ := brs_M (N := N) hd m0 n (p + 1) f (stI g1 3 (2 * p) (brW gM p)) (by omega) (by omega) (SM_upd hs (by omega) (row_2 _ _ p))
    refine ⟨g3, ?_, s2⟩
    rw [← s1]
    have e := br_M N p g1 (by omega)
    rw [c1, c2] at e
    have e2 := cl_w N (gM.1 3 (2 * p) + brK (gM.1 1 p) (gM.1 2 p)) g1
    simp -dsimp -implicitDefEqProofs (disch := omega) only [X6_hourOf_L46, i32_lit, i32_add, i32_mul, i32_tn, i32_sub, le_t, le_f, lt_t, lt_f, eq_t, eq_f, eq_rfl, inR_t, ↓ob_x, obx_s, ↓bnd_s, ↓oT_x, oTx_s, ↓ite_x, itx_T, itx_F, ↓reduceIte, not_true_eq_false, not_false_eq_true, true_and, and_true, Nat.reduceAdd, Nat.reduceMul, Nat.reduceSub, Nat.reduceEqDiff, isB0, isB1, Int32.neg_neg, Nat.zero_add, Nat.add_zero, Nat.mul_zero, Nat.mul_one, Nat.zero_mul, c0, m0, c3, e, e2, brW]
theorem Sc_Bq {b d i : Nat} {gI gM : Mem} (h : Sc b d i gI gM) (q : Bd d gM) : Bq b d (hsI b gI gM i 6) (hsM gM i 6) := by
  obtain ⟨⟨a1, a2, a3⟩, b1, b2, b3, b4, b5, b6, b7, b8, b9, b10, b11, b12, b13, b14⟩ := h
  obtain ⟨q1, q2, q3, q4, q5, q6, q7, q8⟩ := q
  refine ⟨a1, a2, ?_, ?_, ?_, ?_, ?_, ?_, ?_⟩
  · rw [hsI_n _ _ _ _ _ _ (by omega)]; exact b7
  · rw [hsM_n _ _ _ _ (by omega)]; exact b8
  · rw [hsI_n _ _ _ _ _ _ (by omega), hsM_n _ _ _ _ (by omega)]; exact b6
  · rw [hsI_n _ _ _ _ _ _ (by omega), hsM_n _ _ _ _ (by omega)]; exact b9
  · rw [hsI_n _ _ _ _ _ _ (by omega), hsM_n _ _ _ _ (by omega)]; exact b10
  · rw [hsM_n _ _ _ _ (by omega)]; exact q6
  · rw [hsM_n _ _ _ _ (by omega)]; exact q8
def hrI' (b : Nat) (gI gM : Mem) (i d : Nat) : Mem := stI (hbI b (hsI b gI gM i 6) (hsM gM i 6) d) b 10 (gM.1 0 6 + i32 1)
set_option maxRecDepth 100000 in
/-- one hour in the class's loop -/
theorem hour_I {N b d i : Nat} (hN : 6000 ≤ N) {gI gM : Mem} (h : Sc b d i gI gM) (q : Bd d gM) (a x fu : Nat) (y : Int32) (hx : x < a) (ha : a < 2147483648) (hf : 20 < fu) :
    ∃ g2, X1_passHours_G2 N b (i32 a) fu 0 (i32 x) y gI = X1_passHours_G2 N b (i32 a) (fu - (d + 9)) 0 (i32 (x + 1)) (i32 0) g2 ∧ SI (hrI' b gI gM i d) g2 := by
  obtain ⟨f, rfl⟩ : ∃ q, fu = q + 1 := ⟨fu - 1, by omega⟩
  obtain ⟨g1, r1, r2⟩ := sky_I hN h (i32 a) (i32 x) 6 0 f gI (by omega) (by omega) ⟨fun c _ => by
    by_cases hc : c = b + 1
    · subst hc; rw [hsI, stA_eq]; rfl
    · rw [hsI_n _ _ _ _ _ _ hc], rfl⟩
  have hd := h.1.2.1
  obtain ⟨g2, s1, s2⟩ := brs_I (N := N) (Sc_Bq h q) (i32 a) (i32 x) d 0 (f - 7) g1 (by omega) (by omega) (SI_tr (hbI_0 b (hsI b gI gM i 6) (hsM gM i 6)) r2)
  refine ⟨g2, ?_, ?_⟩
  · rw [show f + 1 - (d + 9) = f - 7 - (d + 1) by omega, ← i32_add x 1, ← s1, ← r1]
    simp -dsimp -implicitDefEqProofs (disch := omega) only [X1_passHours_G2, i32_lit, i32_add, i32_mul, i32_tn, i32_sub, le_t, le_f, lt_t, lt_f, eq_t, eq_f, eq_rfl, inR_t, ↓ob_x, obx_s, ↓bnd_s, ↓oT_x, oTx_s, ↓ite_x, itx_T, itx_F, ↓reduceIte, not_true_eq_false, not_false_eq_true, true_and, and_true, Nat.reduceAdd, Nat.reduceMul, Nat.reduceSub, Nat.reduceEqDiff, isB0, isB1, Int32.neg_neg, Nat.zero_add, Nat.add_zero, Nat.mul_zero, Nat.mul_one, Nat.zero_mul]
  · rw [hsI_n _ _ _ _ _ _ (by omega), h.2.2.2.2.2.2.2.2.2.2.2.1] at s2
    exact s2
theorem hour_M {N d i : Nat} (hN : 6000 ≤ N) {gI gM : Mem} (hT : TxI i gI gM) (hi : i < 6) (hr : gM.1 0 12 = i32 i) (hd : d ≤ 6) (m0 : gM.1 0 0 = i32 d) : ∃ g2, X6_hourOf N gM = some (i32 0, g2) ∧ SM (hrM gM i d) g2 := by
  obtain ⟨g1, r1, r2⟩ := sky_M hN hT hi hr 6 0 N gM (by omega) (by omega) (fun c _ _ => by
    by_cases hc : c = 5
    · subst hc; rw [hsM, stA_eq]; rfl
    · rw [hsM_n _ _ _ _ hc])
  obtain ⟨g2, s1, s2⟩ := brs_M (N := N) (gM := hsM gM i 6) hd (by rw [hsM_n _ _ _ _ (by omega)]; exact m0) d 0 N g1 (by omega) (by omega) (SM_tr (fun c _ _ => by
    by_cases hc : c = 3
    · subst hc
      rw [hbM, stA_eq]
      funext j
      rw [if_neg (by omega)]
    · rw [hbM_n _ _ _ hc]) r2)
  refine ⟨g2, ?_, ?_⟩
  · have e : X6_hourOf N gM = X6_hourOf_L2 N N (i32 0) gM := rfl
    rw [e, r1, s1]
  · rw [hsM_n _ _ _ _ (by omega)] at s2
    exact s2
/-- the hour keeps the two alike -/
theorem hour_Sc {b d i : Nat} {gI gM : Mem} (h : Sc b d i gI gM) (q : Bd d gM) : Sc b d i (hrI' b gI gM i d) (hrM gM i d) ∧ Bd d (hrM gM i d) := by
  have hq := Sc_Bq h q
  obtain ⟨⟨a1, a2, a3⟩, b1, b2, b3, b4, b5, b6, b7, b8, b9, b10, b11, b12, b13, b14⟩ := h
  obtain ⟨q1, q2, q3, q4, q5, q6, q7, q8⟩ := q
  have I1 : ∀ c, ¬ c = b → ¬ c = b + 1 → ¬ c = b + 8 → (hrI' b gI gM i d).1 c = gI.1 c := fun c h1 h2 h3 => by
    rw [hrI', stI_ne _ _ _ _ _ h1, hbI_n _ _ _ _ _ h3, hsI_n _ _ _ _ _ _ h2]
  have M1 : ∀ c, ¬ c = 0 → ¬ c = 5 → ¬ c = 3 → (hrM gM i d).1 c = gM.1 c := fun c h1 h2 h3 => by
    rw [hrM, stI_ne _ _ _ _ _ h1, hbM_n _ _ _ h3, hsM_n _ _ _ _ h2]
  have M0 : ∀ j, ¬ j = 6 → (hrM gM i d).1 0 j = gM.1 0 j := fun j hj => by
    rw [hrM, stI_nj _ _ _ _ _ hj, hbM_n _ _ _ (by omega), hsM_n _ _ _ _ (by omega)]
  have M3 : ∀ p, p < 6 → (hrM gM i d).1 3 (2 * p) = if p < d then brW (hsM gM i 6) p else gM.1 3 (2 * p) := fun p hp => by
    rw [hrM, stI_ne _ _ _ _ _ (by omega), hbM, stA_eq, hsM_n _ _ _ _ (by omega), show 2 * p / 2 = p by omega]
    by_cases h : p < d
    · rw [if_pos ⟨by omega, h⟩, if_pos h]
    · rw [if_neg (by omega), if_neg h]
  have M5 : ∀ t, t < 6 → (hrM gM i d).1 5 t = fdW gM i (gM.1 5 t) (i32 t) (gM.1 0 6) := fun t ht => by
    rw [hrM, stI_ne _ _ _ _ _ (by omega), hbM_n _ _ _ (by omega), hsM, stA_eq, if_pos ht]
  refine ⟨⟨⟨a1, a2, a3⟩, ?_, ?_, ?_, ?_, ?_, ?_, ?_, ?_, ?_, ?_, ?_, ?_, ?_, ?_⟩, ?_, ?_, ?_, ?_, ?_, ?_, ?_, ?_⟩
  · intro t ht
    rw [M5 t ht, hrI', stI_ne _ _ _ _ _ (by omega), hbI_n _ _ _ _ _ (by omega), hsI, stA_eq, if_pos ht]
  · rw [I1 _ (by omega) (by omega) (by omega), M1 4 (by omega) (by omega) (by omega)]; exact b2
  · rw [I1 _ (by omega) (by omega) (by omega), M1 4 (by omega) (by omega) (by omega)]; exact b3
  · rw [I1 _ (by omega) (by omega) (by omega), M1 4 (by omega) (by omega) (by omega)]; exact b4
  · rw [I1 _ (by omega) (by omega) (by omega), M1 4 (by omega) (by omega) (by omega)]; exact b5
  · intro p hp
    rw [M3 p hp, hrI', stI_ne _ _ _ _ _ (by omega), hbI, stA_eq, hsI_n _ _ _ _ _ _ (by omega), b6 p hp]
  · rw [hrI', stI_nj _ _ _ _ _ (by omega), hbI_n _ _ _ _ _ (by omega), hsI_n _ _ _ _ _ _ (by omega)]; exact b7
  · rw [M0 0 (by omega)]; exact b8
  · rw [I1 _ (by omega) (by omega) (by omega), M1 1 (by omega) (by omega) (by omega)]; exact b9
  · rw [I1 _ (by omega) (by omega) (by omega), M1 2 (by omega) (by omega) (by omega)]; exact b10
  · rw [hrI', stI_eq, hrM, stI_eq]
  · exact b12
  · rw [M0 12 (by omega)]; exact b13
  · exact TxI_fr b14 (I1 _ (by omega) (by omega) (by omega)) (I1 _ (by omega) (by omega) (by omega)) (M1 7 (by omega) (by omega) (by omega)) (M1 8 (by omega) (by omega) (by omega))
  · intro t ht
    rw [M5 t ht]
    exact mx_nb (q1 t ht) (tv_nb _ _ _ _)
  · rw [M1 4 (by omega) (by omega) (by omega)]; exact q2
  · rw [M1 4 (by omega) (by omega) (by omega)]; exact q3
  · rw [M1 4 (by omega) (by omega) (by omega)]; exact q4
  · rw [M1 4 (by omega) (by omega) (by omega)]; exact q5
  · intro p hp
    rw [M3 p hp]
    by_cases h : p < d
    · rw [if_pos h]; exact cl_nb _
    · rw [if_neg h]; exact q6 p hp
  · rw [M1 1 (by omega) (by omega) (by omega)]; exact q7
  · rw [M1 2 (by omega) (by omega) (by omega)]; exact q8
