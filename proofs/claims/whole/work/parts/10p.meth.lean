/-! opened, laws, skies -/
theorem Sh_get {s m : Nat} {gI gM : Mem} (h : ShS s m gI gM) : s < 4 ∧ gM.1 12 s = i32 m := ⟨h.1, h.2.2.2.1⟩
theorem EqM_4 {g g' : Mem} (h : EqM g g') (j : Nat) (hj : j < 48) : g'.1 4 j = g.1 4 j := h.2.2.2.1 j hj
theorem EqM_open {gM u : Mem} {s k : Nat} (h : EqM (loM gM s k) u) (hq : gM.1 4 (4 * k + 3) = i32 1) : EqM gM (stI (stI u 5 s (gM.1 5 s)) 4 (4 * k + 3) (i32 1)) := by
  obtain ⟨h1, h2, h3, h4, h5⟩ := h
  unfold loM at h1 h2 h3 h4 h5
  refine ⟨fun c c0 c3 c4 c5 c17 c18 c19 => ?_, fun j j1 j2 => ?_, fun j hj => ?_, fun j hj => ?_, fun j hj => ?_⟩
  · rw [stI_ne _ _ _ _ _ c4, stI_ne _ _ _ _ _ c5, h1 c c0 c3 c4 c5 c17 c18 c19, stI_ne _ _ _ _ _ c4, stI_ne _ _ _ _ _ c5]
  · rw [stI_ne _ _ _ _ _ (by omega), stI_ne _ _ _ _ _ (by omega), h2 j j1 j2, stI_ne _ _ _ _ _ (by omega), stI_ne _ _ _ _ _ (by omega)]
  · rw [stI_ne _ _ _ _ _ (by omega), stI_ne _ _ _ _ _ (by omega), h3 j hj, stI_ne _ _ _ _ _ (by omega), stI_ne _ _ _ _ _ (by omega)]
  · by_cases e : j = 4 * k + 3
    · subst e; rw [stI_eq, hq]
    · rw [stI_nj _ _ _ _ _ e, stI_ne _ _ _ _ _ (by omega), h4 j hj, stI_nj _ _ _ _ _ e, stI_ne _ _ _ _ _ (by omega)]
  · rw [stI_ne _ _ _ _ _ (by omega)]
    by_cases e : j = s
    · subst e; rw [stI_eq]
    · rw [stI_nj _ _ _ _ _ e, h5 j hj, stI_ne _ _ _ _ _ (by omega), stI_nj _ _ _ _ _ e]
set_option maxRecDepth 100000 in
theorem opened_l {N d i c s m t : Nat} (hN : 6000 ≤ N) (ht : t < 6) : ∀ (n j fu fM : Nat) (x : Int32) (gI gM : Mem), j + n = 12 → n < fu → n < fM → RR d i c gI gM → ShS s m gI gM →
    ∃ r gI' gM', X5_opened_L19 N (i32 s) (i32 t) fu x (i32 j) gI = some (r, gI') ∧ X6_opened_L19 N (i32 s) (i32 t) fM x (i32 j) gM = some (r, gM') ∧ RR d i c gI' gM'
  | 0, j, fu, fM, x, gI, gM, h1, h2, h3, hR, S0 => by
    obtain ⟨fu, rfl⟩ : ∃ q, fu = q + 1 := ⟨fu - 1, by omega⟩
    obtain ⟨fM, rfl⟩ : ∃ q, fM = q + 1 := ⟨fM - 1, by omega⟩
    exact ⟨x, gI, gM, by simp -dsimp -implicitDefEqProofs (disch := omega) only [X5_opened_L19, i32_lit, i32_add, i32_mul, i32_tn, i32_sub, le_t, le_f, lt_t, lt_f, eq_t, eq_f, eq_rfl, inR_t, ↓ob_x, obx_s, ↓bnd_s, ↓oT_x, oTx_s, ↓ite_x, itx_T, itx_F, ↓reduceIte, not_true_eq_false, not_false_eq_true, true_and, and_true, Nat.reduceAdd, Nat.reduceMul, Nat.reduceSub, Nat.reduceEqDiff, isB0, isB1, Int32.neg_neg, Nat.zero_add, Nat.add_zero, Nat.mul_zero, Nat.mul_one, Nat.zero_mul], by simp -dsimp -implicitDefEqProofs (disch := omega) only [X6_opened_L19, i32_lit, i32_add, i32_mul, i32_tn, i32_sub, le_t, le_f, lt_t, lt_f, eq_t, eq_f, eq_rfl, inR_t, ↓ob_x, obx_s, ↓bnd_s, ↓oT_x, oTx_s, ↓ite_x, itx_T, itx_F, ↓reduceIte, not_true_eq_false, not_false_eq_true, true_and, and_true, Nat.reduceAdd, Nat.reduceMul, Nat.reduceSub, Nat.reduceEqDiff, isB0, isB1, Int32.neg_neg, Nat.zero_add, Nat.add_zero, Nat.mul_zero, Nat.mul_one, Nat.zero_mul], hR⟩
  | n + 1, j, fu, fM, x, gI, gM, h1, h2, h3, hR, S0 => by
    obtain ⟨fu, rfl⟩ : ∃ q, fu = q + 1 := ⟨fu - 1, by omega⟩
    obtain ⟨fM, rfl⟩ : ∃ q, fM = q + 1 := ⟨fM - 1, by omega⟩
    have hs := S0.1
    obtain ⟨⟨hS, hB, hG, hH⟩, _⟩ := id hR
    have b5 : gI.1 47 j = gM.1 4 (4 * j + 3) := hS.2.2.2.2.2.1 j (by omega)
    by_cases hq : gM.1 4 (4 * j + 3) = i32 1
    · obtain ⟨g1, r1, r2, r3⟩ := becomes_I (N := N) (b := 52) (a := 42) (i := i) (gI := gI) (by omega) hS.2.2.2.2.2.2.2.2.2.2.2.2.1 hS.1.2.2
      have hS1 := Sc_LK hS (by omega) r2 r3
      obtain ⟨q, g2, hq6, es, u1, u2, u3⟩ := loose_sim (N := N) hS1 hB (by omega : j < 12)
      have S1 := ShS_fr (b := 52) S0 (by omega) (FI_tr r2 u3.2.2.1) u3.2.2.2.1
      obtain ⟨g3, v1, v2⟩ := unlike_I (N := N) (b := 52) hN (by omega) hS.1.2.2 ht S1 (Sc_p u3.1).1 u3.1.2.2.2.2.2.2.2.2.2.2.2.2.1
      obtain ⟨m3, w1, w2⟩ := unlike_M hN hs S0.2.1 ht (Sc_p u3.1) S1.2.2.2.1
      rw [u3.1.2.1 t ht, u3.1.2.2.2.2.2.2.2.2.2.2.2.1] at v1
      have E := EqM_open w2 hq
      have hR2 := RR_th hR (FI_tr (FI_tr r2 u3.2.2.1) (FI_SI v2)) E
      have S2 := ShS_E (b := 52) S0 (by omega) (FI_tr (FI_tr r2 u3.2.2.1) (FI_SI v2)) E
      by_cases hc : unF (loM gM q j) i s t 0 m ((loM gM q j).1 5 t) ((loM gM q j).1 0 6) = -(i32 1)
      · obtain ⟨r, g4, m4, y1, y2, y3⟩ := opened_l hN ht n (j + 1) fu fM (x ||| (i32 1 <<< (i32 j &&& i32 31))) g3 _ (by omega) (by omega) (by omega) hR2 S2
        exact ⟨r, g4, m4, by simp -dsimp -implicitDefEqProofs (disch := omega) only [X5_opened_L19, b5, hq, r1, u1, v1, hc, y1, i32_lit, i32_add, i32_mul, i32_tn, i32_sub, le_t, le_f, lt_t, lt_f, eq_t, eq_f, eq_rfl, inR_t, ↓ob_x, obx_s, ↓bnd_s, ↓oT_x, oTx_s, ↓ite_x, itx_T, itx_F, ↓reduceIte, not_true_eq_false, not_false_eq_true, true_and, and_true, Nat.reduceAdd, Nat.reduceMul, Nat.reduceSub, Nat.reduceEqDiff, isB0, isB1, Int32.neg_neg, Nat.zero_add, Nat.add_zero, Nat.mul_zero, Nat.mul_one, Nat.zero_mul], by simp -dsimp -implicitDefEqProofs (disch := omega) only [X6_opened_L19, hq, es, u2, w1, hc, y2, i32_lit, i32_add, i32_mul, i32_tn, i32_sub, le_t, le_f, lt_t, lt_f, eq_t, eq_f, eq_rfl, inR_t, ↓ob_x, obx_s, ↓bnd_s, ↓oT_x, oTx_s, ↓ite_x, itx_T, itx_F, ↓reduceIte, not_true_eq_false, not_false_eq_true, true_and, and_true, Nat.reduceAdd, Nat.reduceMul, Nat.reduceSub, Nat.reduceEqDiff, isB0, isB1, Int32.neg_neg, Nat.zero_add, Nat.add_zero, Nat.mul_zero, Nat.mul_one, Nat.zero_mul], y3⟩
      · obtain ⟨r, g4, m4, y1, y2, y3⟩ := opened_l hN ht n (j + 1) fu fM x g3 _ (by omega) (by omega) (by omega) hR2 S2
        exact ⟨r, g4, m4, by simp -dsimp -implicitDefEqProofs (disch := omega) only [X5_opened_L19, b5, hq, r1, u1, v1, hc, y1, i32_lit, i32_add, i32_mul, i32_tn, i32_sub, le_t, le_f, lt_t, lt_f, eq_t, eq_f, eq_rfl, inR_t, ↓ob_x, obx_s, ↓bnd_s, ↓oT_x, oTx_s, ↓ite_x, itx_T, itx_F, ↓reduceIte, not_true_eq_false, not_false_eq_true, true_and, and_true, Nat.reduceAdd, Nat.reduceMul, Nat.reduceSub, Nat.reduceEqDiff, isB0, isB1, Int32.neg_neg, Nat.zero_add, Nat.add_zero, Nat.mul_zero, Nat.mul_one, Nat.zero_mul], by simp -dsimp -implicitDefEqProofs (disch := omega) only [X6_opened_L19, hq, es, u2, w1, hc, b_or0, y2, i32_lit, i32_add, i32_mul, i32_tn, i32_sub, le_t, le_f, lt_t, lt_f, eq_t, eq_f, eq_rfl, inR_t, ↓ob_x, obx_s, ↓bnd_s, ↓oT_x, oTx_s, ↓ite_x, itx_T, itx_F, ↓reduceIte, not_true_eq_false, not_false_eq_true, true_and, and_true, Nat.reduceAdd, Nat.reduceMul, Nat.reduceSub, Nat.reduceEqDiff, isB0, isB1, Int32.neg_neg, Nat.zero_add, Nat.add_zero, Nat.mul_zero, Nat.mul_one, Nat.zero_mul], y3⟩
    · obtain ⟨r, g4, m4, y1, y2, y3⟩ := opened_l hN ht n (j + 1) fu fM x gI gM (by omega) (by omega) (by omega) hR S0
      exact ⟨r, g4, m4, by simp -dsimp -implicitDefEqProofs (disch := omega) only [X5_opened_L19, b5, hq, y1, i32_lit, i32_add, i32_mul, i32_tn, i32_sub, le_t, le_f, lt_t, lt_f, eq_t, eq_f, eq_rfl, inR_t, ↓ob_x, obx_s, ↓bnd_s, ↓oT_x, oTx_s, ↓ite_x, itx_T, itx_F, ↓reduceIte, not_true_eq_false, not_false_eq_true, true_and, and_true, Nat.reduceAdd, Nat.reduceMul, Nat.reduceSub, Nat.reduceEqDiff, isB0, isB1, Int32.neg_neg, Nat.zero_add, Nat.add_zero, Nat.mul_zero, Nat.mul_one, Nat.zero_mul], by simp -dsimp -implicitDefEqProofs (disch := omega) only [X6_opened_L19, hq, y2, i32_lit, i32_add, i32_mul, i32_tn, i32_sub, le_t, le_f, lt_t, lt_f, eq_t, eq_f, eq_rfl, inR_t, ↓ob_x, obx_s, ↓bnd_s, ↓oT_x, oTx_s, ↓ite_x, itx_T, itx_F, ↓reduceIte, not_true_eq_false, not_false_eq_true, true_and, and_true, Nat.reduceAdd, Nat.reduceMul, Nat.reduceSub, Nat.reduceEqDiff, isB0, isB1, Int32.neg_neg, Nat.zero_add, Nat.add_zero, Nat.mul_zero, Nat.mul_one, Nat.zero_mul], y3⟩
set_option maxRecDepth 100000 in
theorem e_opened {N : Nat} (hN : 6000 ≤ N) {gI gM : Mem} (h : R gI gM) (a1 a2 : Int32) : EQ (X5_opened N a1 a2 gI) (X6_opened N a1 a2 gM) := by
  obtain ⟨d, i, c, hR⟩ := h
  rcases ref_hours (N := N) hR a1 a2 with ⟨v, hv, hv2, r1, r2⟩ | ⟨s, m, t, rfl, rfl, ht, hm, S0, r1, r2⟩
  · have n0 := m_ne (x := 0) (v := v) (by omega)
    exact ⟨-(i32 v), gI, gM, by simp -dsimp -implicitDefEqProofs (disch := omega) only [X5_opened, r1, n0, i32_lit, i32_add, i32_mul, i32_tn, i32_sub, le_t, le_f, lt_t, lt_f, eq_t, eq_f, eq_rfl, inR_t, ↓ob_x, obx_s, ↓bnd_s, ↓oT_x, oTx_s, ↓ite_x, itx_T, itx_F, ↓reduceIte, not_true_eq_false, not_false_eq_true, true_and, and_true, Nat.reduceAdd, Nat.reduceMul, Nat.reduceSub, Nat.reduceEqDiff, isB0, isB1, Int32.neg_neg, Nat.zero_add, Nat.add_zero, Nat.mul_zero, Nat.mul_one, Nat.zero_mul], by simp -dsimp -implicitDefEqProofs (disch := omega) only [X6_opened, r2, n0, i32_lit, i32_add, i32_mul, i32_tn, i32_sub, le_t, le_f, lt_t, lt_f, eq_t, eq_f, eq_rfl, inR_t, ↓ob_x, obx_s, ↓bnd_s, ↓oT_x, oTx_s, ↓ite_x, itx_T, itx_F, ↓reduceIte, not_true_eq_false, not_false_eq_true, true_and, and_true, Nat.reduceAdd, Nat.reduceMul, Nat.reduceSub, Nat.reduceEqDiff, isB0, isB1, Int32.neg_neg, Nat.zero_add, Nat.add_zero, Nat.mul_zero, Nat.mul_one, Nat.zero_mul], d, i, c, hR⟩
  · obtain ⟨r, g1, m1, u1, u2, u3⟩ := opened_l hN ht 12 0 N N (i32 0) gI gM (by omega) (by omega) (by omega) hR S0
    exact ⟨r, g1, m1, by simp -dsimp -implicitDefEqProofs (disch := omega) only [X5_opened, r1, u1, i32_lit, i32_add, i32_mul, i32_tn, i32_sub, le_t, le_f, lt_t, lt_f, eq_t, eq_f, eq_rfl, inR_t, ↓ob_x, obx_s, ↓bnd_s, ↓oT_x, oTx_s, ↓ite_x, itx_T, itx_F, ↓reduceIte, not_true_eq_false, not_false_eq_true, true_and, and_true, Nat.reduceAdd, Nat.reduceMul, Nat.reduceSub, Nat.reduceEqDiff, isB0, isB1, Int32.neg_neg, Nat.zero_add, Nat.add_zero, Nat.mul_zero, Nat.mul_one, Nat.zero_mul], by simp -dsimp -implicitDefEqProofs (disch := omega) only [X6_opened, r2, u2, i32_lit, i32_add, i32_mul, i32_tn, i32_sub, le_t, le_f, lt_t, lt_f, eq_t, eq_f, eq_rfl, inR_t, ↓ob_x, obx_s, ↓bnd_s, ↓oT_x, oTx_s, ↓ite_x, itx_T, itx_F, ↓reduceIte, not_true_eq_false, not_false_eq_true, true_and, and_true, Nat.reduceAdd, Nat.reduceMul, Nat.reduceSub, Nat.reduceEqDiff, isB0, isB1, Int32.neg_neg, Nat.zero_add, Nat.add_zero, Nat.mul_zero, Nat.mul_one, Nat.zero_mul], d, i, c, u3⟩
/-- alike but for one number -/
theorem EqM_at {gM g : Mem} {r t : Nat} {v : Int32} (hr : (r = 5 ∧ t < 6) ∨ (r = 0 ∧ t = 12)) (w : Int32) (h : EqM (stI gM r t v) g) : EqM (stI gM r t w) (stI g r t w) := by
  obtain ⟨h1, h2, h3, h4, h5⟩ := h
  refine ⟨fun c c0 c3 c4 c5 c17 c18 c19 => ?_, fun j j1 j2 => ?_, fun j hj => ?_, fun j hj => ?_, fun j hj => ?_⟩
  · rw [stI_ne _ _ _ _ _ (by omega), stI_ne _ _ _ _ _ (by omega), h1 c c0 c3 c4 c5 c17 c18 c19, stI_ne _ _ _ _ _ (by omega)]
  · have e := h2 j j1 j2
    rw [stI_1] at e
    rw [stI_1, stI_1]
    by_cases e1 : 0 = r
    · subst e1
      rw [if_pos rfl] at e
      rw [if_pos rfl, if_pos rfl]
      by_cases e2 : t = j
      · subst e2; rw [if_pos rfl, if_pos rfl]
      · rw [if_neg (fun q => e2 q.symm)] at e
        rw [if_neg (fun q => e2 q.symm), if_neg (fun q => e2 q.symm)]; exact e
    · rw [if_neg e1] at e
      rw [if_neg e1, if_neg e1]; exact e
  · rw [stI_ne _ _ _ _ _ (by omega), stI_ne _ _ _ _ _ (by omega), h3 j hj, stI_ne _ _ _ _ _ (by omega)]
  · rw [stI_ne _ _ _ _ _ (by omega), stI_ne _ _ _ _ _ (by omega), h4 j hj, stI_ne _ _ _ _ _ (by omega)]
  · have e := h5 j hj
    rw [stI_1] at e
    rw [stI_1, stI_1]
    by_cases e1 : 5 = r
    · subst e1
      rw [if_pos rfl] at e
      rw [if_pos rfl, if_pos rfl]
      by_cases e2 : t = j
      · subst e2; rw [if_pos rfl, if_pos rfl]
      · rw [if_neg (fun q => e2 q.symm)] at e
        rw [if_neg (fun q => e2 q.symm), if_neg (fun q => e2 q.symm)]; exact e
    · rw [if_neg e1] at e
      rw [if_neg e1, if_neg e1]; exact e
theorem EqM_own (gM : Mem) (r t : Nat) : EqM gM (stI gM r t (gM.1 r t)) := by
  have e : ∀ c j, (stI gM r t (gM.1 r t)).1 c j = gM.1 c j := fun c j => by
    rw [stI_1]
    by_cases e1 : c = r
    · subst e1
      rw [if_pos rfl]
      by_cases e2 : j = t
      · subst e2; rw [if_pos rfl]
      · rw [if_neg e2]
    · rw [if_neg e1]
  exact ⟨fun c _ _ _ _ _ _ _ => funext fun j => e c j, fun j _ _ => e 0 j, fun j _ => e 3 j, fun j _ => e 4 j, fun j _ => e 5 j⟩
theorem EqM_own' (gM : Mem) (r t : Nat) : EqM (stI gM r t (gM.1 r t)) gM := by
  have h := EqM_own gM r t
  exact ⟨fun c c0 c3 c4 c5 c17 c18 c19 => (h.1 c c0 c3 c4 c5 c17 c18 c19).symm, fun j j1 j2 => (h.2.1 j j1 j2).symm, fun j hj => (h.2.2.1 j hj).symm, fun j hj => (h.2.2.2.1 j hj).symm, fun j hj => (h.2.2.2.2 j hj).symm⟩
theorem EqM_fin {gM g : Mem} {r t : Nat} {v : Int32} (hr : (r = 5 ∧ t < 6) ∨ (r = 0 ∧ t = 12)) (h : EqM (stI gM r t v) g) : EqM gM (stI g r t (gM.1 r t)) := EqM_tr (EqM_own gM r t) (EqM_at hr (gM.1 r t) h)
/-- what stands for the whole of what told hours need of the reference -/
theorem laws_M {N d s m t c : Nat} (hN : 6000 ≤ N) (ht : t < 6) {gI gM g : Mem} {v : Int32} (S0 : ShS s m gI gM) (hT : ∀ j, j < c → TxI j gI gM) (hc : c ≤ 6) (hd : d ≤ 6) (h0 : gM.1 0 0 = i32 d) (h : EqM (stI gM 0 12 v) g) (j : Nat) (hj : j < c) :
    ∃ g', X6_unlike N (i32 s) (i32 t) (stI g 0 12 (i32 j)) = some (unF gM j s t 0 m (gM.1 5 t) (gM.1 0 6), g') ∧ EqM (stI gM 0 12 (i32 j)) g' := by
  have E := EqM_at (Or.inr ⟨rfl, rfl⟩) (i32 j) h
  have e12 : ∀ e, ¬ e = 0 → (stI gM 0 12 (i32 j)).1 e = gM.1 e := fun e he => stI_ne _ _ _ _ _ he
  have M0 : MR j d gI (stI gM 0 12 (i32 j)) := ⟨TxI_fr (hT j hj) rfl rfl (e12 7 (by omega)) (e12 8 (by omega)), by omega, stI_eq _ _ _ _, hd, by rw [stI_nj _ _ _ _ _ (by omega)]; exact h0⟩
  obtain ⟨g', r1, r2⟩ := unlike_M hN S0.1 S0.2.1 ht (MR_E M0 E) (m := m) (s := s) (by rw [E.1 12 (by omega) (by omega) (by omega) (by omega) (by omega) (by omega) (by omega), e12 12 (by omega)]; exact S0.2.2.2.1)
  refine ⟨g', ?_, EqM_tr E r2⟩
  rw [r1, unF_fr (g := gM) (by rw [E.1 7 (by omega) (by omega) (by omega) (by omega) (by omega) (by omega) (by omega), e12 7 (by omega)]) (by rw [E.1 8 (by omega) (by omega) (by omega) (by omega) (by omega) (by omega) (by omega), e12 8 (by omega)]) (by rw [E.1 13 (by omega) (by omega) (by omega) (by omega) (by omega) (by omega) (by omega), e12 13 (by omega)]), E.2.2.2.2 t ht, e12 5 (by omega), E.2.1 6 (by omega) (by omega), stI_nj _ _ _ _ _ (by omega)]
set_option maxRecDepth 100000 in
theorem laws_l {N d s m t c : Nat} (hN : 6000 ≤ N) (ht : t < 6) {gI0 gM : Mem} (hT : ∀ j, j < c → TxI j gI0 gM) (hc : c ≤ 6) (hd : d ≤ 6) (h0 : gM.1 0 0 = i32 d) (h11 : gM.1 0 11 = i32 c) (S0 : ShS s m gI0 gM) (h72 : gI0.1 72 2 = i32 c) (h53 : gI0.1 53 t = gM.1 5 t) (h52 : gI0.1 52 10 = gM.1 0 6) : ∀ (n j fu fM : Nat) (x v w : Int32) (gI g : Mem), j + n = c → n < fu → n < fM → FI 52 gI0 gI → gI.1 53 = gI0.1 53 → gI.1 52 = gI0.1 52 → EqM (stI gM 0 12 v) g →
    ∃ r gI' gM' v', X5_laws_L30 N (i32 s) (i32 t) fu x (i32 j) gI = some (r, gI') ∧ X6_laws_L25 N (i32 s) (i32 t) fM w x (i32 j) g = some (r, stI gM' 0 12 w) ∧ FI 52 gI0 gI' ∧ EqM (stI gM 0 12 v') gM'
  | 0, j, fu, fM, x, v, w, gI, g, h1, h2, h3, f, k53, k52, h => by
    obtain ⟨fu, rfl⟩ : ∃ q, fu = q + 1 := ⟨fu - 1, by omega⟩
    obtain ⟨fM, rfl⟩ : ∃ q, fM = q + 1 := ⟨fM - 1, by omega⟩
    have c72 : gI.1 72 2 = i32 c := by rw [f.1 72 (by omega) (by omega)]; exact h72
    have c11 : g.1 0 11 = i32 c := by rw [h.2.1 11 (by omega) (by omega), stI_nj _ _ _ _ _ (by omega)]; exact h11
    exact ⟨x, gI, g, v, by simp -dsimp -implicitDefEqProofs (disch := omega) only [X5_laws_L30, c72, i32_lit, i32_add, i32_mul, i32_tn, i32_sub, le_t, le_f, lt_t, lt_f, eq_t, eq_f, eq_rfl, inR_t, ↓ob_x, obx_s, ↓bnd_s, ↓oT_x, oTx_s, ↓ite_x, itx_T, itx_F, ↓reduceIte, not_true_eq_false, not_false_eq_true, true_and, and_true, Nat.reduceAdd, Nat.reduceMul, Nat.reduceSub, Nat.reduceEqDiff, isB0, isB1, Int32.neg_neg, Nat.zero_add, Nat.add_zero, Nat.mul_zero, Nat.mul_one, Nat.zero_mul], by simp -dsimp -implicitDefEqProofs (disch := omega) only [X6_laws_L25, c11, i32_lit, i32_add, i32_mul, i32_tn, i32_sub, le_t, le_f, lt_t, lt_f, eq_t, eq_f, eq_rfl, inR_t, ↓ob_x, obx_s, ↓bnd_s, ↓oT_x, oTx_s, ↓ite_x, itx_T, itx_F, ↓reduceIte, not_true_eq_false, not_false_eq_true, true_and, and_true, Nat.reduceAdd, Nat.reduceMul, Nat.reduceSub, Nat.reduceEqDiff, isB0, isB1, Int32.neg_neg, Nat.zero_add, Nat.add_zero, Nat.mul_zero, Nat.mul_one, Nat.zero_mul], f, h⟩
  | n + 1, j, fu, fM, x, v, w, gI, g, h1, h2, h3, f, k53, k52, h => by
    obtain ⟨fu, rfl⟩ : ∃ q, fu = q + 1 := ⟨fu - 1, by omega⟩
    obtain ⟨fM, rfl⟩ : ∃ q, fM = q + 1 := ⟨fM - 1, by omega⟩
    have hs := S0.1
    have c72 : gI.1 72 2 = i32 c := by rw [f.1 72 (by omega) (by omega)]; exact h72
    have c11 : g.1 0 11 = i32 c := by rw [h.2.1 11 (by omega) (by omega), stI_nj _ _ _ _ _ (by omega)]; exact h11
    obtain ⟨m1, s1, s2⟩ := laws_M hN ht S0 hT hc hd h0 h j (by omega)
    have S1 := ShS_fr (b := 52) S0 (by omega) f (FM_rfl gM)
    have T1 : TxI j gI gM := TxI_fr (hT j (by omega)) (f.1 _ (by omega) (by omega)) (f.1 _ (by omega) (by omega)) rfl rfl
    obtain ⟨g1, r1, r2⟩ := unlike_I (N := N) (b := 52) (i := j) (gI := stR gI 52 (4 + 5 * j)) hN (by omega) (by omega) ht S1 T1 (by rw [stR_2, if_pos rfl])
    have e53 : (stR gI 52 (4 + 5 * j)).1 (52 + 1) t = gM.1 5 t := by
      rw [stR_1]; show gI.1 53 t = _; rw [k53]; exact h53
    have e52 : (stR gI 52 (4 + 5 * j)).1 52 10 = gM.1 0 6 := by
      rw [stR_1, k52]; exact h52
    rw [e53, e52] at r1
    have f1 : FI 52 gI0 g1 := FI_tr f (FI_tr (⟨fun _ _ _ => rfl, fun e he => by rw [stR_2, if_neg he]⟩ : FI 52 gI (stR gI 52 (4 + 5 * j))) (FI_SI r2))
    have k1 : g1.1 53 = gI0.1 53 := by rw [SI_hi r2 53 (by omega)]; exact k53
    have k2 : g1.1 52 = gI0.1 52 := by rw [SI_hi r2 52 (by omega)]; exact k52
    by_cases hx : unF gM j s t 0 m (gM.1 5 t) (gM.1 0 6) = -(i32 1)
    · obtain ⟨r, g2, m2, v2, y1, y2, y3, y4⟩ := laws_l hN ht hT hc hd h0 h11 S0 h72 h53 h52 n (j + 1) fu fM (x ||| (i32 1 <<< (i32 j &&& i32 31))) (i32 j) w g1 m1 (by omega) (by omega) (by omega) f1 k1 k2 s2
      exact ⟨r, g2, m2, v2, by simp -dsimp -implicitDefEqProofs (disch := omega) only [X5_laws_L30, c72, r1, hx, y1, i32_lit, i32_add, i32_mul, i32_tn, i32_sub, le_t, le_f, lt_t, lt_f, eq_t, eq_f, eq_rfl, inR_t, ↓ob_x, obx_s, ↓bnd_s, ↓oT_x, oTx_s, ↓ite_x, itx_T, itx_F, ↓reduceIte, not_true_eq_false, not_false_eq_true, true_and, and_true, Nat.reduceAdd, Nat.reduceMul, Nat.reduceSub, Nat.reduceEqDiff, isB0, isB1, Int32.neg_neg, Nat.zero_add, Nat.add_zero, Nat.mul_zero, Nat.mul_one, Nat.zero_mul], by simp -dsimp -implicitDefEqProofs (disch := omega) only [X6_laws_L25, c11, s1, hx, y2, i32_lit, i32_add, i32_mul, i32_tn, i32_sub, le_t, le_f, lt_t, lt_f, eq_t, eq_f, eq_rfl, inR_t, ↓ob_x, obx_s, ↓bnd_s, ↓oT_x, oTx_s, ↓ite_x, itx_T, itx_F, ↓reduceIte, not_true_eq_false, not_false_eq_true, true_and, and_true, Nat.reduceAdd, Nat.reduceMul, Nat.reduceSub, Nat.reduceEqDiff, isB0, isB1, Int32.neg_neg, Nat.zero_add, Nat.add_zero, Nat.mul_zero, Nat.mul_one, Nat.zero_mul], y3, y4⟩
    · obtain ⟨r, g2, m2, v2, y1, y2, y3, y4⟩ := laws_l hN ht hT hc hd h0 h11 S0 h72 h53 h52 n (j + 1) fu fM x (i32 j) w g1 m1 (by omega) (by omega) (by omega) f1 k1 k2 s2
      exact ⟨r, g2, m2, v2, by simp -dsimp -implicitDefEqProofs (disch := omega) only [X5_laws_L30, c72, r1, hx, y1, i32_lit, i32_add, i32_mul, i32_tn, i32_sub, le_t, le_f, lt_t, lt_f, eq_t, eq_f, eq_rfl, inR_t, ↓ob_x, obx_s, ↓bnd_s, ↓oT_x, oTx_s, ↓ite_x, itx_T, itx_F, ↓reduceIte, not_true_eq_false, not_false_eq_true, true_and, and_true, Nat.reduceAdd, Nat.reduceMul, Nat.reduceSub, Nat.reduceEqDiff, isB0, isB1, Int32.neg_neg, Nat.zero_add, Nat.add_zero, Nat.mul_zero, Nat.mul_one, Nat.zero_mul], by simp -dsimp -implicitDefEqProofs (disch := omega) only [X6_laws_L25, c11, s1, hx, b_or0, y2, i32_lit, i32_add, i32_mul, i32_tn, i32_sub, le_t, le_f, lt_t, lt_f, eq_t, eq_f, eq_rfl, inR_t, ↓ob_x, obx_s, ↓bnd_s, ↓oT_x, oTx_s, ↓ite_x, itx_T, itx_F, ↓reduceIte, not_true_eq_false, not_false_eq_true, true_and, and_true, Nat.reduceAdd, Nat.reduceMul, Nat.reduceSub, Nat.reduceEqDiff, isB0, isB1, Int32.neg_neg, Nat.zero_add, Nat.add_zero, Nat.mul_zero, Nat.mul_one, Nat.zero_mul], y3, y4⟩
set_option maxRecDepth 100000 in
theorem e_laws {N : Nat} (hN : 6000 ≤ N) {gI gM : Mem} (h : R gI gM) (a1 a2 : Int32) : EQ (X5_laws N a1 a2 gI) (X6_laws N a1 a2 gM) := by
  obtain ⟨d, i, c, hR⟩ := h
  rcases ref_hours (N := N) hR a1 a2 with ⟨v, hv, hv2, r1, r2⟩ | ⟨s, m, t, rfl, rfl, ht, hm, S0, r1, r2⟩
  · have n0 := m_ne (x := 0) (v := v) (by omega)
    exact ⟨-(i32 v), gI, gM, by simp -dsimp -implicitDefEqProofs (disch := omega) only [X5_laws, r1, n0, i32_lit, i32_add, i32_mul, i32_tn, i32_sub, le_t, le_f, lt_t, lt_f, eq_t, eq_f, eq_rfl, inR_t, ↓ob_x, obx_s, ↓bnd_s, ↓oT_x, oTx_s, ↓ite_x, itx_T, itx_F, ↓reduceIte, not_true_eq_false, not_false_eq_true, true_and, and_true, Nat.reduceAdd, Nat.reduceMul, Nat.reduceSub, Nat.reduceEqDiff, isB0, isB1, Int32.neg_neg, Nat.zero_add, Nat.add_zero, Nat.mul_zero, Nat.mul_one, Nat.zero_mul], by simp -dsimp -implicitDefEqProofs (disch := omega) only [X6_laws, r2, n0, i32_lit, i32_add, i32_mul, i32_tn, i32_sub, le_t, le_f, lt_t, lt_f, eq_t, eq_f, eq_rfl, inR_t, ↓ob_x, obx_s, ↓bnd_s, ↓oT_x, oTx_s, ↓ite_x, itx_T, itx_F, ↓reduceIte, not_true_eq_false, not_false_eq_true, true_and, and_true, Nat.reduceAdd, Nat.reduceMul, Nat.reduceSub, Nat.reduceEqDiff, isB0, isB1, Int32.neg_neg, Nat.zero_add, Nat.add_zero, Nat.mul_zero, Nat.mul_one, Nat.zero_mul], d, i, c, hR⟩
  · obtain ⟨⟨hS, hB, hG, hH⟩, hT, _⟩ := id hR
    obtain ⟨g1, q1, q2, q3⟩ := becomes_I (N := N) (b := 52) (a := 42) (i := i) (gI := gI) (by omega) hS.2.2.2.2.2.2.2.2.2.2.2.2.1 hS.1.2.2
    have hS1 := Sc_LK hS (by omega) q2 q3
    have S1 := ShS_fr (b := 52) S0 (by omega) q2 (FM_rfl gM)
    obtain ⟨u1, u2, u3, u4, u5, u6⟩ := id hT
    obtain ⟨r, g2, m2, v', y1, y2, y3, y4⟩ := laws_l (c := c) (d := d) (gI0 := g1) hN ht (fun j hj => TxI_fr (u6 j hj) (q2.1 _ (by omega) (by omega)) (q2.1 _ (by omega) (by omega)) rfl rfl) u2 hS.1.2.1 hS.2.2.2.2.2.2.2.2.1 u4 S1 (by rw [q2.1 72 (by omega) (by omega)]; exact u3) (hS1.2.1 t ht) hS1.2.2.2.2.2.2.2.2.2.2.2.1 c 0 N N (i32 0) (gM.1 0 12) (gM.1 0 12) g1 gM (by omega) (by omega) (by omega) (FI_rfl 52 g1) rfl rfl (EqM_own' gM 0 12)
    exact ⟨r, g2, _, by simp -dsimp -implicitDefEqProofs (disch := omega) only [X5_laws, r1, q1, y1, i32_lit, i32_add, i32_mul, i32_tn, i32_sub, le_t, le_f, lt_t, lt_f, eq_t, eq_f, eq_rfl, inR_t, ↓ob_x, obx_s, ↓bnd_s, ↓oT_x, oTx_s, ↓ite_x, itx_T, itx_F, ↓reduceIte, not_true_eq_false, not_false_eq_true, true_and, and_true, Nat.reduceAdd, Nat.reduceMul, Nat.reduceSub, Nat.reduceEqDiff, isB0, isB1, Int32.neg_neg, Nat.zero_add, Nat.add_zero, Nat.mul_zero, Nat.mul_one, Nat.zero_mul], by simp -dsimp -implicitDefEqProofs (disch := omega) only [X6_laws, r2, y2, i32_lit, i32_add, i32_mul, i32_tn, i32_sub, le_t, le_f, lt_t, lt_f, eq_t, eq_f, eq_rfl, inR_t, ↓ob_x, obx_s, ↓bnd_s, ↓oT_x, oTx_s, ↓ite_x, itx_T, itx_F, ↓reduceIte, not_true_eq_false, not_false_eq_true, true_and, and_true, Nat.reduceAdd, Nat.reduceMul, Nat.reduceSub, Nat.reduceEqDiff, isB0, isB1, Int32.neg_neg, Nat.zero_add, Nat.add_zero, Nat.mul_zero, Nat.mul_one, Nat.zero_mul], d, i, c, RR_th hR (FI_tr q2 y3) (EqM_fin (Or.inr ⟨rfl, rfl⟩) y4)⟩
