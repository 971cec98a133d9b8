def FP (c : Nat) (g g' : Mem) : Prop := (∀ e, ¬ e = 0 → ¬ e = 4 + 5 * c → ¬ e = 4 + 5 * c + 1 → ¬ e = 4 + 5 * c + 2 → g'.1 e = g.1 e) ∧ (∀ j, ¬ j = 2 → g'.1 (4 + 5 * c) j = g.1 (4 + 5 * c) j) ∧ ∀ k, ¬ k = 0 → g'.2 k = g.2 k
theorem FP_tr {c : Nat} {a b d : Mem} (h : FP c a b) (k : FP c b d) : FP c a d := ⟨fun e x y w v => (k.1 e x y w v).trans (h.1 e x y w v), fun j x => (k.2.1 j x).trans (h.2.1 j x), fun j x => (k.2.2 j x).trans (h.2.2 j x)⟩
theorem FP_cl {c s : Nat} {a b : Mem} (h : FCl c s a b) : FP c a b := ⟨fun e x y w _ => h.1 e x y w, fun j x => h.2.2.1 j x, fun k _ => by rw [h.2.2.2.2]⟩
theorem At_fr {L R K : List Nat} {c s : Nat} {g0 g : Mem} (h : At L c s g0 g R K) : FCl c s g0 g := by
  obtain ⟨_, p, hc, _⟩ := h
  exact hc.2.2.2.2.2.2.2
theorem At_st {L R K : List Nat} {c : Nat} {g0 g : Mem} (h : At L c 0 g0 g R K) (q : Nat) (v : Int32) : At L c 0 (stI g (4 + 5 * c + 2) q v) (stI g (4 + 5 * c + 2) q v) R K := by
  obtain ⟨hK, p, ⟨c1, c2, ⟨e1, e2, e3, e4⟩, c4, c5, c6, c7, c8⟩, hs⟩ := h
  have n0 : (stI g (4 + 5 * c + 2) q v).1 0 = g.1 0 := stI_ne _ _ _ _ _ (by omega)
  have n1 : (stI g (4 + 5 * c + 2) q v).1 1 = g.1 1 := stI_ne _ _ _ _ _ (by omega)
  refine ⟨hK, p, ⟨c1, ⟨c2.1, by rw [n0]; exact c2.2.1, fun j hj => by rw [n1]; exact c2.2.2 j hj⟩, ⟨by rw [n0]; exact e1, by rw [n0]; exact e2, by rw [n0]; exact e3, fun a b d => by rw [n0]; exact e4 a b d⟩, c4, c5, by rw [stI_ne _ _ _ _ _ (by omega)]; exact c6, ?_, FCl_rfl _ _ _⟩, hs⟩
  exact kI_c K (fun j _ => by rw [stI_ne _ _ _ _ _ (by omega)]) c7
theorem At_len {L R K : List Nat} {c : Nat} {g0 g : Mem} (h : At L c 0 g0 g R K) : g.1 (4 + 5 * c) 2 = i32 K.length ∧ g.2 0 = some (4 + 5 * c) ∧ c < 6 := by
  obtain ⟨hK, p, ⟨c1, c2, _, c4, c5, c6, c7, c8⟩, hs⟩ := h
  rw [Nat.zero_add] at c6
  exact ⟨c6, c5, c1⟩
set_option maxRecDepth 100000 in
theorem pt_e {N : Nat} (hN : 6000 ≤ N) {L R R1 R2 R3 K K2 : List Nat} {c q e1 e2 : Nat} (hq : q < 3) {g : Mem} (h : At L c 0 g g R K) (k1 : TK L R (260 + q) e1 R1) (j : ∀ g0, JJ N L c 0 g0 0 100 0 R1 K R2 K2) (k2 : TK L R2 59 e2 R3) (f : Nat) :
    ∃ g', X3_readsParts_L2 N (f + 1) (i32 q) g = X3_readsParts_L2 N f (i32 (q + 1)) g' ∧ At L c 0 g' g' R3 K2 ∧ FP c g g' ∧ g'.1 (4 + 5 * c + 2) q = i32 K2.length ∧ ∀ j, ¬ j = q → g'.1 (4 + 5 * c + 2) j = g.1 (4 + 5 * c + 2) j := by
  obtain ⟨g1, a1, h1⟩ := At_pass h k1 hN
  obtain ⟨g2, a2, h2⟩ := j g g1 h1
  obtain ⟨g3, a3, h3⟩ := At_pass h2 k2 hN
  obtain ⟨l1, l2, l3⟩ := At_len h3
  have fr := At_fr h3
  have l4 : isText (4 + 5 * c) := tx6 l3
  refine ⟨stI g3 (4 + 5 * c + 2) q (i32 K2.length), ?_, At_st h3 q _, FP_tr (FP_cl fr) ⟨fun e _ _ _ x => stI_ne _ _ _ _ _ x, fun j _ => by rw [stI_ne _ _ _ _ _ (by omega)], fun _ _ => rfl⟩, stI_eq _ _ _ _, fun j hj => ?_⟩
  · rcases (by omega : q = 0 ∨ q = 1 ∨ q = 2) with rfl | rfl | rfl
    · simp -dsimp -implicitDefEqProofs (disch := omega) only [X3_readsParts_L2, X4_endPart, a1, a2, a3, l1, l2, i32_lit, i32_add, i32_mul, i32_tn, i32_sub, le_t, le_f, lt_t, lt_f, eq_t, eq_f, eq_rfl, inR_t, ↓ob_x, obx_s, ↓bnd_s, ↓oT_x, oTx_s, ↓ite_x, itx_T, itx_F, ↓reduceIte, not_true_eq_false, not_false_eq_true, true_and, and_true, Nat.reduceAdd, Nat.reduceMul, Nat.reduceSub, Nat.reduceEqDiff, isB0, isB1, Int32.neg_neg, Nat.zero_add, Nat.add_zero, Nat.mul_zero, Nat.mul_one, Nat.zero_mul]
    · simp -dsimp -implicitDefEqProofs (disch := omega) only [X3_readsParts_L2, X4_endPart, a1, a2, a3, l1, l2, i32_lit, i32_add, i32_mul, i32_tn, i32_sub, le_t, le_f, lt_t, lt_f, eq_t, eq_f, eq_rfl, inR_t, ↓ob_x, obx_s, ↓bnd_s, ↓oT_x, oTx_s, ↓ite_x, itx_T, itx_F, ↓reduceIte, not_true_eq_false, not_false_eq_true, true_and, and_true, Nat.reduceAdd, Nat.reduceMul, Nat.reduceSub, Nat.reduceEqDiff, isB0, isB1, Int32.neg_neg, Nat.zero_add, Nat.add_zero, Nat.mul_zero, Nat.mul_one, Nat.zero_mul]
    · simp -dsimp -implicitDefEqProofs (disch := omega) only [X3_readsParts_L2, X4_endPart, a1, a2, a3, l1, l2, i32_lit, i32_add, i32_mul, i32_tn, i32_sub, le_t, le_f, lt_t, lt_f, eq_t, eq_f, eq_rfl, inR_t, ↓ob_x, obx_s, ↓bnd_s, ↓oT_x, oTx_s, ↓ite_x, itx_T, itx_F, ↓reduceIte, not_true_eq_false, not_false_eq_true, true_and, and_true, Nat.reduceAdd, Nat.reduceMul, Nat.reduceSub, Nat.reduceEqDiff, isB0, isB1, Int32.neg_neg, Nat.zero_add, Nat.add_zero, Nat.mul_zero, Nat.mul_one, Nat.zero_mul]
  · rw [stI_nj _ _ _ _ _ hj]
    exact congrFun (fr.1 _ (by omega) (by omega) (by omega)) j
theorem ot9 {β : Type} (f : Nat → Option β) : @oTx β f true (some 9) = f 9 := oTx_s f 1 (by omega)
set_option maxRecDepth 100000 in
theorem tx_e {N : Nat} (hN : 6000 ≤ N) {L A1 A2 B0 B1 B2 C0 C1 C2 E K1 K2 K3 : List Nat} {e0 e1 e2 e3 e4 e5 e6 : Nat} {g : Mem} (hT : TI (bL L) L.length g) (h72 : g.1 72 2 = i32 1)
    (k0 : TK L L 260 e0 A1) (j0 : ∀ g0, JJ N L 1 0 g0 0 100 0 A1 [] A2 K1) (s0 : TK L A2 59 e1 B0) (k1 : TK L B0 261 e2 B1) (j1 : ∀ g0, JJ N L 1 0 g0 0 100 0 B1 K1 B2 K2) (s1 : TK L B2 59 e3 C0) (k2 : TK L C0 262 e4 C1) (j2 : ∀ g0, JJ N L 1 0 g0 0 100 0 C1 K2 C2 K3) (s2 : TK L C2 59 e5 E) (ke : TK L E 256 e6 E) :
    ∃ g', X5_text N g = some (i32 1, g') ∧ (∀ e, ¬ e = 0 → ¬ e = 9 → ¬ e = 10 → ¬ e = 11 → ¬ e = 72 → g'.1 e = g.1 e) ∧ (∀ j, ¬ j = 2 → g'.1 9 j = g.1 9 j) ∧ (∀ k, ¬ k = 0 → g'.2 k = g.2 k) ∧ g'.1 72 2 = i32 2 ∧ g'.2 0 = some 9 ∧ kI 9 0 g' K3 ∧ g'.1 11 0 = i32 K1.length ∧ g'.1 11 1 = i32 K2.length ∧ g'.1 11 2 = i32 K3.length := by
  have hT1 : TI (bL L) L.length (stI (stI (stR g 0 9) 9 2 (i32 0)) 0 2 (i32 0)) := ⟨hT.1, by rw [stI_nj _ _ _ _ _ (by omega), stI_ne _ _ _ _ _ (by omega)]; exact hT.2.1, fun j hj => by rw [stI_ne _ _ _ _ _ (by omega), stI_ne _ _ _ _ _ (by omega)]; exact hT.2.2 j hj⟩
  obtain ⟨g1, n1, n2, n3⟩ := next_I2 hN hT1 (Nat.zero_le _) (stI_eq _ _ _ _)
  have a0 : At L 1 0 g1 g1 L [] := by
    refine ⟨by simp, 0, ⟨by omega, TI_FR hT1 n2, n3, Nat.zero_le _, by rw [n2.2.2]; rfl, ?_, trivial, FCl_rfl _ _ _⟩, Nat.zero_le _, rfl⟩
    rw [n2.1 _ (by omega), stI_ne _ _ _ _ _ (by omega), stI_eq]; rfl
  obtain ⟨M, rfl⟩ : ∃ M, N = M + 1 + 1 + 1 + 1 := ⟨N - 4, by omega⟩
  obtain ⟨g2, p1, a1, f1, l1, m1⟩ := pt_e hN (show 0 < 3 by omega) a0 k0 j0 s0 (M + 1 + 1 + 1)
  obtain ⟨g3, p2, a2, f2, l2, m2⟩ := pt_e hN (show 1 < 3 by omega) a1 k1 j1 s1 (M + 1 + 1)
  obtain ⟨g4, p3, a3, f3, l3, m3⟩ := pt_e hN (show 2 < 3 by omega) a2 k2 j2 s2 (M + 1)
  obtain ⟨t1, t2, t3, t4, t5⟩ := At_tok a3 ke
  have pE : X3_readsParts_L2 (M + 1 + 1 + 1 + 1) (M + 1) (i32 (2 + 1)) g4 = some (i32 1, g4) := by
    simp -dsimp -implicitDefEqProofs (disch := omega) only [X3_readsParts_L2, t1, i32_lit, i32_add, i32_mul, i32_tn, i32_sub, le_t, le_f, lt_t, lt_f, eq_t, eq_f, eq_rfl, inR_t, ↓ob_x, obx_s, ↓bnd_s, ↓oT_x, oTx_s, ↓ite_x, itx_T, itx_F, ↓reduceIte, not_true_eq_false, not_false_eq_true, true_and, and_true, Nat.reduceAdd, Nat.reduceMul, Nat.reduceSub, Nat.reduceEqDiff, isB0, isB1, Int32.neg_neg, Nat.zero_add, Nat.add_zero, Nat.mul_zero, Nat.mul_one, Nat.zero_mul]
  have pA : X3_readsParts (M + 1 + 1 + 1 + 1) g1 = some (i32 1, g4) := by
    unfold X3_readsParts
    exact p1.trans (p2.trans (p3.trans pE))
  have u : FP 1 (stI (stI (stR g 0 9) 9 2 (i32 0)) 0 2 (i32 0)) g4 := FP_tr (FP_cl (s := 0) (FCl_FR n2)) (FP_tr f1 (FP_tr f2 f3))
  have v72 : g4.1 72 2 = i32 1 := by
    rw [u.1 72 (by omega) (by omega) (by omega) (by omega), stI_ne _ _ _ _ _ (by omega), stI_ne _ _ _ _ _ (by omega)]; exact h72
  have m1z : (-(i32 1) < i32 0) = True := by decide
  refine ⟨stI (stI g4 0 1 (i32 0)) 72 2 (i32 2), ?_, ?_, ?_, ?_, stI_eq _ _ _ _, t4, ?_, ?_, ?_, ?_⟩
  · have e9 : (4 + 5 * 1) = 9 := rfl
    simp -dsimp -implicitDefEqProofs (disch := omega) only [X5_text, X3_readInto, X4_clear, X3_clear, h72, ot9, n1, pA, m1z, v72, stI_eq, stI_nj, stI_ne, stI_2, stA_eq, stA_ne, stA_2, stR_1, stR_2, i32_lit, i32_add, i32_mul, i32_tn, i32_sub, le_t, le_f, lt_t, lt_f, eq_t, eq_f, eq_rfl, inR_t, ↓ob_x, obx_s, ↓bnd_s, ↓oT_x, oTx_s, ↓ite_x, itx_T, itx_F, ↓reduceIte, not_true_eq_false, not_false_eq_true, true_and, and_true, Nat.reduceAdd, Nat.reduceMul, Nat.reduceSub, Nat.reduceEqDiff, isB0, isB1, Int32.neg_neg, Nat.zero_add, Nat.add_zero, Nat.mul_zero, Nat.mul_one, Nat.zero_mul]
  · intro e x0 x9 x10 x11 x72
    rw [stI_ne _ _ _ _ _ x72, stI_ne _ _ _ _ _ x0, u.1 e x0 (by omega) (by omega) (by omega), stI_ne _ _ _ _ _ x0, stI_ne _ _ _ _ _ x9]; rfl
  · intro j hj
    rw [stI_ne _ _ _ _ _ (by omega), stI_ne _ _ _ _ _ (by omega), u.2.1 j hj, stI_ne _ _ _ _ _ (by omega), stI_nj _ _ _ _ _ hj]; rfl
  · intro k hk
    show g4.2 k = _
    rw [u.2.2 k hk]
    show (if k = 0 then some 9 else g.2 k) = _
    rw [if_neg hk]
  · obtain ⟨_, p, hc, _⟩ := a3
    exact kI_c K3 (fun j _ => by rw [stI_ne _ _ _ _ _ (by omega), stI_ne _ _ _ _ _ (by omega)]) hc.2.2.2.2.2.2.1
  · rw [stI_ne _ _ _ _ _ (by omega), stI_ne _ _ _ _ _ (by omega)]
    exact (m3 0 (by omega)).trans ((m2 0 (by omega)).trans l1)
  · rw [stI_ne _ _ _ _ _ (by omega), stI_ne _ _ _ _ _ (by omega)]
    exact (m3 1 (by omega)).trans l2
  · rw [stI_ne _ _ _ _ _ (by omega), stI_ne _ _ _ _ _ (by omega)]
    exact l3
