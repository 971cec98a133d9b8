/-! image, back, film -/
def KQ (n : Nat) (g g' : Mem) : Prop := (∀ c, ¬ c = 9 → g'.1 c = g.1 c) ∧ ∀ j, j < n → g'.1 9 j = srcM g j
theorem KQ_s {n : Nat} {g g' : Mem} (h : KQ n g g') {v : Int32} (hv : v = srcM g n) : KQ (n + 1) g (stI g' 9 n v) := by
  refine ⟨fun c hc => by rw [stI_ne _ _ _ _ _ hc]; exact h.1 c hc, fun j hj => ?_⟩
  by_cases e : j = n
  · subst e; rw [stI_eq, hv]
  · rw [stI_nj _ _ _ _ _ e]; exact h.2 j (by omega)
def imE (g : Mem) : Mem := stI (stI (stI g 10 0 (g.1 0 0)) 10 1 (g.1 0 6)) 10 2 (g.1 0 12)
set_option maxRecDepth 100000 in
theorem im62 {N : Nat} {g : Mem} : ∀ (n x fu : Nat) (g' : Mem), x + n = 6 → n < fu → KQ (60 + x) g g' → ∃ g2, X6_image_L62 N fu (i32 x) g' = some (g.1 0 0, imE g2) ∧ KQ 66 g g2
  | 0, x, fu, g', h1, h2, h => by
    obtain ⟨f, rfl⟩ : ∃ q, fu = q + 1 := ⟨fu - 1, by omega⟩
    have : x = 6 := by omega
    subst this
    have e0 := h.1 0 (by omega)
    refine ⟨g', ?_, h⟩
    unfold imE
    simp -dsimp -implicitDefEqProofs (disch := omega) only [X6_image_L62, i32_lit, i32_add, i32_mul, i32_tn, i32_sub, le_t, le_f, lt_t, lt_f, eq_t, eq_f, eq_rfl, inR_t, ↓ob_x, obx_s, ↓bnd_s, ↓oT_x, oTx_s, ↓ite_x, itx_T, itx_F, ↓reduceIte, not_true_eq_false, not_false_eq_true, true_and, and_true, Nat.reduceAdd, Nat.reduceMul, Nat.reduceSub, Nat.reduceEqDiff, isB0, isB1, Int32.neg_neg, Nat.zero_add, Nat.add_zero, Nat.mul_zero, Nat.mul_one, Nat.zero_mul, stI_eq, stI_nj, stI_ne, stI_2, stA_eq, stA_ne, stA_2, stR_1, stR_2, e0]
  | n + 1, x, fu, g', h1, h2, h => by
    obtain ⟨f, rfl⟩ : ∃ q, fu = q + 1 := ⟨fu - 1, by omega⟩
    obtain ⟨g2, r1, r2⟩ := im62 (N := N) n (x + 1) f (stI g' 9 (60 + x) (g.1 5 x)) (by omega) (by omega) (KQ_s h (by rw [src_5 _ _ (by omega)]))
    refine ⟨g2, ?_, r2⟩
    simp -dsimp -implicitDefEqProofs (disch := omega) only [X6_image_L62, i32_lit, i32_add, i32_mul, i32_tn, i32_sub, le_t, le_f, lt_t, lt_f, eq_t, eq_f, eq_rfl, inR_t, ↓ob_x, obx_s, ↓bnd_s, ↓oT_x, oTx_s, ↓ite_x, itx_T, itx_F, ↓reduceIte, not_true_eq_false, not_false_eq_true, true_and, and_true, Nat.reduceAdd, Nat.reduceMul, Nat.reduceSub, Nat.reduceEqDiff, isB0, isB1, Int32.neg_neg, Nat.zero_add, Nat.add_zero, Nat.mul_zero, Nat.mul_one, Nat.zero_mul, h.1, r1]
set_option maxRecDepth 100000 in
theorem im33 {N : Nat} (hN : 6000 ≤ N) {g : Mem} : ∀ (n x fu : Nat) (g' : Mem), x + n = 48 → n < fu → KQ (12 + x) g g' → ∃ g2, X6_image_L33 N fu (i32 x) g' = some (g.1 0 0, imE g2) ∧ KQ 66 g g2
  | 0, x, fu, g', h1, h2, h => by
    obtain ⟨f, rfl⟩ : ∃ q, fu = q + 1 := ⟨fu - 1, by omega⟩
    have : x = 48 := by omega
    subst this
    obtain ⟨g2, r1, r2⟩ := im62 (N := N) 6 0 N g' (by omega) (by omega) h
    refine ⟨g2, ?_, r2⟩
    simp -dsimp -implicitDefEqProofs (disch := omega) only [X6_image_L33, i32_lit, i32_add, i32_mul, i32_tn, i32_sub, le_t, le_f, lt_t, lt_f, eq_t, eq_f, eq_rfl, inR_t, ↓ob_x, obx_s, ↓bnd_s, ↓oT_x, oTx_s, ↓ite_x, itx_T, itx_F, ↓reduceIte, not_true_eq_false, not_false_eq_true, true_and, and_true, Nat.reduceAdd, Nat.reduceMul, Nat.reduceSub, Nat.reduceEqDiff, isB0, isB1, Int32.neg_neg, Nat.zero_add, Nat.add_zero, Nat.mul_zero, Nat.mul_one, Nat.zero_mul, r1]
  | n + 1, x, fu, g', h1, h2, h => by
    obtain ⟨f, rfl⟩ : ∃ q, fu = q + 1 := ⟨fu - 1, by omega⟩
    obtain ⟨g2, r1, r2⟩ := im33 hN n (x + 1) f (stI g' 9 (12 + x) (g.1 4 x)) (by omega) (by omega) (KQ_s h (by rw [src_4 _ _ (by omega)]))
    refine ⟨g2, ?_, r2⟩
    simp -dsimp -implicitDefEqProofs (disch := omega) only [X6_image_L33, i32_lit, i32_add, i32_mul, i32_tn, i32_sub, le_t, le_f, lt_t, lt_f, eq_t, eq_f, eq_rfl, inR_t, ↓ob_x, obx_s, ↓bnd_s, ↓oT_x, oTx_s, ↓ite_x, itx_T, itx_F, ↓reduceIte, not_true_eq_false, not_false_eq_true, true_and, and_true, Nat.reduceAdd, Nat.reduceMul, Nat.reduceSub, Nat.reduceEqDiff, isB0, isB1, Int32.neg_neg, Nat.zero_add, Nat.add_zero, Nat.mul_zero, Nat.mul_one, Nat.zero_mul, h.1, r1]
set_option maxRecDepth 100000 in
theorem im7 {N : Nat} (hN : 6000 ≤ N) {g : Mem} : ∀ (n x fu : Nat) (g' : Mem), x + n = 12 → n < fu → KQ x g g' → ∃ g2, X6_image_L7 N fu (i32 x) g' = some (g.1 0 0, imE g2) ∧ KQ 66 g g2
  | 0, x, fu, g', h1, h2, h => by
    obtain ⟨f, rfl⟩ : ∃ q, fu = q + 1 := ⟨fu - 1, by omega⟩
    have : x = 12 := by omega
    subst this
    obtain ⟨g2, r1, r2⟩ := im33 (N := N) hN 48 0 N g' (by omega) (by omega) h
    refine ⟨g2, ?_, r2⟩
    simp -dsimp -implicitDefEqProofs (disch := omega) only [X6_image_L7, i32_lit, i32_add, i32_mul, i32_tn, i32_sub, le_t, le_f, lt_t, lt_f, eq_t, eq_f, eq_rfl, inR_t, ↓ob_x, obx_s, ↓bnd_s, ↓oT_x, oTx_s, ↓ite_x, itx_T, itx_F, ↓reduceIte, not_true_eq_false, not_false_eq_true, true_and, and_true, Nat.reduceAdd, Nat.reduceMul, Nat.reduceSub, Nat.reduceEqDiff, isB0, isB1, Int32.neg_neg, Nat.zero_add, Nat.add_zero, Nat.mul_zero, Nat.mul_one, Nat.zero_mul, r1]
  | n + 1, x, fu, g', h1, h2, h => by
    obtain ⟨f, rfl⟩ : ∃ q, fu = q + 1 := ⟨fu - 1, by omega⟩
    obtain ⟨g2, r1, r2⟩ := im7 hN n (x + 1) f (stI g' 9 x (g.1 3 x)) (by omega) (by omega) (KQ_s h (by rw [src_3 _ _ (by omega)]))
    refine ⟨g2, ?_, r2⟩
    simp -dsimp -implicitDefEqProofs (disch := omega) only [X6_image_L7, i32_lit, i32_add, i32_mul, i32_tn, i32_sub, le_t, le_f, lt_t, lt_f, eq_t, eq_f, eq_rfl, inR_t, ↓ob_x, obx_s, ↓bnd_s, ↓oT_x, oTx_s, ↓ite_x, itx_T, itx_F, ↓reduceIte, not_true_eq_false, not_false_eq_true, true_and, and_true, Nat.reduceAdd, Nat.reduceMul, Nat.reduceSub, Nat.reduceEqDiff, isB0, isB1, Int32.neg_neg, Nat.zero_add, Nat.add_zero, Nat.mul_zero, Nat.mul_one, Nat.zero_mul, h.1, r1]
theorem imE_n (g : Mem) (c : Nat) (h : ¬ c = 10) : (imE g).1 c = g.1 c := by
  unfold imE; rw [stI_ne _ _ _ _ _ h, stI_ne _ _ _ _ _ h, stI_ne _ _ _ _ _ h]
theorem imE_0 (g : Mem) : (imE g).1 10 0 = g.1 0 0 ∧ (imE g).1 10 1 = g.1 0 6 ∧ (imE g).1 10 2 = g.1 0 12 := by
  unfold imE
  refine ⟨?_, ?_, ?_⟩
  · rw [stI_nj _ _ _ _ _ (by omega), stI_nj _ _ _ _ _ (by omega), stI_eq]
  · rw [stI_nj _ _ _ _ _ (by omega), stI_eq]
  · rw [stI_eq]
set_option maxRecDepth 100000 in
theorem e_image {N : Nat} (hN : 6000 ≤ N) {gI gM : Mem} (h : R gI gM) : EQ (X5_image N gI) (X6_image N gM) := by
  obtain ⟨d, i, c, hR⟩ := h
  obtain ⟨⟨hS, hB, hG, hH⟩, hT, hP, hSh, hK⟩ := id hR
  obtain ⟨g1, q1, q2, q3⟩ := becomes_I (N := N) (b := 62) (a := 42) (i := i) (gI := gI) (by omega) hS.2.2.2.2.2.2.2.2.2.2.2.2.1 hS.1.2.2
  obtain ⟨m1, r1, r2⟩ := im7 (N := N) hN 12 0 N (stI gM 0 13 (i32 1)) (by omega) (by omega) ⟨fun _ _ => rfl, fun j hj => by omega⟩
  have e0 : (stI gM 0 13 (i32 1)).1 0 0 = i32 d := by rw [stI_nj _ _ _ _ _ (by omega)]; exact hS.2.2.2.2.2.2.2.2.1
  have fI : ∀ e, ¬ (62 ≤ e ∧ e ≤ 72) → ¬ (4 ≤ e ∧ e < 34 ∧ 3 ≤ (e - 4) % 5) → (stI g1 72 7 (i32 1)).1 e = gI.1 e := fun e h1 h2 => by
    rw [stI_ne _ _ _ _ _ (by omega)]; exact q2.1 e h2 (by omega)
  have fM : ∀ e, ¬ e = 0 → ¬ e = 9 → ¬ e = 10 → (imE m1).1 e = gM.1 e := fun e h1 h2 h3 => by
    rw [imE_n _ _ h3, r2.1 e h2, stI_ne _ _ _ _ _ h1]
  have fM0 : ∀ j, ¬ j = 13 → (imE m1).1 0 j = gM.1 0 j := fun j hj => by
    rw [imE_n _ _ (by omega), r2.1 0 (by omega), stI_nj _ _ _ _ _ hj]
  have l42 : LkI 42 gI (stI g1 72 7 (i32 1)) := ⟨fun e h1 h2 => fI e (by omega) (by omega), q2.2 42 (by omega), fun j hj => ⟨fI _ (by omega) (by omega), fI _ (by omega) (by omega)⟩⟩
  have l62 : LkI 62 g1 (stI g1 72 7 (i32 1)) := ⟨fun e h1 h2 => stI_ne _ _ _ _ _ (by omega), rfl, fun j hj => ⟨stI_ne _ _ _ _ _ (by omega), stI_ne _ _ _ _ _ (by omega)⟩⟩
  have n : LkM d gM (imE m1) := ⟨fun _ _ => by rw [fM 3 (by omega) (by omega) (by omega)], fun _ _ => by rw [fM 4 (by omega) (by omega) (by omega)], fun _ _ => by rw [fM 5 (by omega) (by omega) (by omega)], fM0 _ (by omega), fM0 _ (by omega), fM0 _ (by omega), fun _ _ => by rw [fM 1 (by omega) (by omega) (by omega)], fun _ _ => by rw [fM 2 (by omega) (by omega) (by omega)], fM 7 (by omega) (by omega) (by omega), fM 8 (by omega) (by omega) (by omega)⟩
  have s9 : ∀ j, j < 66 → (imE m1).1 9 j = srcM gM j := fun j hj => by
    rw [imE_n _ _ (by omega), r2.2 j hj]
    unfold srcM
    rw [stI_ne _ _ _ _ _ (by omega), stI_ne _ _ _ _ _ (by omega), stI_ne _ _ _ _ _ (by omega)]
    by_cases h1 : j < 12
    · rw [if_pos h1, if_pos h1]
    · rw [if_neg h1, if_neg h1]
      by_cases h2 : j < 60
      · rw [if_pos h2, if_pos h2]
      · rw [if_neg h2, if_neg h2, if_pos hj, if_pos hj]
  have ten := imE_0 m1
  have em0 : ∀ j, ¬ j = 13 → m1.1 0 j = gM.1 0 j := fun j hj => by rw [r2.1 0 (by omega), stI_nj _ _ _ _ _ hj]
  have ni : LkM d gM (imM (imE m1)) := by
    refine ⟨fun j hj => ?_, fun j hj => ?_, fun j hj => ?_, ?_, ?_, ?_, fun p hp => ?_, fun p hp => ?_, ?_, ?_⟩
    · show (imE m1).1 9 j = _; rw [s9 _ (by omega), src_3 _ _ hj]
    · show (imE m1).1 9 (12 + j) = _; rw [s9 _ (by omega), src_4 _ _ hj]
    · show (imE m1).1 9 (60 + j) = _; rw [s9 _ (by omega), src_5 _ _ hj]
    · rw [imM_0 _ _ (by omega)]; show (imE m1).1 10 0 = _; rw [ten.1, em0 _ (by omega)]
    · rw [imM_0 _ _ (by omega)]; show (imE m1).1 10 1 = _; rw [ten.2.1, em0 _ (by omega)]
    · rw [imM_0 _ _ (by omega)]; show (imE m1).1 10 2 = _; rw [ten.2.2, em0 _ (by omega)]
    · rw [imM_c _ _ (by omega) (by omega) (by omega) (by omega), fM 1 (by omega) (by omega) (by omega)]
    · rw [imM_c _ _ (by omega) (by omega) (by omega) (by omega), fM 2 (by omega) (by omega) (by omega)]
    · rw [imM_c _ _ (by omega) (by omega) (by omega) (by omega), fM 7 (by omega) (by omega) (by omega)]
    · rw [imM_c _ _ (by omega) (by omega) (by omega) (by omega), fM 8 (by omega) (by omega) (by omega)]
  have k62 : g1.1 62 9 = i32 d := q3.2.2.2.2.2.2.2.2.2.1.trans hS.2.2.2.2.2.2.2.1
  have hS62 := Sc_LK hS (by omega) q2 q3
  refine ⟨i32 d, stI g1 72 7 (i32 1), imE m1, by simp -dsimp -implicitDefEqProofs (disch := omega) only [X5_image, q1, k62, stI_eq, stI_nj, stI_ne, stI_2, stA_eq, stA_ne, stA_2, stR_1, stR_2, i32_lit, i32_add, i32_mul, i32_tn, i32_sub, le_t, le_f, lt_t, lt_f, eq_t, eq_f, eq_rfl, inR_t, ↓ob_x, obx_s, ↓bnd_s, ↓oT_x, oTx_s, ↓ite_x, itx_T, itx_F, ↓reduceIte, not_true_eq_false, not_false_eq_true, true_and, and_true, Nat.reduceAdd, Nat.reduceMul, Nat.reduceSub, Nat.reduceEqDiff, isB0, isB1, Int32.neg_neg, Nat.zero_add, Nat.add_zero, Nat.mul_zero, Nat.mul_one, Nat.zero_mul], ?_, d, i, c, ⟨Sc_Lk hS l42 n (Nat.le_refl d), Bd_Lk hB n (Nat.le_refl d), Bg_Lk hG l42 n, by rw [n.2.2.2.2.1]; exact hH⟩, ?_, ?_, ?_, Or.inr ⟨stI_eq _ _ _ _, ?_, d, i, Nat.le_refl d, hT.1, Sc_Lk hS62 l62 ni (Nat.le_refl d), Bd_Lk hB ni (Nat.le_refl d), Bg_Lk (Bg_LK hG q3) l62 ni, by rw [ni.2.2.2.2.1]; exact hH⟩⟩
  · rw [e0] at r1
    simp -dsimp -implicitDefEqProofs (disch := omega) only [X6_image, r1, i32_lit, i32_add, i32_mul, i32_tn, i32_sub, le_t, le_f, lt_t, lt_f, eq_t, eq_f, eq_rfl, inR_t, ↓ob_x, obx_s, ↓bnd_s, ↓oT_x, oTx_s, ↓ite_x, itx_T, itx_F, ↓reduceIte, not_true_eq_false, not_false_eq_true, true_and, and_true, Nat.reduceAdd, Nat.reduceMul, Nat.reduceSub, Nat.reduceEqDiff, isB0, isB1, Int32.neg_neg, Nat.zero_add, Nat.add_zero, Nat.mul_zero, Nat.mul_one, Nat.zero_mul]
  · obtain ⟨t1, t2, t3, t4, t5, t6⟩ := hT
    refine ⟨t1, t2, ?_, ?_, fun j hj => ?_, fun j hj => TxI_fr (t6 j hj) (fI _ (by omega) (by omega)) (fI _ (by omega) (by omega)) (fM 7 (by omega) (by omega) (by omega)) (fM 8 (by omega) (by omega) (by omega))⟩
    · rw [stI_nj _ _ _ _ _ (by omega), q2.1 72 (by omega) (by omega)]; exact t3
    · rw [fM0 11 (by omega)]; exact t4
    · rw [fI _ (by omega) (by omega)]; exact t5 j hj
  · obtain ⟨z, z1, z2, z3, z4⟩ := hP
    refine ⟨z, ⟨z1.1, fun j hj => by rw [fM 15 (by omega) (by omega) (by omega)]; exact z1.2 j hj⟩, ?_, ?_, ?_⟩
    · rw [fI 0 (by omega) (by omega)]; exact z2
    · rw [fM0 8 (by omega)]; exact z3
    · rw [fI 1 (by omega) (by omega), fM 6 (by omega) (by omega) (by omega)]; exact z4
  · exact Sh_same hSh (fun e he => fI e (by omega) (by omega)) (fM 11 (by omega) (by omega) (by omega)) (fM 12 (by omega) (by omega) (by omega)) (fM 13 (by omega) (by omega) (by omega))
  · rw [imE_n _ _ (by omega), r2.1 0 (by omega), stI_eq]
/-- back -/
def BP (n : Nat) (g g' : Mem) : Prop := (∀ c, ¬ c = 3 → ¬ c = 4 → ¬ c = 5 → g'.1 c = g.1 c) ∧ ∀ j, j < n → srcM g' j = g.1 9 j
theorem BP3 {n : Nat} {g g' : Mem} (h : BP n g g') (hn : n < 12) : BP (n + 1) g (stI g' 3 n (g.1 9 n)) := by
  refine ⟨fun c h2 h3 h4 => by rw [stI_ne _ _ _ _ _ h2]; exact h.1 c h2 h3 h4, fun j hj => ?_⟩
  rw [src_3 _ _ (by omega)]
  by_cases e : j = n
  · subst e; rw [stI_eq]
  · rw [stI_nj _ _ _ _ _ e, ← src_3 g' j (by omega)]; exact h.2 j (by omega)
theorem BP4 {n : Nat} {g g' : Mem} (h : BP (12 + n) g g') (hn : n < 48) : BP (12 + (n + 1)) g (stI g' 4 n (g.1 9 (12 + n))) := by
  refine ⟨fun c h2 h3 h4 => by rw [stI_ne _ _ _ _ _ h3]; exact h.1 c h2 h3 h4, fun j hj => ?_⟩
  by_cases e0 : j < 12
  · rw [src_3 _ _ e0, stI_ne _ _ _ _ _ (by omega), ← src_3 g' j e0]; exact h.2 j (by omega)
  · obtain ⟨q, rfl⟩ : ∃ q, j = 12 + q := ⟨j - 12, by omega⟩
    rw [src_4 _ _ (by omega)]
    by_cases e : q = n
    · subst e; rw [stI_eq]
    · rw [stI_nj _ _ _ _ _ e, ← src_4 g' q (by omega)]; exact h.2 (12 + q) (by omega)
theorem BP5 {n : Nat} {g g' : Mem} (h : BP (60 + n) g g') (hn : n < 6) : BP (60 + (n + 1)) g (stI g' 5 n (g.1 9 (60 + n))) := by
  refine ⟨fun c h2 h3 h4 => by rw [stI_ne _ _ _ _ _ h4]; exact h.1 c h2 h3 h4, fun j hj => ?_⟩
  by_cases e0 : j < 12
  · rw [src_3 _ _ e0, stI_ne _ _ _ _ _ (by omega), ← src_3 g' j e0]; exact h.2 j (by omega)
  · by_cases e1 : j < 60
    · obtain ⟨q, rfl⟩ : ∃ q, j = 12 + q := ⟨j - 12, by omega⟩
      rw [src_4 _ _ (by omega), stI_ne _ _ _ _ _ (by omega), ← src_4 g' q (by omega)]; exact h.2 (12 + q) (by omega)
    · obtain ⟨q, rfl⟩ : ∃ q, j = 60 + q := ⟨j - 60, by omega⟩
      rw [src_5 _ _ (by omega)]
      by_cases e : q = n
      · subst e; rw [stI_eq]
      · rw [stI_nj _ _ _ _ _ e, ← src_5 g' q (by omega)]; exact h.2 (60 + q) (by omega)
def bkE (g : Mem) : Mem := stI (stI (stI g 0 0 (g.1 10 0)) 0 6 (g.1 10 1)) 0 12 (g.1 10 2)
set_option maxRecDepth 100000 in
theorem bk67 {N : Nat} {g : Mem} : ∀ (n x fu : Nat) (g' : Mem), x + n = 6 → n < fu → BP (60 + x) g g' → ∃ g2, X6_back_L67 N fu (i32 x) g' = some (g.1 10 0, bkE g2) ∧ BP 66 g g2
  | 0, x, fu, g', h1, h2, h => by
    obtain ⟨f, rfl⟩ : ∃ q, fu = q + 1 := ⟨fu - 1, by omega⟩
    have : x = 6 := by omega
    subst this
    have e0 := h.1 10 (by omega) (by omega) (by omega)
    refine ⟨g', ?_, h⟩
    unfold bkE
    simp -dsimp -implicitDefEqProofs (disch := omega) only [X6_back_L67, i32_lit, i32_add, i32_mul, i32_tn, i32_sub, le_t, le_f, lt_t, lt_f, eq_t, eq_f, eq_rfl, inR_t, ↓ob_x, obx_s, ↓bnd_s, ↓oT_x, oTx_s, ↓ite_x, itx_T, itx_F, ↓reduceIte, not_true_eq_false, not_false_eq_true, true_and, and_true, Nat.reduceAdd, Nat.reduceMul, Nat.reduceSub, Nat.reduceEqDiff, isB0, isB1, Int32.neg_neg, Nat.zero_add, Nat.add_zero, Nat.mul_zero, Nat.mul_one, Nat.zero_mul, stI_eq, stI_nj, stI_ne, stI_2, stA_eq, stA_ne, stA_2, stR_1, stR_2, e0]
  | n + 1, x, fu, g', h1, h2, h => by
    obtain ⟨f, rfl⟩ : ∃ q, fu = q + 1 := ⟨fu - 1, by omega⟩
    obtain ⟨g2, r1, r2⟩ := bk67 (N := N) n (x + 1) f _ (by omega) (by omega) (BP5 h (by omega))
    refine ⟨g2, ?_, r2⟩
    simp -dsimp -implicitDefEqProofs (disch := omega) only [X6_back_L67, i32_lit, i32_add, i32_mul, i32_tn, i32_sub, le_t, le_f, lt_t, lt_f, eq_t, eq_f, eq_rfl, inR_t, ↓ob_x, obx_s, ↓bnd_s, ↓oT_x, oTx_s, ↓ite_x, itx_T, itx_F, ↓reduceIte, not_true_eq_false, not_false_eq_true, true_and, and_true, Nat.reduceAdd, Nat.reduceMul, Nat.reduceSub, Nat.reduceEqDiff, isB0, isB1, Int32.neg_neg, Nat.zero_add, Nat.add_zero, Nat.mul_zero, Nat.mul_one, Nat.zero_mul, h.1, r1]
set_option maxRecDepth 100000 in
theorem bk38 {N : Nat} (hN : 6000 ≤ N) {g : Mem} : ∀ (n x fu : Nat) (g' : Mem), x + n = 48 → n < fu → BP (12 + x) g g' → ∃ g2, X6_back_L38 N fu (i32 x) g' = some (g.1 10 0, bkE g2) ∧ BP 66 g g2
  | 0, x, fu, g', h1, h2, h => by
    obtain ⟨f, rfl⟩ : ∃ q, fu = q + 1 := ⟨fu - 1, by omega⟩
    have : x = 48 := by omega
    subst this
    obtain ⟨g2, r1, r2⟩ := bk67 (N := N) 6 0 N g' (by omega) (by omega) h
    refine ⟨g2, ?_, r2⟩
    simp -dsimp -implicitDefEqProofs (disch := omega) only [X6_back_L38, i32_lit, i32_add, i32_mul, i32_tn, i32_sub, le_t, le_f, lt_t, lt_f, eq_t, eq_f, eq_rfl, inR_t, ↓ob_x, obx_s, ↓bnd_s, ↓oT_x, oTx_s, ↓ite_x, itx_T, itx_F, ↓reduceIte, not_true_eq_false, not_false_eq_true, true_and, and_true, Nat.reduceAdd, Nat.reduceMul, Nat.reduceSub, Nat.reduceEqDiff, isB0, isB1, Int32.neg_neg, Nat.zero_add, Nat.add_zero, Nat.mul_zero, Nat.mul_one, Nat.zero_mul, r1]
  | n + 1, x, fu, g', h1, h2, h => by
    obtain ⟨f, rfl⟩ : ∃ q, fu = q + 1 := ⟨fu - 1, by omega⟩
    obtain ⟨g2, r1, r2⟩ := bk38 hN n (x + 1) f _ (by omega) (by omega) (BP4 h (by omega))
    refine ⟨g2, ?_, r2⟩
    simp -dsimp -implicitDefEqProofs (disch := omega) only [X6_back_L38, i32_lit, i32_add, i32_mul, i32_tn, i32_sub, le_t, le_f, lt_t, lt_f, eq_t, eq_f, eq_rfl, inR_t, ↓ob_x, obx_s, ↓bnd_s, ↓oT_x, oTx_s, ↓ite_x, itx_T, itx_F, ↓reduceIte, not_true_eq_false, not_false_eq_true, true_and, and_true, Nat.reduceAdd, Nat.reduceMul, Nat.reduceSub, Nat.reduceEqDiff, isB0, isB1, Int32.neg_neg, Nat.zero_add, Nat.add_zero, Nat.mul_zero, Nat.mul_one, Nat.zero_mul, h.1, r1]
set_option maxRecDepth 100000 in
theorem bk12 {N : Nat} (hN : 6000 ≤ N) {g : Mem} : ∀ (n x fu : Nat) (g' : Mem), x + n = 12 → n < fu → BP x g g' → ∃ g2, X6_back_L12 N fu (i32 x) g' = some (g.1 10 0, bkE g2) ∧ BP 66 g g2
  | 0, x, fu, g', h1, h2, h => by
    obtain ⟨f, rfl⟩ : ∃ q, fu = q + 1 := ⟨fu - 1, by omega⟩
    have : x = 12 := by omega
    subst this
    obtain ⟨g2, r1, r2⟩ := bk38 (N := N) hN 48 0 N g' (by omega) (by omega) h
    refine ⟨g2, ?_, r2⟩
    simp -dsimp -implicitDefEqProofs (disch := omega) only [X6_back_L12, i32_lit, i32_add, i32_mul, i32_tn, i32_sub, le_t, le_f, lt_t, lt_f, eq_t, eq_f, eq_rfl, inR_t, ↓ob_x, obx_s, ↓bnd_s, ↓oT_x, oTx_s, ↓ite_x, itx_T, itx_F, ↓reduceIte, not_true_eq_false, not_false_eq_true, true_and, and_true, Nat.reduceAdd, Nat.reduceMul, Nat.reduceSub, Nat.reduceEqDiff, isB0, isB1, Int32.neg_neg, Nat.zero_add, Nat.add_zero, Nat.mul_zero, Nat.mul_one, Nat.zero_mul, r1]
  | n + 1, x, fu, g', h1, h2, h => by
    obtain ⟨f, rfl⟩ : ∃ q, fu = q + 1 := ⟨fu - 1, by omega⟩
    obtain ⟨g2, r1, r2⟩ := bk12 hN n (x + 1) f _ (by omega) (by omega) (BP3 h (by omega))
    refine ⟨g2, ?_, r2⟩
    simp -dsimp -implicitDefEqProofs (disch := omega) only [X6_back_L12, i32_lit, i32_add, i32_mul, i32_tn, i32_sub, le_t, le_f, lt_t, lt_f, eq_t, eq_f, eq_rfl, inR_t, ↓ob_x, obx_s, ↓bnd_s, ↓oT_x, oTx_s, ↓ite_x, itx_T, itx_F, ↓reduceIte, not_true_eq_false, not_false_eq_true, true_and, and_true, Nat.reduceAdd, Nat.reduceMul, Nat.reduceSub, Nat.reduceEqDiff, isB0, isB1, Int32.neg_neg, Nat.zero_add, Nat.add_zero, Nat.mul_zero, Nat.mul_one, Nat.zero_mul, h.1, r1]
theorem bkE_n (g : Mem) (c : Nat) (h : ¬ c = 0) : (bkE g).1 c = g.1 c := by
  unfold bkE; rw [stI_ne _ _ _ _ _ h, stI_ne _ _ _ _ _ h, stI_ne _ _ _ _ _ h]
theorem bkE_0 (g : Mem) (j : Nat) : (bkE g).1 0 j = if j = 0 then g.1 10 0 else if j = 6 then g.1 10 1 else if j = 12 then g.1 10 2 else g.1 0 j := by
  unfold bkE
  by_cases h12 : j = 12
  · subst h12; rw [stI_eq]; rfl
  · rw [stI_nj _ _ _ _ _ h12]
    by_cases h6 : j = 6
    · subst h6; rw [stI_eq]; rfl
    · rw [stI_nj _ _ _ _ _ h6]
      by_cases h0 : j = 0
      · subst h0; rw [stI_eq]; rfl
      · rw [stI_nj _ _ _ _ _ h0, if_neg h0, if_neg h6, if_neg h12]
set_option maxRecDepth 100000 in
theorem e_back {N : Nat} (hN : 6000 ≤ N) {gI gM : Mem} (h : R gI gM) : EQ (X5_back N gI) (X6_back N gM) := by
  obtain ⟨d, i, c, hR⟩ := h
  obtain ⟨⟨hS, hB, hG, hH⟩, hT, hP, hSh, hK⟩ := id hR
  rcases hK with ⟨a, b⟩ | ⟨a, b, e, k, h1, h2, h3, h4, h5, h6⟩
  · exact ⟨-3, gI, gM, by simp -dsimp -implicitDefEqProofs (disch := omega) only [X5_back, a, i32_lit, i32_add, i32_mul, i32_tn, i32_sub, le_t, le_f, lt_t, lt_f, eq_t, eq_f, eq_rfl, inR_t, ↓ob_x, obx_s, ↓bnd_s, ↓oT_x, oTx_s, ↓ite_x, itx_T, itx_F, ↓reduceIte, not_true_eq_false, not_false_eq_true, true_and, and_true, Nat.reduceAdd, Nat.reduceMul, Nat.reduceSub, Nat.reduceEqDiff, isB0, isB1, Int32.neg_neg, Nat.zero_add, Nat.add_zero, Nat.mul_zero, Nat.mul_one, Nat.zero_mul], by simp -dsimp -implicitDefEqProofs (disch := omega) only [X6_back, b, i32_lit, i32_add, i32_mul, i32_tn, i32_sub, le_t, le_f, lt_t, lt_f, eq_t, eq_f, eq_rfl, inR_t, ↓ob_x, obx_s, ↓bnd_s, ↓oT_x, oTx_s, ↓ite_x, itx_T, itx_F, ↓reduceIte, not_true_eq_false, not_false_eq_true, true_and, and_true, Nat.reduceAdd, Nat.reduceMul, Nat.reduceSub, Nat.reduceEqDiff, isB0, isB1, Int32.neg_neg, Nat.zero_add, Nat.add_zero, Nat.mul_zero, Nat.mul_one, Nat.zero_mul], d, i, c, hR⟩
  · have hc6 := hT.2.1
    obtain ⟨g1, q1, q2, q3⟩ := becomes_I (N := N) (b := 42) (a := 62) (i := k) (gI := gI) (by omega) h3.2.2.2.2.2.2.2.2.2.2.2.2.1 (by omega)
    obtain ⟨m1, r1, r2⟩ := bk12 (N := N) hN 12 0 N gM (by omega) (by omega) ⟨fun _ _ _ _ => rfl, fun j hj => by omega⟩
    have fM : ∀ e, ¬ e = 0 → ¬ e = 3 → ¬ e = 4 → ¬ e = 5 → (bkE m1).1 e = gM.1 e := fun e x0 x3 x4 x5 => by rw [bkE_n _ _ x0]; exact r2.1 e x3 x4 x5
    have ten : m1.1 10 = gM.1 10 := r2.1 10 (by omega) (by omega) (by omega)
    have fM0 : ∀ j, ¬ j = 0 → ¬ j = 6 → ¬ j = 12 → (bkE m1).1 0 j = gM.1 0 j := fun j x0 x6 x12 => by
      rw [bkE_0, if_neg x0, if_neg x6, if_neg x12, r2.1 0 (by omega) (by omega) (by omega)]
    have n : LkM e (imM gM) (bkE m1) := by
      refine ⟨fun j hj => ?_, fun j hj => ?_, fun j hj => ?_, ?_, ?_, ?_, fun p hp => ?_, fun p hp => ?_, ?_, ?_⟩
      · show _ = gM.1 9 j; rw [bkE_n _ _ (by omega), ← src_3 m1 j hj]; exact r2.2 j (by omega)
      · show _ = gM.1 9 (12 + j); rw [bkE_n _ _ (by omega), ← src_4 m1 j hj]; exact r2.2 (12 + j) (by omega)
      · show _ = gM.1 9 (60 + j); rw [bkE_n _ _ (by omega), ← src_5 m1 j hj]; exact r2.2 (60 + j) (by omega)
      · rw [imM_0 _ _ (by omega), bkE_0, ten]; rfl
      · rw [imM_0 _ _ (by omega), bkE_0, ten]; rfl
      · rw [imM_0 _ _ (by omega), bkE_0, ten]; rfl
      · rw [imM_c _ _ (by omega) (by omega) (by omega) (by omega), fM 1 (by omega) (by omega) (by omega) (by omega)]
      · rw [imM_c _ _ (by omega) (by omega) (by omega) (by omega), fM 2 (by omega) (by omega) (by omega) (by omega)]
      · rw [imM_c _ _ (by omega) (by omega) (by omega) (by omega), fM 7 (by omega) (by omega) (by omega) (by omega)]
      · rw [imM_c _ _ (by omega) (by omega) (by omega) (by omega), fM 8 (by omega) (by omega) (by omega) (by omega)]
    have v := VI_FI (Or.inl rfl) q2
    have w : ∀ D, VM D gM (bkE m1) := fun D => ⟨fun e x0 x3 x4 x5 _ _ _ _ _ => fM e x0 x3 x4 x5, fun j hj => fM0 j (by omega) (by omega) (by omega), fun p hp => ⟨by rw [fM 1 (by omega) (by omega) (by omega) (by omega)], by rw [fM 2 (by omega) (by omega) (by omega) (by omega)]⟩⟩
    have l : LkI 42 g1 g1 := ⟨fun _ _ _ => rfl, rfl, fun _ _ => ⟨rfl, rfl⟩⟩
    have hS42 := Sc_LK h3 (by omega : 42 ≤ 42) q2 q3
    have k42 : g1.1 42 9 = i32 e := q3.2.2.2.2.2.2.2.2.2.1.trans h3.2.2.2.2.2.2.2.1
    have k0 : gM.1 10 0 = i32 e := by
      have x := h3.2.2.2.2.2.2.2.2.1
      rw [imM_0 _ _ (by omega)] at x; exact x
    have l62 : LkI 62 gI g1 := ⟨fun c h1 h2 => v.1 c (by omega) (by omega), v.2 62 (by omega), fun j hj => ⟨v.1 _ (by omega) (by omega), v.1 _ (by omega) (by omega)⟩⟩
    have ni := LkM_im (w e)
    have T := Tq_fr hT v (w d)
    refine ⟨i32 e, g1, bkE m1, by simp -dsimp -implicitDefEqProofs (disch := omega) only [X5_back, a, q1, k42, Nat.one_ne_zero, i32_lit, i32_add, i32_mul, i32_tn, i32_sub, le_t, le_f, lt_t, lt_f, eq_t, eq_f, eq_rfl, inR_t, ↓ob_x, obx_s, ↓bnd_s, ↓oT_x, oTx_s, ↓ite_x, itx_T, itx_F, ↓reduceIte, not_true_eq_false, not_false_eq_true, true_and, and_true, Nat.reduceAdd, Nat.reduceMul, Nat.reduceSub, Nat.reduceEqDiff, isB0, isB1, Int32.neg_neg, Nat.zero_add, Nat.add_zero, Nat.mul_zero, Nat.mul_one, Nat.zero_mul], ?_, e, k, c, ⟨Sc_Lk hS42 l n (Nat.le_refl e), Bd_Lk h4 n (Nat.le_refl e), Bg_Lk (Bg_LK h5 q3) l n, by rw [n.2.2.2.2.1]; exact h6⟩, ⟨h2, T.2⟩, Tp_fr hP v (w d), Sh_fr hSh v (w d), Or.inr ⟨by rw [v.1 72 (by omega) (by omega)]; exact a, by rw [(w d).2.1 13 (by omega)]; exact b, e, k, Nat.le_refl e, h2, Sc_Lk h3 l62 ni (Nat.le_refl e), Bd_Lk h4 ni (Nat.le_refl e), Bg_Lk h5 l62 ni, by rw [ni.2.2.2.2.1]; exact h6⟩⟩
    rw [k0] at r1
    simp -dsimp -implicitDefEqProofs (disch := omega) only [X6_back, b, r1, i32_lit, i32_add, i32_mul, i32_tn, i32_sub, le_t, le_f, lt_t, lt_f, eq_t, eq_f, eq_rfl, inR_t, ↓ob_x, obx_s, ↓bnd_s, ↓oT_x, oTx_s, ↓ite_x, itx_T, itx_F, ↓reduceIte, not_true_eq_false, not_false_eq_true, true_and, and_true, Nat.reduceAdd, Nat.reduceMul, Nat.reduceSub, Nat.reduceEqDiff, isB0, isB1, Int32.neg_neg, Nat.zero_add, Nat.add_zero, Nat.mul_zero, Nat.mul_one, Nat.zero_mul]
