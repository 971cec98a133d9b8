/-! sheets -/
theorem RR_gen {d i c : Nat} {gI gM gI' gM' : Mem} (h : RR d i c gI gM) (hI : ∀ e, ¬ (34 ≤ e ∧ e < 42) → ¬ e = 0 → ¬ e = 1 → gI'.1 e = gI.1 e) (hI2 : gI'.2 = gI.2) (hM : ∀ e, ¬ e = 0 → ¬ e = 6 → ¬ e = 11 → ¬ e = 12 → ¬ e = 13 → gM'.1 e = gM.1 e) (hM0 : ∀ j, ¬ j = 8 → gM'.1 0 j = gM.1 0 j) (hT' : Tp gI' gM') (hS' : Sh gI' gM') : RR d i c gI' gM' := by
  obtain ⟨⟨h1, h2, h3, h4⟩, ⟨t1, t2, t3, t4, t5, t6⟩, h6, h7, h8⟩ := h
  have l : ∀ b, 42 ≤ b → LkI b gI gI' := fun b hb => ⟨fun c h1 h2 => hI c (by omega) (by omega) (by omega), by rw [hI2], fun j hj => ⟨hI _ (by omega) (by omega) (by omega), hI _ (by omega) (by omega) (by omega)⟩⟩
  have f : ∀ e, (e = 1 ∨ e = 2 ∨ e = 3 ∨ e = 4 ∨ e = 5 ∨ e = 7 ∨ e = 8 ∨ e = 9 ∨ e = 10) → gM'.1 e = gM.1 e := fun e he => hM e (by omega) (by omega) (by omega) (by omega) (by omega)
  have n : LkM d gM gM' := ⟨fun _ _ => by rw [f 3 (by omega)], fun _ _ => by rw [f 4 (by omega)], fun _ _ => by rw [f 5 (by omega)], hM0 _ (by omega), hM0 _ (by omega), hM0 _ (by omega), fun _ _ => by rw [f 1 (by omega)], fun _ _ => by rw [f 2 (by omega)], f 7 (by omega), f 8 (by omega)⟩
  have ni : LkM d (imM gM) (imM gM') := by
    refine ⟨fun j _ => ?_, fun j _ => ?_, fun j _ => ?_, ?_, ?_, ?_, fun p hp => ?_, fun p hp => ?_, ?_, ?_⟩
    · show gM'.1 9 j = gM.1 9 j; rw [f 9 (by omega)]
    · show gM'.1 9 (12 + j) = gM.1 9 (12 + j); rw [f 9 (by omega)]
    · show gM'.1 9 (60 + j) = gM.1 9 (60 + j); rw [f 9 (by omega)]
    · rw [imM_0 _ _ (by omega), imM_0 _ _ (by omega), f 10 (by omega)]
    · rw [imM_0 _ _ (by omega), imM_0 _ _ (by omega), f 10 (by omega)]
    · rw [imM_0 _ _ (by omega), imM_0 _ _ (by omega), f 10 (by omega)]
    · rw [imM_c _ _ (by omega) (by omega) (by omega) (by omega), imM_c _ _ (by omega) (by omega) (by omega) (by omega), f 1 (by omega)]
    · rw [imM_c _ _ (by omega) (by omega) (by omega) (by omega), imM_c _ _ (by omega) (by omega) (by omega) (by omega), f 2 (by omega)]
    · rw [imM_c _ _ (by omega) (by omega) (by omega) (by omega), imM_c _ _ (by omega) (by omega) (by omega) (by omega), f 7 (by omega)]
    · rw [imM_c _ _ (by omega) (by omega) (by omega) (by omega), imM_c _ _ (by omega) (by omega) (by omega) (by omega), f 8 (by omega)]
  refine ⟨⟨Sc_Lk h1 (l 42 (by omega)) n (Nat.le_refl d), Bd_Lk h2 n (Nat.le_refl d), Bg_Lk h3 (l 42 (by omega)) n, by rw [n.2.2.2.2.1]; exact h4⟩, ⟨t1, t2, ?_, ?_, fun j hj => ?_, fun j hj => TxI_fr (t6 j hj) (hI _ (by omega) (by omega) (by omega)) (hI _ (by omega) (by omega) (by omega)) (f 7 (by omega)) (f 8 (by omega))⟩, hT', hS', ?_⟩
  · rw [hI 72 (by omega) (by omega) (by omega)]; exact t3
  · rw [hM0 11 (by omega)]; exact t4
  · rw [hI _ (by omega) (by omega) (by omega)]; exact t5 j hj
  · rcases h8 with ⟨a, b⟩ | ⟨a, b, e, k, h1, h2, h3, h4, h5, h6⟩
    · exact Or.inl ⟨by rw [hI 72 (by omega) (by omega) (by omega)]; exact a, by rw [hM0 13 (by omega)]; exact b⟩
    · refine Or.inr ⟨by rw [hI 72 (by omega) (by omega) (by omega)]; exact a, by rw [hM0 13 (by omega)]; exact b, e, k, by omega, h2, Sc_Lk h3 (l 62 (by omega)) ni (by omega), Bd_Lk h4 ni (by omega), Bg_Lk h5 (l 62 (by omega)) ni, ?_⟩
      rw [ni.2.2.2.2.1]; exact h6
/-- a sheet is changed -/
theorem RR_sh {d i c : Nat} {gI gM gI' gM' : Mem} (h : RR d i c gI gM) (hI : ∀ e, ¬ (34 ≤ e ∧ e < 42) → gI'.1 e = gI.1 e) (hI2 : gI'.2 = gI.2) (hM : ∀ e, ¬ e = 11 → ¬ e = 12 → ¬ e = 13 → gM'.1 e = gM.1 e) (hS' : Sh gI' gM') : RR d i c gI' gM' := by
  refine RR_gen h (fun e a _ _ => hI e a) hI2 (fun e _ _ a b c => hM e a b c) (fun j _ => by rw [hM 0 (by omega) (by omega) (by omega)]) ?_ hS'
  obtain ⟨z, a, b, e1, e2⟩ := h.2.2.1
  exact ⟨z, ⟨a.1, fun j hj => by rw [hM 15 (by omega) (by omega) (by omega)]; exact a.2 j hj⟩, by rw [hI 0 (by omega)]; exact b, by rw [hM 0 (by omega) (by omega) (by omega)]; exact e1, by rw [hI 1 (by omega), hM 6 (by omega) (by omega) (by omega)]; exact e2⟩
theorem Sh_one {s : Nat} {gI gM gI' gM' : Mem} (h : Sh gI gM) (hI : ∀ e, ¬ e = 34 + 2 * s → ¬ e = 34 + 2 * s + 1 → (34 ≤ e ∧ e < 42) → gI'.1 e = gI.1 e) (h11 : ∀ j, ¬ j = s → gM'.1 11 j = gM.1 11 j) (h12 : ∀ j, ¬ j = s → gM'.1 12 j = gM.1 12 j) (h13 : ∀ j, ¬ (40 * s ≤ j ∧ j < 40 * s + 40) → gM'.1 13 j = gM.1 13 j)
    (hs : gI'.1 (34 + 2 * s) 1 = gM'.1 11 s ∧ (gM'.1 11 s = -(i32 1) ∨ NB 2 (gM'.1 11 s)) ∧ (∃ m, m ≤ 40 ∧ gI'.1 (34 + 2 * s) 2 = i32 m ∧ gM'.1 12 s = i32 m) ∧ ∀ j, j < 40 → gI'.1 (34 + 2 * s + 1) j = gM'.1 13 (40 * s + j)) : Sh gI' gM' := by
  intro t ht
  by_cases e : t = s
  · subst e; exact hs
  · obtain ⟨a, b, c, q⟩ := h t ht
    rw [hI (34 + 2 * t) (by omega) (by omega) (by omega), hI (34 + 2 * t + 1) (by omega) (by omega) (by omega), h11 t e, h12 t e]
    exact ⟨a, b, c, fun j hj => by rw [h13 _ (by omega)]; exact q j hj⟩
theorem kdS {s : Nat} (h : s < 4) : kdI (34 + 2 * s + 1) = 0 ∧ lnI (34 + 2 * s + 1) = 40 := by
  rcases (by omega : s = 0 ∨ s = 1 ∨ s = 2 ∨ s = 3) with rfl | rfl | rfl | rfl <;> exact ⟨rfl, rfl⟩
set_option maxRecDepth 100000 in
theorem fill_l {N q : Nat} (h1 : kdI q = 0) (h2 : lnI q = 40) {gI : Mem} : ∀ (n x fu : Nat) (g : Mem), x + n = 40 → n < fu → (∀ e, ¬ e = q → g.1 e = gI.1 e) → g.2 = gI.2 → (∀ j, j < x → g.1 q j = i32 0) →
    ∃ g', J7_fill_53178_L5 N q (i32 0) fu (i32 x) (i32 40) g = some (i32 0, g') ∧ (∀ e, ¬ e = q → g'.1 e = gI.1 e) ∧ g'.2 = gI.2 ∧ ∀ j, j < 40 → g'.1 q j = i32 0
  | 0, x, fu, g, a, b, c, e, f => by
    obtain ⟨fu, rfl⟩ : ∃ q, fu = q + 1 := ⟨fu - 1, by omega⟩
    exact ⟨g, by simp -dsimp -implicitDefEqProofs (disch := omega) only [J7_fill_53178_L5, i32_lit, i32_add, i32_mul, i32_tn, i32_sub, le_t, le_f, lt_t, lt_f, eq_t, eq_f, eq_rfl, inR_t, ↓ob_x, obx_s, ↓bnd_s, ↓oT_x, oTx_s, ↓ite_x, itx_T, itx_F, ↓reduceIte, not_true_eq_false, not_false_eq_true, true_and, and_true, Nat.reduceAdd, Nat.reduceMul, Nat.reduceSub, Nat.reduceEqDiff, isB0, isB1, Int32.neg_neg, Nat.zero_add, Nat.add_zero, Nat.mul_zero, Nat.mul_one, Nat.zero_mul], c, e, fun j hj => f j (by omega)⟩
  | n + 1, x, fu, g, a, b, c, e, f => by
    obtain ⟨fu, rfl⟩ : ∃ q, fu = q + 1 := ⟨fu - 1, by omega⟩
    obtain ⟨g', r1, r2⟩ := fill_l (N := N) h1 h2 n (x + 1) fu (stI g q x (i32 0)) (by omega) (by omega) (fun e he => by rw [stI_ne _ _ _ _ _ he]; exact c e he) e (fun j hj => by
      by_cases hjx : j = x
      · subst hjx; rw [stI_eq]
      · rw [stI_nj _ _ _ _ _ hjx]; exact f j (by omega))
    exact ⟨g', by simp -dsimp -implicitDefEqProofs (disch := omega) only [J7_fill_53178_L5, h1, h2, r1, i32_lit, i32_add, i32_mul, i32_tn, i32_sub, le_t, le_f, lt_t, lt_f, eq_t, eq_f, eq_rfl, inR_t, ↓ob_x, obx_s, ↓bnd_s, ↓oT_x, oTx_s, ↓ite_x, itx_T, itx_F, ↓reduceIte, not_true_eq_false, not_false_eq_true, true_and, and_true, Nat.reduceAdd, Nat.reduceMul, Nat.reduceSub, Nat.reduceEqDiff, isB0, isB1, Int32.neg_neg, Nat.zero_add, Nat.add_zero, Nat.mul_zero, Nat.mul_one, Nat.zero_mul], r2⟩
set_option maxRecDepth 100000 in
theorem bec_I {N s : Nat} (hN : 6000 ≤ N) (hs : s < 4) (a1 a2 : Int32) (gI : Mem) : ∃ g', X2_becomes N (34 + 2 * s) a1 a2 gI = some (i32 0, g') ∧ (∀ e, ¬ e = 34 + 2 * s → ¬ e = 34 + 2 * s + 1 → g'.1 e = gI.1 e) ∧ g'.2 = gI.2 ∧ g'.1 (34 + 2 * s) 1 = a1 ∧ g'.1 (34 + 2 * s) 2 = a2 ∧ ∀ j, j < 40 → g'.1 (34 + 2 * s + 1) j = i32 0 := by
  obtain ⟨h1, h2⟩ := kdS hs
  obtain ⟨g, r1, r2, r3, r4⟩ := fill_l (N := N) h1 h2 40 0 N gI (by omega) (by omega) (fun _ _ => rfl) rfl (fun j hj => by omega)
  refine ⟨stI (stI g (34 + 2 * s) 1 a1) (34 + 2 * s) 2 a2, by simp -dsimp -implicitDefEqProofs (disch := omega) only [X2_becomes, J7_fill_53178, h1, h2, ofn, r1, i32_lit, i32_add, i32_mul, i32_tn, i32_sub, le_t, le_f, lt_t, lt_f, eq_t, eq_f, eq_rfl, inR_t, ↓ob_x, obx_s, ↓bnd_s, ↓oT_x, oTx_s, ↓ite_x, itx_T, itx_F, ↓reduceIte, not_true_eq_false, not_false_eq_true, true_and, and_true, Nat.reduceAdd, Nat.reduceMul, Nat.reduceSub, Nat.reduceEqDiff, isB0, isB1, Int32.neg_neg, Nat.zero_add, Nat.add_zero, Nat.mul_zero, Nat.mul_one, Nat.zero_mul], fun e q1 q2 => ?_, r3, ?_, stI_eq _ _ _ _, fun j hj => ?_⟩
  · rw [stI_ne _ _ _ _ _ q1, stI_ne _ _ _ _ _ q1]; exact r2 e q2
  · rw [stI_nj _ _ _ _ _ (by omega), stI_eq]
  · rw [stI_ne _ _ _ _ _ (by omega), stI_ne _ _ _ _ _ (by omega)]; exact r4 j hj
set_option maxRecDepth 100000 in
theorem shM_l {N s : Nat} (hs : s < 4) (a2 a3 : Int32) {gM : Mem} : ∀ (n x fu : Nat) (g : Mem), x + n = 40 → n < fu → (∀ e, ¬ e = 13 → g.1 e = gM.1 e) → (∀ j, ¬ (40 * s ≤ j ∧ j < 40 * s + 40) → g.1 13 j = gM.1 13 j) → (∀ j, j < x → g.1 13 (40 * s + j) = i32 0) →
    ∃ g', X6_sheet_L70 N (i32 s) a2 a3 fu (i32 x) g = some (i32 1, g') ∧ (∀ e, ¬ e = 13 → g'.1 e = gM.1 e) ∧ (∀ j, ¬ (40 * s ≤ j ∧ j < 40 * s + 40) → g'.1 13 j = gM.1 13 j) ∧ ∀ j, j < 40 → g'.1 13 (40 * s + j) = i32 0
  | 0, x, fu, g, a, b, c, e, f => by
    obtain ⟨fu, rfl⟩ : ∃ q, fu = q + 1 := ⟨fu - 1, by omega⟩
    exact ⟨g, by simp -dsimp -implicitDefEqProofs (disch := omega) only [X6_sheet_L70, i32_lit, i32_add, i32_mul, i32_tn, i32_sub, le_t, le_f, lt_t, lt_f, eq_t, eq_f, eq_rfl, inR_t, ↓ob_x, obx_s, ↓bnd_s, ↓oT_x, oTx_s, ↓ite_x, itx_T, itx_F, ↓reduceIte, not_true_eq_false, not_false_eq_true, true_and, and_true, Nat.reduceAdd, Nat.reduceMul, Nat.reduceSub, Nat.reduceEqDiff, isB0, isB1, Int32.neg_neg, Nat.zero_add, Nat.add_zero, Nat.mul_zero, Nat.mul_one, Nat.zero_mul], c, e, fun j hj => f j (by omega)⟩
  | n + 1, x, fu, g, a, b, c, e, f => by
    obtain ⟨fu, rfl⟩ : ∃ q, fu = q + 1 := ⟨fu - 1, by omega⟩
    obtain ⟨g', r1, r2⟩ := shM_l (N := N) (gM := gM) hs a2 a3 n (x + 1) fu (stI g 13 (40 * s + x) (i32 0)) (by omega) (by omega) (fun e he => by rw [stI_ne _ _ _ _ _ he]; exact c e he) (fun j hj => by rw [stI_nj _ _ _ _ _ (by omega)]; exact e j hj) (fun j hj => by
      by_cases hjx : j = x
      · subst hjx; rw [stI_eq]
      · rw [stI_nj _ _ _ _ _ (by omega)]; exact f j (by omega))
    exact ⟨g', by simp -dsimp -implicitDefEqProofs (disch := omega) only [X6_sheet_L70, r1, i32_lit, i32_add, i32_mul, i32_tn, i32_sub, le_t, le_f, lt_t, lt_f, eq_t, eq_f, eq_rfl, inR_t, ↓ob_x, obx_s, ↓bnd_s, ↓oT_x, oTx_s, ↓ite_x, itx_T, itx_F, ↓reduceIte, not_true_eq_false, not_false_eq_true, true_and, and_true, Nat.reduceAdd, Nat.reduceMul, Nat.reduceSub, Nat.reduceEqDiff, isB0, isB1, Int32.neg_neg, Nat.zero_add, Nat.add_zero, Nat.mul_zero, Nat.mul_one, Nat.zero_mul], r2⟩
theorem m1_2 : (-(i32 1) ≤ i32 2) = True := eq_true (by decide)
theorem m1_m1 : (-(i32 1) < -(i32 1)) = False := eq_false (by decide)
theorem x2_m1 : (i32 2 < -(i32 1)) = False := eq_false (by decide)
theorem n_m1 {n : Nat} (h : n < 2147483648) : (i32 n < -(i32 1)) = False := eq_false fun q => by
  rw [Int32.lt_iff_toInt_lt, i32_toInt h, i32_negI (by omega)] at q; omega
set_option maxRecDepth 100000 in
theorem sheet_c {N d i c s : Nat} (hN : 6000 ≤ N) {gI gM : Mem} (hR : RR d i c gI gM) (hs : s < 4) (a2 x3 : Int32) (m : Nat) (hm : m ≤ 40) (h2 : a2 = -(i32 1) ∨ NB 2 a2) :
    ∃ g1 m1, X2_becomes N (34 + 2 * s) a2 (i32 m) gI = some (i32 0, g1) ∧ X6_sheet_L70 N (i32 s) a2 x3 N (i32 0) (stI (stI gM 11 s a2) 12 s (i32 m)) = some (i32 1, m1) ∧ RR d i c g1 m1 := by
  obtain ⟨g1, r1, r2, r3, r4, r5, r6⟩ := bec_I hN hs a2 (i32 m) gI
  obtain ⟨m1, s1, s2, s3, s4⟩ := shM_l (N := N) hs a2 x3 40 0 N (stI (stI gM 11 s a2) 12 s (i32 m)) (by omega) (by omega) (fun _ _ => rfl) (fun _ _ => rfl) (fun j hj => by omega)
  refine ⟨g1, m1, r1, s1, RR_sh hR (fun e he => r2 e (by omega) (by omega)) r3 (fun e a b c => ?_) ?_⟩
  · rw [s2 e c, stI_ne _ _ _ _ _ b, stI_ne _ _ _ _ _ a]
  · have e11 : m1.1 11 s = a2 := by rw [s2 11 (by omega), stI_ne _ _ _ _ _ (by omega), stI_eq]
    have e12 : m1.1 12 s = i32 m := by rw [s2 12 (by omega), stI_eq]
    refine Sh_one hR.2.2.2.1 (fun e a b _ => r2 e a b) (fun j hj => ?_) (fun j hj => ?_) (fun j hj => ?_) ⟨?_, ?_, ⟨m, hm, r5, e12⟩, fun j hj => ?_⟩
    · rw [s2 11 (by omega), stI_ne _ _ _ _ _ (by omega), stI_nj _ _ _ _ _ hj]
    · rw [s2 12 (by omega), stI_nj _ _ _ _ _ hj, stI_ne _ _ _ _ _ (by omega)]
    · rw [s3 j hj, stI_ne _ _ _ _ _ (by omega), stI_ne _ _ _ _ _ (by omega)]
    · rw [r4, e11]
    · rw [e11]; exact h2
    · rw [r6 j hj, s4 j hj]
set_option maxRecDepth 100000 in
theorem e_sheet {N : Nat} (hN : 6000 ≤ N) {gI gM : Mem} (h : R gI gM) (a1 a2 a3 : Int32) : EQ (X5_sheet N a1 a2 a3 gI) (X6_sheet N a1 a2 a3 gM) := by
  obtain ⟨d, i, c, hR⟩ := h
  rcases rg a1 4 (by omega) with ⟨s, hs, rfl⟩ | o1
  · by_cases hm1 : a2 = -(i32 1)
    · subst hm1
      obtain ⟨g1, m1, r1, r2, r3⟩ := sheet_c hN hR hs (-(i32 1)) a3 0 (by omega) (Or.inl rfl)
      have e1 : X6_in N (-(i32 1)) (-(i32 1)) (i32 2) gM = some (i32 1, gM) := by simp -dsimp -implicitDefEqProofs (disch := omega) only [X6_in, m1_m1, x2_m1, eq_false (by decide : ¬ i32 2 < -(i32 1)), i32_lit, i32_add, i32_mul, i32_tn, i32_sub, le_t, le_f, lt_t, lt_f, eq_t, eq_f, eq_rfl, inR_t, ↓ob_x, obx_s, ↓bnd_s, ↓oT_x, oTx_s, ↓ite_x, itx_T, itx_F, ↓reduceIte, not_true_eq_false, not_false_eq_true, true_and, and_true, Nat.reduceAdd, Nat.reduceMul, Nat.reduceSub, Nat.reduceEqDiff, isB0, isB1, Int32.neg_neg, Nat.zero_add, Nat.add_zero, Nat.mul_zero, Nat.mul_one, Nat.zero_mul]
      exact ⟨1, g1, m1, by simp -dsimp -implicitDefEqProofs (disch := omega) only [X5_sheet, isH_t, m1_m1, m1_2, r1, i32_lit, i32_add, i32_mul, i32_tn, i32_sub, le_t, le_f, lt_t, lt_f, eq_t, eq_f, eq_rfl, inR_t, ↓ob_x, obx_s, ↓bnd_s, ↓oT_x, oTx_s, ↓ite_x, itx_T, itx_F, ↓reduceIte, not_true_eq_false, not_false_eq_true, true_and, and_true, Nat.reduceAdd, Nat.reduceMul, Nat.reduceSub, Nat.reduceEqDiff, isB0, isB1, Int32.neg_neg, Nat.zero_add, Nat.add_zero, Nat.mul_zero, Nat.mul_one, Nat.zero_mul], by simp -dsimp -implicitDefEqProofs (disch := omega) only [X6_sheet, in_t, e1, r2, i32_lit, i32_add, i32_mul, i32_tn, i32_sub, le_t, le_f, lt_t, lt_f, eq_t, eq_f, eq_rfl, inR_t, ↓ob_x, obx_s, ↓bnd_s, ↓oT_x, oTx_s, ↓ite_x, itx_T, itx_F, ↓reduceIte, not_true_eq_false, not_false_eq_true, true_and, and_true, Nat.reduceAdd, Nat.reduceMul, Nat.reduceSub, Nat.reduceEqDiff, isB0, isB1, Int32.neg_neg, Nat.zero_add, Nat.add_zero, Nat.mul_zero, Nat.mul_one, Nat.zero_mul], d, i, c, r3⟩
    · rcases rg a2 3 (by omega) with ⟨k, hk, rfl⟩ | o2
      · have e1 : X6_in N (i32 k) (-(i32 1)) (i32 2) gM = some (i32 1, gM) := by simp -dsimp -implicitDefEqProofs (disch := omega) only [X6_in, n_m1, i32_lit, i32_add, i32_mul, i32_tn, i32_sub, le_t, le_f, lt_t, lt_f, eq_t, eq_f, eq_rfl, inR_t, ↓ob_x, obx_s, ↓bnd_s, ↓oT_x, oTx_s, ↓ite_x, itx_T, itx_F, ↓reduceIte, not_true_eq_false, not_false_eq_true, true_and, and_true, Nat.reduceAdd, Nat.reduceMul, Nat.reduceSub, Nat.reduceEqDiff, isB0, isB1, Int32.neg_neg, Nat.zero_add, Nat.add_zero, Nat.mul_zero, Nat.mul_one, Nat.zero_mul]
        have n1 := ne_m (x := k) (v := 1) (by omega)
        rcases rg a3 41 (by omega) with ⟨m, hm, rfl⟩ | o3
        · obtain ⟨g1, m1, r1, r2, r3⟩ := sheet_c hN hR hs (i32 k) (i32 m) m (by omega) (Or.inr ⟨k, by omega, rfl⟩)
          exact ⟨1, g1, m1, by simp -dsimp -implicitDefEqProofs (disch := omega) only [X5_sheet, isH_t, n_m1, n1, r1, i32_lit, i32_add, i32_mul, i32_tn, i32_sub, le_t, le_f, lt_t, lt_f, eq_t, eq_f, eq_rfl, inR_t, ↓ob_x, obx_s, ↓bnd_s, ↓oT_x, oTx_s, ↓ite_x, itx_T, itx_F, ↓reduceIte, not_true_eq_false, not_false_eq_true, true_and, and_true, Nat.reduceAdd, Nat.reduceMul, Nat.reduceSub, Nat.reduceEqDiff, isB0, isB1, Int32.neg_neg, Nat.zero_add, Nat.add_zero, Nat.mul_zero, Nat.mul_one, Nat.zero_mul], by simp -dsimp -implicitDefEqProofs (disch := omega) only [X6_sheet, in_t, e1, n1, r2, i32_lit, i32_add, i32_mul, i32_tn, i32_sub, le_t, le_f, lt_t, lt_f, eq_t, eq_f, eq_rfl, inR_t, ↓ob_x, obx_s, ↓bnd_s, ↓oT_x, oTx_s, ↓ite_x, itx_T, itx_F, ↓reduceIte, not_true_eq_false, not_false_eq_true, true_and, and_true, Nat.reduceAdd, Nat.reduceMul, Nat.reduceSub, Nat.reduceEqDiff, isB0, isB1, Int32.neg_neg, Nat.zero_add, Nat.add_zero, Nat.mul_zero, Nat.mul_one, Nat.zero_mul], d, i, c, r3⟩
        · rcases o3 with o3 | ⟨o3, _⟩
          · have h1 : (a3 ≤ i32 40) = True := eq_true (by rw [Int32.lt_iff_toInt_lt, i32_toInt (by omega)] at o3; rw [Int32.le_iff_toInt_le, i32_toInt (by omega)]; omega)
            have h2 : (i32 0 ≤ a3) = False := eq_false (by rw [Int32.lt_iff_toInt_lt, i32_toInt (by omega)] at o3; rw [Int32.le_iff_toInt_le, i32_toInt (by omega)]; omega)
            exact ⟨-14, gI, gM, by simp -dsimp -implicitDefEqProofs (disch := omega) only [X5_sheet, isH_t, n_m1, n1, h1, h2, i32_lit, i32_add, i32_mul, i32_tn, i32_sub, le_t, le_f, lt_t, lt_f, eq_t, eq_f, eq_rfl, inR_t, ↓ob_x, obx_s, ↓bnd_s, ↓oT_x, oTx_s, ↓ite_x, itx_T, itx_F, ↓reduceIte, not_true_eq_false, not_false_eq_true, true_and, and_true, Nat.reduceAdd, Nat.reduceMul, Nat.reduceSub, Nat.reduceEqDiff, isB0, isB1, Int32.neg_neg, Nat.zero_add, Nat.add_zero, Nat.mul_zero, Nat.mul_one, Nat.zero_mul], by simp -dsimp -implicitDefEqProofs (disch := omega) only [X6_sheet, in_t, e1, n1, h1, h2, i32_lit, i32_add, i32_mul, i32_tn, i32_sub, le_t, le_f, lt_t, lt_f, eq_t, eq_f, eq_rfl, inR_t, ↓ob_x, obx_s, ↓bnd_s, ↓oT_x, oTx_s, ↓ite_x, itx_T, itx_F, ↓reduceIte, not_true_eq_false, not_false_eq_true, true_and, and_true, Nat.reduceAdd, Nat.reduceMul, Nat.reduceSub, Nat.reduceEqDiff, isB0, isB1, Int32.neg_neg, Nat.zero_add, Nat.add_zero, Nat.mul_zero, Nat.mul_one, Nat.zero_mul], d, i, c, hR⟩
          · have h1 : (a3 ≤ i32 40) = False := eq_false (by rw [Int32.le_iff_toInt_le, i32_toInt (by omega)] at o3 ⊢; omega)
            exact ⟨-2, gI, gM, by simp -dsimp -implicitDefEqProofs (disch := omega) only [X5_sheet, isH_t, n_m1, n1, h1, i32_lit, i32_add, i32_mul, i32_tn, i32_sub, le_t, le_f, lt_t, lt_f, eq_t, eq_f, eq_rfl, inR_t, ↓ob_x, obx_s, ↓bnd_s, ↓oT_x, oTx_s, ↓ite_x, itx_T, itx_F, ↓reduceIte, not_true_eq_false, not_false_eq_true, true_and, and_true, Nat.reduceAdd, Nat.reduceMul, Nat.reduceSub, Nat.reduceEqDiff, isB0, isB1, Int32.neg_neg, Nat.zero_add, Nat.add_zero, Nat.mul_zero, Nat.mul_one, Nat.zero_mul], by simp -dsimp -implicitDefEqProofs (disch := omega) only [X6_sheet, in_t, e1, n1, h1, i32_lit, i32_add, i32_mul, i32_tn, i32_sub, le_t, le_f, lt_t, lt_f, eq_t, eq_f, eq_rfl, inR_t, ↓ob_x, obx_s, ↓bnd_s, ↓oT_x, oTx_s, ↓ite_x, itx_T, itx_F, ↓reduceIte, not_true_eq_false, not_false_eq_true, true_and, and_true, Nat.reduceAdd, Nat.reduceMul, Nat.reduceSub, Nat.reduceEqDiff, isB0, isB1, Int32.neg_neg, Nat.zero_add, Nat.add_zero, Nat.mul_zero, Nat.mul_one, Nat.zero_mul], d, i, c, hR⟩
      · by_cases hlt : a2 < -(i32 1)
        · have e1 : X6_in N a2 (-(i32 1)) (i32 2) gM = some (i32 0, gM) := by simp -dsimp -implicitDefEqProofs (disch := omega) only [X6_in, hlt, i32_lit, i32_add, i32_mul, i32_tn, i32_sub, le_t, le_f, lt_t, lt_f, eq_t, eq_f, eq_rfl, inR_t, ↓ob_x, obx_s, ↓bnd_s, ↓oT_x, oTx_s, ↓ite_x, itx_T, itx_F, ↓reduceIte, not_true_eq_false, not_false_eq_true, true_and, and_true, Nat.reduceAdd, Nat.reduceMul, Nat.reduceSub, Nat.reduceEqDiff, isB0, isB1, Int32.neg_neg, Nat.zero_add, Nat.add_zero, Nat.mul_zero, Nat.mul_one, Nat.zero_mul]
          exact ⟨-2, gI, gM, by simp -dsimp -implicitDefEqProofs (disch := omega) only [X5_sheet, isH_t, hlt, i32_lit, i32_add, i32_mul, i32_tn, i32_sub, le_t, le_f, lt_t, lt_f, eq_t, eq_f, eq_rfl, inR_t, ↓ob_x, obx_s, ↓bnd_s, ↓oT_x, oTx_s, ↓ite_x, itx_T, itx_F, ↓reduceIte, not_true_eq_false, not_false_eq_true, true_and, and_true, Nat.reduceAdd, Nat.reduceMul, Nat.reduceSub, Nat.reduceEqDiff, isB0, isB1, Int32.neg_neg, Nat.zero_add, Nat.add_zero, Nat.mul_zero, Nat.mul_one, Nat.zero_mul], by simp -dsimp -implicitDefEqProofs (disch := omega) only [X6_sheet, in_t, e1, i32_lit, i32_add, i32_mul, i32_tn, i32_sub, le_t, le_f, lt_t, lt_f, eq_t, eq_f, eq_rfl, inR_t, ↓ob_x, obx_s, ↓bnd_s, ↓oT_x, oTx_s, ↓ite_x, itx_T, itx_F, ↓reduceIte, not_true_eq_false, not_false_eq_true, true_and, and_true, Nat.reduceAdd, Nat.reduceMul, Nat.reduceSub, Nat.reduceEqDiff, isB0, isB1, Int32.neg_neg, Nat.zero_add, Nat.add_zero, Nat.mul_zero, Nat.mul_one, Nat.zero_mul], d, i, c, hR⟩
        · have h3 : (i32 2 < a2) = True := eq_true (by
            rw [Int32.lt_iff_toInt_lt, i32_negI (by omega)] at hlt
            rw [Int32.lt_iff_toInt_lt, i32_toInt (by omega)]
            rcases o2 with o | ⟨o, _⟩
            · rw [Int32.lt_iff_toInt_lt, i32_toInt (by omega)] at o
              exact absurd (Int32.toInt_inj.mp (by rw [i32_negI (by omega)]; omega)) hm1
            · rw [Int32.le_iff_toInt_le, i32_toInt (by omega)] at o; omega)
          have h4 : (a2 ≤ i32 2) = False := eq_false (by
            have := of_eq_true h3
            rw [Int32.lt_iff_toInt_lt, i32_toInt (by omega)] at this
            rw [Int32.le_iff_toInt_le, i32_toInt (by omega)]; omega)
          have e1 : X6_in N a2 (-(i32 1)) (i32 2) gM = some (i32 0, gM) := by simp -dsimp -implicitDefEqProofs (disch := omega) only [X6_in, hlt, h3, i32_lit, i32_add, i32_mul, i32_tn, i32_sub, le_t, le_f, lt_t, lt_f, eq_t, eq_f, eq_rfl, inR_t, ↓ob_x, obx_s, ↓bnd_s, ↓oT_x, oTx_s, ↓ite_x, itx_T, itx_F, ↓reduceIte, not_true_eq_false, not_false_eq_true, true_and, and_true, Nat.reduceAdd, Nat.reduceMul, Nat.reduceSub, Nat.reduceEqDiff, isB0, isB1, Int32.neg_neg, Nat.zero_add, Nat.add_zero, Nat.mul_zero, Nat.mul_one, Nat.zero_mul]
          exact ⟨-2, gI, gM, by simp -dsimp -implicitDefEqProofs (disch := omega) only [X5_sheet, isH_t, hlt, h4, i32_lit, i32_add, i32_mul, i32_tn, i32_sub, le_t, le_f, lt_t, lt_f, eq_t, eq_f, eq_rfl, inR_t, ↓ob_x, obx_s, ↓bnd_s, ↓oT_x, oTx_s, ↓ite_x, itx_T, itx_F, ↓reduceIte, not_true_eq_false, not_false_eq_true, true_and, and_true, Nat.reduceAdd, Nat.reduceMul, Nat.reduceSub, Nat.reduceEqDiff, isB0, isB1, Int32.neg_neg, Nat.zero_add, Nat.add_zero, Nat.mul_zero, Nat.mul_one, Nat.zero_mul], by simp -dsimp -implicitDefEqProofs (disch := omega) only [X6_sheet, in_t, e1, i32_lit, i32_add, i32_mul, i32_tn, i32_sub, le_t, le_f, lt_t, lt_f, eq_t, eq_f, eq_rfl, inR_t, ↓ob_x, obx_s, ↓bnd_s, ↓oT_x, oTx_s, ↓ite_x, itx_T, itx_F, ↓reduceIte, not_true_eq_false, not_false_eq_true, true_and, and_true, Nat.reduceAdd, Nat.reduceMul, Nat.reduceSub, Nat.reduceEqDiff, isB0, isB1, Int32.neg_neg, Nat.zero_add, Nat.add_zero, Nat.mul_zero, Nat.mul_one, Nat.zero_mul], d, i, c, hR⟩
  · exact ⟨-2, gI, gM, by simp -dsimp -implicitDefEqProofs (disch := omega) only [X5_sheet, isH_f gI o1, i32_lit, i32_add, i32_mul, i32_tn, i32_sub, le_t, le_f, lt_t, lt_f, eq_t, eq_f, eq_rfl, inR_t, ↓ob_x, obx_s, ↓bnd_s, ↓oT_x, oTx_s, ↓ite_x, itx_T, itx_F, ↓reduceIte, not_true_eq_false, not_false_eq_true, true_and, and_true, Nat.reduceAdd, Nat.reduceMul, Nat.reduceSub, Nat.reduceEqDiff, isB0, isB1, Int32.neg_neg, Nat.zero_add, Nat.add_zero, Nat.mul_zero, Nat.mul_one, Nat.zero_mul], by simp -dsimp -implicitDefEqProofs (disch := omega) only [X6_sheet, in_f gM (by omega : 3 < 1000000) o1, i32_lit, i32_add, i32_mul, i32_tn, i32_sub, le_t, le_f, lt_t, lt_f, eq_t, eq_f, eq_rfl, inR_t, ↓ob_x, obx_s, ↓bnd_s, ↓oT_x, oTx_s, ↓ite_x, itx_T, itx_F, ↓reduceIte, not_true_eq_false, not_false_eq_true, true_and, and_true, Nat.reduceAdd, Nat.reduceMul, Nat.reduceSub, Nat.reduceEqDiff, isB0, isB1, Int32.neg_neg, Nat.zero_add, Nat.add_zero, Nat.mul_zero, Nat.mul_one, Nat.zero_mul], d, i, c, hR⟩
