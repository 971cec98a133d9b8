/-! the reference reads a token -/
def TM (B : Nat → Nat) (z : Nat) (g : Mem) : Prop := z ≤ 160 ∧ g.1 0 8 = i32 z ∧ (∀ j, j < z → B j < 256 ∧ g.1 6 j = i32 (B j)) ∧ WR g
def FQ (g g' : Mem) : Prop := (∀ c, ¬ c = 0 → g'.1 c = g.1 c) ∧ (∀ j, ¬ j = 20 → ¬ j = 21 → ¬ j = 22 → ¬ j = 23 → g'.1 0 j = g.1 0 j)
theorem FQ_rfl (g : Mem) : FQ g g := ⟨fun _ _ => rfl, fun _ _ _ _ _ => rfl⟩
theorem FQ_tr {a b c : Mem} (h : FQ a b) (k : FQ b c) : FQ a c := ⟨fun e q => (k.1 e q).trans (h.1 e q), fun j a1 a2 a3 a4 => (k.2 j a1 a2 a3 a4).trans (h.2 j a1 a2 a3 a4)⟩
theorem FQ_st (g : Mem) (j : Nat) (v : Int32) (h : j = 20 ∨ j = 21 ∨ j = 22 ∨ j = 23) : FQ g (stI g 0 j v) := ⟨fun c hc => stI_ne _ _ _ _ _ hc, fun i a1 a2 a3 a4 => stI_nj _ _ _ _ _ (by omega)⟩
theorem TM_FQ {B : Nat → Nat} {z : Nat} {g g' : Mem} (h : TM B z g) (f : FQ g g') : TM B z g' := ⟨h.1, by rw [f.2 8 (by omega) (by omega) (by omega) (by omega)]; exact h.2.1, by rw [f.1 6 (by omega)]; exact h.2.2.1, fun j hj => by rw [f.1 15 (by omega)]; exact h.2.2.2 j hj⟩
theorem wdN_lt : ∀ j, j < 96 → wdN j < 256 := by decide +kernel
set_option maxRecDepth 100000 in
theorem wfi_l {N q e z k : Nat} {B : Nat → Nat} {g : Mem} (hT : TM B z g) (hq : q ≤ e) (he : e ≤ z) (h8 : e - q ≤ 8) (hk : k < 12) : ∀ (n c fu : Nat), c + n = 8 → n + 2 < fu →
    (wmR B q e k c n = 1 → X6_wordFrom_G2 N (i32 q) (i32 e) fu 1 (i32 k) (i32 1) (i32 c) g = some (i32 k, g)) ∧ (wmR B q e k c n = 0 → ∃ fu', fu ≤ fu' + n + 2 ∧ fu' < fu ∧ X6_wordFrom_G2 N (i32 q) (i32 e) fu 1 (i32 k) (i32 1) (i32 c) g = X6_wordFrom_G2 N (i32 q) (i32 e) fu' 0 (i32 (k + 1)) (i32 0) (i32 0) g)
  | 0, c, fu, h1, h2 => by
    obtain ⟨fu, rfl⟩ : ∃ q, fu = q + 1 := ⟨fu - 1, by omega⟩
    refine ⟨fun _ => by simp -dsimp -implicitDefEqProofs (disch := omega) only [X6_wordFrom_G2, i32_lit, i32_add, i32_mul, i32_tn, i32_sub, le_t, le_f, lt_t, lt_f, eq_t, eq_f, eq_rfl, inR_t, ↓ob_x, obx_s, ↓bnd_s, ↓oT_x, oTx_s, ↓ite_x, itx_T, itx_F, ↓reduceIte, not_true_eq_false, not_false_eq_true, true_and, and_true, Nat.reduceAdd, Nat.reduceMul, Nat.reduceSub, Nat.reduceEqDiff, isB0, isB1, Int32.neg_neg, Nat.zero_add, Nat.add_zero, Nat.mul_zero, Nat.mul_one, Nat.zero_mul], fun h => by rw [wmR] at h; omega⟩
  | n + 1, c, fu, h1, h2 => by
    obtain ⟨fu, rfl⟩ : ∃ q, fu = q + 1 := ⟨fu - 1, by omega⟩
    obtain ⟨t1, t2, t3, t4⟩ := id hT
    have w1 := t4 (8 * k + c) (by omega)
    have w2 := wdN_lt (8 * k + c) (by omega)
    have bad : ∃ fu', fu + 1 ≤ fu' + 2 ∧ fu' < fu + 1 ∧ X6_wordFrom_G2 N (i32 q) (i32 e) fu 1 (i32 k) (i32 0) (i32 (c + 1)) g = X6_wordFrom_G2 N (i32 q) (i32 e) fu' 0 (i32 (k + 1)) (i32 0) (i32 0) g := by
      obtain ⟨fu, rfl⟩ : ∃ q, fu = q + 1 := ⟨fu - 1, by omega⟩
      refine ⟨fu, by omega, by omega, ?_⟩
      by_cases h : 8 ≤ c + 1
      · simp -dsimp -implicitDefEqProofs (disch := omega) only [X6_wordFrom_G2, i32_lit, i32_add, i32_mul, i32_tn, i32_sub, le_t, le_f, lt_t, lt_f, eq_t, eq_f, eq_rfl, inR_t, ↓ob_x, obx_s, ↓bnd_s, ↓oT_x, oTx_s, ↓ite_x, itx_T, itx_F, ↓reduceIte, not_true_eq_false, not_false_eq_true, true_and, and_true, Nat.reduceAdd, Nat.reduceMul, Nat.reduceSub, Nat.reduceEqDiff, isB0, isB1, Int32.neg_neg, Nat.zero_add, Nat.add_zero, Nat.mul_zero, Nat.mul_one, Nat.zero_mul]
      · simp -dsimp -implicitDefEqProofs (disch := omega) only [X6_wordFrom_G2, i32_lit, i32_add, i32_mul, i32_tn, i32_sub, le_t, le_f, lt_t, lt_f, eq_t, eq_f, eq_rfl, inR_t, ↓ob_x, obx_s, ↓bnd_s, ↓oT_x, oTx_s, ↓ite_x, itx_T, itx_F, ↓reduceIte, not_true_eq_false, not_false_eq_true, true_and, and_true, Nat.reduceAdd, Nat.reduceMul, Nat.reduceSub, Nat.reduceEqDiff, isB0, isB1, Int32.neg_neg, Nat.zero_add, Nat.add_zero, Nat.mul_zero, Nat.mul_one, Nat.zero_mul]
    obtain ⟨i1, i2⟩ := wfi_l (N := N) hT hq he h8 hk n (c + 1) fu (by omega) (by omega)
    rw [wmR]
    by_cases hc : q + c < e
    · rw [if_pos hc]
      obtain ⟨b0, b1⟩ := t3 (q + c) (by omega)
      by_cases h : wdN (8 * k + c) = B (q + c)
      · rw [if_pos h]
        refine ⟨fun x => ?_, fun x => ?_⟩
        · rw [← i1 x]; simp -dsimp -implicitDefEqProofs (disch := omega) only [X6_wordFrom_G2, w1, b1, h, i32_lit, i32_add, i32_mul, i32_tn, i32_sub, le_t, le_f, lt_t, lt_f, eq_t, eq_f, eq_rfl, inR_t, ↓ob_x, obx_s, ↓bnd_s, ↓oT_x, oTx_s, ↓ite_x, itx_T, itx_F, ↓reduceIte, not_true_eq_false, not_false_eq_true, true_and, and_true, Nat.reduceAdd, Nat.reduceMul, Nat.reduceSub, Nat.reduceEqDiff, isB0, isB1, Int32.neg_neg, Nat.zero_add, Nat.add_zero, Nat.mul_zero, Nat.mul_one, Nat.zero_mul]
        · obtain ⟨f', f1, f2, f3⟩ := i2 x
          refine ⟨f', by omega, by omega, ?_⟩
          rw [← f3]; simp -dsimp -implicitDefEqProofs (disch := omega) only [X6_wordFrom_G2, w1, b1, h, i32_lit, i32_add, i32_mul, i32_tn, i32_sub, le_t, le_f, lt_t, lt_f, eq_t, eq_f, eq_rfl, inR_t, ↓ob_x, obx_s, ↓bnd_s, ↓oT_x, oTx_s, ↓ite_x, itx_T, itx_F, ↓reduceIte, not_true_eq_false, not_false_eq_true, true_and, and_true, Nat.reduceAdd, Nat.reduceMul, Nat.reduceSub, Nat.reduceEqDiff, isB0, isB1, Int32.neg_neg, Nat.zero_add, Nat.add_zero, Nat.mul_zero, Nat.mul_one, Nat.zero_mul]
      · rw [if_neg h]
        refine ⟨fun x => by omega, fun _ => ?_⟩
        obtain ⟨f', f1, f2, f3⟩ := bad
        refine ⟨f', by omega, by omega, ?_⟩
        rw [← f3]; simp -dsimp -implicitDefEqProofs (disch := omega) only [X6_wordFrom_G2, w1, b1, i32_lit, i32_add, i32_mul, i32_tn, i32_sub, le_t, le_f, lt_t, lt_f, eq_t, eq_f, eq_rfl, inR_t, ↓ob_x, obx_s, ↓bnd_s, ↓oT_x, oTx_s, ↓ite_x, itx_T, itx_F, ↓reduceIte, not_true_eq_false, not_false_eq_true, true_and, and_true, Nat.reduceAdd, Nat.reduceMul, Nat.reduceSub, Nat.reduceEqDiff, isB0, isB1, Int32.neg_neg, Nat.zero_add, Nat.add_zero, Nat.mul_zero, Nat.mul_one, Nat.zero_mul]
    · rw [if_neg hc]
      by_cases h : wdN (8 * k + c) = 32
      · rw [if_pos h]
        refine ⟨fun x => ?_, fun x => ?_⟩
        · rw [← i1 x]; simp -dsimp -implicitDefEqProofs (disch := omega) only [X6_wordFrom_G2, w1, h, i32_lit, i32_add, i32_mul, i32_tn, i32_sub, le_t, le_f, lt_t, lt_f, eq_t, eq_f, eq_rfl, inR_t, ↓ob_x, obx_s, ↓bnd_s, ↓oT_x, oTx_s, ↓ite_x, itx_T, itx_F, ↓reduceIte, not_true_eq_false, not_false_eq_true, true_and, and_true, Nat.reduceAdd, Nat.reduceMul, Nat.reduceSub, Nat.reduceEqDiff, isB0, isB1, Int32.neg_neg, Nat.zero_add, Nat.add_zero, Nat.mul_zero, Nat.mul_one, Nat.zero_mul]
        · obtain ⟨f', f1, f2, f3⟩ := i2 x
          refine ⟨f', by omega, by omega, ?_⟩
          rw [← f3]; simp -dsimp -implicitDefEqProofs (disch := omega) only [X6_wordFrom_G2, w1, h, i32_lit, i32_add, i32_mul, i32_tn, i32_sub, le_t, le_f, lt_t, lt_f, eq_t, eq_f, eq_rfl, inR_t, ↓ob_x, obx_s, ↓bnd_s, ↓oT_x, oTx_s, ↓ite_x, itx_T, itx_F, ↓reduceIte, not_true_eq_false, not_false_eq_true, true_and, and_true, Nat.reduceAdd, Nat.reduceMul, Nat.reduceSub, Nat.reduceEqDiff, isB0, isB1, Int32.neg_neg, Nat.zero_add, Nat.add_zero, Nat.mul_zero, Nat.mul_one, Nat.zero_mul]
      · rw [if_neg h]
        refine ⟨fun x => by omega, fun _ => ?_⟩
        obtain ⟨f', f1, f2, f3⟩ := bad
        refine ⟨f', by omega, by omega, ?_⟩
        rw [← f3]; simp -dsimp -implicitDefEqProofs (disch := omega) only [X6_wordFrom_G2, w1, i32_lit, i32_add, i32_mul, i32_tn, i32_sub, le_t, le_f, lt_t, lt_f, eq_t, eq_f, eq_rfl, inR_t, ↓ob_x, obx_s, ↓bnd_s, ↓oT_x, oTx_s, ↓ite_x, itx_T, itx_F, ↓reduceIte, not_true_eq_false, not_false_eq_true, true_and, and_true, Nat.reduceAdd, Nat.reduceMul, Nat.reduceSub, Nat.reduceEqDiff, isB0, isB1, Int32.neg_neg, Nat.zero_add, Nat.add_zero, Nat.mul_zero, Nat.mul_one, Nat.zero_mul]
set_option maxRecDepth 100000 in
theorem wfo_l {N q e z : Nat} {B : Nat → Nat} {g : Mem} (hT : TM B z g) (hq : q ≤ e) (he : e ≤ z) : ∀ (n k fu : Nat), k + n = 12 → 13 * n + 2 < fu → X6_wordFrom_G2 N (i32 q) (i32 e) fu 0 (i32 k) (i32 0) (i32 0) g = some (i32 (wfd B q e k n), g)
  | 0, k, fu, h1, h2 => by
    obtain ⟨fu, rfl⟩ : ∃ q, fu = q + 1 := ⟨fu - 1, by omega⟩
    simp -dsimp -implicitDefEqProofs (disch := omega) only [X6_wordFrom_G2, wfd, i32_lit, i32_add, i32_mul, i32_tn, i32_sub, le_t, le_f, lt_t, lt_f, eq_t, eq_f, eq_rfl, inR_t, ↓ob_x, obx_s, ↓bnd_s, ↓oT_x, oTx_s, ↓ite_x, itx_T, itx_F, ↓reduceIte, not_true_eq_false, not_false_eq_true, true_and, and_true, Nat.reduceAdd, Nat.reduceMul, Nat.reduceSub, Nat.reduceEqDiff, isB0, isB1, Int32.neg_neg, Nat.zero_add, Nat.add_zero, Nat.mul_zero, Nat.mul_one, Nat.zero_mul]
  | n + 1, k, fu, h1, h2 => by
    obtain ⟨fu, rfl⟩ : ∃ q, fu = q + 1 := ⟨fu - 1, by omega⟩
    have hz := hT.1
    rw [wfd]
    by_cases h8 : 8 < e - q
    · have e0 : wm B q e k = 0 := by unfold wm; rw [if_pos h8]
      rw [if_pos e0]
      obtain ⟨fu, rfl⟩ : ∃ q, fu = q + 1 := ⟨fu - 1, by omega⟩
      rw [← wfo_l (N := N) hT hq he n (k + 1) fu (by omega) (by omega)]
      simp -dsimp -implicitDefEqProofs (disch := omega) only [X6_wordFrom_G2, i32_lit, i32_add, i32_mul, i32_tn, i32_sub, le_t, le_f, lt_t, lt_f, eq_t, eq_f, eq_rfl, inR_t, ↓ob_x, obx_s, ↓bnd_s, ↓oT_x, oTx_s, ↓ite_x, itx_T, itx_F, ↓reduceIte, not_true_eq_false, not_false_eq_true, true_and, and_true, Nat.reduceAdd, Nat.reduceMul, Nat.reduceSub, Nat.reduceEqDiff, isB0, isB1, Int32.neg_neg, Nat.zero_add, Nat.add_zero, Nat.mul_zero, Nat.mul_one, Nat.zero_mul]
    · have e0 : wm B q e k = wmR B q e k 0 8 := by unfold wm; rw [if_neg h8]
      obtain ⟨i1, i2⟩ := wfi_l (N := N) hT hq he (by omega) (by omega : k < 12) 8 0 fu (by omega) (by omega)
      rw [e0]
      rcases wmR_iff B q e k 8 0 with ⟨a, _⟩ | ⟨a, _⟩
      · rw [if_neg (by omega)]
        rw [← i1 a]
        simp -dsimp -implicitDefEqProofs (disch := omega) only [X6_wordFrom_G2, i32_lit, i32_add, i32_mul, i32_tn, i32_sub, le_t, le_f, lt_t, lt_f, eq_t, eq_f, eq_rfl, inR_t, ↓ob_x, obx_s, ↓bnd_s, ↓oT_x, oTx_s, ↓ite_x, itx_T, itx_F, ↓reduceIte, not_true_eq_false, not_false_eq_true, true_and, and_true, Nat.reduceAdd, Nat.reduceMul, Nat.reduceSub, Nat.reduceEqDiff, isB0, isB1, Int32.neg_neg, Nat.zero_add, Nat.add_zero, Nat.mul_zero, Nat.mul_one, Nat.zero_mul]
      · rw [if_pos a]
        obtain ⟨f', f1, f2, f3⟩ := i2 a
        rw [← wfo_l (N := N) hT hq he n (k + 1) f' (by omega) (by omega), ← f3]
        simp -dsimp -implicitDefEqProofs (disch := omega) only [X6_wordFrom_G2, i32_lit, i32_add, i32_mul, i32_tn, i32_sub, le_t, le_f, lt_t, lt_f, eq_t, eq_f, eq_rfl, inR_t, ↓ob_x, obx_s, ↓bnd_s, ↓oT_x, oTx_s, ↓ite_x, itx_T, itx_F, ↓reduceIte, not_true_eq_false, not_false_eq_true, true_and, and_true, Nat.reduceAdd, Nat.reduceMul, Nat.reduceSub, Nat.reduceEqDiff, isB0, isB1, Int32.neg_neg, Nat.zero_add, Nat.add_zero, Nat.mul_zero, Nat.mul_one, Nat.zero_mul]
theorem wordF {N q e z : Nat} (hN : 6000 ≤ N) {B : Nat → Nat} {g : Mem} (hT : TM B z g) (hq : q ≤ e) (he : e ≤ z) : X6_wordFrom N (i32 q) (i32 e) g = some (i32 (wfd B q e 0 12), g) := wfo_l hT hq he 12 0 N (by omega) (by omega)
/-- the reference's token, told from the class's symbol -/
def tkF (s : Nat) : Int32 := if s = 256 then i32 0 else if s = 257 then -(i32 1) else if s = 258 then i32 1 else if s = 263 then i32 5 else if s = 264 then i32 4 else if s = 265 then i32 6 else if 266 ≤ s then i32 2 else if 260 ≤ s then i32 3 else i32 s
def vlF (s : Nat) : Int32 := if 266 ≤ s then i32 (s - 266) else i32 (s - 260)
def MT (B : Nat → Nat) (z q : Nat) (g : Mem) : Prop := g.1 0 20 = i32 (lxN B z q) ∧ g.1 0 21 = i32 q ∧ g.1 0 22 = tkF (lxS B z q) ∧ ((260 ≤ lxS B z q ∧ lxS B z q < 263) ∨ 266 ≤ lxS B z q → g.1 0 23 = vlF (lxS B z q)) ∧
  (q < z → 48 ≤ B q → B q ≤ 57 → dnd B (z - q) q - q ≤ 4 → g.1 0 23 = i32 (dvl B (z - q) q 0))
theorem wfd_le (B : Nat → Nat) (q e : Nat) : wfd B q e 0 12 ≤ 12 := by
  rcases wfd_sp B q e 12 0 (by omega) with ⟨a, _⟩ | ⟨_, a, _⟩ <;> omega
set_option maxRecDepth 100000 in
theorem wrm_l {N q z : Nat} (hN : 6000 ≤ N) {B : Nat → Nat} {g0 : Mem} (hT0 : TM B z g0) : ∀ (n p fu : Nat) (g : Mem), p + n = z → n < fu → q ≤ p → FQ g0 g → g.1 0 21 = i32 q → g.1 0 20 = i32 p →
    ∃ g', X6_next_L103 N fu g = some (i32 0, g') ∧ FQ g0 g' ∧ g'.1 0 20 = i32 (wnd B n p) ∧ g'.1 0 21 = i32 q ∧ g'.1 0 22 = tkF (wcd B q (wnd B n p)) ∧ ((260 ≤ wcd B q (wnd B n p) ∧ wcd B q (wnd B n p) < 263) ∨ 266 ≤ wcd B q (wnd B n p) → g'.1 0 23 = vlF (wcd B q (wnd B n p))) := by
  have fin : ∀ (k : Nat) (p : Nat) (g : Mem), k ≤ 12 → FQ g0 g → g.1 0 21 = i32 q → g.1 0 20 = i32 p → ∀ tv : Int32 × Int32, tv = (tkF (wcL.getD k 0), if k < 3 then i32 k else i32 (k - 3)) →
      (fun g' => FQ g0 g' ∧ g'.1 0 20 = i32 p ∧ g'.1 0 21 = i32 q ∧ g'.1 0 22 = tkF (wcL.getD k 0) ∧ ((260 ≤ wcL.getD k 0 ∧ wcL.getD k 0 < 263) ∨ 266 ≤ wcL.getD k 0 → g'.1 0 23 = vlF (wcL.getD k 0))) (stI (stI g 0 22 tv.1) 0 23 tv.2) := by
    intro k p g hk f h1 h2 tv ht
    subst ht
    refine ⟨FQ_tr f (FQ_tr (FQ_st _ _ _ (by omega)) (FQ_st _ _ _ (by omega))), by simp -dsimp -implicitDefEqProofs (disch := omega) only [stI_eq, stI_nj, stI_ne, stI_2, stA_eq, stA_ne, stA_2, stR_1, stR_2]; exact h2, by simp -dsimp -implicitDefEqProofs (disch := omega) only [stI_eq, stI_nj, stI_ne, stI_2, stA_eq, stA_ne, stA_2, stR_1, stR_2]; exact h1, by simp -dsimp -implicitDefEqProofs (disch := omega) only [stI_eq, stI_nj, stI_ne, stI_2, stA_eq, stA_ne, stA_2, stR_1, stR_2], fun hc => ?_⟩
    rw [stI_eq]
    have key : ∀ k, k ≤ 12 → ((260 ≤ wcL.getD k 0 ∧ wcL.getD k 0 < 263) ∨ 266 ≤ wcL.getD k 0) → (if k < 3 then i32 k else i32 (k - 3)) = vlF (wcL.getD k 0) := by decide +kernel
    exact key k hk hc
  have run : ∀ (p : Nat) (g : Mem), q ≤ p → p ≤ z → FQ g0 g → g.1 0 21 = i32 q → g.1 0 20 = i32 p → ∃ k, k = wfd B q p 0 12 ∧ k ≤ 12 ∧ X6_wordFrom N (i32 q) (i32 p) g = some (i32 k, g) := fun p g h1 h2 f h3 h4 => ⟨_, rfl, wfd_le B q p, wordF hN (TM_FQ hT0 f) h1 h2⟩
  intro n
  induction n with
  | zero =>
    intro p fu g h1 h2 h3 f h4 h5
    obtain ⟨fu, rfl⟩ : ∃ q, fu = q + 1 := ⟨fu - 1, by omega⟩
    obtain ⟨t1, t2, t3, t4⟩ := TM_FQ hT0 f
    obtain ⟨k, k1, k2, k3⟩ := run p g h3 (by omega) f h4 h5
    have e1 : wnd B 0 p = p := rfl
    have e2 : wcd B q p = wcL.getD k 0 := by unfold wcd; rw [← k1]
    rw [e1, e2]
    refine ⟨_, ?_, fin k p g k2 f h4 h5 _ rfl⟩
    rcases (by omega : k = 0 ∨ k = 1 ∨ k = 2 ∨ k = 3 ∨ k = 4 ∨ k = 5 ∨ k = 6 ∨ k = 7 ∨ k = 8 ∨ k = 9 ∨ k = 10 ∨ k = 11 ∨ k = 12) with h | h | h | h | h | h | h | h | h | h | h | h | h <;> (rw [h] at k3 ⊢; simp -dsimp -implicitDefEqProofs (disch := omega) only [X6_next_L103, t2, h5, h4, k3, i32_lit, i32_add, i32_mul, i32_tn, i32_sub, le_t, le_f, lt_t, lt_f, eq_t, eq_f, eq_rfl, inR_t, ↓ob_x, obx_s, ↓bnd_s, ↓oT_x, oTx_s, ↓ite_x, itx_T, itx_F, ↓reduceIte, not_true_eq_false, not_false_eq_true, true_and, and_true, Nat.reduceAdd, Nat.reduceMul, Nat.reduceSub, Nat.reduceEqDiff, isB0, isB1, Int32.neg_neg, Nat.zero_add, Nat.add_zero, Nat.mul_zero, Nat.mul_one, Nat.zero_mul] <;> rfl)
  | succ n ih =>
    intro p fu g h1 h2 h3 f h4 h5
    obtain ⟨fu, rfl⟩ : ∃ q, fu = q + 1 := ⟨fu - 1, by omega⟩
    obtain ⟨t1, t2, t3, t4⟩ := TM_FQ hT0 f
    obtain ⟨b0, b1⟩ := t3 p (by omega)
    by_cases h : 97 ≤ B p ∧ B p ≤ 122
    · have e1 : wnd B (n + 1) p = wnd B n (p + 1) := by rw [wnd, if_pos h]
      have c1 : X6_in N (i32 (B p)) (i32 97) (i32 122) g = some (i32 1, g) := by simp -dsimp -implicitDefEqProofs (disch := omega) only [X6_in, i32_lit, i32_add, i32_mul, i32_tn, i32_sub, le_t, le_f, lt_t, lt_f, eq_t, eq_f, eq_rfl, inR_t, ↓ob_x, obx_s, ↓bnd_s, ↓oT_x, oTx_s, ↓ite_x, itx_T, itx_F, ↓reduceIte, not_true_eq_false, not_false_eq_true, true_and, and_true, Nat.reduceAdd, Nat.reduceMul, Nat.reduceSub, Nat.reduceEqDiff, isB0, isB1, Int32.neg_neg, Nat.zero_add, Nat.add_zero, Nat.mul_zero, Nat.mul_one, Nat.zero_mul]
      obtain ⟨g', r1, r2⟩ := ih (p + 1) fu (stI g 0 20 (i32 (p + 1))) (by omega) (by omega) (by omega) (FQ_tr f (FQ_st _ _ _ (by omega))) (by rw [stI_nj _ _ _ _ _ (by omega)]; exact h4) (stI_eq _ _ _ _)
      rw [e1]
      exact ⟨g', by simp -dsimp -implicitDefEqProofs (disch := omega) only [X6_next_L103, t2, h5, b1, c1, r1, i32_lit, i32_add, i32_mul, i32_tn, i32_sub, le_t, le_f, lt_t, lt_f, eq_t, eq_f, eq_rfl, inR_t, ↓ob_x, obx_s, ↓bnd_s, ↓oT_x, oTx_s, ↓ite_x, itx_T, itx_F, ↓reduceIte, not_true_eq_false, not_false_eq_true, true_and, and_true, Nat.reduceAdd, Nat.reduceMul, Nat.reduceSub, Nat.reduceEqDiff, isB0, isB1, Int32.neg_neg, Nat.zero_add, Nat.add_zero, Nat.mul_zero, Nat.mul_one, Nat.zero_mul], r2⟩
    · have e1 : wnd B (n + 1) p = p := by rw [wnd, if_neg h]
      have c1 : X6_in N (i32 (B p)) (i32 97) (i32 122) g = some (i32 0, g) := by
        by_cases h97 : 97 ≤ B p
        · simp -dsimp -implicitDefEqProofs (disch := omega) only [X6_in, i32_lit, i32_add, i32_mul, i32_tn, i32_sub, le_t, le_f, lt_t, lt_f, eq_t, eq_f, eq_rfl, inR_t, ↓ob_x, obx_s, ↓bnd_s, ↓oT_x, oTx_s, ↓ite_x, itx_T, itx_F, ↓reduceIte, not_true_eq_false, not_false_eq_true, true_and, and_true, Nat.reduceAdd, Nat.reduceMul, Nat.reduceSub, Nat.reduceEqDiff, isB0, isB1, Int32.neg_neg, Nat.zero_add, Nat.add_zero, Nat.mul_zero, Nat.mul_one, Nat.zero_mul]
        · simp -dsimp -implicitDefEqProofs (disch := omega) only [X6_in, i32_lit, i32_add, i32_mul, i32_tn, i32_sub, le_t, le_f, lt_t, lt_f, eq_t, eq_f, eq_rfl, inR_t, ↓ob_x, obx_s, ↓bnd_s, ↓oT_x, oTx_s, ↓ite_x, itx_T, itx_F, ↓reduceIte, not_true_eq_false, not_false_eq_true, true_and, and_true, Nat.reduceAdd, Nat.reduceMul, Nat.reduceSub, Nat.reduceEqDiff, isB0, isB1, Int32.neg_neg, Nat.zero_add, Nat.add_zero, Nat.mul_zero, Nat.mul_one, Nat.zero_mul]
      obtain ⟨k, k1, k2, k3⟩ := run p g h3 (by omega) f h4 h5
      have e2 : wcd B q p = wcL.getD k 0 := by unfold wcd; rw [← k1]
      rw [e1, e2]
      refine ⟨_, ?_, fin k p g k2 f h4 h5 _ rfl⟩
      rcases (by omega : k = 0 ∨ k = 1 ∨ k = 2 ∨ k = 3 ∨ k = 4 ∨ k = 5 ∨ k = 6 ∨ k = 7 ∨ k = 8 ∨ k = 9 ∨ k = 10 ∨ k = 11 ∨ k = 12) with h | h | h | h | h | h | h | h | h | h | h | h | h <;> (rw [h] at k3 ⊢; simp -dsimp -implicitDefEqProofs (disch := omega) only [X6_next_L103, t2, h5, h4, b1, c1, k3, i32_lit, i32_add, i32_mul, i32_tn, i32_sub, le_t, le_f, lt_t, lt_f, eq_t, eq_f, eq_rfl, inR_t, ↓ob_x, obx_s, ↓bnd_s, ↓oT_x, oTx_s, ↓ite_x, itx_T, itx_F, ↓reduceIte, not_true_eq_false, not_false_eq_true, true_and, and_true, Nat.reduceAdd, Nat.reduceMul, Nat.reduceSub, Nat.reduceEqDiff, isB0, isB1, Int32.neg_neg, Nat.zero_add, Nat.add_zero, Nat.mul_zero, Nat.mul_one, Nat.zero_mul] <;> rfl)
set_option maxRecDepth 100000 in
theorem nmm_l {N q z : Nat} {B : Nat → Nat} {g0 : Mem} (hT0 : TM B z g0) : ∀ (n p v fu : Nat) (g : Mem), p + n = z → n < fu → q ≤ p → FQ g0 g → g.1 0 21 = i32 q → g.1 0 20 = i32 p → (p - q ≤ 4 → g.1 0 23 = i32 v) →
    ∃ g', X6_next_L230 N fu (i32 (p - q)) g = some (i32 0, g') ∧ FQ g0 g' ∧ g'.1 0 20 = i32 (dnd B n p) ∧ g'.1 0 21 = i32 q ∧ g'.1 0 22 = tkF (if dnd B n p - q ≤ 4 then 258 else 257) ∧ (dnd B n p - q ≤ 4 → g'.1 0 23 = i32 (dvl B n p v)) := by
  have fin : ∀ (p v : Nat) (g : Mem), FQ g0 g → g.1 0 21 = i32 q → g.1 0 20 = i32 p → (p - q ≤ 4 → g.1 0 23 = i32 v) → (fun g' => FQ g0 g' ∧ g'.1 0 20 = i32 p ∧ g'.1 0 21 = i32 q ∧ g'.1 0 22 = tkF (if p - q ≤ 4 then 258 else 257) ∧ (p - q ≤ 4 → g'.1 0 23 = i32 v)) (stI g 0 22 (if p - q ≤ 4 then i32 1 else -(i32 1))) := by
    intro p v g f h1 h2 h3
    refine ⟨FQ_tr f (FQ_st _ _ _ (by omega)), by simp -dsimp -implicitDefEqProofs (disch := omega) only [stI_eq, stI_nj, stI_ne, stI_2, stA_eq, stA_ne, stA_2, stR_1, stR_2]; exact h2, by simp -dsimp -implicitDefEqProofs (disch := omega) only [stI_eq, stI_nj, stI_ne, stI_2, stA_eq, stA_ne, stA_2, stR_1, stR_2]; exact h1, ?_, fun h => by rw [stI_nj _ _ _ _ _ (by omega)]; exact h3 h⟩
    rw [stI_eq]
    by_cases h : p - q ≤ 4
    · rw [if_pos h, if_pos h]; rfl
    · rw [if_neg h, if_neg h]; rfl
  intro n
  induction n with
  | zero =>
    intro p v fu g h1 h2 h3 f h4 h5 h6
    obtain ⟨fu, rfl⟩ : ∃ q, fu = q + 1 := ⟨fu - 1, by omega⟩
    obtain ⟨t1, t2, t3, t4⟩ := TM_FQ hT0 f
    refine ⟨_, ?_, fin p v g f h4 h5 h6⟩
    by_cases h : p - q ≤ 4
    · rw [if_pos h]; simp -dsimp -implicitDefEqProofs (disch := omega) only [X6_next_L230, t2, h5, i32_lit, i32_add, i32_mul, i32_tn, i32_sub, le_t, le_f, lt_t, lt_f, eq_t, eq_f, eq_rfl, inR_t, ↓ob_x, obx_s, ↓bnd_s, ↓oT_x, oTx_s, ↓ite_x, itx_T, itx_F, ↓reduceIte, not_true_eq_false, not_false_eq_true, true_and, and_true, Nat.reduceAdd, Nat.reduceMul, Nat.reduceSub, Nat.reduceEqDiff, isB0, isB1, Int32.neg_neg, Nat.zero_add, Nat.add_zero, Nat.mul_zero, Nat.mul_one, Nat.zero_mul]
    · rw [if_neg h]; simp -dsimp -implicitDefEqProofs (disch := omega) only [X6_next_L230, t2, h5, i32_lit, i32_add, i32_mul, i32_tn, i32_sub, le_t, le_f, lt_t, lt_f, eq_t, eq_f, eq_rfl, inR_t, ↓ob_x, obx_s, ↓bnd_s, ↓oT_x, oTx_s, ↓ite_x, itx_T, itx_F, ↓reduceIte, not_true_eq_false, not_false_eq_true, true_and, and_true, Nat.reduceAdd, Nat.reduceMul, Nat.reduceSub, Nat.reduceEqDiff, isB0, isB1, Int32.neg_neg, Nat.zero_add, Nat.add_zero, Nat.mul_zero, Nat.mul_one, Nat.zero_mul]
  | succ n ih =>
    intro p v fu g h1 h2 h3 f h4 h5 h6
    obtain ⟨fu, rfl⟩ : ∃ q, fu = q + 1 := ⟨fu - 1, by omega⟩
    obtain ⟨t1, t2, t3, t4⟩ := TM_FQ hT0 f
    obtain ⟨b0, b1⟩ := t3 p (by omega)
    by_cases h : 48 ≤ B p ∧ B p ≤ 57
    · have e1 : dnd B (n + 1) p = dnd B n (p + 1) := by rw [dnd, if_pos h]
      have e2 : dvl B (n + 1) p v = dvl B n (p + 1) (v * 10 + B p - 48) := by rw [dvl, if_pos h]
      have c1 : X6_in N (i32 (B p)) (i32 48) (i32 57) g = some (i32 1, g) := by simp -dsimp -implicitDefEqProofs (disch := omega) only [X6_in, i32_lit, i32_add, i32_mul, i32_tn, i32_sub, le_t, le_f, lt_t, lt_f, eq_t, eq_f, eq_rfl, inR_t, ↓ob_x, obx_s, ↓bnd_s, ↓oT_x, oTx_s, ↓ite_x, itx_T, itx_F, ↓reduceIte, not_true_eq_false, not_false_eq_true, true_and, and_true, Nat.reduceAdd, Nat.reduceMul, Nat.reduceSub, Nat.reduceEqDiff, isB0, isB1, Int32.neg_neg, Nat.zero_add, Nat.add_zero, Nat.mul_zero, Nat.mul_one, Nat.zero_mul]
      have em : p - q + 1 = p + 1 - q := by omega
      rw [e1, e2]
      by_cases h4' : 4 ≤ p - q
      · obtain ⟨g', r1, r2⟩ := ih (p + 1) (v * 10 + B p - 48) fu (stI (stI g 0 23 (i32 0)) 0 20 (i32 (p + 1))) (by omega) (by omega) (by omega) (FQ_tr f (FQ_tr (FQ_st _ _ _ (by omega)) (FQ_st _ _ _ (by omega)))) (by simp -dsimp -implicitDefEqProofs (disch := omega) only [stI_eq, stI_nj, stI_ne, stI_2, stA_eq, stA_ne, stA_2, stR_1, stR_2]; exact h4) (stI_eq _ _ _ _) (fun x => by omega)
        exact ⟨g', by simp -dsimp -implicitDefEqProofs (disch := omega) only [X6_next_L230, t2, h5, b1, c1, em, r1, i32_lit, i32_add, i32_mul, i32_tn, i32_sub, le_t, le_f, lt_t, lt_f, eq_t, eq_f, eq_rfl, inR_t, ↓ob_x, obx_s, ↓bnd_s, ↓oT_x, oTx_s, ↓ite_x, itx_T, itx_F, ↓reduceIte, not_true_eq_false, not_false_eq_true, true_and, and_true, Nat.reduceAdd, Nat.reduceMul, Nat.reduceSub, Nat.reduceEqDiff, isB0, isB1, Int32.neg_neg, Nat.zero_add, Nat.add_zero, Nat.mul_zero, Nat.mul_one, Nat.zero_mul, stI_eq, stI_nj, stI_ne, stI_2, stA_eq, stA_ne, stA_2, stR_1, stR_2], r2⟩
      · have h6' := h6 (by omega)
        have ev : i32 10 * i32 v = i32 (v * 10) := by rw [i32_mul, Nat.mul_comm]
        have ev2 : 10 * v = v * 10 := Nat.mul_comm 10 v
        obtain ⟨g', r1, r2⟩ := ih (p + 1) (v * 10 + B p - 48) fu (stI (stI g 0 23 (i32 (v * 10 + B p - 48))) 0 20 (i32 (p + 1))) (by omega) (by omega) (by omega) (FQ_tr f (FQ_tr (FQ_st _ _ _ (by omega)) (FQ_st _ _ _ (by omega)))) (by simp -dsimp -implicitDefEqProofs (disch := omega) only [stI_eq, stI_nj, stI_ne, stI_2, stA_eq, stA_ne, stA_2, stR_1, stR_2]; exact h4) (stI_eq _ _ _ _) (fun _ => by simp -dsimp -implicitDefEqProofs (disch := omega) only [stI_eq, stI_nj, stI_ne, stI_2, stA_eq, stA_ne, stA_2, stR_1, stR_2])
        exact ⟨g', by simp -dsimp -implicitDefEqProofs (disch := omega) only [X6_next_L230, t2, h5, h6', b1, c1, em, ev2, r1, i32_lit, i32_add, i32_mul, i32_tn, i32_sub, le_t, le_f, lt_t, lt_f, eq_t, eq_f, eq_rfl, inR_t, ↓ob_x, obx_s, ↓bnd_s, ↓oT_x, oTx_s, ↓ite_x, itx_T, itx_F, ↓reduceIte, not_true_eq_false, not_false_eq_true, true_and, and_true, Nat.reduceAdd, Nat.reduceMul, Nat.reduceSub, Nat.reduceEqDiff, isB0, isB1, Int32.neg_neg, Nat.zero_add, Nat.add_zero, Nat.mul_zero, Nat.mul_one, Nat.zero_mul, stI_eq, stI_nj, stI_ne, stI_2, stA_eq, stA_ne, stA_2, stR_1, stR_2], r2⟩
    · have e1 : dnd B (n + 1) p = p := by rw [dnd, if_neg h]
      have e2 : dvl B (n + 1) p v = v := by rw [dvl, if_neg h]
      have c1 : X6_in N (i32 (B p)) (i32 48) (i32 57) g = some (i32 0, g) := by
        by_cases h97 : 48 ≤ B p
        · simp -dsimp -implicitDefEqProofs (disch := omega) only [X6_in, i32_lit, i32_add, i32_mul, i32_tn, i32_sub, le_t, le_f, lt_t, lt_f, eq_t, eq_f, eq_rfl, inR_t, ↓ob_x, obx_s, ↓bnd_s, ↓oT_x, oTx_s, ↓ite_x, itx_T, itx_F, ↓reduceIte, not_true_eq_false, not_false_eq_true, true_and, and_true, Nat.reduceAdd, Nat.reduceMul, Nat.reduceSub, Nat.reduceEqDiff, isB0, isB1, Int32.neg_neg, Nat.zero_add, Nat.add_zero, Nat.mul_zero, Nat.mul_one, Nat.zero_mul]
        · simp -dsimp -implicitDefEqProofs (disch := omega) only [X6_in, i32_lit, i32_add, i32_mul, i32_tn, i32_sub, le_t, le_f, lt_t, lt_f, eq_t, eq_f, eq_rfl, inR_t, ↓ob_x, obx_s, ↓bnd_s, ↓oT_x, oTx_s, ↓ite_x, itx_T, itx_F, ↓reduceIte, not_true_eq_false, not_false_eq_true, true_and, and_true, Nat.reduceAdd, Nat.reduceMul, Nat.reduceSub, Nat.reduceEqDiff, isB0, isB1, Int32.neg_neg, Nat.zero_add, Nat.add_zero, Nat.mul_zero, Nat.mul_one, Nat.zero_mul]
      rw [e1, e2]
      refine ⟨_, ?_, fin p v g f h4 h5 h6⟩
      by_cases h : p - q ≤ 4
      · rw [if_pos h]; simp -dsimp -implicitDefEqProofs (disch := omega) only [X6_next_L230, t2, h5, b1, c1, i32_lit, i32_add, i32_mul, i32_tn, i32_sub, le_t, le_f, lt_t, lt_f, eq_t, eq_f, eq_rfl, inR_t, ↓ob_x, obx_s, ↓bnd_s, ↓oT_x, oTx_s, ↓ite_x, itx_T, itx_F, ↓reduceIte, not_true_eq_false, not_false_eq_true, true_and, and_true, Nat.reduceAdd, Nat.reduceMul, Nat.reduceSub, Nat.reduceEqDiff, isB0, isB1, Int32.neg_neg, Nat.zero_add, Nat.add_zero, Nat.mul_zero, Nat.mul_one, Nat.zero_mul]
      · rw [if_neg h]; simp -dsimp -implicitDefEqProofs (disch := omega) only [X6_next_L230, t2, h5, b1, c1, i32_lit, i32_add, i32_mul, i32_tn, i32_sub, le_t, le_f, lt_t, lt_f, eq_t, eq_f, eq_rfl, inR_t, ↓ob_x, obx_s, ↓bnd_s, ↓oT_x, oTx_s, ↓ite_x, itx_T, itx_F, ↓reduceIte, not_true_eq_false, not_false_eq_true, true_and, and_true, Nat.reduceAdd, Nat.reduceMul, Nat.reduceSub, Nat.reduceEqDiff, isB0, isB1, Int32.neg_neg, Nat.zero_add, Nat.add_zero, Nat.mul_zero, Nat.mul_one, Nat.zero_mul]
set_option maxRecDepth 100000 in
theorem nxq_M {N q z fu : Nat} (hN : 6000 ≤ N) {B : Nat → Nat} {g : Mem} (hT : TM B z g) (h2 : g.1 0 20 = i32 q) (hq : q ≤ z) (hb : q < z → ¬ (B q = 32 ∨ B q = 10)) :
    ∃ g', X6_next_L0 N (fu + 1) g = some (i32 0, g') ∧ FQ g g' ∧ MT B z q g' := by
  obtain ⟨t1, t2, t3, t4⟩ := id hT
  unfold MT lxN lxS
  have f0 : FQ g (stI (stI (stI g 0 21 (i32 q)) 0 22 (i32 0)) 0 23 (i32 0)) := FQ_tr (FQ_tr (FQ_st _ _ _ (by omega)) (FQ_st _ _ _ (by omega))) (FQ_st _ _ _ (by omega))
  by_cases hz : z ≤ q
  · simp only [if_pos hz]
    have : q = z := by omega
    subst this
    exact ⟨stI (stI (stI g 0 21 (i32 q)) 0 22 (i32 0)) 0 23 (i32 0), by simp -dsimp -implicitDefEqProofs (disch := omega) only [X6_next_L0, t2, h2, i32_lit, i32_add, i32_mul, i32_tn, i32_sub, le_t, le_f, lt_t, lt_f, eq_t, eq_f, eq_rfl, inR_t, ↓ob_x, obx_s, ↓bnd_s, ↓oT_x, oTx_s, ↓ite_x, itx_T, itx_F, ↓reduceIte, not_true_eq_false, not_false_eq_true, true_and, and_true, Nat.reduceAdd, Nat.reduceMul, Nat.reduceSub, Nat.reduceEqDiff, isB0, isB1, Int32.neg_neg, Nat.zero_add, Nat.add_zero, Nat.mul_zero, Nat.mul_one, Nat.zero_mul, stI_eq, stI_nj, stI_ne, stI_2, stA_eq, stA_ne, stA_2, stR_1, stR_2], f0, by simp -dsimp -implicitDefEqProofs (disch := omega) only [stI_eq, stI_nj, stI_ne, stI_2, stA_eq, stA_ne, stA_2, stR_1, stR_2]; exact h2, by simp -dsimp -implicitDefEqProofs (disch := omega) only [stI_eq, stI_nj, stI_ne, stI_2, stA_eq, stA_ne, stA_2, stR_1, stR_2], by simp -dsimp -implicitDefEqProofs (disch := omega) only [stI_eq, stI_nj, stI_ne, stI_2, stA_eq, stA_ne, stA_2, stR_1, stR_2]; rfl, fun x => by omega, fun x => by omega⟩
  · simp only [if_neg hz]
    obtain ⟨b0, b1⟩ := t3 q (by omega)
    have hb' := hb (by omega)
    have hb1 : ¬ B q = 32 := fun h => hb' (Or.inl h)
    have hb2 : ¬ B q = 10 := fun h => hb' (Or.inr h)
    have s2 : (stI (stI (stI g 0 21 (i32 q)) 0 22 (i32 0)) 0 23 (i32 0)).1 0 20 = i32 q := by simp -dsimp -implicitDefEqProofs (disch := omega) only [stI_eq, stI_nj, stI_ne, stI_2, stA_eq, stA_ne, stA_2, stR_1, stR_2]; exact h2
    have s3 : (stI (stI (stI g 0 21 (i32 q)) 0 22 (i32 0)) 0 23 (i32 0)).1 0 21 = i32 q := by simp -dsimp -implicitDefEqProofs (disch := omega) only [stI_eq, stI_nj, stI_ne, stI_2, stA_eq, stA_ne, stA_2, stR_1, stR_2]
    by_cases hL : 97 ≤ B q ∧ B q ≤ 122
    · simp only [if_pos hL]
      obtain ⟨g', r1, r2, r3, r4, r5, r6⟩ := wrm_l (N := N) (q := q) hN (TM_FQ hT f0) (z - q) q N _ (by omega) (by omega) (Nat.le_refl q) (FQ_rfl _) s3 s2
      have c1 : X6_in N (i32 (B q)) (i32 97) (i32 122) (stI (stI (stI g 0 21 (i32 q)) 0 22 (i32 0)) 0 23 (i32 0)) = some (i32 1, (stI (stI (stI g 0 21 (i32 q)) 0 22 (i32 0)) 0 23 (i32 0))) := by simp -dsimp -implicitDefEqProofs (disch := omega) only [X6_in, i32_lit, i32_add, i32_mul, i32_tn, i32_sub, le_t, le_f, lt_t, lt_f, eq_t, eq_f, eq_rfl, inR_t, ↓ob_x, obx_s, ↓bnd_s, ↓oT_x, oTx_s, ↓ite_x, itx_T, itx_F, ↓reduceIte, not_true_eq_false, not_false_eq_true, true_and, and_true, Nat.reduceAdd, Nat.reduceMul, Nat.reduceSub, Nat.reduceEqDiff, isB0, isB1, Int32.neg_neg, Nat.zero_add, Nat.add_zero, Nat.mul_zero, Nat.mul_one, Nat.zero_mul]
      exact ⟨g', by simp -dsimp -implicitDefEqProofs (disch := omega) only [X6_next_L0, t2, h2, b1, c1, r1, i32_lit, i32_add, i32_mul, i32_tn, i32_sub, le_t, le_f, lt_t, lt_f, eq_t, eq_f, eq_rfl, inR_t, ↓ob_x, obx_s, ↓bnd_s, ↓oT_x, oTx_s, ↓ite_x, itx_T, itx_F, ↓reduceIte, not_true_eq_false, not_false_eq_true, true_and, and_true, Nat.reduceAdd, Nat.reduceMul, Nat.reduceSub, Nat.reduceEqDiff, isB0, isB1, Int32.neg_neg, Nat.zero_add, Nat.add_zero, Nat.mul_zero, Nat.mul_one, Nat.zero_mul, stI_eq, stI_nj, stI_ne, stI_2, stA_eq, stA_ne, stA_2, stR_1, stR_2], FQ_tr f0 r2, r3, r4, r5, r6, fun _ a b => by omega⟩
    · simp only [if_neg hL]
      have c1 : X6_in N (i32 (B q)) (i32 97) (i32 122) (stI (stI (stI g 0 21 (i32 q)) 0 22 (i32 0)) 0 23 (i32 0)) = some (i32 0, (stI (stI (stI g 0 21 (i32 q)) 0 22 (i32 0)) 0 23 (i32 0))) := by
        by_cases h97 : 97 ≤ B q
        · simp -dsimp -implicitDefEqProofs (disch := omega) only [X6_in, i32_lit, i32_add, i32_mul, i32_tn, i32_sub, le_t, le_f, lt_t, lt_f, eq_t, eq_f, eq_rfl, inR_t, ↓ob_x, obx_s, ↓bnd_s, ↓oT_x, oTx_s, ↓ite_x, itx_T, itx_F, ↓reduceIte, not_true_eq_false, not_false_eq_true, true_and, and_true, Nat.reduceAdd, Nat.reduceMul, Nat.reduceSub, Nat.reduceEqDiff, isB0, isB1, Int32.neg_neg, Nat.zero_add, Nat.add_zero, Nat.mul_zero, Nat.mul_one, Nat.zero_mul]
        · simp -dsimp -implicitDefEqProofs (disch := omega) only [X6_in, i32_lit, i32_add, i32_mul, i32_tn, i32_sub, le_t, le_f, lt_t, lt_f, eq_t, eq_f, eq_rfl, inR_t, ↓ob_x, obx_s, ↓bnd_s, ↓oT_x, oTx_s, ↓ite_x, itx_T, itx_F, ↓reduceIte, not_true_eq_false, not_false_eq_true, true_and, and_true, Nat.reduceAdd, Nat.reduceMul, Nat.reduceSub, Nat.reduceEqDiff, isB0, isB1, Int32.neg_neg, Nat.zero_add, Nat.add_zero, Nat.mul_zero, Nat.mul_one, Nat.zero_mul]
      by_cases hD : 48 ≤ B q ∧ B q ≤ 57
      · simp only [if_pos hD]
        have c2 : X6_in N (i32 (B q)) (i32 48) (i32 57) (stI (stI (stI g 0 21 (i32 q)) 0 22 (i32 0)) 0 23 (i32 0)) = some (i32 1, (stI (stI (stI g 0 21 (i32 q)) 0 22 (i32 0)) 0 23 (i32 0))) := by simp -dsimp -implicitDefEqProofs (disch := omega) only [X6_in, i32_lit, i32_add, i32_mul, i32_tn, i32_sub, le_t, le_f, lt_t, lt_f, eq_t, eq_f, eq_rfl, inR_t, ↓ob_x, obx_s, ↓bnd_s, ↓oT_x, oTx_s, ↓ite_x, itx_T, itx_F, ↓reduceIte, not_true_eq_false, not_false_eq_true, true_and, and_true, Nat.reduceAdd, Nat.reduceMul, Nat.reduceSub, Nat.reduceEqDiff, isB0, isB1, Int32.neg_neg, Nat.zero_add, Nat.add_zero, Nat.mul_zero, Nat.mul_one, Nat.zero_mul]
        obtain ⟨g', r1, r2, r3, r4, r5, r6⟩ := nmm_l (N := N) (q := q) (TM_FQ hT f0) (z - q) q 0 N _ (by omega) (by omega) (Nat.le_refl q) (FQ_rfl _) s3 s2 (fun _ => stI_eq _ _ _ _)
        rw [Nat.sub_self] at r1
        refine ⟨g', by simp -dsimp -implicitDefEqProofs (disch := omega) only [X6_next_L0, t2, h2, b1, c1, c2, r1, i32_lit, i32_add, i32_mul, i32_tn, i32_sub, le_t, le_f, lt_t, lt_f, eq_t, eq_f, eq_rfl, inR_t, ↓ob_x, obx_s, ↓bnd_s, ↓oT_x, oTx_s, ↓ite_x, itx_T, itx_F, ↓reduceIte, not_true_eq_false, not_false_eq_true, true_and, and_true, Nat.reduceAdd, Nat.reduceMul, Nat.reduceSub, Nat.reduceEqDiff, isB0, isB1, Int32.neg_neg, Nat.zero_add, Nat.add_zero, Nat.mul_zero, Nat.mul_one, Nat.zero_mul, stI_eq, stI_nj, stI_ne, stI_2, stA_eq, stA_ne, stA_2, stR_1, stR_2], FQ_tr f0 r2, r3, r4, r5, fun hc => ?_, fun _ _ _ => r6⟩
        by_cases h4 : dnd B (z - q) q - q ≤ 4
        · rw [if_pos h4] at hc; omega
        · rw [if_neg h4] at hc; omega
      · simp only [if_neg hD]
        have c2 : X6_in N (i32 (B q)) (i32 48) (i32 57) (stI (stI (stI g 0 21 (i32 q)) 0 22 (i32 0)) 0 23 (i32 0)) = some (i32 0, (stI (stI (stI g 0 21 (i32 q)) 0 22 (i32 0)) 0 23 (i32 0))) := by
          by_cases h97 : 48 ≤ B q
          · simp -dsimp -implicitDefEqProofs (disch := omega) only [X6_in, i32_lit, i32_add, i32_mul, i32_tn, i32_sub, le_t, le_f, lt_t, lt_f, eq_t, eq_f, eq_rfl, inR_t, ↓ob_x, obx_s, ↓bnd_s, ↓oT_x, oTx_s, ↓ite_x, itx_T, itx_F, ↓reduceIte, not_true_eq_false, not_false_eq_true, true_and, and_true, Nat.reduceAdd, Nat.reduceMul, Nat.reduceSub, Nat.reduceEqDiff, isB0, isB1, Int32.neg_neg, Nat.zero_add, Nat.add_zero, Nat.mul_zero, Nat.mul_one, Nat.zero_mul]
          · simp -dsimp -implicitDefEqProofs (disch := omega) only [X6_in, i32_lit, i32_add, i32_mul, i32_tn, i32_sub, le_t, le_f, lt_t, lt_f, eq_t, eq_f, eq_rfl, inR_t, ↓ob_x, obx_s, ↓bnd_s, ↓oT_x, oTx_s, ↓ite_x, itx_T, itx_F, ↓reduceIte, not_true_eq_false, not_false_eq_true, true_and, and_true, Nat.reduceAdd, Nat.reduceMul, Nat.reduceSub, Nat.reduceEqDiff, isB0, isB1, Int32.neg_neg, Nat.zero_add, Nat.add_zero, Nat.mul_zero, Nat.mul_one, Nat.zero_mul]
        by_cases hS : sgn (B q)
        · simp only [if_pos hS]
          have tk : tkF (B q) = i32 (B q) := by
            unfold tkF
            rw [if_neg (by omega), if_neg (by omega), if_neg (by omega), if_neg (by omega), if_neg (by omega), if_neg (by omega), if_neg (by omega), if_neg (by omega)]
          refine ⟨stI (stI (stI (stI (stI g 0 21 (i32 q)) 0 22 (i32 0)) 0 23 (i32 0)) 0 22 (i32 (B q))) 0 20 (i32 (q + 1)), ?_, FQ_tr f0 (FQ_tr (FQ_st _ _ _ (by omega)) (FQ_st _ _ _ (by omega))), by simp -dsimp -implicitDefEqProofs (disch := omega) only [stI_eq, stI_nj, stI_ne, stI_2, stA_eq, stA_ne, stA_2, stR_1, stR_2], by simp -dsimp -implicitDefEqProofs (disch := omega) only [stI_eq, stI_nj, stI_ne, stI_2, stA_eq, stA_ne, stA_2, stR_1, stR_2], by rw [tk]; simp -dsimp -implicitDefEqProofs (disch := omega) only [stI_eq, stI_nj, stI_ne, stI_2, stA_eq, stA_ne, stA_2, stR_1, stR_2], fun x => by omega, fun _ a b => by omega⟩
          rcases hS with h | h | h | h | h | h | h | h <;> (rw [h] at b1 c1 c2 ⊢; simp -dsimp -implicitDefEqProofs (disch := omega) only [X6_next_L0, t2, h2, b1, c1, c2, i32_lit, i32_add, i32_mul, i32_tn, i32_sub, le_t, le_f, lt_t, lt_f, eq_t, eq_f, eq_rfl, inR_t, ↓ob_x, obx_s, ↓bnd_s, ↓oT_x, oTx_s, ↓ite_x, itx_T, itx_F, ↓reduceIte, not_true_eq_false, not_false_eq_true, true_and, and_true, Nat.reduceAdd, Nat.reduceMul, Nat.reduceSub, Nat.reduceEqDiff, isB0, isB1, Int32.neg_neg, Nat.zero_add, Nat.add_zero, Nat.mul_zero, Nat.mul_one, Nat.zero_mul, stI_eq, stI_nj, stI_ne, stI_2, stA_eq, stA_ne, stA_2, stR_1, stR_2])
        · simp only [if_neg hS]
          exact ⟨stI (stI (stI (stI (stI g 0 21 (i32 q)) 0 22 (i32 0)) 0 23 (i32 0)) 0 22 (-(i32 1))) 0 20 (i32 (q + 1)), by simp -dsimp -implicitDefEqProofs (disch := omega) only [X6_next_L0, t2, h2, b1, c1, c2, i32_lit, i32_add, i32_mul, i32_tn, i32_sub, le_t, le_f, lt_t, lt_f, eq_t, eq_f, eq_rfl, inR_t, ↓ob_x, obx_s, ↓bnd_s, ↓oT_x, oTx_s, ↓ite_x, itx_T, itx_F, ↓reduceIte, not_true_eq_false, not_false_eq_true, true_and, and_true, Nat.reduceAdd, Nat.reduceMul, Nat.reduceSub, Nat.reduceEqDiff, isB0, isB1, Int32.neg_neg, Nat.zero_add, Nat.add_zero, Nat.mul_zero, Nat.mul_one, Nat.zero_mul, stI_eq, stI_nj, stI_ne, stI_2, stA_eq, stA_ne, stA_2, stR_1, stR_2], FQ_tr f0 (FQ_tr (FQ_st _ _ _ (by omega)) (FQ_st _ _ _ (by omega))), by simp -dsimp -implicitDefEqProofs (disch := omega) only [stI_eq, stI_nj, stI_ne, stI_2, stA_eq, stA_ne, stA_2, stR_1, stR_2], by simp -dsimp -implicitDefEqProofs (disch := omega) only [stI_eq, stI_nj, stI_ne, stI_2, stA_eq, stA_ne, stA_2, stR_1, stR_2], by simp -dsimp -implicitDefEqProofs (disch := omega) only [stI_eq, stI_nj, stI_ne, stI_2, stA_eq, stA_ne, stA_2, stR_1, stR_2]; rfl, fun x => by omega, fun _ a b => by omega⟩
set_option maxRecDepth 100000 in
theorem nxs_M {N z : Nat} (hN : 6000 ≤ N) {B : Nat → Nat} {g0 : Mem} (hT0 : TM B z g0) : ∀ (n p fu : Nat) (g : Mem), p + n = z → n < fu → FQ g0 g → g.1 0 20 = i32 p →
    ∃ g', X6_next_L0 N fu g = some (i32 0, g') ∧ FQ g0 g' ∧ MT B z (skp B n p) g'
  | 0, p, fu, g, h1, h2, f, h3 => by
    obtain ⟨fu, rfl⟩ : ∃ q, fu = q + 1 := ⟨fu - 1, by omega⟩
    obtain ⟨g', r1, r2, r3⟩ := nxq_M (N := N) (fu := fu) hN (TM_FQ hT0 f) h3 (by omega) (fun h => by omega)
    exact ⟨g', r1, FQ_tr f r2, r3⟩
  | n + 1, p, fu, g, h1, h2, f, h3 => by
    obtain ⟨fu, rfl⟩ : ∃ q, fu = q + 1 := ⟨fu - 1, by omega⟩
    obtain ⟨t1, t2, t3, t4⟩ := TM_FQ hT0 f
    obtain ⟨b0, b1⟩ := t3 p (by omega)
    by_cases h : B p = 32 ∨ B p = 10
    · have e1 : skp B (n + 1) p = skp B n (p + 1) := by rw [skp, if_pos h]
      obtain ⟨g', r1, r2, r3⟩ := nxs_M hN hT0 n (p + 1) fu (stI g 0 20 (i32 (p + 1))) (by omega) (by omega) (FQ_tr f (FQ_st _ _ _ (by omega))) (stI_eq _ _ _ _)
      rw [e1]
      refine ⟨g', ?_, r2, r3⟩
      by_cases h32 : B p = 32
      · simp -dsimp -implicitDefEqProofs (disch := omega) only [X6_next_L0, t2, h3, b1, h32, r1, i32_lit, i32_add, i32_mul, i32_tn, i32_sub, le_t, le_f, lt_t, lt_f, eq_t, eq_f, eq_rfl, inR_t, ↓ob_x, obx_s, ↓bnd_s, ↓oT_x, oTx_s, ↓ite_x, itx_T, itx_F, ↓reduceIte, not_true_eq_false, not_false_eq_true, true_and, and_true, Nat.reduceAdd, Nat.reduceMul, Nat.reduceSub, Nat.reduceEqDiff, isB0, isB1, Int32.neg_neg, Nat.zero_add, Nat.add_zero, Nat.mul_zero, Nat.mul_one, Nat.zero_mul]
      · have h10 : B p = 10 := by omega
        simp -dsimp -implicitDefEqProofs (disch := omega) only [X6_next_L0, t2, h3, b1, h10, r1, i32_lit, i32_add, i32_mul, i32_tn, i32_sub, le_t, le_f, lt_t, lt_f, eq_t, eq_f, eq_rfl, inR_t, ↓ob_x, obx_s, ↓bnd_s, ↓oT_x, oTx_s, ↓ite_x, itx_T, itx_F, ↓reduceIte, not_true_eq_false, not_false_eq_true, true_and, and_true, Nat.reduceAdd, Nat.reduceMul, Nat.reduceSub, Nat.reduceEqDiff, isB0, isB1, Int32.neg_neg, Nat.zero_add, Nat.add_zero, Nat.mul_zero, Nat.mul_one, Nat.zero_mul]
    · have e1 : skp B (n + 1) p = p := by rw [skp, if_neg h]
      rw [e1]
      obtain ⟨g', r1, r2, r3⟩ := nxq_M (N := N) (fu := fu) hN (TM_FQ hT0 f) h3 (by omega) (fun _ => h)
      exact ⟨g', r1, FQ_tr f r2, r3⟩
theorem next_M2 {N z p : Nat} (hN : 6000 ≤ N) {B : Nat → Nat} {g : Mem} (hT : TM B z g) (hp : p ≤ z) (h2 : g.1 0 20 = i32 p) : ∃ g', X6_next N g = some (i32 0, g') ∧ FQ g g' ∧ MT B z (plF B z p) g' := by
  have hz := hT.1
  exact nxs_M hN hT (z - p) p N g (by omega) (by omega) (FQ_rfl g) h2
