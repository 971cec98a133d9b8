/-! the class reads a token -/
def TI (B : Nat → Nat) (z : Nat) (g : Mem) : Prop := z ≤ 160 ∧ g.1 0 1 = i32 z ∧ ∀ j, j < z → B j < 256 ∧ g.1 1 j = i32 (B j)
def FR (g g' : Mem) : Prop := (∀ c, ¬ c = 0 → g'.1 c = g.1 c) ∧ (∀ j, ¬ j = 2 → ¬ j = 3 → ¬ j = 4 → ¬ j = 5 → g'.1 0 j = g.1 0 j) ∧ g'.2 = g.2
theorem FR_rfl (g : Mem) : FR g g := ⟨fun _ _ => rfl, fun _ _ _ _ _ => rfl, rfl⟩
theorem FR_tr {a b c : Mem} (h : FR a b) (k : FR b c) : FR a c := ⟨fun e q => (k.1 e q).trans (h.1 e q), fun j a1 a2 a3 a4 => (k.2.1 j a1 a2 a3 a4).trans (h.2.1 j a1 a2 a3 a4), k.2.2.trans h.2.2⟩
theorem FR_st (g : Mem) (j : Nat) (v : Int32) (h : j = 2 ∨ j = 3 ∨ j = 4 ∨ j = 5) : FR g (stI g 0 j v) := ⟨fun c hc => stI_ne _ _ _ _ _ hc, fun i a1 a2 a3 a4 => stI_nj _ _ _ _ _ (by omega), rfl⟩
theorem TI_FR {B : Nat → Nat} {z : Nat} {g g' : Mem} (h : TI B z g) (f : FR g g') : TI B z g' := ⟨h.1, by rw [f.2.1 1 (by omega) (by omega) (by omega) (by omega)]; exact h.2.1, by rw [f.1 1 (by omega)]; exact h.2.2⟩
theorem isBl_e {N b : Nat} (g : Mem) (hb : b < 256) : X3_isBlank N (i32 b) g = some (i32 (if b = 32 ∨ b = 10 then 1 else 0), g) := by
  by_cases h : b = 32
  · rw [if_pos (Or.inl h)]; simp -dsimp -implicitDefEqProofs (disch := omega) only [X3_isBlank, h, i32_lit, i32_add, i32_mul, i32_tn, i32_sub, le_t, le_f, lt_t, lt_f, eq_t, eq_f, eq_rfl, inR_t, ↓ob_x, obx_s, ↓bnd_s, ↓oT_x, oTx_s, ↓ite_x, itx_T, itx_F, ↓reduceIte, not_true_eq_false, not_false_eq_true, true_and, and_true, Nat.reduceAdd, Nat.reduceMul, Nat.reduceSub, Nat.reduceEqDiff, isB0, isB1, Int32.neg_neg, Nat.zero_add, Nat.add_zero, Nat.mul_zero, Nat.mul_one, Nat.zero_mul]
  · by_cases h2 : b = 10
    · rw [if_pos (Or.inr h2)]; simp -dsimp -implicitDefEqProofs (disch := omega) only [X3_isBlank, h2, i32_lit, i32_add, i32_mul, i32_tn, i32_sub, le_t, le_f, lt_t, lt_f, eq_t, eq_f, eq_rfl, inR_t, ↓ob_x, obx_s, ↓bnd_s, ↓oT_x, oTx_s, ↓ite_x, itx_T, itx_F, ↓reduceIte, not_true_eq_false, not_false_eq_true, true_and, and_true, Nat.reduceAdd, Nat.reduceMul, Nat.reduceSub, Nat.reduceEqDiff, isB0, isB1, Int32.neg_neg, Nat.zero_add, Nat.add_zero, Nat.mul_zero, Nat.mul_one, Nat.zero_mul]
    · rw [if_neg (by omega)]; simp -dsimp -implicitDefEqProofs (disch := omega) only [X3_isBlank, i32_lit, i32_add, i32_mul, i32_tn, i32_sub, le_t, le_f, lt_t, lt_f, eq_t, eq_f, eq_rfl, inR_t, ↓ob_x, obx_s, ↓bnd_s, ↓oT_x, oTx_s, ↓ite_x, itx_T, itx_F, ↓reduceIte, not_true_eq_false, not_false_eq_true, true_and, and_true, Nat.reduceAdd, Nat.reduceMul, Nat.reduceSub, Nat.reduceEqDiff, isB0, isB1, Int32.neg_neg, Nat.zero_add, Nat.add_zero, Nat.mul_zero, Nat.mul_one, Nat.zero_mul]
theorem isLt_e {N b : Nat} (g : Mem) (hb : b < 256) : X3_isLetter N (i32 b) g = some (i32 (if 97 ≤ b ∧ b ≤ 122 then 1 else 0), g) := by
  by_cases h : 97 ≤ b
  · by_cases h2 : b ≤ 122
    · rw [if_pos ⟨h, h2⟩]; simp -dsimp -implicitDefEqProofs (disch := omega) only [X3_isLetter, i32_lit, i32_add, i32_mul, i32_tn, i32_sub, le_t, le_f, lt_t, lt_f, eq_t, eq_f, eq_rfl, inR_t, ↓ob_x, obx_s, ↓bnd_s, ↓oT_x, oTx_s, ↓ite_x, itx_T, itx_F, ↓reduceIte, not_true_eq_false, not_false_eq_true, true_and, and_true, Nat.reduceAdd, Nat.reduceMul, Nat.reduceSub, Nat.reduceEqDiff, isB0, isB1, Int32.neg_neg, Nat.zero_add, Nat.add_zero, Nat.mul_zero, Nat.mul_one, Nat.zero_mul]
    · rw [if_neg (by omega)]; simp -dsimp -implicitDefEqProofs (disch := omega) only [X3_isLetter, i32_lit, i32_add, i32_mul, i32_tn, i32_sub, le_t, le_f, lt_t, lt_f, eq_t, eq_f, eq_rfl, inR_t, ↓ob_x, obx_s, ↓bnd_s, ↓oT_x, oTx_s, ↓ite_x, itx_T, itx_F, ↓reduceIte, not_true_eq_false, not_false_eq_true, true_and, and_true, Nat.reduceAdd, Nat.reduceMul, Nat.reduceSub, Nat.reduceEqDiff, isB0, isB1, Int32.neg_neg, Nat.zero_add, Nat.add_zero, Nat.mul_zero, Nat.mul_one, Nat.zero_mul]
  · rw [if_neg (by omega)]; simp -dsimp -implicitDefEqProofs (disch := omega) only [X3_isLetter, i32_lit, i32_add, i32_mul, i32_tn, i32_sub, le_t, le_f, lt_t, lt_f, eq_t, eq_f, eq_rfl, inR_t, ↓ob_x, obx_s, ↓bnd_s, ↓oT_x, oTx_s, ↓ite_x, itx_T, itx_F, ↓reduceIte, not_true_eq_false, not_false_eq_true, true_and, and_true, Nat.reduceAdd, Nat.reduceMul, Nat.reduceSub, Nat.reduceEqDiff, isB0, isB1, Int32.neg_neg, Nat.zero_add, Nat.add_zero, Nat.mul_zero, Nat.mul_one, Nat.zero_mul]
theorem isDg_e {N b : Nat} (g : Mem) (hb : b < 256) : X3_isDigit N (i32 b) g = some (i32 (if 48 ≤ b ∧ b ≤ 57 then 1 else 0), g) := by
  by_cases h : 48 ≤ b
  · by_cases h2 : b ≤ 57
    · rw [if_pos ⟨h, h2⟩]; simp -dsimp -implicitDefEqProofs (disch := omega) only [X3_isDigit, i32_lit, i32_add, i32_mul, i32_tn, i32_sub, le_t, le_f, lt_t, lt_f, eq_t, eq_f, eq_rfl, inR_t, ↓ob_x, obx_s, ↓bnd_s, ↓oT_x, oTx_s, ↓ite_x, itx_T, itx_F, ↓reduceIte, not_true_eq_false, not_false_eq_true, true_and, and_true, Nat.reduceAdd, Nat.reduceMul, Nat.reduceSub, Nat.reduceEqDiff, isB0, isB1, Int32.neg_neg, Nat.zero_add, Nat.add_zero, Nat.mul_zero, Nat.mul_one, Nat.zero_mul]
    · rw [if_neg (by omega)]; simp -dsimp -implicitDefEqProofs (disch := omega) only [X3_isDigit, i32_lit, i32_add, i32_mul, i32_tn, i32_sub, le_t, le_f, lt_t, lt_f, eq_t, eq_f, eq_rfl, inR_t, ↓ob_x, obx_s, ↓bnd_s, ↓oT_x, oTx_s, ↓ite_x, itx_T, itx_F, ↓reduceIte, not_true_eq_false, not_false_eq_true, true_and, and_true, Nat.reduceAdd, Nat.reduceMul, Nat.reduceSub, Nat.reduceEqDiff, isB0, isB1, Int32.neg_neg, Nat.zero_add, Nat.add_zero, Nat.mul_zero, Nat.mul_one, Nat.zero_mul]
  · rw [if_neg (by omega)]; simp -dsimp -implicitDefEqProofs (disch := omega) only [X3_isDigit, i32_lit, i32_add, i32_mul, i32_tn, i32_sub, le_t, le_f, lt_t, lt_f, eq_t, eq_f, eq_rfl, inR_t, ↓ob_x, obx_s, ↓bnd_s, ↓oT_x, oTx_s, ↓ite_x, itx_T, itx_F, ↓reduceIte, not_true_eq_false, not_false_eq_true, true_and, and_true, Nat.reduceAdd, Nat.reduceMul, Nat.reduceSub, Nat.reduceEqDiff, isB0, isB1, Int32.neg_neg, Nat.zero_add, Nat.add_zero, Nat.mul_zero, Nat.mul_one, Nat.zero_mul]
theorem isSg_e {N b : Nat} (g : Mem) (hb : b < 256) : X3_isSign N (i32 b) g = some (i32 (if sgn b then 1 else 0), g) := by
  by_cases h : sgn b
  · rw [if_pos h]
    rcases h with rfl | rfl | rfl | rfl | rfl | rfl | rfl | rfl <;> simp -dsimp -implicitDefEqProofs (disch := omega) only [X3_isSign, i32_lit, i32_add, i32_mul, i32_tn, i32_sub, le_t, le_f, lt_t, lt_f, eq_t, eq_f, eq_rfl, inR_t, ↓ob_x, obx_s, ↓bnd_s, ↓oT_x, oTx_s, ↓ite_x, itx_T, itx_F, ↓reduceIte, not_true_eq_false, not_false_eq_true, true_and, and_true, Nat.reduceAdd, Nat.reduceMul, Nat.reduceSub, Nat.reduceEqDiff, isB0, isB1, Int32.neg_neg, Nat.zero_add, Nat.add_zero, Nat.mul_zero, Nat.mul_one, Nat.zero_mul]
  · rw [if_neg h]
    by_cases h1 : b < 40
    · simp -dsimp -implicitDefEqProofs (disch := omega) only [X3_isSign, i32_lit, i32_add, i32_mul, i32_tn, i32_sub, le_t, le_f, lt_t, lt_f, eq_t, eq_f, eq_rfl, inR_t, ↓ob_x, obx_s, ↓bnd_s, ↓oT_x, oTx_s, ↓ite_x, itx_T, itx_F, ↓reduceIte, not_true_eq_false, not_false_eq_true, true_and, and_true, Nat.reduceAdd, Nat.reduceMul, Nat.reduceSub, Nat.reduceEqDiff, isB0, isB1, Int32.neg_neg, Nat.zero_add, Nat.add_zero, Nat.mul_zero, Nat.mul_one, Nat.zero_mul]
    · by_cases h2 : 45 < b
      · simp -dsimp -implicitDefEqProofs (disch := omega) only [X3_isSign, i32_lit, i32_add, i32_mul, i32_tn, i32_sub, le_t, le_f, lt_t, lt_f, eq_t, eq_f, eq_rfl, inR_t, ↓ob_x, obx_s, ↓bnd_s, ↓oT_x, oTx_s, ↓ite_x, itx_T, itx_F, ↓reduceIte, not_true_eq_false, not_false_eq_true, true_and, and_true, Nat.reduceAdd, Nat.reduceMul, Nat.reduceSub, Nat.reduceEqDiff, isB0, isB1, Int32.neg_neg, Nat.zero_add, Nat.add_zero, Nat.mul_zero, Nat.mul_one, Nat.zero_mul]
      · simp -dsimp -implicitDefEqProofs (disch := omega) only [X3_isSign, i32_lit, i32_add, i32_mul, i32_tn, i32_sub, le_t, le_f, lt_t, lt_f, eq_t, eq_f, eq_rfl, inR_t, ↓ob_x, obx_s, ↓bnd_s, ↓oT_x, oTx_s, ↓ite_x, itx_T, itx_F, ↓reduceIte, not_true_eq_false, not_false_eq_true, true_and, and_true, Nat.reduceAdd, Nat.reduceMul, Nat.reduceSub, Nat.reduceEqDiff, isB0, isB1, Int32.neg_neg, Nat.zero_add, Nat.add_zero, Nat.mul_zero, Nat.mul_one, Nat.zero_mul]
theorem spl_l {N s t q e z : Nat} {B : Nat → Nat} {g : Mem} (hT : TI B z g) (h3 : g.1 0 3 = i32 q) (hst : s ≤ t) (ht : t ≤ 65) (hq : q + (t - s) ≤ e) (he : e ≤ z) : ∀ (n c fu : Nat), c + n = t - s → n < fu → X3_spells_L19 N (i32 s) (i32 t) fu (i32 c) g = some (i32 (spR B q s c n), g)
  | 0, c, fu, h1, h2 => by
    obtain ⟨fu, rfl⟩ : ∃ q, fu = q + 1 := ⟨fu - 1, by omega⟩
    simp -dsimp -implicitDefEqProofs (disch := omega) only [X3_spells_L19, spR, i32_lit, i32_add, i32_mul, i32_tn, i32_sub, le_t, le_f, lt_t, lt_f, eq_t, eq_f, eq_rfl, inR_t, ↓ob_x, obx_s, ↓bnd_s, ↓oT_x, oTx_s, ↓ite_x, itx_T, itx_F, ↓reduceIte, not_true_eq_false, not_false_eq_true, true_and, and_true, Nat.reduceAdd, Nat.reduceMul, Nat.reduceSub, Nat.reduceEqDiff, isB0, isB1, Int32.neg_neg, Nat.zero_add, Nat.add_zero, Nat.mul_zero, Nat.mul_one, Nat.zero_mul]
  | n + 1, c, fu, h1, h2 => by
    obtain ⟨fu, rfl⟩ : ∃ q, fu = q + 1 := ⟨fu - 1, by omega⟩
    have hz := hT.1
    have b1 := (hT.2.2 (q + c) (by omega)).2
    have b0 := (hT.2.2 (q + c) (by omega)).1
    have c1 := chS1 (s + c) (by omega)
    have c0 := chN_lt (s + c) (by omega)
    by_cases h : B (q + c) = chN (s + c)
    · have ih := spl_l (N := N) hT h3 hst ht hq he n (c + 1) fu (by omega) (by omega)
      simp -dsimp -implicitDefEqProofs (disch := omega) only [X3_spells_L19, spR, h3, b1, c1, h, ih, i32_lit, i32_add, i32_mul, i32_tn, i32_sub, le_t, le_f, lt_t, lt_f, eq_t, eq_f, eq_rfl, inR_t, ↓ob_x, obx_s, ↓bnd_s, ↓oT_x, oTx_s, ↓ite_x, itx_T, itx_F, ↓reduceIte, not_true_eq_false, not_false_eq_true, true_and, and_true, Nat.reduceAdd, Nat.reduceMul, Nat.reduceSub, Nat.reduceEqDiff, isB0, isB1, Int32.neg_neg, Nat.zero_add, Nat.add_zero, Nat.mul_zero, Nat.mul_one, Nat.zero_mul]
    · simp -dsimp -implicitDefEqProofs (disch := omega) only [X3_spells_L19, spR, h3, b1, c1, h, i32_lit, i32_add, i32_mul, i32_tn, i32_sub, le_t, le_f, lt_t, lt_f, eq_t, eq_f, eq_rfl, inR_t, ↓ob_x, obx_s, ↓bnd_s, ↓oT_x, oTx_s, ↓ite_x, itx_T, itx_F, ↓reduceIte, not_true_eq_false, not_false_eq_true, true_and, and_true, Nat.reduceAdd, Nat.reduceMul, Nat.reduceSub, Nat.reduceEqDiff, isB0, isB1, Int32.neg_neg, Nat.zero_add, Nat.add_zero, Nat.mul_zero, Nat.mul_one, Nat.zero_mul]
theorem spl_I {N s t q e z : Nat} (hN : 6000 ≤ N) {B : Nat → Nat} {g : Mem} (hT : TI B z g) (h3 : g.1 0 3 = i32 q) (h2 : g.1 0 2 = i32 e) (hst : s ≤ t) (ht : t ≤ 65) (hqe : q ≤ e) (he : e ≤ z) : X3_spells N (i32 s) (i32 t) g = some (i32 (sp B q e s (t - s)), g) := by
  have hz := hT.1
  unfold sp
  by_cases h : e - q = t - s
  · rw [if_pos h, ← spl_l (N := N) hT h3 hst ht (by omega) he (t - s) 0 N (by omega) (by omega)]
    simp -dsimp -implicitDefEqProofs (disch := omega) only [X3_spells, h3, h2, h, i32_lit, i32_add, i32_mul, i32_tn, i32_sub, le_t, le_f, lt_t, lt_f, eq_t, eq_f, eq_rfl, inR_t, ↓ob_x, obx_s, ↓bnd_s, ↓oT_x, oTx_s, ↓ite_x, itx_T, itx_F, ↓reduceIte, not_true_eq_false, not_false_eq_true, true_and, and_true, Nat.reduceAdd, Nat.reduceMul, Nat.reduceSub, Nat.reduceEqDiff, isB0, isB1, Int32.neg_neg, Nat.zero_add, Nat.add_zero, Nat.mul_zero, Nat.mul_one, Nat.zero_mul]
  · rw [if_neg h]
    simp -dsimp -implicitDefEqProofs (disch := omega) only [X3_spells, h3, h2, h, i32_lit, i32_add, i32_mul, i32_tn, i32_sub, le_t, le_f, lt_t, lt_f, eq_t, eq_f, eq_rfl, inR_t, ↓ob_x, obx_s, ↓bnd_s, ↓oT_x, oTx_s, ↓ite_x, itx_T, itx_F, ↓reduceIte, not_true_eq_false, not_false_eq_true, true_and, and_true, Nat.reduceAdd, Nat.reduceMul, Nat.reduceSub, Nat.reduceEqDiff, isB0, isB1, Int32.neg_neg, Nat.zero_add, Nat.add_zero, Nat.mul_zero, Nat.mul_one, Nat.zero_mul]
theorem wsk_l {N t : Nat} (ht : t < 65) (a b : Int32) {g : Mem} : ∀ (n x fu : Nat), x + n = t → n < fu → (∀ j, x ≤ j → j < t → ¬ chN j = 32) → X3_nextWord_L52 N fu a b (i32 x) g = X3_nextWord_L52 N (fu - n) a b (i32 t) g
  | 0, x, fu, h1, h2, h3 => by
    have : x = t := by omega
    subst this
    rfl
  | n + 1, x, fu, h1, h2, h3 => by
    obtain ⟨fu, rfl⟩ : ∃ q, fu = q + 1 := ⟨fu - 1, by omega⟩
    have c1 := chS1 x (by omega)
    have c0 := chN_lt x (by omega)
    have c2 := h3 x (by omega) (by omega)
    rw [show fu + 1 - (n + 1) = fu - n by omega, ← wsk_l (N := N) ht a b n (x + 1) fu (by omega) (by omega) (fun j a b => h3 j (by omega) b)]
    simp -dsimp -implicitDefEqProofs (disch := omega) only [X3_nextWord_L52, c1, c2, i32_lit, i32_add, i32_mul, i32_tn, i32_sub, le_t, le_f, lt_t, lt_f, eq_t, eq_f, eq_rfl, inR_t, ↓ob_x, obx_s, ↓bnd_s, ↓oT_x, oTx_s, ↓ite_x, itx_T, itx_F, ↓reduceIte, not_true_eq_false, not_false_eq_true, true_and, and_true, Nat.reduceAdd, Nat.reduceMul, Nat.reduceSub, Nat.reduceEqDiff, isB0, isB1, Int32.neg_neg, Nat.zero_add, Nat.add_zero, Nat.mul_zero, Nat.mul_one, Nat.zero_mul]
theorem wst_l {N i q e z fu : Nat} (hN : 6000 ≤ N) (hi : i < 12) {B : Nat → Nat} {g : Mem} (hT : TI B z g) (h3 : g.1 0 3 = i32 q) (h2 : g.1 0 2 = i32 e) (hqe : q ≤ e) (he : e ≤ z) (hf : lL.getD i 0 + 1 < fu) :
    X3_nextWord_L52 N fu (i32 (sL.getD i 0)) (i32 i) (i32 (sL.getD i 0)) g = X3_nextWord_L52 N (fu - lL.getD i 0 - 1) (i32 (sL.getD (i + 1) 0)) (i32 (i + 1)) (i32 (sL.getD (i + 1) 0)) (if sp B q e (sL.getD i 0) (lL.getD i 0) = 0 then g else stI g 0 4 (i32 (260 + i))) := by
  obtain ⟨k1, k2, k3, k4, k5⟩ := kF3 i hi
  rw [k4]
  generalize hs : sL.getD i 0 = s at *
  generalize hl : lL.getD i 0 = l at *
  rw [wsk_l (N := N) (t := s + l) (by omega) _ _ l s fu (by omega) (by omega) (fun j h1 h2 => by
    have x := (kF1 i hi (j - s) (by rw [hl]; omega)).2
    rw [hs, show s + (j - s) = j by omega] at x; exact x)]
  obtain ⟨f, hf'⟩ : ∃ q, fu - l = q + 1 := ⟨fu - l - 1, by omega⟩
  rw [hf', show f + 1 - 1 = f from rfl]
  have c1 := chS1 (s + l) (by omega)
  have u := spl_I (N := N) (s := s) (t := s + l) hN hT h3 h2 (by omega) (by omega) hqe he
  rw [show s + l - s = l by omega] at u
  have hsp : sp B q e s l = 0 ∨ sp B q e s l = 1 := by
    unfold sp
    split
    · rcases spR_iff B q s l 0 with ⟨a, _⟩ | ⟨a, _⟩
      · exact Or.inr a
      · exact Or.inl a
    · exact Or.inl rfl
  rcases hsp with h | h
  · rw [if_pos h]
    simp -dsimp -implicitDefEqProofs (disch := omega) only [X3_nextWord_L52, c1, k5, u, h, i32_lit, i32_add, i32_mul, i32_tn, i32_sub, le_t, le_f, lt_t, lt_f, eq_t, eq_f, eq_rfl, inR_t, ↓ob_x, obx_s, ↓bnd_s, ↓oT_x, oTx_s, ↓ite_x, itx_T, itx_F, ↓reduceIte, not_true_eq_false, not_false_eq_true, true_and, and_true, Nat.reduceAdd, Nat.reduceMul, Nat.reduceSub, Nat.reduceEqDiff, isB0, isB1, Int32.neg_neg, Nat.zero_add, Nat.add_zero, Nat.mul_zero, Nat.mul_one, Nat.zero_mul]
  · rw [if_neg (by omega)]
    simp -dsimp -implicitDefEqProofs (disch := omega) only [X3_nextWord_L52, c1, k5, u, h, i32_lit, i32_add, i32_mul, i32_tn, i32_sub, le_t, le_f, lt_t, lt_f, eq_t, eq_f, eq_rfl, inR_t, ↓ob_x, obx_s, ↓bnd_s, ↓oT_x, oTx_s, ↓ite_x, itx_T, itx_F, ↓reduceIte, not_true_eq_false, not_false_eq_true, true_and, and_true, Nat.reduceAdd, Nat.reduceMul, Nat.reduceSub, Nat.reduceEqDiff, isB0, isB1, Int32.neg_neg, Nat.zero_add, Nat.add_zero, Nat.mul_zero, Nat.mul_one, Nat.zero_mul]
theorem wds_l {N q e z : Nat} (hN : 6000 ≤ N) {B : Nat → Nat} {g0 : Mem} (hT0 : TI B z g0) (hqe : q ≤ e) (he : e ≤ z) : ∀ (n i fu x : Nat) (g : Mem), i + n = 12 → 66 ≤ fu + sL.getD i 0 → FR g0 g → g.1 0 3 = i32 q → g.1 0 2 = i32 e → g.1 0 4 = i32 x →
    ∃ g', X3_nextWord_L52 N fu (i32 (sL.getD i 0)) (i32 i) (i32 (sL.getD i 0)) g = some (i32 0, g') ∧ FR g0 g' ∧ g'.1 0 3 = i32 q ∧ g'.1 0 2 = i32 e ∧ g'.1 0 4 = i32 (cfF (fun i => sp B q e (sL.getD i 0) (lL.getD i 0)) i n x)
  | 0, i, fu, x, g, h1, h2, f, h3, h5, h4 => by
    have : i = 12 := by omega
    subst this
    have s12 : sL.getD 12 0 = 65 := rfl
    rw [s12] at h2 ⊢
    obtain ⟨fu, rfl⟩ : ∃ q, fu = q + 1 := ⟨fu - 1, by omega⟩
    exact ⟨g, by simp -dsimp -implicitDefEqProofs (disch := omega) only [X3_nextWord_L52, i32_lit, i32_add, i32_mul, i32_tn, i32_sub, le_t, le_f, lt_t, lt_f, eq_t, eq_f, eq_rfl, inR_t, ↓ob_x, obx_s, ↓bnd_s, ↓oT_x, oTx_s, ↓ite_x, itx_T, itx_F, ↓reduceIte, not_true_eq_false, not_false_eq_true, true_and, and_true, Nat.reduceAdd, Nat.reduceMul, Nat.reduceSub, Nat.reduceEqDiff, isB0, isB1, Int32.neg_neg, Nat.zero_add, Nat.add_zero, Nat.mul_zero, Nat.mul_one, Nat.zero_mul], f, h3, h5, h4⟩
  | n + 1, i, fu, x, g, h1, h2, f, h3, h5, h4 => by
    have k := kF3 i (by omega)
    have e1 := wst_l (N := N) (fu := fu) hN (by omega : i < 12) (TI_FR hT0 f) h3 h5 hqe he (by omega)
    have e2 : cfF (fun i => sp B q e (sL.getD i 0) (lL.getD i 0)) i (n + 1) x = cfF (fun i => sp B q e (sL.getD i 0) (lL.getD i 0)) (i + 1) n (if sp B q e (sL.getD i 0) (lL.getD i 0) = 0 then x else 260 + i) := rfl
    rw [e1, e2]
    by_cases h : sp B q e (sL.getD i 0) (lL.getD i 0) = 0
    · rw [if_pos h, if_pos h]
      exact wds_l hN hT0 hqe he n (i + 1) _ x g (by omega) (by omega) f h3 h5 h4
    · rw [if_neg h, if_neg h]
      exact wds_l hN hT0 hqe he n (i + 1) _ (260 + i) _ (by omega) (by omega) (FR_tr f (FR_st _ _ _ (by omega))) (by rw [stI_nj _ _ _ _ _ (by omega)]; exact h3) (by rw [stI_nj _ _ _ _ _ (by omega)]; exact h5) (stI_eq _ _ _ _)
set_option maxRecDepth 100000 in
theorem wrd_l {N q z : Nat} (hN : 6000 ≤ N) {B : Nat → Nat} {g0 : Mem} (hT0 : TI B z g0) : ∀ (n p fu : Nat) (g : Mem), p + n = z → n < fu → q ≤ p → FR g0 g → g.1 0 3 = i32 q → g.1 0 2 = i32 p → (∀ j, q ≤ j → j < p → 97 ≤ B j ∧ B j ≤ 122) →
    ∃ g', X3_nextWord_L0 N fu g = some (i32 0, g') ∧ FR g0 g' ∧ g'.1 0 3 = i32 q ∧ g'.1 0 2 = i32 (wnd B n p) ∧ g'.1 0 4 = i32 (wcd B q (wnd B n p))
  | 0, p, fu, g, h1, h2, h3, f, h4, h5, hB => by
    obtain ⟨fu, rfl⟩ : ∃ q, fu = q + 1 := ⟨fu - 1, by omega⟩
    obtain ⟨t1, t2, t3⟩ := TI_FR hT0 f
    obtain ⟨g', r1, r2, r3, r4, r5⟩ := wds_l hN hT0 h3 (by omega : p ≤ z) 12 0 N 257 (stI g 0 4 (i32 257)) (by omega) (by omega) (FR_tr f (FR_st _ _ _ (by omega))) (by rw [stI_nj _ _ _ _ _ (by omega)]; exact h4) (by rw [stI_nj _ _ _ _ _ (by omega)]; exact h5) (stI_eq _ _ _ _)
    rw [cf_wcd h3 hB] at r5
    have s0 : sL.getD 0 0 = 0 := rfl
    rw [s0] at r1
    exact ⟨g', by simp -dsimp -implicitDefEqProofs (disch := omega) only [X3_nextWord_L0, t2, h5, r1, i32_lit, i32_add, i32_mul, i32_tn, i32_sub, le_t, le_f, lt_t, lt_f, eq_t, eq_f, eq_rfl, inR_t, ↓ob_x, obx_s, ↓bnd_s, ↓oT_x, oTx_s, ↓ite_x, itx_T, itx_F, ↓reduceIte, not_true_eq_false, not_false_eq_true, true_and, and_true, Nat.reduceAdd, Nat.reduceMul, Nat.reduceSub, Nat.reduceEqDiff, isB0, isB1, Int32.neg_neg, Nat.zero_add, Nat.add_zero, Nat.mul_zero, Nat.mul_one, Nat.zero_mul], r2, r3, r4, r5⟩
  | n + 1, p, fu, g, h1, h2, h3, f, h4, h5, hB => by
    obtain ⟨fu, rfl⟩ : ∃ q, fu = q + 1 := ⟨fu - 1, by omega⟩
    obtain ⟨t1, t2, t3⟩ := TI_FR hT0 f
    obtain ⟨b0, b1⟩ := t3 p (by omega)
    have c1 := isLt_e (N := N) g b0
    by_cases h : 97 ≤ B p ∧ B p ≤ 122
    · rw [if_pos h] at c1
      obtain ⟨g', r1, r2, r3, r4, r5⟩ := wrd_l (q := q) hN hT0 n (p + 1) fu (stI g 0 2 (i32 (p + 1))) (by omega) (by omega) (by omega) (FR_tr f (FR_st _ _ _ (by omega))) (by rw [stI_nj _ _ _ _ _ (by omega)]; exact h4) (stI_eq _ _ _ _) (fun j a b => by
        by_cases hj : j = p
        · subst hj; exact h
        · exact hB j a (by omega))
      have e1 : wnd B (n + 1) p = wnd B n (p + 1) := by rw [wnd, if_pos h]
      rw [e1]
      exact ⟨g', by simp -dsimp -implicitDefEqProofs (disch := omega) only [X3_nextWord_L0, t2, h5, b1, c1, r1, i32_lit, i32_add, i32_mul, i32_tn, i32_sub, le_t, le_f, lt_t, lt_f, eq_t, eq_f, eq_rfl, inR_t, ↓ob_x, obx_s, ↓bnd_s, ↓oT_x, oTx_s, ↓ite_x, itx_T, itx_F, ↓reduceIte, not_true_eq_false, not_false_eq_true, true_and, and_true, Nat.reduceAdd, Nat.reduceMul, Nat.reduceSub, Nat.reduceEqDiff, isB0, isB1, Int32.neg_neg, Nat.zero_add, Nat.add_zero, Nat.mul_zero, Nat.mul_one, Nat.zero_mul], r2, r3, r4, r5⟩
    · rw [if_neg h] at c1
      obtain ⟨g', r1, r2, r3, r4, r5⟩ := wds_l hN hT0 h3 (by omega : p ≤ z) 12 0 N 257 (stI g 0 4 (i32 257)) (by omega) (by omega) (FR_tr f (FR_st _ _ _ (by omega))) (by rw [stI_nj _ _ _ _ _ (by omega)]; exact h4) (by rw [stI_nj _ _ _ _ _ (by omega)]; exact h5) (stI_eq _ _ _ _)
      rw [cf_wcd h3 hB] at r5
      have s0 : sL.getD 0 0 = 0 := rfl
      rw [s0] at r1
      have e1 : wnd B (n + 1) p = p := by rw [wnd, if_neg h]
      rw [e1]
      exact ⟨g', by simp -dsimp -implicitDefEqProofs (disch := omega) only [X3_nextWord_L0, t2, h5, b1, c1, r1, i32_lit, i32_add, i32_mul, i32_tn, i32_sub, le_t, le_f, lt_t, lt_f, eq_t, eq_f, eq_rfl, inR_t, ↓ob_x, obx_s, ↓bnd_s, ↓oT_x, oTx_s, ↓ite_x, itx_T, itx_F, ↓reduceIte, not_true_eq_false, not_false_eq_true, true_and, and_true, Nat.reduceAdd, Nat.reduceMul, Nat.reduceSub, Nat.reduceEqDiff, isB0, isB1, Int32.neg_neg, Nat.zero_add, Nat.add_zero, Nat.mul_zero, Nat.mul_one, Nat.zero_mul], r2, r3, r4, r5⟩
set_option maxRecDepth 100000 in
theorem num_l {N q z : Nat} {B : Nat → Nat} {g0 : Mem} (hT0 : TI B z g0) : ∀ (n p v fu : Nat) (g : Mem), p + n = z → n < fu → q ≤ p → FR g0 g → g.1 0 3 = i32 q → g.1 0 2 = i32 p → g.1 0 5 = i32 v →
    ∃ g', X3_nextNumber_L5 N fu g = some (i32 0, g') ∧ FR g0 g' ∧ g'.1 0 3 = i32 q ∧ g'.1 0 2 = i32 (dnd B n p) ∧ g'.1 0 4 = i32 (if dnd B n p - q ≤ 4 then 258 else 257) ∧ g'.1 0 5 = i32 (dvl B n p v)
  | 0, p, v, fu, g, h1, h2, h3, f, h4, h5, h6 => by
    obtain ⟨fu, rfl⟩ : ∃ q, fu = q + 1 := ⟨fu - 1, by omega⟩
    obtain ⟨t1, t2, t3⟩ := TI_FR hT0 f
    have e1 : dnd B 0 p = p := rfl
    have e2 : dvl B 0 p v = v := rfl
    rw [e1, e2]
    by_cases hc : p - q ≤ 4
    · rw [if_pos hc]
      exact ⟨stI g 0 4 (i32 258), by simp -dsimp -implicitDefEqProofs (disch := omega) only [X3_nextNumber_L5, t2, h5, h4, i32_lit, i32_add, i32_mul, i32_tn, i32_sub, le_t, le_f, lt_t, lt_f, eq_t, eq_f, eq_rfl, inR_t, ↓ob_x, obx_s, ↓bnd_s, ↓oT_x, oTx_s, ↓ite_x, itx_T, itx_F, ↓reduceIte, not_true_eq_false, not_false_eq_true, true_and, and_true, Nat.reduceAdd, Nat.reduceMul, Nat.reduceSub, Nat.reduceEqDiff, isB0, isB1, Int32.neg_neg, Nat.zero_add, Nat.add_zero, Nat.mul_zero, Nat.mul_one, Nat.zero_mul], FR_tr f (FR_st _ _ _ (by omega)), by rw [stI_nj _ _ _ _ _ (by omega)]; exact h4, by rw [stI_nj _ _ _ _ _ (by omega)]; exact h5, stI_eq _ _ _ _, by rw [stI_nj _ _ _ _ _ (by omega)]; exact h6⟩
    · rw [if_neg hc]
      exact ⟨stI g 0 4 (i32 257), by simp -dsimp -implicitDefEqProofs (disch := omega) only [X3_nextNumber_L5, t2, h5, h4, i32_lit, i32_add, i32_mul, i32_tn, i32_sub, le_t, le_f, lt_t, lt_f, eq_t, eq_f, eq_rfl, inR_t, ↓ob_x, obx_s, ↓bnd_s, ↓oT_x, oTx_s, ↓ite_x, itx_T, itx_F, ↓reduceIte, not_true_eq_false, not_false_eq_true, true_and, and_true, Nat.reduceAdd, Nat.reduceMul, Nat.reduceSub, Nat.reduceEqDiff, isB0, isB1, Int32.neg_neg, Nat.zero_add, Nat.add_zero, Nat.mul_zero, Nat.mul_one, Nat.zero_mul], FR_tr f (FR_st _ _ _ (by omega)), by rw [stI_nj _ _ _ _ _ (by omega)]; exact h4, by rw [stI_nj _ _ _ _ _ (by omega)]; exact h5, stI_eq _ _ _ _, by rw [stI_nj _ _ _ _ _ (by omega)]; exact h6⟩
  | n + 1, p, v, fu, g, h1, h2, h3, f, h4, h5, h6 => by
    obtain ⟨fu, rfl⟩ : ∃ q, fu = q + 1 := ⟨fu - 1, by omega⟩
    obtain ⟨t1, t2, t3⟩ := TI_FR hT0 f
    obtain ⟨b0, b1⟩ := t3 p (by omega)
    have c1 := isDg_e (N := N) g b0
    by_cases h : 48 ≤ B p ∧ B p ≤ 57
    · rw [if_pos h] at c1
      have e1 : dnd B (n + 1) p = dnd B n (p + 1) := by rw [dnd, if_pos h]
      have e2 : dvl B (n + 1) p v = dvl B n (p + 1) (v * 10 + B p - 48) := by rw [dvl, if_pos h]
      obtain ⟨g', r1, r2⟩ := num_l (N := N) (q := q) hT0 n (p + 1) (v * 10 + B p - 48) fu (stI (stI g 0 5 (i32 (v * 10 + B p - 48))) 0 2 (i32 (p + 1))) (by omega) (by omega) (by omega) (FR_tr f (FR_tr (FR_st _ _ _ (by omega)) (FR_st _ _ _ (by omega)))) (by rw [stI_nj _ _ _ _ _ (by omega), stI_nj _ _ _ _ _ (by omega)]; exact h4) (stI_eq _ _ _ _) (by rw [stI_nj _ _ _ _ _ (by omega), stI_eq])
      rw [e1, e2]
      exact ⟨g', by simp -dsimp -implicitDefEqProofs (disch := omega) only [X3_nextNumber_L5, t2, h5, h6, b1, c1, r1, i32_lit, i32_add, i32_mul, i32_tn, i32_sub, le_t, le_f, lt_t, lt_f, eq_t, eq_f, eq_rfl, inR_t, ↓ob_x, obx_s, ↓bnd_s, ↓oT_x, oTx_s, ↓ite_x, itx_T, itx_F, ↓reduceIte, not_true_eq_false, not_false_eq_true, true_and, and_true, Nat.reduceAdd, Nat.reduceMul, Nat.reduceSub, Nat.reduceEqDiff, isB0, isB1, Int32.neg_neg, Nat.zero_add, Nat.add_zero, Nat.mul_zero, Nat.mul_one, Nat.zero_mul, stI_eq, stI_nj, stI_ne, stI_2, stA_eq, stA_ne, stA_2, stR_1, stR_2], r2⟩
    · rw [if_neg h] at c1
      have e1 : dnd B (n + 1) p = p := by rw [dnd, if_neg h]
      have e2 : dvl B (n + 1) p v = v := by rw [dvl, if_neg h]
      rw [e1, e2]
      by_cases hc : p - q ≤ 4
      · rw [if_pos hc]
        exact ⟨stI g 0 4 (i32 258), by simp -dsimp -implicitDefEqProofs (disch := omega) only [X3_nextNumber_L5, t2, h5, h4, b1, c1, i32_lit, i32_add, i32_mul, i32_tn, i32_sub, le_t, le_f, lt_t, lt_f, eq_t, eq_f, eq_rfl, inR_t, ↓ob_x, obx_s, ↓bnd_s, ↓oT_x, oTx_s, ↓ite_x, itx_T, itx_F, ↓reduceIte, not_true_eq_false, not_false_eq_true, true_and, and_true, Nat.reduceAdd, Nat.reduceMul, Nat.reduceSub, Nat.reduceEqDiff, isB0, isB1, Int32.neg_neg, Nat.zero_add, Nat.add_zero, Nat.mul_zero, Nat.mul_one, Nat.zero_mul], FR_tr f (FR_st _ _ _ (by omega)), by rw [stI_nj _ _ _ _ _ (by omega)]; exact h4, by rw [stI_nj _ _ _ _ _ (by omega)]; exact h5, stI_eq _ _ _ _, by rw [stI_nj _ _ _ _ _ (by omega)]; exact h6⟩
      · rw [if_neg hc]
        exact ⟨stI g 0 4 (i32 257), by simp -dsimp -implicitDefEqProofs (disch := omega) only [X3_nextNumber_L5, t2, h5, h4, b1, c1, i32_lit, i32_add, i32_mul, i32_tn, i32_sub, le_t, le_f, lt_t, lt_f, eq_t, eq_f, eq_rfl, inR_t, ↓ob_x, obx_s, ↓bnd_s, ↓oT_x, oTx_s, ↓ite_x, itx_T, itx_F, ↓reduceIte, not_true_eq_false, not_false_eq_true, true_and, and_true, Nat.reduceAdd, Nat.reduceMul, Nat.reduceSub, Nat.reduceEqDiff, isB0, isB1, Int32.neg_neg, Nat.zero_add, Nat.add_zero, Nat.mul_zero, Nat.mul_one, Nat.zero_mul], FR_tr f (FR_st _ _ _ (by omega)), by rw [stI_nj _ _ _ _ _ (by omega)]; exact h4, by rw [stI_nj _ _ _ _ _ (by omega)]; exact h5, stI_eq _ _ _ _, by rw [stI_nj _ _ _ _ _ (by omega)]; exact h6⟩
/-- what stands when the class has read the token from p on -/
def CT (B : Nat → Nat) (z p : Nat) (g : Mem) : Prop := g.1 0 2 = i32 (lxN B z (plF B z p)) ∧ g.1 0 3 = i32 (plF B z p) ∧ g.1 0 4 = i32 (lxS B z (plF B z p)) ∧ (plF B z p < z → 48 ≤ B (plF B z p) → B (plF B z p) ≤ 57 → g.1 0 5 = i32 (dvl B (z - plF B z p) (plF B z p) 0))
set_option maxRecDepth 100000 in
theorem nxq_I {N q z fu : Nat} (hN : 6000 ≤ N) {B : Nat → Nat} {g : Mem} (hT : TI B z g) (h2 : g.1 0 2 = i32 q) (hq : q ≤ z) (hb : q < z → ¬ (B q = 32 ∨ B q = 10)) :
    ∃ g', X3_next_L0 N (fu + 1) g = some (i32 0, g') ∧ FR g g' ∧ g'.1 0 2 = i32 (lxN B z q) ∧ g'.1 0 3 = i32 q ∧ g'.1 0 4 = i32 (lxS B z q) ∧ (q < z → 48 ≤ B q → B q ≤ 57 → g'.1 0 5 = i32 (dvl B (z - q) q 0)) := by
  obtain ⟨t1, t2, t3⟩ := id hT
  unfold lxN lxS
  by_cases hz : z ≤ q
  · rw [if_pos hz, if_pos hz]
    have : q = z := by omega
    subst this
    exact ⟨stI (stI g 0 3 (i32 q)) 0 4 (i32 256), by simp -dsimp -implicitDefEqProofs (disch := omega) only [X3_next_L0, t2, h2, i32_lit, i32_add, i32_mul, i32_tn, i32_sub, le_t, le_f, lt_t, lt_f, eq_t, eq_f, eq_rfl, inR_t, ↓ob_x, obx_s, ↓bnd_s, ↓oT_x, oTx_s, ↓ite_x, itx_T, itx_F, ↓reduceIte, not_true_eq_false, not_false_eq_true, true_and, and_true, Nat.reduceAdd, Nat.reduceMul, Nat.reduceSub, Nat.reduceEqDiff, isB0, isB1, Int32.neg_neg, Nat.zero_add, Nat.add_zero, Nat.mul_zero, Nat.mul_one, Nat.zero_mul, stI_eq, stI_nj, stI_ne, stI_2, stA_eq, stA_ne, stA_2, stR_1, stR_2], FR_tr (FR_st _ _ _ (by omega)) (FR_st _ _ _ (by omega)), by simp -dsimp -implicitDefEqProofs (disch := omega) only [stI_eq, stI_nj, stI_ne, stI_2, stA_eq, stA_ne, stA_2, stR_1, stR_2]; exact h2, by simp -dsimp -implicitDefEqProofs (disch := omega) only [stI_eq, stI_nj, stI_ne, stI_2, stA_eq, stA_ne, stA_2, stR_1, stR_2], by simp -dsimp -implicitDefEqProofs (disch := omega) only [stI_eq, stI_nj, stI_ne, stI_2, stA_eq, stA_ne, stA_2, stR_1, stR_2], fun x => by omega⟩
  · rw [if_neg hz, if_neg hz]
    obtain ⟨b0, b1⟩ := t3 q (by omega)
    have f1 := FR_st g 3 (i32 q) (by omega)
    have s2 : (stI g 0 3 (i32 q)).1 0 2 = i32 q := by rw [stI_nj _ _ _ _ _ (by omega)]; exact h2
    have s3 : (stI g 0 3 (i32 q)).1 0 3 = i32 q := stI_eq _ _ _ _
    have k0 := isBl_e (N := N) g b0
    rw [if_neg (hb (by omega))] at k0
    have k1 := isLt_e (N := N) (stI g 0 3 (i32 q)) b0
    have k2 := isDg_e (N := N) (stI g 0 3 (i32 q)) b0
    have k3 := isSg_e (N := N) (stI g 0 3 (i32 q)) b0
    by_cases hL : 97 ≤ B q ∧ B q ≤ 122
    · rw [if_pos hL] at k1
      rw [if_pos hL, if_pos hL]
      obtain ⟨g', r1, r2, r3, r4, r5⟩ := wrd_l (N := N) (q := q) hN (TI_FR hT f1) (z - q) q N (stI g 0 3 (i32 q)) (by omega) (by omega) (Nat.le_refl q) (FR_rfl _) s3 s2 (fun j a b => by omega)
      exact ⟨g', by simp -dsimp -implicitDefEqProofs (disch := omega) only [X3_next_L0, X3_nextWord, t2, h2, b1, k0, k1, r1, i32_lit, i32_add, i32_mul, i32_tn, i32_sub, le_t, le_f, lt_t, lt_f, eq_t, eq_f, eq_rfl, inR_t, ↓ob_x, obx_s, ↓bnd_s, ↓oT_x, oTx_s, ↓ite_x, itx_T, itx_F, ↓reduceIte, not_true_eq_false, not_false_eq_true, true_and, and_true, Nat.reduceAdd, Nat.reduceMul, Nat.reduceSub, Nat.reduceEqDiff, isB0, isB1, Int32.neg_neg, Nat.zero_add, Nat.add_zero, Nat.mul_zero, Nat.mul_one, Nat.zero_mul, stI_eq, stI_nj, stI_ne, stI_2, stA_eq, stA_ne, stA_2, stR_1, stR_2], FR_tr f1 r2, r4, r3, r5, fun _ a b => by omega⟩
    · rw [if_neg hL] at k1
      rw [if_neg hL, if_neg hL]
      by_cases hD : 48 ≤ B q ∧ B q ≤ 57
      · rw [if_pos hD] at k2
        rw [if_pos hD, if_pos hD]
        obtain ⟨g', r1, r2, r3, r4, r5, r6⟩ := num_l (N := N) (q := q) (TI_FR hT f1) (z - q) q 0 N (stI (stI g 0 3 (i32 q)) 0 5 (i32 0)) (by omega) (by omega) (Nat.le_refl q) (FR_st _ _ _ (by omega)) (by rw [stI_nj _ _ _ _ _ (by omega)]; exact s3) (by rw [stI_nj _ _ _ _ _ (by omega)]; exact s2) (stI_eq _ _ _ _)
        exact ⟨g', by simp -dsimp -implicitDefEqProofs (disch := omega) only [X3_next_L0, X3_nextNumber, t2, h2, b1, k0, k1, k2, r1, i32_lit, i32_add, i32_mul, i32_tn, i32_sub, le_t, le_f, lt_t, lt_f, eq_t, eq_f, eq_rfl, inR_t, ↓ob_x, obx_s, ↓bnd_s, ↓oT_x, oTx_s, ↓ite_x, itx_T, itx_F, ↓reduceIte, not_true_eq_false, not_false_eq_true, true_and, and_true, Nat.reduceAdd, Nat.reduceMul, Nat.reduceSub, Nat.reduceEqDiff, isB0, isB1, Int32.neg_neg, Nat.zero_add, Nat.add_zero, Nat.mul_zero, Nat.mul_one, Nat.zero_mul, stI_eq, stI_nj, stI_ne, stI_2, stA_eq, stA_ne, stA_2, stR_1, stR_2], FR_tr f1 r2, r4, r3, r5, fun _ _ _ => r6⟩
      · rw [if_neg hD] at k2
        rw [if_neg hD, if_neg hD]
        by_cases hS : sgn (B q)
        · rw [if_pos hS] at k3
          rw [if_pos hS]
          exact ⟨stI (stI (stI g 0 3 (i32 q)) 0 4 (i32 (B q))) 0 2 (i32 (q + 1)), by simp -dsimp -implicitDefEqProofs (disch := omega) only [X3_next_L0, t2, h2, b1, k0, k1, k2, k3, i32_lit, i32_add, i32_mul, i32_tn, i32_sub, le_t, le_f, lt_t, lt_f, eq_t, eq_f, eq_rfl, inR_t, ↓ob_x, obx_s, ↓bnd_s, ↓oT_x, oTx_s, ↓ite_x, itx_T, itx_F, ↓reduceIte, not_true_eq_false, not_false_eq_true, true_and, and_true, Nat.reduceAdd, Nat.reduceMul, Nat.reduceSub, Nat.reduceEqDiff, isB0, isB1, Int32.neg_neg, Nat.zero_add, Nat.add_zero, Nat.mul_zero, Nat.mul_one, Nat.zero_mul, stI_eq, stI_nj, stI_ne, stI_2, stA_eq, stA_ne, stA_2, stR_1, stR_2], FR_tr f1 (FR_tr (FR_st _ _ _ (by omega)) (FR_st _ _ _ (by omega))), by simp -dsimp -implicitDefEqProofs (disch := omega) only [stI_eq, stI_nj, stI_ne, stI_2, stA_eq, stA_ne, stA_2, stR_1, stR_2], by simp -dsimp -implicitDefEqProofs (disch := omega) only [stI_eq, stI_nj, stI_ne, stI_2, stA_eq, stA_ne, stA_2, stR_1, stR_2], by simp -dsimp -implicitDefEqProofs (disch := omega) only [stI_eq, stI_nj, stI_ne, stI_2, stA_eq, stA_ne, stA_2, stR_1, stR_2], fun _ a b => by omega⟩
        · rw [if_neg hS] at k3
          rw [if_neg hS]
          exact ⟨stI (stI (stI g 0 3 (i32 q)) 0 4 (i32 257)) 0 2 (i32 (q + 1)), by simp -dsimp -implicitDefEqProofs (disch := omega) only [X3_next_L0, t2, h2, b1, k0, k1, k2, k3, i32_lit, i32_add, i32_mul, i32_tn, i32_sub, le_t, le_f, lt_t, lt_f, eq_t, eq_f, eq_rfl, inR_t, ↓ob_x, obx_s, ↓bnd_s, ↓oT_x, oTx_s, ↓ite_x, itx_T, itx_F, ↓reduceIte, not_true_eq_false, not_false_eq_true, true_and, and_true, Nat.reduceAdd, Nat.reduceMul, Nat.reduceSub, Nat.reduceEqDiff, isB0, isB1, Int32.neg_neg, Nat.zero_add, Nat.add_zero, Nat.mul_zero, Nat.mul_one, Nat.zero_mul, stI_eq, stI_nj, stI_ne, stI_2, stA_eq, stA_ne, stA_2, stR_1, stR_2], FR_tr f1 (FR_tr (FR_st _ _ _ (by omega)) (FR_st _ _ _ (by omega))), by simp -dsimp -implicitDefEqProofs (disch := omega) only [stI_eq, stI_nj, stI_ne, stI_2, stA_eq, stA_ne, stA_2, stR_1, stR_2], by simp -dsimp -implicitDefEqProofs (disch := omega) only [stI_eq, stI_nj, stI_ne, stI_2, stA_eq, stA_ne, stA_2, stR_1, stR_2], by simp -dsimp -implicitDefEqProofs (disch := omega) only [stI_eq, stI_nj, stI_ne, stI_2, stA_eq, stA_ne, stA_2, stR_1, stR_2], fun _ a b => by omega⟩
set_option maxRecDepth 100000 in
theorem nxs_I {N z : Nat} (hN : 6000 ≤ N) {B : Nat → Nat} {g0 : Mem} (hT0 : TI B z g0) : ∀ (n p fu : Nat) (g : Mem), p + n = z → n < fu → FR g0 g → g.1 0 2 = i32 p →
    ∃ g', X3_next_L0 N fu g = some (i32 0, g') ∧ FR g0 g' ∧ g'.1 0 2 = i32 (lxN B z (skp B n p)) ∧ g'.1 0 3 = i32 (skp B n p) ∧ g'.1 0 4 = i32 (lxS B z (skp B n p)) ∧ (skp B n p < z → 48 ≤ B (skp B n p) → B (skp B n p) ≤ 57 → g'.1 0 5 = i32 (dvl B (z - skp B n p) (skp B n p) 0))
  | 0, p, fu, g, h1, h2, f, h3 => by
    obtain ⟨fu, rfl⟩ : ∃ q, fu = q + 1 := ⟨fu - 1, by omega⟩
    obtain ⟨g', r1, r2, r3⟩ := nxq_I (N := N) (fu := fu) hN (TI_FR hT0 f) h3 (by omega) (fun h => by omega)
    exact ⟨g', r1, FR_tr f r2, r3⟩
  | n + 1, p, fu, g, h1, h2, f, h3 => by
    obtain ⟨fu, rfl⟩ : ∃ q, fu = q + 1 := ⟨fu - 1, by omega⟩
    obtain ⟨t1, t2, t3⟩ := TI_FR hT0 f
    obtain ⟨b0, b1⟩ := t3 p (by omega)
    by_cases h : B p = 32 ∨ B p = 10
    · have k0 := isBl_e (N := N) g b0
      rw [if_pos h] at k0
      have e1 : skp B (n + 1) p = skp B n (p + 1) := by rw [skp, if_pos h]
      obtain ⟨g', r1, r2, r3⟩ := nxs_I hN hT0 n (p + 1) fu (stI g 0 2 (i32 (p + 1))) (by omega) (by omega) (FR_tr f (FR_st _ _ _ (by omega))) (stI_eq _ _ _ _)
      rw [e1]
      exact ⟨g', by simp -dsimp -implicitDefEqProofs (disch := omega) only [X3_next_L0, t2, h3, b1, k0, r1, i32_lit, i32_add, i32_mul, i32_tn, i32_sub, le_t, le_f, lt_t, lt_f, eq_t, eq_f, eq_rfl, inR_t, ↓ob_x, obx_s, ↓bnd_s, ↓oT_x, oTx_s, ↓ite_x, itx_T, itx_F, ↓reduceIte, not_true_eq_false, not_false_eq_true, true_and, and_true, Nat.reduceAdd, Nat.reduceMul, Nat.reduceSub, Nat.reduceEqDiff, isB0, isB1, Int32.neg_neg, Nat.zero_add, Nat.add_zero, Nat.mul_zero, Nat.mul_one, Nat.zero_mul], r2, r3⟩
    · have e1 : skp B (n + 1) p = p := by rw [skp, if_neg h]
      rw [e1]
      obtain ⟨g', r1, r2, r3⟩ := nxq_I (N := N) (fu := fu) hN (TI_FR hT0 f) h3 (by omega) (fun _ => h)
      exact ⟨g', r1, FR_tr f r2, r3⟩
theorem next_I2 {N z p : Nat} (hN : 6000 ≤ N) {B : Nat → Nat} {g : Mem} (hT : TI B z g) (hp : p ≤ z) (h2 : g.1 0 2 = i32 p) : ∃ g', X3_next N g = some (i32 0, g') ∧ FR g g' ∧ CT B z p g' := by
  have hz := hT.1
  obtain ⟨g', r1, r2, r3⟩ := nxs_I hN hT (z - p) p N g (by omega) (by omega) (FR_rfl g) h2
  exact ⟨g', r1, r2, r3⟩
