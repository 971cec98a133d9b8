/-! the class as it reads a text -/
theorem wfd_le (B : Nat → Nat) (q e : Nat) : wfd B q e 0 12 ≤ 12 := by
  rcases wfd_sp B q e 12 0 (by omega) with ⟨a, _⟩ | ⟨_, a, _⟩ <;> omega
theorem plF_le {B : Nat → Nat} {z p : Nat} (h : p ≤ z) : p ≤ plF B z p ∧ plF B z p ≤ z := by
  unfold plF
  have := skp_le B (z - p) p
  omega
theorem lxN_le {B : Nat → Nat} {z q : Nat} (h : q ≤ z) : lxN B z q ≤ z ∧ q ≤ lxN B z q := by
  unfold lxN
  have h1 := wnd_le B (z - q) q
  have h2 := dnd_le B (z - q) q
  split
  · omega
  split
  · omega
  split
  · omega
  · omega
theorem lx_pos {B : Nat → Nat} {z q : Nat} (h : ¬ lxS B z q = 256) : q < z ∧ q < lxN B z q := by
  unfold lxS at h
  unfold lxN
  by_cases hz : z ≤ q
  · rw [if_pos hz] at h; exact absurd rfl h
  · rw [if_neg hz]
    obtain ⟨n, hn⟩ : ∃ n, z - q = n + 1 := ⟨z - q - 1, by omega⟩
    refine ⟨by omega, ?_⟩
    by_cases hL : 97 ≤ B q ∧ B q ≤ 122
    · rw [if_pos hL, hn, wnd, if_pos hL]
      have := wnd_le B n (q + 1)
      omega
    · rw [if_neg hL]
      by_cases hD : 48 ≤ B q ∧ B q ≤ 57
      · rw [if_pos hD, hn, dnd, if_pos hD]
        have := dnd_le B n (q + 1)
        omega
      · rw [if_neg hD]; omega
theorem wcL_in : ∀ k, k ≤ 12 → 257 ≤ wcL.getD k 0 ∧ wcL.getD k 0 < 272 ∧ ¬ wcL.getD k 0 = 258 ∧ ¬ wcL.getD k 0 = 259 := by decide +kernel
theorem lxS_in (B : Nat → Nat) (z q : Nat) : lxS B z q < 272 ∧ ¬ lxS B z q = 259 ∧ (lxS B z q < 256 → sgn (lxS B z q)) := by
  unfold lxS
  split
  · omega
  split
  · have := wcL_in _ (wfd_le B q (wnd B (z - q) q))
    unfold wcd
    omega
  split
  · split
    · omega
    · omega
  split
  · rename_i h; omega
  · omega
theorem lxS_num {B : Nat → Nat} {z q : Nat} (h : lxS B z q = 258) : q < z ∧ 48 ≤ B q ∧ B q ≤ 57 ∧ dnd B (z - q) q - q ≤ 4 := by
  unfold lxS at h
  by_cases hz : z ≤ q
  · rw [if_pos hz] at h; omega
  · rw [if_neg hz] at h
    by_cases hL : 97 ≤ B q ∧ B q ≤ 122
    · rw [if_pos hL] at h
      have := wcL_in _ (wfd_le B q (wnd B (z - q) q))
      unfold wcd at h
      omega
    · rw [if_neg hL] at h
      by_cases hD : 48 ≤ B q ∧ B q ≤ 57
      · rw [if_pos hD] at h
        by_cases h4 : dnd B (z - q) q - q ≤ 4
        · exact ⟨by omega, hD.1, hD.2, h4⟩
        · rw [if_neg h4] at h; omega
      · rw [if_neg hD] at h
        by_cases hS : sgn (B q)
        · rw [if_pos hS] at h; omega
        · rw [if_neg hS] at h; omega
theorem dvl_lt (B : Nat → Nat) : ∀ (n p v : Nat), dvl B n p v + 1 ≤ (v + 1) * 10 ^ (dnd B n p - p)
  | 0, p, v => by rw [dvl, dnd, Nat.sub_self]; omega
  | n + 1, p, v => by
    rw [dvl, dnd]
    by_cases h : 48 ≤ B p ∧ B p ≤ 57
    · rw [if_pos h, if_pos h]
      have h1 := dnd_le B n (p + 1)
      have h2 := dvl_lt B n (p + 1) (v * 10 + B p - 48)
      have e : dnd B n (p + 1) - p = (dnd B n (p + 1) - (p + 1)) + 1 := by omega
      rw [e, Nat.pow_succ]
      refine Nat.le_trans h2 ?_
      rw [Nat.mul_comm (10 ^ _) 10, ← Nat.mul_assoc]
      exact Nat.mul_le_mul_right _ (by omega)
    · rw [if_neg h, if_neg h, Nat.sub_self]; omega
def sb (x : Nat) : Nat := if x = 13 then 265 else if x = 19 then 259 else if x = 11 then 264 else if x = 12 then 263 else if x = 14 then 60 else if x = 15 then 61 else if x = 16 then 43 else if x = 17 then 45 else 42
def cs (x : Nat) : Int32 := if 100000 ≤ x then i32 (x - 100000) else if x < 6 then -(i32 (266 + x)) else -(i32 (sb x))
def kI (b s : Nat) (g : Mem) : List Nat → Prop
  | [] => True
  | x :: K => g.1 (b + 1) (s + K.length) = cs x ∧ kI b s g K
def FCl (c s : Nat) (g g' : Mem) : Prop := (∀ e, ¬ e = 0 → ¬ e = 4 + 5 * c → ¬ e = 4 + 5 * c + 1 → g'.1 e = g.1 e) ∧ (∀ j, ¬ (2 ≤ j ∧ j ≤ 5) → g'.1 0 j = g.1 0 j) ∧ (∀ j, ¬ j = 2 → g'.1 (4 + 5 * c) j = g.1 (4 + 5 * c) j) ∧ (∀ j, j < s → g'.1 (4 + 5 * c + 1) j = g.1 (4 + 5 * c + 1) j) ∧ g'.2 = g.2
theorem FCl_rfl (c s : Nat) (g : Mem) : FCl c s g g := ⟨fun _ _ _ _ => rfl, fun _ _ => rfl, fun _ _ => rfl, fun _ _ => rfl, rfl⟩
theorem FCl_tr {c s : Nat} {a b d : Mem} (h : FCl c s a b) (k : FCl c s b d) : FCl c s a d := ⟨fun e x y w => (k.1 e x y w).trans (h.1 e x y w), fun j x => (k.2.1 j x).trans (h.2.1 j x), fun j x => (k.2.2.1 j x).trans (h.2.2.1 j x), fun j x => (k.2.2.2.1 j x).trans (h.2.2.2.1 j x), k.2.2.2.2.trans h.2.2.2.2⟩
theorem FCl_FR {c s : Nat} {a b : Mem} (h : FR a b) : FCl c s a b := ⟨fun e h0 _ _ => h.1 e h0, fun j hj => h.2.1 j (by omega) (by omega) (by omega) (by omega), fun j _ => by rw [h.1 _ (by omega)], fun j _ => by rw [h.1 _ (by omega)], h.2.2⟩
theorem kI_c {b s : Nat} {g g' : Mem} : ∀ (K : List Nat), (∀ j, j < s + K.length → g'.1 (b + 1) j = g.1 (b + 1) j) → kI b s g K → kI b s g' K
  | [], _, _ => trivial
  | x :: K, h, q => ⟨by rw [h _ (by simp)]; exact q.1, kI_c K (fun j hj => h j (by simp; omega)) q.2⟩
def CSt (B : Nat → Nat) (z c s : Nat) (g0 g : Mem) (p : Nat) (K : List Nat) : Prop := c < 6 ∧ TI B z g ∧ CT B z p g ∧ p ≤ z ∧ g.2 0 = some (4 + 5 * c) ∧ g.1 (4 + 5 * c) 2 = i32 (s + K.length) ∧ kI (4 + 5 * c) s g K ∧ FCl c s g0 g
def FlI (c s : Nat) (g0 g : Mem) (q : Nat) : Prop := (c < 6 ∧ q ≤ 160) ∧ FCl c s g0 g ∧ g.1 0 3 = i32 q ∧ g.2 0 = some (4 + 5 * c) ∧ ∃ m, s ≤ m ∧ m ≤ 160 ∧ g.1 (4 + 5 * c) 2 = i32 m
theorem cFl {B : Nat → Nat} {z c s p : Nat} {g0 g : Mem} {K : List Nat} (h : CSt B z c s g0 g p K) (hb : s + K.length ≤ 160) : FlI c s g0 g (plF B z p) := by
  obtain ⟨h1, h2, h3, h4, h5, h6, h7, h8⟩ := h
  have l0 := plF_le (B := B) h4
  have hz := h2.1
  exact ⟨⟨h1, by omega⟩, h8, h3.2.1, h5, s + K.length, by omega, hb, h6⟩
theorem fl_add {N c s q : Nat} {g0 g : Mem} (h : FlI c s g0 g q) (v : Int32) : ∃ g', X4_add N (4 + 5 * c) v g = some (i32 0, g') ∧ FlI c s g0 g' q := by
  obtain ⟨h1, h2, h3, h4, m, h5, h6, h7⟩ := h
  by_cases hm : m = 160
  · rw [hm] at h7
    exact ⟨g, by simp -dsimp -implicitDefEqProofs (disch := omega) only [X4_add, h7, i32_lit, i32_add, i32_mul, i32_tn, i32_sub, le_t, le_f, lt_t, lt_f, eq_t, eq_f, eq_rfl, inR_t, ↓ob_x, obx_s, ↓bnd_s, ↓oT_x, oTx_s, ↓ite_x, itx_T, itx_F, ↓reduceIte, not_true_eq_false, not_false_eq_true, true_and, and_true, Nat.reduceAdd, Nat.reduceMul, Nat.reduceSub, Nat.reduceEqDiff, isB0, isB1, Int32.neg_neg, Nat.zero_add, Nat.add_zero, Nat.mul_zero, Nat.mul_one, Nat.zero_mul], h1, h2, h3, h4, 160, by omega, by omega, h7⟩
  · refine ⟨stI (stI g (4 + 5 * c + 1) m v) (4 + 5 * c) 2 (i32 (m + 1)), by simp -dsimp -implicitDefEqProofs (disch := omega) only [X4_add, h7, i32_lit, i32_add, i32_mul, i32_tn, i32_sub, le_t, le_f, lt_t, lt_f, eq_t, eq_f, eq_rfl, inR_t, ↓ob_x, obx_s, ↓bnd_s, ↓oT_x, oTx_s, ↓ite_x, itx_T, itx_F, ↓reduceIte, not_true_eq_false, not_false_eq_true, true_and, and_true, Nat.reduceAdd, Nat.reduceMul, Nat.reduceSub, Nat.reduceEqDiff, isB0, isB1, Int32.neg_neg, Nat.zero_add, Nat.add_zero, Nat.mul_zero, Nat.mul_one, Nat.zero_mul, stI_eq, stI_nj, stI_ne, stI_2, stA_eq, stA_ne, stA_2, stR_1, stR_2], h1, FCl_tr h2 ⟨fun e a b d => by rw [stI_ne _ _ _ _ _ b, stI_ne _ _ _ _ _ d], fun j _ => by rw [stI_ne _ _ _ _ _ (by omega), stI_ne _ _ _ _ _ (by omega)], fun j hj => by rw [stI_nj _ _ _ _ _ hj, stI_ne _ _ _ _ _ (by omega)], fun j hj => by rw [stI_ne _ _ _ _ _ (by omega), stI_nj _ _ _ _ _ (by omega)], rfl⟩, by rw [stI_ne _ _ _ _ _ (by omega), stI_ne _ _ _ _ _ (by omega)]; exact h3, h4, m + 1, by omega, by omega, stI_eq _ _ _ _⟩
theorem cAdd {N z c s p x : Nat} {B : Nat → Nat} {g0 g : Mem} {K : List Nat} (h : CSt B z c s g0 g p K) (hb : s + K.length < 160) : ∃ g', X4_add N (4 + 5 * c) (cs x) g = some (i32 0, g') ∧ CSt B z c s g0 g' p (x :: K) := by
  obtain ⟨h1, h2, h3, h4, h5, h6, h7, h8⟩ := h
  refine ⟨stI (stI g (4 + 5 * c + 1) (s + K.length) (cs x)) (4 + 5 * c) 2 (i32 (s + K.length + 1)), by simp -dsimp -implicitDefEqProofs (disch := omega) only [X4_add, h6, i32_lit, i32_add, i32_mul, i32_tn, i32_sub, le_t, le_f, lt_t, lt_f, eq_t, eq_f, eq_rfl, inR_t, ↓ob_x, obx_s, ↓bnd_s, ↓oT_x, oTx_s, ↓ite_x, itx_T, itx_F, ↓reduceIte, not_true_eq_false, not_false_eq_true, true_and, and_true, Nat.reduceAdd, Nat.reduceMul, Nat.reduceSub, Nat.reduceEqDiff, isB0, isB1, Int32.neg_neg, Nat.zero_add, Nat.add_zero, Nat.mul_zero, Nat.mul_one, Nat.zero_mul, stI_eq, stI_nj, stI_ne, stI_2, stA_eq, stA_ne, stA_2, stR_1, stR_2], h1, ⟨h2.1, ?_, ?_⟩, ?_, h4, h5, ?_, ⟨?_, kI_c K (fun j hj => by rw [stI_ne _ _ _ _ _ (by omega), stI_nj _ _ _ _ _ (by omega)]) h7⟩, FCl_tr h8 ⟨fun e a b d => by rw [stI_ne _ _ _ _ _ b, stI_ne _ _ _ _ _ d], fun j _ => by rw [stI_ne _ _ _ _ _ (by omega), stI_ne _ _ _ _ _ (by omega)], fun j hj => by rw [stI_nj _ _ _ _ _ hj, stI_ne _ _ _ _ _ (by omega)], fun j hj => by rw [stI_ne _ _ _ _ _ (by omega), stI_nj _ _ _ _ _ (by omega)], rfl⟩⟩
  · rw [stI_ne _ _ _ _ _ (by omega), stI_ne _ _ _ _ _ (by omega)]; exact h2.2.1
  · rw [stI_ne _ _ _ _ _ (by omega), stI_ne _ _ _ _ _ (by omega)]; exact h2.2.2
  · unfold CT
    rw [stI_ne _ _ _ _ _ (by omega), stI_ne _ _ _ _ _ (by omega)]; exact h3
  · rw [stI_eq]; rfl
  · rw [stI_ne _ _ _ _ _ (by omega), stI_eq]
theorem cNext {N z c s p : Nat} (hN : 6000 ≤ N) {B : Nat → Nat} {g0 g : Mem} {K : List Nat} (h : CSt B z c s g0 g p K) : ∃ g', X3_next N g = some (i32 0, g') ∧ CSt B z c s g0 g' (lxN B z (plF B z p)) K := by
  obtain ⟨h1, h2, h3, h4, h5, h6, h7, h8⟩ := h
  have l0 := plF_le (B := B) h4
  have l2 := lxN_le (B := B) l0.2
  obtain ⟨g', r1, r2, r3⟩ := next_I2 hN h2 l2.1 h3.1
  exact ⟨g', r1, h1, TI_FR h2 r2, r3, l2.1, by rw [r2.2.2]; exact h5, by rw [r2.1 _ (by omega)]; exact h6, kI_c K (fun j _ => by rw [r2.1 _ (by omega)]) h7, FCl_tr h8 (FCl_FR r2)⟩
theorem isNm_e {N t : Nat} (g : Mem) (h : t < 272) : X3_isName N (i32 t) g = some (i32 (if 266 ≤ t then 1 else 0), g) := by
  by_cases h2 : 266 ≤ t
  · rw [if_pos h2]; simp -dsimp -implicitDefEqProofs (disch := omega) only [X3_isName, i32_lit, i32_add, i32_mul, i32_tn, i32_sub, le_t, le_f, lt_t, lt_f, eq_t, eq_f, eq_rfl, inR_t, ↓ob_x, obx_s, ↓bnd_s, ↓oT_x, oTx_s, ↓ite_x, itx_T, itx_F, ↓reduceIte, not_true_eq_false, not_false_eq_true, true_and, and_true, Nat.reduceAdd, Nat.reduceMul, Nat.reduceSub, Nat.reduceEqDiff, isB0, isB1, Int32.neg_neg, Nat.zero_add, Nat.add_zero, Nat.mul_zero, Nat.mul_one, Nat.zero_mul]
  · rw [if_neg h2]; simp -dsimp -implicitDefEqProofs (disch := omega) only [X3_isName, i32_lit, i32_add, i32_mul, i32_tn, i32_sub, le_t, le_f, lt_t, lt_f, eq_t, eq_f, eq_rfl, inR_t, ↓ob_x, obx_s, ↓bnd_s, ↓oT_x, oTx_s, ↓ite_x, itx_T, itx_F, ↓reduceIte, not_true_eq_false, not_false_eq_true, true_and, and_true, Nat.reduceAdd, Nat.reduceMul, Nat.reduceSub, Nat.reduceEqDiff, isB0, isB1, Int32.neg_neg, Nat.zero_add, Nat.add_zero, Nat.mul_zero, Nat.mul_one, Nat.zero_mul]
theorem pass_t {N z c s p w : Nat} (hN : 6000 ≤ N) {B : Nat → Nat} {g0 g : Mem} {K : List Nat} (h : CSt B z c s g0 g p K) (hw : lxS B z (plF B z p) = w) : ∃ g', X3_passes N (i32 w) g = some (i32 1, g') ∧ CSt B z c s g0 g' (lxN B z (plF B z p)) K := by
  obtain ⟨g', r1, r2⟩ := cNext (N := N) hN h
  have e := h.2.2.1.2.2.1
  rw [hw] at e
  exact ⟨g', by simp -dsimp -implicitDefEqProofs (disch := omega) only [X3_passes, e, r1, i32_lit, i32_add, i32_mul, i32_tn, i32_sub, le_t, le_f, lt_t, lt_f, eq_t, eq_f, eq_rfl, inR_t, ↓ob_x, obx_s, ↓bnd_s, ↓oT_x, oTx_s, ↓ite_x, itx_T, itx_F, ↓reduceIte, not_true_eq_false, not_false_eq_true, true_and, and_true, Nat.reduceAdd, Nat.reduceMul, Nat.reduceSub, Nat.reduceEqDiff, isB0, isB1, Int32.neg_neg, Nat.zero_add, Nat.add_zero, Nat.mul_zero, Nat.mul_one, Nat.zero_mul], r2⟩
theorem pass_f {N z c s p w : Nat} {B : Nat → Nat} {g0 g : Mem} {K : List Nat} (h : CSt B z c s g0 g p K) (hw : ¬ lxS B z (plF B z p) = w ∧ w < 1000) : X3_passes N (i32 w) g = some (i32 0, g) := by
  have e := h.2.2.1.2.2.1
  have := lxS_in B z (plF B z p)
  simp -dsimp -implicitDefEqProofs (disch := omega) only [X3_passes, e, i32_lit, i32_add, i32_mul, i32_tn, i32_sub, le_t, le_f, lt_t, lt_f, eq_t, eq_f, eq_rfl, inR_t, ↓ob_x, obx_s, ↓bnd_s, ↓oT_x, oTx_s, ↓ite_x, itx_T, itx_F, ↓reduceIte, not_true_eq_false, not_false_eq_true, true_and, and_true, Nat.reduceAdd, Nat.reduceMul, Nat.reduceSub, Nat.reduceEqDiff, isB0, isB1, Int32.neg_neg, Nat.zero_add, Nat.add_zero, Nat.mul_zero, Nat.mul_one, Nat.zero_mul]
