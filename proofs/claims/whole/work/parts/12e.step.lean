/-! the reference's steps, token by token -/
def FM7 (c s : Nat) (g g' : Mem) : Prop := (∀ e, ¬ e = 0 → ¬ e = 7 → ¬ e = 16 → g'.1 e = g.1 e) ∧ (∀ j, ¬ (20 ≤ j ∧ j ≤ 23) → ¬ (26 ≤ j ∧ j ≤ 28) → g'.1 0 j = g.1 0 j) ∧ ∀ j, ¬ (200 * c + s ≤ j ∧ j < 200 * c + 200) → g'.1 7 j = g.1 7 j
theorem FM7_rfl (c s : Nat) (g : Mem) : FM7 c s g g := ⟨fun _ _ _ _ => rfl, fun _ _ _ => rfl, fun _ _ => rfl⟩
theorem FM7_tr {c s : Nat} {a b d : Mem} (h : FM7 c s a b) (k : FM7 c s b d) : FM7 c s a d := ⟨fun e x y w => (k.1 e x y w).trans (h.1 e x y w), fun j x y => (k.2.1 j x y).trans (h.2.1 j x y), fun j x => (k.2.2 j x).trans (h.2.2 j x)⟩
theorem FM7_Z {c s : Nat} {a b : Mem} (h : FZ c s a b) : FM7 c s a b := ⟨h.1, fun j _ h2 => h.2.1 j (by omega) (by omega) (by omega), h.2.2⟩
theorem FM7_Q {c s : Nat} {a b : Mem} (h : FQ a b) : FM7 c s a b := ⟨fun e h0 _ _ => h.1 e h0, fun j h1 _ => h.2 j (by omega) (by omega) (by omega) (by omega), fun j _ => by rw [h.1 7 (by omega)]⟩
theorem TM_7 {B : Nat → Nat} {z c s : Nat} {g g' : Mem} (h : TM B z g) (f : FM7 c s g g') : TM B z g' := ⟨h.1, by rw [f.2.1 8 (by omega) (by omega)]; exact h.2.1, by rw [f.1 6 (by omega) (by omega) (by omega)]; exact h.2.2.1, fun j hj => by rw [f.1 15 (by omega) (by omega) (by omega)]; exact h.2.2.2 j hj⟩
theorem ST_FQ {c s : Nat} {g g' : Mem} {H K : List Nat} (h : ST c s g H K) (f : FQ g g') : ST c s g' H K := by
  obtain ⟨h1, h2, h3, h4, h5, h6, h7⟩ := h
  exact ⟨h1, by rw [f.2 11 (by omega) (by omega) (by omega) (by omega)]; exact h2, by rw [f.2 26 (by omega) (by omega) (by omega) (by omega)]; exact h3, by rw [f.2 27 (by omega) (by omega) (by omega) (by omega)]; exact h4, by rw [f.2 28 (by omega) (by omega) (by omega) (by omega)]; exact h5, hR_c H (fun j _ => by rw [f.1 16 (by omega)]) h6, kM_c K (fun j _ => by rw [f.1 7 (by omega)]) h7⟩
def MSt (B : Nat → Nat) (z c s : Nat) (g0 g : Mem) (p : Nat) (H K : List Nat) : Prop := TM B z g ∧ g.1 0 20 = i32 p ∧ p ≤ z ∧ ST c s g H K ∧ FM7 c s g0 g ∧ s + K.length + H.length ≤ p
theorem plF_le {B : Nat → Nat} {z p : Nat} (h : p ≤ z) : p ≤ plF B z p ∧ plF B z p ≤ z := by
  unfold plF
  have := skp_le B (z - p) p
  omega
theorem lxN_le {B : Nat → Nat} {z q : Nat} (h : q ≤ z) : lxN B z q ≤ z ∧ q ≤ lxN B z q := by
  unfold lxN
  have h1 := wnd_le B (z - q) q
  have h2 := dnd_le B (z - q) q
  split
  · omega
  split
  · omega
  split
  · omega
  · omega
theorem lx_pos {B : Nat → Nat} {z q : Nat} (h : ¬ lxS B z q = 256) : q < z ∧ q < lxN B z q := by
  unfold lxS at h
  unfold lxN
  by_cases hz : z ≤ q
  · rw [if_pos hz] at h; exact absurd rfl h
  · rw [if_neg hz]
    obtain ⟨n, hn⟩ : ∃ n, z - q = n + 1 := ⟨z - q - 1, by omega⟩
    refine ⟨by omega, ?_⟩
    by_cases hL : 97 ≤ B q ∧ B q ≤ 122
    · rw [if_pos hL, hn, wnd, if_pos hL]
      have := wnd_le B n (q + 1)
      omega
    · rw [if_neg hL]
      by_cases hD : 48 ≤ B q ∧ B q ≤ 57
      · rw [if_pos hD, hn, dnd, if_pos hD]
        have := dnd_le B n (q + 1)
        omega
      · rw [if_neg hD]; omega
theorem wcL_in : ∀ k, k ≤ 12 → 257 ≤ wcL.getD k 0 ∧ wcL.getD k 0 < 272 ∧ ¬ wcL.getD k 0 = 258 ∧ ¬ wcL.getD k 0 = 259 := by decide +kernel
theorem lxS_in (B : Nat → Nat) (z q : Nat) : lxS B z q < 272 ∧ ¬ lxS B z q = 259 ∧ (lxS B z q < 256 → sgn (lxS B z q)) := by
  unfold lxS
  split
  · omega
  split
  · have := wcL_in _ (wfd_le B q (wnd B (z - q) q))
    unfold wcd
    omega
  split
  · split
    · omega
    · omega
  split
  · rename_i h; omega
  · omega
theorem lxS_num {B : Nat → Nat} {z q : Nat} (h : lxS B z q = 258) : q < z ∧ 48 ≤ B q ∧ B q ≤ 57 ∧ dnd B (z - q) q - q ≤ 4 := by
  unfold lxS at h
  by_cases hz : z ≤ q
  · rw [if_pos hz] at h; omega
  · rw [if_neg hz] at h
    by_cases hL : 97 ≤ B q ∧ B q ≤ 122
    · rw [if_pos hL] at h
      have := wcL_in _ (wfd_le B q (wnd B (z - q) q))
      unfold wcd at h
      omega
    · rw [if_neg hL] at h
      by_cases hD : 48 ≤ B q ∧ B q ≤ 57
      · rw [if_pos hD] at h
        by_cases h4 : dnd B (z - q) q - q ≤ 4
        · exact ⟨by omega, hD.1, hD.2, h4⟩
        · rw [if_neg h4] at h; omega
      · rw [if_neg hD] at h
        by_cases hS : sgn (B q)
        · rw [if_pos hS] at h; omega
        · rw [if_neg hS] at h; omega
theorem dvl_lt (B : Nat → Nat) : ∀ (n p v : Nat), dvl B n p v + 1 ≤ (v + 1) * 10 ^ (dnd B n p - p)
  | 0, p, v => by rw [dvl, dnd, Nat.sub_self]; omega
  | n + 1, p, v => by
    rw [dvl, dnd]
    by_cases h : 48 ≤ B p ∧ B p ≤ 57
    · rw [if_pos h, if_pos h]
      have h1 := dnd_le B n (p + 1)
      have h2 := dvl_lt B n (p + 1) (v * 10 + B p - 48)
      have e : dnd B n (p + 1) - p = (dnd B n (p + 1) - (p + 1)) + 1 := by omega
      rw [e, Nat.pow_succ]
      refine Nat.le_trans h2 ?_
      rw [Nat.mul_comm (10 ^ _) 10, ← Nat.mul_assoc]
      exact Nat.mul_le_mul_right _ (by omega)
    · rw [if_neg h, if_neg h, Nat.sub_self]; omega
/-- the code of an operand -/
def ocF (B : Nat → Nat) (z q : Nat) : Nat := if lxS B z q = 258 then 100000 + dvl B (z - q) q 0 else lxS B z q - 266
theorem uw_len (least : Nat) : ∀ (H K : List Nat), (uw least H K).1.length + (uw least H K).2.length = H.length + K.length
  | [], K => rfl
  | x :: H, K => by
    rw [uw]
    split
    · rw [uw_len least H (x :: K), List.length_cons, List.length_cons]; omega
    · rfl
theorem nextS {N z c s p : Nat} (hN : 6000 ≤ N) {B : Nat → Nat} {g0 g : Mem} {H K : List Nat} (h : MSt B z c s g0 g p H K) : ∃ g1, X6_next N g = some (i32 0, g1) ∧ MT B z (plF B z p) g1 ∧ TM B z g1 ∧ ST c s g1 H K ∧ FM7 c s g0 g1 := by
  obtain ⟨h1, h2, h3, h4, h5, h6⟩ := h
  obtain ⟨g1, r1, r2, r3⟩ := next_M2 hN h1 h3 h2
  exact ⟨g1, r1, r3, TM_FQ h1 r2, ST_FQ h4 r2, FM7_tr h5 (FM7_Q r2)⟩
/-- the reference has failed at q -/
def FlM (c s : Nat) (g0 g : Mem) (q : Nat) : Prop := FM7 c s g0 g ∧ g.1 0 21 = i32 q
theorem MT_21 {B : Nat → Nat} {z q c s : Nat} {g g' : Mem} (h : MT B z q g) (f : FZ c s g g') : g'.1 0 20 = i32 (lxN B z q) ∧ g'.1 0 21 = i32 q := ⟨by rw [f.2.1 20 (by omega) (by omega) (by omega)]; exact h.1, by rw [f.2.1 21 (by omega) (by omega) (by omega)]; exact h.2.1⟩
set_option maxRecDepth 100000 in
theorem mw_opd {N z c s p fu m : Nat} (hN : 6000 ≤ N) {B : Nat → Nat} {g0 g : Mem} {H K : List Nat} (h : MSt B z c s g0 g p H K) (ht : lxS B z (plF B z p) = 258 ∨ 266 ≤ lxS B z (plF B z p)) :
    ∃ g', X6_eRead_L14 N (fu + 1) (i32 1) (i32 m) g = X6_eRead_L14 N fu (i32 0) (i32 m) g' ∧ MSt B z c s g0 g' (lxN B z (plF B z p)) (uw 7 H (ocF B z (plF B z p) :: K)).1 (uw 7 H (ocF B z (plF B z p) :: K)).2 := by
  obtain ⟨g1, r1, r2, r3, r4, r5⟩ := nextS hN h
  obtain ⟨_, _, h3, h4, h5, h6⟩ := h
  have hz := r3.1
  have l0 := plF_le (B := B) h3
  have l1 := lx_pos (B := B) (z := z) (q := plF B z p) (by omega)
  have l2 := lxN_le (B := B) l0.2
  have l3 := lxS_in B z (plF B z p)
  have ul := uw_len 7 H (ocF B z (plF B z p) :: K)
  rw [List.length_cons] at ul
  obtain ⟨g2, s1, s2, s3⟩ := puts_e (N := N) (x := ocF B z (plF B z p)) r4 (by omega)
  obtain ⟨g3, t1, t2, t3⟩ := unw_e (N := N) (least := 7) (by omega) H (ocF B z (plF B z p) :: K) N g2 (by omega) (by rw [List.length_cons]; omega) s2
  have f3 : FZ c s g1 g3 := FZ_tr s3 t3
  refine ⟨g3, ?_, TM_7 r3 (FM7_Z f3), (MT_21 r2 f3).1, by omega, t2, FM7_tr r5 (FM7_Z f3), by omega⟩
  obtain ⟨m1, m2, m3, m4, m5⟩ := r2
  rcases ht with ht | ht
  · obtain ⟨n1, n2, n3, n4⟩ := lxS_num ht
    have e3 : tkF (lxS B z (plF B z p)) = i32 1 := by rw [ht]; rfl
    have e5 := m5 n1 n2 n3 n4
    rw [e3] at m3
    have eo : ocF B z (plF B z p) = 100000 + dvl B (z - plF B z p) (plF B z p) 0 := by unfold ocF; rw [if_pos ht]
    rw [eo] at s1
    simp -dsimp -implicitDefEqProofs (disch := omega) only [X6_eRead_L14, X6_unwinds, r1, m3, e5, s1, t1, i32_lit, i32_add, i32_mul, i32_tn, i32_sub, le_t, le_f, lt_t, lt_f, eq_t, eq_f, eq_rfl, inR_t, ↓ob_x, obx_s, ↓bnd_s, ↓oT_x, oTx_s, ↓ite_x, itx_T, itx_F, ↓reduceIte, not_true_eq_false, not_false_eq_true, true_and, and_true, Nat.reduceAdd, Nat.reduceMul, Nat.reduceSub, Nat.reduceEqDiff, isB0, isB1, Int32.neg_neg, Nat.zero_add, Nat.add_zero, Nat.mul_zero, Nat.mul_one, Nat.zero_mul]
  · have e3 : tkF (lxS B z (plF B z p)) = i32 2 := by
      unfold tkF
      rw [if_neg (by omega), if_neg (by omega), if_neg (by omega), if_neg (by omega), if_neg (by omega), if_neg (by omega), if_pos ht]
    have e4 : vlF (lxS B z (plF B z p)) = i32 (lxS B z (plF B z p) - 266) := by unfold vlF; rw [if_pos ht]
    have e5 := m4 (Or.inr ht)
    rw [e3] at m3
    rw [e4] at e5
    have eo : ocF B z (plF B z p) = lxS B z (plF B z p) - 266 := by unfold ocF; rw [if_neg (by omega)]
    rw [eo] at s1
    simp -dsimp -implicitDefEqProofs (disch := omega) only [X6_eRead_L14, X6_unwinds, r1, m3, e5, s1, t1, i32_lit, i32_add, i32_mul, i32_tn, i32_sub, le_t, le_f, lt_t, lt_f, eq_t, eq_f, eq_rfl, inR_t, ↓ob_x, obx_s, ↓bnd_s, ↓oT_x, oTx_s, ↓ite_x, itx_T, itx_F, ↓reduceIte, not_true_eq_false, not_false_eq_true, true_and, and_true, Nat.reduceAdd, Nat.reduceMul, Nat.reduceSub, Nat.reduceEqDiff, isB0, isB1, Int32.neg_neg, Nat.zero_add, Nat.add_zero, Nat.mul_zero, Nat.mul_one, Nat.zero_mul]
set_option maxRecDepth 100000 in
/-- not, - and ( : room for one more, or a fault -/
theorem mw_opn {N z c s p fu m x k : Nat} (hN : 6000 ≤ N) {B : Nat → Nat} {g0 g : Mem} {H K : List Nat} (h : MSt B z c s g0 g p H K) (hm : m ≤ 1) (hc : cnt H ≤ 5) (hx : (lxS B z (plF B z p) = 265 ∧ m = 1 ∧ x = 13 ∧ k = 1) ∨ (lxS B z (plF B z p) = 45 ∧ x = 19 ∧ k = 0) ∨ (lxS B z (plF B z p) = 40 ∧ x = 0 ∧ k = 1)) :
    (cnt H < 5 ∧ ∃ g', X6_eRead_L14 N (fu + 1) (i32 1) (i32 m) g = X6_eRead_L14 N fu (i32 1) (i32 k) g' ∧ MSt B z c s g0 g' (lxN B z (plF B z p)) (x :: H) K) ∨
    (cnt H = 5 ∧ ∃ g', X6_eRead_L14 N (fu + 1) (i32 1) (i32 m) g = some (i32 0, g') ∧ FlM c s g0 g' (plF B z p)) := by
  obtain ⟨g1, r1, r2, r3, r4, r5⟩ := nextS hN h
  obtain ⟨_, _, h3, h4, h5, h6⟩ := h
  have hz := r3.1
  have l0 := plF_le (B := B) h3
  have l1 := lx_pos (B := B) (z := z) (q := plF B z p) (by omega)
  have l2 := lxN_le (B := B) l0.2
  have hsx : sgs x ∧ opn x = 1 := by
    rcases hx with ⟨_, _, rfl, _⟩ | ⟨_, rfl, _⟩ | ⟨_, rfl, _⟩
    · exact ⟨by omega, rfl⟩
    · exact ⟨by omega, rfl⟩
    · exact ⟨by omega, rfl⟩
  by_cases h5' : cnt H < 5
  · left
    obtain ⟨g2, s1, s2, s3⟩ := opens_t (N := N) r4 (by omega) hsx.1 hsx.2 h5'
    refine ⟨h5', g2, ?_, TM_7 r3 (FM7_Z s3), (MT_21 r2 s3).1, by omega, s2, FM7_tr r5 (FM7_Z s3), by rw [List.length_cons]; omega⟩
    obtain ⟨m1, m2, m3, m4, m5⟩ := r2
    rcases hx with ⟨ht, rfl, rfl, rfl⟩ | ⟨ht, rfl, rfl⟩ | ⟨ht, rfl, rfl⟩
    · rw [ht, show tkF 265 = i32 6 from rfl] at m3
      simp -dsimp -implicitDefEqProofs (disch := omega) only [X6_eRead_L14, r1, m3, s1, i32_lit, i32_add, i32_mul, i32_tn, i32_sub, le_t, le_f, lt_t, lt_f, eq_t, eq_f, eq_rfl, inR_t, ↓ob_x, obx_s, ↓bnd_s, ↓oT_x, oTx_s, ↓ite_x, itx_T, itx_F, ↓reduceIte, not_true_eq_false, not_false_eq_true, true_and, and_true, Nat.reduceAdd, Nat.reduceMul, Nat.reduceSub, Nat.reduceEqDiff, isB0, isB1, Int32.neg_neg, Nat.zero_add, Nat.add_zero, Nat.mul_zero, Nat.mul_one, Nat.zero_mul]
    · rw [ht, show tkF 45 = i32 45 from rfl] at m3
      rcases (by omega : m = 0 ∨ m = 1) with rfl | rfl <;> simp -dsimp -implicitDefEqProofs (disch := omega) only [X6_eRead_L14, r1, m3, s1, i32_lit, i32_add, i32_mul, i32_tn, i32_sub, le_t, le_f, lt_t, lt_f, eq_t, eq_f, eq_rfl, inR_t, ↓ob_x, obx_s, ↓bnd_s, ↓oT_x, oTx_s, ↓ite_x, itx_T, itx_F, ↓reduceIte, not_true_eq_false, not_false_eq_true, true_and, and_true, Nat.reduceAdd, Nat.reduceMul, Nat.reduceSub, Nat.reduceEqDiff, isB0, isB1, Int32.neg_neg, Nat.zero_add, Nat.add_zero, Nat.mul_zero, Nat.mul_one, Nat.zero_mul]
    · rw [ht, show tkF 40 = i32 40 from rfl] at m3
      rcases (by omega : m = 0 ∨ m = 1) with rfl | rfl <;> simp -dsimp -implicitDefEqProofs (disch := omega) only [X6_eRead_L14, r1, m3, s1, i32_lit, i32_add, i32_mul, i32_tn, i32_sub, le_t, le_f, lt_t, lt_f, eq_t, eq_f, eq_rfl, inR_t, ↓ob_x, obx_s, ↓bnd_s, ↓oT_x, oTx_s, ↓ite_x, itx_T, itx_F, ↓reduceIte, not_true_eq_false, not_false_eq_true, true_and, and_true, Nat.reduceAdd, Nat.reduceMul, Nat.reduceSub, Nat.reduceEqDiff, isB0, isB1, Int32.neg_neg, Nat.zero_add, Nat.add_zero, Nat.mul_zero, Nat.mul_one, Nat.zero_mul]
  · right
    have s1 := opens_f (N := N) (x := x) r4 (by omega)
    refine ⟨by omega, g1, ?_, r5, r2.2.1⟩
    obtain ⟨m1, m2, m3, m4, m5⟩ := r2
    rcases hx with ⟨ht, rfl, rfl, rfl⟩ | ⟨ht, rfl, rfl⟩ | ⟨ht, rfl, rfl⟩
    · rw [ht, show tkF 265 = i32 6 from rfl] at m3
      simp -dsimp -implicitDefEqProofs (disch := omega) only [X6_eRead_L14, r1, m3, s1, i32_lit, i32_add, i32_mul, i32_tn, i32_sub, le_t, le_f, lt_t, lt_f, eq_t, eq_f, eq_rfl, inR_t, ↓ob_x, obx_s, ↓bnd_s, ↓oT_x, oTx_s, ↓ite_x, itx_T, itx_F, ↓reduceIte, not_true_eq_false, not_false_eq_true, true_and, and_true, Nat.reduceAdd, Nat.reduceMul, Nat.reduceSub, Nat.reduceEqDiff, isB0, isB1, Int32.neg_neg, Nat.zero_add, Nat.add_zero, Nat.mul_zero, Nat.mul_one, Nat.zero_mul]
    · rw [ht, show tkF 45 = i32 45 from rfl] at m3
      rcases (by omega : m = 0 ∨ m = 1) with rfl | rfl <;> simp -dsimp -implicitDefEqProofs (disch := omega) only [X6_eRead_L14, r1, m3, s1, i32_lit, i32_add, i32_mul, i32_tn, i32_sub, le_t, le_f, lt_t, lt_f, eq_t, eq_f, eq_rfl, inR_t, ↓ob_x, obx_s, ↓bnd_s, ↓oT_x, oTx_s, ↓ite_x, itx_T, itx_F, ↓reduceIte, not_true_eq_false, not_false_eq_true, true_and, and_true, Nat.reduceAdd, Nat.reduceMul, Nat.reduceSub, Nat.reduceEqDiff, isB0, isB1, Int32.neg_neg, Nat.zero_add, Nat.add_zero, Nat.mul_zero, Nat.mul_one, Nat.zero_mul]
    · rw [ht, show tkF 40 = i32 40 from rfl] at m3
      rcases (by omega : m = 0 ∨ m = 1) with rfl | rfl <;> simp -dsimp -implicitDefEqProofs (disch := omega) only [X6_eRead_L14, r1, m3, s1, i32_lit, i32_add, i32_mul, i32_tn, i32_sub, le_t, le_f, lt_t, lt_f, eq_t, eq_f, eq_rfl, inR_t, ↓ob_x, obx_s, ↓bnd_s, ↓oT_x, oTx_s, ↓ite_x, itx_T, itx_F, ↓reduceIte, not_true_eq_false, not_false_eq_true, true_and, and_true, Nat.reduceAdd, Nat.reduceMul, Nat.reduceSub, Nat.reduceEqDiff, isB0, isB1, Int32.neg_neg, Nat.zero_add, Nat.add_zero, Nat.mul_zero, Nat.mul_one, Nat.zero_mul]
/-- what tkF is not -/
theorem tk_cases (B : Nat → Nat) (z q : Nat) : let s := lxS B z q
    (s = 256 ∧ tkF s = i32 0) ∨ (s = 257 ∧ tkF s = -(i32 1)) ∨ (s = 258 ∧ tkF s = i32 1) ∨ (s = 263 ∧ tkF s = i32 5) ∨ (s = 264 ∧ tkF s = i32 4) ∨ (s = 265 ∧ tkF s = i32 6) ∨ (266 ≤ s ∧ tkF s = i32 2) ∨ (260 ≤ s ∧ s < 263 ∧ tkF s = i32 3) ∨ (sgn s ∧ tkF s = i32 s) := by
  intro s
  have h := lxS_in B z q
  have hs : s = lxS B z q := rfl
  rw [← hs] at h
  unfold tkF
  by_cases h1 : s = 256
  · rw [if_pos h1]; exact Or.inl ⟨h1, rfl⟩
  rw [if_neg h1]
  by_cases h2 : s = 257
  · rw [if_pos h2]; exact Or.inr (Or.inl ⟨h2, rfl⟩)
  rw [if_neg h2]
  by_cases h3 : s = 258
  · rw [if_pos h3]; exact Or.inr (Or.inr (Or.inl ⟨h3, rfl⟩))
  rw [if_neg h3]
  by_cases h4 : s = 263
  · rw [if_pos h4]; exact Or.inr (Or.inr (Or.inr (Or.inl ⟨h4, rfl⟩)))
  rw [if_neg h4]
  by_cases h5 : s = 264
  · rw [if_pos h5]; exact Or.inr (Or.inr (Or.inr (Or.inr (Or.inl ⟨h5, rfl⟩))))
  rw [if_neg h5]
  by_cases h6 : s = 265
  · rw [if_pos h6]; exact Or.inr (Or.inr (Or.inr (Or.inr (Or.inr (Or.inl ⟨h6, rfl⟩)))))
  rw [if_neg h6]
  by_cases h7 : 266 ≤ s
  · rw [if_pos h7]; exact Or.inr (Or.inr (Or.inr (Or.inr (Or.inr (Or.inr (Or.inl ⟨h7, rfl⟩))))))
  rw [if_neg h7]
  by_cases h8 : 260 ≤ s
  · rw [if_pos h8]; exact Or.inr (Or.inr (Or.inr (Or.inr (Or.inr (Or.inr (Or.inr (Or.inl ⟨h8, by omega, rfl⟩)))))))
  rw [if_neg h8]
  exact Or.inr (Or.inr (Or.inr (Or.inr (Or.inr (Or.inr (Or.inr (Or.inr ⟨h.2.2 (by omega), rfl⟩)))))))
set_option maxRecDepth 100000 in
/-- what can't begin an operand -/
theorem mw_bad {N z c s p fu m : Nat} (hN : 6000 ≤ N) {B : Nat → Nat} {g0 g : Mem} {H K : List Nat} (h : MSt B z c s g0 g p H K) (hm : m ≤ 1) (hs : ¬ lxS B z (plF B z p) = 258 ∧ ¬ 266 ≤ lxS B z (plF B z p) ∧ ¬ lxS B z (plF B z p) = 45 ∧ ¬ lxS B z (plF B z p) = 40 ∧ (lxS B z (plF B z p) = 265 → m = 0)) :
    ∃ g', X6_eRead_L14 N (fu + 1) (i32 1) (i32 m) g = some (i32 0, g') ∧ FlM c s g0 g' (plF B z p) := by
  obtain ⟨g1, r1, r2, r3, r4, r5⟩ := nextS hN h
  refine ⟨g1, ?_, r5, r2.2.1⟩
  obtain ⟨m1, m2, m3, m4, m5⟩ := r2
  rcases tk_cases B z (plF B z p) with ⟨t, e⟩ | ⟨t, e⟩ | ⟨t, e⟩ | ⟨t, e⟩ | ⟨t, e⟩ | ⟨t, e⟩ | ⟨t, e⟩ | ⟨t, _, e⟩ | ⟨t, e⟩
  · rw [e] at m3
    rcases (by omega : m = 0 ∨ m = 1) with rfl | rfl <;> simp -dsimp -implicitDefEqProofs (disch := omega) only [X6_eRead_L14, r1, m3, i32_lit, i32_add, i32_mul, i32_tn, i32_sub, le_t, le_f, lt_t, lt_f, eq_t, eq_f, eq_rfl, inR_t, ↓ob_x, obx_s, ↓bnd_s, ↓oT_x, oTx_s, ↓ite_x, itx_T, itx_F, ↓reduceIte, not_true_eq_false, not_false_eq_true, true_and, and_true, Nat.reduceAdd, Nat.reduceMul, Nat.reduceSub, Nat.reduceEqDiff, isB0, isB1, Int32.neg_neg, Nat.zero_add, Nat.add_zero, Nat.mul_zero, Nat.mul_one, Nat.zero_mul]
  · rw [e] at m3
    rcases (by omega : m = 0 ∨ m = 1) with rfl | rfl <;> simp -dsimp -implicitDefEqProofs (disch := omega) only [X6_eRead_L14, r1, m3, m_ne, i32_lit, i32_add, i32_mul, i32_tn, i32_sub, le_t, le_f, lt_t, lt_f, eq_t, eq_f, eq_rfl, inR_t, ↓ob_x, obx_s, ↓bnd_s, ↓oT_x, oTx_s, ↓ite_x, itx_T, itx_F, ↓reduceIte, not_true_eq_false, not_false_eq_true, true_and, and_true, Nat.reduceAdd, Nat.reduceMul, Nat.reduceSub, Nat.reduceEqDiff, isB0, isB1, Int32.neg_neg, Nat.zero_add, Nat.add_zero, Nat.mul_zero, Nat.mul_one, Nat.zero_mul]
  · omega
  · rw [e] at m3
    rcases (by omega : m = 0 ∨ m = 1) with rfl | rfl <;> simp -dsimp -implicitDefEqProofs (disch := omega) only [X6_eRead_L14, r1, m3, i32_lit, i32_add, i32_mul, i32_tn, i32_sub, le_t, le_f, lt_t, lt_f, eq_t, eq_f, eq_rfl, inR_t, ↓ob_x, obx_s, ↓bnd_s, ↓oT_x, oTx_s, ↓ite_x, itx_T, itx_F, ↓reduceIte, not_true_eq_false, not_false_eq_true, true_and, and_true, Nat.reduceAdd, Nat.reduceMul, Nat.reduceSub, Nat.reduceEqDiff, isB0, isB1, Int32.neg_neg, Nat.zero_add, Nat.add_zero, Nat.mul_zero, Nat.mul_one, Nat.zero_mul]
  · rw [e] at m3
    rcases (by omega : m = 0 ∨ m = 1) with rfl | rfl <;> simp -dsimp -implicitDefEqProofs (disch := omega) only [X6_eRead_L14, r1, m3, i32_lit, i32_add, i32_mul, i32_tn, i32_sub, le_t, le_f, lt_t, lt_f, eq_t, eq_f, eq_rfl, inR_t, ↓ob_x, obx_s, ↓bnd_s, ↓oT_x, oTx_s, ↓ite_x, itx_T, itx_F, ↓reduceIte, not_true_eq_false, not_false_eq_true, true_and, and_true, Nat.reduceAdd, Nat.reduceMul, Nat.reduceSub, Nat.reduceEqDiff, isB0, isB1, Int32.neg_neg, Nat.zero_add, Nat.add_zero, Nat.mul_zero, Nat.mul_one, Nat.zero_mul]
  · rw [e] at m3
    have := hs.2.2.2.2 t
    subst this
    simp -dsimp -implicitDefEqProofs (disch := omega) only [X6_eRead_L14, r1, m3, i32_lit, i32_add, i32_mul, i32_tn, i32_sub, le_t, le_f, lt_t, lt_f, eq_t, eq_f, eq_rfl, inR_t, ↓ob_x, obx_s, ↓bnd_s, ↓oT_x, oTx_s, ↓ite_x, itx_T, itx_F, ↓reduceIte, not_true_eq_false, not_false_eq_true, true_and, and_true, Nat.reduceAdd, Nat.reduceMul, Nat.reduceSub, Nat.reduceEqDiff, isB0, isB1, Int32.neg_neg, Nat.zero_add, Nat.add_zero, Nat.mul_zero, Nat.mul_one, Nat.zero_mul]
  · omega
  · rw [e] at m3
    rcases (by omega : m = 0 ∨ m = 1) with rfl | rfl <;> simp -dsimp -implicitDefEqProofs (disch := omega) only [X6_eRead_L14, r1, m3, i32_lit, i32_add, i32_mul, i32_tn, i32_sub, le_t, le_f, lt_t, lt_f, eq_t, eq_f, eq_rfl, inR_t, ↓ob_x, obx_s, ↓bnd_s, ↓oT_x, oTx_s, ↓ite_x, itx_T, itx_F, ↓reduceIte, not_true_eq_false, not_false_eq_true, true_and, and_true, Nat.reduceAdd, Nat.reduceMul, Nat.reduceSub, Nat.reduceEqDiff, isB0, isB1, Int32.neg_neg, Nat.zero_add, Nat.add_zero, Nat.mul_zero, Nat.mul_one, Nat.zero_mul]
  · rw [e] at m3
    generalize lxS B z (plF B z p) = t at *
    rcases (by omega : m = 0 ∨ m = 1) with rfl | rfl <;> simp -dsimp -implicitDefEqProofs (disch := omega) only [X6_eRead_L14, r1, m3, i32_lit, i32_add, i32_mul, i32_tn, i32_sub, le_t, le_f, lt_t, lt_f, eq_t, eq_f, eq_rfl, inR_t, ↓ob_x, obx_s, ↓bnd_s, ↓oT_x, oTx_s, ↓ite_x, itx_T, itx_F, ↓reduceIte, not_true_eq_false, not_false_eq_true, true_and, and_true, Nat.reduceAdd, Nat.reduceMul, Nat.reduceSub, Nat.reduceEqDiff, isB0, isB1, Int32.neg_neg, Nat.zero_add, Nat.add_zero, Nat.mul_zero, Nat.mul_one, Nat.zero_mul]
