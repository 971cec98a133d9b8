/-! the reference's steps behind an operand -/
theorem uw_app (least : Nat) : ∀ (P H K : List Nat), (∀ x, x ∈ P → least ≤ rk x) → uw least (P ++ H) K = uw least H (List.reverseAux P K)
  | [], H, K, _ => rfl
  | x :: P, H, K, h => by
    show uw least (x :: (P ++ H)) K = _
    rw [uw, if_pos (h x (by simp)), uw_app least P H (x :: K) (fun y hy => h y (by simp [hy]))]
    rfl
def tpl (r : Nat) : List Nat → Prop
  | [] => True
  | x :: _ => rk x ≤ r
theorem uw_stop {least r : Nat} (h : r < least) : ∀ (H K : List Nat), tpl r H → uw least H K = (H, K)
  | [], K, _ => rfl
  | x :: H, K, q => by
    have q' : rk x ≤ r := q
    rw [uw, if_neg (by omega)]
def opc (s : Nat) : Nat := if s = 264 then 11 else if s = 263 then 12 else if s = 60 then 14 else if s = 61 then 15 else if s = 43 then 16 else if s = 45 then 17 else 18
abbrev isop (s : Nat) : Prop := s = 264 ∨ s = 263 ∨ s = 60 ∨ s = 61 ∨ s = 43 ∨ s = 45 ∨ s = 42
def lst (o : Nat) : Nat := if rk o = 4 then 5 else rk o
theorem opc_in {s : Nat} (h : isop s) : sgs (opc s) ∧ opn (opc s) = 0 ∧ 11 ≤ opc s ∧ opc s ≤ 18 ∧ 1 ≤ lst (opc s) ∧ lst (opc s) ≤ 7 := by
  rcases h with rfl | rfl | rfl | rfl | rfl | rfl | rfl <;> decide
theorem sign_e {N s : Nat} {g : Mem} (h : isop s) (e : g.1 0 22 = tkF s) : X6_signOf N g = some (i32 (opc s), g) := by
  rcases h with rfl | rfl | rfl | rfl | rfl | rfl | rfl
  · rw [show tkF 264 = i32 4 from rfl] at e; simp -dsimp -implicitDefEqProofs (disch := omega) only [X6_signOf, e, i32_lit, i32_add, i32_mul, i32_tn, i32_sub, le_t, le_f, lt_t, lt_f, eq_t, eq_f, eq_rfl, inR_t, ↓ob_x, obx_s, ↓bnd_s, ↓oT_x, oTx_s, ↓ite_x, itx_T, itx_F, ↓reduceIte, not_true_eq_false, not_false_eq_true, true_and, and_true, Nat.reduceAdd, Nat.reduceMul, Nat.reduceSub, Nat.reduceEqDiff, isB0, isB1, Int32.neg_neg, Nat.zero_add, Nat.add_zero, Nat.mul_zero, Nat.mul_one, Nat.zero_mul]; rfl
  · rw [show tkF 263 = i32 5 from rfl] at e; simp -dsimp -implicitDefEqProofs (disch := omega) only [X6_signOf, e, i32_lit, i32_add, i32_mul, i32_tn, i32_sub, le_t, le_f, lt_t, lt_f, eq_t, eq_f, eq_rfl, inR_t, ↓ob_x, obx_s, ↓bnd_s, ↓oT_x, oTx_s, ↓ite_x, itx_T, itx_F, ↓reduceIte, not_true_eq_false, not_false_eq_true, true_and, and_true, Nat.reduceAdd, Nat.reduceMul, Nat.reduceSub, Nat.reduceEqDiff, isB0, isB1, Int32.neg_neg, Nat.zero_add, Nat.add_zero, Nat.mul_zero, Nat.mul_one, Nat.zero_mul]; rfl
  · rw [show tkF 60 = i32 60 from rfl] at e; simp -dsimp -implicitDefEqProofs (disch := omega) only [X6_signOf, e, i32_lit, i32_add, i32_mul, i32_tn, i32_sub, le_t, le_f, lt_t, lt_f, eq_t, eq_f, eq_rfl, inR_t, ↓ob_x, obx_s, ↓bnd_s, ↓oT_x, oTx_s, ↓ite_x, itx_T, itx_F, ↓reduceIte, not_true_eq_false, not_false_eq_true, true_and, and_true, Nat.reduceAdd, Nat.reduceMul, Nat.reduceSub, Nat.reduceEqDiff, isB0, isB1, Int32.neg_neg, Nat.zero_add, Nat.add_zero, Nat.mul_zero, Nat.mul_one, Nat.zero_mul]; rfl
  · rw [show tkF 61 = i32 61 from rfl] at e; simp -dsimp -implicitDefEqProofs (disch := omega) only [X6_signOf, e, i32_lit, i32_add, i32_mul, i32_tn, i32_sub, le_t, le_f, lt_t, lt_f, eq_t, eq_f, eq_rfl, inR_t, ↓ob_x, obx_s, ↓bnd_s, ↓oT_x, oTx_s, ↓ite_x, itx_T, itx_F, ↓reduceIte, not_true_eq_false, not_false_eq_true, true_and, and_true, Nat.reduceAdd, Nat.reduceMul, Nat.reduceSub, Nat.reduceEqDiff, isB0, isB1, Int32.neg_neg, Nat.zero_add, Nat.add_zero, Nat.mul_zero, Nat.mul_one, Nat.zero_mul]; rfl
  · rw [show tkF 43 = i32 43 from rfl] at e; simp -dsimp -implicitDefEqProofs (disch := omega) only [X6_signOf, e, i32_lit, i32_add, i32_mul, i32_tn, i32_sub, le_t, le_f, lt_t, lt_f, eq_t, eq_f, eq_rfl, inR_t, ↓ob_x, obx_s, ↓bnd_s, ↓oT_x, oTx_s, ↓ite_x, itx_T, itx_F, ↓reduceIte, not_true_eq_false, not_false_eq_true, true_and, and_true, Nat.reduceAdd, Nat.reduceMul, Nat.reduceSub, Nat.reduceEqDiff, isB0, isB1, Int32.neg_neg, Nat.zero_add, Nat.add_zero, Nat.mul_zero, Nat.mul_one, Nat.zero_mul]; rfl
  · rw [show tkF 45 = i32 45 from rfl] at e; simp -dsimp -implicitDefEqProofs (disch := omega) only [X6_signOf, e, i32_lit, i32_add, i32_mul, i32_tn, i32_sub, le_t, le_f, lt_t, lt_f, eq_t, eq_f, eq_rfl, inR_t, ↓ob_x, obx_s, ↓bnd_s, ↓oT_x, oTx_s, ↓ite_x, itx_T, itx_F, ↓reduceIte, not_true_eq_false, not_false_eq_true, true_and, and_true, Nat.reduceAdd, Nat.reduceMul, Nat.reduceSub, Nat.reduceEqDiff, isB0, isB1, Int32.neg_neg, Nat.zero_add, Nat.add_zero, Nat.mul_zero, Nat.mul_one, Nat.zero_mul]; rfl
  · rw [show tkF 42 = i32 42 from rfl] at e; simp -dsimp -implicitDefEqProofs (disch := omega) only [X6_signOf, e, i32_lit, i32_add, i32_mul, i32_tn, i32_sub, le_t, le_f, lt_t, lt_f, eq_t, eq_f, eq_rfl, inR_t, ↓ob_x, obx_s, ↓bnd_s, ↓oT_x, oTx_s, ↓ite_x, itx_T, itx_F, ↓reduceIte, not_true_eq_false, not_false_eq_true, true_and, and_true, Nat.reduceAdd, Nat.reduceMul, Nat.reduceSub, Nat.reduceEqDiff, isB0, isB1, Int32.neg_neg, Nat.zero_add, Nat.add_zero, Nat.mul_zero, Nat.mul_one, Nat.zero_mul]; rfl
set_option maxRecDepth 100000 in
theorem betw_t {N c s o : Nat} (hN : 6000 ≤ N) {g : Mem} {H K : List Nat} (h : ST c s g H K) (hb : s + K.length + H.length < 190) (ho : sgs o ∧ opn o = 0 ∧ 11 ≤ o ∧ o ≤ 18 ∧ 1 ≤ lst o ∧ lst o ≤ 7) (h4 : rk o = 4 → tpl 3 (uw 5 H K).1) :
    ∃ g', X6_between N (i32 o) g = some (i32 1, g') ∧ ST c s g' (o :: (uw (lst o) H K).1) (uw (lst o) H K).2 ∧ FZ c s g g' := by
  obtain ⟨g1, r1, r2, r3⟩ := unw_e (N := N) (least := lst o) (by omega) H K N g (by omega) hb h
  have ul := uw_len (lst o) H K
  have rl := rk_le o
  obtain ⟨g2, s1, s2, s3⟩ := holds_e (N := N) r2 (by omega) ho.1 ho.2.1
  refine ⟨g2, ?_, s2, FZ_tr r3 s3⟩
  have q1 := rank_e (N := N) g ho.1
  have q2 := rank_e (N := N) g1 ho.1
  unfold lst at r1 r2
  by_cases hr : rk o = 4
  · rw [hr] at q1 q2
    rw [if_pos hr] at r1 r2
    have h4' := h4 hr
    have ul5 := uw_len 5 H K
    generalize uw 5 H K = uu at *
    obtain ⟨H1, K1⟩ := uu
    obtain ⟨k1, k2, k3, k4, k5, k6, k7⟩ := r2
    cases H1 with
    | nil =>
      rw [List.length_nil] at k3
      simp -dsimp -implicitDefEqProofs (disch := omega) only [X6_between, X6_unwinds, q1, q2, r1, k3, s1, i32_lit, i32_add, i32_mul, i32_tn, i32_sub, le_t, le_f, lt_t, lt_f, eq_t, eq_f, eq_rfl, inR_t, ↓ob_x, obx_s, ↓bnd_s, ↓oT_x, oTx_s, ↓ite_x, itx_T, itx_F, ↓reduceIte, not_true_eq_false, not_false_eq_true, true_and, and_true, Nat.reduceAdd, Nat.reduceMul, Nat.reduceSub, Nat.reduceEqDiff, isB0, isB1, Int32.neg_neg, Nat.zero_add, Nat.add_zero, Nat.mul_zero, Nat.mul_one, Nat.zero_mul]
    | cons y H2 =>
      have k3' : g1.1 0 26 = i32 (H2.length + 1) := k3
      obtain ⟨k8, k9, _⟩ := k6
      have h4'' : rk y ≤ 3 := h4'
      have q3 := rank_e (N := N) g1 k9
      have ul5' : H2.length + 1 + K1.length = H.length + K.length := ul5
      simp -dsimp -implicitDefEqProofs (disch := omega) only [X6_between, X6_unwinds, q1, q2, r1, k3', k8, q3, s1, Nat.add_sub_cancel, i32_lit, i32_add, i32_mul, i32_tn, i32_sub, le_t, le_f, lt_t, lt_f, eq_t, eq_f, eq_rfl, inR_t, ↓ob_x, obx_s, ↓bnd_s, ↓oT_x, oTx_s, ↓ite_x, itx_T, itx_F, ↓reduceIte, not_true_eq_false, not_false_eq_true, true_and, and_true, Nat.reduceAdd, Nat.reduceMul, Nat.reduceSub, Nat.reduceEqDiff, isB0, isB1, Int32.neg_neg, Nat.zero_add, Nat.add_zero, Nat.mul_zero, Nat.mul_one, Nat.zero_mul]
  · rw [if_neg hr] at r1 r2
    simp -dsimp -implicitDefEqProofs (disch := omega) only [X6_between, X6_unwinds, q1, q2, r1, s1, i32_lit, i32_add, i32_mul, i32_tn, i32_sub, le_t, le_f, lt_t, lt_f, eq_t, eq_f, eq_rfl, inR_t, ↓ob_x, obx_s, ↓bnd_s, ↓oT_x, oTx_s, ↓ite_x, itx_T, itx_F, ↓reduceIte, not_true_eq_false, not_false_eq_true, true_and, and_true, Nat.reduceAdd, Nat.reduceMul, Nat.reduceSub, Nat.reduceEqDiff, isB0, isB1, Int32.neg_neg, Nat.zero_add, Nat.add_zero, Nat.mul_zero, Nat.mul_one, Nat.zero_mul]
set_option maxRecDepth 100000 in
theorem betw_f {N c s o y : Nat} (hN : 6000 ≤ N) {g : Mem} {H K H1 K1 : List Nat} (h : ST c s g H K) (hb : s + K.length + H.length < 190) (ho : sgs o) (hr : rk o = 4) (hu : uw 5 H K = (y :: H1, K1)) (hy : rk y = 4) :
    ∃ g', X6_between N (i32 o) g = some (i32 0, g') ∧ FZ c s g g' := by
  obtain ⟨g1, r1, r2, r3⟩ := unw_e (N := N) (least := 5) (by omega) H K N g (by omega) hb h
  rw [hu] at r2
  have ul := uw_len 5 H K
  rw [hu] at ul
  have ul' : H1.length + 1 + K1.length = H.length + K.length := ul
  have q1 := rank_e (N := N) g ho
  have q2 := rank_e (N := N) g1 ho
  rw [hr] at q1 q2
  obtain ⟨k1, k2, k3, k4, k5, ⟨k8, k9, _⟩, k7⟩ := r2
  have k3' : g1.1 0 26 = i32 (H1.length + 1) := k3
  have q3 := rank_e (N := N) g1 k9
  rw [hy] at q3
  exact ⟨g1, by simp -dsimp -implicitDefEqProofs (disch := omega) only [X6_between, X6_unwinds, q1, q2, r1, k3', k8, q3, Nat.add_sub_cancel, i32_lit, i32_add, i32_mul, i32_tn, i32_sub, le_t, le_f, lt_t, lt_f, eq_t, eq_f, eq_rfl, inR_t, ↓ob_x, obx_s, ↓bnd_s, ↓oT_x, oTx_s, ↓ite_x, itx_T, itx_F, ↓reduceIte, not_true_eq_false, not_false_eq_true, true_and, and_true, Nat.reduceAdd, Nat.reduceMul, Nat.reduceSub, Nat.reduceEqDiff, isB0, isB1, Int32.neg_neg, Nat.zero_add, Nat.add_zero, Nat.mul_zero, Nat.mul_one, Nat.zero_mul], r3⟩
set_option maxRecDepth 100000 in
theorem mw_op {N z c s p fu m : Nat} (hN : 6000 ≤ N) {B : Nat → Nat} {g0 g : Mem} {H K : List Nat} (h : MSt B z c s g0 g p H K) (ht : isop (lxS B z (plF B z p))) (h4 : rk (opc (lxS B z (plF B z p))) = 4 → tpl 3 (uw 5 H K).1) :
    ∃ g', X6_eRead_L14 N (fu + 1) (i32 0) (i32 m) g = X6_eRead_L14 N fu (i32 1) (i32 (if opc (lxS B z (plF B z p)) ≤ 12 then 1 else 0)) g' ∧ MSt B z c s g0 g' (lxN B z (plF B z p)) (opc (lxS B z (plF B z p)) :: (uw (lst (opc (lxS B z (plF B z p)))) H K).1) (uw (lst (opc (lxS B z (plF B z p)))) H K).2 := by
  obtain ⟨g1, r1, r2, r3, r4, r5⟩ := nextS hN h
  obtain ⟨_, _, h3, _, _, h6⟩ := h
  have hz := r3.1
  have l0 := plF_le (B := B) h3
  have l1 := lx_pos (B := B) (z := z) (q := plF B z p) (by omega)
  have l2 := lxN_le (B := B) l0.2
  have oi := opc_in ht
  have u0 := sign_e (N := N) ht r2.2.2.1
  obtain ⟨g2, s1, s2, s3⟩ := betw_t (N := N) hN r4 (by omega) oi h4
  have ul := uw_len (lst (opc (lxS B z (plF B z p)))) H K
  refine ⟨g2, ?_, TM_7 r3 (FM7_Z s3), (MT_21 r2 s3).1, by omega, s2, FM7_tr r5 (FM7_Z s3), by rw [List.length_cons]; omega⟩
  obtain ⟨m1, m2, m3, m4, m5⟩ := r2
  have n1 := ne_m (x := opc (lxS B z (plF B z p))) (v := 1) (by omega)
  have e59 : (g1.1 0 22 = i32 59) = False := by
    rw [m3]
    rcases ht with h | h | h | h | h | h | h <;> (rw [h]; exact eq_false (by decide))
  have e41 : (g1.1 0 22 = i32 41) = False := by
    rw [m3]
    rcases ht with h | h | h | h | h | h | h <;> (rw [h]; exact eq_false (by decide))
  by_cases h12 : opc (lxS B z (plF B z p)) ≤ 12
  · rw [if_pos h12]
    simp -dsimp -implicitDefEqProofs (disch := omega) only [X6_eRead_L14, r1, e59, e41, u0, n1, s1, i32_lit, i32_add, i32_mul, i32_tn, i32_sub, le_t, le_f, lt_t, lt_f, eq_t, eq_f, eq_rfl, inR_t, ↓ob_x, obx_s, ↓bnd_s, ↓oT_x, oTx_s, ↓ite_x, itx_T, itx_F, ↓reduceIte, not_true_eq_false, not_false_eq_true, true_and, and_true, Nat.reduceAdd, Nat.reduceMul, Nat.reduceSub, Nat.reduceEqDiff, isB0, isB1, Int32.neg_neg, Nat.zero_add, Nat.add_zero, Nat.mul_zero, Nat.mul_one, Nat.zero_mul]
  · rw [if_neg h12]
    simp -dsimp -implicitDefEqProofs (disch := omega) only [X6_eRead_L14, r1, e59, e41, u0, n1, s1, i32_lit, i32_add, i32_mul, i32_tn, i32_sub, le_t, le_f, lt_t, lt_f, eq_t, eq_f, eq_rfl, inR_t, ↓ob_x, obx_s, ↓bnd_s, ↓oT_x, oTx_s, ↓ite_x, itx_T, itx_F, ↓reduceIte, not_true_eq_false, not_false_eq_true, true_and, and_true, Nat.reduceAdd, Nat.reduceMul, Nat.reduceSub, Nat.reduceEqDiff, isB0, isB1, Int32.neg_neg, Nat.zero_add, Nat.add_zero, Nat.mul_zero, Nat.mul_one, Nat.zero_mul]
/-- a comparison is left, above sums and terms -/
def top5 (P : List Nat) : Prop := ∃ P5 y P', P = P5 ++ y :: P' ∧ (∀ x, x ∈ P5 → 5 ≤ rk x) ∧ rk y = 4
theorem top5_app {P : List Nat} (h : top5 P) (Q : List Nat) : top5 (P ++ Q) := by
  obtain ⟨a, y, b, e, h1, h2⟩ := h
  exact ⟨a, y, b ++ Q, by rw [e]; simp, h1, h2⟩
/-- what can't stand behind an E -/
def nxt (B : Nat → Nat) (z p : Nat) (P : List Nat) : Prop := ¬ lxS B z (plF B z p) = 42 ∧ ¬ lxS B z (plF B z p) = 43 ∧ ¬ lxS B z (plF B z p) = 45 ∧ (lxS B z (plF B z p) = 60 ∨ lxS B z (plF B z p) = 61 → top5 P)
set_option maxRecDepth 100000 in
theorem mw_off {N z c s p fu m : Nat} (hN : 6000 ≤ N) {B : Nat → Nat} {g0 g : Mem} {H K P : List Nat} (h : MSt B z c s g0 g p (P ++ H) K) (hn : nxt B z p P) (h1 : ¬ lxS B z (plF B z p) = 263 ∧ ¬ lxS B z (plF B z p) = 264 ∧ ¬ lxS B z (plF B z p) = 41 ∧ ¬ lxS B z (plF B z p) = 59) :
    ∃ g', X6_eRead_L14 N (fu + 1) (i32 0) (i32 m) g = some (i32 0, g') ∧ FlM c s g0 g' (plF B z p) := by
  obtain ⟨g1, r1, r2, r3, r4, r5⟩ := nextS hN h
  obtain ⟨_, _, h3, _, _, h6⟩ := h
  have hz := r3.1
  have l0 := plF_le (B := B) h3
  obtain ⟨n1, n2, n3, n4⟩ := hn
  by_cases h60 : lxS B z (plF B z p) = 60 ∨ lxS B z (plF B z p) = 61
  · obtain ⟨P5, y, P', e, p1, p2⟩ := n4 h60
    have l1 := lx_pos (B := B) (z := z) (q := plF B z p) (by omega)
    have hu : uw 5 (P ++ H) K = (y :: (P' ++ H), List.reverseAux P5 K) := by
      rw [e, List.append_assoc, uw_app 5 P5 _ K p1]
      show uw 5 (y :: (P' ++ H)) _ = _
      rw [uw, if_neg (by omega)]
    have ht : isop (lxS B z (plF B z p)) := by omega
    have oi := opc_in ht
    have hr : rk (opc (lxS B z (plF B z p))) = 4 := by
      rcases h60 with h | h <;> (rw [h]; rfl)
    obtain ⟨g2, s1, s2⟩ := betw_f (N := N) hN r4 (by omega) oi.1 hr hu p2
    have u0 := sign_e (N := N) ht r2.2.2.1
    refine ⟨g2, ?_, FM7_tr r5 (FM7_Z s2), (MT_21 r2 s2).2⟩
    obtain ⟨m1, m2, m3, m4, m5⟩ := r2
    have nn := ne_m (x := opc (lxS B z (plF B z p))) (v := 1) (by omega)
    have e59 : (g1.1 0 22 = i32 59) = False := by
      rw [m3]
      rcases h60 with h | h <;> (rw [h]; exact eq_false (by decide))
    have e41 : (g1.1 0 22 = i32 41) = False := by
      rw [m3]
      rcases h60 with h | h <;> (rw [h]; exact eq_false (by decide))
    simp -dsimp -implicitDefEqProofs (disch := omega) only [X6_eRead_L14, r1, e59, e41, u0, nn, s1, i32_lit, i32_add, i32_mul, i32_tn, i32_sub, le_t, le_f, lt_t, lt_f, eq_t, eq_f, eq_rfl, inR_t, ↓ob_x, obx_s, ↓bnd_s, ↓oT_x, oTx_s, ↓ite_x, itx_T, itx_F, ↓reduceIte, not_true_eq_false, not_false_eq_true, true_and, and_true, Nat.reduceAdd, Nat.reduceMul, Nat.reduceSub, Nat.reduceEqDiff, isB0, isB1, Int32.neg_neg, Nat.zero_add, Nat.add_zero, Nat.mul_zero, Nat.mul_one, Nat.zero_mul]
  · refine ⟨g1, ?_, r5, r2.2.1⟩
    obtain ⟨m1, m2, m3, m4, m5⟩ := r2
    rcases tk_cases B z (plF B z p) with ⟨t, e⟩ | ⟨t, e⟩ | ⟨t, e⟩ | ⟨t, e⟩ | ⟨t, e⟩ | ⟨t, e⟩ | ⟨t, e⟩ | ⟨t, _, e⟩ | ⟨t, e⟩
    · rw [e] at m3
      simp -dsimp -implicitDefEqProofs (disch := omega) only [X6_eRead_L14, X6_signOf, r1, m3, i32_lit, i32_add, i32_mul, i32_tn, i32_sub, le_t, le_f, lt_t, lt_f, eq_t, eq_f, eq_rfl, inR_t, ↓ob_x, obx_s, ↓bnd_s, ↓oT_x, oTx_s, ↓ite_x, itx_T, itx_F, ↓reduceIte, not_true_eq_false, not_false_eq_true, true_and, and_true, Nat.reduceAdd, Nat.reduceMul, Nat.reduceSub, Nat.reduceEqDiff, isB0, isB1, Int32.neg_neg, Nat.zero_add, Nat.add_zero, Nat.mul_zero, Nat.mul_one, Nat.zero_mul]
    · rw [e] at m3
      simp -dsimp -implicitDefEqProofs (disch := omega) only [X6_eRead_L14, X6_signOf, r1, m3, m_ne, i32_lit, i32_add, i32_mul, i32_tn, i32_sub, le_t, le_f, lt_t, lt_f, eq_t, eq_f, eq_rfl, inR_t, ↓ob_x, obx_s, ↓bnd_s, ↓oT_x, oTx_s, ↓ite_x, itx_T, itx_F, ↓reduceIte, not_true_eq_false, not_false_eq_true, true_and, and_true, Nat.reduceAdd, Nat.reduceMul, Nat.reduceSub, Nat.reduceEqDiff, isB0, isB1, Int32.neg_neg, Nat.zero_add, Nat.add_zero, Nat.mul_zero, Nat.mul_one, Nat.zero_mul]
    · rw [e] at m3
      simp -dsimp -implicitDefEqProofs (disch := omega) only [X6_eRead_L14, X6_signOf, r1, m3, i32_lit, i32_add, i32_mul, i32_tn, i32_sub, le_t, le_f, lt_t, lt_f, eq_t, eq_f, eq_rfl, inR_t, ↓ob_x, obx_s, ↓bnd_s, ↓oT_x, oTx_s, ↓ite_x, itx_T, itx_F, ↓reduceIte, not_true_eq_false, not_false_eq_true, true_and, and_true, Nat.reduceAdd, Nat.reduceMul, Nat.reduceSub, Nat.reduceEqDiff, isB0, isB1, Int32.neg_neg, Nat.zero_add, Nat.add_zero, Nat.mul_zero, Nat.mul_one, Nat.zero_mul]
    · omega
    · omega
    · rw [e] at m3
      simp -dsimp -implicitDefEqProofs (disch := omega) only [X6_eRead_L14, X6_signOf, r1, m3, i32_lit, i32_add, i32_mul, i32_tn, i32_sub, le_t, le_f, lt_t, lt_f, eq_t, eq_f, eq_rfl, inR_t, ↓ob_x, obx_s, ↓bnd_s, ↓oT_x, oTx_s, ↓ite_x, itx_T, itx_F, ↓reduceIte, not_true_eq_false, not_false_eq_true, true_and, and_true, Nat.reduceAdd, Nat.reduceMul, Nat.reduceSub, Nat.reduceEqDiff, isB0, isB1, Int32.neg_neg, Nat.zero_add, Nat.add_zero, Nat.mul_zero, Nat.mul_one, Nat.zero_mul]
    · rw [e] at m3
      simp -dsimp -implicitDefEqProofs (disch := omega) only [X6_eRead_L14, X6_signOf, r1, m3, i32_lit, i32_add, i32_mul, i32_tn, i32_sub, le_t, le_f, lt_t, lt_f, eq_t, eq_f, eq_rfl, inR_t, ↓ob_x, obx_s, ↓bnd_s, ↓oT_x, oTx_s, ↓ite_x, itx_T, itx_F, ↓reduceIte, not_true_eq_false, not_false_eq_true, true_and, and_true, Nat.reduceAdd, Nat.reduceMul, Nat.reduceSub, Nat.reduceEqDiff, isB0, isB1, Int32.neg_neg, Nat.zero_add, Nat.add_zero, Nat.mul_zero, Nat.mul_one, Nat.zero_mul]
    · rw [e] at m3
      simp -dsimp -implicitDefEqProofs (disch := omega) only [X6_eRead_L14, X6_signOf, r1, m3, i32_lit, i32_add, i32_mul, i32_tn, i32_sub, le_t, le_f, lt_t, lt_f, eq_t, eq_f, eq_rfl, inR_t, ↓ob_x, obx_s, ↓bnd_s, ↓oT_x, oTx_s, ↓ite_x, itx_T, itx_F, ↓reduceIte, not_true_eq_false, not_false_eq_true, true_and, and_true, Nat.reduceAdd, Nat.reduceMul, Nat.reduceSub, Nat.reduceEqDiff, isB0, isB1, Int32.neg_neg, Nat.zero_add, Nat.add_zero, Nat.mul_zero, Nat.mul_one, Nat.zero_mul]
    · have t40 : lxS B z (plF B z p) = 40 := by omega
      rw [e, t40] at m3
      simp -dsimp -implicitDefEqProofs (disch := omega) only [X6_eRead_L14, X6_signOf, r1, m3, i32_lit, i32_add, i32_mul, i32_tn, i32_sub, le_t, le_f, lt_t, lt_f, eq_t, eq_f, eq_rfl, inR_t, ↓ob_x, obx_s, ↓bnd_s, ↓oT_x, oTx_s, ↓ite_x, itx_T, itx_F, ↓reduceIte, not_true_eq_false, not_false_eq_true, true_and, and_true, Nat.reduceAdd, Nat.reduceMul, Nat.reduceSub, Nat.reduceEqDiff, isB0, isB1, Int32.neg_neg, Nat.zero_add, Nat.add_zero, Nat.mul_zero, Nat.mul_one, Nat.zero_mul]
set_option maxRecDepth 100000 in
/-- ; : good, just if nothing is held -/
theorem mw_semi {N z c s p fu m : Nat} (hN : 6000 ≤ N) {B : Nat → Nat} {g0 g : Mem} {H K : List Nat} (h : MSt B z c s g0 g p H K) (ht : lxS B z (plF B z p) = 59) :
    ∃ g', X6_eRead_L14 N (fu + 1) (i32 0) (i32 m) g = some (i32 (if (uw 1 H K).1 = [] then 1 else 0), g') ∧ MSt B z c s g0 g' (lxN B z (plF B z p)) (uw 1 H K).1 (uw 1 H K).2 ∧ g'.1 0 21 = i32 (plF B z p) := by
  obtain ⟨g1, r1, r2, r3, r4, r5⟩ := nextS hN h
  obtain ⟨_, _, h3, _, _, h6⟩ := h
  have hz := r3.1
  have l0 := plF_le (B := B) h3
  have l1 := lx_pos (B := B) (z := z) (q := plF B z p) (by omega)
  have l2 := lxN_le (B := B) l0.2
  obtain ⟨g2, s1, s2, s3⟩ := unw_e (N := N) (least := 1) (by omega) H K N g1 (by omega) (by omega) r4
  have ul := uw_len 1 H K
  refine ⟨g2, ?_, ⟨TM_7 r3 (FM7_Z s3), (MT_21 r2 s3).1, by omega, s2, FM7_tr r5 (FM7_Z s3), by omega⟩, (MT_21 r2 s3).2⟩
  obtain ⟨m1, m2, m3, m4, m5⟩ := r2
  rw [ht, show tkF 59 = i32 59 from rfl] at m3
  have k3 := s2.2.2.1
  cases hH : (uw 1 H K).1 with
  | nil =>
    rw [hH, List.length_nil] at k3
    rw [if_pos rfl]
    simp -dsimp -implicitDefEqProofs (disch := omega) only [X6_eRead_L14, X6_unwinds, r1, m3, s1, k3, i32_lit, i32_add, i32_mul, i32_tn, i32_sub, le_t, le_f, lt_t, lt_f, eq_t, eq_f, eq_rfl, inR_t, ↓ob_x, obx_s, ↓bnd_s, ↓oT_x, oTx_s, ↓ite_x, itx_T, itx_F, ↓reduceIte, not_true_eq_false, not_false_eq_true, true_and, and_true, Nat.reduceAdd, Nat.reduceMul, Nat.reduceSub, Nat.reduceEqDiff, isB0, isB1, Int32.neg_neg, Nat.zero_add, Nat.add_zero, Nat.mul_zero, Nat.mul_one, Nat.zero_mul]
  | cons y H2 =>
    rw [hH, List.length_cons] at k3
    rw [hH, List.length_cons] at ul
    rw [if_neg (by simp)]
    simp -dsimp -implicitDefEqProofs (disch := omega) only [X6_eRead_L14, X6_unwinds, r1, m3, s1, k3, i32_lit, i32_add, i32_mul, i32_tn, i32_sub, le_t, le_f, lt_t, lt_f, eq_t, eq_f, eq_rfl, inR_t, ↓ob_x, obx_s, ↓bnd_s, ↓oT_x, oTx_s, ↓ite_x, itx_T, itx_F, ↓reduceIte, not_true_eq_false, not_false_eq_true, true_and, and_true, Nat.reduceAdd, Nat.reduceMul, Nat.reduceSub, Nat.reduceEqDiff, isB0, isB1, Int32.neg_neg, Nat.zero_add, Nat.add_zero, Nat.mul_zero, Nat.mul_one, Nat.zero_mul]
set_option maxRecDepth 100000 in
theorem mw_cl0 {N z c s p fu m : Nat} (hN : 6000 ≤ N) {B : Nat → Nat} {g0 g : Mem} {H K : List Nat} (h : MSt B z c s g0 g p H K) (ht : lxS B z (plF B z p) = 41) (hu : (uw 1 H K).1 = []) :
    ∃ g', X6_eRead_L14 N (fu + 1) (i32 0) (i32 m) g = some (i32 0, g') ∧ FlM c s g0 g' (plF B z p) := by
  obtain ⟨g1, r1, r2, r3, r4, r5⟩ := nextS hN h
  obtain ⟨_, _, h3, _, _, h6⟩ := h
  have hz := r3.1
  have l0 := plF_le (B := B) h3
  obtain ⟨g2, s1, s2, s3⟩ := unw_e (N := N) (least := 1) (by omega) H K N g1 (by omega) (by omega) r4
  refine ⟨g2, ?_, FM7_tr r5 (FM7_Z s3), (MT_21 r2 s3).2⟩
  obtain ⟨m1, m2, m3, m4, m5⟩ := r2
  rw [ht, show tkF 41 = i32 41 from rfl] at m3
  have k3 := s2.2.2.1
  rw [hu, List.length_nil] at k3
  simp -dsimp -implicitDefEqProofs (disch := omega) only [X6_eRead_L14, X6_unwinds, r1, m3, s1, k3, i32_lit, i32_add, i32_mul, i32_tn, i32_sub, le_t, le_f, lt_t, lt_f, eq_t, eq_f, eq_rfl, inR_t, ↓ob_x, obx_s, ↓bnd_s, ↓oT_x, oTx_s, ↓ite_x, itx_T, itx_F, ↓reduceIte, not_true_eq_false, not_false_eq_true, true_and, and_true, Nat.reduceAdd, Nat.reduceMul, Nat.reduceSub, Nat.reduceEqDiff, isB0, isB1, Int32.neg_neg, Nat.zero_add, Nat.add_zero, Nat.mul_zero, Nat.mul_one, Nat.zero_mul]
set_option maxRecDepth 100000 in
theorem mw_cl {N z c s p fu m : Nat} (hN : 6000 ≤ N) {B : Nat → Nat} {g0 g : Mem} {H K H2 K1 : List Nat} (h : MSt B z c s g0 g p H K) (ht : lxS B z (plF B z p) = 41) (hu : uw 1 H K = (0 :: H2, K1)) :
    ∃ g', X6_eRead_L14 N (fu + 1) (i32 0) (i32 m) g = X6_eRead_L14 N fu (i32 0) (i32 m) g' ∧ MSt B z c s g0 g' (lxN B z (plF B z p)) (uw 7 H2 K1).1 (uw 7 H2 K1).2 := by
  obtain ⟨g1, r1, r2, r3, r4, r5⟩ := nextS hN h
  obtain ⟨_, _, h3, _, _, h6⟩ := h
  have hz := r3.1
  have l0 := plF_le (B := B) h3
  have l1 := lx_pos (B := B) (z := z) (q := plF B z p) (by omega)
  have l2 := lxN_le (B := B) l0.2
  have ul := uw_len 1 H K
  rw [hu] at ul
  have ul' : H2.length + 1 + K1.length = H.length + K.length := ul
  obtain ⟨g2, s1, s2, s3⟩ := unw_e (N := N) (least := 1) (by omega) H K N g1 (by omega) (by omega) r4
  rw [hu] at s2
  obtain ⟨k1, k2, k3, k4, k5, ⟨k6, k7, k8⟩, k9⟩ := s2
  have k3' : g2.1 0 26 = i32 (H2.length + 1) := k3
  have k4' : g2.1 0 27 = i32 (1 + cnt H2) := k4
  have e27 : g2.1 0 27 - i32 1 = i32 (cnt H2) := by rw [k4', i32_sub (by omega), Nat.add_sub_cancel_left]
  have S1 : ST c s (stI (stI g2 0 26 (i32 H2.length)) 0 27 (i32 (cnt H2))) H2 K1 := ⟨k1, by simp -dsimp -implicitDefEqProofs (disch := omega) only [stI_eq, stI_nj, stI_ne, stI_2, stA_eq, stA_ne, stA_2, stR_1, stR_2]; exact k2, by simp -dsimp -implicitDefEqProofs (disch := omega) only [stI_eq, stI_nj, stI_ne, stI_2, stA_eq, stA_ne, stA_2, stR_1, stR_2], by simp -dsimp -implicitDefEqProofs (disch := omega) only [stI_eq, stI_nj, stI_ne, stI_2, stA_eq, stA_ne, stA_2, stR_1, stR_2], by simp -dsimp -implicitDefEqProofs (disch := omega) only [stI_eq, stI_nj, stI_ne, stI_2, stA_eq, stA_ne, stA_2, stR_1, stR_2]; exact k5, hR_c H2 (fun j _ => by simp -dsimp -implicitDefEqProofs (disch := omega) only [stI_eq, stI_nj, stI_ne, stI_2, stA_eq, stA_ne, stA_2, stR_1, stR_2]) k8, kM_c K1 (fun j _ => by simp -dsimp -implicitDefEqProofs (disch := omega) only [stI_eq, stI_nj, stI_ne, stI_2, stA_eq, stA_ne, stA_2, stR_1, stR_2]) k9⟩
  obtain ⟨g3, t1, t2, t3⟩ := unw_e (N := N) (least := 7) (by omega) H2 K1 N _ (by omega) (by omega) S1
  have ul7 := uw_len 7 H2 K1
  have f3 : FZ c s g1 g3 := FZ_tr s3 (FZ_tr (FZ_tr (FZ_st0 _ _ _ _ _ (by omega)) (FZ_st0 _ _ _ _ _ (by omega))) t3)
  refine ⟨g3, ?_, TM_7 r3 (FM7_Z f3), (MT_21 r2 f3).1, by omega, t2, FM7_tr r5 (FM7_Z f3), by omega⟩
  obtain ⟨m1, m2, m3, m4, m5⟩ := r2
  rw [ht, show tkF 41 = i32 41 from rfl] at m3
  simp -dsimp -implicitDefEqProofs (disch := omega) only [X6_eRead_L14, X6_unwinds, r1, m3, s1, k3', e27, t1, Nat.add_sub_cancel, i32_lit, i32_add, i32_mul, i32_tn, i32_sub, le_t, le_f, lt_t, lt_f, eq_t, eq_f, eq_rfl, inR_t, ↓ob_x, obx_s, ↓bnd_s, ↓oT_x, oTx_s, ↓ite_x, itx_T, itx_F, ↓reduceIte, not_true_eq_false, not_false_eq_true, true_and, and_true, Nat.reduceAdd, Nat.reduceMul, Nat.reduceSub, Nat.reduceEqDiff, isB0, isB1, Int32.neg_neg, Nat.zero_add, Nat.add_zero, Nat.mul_zero, Nat.mul_one, Nat.zero_mul, stI_eq, stI_nj, stI_ne, stI_2, stA_eq, stA_ne, stA_2, stR_1, stR_2]
