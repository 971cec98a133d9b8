/-! the loops of the parser; not and comparisons; the whole of it by depth -/
theorem tpl_up {r r' : Nat} (h : r ≤ r') : ∀ (H : List Nat), tpl r H → tpl r' H
  | [], _ => trivial
  | x :: _, q => by
    have q' : rk x ≤ r := q
    show rk x ≤ r'
    omega
theorem ra_snoc (x : Nat) : ∀ (P K : List Nat), List.reverseAux (P ++ [x]) K = x :: List.reverseAux P K
  | [], K => rfl
  | y :: P, K => ra_snoc x P (y :: K)
theorem ra_len (P K : List Nat) : (List.reverseAux P K).length = P.length + K.length := by rw [List.reverseAux_eq, List.length_append, List.length_reverse]
theorem one_clm {N z c s o dm : Nat} {B : Nat → Nat} {g0 h0 : Mem} {F : Mem → Option (Int32 × Mem)} (h : ClmO N B z c s g0 h0 F o dm) : Clm N B z c s g0 h0 F o 6 7 dm 0 (fun _ _ => True) := by
  intro gI gM p H K n fu m hC hM hH hT hD hn hf hm h1 h0
  rcases h gI gM p H K n fu m hC hM hH hD hn hf hm (h0 rfl) with x | ⟨u1, u2, p', K', fu', m', k1, k2, k3, k4, k5, k6, k7, k8⟩
  · exact Or.inl x
  · rw [uw_stop (r := 6) (by omega) H K' hT] at k4
    exact Or.inr ⟨u1, u2, p', K', [], fu', m', k1, k2, k3, k4, fun x hx => by simp at hx, k5, k6, k7, k8, trivial⟩
set_option maxRecDepth 100000 in
theorem term_l {N z c s o : Nat} (hN : 6000 ≤ N) (hz : z ≤ 160) {B : Nat → Nat} {g0 h0 : Mem} {G : Nat → Int32 → Mem → Option (Int32 × Mem)} (ho : o ≤ 5) (cC : Clm N B z c s g0 h0 (G 6 (i32 o)) o 6 7 (5 * o + 5) 0 (fun p' P => True))
    (H : List Nat) (hH : cnt H = o) (hT : tpl 5 H) (n : Nat) (hn : n ≤ 5 * o + 4) : ∀ (k j fL p fu m : Nat) (gI gM : Mem) (K P : List Nat), p + k = z → k < fL → j < p → CSt B z c s g0 gI p (List.reverseAux P K) → MSt B z c s h0 gM p (P ++ H) K → (∀ x, x ∈ P → 6 ≤ rk x) → DP (List.reverseAux P K) (n + 1) → z + 1 < fu + p → m ≤ 1 → (fun p' P => True) p P →
    (∃ gI' gM' q, X3_readsTerm_L8 N G (i32 o) fL (i32 1) (i32 j) gI = some (i32 0, gI') ∧ FlI c s g0 gI' q ∧ X6_eRead_L14 N fu (i32 0) (i32 m) gM = some (i32 0, gM') ∧ FlM c s h0 gM' q) ∨
    (∃ gI' gM' p' K' P' fu' m', X3_readsTerm_L8 N G (i32 o) fL (i32 1) (i32 j) gI = some (i32 1, gI') ∧ CSt B z c s g0 gI' p' (List.reverseAux P' K') ∧ X6_eRead_L14 N fu (i32 0) (i32 m) gM = X6_eRead_L14 N fu' (i32 0) (i32 m') gM' ∧ MSt B z c s h0 gM' p' (P' ++ H) K' ∧ (∀ x, x ∈ P' → 6 ≤ rk x) ∧ DP (List.reverseAux P' K') (n + 1) ∧ z + 1 < fu' + p' ∧ p ≤ p' ∧ m' ≤ 1 ∧ ¬ lxS B z (plF B z p') = 42) := by
  intro k
  induction k using Nat.strongRecOn with
  | ind k ih =>
    intro j fL p fu m gI gM K P h1 h2 h3 hC hM hP hD hf hm hQ
    obtain ⟨fL, rfl⟩ : ∃ q, fL = q + 1 := ⟨fL - 1, by omega⟩
    have sy := hC.2.2.1.2.2.1
    have hc6 := hC.1
    have l3 := lxS_in B z (plF B z p)
    have l0 := plF_le (B := B) (by omega : p ≤ z)
    by_cases h42 : lxS B z (plF B z p) = 42
    · have l1 := lx_pos (B := B) (z := z) (q := plF B z p) (by omega)
      have l2 := lxN_le (B := B) l0.2
      have oe : opc (lxS B z (plF B z p)) = 18 := by rw [h42]; rfl
      have hu : uw (lst 18) (P ++ H) K = (H, List.reverseAux P K) := (uw_app (lst 18) P H K hP).trans (uw_stop (r := 5) (by decide) _ _ hT)
      have em : (if (18 : Nat) ≤ 12 then (1 : Nat) else 0) = 0 := rfl
      obtain ⟨fu, rfl⟩ : ∃ q, fu = q + 1 := ⟨fu - 1, by omega⟩
      obtain ⟨gM1, m1, m2⟩ := mw_op (fu := fu) (m := m) hN hM (by omega) (fun q => by rw [oe] at q; exact absurd q (by decide))
      rw [oe] at m2
      rw [oe, em] at m1
      rw [hu] at m2
      obtain ⟨gI1, b1, b2⟩ := cNext hN hC
      rcases cC gI1 gM1 _ (18 :: H) _ (n + 1) fu 0 b2 m2 (by show opn 18 + cnt H = o; rw [hH, show opn 18 = 0 from rfl]; omega) (by show rk 18 ≤ 6; decide) hD (by omega) (by omega) (by decide) (fun q => by omega) (fun _ _ => rfl) with ⟨u1, u2, q, k1, k2, k3, k4⟩ | ⟨u1, u2, p', K', P', fu', m', k1, k2, k3, k4, k5, k6, k7, k8, k9, k10⟩
      · left
        obtain ⟨u3, e1, e2⟩ := fl_add (N := N) k2 (-(i32 42))
        have tx1 := k2.2.2.2.1
        refine ⟨u3, u2, q, ?_, e2, by rw [m1]; exact k3, k4⟩
        obtain ⟨fL, rfl⟩ : ∃ q, fL = q + 1 := ⟨fL - 1, by omega⟩
        rw [h42] at sy
        simp -dsimp -implicitDefEqProofs (disch := omega) only [X3_readsTerm_L8, sy, b1, k1, tx1, e1, i32_lit, i32_add, i32_mul, i32_tn, i32_sub, le_t, le_f, lt_t, lt_f, eq_t, eq_f, eq_rfl, inR_t, ↓ob_x, obx_s, ↓bnd_s, ↓oT_x, oTx_s, ↓ite_x, itx_T, itx_F, ↓reduceIte, not_true_eq_false, not_false_eq_true, true_and, and_true, Nat.reduceAdd, Nat.reduceMul, Nat.reduceSub, Nat.reduceEqDiff, isB0, isB1, Int32.neg_neg, Nat.zero_add, Nat.add_zero, Nat.mul_zero, Nat.mul_one, Nat.zero_mul]
      · have kb := k4.2.2.2.2.2
        have kz := k4.2.2.1
        rw [List.length_append, List.length_cons] at kb
        have rl := ra_len P' K'
        obtain ⟨u3, e1, e2⟩ := cAdd (N := N) (x := 18) k2 (by omega)
        have tx1 := k2.2.2.2.2.1
        have ec : cs 18 = -(i32 42) := rfl
        rw [ec] at e1
        rw [← ra_snoc] at e2
        have k4' : MSt B z c s h0 u2 p' ((P' ++ [18]) ++ H) K' := by rw [List.append_assoc]; exact k4
        have kd : DP (List.reverseAux (P' ++ [18]) K') (n + 1) := by
          rw [ra_snoc]
          exact ⟨n + 1 + 1, k6, Or.inr (Or.inr ⟨rfl, by omega, by omega, by omega⟩)⟩
        have kp : ∀ x, x ∈ P' ++ [18] → 6 ≤ rk x := fun x hx => by
          rcases List.mem_append.mp hx with hx | hx
          · have := k5 x hx; omega
          · rw [List.mem_singleton.mp hx]; decide
        rcases ih (z - p') (by omega) (j + 1) fL p' fu' m' u3 u2 K' (P' ++ [18]) (by omega) (by omega) (by omega) e2 k4' kp kd k7 k9 trivial with ⟨w1, w2, q, y1, y2, y3, y4⟩ | ⟨w1, w2, p2, K2, P2, f2, m2', y1, y2, y3, y4, y5, y6, y7, y8, y9, y10⟩
        · left
          refine ⟨w1, w2, q, ?_, y2, by rw [m1, k3]; exact y3, y4⟩
          rw [h42] at sy
          simp -dsimp -implicitDefEqProofs (disch := omega) only [X3_readsTerm_L8, sy, b1, k1, tx1, e1, y1, i32_lit, i32_add, i32_mul, i32_tn, i32_sub, le_t, le_f, lt_t, lt_f, eq_t, eq_f, eq_rfl, inR_t, ↓ob_x, obx_s, ↓bnd_s, ↓oT_x, oTx_s, ↓ite_x, itx_T, itx_F, ↓reduceIte, not_true_eq_false, not_false_eq_true, true_and, and_true, Nat.reduceAdd, Nat.reduceMul, Nat.reduceSub, Nat.reduceEqDiff, isB0, isB1, Int32.neg_neg, Nat.zero_add, Nat.add_zero, Nat.mul_zero, Nat.mul_one, Nat.zero_mul]
        · right
          refine ⟨w1, w2, p2, K2, P2, f2, m2', ?_, y2, by rw [m1, k3]; exact y3, y4, y5, y6, y7, by omega, y9, y10⟩
          rw [h42] at sy
          simp -dsimp -implicitDefEqProofs (disch := omega) only [X3_readsTerm_L8, sy, b1, k1, tx1, e1, y1, i32_lit, i32_add, i32_mul, i32_tn, i32_sub, le_t, le_f, lt_t, lt_f, eq_t, eq_f, eq_rfl, inR_t, ↓ob_x, obx_s, ↓bnd_s, ↓oT_x, oTx_s, ↓ite_x, itx_T, itx_F, ↓reduceIte, not_true_eq_false, not_false_eq_true, true_and, and_true, Nat.reduceAdd, Nat.reduceMul, Nat.reduceSub, Nat.reduceEqDiff, isB0, isB1, Int32.neg_neg, Nat.zero_add, Nat.add_zero, Nat.mul_zero, Nat.mul_one, Nat.zero_mul]
    right
    refine ⟨gI, gM, p, K, P, fu, m, ?_, hC, rfl, hM, hP, hD, hf, Nat.le_refl p, hm, h42⟩
    simp -dsimp -implicitDefEqProofs (disch := omega) only [X3_readsTerm_L8, sy, i32_lit, i32_add, i32_mul, i32_tn, i32_sub, le_t, le_f, lt_t, lt_f, eq_t, eq_f, eq_rfl, inR_t, ↓ob_x, obx_s, ↓bnd_s, ↓oT_x, oTx_s, ↓ite_x, itx_T, itx_F, ↓reduceIte, not_true_eq_false, not_false_eq_true, true_and, and_true, Nat.reduceAdd, Nat.reduceMul, Nat.reduceSub, Nat.reduceEqDiff, isB0, isB1, Int32.neg_neg, Nat.zero_add, Nat.add_zero, Nat.mul_zero, Nat.mul_one, Nat.zero_mul]
set_option maxRecDepth 100000 in
theorem term_c {N z c s o : Nat} (hN : 6000 ≤ N) (hz : z ≤ 160) {B : Nat → Nat} {g0 h0 : Mem} {G : Nat → Int32 → Mem → Option (Int32 × Mem)} (ho : o ≤ 5) (cC : Clm N B z c s g0 h0 (G 6 (i32 o)) o 6 7 (5 * o + 5) 0 (fun p' P => True)) : Clm N B z c s g0 h0 (X3_readsTerm N G (i32 o)) o 5 6 (5 * o + 4) 0 (fun p' P => ¬ lxS B z (plF B z p') = 42) := by
  intro gI gM p H K n fu m hC hM hH hT hD hn hf hm q1 q0
  obtain ⟨N', hN'⟩ : ∃ q, N = q + 1 := ⟨N - 1, by omega⟩
  rcases cC gI gM p H K n fu m hC hM hH (tpl_up (by omega) H hT) hD (by omega) hf hm q1 q0 with ⟨u1, u2, q, k1, k2, k3, k4⟩ | ⟨u1, u2, p', K', P', fu', m', k1, k2, k3, k4, k5, k6, k7, k8, k9, k10⟩
  · left
    refine ⟨u1, u2, q, ?_, k2, k3, k4⟩
    have z1 : ∀ M, X3_readsTerm_L8 M G (i32 o) (N' + 1) (i32 0) (i32 0) u1 = some (i32 0, u1) := fun M => by simp -dsimp -implicitDefEqProofs (disch := omega) only [X3_readsTerm_L8, i32_lit, i32_add, i32_mul, i32_tn, i32_sub, le_t, le_f, lt_t, lt_f, eq_t, eq_f, eq_rfl, inR_t, ↓ob_x, obx_s, ↓bnd_s, ↓oT_x, oTx_s, ↓ite_x, itx_T, itx_F, ↓reduceIte, not_true_eq_false, not_false_eq_true, true_and, and_true, Nat.reduceAdd, Nat.reduceMul, Nat.reduceSub, Nat.reduceEqDiff, isB0, isB1, Int32.neg_neg, Nat.zero_add, Nat.add_zero, Nat.mul_zero, Nat.mul_one, Nat.zero_mul]
    have z2 := z1 N
    rw [← hN'] at z2
    simp -dsimp -implicitDefEqProofs (disch := omega) only [X3_readsTerm, k1, z2, i32_lit, i32_add, i32_mul, i32_tn, i32_sub, le_t, le_f, lt_t, lt_f, eq_t, eq_f, eq_rfl, inR_t, ↓ob_x, obx_s, ↓bnd_s, ↓oT_x, oTx_s, ↓ite_x, itx_T, itx_F, ↓reduceIte, not_true_eq_false, not_false_eq_true, true_and, and_true, Nat.reduceAdd, Nat.reduceMul, Nat.reduceSub, Nat.reduceEqDiff, isB0, isB1, Int32.neg_neg, Nat.zero_add, Nat.add_zero, Nat.mul_zero, Nat.mul_one, Nat.zero_mul]
  · have kz := k4.2.2.1
    rcases term_l hN hz ho cC H hH hT n hn (z - p') 0 N p' fu' m' u1 u2 K' P' (by omega) (by omega) (by omega) k2 k4 (fun x hx => by have := k5 x hx; omega) k6 k7 k9 k10 with ⟨w1, w2, q, y1, y2, y3, y4⟩ | ⟨w1, w2, p2, K2, P2, f2, m2', y1, y2, y3, y4, y5, y6, y7, y8, y9, y10⟩
    · left
      exact ⟨w1, w2, q, by simp -dsimp -implicitDefEqProofs (disch := omega) only [X3_readsTerm, k1, y1, i32_lit, i32_add, i32_mul, i32_tn, i32_sub, le_t, le_f, lt_t, lt_f, eq_t, eq_f, eq_rfl, inR_t, ↓ob_x, obx_s, ↓bnd_s, ↓oT_x, oTx_s, ↓ite_x, itx_T, itx_F, ↓reduceIte, not_true_eq_false, not_false_eq_true, true_and, and_true, Nat.reduceAdd, Nat.reduceMul, Nat.reduceSub, Nat.reduceEqDiff, isB0, isB1, Int32.neg_neg, Nat.zero_add, Nat.add_zero, Nat.mul_zero, Nat.mul_one, Nat.zero_mul], y2, by rw [k3]; exact y3, y4⟩
    · right
      exact ⟨w1, w2, p2, K2, P2, f2, m2', by simp -dsimp -implicitDefEqProofs (disch := omega) only [X3_readsTerm, k1, y1, i32_lit, i32_add, i32_mul, i32_tn, i32_sub, le_t, le_f, lt_t, lt_f, eq_t, eq_f, eq_rfl, inR_t, ↓ob_x, obx_s, ↓bnd_s, ↓oT_x, oTx_s, ↓ite_x, itx_T, itx_F, ↓reduceIte, not_true_eq_false, not_false_eq_true, true_and, and_true, Nat.reduceAdd, Nat.reduceMul, Nat.reduceSub, Nat.reduceEqDiff, isB0, isB1, Int32.neg_neg, Nat.zero_add, Nat.add_zero, Nat.mul_zero, Nat.mul_one, Nat.zero_mul], y2, by rw [k3]; exact y3, y4, y5, y6, y7, by omega, y9, y10⟩
set_option maxRecDepth 100000 in
theorem sum_l {N z c s o : Nat} (hN : 6000 ≤ N) (hz : z ≤ 160) {B : Nat → Nat} {g0 h0 : Mem} {G : Nat → Int32 → Mem → Option (Int32 × Mem)} (ho : o ≤ 5) (cC : Clm N B z c s g0 h0 (G 5 (i32 o)) o 5 6 (5 * o + 4) 0 (fun p' P => ¬ lxS B z (plF B z p') = 42))
    (H : List Nat) (hH : cnt H = o) (hT : tpl 4 H) (n : Nat) (hn : n ≤ 5 * o + 3) : ∀ (k j fL p fu m : Nat) (gI gM : Mem) (K P : List Nat), p + k = z → k < fL → j < p → CSt B z c s g0 gI p (List.reverseAux P K) → MSt B z c s h0 gM p (P ++ H) K → (∀ x, x ∈ P → 5 ≤ rk x) → DP (List.reverseAux P K) (n + 1) → z + 1 < fu + p → m ≤ 1 → (fun p' P => ¬ lxS B z (plF B z p') = 42) p P →
    (∃ gI' gM' q, X3_readsSum_L8 N G (i32 o) fL (i32 1) (i32 j) gI = some (i32 0, gI') ∧ FlI c s g0 gI' q ∧ X6_eRead_L14 N fu (i32 0) (i32 m) gM = some (i32 0, gM') ∧ FlM c s h0 gM' q) ∨
    (∃ gI' gM' p' K' P' fu' m', X3_readsSum_L8 N G (i32 o) fL (i32 1) (i32 j) gI = some (i32 1, gI') ∧ CSt B z c s g0 gI' p' (List.reverseAux P' K') ∧ X6_eRead_L14 N fu (i32 0) (i32 m) gM = X6_eRead_L14 N fu' (i32 0) (i32 m') gM' ∧ MSt B z c s h0 gM' p' (P' ++ H) K' ∧ (∀ x, x ∈ P' → 5 ≤ rk x) ∧ DP (List.reverseAux P' K') (n + 1) ∧ z + 1 < fu' + p' ∧ p ≤ p' ∧ m' ≤ 1 ∧ ¬ lxS B z (plF B z p') = 42 ∧ ¬ lxS B z (plF B z p') = 43 ∧ ¬ lxS B z (plF B z p') = 45) := by
  intro k
  induction k using Nat.strongRecOn with
  | ind k ih =>
    intro j fL p fu m gI gM K P h1 h2 h3 hC hM hP hD hf hm hQ
    obtain ⟨fL, rfl⟩ : ∃ q, fL = q + 1 := ⟨fL - 1, by omega⟩
    have sy := hC.2.2.1.2.2.1
    have hc6 := hC.1
    have l3 := lxS_in B z (plF B z p)
    have l0 := plF_le (B := B) (by omega : p ≤ z)
    by_cases h43 : lxS B z (plF B z p) = 43
    · have l1 := lx_pos (B := B) (z := z) (q := plF B z p) (by omega)
      have l2 := lxN_le (B := B) l0.2
      have oe : opc (lxS B z (plF B z p)) = 16 := by rw [h43]; rfl
      have hu : uw (lst 16) (P ++ H) K = (H, List.reverseAux P K) := (uw_app (lst 16) P H K hP).trans (uw_stop (r := 4) (by decide) _ _ hT)
      have em : (if (16 : Nat) ≤ 12 then (1 : Nat) else 0) = 0 := rfl
      obtain ⟨fu, rfl⟩ : ∃ q, fu = q + 1 := ⟨fu - 1, by omega⟩
      obtain ⟨gM1, m1, m2⟩ := mw_op (fu := fu) (m := m) hN hM (by omega) (fun q => by rw [oe] at q; exact absurd q (by decide))
      rw [oe] at m2
      rw [oe, em] at m1
      rw [hu] at m2
      obtain ⟨gI1, b1, b2⟩ := cNext hN hC
      rcases cC gI1 gM1 _ (16 :: H) _ (n + 1) fu 0 b2 m2 (by show opn 16 + cnt H = o; rw [hH, show opn 16 = 0 from rfl]; omega) (by show rk 16 ≤ 5; decide) hD (by omega) (by omega) (by decide) (fun q => by omega) (fun _ _ => rfl) with ⟨u1, u2, q, k1, k2, k3, k4⟩ | ⟨u1, u2, p', K', P', fu', m', k1, k2, k3, k4, k5, k6, k7, k8, k9, k10⟩
      · left
        obtain ⟨u3, e1, e2⟩ := fl_add (N := N) k2 (-(i32 43))
        have tx1 := k2.2.2.2.1
        refine ⟨u3, u2, q, ?_, e2, by rw [m1]; exact k3, k4⟩
        obtain ⟨fL, rfl⟩ : ∃ q, fL = q + 1 := ⟨fL - 1, by omega⟩
        rw [h43] at sy
        simp -dsimp -implicitDefEqProofs (disch := omega) only [X3_readsSum_L8, sy, b1, k1, tx1, e1, i32_lit, i32_add, i32_mul, i32_tn, i32_sub, le_t, le_f, lt_t, lt_f, eq_t, eq_f, eq_rfl, inR_t, ↓ob_x, obx_s, ↓bnd_s, ↓oT_x, oTx_s, ↓ite_x, itx_T, itx_F, ↓reduceIte, not_true_eq_false, not_false_eq_true, true_and, and_true, Nat.reduceAdd, Nat.reduceMul, Nat.reduceSub, Nat.reduceEqDiff, isB0, isB1, Int32.neg_neg, Nat.zero_add, Nat.add_zero, Nat.mul_zero, Nat.mul_one, Nat.zero_mul]
      · have kb := k4.2.2.2.2.2
        have kz := k4.2.2.1
        rw [List.length_append, List.length_cons] at kb
        have rl := ra_len P' K'
        obtain ⟨u3, e1, e2⟩ := cAdd (N := N) (x := 16) k2 (by omega)
        have tx1 := k2.2.2.2.2.1
        have ec : cs 16 = -(i32 43) := rfl
        rw [ec] at e1
        rw [← ra_snoc] at e2
        have k4' : MSt B z c s h0 u2 p' ((P' ++ [16]) ++ H) K' := by rw [List.append_assoc]; exact k4
        have kd : DP (List.reverseAux (P' ++ [16]) K') (n + 1) := by
          rw [ra_snoc]
          exact ⟨n + 1 + 1, k6, Or.inr (Or.inr ⟨rfl, by omega, by omega, by omega⟩)⟩
        have kp : ∀ x, x ∈ P' ++ [16] → 5 ≤ rk x := fun x hx => by
          rcases List.mem_append.mp hx with hx | hx
          · have := k5 x hx; omega
          · rw [List.mem_singleton.mp hx]; decide
        rcases ih (z - p') (by omega) (j + 1) fL p' fu' m' u3 u2 K' (P' ++ [16]) (by omega) (by omega) (by omega) e2 k4' kp kd k7 k9 k10 with ⟨w1, w2, q, y1, y2, y3, y4⟩ | ⟨w1, w2, p2, K2, P2, f2, m2', y1, y2, y3, y4, y5, y6, y7, y8, y9, y10⟩
        · left
          refine ⟨w1, w2, q, ?_, y2, by rw [m1, k3]; exact y3, y4⟩
          rw [h43] at sy
          simp -dsimp -implicitDefEqProofs (disch := omega) only [X3_readsSum_L8, sy, b1, k1, tx1, e1, y1, i32_lit, i32_add, i32_mul, i32_tn, i32_sub, le_t, le_f, lt_t, lt_f, eq_t, eq_f, eq_rfl, inR_t, ↓ob_x, obx_s, ↓bnd_s, ↓oT_x, oTx_s, ↓ite_x, itx_T, itx_F, ↓reduceIte, not_true_eq_false, not_false_eq_true, true_and, and_true, Nat.reduceAdd, Nat.reduceMul, Nat.reduceSub, Nat.reduceEqDiff, isB0, isB1, Int32.neg_neg, Nat.zero_add, Nat.add_zero, Nat.mul_zero, Nat.mul_one, Nat.zero_mul]
        · right
          refine ⟨w1, w2, p2, K2, P2, f2, m2', ?_, y2, by rw [m1, k3]; exact y3, y4, y5, y6, y7, by omega, y9, y10⟩
          rw [h43] at sy
          simp -dsimp -implicitDefEqProofs (disch := omega) only [X3_readsSum_L8, sy, b1, k1, tx1, e1, y1, i32_lit, i32_add, i32_mul, i32_tn, i32_sub, le_t, le_f, lt_t, lt_f, eq_t, eq_f, eq_rfl, inR_t, ↓ob_x, obx_s, ↓bnd_s, ↓oT_x, oTx_s, ↓ite_x, itx_T, itx_F, ↓reduceIte, not_true_eq_false, not_false_eq_true, true_and, and_true, Nat.reduceAdd, Nat.reduceMul, Nat.reduceSub, Nat.reduceEqDiff, isB0, isB1, Int32.neg_neg, Nat.zero_add, Nat.add_zero, Nat.mul_zero, Nat.mul_one, Nat.zero_mul]
    by_cases h45 : lxS B z (plF B z p) = 45
    · have l1 := lx_pos (B := B) (z := z) (q := plF B z p) (by omega)
      have l2 := lxN_le (B := B) l0.2
      have oe : opc (lxS B z (plF B z p)) = 17 := by rw [h45]; rfl
      have hu : uw (lst 17) (P ++ H) K = (H, List.reverseAux P K) := (uw_app (lst 17) P H K hP).trans (uw_stop (r := 4) (by decide) _ _ hT)
      have em : (if (17 : Nat) ≤ 12 then (1 : Nat) else 0) = 0 := rfl
      obtain ⟨fu, rfl⟩ : ∃ q, fu = q + 1 := ⟨fu - 1, by omega⟩
      obtain ⟨gM1, m1, m2⟩ := mw_op (fu := fu) (m := m) hN hM (by omega) (fun q => by rw [oe] at q; exact absurd q (by decide))
      rw [oe] at m2
      rw [oe, em] at m1
      rw [hu] at m2
      obtain ⟨gI1, b1, b2⟩ := cNext hN hC
      rcases cC gI1 gM1 _ (17 :: H) _ (n + 1) fu 0 b2 m2 (by show opn 17 + cnt H = o; rw [hH, show opn 17 = 0 from rfl]; omega) (by show rk 17 ≤ 5; decide) hD (by omega) (by omega) (by decide) (fun q => by omega) (fun _ _ => rfl) with ⟨u1, u2, q, k1, k2, k3, k4⟩ | ⟨u1, u2, p', K', P', fu', m', k1, k2, k3, k4, k5, k6, k7, k8, k9, k10⟩
      · left
        obtain ⟨u3, e1, e2⟩ := fl_add (N := N) k2 (-(i32 45))
        have tx1 := k2.2.2.2.1
        refine ⟨u3, u2, q, ?_, e2, by rw [m1]; exact k3, k4⟩
        obtain ⟨fL, rfl⟩ : ∃ q, fL = q + 1 := ⟨fL - 1, by omega⟩
        rw [h45] at sy
        simp -dsimp -implicitDefEqProofs (disch := omega) only [X3_readsSum_L8, sy, b1, k1, tx1, e1, i32_lit, i32_add, i32_mul, i32_tn, i32_sub, le_t, le_f, lt_t, lt_f, eq_t, eq_f, eq_rfl, inR_t, ↓ob_x, obx_s, ↓bnd_s, ↓oT_x, oTx_s, ↓ite_x, itx_T, itx_F, ↓reduceIte, not_true_eq_false, not_false_eq_true, true_and, and_true, Nat.reduceAdd, Nat.reduceMul, Nat.reduceSub, Nat.reduceEqDiff, isB0, isB1, Int32.neg_neg, Nat.zero_add, Nat.add_zero, Nat.mul_zero, Nat.mul_one, Nat.zero_mul]
      · have kb := k4.2.2.2.2.2
        have kz := k4.2.2.1
        rw [List.length_append, List.length_cons] at kb
        have rl := ra_len P' K'
        obtain ⟨u3, e1, e2⟩ := cAdd (N := N) (x := 17) k2 (by omega)
        have tx1 := k2.2.2.2.2.1
        have ec : cs 17 = -(i32 45) := rfl
        rw [ec] at e1
        rw [← ra_snoc] at e2
        have k4' : MSt B z c s h0 u2 p' ((P' ++ [17]) ++ H) K' := by rw [List.append_assoc]; exact k4
        have kd : DP (List.reverseAux (P' ++ [17]) K') (n + 1) := by
          rw [ra_snoc]
          exact ⟨n + 1 + 1, k6, Or.inr (Or.inr ⟨rfl, by omega, by omega, by omega⟩)⟩
        have kp : ∀ x, x ∈ P' ++ [17] → 5 ≤ rk x := fun x hx => by
          rcases List.mem_append.mp hx with hx | hx
          · have := k5 x hx; omega
          · rw [List.mem_singleton.mp hx]; decide
        rcases ih (z - p') (by omega) (j + 1) fL p' fu' m' u3 u2 K' (P' ++ [17]) (by omega) (by omega) (by omega) e2 k4' kp kd k7 k9 k10 with ⟨w1, w2, q, y1, y2, y3, y4⟩ | ⟨w1, w2, p2, K2, P2, f2, m2', y1, y2, y3, y4, y5, y6, y7, y8, y9, y10⟩
        · left
          refine ⟨w1, w2, q, ?_, y2, by rw [m1, k3]; exact y3, y4⟩
          rw [h45] at sy
          simp -dsimp -implicitDefEqProofs (disch := omega) only [X3_readsSum_L8, sy, b1, k1, tx1, e1, y1, i32_lit, i32_add, i32_mul, i32_tn, i32_sub, le_t, le_f, lt_t, lt_f, eq_t, eq_f, eq_rfl, inR_t, ↓ob_x, obx_s, ↓bnd_s, ↓oT_x, oTx_s, ↓ite_x, itx_T, itx_F, ↓reduceIte, not_true_eq_false, not_false_eq_true, true_and, and_true, Nat.reduceAdd, Nat.reduceMul, Nat.reduceSub, Nat.reduceEqDiff, isB0, isB1, Int32.neg_neg, Nat.zero_add, Nat.add_zero, Nat.mul_zero, Nat.mul_one, Nat.zero_mul]
        · right
          refine ⟨w1, w2, p2, K2, P2, f2, m2', ?_, y2, by rw [m1, k3]; exact y3, y4, y5, y6, y7, by omega, y9, y10⟩
          rw [h45] at sy
          simp -dsimp -implicitDefEqProofs (disch := omega) only [X3_readsSum_L8, sy, b1, k1, tx1, e1, y1, i32_lit, i32_add, i32_mul, i32_tn, i32_sub, le_t, le_f, lt_t, lt_f, eq_t, eq_f, eq_rfl, inR_t, ↓ob_x, obx_s, ↓bnd_s, ↓oT_x, oTx_s, ↓ite_x, itx_T, itx_F, ↓reduceIte, not_true_eq_false, not_false_eq_true, true_and, and_true, Nat.reduceAdd, Nat.reduceMul, Nat.reduceSub, Nat.reduceEqDiff, isB0, isB1, Int32.neg_neg, Nat.zero_add, Nat.add_zero, Nat.mul_zero, Nat.mul_one, Nat.zero_mul]
    right
    refine ⟨gI, gM, p, K, P, fu, m, ?_, hC, rfl, hM, hP, hD, hf, Nat.le_refl p, hm, ⟨hQ, h43, h45⟩⟩
    simp -dsimp -implicitDefEqProofs (disch := omega) only [X3_readsSum_L8, sy, i32_lit, i32_add, i32_mul, i32_tn, i32_sub, le_t, le_f, lt_t, lt_f, eq_t, eq_f, eq_rfl, inR_t, ↓ob_x, obx_s, ↓bnd_s, ↓oT_x, oTx_s, ↓ite_x, itx_T, itx_F, ↓reduceIte, not_true_eq_false, not_false_eq_true, true_and, and_true, Nat.reduceAdd, Nat.reduceMul, Nat.reduceSub, Nat.reduceEqDiff, isB0, isB1, Int32.neg_neg, Nat.zero_add, Nat.add_zero, Nat.mul_zero, Nat.mul_one, Nat.zero_mul]
set_option maxRecDepth 100000 in
theorem sum_c {N z c s o : Nat} (hN : 6000 ≤ N) (hz : z ≤ 160) {B : Nat → Nat} {g0 h0 : Mem} {G : Nat → Int32 → Mem → Option (Int32 × Mem)} (ho : o ≤ 5) (cC : Clm N B z c s g0 h0 (G 5 (i32 o)) o 5 6 (5 * o + 4) 0 (fun p' P => ¬ lxS B z (plF B z p') = 42)) : Clm N B z c s g0 h0 (X3_readsSum N G (i32 o)) o 4 5 (5 * o + 3) 0 (fun p' P => ¬ lxS B z (plF B z p') = 42 ∧ ¬ lxS B z (plF B z p') = 43 ∧ ¬ lxS B z (plF B z p') = 45) := by
  intro gI gM p H K n fu m hC hM hH hT hD hn hf hm q1 q0
  obtain ⟨N', hN'⟩ : ∃ q, N = q + 1 := ⟨N - 1, by omega⟩
  rcases cC gI gM p H K n fu m hC hM hH (tpl_up (by omega) H hT) hD (by omega) hf hm q1 q0 with ⟨u1, u2, q, k1, k2, k3, k4⟩ | ⟨u1, u2, p', K', P', fu', m', k1, k2, k3, k4, k5, k6, k7, k8, k9, k10⟩
  · left
    refine ⟨u1, u2, q, ?_, k2, k3, k4⟩
    have z1 : ∀ M, X3_readsSum_L8 M G (i32 o) (N' + 1) (i32 0) (i32 0) u1 = some (i32 0, u1) := fun M => by simp -dsimp -implicitDefEqProofs (disch := omega) only [X3_readsSum_L8, i32_lit, i32_add, i32_mul, i32_tn, i32_sub, le_t, le_f, lt_t, lt_f, eq_t, eq_f, eq_rfl, inR_t, ↓ob_x, obx_s, ↓bnd_s, ↓oT_x, oTx_s, ↓ite_x, itx_T, itx_F, ↓reduceIte, not_true_eq_false, not_false_eq_true, true_and, and_true, Nat.reduceAdd, Nat.reduceMul, Nat.reduceSub, Nat.reduceEqDiff, isB0, isB1, Int32.neg_neg, Nat.zero_add, Nat.add_zero, Nat.mul_zero, Nat.mul_one, Nat.zero_mul]
    have z2 := z1 N
    rw [← hN'] at z2
    simp -dsimp -implicitDefEqProofs (disch := omega) only [X3_readsSum, k1, z2, i32_lit, i32_add, i32_mul, i32_tn, i32_sub, le_t, le_f, lt_t, lt_f, eq_t, eq_f, eq_rfl, inR_t, ↓ob_x, obx_s, ↓bnd_s, ↓oT_x, oTx_s, ↓ite_x, itx_T, itx_F, ↓reduceIte, not_true_eq_false, not_false_eq_true, true_and, and_true, Nat.reduceAdd, Nat.reduceMul, Nat.reduceSub, Nat.reduceEqDiff, isB0, isB1, Int32.neg_neg, Nat.zero_add, Nat.add_zero, Nat.mul_zero, Nat.mul_one, Nat.zero_mul]
  · have kz := k4.2.2.1
    rcases sum_l hN hz ho cC H hH hT n hn (z - p') 0 N p' fu' m' u1 u2 K' P' (by omega) (by omega) (by omega) k2 k4 (fun x hx => by have := k5 x hx; omega) k6 k7 k9 k10 with ⟨w1, w2, q, y1, y2, y3, y4⟩ | ⟨w1, w2, p2, K2, P2, f2, m2', y1, y2, y3, y4, y5, y6, y7, y8, y9, y10⟩
    · left
      exact ⟨w1, w2, q, by simp -dsimp -implicitDefEqProofs (disch := omega) only [X3_readsSum, k1, y1, i32_lit, i32_add, i32_mul, i32_tn, i32_sub, le_t, le_f, lt_t, lt_f, eq_t, eq_f, eq_rfl, inR_t, ↓ob_x, obx_s, ↓bnd_s, ↓oT_x, oTx_s, ↓ite_x, itx_T, itx_F, ↓reduceIte, not_true_eq_false, not_false_eq_true, true_and, and_true, Nat.reduceAdd, Nat.reduceMul, Nat.reduceSub, Nat.reduceEqDiff, isB0, isB1, Int32.neg_neg, Nat.zero_add, Nat.add_zero, Nat.mul_zero, Nat.mul_one, Nat.zero_mul], y2, by rw [k3]; exact y3, y4⟩
    · right
      exact ⟨w1, w2, p2, K2, P2, f2, m2', by simp -dsimp -implicitDefEqProofs (disch := omega) only [X3_readsSum, k1, y1, i32_lit, i32_add, i32_mul, i32_tn, i32_sub, le_t, le_f, lt_t, lt_f, eq_t, eq_f, eq_rfl, inR_t, ↓ob_x, obx_s, ↓bnd_s, ↓oT_x, oTx_s, ↓ite_x, itx_T, itx_F, ↓reduceIte, not_true_eq_false, not_false_eq_true, true_and, and_true, Nat.reduceAdd, Nat.reduceMul, Nat.reduceSub, Nat.reduceEqDiff, isB0, isB1, Int32.neg_neg, Nat.zero_add, Nat.add_zero, Nat.mul_zero, Nat.mul_one, Nat.zero_mul], y2, by rw [k3]; exact y3, y4, y5, y6, y7, by omega, y9, y10⟩
set_option maxRecDepth 100000 in
theorem and_l {N z c s o : Nat} (hN : 6000 ≤ N) (hz : z ≤ 160) {B : Nat → Nat} {g0 h0 : Mem} {G : Nat → Int32 → Mem → Option (Int32 × Mem)} (ho : o ≤ 5) (cC : Clm N B z c s g0 h0 (G 2 (i32 o)) o 3 3 (5 * o + 2) 1 (fun p' P => nxt B z p' P))
    (H : List Nat) (hH : cnt H = o) (hT : tpl 1 H) (n : Nat) (hn : n ≤ 5 * o + 1) : ∀ (k j fL p fu m : Nat) (gI gM : Mem) (K P : List Nat), p + k = z → k < fL → j < p → CSt B z c s g0 gI p (List.reverseAux P K) → MSt B z c s h0 gM p (P ++ H) K → (∀ x, x ∈ P → 2 ≤ rk x) → DP (List.reverseAux P K) (n + 1) → z + 1 < fu + p → m ≤ 1 → (fun p' P => nxt B z p' P) p P →
    (∃ gI' gM' q, X3_readsAnd_L8 N G (i32 o) fL (i32 1) (i32 j) gI = some (i32 0, gI') ∧ FlI c s g0 gI' q ∧ X6_eRead_L14 N fu (i32 0) (i32 m) gM = some (i32 0, gM') ∧ FlM c s h0 gM' q) ∨
    (∃ gI' gM' p' K' P' fu' m', X3_readsAnd_L8 N G (i32 o) fL (i32 1) (i32 j) gI = some (i32 1, gI') ∧ CSt B z c s g0 gI' p' (List.reverseAux P' K') ∧ X6_eRead_L14 N fu (i32 0) (i32 m) gM = X6_eRead_L14 N fu' (i32 0) (i32 m') gM' ∧ MSt B z c s h0 gM' p' (P' ++ H) K' ∧ (∀ x, x ∈ P' → 2 ≤ rk x) ∧ DP (List.reverseAux P' K') (n + 1) ∧ z + 1 < fu' + p' ∧ p ≤ p' ∧ m' ≤ 1 ∧ nxt B z p' P' ∧ ¬ lxS B z (plF B z p') = 263) := by
  intro k
  induction k using Nat.strongRecOn with
  | ind k ih =>
    intro j fL p fu m gI gM K P h1 h2 h3 hC hM hP hD hf hm hQ
    obtain ⟨fL, rfl⟩ : ∃ q, fL = q + 1 := ⟨fL - 1, by omega⟩
    have sy := hC.2.2.1.2.2.1
    have hc6 := hC.1
    have l3 := lxS_in B z (plF B z p)
    have l0 := plF_le (B := B) (by omega : p ≤ z)
    by_cases h263 : lxS B z (plF B z p) = 263
    · have l1 := lx_pos (B := B) (z := z) (q := plF B z p) (by omega)
      have l2 := lxN_le (B := B) l0.2
      have oe : opc (lxS B z (plF B z p)) = 12 := by rw [h263]; rfl
      have hu : uw (lst 12) (P ++ H) K = (H, List.reverseAux P K) := (uw_app (lst 12) P H K hP).trans (uw_stop (r := 1) (by decide) _ _ hT)
      have em : (if (12 : Nat) ≤ 12 then (1 : Nat) else 0) = 1 := rfl
      obtain ⟨fu, rfl⟩ : ∃ q, fu = q + 1 := ⟨fu - 1, by omega⟩
      obtain ⟨gM1, m1, m2⟩ := mw_op (fu := fu) (m := m) hN hM (by omega) (fun q => by rw [oe] at q; exact absurd q (by decide))
      rw [oe] at m2
      rw [oe, em] at m1
      rw [hu] at m2
      obtain ⟨gI1, b1, b2⟩ := cNext hN hC
      rcases cC gI1 gM1 _ (12 :: H) _ (n + 1) fu 1 b2 m2 (by show opn 12 + cnt H = o; rw [hH, show opn 12 = 0 from rfl]; omega) (by show rk 12 ≤ 3; decide) hD (by omega) (by omega) (by decide) (fun _ => rfl) (fun q => by omega) with ⟨u1, u2, q, k1, k2, k3, k4⟩ | ⟨u1, u2, p', K', P', fu', m', k1, k2, k3, k4, k5, k6, k7, k8, k9, k10⟩
      · left
        obtain ⟨u3, e1, e2⟩ := fl_add (N := N) k2 (-(i32 263))
        have tx1 := k2.2.2.2.1
        refine ⟨u3, u2, q, ?_, e2, by rw [m1]; exact k3, k4⟩
        obtain ⟨fL, rfl⟩ : ∃ q, fL = q + 1 := ⟨fL - 1, by omega⟩
        rw [h263] at sy
        simp -dsimp -implicitDefEqProofs (disch := omega) only [X3_readsAnd_L8, sy, b1, k1, tx1, e1, i32_lit, i32_add, i32_mul, i32_tn, i32_sub, le_t, le_f, lt_t, lt_f, eq_t, eq_f, eq_rfl, inR_t, ↓ob_x, obx_s, ↓bnd_s, ↓oT_x, oTx_s, ↓ite_x, itx_T, itx_F, ↓reduceIte, not_true_eq_false, not_false_eq_true, true_and, and_true, Nat.reduceAdd, Nat.reduceMul, Nat.reduceSub, Nat.reduceEqDiff, isB0, isB1, Int32.neg_neg, Nat.zero_add, Nat.add_zero, Nat.mul_zero, Nat.mul_one, Nat.zero_mul]
      · have kb := k4.2.2.2.2.2
        have kz := k4.2.2.1
        rw [List.length_append, List.length_cons] at kb
        have rl := ra_len P' K'
        obtain ⟨u3, e1, e2⟩ := cAdd (N := N) (x := 12) k2 (by omega)
        have tx1 := k2.2.2.2.2.1
        have ec : cs 12 = -(i32 263) := rfl
        rw [ec] at e1
        rw [← ra_snoc] at e2
        have k4' : MSt B z c s h0 u2 p' ((P' ++ [12]) ++ H) K' := by rw [List.append_assoc]; exact k4
        have kd : DP (List.reverseAux (P' ++ [12]) K') (n + 1) := by
          rw [ra_snoc]
          exact ⟨n + 1 + 1, k6, Or.inr (Or.inr ⟨rfl, by omega, by omega, by omega⟩)⟩
        have kp : ∀ x, x ∈ P' ++ [12] → 2 ≤ rk x := fun x hx => by
          rcases List.mem_append.mp hx with hx | hx
          · have := k5 x hx; omega
          · rw [List.mem_singleton.mp hx]; decide
        rcases ih (z - p') (by omega) (j + 1) fL p' fu' m' u3 u2 K' (P' ++ [12]) (by omega) (by omega) (by omega) e2 k4' kp kd k7 k9 ⟨k10.1, k10.2.1, k10.2.2.1, fun q => top5_app (k10.2.2.2 q) _⟩ with ⟨w1, w2, q, y1, y2, y3, y4⟩ | ⟨w1, w2, p2, K2, P2, f2, m2', y1, y2, y3, y4, y5, y6, y7, y8, y9, y10⟩
        · left
          refine ⟨w1, w2, q, ?_, y2, by rw [m1, k3]; exact y3, y4⟩
          rw [h263] at sy
          simp -dsimp -implicitDefEqProofs (disch := omega) only [X3_readsAnd_L8, sy, b1, k1, tx1, e1, y1, i32_lit, i32_add, i32_mul, i32_tn, i32_sub, le_t, le_f, lt_t, lt_f, eq_t, eq_f, eq_rfl, inR_t, ↓ob_x, obx_s, ↓bnd_s, ↓oT_x, oTx_s, ↓ite_x, itx_T, itx_F, ↓reduceIte, not_true_eq_false, not_false_eq_true, true_and, and_true, Nat.reduceAdd, Nat.reduceMul, Nat.reduceSub, Nat.reduceEqDiff, isB0, isB1, Int32.neg_neg, Nat.zero_add, Nat.add_zero, Nat.mul_zero, Nat.mul_one, Nat.zero_mul]
        · right
          refine ⟨w1, w2, p2, K2, P2, f2, m2', ?_, y2, by rw [m1, k3]; exact y3, y4, y5, y6, y7, by omega, y9, y10⟩
          rw [h263] at sy
          simp -dsimp -implicitDefEqProofs (disch := omega) only [X3_readsAnd_L8, sy, b1, k1, tx1, e1, y1, i32_lit, i32_add, i32_mul, i32_tn, i32_sub, le_t, le_f, lt_t, lt_f, eq_t, eq_f, eq_rfl, inR_t, ↓ob_x, obx_s, ↓bnd_s, ↓oT_x, oTx_s, ↓ite_x, itx_T, itx_F, ↓reduceIte, not_true_eq_false, not_false_eq_true, true_and, and_true, Nat.reduceAdd, Nat.reduceMul, Nat.reduceSub, Nat.reduceEqDiff, isB0, isB1, Int32.neg_neg, Nat.zero_add, Nat.add_zero, Nat.mul_zero, Nat.mul_one, Nat.zero_mul]
    right
    refine ⟨gI, gM, p, K, P, fu, m, ?_, hC, rfl, hM, hP, hD, hf, Nat.le_refl p, hm, ⟨hQ, h263⟩⟩
    simp -dsimp -implicitDefEqProofs (disch := omega) only [X3_readsAnd_L8, sy, i32_lit, i32_add, i32_mul, i32_tn, i32_sub, le_t, le_f, lt_t, lt_f, eq_t, eq_f, eq_rfl, inR_t, ↓ob_x, obx_s, ↓bnd_s, ↓oT_x, oTx_s, ↓ite_x, itx_T, itx_F, ↓reduceIte, not_true_eq_false, not_false_eq_true, true_and, and_true, Nat.reduceAdd, Nat.reduceMul, Nat.reduceSub, Nat.reduceEqDiff, isB0, isB1, Int32.neg_neg, Nat.zero_add, Nat.add_zero, Nat.mul_zero, Nat.mul_one, Nat.zero_mul]
set_option maxRecDepth 100000 in
theorem and_c {N z c s o : Nat} (hN : 6000 ≤ N) (hz : z ≤ 160) {B : Nat → Nat} {g0 h0 : Mem} {G : Nat → Int32 → Mem → Option (Int32 × Mem)} (ho : o ≤ 5) (cC : Clm N B z c s g0 h0 (G 2 (i32 o)) o 3 3 (5 * o + 2) 1 (fun p' P => nxt B z p' P)) : Clm N B z c s g0 h0 (X3_readsAnd N G (i32 o)) o 1 2 (5 * o + 1) 1 (fun p' P => nxt B z p' P ∧ ¬ lxS B z (plF B z p') = 263) := by
  intro gI gM p H K n fu m hC hM hH hT hD hn hf hm q1 q0
  obtain ⟨N', hN'⟩ : ∃ q, N = q + 1 := ⟨N - 1, by omega⟩
  rcases cC gI gM p H K n fu m hC hM hH (tpl_up (by omega) H hT) hD (by omega) hf hm q1 q0 with ⟨u1, u2, q, k1, k2, k3, k4⟩ | ⟨u1, u2, p', K', P', fu', m', k1, k2, k3, k4, k5, k6, k7, k8, k9, k10⟩
  · left
    refine ⟨u1, u2, q, ?_, k2, k3, k4⟩
    have z1 : ∀ M, X3_readsAnd_L8 M G (i32 o) (N' + 1) (i32 0) (i32 0) u1 = some (i32 0, u1) := fun M => by simp -dsimp -implicitDefEqProofs (disch := omega) only [X3_readsAnd_L8, i32_lit, i32_add, i32_mul, i32_tn, i32_sub, le_t, le_f, lt_t, lt_f, eq_t, eq_f, eq_rfl, inR_t, ↓ob_x, obx_s, ↓bnd_s, ↓oT_x, oTx_s, ↓ite_x, itx_T, itx_F, ↓reduceIte, not_true_eq_false, not_false_eq_true, true_and, and_true, Nat.reduceAdd, Nat.reduceMul, Nat.reduceSub, Nat.reduceEqDiff, isB0, isB1, Int32.neg_neg, Nat.zero_add, Nat.add_zero, Nat.mul_zero, Nat.mul_one, Nat.zero_mul]
    have z2 := z1 N
    rw [← hN'] at z2
    simp -dsimp -implicitDefEqProofs (disch := omega) only [X3_readsAnd, k1, z2, i32_lit, i32_add, i32_mul, i32_tn, i32_sub, le_t, le_f, lt_t, lt_f, eq_t, eq_f, eq_rfl, inR_t, ↓ob_x, obx_s, ↓bnd_s, ↓oT_x, oTx_s, ↓ite_x, itx_T, itx_F, ↓reduceIte, not_true_eq_false, not_false_eq_true, true_and, and_true, Nat.reduceAdd, Nat.reduceMul, Nat.reduceSub, Nat.reduceEqDiff, isB0, isB1, Int32.neg_neg, Nat.zero_add, Nat.add_zero, Nat.mul_zero, Nat.mul_one, Nat.zero_mul]
  · have kz := k4.2.2.1
    rcases and_l hN hz ho cC H hH hT n hn (z - p') 0 N p' fu' m' u1 u2 K' P' (by omega) (by omega) (by omega) k2 k4 (fun x hx => by have := k5 x hx; omega) k6 k7 k9 k10 with ⟨w1, w2, q, y1, y2, y3, y4⟩ | ⟨w1, w2, p2, K2, P2, f2, m2', y1, y2, y3, y4, y5, y6, y7, y8, y9, y10⟩
    · left
      exact ⟨w1, w2, q, by simp -dsimp -implicitDefEqProofs (disch := omega) only [X3_readsAnd, k1, y1, i32_lit, i32_add, i32_mul, i32_tn, i32_sub, le_t, le_f, lt_t, lt_f, eq_t, eq_f, eq_rfl, inR_t, ↓ob_x, obx_s, ↓bnd_s, ↓oT_x, oTx_s, ↓ite_x, itx_T, itx_F, ↓reduceIte, not_true_eq_false, not_false_eq_true, true_and, and_true, Nat.reduceAdd, Nat.reduceMul, Nat.reduceSub, Nat.reduceEqDiff, isB0, isB1, Int32.neg_neg, Nat.zero_add, Nat.add_zero, Nat.mul_zero, Nat.mul_one, Nat.zero_mul], y2, by rw [k3]; exact y3, y4⟩
    · right
      exact ⟨w1, w2, p2, K2, P2, f2, m2', by simp -dsimp -implicitDefEqProofs (disch := omega) only [X3_readsAnd, k1, y1, i32_lit, i32_add, i32_mul, i32_tn, i32_sub, le_t, le_f, lt_t, lt_f, eq_t, eq_f, eq_rfl, inR_t, ↓ob_x, obx_s, ↓bnd_s, ↓oT_x, oTx_s, ↓ite_x, itx_T, itx_F, ↓reduceIte, not_true_eq_false, not_false_eq_true, true_and, and_true, Nat.reduceAdd, Nat.reduceMul, Nat.reduceSub, Nat.reduceEqDiff, isB0, isB1, Int32.neg_neg, Nat.zero_add, Nat.add_zero, Nat.mul_zero, Nat.mul_one, Nat.zero_mul], y2, by rw [k3]; exact y3, y4, y5, y6, y7, by omega, y9, y10⟩
set_option maxRecDepth 100000 in
theorem or_l {N z c s o : Nat} (hN : 6000 ≤ N) (hz : z ≤ 160) {B : Nat → Nat} {g0 h0 : Mem} {G : Nat → Int32 → Mem → Option (Int32 × Mem)} (ho : o ≤ 5) (cC : Clm N B z c s g0 h0 (G 1 (i32 o)) o 1 2 (5 * o + 1) 1 (fun p' P => nxt B z p' P ∧ ¬ lxS B z (plF B z p') = 263))
    (H : List Nat) (hH : cnt H = o) (hT : tpl 0 H) (n : Nat) (hn : n ≤ 5 * o) : ∀ (k j fL p fu m : Nat) (gI gM : Mem) (K P : List Nat), p + k = z → k < fL → j < p → CSt B z c s g0 gI p (List.reverseAux P K) → MSt B z c s h0 gM p (P ++ H) K → (∀ x, x ∈ P → 1 ≤ rk x) → DP (List.reverseAux P K) (n + 1) → z + 1 < fu + p → m ≤ 1 → (fun p' P => nxt B z p' P ∧ ¬ lxS B z (plF B z p') = 263) p P →
    (∃ gI' gM' q, X3_readsOr_L8 N G (i32 o) fL (i32 1) (i32 j) gI = some (i32 0, gI') ∧ FlI c s g0 gI' q ∧ X6_eRead_L14 N fu (i32 0) (i32 m) gM = some (i32 0, gM') ∧ FlM c s h0 gM' q) ∨
    (∃ gI' gM' p' K' P' fu' m', X3_readsOr_L8 N G (i32 o) fL (i32 1) (i32 j) gI = some (i32 1, gI') ∧ CSt B z c s g0 gI' p' (List.reverseAux P' K') ∧ X6_eRead_L14 N fu (i32 0) (i32 m) gM = X6_eRead_L14 N fu' (i32 0) (i32 m') gM' ∧ MSt B z c s h0 gM' p' (P' ++ H) K' ∧ (∀ x, x ∈ P' → 1 ≤ rk x) ∧ DP (List.reverseAux P' K') (n + 1) ∧ z + 1 < fu' + p' ∧ p ≤ p' ∧ m' ≤ 1 ∧ nxt B z p' P' ∧ ¬ lxS B z (plF B z p') = 263 ∧ ¬ lxS B z (plF B z p') = 264) := by
  intro k
  induction k using Nat.strongRecOn with
  | ind k ih =>
    intro j fL p fu m gI gM K P h1 h2 h3 hC hM hP hD hf hm hQ
    obtain ⟨fL, rfl⟩ : ∃ q, fL = q + 1 := ⟨fL - 1, by omega⟩
    have sy := hC.2.2.1.2.2.1
    have hc6 := hC.1
    have l3 := lxS_in B z (plF B z p)
    have l0 := plF_le (B := B) (by omega : p ≤ z)
    by_cases h264 : lxS B z (plF B z p) = 264
    · have l1 := lx_pos (B := B) (z := z) (q := plF B z p) (by omega)
      have l2 := lxN_le (B := B) l0.2
      have oe : opc (lxS B z (plF B z p)) = 11 := by rw [h264]; rfl
      have hu : uw (lst 11) (P ++ H) K = (H, List.reverseAux P K) := (uw_app (lst 11) P H K hP).trans (uw_stop (r := 0) (by decide) _ _ hT)
      have em : (if (11 : Nat) ≤ 12 then (1 : Nat) else 0) = 1 := rfl
      obtain ⟨fu, rfl⟩ : ∃ q, fu = q + 1 := ⟨fu - 1, by omega⟩
      obtain ⟨gM1, m1, m2⟩ := mw_op (fu := fu) (m := m) hN hM (by omega) (fun q => by rw [oe] at q; exact absurd q (by decide))
      rw [oe] at m2
      rw [oe, em] at m1
      rw [hu] at m2
      obtain ⟨gI1, b1, b2⟩ := cNext hN hC
      rcases cC gI1 gM1 _ (11 :: H) _ (n + 1) fu 1 b2 m2 (by show opn 11 + cnt H = o; rw [hH, show opn 11 = 0 from rfl]; omega) (by show rk 11 ≤ 1; decide) hD (by omega) (by omega) (by decide) (fun _ => rfl) (fun q => by omega) with ⟨u1, u2, q, k1, k2, k3, k4⟩ | ⟨u1, u2, p', K', P', fu', m', k1, k2, k3, k4, k5, k6, k7, k8, k9, k10⟩
      · left
        obtain ⟨u3, e1, e2⟩ := fl_add (N := N) k2 (-(i32 264))
        have tx1 := k2.2.2.2.1
        refine ⟨u3, u2, q, ?_, e2, by rw [m1]; exact k3, k4⟩
        obtain ⟨fL, rfl⟩ : ∃ q, fL = q + 1 := ⟨fL - 1, by omega⟩
        rw [h264] at sy
        simp -dsimp -implicitDefEqProofs (disch := omega) only [X3_readsOr_L8, sy, b1, k1, tx1, e1, i32_lit, i32_add, i32_mul, i32_tn, i32_sub, le_t, le_f, lt_t, lt_f, eq_t, eq_f, eq_rfl, inR_t, ↓ob_x, obx_s, ↓bnd_s, ↓oT_x, oTx_s, ↓ite_x, itx_T, itx_F, ↓reduceIte, not_true_eq_false, not_false_eq_true, true_and, and_true, Nat.reduceAdd, Nat.reduceMul, Nat.reduceSub, Nat.reduceEqDiff, isB0, isB1, Int32.neg_neg, Nat.zero_add, Nat.add_zero, Nat.mul_zero, Nat.mul_one, Nat.zero_mul]
      · have kb := k4.2.2.2.2.2
        have kz := k4.2.2.1
        rw [List.length_append, List.length_cons] at kb
        have rl := ra_len P' K'
        obtain ⟨u3, e1, e2⟩ := cAdd (N := N) (x := 11) k2 (by omega)
        have tx1 := k2.2.2.2.2.1
        have ec : cs 11 = -(i32 264) := rfl
        rw [ec] at e1
        rw [← ra_snoc] at e2
        have k4' : MSt B z c s h0 u2 p' ((P' ++ [11]) ++ H) K' := by rw [List.append_assoc]; exact k4
        have kd : DP (List.reverseAux (P' ++ [11]) K') (n + 1) := by
          rw [ra_snoc]
          exact ⟨n + 1 + 1, k6, Or.inr (Or.inr ⟨rfl, by omega, by omega, by omega⟩)⟩
        have kp : ∀ x, x ∈ P' ++ [11] → 1 ≤ rk x := fun x hx => by
          rcases List.mem_append.mp hx with hx | hx
          · have := k5 x hx; omega
          · rw [List.mem_singleton.mp hx]; decide
        rcases ih (z - p') (by omega) (j + 1) fL p' fu' m' u3 u2 K' (P' ++ [11]) (by omega) (by omega) (by omega) e2 k4' kp kd k7 k9 ⟨⟨k10.1.1, k10.1.2.1, k10.1.2.2.1, fun q => top5_app (k10.1.2.2.2 q) _⟩, k10.2⟩ with ⟨w1, w2, q, y1, y2, y3, y4⟩ | ⟨w1, w2, p2, K2, P2, f2, m2', y1, y2, y3, y4, y5, y6, y7, y8, y9, y10⟩
        · left
          refine ⟨w1, w2, q, ?_, y2, by rw [m1, k3]; exact y3, y4⟩
          rw [h264] at sy
          simp -dsimp -implicitDefEqProofs (disch := omega) only [X3_readsOr_L8, sy, b1, k1, tx1, e1, y1, i32_lit, i32_add, i32_mul, i32_tn, i32_sub, le_t, le_f, lt_t, lt_f, eq_t, eq_f, eq_rfl, inR_t, ↓ob_x, obx_s, ↓bnd_s, ↓oT_x, oTx_s, ↓ite_x, itx_T, itx_F, ↓reduceIte, not_true_eq_false, not_false_eq_true, true_and, and_true, Nat.reduceAdd, Nat.reduceMul, Nat.reduceSub, Nat.reduceEqDiff, isB0, isB1, Int32.neg_neg, Nat.zero_add, Nat.add_zero, Nat.mul_zero, Nat.mul_one, Nat.zero_mul]
        · right
          refine ⟨w1, w2, p2, K2, P2, f2, m2', ?_, y2, by rw [m1, k3]; exact y3, y4, y5, y6, y7, by omega, y9, y10⟩
          rw [h264] at sy
          simp -dsimp -implicitDefEqProofs (disch := omega) only [X3_readsOr_L8, sy, b1, k1, tx1, e1, y1, i32_lit, i32_add, i32_mul, i32_tn, i32_sub, le_t, le_f, lt_t, lt_f, eq_t, eq_f, eq_rfl, inR_t, ↓ob_x, obx_s, ↓bnd_s, ↓oT_x, oTx_s, ↓ite_x, itx_T, itx_F, ↓reduceIte, not_true_eq_false, not_false_eq_true, true_and, and_true, Nat.reduceAdd, Nat.reduceMul, Nat.reduceSub, Nat.reduceEqDiff, isB0, isB1, Int32.neg_neg, Nat.zero_add, Nat.add_zero, Nat.mul_zero, Nat.mul_one, Nat.zero_mul]
    right
    refine ⟨gI, gM, p, K, P, fu, m, ?_, hC, rfl, hM, hP, hD, hf, Nat.le_refl p, hm, ⟨hQ.1, hQ.2, h264⟩⟩
    simp -dsimp -implicitDefEqProofs (disch := omega) only [X3_readsOr_L8, sy, i32_lit, i32_add, i32_mul, i32_tn, i32_sub, le_t, le_f, lt_t, lt_f, eq_t, eq_f, eq_rfl, inR_t, ↓ob_x, obx_s, ↓bnd_s, ↓oT_x, oTx_s, ↓ite_x, itx_T, itx_F, ↓reduceIte, not_true_eq_false, not_false_eq_true, true_and, and_true, Nat.reduceAdd, Nat.reduceMul, Nat.reduceSub, Nat.reduceEqDiff, isB0, isB1, Int32.neg_neg, Nat.zero_add, Nat.add_zero, Nat.mul_zero, Nat.mul_one, Nat.zero_mul]
set_option maxRecDepth 100000 in
theorem or_c {N z c s o : Nat} (hN : 6000 ≤ N) (hz : z ≤ 160) {B : Nat → Nat} {g0 h0 : Mem} {G : Nat → Int32 → Mem → Option (Int32 × Mem)} (ho : o ≤ 5) (cC : Clm N B z c s g0 h0 (G 1 (i32 o)) o 1 2 (5 * o + 1) 1 (fun p' P => nxt B z p' P ∧ ¬ lxS B z (plF B z p') = 263)) : Clm N B z c s g0 h0 (X3_readsOr N G (i32 o)) o 0 1 (5 * o) 1 (fun p' P => nxt B z p' P ∧ ¬ lxS B z (plF B z p') = 263 ∧ ¬ lxS B z (plF B z p') = 264) := by
  intro gI gM p H K n fu m hC hM hH hT hD hn hf hm q1 q0
  obtain ⟨N', hN'⟩ : ∃ q, N = q + 1 := ⟨N - 1, by omega⟩
  rcases cC gI gM p H K n fu m hC hM hH (tpl_up (by omega) H hT) hD (by omega) hf hm q1 q0 with ⟨u1, u2, q, k1, k2, k3, k4⟩ | ⟨u1, u2, p', K', P', fu', m', k1, k2, k3, k4, k5, k6, k7, k8, k9, k10⟩
  · left
    refine ⟨u1, u2, q, ?_, k2, k3, k4⟩
    have z1 : ∀ M, X3_readsOr_L8 M G (i32 o) (N' + 1) (i32 0) (i32 0) u1 = some (i32 0, u1) := fun M => by simp -dsimp -implicitDefEqProofs (disch := omega) only [X3_readsOr_L8, i32_lit, i32_add, i32_mul, i32_tn, i32_sub, le_t, le_f, lt_t, lt_f, eq_t, eq_f, eq_rfl, inR_t, ↓ob_x, obx_s, ↓bnd_s, ↓oT_x, oTx_s, ↓ite_x, itx_T, itx_F, ↓reduceIte, not_true_eq_false, not_false_eq_true, true_and, and_true, Nat.reduceAdd, Nat.reduceMul, Nat.reduceSub, Nat.reduceEqDiff, isB0, isB1, Int32.neg_neg, Nat.zero_add, Nat.add_zero, Nat.mul_zero, Nat.mul_one, Nat.zero_mul]
    have z2 := z1 N
    rw [← hN'] at z2
    simp -dsimp -implicitDefEqProofs (disch := omega) only [X3_readsOr, k1, z2, i32_lit, i32_add, i32_mul, i32_tn, i32_sub, le_t, le_f, lt_t, lt_f, eq_t, eq_f, eq_rfl, inR_t, ↓ob_x, obx_s, ↓bnd_s, ↓oT_x, oTx_s, ↓ite_x, itx_T, itx_F, ↓reduceIte, not_true_eq_false, not_false_eq_true, true_and, and_true, Nat.reduceAdd, Nat.reduceMul, Nat.reduceSub, Nat.reduceEqDiff, isB0, isB1, Int32.neg_neg, Nat.zero_add, Nat.add_zero, Nat.mul_zero, Nat.mul_one, Nat.zero_mul]
  · have kz := k4.2.2.1
    rcases or_l hN hz ho cC H hH hT n hn (z - p') 0 N p' fu' m' u1 u2 K' P' (by omega) (by omega) (by omega) k2 k4 (fun x hx => by have := k5 x hx; omega) k6 k7 k9 k10 with ⟨w1, w2, q, y1, y2, y3, y4⟩ | ⟨w1, w2, p2, K2, P2, f2, m2', y1, y2, y3, y4, y5, y6, y7, y8, y9, y10⟩
    · left
      exact ⟨w1, w2, q, by simp -dsimp -implicitDefEqProofs (disch := omega) only [X3_readsOr, k1, y1, i32_lit, i32_add, i32_mul, i32_tn, i32_sub, le_t, le_f, lt_t, lt_f, eq_t, eq_f, eq_rfl, inR_t, ↓ob_x, obx_s, ↓bnd_s, ↓oT_x, oTx_s, ↓ite_x, itx_T, itx_F, ↓reduceIte, not_true_eq_false, not_false_eq_true, true_and, and_true, Nat.reduceAdd, Nat.reduceMul, Nat.reduceSub, Nat.reduceEqDiff, isB0, isB1, Int32.neg_neg, Nat.zero_add, Nat.add_zero, Nat.mul_zero, Nat.mul_one, Nat.zero_mul], y2, by rw [k3]; exact y3, y4⟩
    · right
      exact ⟨w1, w2, p2, K2, P2, f2, m2', by simp -dsimp -implicitDefEqProofs (disch := omega) only [X3_readsOr, k1, y1, i32_lit, i32_add, i32_mul, i32_tn, i32_sub, le_t, le_f, lt_t, lt_f, eq_t, eq_f, eq_rfl, inR_t, ↓ob_x, obx_s, ↓bnd_s, ↓oT_x, oTx_s, ↓ite_x, itx_T, itx_F, ↓reduceIte, not_true_eq_false, not_false_eq_true, true_and, and_true, Nat.reduceAdd, Nat.reduceMul, Nat.reduceSub, Nat.reduceEqDiff, isB0, isB1, Int32.neg_neg, Nat.zero_add, Nat.add_zero, Nat.mul_zero, Nat.mul_one, Nat.zero_mul], y2, by rw [k3]; exact y3, y4, y5, y6, y7, by omega, y9, y10⟩
theorem lst_i {P : List Nat} {r : Nat} (h : ∀ x, x ∈ P → 5 ≤ rk x) (hr : r ≤ 5) : ∀ x, x ∈ P → r ≤ rk x := fun x hx => by have := h x hx; omega
set_option maxRecDepth 100000 in
theorem not_c {N z c s o : Nat} (hN : 6000 ≤ N) (hz : z ≤ 160) {B : Nat → Nat} {g0 h0 : Mem} (G : Nat → Int32 → Mem → Option (Int32 × Mem)) (ho : o ≤ 5)
    (cS : Clm N B z c s g0 h0 (G 4 (i32 o)) o 4 5 (5 * o + 3) 0 (fun p' P => ¬ lxS B z (plF B z p') = 42 ∧ ¬ lxS B z (plF B z p') = 43 ∧ ¬ lxS B z (plF B z p') = 45))
    (G' : Nat → Int32 → Mem → Option (Int32 × Mem)) (hG0 : o < 5 → ∀ a g, G 3 a g = X3_readsNotBehindNot N G' a g)
    (cN : o < 5 → Clm N B z c s g0 h0 (G' 2 (i32 (o + 1))) (o + 1) 3 3 (5 * (o + 1) + 2) 1 (fun p' P => nxt B z p' P)) : Clm N B z c s g0 h0 (X3_readsNot N G (i32 o)) o 3 3 (5 * o + 2) 1 (fun p' P => nxt B z p' P) := by
  intro gI gM p H K n fu m hC hM hH hT hD hn hf hm q1 q0
  have hm1 := q1 rfl
  subst hm1
  have l0 := plF_le (B := B) hC.2.2.2.1
  have l3 := lxS_in B z (plF B z p)
  have hb := hM.2.2.2.2.2
  have sy := hC.2.2.1.2.2.1
  have hc6 := hC.1
  by_cases h265 : lxS B z (plF B z p) = 265
  · have l1 := lx_pos (B := B) (z := z) (q := plF B z p) (by omega)
    obtain ⟨fu, rfl⟩ : ∃ q, fu = q + 1 := ⟨fu - 1, by omega⟩
    rcases mw_opn (fu := fu) (x := 13) (k := 1) hN hM hm (by omega) (Or.inl ⟨h265, rfl, rfl, rfl⟩) with ⟨ho5, g1, r1, r2⟩ | ⟨ho5, g', r1, r2⟩
    · have hG := hG0 (by omega)
      obtain ⟨g2, b1, b2⟩ := cNext hN hC
      rw [h265] at sy
      rcases cN (by omega) g2 g1 _ (13 :: H) K n fu 1 b2 r2 (by show opn 13 + cnt H = o + 1; rw [hH, show opn 13 = 1 from rfl]; omega) (by show rk 13 ≤ 3; decide) hD (by omega) (by omega) (by omega) (fun _ => rfl) (fun q => by omega) with ⟨u1, u2, q, k1, k2, k3, k4⟩ | ⟨u1, u2, p', K', P', fu', m', k1, k2, k3, k4, k5, k6, k7, k8, k9, k10⟩
      · left
        obtain ⟨u3, e1, e2⟩ := fl_add (N := N) k2 (-(i32 265))
        have tx1 := k2.2.2.2.1
        refine ⟨u3, u2, q, ?_, e2, by rw [r1]; exact k3, k4⟩
        simp -dsimp -implicitDefEqProofs (disch := omega) only [X3_readsNot, hG, X3_readsNotBehindNot, sy, b1, k1, tx1, e1, i32_lit, i32_add, i32_mul, i32_tn, i32_sub, le_t, le_f, lt_t, lt_f, eq_t, eq_f, eq_rfl, inR_t, ↓ob_x, obx_s, ↓bnd_s, ↓oT_x, oTx_s, ↓ite_x, itx_T, itx_F, ↓reduceIte, not_true_eq_false, not_false_eq_true, true_and, and_true, Nat.reduceAdd, Nat.reduceMul, Nat.reduceSub, Nat.reduceEqDiff, isB0, isB1, Int32.neg_neg, Nat.zero_add, Nat.add_zero, Nat.mul_zero, Nat.mul_one, Nat.zero_mul]
      · right
        have kb := k4.2.2.2.2.2
        have kz := k4.2.2.1
        rw [List.length_append, List.length_cons] at kb
        have rl := ra_len P' K'
        obtain ⟨u3, e1, e2⟩ := cAdd (N := N) (x := 13) k2 (by omega)
        have tx1 := k2.2.2.2.2.1
        have ec : cs 13 = -(i32 265) := rfl
        rw [ec] at e1
        rw [← ra_snoc] at e2
        refine ⟨u3, u2, p', K', P' ++ [13], fu', m', ?_, e2, by rw [r1]; exact k3, by rw [List.append_assoc]; exact k4, ?_, ?_, k7, by omega, k9, ⟨k10.1, k10.2.1, k10.2.2.1, fun q => top5_app (k10.2.2.2 q) _⟩⟩
        · simp -dsimp -implicitDefEqProofs (disch := omega) only [X3_readsNot, hG, X3_readsNotBehindNot, sy, b1, k1, tx1, e1, i32_lit, i32_add, i32_mul, i32_tn, i32_sub, le_t, le_f, lt_t, lt_f, eq_t, eq_f, eq_rfl, inR_t, ↓ob_x, obx_s, ↓bnd_s, ↓oT_x, oTx_s, ↓ite_x, itx_T, itx_F, ↓reduceIte, not_true_eq_false, not_false_eq_true, true_and, and_true, Nat.reduceAdd, Nat.reduceMul, Nat.reduceSub, Nat.reduceEqDiff, isB0, isB1, Int32.neg_neg, Nat.zero_add, Nat.add_zero, Nat.mul_zero, Nat.mul_one, Nat.zero_mul]
        · intro x hx
          rcases List.mem_append.mp hx with hx | hx
          · exact k5 x hx
          · rw [List.mem_singleton.mp hx]; decide
        · rw [ra_snoc]
          exact ⟨n + 1, k6, Or.inr (Or.inl ⟨rfl, by omega, by omega, Or.inl rfl⟩)⟩
    · left
      have ho' : o = 5 := by omega
      subst ho'
      rw [h265] at sy
      exact ⟨gI, g', _, by simp -dsimp -implicitDefEqProofs (disch := omega) only [X3_readsNot, sy, i32_lit, i32_add, i32_mul, i32_tn, i32_sub, le_t, le_f, lt_t, lt_f, eq_t, eq_f, eq_rfl, inR_t, ↓ob_x, obx_s, ↓bnd_s, ↓oT_x, oTx_s, ↓ite_x, itx_T, itx_F, ↓reduceIte, not_true_eq_false, not_false_eq_true, true_and, and_true, Nat.reduceAdd, Nat.reduceMul, Nat.reduceSub, Nat.reduceEqDiff, isB0, isB1, Int32.neg_neg, Nat.zero_add, Nat.add_zero, Nat.mul_zero, Nat.mul_one, Nat.zero_mul], cFl hC (by omega), r1, r2⟩
  · rcases cS gI gM p H K n fu 1 hC hM hH (tpl_up (by omega) H hT) hD (by omega) hf hm (fun q => by omega) (fun _ q => absurd q h265) with ⟨u1, u2, q, k1, k2, k3, k4⟩ | ⟨u1, u2, p', K', P', fu', m', k1, k2, k3, k4, k5, k6, k7, k8, k9, k10⟩
    · left
      exact ⟨u1, u2, q, by simp -dsimp -implicitDefEqProofs (disch := omega) only [X3_readsNot, sy, k1, i32_lit, i32_add, i32_mul, i32_tn, i32_sub, le_t, le_f, lt_t, lt_f, eq_t, eq_f, eq_rfl, inR_t, ↓ob_x, obx_s, ↓bnd_s, ↓oT_x, oTx_s, ↓ite_x, itx_T, itx_F, ↓reduceIte, not_true_eq_false, not_false_eq_true, true_and, and_true, Nat.reduceAdd, Nat.reduceMul, Nat.reduceSub, Nat.reduceEqDiff, isB0, isB1, Int32.neg_neg, Nat.zero_add, Nat.add_zero, Nat.mul_zero, Nat.mul_one, Nat.zero_mul], k2, k3, k4⟩
    · have kz := k4.2.2.1
      have w0 := plF_le (B := B) kz
      have sy' := k2.2.2.1.2.2.1
      have l3' := lxS_in B z (plF B z p')
      by_cases hcm : lxS B z (plF B z p') = 60 ∨ lxS B z (plF B z p') = 61
      · have w1 := lx_pos (B := B) (z := z) (q := plF B z p') (by omega)
        obtain ⟨fu', rfl⟩ : ∃ q, fu' = q + 1 := ⟨fu' - 1, by omega⟩
        have hu : uw 5 (P' ++ H) K' = (H, List.reverseAux P' K') := (uw_app 5 P' H K' k5).trans (uw_stop (r := 3) (by decide) _ _ hT)
        obtain ⟨gM1, m1, m2⟩ := mw_op (fu := fu') (m := m') hN k4 (by omega) (fun _ => by rw [hu]; exact hT)
        obtain ⟨oc, hoc, oe, hlo, hrk, hsg, hon, hcs, hle⟩ : ∃ oc, (oc = 14 ∨ oc = 15) ∧ opc (lxS B z (plF B z p')) = oc ∧ lst oc = 5 ∧ rk oc = 4 ∧ sgs oc ∧ opn oc = 0 ∧ cs oc = -(i32 (lxS B z (plF B z p'))) ∧ (if oc ≤ 12 then (1 : Nat) else 0) = 0 := by
          rcases hcm with h | h
          · exact ⟨14, Or.inl rfl, by rw [h]; rfl, rfl, rfl, by omega, rfl, by rw [h]; rfl, rfl⟩
          · exact ⟨15, Or.inr rfl, by rw [h]; rfl, rfl, rfl, by omega, rfl, by rw [h]; rfl, rfl⟩
        rw [oe, hlo, hu] at m2
        rw [oe, hle] at m1
        obtain ⟨gI1, b1, b2⟩ := cNext hN k2
        rcases cS gI1 gM1 _ (oc :: H) _ (n + 1) fu' 0 b2 m2 (by show opn oc + cnt H = o; rw [hH, hon]; omega) (by show rk oc ≤ 4; omega) k6 (by omega) (by omega) (by omega) (fun q => by omega) (fun _ _ => rfl) with ⟨v1, v2, q, j1, j2, j3, j4⟩ | ⟨v1, v2, p2, K2, P2, f2, m2', j1, j2, j3, j4, j5, j6, j7, j8, j9, j10⟩
        · left
          obtain ⟨u3, e1, e2⟩ := fl_add (N := N) j2 (-(i32 (lxS B z (plF B z p'))))
          have tx1 := j2.2.2.2.1
          refine ⟨u3, v2, q, ?_, e2, by rw [k3, m1]; exact j3, j4⟩
          rcases hcm with h | h <;> (rw [h] at sy' e1; simp -dsimp -implicitDefEqProofs (disch := omega) only [X3_readsNot, sy, k1, sy', b1, j1, tx1, e1, i32_lit, i32_add, i32_mul, i32_tn, i32_sub, le_t, le_f, lt_t, lt_f, eq_t, eq_f, eq_rfl, inR_t, ↓ob_x, obx_s, ↓bnd_s, ↓oT_x, oTx_s, ↓ite_x, itx_T, itx_F, ↓reduceIte, not_true_eq_false, not_false_eq_true, true_and, and_true, Nat.reduceAdd, Nat.reduceMul, Nat.reduceSub, Nat.reduceEqDiff, isB0, isB1, Int32.neg_neg, Nat.zero_add, Nat.add_zero, Nat.mul_zero, Nat.mul_one, Nat.zero_mul])
        · right
          have jb := j4.2.2.2.2.2
          have jz := j4.2.2.1
          rw [List.length_append, List.length_cons] at jb
          have rl := ra_len P2 K2
          obtain ⟨u3, e1, e2⟩ := cAdd (N := N) (x := oc) j2 (by omega)
          have tx1 := j2.2.2.2.2.1
          rw [hcs] at e1
          rw [← ra_snoc] at e2
          refine ⟨u3, v2, p2, K2, P2 ++ [oc], f2, m2', ?_, e2, by rw [k3, m1]; exact j3, by rw [List.append_assoc]; exact j4, ?_, ?_, j7, by omega, j9, ⟨j10.1, j10.2.1, j10.2.2, fun _ => ⟨P2, oc, [], by simp, j5, hrk⟩⟩⟩
          · rcases hcm with h | h <;> (rw [h] at sy' e1; simp -dsimp -implicitDefEqProofs (disch := omega) only [X3_readsNot, sy, k1, sy', b1, j1, tx1, e1, i32_lit, i32_add, i32_mul, i32_tn, i32_sub, le_t, le_f, lt_t, lt_f, eq_t, eq_f, eq_rfl, inR_t, ↓ob_x, obx_s, ↓bnd_s, ↓oT_x, oTx_s, ↓ite_x, itx_T, itx_F, ↓reduceIte, not_true_eq_false, not_false_eq_true, true_and, and_true, Nat.reduceAdd, Nat.reduceMul, Nat.reduceSub, Nat.reduceEqDiff, isB0, isB1, Int32.neg_neg, Nat.zero_add, Nat.add_zero, Nat.mul_zero, Nat.mul_one, Nat.zero_mul])
          · intro x hx
            rcases List.mem_append.mp hx with hx | hx
            · have := j5 x hx; omega
            · rw [List.mem_singleton.mp hx]; omega
          · rw [ra_snoc]
            exact ⟨n + 1 + 1, j6, Or.inr (Or.inr ⟨rfl, by omega, by omega, by omega⟩)⟩
      · right
        refine ⟨u1, u2, p', K', P', fu', m', ?_, k2, k3, k4, fun x hx => by have := k5 x hx; omega, k6, k7, k8, k9, ⟨k10.1, k10.2.1, k10.2.2, fun q => absurd q hcm⟩⟩
        simp -dsimp -implicitDefEqProofs (disch := omega) only [X3_readsNot, sy, k1, sy', i32_lit, i32_add, i32_mul, i32_tn, i32_sub, le_t, le_f, lt_t, lt_f, eq_t, eq_f, eq_rfl, inR_t, ↓ob_x, obx_s, ↓bnd_s, ↓oT_x, oTx_s, ↓ite_x, itx_T, itx_F, ↓reduceIte, not_true_eq_false, not_false_eq_true, true_and, and_true, Nat.reduceAdd, Nat.reduceMul, Nat.reduceSub, Nat.reduceEqDiff, isB0, isB1, Int32.neg_neg, Nat.zero_add, Nat.add_zero, Nat.mul_zero, Nat.mul_one, Nat.zero_mul]
theorem PGc {N z c s : Nat} (hN : 6000 ≤ N) (hz : z ≤ 160) {B : Nat → Nat} {g0 h0 : Mem} : ∀ (D o : Nat), o ≤ 5 →
    (6 * (5 - o) + 6 ≤ D → Clm N B z c s g0 h0 (PG N D 0 (i32 o)) o 0 1 (5 * o) 1 (fun p' P => nxt B z p' P ∧ ¬ lxS B z (plF B z p') = 263 ∧ ¬ lxS B z (plF B z p') = 264)) ∧
    (6 * (5 - o) + 5 ≤ D → Clm N B z c s g0 h0 (PG N D 1 (i32 o)) o 1 2 (5 * o + 1) 1 (fun p' P => nxt B z p' P ∧ ¬ lxS B z (plF B z p') = 263)) ∧
    (6 * (5 - o) + 4 ≤ D → Clm N B z c s g0 h0 (PG N D 2 (i32 o)) o 3 3 (5 * o + 2) 1 (fun p' P => nxt B z p' P)) ∧
    (6 * (5 - o) + 3 ≤ D → Clm N B z c s g0 h0 (PG N D 4 (i32 o)) o 4 5 (5 * o + 3) 0 (fun p' P => ¬ lxS B z (plF B z p') = 42 ∧ ¬ lxS B z (plF B z p') = 43 ∧ ¬ lxS B z (plF B z p') = 45)) ∧
    (6 * (5 - o) + 2 ≤ D → Clm N B z c s g0 h0 (PG N D 5 (i32 o)) o 5 6 (5 * o + 4) 0 (fun p' P => ¬ lxS B z (plF B z p') = 42)) ∧
    (6 * (5 - o) + 1 ≤ D → ClmO N B z c s g0 h0 (PG N D 6 (i32 o)) o (5 * o + 5)) := by
  intro D
  induction D using Nat.strongRecOn with
  | ind D ih =>
    intro o ho
    cases D with
    | zero => exact ⟨fun h => by omega, fun h => by omega, fun h => by omega, fun h => by omega, fun h => by omega, fun h => by omega⟩
    | succ D =>
      obtain ⟨i0, i1, i2, i4, i5, i6⟩ := ih D (by omega) o ho
      refine ⟨fun h => or_c hN hz ho (i1 (by omega)), fun h => and_c hN hz ho (i2 (by omega)), fun h => ?_, fun h => sum_c hN hz ho (i5 (by omega)), fun h => term_c hN hz ho (one_clm (i6 (by omega))), fun h => ?_⟩
      · cases D with
        | zero => omega
        | succ E => exact not_c hN hz (PG N (E + 1)) ho (i4 (by omega)) (PG N E) (fun _ _ _ => rfl) (fun h5 => (ih E (by omega) (o + 1) (by omega)).2.2.1 (by omega))
      · cases D with
        | zero => exact one_c hN hz (PG N 0) ho (fun h5 => by omega) (PG N 0) (fun h5 => by omega) (fun h5 => by omega)
        | succ E => exact one_c hN hz (PG N (E + 1)) ho (fun h5 => (ih (E + 1) (by omega) (o + 1) (by omega)).1 (by omega)) (PG N E) (fun _ _ _ => rfl) (fun h5 => (ih E (by omega) (o + 1) (by omega)).2.2.2.2.2 (by omega))
