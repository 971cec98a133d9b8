/-! THE PARSERS: signs held, codes, depth; the reference's small steps -/
def rk (s : Nat) : Nat := if s = 0 then 0 else if s = 11 then 1 else if s = 12 then 2 else if s = 13 then 3 else if s ≤ 15 then 4 else if s ≤ 17 then 5 else if s = 18 then 6 else 7
abbrev sgs (s : Nat) : Prop := s = 0 ∨ s = 11 ∨ s = 12 ∨ s = 13 ∨ s = 14 ∨ s = 15 ∨ s = 16 ∨ s = 17 ∨ s = 18 ∨ s = 19
def opn (s : Nat) : Nat := if s = 0 ∨ s = 13 ∨ s = 19 then 1 else 0
def cnt : List Nat → Nat
  | [] => 0
  | x :: H => opn x + cnt H
def uw (least : Nat) : List Nat → List Nat → List Nat × List Nat
  | [], K => ([], K)
  | x :: H, K => if least ≤ rk x then uw least H (x :: K) else (x :: H, K)
def hR (g : Mem) : List Nat → Prop
  | [] => True
  | x :: H => g.1 16 H.length = i32 x ∧ sgs x ∧ hR g H
def kM (c s : Nat) (g : Mem) : List Nat → Prop
  | [] => True
  | x :: K => g.1 7 (200 * c + (s + K.length)) = i32 x ∧ kM c s g K
def ST (c s : Nat) (g : Mem) (H K : List Nat) : Prop := c < 6 ∧ g.1 0 11 = i32 c ∧ g.1 0 26 = i32 H.length ∧ g.1 0 27 = i32 (cnt H) ∧ g.1 0 28 = i32 (s + K.length) ∧ hR g H ∧ kM c s g K
def FZ (c s : Nat) (g g' : Mem) : Prop := (∀ e, ¬ e = 0 → ¬ e = 7 → ¬ e = 16 → g'.1 e = g.1 e) ∧ (∀ j, ¬ j = 26 → ¬ j = 27 → ¬ j = 28 → g'.1 0 j = g.1 0 j) ∧ ∀ j, ¬ (200 * c + s ≤ j ∧ j < 200 * c + 200) → g'.1 7 j = g.1 7 j
theorem FZ_rfl (c s : Nat) (g : Mem) : FZ c s g g := ⟨fun _ _ _ _ => rfl, fun _ _ _ _ => rfl, fun _ _ => rfl⟩
theorem FZ_tr {c s : Nat} {a b d : Mem} (h : FZ c s a b) (k : FZ c s b d) : FZ c s a d := ⟨fun e x y w => (k.1 e x y w).trans (h.1 e x y w), fun j x y w => (k.2.1 j x y w).trans (h.2.1 j x y w), fun j x => (k.2.2 j x).trans (h.2.2 j x)⟩
theorem FZ_st0 (c s : Nat) (g : Mem) (j : Nat) (v : Int32) (h : j = 26 ∨ j = 27 ∨ j = 28) : FZ c s g (stI g 0 j v) := ⟨fun e h0 _ _ => stI_ne _ _ _ _ _ h0, fun i a b d => stI_nj _ _ _ _ _ (by omega), fun i _ => by rw [stI_ne _ _ _ _ _ (by omega)]⟩
theorem FZ_st7 {c s : Nat} (g : Mem) (j : Nat) (v : Int32) (h : 200 * c + s ≤ j ∧ j < 200 * c + 200) : FZ c s g (stI g 7 j v) := ⟨fun e _ h7 _ => stI_ne _ _ _ _ _ h7, fun i a b d => by rw [stI_ne _ _ _ _ _ (by omega)], fun i hi => stI_nj _ _ _ _ _ (by omega)⟩
theorem FZ_st16 (c s : Nat) (g : Mem) (j : Nat) (v : Int32) : FZ c s g (stI g 16 j v) := ⟨fun e _ _ h => stI_ne _ _ _ _ _ h, fun i a b d => by rw [stI_ne _ _ _ _ _ (by omega)], fun i _ => by rw [stI_ne _ _ _ _ _ (by omega)]⟩
theorem hR_c {g g' : Mem} : ∀ (H : List Nat), (∀ j, j < H.length → g'.1 16 j = g.1 16 j) → hR g H → hR g' H
  | [], _, _ => trivial
  | x :: H, h, q => ⟨by rw [h _ (by simp)]; exact q.1, q.2.1, hR_c H (fun j hj => h j (by simp; omega)) q.2.2⟩
theorem kM_c {c s : Nat} {g g' : Mem} : ∀ (K : List Nat), (∀ j, j < s + K.length → g'.1 7 (200 * c + j) = g.1 7 (200 * c + j)) → kM c s g K → kM c s g' K
  | [], _, _ => trivial
  | x :: K, h, q => ⟨by rw [h _ (by simp)]; exact q.1, kM_c K (fun j hj => h j (by simp; omega)) q.2⟩
theorem rank_e {N s : Nat} (g : Mem) (h : sgs s) : X6_rank N (i32 s) g = some (i32 (rk s), g) := by
  rcases h with rfl | rfl | rfl | rfl | rfl | rfl | rfl | rfl | rfl | rfl <;> simp -dsimp -implicitDefEqProofs (disch := omega) only [X6_rank, i32_lit, i32_add, i32_mul, i32_tn, i32_sub, le_t, le_f, lt_t, lt_f, eq_t, eq_f, eq_rfl, inR_t, ↓ob_x, obx_s, ↓bnd_s, ↓oT_x, oTx_s, ↓ite_x, itx_T, itx_F, ↓reduceIte, not_true_eq_false, not_false_eq_true, true_and, and_true, Nat.reduceAdd, Nat.reduceMul, Nat.reduceSub, Nat.reduceEqDiff, isB0, isB1, Int32.neg_neg, Nat.zero_add, Nat.add_zero, Nat.mul_zero, Nat.mul_one, Nat.zero_mul] <;> rfl
theorem rk_le (s : Nat) : rk s ≤ 7 := by
  unfold rk
  repeat' split
  all_goals omega
theorem puts_e {N c s x : Nat} {g : Mem} {H K : List Nat} (h : ST c s g H K) (hb : s + K.length < 200) : ∃ g', X6_puts N (i32 x) g = some (i32 0, g') ∧ ST c s g' H (x :: K) ∧ FZ c s g g' := by
  obtain ⟨h1, h2, h3, h4, h5, h6, h7⟩ := h
  refine ⟨stI (stI g 7 (200 * c + (s + K.length)) (i32 x)) 0 28 (i32 (s + K.length + 1)), by simp -dsimp -implicitDefEqProofs (disch := omega) only [X6_puts, h2, h5, i32_lit, i32_add, i32_mul, i32_tn, i32_sub, le_t, le_f, lt_t, lt_f, eq_t, eq_f, eq_rfl, inR_t, ↓ob_x, obx_s, ↓bnd_s, ↓oT_x, oTx_s, ↓ite_x, itx_T, itx_F, ↓reduceIte, not_true_eq_false, not_false_eq_true, true_and, and_true, Nat.reduceAdd, Nat.reduceMul, Nat.reduceSub, Nat.reduceEqDiff, isB0, isB1, Int32.neg_neg, Nat.zero_add, Nat.add_zero, Nat.mul_zero, Nat.mul_one, Nat.zero_mul, stI_eq, stI_nj, stI_ne, stI_2, stA_eq, stA_ne, stA_2, stR_1, stR_2], ⟨h1, by simp -dsimp -implicitDefEqProofs (disch := omega) only [stI_eq, stI_nj, stI_ne, stI_2, stA_eq, stA_ne, stA_2, stR_1, stR_2]; exact h2, by simp -dsimp -implicitDefEqProofs (disch := omega) only [stI_eq, stI_nj, stI_ne, stI_2, stA_eq, stA_ne, stA_2, stR_1, stR_2]; exact h3, by simp -dsimp -implicitDefEqProofs (disch := omega) only [stI_eq, stI_nj, stI_ne, stI_2, stA_eq, stA_ne, stA_2, stR_1, stR_2]; exact h4, by simp -dsimp -implicitDefEqProofs (disch := omega) only [stI_eq, stI_nj, stI_ne, stI_2, stA_eq, stA_ne, stA_2, stR_1, stR_2, List.length_cons]; rfl, hR_c H (fun j _ => by simp -dsimp -implicitDefEqProofs (disch := omega) only [stI_eq, stI_nj, stI_ne, stI_2, stA_eq, stA_ne, stA_2, stR_1, stR_2]) h6, ?_, kM_c K (fun j hj => by simp -dsimp -implicitDefEqProofs (disch := omega) only [stI_eq, stI_nj, stI_ne, stI_2, stA_eq, stA_ne, stA_2, stR_1, stR_2]) h7⟩, FZ_tr (FZ_st7 _ _ _ (by omega)) (FZ_st0 _ _ _ _ _ (by omega))⟩
  simp -dsimp -implicitDefEqProofs (disch := omega) only [stI_eq, stI_nj, stI_ne, stI_2, stA_eq, stA_ne, stA_2, stR_1, stR_2]
theorem holds_e {N c s x : Nat} {g : Mem} {H K : List Nat} (h : ST c s g H K) (hb : H.length < 200) (hx : sgs x) (ho : opn x = 0) : ∃ g', X6_holds N (i32 x) g = some (i32 0, g') ∧ ST c s g' (x :: H) K ∧ FZ c s g g' := by
  obtain ⟨h1, h2, h3, h4, h5, h6, h7⟩ := h
  refine ⟨stI (stI g 16 H.length (i32 x)) 0 26 (i32 (H.length + 1)), by simp -dsimp -implicitDefEqProofs (disch := omega) only [X6_holds, h3, i32_lit, i32_add, i32_mul, i32_tn, i32_sub, le_t, le_f, lt_t, lt_f, eq_t, eq_f, eq_rfl, inR_t, ↓ob_x, obx_s, ↓bnd_s, ↓oT_x, oTx_s, ↓ite_x, itx_T, itx_F, ↓reduceIte, not_true_eq_false, not_false_eq_true, true_and, and_true, Nat.reduceAdd, Nat.reduceMul, Nat.reduceSub, Nat.reduceEqDiff, isB0, isB1, Int32.neg_neg, Nat.zero_add, Nat.add_zero, Nat.mul_zero, Nat.mul_one, Nat.zero_mul, stI_eq, stI_nj, stI_ne, stI_2, stA_eq, stA_ne, stA_2, stR_1, stR_2], ⟨h1, by simp -dsimp -implicitDefEqProofs (disch := omega) only [stI_eq, stI_nj, stI_ne, stI_2, stA_eq, stA_ne, stA_2, stR_1, stR_2]; exact h2, by simp -dsimp -implicitDefEqProofs (disch := omega) only [stI_eq, stI_nj, stI_ne, stI_2, stA_eq, stA_ne, stA_2, stR_1, stR_2, List.length_cons], ?_, by simp -dsimp -implicitDefEqProofs (disch := omega) only [stI_eq, stI_nj, stI_ne, stI_2, stA_eq, stA_ne, stA_2, stR_1, stR_2]; exact h5, ⟨by simp -dsimp -implicitDefEqProofs (disch := omega) only [stI_eq, stI_nj, stI_ne, stI_2, stA_eq, stA_ne, stA_2, stR_1, stR_2], hx, hR_c H (fun j hj => by simp -dsimp -implicitDefEqProofs (disch := omega) only [stI_eq, stI_nj, stI_ne, stI_2, stA_eq, stA_ne, stA_2, stR_1, stR_2]) h6⟩, kM_c K (fun j hj => by simp -dsimp -implicitDefEqProofs (disch := omega) only [stI_eq, stI_nj, stI_ne, stI_2, stA_eq, stA_ne, stA_2, stR_1, stR_2]) h7⟩, FZ_tr (FZ_st16 _ _ _ _ _) (FZ_st0 _ _ _ _ _ (by omega))⟩
  rw [stI_nj _ _ _ _ _ (by omega), stI_ne _ _ _ _ _ (by omega), cnt, ho, Nat.zero_add]; exact h4
theorem opens_t {N c s x : Nat} {g : Mem} {H K : List Nat} (h : ST c s g H K) (hb : H.length < 200) (hx : sgs x) (ho : opn x = 1) (hc : cnt H < 5) : ∃ g', X6_opensOne N (i32 x) g = some (i32 1, g') ∧ ST c s g' (x :: H) K ∧ FZ c s g g' := by
  obtain ⟨h1, h2, h3, h4, h5, h6, h7⟩ := h
  refine ⟨stI (stI (stI g 0 27 (i32 (cnt H + 1))) 16 H.length (i32 x)) 0 26 (i32 (H.length + 1)), by simp -dsimp -implicitDefEqProofs (disch := omega) only [X6_opensOne, X6_holds, h3, h4, i32_lit, i32_add, i32_mul, i32_tn, i32_sub, le_t, le_f, lt_t, lt_f, eq_t, eq_f, eq_rfl, inR_t, ↓ob_x, obx_s, ↓bnd_s, ↓oT_x, oTx_s, ↓ite_x, itx_T, itx_F, ↓reduceIte, not_true_eq_false, not_false_eq_true, true_and, and_true, Nat.reduceAdd, Nat.reduceMul, Nat.reduceSub, Nat.reduceEqDiff, isB0, isB1, Int32.neg_neg, Nat.zero_add, Nat.add_zero, Nat.mul_zero, Nat.mul_one, Nat.zero_mul, stI_eq, stI_nj, stI_ne, stI_2, stA_eq, stA_ne, stA_2, stR_1, stR_2], ⟨h1, by simp -dsimp -implicitDefEqProofs (disch := omega) only [stI_eq, stI_nj, stI_ne, stI_2, stA_eq, stA_ne, stA_2, stR_1, stR_2]; exact h2, by simp -dsimp -implicitDefEqProofs (disch := omega) only [stI_eq, stI_nj, stI_ne, stI_2, stA_eq, stA_ne, stA_2, stR_1, stR_2, List.length_cons], ?_, by simp -dsimp -implicitDefEqProofs (disch := omega) only [stI_eq, stI_nj, stI_ne, stI_2, stA_eq, stA_ne, stA_2, stR_1, stR_2]; exact h5, ⟨by simp -dsimp -implicitDefEqProofs (disch := omega) only [stI_eq, stI_nj, stI_ne, stI_2, stA_eq, stA_ne, stA_2, stR_1, stR_2], hx, hR_c H (fun j hj => by simp -dsimp -implicitDefEqProofs (disch := omega) only [stI_eq, stI_nj, stI_ne, stI_2, stA_eq, stA_ne, stA_2, stR_1, stR_2]) h6⟩, kM_c K (fun j hj => by simp -dsimp -implicitDefEqProofs (disch := omega) only [stI_eq, stI_nj, stI_ne, stI_2, stA_eq, stA_ne, stA_2, stR_1, stR_2]) h7⟩, FZ_tr (FZ_st0 _ _ _ _ _ (by omega)) (FZ_tr (FZ_st16 _ _ _ _ _) (FZ_st0 _ _ _ _ _ (by omega)))⟩
  rw [stI_nj _ _ _ _ _ (by omega), stI_ne _ _ _ _ _ (by omega), stI_eq, cnt, ho, Nat.add_comm]
theorem opens_f {N c s x : Nat} {g : Mem} {H K : List Nat} (h : ST c s g H K) (hc : cnt H = 5) : X6_opensOne N (i32 x) g = some (i32 0, g) := by
  have h4 := h.2.2.2.1
  rw [hc] at h4
  simp -dsimp -implicitDefEqProofs (disch := omega) only [X6_opensOne, h4, i32_lit, i32_add, i32_mul, i32_tn, i32_sub, le_t, le_f, lt_t, lt_f, eq_t, eq_f, eq_rfl, inR_t, ↓ob_x, obx_s, ↓bnd_s, ↓oT_x, oTx_s, ↓ite_x, itx_T, itx_F, ↓reduceIte, not_true_eq_false, not_false_eq_true, true_and, and_true, Nat.reduceAdd, Nat.reduceMul, Nat.reduceSub, Nat.reduceEqDiff, isB0, isB1, Int32.neg_neg, Nat.zero_add, Nat.add_zero, Nat.mul_zero, Nat.mul_one, Nat.zero_mul]
set_option maxRecDepth 100000 in
theorem unw_e {N c s least : Nat} (hl : 1 ≤ least ∧ least ≤ 7) : ∀ (H K : List Nat) (fu : Nat) (g : Mem), H.length < fu → s + K.length + H.length < 190 → ST c s g H K →
    ∃ g', X6_unwinds_L0 N (i32 least) fu g = some (i32 0, g') ∧ ST c s g' (uw least H K).1 (uw least H K).2 ∧ FZ c s g g'
  | [], K, fu, g, h1, h2, h => by
    obtain ⟨fu, rfl⟩ : ∃ q, fu = q + 1 := ⟨fu - 1, by omega⟩
    have h3 := h.2.2.1
    rw [List.length_nil] at h3
    exact ⟨g, by simp -dsimp -implicitDefEqProofs (disch := omega) only [X6_unwinds_L0, h3, i32_lit, i32_add, i32_mul, i32_tn, i32_sub, le_t, le_f, lt_t, lt_f, eq_t, eq_f, eq_rfl, inR_t, ↓ob_x, obx_s, ↓bnd_s, ↓oT_x, oTx_s, ↓ite_x, itx_T, itx_F, ↓reduceIte, not_true_eq_false, not_false_eq_true, true_and, and_true, Nat.reduceAdd, Nat.reduceMul, Nat.reduceSub, Nat.reduceEqDiff, isB0, isB1, Int32.neg_neg, Nat.zero_add, Nat.add_zero, Nat.mul_zero, Nat.mul_one, Nat.zero_mul], h, FZ_rfl _ _ _⟩
  | x :: H, K, fu, g, h1, h2, h => by
    obtain ⟨fu, rfl⟩ : ∃ q, fu = q + 1 := ⟨fu - 1, by omega⟩
    rw [List.length_cons] at h1 h2
    obtain ⟨k1, k2, k3, k4, k5, ⟨k6, k7, k8⟩, k9⟩ := id h
    rw [List.length_cons] at k3
    have r := rank_e (N := N) g k7
    have rl := rk_le x
    rw [uw]
    by_cases hx : least ≤ rk x
    · rw [if_pos hx]
      have hx0 : ¬ x = 0 := by
        intro q; subst q
        have : rk 0 = 0 := rfl
        omega
      have o : opn x = if x = 13 then 1 else if x = 19 then 1 else 0 := by
        unfold opn
        by_cases q1 : x = 13
        · rw [if_pos (by omega), if_pos q1]
        · rw [if_neg q1]
          by_cases q2 : x = 19
          · rw [if_pos (by omega), if_pos q2]
          · rw [if_neg (by omega), if_neg q2]
      have k4' : g.1 0 27 = i32 (opn x + cnt H) := k4
      have S1 : ST c s (stI (stI g 0 26 (i32 H.length)) 0 27 (i32 (cnt H))) H K := ⟨k1, by simp -dsimp -implicitDefEqProofs (disch := omega) only [stI_eq, stI_nj, stI_ne, stI_2, stA_eq, stA_ne, stA_2, stR_1, stR_2]; exact k2, by simp -dsimp -implicitDefEqProofs (disch := omega) only [stI_eq, stI_nj, stI_ne, stI_2, stA_eq, stA_ne, stA_2, stR_1, stR_2], by simp -dsimp -implicitDefEqProofs (disch := omega) only [stI_eq, stI_nj, stI_ne, stI_2, stA_eq, stA_ne, stA_2, stR_1, stR_2], by simp -dsimp -implicitDefEqProofs (disch := omega) only [stI_eq, stI_nj, stI_ne, stI_2, stA_eq, stA_ne, stA_2, stR_1, stR_2]; exact k5, hR_c H (fun j _ => by simp -dsimp -implicitDefEqProofs (disch := omega) only [stI_eq, stI_nj, stI_ne, stI_2, stA_eq, stA_ne, stA_2, stR_1, stR_2]) k8, kM_c K (fun j _ => by simp -dsimp -implicitDefEqProofs (disch := omega) only [stI_eq, stI_nj, stI_ne, stI_2, stA_eq, stA_ne, stA_2, stR_1, stR_2]) k9⟩
      obtain ⟨g1, r1, r2, r3⟩ := puts_e (N := N) (x := x) S1 (by omega)
      have f1 : FZ c s g g1 := FZ_tr (FZ_tr (FZ_st0 _ _ _ _ _ (by omega)) (FZ_st0 _ _ _ _ _ (by omega))) r3
      obtain ⟨g2, s1, s2, s3⟩ := unw_e (N := N) hl H (x :: K) fu g1 (by omega) (by rw [List.length_cons]; omega) r2
      refine ⟨g2, ?_, s2, FZ_tr f1 s3⟩
      by_cases q1 : x = 13
      · rw [if_pos q1] at o
        have e27 : g.1 0 27 - i32 1 = i32 (cnt H) := by rw [k4', o, i32_sub (by omega), Nat.add_sub_cancel_left]
        rw [q1] at k6 r r1 hx rl
        simp -dsimp -implicitDefEqProofs (disch := omega) only [X6_unwinds_L0, k3, k6, r, e27, r1, s1, Nat.add_sub_cancel, i32_lit, i32_add, i32_mul, i32_tn, i32_sub, le_t, le_f, lt_t, lt_f, eq_t, eq_f, eq_rfl, inR_t, ↓ob_x, obx_s, ↓bnd_s, ↓oT_x, oTx_s, ↓ite_x, itx_T, itx_F, ↓reduceIte, not_true_eq_false, not_false_eq_true, true_and, and_true, Nat.reduceAdd, Nat.reduceMul, Nat.reduceSub, Nat.reduceEqDiff, isB0, isB1, Int32.neg_neg, Nat.zero_add, Nat.add_zero, Nat.mul_zero, Nat.mul_one, Nat.zero_mul, stI_eq, stI_nj, stI_ne, stI_2, stA_eq, stA_ne, stA_2, stR_1, stR_2]
      · rw [if_neg q1] at o
        by_cases q2 : x = 19
        · rw [if_pos q2] at o
          have e27 : g.1 0 27 - i32 1 = i32 (cnt H) := by rw [k4', o, i32_sub (by omega), Nat.add_sub_cancel_left]
          rw [q2] at k6 r r1 hx rl
          simp -dsimp -implicitDefEqProofs (disch := omega) only [X6_unwinds_L0, k3, k6, r, e27, r1, s1, Nat.add_sub_cancel, i32_lit, i32_add, i32_mul, i32_tn, i32_sub, le_t, le_f, lt_t, lt_f, eq_t, eq_f, eq_rfl, inR_t, ↓ob_x, obx_s, ↓bnd_s, ↓oT_x, oTx_s, ↓ite_x, itx_T, itx_F, ↓reduceIte, not_true_eq_false, not_false_eq_true, true_and, and_true, Nat.reduceAdd, Nat.reduceMul, Nat.reduceSub, Nat.reduceEqDiff, isB0, isB1, Int32.neg_neg, Nat.zero_add, Nat.add_zero, Nat.mul_zero, Nat.mul_one, Nat.zero_mul, stI_eq, stI_nj, stI_ne, stI_2, stA_eq, stA_ne, stA_2, stR_1, stR_2]
        · rw [if_neg q2] at o
          have e27 : g.1 0 27 - i32 0 = i32 (cnt H) := by rw [k4', o, i32_sub (by omega), Nat.sub_zero, Nat.zero_add]
          have xs : x < 100 := by omega
          simp -dsimp -implicitDefEqProofs (disch := omega) only [X6_unwinds_L0, k3, k6, r, e27, r1, s1, Nat.add_sub_cancel, i32_lit, i32_add, i32_mul, i32_tn, i32_sub, le_t, le_f, lt_t, lt_f, eq_t, eq_f, eq_rfl, inR_t, ↓ob_x, obx_s, ↓bnd_s, ↓oT_x, oTx_s, ↓ite_x, itx_T, itx_F, ↓reduceIte, not_true_eq_false, not_false_eq_true, true_and, and_true, Nat.reduceAdd, Nat.reduceMul, Nat.reduceSub, Nat.reduceEqDiff, isB0, isB1, Int32.neg_neg, Nat.zero_add, Nat.add_zero, Nat.mul_zero, Nat.mul_one, Nat.zero_mul, stI_eq, stI_nj, stI_ne, stI_2, stA_eq, stA_ne, stA_2, stR_1, stR_2]
    · rw [if_neg hx]
      refine ⟨g, ?_, h, FZ_rfl _ _ _⟩
      simp -dsimp -implicitDefEqProofs (disch := omega) only [X6_unwinds_L0, k3, k6, r, Nat.add_sub_cancel, i32_lit, i32_add, i32_mul, i32_tn, i32_sub, le_t, le_f, lt_t, lt_f, eq_t, eq_f, eq_rfl, inR_t, ↓ob_x, obx_s, ↓bnd_s, ↓oT_x, oTx_s, ↓ite_x, itx_T, itx_F, ↓reduceIte, not_true_eq_false, not_false_eq_true, true_and, and_true, Nat.reduceAdd, Nat.reduceMul, Nat.reduceSub, Nat.reduceEqDiff, isB0, isB1, Int32.neg_neg, Nat.zero_add, Nat.add_zero, Nat.mul_zero, Nat.mul_one, Nat.zero_mul, stI_eq, stI_nj, stI_ne, stI_2, stA_eq, stA_ne, stA_2, stR_1, stR_2]
