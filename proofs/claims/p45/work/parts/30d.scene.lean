/-! A SCENE of the class beside the reference's rows: what is said, reached, asked for, whether one can -/
def nm (a0 a1 a2 a3 a4 a5 : Int32) : Nat → Int32 := fun j => if j = 0 then a0 else if j = 1 then a1 else if j = 2 then a2 else if j = 3 then a3 else if j = 4 then a4 else a5
def tv (gM : Mem) (i p : Nat) (a : Nat → Int32) : Int32 :=
  cl (evs (fun j => gM.1 7 (200 * i + j)) a (gM.1 8 (4 * i + p)).toNatClampNeg ((gM.1 8 (4 * i + p + 1)).toNatClampNeg - (gM.1 8 (4 * i + p)).toNatClampNeg) 0 (fun _ => i32 0))
def TxI (i : Nat) (gI gM : Mem) : Prop := ∀ p, p < 3 → ∃ s e, s ≤ e ∧ e ≤ 160 ∧ (p = 0 → s = 0) ∧ (0 < p → gI.1 (4 + 5 * i + 2) (p - 1) = i32 s) ∧ gI.1 (4 + 5 * i + 2) p = i32 e ∧
  gM.1 8 (4 * i + p) = i32 s ∧ gM.1 8 (4 * i + p + 1) = i32 e ∧ WFx (gI.1 (4 + 5 * i + 1)) (fun j => gM.1 7 (200 * i + j)) s (e - s) 0
theorem TxI_fr {i : Nat} {gI gM gI' gM' : Mem} (h : TxI i gI gM) (a : gI'.1 (4 + 5 * i + 1) = gI.1 (4 + 5 * i + 1)) (b : gI'.1 (4 + 5 * i + 2) = gI.1 (4 + 5 * i + 2)) (c : gM'.1 7 = gM.1 7) (d : gM'.1 8 = gM.1 8) : TxI i gI' gM' := by
  intro p hp
  obtain ⟨s, e, h0⟩ := h p hp
  refine ⟨s, e, ?_⟩
  rw [a, b, c, d]; exact h0
theorem tv_fr {gM gM' : Mem} (c : gM'.1 7 = gM.1 7) (d : gM'.1 8 = gM.1 8) (i p : Nat) (a : Nat → Int32) : tv gM' i p a = tv gM i p a := by
  unfold tv; rw [c, d]
theorem tv_nb (gM : Mem) (i p : Nat) (a : Nat → Int32) : NB 99 (tv gM i p a) := cl_nb _
theorem tv_eq {gM : Mem} {i p s e : Nat} {f : Nat → Int32} (hs : gM.1 8 (4 * i + p) = i32 s) (he : gM.1 8 (4 * i + p + 1) = i32 e) (h1 : s ≤ e) (h2 : e ≤ 160) (W : WFx f (fun j => gM.1 7 (200 * i + j)) s (e - s) 0) (a a' : Nat → Int32) (ha : ∀ j, j < 6 → a j = a' j) (st : Nat → Int32) :
    cl (evs (fun j => gM.1 7 (200 * i + j)) a s (e - s) 0 st) = tv gM i p a' := by
  unfold tv
  rw [hs, he, i32_tn (by omega), i32_tn (by omega), evs_congr ha (e - s) s 0 st (fun _ => i32 0) W (fun j hj => by omega)]
set_option maxRecDepth 100000 in
set_option maxHeartbeats 4000000 in
theorem says_I {N i p : Nat} (hN : 6000 ≤ N) {gI gM : Mem} (hT : TxI i gI gM) (hi : i < 6) (hp : p < 3) (a0 a1 a2 a3 a4 a5 : Int32) :
    ∃ gI', X4_says N (4 + 5 * i) (i32 p) a0 a1 a2 a3 a4 a5 gI = some (tv gM i p (nm a0 a1 a2 a3 a4 a5), gI') ∧ SI gI gI' := by
  obtain ⟨s, e, h1, h2, h3, h4, h5, h6, h7, h8⟩ := hT p hp
  have L := says_loop N i e p (gI.1 (4 + 5 * i + 1)) (fun j => gM.1 7 (200 * i + j)) a0 a1 a2 a3 a4 a5 (e - s) s 0 N N
    (stI (stI (stI (stI (stI (stI gI (4 + 5 * i + 3) 0 a0) (4 + 5 * i + 3) 1 a1) (4 + 5 * i + 3) 2 a2) (4 + 5 * i + 3) 3 a3) (4 + 5 * i + 3) 4 a4) (4 + 5 * i + 3) 5 a5)
    (stA (stI gM 0 12 (i32 i)) 18 (nm a0 a1 a2 a3 a4 a5))
    ⟨hi, hp, h2, by simp -dsimp -implicitDefEqProofs (disch := omega) only [stI_eq, stI_nj, stI_ne, stI_2, stA_eq, stA_ne, stA_2, stR_1, stR_2]; exact h5, by simp -dsimp -implicitDefEqProofs (disch := omega) only [stI_eq, stI_nj, stI_ne, stI_2, stA_eq, stA_ne, stA_2, stR_1, stR_2], by simp -dsimp -implicitDefEqProofs (disch := omega) only [stI_eq, stI_nj, stI_ne, stI_2, stA_eq, stA_ne, stA_2, stR_1, stR_2]; exact h7, fun j _ => by simp -dsimp -implicitDefEqProofs (disch := omega) only [stI_eq, stI_nj, stI_ne, stI_2, stA_eq, stA_ne, stA_2, stR_1, stR_2], fun j _ => by simp -dsimp -implicitDefEqProofs (disch := omega) only [stI_eq, stI_nj, stI_ne, stI_2, stA_eq, stA_ne, stA_2, stR_1, stR_2], fun j hj => by omega, fun j hj => by
      rcases (by omega : j = 0 ∨ j = 1 ∨ j = 2 ∨ j = 3 ∨ j = 4 ∨ j = 5) with rfl | rfl | rfl | rfl | rfl | rfl <;> (simp -dsimp -implicitDefEqProofs (disch := omega) only [stI_eq, stI_nj, stI_ne, stI_2, stA_eq, stA_ne, stA_2, stR_1, stR_2]; rfl)⟩ h8 (by omega) (by omega) (by omega)
  obtain ⟨gI', gM', r1, _, r3, _⟩ := L
  refine ⟨gI', ?_, SI_tr ?_ r3⟩
  · have q := tv_eq h6 h7 h1 h2 h8 (nm a0 a1 a2 a3 a4 a5) (nm a0 a1 a2 a3 a4 a5) (fun _ _ => rfl) (gM.1 17)
    rw [← q]
    refine Eq.trans ?_ r1
    rcases (by omega : p = 0 ∨ p = 1 ∨ p = 2) with rfl | rfl | rfl
    · have := h3 rfl; subst this
      simp -dsimp -implicitDefEqProofs (disch := omega) only [X4_says, i32_lit, i32_add, i32_mul, i32_tn, i32_sub, le_t, le_f, lt_t, lt_f, eq_t, eq_f, eq_rfl, inR_t, ↓ob_x, obx_s, ↓bnd_s, ↓oT_x, oTx_s, ↓ite_x, itx_T, itx_F, ↓reduceIte, not_true_eq_false, not_false_eq_true, true_and, and_true, Nat.reduceAdd, Nat.reduceMul, Nat.reduceSub, Nat.reduceEqDiff, isB0, isB1, Int32.neg_neg, Nat.zero_add, Nat.add_zero, Nat.mul_zero, Nat.mul_one, Nat.zero_mul, stI_eq, stI_nj, stI_ne, stI_2, stA_eq, stA_ne, stA_2, stR_1, stR_2]
    · have h40 := h4 (by omega)
      simp -dsimp -implicitDefEqProofs (disch := omega) only [X4_says, i32_lit, i32_add, i32_mul, i32_tn, i32_sub, le_t, le_f, lt_t, lt_f, eq_t, eq_f, eq_rfl, inR_t, ↓ob_x, obx_s, ↓bnd_s, ↓oT_x, oTx_s, ↓ite_x, itx_T, itx_F, ↓reduceIte, not_true_eq_false, not_false_eq_true, true_and, and_true, Nat.reduceAdd, Nat.reduceMul, Nat.reduceSub, Nat.reduceEqDiff, isB0, isB1, Int32.neg_neg, Nat.zero_add, Nat.add_zero, Nat.mul_zero, Nat.mul_one, Nat.zero_mul, stI_eq, stI_nj, stI_ne, stI_2, stA_eq, stA_ne, stA_2, stR_1, stR_2, h40]
    · have h40 := h4 (by omega)
      simp -dsimp -implicitDefEqProofs (disch := omega) only [X4_says, i32_lit, i32_add, i32_mul, i32_tn, i32_sub, le_t, le_f, lt_t, lt_f, eq_t, eq_f, eq_rfl, inR_t, ↓ob_x, obx_s, ↓bnd_s, ↓oT_x, oTx_s, ↓ite_x, itx_T, itx_F, ↓reduceIte, not_true_eq_false, not_false_eq_true, true_and, and_true, Nat.reduceAdd, Nat.reduceMul, Nat.reduceSub, Nat.reduceEqDiff, isB0, isB1, Int32.neg_neg, Nat.zero_add, Nat.add_zero, Nat.mul_zero, Nat.mul_one, Nat.zero_mul, stI_eq, stI_nj, stI_ne, stI_2, stA_eq, stA_ne, stA_2, stR_1, stR_2, h40]
  · refine ⟨fun c hc => ?_, rfl⟩
    simp -dsimp -implicitDefEqProofs (disch := omega) only [stI_eq, stI_nj, stI_ne, stI_2, stA_eq, stA_ne, stA_2, stR_1, stR_2]
set_option maxRecDepth 100000 in
set_option maxHeartbeats 4000000 in
theorem says_M {N i p : Nat} (hN : 6000 ≤ N) {gI gM : Mem} (hT : TxI i gI gM) (hi : i < 6) (hp : p < 3) (hr : gM.1 0 12 = i32 i) (a : Nat → Int32) (ha : ∀ j, j < 6 → gM.1 18 j = a j) :
    ∃ s gM', X6_says N (i32 p) gM = some (s, gM') ∧ cl s = tv gM i p a ∧ SM gM gM' := by
  obtain ⟨s, e, h1, h2, h3, h4, h5, h6, h7, h8⟩ := hT p hp
  have L := says_loop N i e p (gI.1 (4 + 5 * i + 1)) (fun j => gM.1 7 (200 * i + j)) (i32 0) (i32 0) (i32 0) (i32 0) (i32 0) (i32 0) (e - s) s 0 N N
    (stA gI (4 + 5 * i + 3) (gM.1 18)) gM
    ⟨hi, hp, h2, by simp -dsimp -implicitDefEqProofs (disch := omega) only [stI_eq, stI_nj, stI_ne, stI_2, stA_eq, stA_ne, stA_2, stR_1, stR_2]; exact h5, hr, h7, fun j _ => by simp -dsimp -implicitDefEqProofs (disch := omega) only [stI_eq, stI_nj, stI_ne, stI_2, stA_eq, stA_ne, stA_2, stR_1, stR_2], fun j _ => rfl, fun j hj => by omega, fun j hj => by simp -dsimp -implicitDefEqProofs (disch := omega) only [stI_eq, stI_nj, stI_ne, stI_2, stA_eq, stA_ne, stA_2, stR_1, stR_2]⟩ h8 (by omega) (by omega) (by omega)
  obtain ⟨gI', gM', _, r2, _, r4⟩ := L
  refine ⟨_, gM', ?_, tv_eq h6 h7 h1 h2 h8 (gM.1 18) a ha (gM.1 17), r4⟩
  refine Eq.trans ?_ r2
  simp -dsimp -implicitDefEqProofs (disch := omega) only [X6_says, i32_lit, i32_add, i32_mul, i32_tn, i32_sub, le_t, le_f, lt_t, lt_f, eq_t, eq_f, eq_rfl, inR_t, ↓ob_x, obx_s, ↓bnd_s, ↓oT_x, oTx_s, ↓ite_x, itx_T, itx_F, ↓reduceIte, not_true_eq_false, not_false_eq_true, true_and, and_true, Nat.reduceAdd, Nat.reduceMul, Nat.reduceSub, Nat.reduceEqDiff, isB0, isB1, Int32.neg_neg, Nat.zero_add, Nat.add_zero, Nat.mul_zero, Nat.mul_one, Nat.zero_mul, hr, h6]
