/-! the values of a scene, told from the reference's rows; the class at scene b, the reference on its rows -/
def SV (gM : Mem) (i q p k : Nat) : Int32 := tv gM i q (nm (gM.1 3 (2 * p)) (gM.1 4 (4 * k + 2)) (gM.1 4 (4 * k + 1)) (gM.1 4 (4 * k)) (gM.1 0 6) (gM.1 2 p))
def FV (gM : Mem) (i : Nat) (w t h : Int32) : Int32 := tv gM i 2 (nm (i32 0) (i32 0) w t h (i32 0))
def RV (gM : Mem) (i p k : Nat) : Int32 :=
  if gM.1 1 p = i32 1 then SV gM i 0 p k / i32 2 + gM.1 2 p else if gM.1 1 p = i32 2 then SV gM i 0 p k + i32 10 else if gM.1 1 p = i32 3 then SV gM i 0 p k / i32 2 + gM.1 2 p + gM.1 2 p
  else if gM.1 1 p = i32 4 then gM.1 2 p else if gM.1 1 p = i32 5 then i32 99 else SV gM i 0 p k
def CoV (gM : Mem) (i p k : Nat) : Int32 :=
  if gM.1 1 p = i32 2 then (if gM.1 4 (4 * k) = i32 0 then SV gM i 1 p k / i32 2 else SV gM i 1 p k + gM.1 2 p)
  else if gM.1 1 p = i32 3 then (if gM.1 0 6 - gM.1 0 6 / i32 4 * i32 4 = i32 0 then i32 0 else SV gM i 1 p k)
  else if gM.1 1 p = i32 4 then (if gM.1 4 (4 * k) = i32 0 then SV gM i 1 p k / i32 2 else SV gM i 1 p k + gM.1 2 p) else SV gM i 1 p k
def canV (gM : Mem) (i p k : Nat) : Nat :=
  if gM.1 4 (4 * k + 3) = i32 0 then (if RV gM i p k < gM.1 4 (4 * k + 2) then 0 else if gM.1 3 (2 * p) < CoV gM i p k then 0 else 1) else 0
theorem canV_le (gM : Mem) (i p k : Nat) : canV gM i p k = 0 ∨ canV gM i p k = 1 := by
  unfold canV; split
  · split
    · exact Or.inl rfl
    · split
      · exact Or.inl rfl
      · exact Or.inr rfl
  · exact Or.inl rfl
/-- the scene b of the class is the reference's rows -/
def Sc (b d i : Nat) (gI gM : Mem) : Prop :=
  (42 ≤ b ∧ d ≤ 6 ∧ i < 6) ∧ (∀ t, t < 6 → gI.1 (b + 1) t = gM.1 5 t) ∧ (∀ k, k < 12 → gI.1 (b + 2) k = gM.1 4 (4 * k)) ∧ (∀ k, k < 12 → gI.1 (b + 3) k = gM.1 4 (4 * k + 1)) ∧
  (∀ k, k < 12 → gI.1 (b + 4) k = gM.1 4 (4 * k + 2)) ∧ (∀ k, k < 12 → gI.1 (b + 5) k = gM.1 4 (4 * k + 3)) ∧ (∀ p, p < 6 → gI.1 (b + 8) p = gM.1 3 (2 * p)) ∧
  gI.1 b 9 = i32 d ∧ gM.1 0 0 = i32 d ∧ (∀ p, p < d → gI.1 (b + 6) p = gM.1 1 p) ∧ (∀ p, p < d → gI.1 (b + 7) p = gM.1 2 p) ∧ gI.1 b 10 = gM.1 0 6 ∧
  gI.2 b = some (4 + 5 * i) ∧ gM.1 0 12 = i32 i ∧ TxI i gI gM
def Bd (d : Nat) (gM : Mem) : Prop :=
  (∀ t, t < 6 → NB 99 (gM.1 5 t)) ∧ (∀ k, k < 12 → NB 5 (gM.1 4 (4 * k))) ∧ (∀ k, k < 12 → NB 99 (gM.1 4 (4 * k + 1))) ∧ (∀ k, k < 12 → NB 99 (gM.1 4 (4 * k + 2))) ∧ (∀ k, k < 12 → NB 2 (gM.1 4 (4 * k + 3))) ∧
  (∀ p, p < 6 → NB 99 (gM.1 3 (2 * p))) ∧ (∀ p, p < d → NB 5 (gM.1 1 p)) ∧ (∀ p, p < d → NB 9 (gM.1 2 p))
theorem SI_hi {g g' : Mem} (h : SI g g') (c : Nat) (hc : 34 ≤ c ∨ c < 4) : g'.1 c = g.1 c := h.1 c (by omega)
theorem SM_r {g g' : Mem} (h : SM g g') (c : Nat) (hc : ¬ c = 17 ∧ ¬ c = 18) : g'.1 c = g.1 c := h c hc.1 hc.2
theorem TxI_SI {i : Nat} {gI gM gI' : Mem} (h : TxI i gI gM) (s : SI gI gI') : TxI i gI' gM := TxI_fr h (s.1 _ (by omega)) (s.1 _ (by omega)) rfl rfl
theorem TxI_SM {i : Nat} {gI gM gM' : Mem} (h : TxI i gI gM) (s : SM gM gM') : TxI i gI gM' := TxI_fr h rfl rfl (SM_r s 7 (by omega)) (SM_r s 8 (by omega))
theorem Sc_SI {b d i : Nat} {gI gM gI' : Mem} (h : Sc b d i gI gM) (s : SI gI gI') : Sc b d i gI' gM := by
  obtain ⟨⟨a1, a2, a3⟩, b1, b2, b3, b4, b5, b6, b7, b8, b9, b10, b11, b12, b13, b14⟩ := h
  refine ⟨⟨a1, a2, a3⟩, ?_, ?_, ?_, ?_, ?_, ?_, ?_, b8, ?_, ?_, ?_, ?_, b13, TxI_SI b14 s⟩
  · rw [SI_hi s (b + 1) (by omega)]; exact b1
  · rw [SI_hi s (b + 2) (by omega)]; exact b2
  · rw [SI_hi s (b + 3) (by omega)]; exact b3
  · rw [SI_hi s (b + 4) (by omega)]; exact b4
  · rw [SI_hi s (b + 5) (by omega)]; exact b5
  · rw [SI_hi s (b + 8) (by omega)]; exact b6
  · rw [SI_hi s b (by omega)]; exact b7
  · rw [SI_hi s (b + 6) (by omega)]; exact b9
  · rw [SI_hi s (b + 7) (by omega)]; exact b10
  · rw [SI_hi s b (by omega)]; exact b11
  · rw [s.2]; exact b12
theorem Sc_SM {b d i : Nat} {gI gM gM' : Mem} (h : Sc b d i gI gM) (s : SM gM gM') : Sc b d i gI gM' := by
  obtain ⟨a, b1, b2, b3, b4, b5, b6, b7, b8, b9, b10, b11, b12, b13, b14⟩ := h
  refine ⟨a, ?_, ?_, ?_, ?_, ?_, ?_, b7, ?_, ?_, ?_, ?_, b12, ?_, TxI_SM b14 s⟩
  · rw [SM_r s 5 (by omega)]; exact b1
  · rw [SM_r s 4 (by omega)]; exact b2
  · rw [SM_r s 4 (by omega)]; exact b3
  · rw [SM_r s 4 (by omega)]; exact b4
  · rw [SM_r s 4 (by omega)]; exact b5
  · rw [SM_r s 3 (by omega)]; exact b6
  · rw [SM_r s 0 (by omega)]; exact b8
  · rw [SM_r s 1 (by omega)]; exact b9
  · rw [SM_r s 2 (by omega)]; exact b10
  · rw [SM_r s 0 (by omega)]; exact b11
  · rw [SM_r s 0 (by omega)]; exact b13
theorem Bd_SM {d : Nat} {gM gM' : Mem} (h : Bd d gM) (s : SM gM gM') : Bd d gM' := by
  unfold Bd
  rw [SM_r s 5 (by omega), SM_r s 4 (by omega), SM_r s 3 (by omega), SM_r s 1 (by omega), SM_r s 2 (by omega)]; exact h
/-- the rows from which all values are told -/
def EV (g g' : Mem) : Prop := g'.1 0 = g.1 0 ∧ g'.1 1 = g.1 1 ∧ g'.1 2 = g.1 2 ∧ g'.1 3 = g.1 3 ∧ g'.1 4 = g.1 4 ∧ g'.1 7 = g.1 7 ∧ g'.1 8 = g.1 8
theorem EV_SM {g g' : Mem} (s : SM g g') : EV g g' := ⟨SM_r s 0 (by omega), SM_r s 1 (by omega), SM_r s 2 (by omega), SM_r s 3 (by omega), SM_r s 4 (by omega), SM_r s 7 (by omega), SM_r s 8 (by omega)⟩
theorem SV_EV {g g' : Mem} (s : EV g g') (i q p k : Nat) : SV g' i q p k = SV g i q p k := by
  obtain ⟨a, b, c, d, e, f, h⟩ := s
  unfold SV
  rw [a, c, d, e, tv_fr f h]
theorem FV_fr {g g' : Mem} (f : g'.1 7 = g.1 7) (h : g'.1 8 = g.1 8) (i : Nat) (w t x : Int32) : FV g' i w t x = FV g i w t x := tv_fr f h _ _ _
theorem RV_EV {g g' : Mem} (s : EV g g') (i p k : Nat) : RV g' i p k = RV g i p k := by
  unfold RV; rw [SV_EV s]; obtain ⟨a, b, c, d, e, f, h⟩ := s; rw [b, c]
theorem CoV_EV {g g' : Mem} (s : EV g g') (i p k : Nat) : CoV g' i p k = CoV g i p k := by
  unfold CoV; rw [SV_EV s]; obtain ⟨a, b, c, d, e, f, h⟩ := s; rw [a, b, c, e]
theorem canV_EV {g g' : Mem} (s : EV g g') (i p k : Nat) : canV g' i p k = canV g i p k := by
  unfold canV; rw [RV_EV s, CoV_EV s]; obtain ⟨a, b, c, d, e, f, h⟩ := s; rw [d, e]
set_option maxRecDepth 100000 in
theorem saidR_I {N b d i p k : Nat} (hN : 6000 ≤ N) {gI gM : Mem} (h : Sc b d i gI gM) (hp : p < d) (hk : k < 12) : ∃ gI', X1_saidReach N b (i32 p) (i32 k) gI = some (SV gM i 0 p k, gI') ∧ SI gI gI' := by
  obtain ⟨⟨a1, a2, a3⟩, b1, b2, b3, b4, b5, b6, b7, b8, b9, b10, b11, b12, b13, b14⟩ := h
  obtain ⟨gI', r1, r2⟩ := says_I hN b14 a3 (by omega : 0 < 3) (gM.1 3 (2 * p)) (gM.1 4 (4 * k + 2)) (gM.1 4 (4 * k + 1)) (gM.1 4 (4 * k)) (gM.1 0 6) (gM.1 2 p)
  refine ⟨gI', ?_, r2⟩
  simp -dsimp -implicitDefEqProofs (disch := omega) only [X1_saidReach, i32_lit, i32_add, i32_mul, i32_tn, i32_sub, le_t, le_f, lt_t, lt_f, eq_t, eq_f, eq_rfl, inR_t, ↓ob_x, obx_s, ↓bnd_s, ↓oT_x, oTx_s, ↓ite_x, itx_T, itx_F, ↓reduceIte, not_true_eq_false, not_false_eq_true, true_and, and_true, Nat.reduceAdd, Nat.reduceMul, Nat.reduceSub, Nat.reduceEqDiff, isB0, isB1, Int32.neg_neg, Nat.zero_add, Nat.add_zero, Nat.mul_zero, Nat.mul_one, Nat.zero_mul, b12, b6, b4, b3, b2, b11, b10, r1, SV]
set_option maxRecDepth 100000 in
theorem saidC_I {N b d i p k : Nat} (hN : 6000 ≤ N) {gI gM : Mem} (h : Sc b d i gI gM) (hp : p < d) (hk : k < 12) : ∃ gI', X1_saidCost N b (i32 p) (i32 k) gI = some (SV gM i 1 p k, gI') ∧ SI gI gI' := by
  obtain ⟨⟨a1, a2, a3⟩, b1, b2, b3, b4, b5, b6, b7, b8, b9, b10, b11, b12, b13, b14⟩ := h
  obtain ⟨gI', r1, r2⟩ := says_I hN b14 a3 (by omega : 1 < 3) (gM.1 3 (2 * p)) (gM.1 4 (4 * k + 2)) (gM.1 4 (4 * k + 1)) (gM.1 4 (4 * k)) (gM.1 0 6) (gM.1 2 p)
  refine ⟨gI', ?_, r2⟩
  simp -dsimp -implicitDefEqProofs (disch := omega) only [X1_saidCost, i32_lit, i32_add, i32_mul, i32_tn, i32_sub, le_t, le_f, lt_t, lt_f, eq_t, eq_f, eq_rfl, inR_t, ↓ob_x, obx_s, ↓bnd_s, ↓oT_x, oTx_s, ↓ite_x, itx_T, itx_F, ↓reduceIte, not_true_eq_false, not_false_eq_true, true_and, and_true, Nat.reduceAdd, Nat.reduceMul, Nat.reduceSub, Nat.reduceEqDiff, isB0, isB1, Int32.neg_neg, Nat.zero_add, Nat.add_zero, Nat.mul_zero, Nat.mul_one, Nat.zero_mul, b12, b6, b4, b3, b2, b11, b10, r1, SV]
set_option maxRecDepth 100000 in
theorem fading_I {N b i : Nat} (hN : 6000 ≤ N) {gI gM : Mem} (hT : TxI i gI gM) (hi : i < 6) (hl : gI.2 b = some (4 + 5 * i)) (w t x : Int32) : ∃ gI', X1_fading N b t w x gI = some (FV gM i w t x, gI') ∧ SI gI gI' := by
  obtain ⟨gI', r1, r2⟩ := says_I hN hT hi (by omega : 2 < 3) (i32 0) (i32 0) w t x (i32 0)
  refine ⟨gI', ?_, r2⟩
  simp -dsimp -implicitDefEqProofs (disch := omega) only [X1_fading, i32_lit, i32_add, i32_mul, i32_tn, i32_sub, le_t, le_f, lt_t, lt_f, eq_t, eq_f, eq_rfl, inR_t, ↓ob_x, obx_s, ↓bnd_s, ↓oT_x, oTx_s, ↓ite_x, itx_T, itx_F, ↓reduceIte, not_true_eq_false, not_false_eq_true, true_and, and_true, Nat.reduceAdd, Nat.reduceMul, Nat.reduceSub, Nat.reduceEqDiff, isB0, isB1, Int32.neg_neg, Nat.zero_add, Nat.add_zero, Nat.mul_zero, Nat.mul_one, Nat.zero_mul, hl, r1, FV]
set_option maxRecDepth 100000 in
theorem asks_M {N i q p k : Nat} (hN : 6000 ≤ N) {gI gM : Mem} (hT : TxI i gI gM) (hi : i < 6) (hr : gM.1 0 12 = i32 i) (hq : q < 2) (hp : p < 6) (hk : k < 12) : ∃ gM', X6_asksOf N (i32 q) (i32 p) (i32 k) gM = some (SV gM i q p k, gM') ∧ SM gM gM' := by
  have hs : SM gM (stI (stI (stI (stI (stI (stI gM 18 0 (gM.1 3 (2 * p))) 18 1 (gM.1 4 (4 * k + 2))) 18 2 (gM.1 4 (4 * k + 1))) 18 3 (gM.1 4 (4 * k))) 18 5 (gM.1 2 p)) 18 4 (gM.1 0 6)) := by
    intro c h1 h2
    simp -dsimp -implicitDefEqProofs (disch := omega) only [stI_eq, stI_nj, stI_ne, stI_2, stA_eq, stA_ne, stA_2, stR_1, stR_2]
  obtain ⟨s, gM', r1, r2, r3⟩ := says_M (i := i) (p := q) hN (TxI_SM hT hs) hi (by omega) (by simp -dsimp -implicitDefEqProofs (disch := omega) only [stI_eq, stI_nj, stI_ne, stI_2, stA_eq, stA_ne, stA_2, stR_1, stR_2]; exact hr) (nm (gM.1 3 (2 * p)) (gM.1 4 (4 * k + 2)) (gM.1 4 (4 * k + 1)) (gM.1 4 (4 * k)) (gM.1 0 6) (gM.1 2 p)) (by
    intro j hj
    rcases (by omega : j = 0 ∨ j = 1 ∨ j = 2 ∨ j = 3 ∨ j = 4 ∨ j = 5) with rfl | rfl | rfl | rfl | rfl | rfl <;> (simp -dsimp -implicitDefEqProofs (disch := omega) only [stI_eq, stI_nj, stI_ne, stI_2, stA_eq, stA_ne, stA_2, stR_1, stR_2]; rfl))
  refine ⟨gM', ?_, SM_tr hs r3⟩
  have r4 := cl_w N s gM'
  rw [r2] at r4
  have hq2 : ¬ q = 2 := by omega
  rw [tv_fr (SM_r hs 7 (by omega)) (SM_r hs 8 (by omega))] at r4
  simp -dsimp -implicitDefEqProofs (disch := omega) only [X6_asksOf, i32_lit, i32_add, i32_mul, i32_tn, i32_sub, le_t, le_f, lt_t, lt_f, eq_t, eq_f, eq_rfl, inR_t, ↓ob_x, obx_s, ↓bnd_s, ↓oT_x, oTx_s, ↓ite_x, itx_T, itx_F, ↓reduceIte, not_true_eq_false, not_false_eq_true, true_and, and_true, Nat.reduceAdd, Nat.reduceMul, Nat.reduceSub, Nat.reduceEqDiff, isB0, isB1, Int32.neg_neg, Nat.zero_add, Nat.add_zero, Nat.mul_zero, Nat.mul_one, Nat.zero_mul, stI_eq, stI_nj, stI_ne, stI_2, stA_eq, stA_ne, stA_2, stR_1, stR_2, r1, r4, SV]
set_option maxRecDepth 100000 in
theorem asks2_M {N i t : Nat} (hN : 6000 ≤ N) {gI gM : Mem} (hT : TxI i gI gM) (hi : i < 6) (hr : gM.1 0 12 = i32 i) (a : Int32) (ht : t < 6) : ∃ gM', X6_asksOf N (i32 2) a (i32 t) gM = some (FV gM i (gM.1 5 t) (i32 t) (gM.1 0 6), gM') ∧ SM gM gM' := by
  have hs : SM gM (stI (stI (stI (stI (stI (stI gM 18 0 (i32 0)) 18 1 (i32 0)) 18 2 (gM.1 5 t)) 18 3 (i32 t)) 18 5 (i32 0)) 18 4 (gM.1 0 6)) := by
    intro c h1 h2
    simp -dsimp -implicitDefEqProofs (disch := omega) only [stI_eq, stI_nj, stI_ne, stI_2, stA_eq, stA_ne, stA_2, stR_1, stR_2]
  obtain ⟨s, gM', r1, r2, r3⟩ := says_M (i := i) (p := 2) hN (TxI_SM hT hs) hi (by omega) (by simp -dsimp -implicitDefEqProofs (disch := omega) only [stI_eq, stI_nj, stI_ne, stI_2, stA_eq, stA_ne, stA_2, stR_1, stR_2]; exact hr) (nm (i32 0) (i32 0) (gM.1 5 t) (i32 t) (gM.1 0 6) (i32 0)) (by
    intro j hj
    rcases (by omega : j = 0 ∨ j = 1 ∨ j = 2 ∨ j = 3 ∨ j = 4 ∨ j = 5) with rfl | rfl | rfl | rfl | rfl | rfl <;> (simp -dsimp -implicitDefEqProofs (disch := omega) only [stI_eq, stI_nj, stI_ne, stI_2, stA_eq, stA_ne, stA_2, stR_1, stR_2]; rfl))
  refine ⟨gM', ?_, SM_tr hs r3⟩
  have r4 := cl_w N s gM'
  rw [r2] at r4
  rw [tv_fr (SM_r hs 7 (by omega)) (SM_r hs 8 (by omega))] at r4
  simp -dsimp -implicitDefEqProofs (disch := omega) only [X6_asksOf, i32_lit, i32_add, i32_mul, i32_tn, i32_sub, le_t, le_f, lt_t, lt_f, eq_t, eq_f, eq_rfl, inR_t, ↓ob_x, obx_s, ↓bnd_s, ↓oT_x, oTx_s, ↓ite_x, itx_T, itx_F, ↓reduceIte, not_true_eq_false, not_false_eq_true, true_and, and_true, Nat.reduceAdd, Nat.reduceMul, Nat.reduceSub, Nat.reduceEqDiff, isB0, isB1, Int32.neg_neg, Nat.zero_add, Nat.add_zero, Nat.mul_zero, Nat.mul_one, Nat.zero_mul, stI_eq, stI_nj, stI_ne, stI_2, stA_eq, stA_ne, stA_2, stR_1, stR_2, r1, r4, FV]
