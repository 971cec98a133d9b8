/-! frames; hours in a row; what is thought and laid back -/
def FI (b : Nat) (g g' : Mem) : Prop := (∀ c, ¬ (4 ≤ c ∧ c < 34 ∧ 3 ≤ (c - 4) % 5) → ¬ (b ≤ c ∧ c ≤ b + 9) → g'.1 c = g.1 c) ∧ ∀ c, ¬ c = b → g'.2 c = g.2 c
def FM (g g' : Mem) : Prop := (∀ c, ¬ c = 0 → ¬ c = 3 → ¬ c = 4 → ¬ c = 5 → ¬ c = 17 → ¬ c = 18 → g'.1 c = g.1 c) ∧ ∀ j, ¬ j = 6 → ¬ j = 32 → ¬ j = 33 → g'.1 0 j = g.1 0 j
theorem FI_tr {b : Nat} {x y z : Mem} (h : FI b x y) (k : FI b y z) : FI b x z := ⟨fun c a e => (k.1 c a e).trans (h.1 c a e), fun c e => (k.2 c e).trans (h.2 c e)⟩
theorem FM_tr {x y z : Mem} (h : FM x y) (k : FM y z) : FM x z := ⟨fun c a1 a2 a3 a4 a5 a6 => (k.1 c a1 a2 a3 a4 a5 a6).trans (h.1 c a1 a2 a3 a4 a5 a6), fun j a1 a2 a3 => (k.2 j a1 a2 a3).trans (h.2 j a1 a2 a3)⟩
theorem FI_rfl (b : Nat) (x : Mem) : FI b x x := ⟨fun _ _ _ => rfl, fun _ _ => rfl⟩
theorem FM_rfl (x : Mem) : FM x x := ⟨fun _ _ _ _ _ _ _ => rfl, fun _ _ _ _ => rfl⟩
theorem FI_SI {b : Nat} {x y : Mem} (h : SI x y) : FI b x y := ⟨fun c a _ => h.1 c a, fun c _ => by rw [h.2]⟩
theorem FM_SM {x y : Mem} (h : SM x y) : FM x y := ⟨fun c _ _ _ _ a e => h c a e, fun j _ _ _ => by rw [SM_r h 0 (by omega)]⟩
theorem FI_st {b c j : Nat} (g : Mem) (v : Int32) (h : b ≤ c ∧ c ≤ b + 9) : FI b g (stI g c j v) := ⟨fun e _ h2 => stI_ne _ _ _ _ _ (by omega), fun _ _ => rfl⟩
theorem FM_st {c j : Nat} (g : Mem) (v : Int32) (h : c = 3 ∨ c = 4 ∨ c = 5) : FM g (stI g c j v) := ⟨fun e _ _ _ _ _ _ => stI_ne _ _ _ _ _ (by omega), fun k _ _ _ => by rw [stI_ne _ _ _ _ _ (by omega)]⟩
theorem FM_st0 {j : Nat} (g : Mem) (v : Int32) (h : j = 6 ∨ j = 32 ∨ j = 33) : FM g (stI g 0 j v) := ⟨fun e _ _ _ _ _ _ => stI_ne _ _ _ _ _ (by omega), fun k _ _ _ => stI_nj _ _ _ _ _ (by omega)⟩
theorem FI_hr (b : Nat) (gI gM : Mem) (i d : Nat) : FI b gI (hrI' b gI gM i d) := ⟨fun c _ h => by rw [hrI', stI_ne _ _ _ _ _ (by omega), hbI_n _ _ _ _ _ (by omega), hsI_n _ _ _ _ _ _ (by omega)], fun _ _ => rfl⟩
theorem FM_hr (gM : Mem) (i d : Nat) : FM gM (hrM gM i d) := ⟨fun c h1 h2 _ h3 _ _ => by rw [hrM, stI_ne _ _ _ _ _ h1, hbM_n _ _ _ h2, hsM_n _ _ _ _ h3], fun j h _ _ => by rw [hrM, stI_nj _ _ _ _ _ h, hbM_n _ _ _ (by omega), hsM_n _ _ _ _ (by omega)]⟩
def Bg (b : Nat) (gI gM : Mem) : Prop := ∀ p, p < 6 → gI.1 (b + 9) p = gM.1 3 (2 * p + 1)
theorem Bg_hr {b : Nat} {gI gM : Mem} (hb : 42 ≤ b) (h : Bg b gI gM) (i d : Nat) : Bg b (hrI' b gI gM i d) (hrM gM i d) := by
  intro p hp
  rw [hrI', stI_ne _ _ _ _ _ (by omega), hbI_n _ _ _ _ _ (by omega), hsI_n _ _ _ _ _ _ (by omega), hrM, stI_ne _ _ _ _ _ (by omega), hbM, stA_eq, if_neg (by omega), hsM_n _ _ _ _ (by omega)]
  exact h p hp
theorem Bg_SI {b : Nat} {gI gM gI' gM' : Mem} (hb : 42 ≤ b) (h : Bg b gI gM) (s : SI gI gI') (t : SM gM gM') : Bg b gI' gM' := by
  intro p hp
  rw [SI_hi s (b + 9) (by omega), SM_r t 3 (by omega)]; exact h p hp
/-- the two alike again, and what else was left alone -/
def OKs (b d i : Nat) (gI gM gI' gM' : Mem) : Prop := Sc b d i gI' gM' ∧ Bd d gM' ∧ FI b gI gI' ∧ FM gM gM' ∧ (Bg b gI gM → Bg b gI' gM')
theorem OKs_tr {b d i : Nat} {a1 a2 b1 b2 c1 c2 : Mem} (h : OKs b d i a1 a2 b1 b2) (k : OKs b d i b1 b2 c1 c2) : OKs b d i a1 a2 c1 c2 :=
  ⟨k.1, k.2.1, FI_tr h.2.2.1 k.2.2.1, FM_tr h.2.2.2.1 k.2.2.2.1, fun q => k.2.2.2.2 (h.2.2.2.2 q)⟩
theorem OKs_S {b d i : Nat} {gI gM gI' gM' : Mem} (h : Sc b d i gI gM) (q : Bd d gM) (s : SI gI gI') (t : SM gM gM') : OKs b d i gI gM gI' gM' :=
  ⟨Sc_SM (Sc_SI h s) t, Bd_SM q t, FI_SI s, FM_SM t, fun w => Bg_SI h.1.1 w s t⟩
theorem OKs_hr {b d i : Nat} {gI gM gI' gM' : Mem} (h : Sc b d i gI gM) (q : Bd d gM) (s : SI (hrI' b gI gM i d) gI') (t : SM (hrM gM i d) gM') : OKs b d i gI gM gI' gM' := by
  obtain ⟨u, v⟩ := hour_Sc h q
  exact ⟨Sc_SM (Sc_SI u s) t, Bd_SM v t, FI_tr (FI_hr b gI gM i d) (FI_SI s), FM_tr (FM_hr gM i d) (FM_SM t), fun w => Bg_SI h.1.1 (Bg_hr h.1.1 w i d) s t⟩
theorem Sc_p {b d i : Nat} {gI gM : Mem} (h : Sc b d i gI gM) : TxI i gI gM ∧ i < 6 ∧ gM.1 0 12 = i32 i ∧ d ≤ 6 ∧ gM.1 0 0 = i32 d := ⟨h.2.2.2.2.2.2.2.2.2.2.2.2.2.2, h.1.2.2, h.2.2.2.2.2.2.2.2.2.2.2.2.2.1, h.1.2.1, h.2.2.2.2.2.2.2.2.1⟩
theorem hrM_h (gM : Mem) (i d : Nat) {g : Mem} (t : SM (hrM gM i d) g) : g.1 0 6 = gM.1 0 6 + i32 1 := by
  rw [SM_r t 0 (by omega), hrM, stI_eq]
theorem hrM_5 (gM : Mem) (i d : Nat) {g : Mem} (t : SM (hrM gM i d) g) (j : Nat) (hj : j < 6) : g.1 5 j = fdW gM i (gM.1 5 j) (i32 j) (gM.1 0 6) := by
  rw [SM_r t 5 (by omega), hrM, stI_ne _ _ _ _ _ (by omega), hbM_n _ _ _ (by omega), hsM, stA_eq, if_pos hj]
set_option maxRecDepth 100000 in
theorem hours_IM {N b d i : Nat} (hN : 6000 ≤ N) (a : Nat) (ha : a ≤ 100) : ∀ (n x fu fM : Nat) (y : Int32) (gI gM : Mem), x + n = a → 20 * n + 20 < fu → n < fM → Sc b d i gI gM → Bd d gM →
    ∃ gI' gM', X1_passHours_G2 N b (i32 a) fu 0 (i32 x) y gI = some (i32 0, gI') ∧ X6_goes_L2 N (i32 a) fM (i32 x) gM = some (i32 0, gM') ∧ OKs b d i gI gM gI' gM' ∧ gM'.1 0 6 = gM.1 0 6 + i32 n := by
  intro n
  induction n with
  | zero =>
    intro x fu fM y gI gM h1 h2 h3 h q
    obtain ⟨f, rfl⟩ : ∃ q, fu = q + 1 := ⟨fu - 1, by omega⟩
    obtain ⟨f', rfl⟩ : ∃ q, fM = q + 1 := ⟨fM - 1, by omega⟩
    refine ⟨gI, gM, ?_, ?_, OKs_S h q (SI_rfl _) (SM_rfl _), ?_⟩
    · simp -dsimp -implicitDefEqProofs (disch := omega) only [X1_passHours_G2, i32_lit, i32_add, i32_mul, i32_tn, i32_sub, le_t, le_f, lt_t, lt_f, eq_t, eq_f, eq_rfl, inR_t, ↓ob_x, obx_s, ↓bnd_s, ↓oT_x, oTx_s, ↓ite_x, itx_T, itx_F, ↓reduceIte, not_true_eq_false, not_false_eq_true, true_and, and_true, Nat.reduceAdd, Nat.reduceMul, Nat.reduceSub, Nat.reduceEqDiff, isB0, isB1, Int32.neg_neg, Nat.zero_add, Nat.add_zero, Nat.mul_zero, Nat.mul_one, Nat.zero_mul]
    · simp -dsimp -implicitDefEqProofs (disch := omega) only [X6_goes_L2, i32_lit, i32_add, i32_mul, i32_tn, i32_sub, le_t, le_f, lt_t, lt_f, eq_t, eq_f, eq_rfl, inR_t, ↓ob_x, obx_s, ↓bnd_s, ↓oT_x, oTx_s, ↓ite_x, itx_T, itx_F, ↓reduceIte, not_true_eq_false, not_false_eq_true, true_and, and_true, Nat.reduceAdd, Nat.reduceMul, Nat.reduceSub, Nat.reduceEqDiff, isB0, isB1, Int32.neg_neg, Nat.zero_add, Nat.add_zero, Nat.mul_zero, Nat.mul_one, Nat.zero_mul]
    · rw [show i32 0 = (0 : Int32) from rfl, Int32.add_zero]
  | succ n ih =>
    intro x fu fM y gI gM h1 h2 h3 h q
    obtain ⟨f', rfl⟩ : ∃ q, fM = q + 1 := ⟨fM - 1, by omega⟩
    obtain ⟨p1, p2, p3, p4, p5⟩ := Sc_p h
    obtain ⟨g1, r1, r2⟩ := hour_I hN h q a x fu y (by omega) (by omega) (by omega)
    obtain ⟨m1, s1, s2⟩ := hour_M hN p1 p2 p3 p4 p5
    have o := OKs_hr h q r2 s2
    obtain ⟨g2, m2, t1, t2, t3, t4⟩ := ih (x + 1) (fu - (d + 9)) f' (i32 0) g1 m1 (by omega) (by omega) (by omega) o.1 o.2.1
    refine ⟨g2, m2, ?_, ?_, OKs_tr o t3, ?_⟩
    · rw [r1, t1]
    · simp -dsimp -implicitDefEqProofs (disch := omega) only [X6_goes_L2, i32_lit, i32_add, i32_mul, i32_tn, i32_sub, le_t, le_f, lt_t, lt_f, eq_t, eq_f, eq_rfl, inR_t, ↓ob_x, obx_s, ↓bnd_s, ↓oT_x, oTx_s, ↓ite_x, itx_T, itx_F, ↓reduceIte, not_true_eq_false, not_false_eq_true, true_and, and_true, Nat.reduceAdd, Nat.reduceMul, Nat.reduceSub, Nat.reduceEqDiff, isB0, isB1, Int32.neg_neg, Nat.zero_add, Nat.add_zero, Nat.mul_zero, Nat.mul_one, Nat.zero_mul, s1, t2]
    · rw [t4, hrM_h gM i d s2, Int32.add_assoc, i32_add, Nat.add_comm]
theorem goes_sim {N b d i n : Nat} (hN : 6000 ≤ N) (hn : n ≤ 100) {gI gM : Mem} (h : Sc b d i gI gM) (q : Bd d gM) :
    ∃ gI' gM', X1_passHours N b (i32 n) gI = some (i32 0, gI') ∧ X6_goes N (i32 n) gM = some (i32 0, gM') ∧ OKs b d i gI gM gI' gM' ∧ gM'.1 0 6 = gM.1 0 6 + i32 n :=
  hours_IM hN n hn n 0 N N (i32 0) gI gM (by omega) (by omega) (by omega) h q
theorem hour_sim {N b d i : Nat} (hN : 6000 ≤ N) {gI gM : Mem} (h : Sc b d i gI gM) (q : Bd d gM) :
    ∃ gI' gM', X1_passHours N b (i32 1) gI = some (i32 0, gI') ∧ X6_hourOf N gM = some (i32 0, gM') ∧ OKs b d i gI gM gI' gM' ∧ gM'.1 0 6 = gM.1 0 6 + i32 1 ∧ ∀ j, j < 6 → gM'.1 5 j = fdW gM i (gM.1 5 j) (i32 j) (gM.1 0 6) := by
  obtain ⟨p1, p2, p3, p4, p5⟩ := Sc_p h
  obtain ⟨g1, r1, r2⟩ := hour_I hN h q 1 0 N (i32 0) (by omega) (by omega) (by omega)
  obtain ⟨m1, s1, s2⟩ := hour_M hN p1 p2 p3 p4 p5
  refine ⟨g1, m1, ?_, s1, OKs_hr h q r2 s2, hrM_h gM i d s2, hrM_5 gM i d s2⟩
  have e : X1_passHours N b (i32 1) gI = X1_passHours_G2 N b (i32 1) N 0 (i32 0) (i32 0) gI := rfl
  rw [e, r1]
  obtain ⟨f, hf⟩ : ∃ q, N - (d + 9) = q + 1 := ⟨N - (d + 9) - 1, by omega⟩
  rw [hf]
  simp -dsimp -implicitDefEqProofs (disch := omega) only [X1_passHours_G2, i32_lit, i32_add, i32_mul, i32_tn, i32_sub, le_t, le_f, lt_t, lt_f, eq_t, eq_f, eq_rfl, inR_t, ↓ob_x, obx_s, ↓bnd_s, ↓oT_x, oTx_s, ↓ite_x, itx_T, itx_F, ↓reduceIte, not_true_eq_false, not_false_eq_true, true_and, and_true, Nat.reduceAdd, Nat.reduceMul, Nat.reduceSub, Nat.reduceEqDiff, isB0, isB1, Int32.neg_neg, Nat.zero_add, Nat.add_zero, Nat.mul_zero, Nat.mul_one, Nat.zero_mul]
/-! becomes -/
theorem cpy0 (f g : Nat → Int32) (n j : Nat) (h : j < n) : va_cpy f g 0 0 n j = f j := by
  unfold va_cpy
  rw [if_pos ⟨by omega, by omega⟩]; congr 1; omega
def LK (b a : Nat) (gI gI' : Mem) : Prop := (∀ t, t < 6 → gI'.1 (b + 1) t = gI.1 (a + 1) t) ∧ (∀ k, k < 12 → gI'.1 (b + 2) k = gI.1 (a + 2) k) ∧ (∀ k, k < 12 → gI'.1 (b + 3) k = gI.1 (a + 3) k) ∧ (∀ k, k < 12 → gI'.1 (b + 4) k = gI.1 (a + 4) k) ∧
  (∀ k, k < 12 → gI'.1 (b + 5) k = gI.1 (a + 5) k) ∧ (∀ k, k < 6 → gI'.1 (b + 6) k = gI.1 (a + 6) k) ∧ (∀ k, k < 6 → gI'.1 (b + 7) k = gI.1 (a + 7) k) ∧ (∀ k, k < 6 → gI'.1 (b + 8) k = gI.1 (a + 8) k) ∧ (∀ k, k < 6 → gI'.1 (b + 9) k = gI.1 (a + 9) k) ∧
  gI'.1 b 9 = gI.1 a 9 ∧ gI'.1 b 10 = gI.1 a 10 ∧ gI'.2 b = gI.2 a
set_option maxRecDepth 100000 in
theorem becomes_I {N b a i : Nat} {gI : Mem} (hab : a + 10 ≤ b ∨ b + 10 ≤ a) (hl : gI.2 a = some (4 + 5 * i)) (hi : i < 6) : ∃ gI', X1_becomes N b a gI = some (i32 0, gI') ∧ FI b gI gI' ∧ LK b a gI gI' := by
  have k1 : cpOk (0 : Int32) (0 : Int32) (6 : Int32) 6 6 = True := eq_true (by decide)
  have k2 : cpOk (0 : Int32) (0 : Int32) (12 : Int32) 12 12 = True := eq_true (by decide)
  have e : X1_becomes N b a gI = some (i32 0, (stR (stI (stI (stA (stA (stA (stA (stA (stA (stA (stA (stA gI (b + 1) (va_cpy (gI.1 (a + 1)) (gI.1 (b + 1)) 0 0 6)) (b + 2) (va_cpy (gI.1 (a + 2)) (gI.1 (b + 2)) 0 0 12)) (b + 3) (va_cpy (gI.1 (a + 3)) (gI.1 (b + 3)) 0 0 12)) (b + 4) (va_cpy (gI.1 (a + 4)) (gI.1 (b + 4)) 0 0 12)) (b + 5) (va_cpy (gI.1 (a + 5)) (gI.1 (b + 5)) 0 0 12)) (b + 6) (va_cpy (gI.1 (a + 6)) (gI.1 (b + 6)) 0 0 6)) (b + 7) (va_cpy (gI.1 (a + 7)) (gI.1 (b + 7)) 0 0 6)) (b + 8) (va_cpy (gI.1 (a + 8)) (gI.1 (b + 8)) 0 0 6)) (b + 9) (va_cpy (gI.1 (a + 9)) (gI.1 (b + 9)) 0 0 6)) b 9 (gI.1 a 9)) b 10 (gI.1 a 10)) b (4 + 5 * i))) := by
    simp -dsimp -implicitDefEqProofs (disch := omega) only [X1_becomes, ↓k1, ↓k2, i32_lit, i32_add, i32_mul, i32_tn, i32_sub, le_t, le_f, lt_t, lt_f, eq_t, eq_f, eq_rfl, inR_t, ↓ob_x, obx_s, ↓bnd_s, ↓oT_x, oTx_s, ↓ite_x, itx_T, itx_F, ↓reduceIte, not_true_eq_false, not_false_eq_true, true_and, and_true, Nat.reduceAdd, Nat.reduceMul, Nat.reduceSub, Nat.reduceEqDiff, isB0, isB1, Int32.neg_neg, Nat.zero_add, Nat.add_zero, Nat.mul_zero, Nat.mul_one, Nat.zero_mul, stI_eq, stI_nj, stI_ne, stI_2, stA_eq, stA_ne, stA_2, stR_1, stR_2, hl]
  refine ⟨_, e, ⟨fun c _ h => ?_, fun c h => ?_⟩, fun t h => ?_, fun t h => ?_, fun t h => ?_, fun t h => ?_, fun t h => ?_, fun t h => ?_, fun t h => ?_, fun t h => ?_, fun t h => ?_, ?_, ?_, ?_⟩
  · simp -dsimp -implicitDefEqProofs (disch := omega) only [stI_eq, stI_nj, stI_ne, stI_2, stA_eq, stA_ne, stA_2, stR_1, stR_2]
  · rw [stR_2, if_neg h]; rfl
  · simp -dsimp -implicitDefEqProofs (disch := omega) only [stI_eq, stI_nj, stI_ne, stI_2, stA_eq, stA_ne, stA_2, stR_1, stR_2, cpy0]
  · simp -dsimp -implicitDefEqProofs (disch := omega) only [stI_eq, stI_nj, stI_ne, stI_2, stA_eq, stA_ne, stA_2, stR_1, stR_2, cpy0]
  · simp -dsimp -implicitDefEqProofs (disch := omega) only [stI_eq, stI_nj, stI_ne, stI_2, stA_eq, stA_ne, stA_2, stR_1, stR_2, cpy0]
  · simp -dsimp -implicitDefEqProofs (disch := omega) only [stI_eq, stI_nj, stI_ne, stI_2, stA_eq, stA_ne, stA_2, stR_1, stR_2, cpy0]
  · simp -dsimp -implicitDefEqProofs (disch := omega) only [stI_eq, stI_nj, stI_ne, stI_2, stA_eq, stA_ne, stA_2, stR_1, stR_2, cpy0]
  · simp -dsimp -implicitDefEqProofs (disch := omega) only [stI_eq, stI_nj, stI_ne, stI_2, stA_eq, stA_ne, stA_2, stR_1, stR_2, cpy0]
  · simp -dsimp -implicitDefEqProofs (disch := omega) only [stI_eq, stI_nj, stI_ne, stI_2, stA_eq, stA_ne, stA_2, stR_1, stR_2, cpy0]
  · simp -dsimp -implicitDefEqProofs (disch := omega) only [stI_eq, stI_nj, stI_ne, stI_2, stA_eq, stA_ne, stA_2, stR_1, stR_2, cpy0]
  · simp -dsimp -implicitDefEqProofs (disch := omega) only [stI_eq, stI_nj, stI_ne, stI_2, stA_eq, stA_ne, stA_2, stR_1, stR_2, cpy0]
  · simp -dsimp -implicitDefEqProofs (disch := omega) only [stI_eq, stI_nj, stI_ne, stI_2, stA_eq, stA_ne, stA_2, stR_1, stR_2]
  · simp -dsimp -implicitDefEqProofs (disch := omega) only [stI_eq, stI_nj, stI_ne, stI_2, stA_eq, stA_ne, stA_2, stR_1, stR_2]
  · rw [stR_2, if_pos rfl, hl]
theorem Sc_LK {b a d i : Nat} {gI gM gI' : Mem} (h : Sc a d i gI gM) (hb : 42 ≤ b) (f : FI b gI gI') (l : LK b a gI gI') : Sc b d i gI' gM := by
  obtain ⟨⟨a1, a2, a3⟩, b1, b2, b3, b4, b5, b6, b7, b8, b9, b10, b11, b12, b13, b14⟩ := h
  obtain ⟨l1, l2, l3, l4, l5, l6, l7, l8, l9, m1, m2, m3⟩ := l
  refine ⟨⟨hb, a2, a3⟩, fun t h => (l1 t h).trans (b1 t h), fun t h => (l2 t h).trans (b2 t h), fun t h => (l3 t h).trans (b3 t h), fun t h => (l4 t h).trans (b4 t h), fun t h => (l5 t h).trans (b5 t h), fun t h => (l8 t h).trans (b6 t h), m1.trans b7, b8, fun t h => (l6 t (by omega)).trans (b9 t h), fun t h => (l7 t (by omega)).trans (b10 t h), m2.trans b11, m3.trans b12, b13, ?_⟩
  exact TxI_fr b14 (f.1 _ (by omega) (by omega)) (f.1 _ (by omega) (by omega)) rfl rfl
theorem Bg_LK {b a : Nat} {gI gM gI' : Mem} (h : Bg a gI gM) (l : LK b a gI gI') : Bg b gI' gM := fun p hp => (l.2.2.2.2.2.2.2.2.1 p hp).trans (h p hp)
/-! keeps, lays -/
def srcM (g : Mem) (j : Nat) : Int32 := if j < 12 then g.1 3 j else if j < 60 then g.1 4 (j - 12) else if j < 66 then g.1 5 (j - 60) else g.1 0 6
def KP (n : Nat) (g g' : Mem) : Prop := (∀ c, ¬ c = 19 → g'.1 c = g.1 c) ∧ ∀ j, j < n → g'.1 19 j = srcM g j
theorem KP_s {n : Nat} {g g' : Mem} (h : KP n g g') {v : Int32} (hv : v = srcM g n) : KP (n + 1) g (stI g' 19 n v) := by
  refine ⟨fun c hc => by rw [stI_ne _ _ _ _ _ hc]; exact h.1 c hc, fun j hj => ?_⟩
  by_cases e : j = n
  · subst e; rw [stI_eq, hv]
  · rw [stI_nj _ _ _ _ _ e]; exact h.2 j (by omega)
set_option maxRecDepth 100000 in
theorem kp57 {N : Nat} {g : Mem} : ∀ (n x fu : Nat) (g' : Mem), x + n = 6 → n < fu → KP (60 + x) g g' → ∃ g2, X6_keeps_L57 N fu (i32 x) g' = some (i32 0, g2) ∧ KP 67 g g2
  | 0, x, fu, g', h1, h2, h => by
    obtain ⟨f, rfl⟩ : ∃ q, fu = q + 1 := ⟨fu - 1, by omega⟩
    have : x = 6 := by omega
    subst this
    refine ⟨_, ?_, KP_s h (v := g.1 0 6) (by unfold srcM; rw [if_neg (by omega), if_neg (by omega), if_neg (by omega)])⟩
    simp -dsimp -implicitDefEqProofs (disch := omega) only [X6_keeps_L57, i32_lit, i32_add, i32_mul, i32_tn, i32_sub, le_t, le_f, lt_t, lt_f, eq_t, eq_f, eq_rfl, inR_t, ↓ob_x, obx_s, ↓bnd_s, ↓oT_x, oTx_s, ↓ite_x, itx_T, itx_F, ↓reduceIte, not_true_eq_false, not_false_eq_true, true_and, and_true, Nat.reduceAdd, Nat.reduceMul, Nat.reduceSub, Nat.reduceEqDiff, isB0, isB1, Int32.neg_neg, Nat.zero_add, Nat.add_zero, Nat.mul_zero, Nat.mul_one, Nat.zero_mul, h.1]
  | n + 1, x, fu, g', h1, h2, h => by
    obtain ⟨f, rfl⟩ : ∃ q, fu = q + 1 := ⟨fu - 1, by omega⟩
    obtain ⟨g2, r1, r2⟩ := kp57 (N := N) n (x + 1) f (stI g' 19 (60 + x) (g.1 5 x)) (by omega) (by omega) (KP_s h (by unfold srcM; rw [if_neg (by omega), if_neg (by omega), if_pos (by omega), show 60 + x - 60 = x by omega]))
    refine ⟨g2, ?_, r2⟩
    simp -dsimp -implicitDefEqProofs (disch := omega) only [X6_keeps_L57, i32_lit, i32_add, i32_mul, i32_tn, i32_sub, le_t, le_f, lt_t, lt_f, eq_t, eq_f, eq_rfl, inR_t, ↓ob_x, obx_s, ↓bnd_s, ↓oT_x, oTx_s, ↓ite_x, itx_T, itx_F, ↓reduceIte, not_true_eq_false, not_false_eq_true, true_and, and_true, Nat.reduceAdd, Nat.reduceMul, Nat.reduceSub, Nat.reduceEqDiff, isB0, isB1, Int32.neg_neg, Nat.zero_add, Nat.add_zero, Nat.mul_zero, Nat.mul_one, Nat.zero_mul, h.1, r1]
set_option maxRecDepth 100000 in
theorem kp28 {N : Nat} (hN : 6000 ≤ N) {g : Mem} : ∀ (n x fu : Nat) (g' : Mem), x + n = 48 → n < fu → KP (12 + x) g g' → ∃ g2, X6_keeps_L28 N fu (i32 x) g' = some (i32 0, g2) ∧ KP 67 g g2
  | 0, x, fu, g', h1, h2, h => by
    obtain ⟨f, rfl⟩ : ∃ q, fu = q + 1 := ⟨fu - 1, by omega⟩
    have : x = 48 := by omega
    subst this
    obtain ⟨g2, r1, r2⟩ := kp57 (N := N) 6 0 N g' (by omega) (by omega) h
    refine ⟨g2, ?_, r2⟩
    simp -dsimp -implicitDefEqProofs (disch := omega) only [X6_keeps_L28, i32_lit, i32_add, i32_mul, i32_tn, i32_sub, le_t, le_f, lt_t, lt_f, eq_t, eq_f, eq_rfl, inR_t, ↓ob_x, obx_s, ↓bnd_s, ↓oT_x, oTx_s, ↓ite_x, itx_T, itx_F, ↓reduceIte, not_true_eq_false, not_false_eq_true, true_and, and_true, Nat.reduceAdd, Nat.reduceMul, Nat.reduceSub, Nat.reduceEqDiff, isB0, isB1, Int32.neg_neg, Nat.zero_add, Nat.add_zero, Nat.mul_zero, Nat.mul_one, Nat.zero_mul, r1]
  | n + 1, x, fu, g', h1, h2, h => by
    obtain ⟨f, rfl⟩ : ∃ q, fu = q + 1 := ⟨fu - 1, by omega⟩
    obtain ⟨g2, r1, r2⟩ := kp28 hN n (x + 1) f (stI g' 19 (12 + x) (g.1 4 x)) (by omega) (by omega) (KP_s h (by unfold srcM; rw [if_neg (by omega), if_pos (by omega), show 12 + x - 12 = x by omega]))
    refine ⟨g2, ?_, r2⟩
    simp -dsimp -implicitDefEqProofs (disch := omega) only [X6_keeps_L28, i32_lit, i32_add, i32_mul, i32_tn, i32_sub, le_t, le_f, lt_t, lt_f, eq_t, eq_f, eq_rfl, inR_t, ↓ob_x, obx_s, ↓bnd_s, ↓oT_x, oTx_s, ↓ite_x, itx_T, itx_F, ↓reduceIte, not_true_eq_false, not_false_eq_true, true_and, and_true, Nat.reduceAdd, Nat.reduceMul, Nat.reduceSub, Nat.reduceEqDiff, isB0, isB1, Int32.neg_neg, Nat.zero_add, Nat.add_zero, Nat.mul_zero, Nat.mul_one, Nat.zero_mul, h.1, r1]
set_option maxRecDepth 100000 in
theorem kp2 {N : Nat} (hN : 6000 ≤ N) {g : Mem} : ∀ (n x fu : Nat) (g' : Mem), x + n = 12 → n < fu → KP x g g' → ∃ g2, X6_keeps_L2 N fu (i32 x) g' = some (i32 0, g2) ∧ KP 67 g g2
  | 0, x, fu, g', h1, h2, h => by
    obtain ⟨f, rfl⟩ : ∃ q, fu = q + 1 := ⟨fu - 1, by omega⟩
    have : x = 12 := by omega
    subst this
    obtain ⟨g2, r1, r2⟩ := kp28 (N := N) hN 48 0 N g' (by omega) (by omega) h
    refine ⟨g2, ?_, r2⟩
    simp -dsimp -implicitDefEqProofs (disch := omega) only [X6_keeps_L2, i32_lit, i32_add, i32_mul, i32_tn, i32_sub, le_t, le_f, lt_t, lt_f, eq_t, eq_f, eq_rfl, inR_t, ↓ob_x, obx_s, ↓bnd_s, ↓oT_x, oTx_s, ↓ite_x, itx_T, itx_F, ↓reduceIte, not_true_eq_false, not_false_eq_true, true_and, and_true, Nat.reduceAdd, Nat.reduceMul, Nat.reduceSub, Nat.reduceEqDiff, isB0, isB1, Int32.neg_neg, Nat.zero_add, Nat.add_zero, Nat.mul_zero, Nat.mul_one, Nat.zero_mul, r1]
  | n + 1, x, fu, g', h1, h2, h => by
    obtain ⟨f, rfl⟩ : ∃ q, fu = q + 1 := ⟨fu - 1, by omega⟩
    obtain ⟨g2, r1, r2⟩ := kp2 hN n (x + 1) f (stI g' 19 x (g.1 3 x)) (by omega) (by omega) (KP_s h (by unfold srcM; rw [if_pos (by omega)]))
    refine ⟨g2, ?_, r2⟩
    simp -dsimp -implicitDefEqProofs (disch := omega) only [X6_keeps_L2, i32_lit, i32_add, i32_mul, i32_tn, i32_sub, le_t, le_f, lt_t, lt_f, eq_t, eq_f, eq_rfl, inR_t, ↓ob_x, obx_s, ↓bnd_s, ↓oT_x, oTx_s, ↓ite_x, itx_T, itx_F, ↓reduceIte, not_true_eq_false, not_false_eq_true, true_and, and_true, Nat.reduceAdd, Nat.reduceMul, Nat.reduceSub, Nat.reduceEqDiff, isB0, isB1, Int32.neg_neg, Nat.zero_add, Nat.add_zero, Nat.mul_zero, Nat.mul_one, Nat.zero_mul, h.1, r1]
theorem keeps_M {N : Nat} (hN : 6000 ≤ N) (g : Mem) : ∃ g2, X6_keeps N g = some (i32 0, g2) ∧ KP 67 g g2 := kp2 hN 12 0 N g (by omega) (by omega) ⟨fun _ _ => rfl, fun j hj => by omega⟩
def LaP (n : Nat) (g g' : Mem) : Prop := (∀ c, ¬ c = 0 → ¬ c = 3 → ¬ c = 4 → ¬ c = 5 → g'.1 c = g.1 c) ∧ (∀ j, ¬ j = 6 → g'.1 0 j = g.1 0 j) ∧ ∀ j, j < n → srcM g' j = g.1 19 j
theorem src_3 (g : Mem) (j : Nat) (h : j < 12) : srcM g j = g.1 3 j := by unfold srcM; rw [if_pos h]
theorem src_4 (g : Mem) (j : Nat) (h : j < 48) : srcM g (12 + j) = g.1 4 j := by unfold srcM; rw [if_neg (by omega), if_pos (by omega), show 12 + j - 12 = j by omega]
theorem src_5 (g : Mem) (j : Nat) (h : j < 6) : srcM g (60 + j) = g.1 5 j := by unfold srcM; rw [if_neg (by omega), if_neg (by omega), if_pos (by omega), show 60 + j - 60 = j by omega]
theorem src_0 (g : Mem) : srcM g 66 = g.1 0 6 := by unfold srcM; rw [if_neg (by omega), if_neg (by omega), if_neg (by omega)]
theorem LP3 {n : Nat} {g g' : Mem} (h : LaP n g g') (hn : n < 12) : LaP (n + 1) g (stI g' 3 n (g.1 19 n)) := by
  refine ⟨fun c h1 h2 h3 h4 => by rw [stI_ne _ _ _ _ _ h2]; exact h.1 c h1 h2 h3 h4, fun j hj => by rw [stI_ne _ _ _ _ _ (by omega)]; exact h.2.1 j hj, fun j hj => ?_⟩
  rw [src_3 _ _ (by omega)]
  by_cases e : j = n
  · subst e; rw [stI_eq]
  · rw [stI_nj _ _ _ _ _ e, ← src_3 g' j (by omega)]; exact h.2.2 j (by omega)
theorem LP4 {n : Nat} {g g' : Mem} (h : LaP (12 + n) g g') (hn : n < 48) : LaP (12 + (n + 1)) g (stI g' 4 n (g.1 19 (12 + n))) := by
  refine ⟨fun c h1 h2 h3 h4 => by rw [stI_ne _ _ _ _ _ h3]; exact h.1 c h1 h2 h3 h4, fun j hj => by rw [stI_ne _ _ _ _ _ (by omega)]; exact h.2.1 j hj, fun j hj => ?_⟩
  by_cases e0 : j < 12
  · rw [src_3 _ _ e0, stI_ne _ _ _ _ _ (by omega), ← src_3 g' j e0]; exact h.2.2 j (by omega)
  · obtain ⟨q, rfl⟩ : ∃ q, j = 12 + q := ⟨j - 12, by omega⟩
    rw [src_4 _ _ (by omega)]
    by_cases e : q = n
    · subst e; rw [stI_eq]
    · rw [stI_nj _ _ _ _ _ e, ← src_4 g' q (by omega)]; exact h.2.2 (12 + q) (by omega)
theorem LP5 {n : Nat} {g g' : Mem} (h : LaP (60 + n) g g') (hn : n < 6) : LaP (60 + (n + 1)) g (stI g' 5 n (g.1 19 (60 + n))) := by
  refine ⟨fun c h1 h2 h3 h4 => by rw [stI_ne _ _ _ _ _ h4]; exact h.1 c h1 h2 h3 h4, fun j hj => by rw [stI_ne _ _ _ _ _ (by omega)]; exact h.2.1 j hj, fun j hj => ?_⟩
  by_cases e0 : j < 12
  · rw [src_3 _ _ e0, stI_ne _ _ _ _ _ (by omega), ← src_3 g' j e0]; exact h.2.2 j (by omega)
  · by_cases e1 : j < 60
    · obtain ⟨q, rfl⟩ : ∃ q, j = 12 + q := ⟨j - 12, by omega⟩
      rw [src_4 _ _ (by omega), stI_ne _ _ _ _ _ (by omega), ← src_4 g' q (by omega)]; exact h.2.2 (12 + q) (by omega)
    · obtain ⟨q, rfl⟩ : ∃ q, j = 60 + q := ⟨j - 60, by omega⟩
      rw [src_5 _ _ (by omega)]
      by_cases e : q = n
      · subst e; rw [stI_eq]
      · rw [stI_nj _ _ _ _ _ e, ← src_5 g' q (by omega)]; exact h.2.2 (60 + q) (by omega)
theorem LP0 {g g' : Mem} (h : LaP 66 g g') : LaP 67 g (stI g' 0 6 (g.1 19 66)) := by
  refine ⟨fun c h1 h2 h3 h4 => by rw [stI_ne _ _ _ _ _ h1]; exact h.1 c h1 h2 h3 h4, fun j hj => by rw [stI_nj _ _ _ _ _ hj]; exact h.2.1 j hj, fun j hj => ?_⟩
  by_cases e : j = 66
  · subst e; rw [src_0, stI_eq]
  · rw [← h.2.2 j (by omega)]
    unfold srcM
    rw [stI_ne _ _ _ _ _ (by omega), stI_ne _ _ _ _ _ (by omega), stI_ne _ _ _ _ _ (by omega)]
    split
    · rfl
    · split
      · rfl
      · split
        · rfl
        · omega
set_option maxRecDepth 100000 in
theorem lay57 {N : Nat} {g : Mem} : ∀ (n x fu : Nat) (g' : Mem), x + n = 6 → n < fu → LaP (60 + x) g g' → ∃ g2, X6_lays_L57 N fu (i32 x) g' = some (i32 0, g2) ∧ LaP 67 g g2
  | 0, x, fu, g', h1, h2, h => by
    obtain ⟨f, rfl⟩ : ∃ q, fu = q + 1 := ⟨fu - 1, by omega⟩
    have : x = 6 := by omega
    subst this
    refine ⟨_, ?_, LP0 h⟩
    simp -dsimp -implicitDefEqProofs (disch := omega) only [X6_lays_L57, i32_lit, i32_add, i32_mul, i32_tn, i32_sub, le_t, le_f, lt_t, lt_f, eq_t, eq_f, eq_rfl, inR_t, ↓ob_x, obx_s, ↓bnd_s, ↓oT_x, oTx_s, ↓ite_x, itx_T, itx_F, ↓reduceIte, not_true_eq_false, not_false_eq_true, true_and, and_true, Nat.reduceAdd, Nat.reduceMul, Nat.reduceSub, Nat.reduceEqDiff, isB0, isB1, Int32.neg_neg, Nat.zero_add, Nat.add_zero, Nat.mul_zero, Nat.mul_one, Nat.zero_mul, h.1]
  | n + 1, x, fu, g', h1, h2, h => by
    obtain ⟨f, rfl⟩ : ∃ q, fu = q + 1 := ⟨fu - 1, by omega⟩
    obtain ⟨g2, r1, r2⟩ := lay57 (N := N) n (x + 1) f _ (by omega) (by omega) (LP5 h (by omega))
    refine ⟨g2, ?_, r2⟩
    simp -dsimp -implicitDefEqProofs (disch := omega) only [X6_lays_L57, i32_lit, i32_add, i32_mul, i32_tn, i32_sub, le_t, le_f, lt_t, lt_f, eq_t, eq_f, eq_rfl, inR_t, ↓ob_x, obx_s, ↓bnd_s, ↓oT_x, oTx_s, ↓ite_x, itx_T, itx_F, ↓reduceIte, not_true_eq_false, not_false_eq_true, true_and, and_true, Nat.reduceAdd, Nat.reduceMul, Nat.reduceSub, Nat.reduceEqDiff, isB0, isB1, Int32.neg_neg, Nat.zero_add, Nat.add_zero, Nat.mul_zero, Nat.mul_one, Nat.zero_mul, h.1, r1]
set_option maxRecDepth 100000 in
theorem lay28 {N : Nat} (hN : 6000 ≤ N) {g : Mem} : ∀ (n x fu : Nat) (g' : Mem), x + n = 48 → n < fu → LaP (12 + x) g g' → ∃ g2, X6_lays_L28 N fu (i32 x) g' = some (i32 0, g2) ∧ LaP 67 g g2
  | 0, x, fu, g', h1, h2, h => by
    obtain ⟨f, rfl⟩ : ∃ q, fu = q + 1 := ⟨fu - 1, by omega⟩
    have : x = 48 := by omega
    subst this
    obtain ⟨g2, r1, r2⟩ := lay57 (N := N) 6 0 N g' (by omega) (by omega) h
    refine ⟨g2, ?_, r2⟩
    simp -dsimp -implicitDefEqProofs (disch := omega) only [X6_lays_L28, i32_lit, i32_add, i32_mul, i32_tn, i32_sub, le_t, le_f, lt_t, lt_f, eq_t, eq_f, eq_rfl, inR_t, ↓ob_x, obx_s, ↓bnd_s, ↓oT_x, oTx_s, ↓ite_x, itx_T, itx_F, ↓reduceIte, not_true_eq_false, not_false_eq_true, true_and, and_true, Nat.reduceAdd, Nat.reduceMul, Nat.reduceSub, Nat.reduceEqDiff, isB0, isB1, Int32.neg_neg, Nat.zero_add, Nat.add_zero, Nat.mul_zero, Nat.mul_one, Nat.zero_mul, r1]
  | n + 1, x, fu, g', h1, h2, h => by
    obtain ⟨f, rfl⟩ : ∃ q, fu = q + 1 := ⟨fu - 1, by omega⟩
    obtain ⟨g2, r1, r2⟩ := lay28 hN n (x + 1) f _ (by omega) (by omega) (LP4 h (by omega))
    refine ⟨g2, ?_, r2⟩
    simp -dsimp -implicitDefEqProofs (disch := omega) only [X6_lays_L28, i32_lit, i32_add, i32_mul, i32_tn, i32_sub, le_t, le_f, lt_t, lt_f, eq_t, eq_f, eq_rfl, inR_t, ↓ob_x, obx_s, ↓bnd_s, ↓oT_x, oTx_s, ↓ite_x, itx_T, itx_F, ↓reduceIte, not_true_eq_false, not_false_eq_true, true_and, and_true, Nat.reduceAdd, Nat.reduceMul, Nat.reduceSub, Nat.reduceEqDiff, isB0, isB1, Int32.neg_neg, Nat.zero_add, Nat.add_zero, Nat.mul_zero, Nat.mul_one, Nat.zero_mul, h.1, r1]
set_option maxRecDepth 100000 in
theorem lay2 {N : Nat} (hN : 6000 ≤ N) {g : Mem} : ∀ (n x fu : Nat) (g' : Mem), x + n = 12 → n < fu → LaP x g g' → ∃ g2, X6_lays_L2 N fu (i32 x) g' = some (i32 0, g2) ∧ LaP 67 g g2
  | 0, x, fu, g', h1, h2, h => by
    obtain ⟨f, rfl⟩ : ∃ q, fu = q + 1 := ⟨fu - 1, by omega⟩
    have : x = 12 := by omega
    subst this
    obtain ⟨g2, r1, r2⟩ := lay28 (N := N) hN 48 0 N g' (by omega) (by omega) h
    refine ⟨g2, ?_, r2⟩
    simp -dsimp -implicitDefEqProofs (disch := omega) only [X6_lays_L2, i32_lit, i32_add, i32_mul, i32_tn, i32_sub, le_t, le_f, lt_t, lt_f, eq_t, eq_f, eq_rfl, inR_t, ↓ob_x, obx_s, ↓bnd_s, ↓oT_x, oTx_s, ↓ite_x, itx_T, itx_F, ↓reduceIte, not_true_eq_false, not_false_eq_true, true_and, and_true, Nat.reduceAdd, Nat.reduceMul, Nat.reduceSub, Nat.reduceEqDiff, isB0, isB1, Int32.neg_neg, Nat.zero_add, Nat.add_zero, Nat.mul_zero, Nat.mul_one, Nat.zero_mul, r1]
  | n + 1, x, fu, g', h1, h2, h => by
    obtain ⟨f, rfl⟩ : ∃ q, fu = q + 1 := ⟨fu - 1, by omega⟩
    obtain ⟨g2, r1, r2⟩ := lay2 hN n (x + 1) f _ (by omega) (by omega) (LP3 h (by omega))
    refine ⟨g2, ?_, r2⟩
    simp -dsimp -implicitDefEqProofs (disch := omega) only [X6_lays_L2, i32_lit, i32_add, i32_mul, i32_tn, i32_sub, le_t, le_f, lt_t, lt_f, eq_t, eq_f, eq_rfl, inR_t, ↓ob_x, obx_s, ↓bnd_s, ↓oT_x, oTx_s, ↓ite_x, itx_T, itx_F, ↓reduceIte, not_true_eq_false, not_false_eq_true, true_and, and_true, Nat.reduceAdd, Nat.reduceMul, Nat.reduceSub, Nat.reduceEqDiff, isB0, isB1, Int32.neg_neg, Nat.zero_add, Nat.add_zero, Nat.mul_zero, Nat.mul_one, Nat.zero_mul, h.1, r1]
theorem lays_M {N : Nat} (hN : 6000 ≤ N) (g : Mem) : ∃ g2, X6_lays N g = some (i32 0, g2) ∧ LaP 67 g g2 := lay2 hN 12 0 N g (by omega) (by omega) ⟨fun _ _ _ _ _ => rfl, fun _ _ => rfl, fun j hj => by omega⟩
/-- alike in all that is seen from call to call -/
def EqM (g g' : Mem) : Prop := (∀ c, ¬ c = 0 → ¬ c = 3 → ¬ c = 4 → ¬ c = 5 → ¬ c = 17 → ¬ c = 18 → ¬ c = 19 → g'.1 c = g.1 c) ∧ (∀ j, ¬ j = 32 → ¬ j = 33 → g'.1 0 j = g.1 0 j) ∧ (∀ j, j < 12 → g'.1 3 j = g.1 3 j) ∧ (∀ j, j < 48 → g'.1 4 j = g.1 4 j) ∧ ∀ j, j < 6 → g'.1 5 j = g.1 5 j
theorem EqM_rfl (g : Mem) : EqM g g := ⟨fun _ _ _ _ _ _ _ _ => rfl, fun _ _ _ => rfl, fun _ _ => rfl, fun _ _ => rfl, fun _ _ => rfl⟩
theorem EqM_tr {a b c : Mem} (h : EqM a b) (k : EqM b c) : EqM a c := ⟨fun x a1 a2 a3 a4 a5 a6 a7 => (k.1 x a1 a2 a3 a4 a5 a6 a7).trans (h.1 x a1 a2 a3 a4 a5 a6 a7), fun j a1 a2 => (k.2.1 j a1 a2).trans (h.2.1 j a1 a2), fun j q => (k.2.2.1 j q).trans (h.2.2.1 j q), fun j q => (k.2.2.2.1 j q).trans (h.2.2.2.1 j q), fun j q => (k.2.2.2.2 j q).trans (h.2.2.2.2 j q)⟩
theorem EqM_SM {a b : Mem} (h : SM a b) : EqM a b := ⟨fun c _ _ _ _ a e _ => h c a e, fun j _ _ => by rw [SM_r h 0 (by omega)], fun j _ => by rw [SM_r h 3 (by omega)], fun j _ => by rw [SM_r h 4 (by omega)], fun j _ => by rw [SM_r h 5 (by omega)]⟩
/-- kept, done with, laid back -/
theorem EqM_back {g g1 g2 g3 : Mem} (k : KP 67 g g1) (f : FM g1 g2) (l : LaP 67 g2 g3) : EqM g g3 := by
  have e : ∀ j, j < 67 → srcM g3 j = srcM g j := fun j hj => by
    rw [l.2.2 j hj, f.1 19 (by omega) (by omega) (by omega) (by omega) (by omega) (by omega), k.2 j hj]
  refine ⟨fun c h0 h3 h4 h5 h17 h18 h19 => ?_, fun j h1 h2 => ?_, fun j hj => ?_, fun j hj => ?_, fun j hj => ?_⟩
  · rw [l.1 c h0 h3 h4 h5, f.1 c h0 h3 h4 h5 h17 h18, k.1 c h19]
  · by_cases h6 : j = 6
    · subst h6
      have := e 66 (by omega)
      rw [src_0, src_0] at this; exact this
    · rw [l.2.1 j h6, f.2 j h6 h1 h2, k.1 0 (by omega)]
  · have := e j (by omega)
    rw [src_3 _ _ hj, src_3 _ _ hj] at this; exact this
  · have := e (12 + j) (by omega)
    rw [src_4 _ _ hj, src_4 _ _ hj] at this; exact this
  · have := e (60 + j) (by omega)
    rw [src_5 _ _ hj, src_5 _ _ hj] at this; exact this
