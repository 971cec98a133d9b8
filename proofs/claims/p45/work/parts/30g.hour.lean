/-! an hour goes by: both sides -/
def mn (s : Int32) : Int32 := if s < i32 99 then s else i32 99
def mx (s : Int32) : Int32 := if i32 0 < s then s else i32 0
theorem mn_def (s : Int32) : (if s < (99 : Int32) then s else (99 : Int32)) = mn s := rfl
theorem mx_def (s : Int32) : (if (0 : Int32) < s then s else (0 : Int32)) = mx s := rfl
theorem mx_t {s : Int32} (h : i32 0 ≤ s) : mx s = s := by
  unfold mx
  by_cases q : i32 0 < s
  · rw [if_pos q]
  · rw [if_neg q]
    rw [Int32.le_iff_toInt_le] at h
    rw [Int32.lt_iff_toInt_lt] at q
    exact Int32.toInt_inj.mp (by omega)
theorem mx_f {s : Int32} (h : ¬ i32 0 ≤ s) : mx s = i32 0 := by
  unfold mx
  rw [if_neg]
  intro q
  rw [Int32.le_iff_toInt_le] at h
  rw [Int32.lt_iff_toInt_lt] at q
  omega
theorem mn_cl {s : Int32} (h : NB 1000 s) : mn s = cl s := by
  obtain ⟨n, hn, rfl⟩ := h
  have h99 : (i32 99).toInt = 99 := i32_toInt (by omega)
  have h00 : (i32 0).toInt = 0 := i32_toInt (by omega)
  unfold cl mn
  by_cases h1 : i32 n < i32 99
  · rw [if_pos h1]
    by_cases h2 : i32 0 < i32 n
    · rw [if_pos h2]
    · rw [if_neg h2]
      rw [i32_lt (by omega) (by omega)] at h2
      rw [show n = 0 by omega]
  · rw [if_neg h1, if_pos (by rw [lt_t (by omega)]; trivial)]
theorem mx_nb {w v : Int32} (hw : NB 99 w) (hv : NB 99 v) : NB 99 (mx (w - v)) := by
  obtain ⟨a, ha, rfl⟩ := hw
  obtain ⟨c, hc, rfl⟩ := hv
  by_cases h : c ≤ a
  · rw [i32_sub h, mx_t (by rw [le_t (by omega)]; trivial)]
    exact ⟨a - c, by omega, rfl⟩
  · rw [mx_f]
    · exact ⟨0, by omega, rfl⟩
    · rw [Int32.le_iff_toInt_le, i32_toInt (by omega), show i32 a - i32 c = -(i32 (c - a)) by rw [← i32_sub (by omega : a ≤ c), Int32.neg_sub], i32_negI (by omega)]
      omega
def brK (K m : Int32) : Int32 := if K = i32 1 then i32 10 else if K = i32 2 then i32 5 else if K = i32 3 then i32 10 else if K = i32 4 then i32 5 + m else if K = i32 5 then i32 0 else i32 5
theorem br_I (N : Nat) (K m : Int32) (g : Mem) : X0_breathing N K m g = some (brK K m, g) := by
  unfold brK
  by_cases h1 : K = i32 1
  · simp -dsimp -implicitDefEqProofs (disch := omega) only [X0_breathing, i32_lit, i32_add, i32_mul, i32_tn, i32_sub, le_t, le_f, lt_t, lt_f, eq_t, eq_f, eq_rfl, inR_t, ↓ob_x, obx_s, ↓bnd_s, ↓oT_x, oTx_s, ↓ite_x, itx_T, itx_F, ↓reduceIte, not_true_eq_false, not_false_eq_true, true_and, and_true, Nat.reduceAdd, Nat.reduceMul, Nat.reduceSub, Nat.reduceEqDiff, isB0, isB1, Int32.neg_neg, Nat.zero_add, Nat.add_zero, Nat.mul_zero, Nat.mul_one, Nat.zero_mul, h1]
  · by_cases h2 : K = i32 2
    · simp -dsimp -implicitDefEqProofs (disch := omega) only [X0_breathing, i32_lit, i32_add, i32_mul, i32_tn, i32_sub, le_t, le_f, lt_t, lt_f, eq_t, eq_f, eq_rfl, inR_t, ↓ob_x, obx_s, ↓bnd_s, ↓oT_x, oTx_s, ↓ite_x, itx_T, itx_F, ↓reduceIte, not_true_eq_false, not_false_eq_true, true_and, and_true, Nat.reduceAdd, Nat.reduceMul, Nat.reduceSub, Nat.reduceEqDiff, isB0, isB1, Int32.neg_neg, Nat.zero_add, Nat.add_zero, Nat.mul_zero, Nat.mul_one, Nat.zero_mul, h2]
    · by_cases h3 : K = i32 3
      · simp -dsimp -implicitDefEqProofs (disch := omega) only [X0_breathing, i32_lit, i32_add, i32_mul, i32_tn, i32_sub, le_t, le_f, lt_t, lt_f, eq_t, eq_f, eq_rfl, inR_t, ↓ob_x, obx_s, ↓bnd_s, ↓oT_x, oTx_s, ↓ite_x, itx_T, itx_F, ↓reduceIte, not_true_eq_false, not_false_eq_true, true_and, and_true, Nat.reduceAdd, Nat.reduceMul, Nat.reduceSub, Nat.reduceEqDiff, isB0, isB1, Int32.neg_neg, Nat.zero_add, Nat.add_zero, Nat.mul_zero, Nat.mul_one, Nat.zero_mul, h3]
      · by_cases h4 : K = i32 4
        · simp -dsimp -implicitDefEqProofs (disch := omega) only [X0_breathing, i32_lit, i32_add, i32_mul, i32_tn, i32_sub, le_t, le_f, lt_t, lt_f, eq_t, eq_f, eq_rfl, inR_t, ↓ob_x, obx_s, ↓bnd_s, ↓oT_x, oTx_s, ↓ite_x, itx_T, itx_F, ↓reduceIte, not_true_eq_false, not_false_eq_true, true_and, and_true, Nat.reduceAdd, Nat.reduceMul, Nat.reduceSub, Nat.reduceEqDiff, isB0, isB1, Int32.neg_neg, Nat.zero_add, Nat.add_zero, Nat.mul_zero, Nat.mul_one, Nat.zero_mul, h4]
        · by_cases h5 : K = i32 5
          · simp -dsimp -implicitDefEqProofs (disch := omega) only [X0_breathing, i32_lit, i32_add, i32_mul, i32_tn, i32_sub, le_t, le_f, lt_t, lt_f, eq_t, eq_f, eq_rfl, inR_t, ↓ob_x, obx_s, ↓bnd_s, ↓oT_x, oTx_s, ↓ite_x, itx_T, itx_F, ↓reduceIte, not_true_eq_false, not_false_eq_true, true_and, and_true, Nat.reduceAdd, Nat.reduceMul, Nat.reduceSub, Nat.reduceEqDiff, isB0, isB1, Int32.neg_neg, Nat.zero_add, Nat.add_zero, Nat.mul_zero, Nat.mul_one, Nat.zero_mul, h5]
          · simp -dsimp -implicitDefEqProofs (disch := omega) only [X0_breathing, i32_lit, i32_add, i32_mul, i32_tn, i32_sub, le_t, le_f, lt_t, lt_f, eq_t, eq_f, eq_rfl, inR_t, ↓ob_x, obx_s, ↓bnd_s, ↓oT_x, oTx_s, ↓ite_x, itx_T, itx_F, ↓reduceIte, not_true_eq_false, not_false_eq_true, true_and, and_true, Nat.reduceAdd, Nat.reduceMul, Nat.reduceSub, Nat.reduceEqDiff, isB0, isB1, Int32.neg_neg, Nat.zero_add, Nat.add_zero, Nat.mul_zero, Nat.mul_one, Nat.zero_mul, h1, h2, h3, h4, h5]
theorem br_M (N p : Nat) (g : Mem) (hp : p < 6) : X6_breathesOf N (i32 p) g = some (brK (g.1 1 p) (g.1 2 p), g) := by
  unfold brK
  by_cases h1 : g.1 1 p = i32 1
  · simp -dsimp -implicitDefEqProofs (disch := omega) only [X6_breathesOf, i32_lit, i32_add, i32_mul, i32_tn, i32_sub, le_t, le_f, lt_t, lt_f, eq_t, eq_f, eq_rfl, inR_t, ↓ob_x, obx_s, ↓bnd_s, ↓oT_x, oTx_s, ↓ite_x, itx_T, itx_F, ↓reduceIte, not_true_eq_false, not_false_eq_true, true_and, and_true, Nat.reduceAdd, Nat.reduceMul, Nat.reduceSub, Nat.reduceEqDiff, isB0, isB1, Int32.neg_neg, Nat.zero_add, Nat.add_zero, Nat.mul_zero, Nat.mul_one, Nat.zero_mul, h1]
  · by_cases h2 : g.1 1 p = i32 2
    · simp -dsimp -implicitDefEqProofs (disch := omega) only [X6_breathesOf, i32_lit, i32_add, i32_mul, i32_tn, i32_sub, le_t, le_f, lt_t, lt_f, eq_t, eq_f, eq_rfl, inR_t, ↓ob_x, obx_s, ↓bnd_s, ↓oT_x, oTx_s, ↓ite_x, itx_T, itx_F, ↓reduceIte, not_true_eq_false, not_false_eq_true, true_and, and_true, Nat.reduceAdd, Nat.reduceMul, Nat.reduceSub, Nat.reduceEqDiff, isB0, isB1, Int32.neg_neg, Nat.zero_add, Nat.add_zero, Nat.mul_zero, Nat.mul_one, Nat.zero_mul, h2]
    · by_cases h3 : g.1 1 p = i32 3
      · simp -dsimp -implicitDefEqProofs (disch := omega) only [X6_breathesOf, i32_lit, i32_add, i32_mul, i32_tn, i32_sub, le_t, le_f, lt_t, lt_f, eq_t, eq_f, eq_rfl, inR_t, ↓ob_x, obx_s, ↓bnd_s, ↓oT_x, oTx_s, ↓ite_x, itx_T, itx_F, ↓reduceIte, not_true_eq_false, not_false_eq_true, true_and, and_true, Nat.reduceAdd, Nat.reduceMul, Nat.reduceSub, Nat.reduceEqDiff, isB0, isB1, Int32.neg_neg, Nat.zero_add, Nat.add_zero, Nat.mul_zero, Nat.mul_one, Nat.zero_mul, h3]
      · by_cases h4 : g.1 1 p = i32 4
        · simp -dsimp -implicitDefEqProofs (disch := omega) only [X6_breathesOf, i32_lit, i32_add, i32_mul, i32_tn, i32_sub, le_t, le_f, lt_t, lt_f, eq_t, eq_f, eq_rfl, inR_t, ↓ob_x, obx_s, ↓bnd_s, ↓oT_x, oTx_s, ↓ite_x, itx_T, itx_F, ↓reduceIte, not_true_eq_false, not_false_eq_true, true_and, and_true, Nat.reduceAdd, Nat.reduceMul, Nat.reduceSub, Nat.reduceEqDiff, isB0, isB1, Int32.neg_neg, Nat.zero_add, Nat.add_zero, Nat.mul_zero, Nat.mul_one, Nat.zero_mul, h4]
        · by_cases h5 : g.1 1 p = i32 5
          · simp -dsimp -implicitDefEqProofs (disch := omega) only [X6_breathesOf, i32_lit, i32_add, i32_mul, i32_tn, i32_sub, le_t, le_f, lt_t, lt_f, eq_t, eq_f, eq_rfl, inR_t, ↓ob_x, obx_s, ↓bnd_s, ↓oT_x, oTx_s, ↓ite_x, itx_T, itx_F, ↓reduceIte, not_true_eq_false, not_false_eq_true, true_and, and_true, Nat.reduceAdd, Nat.reduceMul, Nat.reduceSub, Nat.reduceEqDiff, isB0, isB1, Int32.neg_neg, Nat.zero_add, Nat.add_zero, Nat.mul_zero, Nat.mul_one, Nat.zero_mul, h5]
          · simp -dsimp -implicitDefEqProofs (disch := omega) only [X6_breathesOf, i32_lit, i32_add, i32_mul, i32_tn, i32_sub, le_t, le_f, lt_t, lt_f, eq_t, eq_f, eq_rfl, inR_t, ↓ob_x, obx_s, ↓bnd_s, ↓oT_x, oTx_s, ↓ite_x, itx_T, itx_F, ↓reduceIte, not_true_eq_false, not_false_eq_true, true_and, and_true, Nat.reduceAdd, Nat.reduceMul, Nat.reduceSub, Nat.reduceEqDiff, isB0, isB1, Int32.neg_neg, Nat.zero_add, Nat.add_zero, Nat.mul_zero, Nat.mul_one, Nat.zero_mul, h1, h2, h3, h4, h5]
theorem brK_nb {K m : Int32} (hm : NB 9 m) : NB 14 (brK K m) := by
  obtain ⟨n, hn, rfl⟩ := hm
  unfold brK
  split
  · exact ⟨10, by omega, rfl⟩
  split
  · exact ⟨5, by omega, rfl⟩
  split
  · exact ⟨10, by omega, rfl⟩
  split
  · exact ⟨5 + n, by omega, i32_add 5 n⟩
  split
  · exact ⟨0, by omega, rfl⟩
  · exact ⟨5, by omega, rfl⟩
theorem NB_add {a b : Nat} {x y : Int32} (hx : NB a x) (hy : NB b y) : NB (a + b) (x + y) := by
  obtain ⟨n, hn, rfl⟩ := hx
  obtain ⟨m, hm, rfl⟩ := hy
  exact ⟨n + m, by omega, i32_add n m⟩
theorem NB_up {a b : Nat} {x : Int32} (hx : NB a x) (h : a ≤ b) : NB b x := by
  obtain ⟨n, hn, rfl⟩ := hx
  exact ⟨n, by omega, rfl⟩
def fdW (gM : Mem) (i : Nat) (w t h : Int32) : Int32 := mx (w - FV gM i w t h)
def brW (gM : Mem) (p : Nat) : Int32 := cl (gM.1 3 (2 * p) + brK (gM.1 1 p) (gM.1 2 p))
/-- the first t sorts have faded; the first p divers have breathed -/
def hsM (gM : Mem) (i t : Nat) : Mem := stA gM 5 (fun j => if j < t then fdW gM i (gM.1 5 j) (i32 j) (gM.1 0 6) else gM.1 5 j)
def hbM (gM : Mem) (p : Nat) : Mem := stA gM 3 (fun j => if j % 2 = 0 ∧ j / 2 < p then brW gM (j / 2) else gM.1 3 j)
def hrM (gM : Mem) (i d : Nat) : Mem := stI (hbM (hsM gM i 6) d) 0 6 (gM.1 0 6 + i32 1)
def hsI (b : Nat) (gI gM : Mem) (i t : Nat) : Mem := stA gI (b + 1) (fun j => if j < t then fdW gM i (gM.1 5 j) (i32 j) (gM.1 0 6) else gI.1 (b + 1) j)
def hbI (b : Nat) (gI gM : Mem) (p : Nat) : Mem := stA gI (b + 8) (fun j => if j < p then brW gM j else gI.1 (b + 8) j)
def hrI (b : Nat) (gI gM : Mem) (i d : Nat) : Mem := stI (hbI b (hsI b gI gM i 6) gM d) b 10 (gM.1 0 6 + i32 1)
theorem SI_upd {g g1 : Mem} {c t : Nat} {v : Int32} {f f' : Nat → Int32} (h : SI (stA g c f) g1) (hc : 34 ≤ c) (hf : f' = upd f t v) : SI (stA g c f') (stI g1 c t v) := by
  refine ⟨fun e he => ?_, h.2⟩
  by_cases q : e = c
  · subst q
    have := h.1 e he
    rw [stA_eq] at this
    rw [stA_eq, hf, ← this]
    funext j
    rw [stI_1, if_pos rfl]; rfl
  · rw [stI_ne _ _ _ _ _ q, stA_ne _ _ _ _ q, h.1 e he, stA_ne _ _ _ _ q]
theorem SM_upd {g g1 : Mem} {c t : Nat} {v : Int32} {f f' : Nat → Int32} (h : SM (stA g c f) g1) (hc : c < 17) (hf : f' = upd f t v) : SM (stA g c f') (stI g1 c t v) := by
  intro e h1 h2
  by_cases q : e = c
  · subst q
    have := h e h1 h2
    rw [stA_eq] at this
    rw [stA_eq, hf, ← this]
    funext j
    rw [stI_1, if_pos rfl]; rfl
  · rw [stI_ne _ _ _ _ _ q, stA_ne _ _ _ _ q, h e h1 h2, stA_ne _ _ _ _ q]
theorem SI_st2 {g g1 : Mem} (h : SI g g1) (c t : Nat) (v : Int32) (hc : 34 ≤ c) : SI (stI g c t v) (stI g1 c t v) := by
  refine ⟨fun e he => ?_, h.2⟩
  by_cases q : e = c
  · subst q
    funext j
    rw [stI_1, stI_1, h.1 e he]
  · rw [stI_ne _ _ _ _ _ q, stI_ne _ _ _ _ _ q, h.1 e he]
theorem SM_st2 {g g1 : Mem} (h : SM g g1) (c t : Nat) (v : Int32) (hc : c < 17) : SM (stI g c t v) (stI g1 c t v) := by
  intro e h1 h2
  by_cases q : e = c
  · subst q
    funext j
    rw [stI_1, stI_1, h e h1 h2]
  · rw [stI_ne _ _ _ _ _ q, stI_ne _ _ _ _ _ q, h e h1 h2]
theorem row_t (F : Nat → Int32) (A : Nat → Int32) (t : Nat) : (fun j => if j < t + 1 then F j else A j) = upd (fun j => if j < t then F j else A j) t (F t) := by
  funext j
  rw [upd_j]
  by_cases h : j = t
  · subst h; rw [if_pos rfl, if_pos (by omega)]
  · rw [if_neg h]
    by_cases h2 : j < t
    · rw [if_pos h2, if_pos (by omega)]
    · rw [if_neg h2, if_neg (by omega)]
set_option maxRecDepth 100000 in
theorem sky_I {N b d i : Nat} (hN : 6000 ≤ N) {gI gM : Mem} (h : Sc b d i gI gM) (a x : Int32) : ∀ (n t fu : Nat) (g1 : Mem), t + n = 6 → n < fu → SI (hsI b gI gM i t) g1 →
    ∃ g2, X1_passHours_G2 N b a fu 1 x (i32 t) g1 = X1_passHours_G2 N b a (fu - (n + 1)) 2 x (i32 0) g2 ∧ SI (hsI b gI gM i 6) g2
  | 0, t, fu, g1, h1, h2, hs => by
    obtain ⟨f, rfl⟩ : ∃ q, fu = q + 1 := ⟨fu - 1, by omega⟩
    have : t = 6 := by omega
    subst this
    exact ⟨g1, by simp -dsimp -implicitDefEqProofs (disch := omega) only [X1_passHours_G2, i32_lit, i32_add, i32_mul, i32_tn, i32_sub, le_t, le_f, lt_t, lt_f, eq_t, eq_f, eq_rfl, inR_t, ↓ob_x, obx_s, ↓bnd_s, ↓oT_x, oTx_s, ↓ite_x, itx_T, itx_F, ↓reduceIte, not_true_eq_false, not_false_eq_true, true_and, and_true, Nat.reduceAdd, Nat.reduceMul, Nat.reduceSub, Nat.reduceEqDiff, isB0, isB1, Int32.neg_neg, Nat.zero_add, Nat.add_zero, Nat.mul_zero, Nat.mul_one, Nat.zero_mul, Nat.add_sub_cancel], hs⟩
  | n + 1, t, fu, g1, h1, h2, hs => by
    obtain ⟨f, rfl⟩ : ∃ q, fu = q + 1 := ⟨fu - 1, by omega⟩
    obtain ⟨⟨a1, a2, a3⟩, b1, b2, b3, b4, b5, b6, b7, b8, b9, b10, b11, b12, b13, b14⟩ := id h
    have hT : TxI i g1 gM := TxI_fr b14 (by rw [hs.1 _ (by omega)]; exact stA_ne _ _ _ _ (by omega)) (by rw [hs.1 _ (by omega)]; exact stA_ne _ _ _ _ (by omega)) rfl rfl
    obtain ⟨g2, r1, r2⟩ := fading_I (b := b) hN hT a3 (by rw [hs.2]; exact b12) (gM.1 5 t) (i32 t) (gM.1 0 6)
    have c1 : g1.1 (b + 1) t = gM.1 5 t := by rw [SI_hi hs (b + 1) (by omega), hsI, stA_eq, if_neg (by omega), b1 t (by omega)]
    have c2 : g1.1 b 10 = gM.1 0 6 := by rw [SI_hi hs b (by omega), hsI, stA_ne _ _ _ _ (by omega), b11]
    obtain ⟨g3, s1, s2⟩ := sky_I hN h a x n (t + 1) f (stI g2 (b + 1) t (fdW gM i (gM.1 5 t) (i32 t) (gM.1 0 6))) (by omega) (by omega) (SI_upd (SI_tr hs r2) (by omega) (row_t _ _ t))
    refine ⟨g3, ?_, s2⟩
    rw [show f + 1 - (n + 1 + 1) = f - (n + 1) by omega, ← s1]
    simp -dsimp -implicitDefEqProofs (disch := omega) only [X1_passHours_G2, X1_faded, ↓mx_def, i32_lit, i32_add, i32_mul, i32_tn, i32_sub, le_t, le_f, lt_t, lt_f, eq_t, eq_f, eq_rfl, inR_t, ↓ob_x, obx_s, ↓bnd_s, ↓oT_x, oTx_s, ↓ite_x, itx_T, itx_F, ↓reduceIte, not_true_eq_false, not_false_eq_true, true_and, and_true, Nat.reduceAdd, Nat.reduceMul, Nat.reduceSub, Nat.reduceEqDiff, isB0, isB1, Int32.neg_neg, Nat.zero_add, Nat.add_zero, Nat.mul_zero, Nat.mul_one, Nat.zero_mul, c1, c2, r1, fdW]
set_option maxRecDepth 100000 in
theorem sky_M {N i : Nat} (hN : 6000 ≤ N) {gI gM : Mem} (hT : TxI i gI gM) (hi : i < 6) (hr : gM.1 0 12 = i32 i) : ∀ (n t fu : Nat) (g1 : Mem), t + n = 6 → n < fu → SM (hsM gM i t) g1 →
    ∃ g2, X6_hourOf_L2 N fu (i32 t) g1 = X6_hourOf_L46 N N (i32 0) g2 ∧ SM (hsM gM i 6) g2
  | 0, t, fu, g1, h1, h2, hs => by
    obtain ⟨f, rfl⟩ : ∃ q, fu = q + 1 := ⟨fu - 1, by omega⟩
    have : t = 6 := by omega
    subst this
    exact ⟨g1, by simp -dsimp -implicitDefEqProofs (disch := omega) only [X6_hourOf_L2, i32_lit, i32_add, i32_mul, i32_tn, i32_sub, le_t, le_f, lt_t, lt_f, eq_t, eq_f, eq_rfl, inR_t, ↓ob_x, obx_s, ↓bnd_s, ↓oT_x, oTx_s, ↓ite_x, itx_T, itx_F, ↓reduceIte, not_true_eq_false, not_false_eq_true, true_and, and_true, Nat.reduceAdd, Nat.reduceMul, Nat.reduceSub, Nat.reduceEqDiff, isB0, isB1, Int32.neg_neg, Nat.zero_add, Nat.add_zero, Nat.mul_zero, Nat.mul_one, Nat.zero_mul], hs⟩
  | n + 1, t, fu, g1, h1, h2, hs => by
    obtain ⟨f, rfl⟩ : ∃ q, fu = q + 1 := ⟨fu - 1, by omega⟩
    have e0 : g1.1 0 = gM.1 0 := by rw [SM_r hs 0 (by omega)]; exact stA_ne _ _ _ _ (by omega)
    have e7 : g1.1 7 = gM.1 7 := by rw [SM_r hs 7 (by omega)]; exact stA_ne _ _ _ _ (by omega)
    have e8 : g1.1 8 = gM.1 8 := by rw [SM_r hs 8 (by omega)]; exact stA_ne _ _ _ _ (by omega)
    have c1 : g1.1 5 t = gM.1 5 t := by rw [SM_r hs 5 (by omega), hsM, stA_eq, if_neg (by omega)]
    obtain ⟨g2, r1, r2⟩ := asks2_M hN (TxI_fr hT rfl rfl e7 e8) hi (by rw [e0]; exact hr) (-(i32 1)) (by omega : t < 6)
    rw [FV_fr e7 e8, c1, e0] at r1
    obtain ⟨g3, s1, s2⟩ := sky_M hN hT hi hr n (t + 1) f (stI g2 5 t (fdW gM i (gM.1 5 t) (i32 t) (gM.1 0 6))) (by omega) (by omega) (SM_upd (SM_tr hs r2) (by omega) (row_t _ _ t))
    refine ⟨g3, ?_, s2⟩
    rw [← s1]
    unfold fdW
    by_cases hz : i32 0 ≤ gM.1 5 t - FV gM i (gM.1 5 t) (i32 t) (gM.1 0 6)
    · rw [mx_t hz]
      simp -dsimp -implicitDefEqProofs (disch := omega) only [X6_hourOf_L2, i32_lit, i32_add, i32_mul, i32_tn, i32_sub, le_t, le_f, lt_t, lt_f, eq_t, eq_f, eq_rfl, inR_t, ↓ob_x, obx_s, ↓bnd_s, ↓oT_x, oTx_s, ↓ite_x, itx_T, itx_F, ↓reduceIte, not_true_eq_false, not_false_eq_true, true_and, and_true, Nat.reduceAdd, Nat.reduceMul, Nat.reduceSub, Nat.reduceEqDiff, isB0, isB1, Int32.neg_neg, Nat.zero_add, Nat.add_zero, Nat.mul_zero, Nat.mul_one, Nat.zero_mul, c1, r1, hz]
    · rw [mx_f hz]
      simp -dsimp -implicitDefEqProofs (disch := omega) only [X6_hourOf_L2, i32_lit, i32_add, i32_mul, i32_tn, i32_sub, le_t, le_f, lt_t, lt_f, eq_t, eq_f, eq_rfl, inR_t, ↓ob_x, obx_s, ↓bnd_s, ↓oT_x, oTx_s, ↓ite_x, itx_T, itx_F, ↓reduceIte, not_true_eq_false, not_false_eq_true, true_and, and_true, Nat.reduceAdd, Nat.reduceMul, Nat.reduceSub, Nat.reduceEqDiff, isB0, isB1, Int32.neg_neg, Nat.zero_add, Nat.add_zero, Nat.mul_zero, Nat.mul_one, Nat.zero_mul, c1, r1, hz]
