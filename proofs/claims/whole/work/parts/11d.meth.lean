/-! last: both sides -/
def ThS (d i : Nat) (g0 gI0 gI g : Mem) : Prop := Sc 52 d i gI g ∧ Bd d g ∧ EW g0 g ∧ FI 52 gI0 gI
theorem canV_pl {g : Mem} {i p k : Nat} (h : canV g i p k = 1) : g.1 4 (4 * k + 3) = i32 0 := by
  unfold canV at h
  by_cases q : g.1 4 (4 * k + 3) = i32 0
  · exact q
  · rw [if_neg q] at h; omega
theorem mx_if (x y : Int32) : (if x < y then y else x) = if x < y then y else x := rfl
set_option maxRecDepth 100000 in
theorem ml_I {N d i p k : Nat} (hN : 6000 ≤ N) (hp : p < d) (hk : k < 12) : ∀ (n D : Nat), n < D → n ≤ 3 → ∀ (gI g : Mem), Sc 52 d i gI g → Bd d g →
    ∃ gI' g', ML N D 52 (i32 p) (i32 k) (i32 n) gI = some (mlF i p k n g, gI') ∧ ThS d i g gI gI' g' := by
  intro n
  induction n with
  | zero =>
    intro D h1 h2 gI g hS hB
    obtain ⟨D, rfl⟩ : ∃ q, D = q + 1 := ⟨D - 1, by omega⟩
    have hd := hS.1.2.1
    obtain ⟨g1, r1, r2⟩ := can_I hN hS hp hk
    obtain ⟨g2, s1, s2⟩ := cost_I hN (Sc_SI hS r2) hp hk
    have b6 := (Sc_SI hS r2).2.2.2.2.2.2.1 p (by omega)
    rcases canV_le g i p k with hc | hc
    · refine ⟨g1, g, ?_, Sc_SI hS r2, hB, EW_rfl g, FI_SI r2⟩
      have e : mlF i p k 0 g = -(i32 1) := by rw [mlF, leafV, if_pos hc]
      rw [e]
      simp -dsimp -implicitDefEqProofs (disch := omega) only [ML, X5_mostLeft, r1, hc, i32_lit, i32_add, i32_mul, i32_tn, i32_sub, le_t, le_f, lt_t, lt_f, eq_t, eq_f, eq_rfl, inR_t, ↓ob_x, obx_s, ↓bnd_s, ↓oT_x, oTx_s, ↓ite_x, itx_T, itx_F, ↓reduceIte, not_true_eq_false, not_false_eq_true, true_and, and_true, Nat.reduceAdd, Nat.reduceMul, Nat.reduceSub, Nat.reduceEqDiff, isB0, isB1, Int32.neg_neg, Nat.zero_add, Nat.add_zero, Nat.mul_zero, Nat.mul_one, Nat.zero_mul]
    · refine ⟨g2, g, ?_, Sc_SI (Sc_SI hS r2) s2, hB, EW_rfl g, FI_SI (SI_tr r2 s2)⟩
      have e : mlF i p k 0 g = g.1 3 (2 * p) - CoV g i p k := by rw [mlF, leafV, if_neg (by omega)]
      rw [e]
      simp -dsimp -implicitDefEqProofs (disch := omega) only [ML, X5_mostLeft, r1, hc, s1, b6, i32_lit, i32_add, i32_mul, i32_tn, i32_sub, le_t, le_f, lt_t, lt_f, eq_t, eq_f, eq_rfl, inR_t, ↓ob_x, obx_s, ↓bnd_s, ↓oT_x, oTx_s, ↓ite_x, itx_T, itx_F, ↓reduceIte, not_true_eq_false, not_false_eq_true, true_and, and_true, Nat.reduceAdd, Nat.reduceMul, Nat.reduceSub, Nat.reduceEqDiff, isB0, isB1, Int32.neg_neg, Nat.zero_add, Nat.add_zero, Nat.mul_zero, Nat.mul_one, Nat.zero_mul]
  | succ n ih =>
    intro D h1 h2 gI g hS hB
    obtain ⟨D, rfl⟩ : ∃ q, D = q + 1 := ⟨D - 1, by omega⟩
    have hd := hS.1.2.1
    have key : ∀ (m o fu : Nat) (x : Int32) (hI h : Mem), o + m = 12 → m < fu → ThS d i g gI hI h →
        ∃ gI' g', X5_mostLeft_L37 N (ML N D) 52 (i32 p) (i32 k) (i32 (n + 1)) fu x (i32 o) hI = some (fo (okF g i p k) (fun o => mlF i p k n (dvM g i p o)) o m x, gI') ∧ ThS d i g gI gI' g' := by
      intro m
      induction m with
      | zero =>
        intro o fu x hI h a1 a2 t
        obtain ⟨fu, rfl⟩ : ∃ q, fu = q + 1 := ⟨fu - 1, by omega⟩
        exact ⟨hI, h, by simp -dsimp -implicitDefEqProofs (disch := omega) only [X5_mostLeft_L37, fo, i32_lit, i32_add, i32_mul, i32_tn, i32_sub, le_t, le_f, lt_t, lt_f, eq_t, eq_f, eq_rfl, inR_t, ↓ob_x, obx_s, ↓bnd_s, ↓oT_x, oTx_s, ↓ite_x, itx_T, itx_F, ↓reduceIte, not_true_eq_false, not_false_eq_true, true_and, and_true, Nat.reduceAdd, Nat.reduceMul, Nat.reduceSub, Nat.reduceEqDiff, isB0, isB1, Int32.neg_neg, Nat.zero_add, Nat.add_zero, Nat.mul_zero, Nat.mul_one, Nat.zero_mul], t⟩
      | succ m ihm =>
        intro o fu x hI h a1 a2 t
        obtain ⟨fu, rfl⟩ : ∃ q, fu = q + 1 := ⟨fu - 1, by omega⟩
        have ef : ∀ x, fo (okF g i p k) (fun o => mlF i p k n (dvM g i p o)) o (m + 1) x = fo (okF g i p k) (fun o => mlF i p k n (dvM g i p o)) (o + 1) m (if okF g i p k o = 0 then x else if x < mlF i p k n (dvM g i p o) then mlF i p k n (dvM g i p o) else x) := fun _ => rfl
        by_cases hok : o = k
        · have e0 : okF g i p k o = 0 := by unfold okF; rw [if_pos hok]
          obtain ⟨g1, g2, r1, r2⟩ := ihm (o + 1) fu x hI h (by omega) (by omega) t
          refine ⟨g1, g2, ?_, r2⟩
          rw [ef, if_pos e0, ← r1, hok]
          simp -dsimp -implicitDefEqProofs (disch := omega) only [X5_mostLeft_L37, i32_lit, i32_add, i32_mul, i32_tn, i32_sub, le_t, le_f, lt_t, lt_f, eq_t, eq_f, eq_rfl, inR_t, ↓ob_x, obx_s, ↓bnd_s, ↓oT_x, oTx_s, ↓ite_x, itx_T, itx_F, ↓reduceIte, not_true_eq_false, not_false_eq_true, true_and, and_true, Nat.reduceAdd, Nat.reduceMul, Nat.reduceSub, Nat.reduceEqDiff, isB0, isB1, Int32.neg_neg, Nat.zero_add, Nat.add_zero, Nat.mul_zero, Nat.mul_one, Nat.zero_mul]
        · obtain ⟨tS, tB, tE, tF⟩ := t
          obtain ⟨g1, r1, r2⟩ := can_I (k := o) hN tS hp (by omega)
          have ec := canV_EW tE i p o (by omega) (by omega)
          have e1 : okF g i p k o = canV g i p o := by unfold okF; rw [if_neg hok]
          have S1 := Sc_SI tS r2
          rcases canV_le h i p o with hc | hc
          · obtain ⟨g3, g4, y1, y2⟩ := ihm (o + 1) fu x g1 h (by omega) (by omega) ⟨S1, tB, tE, FI_tr tF (FI_SI r2)⟩
            refine ⟨g3, g4, ?_, y2⟩
            rw [ef, if_pos (by rw [e1, ← ec]; exact hc), ← y1]
            simp -dsimp -implicitDefEqProofs (disch := omega) only [X5_mostLeft_L37, hok, r1, hc, i32_lit, i32_add, i32_mul, i32_tn, i32_sub, le_t, le_f, lt_t, lt_f, eq_t, eq_f, eq_rfl, inR_t, ↓ob_x, obx_s, ↓bnd_s, ↓oT_x, oTx_s, ↓ite_x, itx_T, itx_F, ↓reduceIte, not_true_eq_false, not_false_eq_true, true_and, and_true, Nat.reduceAdd, Nat.reduceMul, Nat.reduceSub, Nat.reduceEqDiff, isB0, isB1, Int32.neg_neg, Nat.zero_add, Nat.add_zero, Nat.mul_zero, Nat.mul_one, Nat.zero_mul]
          · have b6 := S1.2.2.2.2.2.2.1 p (by omega)
            obtain ⟨g3, h3, u1, _, u3, u4, _⟩ := dive_sim (k := o) hN S1 tB hp (by omega) hc
            obtain ⟨g4, h4, v1, v2, v3, v4, v5⟩ := ih D (by omega) (by omega) g3 h3 u3.1 u3.2.1
            have e2 : mlF i p k n h3 = mlF i p k n (dvM g i p o) := (mlF_EW (by omega) hk n (EW_SM u4)).trans (mlF_EW (by omega) hk n (dvM_EW tE i p o (by omega) (by omega)))
            rw [e2] at v1
            have o1 := OKs_B v2 v3 p (h.1 3 (2 * p)) (tB.2.2.2.2.2.1 p (by omega))
            have o2 := OKs_K o1.1 o1.2.1 3 o (i32 0) (by omega) ⟨0, by simp, rfl⟩
            have E4 : EW g (stI (stI h4 3 (2 * p) (h.1 3 (2 * p))) 4 (4 * o + 3) (i32 0)) := by
              refine EW_tr tE ?_
              have q := EW_tr (EW_SM u4) v4
              have n0 : ∀ c, ¬ c = 3 → ¬ c = 4 → (stI (stI h4 3 (2 * p) (h.1 3 (2 * p))) 4 (4 * o + 3) (i32 0)).1 c = h4.1 c := fun c c3 c4 => by rw [stI_ne _ _ _ _ _ c4, stI_ne _ _ _ _ _ c3]
              refine ⟨?_, ?_, ?_, fun j hj => ?_, fun j hj => ?_, ?_, ?_⟩
              · rw [n0 0 (by omega) (by omega), q.1, dvM_n _ _ _ _ _ (by omega) (by omega)]
              · rw [n0 1 (by omega) (by omega), q.2.1, dvM_n _ _ _ _ _ (by omega) (by omega)]
              · rw [n0 2 (by omega) (by omega), q.2.2.1, dvM_n _ _ _ _ _ (by omega) (by omega)]
              · rw [stI_ne _ _ _ _ _ (by omega)]
                by_cases hjp : j = p
                · subst hjp; rw [stI_eq]
                · rw [stI_nj _ _ _ _ _ (by omega), q.2.2.2.1 j hj, dvM_3, if_neg hjp]
              · by_cases hj4 : j = 4 * o + 3
                · subst hj4; rw [stI_eq]; exact (canV_pl hc).symm
                · rw [stI_nj _ _ _ _ _ hj4, stI_ne _ _ _ _ _ (by omega), q.2.2.2.2.1 j hj, dvM_4, if_neg hj4]
              · rw [n0 7 (by omega) (by omega), q.2.2.2.2.2.1, dvM_n _ _ _ _ _ (by omega) (by omega)]
              · rw [n0 8 (by omega) (by omega), q.2.2.2.2.2.2, dvM_n _ _ _ _ _ (by omega) (by omega)]
            obtain ⟨g5, h5, y1, y2⟩ := ihm (o + 1) fu (if x < mlF i p k n (dvM g i p o) then mlF i p k n (dvM g i p o) else x) _ _ (by omega) (by omega) ⟨o2.1, o2.2.1, E4, FI_tr tF (FI_tr (FI_SI r2) (FI_tr u3.2.2.1 (FI_tr v5 (FI_tr o1.2.2.1 o2.2.2.1))))⟩
            refine ⟨g5, h5, ?_, y2⟩
            rw [ef, if_neg (by rw [e1, ← ec, hc]; exact Nat.one_ne_zero), ← y1]
            have en : n + 1 - 1 = n := by omega
            simp -dsimp -implicitDefEqProofs (disch := omega) only [X5_mostLeft_L37, hok, r1, hc, u1, en, v1, b6, i32_lit, i32_add, i32_mul, i32_tn, i32_sub, le_t, le_f, lt_t, lt_f, eq_t, eq_f, eq_rfl, inR_t, ↓ob_x, obx_s, ↓bnd_s, ↓oT_x, oTx_s, ↓ite_x, itx_T, itx_F, ↓reduceIte, not_true_eq_false, not_false_eq_true, true_and, and_true, Nat.reduceAdd, Nat.reduceMul, Nat.reduceSub, Nat.reduceEqDiff, isB0, isB1, Int32.neg_neg, Nat.zero_add, Nat.add_zero, Nat.mul_zero, Nat.mul_one, Nat.zero_mul]
    obtain ⟨gI', g', r1, r2⟩ := key 12 0 N (-(i32 1)) gI g (by omega) (by omega) ⟨hS, hB, EW_rfl g, FI_rfl 52 gI⟩
    refine ⟨gI', g', ?_, r2⟩
    have e : mlF i p k (n + 1) g = fo (okF g i p k) (fun o => mlF i p k n (dvM g i p o)) 0 12 (-(i32 1)) := rfl
    rw [e, ← r1]
    simp -dsimp -implicitDefEqProofs (disch := omega) only [ML, X5_mostLeft, i32_lit, i32_add, i32_mul, i32_tn, i32_sub, le_t, le_f, lt_t, lt_f, eq_t, eq_f, eq_rfl, inR_t, ↓ob_x, obx_s, ↓bnd_s, ↓oT_x, oTx_s, ↓ite_x, itx_T, itx_F, ↓reduceIte, not_true_eq_false, not_false_eq_true, true_and, and_true, Nat.reduceAdd, Nat.reduceMul, Nat.reduceSub, Nat.reduceEqDiff, isB0, isB1, Int32.neg_neg, Nat.zero_add, Nat.add_zero, Nat.mul_zero, Nat.mul_one, Nat.zero_mul]
theorem diveM {N i d p k : Nat} (hN : 6000 ≤ N) {gI gM : Mem} (h : MR i d gI gM) (hp : p < 6) (hk : k < 12) : ∃ g2, X6_diveOf N (i32 p) (i32 k) gM = some (i32 0, g2) ∧ SM (dvM gM i p k) g2 := by
  obtain ⟨a, b, c1, c2, c3⟩ := h
  obtain ⟨m1, s1, s2⟩ := cost_M (k := k) hN a b c1 hp hk
  have c3 : m1.1 3 = gM.1 3 := SM_r s2 3 (by omega)
  refine ⟨stI (stI (stI m1 3 (2 * p) (gM.1 3 (2 * p) - CoV gM i p k)) 4 (4 * k + 3) (i32 1)) 3 (2 * p + 1) (gM.1 3 (2 * p + 1) + i32 1), by simp -dsimp -implicitDefEqProofs (disch := omega) only [X6_diveOf, i32_lit, i32_add, i32_mul, i32_tn, i32_sub, le_t, le_f, lt_t, lt_f, eq_t, eq_f, eq_rfl, inR_t, ↓ob_x, obx_s, ↓bnd_s, ↓oT_x, oTx_s, ↓ite_x, itx_T, itx_F, ↓reduceIte, not_true_eq_false, not_false_eq_true, true_and, and_true, Nat.reduceAdd, Nat.reduceMul, Nat.reduceSub, Nat.reduceEqDiff, isB0, isB1, Int32.neg_neg, Nat.zero_add, Nat.add_zero, Nat.mul_zero, Nat.mul_one, Nat.zero_mul, s1, c3, stI_eq, stI_nj, stI_ne, stI_2, stA_eq, stA_ne, stA_2, stR_1, stR_2], ?_⟩
  unfold dvM
  exact SM_st2 (SM_st2 (SM_st2 s2 3 (2 * p) _ (by omega)) 4 (4 * k + 3) (i32 1) (by omega)) 3 (2 * p + 1) (gM.1 3 (2 * p + 1) + i32 1) (by omega)
theorem FM_dv (g : Mem) (i p k : Nat) : FM g (dvM g i p k) := ⟨fun c _ h3 h4 _ _ _ => dvM_n g i p k c h3 h4, fun j _ _ _ => by rw [dvM_n g i p k 0 (by omega) (by omega)]⟩
set_option maxRecDepth 100000 in
theorem left_l {N i d p k m : Nat} (hN : 6000 ≤ N) (hp : p < 6) (hk : k < 12) (hm : m ≤ 3) (a3 : Int32) {gI g0 m1 : Mem} (kp : KP 67 g0 m1) : ∀ (n x fu num : Nat) (g : Mem), x + n = m → n + 1 < fu → num < 2147483648 → MR i d gI g → FM m1 g →
    ∃ g', X6_leftBy_L13 N (i32 p) (i32 k) a3 (i32 m) fu (i32 num) (i32 1) (i32 x) g = some (enF i p k n num g, g') ∧ EqM g0 g'
  | 0, x, fu, num, g, h1, h2, h3, hM, f => by
    obtain ⟨fu, rfl⟩ : ∃ q, fu = q + 1 := ⟨fu - 1, by omega⟩
    obtain ⟨a, b, c1, c2, c3⟩ := hM
    obtain ⟨u, r1, r2⟩ := can_M (k := k) hN a b c1 hp hk
    rcases canV_le g i p k with hc | hc
    · obtain ⟨m3, l1, l2⟩ := laid hN kp (FM_tr f (FM_SM r2))
      refine ⟨m3, ?_, l2⟩
      rw [enF, leafV, if_pos hc]
      simp -dsimp -implicitDefEqProofs (disch := omega) only [X6_leftBy_L13, r1, hc, l1, i32_lit, i32_add, i32_mul, i32_tn, i32_sub, le_t, le_f, lt_t, lt_f, eq_t, eq_f, eq_rfl, inR_t, ↓ob_x, obx_s, ↓bnd_s, ↓oT_x, oTx_s, ↓ite_x, itx_T, itx_F, ↓reduceIte, not_true_eq_false, not_false_eq_true, true_and, and_true, Nat.reduceAdd, Nat.reduceMul, Nat.reduceSub, Nat.reduceEqDiff, isB0, isB1, Int32.neg_neg, Nat.zero_add, Nat.add_zero, Nat.mul_zero, Nat.mul_one, Nat.zero_mul]
    · obtain ⟨v, s1, s2⟩ := cost_M (k := k) hN (TxI_SM a r2) b (by rw [SM_r r2 0 (by omega)]; exact c1) hp hk
      rw [CoV_EV (EV_SM r2)] at s1
      obtain ⟨m3, l1, l2⟩ := laid hN kp (FM_tr f (FM_SM (SM_tr r2 s2)))
      refine ⟨m3, ?_, l2⟩
      have e3 : u.1 3 = g.1 3 := SM_r r2 3 (by omega)
      rw [enF, leafV, if_neg (by omega)]
      simp -dsimp -implicitDefEqProofs (disch := omega) only [X6_leftBy_L13, r1, hc, s1, e3, l1, i32_lit, i32_add, i32_mul, i32_tn, i32_sub, le_t, le_f, lt_t, lt_f, eq_t, eq_f, eq_rfl, inR_t, ↓ob_x, obx_s, ↓bnd_s, ↓oT_x, oTx_s, ↓ite_x, itx_T, itx_F, ↓reduceIte, not_true_eq_false, not_false_eq_true, true_and, and_true, Nat.reduceAdd, Nat.reduceMul, Nat.reduceSub, Nat.reduceEqDiff, isB0, isB1, Int32.neg_neg, Nat.zero_add, Nat.add_zero, Nat.mul_zero, Nat.mul_one, Nat.zero_mul]
  | n + 1, x, fu, num, g, h1, h2, h3, hM, f => by
    obtain ⟨fu, rfl⟩ : ∃ q, fu = q + 1 := ⟨fu - 1, by omega⟩
    have e1 := sub_dm num 12
    have e2 := i32_divz num 12 (by omega) h3 (by omega)
    have ho : num % 12 < 12 := Nat.mod_lt _ (by omega)
    have w1 := within11 (N := N) ho g
    have bad : ∀ u, FM m1 u → ∃ g', X6_leftBy_L13 N (i32 p) (i32 k) a3 (i32 m) fu (i32 (num / 12)) (i32 0) (i32 (x + 1)) u = some (-(i32 1), g') ∧ EqM g0 g' := by
      intro u fu'
      obtain ⟨fu, rfl⟩ : ∃ q, fu = q + 1 := ⟨fu - 1, by omega⟩
      obtain ⟨m3, l1, l2⟩ := laid hN kp fu'
      refine ⟨m3, ?_, l2⟩
      by_cases hx : x + 1 = m
      · simp -dsimp -implicitDefEqProofs (disch := omega) only [X6_leftBy_L13, hx, l1, i32_lit, i32_add, i32_mul, i32_tn, i32_sub, le_t, le_f, lt_t, lt_f, eq_t, eq_f, eq_rfl, inR_t, ↓ob_x, obx_s, ↓bnd_s, ↓oT_x, oTx_s, ↓ite_x, itx_T, itx_F, ↓reduceIte, not_true_eq_false, not_false_eq_true, true_and, and_true, Nat.reduceAdd, Nat.reduceMul, Nat.reduceSub, Nat.reduceEqDiff, isB0, isB1, Int32.neg_neg, Nat.zero_add, Nat.add_zero, Nat.mul_zero, Nat.mul_one, Nat.zero_mul]
      · simp -dsimp -implicitDefEqProofs (disch := omega) only [X6_leftBy_L13, l1, i32_lit, i32_add, i32_mul, i32_tn, i32_sub, le_t, le_f, lt_t, lt_f, eq_t, eq_f, eq_rfl, inR_t, ↓ob_x, obx_s, ↓bnd_s, ↓oT_x, oTx_s, ↓ite_x, itx_T, itx_F, ↓reduceIte, not_true_eq_false, not_false_eq_true, true_and, and_true, Nat.reduceAdd, Nat.reduceMul, Nat.reduceSub, Nat.reduceEqDiff, isB0, isB1, Int32.neg_neg, Nat.zero_add, Nat.add_zero, Nat.mul_zero, Nat.mul_one, Nat.zero_mul]
    by_cases hok : num % 12 = k
    · obtain ⟨g', r1, r2⟩ := bad g f
      refine ⟨g', ?_, r2⟩
      have w2 := within11 (N := N) hk g
      rw [enF, if_pos (by unfold okF; rw [if_pos hok]), ← r1]
      simp -dsimp -implicitDefEqProofs (disch := omega) only [X6_leftBy_L13, e1, e2, w2, hok, i32_lit, i32_add, i32_mul, i32_tn, i32_sub, le_t, le_f, lt_t, lt_f, eq_t, eq_f, eq_rfl, inR_t, ↓ob_x, obx_s, ↓bnd_s, ↓oT_x, oTx_s, ↓ite_x, itx_T, itx_F, ↓reduceIte, not_true_eq_false, not_false_eq_true, true_and, and_true, Nat.reduceAdd, Nat.reduceMul, Nat.reduceSub, Nat.reduceEqDiff, isB0, isB1, Int32.neg_neg, Nat.zero_add, Nat.add_zero, Nat.mul_zero, Nat.mul_one, Nat.zero_mul]
    · obtain ⟨a, b, c1, c2, c3⟩ := id hM
      obtain ⟨u, r1, r2⟩ := can_M (k := num % 12) hN a b c1 hp ho
      have eo : okF g i p k (num % 12) = canV g i p (num % 12) := by unfold okF; rw [if_neg hok]
      rcases canV_le g i p (num % 12) with hc | hc
      · obtain ⟨g', y1, y2⟩ := bad u (FM_tr f (FM_SM r2))
        refine ⟨g', ?_, y2⟩
        rw [enF, if_pos (by rw [eo]; exact hc), ← y1]
        simp -dsimp -implicitDefEqProofs (disch := omega) only [X6_leftBy_L13, e1, e2, w1, hok, r1, hc, i32_lit, i32_add, i32_mul, i32_tn, i32_sub, le_t, le_f, lt_t, lt_f, eq_t, eq_f, eq_rfl, inR_t, ↓ob_x, obx_s, ↓bnd_s, ↓oT_x, oTx_s, ↓ite_x, itx_T, itx_F, ↓reduceIte, not_true_eq_false, not_false_eq_true, true_and, and_true, Nat.reduceAdd, Nat.reduceMul, Nat.reduceSub, Nat.reduceEqDiff, isB0, isB1, Int32.neg_neg, Nat.zero_add, Nat.add_zero, Nat.mul_zero, Nat.mul_one, Nat.zero_mul]
      · have M1 := MR_E hM (EqM_SM r2)
        obtain ⟨v, s1, s2⟩ := diveM (k := num % 12) hN M1 hp ho
        have f2 := FM_tr (FM_tr f (FM_SM r2)) (FM_tr (FM_dv u i p (num % 12)) (FM_SM s2))
        obtain ⟨g', y1, y2⟩ := left_l (gI := gI) (d := d) hN hp hk hm a3 kp n (x + 1) fu (num / 12) v (by omega) (by omega) (by omega) (MR_FM (MR_FM M1 (FM_dv u i p (num % 12))) (FM_SM s2)) f2
        refine ⟨g', ?_, y2⟩
        have ee : enF i p k n (num / 12) v = enF i p k n (num / 12) (dvM g i p (num % 12)) := (enF_EW hp hk n _ (EW_SM s2)).trans (enF_EW hp hk n _ (dvM_EW (EW_SM r2) i p _ hp ho))
        rw [enF, if_neg (by rw [eo, hc]; exact Nat.one_ne_zero), ← ee, ← y1]
        simp -dsimp -implicitDefEqProofs (disch := omega) only [X6_leftBy_L13, e1, e2, w1, hok, r1, hc, s1, i32_lit, i32_add, i32_mul, i32_tn, i32_sub, le_t, le_f, lt_t, lt_f, eq_t, eq_f, eq_rfl, inR_t, ↓ob_x, obx_s, ↓bnd_s, ↓oT_x, oTx_s, ↓ite_x, itx_T, itx_F, ↓reduceIte, not_true_eq_false, not_false_eq_true, true_and, and_true, Nat.reduceAdd, Nat.reduceMul, Nat.reduceSub, Nat.reduceEqDiff, isB0, isB1, Int32.neg_neg, Nat.zero_add, Nat.add_zero, Nat.mul_zero, Nat.mul_one, Nat.zero_mul]
theorem left_M {N i d p k m num : Nat} (hN : 6000 ≤ N) (hp : p < 6) (hk : k < 12) (hm : m ≤ 3) (hn : num < 2147483648) {gI g : Mem} (hM : MR i d gI g) : ∃ g', X6_leftBy N (i32 p) (i32 k) (i32 num) (i32 m) g = some (enF i p k m num g, g') ∧ EqM g g' := by
  obtain ⟨m1, k1, k2⟩ := keeps_M hN g
  have c0 : m1.1 0 = g.1 0 := k2.1 0 (by omega)
  have M1 : MR i d gI m1 := ⟨TxI_fr hM.1 rfl rfl (k2.1 7 (by omega)) (k2.1 8 (by omega)), hM.2.1, by rw [c0]; exact hM.2.2.1, hM.2.2.2.1, by rw [c0]; exact hM.2.2.2.2⟩
  obtain ⟨g', r1, r2⟩ := left_l (gI := gI) (d := d) (i := i) hN hp hk hm (i32 num) k2 m 0 N num m1 (by omega) (by omega) hn M1 (FM_rfl m1)
  have E : EW g m1 := ⟨by rw [c0], k2.1 1 (by omega), k2.1 2 (by omega), fun _ _ => by rw [k2.1 3 (by omega)], fun _ _ => by rw [k2.1 4 (by omega)], k2.1 7 (by omega), k2.1 8 (by omega)⟩
  rw [enF_EW hp hk m num E] at r1
  exact ⟨g', by simp -dsimp -implicitDefEqProofs (disch := omega) only [X6_leftBy, k1, r1, i32_lit, i32_add, i32_mul, i32_tn, i32_sub, le_t, le_f, lt_t, lt_f, eq_t, eq_f, eq_rfl, inR_t, ↓ob_x, obx_s, ↓bnd_s, ↓oT_x, oTx_s, ↓ite_x, itx_T, itx_F, ↓reduceIte, not_true_eq_false, not_false_eq_true, true_and, and_true, Nat.reduceAdd, Nat.reduceMul, Nat.reduceSub, Nat.reduceEqDiff, isB0, isB1, Int32.neg_neg, Nat.zero_add, Nat.add_zero, Nat.mul_zero, Nat.mul_one, Nat.zero_mul], r2⟩
set_option maxRecDepth 100000 in
theorem last_l {N i d p k m M : Nat} (hN : 6000 ≤ N) (hp : p < 6) (hk : k < 12) (hm : m ≤ 3) (hM2 : M ≤ 1728) {gI gM : Mem} (hM : MR i d gI gM) : ∀ (n x fu : Nat) (y : Int32) (g : Mem), x + n = M → n < fu → EqM gM g →
    ∃ g', X6_last_L64 N (i32 p) (i32 k) (i32 m) fu (i32 M) y (i32 x) g = some (fo (fun _ => 1) (fun num => enF i p k m num gM) x n y, g') ∧ EqM gM g'
  | 0, x, fu, y, g, h1, h2, h => by
    obtain ⟨fu, rfl⟩ : ∃ q, fu = q + 1 := ⟨fu - 1, by omega⟩
    exact ⟨g, by simp -dsimp -implicitDefEqProofs (disch := omega) only [X6_last_L64, fo, i32_lit, i32_add, i32_mul, i32_tn, i32_sub, le_t, le_f, lt_t, lt_f, eq_t, eq_f, eq_rfl, inR_t, ↓ob_x, obx_s, ↓bnd_s, ↓oT_x, oTx_s, ↓ite_x, itx_T, itx_F, ↓reduceIte, not_true_eq_false, not_false_eq_true, true_and, and_true, Nat.reduceAdd, Nat.reduceMul, Nat.reduceSub, Nat.reduceEqDiff, isB0, isB1, Int32.neg_neg, Nat.zero_add, Nat.add_zero, Nat.mul_zero, Nat.mul_one, Nat.zero_mul], h⟩
  | n + 1, x, fu, y, g, h1, h2, h => by
    obtain ⟨fu, rfl⟩ : ∃ q, fu = q + 1 := ⟨fu - 1, by omega⟩
    obtain ⟨g1, r1, r2⟩ := left_M (num := x) hN hp hk hm (by omega) (MR_E hM h)
    rw [enF_EW hp hk m x (EW_E h)] at r1
    by_cases hc : enF i p k m x gM ≤ y
    · have hc2 : ¬ y < enF i p k m x gM := Int32.not_lt.mpr hc
      obtain ⟨g2, y1, y2⟩ := last_l hN hp hk hm hM2 hM n (x + 1) fu y g1 (by omega) (by omega) (EqM_tr h r2)
      refine ⟨g2, ?_, y2⟩
      rw [fo, if_neg Nat.one_ne_zero, if_neg hc2, ← y1]
      simp -dsimp -implicitDefEqProofs (disch := omega) only [X6_last_L64, r1, hc, i32_lit, i32_add, i32_mul, i32_tn, i32_sub, le_t, le_f, lt_t, lt_f, eq_t, eq_f, eq_rfl, inR_t, ↓ob_x, obx_s, ↓bnd_s, ↓oT_x, oTx_s, ↓ite_x, itx_T, itx_F, ↓reduceIte, not_true_eq_false, not_false_eq_true, true_and, and_true, Nat.reduceAdd, Nat.reduceMul, Nat.reduceSub, Nat.reduceEqDiff, isB0, isB1, Int32.neg_neg, Nat.zero_add, Nat.add_zero, Nat.mul_zero, Nat.mul_one, Nat.zero_mul]
    · have hc2 : y < enF i p k m x gM := Int32.not_le.mp hc
      obtain ⟨g2, y1, y2⟩ := last_l hN hp hk hm hM2 hM n (x + 1) fu (enF i p k m x gM) g1 (by omega) (by omega) (EqM_tr h r2)
      refine ⟨g2, ?_, y2⟩
      rw [fo, if_neg Nat.one_ne_zero, if_pos hc2, ← y1]
      simp -dsimp -implicitDefEqProofs (disch := omega) only [X6_last_L64, r1, hc, i32_lit, i32_add, i32_mul, i32_tn, i32_sub, le_t, le_f, lt_t, lt_f, eq_t, eq_f, eq_rfl, inR_t, ↓ob_x, obx_s, ↓bnd_s, ↓oT_x, oTx_s, ↓ite_x, itx_T, itx_F, ↓reduceIte, not_true_eq_false, not_false_eq_true, true_and, and_true, Nat.reduceAdd, Nat.reduceMul, Nat.reduceSub, Nat.reduceEqDiff, isB0, isB1, Int32.neg_neg, Nat.zero_add, Nat.add_zero, Nat.mul_zero, Nat.mul_one, Nat.zero_mul]
theorem leaf_lo {d i p k : Nat} {g : Mem} (q : Bd d g) (hp : p < d) (hd : d ≤ 6) : -(i32 1) ≤ leafV g i p k := by
  unfold leafV
  rcases canV_le g i p k with hc | hc
  · rw [if_pos hc]; exact Int32.le_refl _
  · rw [if_neg (by omega)]
    obtain ⟨n, hn, e⟩ := dv_nb (i := i) q hp hd hc
    rw [e, Int32.le_iff_toInt_le, i32_toInt (by omega), i32_negI (by omega)]; omega
set_option maxRecDepth 100000 in
theorem e_last {N : Nat} (hN : 6000 ≤ N) {gI gM : Mem} (h : R gI gM) (a1 a2 a3 : Int32) : EQ (X5_last N a1 a2 a3 gI) (X6_last N a1 a2 a3 gM) := by
  obtain ⟨d, i, c, hR⟩ := h
  obtain ⟨⟨hS, hB, hG, hH⟩, hT, hP, hSh, hK⟩ := id hR
  obtain ⟨⟨a0_, hd6, hi6⟩, s1_, s2_, s3_, s4_, s5_, s6_, b7, b8, s9_, s10_, b11, b12, b13, b14⟩ := id hS
  have b1 : ∀ t, t < 6 → gI.1 43 t = gM.1 5 t := s1_
  have b2 : ∀ k, k < 12 → gI.1 44 k = gM.1 4 (4 * k) := s2_
  have b3 : ∀ k, k < 12 → gI.1 45 k = gM.1 4 (4 * k + 1) := s3_
  have b4 : ∀ k, k < 12 → gI.1 46 k = gM.1 4 (4 * k + 2) := s4_
  have b5 : ∀ k, k < 12 → gI.1 47 k = gM.1 4 (4 * k + 3) := s5_
  have b6 : ∀ p, p < 6 → gI.1 50 p = gM.1 3 (2 * p) := s6_
  have b9 : ∀ p, p < d → gI.1 48 p = gM.1 1 p := s9_
  have b10 : ∀ p, p < d → gI.1 49 p = gM.1 2 p := s10_
  have bG : ∀ p, p < 6 → gI.1 51 p = gM.1 3 (2 * p + 1) := hG
  clear s1_ s2_ s3_ s4_ s5_ s6_ s9_ s10_
  rcases rg a1 d (by omega) with ⟨p, hp, rfl⟩ | o1
  · rcases rg a2 12 (by omega) with ⟨k, hk, rfl⟩ | o2
    · rcases rg a3 4 (by omega) with ⟨m, hm, rfl⟩ | o3
      · obtain ⟨g1, q1, q2, q3⟩ := becomes_I (N := N) (b := 52) (a := 42) (i := i) (gI := gI) (by omega) b12 hi6
        have hS1 := Sc_LK hS (by omega) q2 q3
        obtain ⟨g2, h2, r1, r2⟩ := ml_I (i := i) hN hp hk m 20 (by omega) (by omega) g1 gM hS1 hB
        have hlo : -(i32 1) ≤ mlF i p k m gM := by
          cases m with
          | zero => exact leaf_lo hB hp hd6
          | succ n => exact (fo_sp _ _ 12 0 _).1
        have e := ml_fo hlo
        have hM2 : 12 ^ m ≤ 1728 := by
          rcases (by omega : m = 0 ∨ m = 1 ∨ m = 2 ∨ m = 3) with rfl | rfl | rfl | rfl <;> decide
        obtain ⟨m2, s1, s2⟩ := last_l (M := 12 ^ m) hN (by omega : p < 6) hk (by omega : m ≤ 3) hM2 (RR_MR hR) (12 ^ m) 0 N (-(i32 1)) gM (by omega) (by omega) (EqM_rfl gM)
        rw [e] at s1
        refine ⟨mlF i p k m gM, g2, m2, by simp -dsimp -implicitDefEqProofs (disch := omega) only [X5_last, isD_t b7 hp hd6, isK_t, isW_t, q1, r1, i32_lit, i32_add, i32_mul, i32_tn, i32_sub, le_t, le_f, lt_t, lt_f, eq_t, eq_f, eq_rfl, inR_t, ↓ob_x, obx_s, ↓bnd_s, ↓oT_x, oTx_s, ↓ite_x, itx_T, itx_F, ↓reduceIte, not_true_eq_false, not_false_eq_true, true_and, and_true, Nat.reduceAdd, Nat.reduceMul, Nat.reduceSub, Nat.reduceEqDiff, isB0, isB1, Int32.neg_neg, Nat.zero_add, Nat.add_zero, Nat.mul_zero, Nat.mul_one, Nat.zero_mul], ?_, d, i, c, RR_th hR (FI_tr q2 r2.2.2.2) s2⟩
        obtain ⟨f, hf⟩ : ∃ q, N = q + 1 + 1 + 1 + 1 := ⟨N - 4, by omega⟩
        have e9 : X6_last_L39 N (i32 p) (i32 k) (i32 m) N (i32 1) (i32 0) gM = X6_last_L64 N (i32 p) (i32 k) (i32 m) N (i32 (12 ^ m)) (-(i32 1)) (i32 0) gM := by
          have z : ∀ M, X6_last_L39 M (i32 p) (i32 k) (i32 m) (f + 1 + 1 + 1 + 1) (i32 1) (i32 0) gM = X6_last_L64 M (i32 p) (i32 k) (i32 m) M (i32 (12 ^ m)) (-(i32 1)) (i32 0) gM := by
            intro M
            rcases (by omega : m = 0 ∨ m = 1 ∨ m = 2 ∨ m = 3) with rfl | rfl | rfl | rfl <;> simp -dsimp -implicitDefEqProofs (disch := omega) only [X6_last_L39, i32_lit, i32_add, i32_mul, i32_tn, i32_sub, le_t, le_f, lt_t, lt_f, eq_t, eq_f, eq_rfl, inR_t, ↓ob_x, obx_s, ↓bnd_s, ↓oT_x, oTx_s, ↓ite_x, itx_T, itx_F, ↓reduceIte, not_true_eq_false, not_false_eq_true, true_and, and_true, Nat.reduceAdd, Nat.reduceMul, Nat.reduceSub, Nat.reduceEqDiff, isB0, isB1, Int32.neg_neg, Nat.zero_add, Nat.add_zero, Nat.mul_zero, Nat.mul_one, Nat.zero_mul] <;> rfl
          have z' := z N
          rw [← hf] at z'
          exact z'
        simp -dsimp -implicitDefEqProofs (disch := omega) only [X6_last, mO_t b8 hp hd6, mK_t, in_t, i32_lit, i32_add, i32_mul, i32_tn, i32_sub, le_t, le_f, lt_t, lt_f, eq_t, eq_f, eq_rfl, inR_t, ↓ob_x, obx_s, ↓bnd_s, ↓oT_x, oTx_s, ↓ite_x, itx_T, itx_F, ↓reduceIte, not_true_eq_false, not_false_eq_true, true_and, and_true, Nat.reduceAdd, Nat.reduceMul, Nat.reduceSub, Nat.reduceEqDiff, isB0, isB1, Int32.neg_neg, Nat.zero_add, Nat.add_zero, Nat.mul_zero, Nat.mul_one, Nat.zero_mul]
        rw [e9]; exact s1
      · exact ⟨-7, gI, gM, by simp -dsimp -implicitDefEqProofs (disch := omega) only [X5_last, isD_t b7 hp hd6, isK_t, isW_f gI (by omega : 3 < 1000000) o3, i32_lit, i32_add, i32_mul, i32_tn, i32_sub, le_t, le_f, lt_t, lt_f, eq_t, eq_f, eq_rfl, inR_t, ↓ob_x, obx_s, ↓bnd_s, ↓oT_x, oTx_s, ↓ite_x, itx_T, itx_F, ↓reduceIte, not_true_eq_false, not_false_eq_true, true_and, and_true, Nat.reduceAdd, Nat.reduceMul, Nat.reduceSub, Nat.reduceEqDiff, isB0, isB1, Int32.neg_neg, Nat.zero_add, Nat.add_zero, Nat.mul_zero, Nat.mul_one, Nat.zero_mul], by simp -dsimp -implicitDefEqProofs (disch := omega) only [X6_last, mO_t b8 hp hd6, mK_t, in_f gM (by omega : 3 < 1000000) o3, i32_lit, i32_add, i32_mul, i32_tn, i32_sub, le_t, le_f, lt_t, lt_f, eq_t, eq_f, eq_rfl, inR_t, ↓ob_x, obx_s, ↓bnd_s, ↓oT_x, oTx_s, ↓ite_x, itx_T, itx_F, ↓reduceIte, not_true_eq_false, not_false_eq_true, true_and, and_true, Nat.reduceAdd, Nat.reduceMul, Nat.reduceSub, Nat.reduceEqDiff, isB0, isB1, Int32.neg_neg, Nat.zero_add, Nat.add_zero, Nat.mul_zero, Nat.mul_one, Nat.zero_mul], d, i, c, hR⟩
    · exact ⟨-6, gI, gM, by simp -dsimp -implicitDefEqProofs (disch := omega) only [X5_last, isD_t b7 hp hd6, isK_f gI o2, i32_lit, i32_add, i32_mul, i32_tn, i32_sub, le_t, le_f, lt_t, lt_f, eq_t, eq_f, eq_rfl, inR_t, ↓ob_x, obx_s, ↓bnd_s, ↓oT_x, oTx_s, ↓ite_x, itx_T, itx_F, ↓reduceIte, not_true_eq_false, not_false_eq_true, true_and, and_true, Nat.reduceAdd, Nat.reduceMul, Nat.reduceSub, Nat.reduceEqDiff, isB0, isB1, Int32.neg_neg, Nat.zero_add, Nat.add_zero, Nat.mul_zero, Nat.mul_one, Nat.zero_mul], by simp -dsimp -implicitDefEqProofs (disch := omega) only [X6_last, mO_t b8 hp hd6, mK_f gM o2, i32_lit, i32_add, i32_mul, i32_tn, i32_sub, le_t, le_f, lt_t, lt_f, eq_t, eq_f, eq_rfl, inR_t, ↓ob_x, obx_s, ↓bnd_s, ↓oT_x, oTx_s, ↓ite_x, itx_T, itx_F, ↓reduceIte, not_true_eq_false, not_false_eq_true, true_and, and_true, Nat.reduceAdd, Nat.reduceMul, Nat.reduceSub, Nat.reduceEqDiff, isB0, isB1, Int32.neg_neg, Nat.zero_add, Nat.add_zero, Nat.mul_zero, Nat.mul_one, Nat.zero_mul], d, i, c, hR⟩
  · exact ⟨-5, gI, gM, by simp -dsimp -implicitDefEqProofs (disch := omega) only [X5_last, isD_f b7 o1 hd6, i32_lit, i32_add, i32_mul, i32_tn, i32_sub, le_t, le_f, lt_t, lt_f, eq_t, eq_f, eq_rfl, inR_t, ↓ob_x, obx_s, ↓bnd_s, ↓oT_x, oTx_s, ↓ite_x, itx_T, itx_F, ↓reduceIte, not_true_eq_false, not_false_eq_true, true_and, and_true, Nat.reduceAdd, Nat.reduceMul, Nat.reduceSub, Nat.reduceEqDiff, isB0, isB1, Int32.neg_neg, Nat.zero_add, Nat.add_zero, Nat.mul_zero, Nat.mul_one, Nat.zero_mul], by simp -dsimp -implicitDefEqProofs (disch := omega) only [X6_last, mO_f b8 o1 hd6, i32_lit, i32_add, i32_mul, i32_tn, i32_sub, le_t, le_f, lt_t, lt_f, eq_t, eq_f, eq_rfl, inR_t, ↓ob_x, obx_s, ↓bnd_s, ↓oT_x, oTx_s, ↓ite_x, itx_T, itx_F, ↓reduceIte, not_true_eq_false, not_false_eq_true, true_and, and_true, Nat.reduceAdd, Nat.reduceMul, Nat.reduceSub, Nat.reduceEqDiff, isB0, isB1, Int32.neg_neg, Nat.zero_add, Nat.add_zero, Nat.mul_zero, Nat.mul_one, Nat.zero_mul], d, i, c, hR⟩
