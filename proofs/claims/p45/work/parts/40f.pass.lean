def GL (g g' : Mem) : Prop := g'.1 = g.1 ∧ ∀ k, k < 1000 → g'.2 k = g.2 k
theorem GL_rfl (g : Mem) : GL g g := ⟨rfl, fun _ _ => rfl⟩
theorem GL_tr {a b c : Mem} (h : GL a b) (k : GL b c) : GL a c := ⟨k.1.trans h.1, fun j q => (k.2 j q).trans (h.2 j q)⟩
theorem GL_st (g : Mem) (j : Nat) (v : Int64) : GL g (stL g j v) := ⟨rfl, fun k hk => stL_2 g j k v hk⟩
def psS (sa : SA) (s : LST) (t : Nat) : LST := fun c j => if c = 8 ∧ j < t then s 8 j - faB sa (s 8 j) j (s 9 0) else s c j
def pbS (sa : SA) (s : LST) (p : Nat) : LST := fun c j => if c = 0 ∧ j < p then mi99 (s 0 j + kbN s j) else psS sa s 6 c j
def paS (sa : SA) (d : Nat) (s : LST) : LST := ups (pbS sa s d) 9 0 (s 9 0 + 1)
theorem psS_0 (sa : SA) (s : LST) : psS sa s 0 = s := by
  funext c j; unfold psS; rw [if_neg (by omega)]
theorem psS_s (sa : SA) (s : LST) (t : Nat) : psS sa s (t + 1) = ups (psS sa s t) 8 t (s 8 t - faB sa (s 8 t) t (s 9 0)) := by
  funext c j; unfold ups
  by_cases h : c = 8 ∧ j = t
  · obtain ⟨rfl, rfl⟩ := h
    rw [if_pos ⟨rfl, rfl⟩]; unfold psS; rw [if_pos (by omega)]
  · rw [if_neg h]; unfold psS
    by_cases k : c = 8 ∧ j < t
    · rw [if_pos k, if_pos (by omega)]
    · rw [if_neg k, if_neg (by omega)]
theorem pbS_0 (sa : SA) (s : LST) : pbS sa s 0 = psS sa s 6 := by
  funext c j; unfold pbS; rw [if_neg (by omega)]
theorem pbS_s (sa : SA) (s : LST) (t : Nat) : pbS sa s (t + 1) = ups (pbS sa s t) 0 t (mi99 (s 0 t + kbN s t)) := by
  funext c j; unfold ups
  by_cases h : c = 0 ∧ j = t
  · obtain ⟨rfl, rfl⟩ := h
    rw [if_pos ⟨rfl, rfl⟩]; unfold pbS; rw [if_pos (by omega)]
  · rw [if_neg h]; unfold pbS
    by_cases k : c = 0 ∧ j < t
    · rw [if_pos k, if_pos (by omega)]
    · rw [if_neg k, if_neg (by omega)]
theorem psS_n (sa : SA) (s : LST) (t c j : Nat) (h : ¬ (c = 8 ∧ j < t)) : psS sa s t c j = s c j := if_neg h
theorem pbS_n (sa : SA) (s : LST) (t c j : Nat) (h : ¬ (c = 0 ∧ j < t)) (h' : ¬ (c = 8 ∧ j < 6)) : pbS sa s t c j = s c j := by
  unfold pbS; rw [if_neg h, psS_n _ _ _ _ _ h']
theorem psS_LB {sa : SA} {s : LST} (b : LB s) (t : Nat) : LB (psS sa s t) := by
  intro c j; unfold psS
  by_cases h : c = 8 ∧ j < t
  · rw [if_pos h, h.1]; exact Nat.le_trans (Nat.sub_le _ _) (b 8 j)
  · rw [if_neg h]; exact b c j
theorem pbS_LB {sa : SA} {s : LST} (b : LB s) (t : Nat) : LB (pbS sa s t) := by
  intro c j; unfold pbS
  by_cases h : c = 0 ∧ j < t
  · rw [if_pos h, h.1]; exact mi_le _
  · rw [if_neg h]; exact psS_LB b 6 c j
theorem paS_LB {sa : SA} {s : LST} (b : LB s) (d : Nat) (h : s 9 0 ≤ 99) : LB (paS sa d s) := LB_up (pbS_LB b d) 9 0 _ (show _ ≤ 100 by omega)
theorem i64_s0 {a b : Nat} (h : a < 100000 ∧ b < 100000) : (if i64 a - i64 b < i64 0 then i64 0 else i64 a - i64 b) = i64 (a - b) := by
  have e : (i64 a - i64 b < i64 0) = (a < b) := by
    rw [i64_z, i64_z, i64_z, j64_sub, j64_lt (by omega) (by omega)]
    exact propext ⟨fun q => by omega, fun q => by omega⟩
  simp only [e]
  by_cases c : a < b
  · rw [if_pos c, show a - b = 0 by omega]
  · rw [if_neg c, i64_sub (by omega)]
theorem fa_le {sa : SA} {w t h : Nat} (ht : t < 6) : faB sa w t h ≤ 20 := by
  have q1 := zn_le sa (i32 24) 3 (by omega)
  have q2 := zn_le sa (i32 26) 1 (by omega)
  have : t * zn sa (i32 26) 1 ≤ t * 1 := Nat.mul_le_mul_left t q2
  unfold faB; repeat' split
  all_goals omega
set_option maxRecDepth 100000 in
theorem ps_l {sa : SA} (hL : sa.2.2.1 ≤ 260) {d : Nat} {s : LST} (hd : d ≤ 4) (b : LB s) (N : Nat) : ∀ (n t fu : Nat) (g : Mem), t + n = 6 → n < fu → LL d (psS sa s t) g →
    ∃ g', L_pass_L2 N sa fu (i32 t) g = L_pass_L90 N sa N (i32 0) g' ∧ GL g g' ∧ LL d (psS sa s 6) g'
  | 0, t, fu, g, h1, h2, h => by
    obtain ⟨f, rfl⟩ : ∃ q, fu = q + 1 := ⟨fu - 1, by omega⟩
    have : t = 6 := by omega
    subst this
    exact ⟨g, by simp -dsimp -implicitDefEqProofs (disch := omega) only [L_pass_L2, i32_lit, i32_add, i32_mul, i32_tn, i32_sub, le_t, le_f, lt_t, lt_f, eq_t, eq_f, eq_rfl, inR_t, ↓ob_x, obx_s, ↓bnd_s, ↓oT_x, oTx_s, ↓ite_x, itx_T, itx_F, ↓reduceIte, not_true_eq_false, not_false_eq_true, true_and, and_true, Nat.reduceAdd, Nat.reduceMul, Nat.reduceSub, Nat.reduceEqDiff, isB0, isB1, Int32.neg_neg, Nat.zero_add, Nat.add_zero, Nat.mul_zero, Nat.mul_one, Nat.zero_mul], GL_rfl g, h⟩
  | n + 1, t, fu, g, h1, h2, h => by
    obtain ⟨f, rfl⟩ : ∃ q, fu = q + 1 := ⟨fu - 1, by omega⟩
    have ht : t < 6 := by omega
    have v8 := ll_sk h t ht
    have v9 := ll_h h
    rw [psS_n _ _ _ _ _ (by omega)] at v8 v9
    have n8 := lb_sk b t
    have n9 := lb_h b
    have q1 := zn_le sa (i32 24) 3 (by omega)
    have q2 := zn_le sa (i32 26) 1 (by omega)
    have q3 : t * zn sa (i32 26) 1 ≤ t * 1 := Nat.mul_le_mul_left t q2
    have up := LL_up (c := 8) (j := t) hd h (by unfold vaN; omega) (s 8 t - faB sa (s 8 t) t (s 9 0))
    rw [← psS_s] at up
    obtain ⟨g', e1, e2, e3⟩ := ps_l hL hd b N n (t + 1) f _ (by omega) (by omega) up
    refine ⟨g', ?_, GL_tr (GL_st _ _ _) e2, e3⟩
    rw [← e1]
    have ix : ixG 8 t = 64 + t := rfl
    rw [ix]
    unfold faB
    rcases pl_01 sa with e | e
    · by_cases c : s 9 0 ≤ s 8 t
      · have c' := eq_true c
        simp -dsimp -implicitDefEqProofs (disch := omega) only [L_pass_L2, v8, v9, pl_e hL, at_e hL, ↓shv_e, zn_e2, i32_64, i64_lit, i64_add, lg_ge, i64_s0, ↓i64_s0, e, c, c', i32_lit, i32_add, i32_mul, i32_tn, i32_sub, le_t, le_f, lt_t, lt_f, eq_t, eq_f, eq_rfl, inR_t, ↓ob_x, obx_s, ↓bnd_s, ↓oT_x, oTx_s, ↓ite_x, itx_T, itx_F, ↓reduceIte, not_true_eq_false, not_false_eq_true, true_and, and_true, Nat.reduceAdd, Nat.reduceMul, Nat.reduceSub, Nat.reduceEqDiff, isB0, isB1, Int32.neg_neg, Nat.zero_add, Nat.add_zero, Nat.mul_zero, Nat.mul_one, Nat.zero_mul]
      · have c' := eq_false c
        simp -dsimp -implicitDefEqProofs (disch := omega) only [L_pass_L2, v8, v9, pl_e hL, at_e hL, ↓shv_e, zn_e2, i32_64, i64_lit, i64_add, lg_ge, i64_s0, ↓i64_s0, e, c, c', i32_lit, i32_add, i32_mul, i32_tn, i32_sub, le_t, le_f, lt_t, lt_f, eq_t, eq_f, eq_rfl, inR_t, ↓ob_x, obx_s, ↓bnd_s, ↓oT_x, oTx_s, ↓ite_x, itx_T, itx_F, ↓reduceIte, not_true_eq_false, not_false_eq_true, true_and, and_true, Nat.reduceAdd, Nat.reduceMul, Nat.reduceSub, Nat.reduceEqDiff, isB0, isB1, Int32.neg_neg, Nat.zero_add, Nat.add_zero, Nat.mul_zero, Nat.mul_one, Nat.zero_mul]
    · simp -dsimp -implicitDefEqProofs (disch := omega) only [L_pass_L2, v8, v9, pl_e hL, at_e hL, i32_64, i64_lit, i64_add, lg_ge, i64_s0, ↓i64_s0, e, i32_lit, i32_add, i32_mul, i32_tn, i32_sub, le_t, le_f, lt_t, lt_f, eq_t, eq_f, eq_rfl, inR_t, ↓ob_x, obx_s, ↓bnd_s, ↓oT_x, oTx_s, ↓ite_x, itx_T, itx_F, ↓reduceIte, not_true_eq_false, not_false_eq_true, true_and, and_true, Nat.reduceAdd, Nat.reduceMul, Nat.reduceSub, Nat.reduceEqDiff, isB0, isB1, Int32.neg_neg, Nat.zero_add, Nat.add_zero, Nat.mul_zero, Nat.mul_one, Nat.zero_mul]
theorem kb_le {s : LST} (b : LB s) (p : Nat) : kbN s p ≤ 14 := by
  have := lb_mo b p
  unfold kbN; repeat' split
  all_goals omega
theorem kbN_n {s s' : LST} (h2 : ∀ j, s' 2 j = s 2 j) (h3 : ∀ j, s' 3 j = s 3 j) (p : Nat) : kbN s' p = kbN s p := by unfold kbN; simp only [h2, h3]
set_option maxRecDepth 100000 in
theorem pb_l {sa : SA} (hL : sa.2.2.1 ≤ 260) {s : LST} (b : LB s) {N : Nat} (hN : 6000 ≤ N) : ∀ (n t fu : Nat) (g : Mem), t + n = mnN sa → n < fu → LL (mnN sa) (pbS sa s t) g → s 9 0 ≤ 99 →
    ∃ g', GL g g' ∧ LL (mnN sa) (paS sa (mnN sa) s) g' ∧ ∀ gM, LM (mnN sa) (paS sa (mnN sa) s) gM → L_pass_L90 N sa fu (i32 t) g = some (mainV gM, g')
  | 0, t, fu, g, h1, h2, h, h9 => by
    obtain ⟨f, rfl⟩ : ∃ q, fu = q + 1 := ⟨fu - 1, by omega⟩
    have ht : t = mnN sa := by omega
    subst ht
    have hd := (mn_le sa).2
    have v9 := ll_h h
    rw [pbS_n _ _ _ _ _ (by omega) (by omega)] at v9
    have up := LL_up (c := 9) (j := 0) hd h (by unfold vaN; omega) (s 9 0 + 1)
    refine ⟨_, GL_st g (ixG 9 0) (i64 (s 9 0 + 1)), up, fun gM m => ?_⟩
    have e := fs_e up m (paS_LB b _ h9) hN
    have ix : ixG 9 0 = 70 := rfl
    rw [ix] at e ⊢
    simp -dsimp -implicitDefEqProofs (disch := omega) only [L_pass_L90, v9, mn_e hL, i64_lit, i64_add, e, i32_lit, i32_add, i32_mul, i32_tn, i32_sub, le_t, le_f, lt_t, lt_f, eq_t, eq_f, eq_rfl, inR_t, ↓ob_x, obx_s, ↓bnd_s, ↓oT_x, oTx_s, ↓ite_x, itx_T, itx_F, ↓reduceIte, not_true_eq_false, not_false_eq_true, true_and, and_true, Nat.reduceAdd, Nat.reduceMul, Nat.reduceSub, Nat.reduceEqDiff, isB0, isB1, Int32.neg_neg, Nat.zero_add, Nat.add_zero, Nat.mul_zero, Nat.mul_one, Nat.zero_mul]
  | n + 1, t, fu, g, h1, h2, h, h9 => by
    obtain ⟨f, rfl⟩ : ∃ q, fu = q + 1 := ⟨fu - 1, by omega⟩
    have hd := (mn_le sa).2
    have ht : t < mnN sa := by omega
    have v0 := ll_br h t ht
    rw [pbS_n _ _ _ _ _ (by omega) (by omega)] at v0
    have s1 := kb_e hd h (pbS_LB b t) N ht
    rw [kbN_n (s := s) (fun j => pbS_n _ _ _ _ _ (by omega) (by omega)) (fun j => pbS_n _ _ _ _ _ (by omega) (by omega))] at s1
    have n0 := lb_br b t
    have n1 := kb_le b t
    have up := LL_up (c := 0) (j := t) hd h (by unfold vaN; omega) (mi99 (s 0 t + kbN s t))
    rw [← pbS_s] at up
    obtain ⟨g', e2, e3, e1⟩ := pb_l hL b hN n (t + 1) f _ (by omega) (by omega) up h9
    refine ⟨g', GL_tr (GL_st _ _ _) e2, e3, fun gM m => ?_⟩
    rw [← e1 gM m]
    have ix : ixG 0 t = 2 * t := rfl
    rw [ix]
    simp -dsimp -implicitDefEqProofs (disch := omega) only [L_pass_L90, v0, mn_e hL, s1, i64_lit, i64_add, i64_mi, ↓i64_mi, i32_lit, i32_add, i32_mul, i32_tn, i32_sub, le_t, le_f, lt_t, lt_f, eq_t, eq_f, eq_rfl, inR_t, ↓ob_x, obx_s, ↓bnd_s, ↓oT_x, oTx_s, ↓ite_x, itx_T, itx_F, ↓reduceIte, not_true_eq_false, not_false_eq_true, true_and, and_true, Nat.reduceAdd, Nat.reduceMul, Nat.reduceSub, Nat.reduceEqDiff, isB0, isB1, Int32.neg_neg, Nat.zero_add, Nat.add_zero, Nat.mul_zero, Nat.mul_one, Nat.zero_mul]
theorem pa_e {sa : SA} (hL : sa.2.2.1 ≤ 260) {s : LST} (b : LB s) {N : Nat} (hN : 6000 ≤ N) {g : Mem} (h : LL (mnN sa) s g) (h9 : s 9 0 ≤ 99) :
    ∃ g', GL g g' ∧ LL (mnN sa) (paS sa (mnN sa) s) g' ∧ ∀ gM, LM (mnN sa) (paS sa (mnN sa) s) gM → L_pass N sa g = some (mainV gM, g') := by
  obtain ⟨g1, e1, e2, e3⟩ := ps_l hL (mn_le sa).2 b N 6 0 N g (by omega) (by omega) (by rw [psS_0]; exact h)
  obtain ⟨g2, f2, f3, f1⟩ := pb_l hL b hN (mnN sa) 0 N g1 (by omega) (by have := mn_le sa; omega) (by rw [pbS_0]; exact e3) h9
  exact ⟨g2, GL_tr e2 f2, f3, fun gM m => e1.trans (f1 gM m)⟩
