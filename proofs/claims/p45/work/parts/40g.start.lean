def s0S (sa : SA) : LST := fun c j => if c = 0 then brN sa j else if c = 1 then 0 else if c = 2 then kdN sa j else if c = 3 then moN sa j else if c < 8 then ckN sa j (c - 4) else if c = 8 then skN sa j else if c = 9 then hrN sa else 0
theorem s0_LB (sa : SA) : LB (s0S sa) := by
  intro c j
  unfold s0S bdN brN kdN moN ckN skN hrN
  have h1 := fz_le (AT sa (1 + j)) 7 (by omega)
  have h2 := fz_le (cvN sa j) 7 (by omega)
  have h3 := fz_le (shv (cvN sa j) (i32 3)) 31 (by omega)
  have h4 := fz_le (shv (cvN sa j) (i32 8)) 31 (by omega)
  have h5 := fz_le (shv (AT sa 5) (i32 (5 * j))) 31 (by omega)
  have h6 := fz_le (shv (AT sa 0) (i32 27)) 15 (by omega)
  have a : c = 0 ∨ c = 1 ∨ c = 2 ∨ c = 3 ∨ c = 4 ∨ c = 5 ∨ c = 6 ∨ c = 7 ∨ c = 8 ∨ c = 9 ∨ 10 ≤ c := by omega
  rcases a with rfl | rfl | rfl | rfl | rfl | rfl | rfl | rfl | rfl | rfl | a
  all_goals first
    | (simp only [Nat.reduceEqDiff, Nat.reduceLT, Nat.reduceSub, ↓reduceIte]; omega)
    | (repeat' split) <;> omega
def LLw (d : Nat) (P : Nat → Nat → Prop) (s : LST) (g : Mem) : Prop := ∀ c j, vaN d c j → P c j → ldL g (ixG c j) = i64 (s c j)
theorem LLw_up {d : Nat} {P : Nat → Nat → Prop} {s : LST} {g : Mem} (hd : d ≤ 4) (h : LLw d P s g) {c j : Nat} (hv : vaN d c j) (P' : Nat → Nat → Prop) (hP : ∀ c' j', vaN d c' j' → P' c' j' → P c' j' ∨ (c' = c ∧ j' = j)) : LLw d P' s (stL g (ixG c j) (i64 (s c j))) := by
  intro c' j' hv' hp
  rw [ldL_stL]
  by_cases e : ixG c' j' = ixG c j
  · obtain ⟨rfl, rfl⟩ := ixG_inj hd hv' hv e
    rw [if_pos rfl]
  · rw [if_neg e]
    rcases hP c' j' hv' hp with q | ⟨rfl, rfl⟩
    · exact h c' j' hv' q
    · exact absurd rfl e
theorem vaN_c {d c j : Nat} (h : vaN d c j) : c = 0 ∨ c = 1 ∨ c = 2 ∨ c = 3 ∨ c = 4 ∨ c = 5 ∨ c = 6 ∨ c = 7 ∨ c = 8 ∨ c = 9 := by unfold vaN at h; omega
set_option maxRecDepth 100000 in
theorem st92 {sa : SA} (hL : sa.2.2.1 ≤ 260) (N : Nat) : ∀ (n t fu : Nat) (g : Mem), t + n = 6 → n < fu → LLw (mnN sa) (fun c j => c < 8 ∨ (c = 8 ∧ j < t)) (s0S sa) g →
    ∃ r g', L_start_L92 N sa fu (i32 t) g = some (r, g') ∧ GL g g' ∧ LL (mnN sa) (s0S sa) g'
  | 0, t, fu, g, h1, h2, h => by
    obtain ⟨f, rfl⟩ : ∃ q, fu = q + 1 := ⟨fu - 1, by omega⟩
    have ht : t = 6 := by omega
    subst ht
    have n1 := s0_LB sa 9 0
    have e : s0S sa 9 0 = hrN sa := rfl
    rw [e] at n1
    have n2 : hrN sa ≤ 100 := n1
    have up := LLw_up (c := 9) (j := 0) (mn_le sa).2 h (by unfold vaN; omega) (fun _ _ => True) (fun c' j' hv' _ => by unfold vaN at hv'; omega)
    refine ⟨i32 0, _, ?_, GL_st g 70 (i64 (hrN sa)), fun c j hv => up c j hv trivial⟩
    simp -dsimp -implicitDefEqProofs (disch := omega) only [L_start_L92, hr_e hL, i32_64, i32_lit, i32_add, i32_mul, i32_tn, i32_sub, le_t, le_f, lt_t, lt_f, eq_t, eq_f, eq_rfl, inR_t, ↓ob_x, obx_s, ↓bnd_s, ↓oT_x, oTx_s, ↓ite_x, itx_T, itx_F, ↓reduceIte, not_true_eq_false, not_false_eq_true, true_and, and_true, Nat.reduceAdd, Nat.reduceMul, Nat.reduceSub, Nat.reduceEqDiff, isB0, isB1, Int32.neg_neg, Nat.zero_add, Nat.add_zero, Nat.mul_zero, Nat.mul_one, Nat.zero_mul]
  | n + 1, t, fu, g, h1, h2, h => by
    obtain ⟨f, rfl⟩ : ∃ q, fu = q + 1 := ⟨fu - 1, by omega⟩
    have n1 := s0_LB sa 8 t
    have e : s0S sa 8 t = skN sa t := rfl
    rw [e] at n1
    have n2 : skN sa t ≤ 99 := n1
    have up := LLw_up (c := 8) (j := t) (mn_le sa).2 h (by unfold vaN; omega) (fun c j => c < 8 ∨ (c = 8 ∧ j < t + 1)) (fun c' j' hv' q => by omega)
    obtain ⟨r, g', e1, e2, e3⟩ := st92 hL N n (t + 1) f _ (by omega) (by omega) up
    refine ⟨r, g', ?_, GL_tr (GL_st g (64 + t) (i64 (skN sa t))) e2, e3⟩
    rw [← e1]
    simp -dsimp -implicitDefEqProofs (disch := omega) only [L_start_L92, sk_e hL, i32_64, i32_lit, i32_add, i32_mul, i32_tn, i32_sub, le_t, le_f, lt_t, lt_f, eq_t, eq_f, eq_rfl, inR_t, ↓ob_x, obx_s, ↓bnd_s, ↓oT_x, oTx_s, ↓ite_x, itx_T, itx_F, ↓reduceIte, not_true_eq_false, not_false_eq_true, true_and, and_true, Nat.reduceAdd, Nat.reduceMul, Nat.reduceSub, Nat.reduceEqDiff, isB0, isB1, Int32.neg_neg, Nat.zero_add, Nat.add_zero, Nat.mul_zero, Nat.mul_one, Nat.zero_mul]
    rfl
set_option maxRecDepth 100000 in
theorem st61 {sa : SA} (hL : sa.2.2.1 ≤ 260) {N : Nat} (hN : 6000 ≤ N) : ∀ (n t fu : Nat) (g : Mem), t + n = 48 → n < fu → LLw (mnN sa) (fun c j => c < 4 ∨ (4 ≤ c ∧ c < 8 ∧ 4 * j + (c - 4) < t)) (s0S sa) g →
    ∃ r g', L_start_L61 N sa fu (i32 t) g = some (r, g') ∧ GL g g' ∧ LL (mnN sa) (s0S sa) g'
  | 0, t, fu, g, h1, h2, h => by
    obtain ⟨f, rfl⟩ : ∃ q, fu = q + 1 := ⟨fu - 1, by omega⟩
    have ht : t = 48 := by omega
    subst ht
    have h' : LLw (mnN sa) (fun c j => c < 8 ∨ (c = 8 ∧ j < 0)) (s0S sa) g := fun c j hv q => h c j hv (by unfold vaN at hv; omega)
    obtain ⟨r, g', e1, e2, e3⟩ := st92 hL N 6 0 N g (by omega) (by omega) h'
    refine ⟨r, g', ?_, e2, e3⟩
    rw [← e1]
    simp -dsimp -implicitDefEqProofs (disch := omega) only [L_start_L61, i32_lit, i32_add, i32_mul, i32_tn, i32_sub, le_t, le_f, lt_t, lt_f, eq_t, eq_f, eq_rfl, inR_t, ↓ob_x, obx_s, ↓bnd_s, ↓oT_x, oTx_s, ↓ite_x, itx_T, itx_F, ↓reduceIte, not_true_eq_false, not_false_eq_true, true_and, and_true, Nat.reduceAdd, Nat.reduceMul, Nat.reduceSub, Nat.reduceEqDiff, isB0, isB1, Int32.neg_neg, Nat.zero_add, Nat.add_zero, Nat.mul_zero, Nat.mul_one, Nat.zero_mul]
  | n + 1, t, fu, g, h1, h2, h => by
    obtain ⟨f, rfl⟩ : ∃ q, fu = q + 1 := ⟨fu - 1, by omega⟩
    have hc : 4 + t % 4 = 4 ∨ 4 + t % 4 = 5 ∨ 4 + t % 4 = 6 ∨ 4 + t % 4 = 7 := by omega
    have n1 := s0_LB sa (4 + t % 4) (t / 4)
    have e : s0S sa (4 + t % 4) (t / 4) = ckN sa (t / 4) (t % 4) := by
      unfold s0S
      rw [if_neg (by omega), if_neg (by omega), if_neg (by omega), if_neg (by omega), if_pos (by omega), Nat.add_sub_cancel_left]
    rw [e] at n1
    have n2 : ckN sa (t / 4) (t % 4) ≤ 99 := Nat.le_trans n1 (by unfold bdN; rcases hc with q | q | q | q <;> rw [q] <;> decide)
    have up := LLw_up (c := 4 + t % 4) (j := t / 4) (mn_le sa).2 h (by unfold vaN; omega) (fun c j => c < 4 ∨ (4 ≤ c ∧ c < 8 ∧ 4 * j + (c - 4) < t + 1)) (fun c' j' hv' q => by omega)
    rw [e] at up
    have ix : ixG (4 + t % 4) (t / 4) = 16 + t := by
      unfold ixG
      rw [if_neg (by omega), if_neg (by omega), if_neg (by omega), if_neg (by omega), if_pos (by omega)]; omega
    rw [ix] at up
    obtain ⟨r, g', e1, e2, e3⟩ := st61 hL hN n (t + 1) f _ (by omega) (by omega) up
    refine ⟨r, g', ?_, GL_tr (GL_st g (16 + t) _) e2, e3⟩
    rw [← e1]
    have s1 := ck_e hL N (t / 4) (t % 4) (by omega) (by omega) g
    simp -dsimp -implicitDefEqProofs (disch := omega) only [L_start_L61, i32_divz, sub_dm, s1, i32_64, i32_lit, i32_add, i32_mul, i32_tn, i32_sub, le_t, le_f, lt_t, lt_f, eq_t, eq_f, eq_rfl, inR_t, ↓ob_x, obx_s, ↓bnd_s, ↓oT_x, oTx_s, ↓ite_x, itx_T, itx_F, ↓reduceIte, not_true_eq_false, not_false_eq_true, true_and, and_true, Nat.reduceAdd, Nat.reduceMul, Nat.reduceSub, Nat.reduceEqDiff, isB0, isB1, Int32.neg_neg, Nat.zero_add, Nat.add_zero, Nat.mul_zero, Nat.mul_one, Nat.zero_mul]
set_option maxRecDepth 100000 in
theorem st2 {sa : SA} (hL : sa.2.2.1 ≤ 260) {N : Nat} (hN : 6000 ≤ N) : ∀ (n t fu : Nat) (g : Mem), t + n = mnN sa → n < fu → LLw (mnN sa) (fun c j => c < 4 ∧ j < t) (s0S sa) g →
    ∃ r g', L_start_L2 N sa fu (i32 t) g = some (r, g') ∧ GL g g' ∧ LL (mnN sa) (s0S sa) g'
  | 0, t, fu, g, h1, h2, h => by
    obtain ⟨f, rfl⟩ : ∃ q, fu = q + 1 := ⟨fu - 1, by omega⟩
    have ht : t = mnN sa := by omega
    subst ht
    have hm := mn_le sa
    have h' : LLw (mnN sa) (fun c j => c < 4 ∨ (4 ≤ c ∧ c < 8 ∧ 4 * j + (c - 4) < 0)) (s0S sa) g := fun c j hv q => h c j hv (by unfold vaN at hv; omega)
    obtain ⟨r, g', e1, e2, e3⟩ := st61 hL hN 48 0 N g (by omega) (by omega) h'
    refine ⟨r, g', ?_, e2, e3⟩
    rw [← e1]
    simp -dsimp -implicitDefEqProofs (disch := omega) only [L_start_L2, mn_e hL, i32_lit, i32_add, i32_mul, i32_tn, i32_sub, le_t, le_f, lt_t, lt_f, eq_t, eq_f, eq_rfl, inR_t, ↓ob_x, obx_s, ↓bnd_s, ↓oT_x, oTx_s, ↓ite_x, itx_T, itx_F, ↓reduceIte, not_true_eq_false, not_false_eq_true, true_and, and_true, Nat.reduceAdd, Nat.reduceMul, Nat.reduceSub, Nat.reduceEqDiff, isB0, isB1, Int32.neg_neg, Nat.zero_add, Nat.add_zero, Nat.mul_zero, Nat.mul_one, Nat.zero_mul]
  | n + 1, t, fu, g, h1, h2, h => by
    obtain ⟨f, rfl⟩ : ∃ q, fu = q + 1 := ⟨fu - 1, by omega⟩
    have hm := mn_le sa
    have n0 : brN sa t ≤ 99 := s0_LB sa 0 t
    have n2 : kdN sa t ≤ 5 := s0_LB sa 2 t
    have n3 : moN sa t ≤ 9 := s0_LB sa 3 t
    have u0 := LLw_up (c := 0) (j := t) hm.2 h (by unfold vaN; omega) (fun c j => (c < 4 ∧ j < t) ∨ (c < 1 ∧ j < t + 1)) (fun c' j' hv' q => by omega)
    have u1 := LLw_up (c := 1) (j := t) hm.2 u0 (by unfold vaN; omega) (fun c j => (c < 4 ∧ j < t) ∨ (c < 2 ∧ j < t + 1)) (fun c' j' hv' q => by omega)
    have u2 := LLw_up (c := 2) (j := t) hm.2 u1 (by unfold vaN; omega) (fun c j => (c < 4 ∧ j < t) ∨ (c < 3 ∧ j < t + 1)) (fun c' j' hv' q => by omega)
    have u3 := LLw_up (c := 3) (j := t) hm.2 u2 (by unfold vaN; omega) (fun c j => c < 4 ∧ j < t + 1) (fun c' j' hv' q => by omega)
    obtain ⟨r, g', e1, e2, e3⟩ := st2 hL hN n (t + 1) f _ (by omega) (by omega) u3
    refine ⟨r, g', ?_, GL_tr (GL_tr (GL_tr (GL_tr (GL_st g _ _) (GL_st _ _ _)) (GL_st _ _ _)) (GL_st _ _ _)) e2, e3⟩
    rw [← e1]
    simp -dsimp -implicitDefEqProofs (disch := omega) only [L_start_L2, mn_e hL, br_e hL, kd_e hL, mo_e hL, i32_64, i32_lit, i32_add, i32_mul, i32_tn, i32_sub, le_t, le_f, lt_t, lt_f, eq_t, eq_f, eq_rfl, inR_t, ↓ob_x, obx_s, ↓bnd_s, ↓oT_x, oTx_s, ↓ite_x, itx_T, itx_F, ↓reduceIte, not_true_eq_false, not_false_eq_true, true_and, and_true, Nat.reduceAdd, Nat.reduceMul, Nat.reduceSub, Nat.reduceEqDiff, isB0, isB1, Int32.neg_neg, Nat.zero_add, Nat.add_zero, Nat.mul_zero, Nat.mul_one, Nat.zero_mul]
    rfl
theorem st_e {sa : SA} (hL : sa.2.2.1 ≤ 260) {N : Nat} (hN : 6000 ≤ N) (g : Mem) : ∃ r g', L_start N sa g = some (r, g') ∧ GL g g' ∧ LL (mnN sa) (s0S sa) g' :=
  st2 hL hN (mnN sa) 0 N g (by omega) (by have := mn_le sa; omega) (fun c j _ q => by omega)
