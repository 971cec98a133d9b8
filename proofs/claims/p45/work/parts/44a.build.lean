/-! THE OBJECT BUILT -/
def cI (c : Nat) : Nat := if c = 0 then 50 else if c = 1 then 51 else if c = 2 then 48 else if c = 3 then 49 else if c < 8 then 40 + c else if c = 8 then 43 else 42
def jI (c j : Nat) : Nat := if c = 9 then 10 else j
def BF (g g' : Mem) : Prop := g'.2 = g.2 ∧ ∀ c, ¬ (42 ≤ c ∧ c ≤ 51) → g'.1 c = g.1 c
theorem BF_rfl (g : Mem) : BF g g := ⟨rfl, fun _ _ => rfl⟩
theorem BF_tr {a b c : Mem} (h : BF a b) (k : BF b c) : BF a c := ⟨k.1.trans h.1, fun x q => (k.2 x q).trans (h.2 x q)⟩
theorem BF_st (g : Mem) (c j : Nat) (v : Int32) (h : 42 ≤ c ∧ c ≤ 51) : BF g (stI g c j v) := ⟨rfl, fun x q => stI_ne _ _ _ _ _ (by omega)⟩
def BI (sa : SA) (P : Nat → Nat → Prop) (n : Nat) (g : Mem) : Prop := (∀ c j, vaN (mnN sa) c j → P c j → g.1 (cI c) (jI c j) = i32 (s0S sa c j)) ∧ g.1 42 9 = i32 n ∧ ∀ p, n ≤ p → p < 6 → g.1 50 p = i32 0 ∧ g.1 51 p = i32 0
theorem cI_inj {d c j c' j' : Nat} (h : vaN d c j) (h' : vaN d c' j') (e : cI c = cI c') : c = c' := by
  have a := vaN_c h
  have a' := vaN_c h'
  unfold cI at e
  rcases a with rfl | rfl | rfl | rfl | rfl | rfl | rfl | rfl | rfl | rfl <;> rcases a' with rfl | rfl | rfl | rfl | rfl | rfl | rfl | rfl | rfl | rfl <;> first | rfl | (exact absurd e (by decide))
theorem BI_st {sa : SA} {P P' : Nat → Nat → Prop} {n : Nat} {g : Mem} (h : BI sa P n g) {c j : Nat} (hv : vaN (mnN sa) c j) (hc : 4 ≤ c) (hP : ∀ c' j', vaN (mnN sa) c' j' → P' c' j' → P c' j' ∨ (c' = c ∧ j' = j)) : BI sa P' n (stI g (cI c) (jI c j) (i32 (s0S sa c j))) := by
  have a := vaN_c hv
  refine ⟨fun c' j' hv' hp => ?_, ?_, fun p h1 h2 => ?_⟩
  · by_cases e : c' = c
    · subst e
      by_cases ej : j' = j
      · subst ej; rw [stI_eq]
      · have : ¬ jI c' j' = jI c' j := by
          unfold jI; unfold vaN at hv hv'
          by_cases c9 : c' = 9
          · omega
          · rw [if_neg c9, if_neg c9]; exact ej
        rw [stI_nj _ _ _ _ _ this]
        rcases hP c' j' hv' hp with q | q
        · exact h.1 c' j' hv' q
        · exact absurd q.2 ej
    · rw [stI_ne _ _ _ _ _ (fun q => e (cI_inj hv' hv q))]
      rcases hP c' j' hv' hp with q | q
      · exact h.1 c' j' hv' q
      · exact absurd q.1 e
  · by_cases c9 : c = 9
    · subst c9
      have : ¬ 9 = jI 9 j := by unfold jI; rw [if_pos rfl]; omega
      show (stI g 42 (jI 9 j) _).1 42 9 = _
      rw [stI_nj _ _ _ _ _ this]; exact h.2.1
    · have : ¬ 42 = cI c := by
        unfold cI; rcases a with rfl | rfl | rfl | rfl | rfl | rfl | rfl | rfl | rfl | rfl <;> first | omega | decide
      rw [stI_ne _ _ _ _ _ this]; exact h.2.1
  · have q : ¬ 50 = cI c ∧ ¬ 51 = cI c := by
      unfold cI; rcases a with rfl | rfl | rfl | rfl | rfl | rfl | rfl | rfl | rfl | rfl <;> first | omega | decide
    rw [stI_ne _ _ _ _ _ q.1, stI_ne _ _ _ _ _ q.2]; exact h.2.2 p h1 h2
theorem s0_99 (sa : SA) (c j : Nat) : s0S sa c j ≤ 100 := by
  have := s0_LB sa c j
  unfold bdN at this
  repeat' split at this
  all_goals omega
set_option maxRecDepth 100000 in
theorem b86 {sa : SA} (hL : sa.2.2.1 ≤ 260) (N : Nat) : ∀ (n p fu : Nat) (g : Mem), p + n = mnN sa → n < fu → BI sa (fun c j => 4 ≤ c ∨ j < p) p g →
    ∃ g', L_buildA_L86 N sa fu (i32 p) g = some (i32 (if plN sa = 1 then 1 else 0), g') ∧ BI sa (fun _ _ => True) (mnN sa) g' ∧ BF g g' := by
  intro n
  have hm := mn_le sa
  induction n with
  | zero =>
    intro p fu g h1 h2 h
    obtain ⟨f, rfl⟩ : ∃ q, fu = q + 1 := ⟨fu - 1, by omega⟩
    have hp : p = mnN sa := by omega
    subst hp
    refine ⟨g, ?_, ⟨fun c j hv _ => h.1 c j hv (by unfold vaN at hv; omega), h.2.1, h.2.2⟩, BF_rfl g⟩
    rcases pl_01 sa with e | e
    · simp -dsimp -implicitDefEqProofs (disch := omega) only [L_buildA_L86, mn_e hL, pl_e hL, e, i32_lit, i32_add, i32_mul, i32_tn, i32_sub, le_t, le_f, lt_t, lt_f, eq_t, eq_f, eq_rfl, inR_t, ↓ob_x, obx_s, ↓bnd_s, ↓oT_x, oTx_s, ↓ite_x, itx_T, itx_F, ↓reduceIte, not_true_eq_false, not_false_eq_true, true_and, and_true, Nat.reduceAdd, Nat.reduceMul, Nat.reduceSub, Nat.reduceEqDiff, isB0, isB1, Int32.neg_neg, Nat.zero_add, Nat.add_zero, Nat.mul_zero, Nat.mul_one, Nat.zero_mul]
    · simp -dsimp -implicitDefEqProofs (disch := omega) only [L_buildA_L86, mn_e hL, pl_e hL, e, i32_lit, i32_add, i32_mul, i32_tn, i32_sub, le_t, le_f, lt_t, lt_f, eq_t, eq_f, eq_rfl, inR_t, ↓ob_x, obx_s, ↓bnd_s, ↓oT_x, oTx_s, ↓ite_x, itx_T, itx_F, ↓reduceIte, not_true_eq_false, not_false_eq_true, true_and, and_true, Nat.reduceAdd, Nat.reduceMul, Nat.reduceSub, Nat.reduceEqDiff, isB0, isB1, Int32.neg_neg, Nat.zero_add, Nat.add_zero, Nat.mul_zero, Nat.mul_one, Nat.zero_mul]
  | succ n ih =>
    intro p fu g h1 h2 h
    obtain ⟨f, rfl⟩ : ∃ q, fu = q + 1 := ⟨fu - 1, by omega⟩
    have n0 : brN sa p ≤ 99 := s0_LB sa 0 p
    have n2 : kdN sa p ≤ 5 := s0_LB sa 2 p
    have n3 : moN sa p ≤ 9 := s0_LB sa 3 p
    have b9 := h.2.1
    have hd : X5_diver N (i32 (10 * kdN sa p + moN sa p)) (i32 (brN sa p)) g = some (i32 p, stI (stI (stI (stI (stI g 48 p (i32 (kdN sa p))) 49 p (i32 (moN sa p))) 50 p (i32 (brN sa p))) 51 p (i32 0)) 42 9 (i32 (p + 1))) := by
      have d1 : (10 * kdN sa p + moN sa p) / 10 = kdN sa p := by omega
      have d2 : (10 * kdN sa p + moN sa p) - kdN sa p * 10 = moN sa p := by omega
      simp -dsimp -implicitDefEqProofs (disch := omega) only [X5_diver, X1_comes, isW_t, b9, i32_divz, d1, d2, stI_eq, stI_nj, stI_ne, stI_2, stA_eq, stA_ne, stA_2, stR_1, stR_2, i32_lit, i32_add, i32_mul, i32_tn, i32_sub, le_t, le_f, lt_t, lt_f, eq_t, eq_f, eq_rfl, inR_t, ↓ob_x, obx_s, ↓bnd_s, ↓oT_x, oTx_s, ↓ite_x, itx_T, itx_F, ↓reduceIte, not_true_eq_false, not_false_eq_true, true_and, and_true, Nat.reduceAdd, Nat.reduceMul, Nat.reduceSub, Nat.reduceEqDiff, isB0, isB1, Int32.neg_neg, Nat.zero_add, Nat.add_zero, Nat.mul_zero, Nat.mul_one, Nat.zero_mul]
    have hb : BI sa (fun c j => 4 ≤ c ∨ j < p + 1) (p + 1) (stI (stI (stI (stI (stI g 48 p (i32 (kdN sa p))) 49 p (i32 (moN sa p))) 50 p (i32 (brN sa p))) 51 p (i32 0)) 42 9 (i32 (p + 1))) := by
      refine ⟨fun c j hv hp => ?_, stI_eq _ _ _ _, fun q q1 q2 => ?_⟩
      · rcases vaN_c hv with rfl | rfl | rfl | rfl | rfl | rfl | rfl | rfl | rfl | rfl
        · show (stI (stI (stI (stI (stI g 48 p _) 49 p _) 50 p _) 51 p _) 42 9 _).1 50 j = _
          rw [stI_ne _ _ _ _ _ (by omega), stI_ne _ _ _ _ _ (by omega)]
          by_cases e : j = p
          · subst e; rw [stI_eq]; rfl
          · rw [stI_nj _ _ _ _ _ e, stI_ne _ _ _ _ _ (by omega), stI_ne _ _ _ _ _ (by omega)]; exact h.1 0 j hv (by omega)
        · show (stI (stI (stI (stI (stI g 48 p _) 49 p _) 50 p _) 51 p _) 42 9 _).1 51 j = _
          rw [stI_ne _ _ _ _ _ (by omega)]
          by_cases e : j = p
          · subst e; rw [stI_eq]; rfl
          · rw [stI_nj _ _ _ _ _ e, stI_ne _ _ _ _ _ (by omega), stI_ne _ _ _ _ _ (by omega), stI_ne _ _ _ _ _ (by omega)]; exact h.1 1 j hv (by omega)
        · show (stI (stI (stI (stI (stI g 48 p _) 49 p _) 50 p _) 51 p _) 42 9 _).1 48 j = _
          rw [stI_ne _ _ _ _ _ (by omega), stI_ne _ _ _ _ _ (by omega), stI_ne _ _ _ _ _ (by omega), stI_ne _ _ _ _ _ (by omega)]
          by_cases e : j = p
          · subst e; rw [stI_eq]; rfl
          · rw [stI_nj _ _ _ _ _ e]; exact h.1 2 j hv (by omega)
        · show (stI (stI (stI (stI (stI g 48 p _) 49 p _) 50 p _) 51 p _) 42 9 _).1 49 j = _
          rw [stI_ne _ _ _ _ _ (by omega), stI_ne _ _ _ _ _ (by omega), stI_ne _ _ _ _ _ (by omega)]
          by_cases e : j = p
          · subst e; rw [stI_eq]; rfl
          · rw [stI_nj _ _ _ _ _ e, stI_ne _ _ _ _ _ (by omega)]; exact h.1 3 j hv (by omega)
        all_goals first
          | (have w := h.1 4 j hv (by omega)
             show (stI (stI (stI (stI (stI g 48 p _) 49 p _) 50 p _) 51 p _) 42 9 _).1 44 j = _
             rw [stI_ne _ _ _ _ _ (by omega), stI_ne _ _ _ _ _ (by omega), stI_ne _ _ _ _ _ (by omega), stI_ne _ _ _ _ _ (by omega), stI_ne _ _ _ _ _ (by omega)]
             exact w)
          | (have w := h.1 5 j hv (by omega)
             show (stI (stI (stI (stI (stI g 48 p _) 49 p _) 50 p _) 51 p _) 42 9 _).1 45 j = _
             rw [stI_ne _ _ _ _ _ (by omega), stI_ne _ _ _ _ _ (by omega), stI_ne _ _ _ _ _ (by omega), stI_ne _ _ _ _ _ (by omega), stI_ne _ _ _ _ _ (by omega)]
             exact w)
          | (have w := h.1 6 j hv (by omega)
             show (stI (stI (stI (stI (stI g 48 p _) 49 p _) 50 p _) 51 p _) 42 9 _).1 46 j = _
             rw [stI_ne _ _ _ _ _ (by omega), stI_ne _ _ _ _ _ (by omega), stI_ne _ _ _ _ _ (by omega), stI_ne _ _ _ _ _ (by omega), stI_ne _ _ _ _ _ (by omega)]
             exact w)
          | (have w := h.1 7 j hv (by omega)
             show (stI (stI (stI (stI (stI g 48 p _) 49 p _) 50 p _) 51 p _) 42 9 _).1 47 j = _
             rw [stI_ne _ _ _ _ _ (by omega), stI_ne _ _ _ _ _ (by omega), stI_ne _ _ _ _ _ (by omega), stI_ne _ _ _ _ _ (by omega), stI_ne _ _ _ _ _ (by omega)]
             exact w)
          | (have w := h.1 8 j hv (by omega)
             show (stI (stI (stI (stI (stI g 48 p _) 49 p _) 50 p _) 51 p _) 42 9 _).1 43 j = _
             rw [stI_ne _ _ _ _ _ (by omega), stI_ne _ _ _ _ _ (by omega), stI_ne _ _ _ _ _ (by omega), stI_ne _ _ _ _ _ (by omega), stI_ne _ _ _ _ _ (by omega)]
             exact w)
          | (have w := h.1 9 j hv (by omega)
             show (stI (stI (stI (stI (stI g 48 p _) 49 p _) 50 p _) 51 p _) 42 9 _).1 42 10 = _
             rw [stI_nj _ _ _ _ _ (by omega), stI_ne _ _ _ _ _ (by omega), stI_ne _ _ _ _ _ (by omega), stI_ne _ _ _ _ _ (by omega), stI_ne _ _ _ _ _ (by omega)]
             exact w)
      · constructor
        · rw [stI_ne _ _ _ _ _ (by omega), stI_ne _ _ _ _ _ (by omega), stI_nj _ _ _ _ _ (by omega), stI_ne _ _ _ _ _ (by omega), stI_ne _ _ _ _ _ (by omega)]; exact (h.2.2 q (by omega) q2).1
        · rw [stI_ne _ _ _ _ _ (by omega), stI_nj _ _ _ _ _ (by omega), stI_ne _ _ _ _ _ (by omega), stI_ne _ _ _ _ _ (by omega), stI_ne _ _ _ _ _ (by omega)]; exact (h.2.2 q (by omega) q2).2
    obtain ⟨g', e, b', f'⟩ := ih (p + 1) f _ (by omega) (by omega) hb
    refine ⟨g', ?_, b', BF_tr (BF_tr (BF_tr (BF_tr (BF_tr (BF_st g _ _ _ (by omega)) (BF_st _ _ _ _ (by omega))) (BF_st _ _ _ _ (by omega))) (BF_st _ _ _ _ (by omega))) (BF_st _ _ _ _ (by omega))) f'⟩
    rw [← e]
    simp -dsimp -implicitDefEqProofs (disch := omega) only [L_buildA_L86, mn_e hL, kd_e hL, mo_e hL, br_e hL, hd, i32_lit, i32_add, i32_mul, i32_tn, i32_sub, le_t, le_f, lt_t, lt_f, eq_t, eq_f, eq_rfl, inR_t, ↓ob_x, obx_s, ↓bnd_s, ↓oT_x, oTx_s, ↓ite_x, itx_T, itx_F, ↓reduceIte, not_true_eq_false, not_false_eq_true, true_and, and_true, Nat.reduceAdd, Nat.reduceMul, Nat.reduceSub, Nat.reduceEqDiff, isB0, isB1, Int32.neg_neg, Nat.zero_add, Nat.add_zero, Nat.mul_zero, Nat.mul_one, Nat.zero_mul]
