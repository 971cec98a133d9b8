/-! BITS -/
theorem sh_tb : ∀ k, k < 12 → ((i32 k &&& 31).toBitVec.smod 32) = BitVec.ofNat 32 k := by decide +kernel
theorem sbit (x : Int32) (k : Nat) (hk : k < 12) : shv x (i32 k) &&& i32 1 = if x.toBitVec.getLsbD k then i32 1 else i32 0 := by
  apply Int32.toBitVec_inj.mp
  unfold shv
  rw [Int32.toBitVec_and, Int32.toBitVec_shiftRight, sh_tb k hk]
  have e1 : (i32 1).toBitVec = 1#32 := rfl
  have e0 : (i32 0).toBitVec = 0#32 := rfl
  apply BitVec.eq_of_getLsbD_eq
  intro j hj
  rw [BitVec.getLsbD_and, e1]
  have e2 : (x.toBitVec.sshiftRight' (BitVec.ofNat 32 k)) = x.toBitVec.sshiftRight k := by
    rw [BitVec.sshiftRight_eq', BitVec.toNat_ofNat, Nat.mod_eq_of_lt (by omega)]
  rw [e2, BitVec.getLsbD_sshiftRight]
  by_cases h : j = 0
  · subst h
    rw [if_pos (by omega)] <;> simp
    by_cases c : x.toBitVec.getLsbD k = true
    · simp [c, e1]
    · simp [c, e0]
  · have z : (1#32).getLsbD j = false := by simp; omega
    rw [z, Bool.and_false]
    by_cases c : x.toBitVec.getLsbD k = true
    · rw [if_pos c, e1, z]
    · rw [if_neg c, e0]; simp
theorem sl_bit : ∀ j, j < 12 → ∀ k, k < 12 → (i32 1 <<< (i32 j &&& i32 31)).toBitVec.getLsbD k = decide (k = j) := by decide +kernel
theorem bitF_g (c : Nat → Nat) {k : Nat} (hk : k < 12) : ∀ (n j : Nat) (x : Int32), j + n = 12 → (bitF c j n x).toBitVec.getLsbD k = (x.toBitVec.getLsbD k || (decide (j ≤ k) && decide (¬ c k = 0))) := by
  intro n
  induction n with
  | zero =>
    intro j x h
    rw [bitF, decide_eq_false (show ¬ j ≤ k by omega), Bool.false_and, Bool.or_false]
  | succ n ih =>
    intro j x h
    rw [bitF, ih (j + 1) _ (by omega)]
    by_cases e : c j = 0
    · rw [if_pos e]
      by_cases q : k = j
      · subst q
        rw [decide_eq_false (show ¬ ¬ c k = 0 from fun z => z e), Bool.and_false, Bool.and_false]
      · rw [decide_eq_decide.mpr (show j + 1 ≤ k ↔ j ≤ k by omega)]
    · rw [if_neg e, Int32.toBitVec_or, BitVec.getLsbD_or, sl_bit j (by omega) k hk]
      by_cases q : k = j
      · subst q
        rw [decide_eq_true (rfl : k = k), decide_eq_true e, decide_eq_true (Nat.le_refl k)]; simp
      · rw [decide_eq_false q, Bool.or_false, decide_eq_decide.mpr (show j + 1 ≤ k ↔ j ≤ k by omega)]
theorem bit_e (c : Nat → Nat) {k : Nat} (hk : k < 12) (h1 : c k ≤ 1) : shv (bitF c 0 12 (i32 0)) (i32 k) &&& i32 1 = i32 (c k) := by
  rw [sbit _ k hk, bitF_g c hk 12 0 _ (by omega)]
  have z : (i32 0).toBitVec.getLsbD k = false := by
    show (0#32).getLsbD k = false
    simp
  rw [z, Bool.false_or, decide_eq_true (Nat.zero_le k), Bool.true_and]
  by_cases e : c k = 0
  · rw [e]; rfl
  · rw [show c k = 1 by omega]; rfl
/-! LAST, BEST -/
set_option maxRecDepth 100000 in
theorem la_0 {sa : SA} {s : LST} {i : Nat} {g gM : Mem} (h : WLD sa s i g gM) {N : Nat} (hN : 6000 ≤ N) {p k : Nat} (hp : p < mnN sa) (hk : k < 12) (c : caN sa s p k = 0) : ∃ g', X5_last N (i32 p) (i32 k) (i32 0) g = some (-(i32 1), g') ∧ FI 52 g g' := by
  have hd := mn_le sa
  have b7 : g.1 42 9 = i32 (mnN sa) := h.1.2.2.2.2.2.2.2.1
  obtain ⟨g1, r1, r2, r3, r4⟩ := th_I h N
  obtain ⟨g2, t1, f⟩ := can_I hN r2 hp hk
  rw [canV_e h.2.2.2.2.2.2 h.2.2.2.1 h.2.2.2.2.2.1 hp hk, c] at t1
  refine ⟨g2, ?_, FI_tr r4 (FI_SI f)⟩
  have e : ML N 20 52 (i32 p) (i32 k) (i32 0) g1 = some (-(i32 1), g2) := by
    show X5_mostLeft N (ML N 19) 52 (i32 p) (i32 k) (i32 0) g1 = _
    simp -dsimp -implicitDefEqProofs (disch := omega) only [X5_mostLeft, t1, i32_lit, i32_add, i32_mul, i32_tn, i32_sub, le_t, le_f, lt_t, lt_f, eq_t, eq_f, eq_rfl, inR_t, ↓ob_x, obx_s, ↓bnd_s, ↓oT_x, oTx_s, ↓ite_x, itx_T, itx_F, ↓reduceIte, not_true_eq_false, not_false_eq_true, true_and, and_true, Nat.reduceAdd, Nat.reduceMul, Nat.reduceSub, Nat.reduceEqDiff, isB0, isB1, Int32.neg_neg, Nat.zero_add, Nat.add_zero, Nat.mul_zero, Nat.mul_one, Nat.zero_mul]
  simp -dsimp -implicitDefEqProofs (disch := omega) only [X5_last, isD_t b7 hp (by omega : mnN sa ≤ 6), isK_t, isW_t, r1, e, i32_lit, i32_add, i32_mul, i32_tn, i32_sub, le_t, le_f, lt_t, lt_f, eq_t, eq_f, eq_rfl, inR_t, ↓ob_x, obx_s, ↓bnd_s, ↓oT_x, oTx_s, ↓ite_x, itx_T, itx_F, ↓reduceIte, not_true_eq_false, not_false_eq_true, true_and, and_true, Nat.reduceAdd, Nat.reduceMul, Nat.reduceSub, Nat.reduceEqDiff, isB0, isB1, Int32.neg_neg, Nat.zero_add, Nat.add_zero, Nat.mul_zero, Nat.mul_one, Nat.zero_mul]
set_option maxRecDepth 100000 in
theorem la_1 {sa : SA} {s : LST} {i : Nat} {g gM : Mem} (h : WLD sa s i g gM) {N : Nat} (hN : 6000 ≤ N) {p k : Nat} (hp : p < mnN sa) (hk : k < 12) (c : caN sa s p k = 1) : ∃ g', X5_last N (i32 p) (i32 k) (i32 0) g = some (i32 (s 0 p - coN sa s p k), g') ∧ FI 52 g g' := by
  have hd := mn_le sa
  have b7 : g.1 42 9 = i32 (mnN sa) := h.1.2.2.2.2.2.2.2.1
  obtain ⟨g1, r1, r2, r3, r4⟩ := th_I h N
  obtain ⟨g2, t1, f⟩ := can_I hN r2 hp hk
  rw [canV_e h.2.2.2.2.2.2 h.2.2.2.1 h.2.2.2.2.2.1 hp hk, c] at t1
  have e2 := Sc_SI r2 f
  obtain ⟨g3, u1, f2⟩ := cost_I hN e2 hp hk
  rw [CoV_e h.2.2.2.2.2.2 h.2.2.2.1 h.2.2.2.2.2.1 hp hk] at u1
  have b6 : g2.1 60 p = gM.1 3 (2 * p) := e2.2.2.2.2.2.2.1 p (by omega)
  rw [lm_br h.2.2.2.1 p hp] at b6
  have nc := (ca_1 c).2
  have n0 := lb_br h.2.2.2.2.2.1 p
  refine ⟨g3, ?_, FI_tr r4 (FI_tr (FI_SI f) (FI_SI f2))⟩
  have e : ML N 20 52 (i32 p) (i32 k) (i32 0) g1 = some (i32 (s 0 p - coN sa s p k), g3) := by
    show X5_mostLeft N (ML N 19) 52 (i32 p) (i32 k) (i32 0) g1 = _
    simp -dsimp -implicitDefEqProofs (disch := omega) only [X5_mostLeft, t1, u1, b6, i32_lit, i32_add, i32_mul, i32_tn, i32_sub, le_t, le_f, lt_t, lt_f, eq_t, eq_f, eq_rfl, inR_t, ↓ob_x, obx_s, ↓bnd_s, ↓oT_x, oTx_s, ↓ite_x, itx_T, itx_F, ↓reduceIte, not_true_eq_false, not_false_eq_true, true_and, and_true, Nat.reduceAdd, Nat.reduceMul, Nat.reduceSub, Nat.reduceEqDiff, isB0, isB1, Int32.neg_neg, Nat.zero_add, Nat.add_zero, Nat.mul_zero, Nat.mul_one, Nat.zero_mul]
  simp -dsimp -implicitDefEqProofs (disch := omega) only [X5_last, isD_t b7 hp (by omega : mnN sa ≤ 6), isK_t, isW_t, r1, e, i32_lit, i32_add, i32_mul, i32_tn, i32_sub, le_t, le_f, lt_t, lt_f, eq_t, eq_f, eq_rfl, inR_t, ↓ob_x, obx_s, ↓bnd_s, ↓oT_x, oTx_s, ↓ite_x, itx_T, itx_F, ↓reduceIte, not_true_eq_false, not_false_eq_true, true_and, and_true, Nat.reduceAdd, Nat.reduceMul, Nat.reduceSub, Nat.reduceEqDiff, isB0, isB1, Int32.neg_neg, Nat.zero_add, Nat.add_zero, Nat.mul_zero, Nat.mul_one, Nat.zero_mul]
def bcP (sa : SA) (s : LST) (p : Nat) : Int32 := bcE (bitF (caN sa s p) 0 12 (i32 0))
theorem be_l {sa : SA} {s : LST} {i : Nat} {gM : Mem} {N : Nat} (hN : 6000 ≤ N) : ∀ (n p fu : Nat) (x y : Int32) (g : Mem), p + n = mnN sa → n < fu → WLD sa s i g gM →
    ∃ v g', X5_best_L18 N (i32 1) fu x y (i32 p) g = some (v, g') ∧ y ≤ v ∧ (∀ q, p ≤ q → q < mnN sa → bcP sa s q ≤ v) ∧ SI g g' := by
  intro n
  have hd := mn_le sa
  induction n with
  | zero =>
    intro p fu x y g h1 h2 h
    obtain ⟨f, rfl⟩ : ∃ q, fu = q + 1 := ⟨fu - 1, by omega⟩
    have b7 : g.1 42 9 = i32 (mnN sa) := h.1.2.2.2.2.2.2.2.1
    exact ⟨y, g, by simp -dsimp -implicitDefEqProofs (disch := omega) only [X5_best_L18, b7, i32_lit, i32_add, i32_mul, i32_tn, i32_sub, le_t, le_f, lt_t, lt_f, eq_t, eq_f, eq_rfl, inR_t, ↓ob_x, obx_s, ↓bnd_s, ↓oT_x, oTx_s, ↓ite_x, itx_T, itx_F, ↓reduceIte, not_true_eq_false, not_false_eq_true, true_and, and_true, Nat.reduceAdd, Nat.reduceMul, Nat.reduceSub, Nat.reduceEqDiff, isB0, isB1, Int32.neg_neg, Nat.zero_add, Nat.add_zero, Nat.mul_zero, Nat.mul_one, Nat.zero_mul], le_r y, fun q a b => by omega, SI_rfl g⟩
  | succ n ih =>
    intro p fu x y g h1 h2 h
    obtain ⟨f, rfl⟩ : ∃ q, fu = q + 1 := ⟨fu - 1, by omega⟩
    have hp : p < mnN sa := by omega
    have b7 : g.1 42 9 = i32 (mnN sa) := h.1.2.2.2.2.2.2.2.1
    obtain ⟨g1, r1, f1⟩ := cset_I (p := p) hN hp 12 0 N (i32 0) g (by omega) (by omega) h.1
    rw [bits_e h.2.2.2.2.2.2 h.2.2.2.1 h.2.2.2.2.2.1 hp] at r1
    have eb : bcE (bitF (caN sa s p) 0 12 (i32 0)) = bcP sa s p := rfl
    have h' := WLD_SI h f1
    by_cases e : bcP sa s p ≤ y
    · obtain ⟨v, g2, r2, q1, q2, f2⟩ := ih (p + 1) f x y g1 (by omega) (by omega) h'
      refine ⟨v, g2, by simp -dsimp -implicitDefEqProofs (disch := omega) only [X5_best_L18, X1_casksFor, b7, r1, bc_I, eb, e, r2, i32_lit, i32_add, i32_mul, i32_tn, i32_sub, le_t, le_f, lt_t, lt_f, eq_t, eq_f, eq_rfl, inR_t, ↓ob_x, obx_s, ↓bnd_s, ↓oT_x, oTx_s, ↓ite_x, itx_T, itx_F, ↓reduceIte, not_true_eq_false, not_false_eq_true, true_and, and_true, Nat.reduceAdd, Nat.reduceMul, Nat.reduceSub, Nat.reduceEqDiff, isB0, isB1, Int32.neg_neg, Nat.zero_add, Nat.add_zero, Nat.mul_zero, Nat.mul_one, Nat.zero_mul], q1, fun q a b => ?_, SI_tr f1 f2⟩
      by_cases z : q = p
      · subst z; rw [Int32.le_iff_toInt_le] at *; omega
      · exact q2 q (by omega) b
    · obtain ⟨v, g2, r2, q1, q2, f2⟩ := ih (p + 1) f (i32 p) (bcP sa s p) g1 (by omega) (by omega) h'
      refine ⟨v, g2, by simp -dsimp -implicitDefEqProofs (disch := omega) only [X5_best_L18, X1_casksFor, b7, r1, bc_I, eb, e, r2, i32_lit, i32_add, i32_mul, i32_tn, i32_sub, le_t, le_f, lt_t, lt_f, eq_t, eq_f, eq_rfl, inR_t, ↓ob_x, obx_s, ↓bnd_s, ↓oT_x, oTx_s, ↓ite_x, itx_T, itx_F, ↓reduceIte, not_true_eq_false, not_false_eq_true, true_and, and_true, Nat.reduceAdd, Nat.reduceMul, Nat.reduceSub, Nat.reduceEqDiff, isB0, isB1, Int32.neg_neg, Nat.zero_add, Nat.add_zero, Nat.mul_zero, Nat.mul_one, Nat.zero_mul], ?_, fun q a b => ?_, SI_tr f1 f2⟩
      · have q3 := le_lt (le_r y) e
        rw [Int32.le_iff_toInt_le] at *; omega
      · by_cases z : q = p
        · subst z; exact q1
        · exact q2 q (by omega) b
theorem be_e {sa : SA} {s : LST} {i : Nat} {g gM : Mem} (h : WLD sa s i g gM) {N : Nat} (hN : 6000 ≤ N) : ∃ v g', X5_best N (i32 1) g = some (v, g') ∧ (∀ q, q < mnN sa → bcP sa s q ≤ v) ∧ SI g g' := by
  have hd := mn_le sa
  obtain ⟨v, g', r, _, q, f⟩ := be_l hN (mnN sa) 0 N (-(i32 1)) (i32 0) g (by omega) (by omega) h
  exact ⟨v, g', by simp -dsimp -implicitDefEqProofs (disch := omega) only [X5_best, isW_t, r, i32_lit, i32_add, i32_mul, i32_tn, i32_sub, le_t, le_f, lt_t, lt_f, eq_t, eq_f, eq_rfl, inR_t, ↓ob_x, obx_s, ↓bnd_s, ↓oT_x, oTx_s, ↓ite_x, itx_T, itx_F, ↓reduceIte, not_true_eq_false, not_false_eq_true, true_and, and_true, Nat.reduceAdd, Nat.reduceMul, Nat.reduceSub, Nat.reduceEqDiff, isB0, isB1, Int32.neg_neg, Nat.zero_add, Nat.add_zero, Nat.mul_zero, Nat.mul_one, Nat.zero_mul], fun p hp => q p (by omega) hp, f⟩
