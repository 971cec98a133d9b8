/-! CARGO -/
theorem oN_i (n : Nat) : Int32.ofNat n = i32 n := rfl
def sumF (c : Nat → Nat) (m : Int32) : Nat → Nat → Nat → Nat
  | _, 0, y => y
  | j, n + 1, y => sumF c m (j + 1) n (if shv m (i32 j) &&& i32 1 = i32 0 then y else y + c j)
theorem sumF_le {c : Nat → Nat} {m : Int32} (hc : ∀ k, c k ≤ 99) : ∀ (n j y : Nat), sumF c m j n y ≤ y + 99 * n
  | 0, j, y => by rw [sumF]; omega
  | n + 1, j, y => by
    rw [sumF]
    have h := hc j
    have e := sumF_le (m := m) hc n (j + 1) (if shv m (i32 j) &&& i32 1 = i32 0 then y else y + c j)
    by_cases q : shv m (i32 j) &&& i32 1 = i32 0
    · rw [if_pos q] at e ⊢; omega
    · rw [if_neg q] at e ⊢; omega
theorem szb0 {k : Nat} (hk : k < 12) : shv (i32 0) (i32 k) &&& i32 1 = i32 0 := by
  rw [sbit _ k hk]
  have z : (i32 0).toBitVec.getLsbD k = false := by
    show (0#32).getLsbD k = false
    simp
  rw [z]; rfl
theorem sumF_0 (c : Nat → Nat) : ∀ (n j y : Nat), j + n = 12 → sumF c (i32 0) j n y = y
  | 0, j, y, _ => rfl
  | n + 1, j, y, h => by
    rw [sumF, if_pos (szb0 (by omega))]
    exact sumF_0 c n (j + 1) y (by omega)
set_option maxRecDepth 100000 in
theorem su_45 {g : Mem} {c : Nat → Nat} (hg : ∀ k, k < 12 → g.1 45 k = i32 (c k)) (hc : ∀ k, c k ≤ 99) (N : Nat) (m : Int32) : ∀ (n j fu y : Nat), j + n = 12 → n < fu → y + 99 * n < 100000 → X1_sum_L4 N 45 m fu (i32 y) (i32 j) g = some (i32 (sumF c m j n y), g) := by
  intro n
  induction n with
  | zero =>
    intro j fu y h1 h2 h3
    obtain ⟨f, rfl⟩ : ∃ q, fu = q + 1 := ⟨fu - 1, by omega⟩
    simp -dsimp -implicitDefEqProofs (disch := omega) only [X1_sum_L4, sumF, kd45, ln45, oN_i, i32_lit, i32_add, i32_mul, i32_tn, i32_sub, le_t, le_f, lt_t, lt_f, eq_t, eq_f, eq_rfl, inR_t, ↓ob_x, obx_s, ↓bnd_s, ↓oT_x, oTx_s, ↓ite_x, itx_T, itx_F, ↓reduceIte, not_true_eq_false, not_false_eq_true, true_and, and_true, Nat.reduceAdd, Nat.reduceMul, Nat.reduceSub, Nat.reduceEqDiff, isB0, isB1, Int32.neg_neg, Nat.zero_add, Nat.add_zero, Nat.mul_zero, Nat.mul_one, Nat.zero_mul]
  | succ n ih =>
    intro j fu y h1 h2 h3
    obtain ⟨f, rfl⟩ : ∃ q, fu = q + 1 := ⟨fu - 1, by omega⟩
    have e := hg j (by omega)
    have e2 := hc j
    by_cases q : shv m (i32 j) &&& i32 1 = i32 0
    · have r := ih (j + 1) f y (by omega) (by omega) (by omega)
      simp -dsimp -implicitDefEqProofs (disch := omega) only [X1_sum_L4, sumF, kd45, ln45, oN_i, ↓shv_e, e, q, r, i32_lit, i32_add, i32_mul, i32_tn, i32_sub, le_t, le_f, lt_t, lt_f, eq_t, eq_f, eq_rfl, inR_t, ↓ob_x, obx_s, ↓bnd_s, ↓oT_x, oTx_s, ↓ite_x, itx_T, itx_F, ↓reduceIte, not_true_eq_false, not_false_eq_true, true_and, and_true, Nat.reduceAdd, Nat.reduceMul, Nat.reduceSub, Nat.reduceEqDiff, isB0, isB1, Int32.neg_neg, Nat.zero_add, Nat.add_zero, Nat.mul_zero, Nat.mul_one, Nat.zero_mul]
    · have r := ih (j + 1) f (y + c j) (by omega) (by omega) (by omega)
      simp -dsimp -implicitDefEqProofs (disch := omega) only [X1_sum_L4, sumF, kd45, ln45, oN_i, ↓shv_e, e, q, r, i32_lit, i32_add, i32_mul, i32_tn, i32_sub, le_t, le_f, lt_t, lt_f, eq_t, eq_f, eq_rfl, inR_t, ↓ob_x, obx_s, ↓bnd_s, ↓oT_x, oTx_s, ↓ite_x, itx_T, itx_F, ↓reduceIte, not_true_eq_false, not_false_eq_true, true_and, and_true, Nat.reduceAdd, Nat.reduceMul, Nat.reduceSub, Nat.reduceEqDiff, isB0, isB1, Int32.neg_neg, Nat.zero_add, Nat.add_zero, Nat.mul_zero, Nat.mul_one, Nat.zero_mul]
set_option maxRecDepth 100000 in
theorem su_46 {g : Mem} {c : Nat → Nat} (hg : ∀ k, k < 12 → g.1 46 k = i32 (c k)) (hc : ∀ k, c k ≤ 99) (N : Nat) (m : Int32) : ∀ (n j fu y : Nat), j + n = 12 → n < fu → y + 99 * n < 100000 → X1_sum_L4 N 46 m fu (i32 y) (i32 j) g = some (i32 (sumF c m j n y), g) := by
  intro n
  induction n with
  | zero =>
    intro j fu y h1 h2 h3
    obtain ⟨f, rfl⟩ : ∃ q, fu = q + 1 := ⟨fu - 1, by omega⟩
    simp -dsimp -implicitDefEqProofs (disch := omega) only [X1_sum_L4, sumF, kd46, ln46, oN_i, i32_lit, i32_add, i32_mul, i32_tn, i32_sub, le_t, le_f, lt_t, lt_f, eq_t, eq_f, eq_rfl, inR_t, ↓ob_x, obx_s, ↓bnd_s, ↓oT_x, oTx_s, ↓ite_x, itx_T, itx_F, ↓reduceIte, not_true_eq_false, not_false_eq_true, true_and, and_true, Nat.reduceAdd, Nat.reduceMul, Nat.reduceSub, Nat.reduceEqDiff, isB0, isB1, Int32.neg_neg, Nat.zero_add, Nat.add_zero, Nat.mul_zero, Nat.mul_one, Nat.zero_mul]
  | succ n ih =>
    intro j fu y h1 h2 h3
    obtain ⟨f, rfl⟩ : ∃ q, fu = q + 1 := ⟨fu - 1, by omega⟩
    have e := hg j (by omega)
    have e2 := hc j
    by_cases q : shv m (i32 j) &&& i32 1 = i32 0
    · have r := ih (j + 1) f y (by omega) (by omega) (by omega)
      simp -dsimp -implicitDefEqProofs (disch := omega) only [X1_sum_L4, sumF, kd46, ln46, oN_i, ↓shv_e, e, q, r, i32_lit, i32_add, i32_mul, i32_tn, i32_sub, le_t, le_f, lt_t, lt_f, eq_t, eq_f, eq_rfl, inR_t, ↓ob_x, obx_s, ↓bnd_s, ↓oT_x, oTx_s, ↓ite_x, itx_T, itx_F, ↓reduceIte, not_true_eq_false, not_false_eq_true, true_and, and_true, Nat.reduceAdd, Nat.reduceMul, Nat.reduceSub, Nat.reduceEqDiff, isB0, isB1, Int32.neg_neg, Nat.zero_add, Nat.add_zero, Nat.mul_zero, Nat.mul_one, Nat.zero_mul]
    · have r := ih (j + 1) f (y + c j) (by omega) (by omega) (by omega)
      simp -dsimp -implicitDefEqProofs (disch := omega) only [X1_sum_L4, sumF, kd46, ln46, oN_i, ↓shv_e, e, q, r, i32_lit, i32_add, i32_mul, i32_tn, i32_sub, le_t, le_f, lt_t, lt_f, eq_t, eq_f, eq_rfl, inR_t, ↓ob_x, obx_s, ↓bnd_s, ↓oT_x, oTx_s, ↓ite_x, itx_T, itx_F, ↓reduceIte, not_true_eq_false, not_false_eq_true, true_and, and_true, Nat.reduceAdd, Nat.reduceMul, Nat.reduceSub, Nat.reduceEqDiff, isB0, isB1, Int32.neg_neg, Nat.zero_add, Nat.add_zero, Nat.mul_zero, Nat.mul_one, Nat.zero_mul]
def okm (s : LST) (x3 : Int32) (room m : Nat) : Prop := i32 m &&& x3 = i32 0 ∧ sumF (s 6) (i32 m) 0 12 0 ≤ room
def CIV (s : LST) (x3 : Int32) (room j B V : Nat) : Prop := B < 4096 ∧ V = sumF (s 5) (i32 B) 0 12 0 ∧ (B = 0 ∨ okm s x3 room B) ∧ ∀ m, 1 ≤ m → m < j → okm s x3 room m → sumF (s 5) (i32 m) 0 12 0 ≤ V
set_option maxRecDepth 100000 in
theorem cg_l {sa : SA} {s : LST} {i : Nat} {g gM : Mem} (h : WLD sa s i g gM) {N : Nat} (hN : 6000 ≤ N) (x3 : Int32) {room : Nat} (hr : room < 1000) : ∀ (n j B V : Nat), j + n = 4096 → 1 ≤ j → CIV s x3 room j B V →
    ∃ B' V', CIV s x3 room 4096 B' V' ∧ ∀ w fu, w < 2 → n < fu → X5_cargo_L41 N (i32 room) (i32 w) fu x3 (i32 B) (i32 V) (i32 j) g = some (i32 (if w = 0 then B' else V'), g) := by
  have b := h.2.2.2.2.2.1
  have h45 : ∀ k, k < 12 → g.1 45 k = i32 (s 5 k) := fun k hk => ((h.1.2.2.2.1 k hk).trans (lm_st h.2.2.2.1 k hk))
  have h46 : ∀ k, k < 12 → g.1 46 k = i32 (s 6 k) := fun k hk => ((h.1.2.2.2.2.1 k hk).trans (lm_dp h.2.2.2.1 k hk))
  intro n
  induction n with
  | zero =>
    intro j B V h1 h2 hI
    have : j = 4096 := by omega
    subst this
    refine ⟨B, V, hI, fun w fu hw hf => ?_⟩
    obtain ⟨f, rfl⟩ : ∃ q, fu = q + 1 := ⟨fu - 1, by omega⟩
    rcases (by omega : w = 0 ∨ w = 1) with rfl | rfl
    · simp -dsimp -implicitDefEqProofs (disch := omega) only [X5_cargo_L41, i32_lit, i32_add, i32_mul, i32_tn, i32_sub, le_t, le_f, lt_t, lt_f, eq_t, eq_f, eq_rfl, inR_t, ↓ob_x, obx_s, ↓bnd_s, ↓oT_x, oTx_s, ↓ite_x, itx_T, itx_F, ↓reduceIte, not_true_eq_false, not_false_eq_true, true_and, and_true, Nat.reduceAdd, Nat.reduceMul, Nat.reduceSub, Nat.reduceEqDiff, isB0, isB1, Int32.neg_neg, Nat.zero_add, Nat.add_zero, Nat.mul_zero, Nat.mul_one, Nat.zero_mul]
    · simp -dsimp -implicitDefEqProofs (disch := omega) only [X5_cargo_L41, i32_lit, i32_add, i32_mul, i32_tn, i32_sub, le_t, le_f, lt_t, lt_f, eq_t, eq_f, eq_rfl, inR_t, ↓ob_x, obx_s, ↓bnd_s, ↓oT_x, oTx_s, ↓ite_x, itx_T, itx_F, ↓reduceIte, not_true_eq_false, not_false_eq_true, true_and, and_true, Nat.reduceAdd, Nat.reduceMul, Nat.reduceSub, Nat.reduceEqDiff, isB0, isB1, Int32.neg_neg, Nat.zero_add, Nat.add_zero, Nat.mul_zero, Nat.mul_one, Nat.zero_mul]
  | succ n ih =>
    intro j B V h1 h2 hI
    have s5 := sumF_le (m := i32 j) (lb_st b) 12 0 0
    have s6 := sumF_le (m := i32 j) (lb_dp b) 12 0 0
    have v5 := sumF_le (m := i32 B) (lb_st b) 12 0 0
    have vV := hI.2.1
    have r6 : X1_sum N 46 (i32 j) g = some (i32 (sumF (s 6) (i32 j) 0 12 0), g) := su_46 h46 (lb_dp b) N (i32 j) 12 0 N 0 (by omega) (by omega) (by omega)
    have r5 : X1_sum N 45 (i32 j) g = some (i32 (sumF (s 5) (i32 j) 0 12 0), g) := su_45 h45 (lb_st b) N (i32 j) 12 0 N 0 (by omega) (by omega) (by omega)
    by_cases c1 : i32 j &&& x3 = i32 0
    · by_cases c2 : room < sumF (s 6) (i32 j) 0 12 0
      · obtain ⟨B', V', hI', e⟩ := ih (j + 1) B V (by omega) (by omega) ⟨hI.1, hI.2.1, hI.2.2.1, fun m q1 q2 ok => by
          by_cases z : m = j
          · subst z; have := ok.2; omega
          · exact hI.2.2.2 m q1 (by omega) ok⟩
        refine ⟨B', V', hI', fun w fu hw hf => ?_⟩
        obtain ⟨f, rfl⟩ : ∃ q, fu = q + 1 := ⟨fu - 1, by omega⟩
        have e' := e w f hw (by omega)
        simp -dsimp -implicitDefEqProofs (disch := omega) only [X5_cargo_L41, c1, r6, e', i32_lit, i32_add, i32_mul, i32_tn, i32_sub, le_t, le_f, lt_t, lt_f, eq_t, eq_f, eq_rfl, inR_t, ↓ob_x, obx_s, ↓bnd_s, ↓oT_x, oTx_s, ↓ite_x, itx_T, itx_F, ↓reduceIte, not_true_eq_false, not_false_eq_true, true_and, and_true, Nat.reduceAdd, Nat.reduceMul, Nat.reduceSub, Nat.reduceEqDiff, isB0, isB1, Int32.neg_neg, Nat.zero_add, Nat.add_zero, Nat.mul_zero, Nat.mul_one, Nat.zero_mul]
      · by_cases c3 : sumF (s 5) (i32 j) 0 12 0 ≤ V
        · obtain ⟨B', V', hI', e⟩ := ih (j + 1) B V (by omega) (by omega) ⟨hI.1, hI.2.1, hI.2.2.1, fun m q1 q2 ok => by
            by_cases z : m = j
            · subst z; exact c3
            · exact hI.2.2.2 m q1 (by omega) ok⟩
          refine ⟨B', V', hI', fun w fu hw hf => ?_⟩
          obtain ⟨f, rfl⟩ : ∃ q, fu = q + 1 := ⟨fu - 1, by omega⟩
          have e' := e w f hw (by omega)
          simp -dsimp -implicitDefEqProofs (disch := omega) only [X5_cargo_L41, c1, r6, r5, e', i32_lit, i32_add, i32_mul, i32_tn, i32_sub, le_t, le_f, lt_t, lt_f, eq_t, eq_f, eq_rfl, inR_t, ↓ob_x, obx_s, ↓bnd_s, ↓oT_x, oTx_s, ↓ite_x, itx_T, itx_F, ↓reduceIte, not_true_eq_false, not_false_eq_true, true_and, and_true, Nat.reduceAdd, Nat.reduceMul, Nat.reduceSub, Nat.reduceEqDiff, isB0, isB1, Int32.neg_neg, Nat.zero_add, Nat.add_zero, Nat.mul_zero, Nat.mul_one, Nat.zero_mul]
        · obtain ⟨B', V', hI', e⟩ := ih (j + 1) j (sumF (s 5) (i32 j) 0 12 0) (by omega) (by omega) ⟨by omega, rfl, Or.inr ⟨c1, by omega⟩, fun m q1 q2 ok => by
            by_cases z : m = j
            · subst z; exact Nat.le_refl _
            · have := hI.2.2.2 m q1 (by omega) ok; omega⟩
          refine ⟨B', V', hI', fun w fu hw hf => ?_⟩
          obtain ⟨f, rfl⟩ : ∃ q, fu = q + 1 := ⟨fu - 1, by omega⟩
          have e' := e w f hw (by omega)
          simp -dsimp -implicitDefEqProofs (disch := omega) only [X5_cargo_L41, c1, r6, r5, e', i32_lit, i32_add, i32_mul, i32_tn, i32_sub, le_t, le_f, lt_t, lt_f, eq_t, eq_f, eq_rfl, inR_t, ↓ob_x, obx_s, ↓bnd_s, ↓oT_x, oTx_s, ↓ite_x, itx_T, itx_F, ↓reduceIte, not_true_eq_false, not_false_eq_true, true_and, and_true, Nat.reduceAdd, Nat.reduceMul, Nat.reduceSub, Nat.reduceEqDiff, isB0, isB1, Int32.neg_neg, Nat.zero_add, Nat.add_zero, Nat.mul_zero, Nat.mul_one, Nat.zero_mul]
    · obtain ⟨B', V', hI', e⟩ := ih (j + 1) B V (by omega) (by omega) ⟨hI.1, hI.2.1, hI.2.2.1, fun m q1 q2 ok => by
        by_cases z : m = j
        · subst z; exact absurd ok.1 c1
        · exact hI.2.2.2 m q1 (by omega) ok⟩
      refine ⟨B', V', hI', fun w fu hw hf => ?_⟩
      obtain ⟨f, rfl⟩ : ∃ q, fu = q + 1 := ⟨fu - 1, by omega⟩
      have e' := e w f hw (by omega)
      simp -dsimp -implicitDefEqProofs (disch := omega) only [X5_cargo_L41, c1, e', i32_lit, i32_add, i32_mul, i32_tn, i32_sub, le_t, le_f, lt_t, lt_f, eq_t, eq_f, eq_rfl, inR_t, ↓ob_x, obx_s, ↓bnd_s, ↓oT_x, oTx_s, ↓ite_x, itx_T, itx_F, ↓reduceIte, not_true_eq_false, not_false_eq_true, true_and, and_true, Nat.reduceAdd, Nat.reduceMul, Nat.reduceSub, Nat.reduceEqDiff, isB0, isB1, Int32.neg_neg, Nat.zero_add, Nat.add_zero, Nat.mul_zero, Nat.mul_one, Nat.zero_mul]
def xQ (s : LST) : Int32 := bitF (plN7 s 1) 0 12 (i32 0) ^^^ -(i32 1)
theorem cg_e {sa : SA} {s : LST} {i : Nat} {g gM : Mem} (h : WLD sa s i g gM) {N : Nat} (hN : 6000 ≤ N) {room : Nat} (hr : room < 1000) :
    ∃ B V, CIV s (xQ s) room 4096 B V ∧ ∀ w, w < 2 → X5_cargo N (i32 room) (i32 w) g = some (i32 (if w = 0 then B else V), g) := by
  obtain ⟨B, V, hI, e⟩ := cg_l h hN (xQ s) hr 4095 1 0 0 (by omega) (by omega) ⟨by omega, (sumF_0 _ 12 0 0 (by omega)).symm, Or.inl rfl, fun m a b => by omega⟩
  refine ⟨B, V, hI, fun w hw => ?_⟩
  have b5 : ∀ k, k < 12 → g.1 47 k = gM.1 4 (4 * k + 3) := h.1.2.2.2.2.2.1
  have e1 := at_I (N := N) (b := 42) (i32 1) b5 12 0 N (i32 0) (by omega) (by omega)
  have e2 : ∀ k, k < 12 → plV gM (i32 1) k = plN7 s 1 k := by
    intro k hk
    have n := lb_pl h.2.2.2.2.2.1 k
    unfold plV plN7
    rw [lm_pl h.2.2.2.1 k hk]
    by_cases e : s 7 k = 1
    · rw [if_pos e, if_pos (by rw [e])]
    · rw [if_neg e, if_neg (fun q => e ((i32_inj (by omega) (by omega)).mp q))]
  rw [bitF_congr e2 12 0 _ (by omega)] at e1
  have eq : bitF (plN7 s 1) 0 12 (i32 0) ^^^ -(i32 1) = xQ s := rfl
  have e' := e w N hw (by omega)
  simp -dsimp -implicitDefEqProofs (disch := omega) only [X5_cargo, X1_casksAt, isW_t, e1, eq, e', i32_lit, i32_add, i32_mul, i32_tn, i32_sub, le_t, le_f, lt_t, lt_f, eq_t, eq_f, eq_rfl, inR_t, ↓ob_x, obx_s, ↓bnd_s, ↓oT_x, oTx_s, ↓ite_x, itx_T, itx_F, ↓reduceIte, not_true_eq_false, not_false_eq_true, true_and, and_true, Nat.reduceAdd, Nat.reduceMul, Nat.reduceSub, Nat.reduceEqDiff, isB0, isB1, Int32.neg_neg, Nat.zero_add, Nat.add_zero, Nat.mul_zero, Nat.mul_one, Nat.zero_mul]
theorem okm_q {s : LST} {room m : Nat} (h : okm s (xQ s) room m) {k : Nat} (hk : k < 12) (c : ¬ shv (i32 m) (i32 k) &&& i32 1 = i32 0) : s 7 k = 1 := by
  rw [sbit _ k hk] at c
  have hm : (i32 m).toBitVec.getLsbD k = true := by
    by_cases q : (i32 m).toBitVec.getLsbD k = true
    · exact q
    · rw [if_neg q] at c; exact absurd rfl c
  have e := congrArg (fun x : Int32 => x.toBitVec.getLsbD k) h.1
  have z : (i32 0).toBitVec.getLsbD k = false := by
    show (0#32).getLsbD k = false
    simp
  have z1 : (-(i32 1)).toBitVec.getLsbD k = true := by
    have : (-(i32 1)).toBitVec = BitVec.allOnes 32 := by decide
    rw [this, BitVec.getLsbD_allOnes, decide_eq_true (by omega)]
  simp only [Int32.toBitVec_and, BitVec.getLsbD_and, hm, z, Bool.true_and] at e
  unfold xQ at e
  rw [Int32.toBitVec_xor, BitVec.getLsbD_xor, z1, bitF_g _ hk 12 0 _ (by omega), z, Bool.false_or, decide_eq_true (Nat.zero_le k), Bool.true_and, Bool.xor_true] at e
  have e2 : ¬ plN7 s 1 k = 0 := by
    by_cases q : plN7 s 1 k = 0
    · rw [decide_eq_false (fun w => w q)] at e; simp at e
    · exact q
  unfold plN7 at e2
  by_cases q : s 7 k = 1
  · exact q
  · rw [if_neg q] at e2; exact absurd rfl e2
