/-! the class's small steps; what is claimed of a part of the parser -/
def sb (x : Nat) : Nat := if x = 13 then 265 else if x = 19 then 259 else if x = 11 then 264 else if x = 12 then 263 else if x = 14 then 60 else if x = 15 then 61 else if x = 16 then 43 else if x = 17 then 45 else 42
def cs (x : Nat) : Int32 := if 100000 ≤ x then i32 (x - 100000) else if x < 6 then -(i32 (266 + x)) else -(i32 (sb x))
def kI (b s : Nat) (g : Mem) : List Nat → Prop
  | [] => True
  | x :: K => g.1 (b + 1) (s + K.length) = cs x ∧ kI b s g K
def FCl (c s : Nat) (g g' : Mem) : Prop := (∀ e, ¬ e = 0 → ¬ e = 4 + 5 * c → ¬ e = 4 + 5 * c + 1 → g'.1 e = g.1 e) ∧ (∀ j, ¬ (2 ≤ j ∧ j ≤ 5) → g'.1 0 j = g.1 0 j) ∧ (∀ j, ¬ j = 2 → g'.1 (4 + 5 * c) j = g.1 (4 + 5 * c) j) ∧ (∀ j, j < s → g'.1 (4 + 5 * c + 1) j = g.1 (4 + 5 * c + 1) j) ∧ g'.2 = g.2
theorem FCl_rfl (c s : Nat) (g : Mem) : FCl c s g g := ⟨fun _ _ _ _ => rfl, fun _ _ => rfl, fun _ _ => rfl, fun _ _ => rfl, rfl⟩
theorem FCl_tr {c s : Nat} {a b d : Mem} (h : FCl c s a b) (k : FCl c s b d) : FCl c s a d := ⟨fun e x y w => (k.1 e x y w).trans (h.1 e x y w), fun j x => (k.2.1 j x).trans (h.2.1 j x), fun j x => (k.2.2.1 j x).trans (h.2.2.1 j x), fun j x => (k.2.2.2.1 j x).trans (h.2.2.2.1 j x), k.2.2.2.2.trans h.2.2.2.2⟩
theorem FCl_FR {c s : Nat} {a b : Mem} (h : FR a b) : FCl c s a b := ⟨fun e h0 _ _ => h.1 e h0, fun j hj => h.2.1 j (by omega) (by omega) (by omega) (by omega), fun j _ => by rw [h.1 _ (by omega)], fun j _ => by rw [h.1 _ (by omega)], h.2.2⟩
theorem kI_c {b s : Nat} {g g' : Mem} : ∀ (K : List Nat), (∀ j, j < s + K.length → g'.1 (b + 1) j = g.1 (b + 1) j) → kI b s g K → kI b s g' K
  | [], _, _ => trivial
  | x :: K, h, q => ⟨by rw [h _ (by simp)]; exact q.1, kI_c K (fun j hj => h j (by simp; omega)) q.2⟩
def CSt (B : Nat → Nat) (z c s : Nat) (g0 g : Mem) (p : Nat) (K : List Nat) : Prop := c < 6 ∧ TI B z g ∧ CT B z p g ∧ p ≤ z ∧ g.2 0 = some (4 + 5 * c) ∧ g.1 (4 + 5 * c) 2 = i32 (s + K.length) ∧ kI (4 + 5 * c) s g K ∧ FCl c s g0 g
/-- the class has failed at q -/
def FlI (c s : Nat) (g0 g : Mem) (q : Nat) : Prop := (c < 6 ∧ q ≤ 160) ∧ FCl c s g0 g ∧ g.1 0 3 = i32 q ∧ g.2 0 = some (4 + 5 * c) ∧ ∃ m, s ≤ m ∧ m ≤ 160 ∧ g.1 (4 + 5 * c) 2 = i32 m
theorem cFl {B : Nat → Nat} {z c s p : Nat} {g0 g : Mem} {K : List Nat} (h : CSt B z c s g0 g p K) (hb : s + K.length ≤ 160) : FlI c s g0 g (plF B z p) := by
  obtain ⟨h1, h2, h3, h4, h5, h6, h7, h8⟩ := h
  have l0 := plF_le (B := B) h4
  have hz := h2.1
  exact ⟨⟨h1, by omega⟩, h8, h3.2.1, h5, s + K.length, by omega, hb, h6⟩
theorem fl_add {N c s q : Nat} {g0 g : Mem} (h : FlI c s g0 g q) (v : Int32) : ∃ g', X4_add N (4 + 5 * c) v g = some (i32 0, g') ∧ FlI c s g0 g' q := by
  obtain ⟨h1, h2, h3, h4, m, h5, h6, h7⟩ := h
  by_cases hm : m = 160
  · rw [hm] at h7
    exact ⟨g, by simp -dsimp -implicitDefEqProofs (disch := omega) only [X4_add, h7, i32_lit, i32_add, i32_mul, i32_tn, i32_sub, le_t, le_f, lt_t, lt_f, eq_t, eq_f, eq_rfl, inR_t, ↓ob_x, obx_s, ↓bnd_s, ↓oT_x, oTx_s, ↓ite_x, itx_T, itx_F, ↓reduceIte, not_true_eq_false, not_false_eq_true, true_and, and_true, Nat.reduceAdd, Nat.reduceMul, Nat.reduceSub, Nat.reduceEqDiff, isB0, isB1, Int32.neg_neg, Nat.zero_add, Nat.add_zero, Nat.mul_zero, Nat.mul_one, Nat.zero_mul], h1, h2, h3, h4, 160, by omega, by omega, h7⟩
  · refine ⟨stI (stI g (4 + 5 * c + 1) m v) (4 + 5 * c) 2 (i32 (m + 1)), by simp -dsimp -implicitDefEqProofs (disch := omega) only [X4_add, h7, i32_lit, i32_add, i32_mul, i32_tn, i32_sub, le_t, le_f, lt_t, lt_f, eq_t, eq_f, eq_rfl, inR_t, ↓ob_x, obx_s, ↓bnd_s, ↓oT_x, oTx_s, ↓ite_x, itx_T, itx_F, ↓reduceIte, not_true_eq_false, not_false_eq_true, true_and, and_true, Nat.reduceAdd, Nat.reduceMul, Nat.reduceSub, Nat.reduceEqDiff, isB0, isB1, Int32.neg_neg, Nat.zero_add, Nat.add_zero, Nat.mul_zero, Nat.mul_one, Nat.zero_mul, stI_eq, stI_nj, stI_ne, stI_2, stA_eq, stA_ne, stA_2, stR_1, stR_2], h1, FCl_tr h2 ⟨fun e a b d => by rw [stI_ne _ _ _ _ _ b, stI_ne _ _ _ _ _ d], fun j _ => by rw [stI_ne _ _ _ _ _ (by omega), stI_ne _ _ _ _ _ (by omega)], fun j hj => by rw [stI_nj _ _ _ _ _ hj, stI_ne _ _ _ _ _ (by omega)], fun j hj => by rw [stI_ne _ _ _ _ _ (by omega), stI_nj _ _ _ _ _ (by omega)], rfl⟩, by rw [stI_ne _ _ _ _ _ (by omega), stI_ne _ _ _ _ _ (by omega)]; exact h3, h4, m + 1, by omega, by omega, stI_eq _ _ _ _⟩
theorem cAdd {N z c s p x : Nat} {B : Nat → Nat} {g0 g : Mem} {K : List Nat} (h : CSt B z c s g0 g p K) (hb : s + K.length < 160) : ∃ g', X4_add N (4 + 5 * c) (cs x) g = some (i32 0, g') ∧ CSt B z c s g0 g' p (x :: K) := by
  obtain ⟨h1, h2, h3, h4, h5, h6, h7, h8⟩ := h
  refine ⟨stI (stI g (4 + 5 * c + 1) (s + K.length) (cs x)) (4 + 5 * c) 2 (i32 (s + K.length + 1)), by simp -dsimp -implicitDefEqProofs (disch := omega) only [X4_add, h6, i32_lit, i32_add, i32_mul, i32_tn, i32_sub, le_t, le_f, lt_t, lt_f, eq_t, eq_f, eq_rfl, inR_t, ↓ob_x, obx_s, ↓bnd_s, ↓oT_x, oTx_s, ↓ite_x, itx_T, itx_F, ↓reduceIte, not_true_eq_false, not_false_eq_true, true_and, and_true, Nat.reduceAdd, Nat.reduceMul, Nat.reduceSub, Nat.reduceEqDiff, isB0, isB1, Int32.neg_neg, Nat.zero_add, Nat.add_zero, Nat.mul_zero, Nat.mul_one, Nat.zero_mul, stI_eq, stI_nj, stI_ne, stI_2, stA_eq, stA_ne, stA_2, stR_1, stR_2], h1, ⟨h2.1, ?_, ?_⟩, ?_, h4, h5, ?_, ⟨?_, kI_c K (fun j hj => by rw [stI_ne _ _ _ _ _ (by omega), stI_nj _ _ _ _ _ (by omega)]) h7⟩, FCl_tr h8 ⟨fun e a b d => by rw [stI_ne _ _ _ _ _ b, stI_ne _ _ _ _ _ d], fun j _ => by rw [stI_ne _ _ _ _ _ (by omega), stI_ne _ _ _ _ _ (by omega)], fun j hj => by rw [stI_nj _ _ _ _ _ hj, stI_ne _ _ _ _ _ (by omega)], fun j hj => by rw [stI_ne _ _ _ _ _ (by omega), stI_nj _ _ _ _ _ (by omega)], rfl⟩⟩
  · rw [stI_ne _ _ _ _ _ (by omega), stI_ne _ _ _ _ _ (by omega)]; exact h2.2.1
  · rw [stI_ne _ _ _ _ _ (by omega), stI_ne _ _ _ _ _ (by omega)]; exact h2.2.2
  · unfold CT
    rw [stI_ne _ _ _ _ _ (by omega), stI_ne _ _ _ _ _ (by omega)]; exact h3
  · rw [stI_eq]; rfl
  · rw [stI_ne _ _ _ _ _ (by omega), stI_eq]
theorem cNext {N z c s p : Nat} (hN : 6000 ≤ N) {B : Nat → Nat} {g0 g : Mem} {K : List Nat} (h : CSt B z c s g0 g p K) : ∃ g', X3_next N g = some (i32 0, g') ∧ CSt B z c s g0 g' (lxN B z (plF B z p)) K := by
  obtain ⟨h1, h2, h3, h4, h5, h6, h7, h8⟩ := h
  have l0 := plF_le (B := B) h4
  have l2 := lxN_le (B := B) l0.2
  obtain ⟨g', r1, r2, r3⟩ := next_I2 hN h2 l2.1 h3.1
  exact ⟨g', r1, h1, TI_FR h2 r2, r3, l2.1, by rw [r2.2.2]; exact h5, by rw [r2.1 _ (by omega)]; exact h6, kI_c K (fun j _ => by rw [r2.1 _ (by omega)]) h7, FCl_tr h8 (FCl_FR r2)⟩
def opk (x m n : Nat) : Prop := (n = m + 1 ∧ m < 40 ∧ ((100000 ≤ x ∧ x ≤ 109999) ∨ x < 6)) ∨ (n = m ∧ 1 ≤ m ∧ m ≤ 40 ∧ (x = 13 ∨ x = 19)) ∨ (n + 1 = m ∧ 2 ≤ m ∧ m ≤ 40 ∧ (x = 11 ∨ x = 12 ∨ x = 14 ∨ x = 15 ∨ x = 16 ∨ x = 17 ∨ x = 18))
def DP : List Nat → Nat → Prop
  | [], n => n = 0
  | x :: K, n => ∃ m, DP K m ∧ opk x m n
/-- a part of the parser, beside the reference's loop -/
def Clm (N : Nat) (B : Nat → Nat) (z c s : Nat) (g0 h0 : Mem) (F : Mem → Option (Int32 × Mem)) (o rc rp dm fl : Nat) (Q : Nat → List Nat → Prop) : Prop :=
  ∀ (gI gM : Mem) (p : Nat) (H K : List Nat) (n fu m : Nat), CSt B z c s g0 gI p K → MSt B z c s h0 gM p H K → cnt H = o → tpl rc H → DP K n → n ≤ dm → z + 1 < fu + p → m ≤ 1 → (fl = 1 → m = 1) → (fl = 0 → lxS B z (plF B z p) = 265 → m = 0) →
  (∃ gI' gM' q, F gI = some (i32 0, gI') ∧ FlI c s g0 gI' q ∧ X6_eRead_L14 N fu (i32 1) (i32 m) gM = some (i32 0, gM') ∧ FlM c s h0 gM' q) ∨
  (∃ gI' gM' p' K' P fu' m', F gI = some (i32 1, gI') ∧ CSt B z c s g0 gI' p' (List.reverseAux P K') ∧ X6_eRead_L14 N fu (i32 1) (i32 m) gM = X6_eRead_L14 N fu' (i32 0) (i32 m') gM' ∧ MSt B z c s h0 gM' p' (P ++ H) K' ∧ (∀ x, x ∈ P → rp ≤ rk x) ∧ DP (List.reverseAux P K') (n + 1) ∧ z + 1 < fu' + p' ∧ p < p' ∧ m' ≤ 1 ∧ Q p' P)
def ClmO (N : Nat) (B : Nat → Nat) (z c s : Nat) (g0 h0 : Mem) (F : Mem → Option (Int32 × Mem)) (o dm : Nat) : Prop :=
  ∀ (gI gM : Mem) (p : Nat) (H K : List Nat) (n fu m : Nat), CSt B z c s g0 gI p K → MSt B z c s h0 gM p H K → cnt H = o → DP K n → n ≤ dm → z + 1 < fu + p → m ≤ 1 → (lxS B z (plF B z p) = 265 → m = 0) →
  (∃ gI' gM' q, F gI = some (i32 0, gI') ∧ FlI c s g0 gI' q ∧ X6_eRead_L14 N fu (i32 1) (i32 m) gM = some (i32 0, gM') ∧ FlM c s h0 gM' q) ∨
  (∃ gI' gM' p' K' fu' m', F gI = some (i32 1, gI') ∧ CSt B z c s g0 gI' p' K' ∧ X6_eRead_L14 N fu (i32 1) (i32 m) gM = X6_eRead_L14 N fu' (i32 0) (i32 m') gM' ∧ MSt B z c s h0 gM' p' (uw 7 H K').1 (uw 7 H K').2 ∧ DP K' (n + 1) ∧ z + 1 < fu' + p' ∧ p < p' ∧ m' ≤ 1)
theorem isNm_e {N t : Nat} (g : Mem) (h : t < 272) : X3_isName N (i32 t) g = some (i32 (if 266 ≤ t then 1 else 0), g) := by
  by_cases h2 : 266 ≤ t
  · rw [if_pos h2]; simp -dsimp -implicitDefEqProofs (disch := omega) only [X3_isName, i32_lit, i32_add, i32_mul, i32_tn, i32_sub, le_t, le_f, lt_t, lt_f, eq_t, eq_f, eq_rfl, inR_t, ↓ob_x, obx_s, ↓bnd_s, ↓oT_x, oTx_s, ↓ite_x, itx_T, itx_F, ↓reduceIte, not_true_eq_false, not_false_eq_true, true_and, and_true, Nat.reduceAdd, Nat.reduceMul, Nat.reduceSub, Nat.reduceEqDiff, isB0, isB1, Int32.neg_neg, Nat.zero_add, Nat.add_zero, Nat.mul_zero, Nat.mul_one, Nat.zero_mul]
  · rw [if_neg h2]; simp -dsimp -implicitDefEqProofs (disch := omega) only [X3_isName, i32_lit, i32_add, i32_mul, i32_tn, i32_sub, le_t, le_f, lt_t, lt_f, eq_t, eq_f, eq_rfl, inR_t, ↓ob_x, obx_s, ↓bnd_s, ↓oT_x, oTx_s, ↓ite_x, itx_T, itx_F, ↓reduceIte, not_true_eq_false, not_false_eq_true, true_and, and_true, Nat.reduceAdd, Nat.reduceMul, Nat.reduceSub, Nat.reduceEqDiff, isB0, isB1, Int32.neg_neg, Nat.zero_add, Nat.add_zero, Nat.mul_zero, Nat.mul_one, Nat.zero_mul]
theorem pass_t {N z c s p w : Nat} (hN : 6000 ≤ N) {B : Nat → Nat} {g0 g : Mem} {K : List Nat} (h : CSt B z c s g0 g p K) (hw : lxS B z (plF B z p) = w) : ∃ g', X3_passes N (i32 w) g = some (i32 1, g') ∧ CSt B z c s g0 g' (lxN B z (plF B z p)) K := by
  obtain ⟨g', r1, r2⟩ := cNext (N := N) hN h
  have e := h.2.2.1.2.2.1
  rw [hw] at e
  exact ⟨g', by simp -dsimp -implicitDefEqProofs (disch := omega) only [X3_passes, e, r1, i32_lit, i32_add, i32_mul, i32_tn, i32_sub, le_t, le_f, lt_t, lt_f, eq_t, eq_f, eq_rfl, inR_t, ↓ob_x, obx_s, ↓bnd_s, ↓oT_x, oTx_s, ↓ite_x, itx_T, itx_F, ↓reduceIte, not_true_eq_false, not_false_eq_true, true_and, and_true, Nat.reduceAdd, Nat.reduceMul, Nat.reduceSub, Nat.reduceEqDiff, isB0, isB1, Int32.neg_neg, Nat.zero_add, Nat.add_zero, Nat.mul_zero, Nat.mul_one, Nat.zero_mul], r2⟩
theorem pass_f {N z c s p w : Nat} {B : Nat → Nat} {g0 g : Mem} {K : List Nat} (h : CSt B z c s g0 g p K) (hw : ¬ lxS B z (plF B z p) = w ∧ w < 1000) : X3_passes N (i32 w) g = some (i32 0, g) := by
  have e := h.2.2.1.2.2.1
  have := lxS_in B z (plF B z p)
  simp -dsimp -implicitDefEqProofs (disch := omega) only [X3_passes, e, i32_lit, i32_add, i32_mul, i32_tn, i32_sub, le_t, le_f, lt_t, lt_f, eq_t, eq_f, eq_rfl, inR_t, ↓ob_x, obx_s, ↓bnd_s, ↓oT_x, oTx_s, ↓ite_x, itx_T, itx_F, ↓reduceIte, not_true_eq_false, not_false_eq_true, true_and, and_true, Nat.reduceAdd, Nat.reduceMul, Nat.reduceSub, Nat.reduceEqDiff, isB0, isB1, Int32.neg_neg, Nat.zero_add, Nat.add_zero, Nat.mul_zero, Nat.mul_one, Nat.zero_mul]
set_option maxRecDepth 100000 in
theorem one_c {N z c s o : Nat} (hN : 6000 ≤ N) (hz : z ≤ 160) {B : Nat → Nat} {g0 h0 : Mem} (G : Nat → Int32 → Mem → Option (Int32 × Mem)) (ho : o ≤ 5)
    (cO : o < 5 → Clm N B z c s g0 h0 (G 0 (i32 (o + 1))) (o + 1) 0 1 (5 * (o + 1)) 1 (fun p' P => nxt B z p' P ∧ ¬ lxS B z (plF B z p') = 263 ∧ ¬ lxS B z (plF B z p') = 264))
    (G' : Nat → Int32 → Mem → Option (Int32 × Mem)) (hG0 : o < 5 → ∀ a g, G 7 a g = X3_readsOneBehindMinus N G' a g)
    (c6 : o < 5 → ClmO N B z c s g0 h0 (G' 6 (i32 (o + 1))) (o + 1) (5 * (o + 1) + 5)) : ClmO N B z c s g0 h0 (X3_readsOne N G (i32 o)) o (5 * o + 5) := by
  intro gI gM p H K n fu m hC hM hH hD hn hf hm hmn
  have l0 := plF_le (B := B) hC.2.2.2.1
  have l3 := lxS_in B z (plF B z p)
  have hb := hM.2.2.2.2.2
  have sy := hC.2.2.1.2.2.1
  have tx := hC.2.2.2.2.1
  have hc6 := hC.1
  obtain ⟨fu, rfl⟩ : ∃ q, fu = q + 1 := ⟨fu - 1, by have := hM.2.2.1; omega⟩
  have nm := isNm_e (N := N) gI (t := lxS B z (plF B z p)) l3.1
  by_cases hopd : lxS B z (plF B z p) = 258 ∨ 266 ≤ lxS B z (plF B z p)
  · right
    have l1 := lx_pos (B := B) (z := z) (q := plF B z p) (by omega)
    obtain ⟨gM', m1, m2⟩ := mw_opd (fu := fu) (m := m) hN hM hopd
    obtain ⟨g1, a1, a2⟩ := cAdd (N := N) (x := ocF B z (plF B z p)) hC (by omega)
    obtain ⟨g2, b1, b2⟩ := cNext hN a2
    have dpk : DP (ocF B z (plF B z p) :: K) (n + 1) := by
      refine ⟨n, hD, Or.inl ⟨rfl, by omega, ?_⟩⟩
      unfold ocF
      by_cases h258 : lxS B z (plF B z p) = 258
      · rw [if_pos h258]
        obtain ⟨n1, n2, n3, n4⟩ := lxS_num h258
        have := dvl_lt B (z - plF B z p) (plF B z p) 0
        have hp : 10 ^ (dnd B (z - plF B z p) (plF B z p) - plF B z p) ≤ 10 ^ 4 := Nat.pow_le_pow_right (by omega) n4
        have h4 : 10 ^ 4 = 10000 := by decide
        rw [Nat.zero_add, Nat.one_mul] at this
        exact Or.inl ⟨by omega, by omega⟩
      · rw [if_neg h258]; exact Or.inr (by omega)
    refine ⟨g2, gM', lxN B z (plF B z p), ocF B z (plF B z p) :: K, fu, m, ?_, b2, m1, m2, dpk, by omega, by omega, hm⟩
    by_cases h258 : lxS B z (plF B z p) = 258
    · obtain ⟨n1, n2, n3, n4⟩ := lxS_num h258
      have e5 := hC.2.2.1.2.2.2 n1 n2 n3
      have ec : cs (ocF B z (plF B z p)) = i32 (dvl B (z - plF B z p) (plF B z p) 0) := by
        unfold ocF cs
        rw [if_pos h258, if_pos (by omega), Nat.add_sub_cancel_left]
      rw [ec] at a1
      rw [h258] at sy
      simp -dsimp -implicitDefEqProofs (disch := omega) only [X3_readsOne, sy, tx, e5, a1, b1, i32_lit, i32_add, i32_mul, i32_tn, i32_sub, le_t, le_f, lt_t, lt_f, eq_t, eq_f, eq_rfl, inR_t, ↓ob_x, obx_s, ↓bnd_s, ↓oT_x, oTx_s, ↓ite_x, itx_T, itx_F, ↓reduceIte, not_true_eq_false, not_false_eq_true, true_and, and_true, Nat.reduceAdd, Nat.reduceMul, Nat.reduceSub, Nat.reduceEqDiff, isB0, isB1, Int32.neg_neg, Nat.zero_add, Nat.add_zero, Nat.mul_zero, Nat.mul_one, Nat.zero_mul]
    · have h266 : 266 ≤ lxS B z (plF B z p) := by omega
      have ec : cs (ocF B z (plF B z p)) = -(i32 (lxS B z (plF B z p))) := by
        unfold ocF cs
        rw [if_neg h258, if_neg (by omega), if_pos (by omega), show 266 + (lxS B z (plF B z p) - 266) = lxS B z (plF B z p) by omega]
      rw [ec] at a1
      rw [if_pos h266] at nm
      simp -dsimp -implicitDefEqProofs (disch := omega) only [X3_readsOne, sy, nm, tx, a1, b1, i32_lit, i32_add, i32_mul, i32_tn, i32_sub, le_t, le_f, lt_t, lt_f, eq_t, eq_f, eq_rfl, inR_t, ↓ob_x, obx_s, ↓bnd_s, ↓oT_x, oTx_s, ↓ite_x, itx_T, itx_F, ↓reduceIte, not_true_eq_false, not_false_eq_true, true_and, and_true, Nat.reduceAdd, Nat.reduceMul, Nat.reduceSub, Nat.reduceEqDiff, isB0, isB1, Int32.neg_neg, Nat.zero_add, Nat.add_zero, Nat.mul_zero, Nat.mul_one, Nat.zero_mul]
  · have nm0 : X3_isName N (i32 (lxS B z (plF B z p))) gI = some (i32 0, gI) := by rw [if_neg (by omega)] at nm; exact nm
    have flI := cFl hC (by omega)
    by_cases h5 : o = 5
    · left
      have eI : X3_readsOne N G (i32 o) gI = some (i32 0, gI) := by simp -dsimp -implicitDefEqProofs (disch := omega) only [X3_readsOne, sy, nm0, i32_lit, i32_add, i32_mul, i32_tn, i32_sub, le_t, le_f, lt_t, lt_f, eq_t, eq_f, eq_rfl, inR_t, ↓ob_x, obx_s, ↓bnd_s, ↓oT_x, oTx_s, ↓ite_x, itx_T, itx_F, ↓reduceIte, not_true_eq_false, not_false_eq_true, true_and, and_true, Nat.reduceAdd, Nat.reduceMul, Nat.reduceSub, Nat.reduceEqDiff, isB0, isB1, Int32.neg_neg, Nat.zero_add, Nat.add_zero, Nat.mul_zero, Nat.mul_one, Nat.zero_mul]
      by_cases h45 : lxS B z (plF B z p) = 45
      · rcases mw_opn (fu := fu) (x := 19) (k := 0) hN hM hm (by omega) (Or.inr (Or.inl ⟨h45, rfl, rfl⟩)) with ⟨q, _⟩ | ⟨_, g', r1, r2⟩
        · omega
        · exact ⟨gI, g', _, eI, flI, r1, r2⟩
      · by_cases h40 : lxS B z (plF B z p) = 40
        · rcases mw_opn (fu := fu) (x := 0) (k := 1) hN hM hm (by omega) (Or.inr (Or.inr ⟨h40, rfl, rfl⟩)) with ⟨q, _⟩ | ⟨_, g', r1, r2⟩
          · omega
          · exact ⟨gI, g', _, eI, flI, r1, r2⟩
        · obtain ⟨g', r1, r2⟩ := mw_bad (fu := fu) hN hM hm ⟨by omega, by omega, h45, h40, hmn⟩
          exact ⟨gI, g', _, eI, flI, r1, r2⟩
    · have hG := hG0 (by omega)
      by_cases h45 : lxS B z (plF B z p) = 45
      · have l1 := lx_pos (B := B) (z := z) (q := plF B z p) (by omega)
        rcases mw_opn (fu := fu) (x := 19) (k := 0) hN hM hm (by omega) (Or.inr (Or.inl ⟨h45, rfl, rfl⟩)) with ⟨_, g1, r1, r2⟩ | ⟨q, _⟩
        case inr => omega
        obtain ⟨g2, b1, b2⟩ := cNext hN hC
        have b2f := b2.2.2.2.2.1
        rcases c6 (by omega) g2 g1 _ (19 :: H) K n fu 0 b2 r2 (by show opn 19 + cnt H = o + 1; rw [hH, show opn 19 = 1 from rfl]; omega) hD (by omega) (by omega) (by omega) (fun _ => rfl) with ⟨u1, u2, q, k1, k2, k3, k4⟩ | ⟨u1, u2, p', K', fu', m', k1, k2, k3, k4, k5, k6, k7, k8⟩
        · left
          obtain ⟨u3, e1, e2⟩ := fl_add (N := N) k2 (-(i32 259))
          have tx1 := k2.2.2.2.1
          refine ⟨u3, u2, q, ?_, e2, by rw [r1]; exact k3, k4⟩
          rw [h45] at sy nm0
          simp -dsimp -implicitDefEqProofs (disch := omega) only [X3_readsOne, hG, X3_readsOneBehindMinus, sy, nm0, b1, k1, tx1, e1, i32_lit, i32_add, i32_mul, i32_tn, i32_sub, le_t, le_f, lt_t, lt_f, eq_t, eq_f, eq_rfl, inR_t, ↓ob_x, obx_s, ↓bnd_s, ↓oT_x, oTx_s, ↓ite_x, itx_T, itx_F, ↓reduceIte, not_true_eq_false, not_false_eq_true, true_and, and_true, Nat.reduceAdd, Nat.reduceMul, Nat.reduceSub, Nat.reduceEqDiff, isB0, isB1, Int32.neg_neg, Nat.zero_add, Nat.add_zero, Nat.mul_zero, Nat.mul_one, Nat.zero_mul]
        · right
          have ul := uw_len 7 (19 :: H) K'
          rw [List.length_cons] at ul
          have kb := k4.2.2.2.2.2
          have kz := k4.2.2.1
          obtain ⟨u3, e1, e2⟩ := cAdd (N := N) (x := 19) k2 (by omega)
          have tx1 := k2.2.2.2.2.1
          have ec : cs 19 = -(i32 259) := rfl
          rw [ec] at e1
          refine ⟨u3, u2, p', 19 :: K', fu', m', ?_, e2, by rw [r1]; exact k3, k4, ⟨n + 1, k5, Or.inr (Or.inl ⟨rfl, by omega, by omega, Or.inr rfl⟩)⟩, k6, by omega, k8⟩
          rw [h45] at sy nm0
          simp -dsimp -implicitDefEqProofs (disch := omega) only [X3_readsOne, hG, X3_readsOneBehindMinus, sy, nm0, b1, k1, tx1, e1, i32_lit, i32_add, i32_mul, i32_tn, i32_sub, le_t, le_f, lt_t, lt_f, eq_t, eq_f, eq_rfl, inR_t, ↓ob_x, obx_s, ↓bnd_s, ↓oT_x, oTx_s, ↓ite_x, itx_T, itx_F, ↓reduceIte, not_true_eq_false, not_false_eq_true, true_and, and_true, Nat.reduceAdd, Nat.reduceMul, Nat.reduceSub, Nat.reduceEqDiff, isB0, isB1, Int32.neg_neg, Nat.zero_add, Nat.add_zero, Nat.mul_zero, Nat.mul_one, Nat.zero_mul]
      · by_cases h40 : lxS B z (plF B z p) = 40
        · have l1 := lx_pos (B := B) (z := z) (q := plF B z p) (by omega)
          rcases mw_opn (fu := fu) (x := 0) (k := 1) hN hM hm (by omega) (Or.inr (Or.inr ⟨h40, rfl, rfl⟩)) with ⟨_, g1, r1, r2⟩ | ⟨q, _⟩
          case inr => omega
          obtain ⟨g2, b1, b2⟩ := pass_t hN hC h40
          rw [h40] at sy nm0
          rcases cO (by omega) g2 g1 _ (0 :: H) K n fu 1 b2 r2 (by show opn 0 + cnt H = o + 1; rw [hH, show opn 0 = 1 from rfl]; omega) (by show rk 0 ≤ 0; decide) hD (by omega) (by omega) (by omega) (fun _ => rfl) (fun q => by omega) with ⟨u1, u2, q, k1, k2, k3, k4⟩ | ⟨u1, u2, p', K', P, fu', m', k1, k2, k3, k4, k5, k6, k7, k8, k9, k10, k11, k12⟩
          · left
            refine ⟨u1, u2, q, ?_, k2, by rw [r1]; exact k3, k4⟩
            simp -dsimp -implicitDefEqProofs (disch := omega) only [X3_readsOne, sy, nm0, b1, k1, i32_lit, i32_add, i32_mul, i32_tn, i32_sub, le_t, le_f, lt_t, lt_f, eq_t, eq_f, eq_rfl, inR_t, ↓ob_x, obx_s, ↓bnd_s, ↓oT_x, oTx_s, ↓ite_x, itx_T, itx_F, ↓reduceIte, not_true_eq_false, not_false_eq_true, true_and, and_true, Nat.reduceAdd, Nat.reduceMul, Nat.reduceSub, Nat.reduceEqDiff, isB0, isB1, Int32.neg_neg, Nat.zero_add, Nat.add_zero, Nat.mul_zero, Nat.mul_one, Nat.zero_mul]
          · have hu : uw 1 (P ++ 0 :: H) K' = (0 :: H, List.reverseAux P K') := by
              rw [uw_app 1 P _ K' k5]
              exact uw_stop (r := 0) (by omega) _ _ (by show rk 0 ≤ 0; decide)
            have kz := k4.2.2.1
            have kb := k4.2.2.2.2.2
            rw [List.length_append] at kb
            have rl : (List.reverseAux P K').length = P.length + K'.length := by rw [List.reverseAux_eq, List.length_append, List.length_reverse]
            obtain ⟨fu', rfl⟩ : ∃ q, fu' = q + 1 := ⟨fu' - 1, by omega⟩
            by_cases h41 : lxS B z (plF B z p') = 41
            · right
              have w0 := plF_le (B := B) kz
              have w1 := lx_pos (B := B) (z := z) (q := plF B z p') (by omega)
              obtain ⟨g3, d1, d2⟩ := pass_t hN k2 h41
              obtain ⟨g4, e1, e2⟩ := mw_cl (fu := fu') (m := m') hN k4 h41 hu
              refine ⟨g3, g4, _, List.reverseAux P K', fu', m', ?_, d2, by rw [r1, k3]; exact e1, e2, k6, by omega, by omega, k9⟩
              simp -dsimp -implicitDefEqProofs (disch := omega) only [X3_readsOne, sy, nm0, b1, k1, d1, i32_lit, i32_add, i32_mul, i32_tn, i32_sub, le_t, le_f, lt_t, lt_f, eq_t, eq_f, eq_rfl, inR_t, ↓ob_x, obx_s, ↓bnd_s, ↓oT_x, oTx_s, ↓ite_x, itx_T, itx_F, ↓reduceIte, not_true_eq_false, not_false_eq_true, true_and, and_true, Nat.reduceAdd, Nat.reduceMul, Nat.reduceSub, Nat.reduceEqDiff, isB0, isB1, Int32.neg_neg, Nat.zero_add, Nat.add_zero, Nat.mul_zero, Nat.mul_one, Nat.zero_mul]
            · left
              have pf := pass_f (N := N) k2 (w := 41) ⟨h41, by omega⟩
              have eI : X3_readsOne N G (i32 o) gI = some (i32 0, u1) := by simp -dsimp -implicitDefEqProofs (disch := omega) only [X3_readsOne, sy, nm0, b1, k1, pf, i32_lit, i32_add, i32_mul, i32_tn, i32_sub, le_t, le_f, lt_t, lt_f, eq_t, eq_f, eq_rfl, inR_t, ↓ob_x, obx_s, ↓bnd_s, ↓oT_x, oTx_s, ↓ite_x, itx_T, itx_F, ↓reduceIte, not_true_eq_false, not_false_eq_true, true_and, and_true, Nat.reduceAdd, Nat.reduceMul, Nat.reduceSub, Nat.reduceEqDiff, isB0, isB1, Int32.neg_neg, Nat.zero_add, Nat.add_zero, Nat.mul_zero, Nat.mul_one, Nat.zero_mul]
              have flI' := cFl k2 (by rw [rl]; omega)
              by_cases h59 : lxS B z (plF B z p') = 59
              · obtain ⟨g4, e1, e2, e3⟩ := mw_semi (fu := fu') (m := m') hN k4 h59
                rw [hu, if_neg (by simp)] at e1
                exact ⟨u1, g4, _, eI, flI', by rw [r1, k3]; exact e1, e2.2.2.2.2.1, e3⟩
              · obtain ⟨g4, e1, e2⟩ := mw_off (fu := fu') (m := m') hN k4 k10 ⟨k11, k12, h41, h59⟩
                exact ⟨u1, g4, _, eI, flI', by rw [r1, k3]; exact e1, e2⟩
        · left
          have pf := pass_f (N := N) hC (w := 40) ⟨h40, by omega⟩
          obtain ⟨g', r1, r2⟩ := mw_bad (fu := fu) hN hM hm ⟨by omega, by omega, h45, h40, hmn⟩
          exact ⟨gI, g', _, by simp -dsimp -implicitDefEqProofs (disch := omega) only [X3_readsOne, sy, nm0, pf, i32_lit, i32_add, i32_mul, i32_tn, i32_sub, le_t, le_f, lt_t, lt_f, eq_t, eq_f, eq_rfl, inR_t, ↓ob_x, obx_s, ↓bnd_s, ↓oT_x, oTx_s, ↓ite_x, itx_T, itx_F, ↓reduceIte, not_true_eq_false, not_false_eq_true, true_and, and_true, Nat.reduceAdd, Nat.reduceMul, Nat.reduceSub, Nat.reduceEqDiff, isB0, isB1, Int32.neg_neg, Nat.zero_add, Nat.add_zero, Nat.mul_zero, Nat.mul_one, Nat.zero_mul], flI, r1, r2⟩
