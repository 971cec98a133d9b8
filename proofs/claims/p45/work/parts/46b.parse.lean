/-! THE PARSER over a list of tokens -/
/-- the class, reading list L into text c (its part from step s on), stands before R with steps K written -/
def At (L : List Nat) (c s : Nat) (g0 g : Mem) (R K : List Nat) : Prop := s + K.length ≤ 100 ∧ ∃ p, CSt (bL L) L.length c s g0 g p K ∧ SFx L p R
theorem At_tok {L R R' : List Nat} {c s t v : Nat} {g0 g : Mem} {K : List Nat} (h : At L c s g0 g R K) (k : TK L R t v R') : g.1 0 4 = i32 t ∧ (t = 258 → 48 ≤ t → g.1 0 5 = i32 v) ∧ t < 272 ∧ g.2 0 = some (4 + 5 * c) ∧ c < 6 := by
  obtain ⟨hK, p, hc, hs⟩ := h
  obtain ⟨k1, k2, k3⟩ := k p hs
  obtain ⟨c1, c2, ⟨e1, e2, e3, e4⟩, c4, c5, c6, c7, c8⟩ := hc
  have l := lxS_in (bL L) L.length (plF (bL L) L.length p)
  rw [k1] at l
  refine ⟨by rw [e3, k1], fun q _ => ?_, l.1, c5, c1⟩
  have n := lxS_num (B := bL L) (z := L.length) (q := plF (bL L) L.length p) (by rw [k1]; exact q)
  rw [e4 n.1 n.2.1 n.2.2.1, k2 q]
theorem At_next {L R R' : List Nat} {c s t v : Nat} {g0 g : Mem} {K : List Nat} (h : At L c s g0 g R K) (k : TK L R t v R') {N : Nat} (hN : 6000 ≤ N) : ∃ g', X3_next N g = some (i32 0, g') ∧ At L c s g0 g' R' K := by
  obtain ⟨hK, p, hc, hs⟩ := h
  obtain ⟨g', e, h'⟩ := cNext hN hc
  exact ⟨g', e, hK, _, h', (k p hs).2.2⟩
theorem At_add {L R : List Nat} {c s : Nat} {g0 g : Mem} {K : List Nat} (h : At L c s g0 g R K) (x : Nat) (hb : s + K.length < 100) (N : Nat) : ∃ g', X4_add N (4 + 5 * c) (cs x) g = some (i32 0, g') ∧ At L c s g0 g' R (x :: K) := by
  obtain ⟨hK, p, hc, hs⟩ := h
  obtain ⟨g', e, h'⟩ := cAdd (N := N) (x := x) hc (by omega)
  exact ⟨g', e, by rw [List.length_cons]; omega, p, h', hs⟩
theorem tx6 {c : Nat} (h : c < 6) : isText (4 + 5 * c) := by unfold isText; omega
/-- at level lb, R is read up to R', and the steps K become K' -/
def JJ (N : Nat) (L : List Nat) (c s : Nat) (g0 : Mem) (lb D a : Nat) (R K R' K' : List Nat) : Prop := ∀ g, At L c s g0 g R K → ∃ g', PG N D lb (i32 a) g = some (i32 1, g') ∧ At L c s g0 g' R' K'
set_option maxRecDepth 100000 in
theorem J6_nm {N : Nat} (hN : 6000 ≤ N) {L R R' : List Nat} {c s v : Nat} {g0 : Mem} {K : List Nat} (k : TK L R 258 v R') (hv : v < 10000) (D a : Nat) (hb : s + K.length < 100) : JJ N L c s g0 6 (D + 1) a R K R' ((100000 + v) :: K) := by
  intro g h
  obtain ⟨t1, t2, t3, t4, t5⟩ := At_tok h k
  have t2 := t2 rfl (by omega)
  obtain ⟨g1, e1, h1⟩ := At_add h (100000 + v) hb N
  have ec : cs (100000 + v) = i32 v := by unfold cs; rw [if_pos (by omega), Nat.add_sub_cancel_left]
  rw [ec] at e1
  obtain ⟨g2, e2, h2⟩ := At_next h1 k hN
  refine ⟨g2, ?_, h2⟩
  show X3_readsOne N (PG N D) (i32 a) g = _
  simp -dsimp -implicitDefEqProofs (disch := omega) only [X3_readsOne, t1, t2, t4, e1, e2, i32_lit, i32_add, i32_mul, i32_tn, i32_sub, le_t, le_f, lt_t, lt_f, eq_t, eq_f, eq_rfl, inR_t, ↓ob_x, obx_s, ↓bnd_s, ↓oT_x, oTx_s, ↓ite_x, itx_T, itx_F, ↓reduceIte, not_true_eq_false, not_false_eq_true, true_and, and_true, Nat.reduceAdd, Nat.reduceMul, Nat.reduceSub, Nat.reduceEqDiff, isB0, isB1, Int32.neg_neg, Nat.zero_add, Nat.add_zero, Nat.mul_zero, Nat.mul_one, Nat.zero_mul]
set_option maxRecDepth 100000 in
theorem J6_nam {N : Nat} (hN : 6000 ≤ N) {L R R' : List Nat} {c s v : Nat} {g0 : Mem} {K : List Nat} {t : Nat} (k : TK L R t v R') (ht : 266 ≤ t ∧ t < 272) (D a : Nat) (hb : s + K.length < 100) : JJ N L c s g0 6 (D + 1) a R K R' ((t - 266) :: K) := by
  intro g h
  obtain ⟨t1, t2, t3, t4, t5⟩ := At_tok h k
  obtain ⟨g1, e1, h1⟩ := At_add h (t - 266) hb N
  have ec : cs (t - 266) = -(i32 t) := by unfold cs; rw [if_neg (by omega), if_pos (by omega), show 266 + (t - 266) = t by omega]
  rw [ec] at e1
  obtain ⟨g2, e2, h2⟩ := At_next h1 k hN
  refine ⟨g2, ?_, h2⟩
  have nm := isNm_e (N := N) g t3
  rw [if_pos ht.1] at nm
  show X3_readsOne N (PG N D) (i32 a) g = _
  simp -dsimp -implicitDefEqProofs (disch := omega) only [X3_readsOne, t1, t4, nm, e1, e2, i32_lit, i32_add, i32_mul, i32_tn, i32_sub, le_t, le_f, lt_t, lt_f, eq_t, eq_f, eq_rfl, inR_t, ↓ob_x, obx_s, ↓bnd_s, ↓oT_x, oTx_s, ↓ite_x, itx_T, itx_F, ↓reduceIte, not_true_eq_false, not_false_eq_true, true_and, and_true, Nat.reduceAdd, Nat.reduceMul, Nat.reduceSub, Nat.reduceEqDiff, isB0, isB1, Int32.neg_neg, Nat.zero_add, Nat.add_zero, Nat.mul_zero, Nat.mul_one, Nat.zero_mul]
