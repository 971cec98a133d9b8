/-! A TEXT, whole: both sides -/
theorem WFx_c {f f' h h' : Nat → Int32} : ∀ (l k n : Nat), (∀ j, k ≤ j → j < k + l → f' j = f j ∧ h' j = h j) → WFx f h k l n → WFx f' h' k l n
  | 0, k, n, _, W => W
  | l + 1, k, n, e, W => by
    obtain ⟨n', s, W'⟩ := W
    have e0 := e k (by omega) (by omega)
    exact ⟨n', by rw [e0.1, e0.2]; exact s, WFx_c l (k + 1) n' (fun j a b => e j (by omega) (by omega)) W'⟩
theorem stp_opk {x m n : Nat} (h : opk x m n) : stp (cs x) (i32 x) m n := by
  rcases h with ⟨h1, h2, h3⟩ | ⟨h1, h2, h3, h4⟩ | ⟨h1, h2, h3, h4⟩
  · refine ⟨by omega, Or.inl ⟨h1, h2, ?_⟩⟩
    unfold cs
    rcases h3 with h3 | h3
    · rw [if_pos h3.1]
      exact Or.inl ⟨x - 100000, by omega, rfl, by rw [show 100000 + (x - 100000) = x by omega]⟩
    · rw [if_neg (by omega), if_pos h3]
      exact Or.inr ⟨x, h3, rfl, rfl⟩
  · refine ⟨by omega, Or.inr (Or.inl ⟨h1, h2, ?_⟩)⟩
    rcases h4 with rfl | rfl
    · exact Or.inl ⟨rfl, rfl⟩
    · exact Or.inr ⟨rfl, rfl⟩
  · refine ⟨by omega, Or.inr (Or.inr ⟨h1, h2, ?_⟩)⟩
    rcases h4 with rfl | rfl | rfl | rfl | rfl | rfl | rfl
    · exact Or.inl ⟨rfl, rfl⟩
    · exact Or.inr (Or.inl ⟨rfl, rfl⟩)
    · exact Or.inr (Or.inr (Or.inl ⟨rfl, rfl⟩))
    · exact Or.inr (Or.inr (Or.inr (Or.inl ⟨rfl, rfl⟩)))
    · exact Or.inr (Or.inr (Or.inr (Or.inr (Or.inl ⟨rfl, rfl⟩))))
    · exact Or.inr (Or.inr (Or.inr (Or.inr (Or.inr (Or.inl ⟨rfl, rfl⟩)))))
    · exact Or.inr (Or.inr (Or.inr (Or.inr (Or.inr (Or.inr ⟨rfl, rfl⟩)))))
theorem WF_DP {c s : Nat} {gI gM : Mem} : ∀ (K : List Nat) (m l : Nat), kI (4 + 5 * c) s gI K → kM c s gM K → DP K m → WFx (gI.1 (4 + 5 * c + 1)) (fun j => gM.1 7 (200 * c + j)) (s + K.length) l m → WFx (gI.1 (4 + 5 * c + 1)) (fun j => gM.1 7 (200 * c + j)) s (K.length + l) 0
  | [], m, l, _, _, hD, W => by
    have hm : m = 0 := hD
    subst hm
    rw [List.length_nil, Nat.zero_add]; exact W
  | x :: K, m, l, hI, hM, hD, W => by
    obtain ⟨m', d1, d2⟩ := hD
    obtain ⟨i1, i2⟩ := hI
    obtain ⟨k1, k2⟩ := hM
    have e := WF_DP K m' (l + 1) i2 k2 d1 ⟨m, by rw [i1]; show stp _ (gM.1 7 (200 * c + (s + K.length))) m' m; rw [k1]; exact stp_opk d2, W⟩
    rw [List.length_cons, show K.length + 1 + l = K.length + (l + 1) by omega]
    exact e
/-- the parts read so far -/
def TxP (c q : Nat) (S : Nat → Nat) (gI gM : Mem) : Prop := S 0 = 0 ∧ ∀ j, j < q → S j ≤ S (j + 1) ∧ S (j + 1) ≤ S q ∧ gI.1 (4 + 5 * c + 2) j = i32 (S (j + 1)) ∧ gM.1 8 (4 * c + j) = i32 (S j) ∧ WFx (gI.1 (4 + 5 * c + 1)) (fun k => gM.1 7 (200 * c + k)) (S j) (S (j + 1) - S j) 0
theorem TxP_fr {c q : Nat} {S : Nat → Nat} {gI gM gI' gM' : Mem} (h : TxP c q S gI gM) (hI : FCl c (S q) gI gI') (hM : FM7 c (S q) gM gM') : TxP c q S gI' gM' := by
  refine ⟨h.1, fun j hj => ?_⟩
  obtain ⟨a, b, e1, e2, W⟩ := h.2 j hj
  refine ⟨a, b, by rw [hI.1 _ (by omega) (by omega) (by omega)]; exact e1, by rw [hM.1 8 (by omega) (by omega) (by omega)]; exact e2, WFx_c _ _ _ (fun k k1 k2 => ⟨hI.2.2.2.1 k (by omega), hM.2.2 _ (by omega)⟩) W⟩
def FT (c : Nat) (g g' : Mem) : Prop := (∀ e, ¬ e = 0 → ¬ e = 4 + 5 * c → ¬ e = 4 + 5 * c + 1 → ¬ e = 4 + 5 * c + 2 → g'.1 e = g.1 e) ∧ (∀ j, ¬ (2 ≤ j ∧ j ≤ 5) → g'.1 0 j = g.1 0 j) ∧ (∀ j, ¬ j = 2 → g'.1 (4 + 5 * c) j = g.1 (4 + 5 * c) j) ∧ (∀ e, ¬ e = 0 → g'.2 e = g.2 e)
def FU (c : Nat) (g g' : Mem) : Prop := (∀ e, ¬ e = 0 → ¬ e = 7 → ¬ e = 8 → ¬ e = 16 → g'.1 e = g.1 e) ∧ (∀ j, ¬ j = 8 → ¬ j = 11 → ¬ (20 ≤ j ∧ j ≤ 23) → ¬ (26 ≤ j ∧ j ≤ 28) → g'.1 0 j = g.1 0 j) ∧ (∀ j, ¬ (200 * c ≤ j ∧ j < 200 * c + 200) → g'.1 7 j = g.1 7 j) ∧ ∀ j, ¬ (4 * c ≤ j ∧ j < 4 * c + 4) → g'.1 8 j = g.1 8 j
theorem FT_tr {c : Nat} {a b d : Mem} (h : FT c a b) (k : FT c b d) : FT c a d := ⟨fun e x y w v => (k.1 e x y w v).trans (h.1 e x y w v), fun j x => (k.2.1 j x).trans (h.2.1 j x), fun j x => (k.2.2.1 j x).trans (h.2.2.1 j x), fun j x => (k.2.2.2 j x).trans (h.2.2.2 j x)⟩
theorem FU_tr {c : Nat} {a b d : Mem} (h : FU c a b) (k : FU c b d) : FU c a d := ⟨fun e x y w v => (k.1 e x y w v).trans (h.1 e x y w v), fun j x y w v => (k.2.1 j x y w v).trans (h.2.1 j x y w v), fun j x => (k.2.2.1 j x).trans (h.2.2.1 j x), fun j x => (k.2.2.2 j x).trans (h.2.2.2 j x)⟩
theorem FT_l {c s : Nat} {a b : Mem} (h : FCl c s a b) : FT c a b := ⟨fun e x y w _ => h.1 e x y w, h.2.1, h.2.2.1, fun e _ => by rw [h.2.2.2.2]⟩
theorem FU_7 {c s : Nat} {a b : Mem} (h : FM7 c s a b) (hs : s ≤ 200) : FU c a b := ⟨fun e x y _ w => h.1 e x y w, fun j _ _ x y => h.2.1 j x y, fun j hj => h.2.2 j (by omega), fun j _ => by rw [h.1 8 (by omega) (by omega) (by omega)]⟩
/-- the reference gives up -/
def gup (c : Nat) (g : Mem) : Mem := stI (stI g 8 (4 * c + 3) (g.1 0 28)) 0 8 (i32 0)
theorem FU_gup (c : Nat) (g : Mem) : FU c g (gup c g) := by
  unfold gup
  exact ⟨fun e h0 _ h8 _ => by rw [stI_ne _ _ _ _ _ h0, stI_ne _ _ _ _ _ h8], fun j h8 _ _ _ => by rw [stI_nj _ _ _ _ _ h8, stI_ne _ _ _ _ _ (by omega)], fun j _ => by rw [stI_ne _ _ _ _ _ (by omega), stI_ne _ _ _ _ _ (by omega)], fun j hj => by rw [stI_ne _ _ _ _ _ (by omega), stI_nj _ _ _ _ _ (by omega)]⟩
set_option maxRecDepth 100000 in
theorem bad_M {N c q fu x : Nat} {g : Mem} (hc : c < 6) (e1 : g.1 0 11 = i32 c) (e2 : g.1 0 21 = i32 q) (hx : x ≤ 3) : X6_text_L26 N (fu + 1) (i32 0) (i32 x) g = some (-(i32 100) - i32 q, gup c g) := by
  unfold gup
  by_cases h : x = 3
  · subst h; simp -dsimp -implicitDefEqProofs (disch := omega) only [X6_text_L26, e1, e2, i32_lit, i32_add, i32_mul, i32_tn, i32_sub, le_t, le_f, lt_t, lt_f, eq_t, eq_f, eq_rfl, inR_t, ↓ob_x, obx_s, ↓bnd_s, ↓oT_x, oTx_s, ↓ite_x, itx_T, itx_F, ↓reduceIte, not_true_eq_false, not_false_eq_true, true_and, and_true, Nat.reduceAdd, Nat.reduceMul, Nat.reduceSub, Nat.reduceEqDiff, isB0, isB1, Int32.neg_neg, Nat.zero_add, Nat.add_zero, Nat.mul_zero, Nat.mul_one, Nat.zero_mul, stI_eq, stI_nj, stI_ne, stI_2, stA_eq, stA_ne, stA_2, stR_1, stR_2]
  · simp -dsimp -implicitDefEqProofs (disch := omega) only [X6_text_L26, e1, e2, i32_lit, i32_add, i32_mul, i32_tn, i32_sub, le_t, le_f, lt_t, lt_f, eq_t, eq_f, eq_rfl, inR_t, ↓ob_x, obx_s, ↓bnd_s, ↓oT_x, oTx_s, ↓ite_x, itx_T, itx_F, ↓reduceIte, not_true_eq_false, not_false_eq_true, true_and, and_true, Nat.reduceAdd, Nat.reduceMul, Nat.reduceSub, Nat.reduceEqDiff, isB0, isB1, Int32.neg_neg, Nat.zero_add, Nat.add_zero, Nat.mul_zero, Nat.mul_one, Nat.zero_mul, stI_eq, stI_nj, stI_ne, stI_2, stA_eq, stA_ne, stA_2, stR_1, stR_2]
theorem TxI_P {c : Nat} {S : Nat → Nat} {gI gM : Mem} (h : TxP c 3 S gI gM) (h3 : S 3 ≤ 160) (e : gM.1 8 (4 * c + 3) = i32 (S 3)) : TxI c gI gM := by
  intro p hp
  obtain ⟨a, b, e1, e2, W⟩ := h.2 p hp
  refine ⟨S p, S (p + 1), a, by omega, fun q => by subst q; exact h.1, fun q => ?_, e1, e2, ?_, W⟩
  · obtain ⟨_, _, e3, _, _⟩ := h.2 (p - 1) (by omega)
    rw [show p - 1 + 1 = p by omega] at e3
    exact e3
  · by_cases hp2 : p = 2
    · subst hp2; exact e
    · obtain ⟨_, _, _, e4, _⟩ := h.2 (p + 1) (by omega)
      exact e4
set_option maxRecDepth 100000 in
theorem parts_l {N z c : Nat} (hN : 6000 ≤ N) (hc : c < 6) {B : Nat → Nat} : ∀ (r q p fI fM : Nat) (S : Nat → Nat) (gI gM : Mem), q + r = 3 → r < fI → r + 1 < fM → CSt B z c (S q) gI gI p [] → TM B z gM → gM.1 0 20 = i32 p → gM.1 0 11 = i32 c → gM.1 0 28 = i32 (S q) → S q ≤ p → TxP c q S gI gM →
    (∃ gI' gM' x, X3_readsParts_L2 N fI (i32 q) gI = some (i32 0, gI') ∧ X6_text_L26 N fM (i32 1) (i32 q) gM = some (-(i32 100) - i32 x, gM') ∧ x ≤ 160 ∧ gI'.1 0 3 = i32 x ∧ FT c gI gI' ∧ FU c gM gM' ∧ gM'.1 0 8 = i32 0 ∧ gM'.1 0 11 = i32 c) ∨
    (∃ gI' gM', X3_readsParts_L2 N fI (i32 q) gI = some (i32 1, gI') ∧ X6_text_L26 N fM (i32 1) (i32 q) gM = some (i32 c, gM') ∧ TxI c gI' gM' ∧ FT c gI gI' ∧ FU c gM gM' ∧ gM'.1 0 8 = i32 0 ∧ gM'.1 0 11 = i32 (c + 1)) := by
  intro r
  induction r with
  | zero =>
    intro q p fI fM S gI gM h1 h2 h3 hC hT h20 h11 h28 hS hX
    obtain ⟨fI, rfl⟩ : ∃ q, fI = q + 1 := ⟨fI - 1, by omega⟩
    obtain ⟨fM, rfl⟩ : ∃ q, fM = q + 1 := ⟨fM - 1, by omega⟩
    have hq : q = 3 := by omega
    subst hq
    have hz := hT.1
    have hp := hC.2.2.2.1
    have l0 := plF_le (B := B) hp
    have sy := hC.2.2.1.2.2.1
    have l3 := lxS_in B z (plF B z p)
    obtain ⟨g1, r1, r2, r3⟩ := next_M2 hN hT hp h20
    have e11 : g1.1 0 11 = i32 c := by rw [r2.2 11 (by omega) (by omega) (by omega) (by omega)]; exact h11
    have e28 : g1.1 0 28 = i32 (S 3) := by rw [r2.2 28 (by omega) (by omega) (by omega) (by omega)]; exact h28
    obtain ⟨m1, m2, m3, m4, m5⟩ := r3
    have fu : FU c gM (gup c g1) := FU_tr (FU_7 (s := S 3) (FM7_Q r2) (by omega)) (FU_gup c g1)
    by_cases hend : lxS B z (plF B z p) = 256
    · right
      rw [hend] at sy
      rw [hend, show tkF 256 = i32 0 from rfl] at m3
      have g8 : gM.1 8 = g1.1 8 := (r2.1 8 (by omega)).symm
      have g7 : gM.1 7 = g1.1 7 := (r2.1 7 (by omega)).symm
      refine ⟨gI, stI (gup c g1) 0 11 (i32 (c + 1)), by simp -dsimp -implicitDefEqProofs (disch := omega) only [X3_readsParts_L2, sy, i32_lit, i32_add, i32_mul, i32_tn, i32_sub, le_t, le_f, lt_t, lt_f, eq_t, eq_f, eq_rfl, inR_t, ↓ob_x, obx_s, ↓bnd_s, ↓oT_x, oTx_s, ↓ite_x, itx_T, itx_F, ↓reduceIte, not_true_eq_false, not_false_eq_true, true_and, and_true, Nat.reduceAdd, Nat.reduceMul, Nat.reduceSub, Nat.reduceEqDiff, isB0, isB1, Int32.neg_neg, Nat.zero_add, Nat.add_zero, Nat.mul_zero, Nat.mul_one, Nat.zero_mul], ?_, ?_, FT_l (s := S 3) (FCl_rfl _ _ _), FU_tr fu ⟨fun e h0 _ _ _ => stI_ne _ _ _ _ _ h0, fun j _ h _ _ => stI_nj _ _ _ _ _ h, fun j _ => by rw [stI_ne _ _ _ _ _ (by omega)], fun j _ => by rw [stI_ne _ _ _ _ _ (by omega)]⟩, ?_, stI_eq _ _ _ _⟩
      · unfold gup
        simp -dsimp -implicitDefEqProofs (disch := omega) only [X6_text_L26, r1, m3, e11, Nat.add_sub_cancel, i32_lit, i32_add, i32_mul, i32_tn, i32_sub, le_t, le_f, lt_t, lt_f, eq_t, eq_f, eq_rfl, inR_t, ↓ob_x, obx_s, ↓bnd_s, ↓oT_x, oTx_s, ↓ite_x, itx_T, itx_F, ↓reduceIte, not_true_eq_false, not_false_eq_true, true_and, and_true, Nat.reduceAdd, Nat.reduceMul, Nat.reduceSub, Nat.reduceEqDiff, isB0, isB1, Int32.neg_neg, Nat.zero_add, Nat.add_zero, Nat.mul_zero, Nat.mul_one, Nat.zero_mul, stI_eq, stI_nj, stI_ne, stI_2, stA_eq, stA_ne, stA_2, stR_1, stR_2]
      · refine TxI_P (S := S) ⟨hX.1, fun j hj => ?_⟩ (by omega) ?_
        · obtain ⟨a, b, e1, e2, W⟩ := hX.2 j hj
          refine ⟨a, b, e1, ?_, ?_⟩
          · rw [stI_ne _ _ _ _ _ (by omega)]; unfold gup
            rw [stI_ne _ _ _ _ _ (by omega), stI_nj _ _ _ _ _ (by omega), ← g8]; exact e2
          · refine WFx_c _ _ _ (fun k _ _ => ⟨rfl, ?_⟩) W
            show (stI (gup c g1) 0 11 (i32 (c + 1))).1 7 _ = gM.1 7 _
            rw [stI_ne _ _ _ _ _ (by omega)]; unfold gup
            rw [stI_ne _ _ _ _ _ (by omega), stI_ne _ _ _ _ _ (by omega), ← g7]
        · rw [stI_ne _ _ _ _ _ (by omega)]; unfold gup
          rw [stI_ne _ _ _ _ _ (by omega), stI_eq]; exact e28
      · rw [stI_nj _ _ _ _ _ (by omega)]; unfold gup; exact stI_eq _ _ _ _
    · left
      refine ⟨gI, gup c g1, plF B z p, by simp -dsimp -implicitDefEqProofs (disch := omega) only [X3_readsParts_L2, sy, i32_lit, i32_add, i32_mul, i32_tn, i32_sub, le_t, le_f, lt_t, lt_f, eq_t, eq_f, eq_rfl, inR_t, ↓ob_x, obx_s, ↓bnd_s, ↓oT_x, oTx_s, ↓ite_x, itx_T, itx_F, ↓reduceIte, not_true_eq_false, not_false_eq_true, true_and, and_true, Nat.reduceAdd, Nat.reduceMul, Nat.reduceSub, Nat.reduceEqDiff, isB0, isB1, Int32.neg_neg, Nat.zero_add, Nat.add_zero, Nat.mul_zero, Nat.mul_one, Nat.zero_mul], ?_, by omega, hC.2.2.1.2.1, FT_l (s := S 3) (FCl_rfl _ _ _), fu, by unfold gup; exact stI_eq _ _ _ _, ?_⟩
      · have n0 : (g1.1 0 22 = i32 0) = False := by
          rw [m3]
          rcases tk_cases B z (plF B z p) with ⟨t, e⟩ | ⟨t, e⟩ | ⟨t, e⟩ | ⟨t, e⟩ | ⟨t, e⟩ | ⟨t, e⟩ | ⟨t, e⟩ | ⟨t, _, e⟩ | ⟨t, e⟩
          · omega
          all_goals (rw [e]; first | exact eq_false (by decide) | (rw [eq_f (by omega)]))
        unfold gup
        simp -dsimp -implicitDefEqProofs (disch := omega) only [X6_text_L26, r1, n0, e11, m2, i32_lit, i32_add, i32_mul, i32_tn, i32_sub, le_t, le_f, lt_t, lt_f, eq_t, eq_f, eq_rfl, inR_t, ↓ob_x, obx_s, ↓bnd_s, ↓oT_x, oTx_s, ↓ite_x, itx_T, itx_F, ↓reduceIte, not_true_eq_false, not_false_eq_true, true_and, and_true, Nat.reduceAdd, Nat.reduceMul, Nat.reduceSub, Nat.reduceEqDiff, isB0, isB1, Int32.neg_neg, Nat.zero_add, Nat.add_zero, Nat.mul_zero, Nat.mul_one, Nat.zero_mul, stI_eq, stI_nj, stI_ne, stI_2, stA_eq, stA_ne, stA_2, stR_1, stR_2]
      · unfold gup
        rw [stI_nj _ _ _ _ _ (by omega), stI_ne _ _ _ _ _ (by omega)]; exact e11
  | succ r ih =>
    intro q p fI fM S gI gM h1 h2 h3 hC hT h20 h11 h28 hS hX
    obtain ⟨fI, rfl⟩ : ∃ q, fI = q + 1 := ⟨fI - 1, by omega⟩
    obtain ⟨fM, rfl⟩ : ∃ q, fM = q + 1 := ⟨fM - 1, by omega⟩
    have hz := hT.1
    have hp := hC.2.2.2.1
    have l0 := plF_le (B := B) hp
    have l3 := lxS_in B z (plF B z p)
    obtain ⟨g1, r1, r2, r3⟩ := next_M2 hN hT hp h20
    have e11 : g1.1 0 11 = i32 c := by rw [r2.2 11 (by omega) (by omega) (by omega) (by omega)]; exact h11
    have e28 : g1.1 0 28 = i32 (S q) := by rw [r2.2 28 (by omega) (by omega) (by omega) (by omega)]; exact h28
    obtain ⟨m1, m2, m3, m4, m5⟩ := id r3
    have fu1 : FU c gM (stI g1 8 (4 * c + q) (i32 (S q))) := FU_tr (FU_7 (s := S q) (FM7_Q r2) (by omega)) ⟨fun e _ _ h8 _ => stI_ne _ _ _ _ _ h8, fun j _ _ _ _ => by rw [stI_ne _ _ _ _ _ (by omega)], fun j _ => by rw [stI_ne _ _ _ _ _ (by omega)], fun j hj => stI_nj _ _ _ _ _ (by omega)⟩
    have gbad : ∀ (g : Mem) (x f : Nat), g.1 0 11 = i32 c → g.1 0 21 = i32 x → 0 < f → X6_text_L26 N f (i32 0) (i32 (q + 1)) g = some (-(i32 100) - i32 x, gup c g) := fun g x f a b hf => by
      obtain ⟨f, rfl⟩ : ∃ q, f = q + 1 := ⟨f - 1, by omega⟩
      exact bad_M hc a b (by omega)
    have gup8 : ∀ g, (gup c g).1 0 8 = i32 0 := fun g => by unfold gup; exact stI_eq _ _ _ _
    have gup11 : ∀ g, (gup c g).1 0 11 = g.1 0 11 := fun g => by unfold gup; rw [stI_nj _ _ _ _ _ (by omega), stI_ne _ _ _ _ _ (by omega)]
    by_cases hk : lxS B z (plF B z p) = 260 + q
    · have l1 := lx_pos (B := B) (z := z) (q := plF B z p) (by omega)
      have l2 := lxN_le (B := B) l0.2
      obtain ⟨g2, b1, b2⟩ := pass_t (N := N) hN hC hk
      have e3 : tkF (lxS B z (plF B z p)) = i32 3 := by
        rw [hk]
        rcases (by omega : q = 0 ∨ q = 1 ∨ q = 2) with rfl | rfl | rfl <;> rfl
      have e4 : g1.1 0 23 = i32 q := by
        rw [m4 (Or.inl (by omega)), hk]
        rcases (by omega : q = 0 ∨ q = 1 ∨ q = 2) with rfl | rfl | rfl <;> rfl
      rw [e3] at m3
      generalize hgk : stI (stI (stI g1 8 (4 * c + q) (i32 (S q))) 0 26 (i32 0)) 0 27 (i32 0) = gk
      have k0 : ∀ j, ¬ j = 26 → ¬ j = 27 → gk.1 0 j = g1.1 0 j := fun j a b => by rw [← hgk]; simp -dsimp -implicitDefEqProofs (disch := omega) only [stI_eq, stI_nj, stI_ne, stI_2, stA_eq, stA_ne, stA_2, stR_1, stR_2]
      have kc : ∀ e, ¬ e = 0 → ¬ e = 8 → gk.1 e = g1.1 e := fun e a b => by rw [← hgk]; simp -dsimp -implicitDefEqProofs (disch := omega) only [stI_eq, stI_nj, stI_ne, stI_2, stA_eq, stA_ne, stA_2, stR_1, stR_2]
      have k8 : gk.1 8 = (stI g1 8 (4 * c + q) (i32 (S q))).1 8 := by rw [← hgk]; simp -dsimp -implicitDefEqProofs (disch := omega) only [stI_eq, stI_nj, stI_ne, stI_2, stA_eq, stA_ne, stA_2, stR_1, stR_2]
      have Tg1 := TM_FQ hT r2
      have Tk : TM B z gk := ⟨Tg1.1, by rw [k0 8 (by omega) (by omega)]; exact Tg1.2.1, by rw [kc 6 (by omega) (by omega)]; exact Tg1.2.2.1, fun j hj => by rw [kc 15 (by omega) (by omega)]; exact Tg1.2.2.2 j hj⟩
      have fuk : FU c gM gk := FU_tr fu1 ⟨fun e h0 _ h8 _ => by rw [← hgk, stI_ne _ _ _ _ _ h0, stI_ne _ _ _ _ _ h0], fun j _ _ _ hj => by rw [← hgk, stI_nj _ _ _ _ _ (by omega), stI_nj _ _ _ _ _ (by omega)], fun j _ => by rw [← hgk, stI_ne _ _ _ _ _ (by omega), stI_ne _ _ _ _ _ (by omega)], fun j _ => by rw [k8]⟩
      have Mk : MSt B z c (S q) gk gk (lxN B z (plF B z p)) [] [] := ⟨Tk, by rw [k0 20 (by omega) (by omega)]; exact m1, l2.1, ⟨hc, by rw [k0 11 (by omega) (by omega)]; exact e11, by rw [← hgk]; simp -dsimp -implicitDefEqProofs (disch := omega) only [stI_eq, stI_nj, stI_ne, stI_2, stA_eq, stA_ne, stA_2, stR_1, stR_2]; rfl, by rw [← hgk]; simp -dsimp -implicitDefEqProofs (disch := omega) only [stI_eq, stI_nj, stI_ne, stI_2, stA_eq, stA_ne, stA_2, stR_1, stR_2]; rfl, by rw [k0 28 (by omega) (by omega)]; exact e28, trivial, trivial⟩, FM7_rfl _ _ _, by show S q + 0 + 0 ≤ _; omega⟩
      have eR : ∀ v g, X6_eRead_L14 N N (i32 1) (i32 1) gk = some (v, g) → X6_eRead N (stI g1 8 (4 * c + q) (i32 (S q))) = some (v, g) := fun v g h => by
        rw [← hgk] at h
        simp -dsimp -implicitDefEqProofs (disch := omega) only [X6_eRead, h, i32_lit, i32_add, i32_mul, i32_tn, i32_sub, le_t, le_f, lt_t, lt_f, eq_t, eq_f, eq_rfl, inR_t, ↓ob_x, obx_s, ↓bnd_s, ↓oT_x, oTx_s, ↓ite_x, itx_T, itx_F, ↓reduceIte, not_true_eq_false, not_false_eq_true, true_and, and_true, Nat.reduceAdd, Nat.reduceMul, Nat.reduceSub, Nat.reduceEqDiff, isB0, isB1, Int32.neg_neg, Nat.zero_add, Nat.add_zero, Nat.mul_zero, Nat.mul_one, Nat.zero_mul]
      have n3 := ne_m (x := q) (v := 1) (by omega)
      rcases (PGc (c := c) (s := S q) (g0 := gI) (h0 := gk) hN hz (B := B) 100 0 (by omega)).1 (by omega) g2 gk _ [] [] 0 N 1 b2 Mk rfl trivial rfl (by omega) (by omega) (by omega) (fun _ => rfl) (fun x => by omega) with ⟨u1, u2, x, j1, j2, j3, j4⟩ | ⟨u1, u2, p', K', P, fu', m', j1, j2, j3, j4, j5, j6, j7, j8, j9, j10, j11, j12⟩
      · left
        have a11 : u2.1 0 11 = i32 c := by rw [j4.1.2.1 11 (by omega) (by omega), k0 11 (by omega) (by omega)]; exact e11
        have eb := gbad u2 x fM a11 j4.2 (by omega)
        refine ⟨u1, gup c u2, x, by simp -dsimp -implicitDefEqProofs (disch := omega) only [X3_readsParts_L2, b1, j1, i32_lit, i32_add, i32_mul, i32_tn, i32_sub, le_t, le_f, lt_t, lt_f, eq_t, eq_f, eq_rfl, inR_t, ↓ob_x, obx_s, ↓bnd_s, ↓oT_x, oTx_s, ↓ite_x, itx_T, itx_F, ↓reduceIte, not_true_eq_false, not_false_eq_true, true_and, and_true, Nat.reduceAdd, Nat.reduceMul, Nat.reduceSub, Nat.reduceEqDiff, isB0, isB1, Int32.neg_neg, Nat.zero_add, Nat.add_zero, Nat.mul_zero, Nat.mul_one, Nat.zero_mul], ?_, j2.1.2, j2.2.2.1, FT_l j2.2.1, FU_tr fuk (FU_tr (FU_7 j4.1 (by omega)) (FU_gup c u2)), gup8 u2, by rw [gup11]; exact a11⟩
        have er := eR _ _ j3
        simp -dsimp -implicitDefEqProofs (disch := omega) only [X6_text_L26, r1, m3, e4, e11, e28, er, eb, i32_lit, i32_add, i32_mul, i32_tn, i32_sub, le_t, le_f, lt_t, lt_f, eq_t, eq_f, eq_rfl, inR_t, ↓ob_x, obx_s, ↓bnd_s, ↓oT_x, oTx_s, ↓ite_x, itx_T, itx_F, ↓reduceIte, not_true_eq_false, not_false_eq_true, true_and, and_true, Nat.reduceAdd, Nat.reduceMul, Nat.reduceSub, Nat.reduceEqDiff, isB0, isB1, Int32.neg_neg, Nat.zero_add, Nat.add_zero, Nat.mul_zero, Nat.mul_one, Nat.zero_mul]
      · have kz := j4.2.2.1
        have kb := j4.2.2.2.2.2
        rw [List.append_nil] at kb
        have rl := ra_len P K'
        have w0 := plF_le (B := B) kz
        obtain ⟨fu', rfl⟩ : ∃ q, fu' = q + 1 := ⟨fu' - 1, by omega⟩
        have hu : uw 1 (P ++ []) K' = ([], List.reverseAux P K') := uw_app 1 P [] K' j5
        by_cases h59 : lxS B z (plF B z p') = 59
        · have w1 := lx_pos (B := B) (z := z) (q := plF B z p') (by omega)
          obtain ⟨g3, d1, d2⟩ := pass_t (N := N) hN j2 h59
          obtain ⟨g4, y1, y2, y3⟩ := mw_semi (fu := fu') (m := m') hN j4 h59
          rw [hu, if_pos rfl] at y1
          rw [hu] at y2
          have er := eR _ _ (j3.trans y1)
          obtain ⟨z1, z2, z3, z4, z5, z6, z7, z8⟩ := id d2
          obtain ⟨t1, t2, t3, ⟨t4, t5, t6, t7, t8, t9, t10⟩, t11, t12⟩ := id y2
          generalize hL : List.reverseAux P K' = L at *
          have sL : S q + L.length ≤ 160 := by
            have : S q + L.length + ([] : List Nat).length ≤ _ := t12
            rw [List.length_nil] at this
            omega
          have ft3 : FT c gI (stI g3 (4 + 5 * c + 2) q (i32 (S q + L.length))) := FT_tr (FT_l z8) ⟨fun e a b d f => stI_ne _ _ _ _ _ f, fun j _ => by rw [stI_ne _ _ _ _ _ (by omega)], fun j _ => by rw [stI_ne _ _ _ _ _ (by omega)], fun _ _ => rfl⟩
          have S'q : (fun j => if j ≤ q then S j else S q + L.length) (q + 1) = S q + L.length := if_neg (by omega)
          have C3 : CSt B z c ((fun j => if j ≤ q then S j else S q + L.length) (q + 1)) (stI g3 (4 + 5 * c + 2) q (i32 (S q + L.length))) (stI g3 (4 + 5 * c + 2) q (i32 (S q + L.length))) (lxN B z (plF B z p')) [] := by
            rw [S'q]
            refine ⟨hc, ⟨z2.1, by rw [stI_ne _ _ _ _ _ (by omega)]; exact z2.2.1, by rw [stI_ne _ _ _ _ _ (by omega)]; exact z2.2.2⟩, ?_, z4, z5, by rw [stI_ne _ _ _ _ _ (by omega)]; exact z6, trivial, FCl_rfl _ _ _⟩
            unfold CT
            rw [stI_ne _ _ _ _ _ (by omega)]; exact z3
          have X0 : TxP c q S gI gk := by
            refine ⟨hX.1, fun j hj => ?_⟩
            obtain ⟨a, b, e1, e2, W⟩ := hX.2 j hj
            refine ⟨a, b, e1, by rw [k8, stI_nj _ _ _ _ _ (by omega), r2.1 8 (by omega)]; exact e2, WFx_c _ _ _ (fun k _ _ => ⟨rfl, ?_⟩) W⟩
            show gk.1 7 _ = gM.1 7 _
            rw [kc 7 (by omega) (by omega), r2.1 7 (by omega)]
          have X1 := TxP_fr X0 z8 t11
          have X3 : TxP c (q + 1) (fun j => if j ≤ q then S j else S q + L.length) (stI g3 (4 + 5 * c + 2) q (i32 (S q + L.length))) g4 := by
            refine ⟨by show (if 0 ≤ q then S 0 else _) = 0; rw [if_pos (by omega)]; exact hX.1, fun j hj => ?_⟩
            show (if j ≤ q then S j else S q + L.length) ≤ (if j + 1 ≤ q then S (j + 1) else S q + L.length) ∧ (if j + 1 ≤ q then S (j + 1) else S q + L.length) ≤ (if q + 1 ≤ q then S (q + 1) else S q + L.length) ∧ _ = i32 (if j + 1 ≤ q then S (j + 1) else S q + L.length) ∧ _ = i32 (if j ≤ q then S j else S q + L.length) ∧ WFx _ _ (if j ≤ q then S j else S q + L.length) ((if j + 1 ≤ q then S (j + 1) else S q + L.length) - (if j ≤ q then S j else S q + L.length)) 0
            rw [if_pos (by omega : j ≤ q), if_neg (by omega : ¬ q + 1 ≤ q)]
            by_cases hjq : j = q
            · subst hjq
              rw [if_neg (by omega : ¬ j + 1 ≤ j)]
              refine ⟨by omega, by omega, stI_eq _ _ _ _, ?_, ?_⟩
              · rw [t11.1 8 (by omega) (by omega) (by omega), k8, stI_eq]
              · have W := WF_DP (gI := g3) (gM := g4) L 1 0 z7 t10 j6 rfl
                rw [Nat.add_zero] at W
                rw [stI_ne _ _ _ _ _ (by omega), Nat.add_sub_cancel_left]
                exact W
            · rw [if_pos (by omega : j + 1 ≤ q)]
              obtain ⟨a, b, e1, e2, W⟩ := X1.2 j (by omega)
              exact ⟨a, by omega, by rw [stI_nj _ _ _ _ _ hjq]; exact e1, e2, by rw [stI_ne _ _ _ _ _ (by omega)]; exact W⟩
          have t12' : S q + L.length ≤ lxN B z (plF B z p') := by
            have : S q + L.length + ([] : List Nat).length ≤ _ := t12
            rw [List.length_nil] at this
            omega
          have fu4 : FU c gM g4 := FU_tr fuk (FU_7 t11 (by omega))
          have ep : X4_endPart N (4 + 5 * c) (i32 q) g3 = some (i32 0, stI g3 (4 + 5 * c + 2) q (i32 (S q + L.length))) := by simp -dsimp -implicitDefEqProofs (disch := omega) only [X4_endPart, z6, i32_lit, i32_add, i32_mul, i32_tn, i32_sub, le_t, le_f, lt_t, lt_f, eq_t, eq_f, eq_rfl, inR_t, ↓ob_x, obx_s, ↓bnd_s, ↓oT_x, oTx_s, ↓ite_x, itx_T, itx_F, ↓reduceIte, not_true_eq_false, not_false_eq_true, true_and, and_true, Nat.reduceAdd, Nat.reduceMul, Nat.reduceSub, Nat.reduceEqDiff, isB0, isB1, Int32.neg_neg, Nat.zero_add, Nat.add_zero, Nat.mul_zero, Nat.mul_one, Nat.zero_mul]
          have tz := z5
          rcases ih (q + 1) _ fI fM (fun j => if j ≤ q then S j else S q + L.length) _ g4 (by omega) (by omega) (by omega) C3 t1 t2 t5 (by rw [if_neg (by omega : ¬ q + 1 ≤ q)]; exact t8) (by rw [if_neg (by omega : ¬ q + 1 ≤ q)]; exact t12') X3 with ⟨v1, v2, x, c1, c2, c3, c4, c5, c6, c7, c8⟩ | ⟨v1, v2, c1, c2, c3, c4, c5, c6, c7⟩
          · left
            refine ⟨v1, v2, x, ?_, ?_, c3, c4, FT_tr ft3 c5, FU_tr fu4 c6, c7, c8⟩
            · simp -dsimp -implicitDefEqProofs (disch := omega) only [X3_readsParts_L2, b1, j1, d1, tz, ep, c1, i32_lit, i32_add, i32_mul, i32_tn, i32_sub, le_t, le_f, lt_t, lt_f, eq_t, eq_f, eq_rfl, inR_t, ↓ob_x, obx_s, ↓bnd_s, ↓oT_x, oTx_s, ↓ite_x, itx_T, itx_F, ↓reduceIte, not_true_eq_false, not_false_eq_true, true_and, and_true, Nat.reduceAdd, Nat.reduceMul, Nat.reduceSub, Nat.reduceEqDiff, isB0, isB1, Int32.neg_neg, Nat.zero_add, Nat.add_zero, Nat.mul_zero, Nat.mul_one, Nat.zero_mul]
            · simp -dsimp -implicitDefEqProofs (disch := omega) only [X6_text_L26, r1, m3, e4, e11, e28, er, c2, i32_lit, i32_add, i32_mul, i32_tn, i32_sub, le_t, le_f, lt_t, lt_f, eq_t, eq_f, eq_rfl, inR_t, ↓ob_x, obx_s, ↓bnd_s, ↓oT_x, oTx_s, ↓ite_x, itx_T, itx_F, ↓reduceIte, not_true_eq_false, not_false_eq_true, true_and, and_true, Nat.reduceAdd, Nat.reduceMul, Nat.reduceSub, Nat.reduceEqDiff, isB0, isB1, Int32.neg_neg, Nat.zero_add, Nat.add_zero, Nat.mul_zero, Nat.mul_one, Nat.zero_mul]
          · right
            refine ⟨v1, v2, ?_, ?_, c3, FT_tr ft3 c4, FU_tr fu4 c5, c6, c7⟩
            · simp -dsimp -implicitDefEqProofs (disch := omega) only [X3_readsParts_L2, b1, j1, d1, tz, ep, c1, i32_lit, i32_add, i32_mul, i32_tn, i32_sub, le_t, le_f, lt_t, lt_f, eq_t, eq_f, eq_rfl, inR_t, ↓ob_x, obx_s, ↓bnd_s, ↓oT_x, oTx_s, ↓ite_x, itx_T, itx_F, ↓reduceIte, not_true_eq_false, not_false_eq_true, true_and, and_true, Nat.reduceAdd, Nat.reduceMul, Nat.reduceSub, Nat.reduceEqDiff, isB0, isB1, Int32.neg_neg, Nat.zero_add, Nat.add_zero, Nat.mul_zero, Nat.mul_one, Nat.zero_mul]
            · simp -dsimp -implicitDefEqProofs (disch := omega) only [X6_text_L26, r1, m3, e4, e11, e28, er, c2, i32_lit, i32_add, i32_mul, i32_tn, i32_sub, le_t, le_f, lt_t, lt_f, eq_t, eq_f, eq_rfl, inR_t, ↓ob_x, obx_s, ↓bnd_s, ↓oT_x, oTx_s, ↓ite_x, itx_T, itx_F, ↓reduceIte, not_true_eq_false, not_false_eq_true, true_and, and_true, Nat.reduceAdd, Nat.reduceMul, Nat.reduceSub, Nat.reduceEqDiff, isB0, isB1, Int32.neg_neg, Nat.zero_add, Nat.add_zero, Nat.mul_zero, Nat.mul_one, Nat.zero_mul]
        · left
          have pf := pass_f (N := N) j2 (w := 59) ⟨h59, by omega⟩
          have fl := cFl j2 (by rw [rl]; omega)
          have key : ∃ g4, X6_eRead_L14 N N (i32 1) (i32 1) gk = some (i32 0, g4) ∧ FlM c (S q) gk g4 (plF B z p') := by
            by_cases h41 : lxS B z (plF B z p') = 41
            · obtain ⟨g4, y1, y2⟩ := mw_cl0 (fu := fu') (m := m') hN j4 h41 (by rw [hu])
              exact ⟨g4, j3.trans y1, y2⟩
            · obtain ⟨g4, y1, y2⟩ := mw_off (fu := fu') (m := m') hN j4 j10 ⟨j11, j12, h41, h59⟩
              exact ⟨g4, j3.trans y1, y2⟩
          obtain ⟨g4, y1, y2⟩ := key
          have a11 : g4.1 0 11 = i32 c := by rw [y2.1.2.1 11 (by omega) (by omega), k0 11 (by omega) (by omega)]; exact e11
          have eb := gbad g4 _ fM a11 y2.2 (by omega)
          refine ⟨u1, gup c g4, plF B z p', by simp -dsimp -implicitDefEqProofs (disch := omega) only [X3_readsParts_L2, b1, j1, pf, i32_lit, i32_add, i32_mul, i32_tn, i32_sub, le_t, le_f, lt_t, lt_f, eq_t, eq_f, eq_rfl, inR_t, ↓ob_x, obx_s, ↓bnd_s, ↓oT_x, oTx_s, ↓ite_x, itx_T, itx_F, ↓reduceIte, not_true_eq_false, not_false_eq_true, true_and, and_true, Nat.reduceAdd, Nat.reduceMul, Nat.reduceSub, Nat.reduceEqDiff, isB0, isB1, Int32.neg_neg, Nat.zero_add, Nat.add_zero, Nat.mul_zero, Nat.mul_one, Nat.zero_mul], ?_, by omega, fl.2.2.1, FT_l fl.2.1, FU_tr fuk (FU_tr (FU_7 y2.1 (by omega)) (FU_gup c g4)), gup8 g4, by rw [gup11]; exact a11⟩
          have er := eR _ _ y1
          simp -dsimp -implicitDefEqProofs (disch := omega) only [X6_text_L26, r1, m3, e4, e11, e28, er, eb, i32_lit, i32_add, i32_mul, i32_tn, i32_sub, le_t, le_f, lt_t, lt_f, eq_t, eq_f, eq_rfl, inR_t, ↓ob_x, obx_s, ↓bnd_s, ↓oT_x, oTx_s, ↓ite_x, itx_T, itx_F, ↓reduceIte, not_true_eq_false, not_false_eq_true, true_and, and_true, Nat.reduceAdd, Nat.reduceMul, Nat.reduceSub, Nat.reduceEqDiff, isB0, isB1, Int32.neg_neg, Nat.zero_add, Nat.add_zero, Nat.mul_zero, Nat.mul_one, Nat.zero_mul]
    · left
      have pf := pass_f (N := N) hC (w := 260 + q) ⟨hk, by omega⟩
      have a11 : (stI g1 8 (4 * c + q) (i32 (S q))).1 0 11 = i32 c := by rw [stI_ne _ _ _ _ _ (by omega)]; exact e11
      have a21 : (stI g1 8 (4 * c + q) (i32 (S q))).1 0 21 = i32 (plF B z p) := by rw [stI_ne _ _ _ _ _ (by omega)]; exact m2
      have eb := gbad _ _ fM a11 a21 (by omega)
      refine ⟨gI, gup c (stI g1 8 (4 * c + q) (i32 (S q))), plF B z p, by simp -dsimp -implicitDefEqProofs (disch := omega) only [X3_readsParts_L2, pf, i32_lit, i32_add, i32_mul, i32_tn, i32_sub, le_t, le_f, lt_t, lt_f, eq_t, eq_f, eq_rfl, inR_t, ↓ob_x, obx_s, ↓bnd_s, ↓oT_x, oTx_s, ↓ite_x, itx_T, itx_F, ↓reduceIte, not_true_eq_false, not_false_eq_true, true_and, and_true, Nat.reduceAdd, Nat.reduceMul, Nat.reduceSub, Nat.reduceEqDiff, isB0, isB1, Int32.neg_neg, Nat.zero_add, Nat.add_zero, Nat.mul_zero, Nat.mul_one, Nat.zero_mul], ?_, by omega, hC.2.2.1.2.1, FT_l (s := S q) (FCl_rfl _ _ _), FU_tr fu1 (FU_gup c _), gup8 _, by rw [gup11]; exact a11⟩
      by_cases h3' : tkF (lxS B z (plF B z p)) = i32 3
      · have hs : 260 ≤ lxS B z (plF B z p) ∧ lxS B z (plF B z p) < 263 := by
          rcases tk_cases B z (plF B z p) with ⟨t, e⟩ | ⟨t, e⟩ | ⟨t, e⟩ | ⟨t, e⟩ | ⟨t, e⟩ | ⟨t, e⟩ | ⟨t, e⟩ | ⟨t, t', e⟩ | ⟨t, e⟩
          · rw [e] at h3'; exact absurd h3' (by decide)
          · rw [e] at h3'; exact absurd h3' (by decide)
          · rw [e] at h3'; exact absurd h3' (by decide)
          · rw [e] at h3'; exact absurd h3' (by decide)
          · rw [e] at h3'; exact absurd h3' (by decide)
          · rw [e] at h3'; exact absurd h3' (by decide)
          · rw [e] at h3'; exact absurd h3' (by decide)
          · exact ⟨t, t'⟩
          · rw [e, i32_inj (by omega) (by omega)] at h3'; omega
        have e4 : g1.1 0 23 = i32 (lxS B z (plF B z p) - 260) := by
          rw [m4 (Or.inl hs)]
          unfold vlF
          rw [if_neg (by omega)]
        rw [h3'] at m3
        simp -dsimp -implicitDefEqProofs (disch := omega) only [X6_text_L26, r1, m3, e4, e11, e28, eb, i32_lit, i32_add, i32_mul, i32_tn, i32_sub, le_t, le_f, lt_t, lt_f, eq_t, eq_f, eq_rfl, inR_t, ↓ob_x, obx_s, ↓bnd_s, ↓oT_x, oTx_s, ↓ite_x, itx_T, itx_F, ↓reduceIte, not_true_eq_false, not_false_eq_true, true_and, and_true, Nat.reduceAdd, Nat.reduceMul, Nat.reduceSub, Nat.reduceEqDiff, isB0, isB1, Int32.neg_neg, Nat.zero_add, Nat.add_zero, Nat.mul_zero, Nat.mul_one, Nat.zero_mul]
      · have n3 : (g1.1 0 22 = i32 3) = False := by rw [m3]; exact eq_false h3'
        simp -dsimp -implicitDefEqProofs (disch := omega) only [X6_text_L26, r1, n3, e11, e28, eb, i32_lit, i32_add, i32_mul, i32_tn, i32_sub, le_t, le_f, lt_t, lt_f, eq_t, eq_f, eq_rfl, inR_t, ↓ob_x, obx_s, ↓bnd_s, ↓oT_x, oTx_s, ↓ite_x, itx_T, itx_F, ↓reduceIte, not_true_eq_false, not_false_eq_true, true_and, and_true, Nat.reduceAdd, Nat.reduceMul, Nat.reduceSub, Nat.reduceEqDiff, isB0, isB1, Int32.neg_neg, Nat.zero_add, Nat.add_zero, Nat.mul_zero, Nat.mul_one, Nat.zero_mul]
/-- one text from its first byte on -/
theorem text_core {N z c : Nat} (hN : 6000 ≤ N) (hc : c < 6) {B : Nat → Nat} {gI gM : Mem} (hI : TI B z gI) (hM : TM B z gM) (h11 : gM.1 0 11 = i32 c) :
    (∃ gI' gM' x, X3_readInto N (4 + 5 * c) gI = some (i32 x, gI') ∧ X6_text N gM = some (-(i32 100) - i32 x, gM') ∧ x ≤ 160 ∧ FT c gI gI' ∧ FU c gM gM' ∧ gM'.1 0 8 = i32 0 ∧ gM'.1 0 11 = i32 c) ∨
    (∃ gI' gM', X3_readInto N (4 + 5 * c) gI = some (-(i32 1), gI') ∧ X6_text N gM = some (i32 c, gM') ∧ TxI c gI' gM' ∧ FT c gI gI' ∧ FU c gM gM' ∧ gM'.1 0 8 = i32 0 ∧ gM'.1 0 11 = i32 (c + 1)) := by
  have hz := hI.1
  generalize hg : stI (stI (stR gI 0 (4 + 5 * c)) (4 + 5 * c) 2 (i32 0)) 0 2 (i32 0) = g
  have f0 : FT c gI g := by
    rw [← hg]
    exact ⟨fun e a b _ _ => by rw [stI_ne _ _ _ _ _ a, stI_ne _ _ _ _ _ b]; rfl, fun j hj => by rw [stI_nj _ _ _ _ _ (by omega), stI_ne _ _ _ _ _ (by omega)]; rfl, fun j hj => by rw [stI_ne _ _ _ _ _ (by omega), stI_nj _ _ _ _ _ hj]; rfl, fun e he => by show (stR gI 0 (4 + 5 * c)).2 e = _; rw [stR_2, if_neg he]⟩
  have T0 : TI B z g := ⟨hI.1, by rw [f0.2.1 1 (by omega)]; exact hI.2.1, by rw [f0.1 1 (by omega) (by omega) (by omega) (by omega)]; exact hI.2.2⟩
  have g2 : g.1 0 2 = i32 0 := by rw [← hg]; exact stI_eq _ _ _ _
  obtain ⟨g1, r1, r2, r3⟩ := next_I2 hN T0 (Nat.zero_le z) g2
  have made : g1.2 0 = some (4 + 5 * c) := by
    rw [r2.2.2, ← hg]
    show (stR gI 0 (4 + 5 * c)).2 0 = _
    rw [stR_2, if_pos rfl]
  have cnt0 : g1.1 (4 + 5 * c) 2 = i32 0 := by
    rw [r2.1 _ (by omega), ← hg, stI_ne _ _ _ _ _ (by omega), stI_eq]
  have C0 : CSt B z c 0 g1 g1 0 [] := ⟨hc, TI_FR T0 r2, r3, Nat.zero_le z, made, cnt0, trivial, FCl_rfl _ _ _⟩
  have f1 : FT c gI g1 := FT_tr f0 (FT_l (s := 0) (FCl_FR r2))
  have fm : FU c gM (stI (stI gM 0 20 (i32 0)) 0 28 (i32 0)) := ⟨fun e a _ _ _ => by rw [stI_ne _ _ _ _ _ a, stI_ne _ _ _ _ _ a], fun j _ _ _ _ => by rw [stI_nj _ _ _ _ _ (by omega), stI_nj _ _ _ _ _ (by omega)], fun j _ => by rw [stI_ne _ _ _ _ _ (by omega), stI_ne _ _ _ _ _ (by omega)], fun j _ => by rw [stI_ne _ _ _ _ _ (by omega), stI_ne _ _ _ _ _ (by omega)]⟩
  have Tm : TM B z (stI (stI gM 0 20 (i32 0)) 0 28 (i32 0)) := ⟨hM.1, by simp -dsimp -implicitDefEqProofs (disch := omega) only [stI_eq, stI_nj, stI_ne, stI_2, stA_eq, stA_ne, stA_2, stR_1, stR_2]; exact hM.2.1, by rw [fm.1 6 (by omega) (by omega) (by omega) (by omega)]; exact hM.2.2.1, fun j hj => by rw [fm.1 15 (by omega) (by omega) (by omega) (by omega)]; exact hM.2.2.2 j hj⟩
  have hr : X3_readInto N (4 + 5 * c) gI = ob (X3_readsParts N g1) (fun v18 u17 => if v18 = 0 then some (u17.1 0 3, u17) else some (-1, u17)) := by
    have r1' : X3_next N (stI (stI (stR gI 0 (4 + 5 * c)) (4 + 5 * c) 2 (i32 0)) 0 2 (i32 0)) = some (i32 0, g1) := by rw [hg]; exact r1
    have m0 : (stR gI 0 (4 + 5 * c)).2 0 = some (4 + 5 * c) := by rw [stR_2, if_pos rfl]
    simp -dsimp -implicitDefEqProofs (disch := omega) only [X3_readInto, X4_clear, m0, r1', i32_lit, i32_add, i32_mul, i32_tn, i32_sub, le_t, le_f, lt_t, lt_f, eq_t, eq_f, eq_rfl, inR_t, ↓ob_x, obx_s, ↓bnd_s, ↓oT_x, oTx_s, ↓ite_x, itx_T, itx_F, ↓reduceIte, not_true_eq_false, not_false_eq_true, true_and, and_true, Nat.reduceAdd, Nat.reduceMul, Nat.reduceSub, Nat.reduceEqDiff, isB0, isB1, Int32.neg_neg, Nat.zero_add, Nat.add_zero, Nat.mul_zero, Nat.mul_one, Nat.zero_mul]
  have n6 : ¬ gM.1 0 11 = (6 : Int32) := by rw [h11]; intro q; have : i32 c = i32 6 := q; rw [i32_inj (by omega) (by omega)] at this; omega
  have hm : X6_text N gM = X6_text_L26 N N (i32 1) (i32 0) (stI (stI gM 0 20 (i32 0)) 0 28 (i32 0)) := by
    unfold X6_text
    rw [if_pos n6]
    rfl
  rw [hr, hm]
  have hp : X3_readsParts N g1 = X3_readsParts_L2 N N (i32 0) g1 := rfl
  rw [hp]
  rcases parts_l hN hc (B := B) (z := z) 3 0 0 N N (fun _ => 0) g1 (stI (stI gM 0 20 (i32 0)) 0 28 (i32 0)) (by omega) (by omega) (by omega) C0 Tm (by simp -dsimp -implicitDefEqProofs (disch := omega) only [stI_eq, stI_nj, stI_ne, stI_2, stA_eq, stA_ne, stA_2, stR_1, stR_2]) (by simp -dsimp -implicitDefEqProofs (disch := omega) only [stI_eq, stI_nj, stI_ne, stI_2, stA_eq, stA_ne, stA_2, stR_1, stR_2]; exact h11) (stI_eq _ _ _ _) (Nat.le_refl 0) ⟨rfl, fun j hj => by omega⟩ with ⟨v1, v2, x, c1, c2, c3, c4, c5, c6, c7, c8⟩ | ⟨v1, v2, c1, c2, c3, c4, c5, c6, c7⟩
  · left
    refine ⟨v1, v2, x, ?_, c2, c3, FT_tr f1 c5, FU_tr fm c6, c7, c8⟩
    rw [c1, ob_s]
    show (if i32 0 = i32 0 then _ else _) = _
    rw [if_pos rfl, c4]
  · right
    refine ⟨v1, v2, ?_, c2, c3, FT_tr f1 c4, FU_tr fm c5, c6, c7⟩
    rw [c1, ob_s, if_neg (by decide)]
    rfl
theorem TxI_pt {j c : Nat} {gI gM gI' gM' : Mem} (h : TxI j gI gM) (hj : j < c) (hc : c < 6) (f : FT c gI gI') (g : FU c gM gM') : TxI j gI' gM' := by
  intro p hp
  obtain ⟨s, e, h1, h2, h3, h4, h5, h6, h7, W⟩ := h p hp
  refine ⟨s, e, h1, h2, h3, fun q => ?_, ?_, ?_, ?_, WFx_c _ _ _ (fun k k1 k2 => ⟨?_, g.2.2.1 _ (by omega)⟩) W⟩
  · rw [f.1 _ (by omega) (by omega) (by omega) (by omega)]; exact h4 q
  · rw [f.1 _ (by omega) (by omega) (by omega) (by omega)]; exact h5
  · rw [g.2.2.2 _ (by omega)]; exact h6
  · rw [g.2.2.2 _ (by omega)]; exact h7
  · rw [f.1 _ (by omega) (by omega) (by omega) (by omega)]
/-- a scene, the texts apart -/
theorem Sc_tx {b d i : Nat} {gI gM gI' gM' : Mem} (h : Sc b d i gI gM) (hT : TxI i gI' gM') (l1 : ∀ e, b ≤ e → e ≤ b + 9 → gI'.1 e = gI.1 e) (l2 : gI'.2 b = gI.2 b) (m3 : gM'.1 3 = gM.1 3) (m4 : gM'.1 4 = gM.1 4) (m5 : gM'.1 5 = gM.1 5) (m1 : gM'.1 1 = gM.1 1) (m2 : gM'.1 2 = gM.1 2) (m0 : ∀ j, j = 0 ∨ j = 6 ∨ j = 12 → gM'.1 0 j = gM.1 0 j) : Sc b d i gI' gM' := by
  obtain ⟨⟨a1, a2, a3⟩, b1, b2, b3, b4, b5, b6, b7, b8, b9, b10, b11, b12, b13, b14⟩ := h
  refine ⟨⟨a1, a2, a3⟩, ?_, ?_, ?_, ?_, ?_, ?_, ?_, ?_, ?_, ?_, ?_, ?_, ?_, hT⟩
  · rw [l1 _ (by omega) (by omega), m5]; exact b1
  · rw [l1 _ (by omega) (by omega), m4]; exact b2
  · rw [l1 _ (by omega) (by omega), m4]; exact b3
  · rw [l1 _ (by omega) (by omega), m4]; exact b4
  · rw [l1 _ (by omega) (by omega), m4]; exact b5
  · rw [l1 _ (by omega) (by omega), m3]; exact b6
  · rw [l1 _ (by omega) (by omega)]; exact b7
  · rw [m0 0 (by omega)]; exact b8
  · rw [l1 _ (by omega) (by omega), m1]; exact b9
  · rw [l1 _ (by omega) (by omega), m2]; exact b10
  · rw [l1 _ (by omega) (by omega), m0 6 (by omega)]; exact b11
  · rw [l2]; exact b12
  · rw [m0 12 (by omega)]; exact b13
theorem imM_T {i : Nat} {gI gM : Mem} (h : TxI i gI (imM gM)) : TxI i gI gM := TxI_fr h rfl rfl (imM_c gM 7 (by omega) (by omega) (by omega) (by omega)).symm (imM_c gM 8 (by omega) (by omega) (by omega) (by omega)).symm
theorem imM_T' {i : Nat} {gI gM : Mem} (h : TxI i gI gM) : TxI i gI (imM gM) := TxI_fr h rfl rfl (imM_c gM 7 (by omega) (by omega) (by omega) (by omega)) (imM_c gM 8 (by omega) (by omega) (by omega) (by omega))
/-- what a text leaves alike: a new one (q = 1), or none -/
theorem RR_text {d i c q : Nat} {gI gM gI' gM' : Mem} (hR : RR d i c gI gM) (hc : c < 6) (hq : q ≤ 1) (f : FT c gI gI') (g : FU c gM gM') (h8 : gM'.1 0 8 = i32 0) (h11 : gM'.1 0 11 = i32 (c + q)) (hT : q = 1 → TxI c gI' gM') : RR d i (c + q) (stI (stI gI' 0 1 (i32 0)) 72 2 (i32 (c + q))) gM' := by
  obtain ⟨⟨hS, hB, hG, hH⟩, ⟨t1, t2, t3, t4, t5, t6⟩, ⟨z, ⟨_, zw⟩, _⟩, hSh, hK⟩ := hR
  have x : ∀ e, ¬ e = 0 → ¬ e = 72 → (stI (stI gI' 0 1 (i32 0)) 72 2 (i32 (c + q))).1 e = gI'.1 e := fun e a b => by rw [stI_ne _ _ _ _ _ b, stI_ne _ _ _ _ _ a]
  have y : ∀ e, 34 ≤ e → ¬ e = 72 → (stI (stI gI' 0 1 (i32 0)) 72 2 (i32 (c + q))).1 e = gI.1 e := fun e a b => by rw [x e (by omega) b, f.1 e (by omega) (by omega) (by omega) (by omega)]
  have w : ∀ e, ¬ e = 0 → ¬ e = 7 → ¬ e = 8 → ¬ e = 16 → gM'.1 e = gM.1 e := g.1
  have w0 : ∀ j, (j ≤ 7 ∨ (9 ≤ j ∧ j ≤ 10) ∨ (12 ≤ j ∧ j ≤ 19)) → gM'.1 0 j = gM.1 0 j := fun j hj => g.2.1 j (by omega) (by omega) (by omega) (by omega)
  have T : ∀ j, j < c + q → TxI j (stI (stI gI' 0 1 (i32 0)) 72 2 (i32 (c + q))) gM' := fun j hj => by
    have hT0 : TxI j gI' gM' := by
      by_cases hjc : j < c
      · exact TxI_pt (t6 j hjc) hjc hc f g
      · have hjc' : j = c := by omega
        subst hjc'
        exact hT (by omega)
    exact TxI_fr hT0 (x _ (by omega) (by omega)) (x _ (by omega) (by omega)) rfl rfl
  have r2 : ∀ e, ¬ e = 0 → (stI (stI gI' 0 1 (i32 0)) 72 2 (i32 (c + q))).2 e = gI.2 e := fun e he => f.2.2.2 e he
  have wI : ∀ e, ¬ e = 0 → ¬ e = 3 → ¬ e = 4 → ¬ e = 5 → ¬ e = 7 → ¬ e = 8 → ¬ e = 16 → (imM gM').1 e = (imM gM).1 e := fun e a b c d e1 e2 e3 => by rw [imM_c _ _ a b c d, imM_c _ _ a b c d]; exact w e a e1 e2 e3
  have w9 := w 9 (by omega) (by omega) (by omega) (by omega)
  have w10 := w 10 (by omega) (by omega) (by omega) (by omega)
  have i3 : (imM gM').1 3 = (imM gM).1 3 := by funext j; show gM'.1 9 j = gM.1 9 j; rw [w9]
  have i4 : (imM gM').1 4 = (imM gM).1 4 := by funext j; show gM'.1 9 (12 + j) = gM.1 9 (12 + j); rw [w9]
  have i5 : (imM gM').1 5 = (imM gM).1 5 := by funext j; show gM'.1 9 (60 + j) = gM.1 9 (60 + j); rw [w9]
  have i0 : ∀ j, j = 0 ∨ j = 6 ∨ j = 12 → (imM gM').1 0 j = (imM gM).1 0 j := fun j hj => by rw [imM_0 _ _ hj, imM_0 _ _ hj, w10]
  refine ⟨⟨Sc_tx hS (T i (by omega)) (fun e a b => y e (by omega) (by omega)) (r2 42 (by omega)) (w 3 (by omega) (by omega) (by omega) (by omega)) (w 4 (by omega) (by omega) (by omega) (by omega)) (w 5 (by omega) (by omega) (by omega) (by omega)) (w 1 (by omega) (by omega) (by omega) (by omega)) (w 2 (by omega) (by omega) (by omega) (by omega)) (fun j hj => w0 j (by omega)), ?_, ?_, by rw [w0 6 (by omega)]; exact hH⟩, ⟨by omega, by omega, stI_eq _ _ _ _, h11, fun j hj => ?_, T⟩, ⟨0, ⟨by omega, fun j hj => by rw [w 15 (by omega) (by omega) (by omega) (by omega)]; exact zw j hj⟩, by rw [stI_ne _ _ _ _ _ (by omega), stI_eq], h8, fun j hj => by omega⟩, Sh_same hSh (fun e he => y e (by omega) (by omega)) (w 11 (by omega) (by omega) (by omega) (by omega)) (w 12 (by omega) (by omega) (by omega) (by omega)) (w 13 (by omega) (by omega) (by omega) (by omega)), ?_⟩
  · unfold Bd
    rw [w 5 (by omega) (by omega) (by omega) (by omega), w 4 (by omega) (by omega) (by omega) (by omega), w 3 (by omega) (by omega) (by omega) (by omega), w 1 (by omega) (by omega) (by omega) (by omega), w 2 (by omega) (by omega) (by omega) (by omega)]; exact hB
  · intro p hp
    rw [y _ (by omega) (by omega), w 3 (by omega) (by omega) (by omega) (by omega)]; exact hG p hp
  · rw [x _ (by omega) (by omega)]
    by_cases hjc : j = c
    · subst hjc; rw [f.2.2.1 0 (by omega)]; exact t5 j hj
    · rw [f.1 _ (by omega) (by omega) (by omega) (by omega)]; exact t5 j hj
  · have k72 : (stI (stI gI' 0 1 (i32 0)) 72 2 (i32 (c + q))).1 72 7 = gI.1 72 7 := by rw [stI_nj _ _ _ _ _ (by omega), stI_ne _ _ _ _ _ (by omega), f.1 72 (by omega) (by omega) (by omega) (by omega)]
    rcases hK with ⟨a, b⟩ | ⟨a, b, e, k, h1, h2, h3, h4, h5, h6⟩
    · exact Or.inl ⟨by rw [k72]; exact a, by rw [w0 13 (by omega)]; exact b⟩
    · refine Or.inr ⟨by rw [k72]; exact a, by rw [w0 13 (by omega)]; exact b, e, k, h1, by omega, Sc_tx h3 (imM_T' (T k (by omega))) (fun e a b => y e (by omega) (by omega)) (r2 62 (by omega)) i3 i4 i5 (wI 1 (by omega) (by omega) (by omega) (by omega) (by omega) (by omega) (by omega)) (wI 2 (by omega) (by omega) (by omega) (by omega) (by omega) (by omega) (by omega)) i0, ?_, ?_, by rw [i0 6 (by omega)]; exact h6⟩
      · unfold Bd
        rw [i5, i4, i3, wI 1 (by omega) (by omega) (by omega) (by omega) (by omega) (by omega) (by omega), wI 2 (by omega) (by omega) (by omega) (by omega) (by omega) (by omega) (by omega)]; exact h4
      · intro p hp
        rw [y _ (by omega) (by omega), i3]; exact h5 p hp
/-- the bytes as plain numbers -/
def nB (g : Mem) (j : Nat) : Nat := (g.1 6 j).toNatClampNeg
set_option maxRecDepth 100000 in
theorem e_text {N : Nat} (hN : 6000 ≤ N) {gI gM : Mem} (h : R gI gM) : EQ (X5_text N gI) (X6_text N gM) := by
  obtain ⟨d, i, c, hR⟩ := h
  obtain ⟨_, ⟨t1, t2, t3, t4, t5, t6⟩, ⟨z, ⟨z1, zw⟩, z2, z3, z4⟩, _⟩ := id hR
  by_cases hc : c = 6
  · subst hc
    exact ⟨-4, gI, gM, by simp -dsimp -implicitDefEqProofs (disch := omega) only [X5_text, t3, i32_lit, i32_add, i32_mul, i32_tn, i32_sub, le_t, le_f, lt_t, lt_f, eq_t, eq_f, eq_rfl, inR_t, ↓ob_x, obx_s, ↓bnd_s, ↓oT_x, oTx_s, ↓ite_x, itx_T, itx_F, ↓reduceIte, not_true_eq_false, not_false_eq_true, true_and, and_true, Nat.reduceAdd, Nat.reduceMul, Nat.reduceSub, Nat.reduceEqDiff, isB0, isB1, Int32.neg_neg, Nat.zero_add, Nat.add_zero, Nat.mul_zero, Nat.mul_one, Nat.zero_mul], by simp -dsimp -implicitDefEqProofs (disch := omega) only [X6_text, t4, i32_lit, i32_add, i32_mul, i32_tn, i32_sub, le_t, le_f, lt_t, lt_f, eq_t, eq_f, eq_rfl, inR_t, ↓ob_x, obx_s, ↓bnd_s, ↓oT_x, oTx_s, ↓ite_x, itx_T, itx_F, ↓reduceIte, not_true_eq_false, not_false_eq_true, true_and, and_true, Nat.reduceAdd, Nat.reduceMul, Nat.reduceSub, Nat.reduceEqDiff, isB0, isB1, Int32.neg_neg, Nat.zero_add, Nat.add_zero, Nat.mul_zero, Nat.mul_one, Nat.zero_mul], d, i, 6, hR⟩
  · have b : ∀ j, j < z → nB gM j < 256 ∧ gM.1 6 j = i32 (nB gM j) := fun j hj => by
      obtain ⟨n, hn, e⟩ := (z4 j hj).2
      unfold nB
      rw [e, i32_tn (by omega)]
      exact ⟨by omega, rfl⟩
    have hI : TI (nB gM) z gI := ⟨z1, z2, fun j hj => ⟨(b j hj).1, (z4 j hj).1.trans (b j hj).2⟩⟩
    have hM : TM (nB gM) z gM := ⟨z1, z3, b, zw⟩
    rcases text_core hN (by omega : c < 6) hI hM t4 with ⟨g1, m1, x, r1, r2, r3, r4, r5, r6, r7⟩ | ⟨g1, m1, r1, r2, r3, r4, r5, r6, r7⟩
    · have hR2 := RR_text (q := 0) hR (by omega) (by omega) r4 r5 r6 r7 (fun q => by omega)
      have e72 : (stI g1 0 1 (i32 0)).1 72 2 = i32 c := by rw [stI_ne _ _ _ _ _ (by omega), r4.1 72 (by omega) (by omega) (by omega) (by omega)]; exact t3
      rw [Nat.add_zero, stI_own _ 72 2 (i32 c) e72.symm] at hR2
      exact ⟨-(i32 100) - i32 x, stI g1 0 1 (i32 0), m1, by simp -dsimp -implicitDefEqProofs (disch := omega) only [X5_text, X3_clear, t3, r1, i32_lit, i32_add, i32_mul, i32_tn, i32_sub, le_t, le_f, lt_t, lt_f, eq_t, eq_f, eq_rfl, inR_t, ↓ob_x, obx_s, ↓bnd_s, ↓oT_x, oTx_s, ↓ite_x, itx_T, itx_F, ↓reduceIte, not_true_eq_false, not_false_eq_true, true_and, and_true, Nat.reduceAdd, Nat.reduceMul, Nat.reduceSub, Nat.reduceEqDiff, isB0, isB1, Int32.neg_neg, Nat.zero_add, Nat.add_zero, Nat.mul_zero, Nat.mul_one, Nat.zero_mul], r2, d, i, c, hR2⟩
    · have hR2 := RR_text (q := 1) hR (by omega) (by omega) r4 r5 r6 r7 (fun _ => r3)
      have e72 : (stI g1 0 1 (i32 0)).1 72 2 = i32 c := by rw [stI_ne _ _ _ _ _ (by omega), r4.1 72 (by omega) (by omega) (by omega) (by omega)]; exact t3
      exact ⟨i32 c, _, m1, by simp -dsimp -implicitDefEqProofs (disch := omega) only [X5_text, X3_clear, t3, r1, e72, neg1_lt, Nat.add_sub_cancel, i32_lit, i32_add, i32_mul, i32_tn, i32_sub, le_t, le_f, lt_t, lt_f, eq_t, eq_f, eq_rfl, inR_t, ↓ob_x, obx_s, ↓bnd_s, ↓oT_x, oTx_s, ↓ite_x, itx_T, itx_F, ↓reduceIte, not_true_eq_false, not_false_eq_true, true_and, and_true, Nat.reduceAdd, Nat.reduceMul, Nat.reduceSub, Nat.reduceEqDiff, isB0, isB1, Int32.neg_neg, Nat.zero_add, Nat.add_zero, Nat.mul_zero, Nat.mul_one, Nat.zero_mul, stI_eq, stI_nj, stI_ne, stI_2, stA_eq, stA_ne, stA_2, stR_1, stR_2], r2, d, i, c + 1, hR2⟩
