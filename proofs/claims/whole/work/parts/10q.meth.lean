/-! skies, breaths: how many, the least; kinds -/
def ct : Nat → Int32
  | 0 => -(i32 1)
  | n + 1 => i32 n
theorem ct_s (n : Nat) : i32 n + -(i32 1) = ct n := by
  cases n with
  | zero => show i32 0 + -(i32 1) = -(i32 1); decide
  | succ n => rw [m1_add (by omega)]; rfl
theorem ct_0 : ct 0 = -(i32 1) := rfl
theorem ct_n (n : Nat) : ct (n + 1) = i32 n := rfl
theorem neg1_lt : (-(i32 1) < i32 0) = True := eq_true (by decide)
def dnF (c : Nat → Nat) : Nat → Int32 → Int32 → Int32 × Int32
  | 0, m, l => (m, l)
  | n + 1, m, l => if c n = 0 then dnF c n m l else dnF c n (m + i32 1) (i32 n)
def upF (c : Nat → Nat) : Nat → Nat → Int32 → Int32 → Int32 × Int32
  | _, 0, m, l => (m, l)
  | j, n + 1, m, l => if c j = 0 then upF c (j + 1) n m l else upF c (j + 1) n (m + i32 1) (if l = -(i32 1) then i32 j else l)
def stF (c : Nat → Nat) (k : Nat) (q : Int32 × Int32) : Int32 × Int32 := if c k = 0 then q else (q.1 + i32 1, if q.2 = -(i32 1) then i32 k else q.2)
theorem upF_s (c : Nat → Nat) : ∀ (n j : Nat) (m l : Int32), upF c j (n + 1) m l = stF c (j + n) (upF c j n m l)
  | 0, j, m, l => by
    by_cases h : c j = 0
    · rw [upF, upF, if_pos h, upF, stF, Nat.add_zero, if_pos h]
    · rw [upF, upF, if_neg h, upF, stF, Nat.add_zero, if_neg h]
  | n + 1, j, m, l => by
    rw [show j + (n + 1) = j + 1 + n by omega]
    by_cases h : c j = 0
    · have e1 : upF c j (n + 1 + 1) m l = upF c (j + 1) (n + 1) m l := by rw [upF, if_pos h]
      have e2 : upF c j (n + 1) m l = upF c (j + 1) n m l := by rw [upF, if_pos h]
      rw [e1, e2, upF_s c n (j + 1) m l]
    · have e1 : upF c j (n + 1 + 1) m l = upF c (j + 1) (n + 1) (m + i32 1) (if l = -(i32 1) then i32 j else l) := by rw [upF, if_neg h]
      have e2 : upF c j (n + 1) m l = upF c (j + 1) n (m + i32 1) (if l = -(i32 1) then i32 j else l) := by rw [upF, if_neg h]
      rw [e1, e2, upF_s c n (j + 1)]
theorem upF_m (c : Nat → Nat) : ∀ (n j : Nat) (m l : Int32), upF c j n (m + i32 1) l = ((upF c j n m l).1 + i32 1, (upF c j n m l).2)
  | 0, j, m, l => rfl
  | n + 1, j, m, l => by
    rw [upF, upF]
    by_cases h : c j = 0
    · rw [if_pos h, if_pos h, upF_m c n]
    · rw [if_neg h, if_neg h, upF_m c n]
theorem dn_up (c : Nat → Nat) : ∀ (n : Nat), n < 1000 → ∀ (m l : Int32), dnF c n m l = ((upF c 0 n m (-(i32 1))).1, if (upF c 0 n m (-(i32 1))).2 = -(i32 1) then l else (upF c 0 n m (-(i32 1))).2)
  | 0, _, m, l => by
    simp only [dnF, upF, if_pos]
  | n + 1, hn, m, l => by
    rw [dnF, upF_s, Nat.zero_add, stF]
    by_cases h : c n = 0
    · rw [if_pos h, if_pos h, dn_up c n (by omega)]
    · rw [if_neg h, if_neg h, dn_up c n (by omega), upF_m]
      have n1 : ¬ i32 n = -(i32 1) := fun q => (of_eq_true (eq_true q) |> fun q => by rw [ne_m (by omega)] at q; exact q)
      by_cases h2 : (upF c 0 n m (-(i32 1))).2 = -(i32 1)
      · rw [if_pos h2]
        show (_, i32 n) = (_, if i32 n = -(i32 1) then l else i32 n)
        rw [if_neg n1]
      · rw [if_neg h2]
        show (_, (upF c 0 n m (-(i32 1))).2) = (_, if (upF c 0 n m (-(i32 1))).2 = -(i32 1) then l else (upF c 0 n m (-(i32 1))).2)
        rw [if_neg h2]
theorem dn_up1 (c : Nat → Nat) (n : Nat) (hn : n < 1000) (m : Int32) : dnF c n m (-(i32 1)) = upF c 0 n m (-(i32 1)) := by
  rw [dn_up c n hn]
  by_cases h : (upF c 0 n m (-(i32 1))).2 = -(i32 1)
  · rw [if_pos h]
    exact Prod.ext rfl h.symm
  · rw [if_neg h]
def sel (w : Nat) (q : Int32 × Int32) : Int32 := if w = 0 then q.1 else q.2
def skC (gM : Mem) (i s t m v : Nat) : Nat := if unF gM i s t 0 m (i32 v) (gM.1 0 6) = -(i32 1) then 1 else 0
set_option maxRecDepth 100000 in
theorem skies_I {N i s m t w : Nat} (hN : 6000 ≤ N) (hw : w < 2) (hi : i < 6) (ht : t < 6) {g0 gM : Mem} (S0 : ShS s m g0 gM) (hT : TxI i g0 gM) (hl : g0.2 52 = some (4 + 5 * i)) (hH : g0.1 52 10 = gM.1 0 6) : ∀ (n fu : Nat) (x5 x6 : Int32) (gI : Mem), n ≤ 100 → n < fu → FI 52 g0 gI → gI.1 52 = g0.1 52 → gI.2 = g0.2 →
    ∃ gI', X5_skies_L48 N (i32 s) (i32 t) (i32 w) fu x5 x6 (ct n) gI = some (sel w (dnF (skC gM i s t m) n x5 x6), gI') ∧ FI 52 g0 gI'
  | 0, fu, x5, x6, gI, h1, h2, f, k52, kr => by
    obtain ⟨fu, rfl⟩ : ∃ q, fu = q + 1 := ⟨fu - 1, by omega⟩
    refine ⟨gI, ?_, f⟩
    rcases (by omega : w = 0 ∨ w = 1) with rfl | rfl <;> simp -dsimp -implicitDefEqProofs (disch := omega) only [X5_skies_L48, ct_0, neg1_lt, sel, dnF, Nat.one_ne_zero, i32_lit, i32_add, i32_mul, i32_tn, i32_sub, le_t, le_f, lt_t, lt_f, eq_t, eq_f, eq_rfl, inR_t, ↓ob_x, obx_s, ↓bnd_s, ↓oT_x, oTx_s, ↓ite_x, itx_T, itx_F, ↓reduceIte, not_true_eq_false, not_false_eq_true, true_and, and_true, Nat.reduceAdd, Nat.reduceMul, Nat.reduceSub, Nat.reduceEqDiff, isB0, isB1, Int32.neg_neg, Nat.zero_add, Nat.add_zero, Nat.mul_zero, Nat.mul_one, Nat.zero_mul]
  | n + 1, fu, x5, x6, gI, h1, h2, f, k52, kr => by
    obtain ⟨fu, rfl⟩ : ∃ q, fu = q + 1 := ⟨fu - 1, by omega⟩
    have hs := S0.1
    have f1 : FI 52 g0 (stI gI 53 t (i32 n)) := FI_tr f (FI_st _ _ (by omega))
    have S1 := ShS_fr (b := 52) S0 (by omega) f1 (FM_rfl gM)
    have T1 : TxI i (stI gI 53 t (i32 n)) gM := TxI_fr hT (f1.1 _ (by omega) (by omega)) (f1.1 _ (by omega) (by omega)) rfl rfl
    obtain ⟨g1, r1, r2⟩ := unlike_I (N := N) (b := 52) (i := i) (gI := stI gI 53 t (i32 n)) hN (by omega) hi ht S1 T1 (by show gI.2 52 = _; rw [kr]; exact hl)
    have e53 : (stI gI 53 t (i32 n)).1 (52 + 1) t = i32 n := stI_eq _ _ _ _
    have e52 : (stI gI 53 t (i32 n)).1 52 10 = gM.1 0 6 := by rw [stI_ne _ _ _ _ _ (by omega), k52]; exact hH
    rw [e53, e52] at r1
    have f2 := FI_tr f1 (FI_SI r2)
    have k1 : g1.1 52 = g0.1 52 := by rw [SI_hi r2 52 (by omega), stI_ne _ _ _ _ _ (by omega)]; exact k52
    have k2 : g1.2 = g0.2 := by rw [r2.2]; exact kr
    by_cases hc : unF gM i s t 0 m (i32 n) (gM.1 0 6) = -(i32 1)
    · obtain ⟨g2, y1, y2⟩ := skies_I hN hw hi ht S0 hT hl hH n fu (x5 + i32 1) (i32 n) g1 (by omega) (by omega) f2 k1 k2
      have cc : skC gM i s t m n = 1 := by unfold skC; rw [if_pos hc]
      exact ⟨g2, by simp -dsimp -implicitDefEqProofs (disch := omega) only [X5_skies_L48, ct_n, r1, hc, ct_s, y1, dnF, cc, Nat.one_ne_zero, i32_lit, i32_add, i32_mul, i32_tn, i32_sub, le_t, le_f, lt_t, lt_f, eq_t, eq_f, eq_rfl, inR_t, ↓ob_x, obx_s, ↓bnd_s, ↓oT_x, oTx_s, ↓ite_x, itx_T, itx_F, ↓reduceIte, not_true_eq_false, not_false_eq_true, true_and, and_true, Nat.reduceAdd, Nat.reduceMul, Nat.reduceSub, Nat.reduceEqDiff, isB0, isB1, Int32.neg_neg, Nat.zero_add, Nat.add_zero, Nat.mul_zero, Nat.mul_one, Nat.zero_mul], y2⟩
    · obtain ⟨g2, y1, y2⟩ := skies_I hN hw hi ht S0 hT hl hH n fu x5 x6 g1 (by omega) (by omega) f2 k1 k2
      have cc : skC gM i s t m n = 0 := by unfold skC; rw [if_neg hc]
      exact ⟨g2, by simp -dsimp -implicitDefEqProofs (disch := omega) only [X5_skies_L48, ct_n, r1, hc, ct_s, y1, dnF, cc, i32_lit, i32_add, i32_mul, i32_tn, i32_sub, le_t, le_f, lt_t, lt_f, eq_t, eq_f, eq_rfl, inR_t, ↓ob_x, obx_s, ↓bnd_s, ↓oT_x, oTx_s, ↓ite_x, itx_T, itx_F, ↓reduceIte, not_true_eq_false, not_false_eq_true, true_and, and_true, Nat.reduceAdd, Nat.reduceMul, Nat.reduceSub, Nat.reduceEqDiff, isB0, isB1, Int32.neg_neg, Nat.zero_add, Nat.add_zero, Nat.mul_zero, Nat.mul_one, Nat.zero_mul], y2⟩
theorem skiesM1 {N i d s m t : Nat} (hN : 6000 ≤ N) (ht : t < 6) {gI gM g : Mem} {v : Int32} (S0 : ShS s m gI gM) (M0 : MR i d gI gM) (h : EqM (stI gM 5 t v) g) (j : Nat) :
    ∃ g', X6_unlike N (i32 s) (i32 t) (stI g 5 t (i32 j)) = some (unF gM i s t 0 m (i32 j) (gM.1 0 6), g') ∧ EqM (stI gM 5 t (i32 j)) g' := by
  have E := EqM_at (Or.inl ⟨rfl, ht⟩) (i32 j) h
  have e5 : ∀ e, ¬ e = 5 → (stI gM 5 t (i32 j)).1 e = gM.1 e := fun e he => stI_ne _ _ _ _ _ he
  obtain ⟨a, b, c1, c2, c3⟩ := M0
  have M1 : MR i d gI (stI gM 5 t (i32 j)) := ⟨TxI_fr a rfl rfl (e5 7 (by omega)) (e5 8 (by omega)), b, by rw [e5 0 (by omega)]; exact c1, c2, by rw [e5 0 (by omega)]; exact c3⟩
  obtain ⟨g', r1, r2⟩ := unlike_M hN S0.1 S0.2.1 ht (MR_E M1 E) (m := m) (s := s) (by rw [E.1 12 (by omega) (by omega) (by omega) (by omega) (by omega) (by omega) (by omega), e5 12 (by omega)]; exact S0.2.2.2.1)
  refine ⟨g', ?_, EqM_tr E r2⟩
  have e6 : (stI g 5 t (i32 j)).1 0 6 = gM.1 0 6 := by rw [E.2.1 6 (by omega) (by omega), e5 0 (by omega)]
  rw [r1, unF_fr (g := gM) (by rw [E.1 7 (by omega) (by omega) (by omega) (by omega) (by omega) (by omega) (by omega), e5 7 (by omega)]) (by rw [E.1 8 (by omega) (by omega) (by omega) (by omega) (by omega) (by omega) (by omega), e5 8 (by omega)]) (by rw [E.1 13 (by omega) (by omega) (by omega) (by omega) (by omega) (by omega) (by omega), e5 13 (by omega)]), stI_eq, e6]
set_option maxRecDepth 100000 in
theorem skies_M {N i d s m t w : Nat} (hN : 6000 ≤ N) (hw : w < 2) (ht : t < 6) {gI gM : Mem} (S0 : ShS s m gI gM) (M0 : MR i d gI gM) (was : Int32) : ∀ (n j fu : Nat) (x6 x7 v : Int32) (g : Mem), j + n = 100 → n < fu → EqM (stI gM 5 t v) g →
    ∃ g' v', X6_skies_L45 N (i32 s) (i32 t) (i32 w) fu was x6 x7 (i32 j) g = some (sel w (upF (skC gM i s t m) j n x6 x7), stI g' 5 t was) ∧ EqM (stI gM 5 t v') g'
  | 0, j, fu, x6, x7, v, g, h1, h2, h => by
    obtain ⟨fu, rfl⟩ : ∃ q, fu = q + 1 := ⟨fu - 1, by omega⟩
    refine ⟨g, v, ?_, h⟩
    rcases (by omega : w = 0 ∨ w = 1) with rfl | rfl <;> simp -dsimp -implicitDefEqProofs (disch := omega) only [X6_skies_L45, sel, upF, Nat.one_ne_zero, i32_lit, i32_add, i32_mul, i32_tn, i32_sub, le_t, le_f, lt_t, lt_f, eq_t, eq_f, eq_rfl, inR_t, ↓ob_x, obx_s, ↓bnd_s, ↓oT_x, oTx_s, ↓ite_x, itx_T, itx_F, ↓reduceIte, not_true_eq_false, not_false_eq_true, true_and, and_true, Nat.reduceAdd, Nat.reduceMul, Nat.reduceSub, Nat.reduceEqDiff, isB0, isB1, Int32.neg_neg, Nat.zero_add, Nat.add_zero, Nat.mul_zero, Nat.mul_one, Nat.zero_mul]
  | n + 1, j, fu, x6, x7, v, g, h1, h2, h => by
    obtain ⟨fu, rfl⟩ : ∃ q, fu = q + 1 := ⟨fu - 1, by omega⟩
    obtain ⟨g1, r1, r2⟩ := skiesM1 hN ht S0 M0 h j
    by_cases hc : unF gM i s t 0 m (i32 j) (gM.1 0 6) = -(i32 1)
    · have cc : skC gM i s t m j = 1 := by unfold skC; rw [if_pos hc]
      by_cases hx : x7 = -(i32 1)
      · obtain ⟨g2, v2, y1, y2⟩ := skies_M hN hw ht S0 M0 was n (j + 1) fu (x6 + i32 1) (i32 j) (i32 j) g1 (by omega) (by omega) r2
        exact ⟨g2, v2, by simp -dsimp -implicitDefEqProofs (disch := omega) only [X6_skies_L45, r1, hc, hx, y1, upF, cc, Nat.one_ne_zero, i32_lit, i32_add, i32_mul, i32_tn, i32_sub, le_t, le_f, lt_t, lt_f, eq_t, eq_f, eq_rfl, inR_t, ↓ob_x, obx_s, ↓bnd_s, ↓oT_x, oTx_s, ↓ite_x, itx_T, itx_F, ↓reduceIte, not_true_eq_false, not_false_eq_true, true_and, and_true, Nat.reduceAdd, Nat.reduceMul, Nat.reduceSub, Nat.reduceEqDiff, isB0, isB1, Int32.neg_neg, Nat.zero_add, Nat.add_zero, Nat.mul_zero, Nat.mul_one, Nat.zero_mul], y2⟩
      · obtain ⟨g2, v2, y1, y2⟩ := skies_M hN hw ht S0 M0 was n (j + 1) fu (x6 + i32 1) x7 (i32 j) g1 (by omega) (by omega) r2
        exact ⟨g2, v2, by simp -dsimp -implicitDefEqProofs (disch := omega) only [X6_skies_L45, r1, hc, hx, y1, upF, cc, Nat.one_ne_zero, i32_lit, i32_add, i32_mul, i32_tn, i32_sub, le_t, le_f, lt_t, lt_f, eq_t, eq_f, eq_rfl, inR_t, ↓ob_x, obx_s, ↓bnd_s, ↓oT_x, oTx_s, ↓ite_x, itx_T, itx_F, ↓reduceIte, not_true_eq_false, not_false_eq_true, true_and, and_true, Nat.reduceAdd, Nat.reduceMul, Nat.reduceSub, Nat.reduceEqDiff, isB0, isB1, Int32.neg_neg, Nat.zero_add, Nat.add_zero, Nat.mul_zero, Nat.mul_one, Nat.zero_mul], y2⟩
    · have cc : skC gM i s t m j = 0 := by unfold skC; rw [if_neg hc]
      have z : x6 + i32 0 = x6 := Int32.add_zero x6
      obtain ⟨g2, v2, y1, y2⟩ := skies_M hN hw ht S0 M0 was n (j + 1) fu x6 x7 (i32 j) g1 (by omega) (by omega) r2
      exact ⟨g2, v2, by simp -dsimp -implicitDefEqProofs (disch := omega) only [X6_skies_L45, r1, hc, z, y1, upF, cc, i32_lit, i32_add, i32_mul, i32_tn, i32_sub, le_t, le_f, lt_t, lt_f, eq_t, eq_f, eq_rfl, inR_t, ↓ob_x, obx_s, ↓bnd_s, ↓oT_x, oTx_s, ↓ite_x, itx_T, itx_F, ↓reduceIte, not_true_eq_false, not_false_eq_true, true_and, and_true, Nat.reduceAdd, Nat.reduceMul, Nat.reduceSub, Nat.reduceEqDiff, isB0, isB1, Int32.neg_neg, Nat.zero_add, Nat.add_zero, Nat.mul_zero, Nat.mul_one, Nat.zero_mul], y2⟩
set_option maxRecDepth 100000 in
theorem e_skies {N : Nat} (hN : 6000 ≤ N) {gI gM : Mem} (h : R gI gM) (a1 a2 a3 : Int32) : EQ (X5_skies N a1 a2 a3 gI) (X6_skies N a1 a2 a3 gM) := by
  obtain ⟨d, i, c, hR⟩ := h
  rcases ref_hours (N := N) hR a1 a2 with ⟨v, hv, hv2, r1, r2⟩ | ⟨s, m, t, rfl, rfl, ht, hm, S0, r1, r2⟩
  · have n0 := m_ne (x := 0) (v := v) (by omega)
    exact ⟨-(i32 v), gI, gM, by simp -dsimp -implicitDefEqProofs (disch := omega) only [X5_skies, r1, n0, i32_lit, i32_add, i32_mul, i32_tn, i32_sub, le_t, le_f, lt_t, lt_f, eq_t, eq_f, eq_rfl, inR_t, ↓ob_x, obx_s, ↓bnd_s, ↓oT_x, oTx_s, ↓ite_x, itx_T, itx_F, ↓reduceIte, not_true_eq_false, not_false_eq_true, true_and, and_true, Nat.reduceAdd, Nat.reduceMul, Nat.reduceSub, Nat.reduceEqDiff, isB0, isB1, Int32.neg_neg, Nat.zero_add, Nat.add_zero, Nat.mul_zero, Nat.mul_one, Nat.zero_mul], by simp -dsimp -implicitDefEqProofs (disch := omega) only [X6_skies, r2, n0, i32_lit, i32_add, i32_mul, i32_tn, i32_sub, le_t, le_f, lt_t, lt_f, eq_t, eq_f, eq_rfl, inR_t, ↓ob_x, obx_s, ↓bnd_s, ↓oT_x, oTx_s, ↓ite_x, itx_T, itx_F, ↓reduceIte, not_true_eq_false, not_false_eq_true, true_and, and_true, Nat.reduceAdd, Nat.reduceMul, Nat.reduceSub, Nat.reduceEqDiff, isB0, isB1, Int32.neg_neg, Nat.zero_add, Nat.add_zero, Nat.mul_zero, Nat.mul_one, Nat.zero_mul], d, i, c, hR⟩
  · rcases rg a3 2 (by omega) with ⟨w, hw, rfl⟩ | o
    · obtain ⟨⟨hS, hB, hG, hH⟩, hT, _⟩ := id hR
      obtain ⟨g1, q1, q2, q3⟩ := becomes_I (N := N) (b := 52) (a := 42) (i := i) (gI := gI) (by omega) hS.2.2.2.2.2.2.2.2.2.2.2.2.1 hS.1.2.2
      have hS1 := Sc_LK hS (by omega) q2 q3
      have S1 := ShS_fr (b := 52) S0 (by omega) q2 (FM_rfl gM)
      obtain ⟨g2, u1, u2⟩ := skies_I hN hw hS.1.2.2 ht S1 (Sc_p hS1).1 hS1.2.2.2.2.2.2.2.2.2.2.2.2.1 hS1.2.2.2.2.2.2.2.2.2.2.2.1 100 N (i32 0) (-(i32 1)) g1 (by omega) (by omega) (FI_rfl 52 g1) rfl rfl
      obtain ⟨m2, v', y1, y2⟩ := skies_M hN hw ht S0 (RR_MR hR) (gM.1 5 t) 100 0 N (i32 0) (-(i32 1)) (gM.1 5 t) gM (by omega) (by omega) (EqM_own' gM 5 t)
      rw [dn_up1 _ 100 (by omega), show ct 100 = i32 99 from rfl] at u1
      exact ⟨_, g2, _, by simp -dsimp -implicitDefEqProofs (disch := omega) only [X5_skies, r1, isW_t, q1, i32_lit, i32_add, i32_mul, i32_tn, i32_sub, le_t, le_f, lt_t, lt_f, eq_t, eq_f, eq_rfl, inR_t, ↓ob_x, obx_s, ↓bnd_s, ↓oT_x, oTx_s, ↓ite_x, itx_T, itx_F, ↓reduceIte, not_true_eq_false, not_false_eq_true, true_and, and_true, Nat.reduceAdd, Nat.reduceMul, Nat.reduceSub, Nat.reduceEqDiff, isB0, isB1, Int32.neg_neg, Nat.zero_add, Nat.add_zero, Nat.mul_zero, Nat.mul_one, Nat.zero_mul]; exact u1, by simp -dsimp -implicitDefEqProofs (disch := omega) only [X6_skies, r2, in_t, i32_lit, i32_add, i32_mul, i32_tn, i32_sub, le_t, le_f, lt_t, lt_f, eq_t, eq_f, eq_rfl, inR_t, ↓ob_x, obx_s, ↓bnd_s, ↓oT_x, oTx_s, ↓ite_x, itx_T, itx_F, ↓reduceIte, not_true_eq_false, not_false_eq_true, true_and, and_true, Nat.reduceAdd, Nat.reduceMul, Nat.reduceSub, Nat.reduceEqDiff, isB0, isB1, Int32.neg_neg, Nat.zero_add, Nat.add_zero, Nat.mul_zero, Nat.mul_one, Nat.zero_mul]; exact y1, d, i, c, RR_th hR (FI_tr q2 u2) (EqM_fin (Or.inl ⟨rfl, ht⟩) y2)⟩
    · exact ⟨-7, gI, gM, by simp -dsimp -implicitDefEqProofs (disch := omega) only [X5_skies, r1, isW_f gI (by omega : 1 < 1000000) o, i32_lit, i32_add, i32_mul, i32_tn, i32_sub, le_t, le_f, lt_t, lt_f, eq_t, eq_f, eq_rfl, inR_t, ↓ob_x, obx_s, ↓bnd_s, ↓oT_x, oTx_s, ↓ite_x, itx_T, itx_F, ↓reduceIte, not_true_eq_false, not_false_eq_true, true_and, and_true, Nat.reduceAdd, Nat.reduceMul, Nat.reduceSub, Nat.reduceEqDiff, isB0, isB1, Int32.neg_neg, Nat.zero_add, Nat.add_zero, Nat.mul_zero, Nat.mul_one, Nat.zero_mul], by simp -dsimp -implicitDefEqProofs (disch := omega) only [X6_skies, r2, in_f gM (by omega : 1 < 1000000) o, i32_lit, i32_add, i32_mul, i32_tn, i32_sub, le_t, le_f, lt_t, lt_f, eq_t, eq_f, eq_rfl, inR_t, ↓ob_x, obx_s, ↓bnd_s, ↓oT_x, oTx_s, ↓ite_x, itx_T, itx_F, ↓reduceIte, not_true_eq_false, not_false_eq_true, true_and, and_true, Nat.reduceAdd, Nat.reduceMul, Nat.reduceSub, Nat.reduceEqDiff, isB0, isB1, Int32.neg_neg, Nat.zero_add, Nat.add_zero, Nat.mul_zero, Nat.mul_one, Nat.zero_mul], d, i, c, hR⟩
