/-! film -/
def wv (g : Mem) (i t : Nat) (w h : Int32) : Nat → Int32
  | 0 => w
  | k + 1 => fdW g i (wv g i t w h k) (i32 t) (h + i32 k)
theorem wv_nb (g : Mem) (i t : Nat) (w h : Int32) (hw : NB 99 w) : ∀ k, NB 99 (wv g i t w h k)
  | 0 => hw
  | k + 1 => mx_nb (wv_nb g i t w h hw k) (tv_nb _ _ _ _)
theorem wv_fr {g g' : Mem} (a : g'.1 7 = g.1 7) (b : g'.1 8 = g.1 8) (i t : Nat) (w h : Int32) : ∀ k, wv g' i t w h k = wv g i t w h k
  | 0 => rfl
  | k + 1 => by rw [wv, wv, fdW_fr a b, wv_fr a b i t w h k]
theorem b8_n : ∀ n, n < 100 → (i32 n).toInt8.toInt32 = i32 n := by decide +kernel
theorem b8 {v : Int32} (h : NB 99 v) : v.toInt8.toInt32 = v := by
  obtain ⟨n, hn, rfl⟩ := h
  exact b8_n n (by omega)
def FS (s : Nat) (g0 g : Mem) : Prop := (∀ e, ¬ (4 ≤ e ∧ e < 34 ∧ 3 ≤ (e - 4) % 5) → ¬ e = 34 + 2 * s + 1 → g.1 e = g0.1 e) ∧ g.2 = g0.2
set_option maxRecDepth 100000 in
theorem film_I {N i s n t : Nat} (hN : 6000 ≤ N) (hi : i < 6) (ht : t < 6) (hs : s < 4) (hn : n ≤ 20) {g0 gM : Mem} {w H : Int32} (hw : NB 99 w) (hT : TxI i g0 gM) (hl : g0.2 42 = some (4 + 5 * i)) (hH : g0.1 42 10 = H) (e1 : g0.1 (34 + 2 * s) 1 = i32 0) (e2 : g0.1 (34 + 2 * s) 2 = i32 n) : ∀ (k x fu : Nat) (g : Mem), x + k = n → k < fu → FS s g0 g →
    ∃ g', X5_film_L57 N (i32 s) (i32 t) (i32 n) fu (wv gM i t w H x) (i32 x) g = some (i32 n, g') ∧ FS s g0 g' ∧ ∀ j, j < 40 → g'.1 (34 + 2 * s + 1) j = if x ≤ j ∧ j < n then wv gM i t w H (j + 1) else g.1 (34 + 2 * s + 1) j
  | 0, x, fu, g, h1, h2, f => by
    obtain ⟨fu, rfl⟩ : ∃ q, fu = q + 1 := ⟨fu - 1, by omega⟩
    exact ⟨g, by simp -dsimp -implicitDefEqProofs (disch := omega) only [X5_film_L57, i32_lit, i32_add, i32_mul, i32_tn, i32_sub, le_t, le_f, lt_t, lt_f, eq_t, eq_f, eq_rfl, inR_t, ↓ob_x, obx_s, ↓bnd_s, ↓oT_x, oTx_s, ↓ite_x, itx_T, itx_F, ↓reduceIte, not_true_eq_false, not_false_eq_true, true_and, and_true, Nat.reduceAdd, Nat.reduceMul, Nat.reduceSub, Nat.reduceEqDiff, isB0, isB1, Int32.neg_neg, Nat.zero_add, Nat.add_zero, Nat.mul_zero, Nat.mul_one, Nat.zero_mul], f, fun j hj => by rw [if_neg (by omega)]⟩
  | k + 1, x, fu, g, h1, h2, f => by
    obtain ⟨fu, rfl⟩ : ∃ q, fu = q + 1 := ⟨fu - 1, by omega⟩
    have T1 : TxI i g gM := TxI_fr hT (f.1 _ (by omega) (by omega)) (f.1 _ (by omega) (by omega)) rfl rfl
    have c42 : g.1 42 10 = H := by rw [f.1 42 (by omega) (by omega)]; exact hH
    obtain ⟨g1, r1, r2⟩ := faded_I (b := 42) hN T1 hi (by rw [f.2]; exact hl) (wv gM i t w H x) (i32 t) (H + i32 x)
    have d1 : g1.1 (34 + 2 * s) 1 = i32 0 := by rw [SI_hi r2 _ (by omega), f.1 _ (by omega) (by omega)]; exact e1
    have d2 : g1.1 (34 + 2 * s) 2 = i32 n := by rw [SI_hi r2 _ (by omega), f.1 _ (by omega) (by omega)]; exact e2
    have d3 := b8 (wv_nb gM i t w H hw (x + 1))
    have d4 : fdW gM i (wv gM i t w H x) (i32 t) (H + i32 x) = wv gM i t w H (x + 1) := rfl
    rw [d4] at r1
    obtain ⟨g2, s1, s2, s3⟩ := film_I (gM := gM) hN hi ht hs hn hw hT hl hH e1 e2 k (x + 1) fu (stI g1 (34 + 2 * s + 1) x (wv gM i t w H (x + 1))) (by omega) (by omega) ⟨fun e a b => by rw [stI_ne _ _ _ _ _ b, r2.1 e a]; exact f.1 e a b, by rw [← f.2, ← r2.2]; rfl⟩
    refine ⟨g2, by simp -dsimp -implicitDefEqProofs (disch := omega) only [X5_film_L57, X2_set, X2_holds, c42, r1, d1, d2, d3, s1, i32_lit, i32_add, i32_mul, i32_tn, i32_sub, le_t, le_f, lt_t, lt_f, eq_t, eq_f, eq_rfl, inR_t, ↓ob_x, obx_s, ↓bnd_s, ↓oT_x, oTx_s, ↓ite_x, itx_T, itx_F, ↓reduceIte, not_true_eq_false, not_false_eq_true, true_and, and_true, Nat.reduceAdd, Nat.reduceMul, Nat.reduceSub, Nat.reduceEqDiff, isB0, isB1, Int32.neg_neg, Nat.zero_add, Nat.add_zero, Nat.mul_zero, Nat.mul_one, Nat.zero_mul], s2, fun j hj => ?_⟩
    rw [s3 j hj]
    by_cases hjx : j = x
    · subst hjx
      rw [if_neg (by omega), stI_eq, if_pos (by omega)]
    · by_cases hj2 : x + 1 ≤ j ∧ j < n
      · rw [if_pos hj2, if_pos (by omega)]
      · rw [if_neg hj2, if_neg (by omega), stI_nj _ _ _ _ _ hjx, SI_hi r2 _ (by omega)]
theorem stA_stI (g : Mem) (k j : Nat) (v : Int32) (f : Nat → Int32) : stA (stI g k j v) k f = stA g k f := by
  refine Prod.ext (funext fun c => ?_) rfl
  rw [stA_1, stA_1]
  by_cases h : c = k
  · rw [if_pos h, if_pos h]
  · rw [if_neg h, if_neg h, stI_ne _ _ _ _ _ h]
theorem FM_13 {g g2 : Mem} {k : Nat} {x : Int32} (h : FM (stI g 13 k x) g2) (r : Nat → Int32) : FM (stA g 13 r) (stA g2 13 r) := by
  refine ⟨fun c h0 h3 h4 h5 h17 h18 => ?_, fun j a b e => ?_⟩
  · by_cases hc : c = 13
    · subst hc; rw [stA_eq, stA_eq]
    · rw [stA_ne _ _ _ _ hc, stA_ne _ _ _ _ hc, h.1 c h0 h3 h4 h5 h17 h18, stI_ne _ _ _ _ _ hc]
  · rw [stA_ne _ _ _ _ (by omega), stA_ne _ _ _ _ (by omega), h.2 j a b e, stI_ne _ _ _ _ _ (by omega)]
theorem LaP_13 {g g' : Mem} (h : LaP 67 g g') (r : Nat → Int32) : LaP 67 (stA g 13 r) (stA g' 13 r) := by
  refine ⟨fun c h0 h3 h4 h5 => ?_, fun j hj => ?_, fun j hj => ?_⟩
  · by_cases hc : c = 13
    · subst hc; rw [stA_eq, stA_eq]
    · rw [stA_ne _ _ _ _ hc, stA_ne _ _ _ _ hc]; exact h.1 c h0 h3 h4 h5
  · rw [stA_ne _ _ _ _ (by omega), stA_ne _ _ _ _ (by omega)]; exact h.2.1 j hj
  · rw [stA_ne g _ _ _ (by omega), ← h.2.2 j hj]
    unfold srcM
    rw [stA_ne _ _ _ _ (by omega), stA_ne _ _ _ _ (by omega), stA_ne _ _ _ _ (by omega), stA_ne _ _ _ _ (by omega)]
set_option maxRecDepth 100000 in
theorem film_M {N i d s n t : Nat} (hN : 6000 ≤ N) (ht : t < 6) (hs : s < 4) (hn : n ≤ 20) {gI g2 m1 : Mem} {w H : Int32} (k : KP 67 g2 m1) : ∀ (q x fu : Nat) (g : Mem), x + q = 40 → q < fu → FM m1 (stA g 13 (m1.1 13)) → MR i d gI g → (x ≤ n → g.1 5 t = wv m1 i t w H x ∧ g.1 0 6 = H + i32 x) →
    ∃ g', X6_film_L56 N (i32 s) (i32 t) (i32 n) fu (i32 x) g = some (i32 n, g') ∧ EqM g2 (stA g' 13 (m1.1 13)) ∧ (∀ j, ¬ (40 * s ≤ j ∧ j < 40 * s + 40) → g'.1 13 j = g.1 13 j) ∧ ∀ j, j < 40 → g'.1 13 (40 * s + j) = if j < x then g.1 13 (40 * s + j) else if j < n then wv m1 i t w H (j + 1) else i32 0
  | 0, x, fu, g, h1, h2, hf, hM, hw => by
    obtain ⟨fu, rfl⟩ : ∃ q, fu = q + 1 := ⟨fu - 1, by omega⟩
    obtain ⟨m3, l1, l2⟩ := lays_M hN g
    have e13 : m3.1 13 = g.1 13 := l2.1 13 (by omega) (by omega) (by omega) (by omega)
    exact ⟨m3, by simp -dsimp -implicitDefEqProofs (disch := omega) only [X6_film_L56, l1, i32_lit, i32_add, i32_mul, i32_tn, i32_sub, le_t, le_f, lt_t, lt_f, eq_t, eq_f, eq_rfl, inR_t, ↓ob_x, obx_s, ↓bnd_s, ↓oT_x, oTx_s, ↓ite_x, itx_T, itx_F, ↓reduceIte, not_true_eq_false, not_false_eq_true, true_and, and_true, Nat.reduceAdd, Nat.reduceMul, Nat.reduceSub, Nat.reduceEqDiff, isB0, isB1, Int32.neg_neg, Nat.zero_add, Nat.add_zero, Nat.mul_zero, Nat.mul_one, Nat.zero_mul], EqM_back k hf (LaP_13 l2 _), fun j _ => by rw [e13], fun j hj => by rw [if_pos (by omega), e13]⟩
  | q + 1, x, fu, g, h1, h2, hf, hM, hw => by
    obtain ⟨fu, rfl⟩ : ∃ q, fu = q + 1 := ⟨fu - 1, by omega⟩
    by_cases hx : x < n
    · obtain ⟨w1, w2⟩ := hw (by omega)
      obtain ⟨u, r1, r2, r3, r4⟩ := hourM2 hN (MR_at (k := 13) (j := 40 * s + x) (v := i32 0) hM (by omega))
      have c7 : (stI g 13 (40 * s + x) (i32 0)).1 7 = m1.1 7 := by
        rw [stI_ne _ _ _ _ _ (by omega), ← hf.1 7 (by omega) (by omega) (by omega) (by omega) (by omega) (by omega), stA_ne _ _ _ _ (by omega)]
      have c8 : (stI g 13 (40 * s + x) (i32 0)).1 8 = m1.1 8 := by
        rw [stI_ne _ _ _ _ _ (by omega), ← hf.1 8 (by omega) (by omega) (by omega) (by omega) (by omega) (by omega), stA_ne _ _ _ _ (by omega)]
      have e5 : u.1 5 t = wv m1 i t w H (x + 1) := by
        rw [r4 t ht, fdW_fr c7 c8, stI_ne _ _ _ _ _ (by omega), w1, stI_ne _ _ _ _ _ (by omega), w2]; rfl
      have e6 : u.1 0 6 = H + i32 (x + 1) := by
        rw [r3, stI_ne _ _ _ _ _ (by omega), w2, Int32.add_assoc, i32_add]
      have f2 : FM m1 (stA (stI u 13 (40 * s + x) (wv m1 i t w H (x + 1))) 13 (m1.1 13)) := by
        rw [stA_stI]; exact FM_tr hf (FM_13 r2 _)
      have M2 : MR i d gI (stI u 13 (40 * s + x) (wv m1 i t w H (x + 1))) := MR_at (MR_FM (MR_at (k := 13) (j := 40 * s + x) (v := i32 0) hM (by omega)) r2) (by omega)
      obtain ⟨g', s1, s2, s3, s4⟩ := film_M (gI := gI) hN ht hs hn k q (x + 1) fu (stI u 13 (40 * s + x) (wv m1 i t w H (x + 1))) (by omega) (by omega) f2 M2 (fun _ => ⟨by rw [stI_ne _ _ _ _ _ (by omega)]; exact e5, by rw [stI_ne _ _ _ _ _ (by omega)]; exact e6⟩)
      have u13 : ∀ j, ¬ j = 40 * s + x → u.1 13 j = g.1 13 j := fun j hj => by
        rw [r2.1 13 (by omega) (by omega) (by omega) (by omega) (by omega) (by omega), stI_nj _ _ _ _ _ hj]
      refine ⟨g', by simp -dsimp -implicitDefEqProofs (disch := omega) only [X6_film_L56, r1, e5, s1, i32_lit, i32_add, i32_mul, i32_tn, i32_sub, le_t, le_f, lt_t, lt_f, eq_t, eq_f, eq_rfl, inR_t, ↓ob_x, obx_s, ↓bnd_s, ↓oT_x, oTx_s, ↓ite_x, itx_T, itx_F, ↓reduceIte, not_true_eq_false, not_false_eq_true, true_and, and_true, Nat.reduceAdd, Nat.reduceMul, Nat.reduceSub, Nat.reduceEqDiff, isB0, isB1, Int32.neg_neg, Nat.zero_add, Nat.add_zero, Nat.mul_zero, Nat.mul_one, Nat.zero_mul], s2, fun j hj => ?_, fun j hj => ?_⟩
      · rw [s3 j hj, stI_nj _ _ _ _ _ (by omega), u13 j (by omega)]
      · rw [s4 j hj]
        by_cases hjx : j = x
        · subst hjx
          rw [if_pos (by omega), if_neg (by omega), if_pos hx, stI_eq]
        · by_cases hj2 : j < x
          · rw [if_pos (by omega), if_pos hj2, stI_nj _ _ _ _ _ (by omega), u13 _ (by omega)]
          · rw [if_neg (by omega), if_neg hj2]
    · have f2 : FM m1 (stA (stI g 13 (40 * s + x) (i32 0)) 13 (m1.1 13)) := by
        rw [stA_stI]; exact hf
      obtain ⟨g', s1, s2, s3, s4⟩ := film_M (gI := gI) hN ht hs hn k q (x + 1) fu (stI g 13 (40 * s + x) (i32 0)) (by omega) (by omega) f2 (MR_at hM (by omega)) (fun z => by omega)
      refine ⟨g', by simp -dsimp -implicitDefEqProofs (disch := omega) only [X6_film_L56, s1, i32_lit, i32_add, i32_mul, i32_tn, i32_sub, le_t, le_f, lt_t, lt_f, eq_t, eq_f, eq_rfl, inR_t, ↓ob_x, obx_s, ↓bnd_s, ↓oT_x, oTx_s, ↓ite_x, itx_T, itx_F, ↓reduceIte, not_true_eq_false, not_false_eq_true, true_and, and_true, Nat.reduceAdd, Nat.reduceMul, Nat.reduceSub, Nat.reduceEqDiff, isB0, isB1, Int32.neg_neg, Nat.zero_add, Nat.add_zero, Nat.mul_zero, Nat.mul_one, Nat.zero_mul], s2, fun j hj => ?_, fun j hj => ?_⟩
      · rw [s3 j hj, stI_nj _ _ _ _ _ (by omega)]
      · rw [s4 j hj]
        by_cases hjx : j = x
        · subst hjx
          rw [if_pos (by omega), if_neg (by omega), if_neg hx, stI_eq]
        · by_cases hj2 : j < x
          · rw [if_pos (by omega), if_pos hj2, stI_nj _ _ _ _ _ (by omega)]
          · rw [if_neg (by omega), if_neg hj2]
set_option maxRecDepth 100000 in
theorem e_film {N : Nat} (hN : 6000 ≤ N) {gI gM : Mem} (h : R gI gM) (a1 a2 a3 : Int32) : EQ (X5_film N a1 a2 a3 gI) (X6_film N a1 a2 a3 gM) := by
  obtain ⟨d, i, c, hR⟩ := h
  rcases rg a1 4 (by omega) with ⟨s, hs, rfl⟩ | o1
  · rcases rg a2 6 (by omega) with ⟨t, ht, rfl⟩ | o2
    · rcases rg a3 21 (by omega) with ⟨n, hn, rfl⟩ | o3
      · obtain ⟨⟨hS, hB, hG, hH⟩, hT, hP, hSh, hK⟩ := id hR
        obtain ⟨g1, r1, r2, r3, r4, r5, r6⟩ := bec_I hN hs (i32 0) (i32 n) gI
        have M0 := RR_MR hR
        have hi6 := M0.2.1
        have T1 : TxI i g1 gM := TxI_fr M0.1 (r2 _ (by omega) (by omega)) (r2 _ (by omega) (by omega)) rfl rfl
        have c43 : g1.1 43 t = gM.1 5 t := by rw [r2 43 (by omega) (by omega)]; exact hS.2.1 t ht
        have c42 : g1.1 42 10 = gM.1 0 6 := by rw [r2 42 (by omega) (by omega)]; exact hS.2.2.2.2.2.2.2.2.2.2.2.1
        obtain ⟨g2, s1, s2, s3⟩ := film_I (gM := gM) (s := s) (n := n) (t := t) (w := gM.1 5 t) hN M0.2.1 ht hs (by omega) (hB.1 t ht) T1 (by rw [r3]; exact hS.2.2.2.2.2.2.2.2.2.2.2.2.1) c42 r4 r5 n 0 N g1 (by omega) (by omega) ⟨fun _ _ _ => rfl, rfl⟩
        obtain ⟨m1, k1, k2⟩ := keeps_M hN (stI (stI gM 11 s (i32 0)) 12 s (i32 n))
        have e7 : m1.1 7 = gM.1 7 := by rw [k2.1 7 (by omega), stI_ne _ _ _ _ _ (by omega), stI_ne _ _ _ _ _ (by omega)]
        have e8 : m1.1 8 = gM.1 8 := by rw [k2.1 8 (by omega), stI_ne _ _ _ _ _ (by omega), stI_ne _ _ _ _ _ (by omega)]
        have e0 : m1.1 0 = gM.1 0 := by rw [k2.1 0 (by omega), stI_ne _ _ _ _ _ (by omega), stI_ne _ _ _ _ _ (by omega)]
        have e5 : m1.1 5 = gM.1 5 := by rw [k2.1 5 (by omega), stI_ne _ _ _ _ _ (by omega), stI_ne _ _ _ _ _ (by omega)]
        have e13 : m1.1 13 = gM.1 13 := by rw [k2.1 13 (by omega), stI_ne _ _ _ _ _ (by omega), stI_ne _ _ _ _ _ (by omega)]
        have M1 : MR i d gI m1 := ⟨TxI_fr M0.1 rfl rfl e7 e8, M0.2.1, by rw [e0]; exact M0.2.2.1, M0.2.2.2.1, by rw [e0]; exact M0.2.2.2.2⟩
        have own : stA m1 13 (m1.1 13) = m1 := by
          refine Prod.ext (funext fun c => ?_) rfl
          rw [stA_1]
          by_cases h : c = 13
          · rw [if_pos h, h]
          · rw [if_neg h]
        obtain ⟨m2, t1, t2, t3, t4⟩ := film_M (s := s) (n := n) (t := t) (w := gM.1 5 t) (H := gM.1 0 6) hN ht hs (by omega) k2 40 0 N m1 (by omega) (by omega) (by rw [own]; exact FM_rfl m1) M1 (fun _ => ⟨by rw [e5]; rfl, by rw [e0]; exact (Int32.add_zero _).symm⟩)
        have E : EqM gM (fun e => if e = 11 ∨ e = 12 ∨ e = 13 then gM.1 e else m2.1 e, m2.2) := by
          refine ⟨fun c c0 c3 c4 c5 c17 c18 c19 => ?_, fun j j1 j2 => ?_, fun j hj => ?_, fun j hj => ?_, fun j hj => ?_⟩
          · by_cases hc : c = 11 ∨ c = 12 ∨ c = 13
            · exact if_pos hc
            · refine (if_neg hc).trans ?_
              rw [← stA_ne m2 13 (m1.1 13) c (by omega), t2.1 c c0 c3 c4 c5 c17 c18 c19, stI_ne _ _ _ _ _ (by omega), stI_ne _ _ _ _ _ (by omega)]
          · have q := t2.2.1 j j1 j2
            rw [stA_ne _ _ _ _ (by omega), stI_ne _ _ _ _ _ (by omega), stI_ne _ _ _ _ _ (by omega)] at q; exact q
          · have q := t2.2.2.1 j hj
            rw [stA_ne _ _ _ _ (by omega), stI_ne _ _ _ _ _ (by omega), stI_ne _ _ _ _ _ (by omega)] at q; exact q
          · have q := t2.2.2.2.1 j hj
            rw [stA_ne _ _ _ _ (by omega), stI_ne _ _ _ _ _ (by omega), stI_ne _ _ _ _ _ (by omega)] at q; exact q
          · have q := t2.2.2.2.2 j hj
            rw [stA_ne _ _ _ _ (by omega), stI_ne _ _ _ _ _ (by omega), stI_ne _ _ _ _ _ (by omega)] at q; exact q
        have F : FI 52 gI (fun e => if e = 34 + 2 * s ∨ e = 34 + 2 * s + 1 then gI.1 e else g2.1 e, g2.2) := by
          refine ⟨fun e h1 _ => ?_, fun e _ => ?_⟩
          · by_cases he : e = 34 + 2 * s ∨ e = 34 + 2 * s + 1
            · exact if_pos he
            · refine (if_neg he).trans ?_
              rw [s2.1 e h1 (by omega), r2 e (by omega) (by omega)]
          · show g2.2 e = _
            rw [s2.2, r3]
        have hRx := RR_th hR F E
        refine ⟨i32 n, g2, m2, ?_, ?_, d, i, c, RR_sh hRx (fun e he => (if_neg (by omega)).symm) rfl (fun e a b c => (if_neg (by omega)).symm) ?_⟩
        · have z : wv gM i t (gM.1 5 t) (gM.1 0 6) 0 = gM.1 5 t := rfl
          rw [z] at s1
          simp -dsimp -implicitDefEqProofs (disch := omega) only [X5_film, isH_t, isS_t, isW_t, r1, c43, s1, i32_lit, i32_add, i32_mul, i32_tn, i32_sub, le_t, le_f, lt_t, lt_f, eq_t, eq_f, eq_rfl, inR_t, ↓ob_x, obx_s, ↓bnd_s, ↓oT_x, oTx_s, ↓ite_x, itx_T, itx_F, ↓reduceIte, not_true_eq_false, not_false_eq_true, true_and, and_true, Nat.reduceAdd, Nat.reduceMul, Nat.reduceSub, Nat.reduceEqDiff, isB0, isB1, Int32.neg_neg, Nat.zero_add, Nat.add_zero, Nat.mul_zero, Nat.mul_one, Nat.zero_mul]
        · simp -dsimp -implicitDefEqProofs (disch := omega) only [X6_film, in_t, mS_t, k1, t1, i32_lit, i32_add, i32_mul, i32_tn, i32_sub, le_t, le_f, lt_t, lt_f, eq_t, eq_f, eq_rfl, inR_t, ↓ob_x, obx_s, ↓bnd_s, ↓oT_x, oTx_s, ↓ite_x, itx_T, itx_F, ↓reduceIte, not_true_eq_false, not_false_eq_true, true_and, and_true, Nat.reduceAdd, Nat.reduceMul, Nat.reduceSub, Nat.reduceEqDiff, isB0, isB1, Int32.neg_neg, Nat.zero_add, Nat.add_zero, Nat.mul_zero, Nat.mul_one, Nat.zero_mul]
        · have f11 : m2.1 11 = (stI gM 11 s (i32 0)).1 11 := by rw [← stA_ne m2 13 (m1.1 13) 11 (by omega), t2.1 11 (by omega) (by omega) (by omega) (by omega) (by omega) (by omega) (by omega), stI_ne _ _ _ _ _ (by omega)]
          have f12 : m2.1 12 = (stI gM 12 s (i32 n)).1 12 := by
            rw [← stA_ne m2 13 (m1.1 13) 12 (by omega), t2.1 12 (by omega) (by omega) (by omega) (by omega) (by omega) (by omega) (by omega)]
            funext j
            by_cases h : j = s
            · subst h; rw [stI_eq, stI_eq]
            · rw [stI_nj _ _ _ _ _ h, stI_nj _ _ _ _ _ h, stI_ne _ _ _ _ _ (by omega)]
          have g34 : ∀ j, g2.1 (34 + 2 * s) j = g1.1 (34 + 2 * s) j := fun j => by rw [s2.1 _ (by omega) (by omega)]
          refine Sh_one (s := s) hRx.2.2.2.1 (fun e a b _ => (if_neg (by omega)).symm) (fun j hj => ?_) (fun j hj => ?_) (fun j hj => ?_) ⟨?_, ?_, ⟨n, by omega, ?_, ?_⟩, fun j hj => ?_⟩
          · rw [f11, stI_nj _ _ _ _ _ hj]; rfl
          · rw [f12, stI_nj _ _ _ _ _ hj]; rfl
          · rw [t3 j hj, e13]; rfl
          · rw [g34, r4, f11, stI_eq]
          · rw [f11, stI_eq]; exact Or.inr ⟨0, by omega, rfl⟩
          · rw [g34, r5]
          · rw [f12, stI_eq]
          · rw [s3 j hj, t4 j hj, wv_fr e7 e8]
            by_cases hjn : j < n
            · rw [if_pos (by omega : 0 ≤ j ∧ j < n), if_neg (by omega : ¬ j < 0), if_pos hjn]
            · rw [if_neg (by omega : ¬ (0 ≤ j ∧ j < n)), if_neg (by omega : ¬ j < 0), if_neg hjn, r6 j hj]
      · exact ⟨-7, gI, gM, by simp -dsimp -implicitDefEqProofs (disch := omega) only [X5_film, isH_t, isS_t, isW_f gI (by omega : 20 < 1000000) o3, i32_lit, i32_add, i32_mul, i32_tn, i32_sub, le_t, le_f, lt_t, lt_f, eq_t, eq_f, eq_rfl, inR_t, ↓ob_x, obx_s, ↓bnd_s, ↓oT_x, oTx_s, ↓ite_x, itx_T, itx_F, ↓reduceIte, not_true_eq_false, not_false_eq_true, true_and, and_true, Nat.reduceAdd, Nat.reduceMul, Nat.reduceSub, Nat.reduceEqDiff, isB0, isB1, Int32.neg_neg, Nat.zero_add, Nat.add_zero, Nat.mul_zero, Nat.mul_one, Nat.zero_mul], by simp -dsimp -implicitDefEqProofs (disch := omega) only [X6_film, in_t, mS_t, in_f gM (by omega : 20 < 1000000) o3, i32_lit, i32_add, i32_mul, i32_tn, i32_sub, le_t, le_f, lt_t, lt_f, eq_t, eq_f, eq_rfl, inR_t, ↓ob_x, obx_s, ↓bnd_s, ↓oT_x, oTx_s, ↓ite_x, itx_T, itx_F, ↓reduceIte, not_true_eq_false, not_false_eq_true, true_and, and_true, Nat.reduceAdd, Nat.reduceMul, Nat.reduceSub, Nat.reduceEqDiff, isB0, isB1, Int32.neg_neg, Nat.zero_add, Nat.add_zero, Nat.mul_zero, Nat.mul_one, Nat.zero_mul], d, i, c, hR⟩
    · exact ⟨-5, gI, gM, by simp -dsimp -implicitDefEqProofs (disch := omega) only [X5_film, isH_t, isS_f gI o2, i32_lit, i32_add, i32_mul, i32_tn, i32_sub, le_t, le_f, lt_t, lt_f, eq_t, eq_f, eq_rfl, inR_t, ↓ob_x, obx_s, ↓bnd_s, ↓oT_x, oTx_s, ↓ite_x, itx_T, itx_F, ↓reduceIte, not_true_eq_false, not_false_eq_true, true_and, and_true, Nat.reduceAdd, Nat.reduceMul, Nat.reduceSub, Nat.reduceEqDiff, isB0, isB1, Int32.neg_neg, Nat.zero_add, Nat.add_zero, Nat.mul_zero, Nat.mul_one, Nat.zero_mul], by simp -dsimp -implicitDefEqProofs (disch := omega) only [X6_film, in_t, mS_f gM o2, i32_lit, i32_add, i32_mul, i32_tn, i32_sub, le_t, le_f, lt_t, lt_f, eq_t, eq_f, eq_rfl, inR_t, ↓ob_x, obx_s, ↓bnd_s, ↓oT_x, oTx_s, ↓ite_x, itx_T, itx_F, ↓reduceIte, not_true_eq_false, not_false_eq_true, true_and, and_true, Nat.reduceAdd, Nat.reduceMul, Nat.reduceSub, Nat.reduceEqDiff, isB0, isB1, Int32.neg_neg, Nat.zero_add, Nat.add_zero, Nat.mul_zero, Nat.mul_one, Nat.zero_mul], d, i, c, hR⟩
  · exact ⟨-2, gI, gM, by simp -dsimp -implicitDefEqProofs (disch := omega) only [X5_film, isH_f gI o1, i32_lit, i32_add, i32_mul, i32_tn, i32_sub, le_t, le_f, lt_t, lt_f, eq_t, eq_f, eq_rfl, inR_t, ↓ob_x, obx_s, ↓bnd_s, ↓oT_x, oTx_s, ↓ite_x, itx_T, itx_F, ↓reduceIte, not_true_eq_false, not_false_eq_true, true_and, and_true, Nat.reduceAdd, Nat.reduceMul, Nat.reduceSub, Nat.reduceEqDiff, isB0, isB1, Int32.neg_neg, Nat.zero_add, Nat.add_zero, Nat.mul_zero, Nat.mul_one, Nat.zero_mul], by simp -dsimp -implicitDefEqProofs (disch := omega) only [X6_film, in_f gM (by omega : 3 < 1000000) o1, i32_lit, i32_add, i32_mul, i32_tn, i32_sub, le_t, le_f, lt_t, lt_f, eq_t, eq_f, eq_rfl, inR_t, ↓ob_x, obx_s, ↓bnd_s, ↓oT_x, oTx_s, ↓ite_x, itx_T, itx_F, ↓reduceIte, not_true_eq_false, not_false_eq_true, true_and, and_true, Nat.reduceAdd, Nat.reduceMul, Nat.reduceSub, Nat.reduceEqDiff, isB0, isB1, Int32.neg_neg, Nat.zero_add, Nat.add_zero, Nat.mul_zero, Nat.mul_one, Nat.zero_mul], d, i, c, hR⟩
