/-! what changes a scene, both sides; the main sort, FAIR, what lies over the bay -/
theorem Sc_K {b d i : Nat} {gI gM : Mem} (h : Sc b d i gI gM) (w k : Nat) (v : Int32) (hw : w < 4) : Sc b d i (stI gI (b + 2 + w) k v) (stI gM 4 (4 * k + w) v) := by
  have key : ∀ w' k', w' < 4 → gI.1 (b + 2 + w') k' = gM.1 4 (4 * k' + w') → (stI gI (b + 2 + w) k v).1 (b + 2 + w') k' = (stI gM 4 (4 * k + w) v).1 4 (4 * k' + w') := by
    intro w' k' h1 h2
    by_cases e1 : w' = w
    · subst e1
      by_cases e2 : k' = k
      · subst e2; rw [stI_eq, stI_eq]
      · rw [stI_nj _ _ _ _ _ e2, stI_nj _ _ _ _ _ (by omega)]; exact h2
    · rw [stI_ne _ _ _ _ _ (by omega), stI_nj _ _ _ _ _ (by omega)]; exact h2
  obtain ⟨⟨a1, a2, a3⟩, b1, b2, b3, b4, b5, b6, b7, b8, b9, b10, b11, b12, b13, b14⟩ := h
  refine ⟨⟨a1, a2, a3⟩, ?_, fun k hk => key 0 k (by omega) (b2 k hk), fun k hk => key 1 k (by omega) (b3 k hk), fun k hk => key 2 k (by omega) (b4 k hk), fun k hk => key 3 k (by omega) (b5 k hk), ?_, ?_, ?_, ?_, ?_, ?_, b12, ?_, TxI_fr b14 (stI_ne _ _ _ _ _ (by omega)) (stI_ne _ _ _ _ _ (by omega)) (stI_ne _ _ _ _ _ (by omega)) (stI_ne _ _ _ _ _ (by omega))⟩
  · rw [stI_ne _ _ _ _ _ (by omega), stI_ne _ _ _ _ _ (by omega)]; exact b1
  · rw [stI_ne _ _ _ _ _ (by omega), stI_ne _ _ _ _ _ (by omega)]; exact b6
  · rw [stI_ne _ _ _ _ _ (by omega)]; exact b7
  · rw [stI_ne _ _ _ _ _ (by omega)]; exact b8
  · rw [stI_ne _ _ _ _ _ (by omega), stI_ne _ _ _ _ _ (by omega)]; exact b9
  · rw [stI_ne _ _ _ _ _ (by omega), stI_ne _ _ _ _ _ (by omega)]; exact b10
  · rw [stI_ne _ _ _ _ _ (by omega), stI_ne _ _ _ _ _ (by omega)]; exact b11
  · rw [stI_ne _ _ _ _ _ (by omega)]; exact b13
theorem Bd_K {d : Nat} {gM : Mem} (h : Bd d gM) (w k : Nat) (v : Int32) (hw : w < 4) (hv : NB (if w = 0 then 5 else if w = 3 then 2 else 99) v) : Bd d (stI gM 4 (4 * k + w) v) := by
  have key : ∀ w' k', w' < 4 → NB (if w' = 0 then 5 else if w' = 3 then 2 else 99) (gM.1 4 (4 * k' + w')) → NB (if w' = 0 then 5 else if w' = 3 then 2 else 99) ((stI gM 4 (4 * k + w) v).1 4 (4 * k' + w')) := by
    intro w' k' h1 h2
    by_cases e1 : w' = w
    · subst e1
      by_cases e2 : k' = k
      · subst e2; rw [stI_eq]; exact hv
      · rw [stI_nj _ _ _ _ _ (by omega)]; exact h2
    · rw [stI_nj _ _ _ _ _ (by omega)]; exact h2
  obtain ⟨q1, q2, q3, q4, q5, q6, q7, q8⟩ := h
  refine ⟨?_, fun k hk => key 0 k (by omega) (q2 k hk), fun k hk => key 1 k (by omega) (q3 k hk), fun k hk => key 2 k (by omega) (q4 k hk), fun k hk => key 3 k (by omega) (q5 k hk), ?_, ?_, ?_⟩
  · rw [stI_ne _ _ _ _ _ (by omega)]; exact q1
  · rw [stI_ne _ _ _ _ _ (by omega)]; exact q6
  · rw [stI_ne _ _ _ _ _ (by omega)]; exact q7
  · rw [stI_ne _ _ _ _ _ (by omega)]; exact q8
theorem OKs_K {b d i : Nat} {gI gM : Mem} (h : Sc b d i gI gM) (q : Bd d gM) (w k : Nat) (v : Int32) (hw : w < 4) (hv : NB (if w = 0 then 5 else if w = 3 then 2 else 99) v) : OKs b d i gI gM (stI gI (b + 2 + w) k v) (stI gM 4 (4 * k + w) v) := by
  refine ⟨Sc_K h w k v hw, Bd_K q w k v hw hv, FI_st _ _ (by omega), FM_st _ _ (by omega), fun g p hp => ?_⟩
  rw [stI_ne _ _ _ _ _ (by omega), stI_ne _ _ _ _ _ (by omega)]; exact g p hp
theorem OKs_W {b d i : Nat} {gI gM : Mem} (h : Sc b d i gI gM) (q : Bd d gM) (t : Nat) (v : Int32) (hv : NB 99 v) : OKs b d i gI gM (stI gI (b + 1) t v) (stI gM 5 t v) := by
  obtain ⟨⟨a1, a2, a3⟩, b1, b2, b3, b4, b5, b6, b7, b8, b9, b10, b11, b12, b13, b14⟩ := h
  obtain ⟨q1, q2, q3, q4, q5, q6, q7, q8⟩ := q
  have e : ∀ c, ¬ c = b + 1 → (stI gI (b + 1) t v).1 c = gI.1 c := fun c hc => stI_ne _ _ _ _ _ hc
  have f : ∀ c, ¬ c = 5 → (stI gM 5 t v).1 c = gM.1 c := fun c hc => stI_ne _ _ _ _ _ hc
  refine ⟨⟨⟨a1, a2, a3⟩, fun j hj => ?_, ?_, ?_, ?_, ?_, ?_, ?_, ?_, ?_, ?_, ?_, b12, ?_, TxI_fr b14 (e _ (by omega)) (e _ (by omega)) (f _ (by omega)) (f _ (by omega))⟩, ⟨fun j hj => ?_, ?_, ?_, ?_, ?_, ?_, ?_, ?_⟩, FI_st _ _ (by omega), FM_st _ _ (by omega), fun g p hp => ?_⟩
  · rw [stI_1, stI_1, if_pos rfl, if_pos rfl]
    by_cases hjt : j = t
    · rw [if_pos hjt, if_pos hjt]
    · rw [if_neg hjt, if_neg hjt]; exact b1 j hj
  · rw [e _ (by omega), f _ (by omega)]; exact b2
  · rw [e _ (by omega), f _ (by omega)]; exact b3
  · rw [e _ (by omega), f _ (by omega)]; exact b4
  · rw [e _ (by omega), f _ (by omega)]; exact b5
  · rw [e _ (by omega), f _ (by omega)]; exact b6
  · rw [e _ (by omega)]; exact b7
  · rw [f _ (by omega)]; exact b8
  · rw [e _ (by omega), f _ (by omega)]; exact b9
  · rw [e _ (by omega), f _ (by omega)]; exact b10
  · rw [e _ (by omega), f _ (by omega)]; exact b11
  · rw [f _ (by omega)]; exact b13
  · rw [stI_1, if_pos rfl]
    by_cases hjt : j = t
    · rw [if_pos hjt]; exact hv
    · rw [if_neg hjt]; exact q1 j hj
  · rw [f _ (by omega)]; exact q2
  · rw [f _ (by omega)]; exact q3
  · rw [f _ (by omega)]; exact q4
  · rw [f _ (by omega)]; exact q5
  · rw [f _ (by omega)]; exact q6
  · rw [f _ (by omega)]; exact q7
  · rw [f _ (by omega)]; exact q8
  · rw [e _ (by omega), f _ (by omega)]; exact g p hp
/-- one diver's breath -/
theorem OKs_B {b d i : Nat} {gI gM : Mem} (h : Sc b d i gI gM) (q : Bd d gM) (t : Nat) (v : Int32) (hv : NB 99 v) : OKs b d i gI gM (stI gI (b + 8) t v) (stI gM 3 (2 * t) v) := by
  obtain ⟨⟨a1, a2, a3⟩, b1, b2, b3, b4, b5, b6, b7, b8, b9, b10, b11, b12, b13, b14⟩ := h
  obtain ⟨q1, q2, q3, q4, q5, q6, q7, q8⟩ := q
  have e : ∀ c, ¬ c = b + 8 → (stI gI (b + 8) t v).1 c = gI.1 c := fun c hc => stI_ne _ _ _ _ _ hc
  have f : ∀ c, ¬ c = 3 → (stI gM 3 (2 * t) v).1 c = gM.1 c := fun c hc => stI_ne _ _ _ _ _ hc
  refine ⟨⟨⟨a1, a2, a3⟩, ?_, ?_, ?_, ?_, ?_, fun j hj => ?_, ?_, ?_, ?_, ?_, ?_, b12, ?_, TxI_fr b14 (e _ (by omega)) (e _ (by omega)) (f _ (by omega)) (f _ (by omega))⟩, ⟨?_, ?_, ?_, ?_, ?_, fun j hj => ?_, ?_, ?_⟩, FI_st _ _ (by omega), FM_st _ _ (by omega), fun g p hp => ?_⟩
  · rw [e _ (by omega), f _ (by omega)]; exact b1
  · rw [e _ (by omega), f _ (by omega)]; exact b2
  · rw [e _ (by omega), f _ (by omega)]; exact b3
  · rw [e _ (by omega), f _ (by omega)]; exact b4
  · rw [e _ (by omega), f _ (by omega)]; exact b5
  · by_cases hjt : j = t
    · subst hjt; rw [stI_eq, stI_eq]
    · rw [stI_nj _ _ _ _ _ hjt, stI_nj _ _ _ _ _ (by omega)]; exact b6 j hj
  · rw [e _ (by omega)]; exact b7
  · rw [f _ (by omega)]; exact b8
  · rw [e _ (by omega), f _ (by omega)]; exact b9
  · rw [e _ (by omega), f _ (by omega)]; exact b10
  · rw [e _ (by omega), f _ (by omega)]; exact b11
  · rw [f _ (by omega)]; exact b13
  · rw [f _ (by omega)]; exact q1
  · rw [f _ (by omega)]; exact q2
  · rw [f _ (by omega)]; exact q3
  · rw [f _ (by omega)]; exact q4
  · rw [f _ (by omega)]; exact q5
  · by_cases hjt : j = t
    · subst hjt; rw [stI_eq]; exact hv
    · rw [stI_nj _ _ _ _ _ (by omega)]; exact q6 j hj
  · rw [f _ (by omega)]; exact q7
  · rw [f _ (by omega)]; exact q8
  · rw [e _ (by omega), stI_nj _ _ _ _ _ (by omega)]; exact g p hp
/-- how many one has brought -/
theorem OKs_G {b d i : Nat} {gI gM : Mem} (h : Sc b d i gI gM) (q : Bd d gM) (t : Nat) (v w : Int32) (hv : Bg b gI gM → v = w) : OKs b d i gI gM (stI gI (b + 9) t v) (stI gM 3 (2 * t + 1) w) := by
  obtain ⟨⟨a1, a2, a3⟩, b1, b2, b3, b4, b5, b6, b7, b8, b9, b10, b11, b12, b13, b14⟩ := h
  obtain ⟨q1, q2, q3, q4, q5, q6, q7, q8⟩ := q
  have e : ∀ c, ¬ c = b + 9 → (stI gI (b + 9) t v).1 c = gI.1 c := fun c hc => stI_ne _ _ _ _ _ hc
  have f : ∀ c, ¬ c = 3 → (stI gM 3 (2 * t + 1) w).1 c = gM.1 c := fun c hc => stI_ne _ _ _ _ _ hc
  refine ⟨⟨⟨a1, a2, a3⟩, ?_, ?_, ?_, ?_, ?_, fun j hj => ?_, ?_, ?_, ?_, ?_, ?_, b12, ?_, TxI_fr b14 (e _ (by omega)) (e _ (by omega)) (f _ (by omega)) (f _ (by omega))⟩, ⟨?_, ?_, ?_, ?_, ?_, fun j hj => ?_, ?_, ?_⟩, FI_st _ _ (by omega), FM_st _ _ (by omega), fun g p hp => ?_⟩
  · rw [e _ (by omega), f _ (by omega)]; exact b1
  · rw [e _ (by omega), f _ (by omega)]; exact b2
  · rw [e _ (by omega), f _ (by omega)]; exact b3
  · rw [e _ (by omega), f _ (by omega)]; exact b4
  · rw [e _ (by omega), f _ (by omega)]; exact b5
  · rw [e _ (by omega), stI_nj _ _ _ _ _ (by omega)]; exact b6 j hj
  · rw [e _ (by omega)]; exact b7
  · rw [f _ (by omega)]; exact b8
  · rw [e _ (by omega), f _ (by omega)]; exact b9
  · rw [e _ (by omega), f _ (by omega)]; exact b10
  · rw [e _ (by omega), f _ (by omega)]; exact b11
  · rw [f _ (by omega)]; exact b13
  · rw [f _ (by omega)]; exact q1
  · rw [f _ (by omega)]; exact q2
  · rw [f _ (by omega)]; exact q3
  · rw [f _ (by omega)]; exact q4
  · rw [f _ (by omega)]; exact q5
  · rw [stI_nj _ _ _ _ _ (by omega)]; exact q6 j hj
  · rw [f _ (by omega)]; exact q7
  · rw [f _ (by omega)]; exact q8
  · by_cases hpt : p = t
    · subst hpt; rw [stI_eq, stI_eq]; exact hv g
    · rw [stI_nj _ _ _ _ _ hpt, stI_nj _ _ _ _ _ (by omega)]; exact g p hp
/-- the hour set -/
theorem OKs_H {b d i : Nat} {gI gM : Mem} (h : Sc b d i gI gM) (q : Bd d gM) (v : Int32) : OKs b d i gI gM (stI gI b 10 v) (stI gM 0 6 v) := by
  obtain ⟨⟨a1, a2, a3⟩, b1, b2, b3, b4, b5, b6, b7, b8, b9, b10, b11, b12, b13, b14⟩ := h
  obtain ⟨q1, q2, q3, q4, q5, q6, q7, q8⟩ := q
  have e : ∀ c, ¬ c = b → (stI gI b 10 v).1 c = gI.1 c := fun c hc => stI_ne _ _ _ _ _ hc
  have f : ∀ c, ¬ c = 0 → (stI gM 0 6 v).1 c = gM.1 c := fun c hc => stI_ne _ _ _ _ _ hc
  refine ⟨⟨⟨a1, a2, a3⟩, ?_, ?_, ?_, ?_, ?_, ?_, ?_, ?_, ?_, ?_, ?_, b12, ?_, TxI_fr b14 (e _ (by omega)) (e _ (by omega)) (f _ (by omega)) (f _ (by omega))⟩, ⟨?_, ?_, ?_, ?_, ?_, ?_, ?_, ?_⟩, FI_st _ _ (by omega), FM_st0 _ _ (by omega), fun g p hp => ?_⟩
  · rw [e _ (by omega), f _ (by omega)]; exact b1
  · rw [e _ (by omega), f _ (by omega)]; exact b2
  · rw [e _ (by omega), f _ (by omega)]; exact b3
  · rw [e _ (by omega), f _ (by omega)]; exact b4
  · rw [e _ (by omega), f _ (by omega)]; exact b5
  · rw [e _ (by omega), f _ (by omega)]; exact b6
  · rw [stI_nj _ _ _ _ _ (by omega)]; exact b7
  · rw [stI_nj _ _ _ _ _ (by omega)]; exact b8
  · rw [e _ (by omega), f _ (by omega)]; exact b9
  · rw [e _ (by omega), f _ (by omega)]; exact b10
  · rw [stI_eq, stI_eq]
  · rw [stI_nj _ _ _ _ _ (by omega)]; exact b13
  · rw [f _ (by omega)]; exact q1
  · rw [f _ (by omega)]; exact q2
  · rw [f _ (by omega)]; exact q3
  · rw [f _ (by omega)]; exact q4
  · rw [f _ (by omega)]; exact q5
  · rw [f _ (by omega)]; exact q6
  · rw [f _ (by omega)]; exact q7
  · rw [f _ (by omega)]; exact q8
  · rw [e _ (by omega), f _ (by omega)]; exact g p hp
/-- hoursGone, fairThen: the reference's own notes -/
theorem OKs_N {b d i : Nat} {gI gM : Mem} (h : Sc b d i gI gM) (q : Bd d gM) (j : Nat) (hj : j = 32 ∨ j = 33) (v : Int32) : OKs b d i gI gM gI (stI gM 0 j v) := by
  have m : LkM d gM (stI gM 0 j v) := ⟨fun _ _ => by rw [stI_ne _ _ _ _ _ (by omega)], fun _ _ => by rw [stI_ne _ _ _ _ _ (by omega)], fun _ _ => by rw [stI_ne _ _ _ _ _ (by omega)], stI_nj _ _ _ _ _ (by omega), stI_nj _ _ _ _ _ (by omega), stI_nj _ _ _ _ _ (by omega), fun _ _ => by rw [stI_ne _ _ _ _ _ (by omega)], fun _ _ => by rw [stI_ne _ _ _ _ _ (by omega)], stI_ne _ _ _ _ _ (by omega), stI_ne _ _ _ _ _ (by omega)⟩
  have l : LkI b gI gI := ⟨fun _ _ _ => rfl, rfl, fun _ _ => ⟨rfl, rfl⟩⟩
  exact ⟨Sc_Lk h l m (Nat.le_refl d), Bd_Lk q m (Nat.le_refl d), FI_rfl b gI, FM_st0 _ _ (by omega), fun g => Bg_Lk g l m⟩
/-- a cask let loose -/
def loM (gM : Mem) (s k : Nat) : Mem := stI (stI gM 5 s (cl (gM.1 5 s + gM.1 4 (4 * k + 1)))) 4 (4 * k + 3) (i32 2)
set_option maxRecDepth 100000 in
theorem loose_sim {N b d i k : Nat} {gI gM : Mem} (h : Sc b d i gI gM) (q : Bd d gM) (hk : k < 12) : ∃ s gI', s < 6 ∧ gM.1 4 (4 * k) = i32 s ∧ X1_letLoose N b (i32 k) gI = some (i32 0, gI') ∧ X6_opens0 N (i32 k) gM = some (i32 0, loM gM s k) ∧ OKs b d i gI gM gI' (loM gM s k) := by
  obtain ⟨s, hs, es⟩ := q.2.1 k hk
  have hw := q.1 s (by omega)
  have hst := q.2.2.1 k hk
  have e1 := mn_cl (NB_up (NB_add hw hst) (by omega))
  have o1 := OKs_W h q s (cl (gM.1 5 s + gM.1 4 (4 * k + 1))) (cl_nb _)
  have o2 := OKs_K o1.1 o1.2.1 3 k (i32 2) (by omega) ⟨2, by simp, rfl⟩
  have b1 := h.2.1
  have b2 := h.2.2.1
  have b3 := h.2.2.2.1
  refine ⟨s, stI (stI gI (b + 1) s (cl (gM.1 5 s + gM.1 4 (4 * k + 1)))) (b + 2 + 3) k (i32 2), by omega, es, ?_, ?_, OKs_tr o1 o2⟩
  · simp -dsimp -implicitDefEqProofs (disch := omega) only [X1_letLoose, X1_blowUp, ↓mn_def, i32_lit, i32_add, i32_mul, i32_tn, i32_sub, le_t, le_f, lt_t, lt_f, eq_t, eq_f, eq_rfl, inR_t, ↓ob_x, obx_s, ↓bnd_s, ↓oT_x, oTx_s, ↓ite_x, itx_T, itx_F, ↓reduceIte, not_true_eq_false, not_false_eq_true, true_and, and_true, Nat.reduceAdd, Nat.reduceMul, Nat.reduceSub, Nat.reduceEqDiff, isB0, isB1, Int32.neg_neg, Nat.zero_add, Nat.add_zero, Nat.mul_zero, Nat.mul_one, Nat.zero_mul, b2, b3, es, b1, e1, Nat.add_assoc]
  · have e2 := cl_w N (gM.1 5 s + gM.1 4 (4 * k + 1)) gM
    simp -dsimp -implicitDefEqProofs (disch := omega) only [X6_opens0, i32_lit, i32_add, i32_mul, i32_tn, i32_sub, le_t, le_f, lt_t, lt_f, eq_t, eq_f, eq_rfl, inR_t, ↓ob_x, obx_s, ↓bnd_s, ↓oT_x, oTx_s, ↓ite_x, itx_T, itx_F, ↓reduceIte, not_true_eq_false, not_false_eq_true, true_and, and_true, Nat.reduceAdd, Nat.reduceMul, Nat.reduceSub, Nat.reduceEqDiff, isB0, isB1, Int32.neg_neg, Nat.zero_add, Nat.add_zero, Nat.mul_zero, Nat.mul_one, Nat.zero_mul, es, e2, loM]
set_option maxRecDepth 100000 in
theorem blow_sim {N b d i t m : Nat} {gI gM : Mem} (h : Sc b d i gI gM) (q : Bd d gM) (ht : t < 6) (hm : m ≤ 99) : X1_blowUp N b (i32 t) (i32 m) gI = some (i32 0, stI gI (b + 1) t (cl (gM.1 5 t + i32 m))) ∧ OKs b d i gI gM (stI gI (b + 1) t (cl (gM.1 5 t + i32 m))) (stI gM 5 t (cl (gM.1 5 t + i32 m))) := by
  have e1 := mn_cl (NB_up (NB_add (q.1 t ht) (NB_of 99 m hm)) (by omega))
  refine ⟨?_, OKs_W h q t _ (cl_nb _)⟩
  have b1 := h.2.1
  simp -dsimp -implicitDefEqProofs (disch := omega) only [X1_blowUp, ↓mn_def, i32_lit, i32_add, i32_mul, i32_tn, i32_sub, le_t, le_f, lt_t, lt_f, eq_t, eq_f, eq_rfl, inR_t, ↓ob_x, obx_s, ↓bnd_s, ↓oT_x, oTx_s, ↓ite_x, itx_T, itx_F, ↓reduceIte, not_true_eq_false, not_false_eq_true, true_and, and_true, Nat.reduceAdd, Nat.reduceMul, Nat.reduceSub, Nat.reduceEqDiff, isB0, isB1, Int32.neg_neg, Nat.zero_add, Nat.add_zero, Nat.mul_zero, Nat.mul_one, Nat.zero_mul, b1, e1]
theorem CoV_nb {d i p k : Nat} {gM : Mem} (q : Bd d gM) (hp : p < d) : NB 200 (CoV gM i p k) := by
  obtain ⟨n, hn, e⟩ := tv_nb gM i 1 (nm (gM.1 3 (2 * p)) (gM.1 4 (4 * k + 2)) (gM.1 4 (4 * k + 1)) (gM.1 4 (4 * k)) (gM.1 0 6) (gM.1 2 p))
  have e' : SV gM i 1 p k = i32 n := e
  have h1 : NB 200 (SV gM i 1 p k / i32 2) := by
    rw [e', i32_divz n 2 (by omega) (by omega) (by omega)]
    exact ⟨n / 2, by omega, rfl⟩
  have h2 : NB 200 (SV gM i 1 p k + gM.1 2 p) := NB_up (NB_add (a := 99) ⟨n, hn, e'⟩ (q.2.2.2.2.2.2.2 p hp)) (by omega)
  have h3 : NB 200 (SV gM i 1 p k) := ⟨n, by omega, e'⟩
  unfold CoV
  split
  · split
    · exact h1
    · exact h2
  split
  · split
    · exact ⟨0, by omega, rfl⟩
    · exact h3
  split
  · split
    · exact h1
    · exact h2
  · exact h3
/-- a cask brought up -/
def dvM (gM : Mem) (i p k : Nat) : Mem := stI (stI (stI gM 3 (2 * p) (gM.1 3 (2 * p) - CoV gM i p k)) 4 (4 * k + 3) (i32 1)) 3 (2 * p + 1) (gM.1 3 (2 * p + 1) + i32 1)
theorem dv_nb {d i p k : Nat} {gM : Mem} (q : Bd d gM) (hp : p < d) (hd : d ≤ 6) (hc : canV gM i p k = 1) : NB 99 (gM.1 3 (2 * p) - CoV gM i p k) := by
  obtain ⟨n, hn, e⟩ := q.2.2.2.2.2.1 p (by omega)
  obtain ⟨m, hm, e2⟩ := CoV_nb (k := k) (i := i) q hp
  have h : ¬ gM.1 3 (2 * p) < CoV gM i p k := by
    intro hx
    unfold canV at hc
    split at hc
    · split at hc
      · omega
      · omega
    · omega
  rw [e, e2, i32_lt (by omega) (by omega)] at h
  rw [e, e2, i32_sub (by omega)]
  exact ⟨n - m, by omega, rfl⟩
set_option maxRecDepth 100000 in
theorem dive_sim {N b d i p k : Nat} (hN : 6000 ≤ N) {gI gM : Mem} (h : Sc b d i gI gM) (q : Bd d gM) (hp : p < d) (hk : k < 12) (hc : canV gM i p k = 1) :
    ∃ gI' gM', X1_bringUp N b (i32 p) (i32 k) gI = some (i32 0, gI') ∧ X6_diveOf N (i32 p) (i32 k) gM = some (i32 0, gM') ∧ OKs b d i gI gM gI' gM' ∧ SM (dvM gM i p k) gM' ∧ (∀ c, ¬ c = b + 5 → ¬ c = b + 8 → ¬ c = b + 9 → 34 ≤ c → gI'.1 c = gI.1 c) := by
  obtain ⟨p1, p2, p3, p4, p5⟩ := Sc_p h
  obtain ⟨g1, r1, r2⟩ := cost_I hN h hp hk
  obtain ⟨m1, s1, s2⟩ := cost_M (k := k) hN p1 p2 p3 (by omega : p < 6) hk
  have nb := dv_nb (i := i) q hp p4 hc
  have hb := h.1.1
  have o0 := OKs_S h q r2 s2
  have o1 := OKs_B o0.1 o0.2.1 p (gM.1 3 (2 * p) - CoV gM i p k) nb
  have o2 := OKs_K o1.1 o1.2.1 3 k (i32 1) (by omega) ⟨1, by simp, rfl⟩
  have o3 := OKs_G o2.1 o2.2.1 p ((stI (stI g1 (b + 8) p (gM.1 3 (2 * p) - CoV gM i p k)) (b + 2 + 3) k (i32 1)).1 (b + 9) p + i32 1) (gM.1 3 (2 * p + 1) + i32 1) (fun g => by
    rw [g p (by omega), stI_ne _ _ _ _ _ (by omega), stI_nj _ _ _ _ _ (by omega), SM_r s2 3 (by omega)])
  have b8 := h.2.2.2.2.2.2.1 p (by omega)
  refine ⟨_, _, ?_, ?_, OKs_tr (OKs_tr (OKs_tr o0 o1) o2) o3, ?_, ?_⟩
  · simp -dsimp -implicitDefEqProofs (disch := omega) only [X1_bringUp, i32_lit, i32_add, i32_mul, i32_tn, i32_sub, le_t, le_f, lt_t, lt_f, eq_t, eq_f, eq_rfl, inR_t, ↓ob_x, obx_s, ↓bnd_s, ↓oT_x, oTx_s, ↓ite_x, itx_T, itx_F, ↓reduceIte, not_true_eq_false, not_false_eq_true, true_and, and_true, Nat.reduceAdd, Nat.reduceMul, Nat.reduceSub, Nat.reduceEqDiff, isB0, isB1, Int32.neg_neg, Nat.zero_add, Nat.add_zero, Nat.mul_zero, Nat.mul_one, Nat.zero_mul, r1, b8, Nat.add_assoc]
  · have c3 : m1.1 3 = gM.1 3 := SM_r s2 3 (by omega)
    simp -dsimp -implicitDefEqProofs (disch := omega) only [X6_diveOf, i32_lit, i32_add, i32_mul, i32_tn, i32_sub, le_t, le_f, lt_t, lt_f, eq_t, eq_f, eq_rfl, inR_t, ↓ob_x, obx_s, ↓bnd_s, ↓oT_x, oTx_s, ↓ite_x, itx_T, itx_F, ↓reduceIte, not_true_eq_false, not_false_eq_true, true_and, and_true, Nat.reduceAdd, Nat.reduceMul, Nat.reduceSub, Nat.reduceEqDiff, isB0, isB1, Int32.neg_neg, Nat.zero_add, Nat.add_zero, Nat.mul_zero, Nat.mul_one, Nat.zero_mul, s1, c3, stI_eq, stI_nj, stI_ne, stI_2, stA_eq, stA_ne, stA_2, stR_1, stR_2]
  · unfold dvM
    exact SM_st2 (SM_st2 (SM_st2 s2 3 (2 * p) _ (by omega)) 4 (4 * k + 3) (i32 1) (by omega)) 3 (2 * p + 1) (gM.1 3 (2 * p + 1) + i32 1) (by omega)
  · intro c h5 h8 h9 h34
    rw [stI_ne _ _ _ _ _ h9, stI_ne _ _ _ _ _ (by omega), stI_ne _ _ _ _ _ h8, SI_hi r2 c (by omega)]
/-! the main sort -/
def mainF (g : Mem) : Nat → Nat → Int32 → Int32 → Int32
  | _, 0, x, _ => x
  | j, n + 1, x, y => if g.1 5 j ≤ y then mainF g (j + 1) n x y else mainF g (j + 1) n (i32 j) (g.1 5 j)
def mainV (g : Mem) : Int32 := mainF g 0 6 (-(i32 1)) (i32 0)
set_option maxRecDepth 100000 in
theorem main_l {N b : Nat} {gI gM : Mem} (h : ∀ t, t < 6 → gI.1 (b + 1) t = gM.1 5 t) : ∀ (n j fu fM : Nat) (x y : Int32), j + n = 6 → n < fu → n < fM → X1_mainSort_L6 N b fu x y (i32 j) gI = some (mainF gM j n x y, gI) ∧ X6_main0_L6 N fM x y (i32 j) gM = some (mainF gM j n x y, gM)
  | 0, j, fu, fM, x, y, h1, h2, h3 => by
    obtain ⟨f, rfl⟩ : ∃ q, fu = q + 1 := ⟨fu - 1, by omega⟩
    obtain ⟨f', rfl⟩ : ∃ q, fM = q + 1 := ⟨fM - 1, by omega⟩
    constructor
    · simp -dsimp -implicitDefEqProofs (disch := omega) only [X1_mainSort_L6, i32_lit, i32_add, i32_mul, i32_tn, i32_sub, le_t, le_f, lt_t, lt_f, eq_t, eq_f, eq_rfl, inR_t, ↓ob_x, obx_s, ↓bnd_s, ↓oT_x, oTx_s, ↓ite_x, itx_T, itx_F, ↓reduceIte, not_true_eq_false, not_false_eq_true, true_and, and_true, Nat.reduceAdd, Nat.reduceMul, Nat.reduceSub, Nat.reduceEqDiff, isB0, isB1, Int32.neg_neg, Nat.zero_add, Nat.add_zero, Nat.mul_zero, Nat.mul_one, Nat.zero_mul, mainF]
    · simp -dsimp -implicitDefEqProofs (disch := omega) only [X6_main0_L6, i32_lit, i32_add, i32_mul, i32_tn, i32_sub, le_t, le_f, lt_t, lt_f, eq_t, eq_f, eq_rfl, inR_t, ↓ob_x, obx_s, ↓bnd_s, ↓oT_x, oTx_s, ↓ite_x, itx_T, itx_F, ↓reduceIte, not_true_eq_false, not_false_eq_true, true_and, and_true, Nat.reduceAdd, Nat.reduceMul, Nat.reduceSub, Nat.reduceEqDiff, isB0, isB1, Int32.neg_neg, Nat.zero_add, Nat.add_zero, Nat.mul_zero, Nat.mul_one, Nat.zero_mul, mainF]
  | n + 1, j, fu, fM, x, y, h1, h2, h3 => by
    obtain ⟨f, rfl⟩ : ∃ q, fu = q + 1 := ⟨fu - 1, by omega⟩
    obtain ⟨f', rfl⟩ : ∃ q, fM = q + 1 := ⟨fM - 1, by omega⟩
    by_cases hc : gM.1 5 j ≤ y
    · obtain ⟨a, c⟩ := main_l (N := N) h n (j + 1) f f' x y (by omega) (by omega) (by omega)
      constructor
      · simp -dsimp -implicitDefEqProofs (disch := omega) only [X1_mainSort_L6, i32_lit, i32_add, i32_mul, i32_tn, i32_sub, le_t, le_f, lt_t, lt_f, eq_t, eq_f, eq_rfl, inR_t, ↓ob_x, obx_s, ↓bnd_s, ↓oT_x, oTx_s, ↓ite_x, itx_T, itx_F, ↓reduceIte, not_true_eq_false, not_false_eq_true, true_and, and_true, Nat.reduceAdd, Nat.reduceMul, Nat.reduceSub, Nat.reduceEqDiff, isB0, isB1, Int32.neg_neg, Nat.zero_add, Nat.add_zero, Nat.mul_zero, Nat.mul_one, Nat.zero_mul, mainF, h, hc, a]
      · simp -dsimp -implicitDefEqProofs (disch := omega) only [X6_main0_L6, i32_lit, i32_add, i32_mul, i32_tn, i32_sub, le_t, le_f, lt_t, lt_f, eq_t, eq_f, eq_rfl, inR_t, ↓ob_x, obx_s, ↓bnd_s, ↓oT_x, oTx_s, ↓ite_x, itx_T, itx_F, ↓reduceIte, not_true_eq_false, not_false_eq_true, true_and, and_true, Nat.reduceAdd, Nat.reduceMul, Nat.reduceSub, Nat.reduceEqDiff, isB0, isB1, Int32.neg_neg, Nat.zero_add, Nat.add_zero, Nat.mul_zero, Nat.mul_one, Nat.zero_mul, mainF, hc, c]
    · obtain ⟨a, c⟩ := main_l (N := N) h n (j + 1) f f' (i32 j) (gM.1 5 j) (by omega) (by omega) (by omega)
      constructor
      · simp -dsimp -implicitDefEqProofs (disch := omega) only [X1_mainSort_L6, i32_lit, i32_add, i32_mul, i32_tn, i32_sub, le_t, le_f, lt_t, lt_f, eq_t, eq_f, eq_rfl, inR_t, ↓ob_x, obx_s, ↓bnd_s, ↓oT_x, oTx_s, ↓ite_x, itx_T, itx_F, ↓reduceIte, not_true_eq_false, not_false_eq_true, true_and, and_true, Nat.reduceAdd, Nat.reduceMul, Nat.reduceSub, Nat.reduceEqDiff, isB0, isB1, Int32.neg_neg, Nat.zero_add, Nat.add_zero, Nat.mul_zero, Nat.mul_one, Nat.zero_mul, mainF, h, hc, a]
      · simp -dsimp -implicitDefEqProofs (disch := omega) only [X6_main0_L6, i32_lit, i32_add, i32_mul, i32_tn, i32_sub, le_t, le_f, lt_t, lt_f, eq_t, eq_f, eq_rfl, inR_t, ↓ob_x, obx_s, ↓bnd_s, ↓oT_x, oTx_s, ↓ite_x, itx_T, itx_F, ↓reduceIte, not_true_eq_false, not_false_eq_true, true_and, and_true, Nat.reduceAdd, Nat.reduceMul, Nat.reduceSub, Nat.reduceEqDiff, isB0, isB1, Int32.neg_neg, Nat.zero_add, Nat.add_zero, Nat.mul_zero, Nat.mul_one, Nat.zero_mul, mainF, hc, c]
theorem main_I {N b d i : Nat} (hN : 6000 ≤ N) {gI gM : Mem} (h : Sc b d i gI gM) : X1_mainSort N b gI = some (mainV gM, gI) := (main_l h.2.1 6 0 N N (-(i32 1)) (i32 0) (by omega) (by omega) (by omega)).1
theorem main_M {N : Nat} (hN : 6000 ≤ N) (gM : Mem) : X6_main0 N gM = some (mainV gM, gM) := (main_l (N := N) (b := 0) (gI := (fun c => gM.1 (if c = 1 then 5 else c), gM.2)) (fun _ _ => rfl) 6 0 N N (-(i32 1)) (i32 0) (by omega) (by omega) (by omega)).2
theorem mainF_v (g : Mem) : ∀ (n j : Nat) (x y : Int32), j + n = 6 → (x = -(i32 1) ∨ ∃ t, t < 6 ∧ x = i32 t) → (mainF g j n x y = -(i32 1) ∨ ∃ t, t < 6 ∧ mainF g j n x y = i32 t)
  | 0, j, x, y, _, h => by rw [mainF]; exact h
  | n + 1, j, x, y, h1, h => by
    rw [mainF]
    by_cases hc : g.1 5 j ≤ y
    · rw [if_pos hc]; exact mainF_v g n (j + 1) x y (by omega) h
    · rw [if_neg hc]; exact mainF_v g n (j + 1) (i32 j) (g.1 5 j) (by omega) (Or.inr ⟨j, by omega, rfl⟩)
theorem mainV_v (g : Mem) : mainV g = -(i32 1) ∨ ∃ t, t < 6 ∧ mainV g = i32 t := mainF_v g 6 0 _ _ (by omega) (Or.inl rfl)
def fairV (g : Mem) : Int32 := g.1 5 0 + g.1 5 3 - g.1 5 2 - i32 2 * g.1 5 5
theorem fair_I {N b d i : Nat} {gI gM : Mem} (h : Sc b d i gI gM) : X1_fair N b gI = some (fairV gM, gI) := by
  have b1 := h.2.1
  simp -dsimp -implicitDefEqProofs (disch := omega) only [X1_fair, i32_lit, i32_add, i32_mul, i32_tn, i32_sub, le_t, le_f, lt_t, lt_f, eq_t, eq_f, eq_rfl, inR_t, ↓ob_x, obx_s, ↓bnd_s, ↓oT_x, oTx_s, ↓ite_x, itx_T, itx_F, ↓reduceIte, not_true_eq_false, not_false_eq_true, true_and, and_true, Nat.reduceAdd, Nat.reduceMul, Nat.reduceSub, Nat.reduceEqDiff, isB0, isB1, Int32.neg_neg, Nat.zero_add, Nat.add_zero, Nat.mul_zero, Nat.mul_one, Nat.zero_mul, b1, fairV]
theorem fair_M (N : Nat) (gM : Mem) : X6_fair N gM = some (fairV gM, gM) := by
  simp -dsimp -implicitDefEqProofs (disch := omega) only [X6_fair, i32_lit, i32_add, i32_mul, i32_tn, i32_sub, le_t, le_f, lt_t, lt_f, eq_t, eq_f, eq_rfl, inR_t, ↓ob_x, obx_s, ↓bnd_s, ↓oT_x, oTx_s, ↓ite_x, itx_T, itx_F, ↓reduceIte, not_true_eq_false, not_false_eq_true, true_and, and_true, Nat.reduceAdd, Nat.reduceMul, Nat.reduceSub, Nat.reduceEqDiff, isB0, isB1, Int32.neg_neg, Nat.zero_add, Nat.add_zero, Nat.mul_zero, Nat.mul_one, Nat.zero_mul, fairV]
def bayV (g : Mem) (w : Nat) : Int32 := if w < 6 then g.1 5 w else if w = 6 then mainV g else fairV g
set_option maxRecDepth 100000 in
theorem bay_I {N b d i w : Nat} (hN : 6000 ≤ N) {gI gM : Mem} (h : Sc b d i gI gM) (hw : w < 8) : X1_overBay N b (i32 w) gI = some (bayV gM w, gI) := by
  have b1 := h.2.1
  unfold bayV
  by_cases h6 : w < 6
  · rw [if_pos h6]
    simp -dsimp -implicitDefEqProofs (disch := omega) only [X1_overBay, isS_t, i32_lit, i32_add, i32_mul, i32_tn, i32_sub, le_t, le_f, lt_t, lt_f, eq_t, eq_f, eq_rfl, inR_t, ↓ob_x, obx_s, ↓bnd_s, ↓oT_x, oTx_s, ↓ite_x, itx_T, itx_F, ↓reduceIte, not_true_eq_false, not_false_eq_true, true_and, and_true, Nat.reduceAdd, Nat.reduceMul, Nat.reduceSub, Nat.reduceEqDiff, isB0, isB1, Int32.neg_neg, Nat.zero_add, Nat.add_zero, Nat.mul_zero, Nat.mul_one, Nat.zero_mul, b1]
  · rw [if_neg h6]
    by_cases h7 : w = 6
    · subst h7
      rw [if_pos rfl]
      simp -dsimp -implicitDefEqProofs (disch := omega) only [X1_overBay, i32_lit, i32_add, i32_mul, i32_tn, i32_sub, le_t, le_f, lt_t, lt_f, eq_t, eq_f, eq_rfl, inR_t, ↓ob_x, obx_s, ↓bnd_s, ↓oT_x, oTx_s, ↓ite_x, itx_T, itx_F, ↓reduceIte, not_true_eq_false, not_false_eq_true, true_and, and_true, Nat.reduceAdd, Nat.reduceMul, Nat.reduceSub, Nat.reduceEqDiff, isB0, isB1, Int32.neg_neg, Nat.zero_add, Nat.add_zero, Nat.mul_zero, Nat.mul_one, Nat.zero_mul, main_I hN h]
    · rw [if_neg h7]
      have o : Out (i32 w) 6 := Or.inr ⟨by rw [le_t (by omega)]; trivial, by rw [le_t (by omega)]; trivial⟩
      simp -dsimp -implicitDefEqProofs (disch := omega) only [X1_overBay, isS_f gI o, i32_lit, i32_add, i32_mul, i32_tn, i32_sub, le_t, le_f, lt_t, lt_f, eq_t, eq_f, eq_rfl, inR_t, ↓ob_x, obx_s, ↓bnd_s, ↓oT_x, oTx_s, ↓ite_x, itx_T, itx_F, ↓reduceIte, not_true_eq_false, not_false_eq_true, true_and, and_true, Nat.reduceAdd, Nat.reduceMul, Nat.reduceSub, Nat.reduceEqDiff, isB0, isB1, Int32.neg_neg, Nat.zero_add, Nat.add_zero, Nat.mul_zero, Nat.mul_one, Nat.zero_mul, fair_I h]
set_option maxRecDepth 100000 in
theorem bay_M {N w : Nat} (hN : 6000 ≤ N) (gM : Mem) (hw : w < 8) : X6_bayOf N (i32 w) gM = some (bayV gM w, gM) := by
  unfold bayV
  by_cases h6 : w < 6
  · rw [if_pos h6]
    simp -dsimp -implicitDefEqProofs (disch := omega) only [X6_bayOf, i32_lit, i32_add, i32_mul, i32_tn, i32_sub, le_t, le_f, lt_t, lt_f, eq_t, eq_f, eq_rfl, inR_t, ↓ob_x, obx_s, ↓bnd_s, ↓oT_x, oTx_s, ↓ite_x, itx_T, itx_F, ↓reduceIte, not_true_eq_false, not_false_eq_true, true_and, and_true, Nat.reduceAdd, Nat.reduceMul, Nat.reduceSub, Nat.reduceEqDiff, isB0, isB1, Int32.neg_neg, Nat.zero_add, Nat.add_zero, Nat.mul_zero, Nat.mul_one, Nat.zero_mul]
  · rw [if_neg h6]
    by_cases h7 : w = 6
    · subst h7
      rw [if_pos rfl]
      simp -dsimp -implicitDefEqProofs (disch := omega) only [X6_bayOf, i32_lit, i32_add, i32_mul, i32_tn, i32_sub, le_t, le_f, lt_t, lt_f, eq_t, eq_f, eq_rfl, inR_t, ↓ob_x, obx_s, ↓bnd_s, ↓oT_x, oTx_s, ↓ite_x, itx_T, itx_F, ↓reduceIte, not_true_eq_false, not_false_eq_true, true_and, and_true, Nat.reduceAdd, Nat.reduceMul, Nat.reduceSub, Nat.reduceEqDiff, isB0, isB1, Int32.neg_neg, Nat.zero_add, Nat.add_zero, Nat.mul_zero, Nat.mul_one, Nat.zero_mul, main_M hN]
    · rw [if_neg h7]
      simp -dsimp -implicitDefEqProofs (disch := omega) only [X6_bayOf, i32_lit, i32_add, i32_mul, i32_tn, i32_sub, le_t, le_f, lt_t, lt_f, eq_t, eq_f, eq_rfl, inR_t, ↓ob_x, obx_s, ↓bnd_s, ↓oT_x, oTx_s, ↓ite_x, itx_T, itx_F, ↓reduceIte, not_true_eq_false, not_false_eq_true, true_and, and_true, Nat.reduceAdd, Nat.reduceMul, Nat.reduceSub, Nat.reduceEqDiff, isB0, isB1, Int32.neg_neg, Nat.zero_add, Nat.add_zero, Nat.mul_zero, Nat.mul_one, Nat.zero_mul, fair_M]
