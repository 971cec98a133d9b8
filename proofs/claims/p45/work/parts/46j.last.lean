theorem al_a {A B : List Nat} (h : ∀ x, x ∈ A → x < 256) (k : ∀ x, x ∈ B → x < 256) : ∀ x, x ∈ A ++ B → x < 256 := fun x hx => by
  rcases List.mem_append.mp hx with q | q
  · exact h x q
  · exact k x q
theorem al_c {b : Nat} {B : List Nat} (h : b < 256) (k : ∀ x, x ∈ B → x < 256) : ∀ x, x ∈ b :: B → x < 256 := fun x hx => by
  rcases List.mem_cons.mp hx with q | q
  · omega
  · exact k x q
theorem al_d {z : Nat} (h : z < 100) : ∀ x, x ∈ dgN z → x < 256 := fun x hx => by
  unfold dgN at hx
  by_cases q : z < 10
  · rw [if_pos q] at hx
    have := List.mem_singleton.mp hx; omega
  · rw [if_neg q] at hx
    rcases List.mem_cons.mp hx with w | w
    · omega
    · have := List.mem_singleton.mp w; omega
theorem al_n : ∀ x, x ∈ ([] : List Nat) → x < 256 := fun x hx => by simp at hx
theorem al_Y {A SO C D ST F T : Nat} (hA : A < 100) (hSO : SO < 100) (hC : C < 100) (hD : D < 100) (hST : ST < 100) (hF : F < 100) (hT : T < 100) : ∀ x, x ∈ Y0 A SO C D ST F T → x < 256 := by
  have y2 : ∀ x, x ∈ Y2 F T → x < 256 := al_a (by decide) (al_c (by omega) (al_a (al_d hF) (al_c (by omega) (al_a (by decide) (al_c (by omega) (al_a (al_d hT) (al_c (by omega) (al_c (by omega) (al_a (by decide) (al_c (by omega) (al_a (by decide) (al_c (by omega) (al_c (by omega) al_n)))))))))))))
  have y1 : ∀ x, x ∈ Y1 D ST F T → x < 256 := al_a (by decide) (al_c (by omega) (al_a (by decide) (al_c (by omega) (al_a (al_d hD) (al_c (by omega) (al_c (by omega) (al_a (by decide) (al_c (by omega) (al_a (al_d hST) (al_c (by omega) (al_c (by omega) (al_a (al_d (by omega)) (al_c (by omega) y2)))))))))))))
  exact al_a (by decide) (al_c (by omega) (al_a (by decide) (al_c (by omega) (al_a (al_d hA) (al_c (by omega) (al_c (by omega) (al_a (by decide) (al_c (by omega) (al_a (al_d hSO) (al_c (by omega) (al_c (by omega) (al_a (al_d hC) (al_c (by omega) y1)))))))))))))
theorem BI_fr {sa : SA} {P : Nat → Nat → Prop} {n : Nat} {g g' : Mem} (h : BI sa P n g) (e : ∀ c, 42 ≤ c → c ≤ 51 → g'.1 c = g.1 c) : BI sa P n g' := by
  refine ⟨fun c j hv hp => ?_, by rw [e 42 (by omega) (by omega)]; exact h.2.1, fun p a b => by rw [e 50 (by omega) (by omega), e 51 (by omega) (by omega)]; exact h.2.2 p a b⟩
  have r : 42 ≤ cI c ∧ cI c ≤ 51 := by
    rcases vaN_c hv with rfl | rfl | rfl | rfl | rfl | rfl | rfl | rfl | rfl | rfl <;> decide
  rw [e _ r.1 r.2]; exact h.1 c j hv hp
theorem i72 (gB : Mem) : (gI1 gB).1 72 2 = i32 1 := by
  show (if 72 < 42 then gB.1 72 else pl (LI1.getD (72 - 42) [])) 2 = i32 1
  rw [if_neg (by omega)]
  decide +kernel
set_option maxRecDepth 100000 in
theorem law_np {sa : SA} (hL : sa.2.2.1 ≤ 260) (hp : plN sa = 0) : ∃ rB gB ga rf gf rt gt rq g1 gE, bootI 6000 gI0 = some (rB, gB) ∧ (∀ k, k < 42 → ∀ q, gB.2 k = some q → q < 42) ∧ L_buildA 6000 sa (gI1 gB) = some (0, ga) ∧
    feedX 6000 (tq15 sa) ga = some (rf, gf) ∧ X5_text 6000 gf = some (rt, gt) ∧ X5_force 6000 rt gt = some (rq, g1) ∧ (∀ k, k < 73 → ∀ q, g1.2 k = some q → q < 73) ∧ L_law 6000 sa (hz g1) = some (1, gE) := by
  have q1 := zn_le sa (i32 3) 31 (by omega)
  have q2 := zn_le sa (i32 8) 7 (by omega)
  have q3 := zn_le sa (i32 11) 15 (by omega)
  have q4 := zn_le sa (i32 15) 7 (by omega)
  have q5 := zn_le sa (i32 18) 63 (by omega)
  have q6 := zn_le sa (i32 24) 3 (by omega)
  have q7 := zn_le sa (i32 26) 1 (by omega)
  obtain ⟨rB, gB, b0, ⟨b1, b2⟩, _, _, b5, b6⟩ := boot_e
  obtain ⟨ga, e1, e2, e3⟩ := bA_e hL (N := 6000) (Nat.le_refl _) (BI_0 sa gB)
  rw [if_neg (show ¬ plN sa = 1 by omega)] at e1
  have a01 : ga.1 0 1 = i32 0 := by rw [e3.2 0 (by omega), gI1_lo gB 0 (by omega)]; exact b5
  have a72 : ga.1 72 2 = i32 1 := by rw [e3.2 72 (by omega)]; exact i72 gB
  have hall : ∀ x, x ∈ YS sa → x < 256 := al_Y (by omega) (by omega) (by omega) (by omega) (by omega) (by omega) (by omega)
  have hlen : (YS sa).length ≤ 90 := by
    have := (tql15 sa).2
    rw [tq_map, List.length_map] at this; exact this
  obtain ⟨rf, gf, f1, f2, _, f4, f5, f7⟩ := fe_l (N := 6000) (YS sa) 0 ga a01 (by omega) hall
  have T : TI (bL (YS sa)) (YS sa).length gf := by
    refine ⟨by omega, by rw [f2, Nat.zero_add], fun j hj => ⟨?_, ?_⟩⟩
    · unfold bL
      rw [List.getD_eq_getElem?_getD, List.getElem?_eq_getElem hj]
      exact hall _ (List.getElem_mem hj)
    · have := f4 j hj
      rw [Nat.zero_add] at this
      exact this
  have f72 : gf.1 72 2 = i32 1 := by rw [f5 72 (by omega) (by omega)]; exact a72
  obtain ⟨gt, t1, t2, t3, t4, t5, t6, t7, t8, t9, t10⟩ := tx_1 (N := 6000) (Nat.le_refl _) (by omega) (by omega) (by omega) (by omega) (by omega) (by omega) (by omega) T f72
  have p42 : gt.2 42 = some 4 := by rw [t4 42 (by omega), f7, e3.1, gI1_2hi _ _ (by omega), if_pos (Or.inl rfl)]
  have fo : X5_force 6000 (i32 1) gt = some (gt.1 4 0, stR gt 42 9) := by
    have ot4 : ∀ (f : Nat → Option (Int32 × Mem)), @oTx (Int32 × Mem) f true (some 4) = f 4 := fun f => oTx_s f 0 (by omega)
    simp -dsimp -implicitDefEqProofs (disch := omega) only [X5_force, isW_t, t5, p42, ot4, i32_lit, i32_add, i32_mul, i32_tn, i32_sub, le_t, le_f, lt_t, lt_f, eq_t, eq_f, eq_rfl, inR_t, ↓ob_x, obx_s, ↓bnd_s, ↓oT_x, oTx_s, ↓ite_x, itx_T, itx_F, ↓reduceIte, not_true_eq_false, not_false_eq_true, true_and, and_true, Nat.reduceAdd, Nat.reduceMul, Nat.reduceSub, Nat.reduceEqDiff, isB0, isB1, Int32.neg_neg, Nat.zero_add, Nat.add_zero, Nat.mul_zero, Nat.mul_one, Nat.zero_mul]
  have rows : ∀ c, 42 ≤ c → c ≤ 51 → (stR gt 42 9).1 c = ga.1 c := fun c h1 h2 => by
    show gt.1 c = _
    rw [t2 c (by omega) (by omega) (by omega) (by omega) (by omega), f5 c (by omega) (by omega)]
  have bi := BI_fr e2 rows
  have tx := TxI_1 (g := stR gt 42 9) (by omega) (by omega) (by omega) (by omega) (by omega) (by omega) (by omega) (kI_c (g := gt) _ (fun j _ => rfl) t7) t8 t9 t10
  have h42 : (stR gt 42 9).2 42 = some (4 + 5 * 1) := by
    show (if 42 = 42 then some 9 else gt.2 42) = _
    rw [if_pos rfl]
  have cw := mk_CW bi (by omega : 1 < 6) h42 tx (TXS_1 hp _)
  obtain ⟨gE, e⟩ := law_1 hL (CW_GL cw (hz_GL _)) (N := 6000) (Nat.le_refl _)
  have p2 : ∀ k, k < 42 → ∀ q, gB.2 k = some q → q < 42 := by
    intro k hk q h
    by_cases z : k = 0
    · subst z; rw [b1] at h; injection h; omega
    · rw [b2 k (by omega) hk] at h; exact absurd h (by simp)
  refine ⟨rB, gB, ga, rf, gf, i32 1, gt, gt.1 4 0, stR gt 42 9, gE, b0, p2, e1, by rw [tq_map]; exact f1, t1, fo, fun k hk q h => ?_, e⟩
  have h' : (if k = 42 then some 9 else gt.2 k) = some q := h
  by_cases z42 : k = 42
  · rw [if_pos z42] at h'; injection h'; omega
  · rw [if_neg z42] at h'
    by_cases z0 : k = 0
    · subst z0; rw [t6] at h'; injection h'; omega
    · rw [t4 k z0, f7, e3.1] at h'
      by_cases z : k < 42
      · rw [gI1_2lo _ _ z] at h'; have := p2 k z q h'; omega
      · rw [gI1_2hi _ _ (by omega)] at h'
        by_cases y : k = 42 ∨ k = 52 ∨ k = 62
        · rw [if_pos y] at h'; injection h'; omega
        · rw [if_neg y] at h'; exact absurd h' (by simp)
