theorem TXS_1 {sa : SA} (hp : plN sa = 0) (g : Mem) : TXS sa 1 (mkM g 1 (f71 (zn sa (i32 3) 31) (zn sa (i32 8) 7) (zn sa (i32 11) 15) (zn sa (i32 15) 7) (zn sa (i32 18) 63) (zn sa (i32 24) 3) (zn sa (i32 26) 1)) f81) := by
  have q1 := zn_le sa (i32 3) 31 (by omega)
  have q2 := zn_le sa (i32 8) 7 (by omega)
  have q3 := zn_le sa (i32 11) 15 (by omega)
  have q4 := zn_le sa (i32 15) 7 (by omega)
  have q5 := zn_le sa (i32 18) 63 (by omega)
  have q6 := zn_le sa (i32 24) 3 (by omega)
  have q7 := zn_le sa (i32 26) 1 (by omega)
  have ev := f71_e g (zn sa (i32 3) 31) (zn sa (i32 8) 7) (zn sa (i32 11) 15) (zn sa (i32 15) 7) (zn sa (i32 18) 63) (zn sa (i32 24) 3) (zn sa (i32 26) 1)
  intro B D S T H M hB hD hS hT hH hM
  refine ⟨?_, ?_, ?_⟩
  · unfold reB; rw [if_pos hp]
    exact tz_0 q1 q2 q3 q4 q5 q6 q7 g ev hB hD hS hT hH
  · unfold coB; rw [if_pos hp]
    exact tz_1 q1 q2 q3 q4 q5 q6 q7 g ev hB hD hS hT hH
  · unfold faB; rw [if_pos hp]
    exact tz_2 (B := B) (D := D) (M := M) q1 q2 q3 q4 q5 q6 q7 g ev hB hD hS hT hH
set_option maxRecDepth 100000 in
theorem fe_1 {N n b : Nat} {g : Mem} (h : g.1 0 1 = i32 n) (hn : n < 159) (hb : b < 256) : X5_feed N (i32 1) (i32 b) (i32 0) (i32 0) (i32 0) (i32 0) g = some (i32 (n + 1), stI (stI g 1 n (i32 b)) 0 1 (i32 (n + 1))) := by
  simp -dsimp -implicitDefEqProofs (disch := omega) only [X5_feed, X5_areBytes, X3_hasRoom, X3_add, isW_t, h, stI_eq, stI_nj, stI_ne, stI_2, stA_eq, stA_ne, stA_2, stR_1, stR_2, i32_lit, i32_add, i32_mul, i32_tn, i32_sub, le_t, le_f, lt_t, lt_f, eq_t, eq_f, eq_rfl, inR_t, ↓ob_x, obx_s, ↓bnd_s, ↓oT_x, oTx_s, ↓ite_x, itx_T, itx_F, ↓reduceIte, not_true_eq_false, not_false_eq_true, true_and, and_true, Nat.reduceAdd, Nat.reduceMul, Nat.reduceSub, Nat.reduceEqDiff, isB0, isB1, Int32.neg_neg, Nat.zero_add, Nat.add_zero, Nat.mul_zero, Nat.mul_one, Nat.zero_mul]
theorem fe_l {N : Nat} : ∀ (L : List Nat) (n : Nat) (g : Mem), g.1 0 1 = i32 n → n + L.length ≤ 159 → (∀ x, x ∈ L → x < 256) → ∃ r g', feedX N (L.map i32) g = some (r, g') ∧ g'.1 0 1 = i32 (n + L.length) ∧ (∀ j, j < n → g'.1 1 j = g.1 1 j) ∧ (∀ j, j < L.length → g'.1 1 (n + j) = i32 (L.getD j 0)) ∧ (∀ c, ¬ c = 0 → ¬ c = 1 → g'.1 c = g.1 c) ∧ g'.2 = g.2 := by
  intro L
  induction L with
  | nil =>
    intro n g h1 h2 _
    exact ⟨0, g, rfl, h1, fun _ _ => rfl, fun j hj => by simp at hj, fun _ _ _ => rfl, rfl⟩
  | cons b bs ih =>
    intro n g h1 h2 hb
    simp only [List.length_cons] at h2
    have e := fe_1 (N := N) h1 (by omega) (hb b (by simp))
    obtain ⟨r, g', r1, r2, r3, r4, r5, r7⟩ := ih (n + 1) (stI (stI g 1 n (i32 b)) 0 1 (i32 (n + 1))) (stI_eq _ _ _ _) (by omega) (fun x hx => hb x (List.mem_cons_of_mem _ hx))
    refine ⟨r, g', ?_, ?_, fun j hj => ?_, fun j hj => ?_, fun c c0 c1 => ?_, ?_⟩
    · show ob (X5_feed N (i32 1) (i32 b) (i32 0) (i32 0) (i32 0) (i32 0) g) _ = _
      rw [e, ob_s]
      exact r1
    · rw [r2, List.length_cons]
      congr 1
      omega
    · rw [r3 j (by omega), stI_ne _ _ _ _ _ (by omega), stI_nj _ _ _ _ _ (by omega)]
    · cases j with
      | zero =>
        rw [Nat.add_zero, r3 n (by omega), stI_ne _ _ _ _ _ (by omega), stI_eq]
        rfl
      | succ j =>
        have := r4 j (by simp only [List.length_cons] at hj; omega)
        rw [show n + (j + 1) = n + 1 + j by omega, this]
        rfl
    · rw [r5 c c0 c1, stI_ne _ _ _ _ _ c0, stI_ne _ _ _ _ _ c1]
    · rw [r7]; rfl
theorem dg_map (z : Nat) : dg z = (dgN z).map i32 := by
  unfold dg dgN; split <;> rfl
theorem tb0 : txB (txL 0) = (Wreaches ++ 32 :: (Wbreath ++ [45])).map i32 := by decide +kernel
theorem tb1 : txB (txL 1) = (43 :: 40 :: (Wsort ++ [60])).map i32 := by decide +kernel
theorem tb2 : txB (txL 2) = [41, 42].map i32 := by decide +kernel
theorem tb3 : txB (txL 3) = (59 :: (Wcosts ++ 32 :: (Wdeep ++ [43]))).map i32 := by decide +kernel
theorem tb4 : txB (txL 4) = (45 :: 40 :: (Wstrong ++ [60])).map i32 := by decide +kernel
theorem tb5 : txB (txL 5) = (41 :: 42 :: (dgN 4 ++ 59 :: (Wfades ++ [32]))).map i32 := by decide +kernel
theorem tb6 : txB (txL 6) = (43 :: (Wsort ++ [42])).map i32 := by decide +kernel
theorem tb7 : txB (txL 7) = (43 :: 40 :: (Wstrong ++ 60 :: (Whour ++ [41, 59]))).map i32 := by decide +kernel
def YS (sa : SA) : List Nat := Y0 (zn sa (i32 3) 31) (zn sa (i32 8) 7) (zn sa (i32 11) 15) (zn sa (i32 15) 7) (zn sa (i32 18) 63) (zn sa (i32 24) 3) (zn sa (i32 26) 1)
theorem tq_map (sa : SA) : tq15 sa = (YS sa).map i32 := by
  have e : YS sa = (Wreaches ++ 32 :: (Wbreath ++ [45])) ++ (dgN (zn sa (i32 3) 31) ++ ((43 :: 40 :: (Wsort ++ [60])) ++ (dgN (zn sa (i32 8) 7) ++ ([41, 42] ++ (dgN (zn sa (i32 11) 15) ++ ((59 :: (Wcosts ++ 32 :: (Wdeep ++ [43]))) ++ (dgN (zn sa (i32 15) 7) ++ ((45 :: 40 :: (Wstrong ++ [60])) ++ (dgN (zn sa (i32 18) 63) ++ ((41 :: 42 :: (dgN 4 ++ 59 :: (Wfades ++ [32]))) ++ (dgN (zn sa (i32 24) 3) ++ ((43 :: (Wsort ++ [42])) ++ (dgN (zn sa (i32 26) 1) ++ (43 :: 40 :: (Wstrong ++ 60 :: (Whour ++ [41, 59]))))))))))))))))  := by
    unfold YS Y0 Y1 Y2
    simp only [List.append_assoc, List.cons_append, List.nil_append]
  rw [e]
  simp only [List.map_append (f := i32) (l₁ := _ ++ _), List.map_append]
  unfold tq15 tq14 tq13 tq12 tq11 tq10 tq9 tq8 tq7 tq6 tq5 tq4 tq3 tq2 tq1 tq0
  rw [tb0, tb1, tb2, tb3, tb4, tb5, tb6, tb7, dg_map, dg_map, dg_map, dg_map, dg_map, dg_map, dg_map]
  simp only [List.map_append, List.append_assoc, List.nil_append]
  rfl
