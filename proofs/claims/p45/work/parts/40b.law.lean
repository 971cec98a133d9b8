/-! THE LAW'S NUMBERS OUT OF ITS ROW -/
def AT (sa : SA) (j : Nat) : Int32 := if j < sa.2.2.1 then sa.2.2.2 j else i32 0
theorem at_e {sa : SA} (hL : sa.2.2.1 ≤ 260) (N j : Nat) (hj : j < 1000) (g : Mem) : L_at N sa (i32 j) g = some (AT sa j, g) := by
  unfold L_at AT
  by_cases h : j < sa.2.2.1
  · have e1 : (Int32.ofNat sa.2.2.1 ≤ i32 j) = False := le_f (a := sa.2.2.1) (by omega)
    simp only [e1, if_false, if_pos h]
    rw [if_pos ((i32_inR (by omega)).mpr h), i32_tn (by omega)]
  · have e1 : (Int32.ofNat sa.2.2.1 ≤ i32 j) = True := le_t (a := sa.2.2.1) (by omega)
    simp only [e1, if_true, if_neg h]; rfl
theorem AT_0 (sa : SA) : AT sa 0 = s0w sa := rfl
def shv (x a : Int32) : Int32 := x >>> (a &&& 31)
theorem shv_e (x a : Int32) : x >>> (a &&& 31) = shv x a := rfl
def mnN (sa : SA) : Nat := 1 + fz (AT sa 0) 3
def plN (sa : SA) : Nat := if fz (shv (AT sa 0) (i32 2)) 1 = 0 then 1 else 0
def hrN (sa : SA) : Nat := fz (shv (AT sa 0) (i32 27)) 15
def skN (sa : SA) (t : Nat) : Nat := 3 * fz (shv (AT sa 5) (i32 (5 * t))) 31
def cvN (sa : SA) (k : Nat) : Int32 := shv (AT sa (6 + k / 2)) (i32 (15 * (k % 2)))
def ckN (sa : SA) (k w : Nat) : Nat := if w = 0 then fz (cvN sa k) 7 % 6 else if w = 1 then 3 * fz (shv (cvN sa k) (i32 3)) 31 else if w = 2 then fz (shv (cvN sa k) (i32 8)) 31 else fz (shv (cvN sa k) (i32 13)) 3 % 3
def kdN (sa : SA) (p : Nat) : Nat := fz (AT sa (1 + p)) 7 % 6
def moN (sa : SA) (p : Nat) : Nat := fz (shv (AT sa (1 + p)) (i32 3)) 15 % 10
def brN (sa : SA) (p : Nat) : Nat := fz (shv (AT sa (1 + p)) (i32 7)) 127 % 100
theorem mn_e {sa : SA} (hL : sa.2.2.1 ≤ 260) (N : Nat) (g : Mem) : L_many N sa g = some (i32 (mnN sa), g) := by
  simp -dsimp -implicitDefEqProofs (disch := omega) only [L_many, at_e hL, mnN, ↓shv_e, fz_eq, i32_lit, i32_add, i32_mul, i32_tn, i32_sub, le_t, le_f, lt_t, lt_f, eq_t, eq_f, eq_rfl, inR_t, ↓ob_x, obx_s, ↓bnd_s, ↓oT_x, oTx_s, ↓ite_x, itx_T, itx_F, ↓reduceIte, not_true_eq_false, not_false_eq_true, true_and, and_true, Nat.reduceAdd, Nat.reduceMul, Nat.reduceSub, Nat.reduceEqDiff, isB0, isB1, Int32.neg_neg, Nat.zero_add, Nat.add_zero, Nat.mul_zero, Nat.mul_one, Nat.zero_mul]
theorem pl_e {sa : SA} (hL : sa.2.2.1 ≤ 260) (N : Nat) (g : Mem) : L_plain N sa g = some (i32 (plN sa), g) := by
  have h1 := fz_le (shv (AT sa 0) (i32 2)) 1 (by omega)
  unfold plN
  by_cases h : fz (shv (AT sa 0) (i32 2)) 1 = 0
  · simp -dsimp -implicitDefEqProofs (disch := omega) only [L_plain, at_e hL, ↓shv_e, fz_eq, h, i32_lit, i32_add, i32_mul, i32_tn, i32_sub, le_t, le_f, lt_t, lt_f, eq_t, eq_f, eq_rfl, inR_t, ↓ob_x, obx_s, ↓bnd_s, ↓oT_x, oTx_s, ↓ite_x, itx_T, itx_F, ↓reduceIte, not_true_eq_false, not_false_eq_true, true_and, and_true, Nat.reduceAdd, Nat.reduceMul, Nat.reduceSub, Nat.reduceEqDiff, isB0, isB1, Int32.neg_neg, Nat.zero_add, Nat.add_zero, Nat.mul_zero, Nat.mul_one, Nat.zero_mul]
  · simp -dsimp -implicitDefEqProofs (disch := omega) only [L_plain, at_e hL, ↓shv_e, fz_eq, h, i32_lit, i32_add, i32_mul, i32_tn, i32_sub, le_t, le_f, lt_t, lt_f, eq_t, eq_f, eq_rfl, inR_t, ↓ob_x, obx_s, ↓bnd_s, ↓oT_x, oTx_s, ↓ite_x, itx_T, itx_F, ↓reduceIte, not_true_eq_false, not_false_eq_true, true_and, and_true, Nat.reduceAdd, Nat.reduceMul, Nat.reduceSub, Nat.reduceEqDiff, isB0, isB1, Int32.neg_neg, Nat.zero_add, Nat.add_zero, Nat.mul_zero, Nat.mul_one, Nat.zero_mul]
theorem hr_e {sa : SA} (hL : sa.2.2.1 ≤ 260) (N : Nat) (g : Mem) : L_hour N sa g = some (i32 (hrN sa), g) := by
  simp -dsimp -implicitDefEqProofs (disch := omega) only [L_hour, at_e hL, hrN, ↓shv_e, fz_eq, i32_lit, i32_add, i32_mul, i32_tn, i32_sub, le_t, le_f, lt_t, lt_f, eq_t, eq_f, eq_rfl, inR_t, ↓ob_x, obx_s, ↓bnd_s, ↓oT_x, oTx_s, ↓ite_x, itx_T, itx_F, ↓reduceIte, not_true_eq_false, not_false_eq_true, true_and, and_true, Nat.reduceAdd, Nat.reduceMul, Nat.reduceSub, Nat.reduceEqDiff, isB0, isB1, Int32.neg_neg, Nat.zero_add, Nat.add_zero, Nat.mul_zero, Nat.mul_one, Nat.zero_mul]
theorem sk_e {sa : SA} (hL : sa.2.2.1 ≤ 260) (N t : Nat) (ht : t < 6) (g : Mem) : L_sky N sa (i32 t) g = some (i32 (skN sa t), g) := by
  simp -dsimp -implicitDefEqProofs (disch := omega) only [L_sky, at_e hL, skN, ↓shv_e, fz_eq, i32_lit, i32_add, i32_mul, i32_tn, i32_sub, le_t, le_f, lt_t, lt_f, eq_t, eq_f, eq_rfl, inR_t, ↓ob_x, obx_s, ↓bnd_s, ↓oT_x, oTx_s, ↓ite_x, itx_T, itx_F, ↓reduceIte, not_true_eq_false, not_false_eq_true, true_and, and_true, Nat.reduceAdd, Nat.reduceMul, Nat.reduceSub, Nat.reduceEqDiff, isB0, isB1, Int32.neg_neg, Nat.zero_add, Nat.add_zero, Nat.mul_zero, Nat.mul_one, Nat.zero_mul]
theorem kd_e {sa : SA} (hL : sa.2.2.1 ≤ 260) (N p : Nat) (hp : p < 6) (g : Mem) : L_kind N sa (i32 p) g = some (i32 (kdN sa p), g) := by
  have h1 := fz_le (AT sa (1 + p)) 7 (by omega)
  simp -dsimp -implicitDefEqProofs (disch := omega) only [L_kind, at_e hL, kdN, ↓shv_e, fz_eq, i32_divz, sub_dm, i32_lit, i32_add, i32_mul, i32_tn, i32_sub, le_t, le_f, lt_t, lt_f, eq_t, eq_f, eq_rfl, inR_t, ↓ob_x, obx_s, ↓bnd_s, ↓oT_x, oTx_s, ↓ite_x, itx_T, itx_F, ↓reduceIte, not_true_eq_false, not_false_eq_true, true_and, and_true, Nat.reduceAdd, Nat.reduceMul, Nat.reduceSub, Nat.reduceEqDiff, isB0, isB1, Int32.neg_neg, Nat.zero_add, Nat.add_zero, Nat.mul_zero, Nat.mul_one, Nat.zero_mul]
theorem mo_e {sa : SA} (hL : sa.2.2.1 ≤ 260) (N p : Nat) (hp : p < 6) (g : Mem) : L_more N sa (i32 p) g = some (i32 (moN sa p), g) := by
  have h1 := fz_le (shv (AT sa (1 + p)) (i32 3)) 15 (by omega)
  simp -dsimp -implicitDefEqProofs (disch := omega) only [L_more, at_e hL, moN, ↓shv_e, fz_eq, i32_divz, sub_dm, i32_lit, i32_add, i32_mul, i32_tn, i32_sub, le_t, le_f, lt_t, lt_f, eq_t, eq_f, eq_rfl, inR_t, ↓ob_x, obx_s, ↓bnd_s, ↓oT_x, oTx_s, ↓ite_x, itx_T, itx_F, ↓reduceIte, not_true_eq_false, not_false_eq_true, true_and, and_true, Nat.reduceAdd, Nat.reduceMul, Nat.reduceSub, Nat.reduceEqDiff, isB0, isB1, Int32.neg_neg, Nat.zero_add, Nat.add_zero, Nat.mul_zero, Nat.mul_one, Nat.zero_mul]
theorem br_e {sa : SA} (hL : sa.2.2.1 ≤ 260) (N p : Nat) (hp : p < 6) (g : Mem) : L_breath N sa (i32 p) g = some (i32 (brN sa p), g) := by
  have h1 := fz_le (shv (AT sa (1 + p)) (i32 7)) 127 (by omega)
  simp -dsimp -implicitDefEqProofs (disch := omega) only [L_breath, at_e hL, brN, ↓shv_e, fz_eq, i32_divz, sub_dm, i32_lit, i32_add, i32_mul, i32_tn, i32_sub, le_t, le_f, lt_t, lt_f, eq_t, eq_f, eq_rfl, inR_t, ↓ob_x, obx_s, ↓bnd_s, ↓oT_x, oTx_s, ↓ite_x, itx_T, itx_F, ↓reduceIte, not_true_eq_false, not_false_eq_true, true_and, and_true, Nat.reduceAdd, Nat.reduceMul, Nat.reduceSub, Nat.reduceEqDiff, isB0, isB1, Int32.neg_neg, Nat.zero_add, Nat.add_zero, Nat.mul_zero, Nat.mul_one, Nat.zero_mul]
theorem ck_e {sa : SA} (hL : sa.2.2.1 ≤ 260) (N k w : Nat) (hk : k < 12) (hw : w < 4) (g : Mem) : L_cask N sa (i32 k) (i32 w) g = some (i32 (ckN sa k w), g) := by
  have h1 := fz_le (cvN sa k) 7 (by omega)
  have h2 := fz_le (shv (cvN sa k) (i32 13)) 3 (by omega)
  have e : shv (AT sa (6 + k / 2)) (i32 (15 * (k % 2))) = cvN sa k := rfl
  rcases (by omega : w = 0 ∨ w = 1 ∨ w = 2 ∨ w = 3) with rfl | rfl | rfl | rfl <;>
  simp -dsimp -implicitDefEqProofs (disch := omega) only [L_cask, at_e hL, ckN, ↓shv_e, i32_divz, sub_dm, e, fz_eq, i32_lit, i32_add, i32_mul, i32_tn, i32_sub, le_t, le_f, lt_t, lt_f, eq_t, eq_f, eq_rfl, inR_t, ↓ob_x, obx_s, ↓bnd_s, ↓oT_x, oTx_s, ↓ite_x, itx_T, itx_F, ↓reduceIte, not_true_eq_false, not_false_eq_true, true_and, and_true, Nat.reduceAdd, Nat.reduceMul, Nat.reduceSub, Nat.reduceEqDiff, isB0, isB1, Int32.neg_neg, Nat.zero_add, Nat.add_zero, Nat.mul_zero, Nat.mul_one, Nat.zero_mul] <;> rfl
/-! THE LAW'S STATE: breath 0, brought 1, kind 2, more 3, sort 4, strong 5, deep 6, place 7, bay 8, hour 9 -/
abbrev LST := Nat → Nat → Nat
def bdN (c : Nat) : Nat := if c = 2 then 5 else if c = 3 then 9 else if c = 4 then 5 else if c = 7 then 2 else if c = 9 then 100 else 99
def LB (s : LST) : Prop := ∀ c j, s c j ≤ bdN c
theorem lb_br {s : LST} (b : LB s) (p : Nat) : s 0 p ≤ 99 := b 0 p
theorem lb_bg {s : LST} (b : LB s) (p : Nat) : s 1 p ≤ 99 := b 1 p
theorem lb_kd {s : LST} (b : LB s) (p : Nat) : s 2 p ≤ 5 := b 2 p
theorem lb_mo {s : LST} (b : LB s) (p : Nat) : s 3 p ≤ 9 := b 3 p
theorem lb_so {s : LST} (b : LB s) (p : Nat) : s 4 p ≤ 5 := b 4 p
theorem lb_st {s : LST} (b : LB s) (p : Nat) : s 5 p ≤ 99 := b 5 p
theorem lb_dp {s : LST} (b : LB s) (p : Nat) : s 6 p ≤ 99 := b 6 p
theorem lb_pl {s : LST} (b : LB s) (p : Nat) : s 7 p ≤ 2 := b 7 p
theorem lb_sk {s : LST} (b : LB s) (p : Nat) : s 8 p ≤ 99 := b 8 p
theorem lb_h {s : LST} (b : LB s) : s 9 0 ≤ 100 := b 9 0
def vaN (d c j : Nat) : Prop := (c < 4 ∧ j < d) ∨ (4 ≤ c ∧ c < 8 ∧ j < 12) ∨ (c = 8 ∧ j < 6) ∨ (c = 9 ∧ j = 0)
def ixG (c j : Nat) : Nat := if c = 0 then 2 * j else if c = 1 then 2 * j + 1 else if c = 2 then 8 + j else if c = 3 then 12 + j else if c < 8 then 12 + c + 4 * j else if c = 8 then 64 + j else 70
def rwM (c : Nat) : Nat := if c < 2 then 3 else if c = 2 then 1 else if c = 3 then 2 else if c < 8 then 4 else if c = 8 then 5 else 0
def ixM (c j : Nat) : Nat := if c = 0 then 2 * j else if c = 1 then 2 * j + 1 else if c = 2 then j else if c = 3 then j else if c < 8 then 4 * j + (c - 4) else if c = 8 then j else 6
def LL (d : Nat) (s : LST) (g : Mem) : Prop := ∀ c j, vaN d c j → ldL g (ixG c j) = i64 (s c j)
def LM (d : Nat) (s : LST) (g : Mem) : Prop := ∀ c j, vaN d c j → g.1 (rwM c) (ixM c j) = i32 (s c j)
def ups (s : LST) (c j v : Nat) : LST := fun c' j' => if c' = c ∧ j' = j then v else s c' j'
theorem ups_e (s : LST) (c j v : Nat) : ups s c j v c j = v := if_pos ⟨rfl, rfl⟩
theorem ups_n (s : LST) (c j v c' j' : Nat) (h : ¬ (c' = c ∧ j' = j)) : ups s c j v c' j' = s c' j' := if_neg h
theorem LB_up {s : LST} (b : LB s) (c j v : Nat) (h : v ≤ bdN c) : LB (ups s c j v) := by
  intro c' j'
  unfold ups
  by_cases e : c' = c ∧ j' = j
  · rw [if_pos e, e.1]; exact h
  · rw [if_neg e]; exact b c' j'
theorem ixG_lt {d c j : Nat} (hd : d ≤ 4) (h : vaN d c j) : ixG c j < 71 := by
  unfold vaN at h; unfold ixG; repeat' split
  all_goals omega
theorem ixG_inj {d c j c' j' : Nat} (hd : d ≤ 4) (h : vaN d c j) (h' : vaN d c' j') (e : ixG c j = ixG c' j') : c = c' ∧ j = j' := by
  have a : c = 0 ∨ c = 1 ∨ c = 2 ∨ c = 3 ∨ c = 4 ∨ c = 5 ∨ c = 6 ∨ c = 7 ∨ c = 8 ∨ c = 9 := by unfold vaN at h; omega
  have a' : c' = 0 ∨ c' = 1 ∨ c' = 2 ∨ c' = 3 ∨ c' = 4 ∨ c' = 5 ∨ c' = 6 ∨ c' = 7 ∨ c' = 8 ∨ c' = 9 := by unfold vaN at h'; omega
  unfold vaN at h h'; unfold ixG at e
  rcases a with rfl | rfl | rfl | rfl | rfl | rfl | rfl | rfl | rfl | rfl <;> rcases a' with rfl | rfl | rfl | rfl | rfl | rfl | rfl | rfl | rfl | rfl <;> simp only [Nat.reduceEqDiff, Nat.reduceLT, if_true, if_false, ↓reduceIte] at e <;> omega
theorem ixM_inj {d c j c' j' : Nat} (h : vaN d c j) (h' : vaN d c' j') (e : ixM c j = ixM c' j') (r : rwM c = rwM c') : c = c' ∧ j = j' := by
  have a : c = 0 ∨ c = 1 ∨ c = 2 ∨ c = 3 ∨ c = 4 ∨ c = 5 ∨ c = 6 ∨ c = 7 ∨ c = 8 ∨ c = 9 := by unfold vaN at h; omega
  have a' : c' = 0 ∨ c' = 1 ∨ c' = 2 ∨ c' = 3 ∨ c' = 4 ∨ c' = 5 ∨ c' = 6 ∨ c' = 7 ∨ c' = 8 ∨ c' = 9 := by unfold vaN at h'; omega
  unfold vaN at h h'; unfold ixM at e; unfold rwM at r
  rcases a with rfl | rfl | rfl | rfl | rfl | rfl | rfl | rfl | rfl | rfl <;> rcases a' with rfl | rfl | rfl | rfl | rfl | rfl | rfl | rfl | rfl | rfl <;> simp only [Nat.reduceEqDiff, Nat.reduceLT, if_true, if_false, ↓reduceIte, Nat.reduceSub] at e r <;> omega
theorem LL_up {d : Nat} {s : LST} {g : Mem} (hd : d ≤ 4) (h : LL d s g) {c j : Nat} (hv : vaN d c j) (v : Nat) : LL d (ups s c j v) (stL g (ixG c j) (i64 v)) := by
  intro c' j' hv'
  rw [ldL_stL]
  by_cases e : ixG c' j' = ixG c j
  · obtain ⟨rfl, rfl⟩ := ixG_inj hd hv' hv e
    rw [if_pos rfl, ups_e]
  · rw [if_neg e, ups_n]
    · exact h c' j' hv'
    · rintro ⟨rfl, rfl⟩; exact e rfl
theorem LM_up {d : Nat} {s : LST} {g : Mem} (h : LM d s g) {c j : Nat} (hv : vaN d c j) (v : Nat) : LM d (ups s c j v) (stI g (rwM c) (ixM c j) (i32 v)) := by
  intro c' j' hv'
  rw [stI_1]
  by_cases r : rwM c' = rwM c
  · rw [if_pos r]
    by_cases e : ixM c' j' = ixM c j
    · obtain ⟨rfl, rfl⟩ := ixM_inj hv' hv e r
      rw [if_pos rfl, ups_e]
    · rw [if_neg e, ups_n]
      · exact h c' j' hv'
      · rintro ⟨rfl, rfl⟩; exact e rfl
  · rw [if_neg r, ups_n]
    · exact h c' j' hv'
    · rintro ⟨rfl, rfl⟩; exact r rfl
theorem ll_br {d : Nat} {s : LST} {g : Mem} (h : LL d s g) (p : Nat) (hp : p < d) : ldL g (2 * p) = i64 (s 0 p) := h 0 p (by unfold vaN; omega)
theorem lm_br {d : Nat} {s : LST} {g : Mem} (h : LM d s g) (p : Nat) (hp : p < d) : g.1 3 (2 * p) = i32 (s 0 p) := h 0 p (by unfold vaN; omega)
theorem ll_bg {d : Nat} {s : LST} {g : Mem} (h : LL d s g) (p : Nat) (hp : p < d) : ldL g (2 * p + 1) = i64 (s 1 p) := h 1 p (by unfold vaN; omega)
theorem lm_bg {d : Nat} {s : LST} {g : Mem} (h : LM d s g) (p : Nat) (hp : p < d) : g.1 3 (2 * p + 1) = i32 (s 1 p) := h 1 p (by unfold vaN; omega)
theorem ll_kd {d : Nat} {s : LST} {g : Mem} (h : LL d s g) (p : Nat) (hp : p < d) : ldL g (8 + p) = i64 (s 2 p) := h 2 p (by unfold vaN; omega)
theorem lm_kd {d : Nat} {s : LST} {g : Mem} (h : LM d s g) (p : Nat) (hp : p < d) : g.1 1 (p) = i32 (s 2 p) := h 2 p (by unfold vaN; omega)
theorem ll_mo {d : Nat} {s : LST} {g : Mem} (h : LL d s g) (p : Nat) (hp : p < d) : ldL g (12 + p) = i64 (s 3 p) := h 3 p (by unfold vaN; omega)
theorem lm_mo {d : Nat} {s : LST} {g : Mem} (h : LM d s g) (p : Nat) (hp : p < d) : g.1 2 (p) = i32 (s 3 p) := h 3 p (by unfold vaN; omega)
theorem ll_so {d : Nat} {s : LST} {g : Mem} (h : LL d s g) (p : Nat) (hp : p < 12) : ldL g (16 + 4 * p) = i64 (s 4 p) := h 4 p (by unfold vaN; omega)
theorem lm_so {d : Nat} {s : LST} {g : Mem} (h : LM d s g) (p : Nat) (hp : p < 12) : g.1 4 (4 * p) = i32 (s 4 p) := h 4 p (by unfold vaN; omega)
theorem ll_st {d : Nat} {s : LST} {g : Mem} (h : LL d s g) (p : Nat) (hp : p < 12) : ldL g (17 + 4 * p) = i64 (s 5 p) := h 5 p (by unfold vaN; omega)
theorem lm_st {d : Nat} {s : LST} {g : Mem} (h : LM d s g) (p : Nat) (hp : p < 12) : g.1 4 (4 * p + 1) = i32 (s 5 p) := h 5 p (by unfold vaN; omega)
theorem ll_dp {d : Nat} {s : LST} {g : Mem} (h : LL d s g) (p : Nat) (hp : p < 12) : ldL g (18 + 4 * p) = i64 (s 6 p) := h 6 p (by unfold vaN; omega)
theorem lm_dp {d : Nat} {s : LST} {g : Mem} (h : LM d s g) (p : Nat) (hp : p < 12) : g.1 4 (4 * p + 2) = i32 (s 6 p) := h 6 p (by unfold vaN; omega)
theorem ll_pl {d : Nat} {s : LST} {g : Mem} (h : LL d s g) (p : Nat) (hp : p < 12) : ldL g (19 + 4 * p) = i64 (s 7 p) := h 7 p (by unfold vaN; omega)
theorem lm_pl {d : Nat} {s : LST} {g : Mem} (h : LM d s g) (p : Nat) (hp : p < 12) : g.1 4 (4 * p + 3) = i32 (s 7 p) := h 7 p (by unfold vaN; omega)
theorem ll_sk {d : Nat} {s : LST} {g : Mem} (h : LL d s g) (p : Nat) (hp : p < 6) : ldL g (64 + p) = i64 (s 8 p) := h 8 p (by unfold vaN; omega)
theorem lm_sk {d : Nat} {s : LST} {g : Mem} (h : LM d s g) (p : Nat) (hp : p < 6) : g.1 5 (p) = i32 (s 8 p) := h 8 p (by unfold vaN; omega)
theorem ll_h {d : Nat} {s : LST} {g : Mem} (h : LL d s g) : ldL g 70 = i64 (s 9 0) := h 9 0 (by unfold vaN; omega)
theorem lm_h {d : Nat} {s : LST} {g : Mem} (h : LM d s g) : g.1 0 6 = i32 (s 9 0) := h 9 0 (by unfold vaN; omega)
def reB (sa : SA) (B T : Nat) : Nat := if plN sa = 0 then clN ((B : Int) - zn sa (i32 3) 31 + (if zn sa (i32 8) 7 ≤ T then 0 else zn sa (i32 11) 15 : Nat)) else B
def coB (sa : SA) (D S : Nat) : Nat := if plN sa = 0 then clN (((D + zn sa (i32 15) 7 : Nat) : Int) - (if zn sa (i32 18) 63 ≤ S then 0 else 4 : Nat)) else clN ((2 * D : Nat) : Int)
def faB (sa : SA) (w t h : Nat) : Nat := if plN sa = 0 then zn sa (i32 24) 3 + t * zn sa (i32 26) 1 + (if h ≤ w then 0 else 1) else 3
def reN (sa : SA) (s : LST) (p k : Nat) : Nat :=
  if s 2 p = 1 then reB sa (s 0 p) (s 4 k) / 2 + s 3 p else if s 2 p = 3 then reB sa (s 0 p) (s 4 k) / 2 + 2 * s 3 p else if s 2 p = 2 then reB sa (s 0 p) (s 4 k) + 10
  else if s 2 p = 4 then s 3 p else if s 2 p = 5 then 99 else reB sa (s 0 p) (s 4 k)
def coN (sa : SA) (s : LST) (p k : Nat) : Nat :=
  if s 2 p = 2 then (if s 4 k = 0 then coB sa (s 6 k) (s 5 k) / 2 else coB sa (s 6 k) (s 5 k) + s 3 p)
  else if s 2 p = 4 then (if s 4 k = 0 then coB sa (s 6 k) (s 5 k) / 2 else coB sa (s 6 k) (s 5 k) + s 3 p)
  else if s 2 p = 3 then (if s 9 0 % 4 = 0 then 0 else coB sa (s 6 k) (s 5 k)) else coB sa (s 6 k) (s 5 k)
def kbN (s : LST) (p : Nat) : Nat := if s 2 p = 1 then 10 else if s 2 p = 3 then 10 else if s 2 p = 4 then 5 + s 3 p else if s 2 p = 5 then 0 else 5
def caN (sa : SA) (s : LST) (p k : Nat) : Nat := if s 7 k = 0 then (if reN sa s p k < s 6 k then 0 else if s 0 p < coN sa s p k then 0 else 1) else 0
theorem reB_le {sa : SA} {B T : Nat} (h : B ≤ 99) : reB sa B T ≤ 99 := by
  unfold reB; split
  · exact clN_le _
  · exact h
theorem coB_le {sa : SA} {D S : Nat} : coB sa D S ≤ 99 := by
  unfold coB; split
  · exact clN_le _
  · exact clN_le _
theorem zn_le (sa : SA) (sh : Int32) (m : Nat) (hm : m < 2147483648) : zn sa sh m ≤ m := fz_le _ m hm
theorem zn_eq (sa : SA) (sh : Nat) (m : Nat) : (AT sa 0 >>> (i32 sh &&& i32 31)) &&& i32 m = i32 (zn sa (i32 sh) m) := fz_eq _ m
theorem ge_e (a b : Nat) (c d e : Nat → Nat) : True := trivial
theorem mn_le (sa : SA) : 1 ≤ mnN sa ∧ mnN sa ≤ 4 := by
  have := fz_le (AT sa 0) 3 (by omega)
  unfold mnN; omega
theorem pl_01 (sa : SA) : plN sa = 0 ∨ plN sa = 1 := by unfold plN; split <;> omega
theorem reN_le {sa : SA} {s : LST} (b : LB s) (p k : Nat) : reN sa s p k ≤ 200 := by
  have h1 := reB_le (sa := sa) (T := s 4 k) (b 0 p)
  have h2 : s 3 p ≤ 9 := b 3 p
  unfold reN; repeat' split
  all_goals omega
theorem coN_le {sa : SA} {s : LST} (b : LB s) (p k : Nat) : coN sa s p k ≤ 200 := by
  have h1 := coB_le (sa := sa) (D := s 6 k) (S := s 5 k)
  have h2 : s 3 p ≤ 9 := b 3 p
  unfold coN; repeat' split
  all_goals omega
