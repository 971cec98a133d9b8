theorem i3_toInt {a b c : Nat} (h : a < 100000 ∧ b < 100000 ∧ c < 100000) : (i32 a - i32 b + i32 c).toInt = (a : Int) - b + c := by
  rw [Int32.toInt_add, Int32.toInt_sub, i32_toInt (by omega), i32_toInt (by omega), i32_toInt (by omega), Int.bmod_eq_of_le (n := (a : Int) - b) (by omega) (by omega), Int.bmod_eq_of_le (by omega) (by omega)]
theorem i3_toInt2 {a b : Nat} (h : a < 100000 ∧ b < 100000) : (i32 a - i32 b).toInt = (a : Int) - b := by
  rw [Int32.toInt_sub, i32_toInt (by omega), i32_toInt (by omega), Int.bmod_eq_of_le (by omega) (by omega)]
theorem tz_0 {A SO C D' ST F T' : Nat} (q1 : A ≤ 31) (q2 : SO ≤ 7) (q3 : C ≤ 15) (q4 : D' ≤ 7) (q5 : ST ≤ 63) (q6 : F ≤ 3) (q7 : T' ≤ 1) (g : Mem) {h : Nat → Int32} (ev : ∀ k, h k = i32 ((cdl A SO C D' ST F T').getD k 0)) {B D S T H M : Nat} (hB : B ≤ 99) (hD : D ≤ 99) (hS : S ≤ 99) (hT : T ≤ 5) (hH : H ≤ 100) : cl (evs h (nm (i32 B) (i32 D) (i32 S) (i32 T) (i32 H) (i32 M)) 0 (8 + 1) 0 (fun _ => i32 0)) = i32 (clN ((B : Int) - A + (if SO ≤ T then 0 else C : Nat))) := by
  rw [evs_a (h := h) (k := 0) (v := 0) (ev 0) (by omega), evs_n (h := h) (k := 1) (v := A) (ev 1) (by omega), evs_b (h := h) (k := 2) (v := 17) (ev 2) (by omega), evs_a (h := h) (k := 3) (v := 3) (ev 3) (by omega), evs_n (h := h) (k := 4) (v := SO) (ev 4) (by omega), evs_b (h := h) (k := 5) (v := 14) (ev 5) (by omega), evs_n (h := h) (k := 6) (v := C) (ev 6) (by omega), evs_b (h := h) (k := 7) (v := 18) (ev 7) (by omega), evs_b (h := h) (k := 8) (v := 16) (ev 8) (by omega), evs_0]
  simp only [upd_j, nm, Nat.reduceAdd, Nat.reduceSub, Nat.reduceEqDiff, ↓reduceIte, Nat.zero_add, eq_self, if_true, if_false]
  rw [two_16, two_17, two_18, two_14]
  by_cases c : SO ≤ T
  · rw [if_pos ((i32_le (by omega) (by omega)).mpr c), if_pos c, i32_mul, Nat.zero_mul]
    exact cl_z _ (by omega) _ (i3_toInt (by omega))
  · rw [if_neg (fun q => c ((i32_le (by omega) (by omega)).mp q)), if_neg c, i32_mul, Nat.one_mul]
    exact cl_z _ (by omega) _ (i3_toInt (by omega))
theorem tz_1 {A SO C D' ST F T' : Nat} (q1 : A ≤ 31) (q2 : SO ≤ 7) (q3 : C ≤ 15) (q4 : D' ≤ 7) (q5 : ST ≤ 63) (q6 : F ≤ 3) (q7 : T' ≤ 1) (g : Mem) {h : Nat → Int32} (ev : ∀ k, h k = i32 ((cdl A SO C D' ST F T').getD k 0)) {B D S T H M : Nat} (hB : B ≤ 99) (hD : D ≤ 99) (hS : S ≤ 99) (hT : T ≤ 5) (hH : H ≤ 100) : cl (evs h (nm (i32 B) (i32 D) (i32 S) (i32 T) (i32 H) (i32 M)) 9 (8 + 1) 0 (fun _ => i32 0)) = i32 (clN (((D + D' : Nat) : Int) - (if ST ≤ S then 0 else 4 : Nat))) := by
  rw [evs_a (h := h) (k := 9) (v := 1) (ev 9) (by omega), evs_n (h := h) (k := 10) (v := D') (ev 10) (by omega), evs_b (h := h) (k := 11) (v := 16) (ev 11) (by omega), evs_a (h := h) (k := 12) (v := 2) (ev 12) (by omega), evs_n (h := h) (k := 13) (v := ST) (ev 13) (by omega), evs_b (h := h) (k := 14) (v := 14) (ev 14) (by omega), evs_n (h := h) (k := 15) (v := 4) (ev 15) (by omega), evs_b (h := h) (k := 16) (v := 18) (ev 16) (by omega), evs_b (h := h) (k := 17) (v := 17) (ev 17) (by omega), evs_0]
  simp only [upd_j, nm, Nat.reduceAdd, Nat.reduceSub, Nat.reduceEqDiff, ↓reduceIte, Nat.zero_add, eq_self, if_true, if_false]
  rw [two_16, two_17, two_18, two_14, i32_add]
  by_cases c : ST ≤ S
  · rw [if_pos ((i32_le (by omega) (by omega)).mpr c), if_pos c, i32_mul, Nat.zero_mul]
    exact cl_z _ (by omega) _ (i3_toInt2 (by omega))
  · rw [if_neg (fun q => c ((i32_le (by omega) (by omega)).mp q)), if_neg c, i32_mul, Nat.one_mul]
    exact cl_z _ (by omega) _ (i3_toInt2 (by omega))
theorem tz_2 {A SO C D' ST F T' : Nat} (q1 : A ≤ 31) (q2 : SO ≤ 7) (q3 : C ≤ 15) (q4 : D' ≤ 7) (q5 : ST ≤ 63) (q6 : F ≤ 3) (q7 : T' ≤ 1) (g : Mem) {h : Nat → Int32} (ev : ∀ k, h k = i32 ((cdl A SO C D' ST F T').getD k 0)) {B D S T H M : Nat} (hB : B ≤ 99) (hD : D ≤ 99) (hS : S ≤ 99) (hT : T ≤ 5) (hH : H ≤ 100) : cl (evs h (nm (i32 0) (i32 0) (i32 S) (i32 T) (i32 H) (i32 0)) 18 (8 + 1) 0 (fun _ => i32 0)) = i32 (F + T * T' + (if H ≤ S then 0 else 1)) := by
  have n1 : T * T' ≤ T * 1 := Nat.mul_le_mul_left T q7
  rw [evs_n (h := h) (k := 18) (v := F) (ev 18) (by omega), evs_a (h := h) (k := 19) (v := 3) (ev 19) (by omega), evs_n (h := h) (k := 20) (v := T') (ev 20) (by omega), evs_b (h := h) (k := 21) (v := 18) (ev 21) (by omega), evs_b (h := h) (k := 22) (v := 16) (ev 22) (by omega), evs_a (h := h) (k := 23) (v := 2) (ev 23) (by omega), evs_a (h := h) (k := 24) (v := 4) (ev 24) (by omega), evs_b (h := h) (k := 25) (v := 14) (ev 25) (by omega), evs_b (h := h) (k := 26) (v := 16) (ev 26) (by omega), evs_0]
  simp only [upd_j, nm, Nat.reduceAdd, Nat.reduceSub, Nat.reduceEqDiff, ↓reduceIte, Nat.zero_add, eq_self, if_true, if_false]
  rw [two_16, two_16, two_18, two_14, i32_mul, i32_add]
  have fin : ∀ x, x ≤ 1 → cl (i32 (F + T * T') + i32 x) = i32 (F + T * T' + x) := by
    intro x hx
    rw [i32_add, cl_e (by omega)]
    unfold mi99; rw [if_pos (by omega)]
  by_cases c : H ≤ S
  · rw [if_pos ((i32_le (by omega) (by omega)).mpr c), if_pos c]; exact fin 0 (by omega)
  · rw [if_neg (fun q => c ((i32_le (by omega) (by omega)).mp q)), if_neg c]; exact fin 1 (by omega)
