theorem i3_toInt {a b c : Nat} (h : a < 100000 ∧ b < 100000 ∧ c < 100000) : (i32 a - i32 b + i32 c).toInt = (a : Int) - b + c := by
  rw [Int32.toInt_add, Int32.toInt_sub, i32_toInt (by omega), i32_toInt (by omega), i32_toInt (by omega), Int.bmod_eq_of_le (n := (a : Int) - b) (by omega) (by omega), Int.bmod_eq_of_le (by omega) (by omega)]
theorem i3_toInt2 {a b : Nat} (h : a < 100000 ∧ b < 100000) : (i32 a - i32 b).toInt = (a : Int) - b := by
  rw [Int32.toInt_sub, i32_toInt (by omega), i32_toInt (by omega), Int.bmod_eq_of_le (by omega) (by omega)]
theorem TXS_1 {sa : SA} (hp : plN sa = 0) (g : Mem) : TXS sa 1 (mkM g 1 (f71 (zn sa (i32 3) 31) (zn sa (i32 8) 7) (zn sa (i32 11) 15) (zn sa (i32 15) 7) (zn sa (i32 18) 63) (zn sa (i32 24) 3) (zn sa (i32 26) 1)) f81) := by
  have q1 := zn_le sa (i32 3) 31 (by omega)
  have q2 := zn_le sa (i32 8) 7 (by omega)
  have q3 := zn_le sa (i32 11) 15 (by omega)
  have q4 := zn_le sa (i32 15) 7 (by omega)
  have q5 := zn_le sa (i32 18) 63 (by omega)
  have q6 := zn_le sa (i32 24) 3 (by omega)
  have q7 := zn_le sa (i32 26) 1 (by omega)
  unfold TXS reB coB faB
  simp only [if_pos hp]
  generalize zn sa (i32 3) 31 = A at *
  generalize zn sa (i32 8) 7 = SO at *
  generalize zn sa (i32 11) 15 = C at *
  generalize zn sa (i32 15) 7 = D' at *
  generalize zn sa (i32 18) 63 = ST at *
  generalize zn sa (i32 24) 3 = F at *
  generalize zn sa (i32 26) 1 = T' at *
  intro B D S T H M hB hD hS hT hH hM
  have ev : ∀ k, (fun j => (mkM g 1 (f71 A SO C D' ST F T') f81).1 7 (200 * 1 + j)) k = i32 ((cdl A SO C D' ST F T').getD k 0) := f71_e g A SO C D' ST F T'
  unfold tv
  generalize (fun j => (mkM g 1 (f71 A SO C D' ST F T') f81).1 7 (200 * 1 + j)) = h at ev
  refine ⟨?_, ?_, ?_⟩
  · have z1 : ((mkM g 1 (f71 A SO C D' ST F T') f81).1 8 (4 * 1 + 0)).toNatClampNeg = 0 := rfl
    have z2 : ((mkM g 1 (f71 A SO C D' ST F T') f81).1 8 (4 * 1 + 0 + 1)).toNatClampNeg = 9 := rfl
    rw [z1, z2]
    show cl (evs _ _ 0 (8 + 1) 0 _) = _
    rw [evs_a (h := h) (k := 0) (v := 0) (ev 0) (by omega), evs_n (h := h) (k := 1) (v := A) (ev 1) (by omega), evs_b (h := h) (k := 2) (v := 17) (ev 2) (by omega), evs_a (h := h) (k := 3) (v := 3) (ev 3) (by omega), evs_n (h := h) (k := 4) (v := SO) (ev 4) (by omega), evs_b (h := h) (k := 5) (v := 14) (ev 5) (by omega), evs_n (h := h) (k := 6) (v := C) (ev 6) (by omega), evs_b (h := h) (k := 7) (v := 18) (ev 7) (by omega), evs_b (h := h) (k := 8) (v := 16) (ev 8) (by omega), evs_0]
    show cl (two' (i32 16) (two' (i32 17) (i32 B) (i32 A)) (two' (i32 18) (two' (i32 14) (i32 T) (i32 SO)) (i32 C))) = _
    rw [two_16, two_17, two_18, two_14]
    by_cases c : SO ≤ T
    · rw [if_pos ((i32_le (by omega) (by omega)).mpr c), if_pos c, i32_mul, Nat.zero_mul]
      exact cl_z _ (by omega) _ (i3_toInt (by omega))
    · rw [if_neg (fun q => c ((i32_le (by omega) (by omega)).mp q)), if_neg c, i32_mul, Nat.one_mul]
      exact cl_z _ (by omega) _ (i3_toInt (by omega))
  · have z1 : ((mkM g 1 (f71 A SO C D' ST F T') f81).1 8 (4 * 1 + 1)).toNatClampNeg = 9 := rfl
    have z2 : ((mkM g 1 (f71 A SO C D' ST F T') f81).1 8 (4 * 1 + 1 + 1)).toNatClampNeg = 18 := rfl
    rw [z1, z2]
    show cl (evs _ _ 9 (8 + 1) 0 _) = _
    rw [evs_a (h := h) (k := 9) (v := 1) (ev 9) (by omega), evs_n (h := h) (k := 10) (v := D') (ev 10) (by omega), evs_b (h := h) (k := 11) (v := 16) (ev 11) (by omega), evs_a (h := h) (k := 12) (v := 2) (ev 12) (by omega), evs_n (h := h) (k := 13) (v := ST) (ev 13) (by omega), evs_b (h := h) (k := 14) (v := 14) (ev 14) (by omega), evs_n (h := h) (k := 15) (v := 4) (ev 15) (by omega), evs_b (h := h) (k := 16) (v := 18) (ev 16) (by omega), evs_b (h := h) (k := 17) (v := 17) (ev 17) (by omega), evs_0]
    show cl (two' (i32 17) (two' (i32 16) (i32 D) (i32 D')) (two' (i32 18) (two' (i32 14) (i32 S) (i32 ST)) (i32 4))) = _
    rw [two_16, two_17, two_18, two_14, i32_add]
    by_cases c : ST ≤ S
    · rw [if_pos ((i32_le (by omega) (by omega)).mpr c), if_pos c, i32_mul, Nat.zero_mul]
      exact cl_z _ (by omega) _ (i3_toInt2 (by omega))
    · rw [if_neg (fun q => c ((i32_le (by omega) (by omega)).mp q)), if_neg c, i32_mul, Nat.one_mul]
      exact cl_z _ (by omega) _ (i3_toInt2 (by omega))
  · have z1 : ((mkM g 1 (f71 A SO C D' ST F T') f81).1 8 (4 * 1 + 2)).toNatClampNeg = 18 := rfl
    have z2 : ((mkM g 1 (f71 A SO C D' ST F T') f81).1 8 (4 * 1 + 2 + 1)).toNatClampNeg = 27 := rfl
    rw [z1, z2]
    have n1 : T * T' ≤ T * 1 := Nat.mul_le_mul_left T q7
    show cl (evs _ _ 18 (8 + 1) 0 _) = _
    rw [evs_n (h := h) (k := 18) (v := F) (ev 18) (by omega), evs_a (h := h) (k := 19) (v := 3) (ev 19) (by omega), evs_n (h := h) (k := 20) (v := T') (ev 20) (by omega), evs_b (h := h) (k := 21) (v := 18) (ev 21) (by omega), evs_b (h := h) (k := 22) (v := 16) (ev 22) (by omega), evs_a (h := h) (k := 23) (v := 2) (ev 23) (by omega), evs_a (h := h) (k := 24) (v := 4) (ev 24) (by omega), evs_b (h := h) (k := 25) (v := 14) (ev 25) (by omega), evs_b (h := h) (k := 26) (v := 16) (ev 26) (by omega), evs_0]
    show cl (two' (i32 16) (two' (i32 16) (i32 F) (two' (i32 18) (i32 T) (i32 T'))) (two' (i32 14) (i32 S) (i32 H))) = _
    rw [two_16, two_16, two_18, two_14, i32_mul, i32_add]
    have fin : ∀ x, x ≤ 1 → cl (i32 (F + T * T') + i32 x) = i32 (F + T * T' + x) := by
      intro x hx
      rw [i32_add, cl_e (by omega)]
      unfold mi99; rw [if_pos (by omega)]
    by_cases c : H ≤ S
    · rw [if_pos ((i32_le (by omega) (by omega)).mpr c), if_pos c]; exact fin 0 (by omega)
    · rw [if_neg (fun q => c ((i32_le (by omega) (by omega)).mp q)), if_neg c]; exact fin 1 (by omega)
