/-! THE LAW'S NUMBERS -/
/-! shares in lowest terms -/
def i64 (n : Nat) : Int64 := Int64.ofNat n
theorem i64_toInt {n : Nat} (h : n < 9223372036854775808) : (i64 n).toInt = n := Int64.toInt_ofNat_of_lt h
theorem i64_add (a b : Nat) : i64 a + i64 b = i64 (a + b) := (Int64.ofNat_add a b).symm
theorem i64_mul (a b : Nat) : i64 a * i64 b = i64 (a * b) := (Int64.ofNat_mul a b).symm
theorem i64_sub {a b : Nat} (h : b ≤ a) : i64 a - i64 b = i64 (a - b) := by
  have e : i64 a = i64 (a - b) + i64 b := by rw [i64_add, Nat.sub_add_cancel h]
  rw [e, Int64.add_sub_cancel]
theorem i64_inj {a b : Nat} (ha : a < 9223372036854775808) (hb : b < 9223372036854775808) : i64 a = i64 b ↔ a = b := by
  constructor
  · intro h
    have := congrArg Int64.toInt h
    rw [i64_toInt ha, i64_toInt hb] at this; omega
  · rintro rfl; rfl
theorem i64_div (a : Nat) (b : Nat) (ha : a < 9223372036854775808) (hb' : b < 9223372036854775808) : i64 a / i64 b = i64 (a / b) := by
  apply Int64.toInt_inj.mp
  have h1 : a / b ≤ a := Nat.div_le_self a b
  rw [i64_toInt (by omega : a / b < 9223372036854775808), Int64.toInt_div_of_ne_left _ _ (by rw [Int64.minValue]; intro h; have := congrArg Int64.toInt h; rw [i64_toInt ha] at this; simp at this), i64_toInt ha, i64_toInt hb']
  rfl
theorem sub_dm (a b : Nat) : a - a / b * b = a % b := by
  have := Nat.div_add_mod a b
  rw [Nat.mul_comm] at this; omega
theorem i64_mod (a b : Nat) (ha : a < 9223372036854775808) (hb' : b < 9223372036854775808) : i64 a - i64 a / i64 b * i64 b = i64 (a % b) := by
  rw [i64_div a b ha hb', i64_mul, i64_sub (Nat.div_mul_le_self a b), sub_dm]
theorem i32_mod (a b : Nat) (hb : 0 < b) (ha : a < 2147483648) (hb' : b < 2147483648) : i32 a - i32 a / i32 b * i32 b = i32 (a % b) := by
  rw [i32_divz a b hb ha hb', i32_mul, i32_sub (Nat.div_mul_le_self a b), sub_dm]
theorem i32_64 {n : Nat} (h : n < 2147483648) : (i32 n).toInt64 = i64 n := by
  apply Int64.toInt_inj.mp
  rw [Int32.toInt_toInt64, i32_toInt h, i64_toInt (by omega)]
theorem i64_ne0 {n : Nat} (h : 0 < n ∧ n < 9223372036854775808) : (i64 n = (0 : Int64)) = False := eq_false fun q => by
  have q' : i64 n = i64 0 := q
  rw [i64_inj h.2 (by omega)] at q'; omega
theorem lg_z : lg_cmp (i64 0) (0 : Int64) = i32 0 := by decide
theorem lg_n {n : Nat} (h : 0 < n ∧ n < 9223372036854775808) : lg_cmp (i64 n) (0 : Int64) = i32 1 := by
  have q : (0 : Int64) < i64 n := by
    rw [Int64.lt_iff_toInt_lt, i64_toInt h.2]
    show (0 : Int) < _
    omega
  unfold lg_cmp
  rw [if_pos q]; rfl
def ch (w a b : Nat) : Nat := if w = 0 then a else b
theorem i64_lit (n : Nat) : (OfNat.ofNat n : Int64) = i64 (OfNat.ofNat n) := rfl
def j64 (z : Int) : Int64 := Int64.ofInt z
theorem i64_z (n : Nat) : i64 n = j64 n := rfl
theorem j64_toInt {z : Int} (h : -1000000 < z ∧ z < 1000000) : (j64 z).toInt = z := Int64.toInt_ofInt_of_le (by omega) (by omega)
theorem j64_add (a b : Int) : j64 a + j64 b = j64 (a + b) := (Int64.ofInt_add a b).symm
theorem j64_sub (a b : Int) : j64 a - j64 b = j64 (a - b) := (Int64.ofInt_sub a b).symm
theorem j64_lt {a b : Int} (h : -1000000 < a ∧ a < 1000000) (k : -1000000 < b ∧ b < 1000000) : (j64 a < j64 b) = (a < b) := by
  rw [Int64.lt_iff_toInt_lt, j64_toInt h, j64_toInt k]
theorem j64_inj {a b : Int} (h : -1000000 < a ∧ a < 1000000) (k : -1000000 < b ∧ b < 1000000) : (j64 a = j64 b) = (a = b) := by
  apply propext
  constructor
  · intro e
    have := congrArg Int64.toInt e
    rwa [j64_toInt h, j64_toInt k] at this
  · rintro rfl; rfl
theorem i64_32 {n : Nat} (h : n < 1000000) : (i64 n).toInt32 = i32 n := by
  apply Int32.toInt_inj.mp
  rw [Int64.toInt_toInt32, i64_toInt (by omega), i32_toInt (by omega)]
  exact Int.bmod_eq_of_le (by omega) (by omega)
/-- a comparison of longs, told of numbers -/
theorem lgz {a b : Int} (h : -1000000 < a ∧ a < 1000000) (k : -1000000 < b ∧ b < 1000000) : lg_cmp (j64 a) (j64 b) = if b < a then i32 1 else if a = b then i32 0 else -(i32 1) := by
  unfold lg_cmp
  have e1 : (j64 a > j64 b) = (b < a) := j64_lt k h
  have e2 := j64_inj h k
  simp only [e1, e2]
  by_cases h1 : b < a
  · simp only [if_pos h1]; rfl
  · simp only [if_neg h1]
    by_cases h2 : a = b
    · simp only [if_pos h2]; rfl
    · simp only [if_neg h2]; rfl
theorem lg_eq {a b : Nat} (h : a < 1000000) (k : b < 1000000) : (lg_cmp (i64 a) (i64 b) = i32 0) = (a = b) := by
  rw [i64_z, i64_z, lgz (by omega) (by omega)]
  apply propext
  by_cases h1 : (b : Int) < a
  · rw [if_pos h1]; exact ⟨fun q => absurd q (by decide), fun q => by omega⟩
  · rw [if_neg h1]
    by_cases h2 : (a : Int) = b
    · rw [if_pos h2]; exact ⟨fun _ => by omega, fun _ => rfl⟩
    · rw [if_neg h2]; exact ⟨fun q => absurd q (by decide), fun q => by omega⟩
theorem lg_ge {a b : Nat} (h : a < 1000000) (k : b < 1000000) : (i32 0 ≤ lg_cmp (i64 a) (i64 b)) = (b ≤ a) := by
  rw [i64_z, i64_z, lgz (by omega) (by omega)]
  apply propext
  by_cases h1 : (b : Int) < a
  · rw [if_pos h1]; exact ⟨fun _ => by omega, fun _ => by decide⟩
  · rw [if_neg h1]
    by_cases h2 : (a : Int) = b
    · rw [if_pos h2]; exact ⟨fun _ => by omega, fun _ => by decide⟩
    · rw [if_neg h2]; exact ⟨fun q => absurd q (by decide), fun q => by omega⟩
theorem lg_lt {a b : Nat} (h : a < 1000000) (k : b < 1000000) : (lg_cmp (i64 a) (i64 b) < i32 0) = (a < b) := by
  rw [i64_z, i64_z, lgz (by omega) (by omega)]
  apply propext
  by_cases h1 : (b : Int) < a
  · rw [if_pos h1]; exact ⟨fun q => absurd q (by decide), fun q => by omega⟩
  · rw [if_neg h1]
    by_cases h2 : (a : Int) = b
    · rw [if_pos h2]; exact ⟨fun q => absurd q (by decide), fun q => by omega⟩
    · rw [if_neg h2]; exact ⟨fun _ => by omega, fun _ => by decide⟩
theorem lg_gt {a b : Nat} (h : a < 1000000) (k : b < 1000000) : (i32 0 < lg_cmp (i64 a) (i64 b)) = (b < a) := by
  rw [i64_z, i64_z, lgz (by omega) (by omega)]
  apply propext
  by_cases h1 : (b : Int) < a
  · rw [if_pos h1]; exact ⟨fun _ => by omega, fun _ => by decide⟩
  · rw [if_neg h1]
    by_cases h2 : (a : Int) = b
    · rw [if_pos h2]; exact ⟨fun q => absurd q (by decide), fun q => by omega⟩
    · rw [if_neg h2]; exact ⟨fun q => absurd q (by decide), fun q => by omega⟩
theorem lg_le {a b : Nat} (h : a < 1000000) (k : b < 1000000) : (lg_cmp (i64 a) (i64 b) ≤ i32 0) = (a ≤ b) := by
  rw [i64_z, i64_z, lgz (by omega) (by omega)]
  apply propext
  by_cases h1 : (b : Int) < a
  · rw [if_pos h1]; exact ⟨fun q => absurd q (by decide), fun q => by omega⟩
  · rw [if_neg h1]
    by_cases h2 : (a : Int) = b
    · rw [if_pos h2]; exact ⟨fun _ => by omega, fun _ => by decide⟩
    · rw [if_neg h2]; exact ⟨fun _ => by omega, fun _ => by decide⟩
def clN (z : Int) : Nat := if z < 0 then 0 else if z < 99 then z.toNat else 99
theorem clN_le (z : Int) : clN z ≤ 99 := by
  unfold clN; split
  · omega
  · split <;> omega
theorem held_z (N : Nat) {z : Int} (h : -1000000 < z ∧ z < 1000000) (g : Mem) : L_held N (j64 z) (i32 0) (i32 99) g = some (i32 (clN z), g) := by
  unfold L_held clN
  have e1 : (j64 z < j64 ((99 : Nat) : Int)) = (z < 99) := by rw [j64_lt h (by omega)]; rfl
  have e2 : (j64 z < j64 ((0 : Nat) : Int)) = (z < 0) := by rw [j64_lt h (by omega)]; rfl
  have e3 : (j64 ((99 : Nat) : Int) < j64 ((0 : Nat) : Int)) = False := by rw [j64_lt (by omega) (by omega)]; exact eq_false (by omega)
  simp only [i32_64 (show 0 < 2147483648 by omega), i32_64 (show 99 < 2147483648 by omega), i64_z, e1]
  by_cases h1 : z < 0
  · simp only [if_pos (show z < 99 by omega), e2, if_pos h1]
    rw [← i64_z, i64_32 (by omega)]
  · simp only [if_neg h1]
    by_cases h2 : z < 99
    · simp only [if_pos h2, e2, if_neg h1]
      rw [show z = ((z.toNat : Nat) : Int) by omega, ← i64_z, i64_32 (by omega)]
      rfl
    · simp only [if_neg h2, e3, if_false]
      rw [← i64_z, i64_32 (by omega)]
theorem held_1 (N : Nat) {a b c : Nat} (h : a < 100000 ∧ b < 100000 ∧ c < 100000) (g : Mem) : L_held N ((i64 a - i64 b) + i64 c) (i32 0) (i32 99) g = some (i32 (clN ((a : Int) - b + c)), g) := by
  rw [i64_z, i64_z, i64_z, j64_sub, j64_add]; exact held_z N (by omega) g
theorem held_2 (N : Nat) {a b c : Nat} (h : a < 100000 ∧ b < 100000 ∧ c < 100000) (g : Mem) : L_held N ((i64 a + i64 b) - i64 c) (i32 0) (i32 99) g = some (i32 (clN ((a : Int) + b - c)), g) := by
  rw [i64_z, i64_z, i64_z, j64_add, j64_sub]; exact held_z N (by omega) g
theorem held_3 (N : Nat) {a : Nat} (h : a < 100000) (g : Mem) : L_held N (i64 2 * i64 a) (i32 0) (i32 99) g = some (i32 (clN (2 * (a : Int))), g) := by
  rw [i64_mul, i64_z]; exact held_z N (by omega) g
