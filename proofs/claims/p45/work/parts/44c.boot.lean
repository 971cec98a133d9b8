/-! TEXTS RECKONED -/
theorem evs_0 (h a : Nat → Int32) (k n : Nat) (st : Nat → Int32) : evs h a k 0 n st = st 0 := rfl
theorem evs_n {h a : Nat → Int32} {k l n v : Nat} {st : Nat → Int32} (e : h k = i32 (100000 + v)) (hv : v ≤ 9999) : evs h a k (l + 1) n st = evs h a (k + 1) l (n + 1) (upd st n (i32 v)) := by
  rw [evs, e, if_pos ((i32_le (by omega) (by omega)).mpr (by omega)), i32_sub (by omega), Nat.add_sub_cancel_left]
theorem evs_a {h a : Nat → Int32} {k l n v : Nat} {st : Nat → Int32} (e : h k = i32 v) (hv : v < 6) : evs h a k (l + 1) n st = evs h a (k + 1) l (n + 1) (upd st n (a v)) := by
  rw [evs, e, if_neg (fun q => by have := (i32_le (by omega) (by omega)).mp q; omega), if_pos ((i32_lt (by omega) (by omega)).mpr (by omega)), i32_tn (by omega)]
theorem evs_b {h a : Nat → Int32} {k l n v : Nat} {st : Nat → Int32} (e : h k = i32 v) (hv : v = 14 ∨ v = 16 ∨ v = 17 ∨ v = 18) : evs h a k (l + 1) n st = evs h a (k + 1) l (n - 1) (upd st (n - 2) (two' (i32 v) (st (n - 2)) (st (n - 1)))) := by
  rw [evs, e, if_neg (fun q => by have := (i32_le (by omega) (by omega)).mp q; omega), if_neg (fun q => by have := (i32_lt (by omega) (by omega)).mp q; omega),
    if_neg (fun q => by have := (i32_inj (by omega) (by omega)).mp q; omega), if_neg (fun q => by have := (i32_inj (by omega) (by omega)).mp q; omega)]
theorem two_14 (x y : Int32) : two' (i32 14) x y = if y ≤ x then i32 0 else i32 1 := by
  unfold two'; rw [if_neg (by decide), if_neg (by decide), if_pos rfl]
theorem two_16 (x y : Int32) : two' (i32 16) x y = x + y := by
  unfold two'; rw [if_neg (by decide), if_neg (by decide), if_neg (by decide), if_neg (by decide), if_pos rfl]
theorem two_17 (x y : Int32) : two' (i32 17) x y = x - y := by
  unfold two'; rw [if_neg (by decide), if_neg (by decide), if_neg (by decide), if_neg (by decide), if_neg (by decide), if_pos rfl]
theorem two_18 (x y : Int32) : two' (i32 18) x y = x * y := by
  unfold two'; rw [if_neg (by decide), if_neg (by decide), if_neg (by decide), if_neg (by decide), if_neg (by decide), if_neg (by decide)]
theorem cl_z (z : Int) (h : -100000 < z ∧ z < 100000) (x : Int32) (hx : x.toInt = z) : cl x = i32 (clN z) := by
  apply Int32.toInt_inj.mp
  have n := clN_le z
  rw [i32_toInt (by omega)]
  unfold cl clN
  have e0 : (i32 0 < x) = (0 < z) := by rw [Int32.lt_iff_toInt_lt, hx, i32_toInt (by omega)]; rfl
  have e9 : (x < i32 99) = (z < 99) := by rw [Int32.lt_iff_toInt_lt, hx, i32_toInt (by omega)]; rfl
  have e99 : (i32 0 < i32 99) = True := lt_t (by omega)
  simp only [e9]
  by_cases a : z < 99
  · simp only [if_pos a, e0]
    by_cases b : 0 < z
    · rw [if_pos b, if_neg (by omega), hx]; omega
    · rw [if_neg b]
      by_cases c : z < 0
      · rw [if_pos c, i32_toInt (by omega)]
      · rw [if_neg c, i32_toInt (by omega)]; omega
  · simp only [if_neg a, e99, if_true]
    rw [if_neg (by omega), i32_toInt (by omega)]
/-! THE FIRST TEXT -/
def seenB (q : Int32 × Mem) : List (Option Nat) × List Int32 × List Int32 × List Int32 := ((List.range 42).map (fun k => q.2.2 k), (List.range 5).map (fun j => q.2.1 5 j), (List.range 3).map (fun j => q.2.1 6 j), q.2.1 0 1 :: (List.range 6).map (fun j => q.2.1 (4 + 5 * j) 0))
set_option maxRecDepth 1000000 in
set_option maxHeartbeats 4000000 in
theorem ev_B : (bootI 6000 gI0).map seenB = some (some 4 :: List.replicate 41 none, [-(i32 266), -(i32 267), i32 2, -(i32 42), i32 3], [i32 1, i32 4, i32 5], [i32 0, i32 0, i32 1, i32 2, i32 3, i32 4, i32 5]) := by decide +kernel
def hz (g : Mem) : Mem := (g.1, fun c => if c < 1000 then g.2 c else none)
