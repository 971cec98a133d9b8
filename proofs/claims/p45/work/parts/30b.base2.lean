def SM (g g' : Mem) : Prop := ∀ c, ¬ c = 17 → ¬ c = 18 → g'.1 c = g.1 c
theorem SM_rfl (g : Mem) : SM g g := fun _ _ _ => rfl
theorem SM_tr {a b c : Mem} (h : SM a b) (k : SM b c) : SM a c := fun x q r => (k x q r).trans (h x q r)
theorem SM_st (g : Mem) (c j : Nat) (x : Int32) (h : c = 17 ∨ c = 18) : SM g (stI g c j x) := fun y h1 h2 => stI_ne _ _ _ _ _ (by omega)
theorem cl_w (N : Nat) (s : Int32) (g : Mem) : X6_within N s (i32 0) (i32 99) g = some (cl s, g) := by
  have h99 : (i32 99).toInt = 99 := i32_toInt (by omega)
  have h00 : (i32 0).toInt = 0 := i32_toInt (by omega)
  unfold X6_within cl
  by_cases h1 : i32 0 ≤ s
  · rw [if_pos h1]
    rw [Int32.le_iff_toInt_le, h00] at h1
    by_cases h2 : s ≤ i32 99
    · rw [if_pos h2]
      rw [Int32.le_iff_toInt_le, h99] at h2
      by_cases h3 : s < i32 99
      · rw [if_pos h3]
        by_cases h4 : i32 0 < s
        · rw [if_pos h4]
        · rw [if_neg h4]
          rw [Int32.lt_iff_toInt_lt, h00] at h4
          rw [show s = i32 0 from Int32.toInt_inj.mp (by omega)]
      · have : s = i32 99 := by
          rw [Int32.lt_iff_toInt_lt, h99] at h3
          exact Int32.toInt_inj.mp (by omega)
        subst this
        rw [if_neg h3, if_pos (by rw [lt_t (by omega)]; trivial)]
    · have h3 : ¬ s < i32 99 := by rw [Int32.le_iff_toInt_le, h99] at h2; rw [Int32.lt_iff_toInt_lt, h99]; omega
      rw [if_neg h2, if_neg h3, if_pos (by rw [lt_t (by omega)]; trivial)]
  · rw [if_neg h1]
    rw [Int32.le_iff_toInt_le, h00] at h1
    have h3 : s < i32 99 := by rw [Int32.lt_iff_toInt_lt, h99]; omega
    rw [if_pos h3, if_neg (by rw [Int32.lt_iff_toInt_lt, h00]; omega)]

