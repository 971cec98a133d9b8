/-! PURE EQUIVALENCE: small numbers, frames, the relation of a scene to the reference's rows -/
def i32 (n : Nat) : Int32 := Int32.ofNat n
theorem i32_lit (n : Nat) : (OfNat.ofNat n : Int32) = i32 (OfNat.ofNat n) := rfl
theorem i32_add (a b : Nat) : i32 a + i32 b = i32 (a + b) := (Int32.ofNat_add a b).symm
theorem i32_mul (a b : Nat) : i32 a * i32 b = i32 (a * b) := (Int32.ofNat_mul a b).symm
theorem i32_toInt {n : Nat} (h : n < 2147483648) : (i32 n).toInt = n := Int32.toInt_ofNat_of_lt h
theorem i32_tn {n : Nat} (h : n < 2147483648) : (i32 n).toNatClampNeg = n := by
  have := i32_toInt h
  show (i32 n).toInt.toNat = n
  omega
theorem i32_le {a b : Nat} (ha : a < 2147483648) (hb : b < 2147483648) : i32 a ≤ i32 b ↔ a ≤ b := by
  rw [Int32.le_iff_toInt_le, i32_toInt ha, i32_toInt hb]; omega
theorem i32_lt {a b : Nat} (ha : a < 2147483648) (hb : b < 2147483648) : i32 a < i32 b ↔ a < b := by
  rw [Int32.lt_iff_toInt_lt, i32_toInt ha, i32_toInt hb]; omega
theorem i32_inj {a b : Nat} (ha : a < 2147483648) (hb : b < 2147483648) : i32 a = i32 b ↔ a = b := by
  constructor
  · intro h
    have := congrArg Int32.toInt h
    rw [i32_toInt ha, i32_toInt hb] at this; omega
  · rintro rfl; rfl
theorem i32_sub {a b : Nat} (h : b ≤ a) : i32 a - i32 b = i32 (a - b) := by
  have e : i32 a = i32 (a - b) + i32 b := by rw [i32_add, Nat.sub_add_cancel h]
  rw [e, Int32.add_sub_cancel]
theorem i32_inR {n L : Nat} (h : n < 2147483648) : inR (i32 n) L ↔ n < L := by
  have h0 : ¬ i32 n < (0 : Int32) := by rw [i32_lit, i32_lt h (by omega)]; omega
  simp only [inR, h0, false_or, i32_tn h]; omega
/-- a whole number from 0 on, at most m -/
def NB (m : Nat) (x : Int32) : Prop := ∃ n, n ≤ m ∧ x = i32 n
theorem NB_of (m n : Nat) (h : n ≤ m) : NB m (i32 n) := ⟨n, h, rfl⟩
theorem stI_1 (g : Mem) (k j : Nat) (x : Int32) (c i : Nat) : (stI g k j x).1 c i = if c = k then (if i = j then x else g.1 c i) else g.1 c i := by
  by_cases h : c = k
  · subst h; simp [stI, upd]
  · simp [stI, h]
theorem stI_2 (g : Mem) (k j : Nat) (x : Int32) : (stI g k j x).2 = g.2 := rfl
theorem stA_1 (g : Mem) (k : Nat) (f : Nat → Int32) (c : Nat) : (stA g k f).1 c = if c = k then f else g.1 c := rfl
theorem stA_eq (g : Mem) (k : Nat) (f : Nat → Int32) : (stA g k f).1 k = f := by simp [stA_1]
theorem stA_ne (g : Mem) (k : Nat) (f : Nat → Int32) (c : Nat) (h : ¬ c = k) : (stA g k f).1 c = g.1 c := by simp [stA_1, h]
theorem stA_2 (g : Mem) (k : Nat) (f : Nat → Int32) : (stA g k f).2 = g.2 := rfl
theorem stR_1 (g : Mem) (k q : Nat) : (stR g k q).1 = g.1 := rfl
theorem stR_2 (g : Mem) (k q c : Nat) : (stR g k q).2 c = if c = k then some q else g.2 c := rfl
theorem ob_s {α β : Type} (r : α) (g : Mem) (f : α → Mem → Option β) : ob (some (r, g)) f = f r g := rfl
theorem bnd_s {α β : Type} (x : α) (f : α → β) : bnd x f = f x := rfl
theorem oT_s {β : Type} (T0 : Nat → Prop) [DecidablePred T0] (q : Nat) (f : Nat → Option β) (h : T0 q) : oT T0 (some q) f = f q := by simp [oT, h]
theorem isB0 : isB (i32 0) := Or.inl rfl
theorem isB1 : isB (i32 1) := Or.inr rfl
theorem i32_divz (a : Nat) (b : Nat) (hb : 0 < b) (ha : a < 2147483648) (hb' : b < 2147483648) : i32 a / i32 b = i32 (a / b) := by
  apply Int32.toInt_inj.mp
  have h1 : a / b ≤ a := Nat.div_le_self a b
  rw [i32_toInt (by omega : a / b < 2147483648), Int32.toInt_div_of_ne_left _ _ (by rw [Int32.minValue]; intro h; have := congrArg Int32.toInt h; rw [i32_toInt ha] at this; simp at this), i32_toInt ha, i32_toInt hb']
  rfl
theorem le_t {a b : Nat} (h : a ≤ b ∧ b < 2147483648) : (i32 a ≤ i32 b) = True := eq_true ((i32_le (by omega) h.2).mpr h.1)
theorem le_f {a b : Nat} (h : b < a ∧ a < 2147483648) : (i32 a ≤ i32 b) = False := eq_false fun q => by have := (i32_le h.2 (by omega)).mp q; omega
theorem lt_t {a b : Nat} (h : a < b ∧ b < 2147483648) : (i32 a < i32 b) = True := eq_true ((i32_lt (by omega) h.2).mpr h.1)
theorem lt_f {a b : Nat} (h : b ≤ a ∧ a < 2147483648) : (i32 a < i32 b) = False := eq_false fun q => by have := (i32_lt h.2 (by omega)).mp q; omega
theorem eq_t {a b : Nat} (h : a = b) : (i32 a = i32 b) = True := eq_true (by rw [h])
theorem eq_rfl (a : Int32) : (a = a) = True := eq_true rfl
theorem eq_f {a b : Nat} (h : ¬ a = b ∧ a < 2147483648 ∧ b < 2147483648) : (i32 a = i32 b) = False := eq_false fun q => h.1 ((i32_inj h.2.1 h.2.2).mp q)
theorem inR_t {n L : Nat} (h : n < L ∧ n < 2147483648) : inR (i32 n) L = True := eq_true ((i32_inR h.2).mpr h.1)
theorem stI_eq (g : Mem) (k j : Nat) (x : Int32) : (stI g k j x).1 k j = x := by simp [stI_1]
theorem stI_nj (g : Mem) (k j i : Nat) (x : Int32) (h : ¬ i = j) : (stI g k j x).1 k i = g.1 k i := by simp [stI_1, h]
theorem stI_ne (g : Mem) (k j c : Nat) (x : Int32) (h : ¬ c = k) : (stI g k j x).1 c = g.1 c := by
  funext i; simp [stI_1, h]
/-- the same again, in a form whose inside is left alone until its first part is known -/
def Wf {α : Type} (_f : α) : Type := Bool
def obx {α β : Type} (f : α → Mem → Option β) (_w : Wf f) (x : Option (α × Mem)) : Option β := ob x f
theorem ob_x {α β : Type} (f : α → Mem → Option β) (x : Option (α × Mem)) : ob x f = @obx α β f true x := rfl
theorem obx_s {α β : Type} (f : α → Mem → Option β) (r : α) (g : Mem) : @obx α β f true (some (r, g)) = f r g := rfl
def oTx {β : Type} (f : Nat → Option β) (_w : Wf f) (o : Option Nat) : Option β := oT isText o f
theorem oT_x {β : Type} (f : Nat → Option β) (o : Option Nat) : oT isText o f = @oTx β f true o := rfl
theorem oTx_s {β : Type} (f : Nat → Option β) (i : Nat) (h : i < 6) : @oTx β f true (some (4 + 5 * i)) = f (4 + 5 * i) := oT_s isText _ _ (by simp only [isText]; omega)
def Wf2 {α : Type} (_f _h : α) : Type := Bool
def itx {β : Type} (A B : Option β) (_w : Wf2 A B) (c : Prop) [Decidable c] : Option β := if c then A else B
theorem ite_x {β : Type} (A B : Option β) (c : Prop) [Decidable c] : (if c then A else B) = @itx β A B true c _ := rfl
theorem itx_T {β : Type} (A B : Option β) [i : Decidable True] : @itx β A B true True i = A := by simp [itx]
theorem itx_F {β : Type} (A B : Option β) [i : Decidable False] : @itx β A B true False i = B := by simp [itx]
/-- what a text's reckoning leaves alone -/
def SI (g g' : Mem) : Prop := (∀ c, ¬ (4 ≤ c ∧ c < 34 ∧ 3 ≤ (c - 4) % 5) → g'.1 c = g.1 c) ∧ g'.2 = g.2
theorem SI_rfl (g : Mem) : SI g g := ⟨fun _ _ => rfl, rfl⟩
theorem SI_tr {a b c : Mem} (h : SI a b) (k : SI b c) : SI a c := ⟨fun x q => (k.1 x q).trans (h.1 x q), k.2.trans h.2⟩
theorem SI_st (g : Mem) (i d j : Nat) (x : Int32) (hi : i < 6) (hd : d = 3 ∨ d = 4) : SI g (stI g (4 + 5 * i + d) j x) := ⟨fun c h => stI_ne _ _ _ _ _ (by omega), rfl⟩
/-- the value a text says, held between 0 and 99 -/
def cl (s : Int32) : Int32 := if i32 0 < (if s < i32 99 then s else i32 99) then (if s < i32 99 then s else i32 99) else i32 0
theorem cl_nb (s : Int32) : NB 99 (cl s) := by
  have h99 : (i32 99).toInt = 99 := i32_toInt (by omega)
  have h00 : (i32 0).toInt = 0 := i32_toInt (by omega)
  unfold cl
  by_cases h : s < i32 99
  · rw [if_pos h]
    rw [Int32.lt_iff_toInt_lt, h99] at h
    by_cases h2 : i32 0 < s
    · rw [if_pos h2]
      rw [Int32.lt_iff_toInt_lt, h00] at h2
      refine ⟨s.toInt.toNat, by omega, ?_⟩
      apply Int32.toInt_inj.mp
      rw [i32_toInt (by omega)]; omega
    · rw [if_neg h2]; exact ⟨0, by omega, rfl⟩
  · rw [if_neg h, if_pos (by rw [lt_t (by omega)]; trivial)]
    exact ⟨99, by omega, rfl⟩
