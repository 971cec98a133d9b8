/-! THE RELATION from call to call; what keeps it; the checks of what is handed in -/
def imM (g : Mem) : Mem := (fun c => if c = 3 then (fun j => g.1 9 j) else if c = 4 then (fun j => g.1 9 (12 + j)) else if c = 5 then (fun j => g.1 9 (60 + j)) else if c = 0 then (fun j => if j = 0 then g.1 10 0 else if j = 6 then g.1 10 1 else if j = 12 then g.1 10 2 else g.1 0 j) else g.1 c, g.2)
def Tq (i c : Nat) (gI gM : Mem) : Prop := i < c ∧ c ≤ 6 ∧ gI.1 72 2 = i32 c ∧ gM.1 0 11 = i32 c ∧ (∀ j, j < 6 → gI.1 (4 + 5 * j) 0 = i32 j) ∧ ∀ j, j < c → TxI j gI gM
/-- the reference's words -/
def wdL : List Nat := [114, 101, 97, 99, 104, 101, 115, 32, 99, 111, 115, 116, 115, 32, 32, 32, 102, 97, 100, 101, 115, 32, 32, 32, 98, 114, 101, 97, 116, 104, 32, 32, 100, 101, 101, 112, 32, 32, 32, 32, 115, 116, 114, 111, 110, 103, 32, 32, 115, 111, 114, 116, 32, 32, 32, 32, 104, 111, 117, 114, 32, 32, 32, 32, 109, 111, 114, 101, 32, 32, 32, 32, 111, 114, 32, 32, 32, 32, 32, 32, 97, 110, 100, 32, 32, 32, 32, 32, 110, 111, 116, 32, 32, 32, 32, 32]
def wdN (j : Nat) : Nat := wdL.getD j 0
def WR (g : Mem) : Prop := ∀ j, j < 96 → g.1 15 j = i32 (wdN j)
def Tp (gI gM : Mem) : Prop := ∃ z, (z ≤ 160 ∧ WR gM) ∧ gI.1 0 1 = i32 z ∧ gM.1 0 8 = i32 z ∧ ∀ j, j < z → gI.1 1 j = gM.1 6 j ∧ NB 255 (gM.1 6 j)
def Sh (gI gM : Mem) : Prop := ∀ s, s < 4 → gI.1 (34 + 2 * s) 1 = gM.1 11 s ∧ (gM.1 11 s = -(i32 1) ∨ NB 2 (gM.1 11 s)) ∧ (∃ m, m ≤ 40 ∧ gI.1 (34 + 2 * s) 2 = i32 m ∧ gM.1 12 s = i32 m) ∧ ∀ j, j < 40 → gI.1 (34 + 2 * s + 1) j = gM.1 13 (40 * s + j)
def Kp (d c : Nat) (gI gM : Mem) : Prop := (gI.1 72 7 = i32 0 ∧ gM.1 0 13 = i32 0) ∨ (gI.1 72 7 = i32 1 ∧ gM.1 0 13 = i32 1 ∧ ∃ e k, e ≤ d ∧ k < c ∧ Sc 62 e k gI (imM gM) ∧ Bd e (imM gM) ∧ Bg 62 gI (imM gM) ∧ NB 999 ((imM gM).1 0 6))
def P1 (d i : Nat) (gI gM : Mem) : Prop := Sc 42 d i gI gM ∧ Bd d gM ∧ Bg 42 gI gM ∧ NB 999 (gM.1 0 6)
def RR (d i c : Nat) (gI gM : Mem) : Prop := P1 d i gI gM ∧ Tq i c gI gM ∧ Tp gI gM ∧ Sh gI gM ∧ Kp d c gI gM
def R (gI gM : Mem) : Prop := ∃ d i c, RR d i c gI gM
def VI (g g' : Mem) : Prop := (∀ c, ¬ (4 ≤ c ∧ c < 34 ∧ 3 ≤ (c - 4) % 5) → ¬ (42 ≤ c ∧ c ≤ 61) → g'.1 c = g.1 c) ∧ ∀ c, 62 ≤ c → g'.2 c = g.2 c
def VM (D : Nat) (g g' : Mem) : Prop := (∀ c, ¬ c = 0 → ¬ c = 3 → ¬ c = 4 → ¬ c = 5 → ¬ c = 17 → ¬ c = 18 → ¬ c = 19 → ¬ c = 1 → ¬ c = 2 → g'.1 c = g.1 c) ∧ (∀ j, (j = 8 ∨ j = 11 ∨ j = 13) → g'.1 0 j = g.1 0 j) ∧ ∀ p, p < D → g'.1 1 p = g.1 1 p ∧ g'.1 2 p = g.1 2 p
theorem VI_FI {b : Nat} {g g' : Mem} (hb : b = 42 ∨ b = 52) (h : FI b g g') : VI g g' := ⟨fun c a e => h.1 c a (by omega), fun c hc => h.2 c (by omega)⟩
theorem VM_FM {D : Nat} {g g' : Mem} (h : FM g g') : VM D g g' := ⟨fun c a0 a3 a4 a5 a17 a18 _ _ _ => h.1 c a0 a3 a4 a5 a17 a18, fun j hj => h.2 j (by omega) (by omega) (by omega), fun p _ => ⟨by rw [h.1 1 (by omega) (by omega) (by omega) (by omega) (by omega) (by omega)], by rw [h.1 2 (by omega) (by omega) (by omega) (by omega) (by omega) (by omega)]⟩⟩
theorem VM_EqM {D : Nat} {g g' : Mem} (h : EqM g g') : VM D g g' := ⟨fun c a0 a3 a4 a5 a17 a18 a19 _ _ => h.1 c a0 a3 a4 a5 a17 a18 a19, fun j hj => h.2.1 j (by omega) (by omega), fun p _ => ⟨by rw [h.1 1 (by omega) (by omega) (by omega) (by omega) (by omega) (by omega) (by omega)], by rw [h.1 2 (by omega) (by omega) (by omega) (by omega) (by omega) (by omega) (by omega)]⟩⟩
theorem Tq_fr {i c D : Nat} {gI gM gI' gM' : Mem} (h : Tq i c gI gM) (v : VI gI gI') (w : VM D gM gM') : Tq i c gI' gM' := by
  obtain ⟨a, b, e1, e2, e3, e4⟩ := h
  refine ⟨a, b, ?_, ?_, fun j hj => ?_, fun j hj => TxI_fr (e4 j hj) (v.1 _ (by omega) (by omega)) (v.1 _ (by omega) (by omega)) (w.1 7 (by omega) (by omega) (by omega) (by omega) (by omega) (by omega) (by omega) (by omega) (by omega)) (w.1 8 (by omega) (by omega) (by omega) (by omega) (by omega) (by omega) (by omega) (by omega) (by omega))⟩
  · rw [v.1 72 (by omega) (by omega)]; exact e1
  · rw [w.2.1 11 (by omega)]; exact e2
  · rw [v.1 _ (by omega) (by omega)]; exact e3 j hj
theorem Tp_fr {D : Nat} {gI gM gI' gM' : Mem} (h : Tp gI gM) (v : VI gI gI') (w : VM D gM gM') : Tp gI' gM' := by
  obtain ⟨z, a, b, e1, e2⟩ := h
  refine ⟨z, ⟨a.1, fun j hj => by rw [w.1 15 (by omega) (by omega) (by omega) (by omega) (by omega) (by omega) (by omega) (by omega) (by omega)]; exact a.2 j hj⟩, ?_, ?_, ?_⟩
  · rw [v.1 0 (by omega) (by omega)]; exact b
  · rw [w.2.1 8 (by omega)]; exact e1
  · rw [v.1 1 (by omega) (by omega), w.1 6 (by omega) (by omega) (by omega) (by omega) (by omega) (by omega) (by omega) (by omega) (by omega)]; exact e2
theorem Sh_fr {D : Nat} {gI gM gI' gM' : Mem} (h : Sh gI gM) (v : VI gI gI') (w : VM D gM gM') : Sh gI' gM' := by
  intro s hs
  rw [v.1 _ (by omega) (by omega), v.1 (34 + 2 * s + 1) (by omega) (by omega), w.1 11 (by omega) (by omega) (by omega) (by omega) (by omega) (by omega) (by omega) (by omega) (by omega), w.1 12 (by omega) (by omega) (by omega) (by omega) (by omega) (by omega) (by omega) (by omega) (by omega), w.1 13 (by omega) (by omega) (by omega) (by omega) (by omega) (by omega) (by omega) (by omega) (by omega)]
  exact h s hs
theorem imM_0 (g : Mem) (j : Nat) (h : j = 0 ∨ j = 6 ∨ j = 12) : (imM g).1 0 j = g.1 10 (j / 6) := by
  rcases h with rfl | rfl | rfl <;> rfl
theorem imM_c (g : Mem) (c : Nat) (h0 : ¬ c = 0) (h3 : ¬ c = 3) (h4 : ¬ c = 4) (h5 : ¬ c = 5) : (imM g).1 c = g.1 c := by
  simp only [imM, if_neg h0, if_neg h3, if_neg h4, if_neg h5]
/-- a scene is told by its own cells, the texts, and the reference's rows -/
def LkI (b : Nat) (g g' : Mem) : Prop := (∀ c, b ≤ c → c ≤ b + 9 → g'.1 c = g.1 c) ∧ g'.2 b = g.2 b ∧ ∀ j, j < 6 → g'.1 (4 + 5 * j + 1) = g.1 (4 + 5 * j + 1) ∧ g'.1 (4 + 5 * j + 2) = g.1 (4 + 5 * j + 2)
def LkM (D : Nat) (g g' : Mem) : Prop := (∀ j, j < 12 → g'.1 3 j = g.1 3 j) ∧ (∀ j, j < 48 → g'.1 4 j = g.1 4 j) ∧ (∀ j, j < 6 → g'.1 5 j = g.1 5 j) ∧ g'.1 0 0 = g.1 0 0 ∧ g'.1 0 6 = g.1 0 6 ∧ g'.1 0 12 = g.1 0 12 ∧ (∀ p, p < D → g'.1 1 p = g.1 1 p) ∧ (∀ p, p < D → g'.1 2 p = g.1 2 p) ∧ g'.1 7 = g.1 7 ∧ g'.1 8 = g.1 8
theorem LkM_EqM {D : Nat} {g g' : Mem} (h : EqM g g') : LkM D g g' := ⟨h.2.2.1, h.2.2.2.1, h.2.2.2.2, h.2.1 0 (by omega) (by omega), h.2.1 6 (by omega) (by omega), h.2.1 12 (by omega) (by omega), fun p _ => by rw [h.1 1 (by omega) (by omega) (by omega) (by omega) (by omega) (by omega) (by omega)], fun p _ => by rw [h.1 2 (by omega) (by omega) (by omega) (by omega) (by omega) (by omega) (by omega)], h.1 7 (by omega) (by omega) (by omega) (by omega) (by omega) (by omega) (by omega), h.1 8 (by omega) (by omega) (by omega) (by omega) (by omega) (by omega) (by omega)⟩
theorem LkM_im {D : Nat} {g g' : Mem} (h : VM D g g') : LkM D (imM g) (imM g') := by
  have e9 := h.1 9 (by omega) (by omega) (by omega) (by omega) (by omega) (by omega) (by omega) (by omega) (by omega)
  have e10 := h.1 10 (by omega) (by omega) (by omega) (by omega) (by omega) (by omega) (by omega) (by omega) (by omega)
  refine ⟨fun j _ => ?_, fun j _ => ?_, fun j _ => ?_, ?_, ?_, ?_, fun p hp => ?_, fun p hp => ?_, ?_, ?_⟩
  · show g'.1 9 j = g.1 9 j; rw [e9]
  · show g'.1 9 (12 + j) = g.1 9 (12 + j); rw [e9]
  · show g'.1 9 (60 + j) = g.1 9 (60 + j); rw [e9]
  · rw [imM_0 _ _ (by omega), imM_0 _ _ (by omega), e10]
  · rw [imM_0 _ _ (by omega), imM_0 _ _ (by omega), e10]
  · rw [imM_0 _ _ (by omega), imM_0 _ _ (by omega), e10]
  · rw [imM_c _ _ (by omega) (by omega) (by omega) (by omega), imM_c _ _ (by omega) (by omega) (by omega) (by omega)]; exact (h.2.2 p hp).1
  · rw [imM_c _ _ (by omega) (by omega) (by omega) (by omega), imM_c _ _ (by omega) (by omega) (by omega) (by omega)]; exact (h.2.2 p hp).2
  · rw [imM_c _ _ (by omega) (by omega) (by omega) (by omega), imM_c _ _ (by omega) (by omega) (by omega) (by omega)]; exact h.1 7 (by omega) (by omega) (by omega) (by omega) (by omega) (by omega) (by omega) (by omega) (by omega)
  · rw [imM_c _ _ (by omega) (by omega) (by omega) (by omega), imM_c _ _ (by omega) (by omega) (by omega) (by omega)]; exact h.1 8 (by omega) (by omega) (by omega) (by omega) (by omega) (by omega) (by omega) (by omega) (by omega)
theorem Sc_Lk {b d i D : Nat} {gI gM gI' gM' : Mem} (h : Sc b d i gI gM) (l : LkI b gI gI') (m : LkM D gM gM') (hD : d ≤ D) : Sc b d i gI' gM' := by
  obtain ⟨⟨a1, a2, a3⟩, b1, b2, b3, b4, b5, b6, b7, b8, b9, b10, b11, b12, b13, b14⟩ := h
  obtain ⟨l1, l2, l3⟩ := l
  obtain ⟨m3, m4, m5, m00, m06, m12, m1, m2, m7, m8⟩ := m
  refine ⟨⟨a1, a2, a3⟩, fun t ht => ?_, fun k hk => ?_, fun k hk => ?_, fun k hk => ?_, fun k hk => ?_, fun p hp => ?_, ?_, ?_, fun p hp => ?_, fun p hp => ?_, ?_, ?_, ?_, TxI_fr b14 (l3 i a3).1 (l3 i a3).2 m7 m8⟩
  · rw [l1 _ (by omega) (by omega), m5 t ht]; exact b1 t ht
  · rw [l1 _ (by omega) (by omega), m4 _ (by omega)]; exact b2 k hk
  · rw [l1 _ (by omega) (by omega), m4 _ (by omega)]; exact b3 k hk
  · rw [l1 _ (by omega) (by omega), m4 _ (by omega)]; exact b4 k hk
  · rw [l1 _ (by omega) (by omega), m4 _ (by omega)]; exact b5 k hk
  · rw [l1 _ (by omega) (by omega), m3 _ (by omega)]; exact b6 p hp
  · rw [l1 _ (by omega) (by omega)]; exact b7
  · rw [m00]; exact b8
  · rw [l1 _ (by omega) (by omega), m1 p (by omega)]; exact b9 p hp
  · rw [l1 _ (by omega) (by omega), m2 p (by omega)]; exact b10 p hp
  · rw [l1 _ (by omega) (by omega), m06]; exact b11
  · rw [l2]; exact b12
  · rw [m12]; exact b13
theorem Bd_Lk {d D : Nat} {gM gM' : Mem} (h : Bd d gM) (m : LkM D gM gM') (hD : d ≤ D) : Bd d gM' := by
  obtain ⟨q1, q2, q3, q4, q5, q6, q7, q8⟩ := h
  obtain ⟨m3, m4, m5, m00, m06, m12, m1, m2, m7, m8⟩ := m
  refine ⟨fun t ht => ?_, fun k hk => ?_, fun k hk => ?_, fun k hk => ?_, fun k hk => ?_, fun p hp => ?_, fun p hp => ?_, fun p hp => ?_⟩
  · rw [m5 t ht]; exact q1 t ht
  · rw [m4 _ (by omega)]; exact q2 k hk
  · rw [m4 _ (by omega)]; exact q3 k hk
  · rw [m4 _ (by omega)]; exact q4 k hk
  · rw [m4 _ (by omega)]; exact q5 k hk
  · rw [m3 _ (by omega)]; exact q6 p hp
  · rw [m1 p (by omega)]; exact q7 p hp
  · rw [m2 p (by omega)]; exact q8 p hp
theorem Bg_Lk {b D : Nat} {gI gM gI' gM' : Mem} (h : Bg b gI gM) (l : LkI b gI gI') (m : LkM D gM gM') : Bg b gI' gM' := by
  intro p hp
  rw [l.1 _ (by omega) (by omega), m.1 _ (by omega)]; exact h p hp
theorem Kp_fr {d c D E : Nat} {gI gM gI' gM' : Mem} (h : Kp d c gI gM) (v : VI gI gI') (w : VM D gM gM') (hD : d ≤ D) (hE : d ≤ E) : Kp E c gI' gM' := by
  have l : LkI 62 gI gI' := ⟨fun c h1 h2 => v.1 c (by omega) (by omega), v.2 62 (by omega), fun j hj => ⟨v.1 _ (by omega) (by omega), v.1 _ (by omega) (by omega)⟩⟩
  have m := LkM_im w
  rcases h with ⟨a, b⟩ | ⟨a, b, e, k, h1, h2, h3, h4, h5, h6⟩
  · exact Or.inl ⟨by rw [v.1 72 (by omega) (by omega)]; exact a, by rw [w.2.1 13 (by omega)]; exact b⟩
  · refine Or.inr ⟨by rw [v.1 72 (by omega) (by omega)]; exact a, by rw [w.2.1 13 (by omega)]; exact b, e, k, by omega, h2, Sc_Lk h3 l m (by omega), Bd_Lk h4 m (by omega), Bg_Lk h5 l m, ?_⟩
    rw [m.2.2.2.2.1]; exact h6
/-- what was thought has left the rest as it was -/
theorem RR_th {d i c : Nat} {gI gM gI' gM' : Mem} (h : RR d i c gI gM) (f : FI 52 gI gI') (m : EqM gM gM') : RR d i c gI' gM' := by
  obtain ⟨⟨h1, h2, h3, h4⟩, h5, h6, h7, h8⟩ := h
  have v := VI_FI (Or.inr rfl) f
  have w := VM_EqM (D := d) m
  have l : LkI 42 gI gI' := ⟨fun c h1 h2 => f.1 c (by omega) (by omega), f.2 42 (by omega), fun j hj => ⟨f.1 _ (by omega) (by omega), f.1 _ (by omega) (by omega)⟩⟩
  have n := LkM_EqM (D := d) m
  exact ⟨⟨Sc_Lk h1 l n (Nat.le_refl d), Bd_Lk h2 n (Nat.le_refl d), Bg_Lk h3 l n, by rw [n.2.2.2.2.1]; exact h4⟩, Tq_fr h5 v w, Tp_fr h6 v w, Sh_fr h7 v w, Kp_fr h8 v w (Nat.le_refl d) (Nat.le_refl d)⟩
theorem RR_S {d i c : Nat} {gI gM gI' gM' : Mem} (h : RR d i c gI gM) (f : SI gI gI') (m : SM gM gM') : RR d i c gI' gM' := RR_th h (FI_SI f) (EqM_SM m)
/-- what was done to the scene as it truly is -/
theorem RR_tr {d i c : Nat} {gI gM gI' gM' : Mem} (h : RR d i c gI gM) (o : OKs 42 d i gI gM gI' gM') (hh : NB 999 (gM'.1 0 6)) : RR d i c gI' gM' := by
  obtain ⟨⟨h1, h2, h3, h4⟩, h5, h6, h7, h8⟩ := h
  have v := VI_FI (Or.inl rfl) o.2.2.1
  have w := VM_FM (D := d) o.2.2.2.1
  exact ⟨⟨o.1, o.2.1, o.2.2.2.2 h3, hh⟩, Tq_fr h5 v w, Tp_fr h6 v w, Sh_fr h7 v w, Kp_fr h8 v w (Nat.le_refl d) (Nat.le_refl d)⟩
/-- both answer, alike, and stay alike -/
def EQ {α : Type} (A B : Option (α × Mem)) : Prop := ∃ r gI' gM', A = some (r, gI') ∧ B = some (r, gM') ∧ R gI' gM'
/-! what is handed in -/
def Out (a : Int32) (L : Nat) : Prop := a < i32 0 ∨ (i32 L ≤ a ∧ i32 0 ≤ a)
theorem rg (a : Int32) (L : Nat) (hL : L < 1000000) : (∃ n, n < L ∧ a = i32 n) ∨ Out a L := by
  by_cases h : a < i32 0
  · exact Or.inr (Or.inl h)
  · rw [Int32.lt_iff_toInt_lt, i32_toInt (by omega)] at h
    by_cases h2 : i32 L ≤ a
    · exact Or.inr (Or.inr ⟨h2, by rw [Int32.le_iff_toInt_le, i32_toInt (by omega)]; omega⟩)
    · rw [Int32.le_iff_toInt_le, i32_toInt (by omega)] at h2
      refine Or.inl ⟨a.toInt.toNat, by omega, Int32.toInt_inj.mp ?_⟩
      rw [i32_toInt (by omega)]; omega
theorem isW_t {N n M : Nat} (g : Mem) (h : n ≤ M ∧ M < 2147483648) : X5_isWithin N (i32 n) (i32 M) g = some (i32 1, g) := by
  simp -dsimp -implicitDefEqProofs (disch := omega) only [X5_isWithin, i32_lit, i32_add, i32_mul, i32_tn, i32_sub, le_t, le_f, lt_t, lt_f, eq_t, eq_f, eq_rfl, inR_t, ↓ob_x, obx_s, ↓bnd_s, ↓oT_x, oTx_s, ↓ite_x, itx_T, itx_F, ↓reduceIte, not_true_eq_false, not_false_eq_true, true_and, and_true, Nat.reduceAdd, Nat.reduceMul, Nat.reduceSub, Nat.reduceEqDiff, isB0, isB1, Int32.neg_neg, Nat.zero_add, Nat.add_zero, Nat.mul_zero, Nat.mul_one, Nat.zero_mul]
theorem isW_f {N M : Nat} {a : Int32} (g : Mem) (hM : M < 1000000) (h : Out a (M + 1)) : X5_isWithin N a (i32 M) g = some (i32 0, g) := by
  by_cases h1 : a < i32 0
  · simp -dsimp -implicitDefEqProofs (disch := omega) only [X5_isWithin, i32_lit, i32_add, i32_mul, i32_tn, i32_sub, le_t, le_f, lt_t, lt_f, eq_t, eq_f, eq_rfl, inR_t, ↓ob_x, obx_s, ↓bnd_s, ↓oT_x, oTx_s, ↓ite_x, itx_T, itx_F, ↓reduceIte, not_true_eq_false, not_false_eq_true, true_and, and_true, Nat.reduceAdd, Nat.reduceMul, Nat.reduceSub, Nat.reduceEqDiff, isB0, isB1, Int32.neg_neg, Nat.zero_add, Nat.add_zero, Nat.mul_zero, Nat.mul_one, Nat.zero_mul, h1]
  · have h2 : i32 M < a := by
      rcases h with h | ⟨h, _⟩
      · exact absurd h h1
      · rw [Int32.le_iff_toInt_le, i32_toInt (by omega)] at h
        rw [Int32.lt_iff_toInt_lt, i32_toInt (by omega)]; omega
    simp -dsimp -implicitDefEqProofs (disch := omega) only [X5_isWithin, i32_lit, i32_add, i32_mul, i32_tn, i32_sub, le_t, le_f, lt_t, lt_f, eq_t, eq_f, eq_rfl, inR_t, ↓ob_x, obx_s, ↓bnd_s, ↓oT_x, oTx_s, ↓ite_x, itx_T, itx_F, ↓reduceIte, not_true_eq_false, not_false_eq_true, true_and, and_true, Nat.reduceAdd, Nat.reduceMul, Nat.reduceSub, Nat.reduceEqDiff, isB0, isB1, Int32.neg_neg, Nat.zero_add, Nat.add_zero, Nat.mul_zero, Nat.mul_one, Nat.zero_mul, h1, h2]
theorem in_t {N n M : Nat} (g : Mem) (h : n ≤ M ∧ M < 2147483648) : X6_in N (i32 n) (i32 0) (i32 M) g = some (i32 1, g) := by
  simp -dsimp -implicitDefEqProofs (disch := omega) only [X6_in, i32_lit, i32_add, i32_mul, i32_tn, i32_sub, le_t, le_f, lt_t, lt_f, eq_t, eq_f, eq_rfl, inR_t, ↓ob_x, obx_s, ↓bnd_s, ↓oT_x, oTx_s, ↓ite_x, itx_T, itx_F, ↓reduceIte, not_true_eq_false, not_false_eq_true, true_and, and_true, Nat.reduceAdd, Nat.reduceMul, Nat.reduceSub, Nat.reduceEqDiff, isB0, isB1, Int32.neg_neg, Nat.zero_add, Nat.add_zero, Nat.mul_zero, Nat.mul_one, Nat.zero_mul]
theorem in_f {N M : Nat} {a : Int32} (g : Mem) (hM : M < 1000000) (h : Out a (M + 1)) : X6_in N a (i32 0) (i32 M) g = some (i32 0, g) := by
  by_cases h1 : a < i32 0
  · simp -dsimp -implicitDefEqProofs (disch := omega) only [X6_in, i32_lit, i32_add, i32_mul, i32_tn, i32_sub, le_t, le_f, lt_t, lt_f, eq_t, eq_f, eq_rfl, inR_t, ↓ob_x, obx_s, ↓bnd_s, ↓oT_x, oTx_s, ↓ite_x, itx_T, itx_F, ↓reduceIte, not_true_eq_false, not_false_eq_true, true_and, and_true, Nat.reduceAdd, Nat.reduceMul, Nat.reduceSub, Nat.reduceEqDiff, isB0, isB1, Int32.neg_neg, Nat.zero_add, Nat.add_zero, Nat.mul_zero, Nat.mul_one, Nat.zero_mul, h1]
  · have h2 : i32 M < a := by
      rcases h with h | ⟨h, _⟩
      · exact absurd h h1
      · rw [Int32.le_iff_toInt_le, i32_toInt (by omega)] at h
        rw [Int32.lt_iff_toInt_lt, i32_toInt (by omega)]; omega
    simp -dsimp -implicitDefEqProofs (disch := omega) only [X6_in, i32_lit, i32_add, i32_mul, i32_tn, i32_sub, le_t, le_f, lt_t, lt_f, eq_t, eq_f, eq_rfl, inR_t, ↓ob_x, obx_s, ↓bnd_s, ↓oT_x, oTx_s, ↓ite_x, itx_T, itx_F, ↓reduceIte, not_true_eq_false, not_false_eq_true, true_and, and_true, Nat.reduceAdd, Nat.reduceMul, Nat.reduceSub, Nat.reduceEqDiff, isB0, isB1, Int32.neg_neg, Nat.zero_add, Nat.add_zero, Nat.mul_zero, Nat.mul_one, Nat.zero_mul, h1, h2]
theorem pr_lt {d : Nat} {a : Int32} (hd : d < 1000000) (h : Out a d) (h1 : ¬ a < i32 0) : i32 d - i32 1 < a := by
  rcases h with h | ⟨h, _⟩
  · exact absurd h h1
  · rw [Int32.le_iff_toInt_le, i32_toInt (by omega)] at h
    rw [Int32.lt_iff_toInt_lt]
    by_cases e : d = 0
    · subst e
      have : i32 0 - i32 1 = -(i32 1) := by decide
      rw [this, i32_negI (by omega)]; omega
    · rw [i32_sub (by omega), i32_toInt (by omega)]; omega
theorem isD_t {N n d : Nat} {g : Mem} (e : g.1 42 9 = i32 d) (h : n < d) (hd : d ≤ 6) : X5_isDiver N (i32 n) g = some (i32 1, g) := by
  simp -dsimp -implicitDefEqProofs (disch := omega) only [X5_isDiver, X5_isWithin, i32_lit, i32_add, i32_mul, i32_tn, i32_sub, le_t, le_f, lt_t, lt_f, eq_t, eq_f, eq_rfl, inR_t, ↓ob_x, obx_s, ↓bnd_s, ↓oT_x, oTx_s, ↓ite_x, itx_T, itx_F, ↓reduceIte, not_true_eq_false, not_false_eq_true, true_and, and_true, Nat.reduceAdd, Nat.reduceMul, Nat.reduceSub, Nat.reduceEqDiff, isB0, isB1, Int32.neg_neg, Nat.zero_add, Nat.add_zero, Nat.mul_zero, Nat.mul_one, Nat.zero_mul, e]
theorem isD_f {N d : Nat} {a : Int32} {g : Mem} (e : g.1 42 9 = i32 d) (h : Out a d) (hd : d ≤ 6) : X5_isDiver N a g = some (i32 0, g) := by
  by_cases h1 : a < i32 0
  · simp -dsimp -implicitDefEqProofs (disch := omega) only [X5_isDiver, X5_isWithin, i32_lit, i32_add, i32_mul, i32_tn, i32_sub, le_t, le_f, lt_t, lt_f, eq_t, eq_f, eq_rfl, inR_t, ↓ob_x, obx_s, ↓bnd_s, ↓oT_x, oTx_s, ↓ite_x, itx_T, itx_F, ↓reduceIte, not_true_eq_false, not_false_eq_true, true_and, and_true, Nat.reduceAdd, Nat.reduceMul, Nat.reduceSub, Nat.reduceEqDiff, isB0, isB1, Int32.neg_neg, Nat.zero_add, Nat.add_zero, Nat.mul_zero, Nat.mul_one, Nat.zero_mul, e, h1]
  · have h2 := pr_lt (by omega) h h1
    simp -dsimp -implicitDefEqProofs (disch := omega) only [X5_isDiver, X5_isWithin, i32_lit, i32_add, i32_mul, i32_tn, i32_sub, le_t, le_f, lt_t, lt_f, eq_t, eq_f, eq_rfl, inR_t, ↓ob_x, obx_s, ↓bnd_s, ↓oT_x, oTx_s, ↓ite_x, itx_T, itx_F, ↓reduceIte, not_true_eq_false, not_false_eq_true, true_and, and_true, Nat.reduceAdd, Nat.reduceMul, Nat.reduceSub, Nat.reduceEqDiff, isB0, isB1, Int32.neg_neg, Nat.zero_add, Nat.add_zero, Nat.mul_zero, Nat.mul_one, Nat.zero_mul, e, h1, h2]
theorem mO_t {N n d : Nat} {g : Mem} (e : g.1 0 0 = i32 d) (h : n < d) (hd : d ≤ 6) : X6_isOne N (i32 n) g = some (i32 1, g) := by
  simp -dsimp -implicitDefEqProofs (disch := omega) only [X6_isOne, X6_in, i32_lit, i32_add, i32_mul, i32_tn, i32_sub, le_t, le_f, lt_t, lt_f, eq_t, eq_f, eq_rfl, inR_t, ↓ob_x, obx_s, ↓bnd_s, ↓oT_x, oTx_s, ↓ite_x, itx_T, itx_F, ↓reduceIte, not_true_eq_false, not_false_eq_true, true_and, and_true, Nat.reduceAdd, Nat.reduceMul, Nat.reduceSub, Nat.reduceEqDiff, isB0, isB1, Int32.neg_neg, Nat.zero_add, Nat.add_zero, Nat.mul_zero, Nat.mul_one, Nat.zero_mul, e]
theorem mO_f {N d : Nat} {a : Int32} {g : Mem} (e : g.1 0 0 = i32 d) (h : Out a d) (hd : d ≤ 6) : X6_isOne N a g = some (i32 0, g) := by
  by_cases h1 : a < i32 0
  · simp -dsimp -implicitDefEqProofs (disch := omega) only [X6_isOne, X6_in, i32_lit, i32_add, i32_mul, i32_tn, i32_sub, le_t, le_f, lt_t, lt_f, eq_t, eq_f, eq_rfl, inR_t, ↓ob_x, obx_s, ↓bnd_s, ↓oT_x, oTx_s, ↓ite_x, itx_T, itx_F, ↓reduceIte, not_true_eq_false, not_false_eq_true, true_and, and_true, Nat.reduceAdd, Nat.reduceMul, Nat.reduceSub, Nat.reduceEqDiff, isB0, isB1, Int32.neg_neg, Nat.zero_add, Nat.add_zero, Nat.mul_zero, Nat.mul_one, Nat.zero_mul, e, h1]
  · have h2 := pr_lt (by omega) h h1
    simp -dsimp -implicitDefEqProofs (disch := omega) only [X6_isOne, X6_in, i32_lit, i32_add, i32_mul, i32_tn, i32_sub, le_t, le_f, lt_t, lt_f, eq_t, eq_f, eq_rfl, inR_t, ↓ob_x, obx_s, ↓bnd_s, ↓oT_x, oTx_s, ↓ite_x, itx_T, itx_F, ↓reduceIte, not_true_eq_false, not_false_eq_true, true_and, and_true, Nat.reduceAdd, Nat.reduceMul, Nat.reduceSub, Nat.reduceEqDiff, isB0, isB1, Int32.neg_neg, Nat.zero_add, Nat.add_zero, Nat.mul_zero, Nat.mul_one, Nat.zero_mul, e, h1, h2]
theorem isK_t {N n : Nat} (g : Mem) (h : n < 12) : X5_isCask N (i32 n) g = some (i32 1, g) := by
  simp -dsimp -implicitDefEqProofs (disch := omega) only [X5_isCask, isW_t, i32_lit, i32_add, i32_mul, i32_tn, i32_sub, le_t, le_f, lt_t, lt_f, eq_t, eq_f, eq_rfl, inR_t, ↓ob_x, obx_s, ↓bnd_s, ↓oT_x, oTx_s, ↓ite_x, itx_T, itx_F, ↓reduceIte, not_true_eq_false, not_false_eq_true, true_and, and_true, Nat.reduceAdd, Nat.reduceMul, Nat.reduceSub, Nat.reduceEqDiff, isB0, isB1, Int32.neg_neg, Nat.zero_add, Nat.add_zero, Nat.mul_zero, Nat.mul_one, Nat.zero_mul]
theorem isK_f {N : Nat} {a : Int32} (g : Mem) (h : Out a 12) : X5_isCask N a g = some (i32 0, g) := by
  simp -dsimp -implicitDefEqProofs (disch := omega) only [X5_isCask, isW_f g (by omega : 11 < 1000000) h, i32_lit, i32_add, i32_mul, i32_tn, i32_sub, le_t, le_f, lt_t, lt_f, eq_t, eq_f, eq_rfl, inR_t, ↓ob_x, obx_s, ↓bnd_s, ↓oT_x, oTx_s, ↓ite_x, itx_T, itx_F, ↓reduceIte, not_true_eq_false, not_false_eq_true, true_and, and_true, Nat.reduceAdd, Nat.reduceMul, Nat.reduceSub, Nat.reduceEqDiff, isB0, isB1, Int32.neg_neg, Nat.zero_add, Nat.add_zero, Nat.mul_zero, Nat.mul_one, Nat.zero_mul]
theorem isS_t {N n : Nat} (g : Mem) (h : n < 6) : X5_isSort N (i32 n) g = some (i32 1, g) := by
  simp -dsimp -implicitDefEqProofs (disch := omega) only [X5_isSort, isW_t, i32_lit, i32_add, i32_mul, i32_tn, i32_sub, le_t, le_f, lt_t, lt_f, eq_t, eq_f, eq_rfl, inR_t, ↓ob_x, obx_s, ↓bnd_s, ↓oT_x, oTx_s, ↓ite_x, itx_T, itx_F, ↓reduceIte, not_true_eq_false, not_false_eq_true, true_and, and_true, Nat.reduceAdd, Nat.reduceMul, Nat.reduceSub, Nat.reduceEqDiff, isB0, isB1, Int32.neg_neg, Nat.zero_add, Nat.add_zero, Nat.mul_zero, Nat.mul_one, Nat.zero_mul]
theorem isS_f {N : Nat} {a : Int32} (g : Mem) (h : Out a 6) : X5_isSort N a g = some (i32 0, g) := by
  simp -dsimp -implicitDefEqProofs (disch := omega) only [X5_isSort, isW_f g (by omega : 5 < 1000000) h, i32_lit, i32_add, i32_mul, i32_tn, i32_sub, le_t, le_f, lt_t, lt_f, eq_t, eq_f, eq_rfl, inR_t, ↓ob_x, obx_s, ↓bnd_s, ↓oT_x, oTx_s, ↓ite_x, itx_T, itx_F, ↓reduceIte, not_true_eq_false, not_false_eq_true, true_and, and_true, Nat.reduceAdd, Nat.reduceMul, Nat.reduceSub, Nat.reduceEqDiff, isB0, isB1, Int32.neg_neg, Nat.zero_add, Nat.add_zero, Nat.mul_zero, Nat.mul_one, Nat.zero_mul]
theorem mK_t {N n : Nat} (g : Mem) (h : n < 12) : X6_isCask N (i32 n) g = some (i32 1, g) := by
  simp -dsimp -implicitDefEqProofs (disch := omega) only [X6_isCask, in_t, i32_lit, i32_add, i32_mul, i32_tn, i32_sub, le_t, le_f, lt_t, lt_f, eq_t, eq_f, eq_rfl, inR_t, ↓ob_x, obx_s, ↓bnd_s, ↓oT_x, oTx_s, ↓ite_x, itx_T, itx_F, ↓reduceIte, not_true_eq_false, not_false_eq_true, true_and, and_true, Nat.reduceAdd, Nat.reduceMul, Nat.reduceSub, Nat.reduceEqDiff, isB0, isB1, Int32.neg_neg, Nat.zero_add, Nat.add_zero, Nat.mul_zero, Nat.mul_one, Nat.zero_mul]
theorem mK_f {N : Nat} {a : Int32} (g : Mem) (h : Out a 12) : X6_isCask N a g = some (i32 0, g) := by
  simp -dsimp -implicitDefEqProofs (disch := omega) only [X6_isCask, in_f g (by omega : 11 < 1000000) h, i32_lit, i32_add, i32_mul, i32_tn, i32_sub, le_t, le_f, lt_t, lt_f, eq_t, eq_f, eq_rfl, inR_t, ↓ob_x, obx_s, ↓bnd_s, ↓oT_x, oTx_s, ↓ite_x, itx_T, itx_F, ↓reduceIte, not_true_eq_false, not_false_eq_true, true_and, and_true, Nat.reduceAdd, Nat.reduceMul, Nat.reduceSub, Nat.reduceEqDiff, isB0, isB1, Int32.neg_neg, Nat.zero_add, Nat.add_zero, Nat.mul_zero, Nat.mul_one, Nat.zero_mul]
theorem mS_t {N n : Nat} (g : Mem) (h : n < 6) : X6_isSky N (i32 n) g = some (i32 1, g) := by
  simp -dsimp -implicitDefEqProofs (disch := omega) only [X6_isSky, in_t, i32_lit, i32_add, i32_mul, i32_tn, i32_sub, le_t, le_f, lt_t, lt_f, eq_t, eq_f, eq_rfl, inR_t, ↓ob_x, obx_s, ↓bnd_s, ↓oT_x, oTx_s, ↓ite_x, itx_T, itx_F, ↓reduceIte, not_true_eq_false, not_false_eq_true, true_and, and_true, Nat.reduceAdd, Nat.reduceMul, Nat.reduceSub, Nat.reduceEqDiff, isB0, isB1, Int32.neg_neg, Nat.zero_add, Nat.add_zero, Nat.mul_zero, Nat.mul_one, Nat.zero_mul]
theorem mS_f {N : Nat} {a : Int32} (g : Mem) (h : Out a 6) : X6_isSky N a g = some (i32 0, g) := by
  simp -dsimp -implicitDefEqProofs (disch := omega) only [X6_isSky, in_f g (by omega : 5 < 1000000) h, i32_lit, i32_add, i32_mul, i32_tn, i32_sub, le_t, le_f, lt_t, lt_f, eq_t, eq_f, eq_rfl, inR_t, ↓ob_x, obx_s, ↓bnd_s, ↓oT_x, oTx_s, ↓ite_x, itx_T, itx_F, ↓reduceIte, not_true_eq_false, not_false_eq_true, true_and, and_true, Nat.reduceAdd, Nat.reduceMul, Nat.reduceSub, Nat.reduceEqDiff, isB0, isB1, Int32.neg_neg, Nat.zero_add, Nat.add_zero, Nat.mul_zero, Nat.mul_one, Nat.zero_mul]
theorem Out_ne {a : Int32} {L : Nat} (h : Out a L) (j : Nat) (hj : j < L ∧ L < 1000000) : (a = i32 j) = False := by
  apply eq_false
  rintro rfl
  rcases h with h | ⟨h, _⟩
  · rw [i32_lt (by omega) (by omega)] at h; omega
  · rw [i32_le (by omega) (by omega)] at h; omega
theorem Out_up {a : Int32} {L M : Nat} (h : Out a L) (hM : M ≤ L ∧ L < 1000000) : Out a M := by
  rcases h with h | ⟨h, h2⟩
  · exact Or.inl h
  · refine Or.inr ⟨?_, h2⟩
    rw [Int32.le_iff_toInt_le, i32_toInt (by omega)] at h ⊢
    omega
theorem Out_i {n L : Nat} (h : L ≤ n ∧ n < 2147483648) : Out (i32 n) L := Or.inr ⟨by rw [le_t (by omega)]; trivial, by rw [le_t (by omega)]; trivial⟩
