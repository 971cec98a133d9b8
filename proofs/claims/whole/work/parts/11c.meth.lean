/-! last: the tree of dives, and the numbers whose digits tell them -/
/-- alike in all that a dive is told from -/
def EW (g g' : Mem) : Prop := g'.1 0 6 = g.1 0 6 ∧ g'.1 1 = g.1 1 ∧ g'.1 2 = g.1 2 ∧ (∀ p, p < 6 → g'.1 3 (2 * p) = g.1 3 (2 * p)) ∧ (∀ j, j < 48 → g'.1 4 j = g.1 4 j) ∧ g'.1 7 = g.1 7 ∧ g'.1 8 = g.1 8
theorem EW_rfl (g : Mem) : EW g g := ⟨rfl, rfl, rfl, fun _ _ => rfl, fun _ _ => rfl, rfl, rfl⟩
theorem EW_tr {a b c : Mem} (h : EW a b) (k : EW b c) : EW a c := ⟨k.1.trans h.1, k.2.1.trans h.2.1, k.2.2.1.trans h.2.2.1, fun p q => (k.2.2.2.1 p q).trans (h.2.2.2.1 p q), fun p q => (k.2.2.2.2.1 p q).trans (h.2.2.2.2.1 p q), k.2.2.2.2.2.1.trans h.2.2.2.2.2.1, k.2.2.2.2.2.2.trans h.2.2.2.2.2.2⟩
theorem EW_SM {g g' : Mem} (s : SM g g') : EW g g' := ⟨by rw [SM_r s 0 (by omega)], SM_r s 1 (by omega), SM_r s 2 (by omega), fun _ _ => by rw [SM_r s 3 (by omega)], fun _ _ => by rw [SM_r s 4 (by omega)], SM_r s 7 (by omega), SM_r s 8 (by omega)⟩
theorem EW_E {g g' : Mem} (h : EqM g g') : EW g g' := ⟨h.2.1 6 (by omega) (by omega), h.1 1 (by omega) (by omega) (by omega) (by omega) (by omega) (by omega) (by omega), h.1 2 (by omega) (by omega) (by omega) (by omega) (by omega) (by omega) (by omega), fun p hp => h.2.2.1 _ (by omega), fun j hj => h.2.2.2.1 j hj, h.1 7 (by omega) (by omega) (by omega) (by omega) (by omega) (by omega) (by omega), h.1 8 (by omega) (by omega) (by omega) (by omega) (by omega) (by omega) (by omega)⟩
theorem SV_EW {g g' : Mem} (s : EW g g') (i q p k : Nat) (hp : p < 6) (hk : k < 12) : SV g' i q p k = SV g i q p k := by
  obtain ⟨a, b, c, d, e, f, h⟩ := s
  unfold SV
  rw [a, c, d p hp, e _ (by omega), e _ (by omega), e (4 * k) (by omega), tv_fr f h]
theorem RV_EW {g g' : Mem} (s : EW g g') (i p k : Nat) (hp : p < 6) (hk : k < 12) : RV g' i p k = RV g i p k := by
  unfold RV; rw [SV_EW s i 0 p k hp hk]; obtain ⟨a, b, c, d, e, f, h⟩ := s; rw [b, c]
theorem CoV_EW {g g' : Mem} (s : EW g g') (i p k : Nat) (hp : p < 6) (hk : k < 12) : CoV g' i p k = CoV g i p k := by
  unfold CoV; rw [SV_EW s i 1 p k hp hk]; obtain ⟨a, b, c, d, e, f, h⟩ := s; rw [a, b, c, e (4 * k) (by omega)]
theorem canV_EW {g g' : Mem} (s : EW g g') (i p k : Nat) (hp : p < 6) (hk : k < 12) : canV g' i p k = canV g i p k := by
  unfold canV; rw [RV_EW s i p k hp hk, CoV_EW s i p k hp hk]; obtain ⟨a, b, c, d, e, f, h⟩ := s; rw [d p hp, e _ (by omega), e (4 * k + 2) (by omega)]
theorem dvM_3 (g : Mem) (i p k q : Nat) : (dvM g i p k).1 3 (2 * q) = if q = p then g.1 3 (2 * p) - CoV g i p k else g.1 3 (2 * q) := by
  unfold dvM
  rw [stI_nj _ _ _ _ _ (by omega), stI_ne _ _ _ _ _ (by omega)]
  by_cases h : q = p
  · subst h; rw [stI_eq, if_pos rfl]
  · rw [stI_nj _ _ _ _ _ (by omega), if_neg h]
theorem dvM_4 (g : Mem) (i p k j : Nat) : (dvM g i p k).1 4 j = if j = 4 * k + 3 then i32 1 else g.1 4 j := by
  unfold dvM
  rw [stI_ne _ _ _ _ _ (by omega)]
  by_cases h : j = 4 * k + 3
  · subst h; rw [stI_eq, if_pos rfl]
  · rw [stI_nj _ _ _ _ _ h, if_neg h, stI_ne _ _ _ _ _ (by omega)]
theorem dvM_n (x : Mem) (i p k c : Nat) (h3 : ¬ c = 3) (h4 : ¬ c = 4) : (dvM x i p k).1 c = x.1 c := by
  unfold dvM; rw [stI_ne _ _ _ _ _ h3, stI_ne _ _ _ _ _ h4, stI_ne _ _ _ _ _ h3]
theorem dvM_EW {g g' : Mem} (s : EW g g') (i p k : Nat) (hp : p < 6) (hk : k < 12) : EW (dvM g i p k) (dvM g' i p k) := by
  have e1 := CoV_EW s i p k hp hk
  obtain ⟨a, b, c, d, e, f, h⟩ := s
  have n : ∀ (x : Mem) (c : Nat), ¬ c = 3 → ¬ c = 4 → (dvM x i p k).1 c = x.1 c := fun x c h3 h4 => by
    unfold dvM; rw [stI_ne _ _ _ _ _ h3, stI_ne _ _ _ _ _ h4, stI_ne _ _ _ _ _ h3]
  refine ⟨by rw [n _ 0 (by omega) (by omega), n _ 0 (by omega) (by omega)]; exact a, by rw [n _ 1 (by omega) (by omega), n _ 1 (by omega) (by omega)]; exact b, by rw [n _ 2 (by omega) (by omega), n _ 2 (by omega) (by omega)]; exact c, fun q hq => ?_, fun j hj => ?_, by rw [n _ 7 (by omega) (by omega), n _ 7 (by omega) (by omega)]; exact f, by rw [n _ 8 (by omega) (by omega), n _ 8 (by omega) (by omega)]; exact h⟩
  · rw [dvM_3, dvM_3, e1, d p hp, d q hq]
  · rw [dvM_4, dvM_4, e j hj]
def leafV (g : Mem) (i p k : Nat) : Int32 := if canV g i p k = 0 then -(i32 1) else g.1 3 (2 * p) - CoV g i p k
theorem leafV_EW {g g' : Mem} (s : EW g g') (i p k : Nat) (hp : p < 6) (hk : k < 12) : leafV g' i p k = leafV g i p k := by
  unfold leafV; rw [canV_EW s i p k hp hk, CoV_EW s i p k hp hk, s.2.2.2.1 p hp]
def fo (ok : Nat → Nat) (f : Nat → Int32) : Nat → Nat → Int32 → Int32
  | _, 0, x => x
  | j, n + 1, x => fo ok f (j + 1) n (if ok j = 0 then x else if x < f j then f j else x)
theorem fo_sp (ok : Nat → Nat) (f : Nat → Int32) : ∀ (n j : Nat) (x : Int32), x ≤ fo ok f j n x ∧ (∀ o, j ≤ o → o < j + n → ¬ ok o = 0 → f o ≤ fo ok f j n x) ∧ (fo ok f j n x = x ∨ ∃ o, j ≤ o ∧ o < j + n ∧ ¬ ok o = 0 ∧ fo ok f j n x = f o)
  | 0, j, x => ⟨Int32.le_refl x, fun o h1 h2 => by omega, Or.inl rfl⟩
  | n + 1, j, x => by
    obtain ⟨h1, h2, h3⟩ := fo_sp ok f n (j + 1) (if ok j = 0 then x else if x < f j then f j else x)
    have hx : x ≤ (if ok j = 0 then x else if x < f j then f j else x) ∧ (¬ ok j = 0 → f j ≤ (if ok j = 0 then x else if x < f j then f j else x)) ∧ ((if ok j = 0 then x else if x < f j then f j else x) = x ∨ (¬ ok j = 0 ∧ (if ok j = 0 then x else if x < f j then f j else x) = f j)) := by
      by_cases hk : ok j = 0
      · rw [if_pos hk]; exact ⟨Int32.le_refl x, fun q => absurd hk q, Or.inl rfl⟩
      · rw [if_neg hk]
        by_cases hl : x < f j
        · rw [if_pos hl]
          exact ⟨Int32.le_of_lt hl, fun _ => Int32.le_refl _, Or.inr ⟨hk, rfl⟩⟩
        · rw [if_neg hl]
          exact ⟨Int32.le_refl x, fun _ => Int32.not_lt.mp hl, Or.inl rfl⟩
    have e : fo ok f j (n + 1) x = fo ok f (j + 1) n (if ok j = 0 then x else if x < f j then f j else x) := rfl
    rw [e]
    refine ⟨Int32.le_trans hx.1 h1, fun o ho1 ho2 hk => ?_, ?_⟩
    · by_cases hoj : o = j
      · subst hoj; exact Int32.le_trans (hx.2.1 hk) h1
      · exact h2 o (by omega) (by omega) hk
    · rcases h3 with h3 | ⟨o, o1, o2, o3, o4⟩
      · rcases hx.2.2 with q | ⟨q1, q2⟩
        · exact Or.inl (h3.trans q)
        · exact Or.inr ⟨j, Nat.le_refl j, by omega, q1, h3.trans q2⟩
      · exact Or.inr ⟨o, by omega, by omega, o3, o4⟩
theorem fo_c {ok ok' : Nat → Nat} {f f' : Nat → Int32} : ∀ (n j : Nat) (x : Int32), (∀ o, o < j + n → ok o = ok' o) → (∀ o, o < j + n → f o = f' o) → fo ok f j n x = fo ok' f' j n x
  | 0, j, x, _, _ => rfl
  | n + 1, j, x, h1, h2 => by
    rw [fo, fo, h1 j (by omega), h2 j (by omega)]
    exact fo_c n (j + 1) _ (fun o ho => h1 o (by omega)) (fun o ho => h2 o (by omega))
def okF (g : Mem) (i p k o : Nat) : Nat := if o = k then 0 else canV g i p o
def mlF (i p k : Nat) : Nat → Mem → Int32
  | 0, g => leafV g i p k
  | n + 1, g => fo (okF g i p k) (fun o => mlF i p k n (dvM g i p o)) 0 12 (-(i32 1))
def enF (i p k : Nat) : Nat → Nat → Mem → Int32
  | 0, _, g => leafV g i p k
  | n + 1, num, g => if okF g i p k (num % 12) = 0 then -(i32 1) else enF i p k n (num / 12) (dvM g i p (num % 12))
theorem okF_EW {g g' : Mem} (s : EW g g') (i p k o : Nat) (hp : p < 6) (ho : o < 12) : okF g' i p k o = okF g i p k o := by
  unfold okF; rw [canV_EW s i p o hp ho]
theorem mlF_EW {i p k : Nat} (hp : p < 6) (hk : k < 12) : ∀ (n : Nat) {g g' : Mem}, EW g g' → mlF i p k n g' = mlF i p k n g
  | 0, g, g', s => leafV_EW s i p k hp hk
  | n + 1, g, g', s => fo_c 12 0 _ (fun o ho => okF_EW s i p k o hp (by omega)) (fun o ho => mlF_EW hp hk n (dvM_EW s i p o hp (by omega)))
theorem enF_EW {i p k : Nat} (hp : p < 6) (hk : k < 12) : ∀ (n num : Nat) {g g' : Mem}, EW g g' → enF i p k n num g' = enF i p k n num g
  | 0, num, g, g', s => leafV_EW s i p k hp hk
  | n + 1, num, g, g', s => by
    have ho : num % 12 < 12 := Nat.mod_lt _ (by omega)
    rw [enF, enF, okF_EW s i p k _ hp ho, enF_EW hp hk n (num / 12) (dvM_EW s i p (num % 12) hp ho)]
theorem ml_en (i p k : Nat) : ∀ (n : Nat) (g : Mem), (∀ num, num < 12 ^ n → enF i p k n num g ≤ mlF i p k n g) ∧ ((0 < n ∧ mlF i p k n g = -(i32 1)) ∨ ∃ num, num < 12 ^ n ∧ mlF i p k n g = enF i p k n num g)
  | 0, g => ⟨fun num _ => Int32.le_refl _, Or.inr ⟨0, by decide, rfl⟩⟩
  | n + 1, g => by
    obtain ⟨f1, f2, f3⟩ := fo_sp (okF g i p k) (fun o => mlF i p k n (dvM g i p o)) 12 0 (-(i32 1))
    have hp : 12 ^ (n + 1) = 12 * 12 ^ n := by rw [Nat.pow_succ]; omega
    refine ⟨fun num hn => ?_, ?_⟩
    · have ho : num % 12 < 12 := Nat.mod_lt _ (by omega)
      have hq : num / 12 < 12 ^ n := by
        rw [Nat.div_lt_iff_lt_mul (by omega)]; omega
      rw [enF]
      by_cases hk : okF g i p k (num % 12) = 0
      · rw [if_pos hk]; exact f1
      · rw [if_neg hk]
        exact Int32.le_trans ((ml_en i p k n (dvM g i p (num % 12))).1 (num / 12) hq) (f2 (num % 12) (by omega) (by omega) hk)
    · rcases f3 with f3 | ⟨o, o1, o2, o3, o4⟩
      · exact Or.inl ⟨by omega, f3⟩
      · have e : mlF i p k (n + 1) g = mlF i p k n (dvM g i p o) := o4
        rcases (ml_en i p k n (dvM g i p o)).2 with ⟨_, h⟩ | ⟨num, h1, h2⟩
        · exact Or.inl ⟨by omega, e.trans h⟩
        · refine Or.inr ⟨o + 12 * num, by omega, ?_⟩
          have m1 : (o + 12 * num) % 12 = o := by omega
          have m2 : (o + 12 * num) / 12 = num := by omega
          rw [e, h2, enF, m1, m2, if_neg o3]
/-- the two ways come to the same -/
theorem ml_fo {i p k n : Nat} {g : Mem} (h : -(i32 1) ≤ mlF i p k n g) : fo (fun _ => 1) (fun num => enF i p k n num g) 0 (12 ^ n) (-(i32 1)) = mlF i p k n g := by
  obtain ⟨f1, f2, f3⟩ := fo_sp (fun _ => 1) (fun num => enF i p k n num g) (12 ^ n) 0 (-(i32 1))
  obtain ⟨m1, m2⟩ := ml_en i p k n g
  apply Int32.le_antisymm
  · rcases f3 with f3 | ⟨o, o1, o2, o3, o4⟩
    · rw [f3]; exact h
    · rw [o4]; exact m1 o (by omega)
  · rcases m2 with ⟨_, m2⟩ | ⟨num, h1, h2⟩
    · rw [m2]; exact f1
    · rw [h2]; exact f2 num (by omega) (by omega) (fun q => Nat.one_ne_zero q)
