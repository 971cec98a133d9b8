/-! THE PURE STATE: whole numbers by cell and place, changing references by cell; the world that shows it -/
abbrev Mem : Type := (Nat → Nat → Int32) × (Nat → Option Nat)
abbrev Lay : Type := (Nat → Nat) × (Nat → Nat) × (Nat → Nat) × (Nat → Nat → Nat) × (Nat → Nat → Nat)
def kd (Y : Lay) : Nat → Nat := Y.1
def ln (Y : Lay) : Nat → Nat := Y.2.1
def nf (Y : Lay) : Nat → Nat := Y.2.2.1
def ft (Y : Lay) : Nat → Nat → Nat := Y.2.2.2.1
def so (Y : Lay) : Nat → Nat → Nat := Y.2.2.2.2
def stI (g : Mem) (k j : Nat) (x : Int32) : Mem := (fun a => if a = k then upd (g.1 k) j x else g.1 a, g.2)
def stA (g : Mem) (k : Nat) (f : Nat → Int32) : Mem := (fun a => if a = k then f else g.1 a, g.2)
def stR (g : Mem) (k q : Nat) : Mem := (g.1, fun a => if a = k then some q else g.2 a)
def bnd {α β : Type} (x : α) (f : α → β) : β := f x
def ob {α β : Type} (x : Option (α × Mem)) (f : α → Mem → Option β) : Option β := match x with
  | some (r, g) => f r g
  | none => none
/-- the law's row of longs: place j is told at 1000 + j -/
def dL (o : Option Nat) : Int64 := match o with
  | some q => (UInt64.ofNat q).toInt64
  | none => 0
def ldL (g : Mem) (j : Nat) : Int64 := dL (g.2 (1000 + j))
def stL (g : Mem) (j : Nat) (x : Int64) : Mem := stR g (1000 + j) x.toUInt64.toNat
theorem ldL_stL (g : Mem) (i j : Nat) (x : Int64) : ldL (stL g i x) j = if j = i then x else ldL g j := by
  unfold ldL stL stR
  by_cases h : j = i
  · subst h; simp [dL]
  · simp [h]
theorem stL_1 (g : Mem) (i : Nat) (x : Int64) : (stL g i x).1 = g.1 := rfl
theorem stL_2 (g : Mem) (i k : Nat) (x : Int64) (h : k < 1000) : (stL g i x).2 k = g.2 k := by
  have : ¬ k = 1000 + i := by omega
  simp [stL, stR, this]
def fv (Y : Lay) (ad : Nat → Nat) (g : Mem) (k j : Nat) : Value := if ft Y (kd Y k - 2) j = 0 then .int (g.1 k j) else if ft Y (kd Y k - 2) j = 1 then va_rf ((g.2 k).map ad) else .ref (ad (so Y k j))
def cf (Y : Lay) (ad : Nat → Nat) (cA : Nat → ClassId) (g : Mem) (k : Nat) : va_E :=
  if kd Y k = 0 then .inl (cA k, ln Y k, .inl (g.1 k)) else if kd Y k = 1 then .inl (cA k, ln Y k, .inr (.inr (.inr (.inr (fun j => some (ad (so Y k j))))))) else if kd Y k = 9 then .inl (cA k, ln Y k, .inr (.inl (ldL g)))
  else .inr (kd Y k - 2, (List.range (nf Y (kd Y k - 2))).map (fv Y ad g k))
def wl (Y : Lay) (ad : Nat → Nat) (cA : Nat → ClassId) (n : Nat) (g : Mem) : va_W := (List.range n).map fun k => (ad k, cf Y ad cA g k)
def AA (n : Nat) (ad : Nat → Nat) (sz : Nat) : Nat → Prop := fun q => (∃ k, k < n ∧ q = ad k) ∨ sz ≤ q
def GE (Y : Lay) (ad : Nat → Nat) (cA : Nat → ClassId) (tys : List (ClassId × FieldType)) (n : Nat) : Prop :=
  (∀ i j, i < n → j < n → ad i = ad j → i = j) ∧ (∀ k, k < n → kd Y k = 0 → tys[0]? = some (cA k, .int)) ∧ (∀ k, k < n → kd Y k = 1 → ∃ (t0 : Nat) (C : String), tys[t0]? = some (cA k, FieldType.object C)) ∧ (∀ k, k < n → kd Y k = 9 → tys[3]? = some (cA k, .long)) ∧ n ≤ 1000
theorem wl_get {Y : Lay} {ad : Nat → Nat} {cA : Nat → ClassId} {n : Nat} {g : Mem} {k : Nat} (h : k < n) : (wl Y ad cA n g)[k]? = some (ad k, cf Y ad cA g k) := by
  simp [wl, h]
theorem wl_inv {Y : Lay} {ad : Nat → Nat} {cA : Nat → ClassId} {n : Nat} {g : Mem} {k : Nat} {q : Nat × va_E} (h : (wl Y ad cA n g)[k]? = some q) : k < n ∧ q = (ad k, cf Y ad cA g k) := by
  have hk : k < n := by
    have := (List.getElem?_eq_some_iff.mp h).1
    simpa [wl] using this
  rw [wl_get hk] at h
  exact ⟨hk, (Option.some.inj h).symm⟩
theorem wl_set {Y : Lay} {ad : Nat → Nat} {cA : Nat → ClassId} {n : Nat} {g g1 : Mem} {k : Nat} {e : va_E} (h1 : cf Y ad cA g1 k = e) (h2 : ∀ a, a ≠ k → cf Y ad cA g1 a = cf Y ad cA g a) : (wl Y ad cA n g).set k (ad k, e) = wl Y ad cA n g1 := by
  apply List.ext_getElem?
  intro i
  by_cases hi : i < n
  · by_cases hk : k = i
    · subst hk
      rw [List.getElem?_set_self (by simpa [wl] using hi), wl_get hi, h1]
    · rw [List.getElem?_set_ne hk, wl_get hi, wl_get hi, h2 i (fun z => hk z.symm)]
  · rw [List.getElem?_eq_none (by simp [wl]; omega), List.getElem?_eq_none (by simp [wl]; omega)]
theorem wl_D {Y : Lay} {ad : Nat → Nat} {cA : Nat → ClassId} {tys : List (ClassId × FieldType)} {n sz : Nat} {g : Mem} (h : GE Y ad cA tys n) : va_D (AA n ad sz) (wl Y ad cA n g) := by
  refine ⟨fun i j p q hi hj hpq => ?_, fun k q hk => ?_⟩
  · obtain ⟨h1, rfl⟩ := wl_inv hi
    obtain ⟨h2, rfl⟩ := wl_inv hj
    exact h.1 i j h1 h2 hpq
  · obtain ⟨h1, rfl⟩ := wl_inv hk
    exact Or.inl ⟨k, h1, rfl⟩
theorem cl_lt {ci : Nat} {q : vw_C} (h : vwCl[ci]? = some q) : ¬ ci + 2 = 9 := by
  have h1 : ci < 7 := (List.getElem?_eq_some_iff.mp h).1
  omega
theorem cf_ne {Y : Lay} {ad : Nat → Nat} {cA : Nat → ClassId} {g g1 : Mem} {a : Nat} (h1 : g1.1 a = g.1 a) (h2 : g1.2 a = g.2 a) (h3 : ldL g1 = ldL g) : cf Y ad cA g1 a = cf Y ad cA g a := by
  have : fv Y ad g1 a = fv Y ad g a := by
    funext j
    simp [fv, h1, h2]
  simp [cf, this, h1, h3]
theorem range_set {α : Type} (f g : Nat → α) (N j : Nat) (hj : ∀ i, i ≠ j → g i = f i) : ((List.range N).map f).set j (g j) = (List.range N).map g := by
  apply List.ext_getElem?
  intro i
  by_cases hi : i < N
  · by_cases hk : j = i
    · subst hk
      rw [List.getElem?_set_self (by simpa using hi)]
      simp [hi]
    · rw [List.getElem?_set_ne hk]
      simp [hi, hj i (fun z => hk z.symm)]
  · rw [List.getElem?_eq_none (by simp; omega), List.getElem?_eq_none (by simp; omega)]
/-- an object of class ci at cell k; an int array of L places at cell q -/
def OB (Y : Lay) (n k ci : Nat) : Prop := k < n ∧ kd Y k = ci + 2
def IA (Y : Lay) (n q L : Nat) : Prop := q < n ∧ kd Y q = 0 ∧ ln Y q = L
theorem cf_ob {Y : Lay} {ad : Nat → Nat} {cA : Nat → ClassId} {n : Nat} {g : Mem} {k ci N : Nat} (o : OB Y n k ci) (h9 : ¬ ci + 2 = 9) (hN : nf Y ci = N) : cf Y ad cA g k = .inr (ci, (List.range N).map (fv Y ad g k)) := by
  have h := o.2
  have h7 : ¬ ci = 7 := by omega
  simp [cf, h, hN, h7]
theorem cf_ia {Y : Lay} {ad : Nat → Nat} {cA : Nat → ClassId} {n : Nat} {g : Mem} {q L : Nat} (o : IA Y n q L) : cf Y ad cA g q = .inl (cA q, L, .inl (g.1 q)) := by
  simp [cf, o.2.1, o.2.2]
/-- a row of L longs at cell q -/
def LA (Y : Lay) (n q L : Nat) : Prop := q < n ∧ kd Y q = 9 ∧ ln Y q = L
theorem cf_la {Y : Lay} {ad : Nat → Nat} {cA : Nat → ClassId} {n : Nat} {g : Mem} {q L : Nat} (o : LA Y n q L) : cf Y ad cA g q = .inl (cA q, L, .inr (.inl (ldL g))) := by
  simp [cf, o.2.1, o.2.2]
theorem wl_stL {Y : Lay} {ad : Nat → Nat} {cA : Nat → ClassId} {n : Nat} {g : Mem} {q L i : Nat} {x : Int64} (h1 : n ≤ 1000) (o : LA Y n q L) (ho : ∀ a, a < n → kd Y a = 9 → a = q) : (wl Y ad cA n g).set q (ad q, .inl (cA q, L, .inr (.inl (vp_updL (ldL g) i x)))) = wl Y ad cA n (stL g i x) := by
  apply List.ext_getElem?
  intro a
  by_cases ha : a < n
  · by_cases hk : q = a
    · subst hk
      rw [List.getElem?_set_self (by simpa [wl] using ha), wl_get ha, cf_la o]
      have e9 : vp_updL (ldL g) i x = ldL (stL g i x) := by
        funext j
        rw [ldL_stL]
        rfl
      rw [e9]
    · rw [List.getElem?_set_ne hk, wl_get ha, wl_get ha]
      have h9 : ¬ kd Y a = 9 := fun z => hk (ho a ha z).symm
      have h2 : (stL g i x).2 a = g.2 a := stL_2 _ _ _ _ (by omega)
      have h3 : fv Y ad (stL g i x) a = fv Y ad g a := by
        funext j
        simp [fv, stL_1, h2]
      congr 2
      simp [cf, h9, h3, stL_1]
  · rw [List.getElem?_eq_none (by simp [wl]; omega), List.getElem?_eq_none (by simp [wl]; omega)]
theorem wl_stI {Y : Lay} {ad : Nat → Nat} {cA : Nat → ClassId} {n : Nat} {g : Mem} {k ci N j : Nat} {x : Int32} (o : OB Y n k ci) (h9 : ¬ ci + 2 = 9) (hN : nf Y ci = N) (hf : ft Y ci j = 0) : (wl Y ad cA n g).set k (ad k, .inr (ci, ((List.range N).map (fv Y ad g k)).set j (.int x))) = wl Y ad cA n (stI g k j x) := by
  refine wl_set ?_ (fun a ha => cf_ne (by simp [stI, ha]) rfl rfl)
  have hk := o.2
  rw [cf_ob o h9 hN, ← range_set (fv Y ad g k) (fv Y ad (stI g k j x) k) N j (fun i hi => ?_)]
  · congr 2
    simp [fv, hk, hf, stI, upd]
  · simp [fv, stI, upd, hi]
theorem wl_stR {Y : Lay} {ad : Nat → Nat} {cA : Nat → ClassId} {n : Nat} {g : Mem} {k ci N j q : Nat} (o : OB Y n k ci) (h9 : ¬ ci + 2 = 9) (hk1 : k < 1000) (hN : nf Y ci = N) (hf : ft Y ci j = 1) (hu : ∀ i, i < N → ft Y ci i = 1 → i = j) : (wl Y ad cA n g).set k (ad k, .inr (ci, ((List.range N).map (fv Y ad g k)).set j (.ref (ad q)))) = wl Y ad cA n (stR g k q) := by
  refine wl_set ?_ (fun a ha => cf_ne rfl (by simp [stR, ha]) (by funext i; simp only [ldL, stR]; rw [if_neg (by omega)]))
  have hk := o.2
  rw [cf_ob o h9 hN]
  have h1 : (List.range N).map (fv Y ad (stR g k q) k) = (List.range N).map (fun i => if i = j then Value.ref (ad q) else fv Y ad g k i) := by
    refine List.map_congr_left (fun i hi => ?_)
    have hi' : i < N := List.mem_range.mp hi
    by_cases hij : i = j
    · subst hij
      simp [fv, hk, hf, stR, va_rf]
    · have : ft Y ci i ≠ 1 := fun z => hij (hu i hi' z)
      simp [fv, hk, stR, hij, this]
  rw [h1, ← range_set (fv Y ad g k) _ N j (fun i hi => by simp [hi])]
  simp
theorem wl_stA {Y : Lay} {ad : Nat → Nat} {cA : Nat → ClassId} {n : Nat} {g : Mem} {q L : Nat} {f : Nat → Int32} (o : IA Y n q L) : (wl Y ad cA n g).set q (ad q, .inl (cA q, L, .inl f)) = wl Y ad cA n (stA g q f) := by
  refine wl_set ?_ (fun a ha => cf_ne (by simp [stA, ha]) rfl rfl)
  rw [cf_ia o]
  simp [stA]
/-! what stands beside the world: static rows, the ten texts of the class and the law (and one made), the script -/
def tx0 : String := "reaches breath ; costs deep * 2 ; fades 3 ; "
def tx1 : String := "reaches costs fades and or not breath deep strong sort hour more "
def txL : Nat → String := fun i => (["reaches breath-", "+(sort<", ")*", ";costs deep+", "-(strong<", ")*4;fades ", "+sort*", "+(strong<hour);"] : List String).getD i ""
def ixL : Nat → Nat := fun i => ([66, 78, 80, 82, 84, 86, 88, 90] : List Nat).getD i 0
def txB (s : String) : List Int32 := s.toList.map (fun c => Int32.ofNat c.toNat)
def bytJS : List (List Int32) := [txB tx0, txB tx1, txB (txL 0), txB (txL 1), txB (txL 2), txB (txL 3), txB (txL 4), txB (txL 5), txB (txL 6), txB (txL 7)]
def fCM : Nat → Int32 := fun j => ([5, 99, 99, 2] : List Int32).getD j 0
def fD1 : Nat → Int32 := fun j => Int32.ofNat (48 + j % 10)
def fDX : Nat → Int32 := fun j => Int32.ofNat (48 + j / 10)
abbrev Zs : Type := Nat × (Nat → Int32)
abbrev SA : Type := (Nat → Nat) × List (List Int32) × Zs
def NX (s : State) : Prop := va_AO RX4 s ∧ va_AO RX2 s ∧ va_Nw (.methodLinkNest RX5 9 yX3_init RX5) s ∧ va_Nw (.methodLinkNest RX5 31 yX2_init RX5) s
theorem NX.warm {s U : State} (hW : s.WarmedH U.vm) (h : NX s) : NX U := ⟨va_AO.moved hW.alike h.1, va_AO.moved hW.alike h.2.1, va_Nw.warmM hW h.2.2.1, va_Nw.warmM hW h.2.2.2⟩
theorem NX.same {u U : State} (hv : U.vm = u.vm) (h : NX u) : NX U := by
  have hal : u.vm.Alike U.vm := by rw [hv]; exact Vm.Alike.refl _
  exact ⟨va_AO.moved hal h.1, va_AO.moved hal h.2.1, va_Nw.same rfl hv.symm h.2.2.1, va_Nw.same rfl hv.symm h.2.2.2⟩
def EX2 (sa : SA) (A : Nat → Prop) (U : State) (H : Heap) : Prop :=
  va_Z "java/lang/Integer" "DigitTens" "[B" (.ref (sa.1 2)) A U H ∧ va_T .byte (sa.1 2) 100 (fun j => .int (fDX j)) A U H ∧ va_T .int (sa.1 3) sa.2.2.1 (fun j => .int (sa.2.2.2 j)) A U H ∧
  (∀ i, i < 8 → vk_R "SalvageOfDaysLaw" (ixL i) (txL i) (sa.1 (14 + 2 * i)) U) ∧ (∀ i, i < 10 → sa.2.1[i]? = bytJS[i]?) ∧ sa.2.2.1 ≤ 260 ∧ NX U
def EX (sa : SA) (A : Nat → Prop) (U : State) (H : Heap) : Prop :=
  va_Z "SalvageOfDays" "CASK_MOST" "[I" (.ref (sa.1 0)) A U H ∧ va_T .int (sa.1 0) 4 (fun j => .int (fCM j)) A U H ∧ va_Z "java/lang/Integer" "DigitOnes" "[B" (.ref (sa.1 1)) A U H ∧ va_T .byte (sa.1 1) 100 (fun j => .int (fD1 j)) A U H ∧
  va_Z "java/lang/String" "COMPACT_STRINGS" "Z" (.int 1) A U H ∧ vk_S sa.2.1.length (sa.2.1.map List.length) sa.2.1 (fun i => sa.1 (10 + 2 * i)) (fun i => sa.1 (11 + 2 * i)) A U H ∧ va_Zq "jdk/internal/util/Preconditions" "SIOOBE_FORMATTER" "Ljava/util/function/BiFunction;" A U H ∧
  vk_R "SalvageOfDays" 32 tx0 (sa.1 10) U ∧ vk_R "SalvageOfDays$Tape" 103 tx1 (sa.1 12) U ∧
  va_Nw (.methodLinkNest "SalvageOfDays$Scene" 131 ⟨"SalvageOfDays", "isSort", "(I)Z"⟩ "SalvageOfDays") U ∧ EX2 sa A U H
theorem EX2.call {sa : SA} {A B : Nat → Prop} {s U : State} {H : Heap} {locs : List Loc} (h : EX2 sa A s s.heap) (hS : va_S A s.heap H locs) (hU : U.heap = H) (hW : s.WarmedH U.vm) (hAB : ∀ q, B q → A q) : EX2 sa B U U.heap := by
  obtain ⟨h1, h2, h3, h4, h5, h6, h7⟩ := h
  rw [hU]
  exact ⟨((h1.kept hS.2.1).moved hW.alike).narrow hAB, ((h2.kept hS.2.1).moved hW.alike).narrow hAB, ((h3.kept hS.2.1).moved hW.alike).narrow hAB, fun i hi => (h4 i hi).warm hW, h5, h6, h7.warm hW⟩
theorem EX2.same {sa : SA} {A : Nat → Prop} {u U : State} (hv : U.vm = u.vm) (hh : U.heap = u.heap) (h : EX2 sa A u u.heap) : EX2 sa A U U.heap := by
  obtain ⟨h1, h2, h3, h4, h5, h6, h7⟩ := h
  have hal : u.vm.Alike U.vm := by rw [hv]; exact Vm.Alike.refl _
  rw [hh]
  exact ⟨h1.moved hal, h2.moved hal, h3.moved hal, fun i hi => (h4 i hi).same hv, h5, h6, h7.same hv⟩
theorem EX.call {sa : SA} {A B : Nat → Prop} {s U : State} {H : Heap} {locs : List Loc} (h : EX sa A s s.heap) (hS : va_S A s.heap H locs) (hU : U.heap = H) (hW : s.WarmedH U.vm) (hAB : ∀ q, B q → A q) : EX sa B U U.heap := by
  obtain ⟨h1, h2, h3, h4, h5, h6, hz, h7, h8, h9, h10⟩ := h
  subst hU
  exact ⟨((h1.kept hS.2.1).moved hW.alike).narrow hAB, ((h2.kept hS.2.1).moved hW.alike).narrow hAB, ((h3.kept hS.2.1).moved hW.alike).narrow hAB, ((h4.kept hS.2.1).moved hW.alike).narrow hAB, ((h5.kept hS.2.1).moved hW.alike).narrow hAB, ((h6.kept hS.2.1).moved hW.alike).narrow hAB, ((hz.kept hS.2.1).moved hW.alike).narrow hAB, h7.warm hW, h8.warm hW, va_Nw.warmM hW h9, h10.call hS rfl hW hAB⟩
theorem EX.same {sa : SA} {A : Nat → Prop} {u U : State} (hv : U.vm = u.vm) (hh : U.heap = u.heap) (h : EX sa A u u.heap) : EX sa A U U.heap := by
  obtain ⟨h1, h2, h3, h4, h5, h6, hz, h7, h8, h9, h10⟩ := h
  have hal : u.vm.Alike U.vm := by rw [hv]; exact Vm.Alike.refl _
  rw [hh]
  exact ⟨h1.moved hal, h2.moved hal, h3.moved hal, h4.moved hal, h5.moved hal, h6.moved hal, hz.moved hal, h7.same hv, h8.same hv, va_Nw.same rfl hv.symm h9, by have := h10.same hv hh; rwa [hh] at this⟩
/-! CONTRACTS: the whole world in, the whole world out -/
def rmk (k : Nat) : Room := { frames := k, cells := 0, slots := 0, locals := 40 * k }
def wsm (y : MethodName) (cc : ByteArray) (maxL : Nat) (ret : Option FieldType) : List Cond := .code y cc maxL ret :: TT
def PRE (D : va_G) (Y : Lay) (ad : Nat → Nat) (cA : Nat → ClassId) (tys : List (ClassId × FieldType)) (n : Nat) (sa : SA) (g : Mem) (av : List Value) (sz : Nat) : Array Value → State → Prop :=
  va_Pc av (fun U => U.heap.size = sz ∧ va_P D vwCl (wl Y ad cA n g) U.heap ∧ va_K D vwCl tys U ∧ GE Y ad cA tys n ∧ EX sa (AA n ad sz) U U.heap)
def PBi (D : va_G) (Y : Lay) (ad : Nat → Nat) (cA : Nat → ClassId) (n : Nat) (r : Int32) (g1 : Mem) (sz : Nat) : Array Value → State → Outcome → State → Prop :=
  va_Qi (fun (r2 : Int32) (_ : Unit) => r2 = r) (fun _ t => va_P D vwCl (wl Y ad cA n g1) t.heap) (AA n ad sz)
def PBl (D : va_G) (Y : Lay) (ad : Nat → Nat) (cA : Nat → ClassId) (n : Nat) (r : Int64) (g1 : Mem) (sz : Nat) : Array Value → State → Outcome → State → Prop :=
  va_Ql (fun (r2 : Int64) (_ : Unit) => r2 = r) (fun _ t => va_P D vwCl (wl Y ad cA n g1) t.heap) (AA n ad sz)
def PBv (D : va_G) (Y : Lay) (ad : Nat → Nat) (cA : Nat → ClassId) (n : Nat) (g1 : Mem) (sz : Nat) : Array Value → State → Outcome → State → Prop :=
  va_Qv (fun (_ : Unit) => True) (fun _ t => va_P D vwCl (wl Y ad cA n g1) t.heap) (AA n ad sz)
def PBq (D : va_G) (Y : Lay) (ad : Nat → Nat) (cA : Nat → ClassId) (n : Nat) (r : Nat) (g1 : Mem) (sz : Nat) : Array Value → State → Outcome → State → Prop :=
  va_Qr (fun (_ : Unit) => True) (fun _ a t => a = ad r ∧ va_P D vwCl (wl Y ad cA n g1) t.heap) (AA n ad sz)
def CTi (l : Launch) (y : MethodName) (ws : List Cond) (rk : Nat) (D : va_G) (Y : Lay) (ad : Nat → Nat) (cA : Nat → ClassId) (tys : List (ClassId × FieldType)) (n : Nat) (sa : SA) (g : Mem) (av : List Value) (r : Int32) (g1 : Mem) : Prop :=
  ∀ sz, Met l y ws (rmk rk) (PRE D Y ad cA tys n sa g av sz) (PBi D Y ad cA n r g1 sz) 0 0 (AA n ad sz)
def CTl (l : Launch) (y : MethodName) (ws : List Cond) (rk : Nat) (D : va_G) (Y : Lay) (ad : Nat → Nat) (cA : Nat → ClassId) (tys : List (ClassId × FieldType)) (n : Nat) (sa : SA) (g : Mem) (av : List Value) (r : Int64) (g1 : Mem) : Prop :=
  ∀ sz, Met l y ws (rmk rk) (PRE D Y ad cA tys n sa g av sz) (PBl D Y ad cA n r g1 sz) 0 0 (AA n ad sz)
def CTv (l : Launch) (y : MethodName) (ws : List Cond) (rk : Nat) (D : va_G) (Y : Lay) (ad : Nat → Nat) (cA : Nat → ClassId) (tys : List (ClassId × FieldType)) (n : Nat) (sa : SA) (g : Mem) (av : List Value) (g1 : Mem) : Prop :=
  ∀ sz, Met l y ws (rmk rk) (PRE D Y ad cA tys n sa g av sz) (PBv D Y ad cA n g1 sz) 0 0 (AA n ad sz)
def CTq (l : Launch) (y : MethodName) (ws : List Cond) (rk : Nat) (D : va_G) (Y : Lay) (ad : Nat → Nat) (cA : Nat → ClassId) (tys : List (ClassId × FieldType)) (n : Nat) (sa : SA) (g : Mem) (av : List Value) (r : Nat) (g1 : Mem) : Prop :=
  ∀ sz, Met l y ws (rmk rk) (PRE D Y ad cA tys n sa g av sz) (PBq D Y ad cA n r g1 sz) 0 0 (AA n ad sz)
/-- what stays the same while a method runs -/
def CX (p : Program) (R : Room) (s : State) (m : MethodId) (args : Array Value) (meth : Method) (c : Code) (cc : ByteArray) (nL : Nat) (own : String) (rk : Nat) (D : va_G) (Y : Lay) (ad : Nat → Nat) (cA : Nat → ClassId) (tys : List (ClassId × FieldType)) (n : Nat) (sa : SA) : Prop :=
  p.tables.exec = Jvm.exec ∧ c.code = cc ∧ c.maxLocals = nL ∧ s.vm.findClass own = some m.cls ∧ (∀ w ∈ TT, w.before args s = true) ∧ va_K D vwCl tys s ∧ GE Y ad cA tys n ∧ EX sa (AA n ad s.heap.size) s s.heap ∧ (rk ≤ R.frames ∧ 40 * rk ≤ R.locals) ∧ meth.locks = false
/-- the machine at pc, with these locals and this stack, in a world that shows g, comes to Q -/
def WW (p : Program) (l : Launch) (e : Env) (R : Room) (s : State) (m : MethodId) (args : Array Value) (below : List Frame) (meth : Method) (c : Code) (nL : Nat) (D : va_G) (Y : Lay) (ad : Nat → Nat) (cA : Nat → ClassId) (n : Nat) (Q : State → Prop) (g : Mem) (pc : Nat) (lv : List (Nat × Value)) (st : List Value) : Prop :=
  ∀ (H : Heap) (locs : List Loc) (ls : Array Slot) (cells slots : Nat), ((cells ≤ R.cells ∧ slots ≤ R.slots) ∧ 2 * cells ≤ R.cells ∧ 2 * slots ≤ R.slots) → va_P D vwCl (wl Y ad cA n g) H → va_S (AA n ad s.heap.size) s.heap H locs → lv_has ls nL lv → W p l e R s m args below meth c H locs cells slots Q (F0 m pc ls st)
section CT
variable {l : Launch} {y : MethodName} {rk : Nat} {D : va_G} {Y : Lay} {ad : Nat → Nat} {cA : Nat → ClassId} {tys : List (ClassId × FieldType)} {n : Nat} {sa : SA} {g g1 : Mem} {av : List Value} {cc : ByteArray} {maxL : Nat} {ret : Option FieldType} {lv0 : List (Nat × Value)}
theorem ct_of (own : String) (hown : y.cls = own) (hy : plainName y.cls = true) (hlen : (lg_sl av).length ≤ maxL) (h0 : lv_args 0 av = lv0) (Qc : Nat → Array Value → State → Outcome → State → Prop)
    (body : ∀ (p : Program) (e : Env) (R : Room) (s : State) (m : MethodId) (args : Array Value) (below : List Frame) (meth : Method) (c : Code), CX p R s m args meth c cc maxL own rk D Y ad cA tys n sa → (meth.sig.returnType = ret ∧ R.cells = 0 ∧ R.slots = 0) → WW p l e R s m args below meth c maxL D Y ad cA n (MQ below (Qc s.heap.size) args s 0 0 (AA n ad s.heap.size)) g 0 lv0 []) :
    ∀ sz, Met l y (wsm y cc maxL ret) (rmk rk) (PRE D Y ad cA tys n sa g av sz) (Qc sz) 0 0 (AA n ad sz) := by
  intro sz
  refine Met.ofW (cc := cc) (maxL := maxL) (ret := ret) hy rfl ?_
  intro p e s m args below meth c s₁ B hml hv
  obtain ⟨rfl, hsz, hP, hK, hG, hE⟩ := hv
  subst hsz
  have hts := atoms_spec (ws := wsm y cc maxL ret) B.pre
  have hown' : s.vm.findClass own = some m.cls := hown ▸ findClass_of_methodNamed B.named
  have C : CX p (headSpec (wsm y cc maxL ret) (rmk rk)).room s m av.toArray meth c cc maxL own rk D Y ad cA tys n sa := ⟨B.exec, B.bytes, hml, hown', fun w hw => hts w (List.mem_cons_of_mem _ hw), hK, hG, hE, ⟨Nat.le_refl _, Nat.le_refl _⟩, B.notSynchronized⟩
  have hl := lv_entry av (n := maxL) hlen
  rw [h0] at hl
  rw [lg_entry_eq]
  exact body p e _ s m av.toArray below meth c C ⟨B.returns, rfl, rfl⟩ s.heap [] _ 0 0 ⟨⟨Nat.le_refl _, Nat.le_refl _⟩, Nat.le_refl _, Nat.le_refl _⟩ hP va_S.rf hl
end CT
def oT {β : Type} (T0 : Nat → Prop) [DecidablePred T0] (o : Option Nat) (f : Nat → Option β) : Option β := match o with
  | some q => if T0 q then f q else none
  | none => none
theorem oT_some {β : Type} {T0 : Nat → Prop} {dT : DecidablePred T0} {o : Option Nat} {f : Nat → Option β} {R1 : β} (h : oT T0 o f = some R1) : ∃ q, o = some q ∧ T0 q ∧ f q = some R1 := by
  cases o with
  | none => cases h
  | some q =>
    by_cases hq : T0 q
    · exact ⟨q, rfl, hq, by simpa [oT, hq] using h⟩
    · simp [oT, hq] at h
theorem ob_some {α β : Type} {F : Option (α × Mem)} {f : α → Mem → Option β} {R1 : β} (h : ob F f = some R1) : ∃ r g1, F = some (r, g1) ∧ f r g1 = some R1 := by
  cases F with
  | none => cases h
  | some x => exact ⟨x.1, x.2, rfl, h⟩
abbrev isB (v : Int32) : Prop := v = 0 ∨ v = 1
abbrev cpOk (sp dp z : Int32) (L0 L1 : Nat) : Prop := ¬ sp < 0 ∧ ¬ dp < 0 ∧ ¬ z < 0 ∧ sp.toNatClampNeg + z.toNatClampNeg ≤ L0 ∧ dp.toNatClampNeg + z.toNatClampNeg ≤ L1
theorem AA_sub {n : Nat} {ad : Nat → Nat} {a b q : Nat} (h : a ≤ b) (hq : AA n ad b q) : AA n ad a q := hq.elim Or.inl (fun z => Or.inr (Nat.le_trans h z))
theorem PRE_blind {D : va_G} {Y : Lay} {ad : Nat → Nat} {cA : Nat → ClassId} {tys : List (ClassId × FieldType)} {n : Nat} {sa : SA} {g : Mem} {av : List Value} {sz : Nat} : FrameBlind (PRE D Y ad cA tys n sa g av sz) := by
  intro a U fr mk h
  obtain ⟨h1, h2, h3, h4, h5, h6⟩ := h
  exact ⟨h1, h2, h3, va_K.moved (u := U) (U := U.calling fr mk a) (Vm.Alike.refl U.vm) h4, h5, by
    have := EX.same (u := U) (U := U.calling fr mk a) (A := AA n ad sz) rfl rfl (by exact h6)
    exact this⟩
/-- what a call wants of the tables: a static method; an instance method of class Cn -/
def CS (y : MethodName) (cy : ByteArray) (mL : Nat) (ret : Option FieldType) (nA : Nat) : Prop := Cond.static y ∈ TT ∧ Cond.initialized y.cls ∈ TT ∧ Cond.code y cy mL ret ∈ TT ∧ (y.cls ≠ "java/lang/invoke/MethodHandle" ∧ y.cls ≠ "java/lang/invoke/VarHandle" ∧ (parseMethodDescriptor y.desc).map (fun d => d.parameters.length) = some nA)
def CV (Cn : String) (y : MethodName) (cy : ByteArray) (mL : Nat) (ret : Option FieldType) (nA : Nat) : Prop := Cond.instanceMethod y ∈ TT ∧ Cond.selects Cn y y ∈ TT ∧ Cond.initialized Cn ∈ TT ∧ Cond.code y cy mL ret ∈ TT ∧ (y.cls = Cn ∧ y.cls ≠ "java/lang/invoke/MethodHandle" ∧ y.cls ≠ "java/lang/invoke/VarHandle" ∧ (parseMethodDescriptor y.desc).map (fun d => d.parameters.length) = some nA)
theorem gM {y : MethodName} {cy : ByteArray} {mL : Nat} {ret : Option FieldType} (w : Cond.code y cy mL ret ∈ TT) : GoodIn TT (wsm y cy mL ret) := fun x hx => (List.mem_cons.mp hx).elim (fun e => by subst e; exact TT_good _ w) (fun h => TT_good _ h)
theorem gS {own : String} {ix : Nat} {y : MethodName} {cy : ByteArray} {mL : Nat} {ret : Option FieldType} {nA : Nat} (w1 : Cond.methodLink own ix y ∈ TT) (w2 : CS y cy mL ret nA) : GoodIn TT (va_wsS own ix y (wsm y cy mL ret)) := by
  intro x hx
  unfold va_wsS at hx
  rcases List.mem_append.mp hx with h | h
  · simp only [List.mem_cons, List.not_mem_nil, or_false] at h
    rcases h with rfl | rfl | rfl
    · exact TT_good _ w1
    · exact TT_good _ w2.1
    · exact TT_good _ w2.2.1
  · exact gM w2.2.2.1 x h
theorem gV {own Cn : String} {ix : Nat} {y : MethodName} {cy : ByteArray} {mL : Nat} {ret : Option FieldType} {nA : Nat} (w1 : Cond.methodLink own ix y ∈ TT) (w2 : CV Cn y cy mL ret nA) : GoodIn TT (wsV own ix Cn y (wsm y cy mL ret)) := by
  intro x hx
  unfold wsV at hx
  rcases List.mem_append.mp hx with h | h
  · simp only [List.mem_cons, List.not_mem_nil, or_false] at h
    rcases h with rfl | rfl | rfl | rfl
    · exact TT_good _ w1
    · exact TT_good _ w2.1
    · exact TT_good _ w2.2.1
    · exact TT_good _ w2.2.2.1
  · exact gM w2.2.2.2.1 x h
section WWR
variable {p : Program} {l : Launch} {e : Env} {R : Room} {s : State} {m : MethodId} {args : Array Value} {below : List Frame} {meth : Method} {c : Code} {cc : ByteArray} {nL : Nat} {own : String} {rk : Nat} {D : va_G} {Y : Lay} {ad : Nat → Nat} {cA : Nat → ClassId} {tys : List (ClassId × FieldType)} {n : Nat} {sa : SA} {Q : State → Prop} {g : Mem} {pc pc2 : Nat} {lv lv' : List (Nat × Value)} {st : List Value}
theorem ww_iconst (C : CX p R s m args meth c cc nL own rk D Y ad cA tys n sa) {z : Int} (v : Int32) (d : decode cc pc = .ok (.iconst z, 1)) (hv : Int32.ofInt z = v) (pc2 : Nat) (e2 : pc + 1 = pc2) (k : WW p l e R s m args below meth c nL D Y ad cA n Q g pc2 lv (.int v :: st)) : WW p l e R s m args below meth c nL D Y ad cA n Q g pc lv st := by
  subst e2; exact fun H locs ls cells slots hcz hP hS hl => lv_iconst C.1 C.2.1 d hv (k H locs ls cells slots hcz hP hS hl)
theorem ww_bipush (C : CX p R s m args meth c cc nL own rk D Y ad cA tys n sa) {z : Int} (v : Int32) (d : decode cc pc = .ok (.bipush z, 2)) (hv : (Int8.ofInt z).toInt32 = v) (pc2 : Nat) (e2 : pc + 2 = pc2) (k : WW p l e R s m args below meth c nL D Y ad cA n Q g pc2 lv (.int v :: st)) : WW p l e R s m args below meth c nL D Y ad cA n Q g pc lv st := by
  subst e2; exact fun H locs ls cells slots hcz hP hS hl => lv_bipush C.1 C.2.1 d hv (k H locs ls cells slots hcz hP hS hl)
theorem ww_sipush (C : CX p R s m args meth c cc nL own rk D Y ad cA tys n sa) {z : Int} (v : Int32) (d : decode cc pc = .ok (.sipush z, 3)) (hv : (Int16.ofInt z).toInt32 = v) (pc2 : Nat) (e2 : pc + 3 = pc2) (k : WW p l e R s m args below meth c nL D Y ad cA n Q g pc2 lv (.int v :: st)) : WW p l e R s m args below meth c nL D Y ad cA n Q g pc lv st := by
  subst e2; exact fun H locs ls cells slots hcz hP hS hl => lv_sipush C.1 C.2.1 d hv (k H locs ls cells slots hcz hP hS hl)
theorem ww_lconst (C : CX p R s m args meth c cc nL own rk D Y ad cA tys n sa) {z : Fin 2} (v : Int64) (d : decode cc pc = .ok (.lconst z, 1)) (hv : Int64.ofNat (z : Nat) = v) (pc2 : Nat) (e2 : pc + 1 = pc2) (k : WW p l e R s m args below meth c nL D Y ad cA n Q g pc2 lv (.long v :: st)) : WW p l e R s m args below meth c nL D Y ad cA n Q g pc lv st := by
  subst e2; exact fun H locs ls cells slots hcz hP hS hl => lv_lconst C.1 C.2.1 d hv (k H locs ls cells slots hcz hP hS hl)
theorem ww_ldc (C : CX p R s m args meth c cc nL own rk D Y ad cA tys n sa) {ix : Nat} (v : Int32) (w : Cond.constant own ix v ∈ TT) (d : decode cc pc = .ok (.ldc ix, 2)) (pc2 : Nat) (e2 : pc + 2 = pc2) (k : WW p l e R s m args below meth c nL D Y ad cA n Q g pc2 lv (.int v :: st)) : WW p l e R s m args below meth c nL D Y ad cA n Q g pc lv st := by
  subst e2; exact fun H locs ls cells slots hcz hP hS hl => lv_ldc C.1 C.2.1 C.2.2.2.1 (C.2.2.2.2.1 _ w) d (k H locs ls cells slots hcz hP hS hl)
theorem ww_ldcw (C : CX p R s m args meth c cc nL own rk D Y ad cA tys n sa) {ix : Nat} (v : Int32) (w : Cond.constant own ix v ∈ TT) (d : decode cc pc = .ok (.ldc_w ix, 3)) (pc2 : Nat) (e2 : pc + 3 = pc2) (k : WW p l e R s m args below meth c nL D Y ad cA n Q g pc2 lv (.int v :: st)) : WW p l e R s m args below meth c nL D Y ad cA n Q g pc lv st := by
  subst e2; exact fun H locs ls cells slots hcz hP hS hl => lv_ldcw C.1 C.2.1 C.2.2.2.1 (C.2.2.2.2.1 _ w) d (k H locs ls cells slots hcz hP hS hl)
theorem ww_ldc2 (C : CX p R s m args meth c cc nL own rk D Y ad cA tys n sa) {ix : Nat} (v : Int64) (w : Cond.constantLong own ix v ∈ TT) (d : decode cc pc = .ok (.ldc2_w ix, 3)) (pc2 : Nat) (e2 : pc + 3 = pc2) (k : WW p l e R s m args below meth c nL D Y ad cA n Q g pc2 lv (.long v :: st)) : WW p l e R s m args below meth c nL D Y ad cA n Q g pc lv (st) := by
  subst e2; exact fun H locs ls cells slots hcz hP hS hl => lv_ldc2 C.1 C.2.1 C.2.2.2.1 (C.2.2.2.2.1 _ w) d (k H locs ls cells slots hcz hP hS hl)
theorem ww_iload_n (C : CX p R s m args meth c cc nL own rk D Y ad cA tys n sa) {kk : Fin 4} {i : Nat} {x : Int32} (pl : Nat) (d : decode cc pc = .ok (.iload_n kk, 1)) (hi : (kk : Nat) = i) (hk : lv[pl]? = some (i, .int x)) (pc2 : Nat) (e2 : pc + 1 = pc2) (k : WW p l e R s m args below meth c nL D Y ad cA n Q g pc2 lv (.int x :: st)) : WW p l e R s m args below meth c nL D Y ad cA n Q g pc lv (st) := by
  subst e2; exact fun H locs ls cells slots hcz hP hS hl => lv_iload_n C.1 C.2.1 d hi (lv_at hl pl hk) (k H locs ls cells slots hcz hP hS hl)
theorem ww_iload (C : CX p R s m args meth c cc nL own rk D Y ad cA tys n sa) {i : Nat} {x : Int32} (pl : Nat) (d : decode cc pc = .ok (.iload i, 2)) (hk : lv[pl]? = some (i, .int x)) (pc2 : Nat) (e2 : pc + 2 = pc2) (k : WW p l e R s m args below meth c nL D Y ad cA n Q g pc2 lv (.int x :: st)) : WW p l e R s m args below meth c nL D Y ad cA n Q g pc lv (st) := by
  subst e2; exact fun H locs ls cells slots hcz hP hS hl => lv_iload C.1 C.2.1 d (lv_at hl pl hk) (k H locs ls cells slots hcz hP hS hl)
theorem ww_lload_n (C : CX p R s m args meth c cc nL own rk D Y ad cA tys n sa) {kk : Fin 4} {i : Nat} {x : Int64} (pl : Nat) (d : decode cc pc = .ok (.lload_n kk, 1)) (hi : (kk : Nat) = i) (hk : lv[pl]? = some (i, .long x)) (pc2 : Nat) (e2 : pc + 1 = pc2) (k : WW p l e R s m args below meth c nL D Y ad cA n Q g pc2 lv (.long x :: st)) : WW p l e R s m args below meth c nL D Y ad cA n Q g pc lv (st) := by
  subst e2; exact fun H locs ls cells slots hcz hP hS hl => lv_lload_n C.1 C.2.1 d hi (lv_at hl pl hk) (k H locs ls cells slots hcz hP hS hl)
theorem ww_lload (C : CX p R s m args meth c cc nL own rk D Y ad cA tys n sa) {i : Nat} {x : Int64} (pl : Nat) (d : decode cc pc = .ok (.lload i, 2)) (hk : lv[pl]? = some (i, .long x)) (pc2 : Nat) (e2 : pc + 2 = pc2) (k : WW p l e R s m args below meth c nL D Y ad cA n Q g pc2 lv (.long x :: st)) : WW p l e R s m args below meth c nL D Y ad cA n Q g pc lv (st) := by
  subst e2; exact fun H locs ls cells slots hcz hP hS hl => lv_lload C.1 C.2.1 d (lv_at hl pl hk) (k H locs ls cells slots hcz hP hS hl)
theorem ww_aload_n (C : CX p R s m args meth c cc nL own rk D Y ad cA tys n sa) {kk : Fin 4} {i : Nat} {x : Nat} (pl : Nat) (d : decode cc pc = .ok (.aload_n kk, 1)) (hi : (kk : Nat) = i) (hk : lv[pl]? = some (i, .ref x)) (pc2 : Nat) (e2 : pc + 1 = pc2) (k : WW p l e R s m args below meth c nL D Y ad cA n Q g pc2 lv (.ref x :: st)) : WW p l e R s m args below meth c nL D Y ad cA n Q g pc lv (st) := by
  subst e2; exact fun H locs ls cells slots hcz hP hS hl => lv_aload_n C.1 C.2.1 d hi (lv_at hl pl hk) (k H locs ls cells slots hcz hP hS hl)
theorem ww_aload (C : CX p R s m args meth c cc nL own rk D Y ad cA tys n sa) {i : Nat} {x : Nat} (pl : Nat) (d : decode cc pc = .ok (.aload i, 2)) (hk : lv[pl]? = some (i, .ref x)) (pc2 : Nat) (e2 : pc + 2 = pc2) (k : WW p l e R s m args below meth c nL D Y ad cA n Q g pc2 lv (.ref x :: st)) : WW p l e R s m args below meth c nL D Y ad cA n Q g pc lv (st) := by
  subst e2; exact fun H locs ls cells slots hcz hP hS hl => lv_aload C.1 C.2.1 d (lv_at hl pl hk) (k H locs ls cells slots hcz hP hS hl)
theorem ww_istore_n (C : CX p R s m args meth c cc nL own rk D Y ad cA tys n sa) {kk : Fin 4} {i : Nat} {x : Int32} (lv' : List (Nat × Value)) (d : decode cc pc = .ok (.istore_n kk, 1)) (hi : (kk : Nat) = i) (hn : i < nL) (hl' : (i, Value.int x) :: lv.filter (fun q => !(q.1 == i) && !(q.1 + 1 == i && q.2.category == 2)) = lv') (pc2 : Nat) (e2 : pc + 1 = pc2) (k : WW p l e R s m args below meth c nL D Y ad cA n Q g pc2 lv' (st)) : WW p l e R s m args below meth c nL D Y ad cA n Q g pc lv (.int x :: st) := by
  subst e2; exact fun H locs ls cells slots hcz hP hS hl => lv_istore_n C.1 C.2.1 d hi hl hn hl' (fun ls2 hl2 => k H locs ls2 cells slots hcz hP hS hl2)
theorem ww_istore (C : CX p R s m args meth c cc nL own rk D Y ad cA tys n sa) {i : Nat} {x : Int32} (lv' : List (Nat × Value)) (d : decode cc pc = .ok (.istore i, 2)) (hn : i < nL) (hl' : (i, Value.int x) :: lv.filter (fun q => !(q.1 == i) && !(q.1 + 1 == i && q.2.category == 2)) = lv') (pc2 : Nat) (e2 : pc + 2 = pc2) (k : WW p l e R s m args below meth c nL D Y ad cA n Q g pc2 lv' (st)) : WW p l e R s m args below meth c nL D Y ad cA n Q g pc lv (.int x :: st) := by
  subst e2; exact fun H locs ls cells slots hcz hP hS hl => lv_istore C.1 C.2.1 d hl hn hl' (fun ls2 hl2 => k H locs ls2 cells slots hcz hP hS hl2)
theorem ww_astore_n (C : CX p R s m args meth c cc nL own rk D Y ad cA tys n sa) {kk : Fin 4} {i : Nat} {x : Nat} (lv' : List (Nat × Value)) (d : decode cc pc = .ok (.astore_n kk, 1)) (hi : (kk : Nat) = i) (hn : i < nL) (hl' : (i, Value.ref x) :: lv.filter (fun q => !(q.1 == i) && !(q.1 + 1 == i && q.2.category == 2)) = lv') (pc2 : Nat) (e2 : pc + 1 = pc2) (k : WW p l e R s m args below meth c nL D Y ad cA n Q g pc2 lv' (st)) : WW p l e R s m args below meth c nL D Y ad cA n Q g pc lv (.ref x :: st) := by
  subst e2; exact fun H locs ls cells slots hcz hP hS hl => lv_astore_n C.1 C.2.1 d hi hl hn hl' (fun ls2 hl2 => k H locs ls2 cells slots hcz hP hS hl2)
theorem ww_astore (C : CX p R s m args meth c cc nL own rk D Y ad cA tys n sa) {i : Nat} {x : Nat} (lv' : List (Nat × Value)) (d : decode cc pc = .ok (.astore i, 2)) (hn : i < nL) (hl' : (i, Value.ref x) :: lv.filter (fun q => !(q.1 == i) && !(q.1 + 1 == i && q.2.category == 2)) = lv') (pc2 : Nat) (e2 : pc + 2 = pc2) (k : WW p l e R s m args below meth c nL D Y ad cA n Q g pc2 lv' (st)) : WW p l e R s m args below meth c nL D Y ad cA n Q g pc lv (.ref x :: st) := by
  subst e2; exact fun H locs ls cells slots hcz hP hS hl => lv_astore C.1 C.2.1 d hl hn hl' (fun ls2 hl2 => k H locs ls2 cells slots hcz hP hS hl2)
theorem ww_lstore_n (C : CX p R s m args meth c cc nL own rk D Y ad cA tys n sa) {kk : Fin 4} {i : Nat} {x : Int64} (lv' : List (Nat × Value)) (d : decode cc pc = .ok (.lstore_n kk, 1)) (hi : (kk : Nat) = i) (hn : i + 1 < nL) (hl' : (i, Value.long x) :: lv.filter (fun q => !(q.1 == i) && (!(q.1 == i + 1) && !(q.1 + 1 == i && q.2.category == 2))) = lv') (pc2 : Nat) (e2 : pc + 1 = pc2) (k : WW p l e R s m args below meth c nL D Y ad cA n Q g pc2 lv' (st)) : WW p l e R s m args below meth c nL D Y ad cA n Q g pc lv (.long x :: st) := by
  subst e2; exact fun H locs ls cells slots hcz hP hS hl => lv_lstore_n C.1 C.2.1 d hi hl hn hl' (fun ls2 hl2 => k H locs ls2 cells slots hcz hP hS hl2)
theorem ww_lstore (C : CX p R s m args meth c cc nL own rk D Y ad cA tys n sa) {i : Nat} {x : Int64} (lv' : List (Nat × Value)) (d : decode cc pc = .ok (.lstore i, 2)) (hn : i + 1 < nL) (hl' : (i, Value.long x) :: lv.filter (fun q => !(q.1 == i) && (!(q.1 == i + 1) && !(q.1 + 1 == i && q.2.category == 2))) = lv') (pc2 : Nat) (e2 : pc + 2 = pc2) (k : WW p l e R s m args below meth c nL D Y ad cA n Q g pc2 lv' (st)) : WW p l e R s m args below meth c nL D Y ad cA n Q g pc lv (.long x :: st) := by
  subst e2; exact fun H locs ls cells slots hcz hP hS hl => lv_lstore C.1 C.2.1 d hl hn hl' (fun ls2 hl2 => k H locs ls2 cells slots hcz hP hS hl2)
theorem ww_iinc (C : CX p R s m args meth c cc nL own rk D Y ad cA tys n sa) {β : Type} {Rr : Option β} {i : Nat} {z : Int} {x : Int32} (pl : Nat) (cz : Int32) (hz : Int32.ofInt z = cz) (lv' : Int32 → List (Nat × Value)) (d : decode cc pc = .ok (.iinc i z, 3)) (hk : lv[pl]? = some (i, .int x)) (hn : i < nL) (hl' : ∀ y, (i, Value.int y) :: lv.filter (fun q => !(q.1 == i) && !(q.1 + 1 == i && q.2.category == 2)) = lv' y) {f : Int32 → Option β} (h : bnd (x + cz) f = Rr) (pc2 : Nat) (e2 : pc + 3 = pc2) (k : ∀ y, f y = Rr → WW p l e R s m args below meth c nL D Y ad cA n Q g pc2 (lv' y) (st)) : WW p l e R s m args below meth c nL D Y ad cA n Q g pc lv (st) := by
  subst e2; exact fun H locs ls cells slots hcz hP hS hl => lv_iinc (v := x + cz) C.1 C.2.1 d hl hk (by rw [hz]) hn (hl' _) (fun ls2 hl2 => k _ h H locs ls2 cells slots hcz hP hS hl2)
theorem ww_iadd (C : CX p R s m args meth c cc nL own rk D Y ad cA tys n sa) {x y : Int32} (d : decode cc pc = .ok (.iadd, 1)) (pc2 : Nat) (e2 : pc + 1 = pc2) (k : WW p l e R s m args below meth c nL D Y ad cA n Q g pc2 lv (.int (x + y) :: st)) : WW p l e R s m args below meth c nL D Y ad cA n Q g pc lv (.int y :: .int x :: st) := by
  subst e2; exact fun H locs ls cells slots hcz hP hS hl => lv_iadd C.1 C.2.1 d (k H locs ls cells slots hcz hP hS hl)
theorem ww_isub (C : CX p R s m args meth c cc nL own rk D Y ad cA tys n sa) {x y : Int32} (d : decode cc pc = .ok (.isub, 1)) (pc2 : Nat) (e2 : pc + 1 = pc2) (k : WW p l e R s m args below meth c nL D Y ad cA n Q g pc2 lv (.int (x - y) :: st)) : WW p l e R s m args below meth c nL D Y ad cA n Q g pc lv (.int y :: .int x :: st) := by
  subst e2; exact fun H locs ls cells slots hcz hP hS hl => lv_isub C.1 C.2.1 d (k H locs ls cells slots hcz hP hS hl)
theorem ww_imul (C : CX p R s m args meth c cc nL own rk D Y ad cA tys n sa) {x y : Int32} (d : decode cc pc = .ok (.imul, 1)) (pc2 : Nat) (e2 : pc + 1 = pc2) (k : WW p l e R s m args below meth c nL D Y ad cA n Q g pc2 lv (.int (x * y) :: st)) : WW p l e R s m args below meth c nL D Y ad cA n Q g pc lv (.int y :: .int x :: st) := by
  subst e2; exact fun H locs ls cells slots hcz hP hS hl => lv_imul C.1 C.2.1 d (k H locs ls cells slots hcz hP hS hl)
theorem ww_iand (C : CX p R s m args meth c cc nL own rk D Y ad cA tys n sa) {x y : Int32} (d : decode cc pc = .ok (.iand, 1)) (pc2 : Nat) (e2 : pc + 1 = pc2) (k : WW p l e R s m args below meth c nL D Y ad cA n Q g pc2 lv (.int (x &&& y) :: st)) : WW p l e R s m args below meth c nL D Y ad cA n Q g pc lv (.int y :: .int x :: st) := by
  subst e2; exact fun H locs ls cells slots hcz hP hS hl => lv_iand C.1 C.2.1 d (k H locs ls cells slots hcz hP hS hl)
theorem ww_ior (C : CX p R s m args meth c cc nL own rk D Y ad cA tys n sa) {x y : Int32} (d : decode cc pc = .ok (.ior, 1)) (pc2 : Nat) (e2 : pc + 1 = pc2) (k : WW p l e R s m args below meth c nL D Y ad cA n Q g pc2 lv (.int (x ||| y) :: st)) : WW p l e R s m args below meth c nL D Y ad cA n Q g pc lv (.int y :: .int x :: st) := by
  subst e2; exact fun H locs ls cells slots hcz hP hS hl => lv_ior C.1 C.2.1 d (k H locs ls cells slots hcz hP hS hl)
theorem ww_ixor (C : CX p R s m args meth c cc nL own rk D Y ad cA tys n sa) {x y : Int32} (d : decode cc pc = .ok (.ixor, 1)) (pc2 : Nat) (e2 : pc + 1 = pc2) (k : WW p l e R s m args below meth c nL D Y ad cA n Q g pc2 lv (.int (x ^^^ y) :: st)) : WW p l e R s m args below meth c nL D Y ad cA n Q g pc lv (.int y :: .int x :: st) := by
  subst e2; exact fun H locs ls cells slots hcz hP hS hl => lv_ixor C.1 C.2.1 d (k H locs ls cells slots hcz hP hS hl)
theorem ww_ishl (C : CX p R s m args meth c cc nL own rk D Y ad cA tys n sa) {x y : Int32} (d : decode cc pc = .ok (.ishl, 1)) (pc2 : Nat) (e2 : pc + 1 = pc2) (k : WW p l e R s m args below meth c nL D Y ad cA n Q g pc2 lv (.int (x <<< (y &&& 31)) :: st)) : WW p l e R s m args below meth c nL D Y ad cA n Q g pc lv (.int y :: .int x :: st) := by
  subst e2; exact fun H locs ls cells slots hcz hP hS hl => lv_ishl C.1 C.2.1 d (k H locs ls cells slots hcz hP hS hl)
theorem ww_ishr (C : CX p R s m args meth c cc nL own rk D Y ad cA tys n sa) {x y : Int32} (d : decode cc pc = .ok (.ishr, 1)) (pc2 : Nat) (e2 : pc + 1 = pc2) (k : WW p l e R s m args below meth c nL D Y ad cA n Q g pc2 lv (.int (x >>> (y &&& 31)) :: st)) : WW p l e R s m args below meth c nL D Y ad cA n Q g pc lv (.int y :: .int x :: st) := by
  subst e2; exact fun H locs ls cells slots hcz hP hS hl => lv_ishr C.1 C.2.1 d (k H locs ls cells slots hcz hP hS hl)
theorem ww_ladd (C : CX p R s m args meth c cc nL own rk D Y ad cA tys n sa) {x y : Int64} (d : decode cc pc = .ok (.ladd, 1)) (pc2 : Nat) (e2 : pc + 1 = pc2) (k : WW p l e R s m args below meth c nL D Y ad cA n Q g pc2 lv (.long (x + y) :: st)) : WW p l e R s m args below meth c nL D Y ad cA n Q g pc lv (.long y :: .long x :: st) := by
  subst e2; exact fun H locs ls cells slots hcz hP hS hl => lv_ladd C.1 C.2.1 d (k H locs ls cells slots hcz hP hS hl)
theorem ww_lsub (C : CX p R s m args meth c cc nL own rk D Y ad cA tys n sa) {x y : Int64} (d : decode cc pc = .ok (.lsub, 1)) (pc2 : Nat) (e2 : pc + 1 = pc2) (k : WW p l e R s m args below meth c nL D Y ad cA n Q g pc2 lv (.long (x - y) :: st)) : WW p l e R s m args below meth c nL D Y ad cA n Q g pc lv (.long y :: .long x :: st) := by
  subst e2; exact fun H locs ls cells slots hcz hP hS hl => lv_lsub C.1 C.2.1 d (k H locs ls cells slots hcz hP hS hl)
theorem ww_lmul (C : CX p R s m args meth c cc nL own rk D Y ad cA tys n sa) {x y : Int64} (d : decode cc pc = .ok (.lmul, 1)) (pc2 : Nat) (e2 : pc + 1 = pc2) (k : WW p l e R s m args below meth c nL D Y ad cA n Q g pc2 lv (.long (x * y) :: st)) : WW p l e R s m args below meth c nL D Y ad cA n Q g pc lv (.long y :: .long x :: st) := by
  subst e2; exact fun H locs ls cells slots hcz hP hS hl => lv_lmul C.1 C.2.1 d (k H locs ls cells slots hcz hP hS hl)
theorem ww_iushr (C : CX p R s m args meth c cc nL own rk D Y ad cA tys n sa) {x y : Int32} (d : decode cc pc = .ok (.iushr, 1)) (pc2 : Nat) (e2 : pc + 1 = pc2) (k : WW p l e R s m args below meth c nL D Y ad cA n Q g pc2 lv (.int ((x.toUInt32 >>> (y.toUInt32 &&& Int32.toUInt32 31)).toInt32) :: st)) : WW p l e R s m args below meth c nL D Y ad cA n Q g pc lv (.int y :: .int x :: st) := by
  subst e2; exact fun H locs ls cells slots hcz hP hS hl => lv_iushr C.1 C.2.1 d rfl (k H locs ls cells slots hcz hP hS hl)
theorem ww_ineg (C : CX p R s m args meth c cc nL own rk D Y ad cA tys n sa) {x : Int32} (d : decode cc pc = .ok (.ineg, 1)) (pc2 : Nat) (e2 : pc + 1 = pc2) (k : WW p l e R s m args below meth c nL D Y ad cA n Q g pc2 lv (.int (-x) :: st)) : WW p l e R s m args below meth c nL D Y ad cA n Q g pc lv (.int x :: st) := by
  subst e2; exact fun H locs ls cells slots hcz hP hS hl => lv_ineg C.1 C.2.1 d (k H locs ls cells slots hcz hP hS hl)
theorem ww_i2l (C : CX p R s m args meth c cc nL own rk D Y ad cA tys n sa) {x : Int32} (d : decode cc pc = .ok (.i2l, 1)) (pc2 : Nat) (e2 : pc + 1 = pc2) (k : WW p l e R s m args below meth c nL D Y ad cA n Q g pc2 lv (.long (x.toInt64) :: st)) : WW p l e R s m args below meth c nL D Y ad cA n Q g pc lv (.int x :: st) := by
  subst e2; exact fun H locs ls cells slots hcz hP hS hl => lv_i2l C.1 C.2.1 d rfl (k H locs ls cells slots hcz hP hS hl)
theorem ww_l2i (C : CX p R s m args meth c cc nL own rk D Y ad cA tys n sa) {x : Int64} (d : decode cc pc = .ok (.l2i, 1)) (pc2 : Nat) (e2 : pc + 1 = pc2) (k : WW p l e R s m args below meth c nL D Y ad cA n Q g pc2 lv (.int (x.toInt32) :: st)) : WW p l e R s m args below meth c nL D Y ad cA n Q g pc lv (.long x :: st) := by
  subst e2; exact fun H locs ls cells slots hcz hP hS hl => lv_l2i C.1 C.2.1 d rfl (k H locs ls cells slots hcz hP hS hl)
theorem ww_i2b (C : CX p R s m args meth c cc nL own rk D Y ad cA tys n sa) {x : Int32} (d : decode cc pc = .ok (.i2b, 1)) (pc2 : Nat) (e2 : pc + 1 = pc2) (k : WW p l e R s m args below meth c nL D Y ad cA n Q g pc2 lv (.int (x.toInt8.toInt32) :: st)) : WW p l e R s m args below meth c nL D Y ad cA n Q g pc lv (.int x :: st) := by
  subst e2; exact fun H locs ls cells slots hcz hP hS hl => lv_i2b C.1 C.2.1 d rfl (k H locs ls cells slots hcz hP hS hl)
theorem ww_i2s (C : CX p R s m args meth c cc nL own rk D Y ad cA tys n sa) {x : Int32} (d : decode cc pc = .ok (.i2s, 1)) (pc2 : Nat) (e2 : pc + 1 = pc2) (k : WW p l e R s m args below meth c nL D Y ad cA n Q g pc2 lv (.int (x.toInt16.toInt32) :: st)) : WW p l e R s m args below meth c nL D Y ad cA n Q g pc lv (.int x :: st) := by
  subst e2; exact fun H locs ls cells slots hcz hP hS hl => lv_i2s C.1 C.2.1 d rfl (k H locs ls cells slots hcz hP hS hl)
theorem ww_i2c (C : CX p R s m args meth c cc nL own rk D Y ad cA tys n sa) {x : Int32} (d : decode cc pc = .ok (.i2c, 1)) (pc2 : Nat) (e2 : pc + 1 = pc2) (k : WW p l e R s m args below meth c nL D Y ad cA n Q g pc2 lv (.int ((x.toUInt32 % 65536).toInt32) :: st)) : WW p l e R s m args below meth c nL D Y ad cA n Q g pc lv (.int x :: st) := by
  subst e2; exact fun H locs ls cells slots hcz hP hS hl => lv_i2c C.1 C.2.1 d rfl (k H locs ls cells slots hcz hP hS hl)
theorem ww_idiv (C : CX p R s m args meth c cc nL own rk D Y ad cA tys n sa) {β : Type} {R1 : β} {x y : Int32} (d : decode cc pc = .ok (.idiv, 1)) {A : Option β} {ins : Decidable (y = 0)} (h : @ite _ (y = 0) ins none A = some R1) (pc2 : Nat) (e2 : pc + 1 = pc2) (k : A = some R1 → WW p l e R s m args below meth c nL D Y ad cA n Q g pc2 lv (.int (x / y) :: st)) : WW p l e R s m args below meth c nL D Y ad cA n Q g pc lv (.int y :: .int x :: st) := by
  subst e2; by_cases hy : y = 0
  · rw [if_pos hy] at h; cases h
  · rw [if_neg hy] at h; exact fun H locs ls cells slots hcz hP hS hl => lv_idiv C.1 C.2.1 d hy (k h H locs ls cells slots hcz hP hS hl)
theorem ww_irem (C : CX p R s m args meth c cc nL own rk D Y ad cA tys n sa) {β : Type} {R1 : β} {x y : Int32} (d : decode cc pc = .ok (.irem, 1)) {A : Option β} {ins : Decidable (y = 0)} (h : @ite _ (y = 0) ins none A = some R1) (pc2 : Nat) (e2 : pc + 1 = pc2) (k : A = some R1 → WW p l e R s m args below meth c nL D Y ad cA n Q g pc2 lv (.int (x - x / y * y) :: st)) : WW p l e R s m args below meth c nL D Y ad cA n Q g pc lv (.int y :: .int x :: st) := by
  subst e2; by_cases hy : y = 0
  · rw [if_pos hy] at h; cases h
  · rw [if_neg hy] at h; exact fun H locs ls cells slots hcz hP hS hl => lv_irem C.1 C.2.1 d hy (k h H locs ls cells slots hcz hP hS hl)
theorem ww_ldiv (C : CX p R s m args meth c cc nL own rk D Y ad cA tys n sa) {β : Type} {R1 : β} {x y : Int64} (d : decode cc pc = .ok (.ldiv, 1)) {A : Option β} {ins : Decidable (y = 0)} (h : @ite _ (y = 0) ins none A = some R1) (pc2 : Nat) (e2 : pc + 1 = pc2) (k : A = some R1 → WW p l e R s m args below meth c nL D Y ad cA n Q g pc2 lv (.long (x / y) :: st)) : WW p l e R s m args below meth c nL D Y ad cA n Q g pc lv (.long y :: .long x :: st) := by
  subst e2; by_cases hy : y = 0
  · rw [if_pos hy] at h; cases h
  · rw [if_neg hy] at h; exact fun H locs ls cells slots hcz hP hS hl => lv_ldiv C.1 C.2.1 d hy (k h H locs ls cells slots hcz hP hS hl)
theorem ww_lrem (C : CX p R s m args meth c cc nL own rk D Y ad cA tys n sa) {β : Type} {R1 : β} {x y : Int64} (d : decode cc pc = .ok (.lrem, 1)) {A : Option β} {ins : Decidable (y = 0)} (h : @ite _ (y = 0) ins none A = some R1) (pc2 : Nat) (e2 : pc + 1 = pc2) (k : A = some R1 → WW p l e R s m args below meth c nL D Y ad cA n Q g pc2 lv (.long (x - x / y * y) :: st)) : WW p l e R s m args below meth c nL D Y ad cA n Q g pc lv (.long y :: .long x :: st) := by
  subst e2; by_cases hy : y = 0
  · rw [if_pos hy] at h; cases h
  · rw [if_neg hy] at h; exact fun H locs ls cells slots hcz hP hS hl => lv_lrem C.1 C.2.1 d hy (k h H locs ls cells slots hcz hP hS hl)
theorem ww_lcmp (C : CX p R s m args meth c cc nL own rk D Y ad cA tys n sa) {x y : Int64} (d : decode cc pc = .ok (.lcmp, 1)) (pc2 : Nat) (e2 : pc + 1 = pc2) (k : WW p l e R s m args below meth c nL D Y ad cA n Q g pc2 lv (.int (lg_cmp x y) :: st)) : WW p l e R s m args below meth c nL D Y ad cA n Q g pc lv (.long y :: .long x :: st) := by
  subst e2; exact fun H locs ls cells slots hcz hP hS hl => W.lcmp C.1 C.2.1 d (k H locs ls cells slots hcz hP hS hl)
theorem ww_dup (C : CX p R s m args meth c cc nL own rk D Y ad cA tys n sa) {v : Value} (d : decode cc pc = .ok (.dup, 1)) (hv : v.category = 1) (pc2 : Nat) (e2 : pc + 1 = pc2) (k : WW p l e R s m args below meth c nL D Y ad cA n Q g pc2 lv (v :: v :: st)) : WW p l e R s m args below meth c nL D Y ad cA n Q g pc lv (v :: st) := by
  subst e2; exact fun H locs ls cells slots hcz hP hS hl => lv_dup C.1 C.2.1 d hv (k H locs ls cells slots hcz hP hS hl)
theorem ww_dup2 (C : CX p R s m args meth c cc nL own rk D Y ad cA tys n sa) {v w : Value} (d : decode cc pc = .ok (.dup2, 1)) (hv : v.category = 1) (hw : w.category = 1) (pc2 : Nat) (e2 : pc + 1 = pc2) (k : WW p l e R s m args below meth c nL D Y ad cA n Q g pc2 lv (v :: w :: v :: w :: st)) : WW p l e R s m args below meth c nL D Y ad cA n Q g pc lv (v :: w :: st) := by
  subst e2; exact fun H locs ls cells slots hcz hP hS hl => lv_dup2_11 C.1 C.2.1 d hv hw (k H locs ls cells slots hcz hP hS hl)
theorem ww_pop (C : CX p R s m args meth c cc nL own rk D Y ad cA tys n sa) {v : Value} (d : decode cc pc = .ok (.pop, 1)) (hv : v.category = 1) (pc2 : Nat) (e2 : pc + 1 = pc2) (k : WW p l e R s m args below meth c nL D Y ad cA n Q g pc2 lv (st)) : WW p l e R s m args below meth c nL D Y ad cA n Q g pc lv (v :: st) := by
  subst e2; exact fun H locs ls cells slots hcz hP hS hl => lv_pop C.1 C.2.1 d hv (k H locs ls cells slots hcz hP hS hl)
theorem ww_bi {β : Type} {Rr : Option β} {x : Int32} {f : Int32 → Option β} (h : bnd x f = Rr) (k : ∀ y, f y = Rr → WW p l e R s m args below meth c nL D Y ad cA n Q g pc lv (.int y :: st)) : WW p l e R s m args below meth c nL D Y ad cA n Q g pc lv (.int x :: st) := k x h
theorem ww_bi1 {β : Type} {Rr : Option β} {x : Int32} {v : Value} {f : Int32 → Option β} (h : bnd x f = Rr) (k : ∀ y, f y = Rr → WW p l e R s m args below meth c nL D Y ad cA n Q g pc lv (v :: .int y :: st)) : WW p l e R s m args below meth c nL D Y ad cA n Q g pc lv (v :: .int x :: st) := k x h
theorem ww_bl {β : Type} {Rr : Option β} {x : Int64} {f : Int64 → Option β} (h : bnd x f = Rr) (k : ∀ y, f y = Rr → WW p l e R s m args below meth c nL D Y ad cA n Q g pc lv (.long y :: st)) : WW p l e R s m args below meth c nL D Y ad cA n Q g pc lv (.long x :: st) := k x h
theorem ww_bl1 {β : Type} {Rr : Option β} {x : Int64} {v : Value} {f : Int64 → Option β} (h : bnd x f = Rr) (k : ∀ y, f y = Rr → WW p l e R s m args below meth c nL D Y ad cA n Q g pc lv (v :: .long y :: st)) : WW p l e R s m args below meth c nL D Y ad cA n Q g pc lv (v :: .long x :: st) := k x h
theorem ww_if_eq (C : CX p R s m args meth c cc nL own rk D Y ad cA tys n sa) {β : Type} {Rr : Option β} {x : Int32} {off : Int} (tgt : Nat) (d : decode cc pc = .ok (.ifCond .eq off, 3)) (ht : (pc : Int) + off = (tgt : Int)) {A B : Option β} {ins : Decidable (x = 0)} (h : @ite _ (x = 0) ins A B = Rr) (pc2 : Nat) (e2 : pc + 3 = pc2) (kt : A = Rr → WW p l e R s m args below meth c nL D Y ad cA n Q g tgt lv (st)) (kf : B = Rr → WW p l e R s m args below meth c nL D Y ad cA n Q g pc2 lv (st)) : WW p l e R s m args below meth c nL D Y ad cA n Q g pc lv (.int x :: st) := by
  subst e2; exact fun H locs ls cells slots hcz hP hS hl => lv_if_eq C.1 C.2.1 d ht (fun hc => kt (by first | (rw [if_pos hc] at h; exact h) | (rw [if_pos (by simpa using hc)] at h; exact h)) H locs ls cells slots hcz hP hS hl) (fun hc => kf (by first | (rw [if_neg hc] at h; exact h) | (rw [if_neg (by simpa using hc)] at h; exact h)) H locs ls cells slots hcz hP hS hl)
theorem ww_if_ne (C : CX p R s m args meth c cc nL own rk D Y ad cA tys n sa) {β : Type} {Rr : Option β} {x : Int32} {off : Int} (tgt : Nat) (d : decode cc pc = .ok (.ifCond .ne off, 3)) (ht : (pc : Int) + off = (tgt : Int)) {A B : Option β} {ins : Decidable (¬ x = 0)} (h : @ite _ (¬ x = 0) ins A B = Rr) (pc2 : Nat) (e2 : pc + 3 = pc2) (kt : A = Rr → WW p l e R s m args below meth c nL D Y ad cA n Q g tgt lv (st)) (kf : B = Rr → WW p l e R s m args below meth c nL D Y ad cA n Q g pc2 lv (st)) : WW p l e R s m args below meth c nL D Y ad cA n Q g pc lv (.int x :: st) := by
  subst e2; exact fun H locs ls cells slots hcz hP hS hl => lv_if_ne C.1 C.2.1 d ht (fun hc => kt (by first | (rw [if_pos hc] at h; exact h) | (rw [if_pos (by simpa using hc)] at h; exact h)) H locs ls cells slots hcz hP hS hl) (fun hc => kf (by first | (rw [if_neg hc] at h; exact h) | (rw [if_neg (by simpa using hc)] at h; exact h)) H locs ls cells slots hcz hP hS hl)
theorem ww_if_lt (C : CX p R s m args meth c cc nL own rk D Y ad cA tys n sa) {β : Type} {Rr : Option β} {x : Int32} {off : Int} (tgt : Nat) (d : decode cc pc = .ok (.ifCond .lt off, 3)) (ht : (pc : Int) + off = (tgt : Int)) {A B : Option β} {ins : Decidable (x < 0)} (h : @ite _ (x < 0) ins A B = Rr) (pc2 : Nat) (e2 : pc + 3 = pc2) (kt : A = Rr → WW p l e R s m args below meth c nL D Y ad cA n Q g tgt lv (st)) (kf : B = Rr → WW p l e R s m args below meth c nL D Y ad cA n Q g pc2 lv (st)) : WW p l e R s m args below meth c nL D Y ad cA n Q g pc lv (.int x :: st) := by
  subst e2; exact fun H locs ls cells slots hcz hP hS hl => lv_if_lt C.1 C.2.1 d ht (fun hc => kt (by first | (rw [if_pos hc] at h; exact h) | (rw [if_pos (by simpa using hc)] at h; exact h)) H locs ls cells slots hcz hP hS hl) (fun hc => kf (by first | (rw [if_neg hc] at h; exact h) | (rw [if_neg (by simpa using hc)] at h; exact h)) H locs ls cells slots hcz hP hS hl)
theorem ww_if_ge (C : CX p R s m args meth c cc nL own rk D Y ad cA tys n sa) {β : Type} {Rr : Option β} {x : Int32} {off : Int} (tgt : Nat) (d : decode cc pc = .ok (.ifCond .ge off, 3)) (ht : (pc : Int) + off = (tgt : Int)) {A B : Option β} {ins : Decidable (0 ≤ x)} (h : @ite _ (0 ≤ x) ins A B = Rr) (pc2 : Nat) (e2 : pc + 3 = pc2) (kt : A = Rr → WW p l e R s m args below meth c nL D Y ad cA n Q g tgt lv (st)) (kf : B = Rr → WW p l e R s m args below meth c nL D Y ad cA n Q g pc2 lv (st)) : WW p l e R s m args below meth c nL D Y ad cA n Q g pc lv (.int x :: st) := by
  subst e2; exact fun H locs ls cells slots hcz hP hS hl => lv_if_ge C.1 C.2.1 d ht (fun hc => kt (by first | (rw [if_pos hc] at h; exact h) | (rw [if_pos (by simpa using hc)] at h; exact h)) H locs ls cells slots hcz hP hS hl) (fun hc => kf (by first | (rw [if_neg hc] at h; exact h) | (rw [if_neg (by simpa using hc)] at h; exact h)) H locs ls cells slots hcz hP hS hl)
theorem ww_if_gt (C : CX p R s m args meth c cc nL own rk D Y ad cA tys n sa) {β : Type} {Rr : Option β} {x : Int32} {off : Int} (tgt : Nat) (d : decode cc pc = .ok (.ifCond .gt off, 3)) (ht : (pc : Int) + off = (tgt : Int)) {A B : Option β} {ins : Decidable (0 < x)} (h : @ite _ (0 < x) ins A B = Rr) (pc2 : Nat) (e2 : pc + 3 = pc2) (kt : A = Rr → WW p l e R s m args below meth c nL D Y ad cA n Q g tgt lv (st)) (kf : B = Rr → WW p l e R s m args below meth c nL D Y ad cA n Q g pc2 lv (st)) : WW p l e R s m args below meth c nL D Y ad cA n Q g pc lv (.int x :: st) := by
  subst e2; exact fun H locs ls cells slots hcz hP hS hl => lv_if_gt C.1 C.2.1 d ht (fun hc => kt (by first | (rw [if_pos hc] at h; exact h) | (rw [if_pos (by simpa using hc)] at h; exact h)) H locs ls cells slots hcz hP hS hl) (fun hc => kf (by first | (rw [if_neg hc] at h; exact h) | (rw [if_neg (by simpa using hc)] at h; exact h)) H locs ls cells slots hcz hP hS hl)
theorem ww_if_le (C : CX p R s m args meth c cc nL own rk D Y ad cA tys n sa) {β : Type} {Rr : Option β} {x : Int32} {off : Int} (tgt : Nat) (d : decode cc pc = .ok (.ifCond .le off, 3)) (ht : (pc : Int) + off = (tgt : Int)) {A B : Option β} {ins : Decidable (x ≤ 0)} (h : @ite _ (x ≤ 0) ins A B = Rr) (pc2 : Nat) (e2 : pc + 3 = pc2) (kt : A = Rr → WW p l e R s m args below meth c nL D Y ad cA n Q g tgt lv (st)) (kf : B = Rr → WW p l e R s m args below meth c nL D Y ad cA n Q g pc2 lv (st)) : WW p l e R s m args below meth c nL D Y ad cA n Q g pc lv (.int x :: st) := by
  subst e2; exact fun H locs ls cells slots hcz hP hS hl => lv_if_le C.1 C.2.1 d ht (fun hc => kt (by first | (rw [if_pos hc] at h; exact h) | (rw [if_pos (by simpa using hc)] at h; exact h)) H locs ls cells slots hcz hP hS hl) (fun hc => kf (by first | (rw [if_neg hc] at h; exact h) | (rw [if_neg (by simpa using hc)] at h; exact h)) H locs ls cells slots hcz hP hS hl)
theorem ww_icmp_eq (C : CX p R s m args meth c cc nL own rk D Y ad cA tys n sa) {β : Type} {Rr : Option β} {x y : Int32} {off : Int} (tgt : Nat) (d : decode cc pc = .ok (.if_icmp .eq off, 3)) (ht : (pc : Int) + off = (tgt : Int)) {A B : Option β} {ins : Decidable (x = y)} (h : @ite _ (x = y) ins A B = Rr) (pc2 : Nat) (e2 : pc + 3 = pc2) (kt : A = Rr → WW p l e R s m args below meth c nL D Y ad cA n Q g tgt lv (st)) (kf : B = Rr → WW p l e R s m args below meth c nL D Y ad cA n Q g pc2 lv (st)) : WW p l e R s m args below meth c nL D Y ad cA n Q g pc lv (.int y :: .int x :: st) := by
  subst e2; exact fun H locs ls cells slots hcz hP hS hl => lv_icmp_eq C.1 C.2.1 d ht (fun hc => kt (by first | (rw [if_pos hc] at h; exact h) | (rw [if_pos (by simpa using hc)] at h; exact h)) H locs ls cells slots hcz hP hS hl) (fun hc => kf (by first | (rw [if_neg hc] at h; exact h) | (rw [if_neg (by simpa using hc)] at h; exact h)) H locs ls cells slots hcz hP hS hl)
theorem ww_icmp_ne (C : CX p R s m args meth c cc nL own rk D Y ad cA tys n sa) {β : Type} {Rr : Option β} {x y : Int32} {off : Int} (tgt : Nat) (d : decode cc pc = .ok (.if_icmp .ne off, 3)) (ht : (pc : Int) + off = (tgt : Int)) {A B : Option β} {ins : Decidable (¬ x = y)} (h : @ite _ (¬ x = y) ins A B = Rr) (pc2 : Nat) (e2 : pc + 3 = pc2) (kt : A = Rr → WW p l e R s m args below meth c nL D Y ad cA n Q g tgt lv (st)) (kf : B = Rr → WW p l e R s m args below meth c nL D Y ad cA n Q g pc2 lv (st)) : WW p l e R s m args below meth c nL D Y ad cA n Q g pc lv (.int y :: .int x :: st) := by
  subst e2; exact fun H locs ls cells slots hcz hP hS hl => lv_icmp_ne C.1 C.2.1 d ht (fun hc => kt (by first | (rw [if_pos hc] at h; exact h) | (rw [if_pos (by simpa using hc)] at h; exact h)) H locs ls cells slots hcz hP hS hl) (fun hc => kf (by first | (rw [if_neg hc] at h; exact h) | (rw [if_neg (by simpa using hc)] at h; exact h)) H locs ls cells slots hcz hP hS hl)
theorem ww_icmp_lt (C : CX p R s m args meth c cc nL own rk D Y ad cA tys n sa) {β : Type} {Rr : Option β} {x y : Int32} {off : Int} (tgt : Nat) (d : decode cc pc = .ok (.if_icmp .lt off, 3)) (ht : (pc : Int) + off = (tgt : Int)) {A B : Option β} {ins : Decidable (x < y)} (h : @ite _ (x < y) ins A B = Rr) (pc2 : Nat) (e2 : pc + 3 = pc2) (kt : A = Rr → WW p l e R s m args below meth c nL D Y ad cA n Q g tgt lv (st)) (kf : B = Rr → WW p l e R s m args below meth c nL D Y ad cA n Q g pc2 lv (st)) : WW p l e R s m args below meth c nL D Y ad cA n Q g pc lv (.int y :: .int x :: st) := by
  subst e2; exact fun H locs ls cells slots hcz hP hS hl => lv_icmp_lt C.1 C.2.1 d ht (fun hc => kt (by first | (rw [if_pos hc] at h; exact h) | (rw [if_pos (by simpa using hc)] at h; exact h)) H locs ls cells slots hcz hP hS hl) (fun hc => kf (by first | (rw [if_neg hc] at h; exact h) | (rw [if_neg (by simpa using hc)] at h; exact h)) H locs ls cells slots hcz hP hS hl)
theorem ww_icmp_ge (C : CX p R s m args meth c cc nL own rk D Y ad cA tys n sa) {β : Type} {Rr : Option β} {x y : Int32} {off : Int} (tgt : Nat) (d : decode cc pc = .ok (.if_icmp .ge off, 3)) (ht : (pc : Int) + off = (tgt : Int)) {A B : Option β} {ins : Decidable (y ≤ x)} (h : @ite _ (y ≤ x) ins A B = Rr) (pc2 : Nat) (e2 : pc + 3 = pc2) (kt : A = Rr → WW p l e R s m args below meth c nL D Y ad cA n Q g tgt lv (st)) (kf : B = Rr → WW p l e R s m args below meth c nL D Y ad cA n Q g pc2 lv (st)) : WW p l e R s m args below meth c nL D Y ad cA n Q g pc lv (.int y :: .int x :: st) := by
  subst e2; exact fun H locs ls cells slots hcz hP hS hl => lv_icmp_ge C.1 C.2.1 d ht (fun hc => kt (by first | (rw [if_pos hc] at h; exact h) | (rw [if_pos (by simpa using hc)] at h; exact h)) H locs ls cells slots hcz hP hS hl) (fun hc => kf (by first | (rw [if_neg hc] at h; exact h) | (rw [if_neg (by simpa using hc)] at h; exact h)) H locs ls cells slots hcz hP hS hl)
theorem ww_icmp_gt (C : CX p R s m args meth c cc nL own rk D Y ad cA tys n sa) {β : Type} {Rr : Option β} {x y : Int32} {off : Int} (tgt : Nat) (d : decode cc pc = .ok (.if_icmp .gt off, 3)) (ht : (pc : Int) + off = (tgt : Int)) {A B : Option β} {ins : Decidable (y < x)} (h : @ite _ (y < x) ins A B = Rr) (pc2 : Nat) (e2 : pc + 3 = pc2) (kt : A = Rr → WW p l e R s m args below meth c nL D Y ad cA n Q g tgt lv (st)) (kf : B = Rr → WW p l e R s m args below meth c nL D Y ad cA n Q g pc2 lv (st)) : WW p l e R s m args below meth c nL D Y ad cA n Q g pc lv (.int y :: .int x :: st) := by
  subst e2; exact fun H locs ls cells slots hcz hP hS hl => lv_icmp_gt C.1 C.2.1 d ht (fun hc => kt (by first | (rw [if_pos hc] at h; exact h) | (rw [if_pos (by simpa using hc)] at h; exact h)) H locs ls cells slots hcz hP hS hl) (fun hc => kf (by first | (rw [if_neg hc] at h; exact h) | (rw [if_neg (by simpa using hc)] at h; exact h)) H locs ls cells slots hcz hP hS hl)
theorem ww_icmp_le (C : CX p R s m args meth c cc nL own rk D Y ad cA tys n sa) {β : Type} {Rr : Option β} {x y : Int32} {off : Int} (tgt : Nat) (d : decode cc pc = .ok (.if_icmp .le off, 3)) (ht : (pc : Int) + off = (tgt : Int)) {A B : Option β} {ins : Decidable (x ≤ y)} (h : @ite _ (x ≤ y) ins A B = Rr) (pc2 : Nat) (e2 : pc + 3 = pc2) (kt : A = Rr → WW p l e R s m args below meth c nL D Y ad cA n Q g tgt lv (st)) (kf : B = Rr → WW p l e R s m args below meth c nL D Y ad cA n Q g pc2 lv (st)) : WW p l e R s m args below meth c nL D Y ad cA n Q g pc lv (.int y :: .int x :: st) := by
  subst e2; exact fun H locs ls cells slots hcz hP hS hl => lv_icmp_le C.1 C.2.1 d ht (fun hc => kt (by first | (rw [if_pos hc] at h; exact h) | (rw [if_pos (by simpa using hc)] at h; exact h)) H locs ls cells slots hcz hP hS hl) (fun hc => kf (by first | (rw [if_neg hc] at h; exact h) | (rw [if_neg (by simpa using hc)] at h; exact h)) H locs ls cells slots hcz hP hS hl)
theorem ww_goto (C : CX p R s m args meth c cc nL own rk D Y ad cA tys n sa) {off : Int} (tgt : Nat) (d : decode cc pc = .ok (.goto off, 3)) (ht : (pc : Int) + off = (tgt : Int)) (k : WW p l e R s m args below meth c nL D Y ad cA n Q g tgt lv (st)) : WW p l e R s m args below meth c nL D Y ad cA n Q g pc lv (st) := by
  exact fun H locs ls cells slots hcz hP hS hl => lv_goto C.1 C.2.1 d ht (k H locs ls cells slots hcz hP hS hl)
theorem sw_1 {β : Type} {Rr : Option β} {P : Prop} {x v : Int32} {A B : Option β} {ins : Decidable (x = v)} (h : @ite _ (x = v) ins A B = Rr) (k1 : x = v → A = Rr → P) (k2 : ¬ x = v → B = Rr → P) : P := by
  by_cases hx : x = v
  · rw [if_pos hx] at h; exact k1 hx h
  · rw [if_neg hx] at h; exact k2 hx h
theorem sw_ne {x v : Int32} {z : Int} (h : ¬ x = v) (hz : v.toInt = z) : x.toInt ≠ z := fun e => h (Int32.toInt_inj.mp (e.trans hz.symm))
theorem ww_tin (C : CX p R s m args meth c cc nL own rk D Y ad cA tys n sa) {x v : Int32} (hx : x = v) {dflt lo hi : Int} {offs : Array Int} {len : Nat} {off : Int} (tgt : Nat) (d : decode cc pc = .ok (.tableswitch dflt lo hi offs, len)) (h1 : ¬ v.toInt < lo) (h2 : ¬ hi < v.toInt) (ho : offs[(v.toInt - lo).toNat]? = some off) (ht : (pc : Int) + off = (tgt : Int)) (k : WW p l e R s m args below meth c nL D Y ad cA n Q g tgt lv (st)) : WW p l e R s m args below meth c nL D Y ad cA n Q g pc lv (.int x :: st) := by
  subst hx; exact fun H locs ls cells slots hcz hP hS hl => lv_tableIn C.1 C.2.1 d h1 h2 ho ht (k H locs ls cells slots hcz hP hS hl)
theorem ww_tout (C : CX p R s m args meth c cc nL own rk D Y ad cA tys n sa) {x : Int32} {dflt lo hi : Int} {offs : Array Int} {len : Nat} (tgt : Nat) (d : decode cc pc = .ok (.tableswitch dflt lo hi offs, len)) (h : x.toInt < lo ∨ hi < x.toInt) (ht : (pc : Int) + dflt = (tgt : Int)) (k : WW p l e R s m args below meth c nL D Y ad cA n Q g tgt lv (st)) : WW p l e R s m args below meth c nL D Y ad cA n Q g pc lv (.int x :: st) := by
  exact fun H locs ls cells slots hcz hP hS hl => lv_tableOut C.1 C.2.1 d h ht (k H locs ls cells slots hcz hP hS hl)
theorem ww_look (C : CX p R s m args meth c cc nL own rk D Y ad cA tys n sa) {x : Int32} {dflt : Int} {ps : Array (Int × Int)} {len : Nat} {off : Int} (tgt : Nat) (d : decode cc pc = .ok (.lookupswitch dflt ps, len)) (hp : (ps.toList.zip (ps.toList.drop 1)).all (fun (a, next) => a.1 < next.1) = true) (ho : Op.lookupswitch.offset ps.toList dflt x.toInt = off) (ht : (pc : Int) + off = (tgt : Int)) (k : WW p l e R s m args below meth c nL D Y ad cA n Q g tgt lv (st)) : WW p l e R s m args below meth c nL D Y ad cA n Q g pc lv (.int x :: st) := by
  exact fun H locs ls cells slots hcz hP hS hl => lv_lookup C.1 C.2.1 d hp ho ht (k H locs ls cells slots hcz hP hS hl)
theorem ww_getI (C : CX p R s m args meth c cc nL own rk D Y ad cA tys n sa) {ci N : Nat} {Cn : String} {T : u_T} (cl : vwCl[ci]? = some (Cn, T, N) ∧ (∀ w ∈ u_ws Cn T N, w ∈ TT) ∧ nf Y ci = N) {kc : Nat} (o : OB Y n kc ci) (j : Nat) (hj : j < N) (hf : ft Y ci j = 0) {ix : Nat} (w : Cond.fieldLink own ix (T j).1 (T j).2.1 (T j).2.2.1 ∈ TT) (d : decode cc pc = .ok (.getfield ix, 3)) (pc2 : Nat) (e2 : pc + 3 = pc2) (k : WW p l e R s m args below meth c nL D Y ad cA n Q g pc2 lv (.int (g.1 kc j) :: st)) : WW p l e R s m args below meth c nL D Y ad cA n Q g pc lv (.ref (ad kc) :: st) := by
  subst e2; exact fun H locs ls cells slots hcz hP hS hl => va_get C.1 C.2.1 C.2.2.2.2.1 cl.2.1 C.2.2.2.1 C.2.2.2.2.2.1 hP kc ((wl_get o.1).trans (by rw [cf_ob o (cl_lt cl.1) cl.2.2])) cl.1 j hj (C.2.2.2.2.1 _ w) (fun _ h => h) (v := .int (g.1 kc j)) (by simp [hj]; simp [fv, o.2, hf]) d (k H locs ls cells slots hcz hP hS hl)
theorem ww_getS (C : CX p R s m args meth c cc nL own rk D Y ad cA tys n sa) {ci N : Nat} {Cn : String} {T : u_T} (cl : vwCl[ci]? = some (Cn, T, N) ∧ (∀ w ∈ u_ws Cn T N, w ∈ TT) ∧ nf Y ci = N) {kc : Nat} (o : OB Y n kc ci) (j : Nat) (hj : j < N) (hf : ft Y ci j = 2) (q : Nat) (hq : so Y kc j = q) {ix : Nat} (w : Cond.fieldLink own ix (T j).1 (T j).2.1 (T j).2.2.1 ∈ TT) (d : decode cc pc = .ok (.getfield ix, 3)) (pc2 : Nat) (e2 : pc + 3 = pc2) (k : WW p l e R s m args below meth c nL D Y ad cA n Q g pc2 lv (.ref (ad q) :: st)) : WW p l e R s m args below meth c nL D Y ad cA n Q g pc lv (.ref (ad kc) :: st) := by
  subst e2; exact fun H locs ls cells slots hcz hP hS hl => va_get C.1 C.2.1 C.2.2.2.2.1 cl.2.1 C.2.2.2.1 C.2.2.2.2.2.1 hP kc ((wl_get o.1).trans (by rw [cf_ob o (cl_lt cl.1) cl.2.2])) cl.1 j hj (C.2.2.2.2.1 _ w) (fun _ h => h) (v := .ref (ad q)) (by simp [hj]; simp [fv, o.2, hf, hq]) d (k H locs ls cells slots hcz hP hS hl)
theorem ww_getM (C : CX p R s m args meth c cc nL own rk D Y ad cA tys n sa) {β : Type} {R1 : β} {T0 : Nat → Prop} {dT : DecidablePred T0} {f : Nat → Option β} {ci N : Nat} {Cn : String} {T : u_T} (cl : vwCl[ci]? = some (Cn, T, N) ∧ (∀ w ∈ u_ws Cn T N, w ∈ TT) ∧ nf Y ci = N) {kc : Nat} (o : OB Y n kc ci) (j : Nat) (hj : j < N) (hf : ft Y ci j = 1) {ix : Nat} (w : Cond.fieldLink own ix (T j).1 (T j).2.1 (T j).2.2.1 ∈ TT) (d : decode cc pc = .ok (.getfield ix, 3)) (h : oT T0 (g.2 kc) f = some R1) (pc2 : Nat) (e2 : pc + 3 = pc2) (k : ∀ q, T0 q → f q = some R1 → WW p l e R s m args below meth c nL D Y ad cA n Q g pc2 lv (.ref (ad q) :: st)) : WW p l e R s m args below meth c nL D Y ad cA n Q g pc lv (.ref (ad kc) :: st) := by
  subst e2
  obtain ⟨q, hq, hT, hk⟩ := oT_some h
  exact fun H locs ls cells slots hcz hP hS hl => va_get C.1 C.2.1 C.2.2.2.2.1 cl.2.1 C.2.2.2.1 C.2.2.2.2.2.1 hP kc ((wl_get o.1).trans (by rw [cf_ob o (cl_lt cl.1) cl.2.2])) cl.1 j hj (C.2.2.2.2.1 _ w) (fun _ h => h) (v := .ref (ad q)) (by simp [hj]; simp [fv, o.2, hf, hq, va_rf]) d (k q hT hk H locs ls cells slots hcz hP hS hl)
theorem ww_putI (C : CX p R s m args meth c cc nL own rk D Y ad cA tys n sa) {β : Type} {Rr : Option β} {x : Int32} {f : Mem → Option β} {ci N : Nat} {Cn : String} {T : u_T} (cl : vwCl[ci]? = some (Cn, T, N) ∧ (∀ w ∈ u_ws Cn T N, w ∈ TT) ∧ nf Y ci = N) {kc : Nat} (o : OB Y n kc ci) (j : Nat) (hj : j < N) (hf : ft Y ci j = 0) (ty0 : Nat → FieldType) (hty : ∀ k, k < N → parseFieldDescriptor (T k).2.2.1 = some (ty0 k)) (hnm : ∀ a, a < N → ∀ b, b < N → a ≠ b → (T a).2.1 ≠ (T b).2.1) (hfin : (T j).2.2.2 = false) (hna : narrow (ty0 j) (.int x) = .int x) (hfi : fits (ty0 j) (.int x) = true) {ix : Nat} (w : Cond.fieldLink own ix (T j).1 (T j).2.1 (T j).2.2.1 ∈ TT) (d : decode cc pc = .ok (.putfield ix, 3)) (h : bnd (stI g kc j x) f = Rr) (pc2 : Nat) (e2 : pc + 3 = pc2) (k : ∀ g1, f g1 = Rr → WW p l e R s m args below meth c nL D Y ad cA n Q g1 pc2 lv (st)) : WW p l e R s m args below meth c nL D Y ad cA n Q g pc lv (.int x :: .ref (ad kc) :: st) := by
  subst e2; exact fun H locs ls cells slots hcz hP hS hl => va_put C.1 C.2.1 C.2.2.2.2.1 cl.2.1 ty0 hty hnm C.2.2.2.1 C.2.2.2.2.2.1 hP (wl_D C.2.2.2.2.2.2.1) hS kc ((wl_get o.1).trans (by rw [cf_ob o (cl_lt cl.1) cl.2.2])) cl.1 j hj (C.2.2.2.2.1 _ w) (fun _ h => h) hfin (hty j hj) hna hfi (by simpa using hj) d (fun H1 locs1 hP1 hD1 hS1 => k _ h H1 locs1 ls cells slots hcz (by rw [wl_stI o (cl_lt cl.1) cl.2.2 hf] at hP1; exact hP1) hS1 hl)
theorem ww_putM (C : CX p R s m args meth c cc nL own rk D Y ad cA tys n sa) {β : Type} {Rr : Option β} {q : Nat} {f : Mem → Option β} {ci N : Nat} {Cn : String} {T : u_T} (cl : vwCl[ci]? = some (Cn, T, N) ∧ (∀ w ∈ u_ws Cn T N, w ∈ TT) ∧ nf Y ci = N) {kc : Nat} (hn1 : kc < 1000) (o : OB Y n kc ci) (j : Nat) (hj : j < N) (hf : ft Y ci j = 1) (hu : ∀ i, i < N → ft Y ci i = 1 → i = j) (ty0 : Nat → FieldType) (hty : ∀ k, k < N → parseFieldDescriptor (T k).2.2.1 = some (ty0 k)) (hnm : ∀ a, a < N → ∀ b, b < N → a ≠ b → (T a).2.1 ≠ (T b).2.1) (hfin : (T j).2.2.2 = false) (hna : narrow (ty0 j) (.ref (ad q)) = .ref (ad q)) (hfi : fits (ty0 j) (.ref (ad q)) = true) {ix : Nat} (w : Cond.fieldLink own ix (T j).1 (T j).2.1 (T j).2.2.1 ∈ TT) (d : decode cc pc = .ok (.putfield ix, 3)) (h : bnd (stR g kc q) f = Rr) (pc2 : Nat) (e2 : pc + 3 = pc2) (k : ∀ g1, f g1 = Rr → WW p l e R s m args below meth c nL D Y ad cA n Q g1 pc2 lv (st)) : WW p l e R s m args below meth c nL D Y ad cA n Q g pc lv (.ref (ad q) :: .ref (ad kc) :: st) := by
  subst e2; exact fun H locs ls cells slots hcz hP hS hl => va_put C.1 C.2.1 C.2.2.2.2.1 cl.2.1 ty0 hty hnm C.2.2.2.1 C.2.2.2.2.2.1 hP (wl_D C.2.2.2.2.2.2.1) hS kc ((wl_get o.1).trans (by rw [cf_ob o (cl_lt cl.1) cl.2.2])) cl.1 j hj (C.2.2.2.2.1 _ w) (fun _ h => h) hfin (hty j hj) hna hfi (by simpa using hj) d (fun H1 locs1 hP1 hD1 hS1 => k _ h H1 locs1 ls cells slots hcz (by rw [wl_stR o (cl_lt cl.1) hn1 cl.2.2 hf hu] at hP1; exact hP1) hS1 hl)
theorem ww_iald (C : CX p R s m args meth c cc nL own rk D Y ad cA tys n sa) {β : Type} {R1 : β} {q L : Nat} {i : Int32} (o : IA Y n q L) (d : decode cc pc = .ok (.iaload, 1)) {A : Option β} {ins : Decidable (vp_in i L)} (h : @ite _ (vp_in i L) ins A none = some R1) (pc2 : Nat) (e2 : pc + 1 = pc2) (k : A = some R1 → WW p l e R s m args below meth c nL D Y ad cA n Q g pc2 lv (.int (g.1 q i.toNatClampNeg) :: st)) : WW p l e R s m args below meth c nL D Y ad cA n Q g pc lv (.int i :: .ref (ad q) :: st) := by
  subst e2; by_cases hi : vp_in i L
  · rw [if_pos hi] at h; exact fun H locs ls cells slots hcz hP hS hl => va_iald C.1 C.2.1 C.2.2.2.2.2.1 hP q 0 ((wl_get o.1).trans (by rw [cf_ia o])) (C.2.2.2.2.2.2.1.2.1 q o.1 o.2.1) hi d (k h H locs ls cells slots hcz hP hS hl)
  · rw [if_neg hi] at h; cases h
theorem ww_iast (C : CX p R s m args meth c cc nL own rk D Y ad cA tys n sa) {β : Type} {R1 : β} {q L : Nat} {i x : Int32} (o : IA Y n q L) (d : decode cc pc = .ok (.iastore, 1)) {f : Mem → Option β} {ins : Decidable (vp_in i L)} (h : @ite _ (vp_in i L) ins (bnd (stI g q i.toNatClampNeg x) f) none = some R1) (pc2 : Nat) (e2 : pc + 1 = pc2) (k : ∀ g1, f g1 = some R1 → WW p l e R s m args below meth c nL D Y ad cA n Q g1 pc2 lv (st)) : WW p l e R s m args below meth c nL D Y ad cA n Q g pc lv (.int x :: .int i :: .ref (ad q) :: st) := by
  subst e2; by_cases hi : vp_in i L
  · rw [if_pos hi] at h; exact fun H locs ls cells slots hcz hP hS hl => va_iast C.1 C.2.1 C.2.2.2.2.2.1 hP (wl_D C.2.2.2.2.2.2.1) hS q 0 ((wl_get o.1).trans (by rw [cf_ia o])) (C.2.2.2.2.2.2.1.2.1 q o.1 o.2.1) hi d (fun H1 locs1 hP1 hD1 hS1 => k _ h H1 locs1 ls cells slots hcz (by rw [wl_stA o] at hP1; exact hP1) hS1 hl)
  · rw [if_neg hi] at h; cases h
theorem ww_aald (C : CX p R s m args meth c cc nL own rk D Y ad cA tys n sa) {β : Type} {R1 : β} {q L : Nat} {i : Int32} (hq : q < n) (hk1 : kd Y q = 1) (hL : ln Y q = L) (d : decode cc pc = .ok (.aaload, 1)) {A : Option β} {ins : Decidable (vp_in i L)} (h : @ite _ (vp_in i L) ins A none = some R1) (t : Nat) (ht : so Y q i.toNatClampNeg = t) (pc2 : Nat) (e2 : pc + 1 = pc2) (k : vp_in i L → A = some R1 → WW p l e R s m args below meth c nL D Y ad cA n Q g pc2 lv (.ref (ad t) :: st)) : WW p l e R s m args below meth c nL D Y ad cA n Q g pc lv (.int i :: .ref (ad q) :: st) := by
  subst e2; by_cases hi : vp_in i L
  · rw [if_pos hi] at h
    obtain ⟨t0, Cq, ht0⟩ := C.2.2.2.2.2.2.1.2.2.1 q hq hk1
    exact fun H locs ls cells slots hcz hP hS hl => va_aldq C.1 C.2.1 C.2.2.2.2.2.1 hP q t0 (n := L) (f := fun j => some (ad (so Y q j))) ((wl_get hq).trans (by simp [cf, hk1, hL])) ht0 hi d (by subst ht; exact k hi h H locs ls cells slots hcz hP hS hl)
  · rw [if_neg hi] at h; cases h
theorem ww_alen (C : CX p R s m args meth c cc nL own rk D Y ad cA tys n sa) {q L : Nat} (o : IA Y n q L) (v : Int32) (hv : Int32.ofNat L = v) (d : decode cc pc = .ok (.arraylength, 1)) (pc2 : Nat) (e2 : pc + 1 = pc2) (k : WW p l e R s m args below meth c nL D Y ad cA n Q g pc2 lv (.int v :: st)) : WW p l e R s m args below meth c nL D Y ad cA n Q g pc lv (.ref (ad q) :: st) := by
  subst e2; exact fun H locs ls cells slots hcz hP hS hl => va_alen C.1 C.2.1 C.2.2.2.2.2.1 hP q 0 ((wl_get o.1).trans (by rw [cf_ia o])) (C.2.2.2.2.2.2.1.2.1 q o.1 o.2.1) hv d (k H locs ls cells slots hcz hP hS hl)
theorem ww_gets0 (C : CX p R s m args meth c cc nL own rk D Y ad cA tys n sa) {ix : Nat} (w : Cond.fieldLink own ix "SalvageOfDays" "CASK_MOST" "[I" ∈ TT) (d : decode cc pc = .ok (.getstatic ix, 3)) (pc2 : Nat) (e2 : pc + 3 = pc2) (k : WW p l e R s m args below meth c nL D Y ad cA n Q g pc2 lv (.ref (sa.1 0) :: st)) : WW p l e R s m args below meth c nL D Y ad cA n Q g pc lv (st) := by
  subst e2; exact fun H locs ls cells slots hcz hP hS hl => va_gets C.1 C.2.1 C.2.2.2.2.2.2.2.1.1 hS C.2.2.2.1 (C.2.2.2.2.1 _ w) (fun _ h => h) d (k H locs ls cells slots hcz hP hS hl)
theorem ww_tld0 (C : CX p R s m args meth c cc nL own rk D Y ad cA tys n sa) {β : Type} {R1 : β} {i : Int32} (d : decode cc pc = .ok (.iaload, 1)) {A : Option β} {ins : Decidable (vp_in i 4)} (h : @ite _ (vp_in i 4) ins A none = some R1) (pc2 : Nat) (e2 : pc + 1 = pc2) (k : A = some R1 → WW p l e R s m args below meth c nL D Y ad cA n Q g pc2 lv (.int (fCM i.toNatClampNeg) :: st)) : WW p l e R s m args below meth c nL D Y ad cA n Q g pc lv (.int i :: .ref (sa.1 0) :: st) := by
  subst e2; by_cases hi : vp_in i 4
  · rw [if_pos hi] at h; exact fun H locs ls cells slots hcz hP hS hl => va_ti C.1 C.2.1 C.2.2.2.2.2.2.2.1.2.1 hS hi rfl d (k h H locs ls cells slots hcz hP hS hl)
  · rw [if_neg hi] at h; cases h
theorem ww_tlen0 (C : CX p R s m args meth c cc nL own rk D Y ad cA tys n sa) (v : Int32) (hv : Int32.ofNat 4 = v) (d : decode cc pc = .ok (.arraylength, 1)) (pc2 : Nat) (e2 : pc + 1 = pc2) (k : WW p l e R s m args below meth c nL D Y ad cA n Q g pc2 lv (.int v :: st)) : WW p l e R s m args below meth c nL D Y ad cA n Q g pc lv (.ref (sa.1 0) :: st) := by
  subst e2; exact fun H locs ls cells slots hcz hP hS hl => va_tlen C.1 C.2.1 C.2.2.2.2.2.2.2.1.2.1 hS hv d (k H locs ls cells slots hcz hP hS hl)
theorem ww_sld (C : CX p R s m args meth c cc nL own rk D Y ad cA tys n sa) {β : Type} {R1 : β} {i : Int32} (d : decode cc pc = .ok (.iaload, 1)) {A : Option β} {ins : Decidable (vp_in i sa.2.2.1)} (h : @ite _ (vp_in i sa.2.2.1) ins A none = some R1) (pc2 : Nat) (e2 : pc + 1 = pc2) (k : A = some R1 → WW p l e R s m args below meth c nL D Y ad cA n Q g pc2 lv (.int (sa.2.2.2 i.toNatClampNeg) :: st)) : WW p l e R s m args below meth c nL D Y ad cA n Q g pc lv (.int i :: .ref (sa.1 3) :: st) := by
  subst e2; by_cases hi : vp_in i sa.2.2.1
  · rw [if_pos hi] at h; exact fun H locs ls cells slots hcz hP hS hl => va_ti C.1 C.2.1 C.2.2.2.2.2.2.2.1.2.2.2.2.2.2.2.2.2.2.2.2.1 hS hi rfl d (k h H locs ls cells slots hcz hP hS hl)
  · rw [if_neg hi] at h; cases h
theorem ww_slen (C : CX p R s m args meth c cc nL own rk D Y ad cA tys n sa) (v : Int32) (hv : Int32.ofNat sa.2.2.1 = v) (d : decode cc pc = .ok (.arraylength, 1)) (pc2 : Nat) (e2 : pc + 1 = pc2) (k : WW p l e R s m args below meth c nL D Y ad cA n Q g pc2 lv (.int v :: st)) : WW p l e R s m args below meth c nL D Y ad cA n Q g pc lv (.ref (sa.1 3) :: st) := by
  subst e2; exact fun H locs ls cells slots hcz hP hS hl => va_tlen C.1 C.2.1 C.2.2.2.2.2.2.2.1.2.2.2.2.2.2.2.2.2.2.2.2.1 hS hv d (k H locs ls cells slots hcz hP hS hl)
theorem ww_lald (C : CX p R s m args meth c cc nL own rk D Y ad cA tys n sa) {β : Type} {R1 : β} {q L : Nat} {i : Int32} (o : LA Y n q L) (d : decode cc pc = .ok (.laload, 1)) {A : Option β} {ins : Decidable (vp_in i L)} (h : @ite _ (vp_in i L) ins A none = some R1) (pc2 : Nat) (e2 : pc + 1 = pc2) (k : A = some R1 → WW p l e R s m args below meth c nL D Y ad cA n Q g pc2 lv (.long (ldL g i.toNatClampNeg) :: st)) : WW p l e R s m args below meth c nL D Y ad cA n Q g pc lv (.int i :: .ref (ad q) :: st) := by
  subst e2; by_cases hi : vp_in i L
  · rw [if_pos hi] at h; exact fun H locs ls cells slots hcz hP hS hl => va_lald C.1 C.2.1 C.2.2.2.2.2.1 hP q 3 ((wl_get o.1).trans (by rw [cf_la o])) (C.2.2.2.2.2.2.1.2.2.2.1 q o.1 o.2.1) hi d (k h H locs ls cells slots hcz hP hS hl)
  · rw [if_neg hi] at h; cases h
theorem ww_last (C : CX p R s m args meth c cc nL own rk D Y ad cA tys n sa) {β : Type} {R1 : β} {q L : Nat} {i : Int32} {x : Int64} (o : LA Y n q L) (ho : ∀ a, a < n → kd Y a = 9 → a = q) (d : decode cc pc = .ok (.lastore, 1)) {f : Mem → Option β} {ins : Decidable (vp_in i L)} (h : @ite _ (vp_in i L) ins (bnd (stL g i.toNatClampNeg x) f) none = some R1) (pc2 : Nat) (e2 : pc + 1 = pc2) (k : ∀ g1, f g1 = some R1 → WW p l e R s m args below meth c nL D Y ad cA n Q g1 pc2 lv (st)) : WW p l e R s m args below meth c nL D Y ad cA n Q g pc lv (.long x :: .int i :: .ref (ad q) :: st) := by
  subst e2; by_cases hi : vp_in i L
  · rw [if_pos hi] at h; exact fun H locs ls cells slots hcz hP hS hl => va_last C.1 C.2.1 C.2.2.2.2.2.1 hP (wl_D C.2.2.2.2.2.2.1) hS q 3 ((wl_get o.1).trans (by rw [cf_la o])) (C.2.2.2.2.2.2.1.2.2.2.1 q o.1 o.2.1) hi d (fun H1 locs1 hP1 hD1 hS1 => k _ h H1 locs1 ls cells slots hcz (by rw [wl_stL C.2.2.2.2.2.2.1.2.2.2.2 o ho] at hP1; exact hP1) hS1 hl)
  · rw [if_neg hi] at h; cases h
theorem ww_lmax (C : CX p R s m args meth c cc nL own rk D Y ad cA tys n sa) {x y : Int64} {ix : Nat} (w1 : Cond.methodLink own ix Lib.MathLoose.max_long.x ∈ TT) (w2 : Cond.static Lib.MathLoose.max_long.x ∈ TT ∧ Cond.initialized "java/lang/Math" ∈ TT ∧ Cond.code Lib.MathLoose.max_long.x Lib.MathLoose.max_long.code 4 (some .long) ∈ TT) (h1 : 1 ≤ rk) (hst : (st.map fun v => v.category).sum ≤ 8) (d : decode cc pc = .ok (.invokestatic ix, 3)) (pc2 : Nat) (e2 : pc + 3 = pc2) (k : WW p l e R s m args below meth c nL D Y ad cA n Q g pc2 lv (.long (if y < x then x else y) :: st)) : WW p l e R s m args below meth c nL D Y ad cA n Q g pc lv (.long y :: .long x :: st) := by
  subst e2; exact fun H locs ls cells slots hcz hP hS hl => va_mmax_long C.1 C.2.1 (C.2.2.1.trans hl.1.symm) C.2.2.2.1 (C.2.2.2.2.1 _ w1) (C.2.2.2.2.1 _ w2.1) (C.2.2.2.2.1 _ w2.2.1) (C.2.2.2.2.1 _ w2.2.2) (Nat.le_trans h1 C.2.2.2.2.2.2.2.2.1.1) (by have := C.2.2.2.2.2.2.2.2.1.2; omega) hcz.1.1 hcz.1.2 d (k H locs ls cells slots hcz hP hS hl)
theorem ww_lmin (C : CX p R s m args meth c cc nL own rk D Y ad cA tys n sa) {x y : Int64} {ix : Nat} (w1 : Cond.methodLink own ix Lib.MathLoose.min_long.x ∈ TT) (w2 : Cond.static Lib.MathLoose.min_long.x ∈ TT ∧ Cond.initialized "java/lang/Math" ∈ TT ∧ Cond.code Lib.MathLoose.min_long.x Lib.MathLoose.min_long.code 4 (some .long) ∈ TT) (h1 : 1 ≤ rk) (hst : (st.map fun v => v.category).sum ≤ 8) (d : decode cc pc = .ok (.invokestatic ix, 3)) (pc2 : Nat) (e2 : pc + 3 = pc2) (k : WW p l e R s m args below meth c nL D Y ad cA n Q g pc2 lv (.long (if y < x then y else x) :: st)) : WW p l e R s m args below meth c nL D Y ad cA n Q g pc lv (.long y :: .long x :: st) := by
  subst e2; exact fun H locs ls cells slots hcz hP hS hl => va_mmin_long C.1 C.2.1 (C.2.2.1.trans hl.1.symm) C.2.2.2.1 (C.2.2.2.2.1 _ w1) (C.2.2.2.2.1 _ w2.1) (C.2.2.2.2.1 _ w2.2.1) (C.2.2.2.2.1 _ w2.2.2) (Nat.le_trans h1 C.2.2.2.2.2.2.2.2.1.1) (by have := C.2.2.2.2.2.2.2.2.1.2; omega) hcz.1.1 hcz.1.2 d (k H locs ls cells slots hcz hP hS hl)
theorem ww_max (C : CX p R s m args meth c cc nL own rk D Y ad cA tys n sa) {x y : Int32} {ix : Nat} (w1 : Cond.methodLink own ix Lib.Math.max.name ∈ TT) (w2 : Cond.static Lib.Math.max.name ∈ TT ∧ Cond.initialized "java/lang/Math" ∈ TT ∧ Cond.code Lib.Math.max.name Lib.Math.max.code 2 (some .int) ∈ TT) (h1 : 1 ≤ rk) (hst : (st.map fun v => v.category).sum ≤ 8) (d : decode cc pc = .ok (.invokestatic ix, 3)) (pc2 : Nat) (e2 : pc + 3 = pc2) (k : WW p l e R s m args below meth c nL D Y ad cA n Q g pc2 lv (.int (if x < y then y else x) :: st)) : WW p l e R s m args below meth c nL D Y ad cA n Q g pc lv (.int y :: .int x :: st) := by
  subst e2; exact fun H locs ls cells slots hcz hP hS hl => va_mmax C.1 C.2.1 (C.2.2.1.trans hl.1.symm) C.2.2.2.1 (C.2.2.2.2.1 _ w1) (C.2.2.2.2.1 _ w2.1) (C.2.2.2.2.1 _ w2.2.1) (C.2.2.2.2.1 _ w2.2.2) (Nat.le_trans h1 C.2.2.2.2.2.2.2.2.1.1) (by have := C.2.2.2.2.2.2.2.2.1.2; omega) hcz.1.1 hcz.1.2 d (k H locs ls cells slots hcz hP hS hl)
theorem ww_min (C : CX p R s m args meth c cc nL own rk D Y ad cA tys n sa) {x y : Int32} {ix : Nat} (w1 : Cond.methodLink own ix Lib.Math.min.name ∈ TT) (w2 : Cond.static Lib.Math.min.name ∈ TT ∧ Cond.initialized "java/lang/Math" ∈ TT ∧ Cond.code Lib.Math.min.name Lib.Math.min.code 2 (some .int) ∈ TT) (h1 : 1 ≤ rk) (hst : (st.map fun v => v.category).sum ≤ 8) (d : decode cc pc = .ok (.invokestatic ix, 3)) (pc2 : Nat) (e2 : pc + 3 = pc2) (k : WW p l e R s m args below meth c nL D Y ad cA n Q g pc2 lv (.int (if y < x then y else x) :: st)) : WW p l e R s m args below meth c nL D Y ad cA n Q g pc lv (.int y :: .int x :: st) := by
  subst e2; exact fun H locs ls cells slots hcz hP hS hl => va_mmin C.1 C.2.1 (C.2.2.1.trans hl.1.symm) C.2.2.2.1 (C.2.2.2.2.1 _ w1) (C.2.2.2.2.1 _ w2.1) (C.2.2.2.2.1 _ w2.2.1) (C.2.2.2.2.1 _ w2.2.2) (Nat.le_trans h1 C.2.2.2.2.2.2.2.2.1.1) (by have := C.2.2.2.2.2.2.2.2.1.2; omega) hcz.1.1 hcz.1.2 d (k H locs ls cells slots hcz hP hS hl)
theorem ww_copy (C : CX p R s m args meth c cc nL own rk D Y ad cA tys n sa) {β : Type} {R1 : β} {q0 q1 L0 L1 : Nat} {sp dp z : Int32} (o0 : IA Y n q0 L0) (o1 : IA Y n q1 L1) {ix : Nat} (w1 : Cond.methodLink own ix arraycopyName ∈ TT) (w2 : Cond.native arraycopyName ∈ TT ∧ Cond.static arraycopyName ∈ TT ∧ Cond.initialized "java/lang/System" ∈ TT) (h1 : 1 ≤ rk) (hst : (st.map fun v => v.category).sum ≤ 8) (d : decode cc pc = .ok (.invokestatic ix, 3)) {f : Mem → Option β} {ins : Decidable (cpOk sp dp z L0 L1)} (h : @ite _ (cpOk sp dp z L0 L1) ins (bnd (stA g q1 (va_cpy (g.1 q0) (g.1 q1) sp.toNatClampNeg dp.toNatClampNeg z.toNatClampNeg)) f) none = some R1) (pc2 : Nat) (e2 : pc + 3 = pc2) (k : ∀ g1, f g1 = some R1 → WW p l e R s m args below meth c nL D Y ad cA n Q g1 pc2 lv (st)) : WW p l e R s m args below meth c nL D Y ad cA n Q g pc lv (.int z :: .int dp :: .ref (ad q1) :: .int sp :: .ref (ad q0) :: st) := by
  subst e2; by_cases hi : cpOk sp dp z L0 L1
  · rw [if_pos hi] at h
    have h9 : nativeFrameWords "java/lang/System" "arraycopy" 5 + 11 ≤ 32 := by decide +kernel
    have h7 := C.2.2.2.2.2.2.2.2.1.2
    have h8 : (st.map fun v => v.category).sum + (nativeFrameWords "java/lang/System" "arraycopy" 5 + 11) ≤ R.locals := by omega
    exact fun H locs ls cells slots hcz hP hS hl => va_copyi C.1 C.2.1 (C.2.2.1.trans hl.1.symm) C.2.2.2.1 (C.2.2.2.2.1 _ w1) (C.2.2.2.2.1 _ w2.1) (C.2.2.2.2.1 _ w2.2.1) (C.2.2.2.2.1 _ w2.2.2) C.2.2.2.2.2.1 hP (wl_D C.2.2.2.2.2.2.1) hS q0 q1 0 0 ((wl_get o0.1).trans (by rw [cf_ia o0])) ((wl_get o1.1).trans (by rw [cf_ia o1])) (C.2.2.2.2.2.2.1.2.1 q0 o0.1 o0.2.1) (C.2.2.2.2.2.2.1.2.1 q1 o1.1 o1.2.1) rfl hi.1 hi.2.1 hi.2.2.1 hi.2.2.2.1 hi.2.2.2.2 (fun _ _ => rfl) (Nat.le_trans h1 C.2.2.2.2.2.2.2.2.1.1) h8 d (fun H1 locs1 hP1 hD1 hS1 => k _ h H1 locs1 ls cells slots hcz (by rw [wl_stA o1] at hP1; exact hP1) hS1 hl)
  · rw [if_neg hi] at h; cases h
theorem ww_iret (C : CX p R s m args meth c cc nL own rk D Y ad cA tys n sa) {v r : Int32} {g1 : Mem} (d : decode cc pc = .ok (.ireturn, 1)) (hr : meth.sig.returnType = some .int ∧ R.cells = 0 ∧ R.slots = 0) (h : some (v, g) = some (r, g1)) : WW p l e R s m args below meth c nL D Y ad cA n (MQ below (PBi D Y ad cA n r g1 s.heap.size) args s 0 0 (AA n ad s.heap.size)) g pc lv ([.int v]) := by
  cases h; exact fun H locs ls cells slots hcz hP hS hl => by have e1 : cells = 0 := Nat.le_zero.mp (hr.2.1 ▸ hcz.1.1); have e2 : slots = 0 := Nat.le_zero.mp (hr.2.2 ▸ hcz.1.2); subst e1; subst e2; exact W.iret C.1 C.2.1 hr.1 (fun t ht hW => ⟨⟨v, (), rfl, rfl, by show va_P D vwCl (wl Y ad cA n g) t.heap; rw [ht]; exact hP⟩, hS.F ht⟩) hS.2.2 d C.2.2.2.2.2.2.2.2.2
theorem ww_zret (C : CX p R s m args meth c cc nL own rk D Y ad cA tys n sa) {v r : Int32} {g1 : Mem} {ty : FieldType} (d : decode cc pc = .ok (.ireturn, 1)) (hr : meth.sig.returnType = some ty ∧ R.cells = 0 ∧ R.slots = 0) (hna : narrow ty (.int v) = .int v) (h : some (v, g) = some (r, g1)) : WW p l e R s m args below meth c nL D Y ad cA n (MQ below (PBi D Y ad cA n r g1 s.heap.size) args s 0 0 (AA n ad s.heap.size)) g pc lv ([.int v]) := by
  cases h; exact fun H locs ls cells slots hcz hP hS hl => by have e1 : cells = 0 := Nat.le_zero.mp (hr.2.1 ▸ hcz.1.1); have e2 : slots = 0 := Nat.le_zero.mp (hr.2.2 ▸ hcz.1.2); subst e1; subst e2; exact W.zret C.1 C.2.1 hr.1 hna (fun t ht hW => ⟨⟨v, (), rfl, rfl, by show va_P D vwCl (wl Y ad cA n g) t.heap; rw [ht]; exact hP⟩, hS.F ht⟩) hS.2.2 d C.2.2.2.2.2.2.2.2.2
theorem ww_zretG (C : CX p R s m args meth c cc nL own rk D Y ad cA tys n sa) {v r : Int32} {g1 : Mem} (d : decode cc pc = .ok (.ireturn, 1)) (hr : meth.sig.returnType = some .boolean ∧ R.cells = 0 ∧ R.slots = 0) {ins : Decidable (isB v)} (h : @ite _ (isB v) ins (some (v, g)) none = some (r, g1)) : WW p l e R s m args below meth c nL D Y ad cA n (MQ below (PBi D Y ad cA n r g1 s.heap.size) args s 0 0 (AA n ad s.heap.size)) g pc lv ([.int v]) := by
  by_cases hb : isB v
  · rw [if_pos hb] at h; exact ww_zret C d hr (by rcases hb with rfl | rfl <;> rfl) h
  · rw [if_neg hb] at h; cases h
theorem ww_lret (C : CX p R s m args meth c cc nL own rk D Y ad cA tys n sa) {v r : Int64} {g1 : Mem} (d : decode cc pc = .ok (.lreturn, 1)) (hr : meth.sig.returnType = some .long ∧ R.cells = 0 ∧ R.slots = 0) (h : some (v, g) = some (r, g1)) : WW p l e R s m args below meth c nL D Y ad cA n (MQ below (PBl D Y ad cA n r g1 s.heap.size) args s 0 0 (AA n ad s.heap.size)) g pc lv ([.long v]) := by
  cases h; exact fun H locs ls cells slots hcz hP hS hl => by have e1 : cells = 0 := Nat.le_zero.mp (hr.2.1 ▸ hcz.1.1); have e2 : slots = 0 := Nat.le_zero.mp (hr.2.2 ▸ hcz.1.2); subst e1; subst e2; exact W.lret C.1 C.2.1 hr.1 (fun t ht hW => ⟨⟨v, (), rfl, rfl, by show va_P D vwCl (wl Y ad cA n g) t.heap; rw [ht]; exact hP⟩, hS.F ht⟩) hS.2.2 d C.2.2.2.2.2.2.2.2.2
theorem ww_vret (C : CX p R s m args meth c cc nL own rk D Y ad cA tys n sa) {r : Int32} {g1 : Mem} (d : decode cc pc = .ok (.return_, 1)) (hr : meth.sig.returnType = none ∧ R.cells = 0 ∧ R.slots = 0) (h : some ((0 : Int32), g) = some (r, g1)) : WW p l e R s m args below meth c nL D Y ad cA n (MQ below (PBv D Y ad cA n g1 s.heap.size) args s 0 0 (AA n ad s.heap.size)) g pc lv ([]) := by
  cases h; exact fun H locs ls cells slots hcz hP hS hl => by have e1 : cells = 0 := Nat.le_zero.mp (hr.2.1 ▸ hcz.1.1); have e2 : slots = 0 := Nat.le_zero.mp (hr.2.2 ▸ hcz.1.2); subst e1; subst e2; exact W.vret C.1 C.2.1 hr.1 (fun t ht hW => ⟨⟨(), rfl, trivial, by show va_P D vwCl (wl Y ad cA n g) t.heap; rw [ht]; exact hP⟩, hS.F ht⟩) hS.2.2 d C.2.2.2.2.2.2.2.2.2
theorem ww_aret (C : CX p R s m args meth c cc nL own rk D Y ad cA tys n sa) {v r : Nat} {g1 : Mem} {ty : FieldType} (d : decode cc pc = .ok (.areturn, 1)) (hr : meth.sig.returnType = some (.array ty) ∧ R.cells = 0 ∧ R.slots = 0) (h : some (v, g) = some (r, g1)) : WW p l e R s m args below meth c nL D Y ad cA n (MQ below (PBq D Y ad cA n r g1 s.heap.size) args s 0 0 (AA n ad s.heap.size)) g pc lv ([.ref (ad v)]) := by
  cases h; exact fun H locs ls cells slots hcz hP hS hl => by have e1 : cells = 0 := Nat.le_zero.mp (hr.2.1 ▸ hcz.1.1); have e2 : slots = 0 := Nat.le_zero.mp (hr.2.2 ▸ hcz.1.2); subst e1; subst e2; exact W.aret C.1 C.2.1 hr.1 (Or.inr ⟨_, rfl⟩) (Or.inr ⟨_, rfl⟩) (fun t ht hW => ⟨⟨(), ad v, rfl, trivial, rfl, by show va_P D vwCl (wl Y ad cA n g) t.heap; rw [ht]; exact hP⟩, hS.F ht⟩) hS.2.2 d C.2.2.2.2.2.2.2.2.2
theorem ww_sub (ks : List Nat) (hk : lv_pick lv ks = lv') (k : WW p l e R s m args below meth c nL D Y ad cA n Q g pc lv' (st)) : WW p l e R s m args below meth c nL D Y ad cA n Q g pc lv (st) := fun H locs ls cells slots hcz hP hS hl => k H locs ls cells slots hcz hP hS (lv_sub hl ks hk)
theorem ww_callSi (C : CX p R s m args meth c cc nL own rk D Y ad cA tys n sa) {β : Type} {R1 : β} {y : MethodName} {cy : ByteArray} {mL rk2 nA ix : Nat} {ret : Option FieldType} {As : List Value} {stk : List Value} {F : Option (Int32 × Mem)} {f : Int32 → Mem → Option β} (h : ob F f = some R1) (K : ∀ r g1, F = some (r, g1) → CTi l y (wsm y cy mL ret) rk2 D Y ad cA tys n sa g As r g1) (w1 : Cond.methodLink own ix y ∈ TT) (w2 : CS y cy mL ret nA) (hrk : rk2 + 1 ≤ rk) (hmL : mL ≤ 21) (hn : As.length = nA) (hst : stk = As.reverse ++ st) (hroom : (st.map fun v => v.category).sum ≤ 8) (d : decode cc pc = .ok (.invokestatic ix, 3)) (pc2 : Nat) (e2 : pc + 3 = pc2) (k : ∀ r g1, f r g1 = some R1 → WW p l e R s m args below meth c nL D Y ad cA n Q g1 pc2 lv (.int r :: st)) : WW p l e R s m args below meth c nL D Y ad cA n Q g pc lv (stk) := by
  subst e2; subst hst
  obtain ⟨r, g1, hF, hh⟩ := ob_some h
  have hM := K r g1 hF
  have hR := C.2.2.2.2.2.2.2.2.1
  exact fun H locs ls cells slots hcz hP hS hl => va_calli (va_runS (As := As) (rest := st) ⟨C.1, C.2.1, C.2.2.1, C.2.2.2.1, C.2.2.2.2.1⟩ (hM H.size) (va_cwS nA C.2.2.2.2.1 (gS w1 w2) rfl rfl rfl w2.2.2.2 ⟨(by show rk2 + 1 ≤ R.frames; omega), (by show 8 + (mL + 11) + 40 * rk2 ≤ R.locals; omega)⟩) ⟨PRE_blind, fun U hU hW => ⟨rfl, by rw [hU], by rw [hU]; exact hP, va_K.moved hW.alike C.2.2.2.2.2.1, C.2.2.2.2.2.2.1, by have := C.2.2.2.2.2.2.2.1.call (B := AA n ad H.size) hS hU hW (fun q hq => AA_sub hS.1 hq); exact this⟩⟩ rfl hn hl.1 rfl (lv_room hroom) d hcz.1) hS (fun q _ hq => AA_sub hS.1 hq) (fun q hq => AA_sub hS.1 hq) (fun r2 u t H1 locs1 ht hvm hw hB hz hk hS1 => by subst hw; rw [ht] at hB; exact k _ _ hh H1 locs1 ls cells slots hcz hB hS1 hl)
theorem ww_callNi (C : CX p R s m args meth c cc nL own rk D Y ad cA tys n sa) {β : Type} {R1 : β} {y : MethodName} {cy : ByteArray} {mL rk2 nA ix : Nat} {ret : Option FieldType} {As : List Value} {stk : List Value} {F : Option (Int32 × Mem)} {f : Int32 → Mem → Option β} (h : ob F f = some R1) {host : String} (K : ∀ r g1, F = some (r, g1) → CTi l y (wsm y cy mL ret) rk2 D Y ad cA tys n sa g As r g1) (w1 : va_Nw (.methodLinkNest own ix y host) s) (w2 : CS y cy mL ret nA) (hrk : rk2 + 1 ≤ rk) (hmL : mL ≤ 21) (hn : As.length = nA) (hst : stk = As.reverse ++ st) (hroom : (st.map fun v => v.category).sum ≤ 8) (d : decode cc pc = .ok (.invokestatic ix, 3)) (pc2 : Nat) (e2 : pc + 3 = pc2) (k : ∀ r g1, f r g1 = some R1 → WW p l e R s m args below meth c nL D Y ad cA n Q g1 pc2 lv (.int r :: st)) : WW p l e R s m args below meth c nL D Y ad cA n Q g pc lv (stk) := by
  subst e2; subst hst
  obtain ⟨r, g1, hF, hh⟩ := ob_some h
  have hM := K r g1 hF
  have hR := C.2.2.2.2.2.2.2.2.1
  exact fun H locs ls cells slots hcz hP hS hl => va_calli (va_runSN (As := As) (rest := st) ⟨C.1, C.2.1, C.2.2.1, C.2.2.2.1, C.2.2.2.2.1⟩ (hM H.size) ⟨va_cnB nA C.2.2.2.2.1 (gM w2.2.2.1) rfl rfl rfl w1 (C.2.2.2.2.1 _ w2.2.1) w2.2.2.2 ⟨(by show rk2 + 1 ≤ R.frames; omega), (by show 8 + (mL + 11) + 40 * rk2 ≤ R.locals; omega)⟩, C.2.2.2.2.1 _ w2.1, trivial⟩ ⟨PRE_blind, fun U hU hW => ⟨rfl, by rw [hU], by rw [hU]; exact hP, va_K.moved hW.alike C.2.2.2.2.2.1, C.2.2.2.2.2.2.1, by have := C.2.2.2.2.2.2.2.1.call (B := AA n ad H.size) hS hU hW (fun q hq => AA_sub hS.1 hq); exact this⟩⟩ rfl hn hl.1 rfl (lv_room hroom) d hcz.1) hS (fun q _ hq => AA_sub hS.1 hq) (fun q hq => AA_sub hS.1 hq) (fun r2 u t H1 locs1 ht hvm hw hB hz hk hS1 => by subst hw; rw [ht] at hB; exact k _ _ hh H1 locs1 ls cells slots hcz hB hS1 hl)
theorem ww_callVi (C : CX p R s m args meth c cc nL own rk D Y ad cA tys n sa) {β : Type} {R1 : β} {y : MethodName} {cy : ByteArray} {mL rk2 nA ix : Nat} {ret : Option FieldType} {As : List Value} {stk : List Value} {F : Option (Int32 × Mem)} {f : Int32 → Mem → Option β} (h : ob F f = some R1) {kc ci N : Nat} {Cn : String} {T : u_T} (cl : vwCl[ci]? = some (Cn, T, N)) (o : OB Y n kc ci) (K : ∀ r g1, F = some (r, g1) → CTi l y (wsm y cy mL ret) rk2 D Y ad cA tys n sa g (.ref (ad kc) :: As) r g1) (w1 : Cond.methodLink own ix y ∈ TT) (w2 : CV Cn y cy mL ret nA) (hrk : rk2 + 1 ≤ rk) (hmL : mL ≤ 21) (hn : As.length = nA) (hst : stk = As.reverse ++ .ref (ad kc) :: st) (hroom : (st.map fun v => v.category).sum ≤ 8) (d : decode cc pc = .ok (.invokevirtual ix, 3)) (pc2 : Nat) (e2 : pc + 3 = pc2) (k : ∀ r g1, f r g1 = some R1 → WW p l e R s m args below meth c nL D Y ad cA n Q g1 pc2 lv (.int r :: st)) : WW p l e R s m args below meth c nL D Y ad cA n Q g pc lv (stk) := by
  subst e2; subst hst
  obtain ⟨r, g1, hF, hh⟩ := ob_some h
  have hM := K r g1 hF
  have hR := C.2.2.2.2.2.2.2.2.1
  exact fun H locs ls cells slots hcz hP hS hl => va_calli (va_runV (As := As) (rest := st) ⟨C.1, C.2.1, C.2.2.1, C.2.2.2.1, C.2.2.2.2.1⟩ (hM H.size) (cwV nA C.2.2.2.2.1 (gV w1 w2) rfl rfl rfl w2.2.2.2.2 ⟨(by show rk2 + 1 ≤ R.frames; omega), (by show 8 + (mL + 11) + 40 * rk2 ≤ R.locals; omega)⟩) ⟨PRE_blind, va_recv C.2.2.2.2.2.1 hP cl ((wl_get o.1).trans (by rw [cf_ob o (cl_lt cl) rfl])), fun U hU hW => ⟨rfl, by rw [hU], by rw [hU]; exact hP, va_K.moved hW.alike C.2.2.2.2.2.1, C.2.2.2.2.2.2.1, by have := C.2.2.2.2.2.2.2.1.call (B := AA n ad H.size) hS hU hW (fun q hq => AA_sub hS.1 hq); exact this⟩⟩ rfl hn hl.1 rfl (lv_room hroom) d hcz.1) hS (fun q _ hq => AA_sub hS.1 hq) (fun q hq => AA_sub hS.1 hq) (fun r2 u t H1 locs1 ht hvm hw hB hz hk hS1 => by subst hw; rw [ht] at hB; exact k _ _ hh H1 locs1 ls cells slots hcz hB hS1 hl)
theorem ww_callSl (C : CX p R s m args meth c cc nL own rk D Y ad cA tys n sa) {β : Type} {R1 : β} {y : MethodName} {cy : ByteArray} {mL rk2 nA ix : Nat} {ret : Option FieldType} {As : List Value} {stk : List Value} {F : Option (Int64 × Mem)} {f : Int64 → Mem → Option β} (h : ob F f = some R1) (K : ∀ r g1, F = some (r, g1) → CTl l y (wsm y cy mL ret) rk2 D Y ad cA tys n sa g As r g1) (w1 : Cond.methodLink own ix y ∈ TT) (w2 : CS y cy mL ret nA) (hrk : rk2 + 1 ≤ rk) (hmL : mL ≤ 21) (hn : As.length = nA) (hst : stk = As.reverse ++ st) (hroom : (st.map fun v => v.category).sum ≤ 8) (d : decode cc pc = .ok (.invokestatic ix, 3)) (pc2 : Nat) (e2 : pc + 3 = pc2) (k : ∀ r g1, f r g1 = some R1 → WW p l e R s m args below meth c nL D Y ad cA n Q g1 pc2 lv (.long r :: st)) : WW p l e R s m args below meth c nL D Y ad cA n Q g pc lv (stk) := by
  subst e2; subst hst
  obtain ⟨r, g1, hF, hh⟩ := ob_some h
  have hM := K r g1 hF
  have hR := C.2.2.2.2.2.2.2.2.1
  exact fun H locs ls cells slots hcz hP hS hl => va_calll (va_runS (As := As) (rest := st) ⟨C.1, C.2.1, C.2.2.1, C.2.2.2.1, C.2.2.2.2.1⟩ (hM H.size) (va_cwS nA C.2.2.2.2.1 (gS w1 w2) rfl rfl rfl w2.2.2.2 ⟨(by show rk2 + 1 ≤ R.frames; omega), (by show 8 + (mL + 11) + 40 * rk2 ≤ R.locals; omega)⟩) ⟨PRE_blind, fun U hU hW => ⟨rfl, by rw [hU], by rw [hU]; exact hP, va_K.moved hW.alike C.2.2.2.2.2.1, C.2.2.2.2.2.2.1, by have := C.2.2.2.2.2.2.2.1.call (B := AA n ad H.size) hS hU hW (fun q hq => AA_sub hS.1 hq); exact this⟩⟩ rfl hn hl.1 rfl (lv_room hroom) d hcz.1) hS (fun q _ hq => AA_sub hS.1 hq) (fun q hq => AA_sub hS.1 hq) (fun r2 u t H1 locs1 ht hvm hw hB hz hk hS1 => by subst hw; rw [ht] at hB; exact k _ _ hh H1 locs1 ls cells slots hcz hB hS1 hl)
theorem ww_callNl (C : CX p R s m args meth c cc nL own rk D Y ad cA tys n sa) {β : Type} {R1 : β} {y : MethodName} {cy : ByteArray} {mL rk2 nA ix : Nat} {ret : Option FieldType} {As : List Value} {stk : List Value} {F : Option (Int64 × Mem)} {f : Int64 → Mem → Option β} (h : ob F f = some R1) {host : String} (K : ∀ r g1, F = some (r, g1) → CTl l y (wsm y cy mL ret) rk2 D Y ad cA tys n sa g As r g1) (w1 : va_Nw (.methodLinkNest own ix y host) s) (w2 : CS y cy mL ret nA) (hrk : rk2 + 1 ≤ rk) (hmL : mL ≤ 21) (hn : As.length = nA) (hst : stk = As.reverse ++ st) (hroom : (st.map fun v => v.category).sum ≤ 8) (d : decode cc pc = .ok (.invokestatic ix, 3)) (pc2 : Nat) (e2 : pc + 3 = pc2) (k : ∀ r g1, f r g1 = some R1 → WW p l e R s m args below meth c nL D Y ad cA n Q g1 pc2 lv (.long r :: st)) : WW p l e R s m args below meth c nL D Y ad cA n Q g pc lv (stk) := by
  subst e2; subst hst
  obtain ⟨r, g1, hF, hh⟩ := ob_some h
  have hM := K r g1 hF
  have hR := C.2.2.2.2.2.2.2.2.1
  exact fun H locs ls cells slots hcz hP hS hl => va_calll (va_runSN (As := As) (rest := st) ⟨C.1, C.2.1, C.2.2.1, C.2.2.2.1, C.2.2.2.2.1⟩ (hM H.size) ⟨va_cnB nA C.2.2.2.2.1 (gM w2.2.2.1) rfl rfl rfl w1 (C.2.2.2.2.1 _ w2.2.1) w2.2.2.2 ⟨(by show rk2 + 1 ≤ R.frames; omega), (by show 8 + (mL + 11) + 40 * rk2 ≤ R.locals; omega)⟩, C.2.2.2.2.1 _ w2.1, trivial⟩ ⟨PRE_blind, fun U hU hW => ⟨rfl, by rw [hU], by rw [hU]; exact hP, va_K.moved hW.alike C.2.2.2.2.2.1, C.2.2.2.2.2.2.1, by have := C.2.2.2.2.2.2.2.1.call (B := AA n ad H.size) hS hU hW (fun q hq => AA_sub hS.1 hq); exact this⟩⟩ rfl hn hl.1 rfl (lv_room hroom) d hcz.1) hS (fun q _ hq => AA_sub hS.1 hq) (fun q hq => AA_sub hS.1 hq) (fun r2 u t H1 locs1 ht hvm hw hB hz hk hS1 => by subst hw; rw [ht] at hB; exact k _ _ hh H1 locs1 ls cells slots hcz hB hS1 hl)
theorem ww_callVl (C : CX p R s m args meth c cc nL own rk D Y ad cA tys n sa) {β : Type} {R1 : β} {y : MethodName} {cy : ByteArray} {mL rk2 nA ix : Nat} {ret : Option FieldType} {As : List Value} {stk : List Value} {F : Option (Int64 × Mem)} {f : Int64 → Mem → Option β} (h : ob F f = some R1) {kc ci N : Nat} {Cn : String} {T : u_T} (cl : vwCl[ci]? = some (Cn, T, N)) (o : OB Y n kc ci) (K : ∀ r g1, F = some (r, g1) → CTl l y (wsm y cy mL ret) rk2 D Y ad cA tys n sa g (.ref (ad kc) :: As) r g1) (w1 : Cond.methodLink own ix y ∈ TT) (w2 : CV Cn y cy mL ret nA) (hrk : rk2 + 1 ≤ rk) (hmL : mL ≤ 21) (hn : As.length = nA) (hst : stk = As.reverse ++ .ref (ad kc) :: st) (hroom : (st.map fun v => v.category).sum ≤ 8) (d : decode cc pc = .ok (.invokevirtual ix, 3)) (pc2 : Nat) (e2 : pc + 3 = pc2) (k : ∀ r g1, f r g1 = some R1 → WW p l e R s m args below meth c nL D Y ad cA n Q g1 pc2 lv (.long r :: st)) : WW p l e R s m args below meth c nL D Y ad cA n Q g pc lv (stk) := by
  subst e2; subst hst
  obtain ⟨r, g1, hF, hh⟩ := ob_some h
  have hM := K r g1 hF
  have hR := C.2.2.2.2.2.2.2.2.1
  exact fun H locs ls cells slots hcz hP hS hl => va_calll (va_runV (As := As) (rest := st) ⟨C.1, C.2.1, C.2.2.1, C.2.2.2.1, C.2.2.2.2.1⟩ (hM H.size) (cwV nA C.2.2.2.2.1 (gV w1 w2) rfl rfl rfl w2.2.2.2.2 ⟨(by show rk2 + 1 ≤ R.frames; omega), (by show 8 + (mL + 11) + 40 * rk2 ≤ R.locals; omega)⟩) ⟨PRE_blind, va_recv C.2.2.2.2.2.1 hP cl ((wl_get o.1).trans (by rw [cf_ob o (cl_lt cl) rfl])), fun U hU hW => ⟨rfl, by rw [hU], by rw [hU]; exact hP, va_K.moved hW.alike C.2.2.2.2.2.1, C.2.2.2.2.2.2.1, by have := C.2.2.2.2.2.2.2.1.call (B := AA n ad H.size) hS hU hW (fun q hq => AA_sub hS.1 hq); exact this⟩⟩ rfl hn hl.1 rfl (lv_room hroom) d hcz.1) hS (fun q _ hq => AA_sub hS.1 hq) (fun q hq => AA_sub hS.1 hq) (fun r2 u t H1 locs1 ht hvm hw hB hz hk hS1 => by subst hw; rw [ht] at hB; exact k _ _ hh H1 locs1 ls cells slots hcz hB hS1 hl)
theorem ww_callSv (C : CX p R s m args meth c cc nL own rk D Y ad cA tys n sa) {β : Type} {R1 : β} {y : MethodName} {cy : ByteArray} {mL rk2 nA ix : Nat} {ret : Option FieldType} {As : List Value} {stk : List Value} {F : Option (Int32 × Mem)} {f : Int32 → Mem → Option β} (h : ob F f = some R1) (K : ∀ r g1, F = some (r, g1) → CTv l y (wsm y cy mL ret) rk2 D Y ad cA tys n sa g As g1) (w1 : Cond.methodLink own ix y ∈ TT) (w2 : CS y cy mL ret nA) (hrk : rk2 + 1 ≤ rk) (hmL : mL ≤ 21) (hn : As.length = nA) (hst : stk = As.reverse ++ st) (hroom : (st.map fun v => v.category).sum ≤ 8) (d : decode cc pc = .ok (.invokestatic ix, 3)) (pc2 : Nat) (e2 : pc + 3 = pc2) (k : ∀ r g1, f r g1 = some R1 → WW p l e R s m args below meth c nL D Y ad cA n Q g1 pc2 lv (st)) : WW p l e R s m args below meth c nL D Y ad cA n Q g pc lv (stk) := by
  subst e2; subst hst
  obtain ⟨r, g1, hF, hh⟩ := ob_some h
  have hM := K r g1 hF
  have hR := C.2.2.2.2.2.2.2.2.1
  exact fun H locs ls cells slots hcz hP hS hl => va_callv (va_runS (As := As) (rest := st) ⟨C.1, C.2.1, C.2.2.1, C.2.2.2.1, C.2.2.2.2.1⟩ (hM H.size) (va_cwS nA C.2.2.2.2.1 (gS w1 w2) rfl rfl rfl w2.2.2.2 ⟨(by show rk2 + 1 ≤ R.frames; omega), (by show 8 + (mL + 11) + 40 * rk2 ≤ R.locals; omega)⟩) ⟨PRE_blind, fun U hU hW => ⟨rfl, by rw [hU], by rw [hU]; exact hP, va_K.moved hW.alike C.2.2.2.2.2.1, C.2.2.2.2.2.2.1, by have := C.2.2.2.2.2.2.2.1.call (B := AA n ad H.size) hS hU hW (fun q hq => AA_sub hS.1 hq); exact this⟩⟩ rfl hn hl.1 rfl (lv_room hroom) d hcz.1) hS (fun q _ hq => AA_sub hS.1 hq) (fun q hq => AA_sub hS.1 hq) (fun u t H1 locs1 ht hvm hw hB hz hk hS1 => by rw [ht] at hB; exact k _ _ hh H1 locs1 ls cells slots hcz hB hS1 hl)
theorem ww_callNv (C : CX p R s m args meth c cc nL own rk D Y ad cA tys n sa) {β : Type} {R1 : β} {y : MethodName} {cy : ByteArray} {mL rk2 nA ix : Nat} {ret : Option FieldType} {As : List Value} {stk : List Value} {F : Option (Int32 × Mem)} {f : Int32 → Mem → Option β} (h : ob F f = some R1) {host : String} (K : ∀ r g1, F = some (r, g1) → CTv l y (wsm y cy mL ret) rk2 D Y ad cA tys n sa g As g1) (w1 : va_Nw (.methodLinkNest own ix y host) s) (w2 : CS y cy mL ret nA) (hrk : rk2 + 1 ≤ rk) (hmL : mL ≤ 21) (hn : As.length = nA) (hst : stk = As.reverse ++ st) (hroom : (st.map fun v => v.category).sum ≤ 8) (d : decode cc pc = .ok (.invokestatic ix, 3)) (pc2 : Nat) (e2 : pc + 3 = pc2) (k : ∀ r g1, f r g1 = some R1 → WW p l e R s m args below meth c nL D Y ad cA n Q g1 pc2 lv (st)) : WW p l e R s m args below meth c nL D Y ad cA n Q g pc lv (stk) := by
  subst e2; subst hst
  obtain ⟨r, g1, hF, hh⟩ := ob_some h
  have hM := K r g1 hF
  have hR := C.2.2.2.2.2.2.2.2.1
  exact fun H locs ls cells slots hcz hP hS hl => va_callv (va_runSN (As := As) (rest := st) ⟨C.1, C.2.1, C.2.2.1, C.2.2.2.1, C.2.2.2.2.1⟩ (hM H.size) ⟨va_cnB nA C.2.2.2.2.1 (gM w2.2.2.1) rfl rfl rfl w1 (C.2.2.2.2.1 _ w2.2.1) w2.2.2.2 ⟨(by show rk2 + 1 ≤ R.frames; omega), (by show 8 + (mL + 11) + 40 * rk2 ≤ R.locals; omega)⟩, C.2.2.2.2.1 _ w2.1, trivial⟩ ⟨PRE_blind, fun U hU hW => ⟨rfl, by rw [hU], by rw [hU]; exact hP, va_K.moved hW.alike C.2.2.2.2.2.1, C.2.2.2.2.2.2.1, by have := C.2.2.2.2.2.2.2.1.call (B := AA n ad H.size) hS hU hW (fun q hq => AA_sub hS.1 hq); exact this⟩⟩ rfl hn hl.1 rfl (lv_room hroom) d hcz.1) hS (fun q _ hq => AA_sub hS.1 hq) (fun q hq => AA_sub hS.1 hq) (fun u t H1 locs1 ht hvm hw hB hz hk hS1 => by rw [ht] at hB; exact k _ _ hh H1 locs1 ls cells slots hcz hB hS1 hl)
theorem ww_callVv (C : CX p R s m args meth c cc nL own rk D Y ad cA tys n sa) {β : Type} {R1 : β} {y : MethodName} {cy : ByteArray} {mL rk2 nA ix : Nat} {ret : Option FieldType} {As : List Value} {stk : List Value} {F : Option (Int32 × Mem)} {f : Int32 → Mem → Option β} (h : ob F f = some R1) {kc ci N : Nat} {Cn : String} {T : u_T} (cl : vwCl[ci]? = some (Cn, T, N)) (o : OB Y n kc ci) (K : ∀ r g1, F = some (r, g1) → CTv l y (wsm y cy mL ret) rk2 D Y ad cA tys n sa g (.ref (ad kc) :: As) g1) (w1 : Cond.methodLink own ix y ∈ TT) (w2 : CV Cn y cy mL ret nA) (hrk : rk2 + 1 ≤ rk) (hmL : mL ≤ 21) (hn : As.length = nA) (hst : stk = As.reverse ++ .ref (ad kc) :: st) (hroom : (st.map fun v => v.category).sum ≤ 8) (d : decode cc pc = .ok (.invokevirtual ix, 3)) (pc2 : Nat) (e2 : pc + 3 = pc2) (k : ∀ r g1, f r g1 = some R1 → WW p l e R s m args below meth c nL D Y ad cA n Q g1 pc2 lv (st)) : WW p l e R s m args below meth c nL D Y ad cA n Q g pc lv (stk) := by
  subst e2; subst hst
  obtain ⟨r, g1, hF, hh⟩ := ob_some h
  have hM := K r g1 hF
  have hR := C.2.2.2.2.2.2.2.2.1
  exact fun H locs ls cells slots hcz hP hS hl => va_callv (va_runV (As := As) (rest := st) ⟨C.1, C.2.1, C.2.2.1, C.2.2.2.1, C.2.2.2.2.1⟩ (hM H.size) (cwV nA C.2.2.2.2.1 (gV w1 w2) rfl rfl rfl w2.2.2.2.2 ⟨(by show rk2 + 1 ≤ R.frames; omega), (by show 8 + (mL + 11) + 40 * rk2 ≤ R.locals; omega)⟩) ⟨PRE_blind, va_recv C.2.2.2.2.2.1 hP cl ((wl_get o.1).trans (by rw [cf_ob o (cl_lt cl) rfl])), fun U hU hW => ⟨rfl, by rw [hU], by rw [hU]; exact hP, va_K.moved hW.alike C.2.2.2.2.2.1, C.2.2.2.2.2.2.1, by have := C.2.2.2.2.2.2.2.1.call (B := AA n ad H.size) hS hU hW (fun q hq => AA_sub hS.1 hq); exact this⟩⟩ rfl hn hl.1 rfl (lv_room hroom) d hcz.1) hS (fun q _ hq => AA_sub hS.1 hq) (fun q hq => AA_sub hS.1 hq) (fun u t H1 locs1 ht hvm hw hB hz hk hS1 => by rw [ht] at hB; exact k _ _ hh H1 locs1 ls cells slots hcz hB hS1 hl)
theorem ww_callSq (C : CX p R s m args meth c cc nL own rk D Y ad cA tys n sa) {β : Type} {R1 : β} {y : MethodName} {cy : ByteArray} {mL rk2 nA ix : Nat} {ret : Option FieldType} {As : List Value} {stk : List Value} {F : Option (Nat × Mem)} {f : Nat → Mem → Option β} (h : ob F f = some R1) (K : ∀ r g1, F = some (r, g1) → CTq l y (wsm y cy mL ret) rk2 D Y ad cA tys n sa g As r g1) (w1 : Cond.methodLink own ix y ∈ TT) (w2 : CS y cy mL ret nA) (hrk : rk2 + 1 ≤ rk) (hmL : mL ≤ 21) (hn : As.length = nA) (hst : stk = As.reverse ++ st) (hroom : (st.map fun v => v.category).sum ≤ 8) (d : decode cc pc = .ok (.invokestatic ix, 3)) (pc2 : Nat) (e2 : pc + 3 = pc2) (k : ∀ r g1, f r g1 = some R1 → WW p l e R s m args below meth c nL D Y ad cA n Q g1 pc2 lv (.ref (ad r) :: st)) : WW p l e R s m args below meth c nL D Y ad cA n Q g pc lv (stk) := by
  subst e2; subst hst
  obtain ⟨r, g1, hF, hh⟩ := ob_some h
  have hM := K r g1 hF
  have hR := C.2.2.2.2.2.2.2.2.1
  exact fun H locs ls cells slots hcz hP hS hl => va_callr (va_runS (As := As) (rest := st) ⟨C.1, C.2.1, C.2.2.1, C.2.2.2.1, C.2.2.2.2.1⟩ (hM H.size) (va_cwS nA C.2.2.2.2.1 (gS w1 w2) rfl rfl rfl w2.2.2.2 ⟨(by show rk2 + 1 ≤ R.frames; omega), (by show 8 + (mL + 11) + 40 * rk2 ≤ R.locals; omega)⟩) ⟨PRE_blind, fun U hU hW => ⟨rfl, by rw [hU], by rw [hU]; exact hP, va_K.moved hW.alike C.2.2.2.2.2.1, C.2.2.2.2.2.2.1, by have := C.2.2.2.2.2.2.2.1.call (B := AA n ad H.size) hS hU hW (fun q hq => AA_sub hS.1 hq); exact this⟩⟩ rfl hn hl.1 rfl (lv_room hroom) d hcz.1) hS (fun q _ hq => AA_sub hS.1 hq) (fun q hq => AA_sub hS.1 hq) (fun u ra t H1 locs1 ht hvm hw hB hz hk hS1 => by obtain ⟨rfl, hB⟩ := hB; rw [ht] at hB; exact k _ _ hh H1 locs1 ls cells slots hcz hB hS1 hl)
theorem ww_callNq (C : CX p R s m args meth c cc nL own rk D Y ad cA tys n sa) {β : Type} {R1 : β} {y : MethodName} {cy : ByteArray} {mL rk2 nA ix : Nat} {ret : Option FieldType} {As : List Value} {stk : List Value} {F : Option (Nat × Mem)} {f : Nat → Mem → Option β} (h : ob F f = some R1) {host : String} (K : ∀ r g1, F = some (r, g1) → CTq l y (wsm y cy mL ret) rk2 D Y ad cA tys n sa g As r g1) (w1 : va_Nw (.methodLinkNest own ix y host) s) (w2 : CS y cy mL ret nA) (hrk : rk2 + 1 ≤ rk) (hmL : mL ≤ 21) (hn : As.length = nA) (hst : stk = As.reverse ++ st) (hroom : (st.map fun v => v.category).sum ≤ 8) (d : decode cc pc = .ok (.invokestatic ix, 3)) (pc2 : Nat) (e2 : pc + 3 = pc2) (k : ∀ r g1, f r g1 = some R1 → WW p l e R s m args below meth c nL D Y ad cA n Q g1 pc2 lv (.ref (ad r) :: st)) : WW p l e R s m args below meth c nL D Y ad cA n Q g pc lv (stk) := by
  subst e2; subst hst
  obtain ⟨r, g1, hF, hh⟩ := ob_some h
  have hM := K r g1 hF
  have hR := C.2.2.2.2.2.2.2.2.1
  exact fun H locs ls cells slots hcz hP hS hl => va_callr (va_runSN (As := As) (rest := st) ⟨C.1, C.2.1, C.2.2.1, C.2.2.2.1, C.2.2.2.2.1⟩ (hM H.size) ⟨va_cnB nA C.2.2.2.2.1 (gM w2.2.2.1) rfl rfl rfl w1 (C.2.2.2.2.1 _ w2.2.1) w2.2.2.2 ⟨(by show rk2 + 1 ≤ R.frames; omega), (by show 8 + (mL + 11) + 40 * rk2 ≤ R.locals; omega)⟩, C.2.2.2.2.1 _ w2.1, trivial⟩ ⟨PRE_blind, fun U hU hW => ⟨rfl, by rw [hU], by rw [hU]; exact hP, va_K.moved hW.alike C.2.2.2.2.2.1, C.2.2.2.2.2.2.1, by have := C.2.2.2.2.2.2.2.1.call (B := AA n ad H.size) hS hU hW (fun q hq => AA_sub hS.1 hq); exact this⟩⟩ rfl hn hl.1 rfl (lv_room hroom) d hcz.1) hS (fun q _ hq => AA_sub hS.1 hq) (fun q hq => AA_sub hS.1 hq) (fun u ra t H1 locs1 ht hvm hw hB hz hk hS1 => by obtain ⟨rfl, hB⟩ := hB; rw [ht] at hB; exact k _ _ hh H1 locs1 ls cells slots hcz hB hS1 hl)
theorem ww_callVq (C : CX p R s m args meth c cc nL own rk D Y ad cA tys n sa) {β : Type} {R1 : β} {y : MethodName} {cy : ByteArray} {mL rk2 nA ix : Nat} {ret : Option FieldType} {As : List Value} {stk : List Value} {F : Option (Nat × Mem)} {f : Nat → Mem → Option β} (h : ob F f = some R1) {kc ci N : Nat} {Cn : String} {T : u_T} (cl : vwCl[ci]? = some (Cn, T, N)) (o : OB Y n kc ci) (K : ∀ r g1, F = some (r, g1) → CTq l y (wsm y cy mL ret) rk2 D Y ad cA tys n sa g (.ref (ad kc) :: As) r g1) (w1 : Cond.methodLink own ix y ∈ TT) (w2 : CV Cn y cy mL ret nA) (hrk : rk2 + 1 ≤ rk) (hmL : mL ≤ 21) (hn : As.length = nA) (hst : stk = As.reverse ++ .ref (ad kc) :: st) (hroom : (st.map fun v => v.category).sum ≤ 8) (d : decode cc pc = .ok (.invokevirtual ix, 3)) (pc2 : Nat) (e2 : pc + 3 = pc2) (k : ∀ r g1, f r g1 = some R1 → WW p l e R s m args below meth c nL D Y ad cA n Q g1 pc2 lv (.ref (ad r) :: st)) : WW p l e R s m args below meth c nL D Y ad cA n Q g pc lv (stk) := by
  subst e2; subst hst
  obtain ⟨r, g1, hF, hh⟩ := ob_some h
  have hM := K r g1 hF
  have hR := C.2.2.2.2.2.2.2.2.1
  exact fun H locs ls cells slots hcz hP hS hl => va_callr (va_runV (As := As) (rest := st) ⟨C.1, C.2.1, C.2.2.1, C.2.2.2.1, C.2.2.2.2.1⟩ (hM H.size) (cwV nA C.2.2.2.2.1 (gV w1 w2) rfl rfl rfl w2.2.2.2.2 ⟨(by show rk2 + 1 ≤ R.frames; omega), (by show 8 + (mL + 11) + 40 * rk2 ≤ R.locals; omega)⟩) ⟨PRE_blind, va_recv C.2.2.2.2.2.1 hP cl ((wl_get o.1).trans (by rw [cf_ob o (cl_lt cl) rfl])), fun U hU hW => ⟨rfl, by rw [hU], by rw [hU]; exact hP, va_K.moved hW.alike C.2.2.2.2.2.1, C.2.2.2.2.2.2.1, by have := C.2.2.2.2.2.2.2.1.call (B := AA n ad H.size) hS hU hW (fun q hq => AA_sub hS.1 hq); exact this⟩⟩ rfl hn hl.1 rfl (lv_room hroom) d hcz.1) hS (fun q _ hq => AA_sub hS.1 hq) (fun q hq => AA_sub hS.1 hq) (fun u ra t H1 locs1 ht hvm hw hB hz hk hS1 => by obtain ⟨rfl, hB⟩ := hB; rw [ht] at hB; exact k _ _ hh H1 locs1 ls cells slots hcz hB hS1 hl)
theorem ww_ldcS0 (C : CX p R s m args meth c cc nL own rk D Y ad cA tys n sa) (ho : own = "SalvageOfDays") (d : decode cc pc = .ok (.ldc 32, 2)) (pc2 : Nat) (e2 : pc + 2 = pc2) (k : WW p l e R s m args below meth c nL D Y ad cA n Q g pc2 lv (.ref (sa.1 10) :: st)) : WW p l e R s m args below meth c nL D Y ad cA n Q g pc lv (st) := by
  subst e2; subst ho; exact fun H locs ls cells slots hcz hP hS hl => va_ldcS C.1 C.2.1 C.2.2.2.1 C.2.2.2.2.2.2.2.1.2.2.2.2.2.2.2.1 d (k H locs ls cells slots hcz hP hS hl)
theorem ww_ldcS1 (C : CX p R s m args meth c cc nL own rk D Y ad cA tys n sa) (ho : own = "SalvageOfDays$Tape") (d : decode cc pc = .ok (.ldc 103, 2)) (pc2 : Nat) (e2 : pc + 2 = pc2) (k : WW p l e R s m args below meth c nL D Y ad cA n Q g pc2 lv (.ref (sa.1 12) :: st)) : WW p l e R s m args below meth c nL D Y ad cA n Q g pc lv (st) := by
  subst e2; subst ho; exact fun H locs ls cells slots hcz hP hS hl => va_ldcS C.1 C.2.1 C.2.2.2.1 C.2.2.2.2.2.2.2.1.2.2.2.2.2.2.2.2.1 d (k H locs ls cells slots hcz hP hS hl)
theorem ww_sval (C : CX p R s m args meth c cc nL own rk D Y ad cA tys n sa) (i : Nat) (hi : i < sa.2.1.length) {ix : Nat} (w : Cond.fieldLink own ix "java/lang/String" "value" "[B" ∈ TT) (d : decode cc pc = .ok (.getfield ix, 3)) (pc2 : Nat) (e2 : pc + 3 = pc2) (k : WW p l e R s m args below meth c nL D Y ad cA n Q g pc2 lv (.ref (sa.1 (11 + 2 * i)) :: st)) : WW p l e R s m args below meth c nL D Y ad cA n Q g pc lv (.ref (sa.1 (10 + 2 * i)) :: st) := by
  subst e2; exact fun H locs ls cells slots hcz hP hS hl => vk_getf C.1 C.2.1 ((C.2.2.2.2.2.2.2.1.2.2.2.2.2.1).1 i hi).2.2.1 hS C.2.2.2.1 (C.2.2.2.2.1 _ w) (fun _ h => h) d (k H locs ls cells slots hcz hP hS hl)
theorem ww_scod (C : CX p R s m args meth c cc nL own rk D Y ad cA tys n sa) (i : Nat) (hi : i < sa.2.1.length) {ix : Nat} (w : Cond.fieldLink own ix "java/lang/String" "coder" "B" ∈ TT) (d : decode cc pc = .ok (.getfield ix, 3)) (pc2 : Nat) (e2 : pc + 3 = pc2) (k : WW p l e R s m args below meth c nL D Y ad cA n Q g pc2 lv (.int 0 :: st)) : WW p l e R s m args below meth c nL D Y ad cA n Q g pc lv (.ref (sa.1 (10 + 2 * i)) :: st) := by
  subst e2; exact fun H locs ls cells slots hcz hP hS hl => vk_getf C.1 C.2.1 ((C.2.2.2.2.2.2.2.1.2.2.2.2.2.1).1 i hi).2.1 hS C.2.2.2.1 (C.2.2.2.2.1 _ w) (fun _ h => h) d (k H locs ls cells slots hcz hP hS hl)
theorem ww_blen (C : CX p R s m args meth c cc nL own rk D Y ad cA tys n sa) (i : Nat) (hi : i < sa.2.1.length) (v : Int32) (hv : Int32.ofNat ((sa.2.1.map List.length).getD i 0) = v) (d : decode cc pc = .ok (.arraylength, 1)) (pc2 : Nat) (e2 : pc + 1 = pc2) (k : WW p l e R s m args below meth c nL D Y ad cA n Q g pc2 lv (.int v :: st)) : WW p l e R s m args below meth c nL D Y ad cA n Q g pc lv (.ref (sa.1 (11 + 2 * i)) :: st) := by
  subst e2; exact fun H locs ls cells slots hcz hP hS hl => va_tlen C.1 C.2.1 ((C.2.2.2.2.2.2.2.1.2.2.2.2.2.1).1 i hi).2.2.2 hS hv d (k H locs ls cells slots hcz hP hS hl)
theorem ww_bald (C : CX p R s m args meth c cc nL own rk D Y ad cA tys n sa) (i : Nat) (hi : i < sa.2.1.length) {j : Int32} (hj : vp_in j ((sa.2.1.map List.length).getD i 0)) (d : decode cc pc = .ok (.baload, 1)) (pc2 : Nat) (e2 : pc + 1 = pc2) (k : WW p l e R s m args below meth c nL D Y ad cA n Q g pc2 lv (.int ((sa.2.1.getD i []).getD j.toNatClampNeg 0) :: st)) : WW p l e R s m args below meth c nL D Y ad cA n Q g pc lv (.int j :: .ref (sa.1 (11 + 2 * i)) :: st) := by
  subst e2; exact fun H locs ls cells slots hcz hP hS hl => va_tb C.1 C.2.1 ((C.2.2.2.2.2.2.2.1.2.2.2.2.2.1).1 i hi).2.2.2 hS hj rfl d (k H locs ls cells slots hcz hP hS hl)
theorem ww_gets2 (C : CX p R s m args meth c cc nL own rk D Y ad cA tys n sa) {ix : Nat} (w : Cond.fieldLink own ix "java/lang/String" "COMPACT_STRINGS" "Z" ∈ TT) (d : decode cc pc = .ok (.getstatic ix, 3)) (pc2 : Nat) (e2 : pc + 3 = pc2) (k : WW p l e R s m args below meth c nL D Y ad cA n Q g pc2 lv (.int 1 :: st)) : WW p l e R s m args below meth c nL D Y ad cA n Q g pc lv (st) := by
  subst e2; exact fun H locs ls cells slots hcz hP hS hl => va_gets C.1 C.2.1 C.2.2.2.2.2.2.2.1.2.2.2.2.1 hS C.2.2.2.1 (C.2.2.2.2.1 _ w) (fun _ h => h) d (k H locs ls cells slots hcz hP hS hl)
theorem ww_gets3 (C : CX p R s m args meth c cc nL own rk D Y ad cA tys n sa) {ix : Nat} (w : Cond.fieldLink own ix "jdk/internal/util/Preconditions" "SIOOBE_FORMATTER" "Ljava/util/function/BiFunction;" ∈ TT) (d : decode cc pc = .ok (.getstatic ix, 3)) (pc2 : Nat) (e2 : pc + 3 = pc2) (k : ∀ v : Value, (v = .null ∨ ∃ q, v = .ref q) → WW p l e R s m args below meth c nL D Y ad cA n Q g pc2 lv (v :: st)) : WW p l e R s m args below meth c nL D Y ad cA n Q g pc lv (st) := by
  subst e2; exact fun H locs ls cells slots hcz hP hS hl => (C.2.2.2.2.2.2.2.1.2.2.2.2.2.2.1).elim (fun z => va_gets C.1 C.2.1 z hS C.2.2.2.1 (C.2.2.2.2.1 _ w) (fun _ h => h) d (k _ (Or.inl rfl) H locs ls cells slots hcz hP hS hl)) (fun z => z.elim (fun t z => va_gets C.1 C.2.1 z hS C.2.2.2.1 (C.2.2.2.2.1 _ w) (fun _ h => h) d (k _ (Or.inr ⟨_, rfl⟩) H locs ls cells slots hcz hP hS hl)))
theorem ww_aloadV (C : CX p R s m args meth c cc nL own rk D Y ad cA tys n sa) {kk : Fin 4} {i : Nat} {x : Value} (pl : Nat) (d : decode cc pc = .ok (.aload_n kk, 1)) (hi : (kk : Nat) = i) (hx : x = .null ∨ ∃ q, x = .ref q) (hk : lv[pl]? = some (i, x)) (pc2 : Nat) (e2 : pc + 1 = pc2) (k : WW p l e R s m args below meth c nL D Y ad cA n Q g pc2 lv (x :: st)) : WW p l e R s m args below meth c nL D Y ad cA n Q g pc lv (st) := by
  subst e2; exact fun H locs ls cells slots hcz hP hS hl => by
    rcases hx with rfl | ⟨q, rfl⟩
    · exact lv_aload_nN C.1 C.2.1 d hi (lv_at hl pl hk) (k H locs ls cells slots hcz hP hS hl)
    · exact lv_aload_n C.1 C.2.1 d hi (lv_at hl pl hk) (k H locs ls cells slots hcz hP hS hl)
theorem ww_callDi (C : CX p R s m args meth c cc nL own rk D Y ad cA tys n sa) {y : MethodName} {cy : ByteArray} {mL rk2 nA ix : Nat} {ret : Option FieldType} {As : List Value} {stk : List Value} (r : Int32) (K : CTi l y (wsm y cy mL ret) rk2 D Y ad cA tys n sa g As r g) (w1 : Cond.methodLink own ix y ∈ TT) (w2 : CS y cy mL ret nA) (hrk : rk2 + 1 ≤ rk) (hmL : mL ≤ 21) (hn : As.length = nA) (hst : stk = As.reverse ++ st) (hroom : (st.map fun v => v.category).sum ≤ 8) (d : decode cc pc = .ok (.invokestatic ix, 3)) (pc2 : Nat) (e2 : pc + 3 = pc2) (k : WW p l e R s m args below meth c nL D Y ad cA n Q g pc2 lv (.int r :: st)) : WW p l e R s m args below meth c nL D Y ad cA n Q g pc lv (stk) := by
  subst e2; subst hst
  have hM := K
  have hR := C.2.2.2.2.2.2.2.2.1
  exact fun H locs ls cells slots hcz hP hS hl => va_calli (va_runS (As := As) (rest := st) ⟨C.1, C.2.1, C.2.2.1, C.2.2.2.1, C.2.2.2.2.1⟩ (hM H.size) (va_cwS nA C.2.2.2.2.1 (gS w1 w2) rfl rfl rfl w2.2.2.2 ⟨(by show rk2 + 1 ≤ R.frames; omega), (by show 8 + (mL + 11) + 40 * rk2 ≤ R.locals; omega)⟩) ⟨PRE_blind, fun U hU hW => ⟨rfl, by rw [hU], by rw [hU]; exact hP, va_K.moved hW.alike C.2.2.2.2.2.1, C.2.2.2.2.2.2.1, by have := C.2.2.2.2.2.2.2.1.call (B := AA n ad H.size) hS hU hW (fun q hq => AA_sub hS.1 hq); exact this⟩⟩ rfl hn hl.1 rfl (lv_room hroom) d hcz.1) hS (fun q _ hq => AA_sub hS.1 hq) (fun q hq => AA_sub hS.1 hq) (fun r2 u t H1 locs1 ht hvm hw hB hz hk hS1 => by subst hw; rw [ht] at hB; exact k H1 locs1 ls cells slots hcz hB hS1 hl)
theorem ww_callTi (C : CX p R s m args meth c cc nL own rk D Y ad cA tys n sa) {y : MethodName} {cy : ByteArray} {mL rk2 nA ix : Nat} {ret : Option FieldType} {As : List Value} {stk : List Value} (r : Int32) (i : Nat) (hi : i < sa.2.1.length) (K : CTi l y (wsm y cy mL ret) rk2 D Y ad cA tys n sa g (.ref (sa.1 (10 + 2 * i)) :: As) r g) (w1 : Cond.methodLink own ix y ∈ TT) (w2 : CV "java/lang/String" y cy mL ret nA) (hrk : rk2 + 1 ≤ rk) (hmL : mL ≤ 21) (hn : As.length = nA) (hst : stk = As.reverse ++ .ref (sa.1 (10 + 2 * i)) :: st) (hroom : (st.map fun v => v.category).sum ≤ 8) (d : decode cc pc = .ok (.invokevirtual ix, 3)) (pc2 : Nat) (e2 : pc + 3 = pc2) (k : WW p l e R s m args below meth c nL D Y ad cA n Q g pc2 lv (.int r :: st)) : WW p l e R s m args below meth c nL D Y ad cA n Q g pc lv (stk) := by
  subst e2; subst hst
  have hM := K
  have hR := C.2.2.2.2.2.2.2.2.1
  exact fun H locs ls cells slots hcz hP hS hl => va_calli (va_runV (As := As) (rest := st) ⟨C.1, C.2.1, C.2.2.1, C.2.2.2.1, C.2.2.2.2.1⟩ (hM H.size) (cwV nA C.2.2.2.2.1 (gV w1 w2) rfl rfl rfl w2.2.2.2.2 ⟨(by show rk2 + 1 ≤ R.frames; omega), (by show 8 + (mL + 11) + 40 * rk2 ≤ R.locals; omega)⟩) ⟨PRE_blind, vk_recv (C.2.2.2.2.2.2.2.1.2.2.2.2.2.1) hi hS, fun U hU hW => ⟨rfl, by rw [hU], by rw [hU]; exact hP, va_K.moved hW.alike C.2.2.2.2.2.1, C.2.2.2.2.2.2.1, by have := C.2.2.2.2.2.2.2.1.call (B := AA n ad H.size) hS hU hW (fun q hq => AA_sub hS.1 hq); exact this⟩⟩ rfl hn hl.1 rfl (lv_room hroom) d hcz.1) hS (fun q _ hq => AA_sub hS.1 hq) (fun q hq => AA_sub hS.1 hq) (fun r2 u t H1 locs1 ht hvm hw hB hz hk hS1 => by subst hw; rw [ht] at hB; exact k H1 locs1 ls cells slots hcz hB hS1 hl)
theorem ww_callDv (C : CX p R s m args meth c cc nL own rk D Y ad cA tys n sa) {y : MethodName} {cy : ByteArray} {mL rk2 nA ix : Nat} {ret : Option FieldType} {As : List Value} {stk : List Value} (K : CTv l y (wsm y cy mL ret) rk2 D Y ad cA tys n sa g As g) (w1 : Cond.methodLink own ix y ∈ TT) (w2 : CS y cy mL ret nA) (hrk : rk2 + 1 ≤ rk) (hmL : mL ≤ 21) (hn : As.length = nA) (hst : stk = As.reverse ++ st) (hroom : (st.map fun v => v.category).sum ≤ 8) (d : decode cc pc = .ok (.invokestatic ix, 3)) (pc2 : Nat) (e2 : pc + 3 = pc2) (k : WW p l e R s m args below meth c nL D Y ad cA n Q g pc2 lv (st)) : WW p l e R s m args below meth c nL D Y ad cA n Q g pc lv (stk) := by
  subst e2; subst hst
  have hM := K
  have hR := C.2.2.2.2.2.2.2.2.1
  exact fun H locs ls cells slots hcz hP hS hl => va_callv (va_runS (As := As) (rest := st) ⟨C.1, C.2.1, C.2.2.1, C.2.2.2.1, C.2.2.2.2.1⟩ (hM H.size) (va_cwS nA C.2.2.2.2.1 (gS w1 w2) rfl rfl rfl w2.2.2.2 ⟨(by show rk2 + 1 ≤ R.frames; omega), (by show 8 + (mL + 11) + 40 * rk2 ≤ R.locals; omega)⟩) ⟨PRE_blind, fun U hU hW => ⟨rfl, by rw [hU], by rw [hU]; exact hP, va_K.moved hW.alike C.2.2.2.2.2.1, C.2.2.2.2.2.2.1, by have := C.2.2.2.2.2.2.2.1.call (B := AA n ad H.size) hS hU hW (fun q hq => AA_sub hS.1 hq); exact this⟩⟩ rfl hn hl.1 rfl (lv_room hroom) d hcz.1) hS (fun q _ hq => AA_sub hS.1 hq) (fun q hq => AA_sub hS.1 hq) (fun u t H1 locs1 ht hvm hw hB hz hk hS1 => by rw [ht] at hB; exact k H1 locs1 ls cells slots hcz hB hS1 hl)
end WWR
