/-! THE LAW FROM ITS ENTRY: what the Statement gives of the start -/
theorem lwm {w : Cond} {i : Nat} (h : lw_tbl[i]? = some w) : w ∈ lw_tbl := List.mem_of_getElem? h
theorem flm {w : Cond} {i : Nat} (h : (flatC (Jvm.Cond.and given_1 narrow_1))[i]? = some w) : w ∈ flatC (Jvm.Cond.and given_1 narrow_1) := List.mem_of_getElem? h
def owS (i : Nat) : String := (["SalvageOfDays", "SalvageOfDays$Tape"] : List String).getD i "SalvageOfDaysLaw"
def ixS (i : Nat) : Nat := ([32, 103, 66, 78, 80, 82, 84, 86, 88, 90] : List Nat).getD i 0
def bsS (i : Nat) : Nat := ([234, 282, 352, 373, 387, 397, 418, 437, 458, 476] : List Nat).getD i 0
def lnS (i : Nat) : Nat := (bytJS.getD i []).length
def tmS (i : Nat) : Term := Term.string (owS i) (ixS i)
set_option maxRecDepth 1000000 in
theorem fl_cm : ∀ j, j < 4 → (flatC (Jvm.Cond.and given_1 narrow_1))[7 + j]? = some (Cond.eq (.elem (.static "SalvageOfDays" "CASK_MOST" "[I") (.int (Int32.ofNat j))) (.int (fCM j))) := by decide +kernel
set_option maxRecDepth 1000000 in
theorem fl_d1 : ∀ j, j < 100 → (flatC (Jvm.Cond.and given_1 narrow_1))[19 + j]? = some (Cond.eq (.elem (.static "java/lang/Integer" "DigitOnes" "[B") (.int (Int32.ofNat j))) (.int (fD1 j))) := by decide +kernel
set_option maxRecDepth 1000000 in
theorem fl_dx : ∀ j, j < 100 → (flatC (Jvm.Cond.and given_1 narrow_1))[122 + j]? = some (Cond.eq (.elem (.static "java/lang/Integer" "DigitTens" "[B") (.int (Int32.ofNat j))) (.int (fDX j))) := by decide +kernel
set_option maxRecDepth 1000000 in
theorem fl_s : ∀ i, i < 10 → ((flatC (Jvm.Cond.and given_1 narrow_1))[bsS i]? = some (Cond.exactly (tmS i) "java/lang/String") ∧ (flatC (Jvm.Cond.and given_1 narrow_1))[bsS i + 1]? = some (Cond.eq (.field (tmS i) "java/lang/String" "coder" "B") (.int 0)) ∧ (flatC (Jvm.Cond.and given_1 narrow_1))[bsS i + 2]? = some (Cond.arrayOf (.field (tmS i) "java/lang/String" "value" "[B") .byte) ∧ (flatC (Jvm.Cond.and given_1 narrow_1))[bsS i + 3]? = some (Cond.eq (.length (.field (tmS i) "java/lang/String" "value" "[B")) (.int (Int32.ofNat (lnS i))))) := by decide +kernel
set_option maxRecDepth 1000000 in
theorem fl_e : ∀ i, i < 10 → ∀ j, j < lnS i → (flatC (Jvm.Cond.and given_1 narrow_1))[bsS i + 4 + j]? = some (Cond.eq (.elem (.field (tmS i) "java/lang/String" "value" "[B") (.int (Int32.ofNat j))) (.int ((bytJS.getD i []).getD j 0))) := by decide +kernel
set_option maxRecDepth 1000000 in
theorem fl_n : ∀ j, j < 10 → ∀ i, i < j → (flatC (Jvm.Cond.and given_1 narrow_1))[bsS j + 4 + lnS j + i]? = some (Cond.not (Cond.eq (tmS i) (tmS j))) := by decide +kernel
theorem ln_lt : ∀ i, i < 10 → lnS i < 2 ^ 31 := by decide +kernel
theorem ln_eq : ∀ i, i < 10 → lnS i = (bytJS.map List.length).getD i 0 := by decide +kernel
def saF (t0 t1 t2 b : Nat) (adK adV : Nat → Nat) : Nat → Nat := fun k => if k = 0 then t0 else if k = 1 then t1 else if k = 2 then t2 else if k = 3 then b else if k % 2 = 0 then adK ((k - 10) / 2) else adV ((k - 11) / 2)
theorem saF_K (t0 t1 t2 b : Nat) (adK adV : Nat → Nat) (i : Nat) : saF t0 t1 t2 b adK adV (10 + 2 * i) = adK i := by
  unfold saF
  rw [if_neg (by omega), if_neg (by omega), if_neg (by omega), if_neg (by omega), if_pos (by omega)]
  congr 1; omega
theorem saF_V (t0 t1 t2 b : Nat) (adK adV : Nat → Nat) (i : Nat) : saF t0 t1 t2 b adK adV (11 + 2 * i) = adV i := by
  unfold saF
  rw [if_neg (by omega), if_neg (by omega), if_neg (by omega), if_neg (by omega), if_neg (by omega)]
  congr 1; omega
theorem nx_start {s : State} {args : Array Value} (hts : ∀ w ∈ lw_tbl, w.before args s = true) : NX s := ⟨va_AO.of (hts _ (lwm (i := 286) (by decide +kernel))), va_AO.of (hts _ (lwm (i := 288) (by decide +kernel))), va_Nw.of rfl (hts _ (lwm (i := 257) (by decide +kernel))), va_Nw.of rfl (hts _ (lwm (i := 315) (by decide +kernel)))⟩
set_option maxRecDepth 1000000 in
set_option maxHeartbeats 4000000 in
theorem ex_start {s : State} {args : Array Value} {b L : Nat} {xs : Nat → Int32} (hL : L ≤ 260) (hX : va_X b L xs s s.heap) (hb : b < s.heap.size) (hts : ∀ w ∈ lw_tbl, w.before args s = true) (hg : (Jvm.Cond.and given_1 narrow_1).before args s = true) : ∃ sa : SA, sa.1 3 = b ∧ sa.2.2 = (L, xs) ∧ EX sa (fun q => s.heap.size ≤ q) s s.heap := by
  have hs := flat_of_before _ hg
  have hA : ∀ a : Nat, a < s.heap.size → ¬ (fun q : Nat => s.heap.size ≤ q) a := fun a h => Nat.not_le.mpr h
  obtain ⟨t0, v0, T0⟩ := va_Tof (args := args) (s := s) (tm := .static "SalvageOfDays" "CASK_MOST" "[I") (N := 4) (ty := .int) (f := fun j => .int (fCM j)) (A := fun q : Nat => s.heap.size ≤ q) (by decide) (hs _ (flm (i := 5) (by decide +kernel))) (va_eqt (hs _ (flm (i := 6) (by decide +kernel)))) (fun j hj => va_eqt (hs _ (flm (fl_cm j hj)))) hA
  obtain ⟨t1, v1, T1⟩ := va_Tof (args := args) (s := s) (tm := .static "java/lang/Integer" "DigitOnes" "[B") (N := 100) (ty := .byte) (f := fun j => .int (fD1 j)) (A := fun q : Nat => s.heap.size ≤ q) (by decide) (hs _ (flm (i := 17) (by decide +kernel))) (va_eqt (hs _ (flm (i := 18) (by decide +kernel)))) (fun j hj => va_eqt (hs _ (flm (fl_d1 j hj)))) hA
  obtain ⟨t2, v2, T2⟩ := va_Tof (args := args) (s := s) (tm := .static "java/lang/Integer" "DigitTens" "[B") (N := 100) (ty := .byte) (f := fun j => .int (fDX j)) (A := fun q : Nat => s.heap.size ≤ q) (by decide) (hs _ (flm (i := 120) (by decide +kernel))) (va_eqt (hs _ (flm (i := 121) (by decide +kernel)))) (fun j hj => va_eqt (hs _ (flm (fl_dx j hj)))) hA
  have Z0 := va_Zof (args := args) (C := "SalvageOfDays") (n := "CASK_MOST") (d := "[I") (v := .ref t0) (hts _ (lwm (i := 47) (by decide +kernel))) (hts _ (lwm (i := 18) (by decide +kernel))) v0 hA
  have Z1 := va_Zof (args := args) (C := "java/lang/Integer") (n := "DigitOnes") (d := "[B") (v := .ref t1) (hts _ (lwm (i := 725) (by decide +kernel))) (hts _ (lwm (i := 34) (by decide +kernel))) v1 hA
  have Z2 := va_Zof (args := args) (C := "java/lang/Integer") (n := "DigitTens") (d := "[B") (v := .ref t2) (hts _ (lwm (i := 727) (by decide +kernel))) (hts _ (lwm (i := 34) (by decide +kernel))) v2 hA
  have ZC := va_Zof (args := args) (C := "java/lang/String") (n := "COMPACT_STRINGS") (d := "Z") (v := .int 1) (hts _ (lwm (i := 338) (by decide +kernel))) (hts _ (lwm (i := 22) (by decide +kernel))) (va_eqt (hs _ (flm (i := 11) (by decide +kernel)))) hA
  have ZQ := va_Zqof (args := args) (C := "jdk/internal/util/Preconditions") (n := "SIOOBE_FORMATTER") (d := "Ljava/util/function/BiFunction;") (hts _ (lwm (i := 354) (by decide +kernel))) (hts _ (lwm (i := 24) (by decide +kernel))) (hs _ (flm (i := 12) (by decide +kernel))) hA
  obtain ⟨adK, adV, S, hev⟩ := vk_Sof (args := args) (s := s) (N := 10) (tm := tmS) (len := bytJS.map List.length) (byt := bytJS) (A := fun q : Nat => s.heap.size ≤ q) (fun i hi => by rw [← ln_eq i hi]; exact ln_lt i hi)
    (fun i hi => hs _ (flm (fl_s i hi).1)) (fun i hi => hs _ (flm (fl_s i hi).2.1)) (fun i hi => hs _ (flm (fl_s i hi).2.2.1)) (fun i hi => by rw [← ln_eq i hi]; exact hs _ (flm (fl_s i hi).2.2.2))
    (fun i hi j hj => hs _ (flm (fl_e i hi j (by rw [ln_eq i hi]; exact hj))))
    (fun i j hi hj hij => by
      rcases Nat.lt_or_gt_of_ne hij with h | h
      · exact Or.inl (hs _ (flm (fl_n j hj i h)))
      · exact Or.inr (hs _ (flm (fl_n i hi j h)))) hA
  have eK : (fun i => saF t0 t1 t2 b adK adV (10 + 2 * i)) = adK := funext fun i => saF_K t0 t1 t2 b adK adV i
  have eV : (fun i => saF t0 t1 t2 b adK adV (11 + 2 * i)) = adV := funext fun i => saF_V t0 t1 t2 b adK adV i
  obtain ⟨scr, x1, x2, x3, x4, x5⟩ := hX
  have TX : va_T .int b L (fun j => .int (xs j)) (fun q : Nat => s.heap.size ≤ q) s s.heap := ⟨scr, x1, x2, x3, by omega, by rw [x4], x5, hA b hb⟩
  have hR : ∀ i, i < 10 → (Term.string (owS i) (ixS i)).eval args s none [] s = some (.ref (saF t0 t1 t2 b adK adV (10 + 2 * i))) := fun i hi => by rw [saF_K]; exact hev i hi
  refine ⟨(saF t0 t1 t2 b adK adV, bytJS, (L, xs)), rfl, rfl, Z0, T0, Z1, T1, ZC, ?_, ZQ, vk_R.of (tx := tx0) (hts _ (lwm (i := 328) (by decide +kernel))) (hR 0 (by decide)), vk_R.of (tx := tx1) (hts _ (lwm (i := 403) (by decide +kernel))) (hR 1 (by decide)), va_Nw.of rfl (hts _ (lwm (i := 188) (by decide +kernel))), Z2, T2, TX, ?_, fun _ _ => rfl, hL, nx_start hts⟩
  · show vk_S 10 (bytJS.map List.length) bytJS (fun i => saF t0 t1 t2 b adK adV (10 + 2 * i)) (fun i => saF t0 t1 t2 b adK adV (11 + 2 * i)) _ s s.heap
    rw [eK, eV]
    exact S
  · intro i hi
    have e9 : (14 + 2 * i : Nat) = 10 + 2 * (i + 2) := by omega
    show vk_R "SalvageOfDaysLaw" (ixL i) (txL i) (saF t0 t1 t2 b adK adV (14 + 2 * i)) s
    rw [e9]
    rcases (by omega : i = 0 ∨ i = 1 ∨ i = 2 ∨ i = 3 ∨ i = 4 ∨ i = 5 ∨ i = 6 ∨ i = 7) with rfl | rfl | rfl | rfl | rfl | rfl | rfl | rfl
    · exact vk_R.of (tx := txL 0) (hts _ (lwm (i := 615) (by decide +kernel))) (hR 2 (by decide))
    · exact vk_R.of (tx := txL 1) (hts _ (lwm (i := 736) (by decide +kernel))) (hR 3 (by decide))
    · exact vk_R.of (tx := txL 2) (hts _ (lwm (i := 737) (by decide +kernel))) (hR 4 (by decide))
    · exact vk_R.of (tx := txL 3) (hts _ (lwm (i := 738) (by decide +kernel))) (hR 5 (by decide))
    · exact vk_R.of (tx := txL 4) (hts _ (lwm (i := 739) (by decide +kernel))) (hR 6 (by decide))
    · exact vk_R.of (tx := txL 5) (hts _ (lwm (i := 740) (by decide +kernel))) (hR 7 (by decide))
    · exact vk_R.of (tx := txL 6) (hts _ (lwm (i := 741) (by decide +kernel))) (hR 8 (by decide))
    · exact vk_R.of (tx := txL 7) (hts _ (lwm (i := 742) (by decide +kernel))) (hR 9 (by decide))
def sev {α : Type} (j s a b c d e : α) : Nat → α := fun k => if k = 0 then j else if k = 1 then s else if k = 2 then a else if k = 3 then b else if k = 4 then c else if k = 5 then d else e
set_option maxRecDepth 1000000 in
set_option maxHeartbeats 4000000 in
theorem k_start {s : State} {args : Array Value} (hts : ∀ w ∈ lw_tbl, w.before args s = true) : ∃ (D : va_G) (cI cT cS cL cB : ClassId), va_K D vwCl [(cI, .int), (cT, .object RX4), (cS, .object RX2), (cL, .long), (cB, .byte)] s := by
  have htt := TT_before hts
  obtain ⟨c8, i8, h8⟩ := u_known (C := RJ0) (T := TJ0) (N := 4) (n := 4) htt (fun w h => clw_J0.2 w h) (hts _ (lwm (i := 748) (by decide +kernel)))
  obtain ⟨c9, i9, h9⟩ := u_known (C := RJ4) (T := TJ4) (N := 4) (n := 4) htt (fun w h => clw_J4.2 w h) (hts _ (lwm (i := 586) (by decide +kernel)))
  obtain ⟨c1, i1, h1⟩ := u_known (C := RX1) (T := TX1) (N := 12) (n := 12) htt (fun w h => clw_X1.2 w h) (hts _ (lwm (i := 474) (by decide +kernel)))
  obtain ⟨c2, i2, h2⟩ := u_known (C := RX2) (T := TX2) (N := 3) (n := 3) htt (fun w h => clw_X2.2 w h) (hts _ (lwm (i := 314) (by decide +kernel)))
  obtain ⟨c3, i3, h3⟩ := u_known (C := RX3) (T := TX3) (N := 7) (n := 7) htt (fun w h => clw_X3.2 w h) (hts _ (lwm (i := 256) (by decide +kernel)))
  obtain ⟨c4, i4, h4⟩ := u_known (C := RX4) (T := TX4) (N := 6) (n := 6) htt (fun w h => clw_X4.2 w h) (hts _ (lwm (i := 289) (by decide +kernel)))
  obtain ⟨c5, i5, h5⟩ := u_known (C := RX5) (T := TX5) (N := 8) (n := 8) htt (fun w h => clw_X5.2 w h) (hts _ (lwm (i := 63) (by decide +kernel)))
  have wI : (Cond.arrayClass .int).before args s = true := hts _ (lwm (i := 284) (by decide +kernel))
  obtain ⟨cI, kI, pI, f1, f2, f3⟩ := Cond.arrayClass_spec wI
  have wL : (Cond.arrayClass .long).before args s = true := hts _ (lwm (i := 882) (by decide +kernel))
  obtain ⟨cL, kL, pL, l1, l2, l3⟩ := Cond.arrayClass_spec wL
  have wB : (Cond.arrayClass .byte).before args s = true := hts _ (lwm (i := 528) (by decide +kernel))
  obtain ⟨cB, kB, pB, b1, b2, b3⟩ := Cond.arrayClass_spec wB
  have wT : (Cond.arrayOver (.object RX4)).before args s = true := hts _ (lwm (i := 286) (by decide +kernel))
  obtain ⟨pT, cT, kT, g1, g2, g3, g4, g5⟩ := Cond.arrayOver_spec wT
  have wS : (Cond.arrayOver (.object RX2)).before args s = true := hts _ (lwm (i := 288) (by decide +kernel))
  obtain ⟨pS, cS, kS, e1, e2, e3, e4, e5⟩ := Cond.arrayOver_spec wS
  refine ⟨(sev c8 c9 c1 c2 c3 c4 c5, sev i8 i9 i1 i2 i3 i4 i5), cI, cT, cS, cL, cB, fun k q hq => ?_, fun k q hq => ?_⟩
  · match k, hq with
    | 0, hq => cases hq; exact h8
    | 1, hq => cases hq; exact h9
    | 2, hq => cases hq; exact h1
    | 3, hq => cases hq; exact h2
    | 4, hq => cases hq; exact h3
    | 5, hq => cases hq; exact h4
    | 6, hq => cases hq; exact h5
    | k + 7, hq => simp [vwCl] at hq
  · match k, hq with
    | 0, hq => cases hq; exact ⟨fun n z => ⟨(fun k h => by cases h), kI, f2, pI, f3⟩, f1⟩
    | 1, hq => cases hq; exact ⟨fun n z => ⟨(fun k h => by cases h), kT, g3, pT, g4⟩, kT, pT, g3, g4, g1, g5⟩
    | 2, hq => cases hq; exact ⟨fun n z => ⟨(fun k h => by cases h), kS, e3, pS, e4⟩, kS, pS, e3, e4, e1, e5⟩
    | 3, hq => cases hq; exact ⟨fun n z => ⟨(fun k h => by cases h), kL, l2, pL, l3⟩, l1⟩
    | 4, hq => cases hq; exact ⟨fun n z => ⟨(fun k h => by cases h), kB, b2, pB, b3⟩, b1⟩
    | k + 5, hq => simp at hq
