/-! THE LAW FROM ITS ENTRY: what the Statement gives of the start -/
theorem lwm {w : Cond} {i : Nat} (h : lw_tbl[i]? = some w) : w ∈ lw_tbl := List.mem_of_getElem? h
theorem flm {w : Cond} {i : Nat} (h : (flatC (Jvm.Cond.and given_1 narrow_1))[i]? = some w) : w ∈ flatC (Jvm.Cond.and given_1 narrow_1) := List.mem_of_getElem? h
def tmS (i : Nat) : Term := if i = 0 then Term.string "SalvageOfDays" 32 else Term.string "SalvageOfDays$Tape" 103
set_option maxRecDepth 1000000 in
theorem fl_cm : ∀ j, j < 4 → (flatC (Jvm.Cond.and given_1 narrow_1))[12 + j]? = some (Cond.eq (.elem (.static "SalvageOfDays" "CASK_MOST" "[I") (.int (Int32.ofNat j))) (.int (fCM j))) := by decide +kernel
set_option maxRecDepth 1000000 in
theorem fl_ab : ∀ j, j < 6 → (flatC (Jvm.Cond.and given_1 narrow_1))[19 + j]? = some (Cond.eq (.elem (.static "SalvageOfDays$Kinds" "ABOVE" "[I") (.int (Int32.ofNat j))) (.int (fAB j))) := by decide +kernel
set_option maxRecDepth 1000000 in
theorem fl_s0 : ∀ j, j < 44 → (flatC (Jvm.Cond.and given_1 narrow_1))[41 + j]? = some (Cond.eq (.elem (.field (tmS 0) "java/lang/String" "value" "[B") (.int (Int32.ofNat j))) (.int ((bytJS.getD 0 []).getD j 0))) := by decide +kernel
set_option maxRecDepth 1000000 in
theorem fl_s1 : ∀ j, j < 65 → (flatC (Jvm.Cond.and given_1 narrow_1))[89 + j]? = some (Cond.eq (.elem (.field (tmS 1) "java/lang/String" "value" "[B") (.int (Int32.ofNat j))) (.int ((bytJS.getD 1 []).getD j 0))) := by decide +kernel
def saF (t0 t1 : Nat) (adK adV : Nat → Nat) : Nat → Nat := fun k => if k = 0 then t0 else if k = 1 then t1 else if k < 4 then adK (k - 2) else adV (k - 4)
theorem two {P : Nat → Prop} (h0 : P 0) (h1 : P 1) (i : Nat) (hi : i < 2) : P i := by
  rcases (by omega : i = 0 ∨ i = 1) with rfl | rfl
  · exact h0
  · exact h1
set_option maxRecDepth 1000000 in
set_option maxHeartbeats 4000000 in
theorem ex_start {s : State} {args : Array Value} (hts : ∀ w ∈ lw_tbl, w.before args s = true) (hg : (Jvm.Cond.and given_1 narrow_1).before args s = true) : ∃ sa : Nat → Nat, EX sa (fun q => s.heap.size ≤ q) s s.heap := by
  have hs := flat_of_before _ hg
  have hA : ∀ a : Nat, a < s.heap.size → ¬ (fun q : Nat => s.heap.size ≤ q) a := fun a h => Nat.not_le.mpr h
  obtain ⟨t0, v0, T0⟩ := va_Tof (args := args) (s := s) (tm := .static "SalvageOfDays" "CASK_MOST" "[I") (N := 4) (ty := .int) (f := fun j => .int (fCM j)) (A := fun q : Nat => s.heap.size ≤ q) (by decide) (hs _ (flm (i := 10) (by decide +kernel))) (va_eqt (hs _ (flm (i := 11) (by decide +kernel)))) (fun j hj => va_eqt (hs _ (flm (fl_cm j hj)))) hA
  obtain ⟨t1, v1, T1⟩ := va_Tof (args := args) (s := s) (tm := .static "SalvageOfDays$Kinds" "ABOVE" "[I") (N := 6) (ty := .int) (f := fun j => .int (fAB j)) (A := fun q : Nat => s.heap.size ≤ q) (by decide) (hs _ (flm (i := 17) (by decide +kernel))) (va_eqt (hs _ (flm (i := 18) (by decide +kernel)))) (fun j hj => va_eqt (hs _ (flm (fl_ab j hj)))) hA
  have Z0 := va_Zof (args := args) (C := "SalvageOfDays") (n := "CASK_MOST") (d := "[I") (v := .ref t0) (hts _ (lwm (i := 415) (by decide +kernel))) (hts _ (lwm (i := 60) (by decide +kernel))) v0 hA
  have Z1 := va_Zof (args := args) (C := "SalvageOfDays$Kinds") (n := "ABOVE") (d := "[I") (v := .ref t1) (hts _ (lwm (i := 793) (by decide +kernel))) (hts _ (lwm (i := 72) (by decide +kernel))) v1 hA
  have ZC := va_Zof (args := args) (C := "java/lang/String") (n := "COMPACT_STRINGS") (d := "Z") (v := .int 1) (hts _ (lwm (i := 172) (by decide +kernel))) (hts _ (lwm (i := 64) (by decide +kernel))) (va_eqt (hs _ (flm (i := 4) (by decide +kernel)))) hA
  have ZQ := va_Zqof (args := args) (C := "jdk/internal/util/Preconditions") (n := "SIOOBE_FORMATTER") (d := "Ljava/util/function/BiFunction;") (hts _ (lwm (i := 188) (by decide +kernel))) (hts _ (lwm (i := 66) (by decide +kernel))) (hs _ (flm (i := 5) (by decide +kernel))) hA
  obtain ⟨adK, adV, S, hev⟩ := vk_Sof (args := args) (s := s) (N := 2) (tm := tmS) (len := lenJS) (byt := bytJS) (A := fun q : Nat => s.heap.size ≤ q) (by decide)
    (two (P := fun i => (Cond.exactly (tmS i) "java/lang/String").before args s = true) (hs _ (flm (i := 37) (by decide +kernel))) (hs _ (flm (i := 85) (by decide +kernel))))
    (two (P := fun i => (Cond.eq (.field (tmS i) "java/lang/String" "coder" "B") (.int 0)).before args s = true) (hs _ (flm (i := 38) (by decide +kernel))) (hs _ (flm (i := 86) (by decide +kernel))))
    (two (P := fun i => (Cond.arrayOf (.field (tmS i) "java/lang/String" "value" "[B") .byte).before args s = true) (hs _ (flm (i := 39) (by decide +kernel))) (hs _ (flm (i := 87) (by decide +kernel))))
    (two (P := fun i => (Cond.eq (.length (.field (tmS i) "java/lang/String" "value" "[B")) (.int (Int32.ofNat (lenJS.getD i 0)))).before args s = true) (hs _ (flm (i := 40) (by decide +kernel))) (hs _ (flm (i := 88) (by decide +kernel))))
    (two (P := fun i => ∀ j : Nat, j < lenJS.getD i 0 → (Cond.eq (.elem (.field (tmS i) "java/lang/String" "value" "[B") (.int (Int32.ofNat j))) (.int ((bytJS.getD i []).getD j 0))).before args s = true) (fun j hj => hs _ (flm (fl_s0 j hj))) (fun j hj => hs _ (flm (fl_s1 j hj))))
    (fun i j hi hj hij => by
      rcases (by omega : (i = 0 ∧ j = 1) ∨ (i = 1 ∧ j = 0)) with ⟨rfl, rfl⟩ | ⟨rfl, rfl⟩
      · exact Or.inl (hs _ (flm (i := 154) (by decide +kernel)))
      · exact Or.inr (hs _ (flm (i := 154) (by decide +kernel)))) hA
  refine ⟨saF t0 t1 adK adV, Z0, T0, Z1, T1, ZC, ⟨two (S.1 0 (by decide)) (S.1 1 (by decide)), fun i j hi hj => ?_⟩, ZQ, vk_R.of (tx := tx0) (hts _ (lwm (i := 162) (by decide +kernel))) (hev 0 (by decide)), vk_R.of (tx := tx1) (hts _ (lwm (i := 237) (by decide +kernel))) (hev 1 (by decide)), va_Nw.of rfl (hts _ (lwm (i := 587) (by decide +kernel))), va_Nw.of rfl (hts _ (lwm (i := 630) (by decide +kernel)))⟩
  rcases (by omega : i = 0 ∨ i = 1) with rfl | rfl <;> rcases (by omega : j = 0 ∨ j = 1) with rfl | rfl
  · exact fun _ => rfl
  · exact S.2 0 1 (by decide) (by decide)
  · exact S.2 1 0 (by decide) (by decide)
  · exact fun _ => rfl
theorem nx_start {s : State} {args : Array Value} (hts : ∀ w ∈ lw_tbl, w.before args s = true) : NX s := ⟨va_AO.of (hts _ (lwm (i := 114) (by decide +kernel))), va_AO.of (hts _ (lwm (i := 116) (by decide +kernel))), va_Nw.of rfl (hts _ (lwm (i := 85) (by decide +kernel))), va_Nw.of rfl (hts _ (lwm (i := 143) (by decide +kernel)))⟩
def six {α : Type} (a b c d e f : α) : Nat → α := fun k => if k = 0 then a else if k = 1 then b else if k = 2 then c else if k = 3 then d else if k = 4 then e else f
set_option maxRecDepth 1000000 in
set_option maxHeartbeats 4000000 in
theorem k_start {s : State} {args : Array Value} (hts : ∀ w ∈ lw_tbl, w.before args s = true) : ∃ (D : va_G) (cI cT cS : ClassId), va_K D vwCl [(cI, .int), (cT, .object RX4), (cS, .object RX2)] s := by
  obtain ⟨c1, i1, h1⟩ := u_known (C := RX1) (T := TX1) (N := 12) (n := 12) hts (fun w h => TT_sub (clw_X1.2 w h)) (hts _ (lwm (i := 310) (by decide +kernel)))
  obtain ⟨c2, i2, h2⟩ := u_known (C := RX2) (T := TX2) (N := 3) (n := 3) hts (fun w h => TT_sub (clw_X2.2 w h)) (hts _ (lwm (i := 142) (by decide +kernel)))
  obtain ⟨c3, i3, h3⟩ := u_known (C := RX3) (T := TX3) (N := 7) (n := 7) hts (fun w h => TT_sub (clw_X3.2 w h)) (hts _ (lwm (i := 84) (by decide +kernel)))
  obtain ⟨c4, i4, h4⟩ := u_known (C := RX4) (T := TX4) (N := 6) (n := 6) hts (fun w h => TT_sub (clw_X4.2 w h)) (hts _ (lwm (i := 117) (by decide +kernel)))
  obtain ⟨c5, i5, h5⟩ := u_known (C := RX5) (T := TX5) (N := 8) (n := 8) hts (fun w h => TT_sub (clw_X5.2 w h)) (hts _ (lwm (i := 76) (by decide +kernel)))
  obtain ⟨c6, i6, h6⟩ := u_known (C := RX6) (T := TX6) (N := 34) (n := 34) hts (fun w h => TT_sub (clw_X6.2 w h)) (hts _ (lwm (i := 795) (by decide +kernel)))
  have wI : (Cond.arrayClass .int).before args s = true := hts _ (lwm (i := 112) (by decide +kernel))
  obtain ⟨cI, kI, pI, f1, f2, f3⟩ := Cond.arrayClass_spec wI
  have wT : (Cond.arrayOver (.object RX4)).before args s = true := hts _ (lwm (i := 114) (by decide +kernel))
  obtain ⟨pT, cT, kT, g1, g2, g3, g4, g5⟩ := Cond.arrayOver_spec wT
  have wS : (Cond.arrayOver (.object RX2)).before args s = true := hts _ (lwm (i := 116) (by decide +kernel))
  obtain ⟨pS, cS, kS, e1, e2, e3, e4, e5⟩ := Cond.arrayOver_spec wS
  refine ⟨(six c1 c2 c3 c4 c5 c6, six i1 i2 i3 i4 i5 i6), cI, cT, cS, fun k q hq => ?_, fun k q hq => ?_⟩
  · match k, hq with
    | 0, hq => cases hq; exact h1
    | 1, hq => cases hq; exact h2
    | 2, hq => cases hq; exact h3
    | 3, hq => cases hq; exact h4
    | 4, hq => cases hq; exact h5
    | 5, hq => cases hq; exact h6
    | k + 6, hq => simp [vwCl] at hq
  · match k, hq with
    | 0, hq => cases hq; exact ⟨fun n z => ⟨(fun k h => by cases h), kI, f2, pI, f3⟩, f1⟩
    | 1, hq => cases hq; exact ⟨fun n z => ⟨(fun k h => by cases h), kT, g3, pT, g4⟩, kT, pT, g3, g4, g1, g5⟩
    | 2, hq => cases hq; exact ⟨fun n z => ⟨(fun k h => by cases h), kS, e3, pS, e4⟩, kS, pS, e3, e4, e1, e5⟩
    | k + 3, hq => simp at hq
theorem cmc_X5_init : Cond.instanceMethod yX5_init ∈ TT ∧ Cond.initialized yX5_init.cls ∈ TT ∧ Cond.code yX5_init cX5_init 2 none ∈ TT ∧ (yX5_init.cls ≠ "java/lang/invoke/MethodHandle" ∧ yX5_init.cls ≠ "java/lang/invoke/VarHandle" ∧ (parseMethodDescriptor yX5_init.desc).map (fun d => d.parameters.length) = some 0) := ⟨TT_of (i := 78) (by decide +kernel) rfl, TT_of (i := 60) (by decide +kernel) rfl, TT_of (i := 79) (by decide +kernel) rfl, by decide +kernel⟩
theorem NX_blind {D : va_G} {tys : List (ClassId × FieldType)} {sa : Nat → Nat} {wc : va_W} {av : List Value} {sz : Nat} : FrameBlind (fun a U => PC0 D tys sa wc av sz a U ∧ NX U) := by
  intro a U fr mk h
  obtain ⟨h0, h1, h2, h3, h4⟩ := h
  exact ⟨PC0_blind a U fr mk h0, va_AO.moved (u := U) (U := U.calling fr mk a) (Vm.Alike.refl U.vm) h1, va_AO.moved (u := U) (U := U.calling fr mk a) (Vm.Alike.refl U.vm) h2, va_Nw.same (u := U) (U := U.calling fr mk a) rfl rfl h3, va_Nw.same (u := U) (U := U.calling fr mk a) rfl rfl h4⟩
set_option maxHeartbeats 4000000 in
theorem vv_ctorX5 {p : Program} {l : Launch} {e : Env} {R : Room} {s : State} {m : MethodId} {args : Array Value} {below : List Frame} {meth : Method} {c : Code} {cc : ByteArray} {nL : Nat} {own : String} {rk : Nat} {D : va_G} {tys : List (ClassId × FieldType)} {A : Nat → Prop} {sa : Nat → Nat} {Q : State → Prop} {cells slots pc : Nat} {lv : List (Nat × Value)} {st : List Value} (C : CY p R s m args meth c cc nL own rk D tys A sa) (nx : NX s) {S : Type} {W1 : S → va_W} {mc ms ix b : Nat} (K : CX5 l D sa tys b mc ms W1) (w1 : Cond.methodLink own ix yX5_init ∈ TT) (hrk : 400 + 1 ≤ rk) (hroom : (st.map fun v => v.category).sum ≤ 8) (hc : cells + mc ≤ R.cells) (hs : slots + ms ≤ R.slots) (d : decode cc pc = .ok (.invokespecial ix, 3)) (cells2 slots2 : Nat) (ec : cells + mc = cells2) (es : slots + ms = slots2) (pc2 : Nat) (e2 : pc + 3 = pc2) (k : ∀ u : S, VV p l e R s m args below meth c nL D A (cells2) (slots2) Q (W1 u) pc2 lv (st)) : VV p l e R s m args below meth c nL D A (cells) (slots) Q ([(b, .inr (4, [.null, .null, .int 0, .null, .null, .null, .null, .int 0]))]) pc lv (.ref b :: st) := by
  subst e2; subst ec; subst es
  intro H locs ls hP hD hS hl
  have hR0 := C.2.2.2.2.2.2.2.2.1
  have hRr : (rmc 400 mc ms).frames + 1 ≤ R.frames ∧ 8 + (2 + 11) + (rmc 400 mc ms).locals ≤ R.locals := ⟨(by show 400 + 1 ≤ R.frames; omega), (by show 8 + (2 + 11) + 40 * 400 ≤ R.locals; omega)⟩
  have hFc : ∀ q, va_A [(b, .inr (4, [.null, .null, .int 0, .null, .null, .null, .null, .int 0]))] H.size q → A q := va_free hD hS C.2.2.2.2.2.2.1 [0] rfl
  refine va_callv (va_runI (As := []) (rest := st) ⟨C.1, C.2.1, C.2.2.1, C.2.2.2.1, C.2.2.2.2.1⟩ (K H.size) (cwI 0 C.2.2.2.2.1 (gM cmc_X5_init.2.2.1) rfl rfl rfl (C.2.2.2.2.1 _ cmc_X5_init.2.1) (C.2.2.2.2.1 _ w1) (C.2.2.2.2.1 _ cmc_X5_init.1) rfl cmc_X5_init.2.2.2 hRr) ⟨NX_blind, fun U hU hW => ⟨⟨rfl, by rw [hU], by rw [hU]; exact hP, va_K.moved hW.alike C.2.2.2.2.2.1, hD.weaken (fun _ _ _ _ => trivial), by have := C.2.2.2.2.2.2.2.1.call (B := va_A [(b, .inr (4, [.null, .null, .int 0, .null, .null, .null, .null, .int 0]))] H.size) hS hU hW hFc; exact this⟩, va_AO.moved hW.alike nx.1, va_AO.moved hW.alike nx.2.1, va_Nw.warmM hW nx.2.2.1, va_Nw.warmM hW nx.2.2.2⟩⟩ rfl rfl hl.1 rfl (lv_room hroom) d ⟨hc, hs⟩) hS (fun q _ h => hFc q h) hFc (fun u t H1 locs1 ht hvm hw hB hz hk hS1 => ?_)
  rw [ht] at hB
  exact k u H1 locs1 ls hB.1 ⟨hB.2.1, fun i q hq => hFc _ (hB.2.2 i q hq)⟩ hS1 hl
theorem wl_l9 : Cond.methodLink RL 9 yX5_init ∈ TT := TT_of (i := 77) (by decide +kernel) rfl
theorem wl_l12 : Cond.methodLink RL 12 yX6_init ∈ TT := TT_of (i := 796) (by decide +kernel) rfl
theorem wl_c7 : Cond.classLink RL 7 RX5 ∈ TT := TT_of (i := 75) (by decide +kernel) rfl
theorem wl_c10 : Cond.classLink RL 10 RX6 ∈ TT := TT_of (i := 794) (by decide +kernel) rfl
theorem wl_n5 : Cond.instantiable RX5 8 ∈ TT ∧ Cond.initialized RX5 ∈ TT := ⟨TT_of (i := 76) (by decide +kernel) rfl, TT_of (i := 60) (by decide +kernel) rfl⟩
theorem wl_n6 : Cond.instantiable RX6 34 ∈ TT ∧ Cond.initialized RX6 ∈ TT := ⟨TT_of (i := 795) (by decide +kernel) rfl, TT_of (i := 69) (by decide +kernel) rfl⟩
