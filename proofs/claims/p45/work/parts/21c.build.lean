/-! build, whole -/
theorem cmc_X5_init : Cond.instanceMethod yX5_init ∈ TT ∧ Cond.initialized yX5_init.cls ∈ TT ∧ Cond.code yX5_init cX5_init 2 none ∈ TT ∧ (yX5_init.cls ≠ "java/lang/invoke/MethodHandle" ∧ yX5_init.cls ≠ "java/lang/invoke/VarHandle" ∧ (parseMethodDescriptor yX5_init.desc).map (fun d => d.parameters.length) = some 0) := zb_I_X5_init
theorem NX_blind {D : va_G} {tys : List (ClassId × FieldType)} {sa : SA} {wc : va_W} {av : List Value} {sz : Nat} : FrameBlind (fun a U => PC0 D tys sa wc av sz a U ∧ NX U) := by
  intro a U fr mk h
  obtain ⟨h0, h1, h2, h3, h4⟩ := h
  exact ⟨PC0_blind a U fr mk h0, va_AO.moved (u := U) (U := U.calling fr mk a) (Vm.Alike.refl U.vm) h1, va_AO.moved (u := U) (U := U.calling fr mk a) (Vm.Alike.refl U.vm) h2, va_Nw.same (u := U) (U := U.calling fr mk a) rfl rfl h3, va_Nw.same (u := U) (U := U.calling fr mk a) rfl rfl h4⟩
set_option maxHeartbeats 4000000 in
theorem vv_ctorX5 {p : Program} {l : Launch} {e : Env} {R : Room} {s : State} {m : MethodId} {args : Array Value} {below : List Frame} {meth : Method} {c : Code} {cc : ByteArray} {nL : Nat} {own : String} {rk : Nat} {D : va_G} {tys : List (ClassId × FieldType)} {A : Nat → Prop} {sa : SA} {Q : State → Prop} {cells slots pc : Nat} {lv : List (Nat × Value)} {st : List Value} (C : CY p R s m args meth c cc nL own rk D tys A sa) (nx : NX s) {S : Type} {W1 : S → va_W} {mc ms ix b : Nat} (K : CX5 l D sa tys b mc ms W1) (w1 : Cond.methodLink own ix yX5_init ∈ TT) (hrk : 400 + 1 ≤ rk) (hroom : (st.map fun v => v.category).sum ≤ 8) (hc : cells + mc ≤ R.cells) (hs : slots + ms ≤ R.slots) (d : decode cc pc = .ok (.invokespecial ix, 3)) (cells2 slots2 : Nat) (ec : cells + mc = cells2) (es : slots + ms = slots2) (pc2 : Nat) (e2 : pc + 3 = pc2) (k : ∀ u : S, VV p l e R s m args below meth c nL D A (cells2) (slots2) Q (W1 u) pc2 lv (st)) : VV p l e R s m args below meth c nL D A (cells) (slots) Q ([(b, .inr (6, [.null, .null, .int 0, .null, .null, .null, .null, .int 0]))]) pc lv (.ref b :: st) := by
  subst e2; subst ec; subst es
  intro H locs ls hP hD hS hl
  have hR0 := C.2.2.2.2.2.2.2.2.1
  have hRr : (rmc 400 mc ms).frames + 1 ≤ R.frames ∧ 8 + (2 + 11) + (rmc 400 mc ms).locals ≤ R.locals := ⟨(by show 400 + 1 ≤ R.frames; omega), (by show 8 + (2 + 11) + 40 * 400 ≤ R.locals; omega)⟩
  have hFc : ∀ q, va_A [(b, .inr (6, [.null, .null, .int 0, .null, .null, .null, .null, .int 0]))] H.size q → A q := va_free hD hS C.2.2.2.2.2.2.1 [0] rfl
  refine va_callv (va_runI (As := []) (rest := st) ⟨C.1, C.2.1, C.2.2.1, C.2.2.2.1, C.2.2.2.2.1⟩ (K H.size) (cwI 0 C.2.2.2.2.1 (gM cmc_X5_init.2.2.1) rfl rfl rfl (C.2.2.2.2.1 _ cmc_X5_init.2.1) (C.2.2.2.2.1 _ w1) (C.2.2.2.2.1 _ cmc_X5_init.1) rfl cmc_X5_init.2.2.2 hRr) ⟨NX_blind, fun U hU hW => ⟨⟨rfl, by rw [hU], by rw [hU]; exact hP, va_K.moved hW.alike C.2.2.2.2.2.1, hD.weaken (fun _ _ _ _ => trivial), by have := C.2.2.2.2.2.2.2.1.call (B := va_A [(b, .inr (6, [.null, .null, .int 0, .null, .null, .null, .null, .int 0]))] H.size) hS hU hW hFc; exact this⟩, va_AO.moved hW.alike nx.1, va_AO.moved hW.alike nx.2.1, va_Nw.warmM hW nx.2.2.1, va_Nw.warmM hW nx.2.2.2⟩⟩ rfl rfl hl.1 rfl (lv_room hroom) d ⟨hc, hs⟩) hS (fun q _ h => hFc q h) hFc (fun u t H1 locs1 ht hvm hw hB hz hk hS1 => ?_)
  rw [ht] at hB
  exact k u H1 locs1 ls hB.1 ⟨hB.2.1, fun i q hq => hFc _ (hB.2.2 i q hq)⟩ hS1 hl

def fz (x : Int32) (m : Nat) : Nat := (x &&& i32 m).toBitVec.toNat
theorem fz_eq (x : Int32) (m : Nat) : x &&& i32 m = i32 (fz x m) := by
  apply Int32.toBitVec_inj.mp
  show (x &&& i32 m).toBitVec = BitVec.ofNat 32 ((x &&& i32 m).toBitVec.toNat)
  simp
theorem fz_le (x : Int32) (m : Nat) (hm : m < 2147483648) : fz x m ≤ m := by
  have h : fz x m = x.toBitVec.toNat &&& (BitVec.ofNat 32 m).toNat := by
    show (x.toBitVec &&& BitVec.ofNat 32 m).toNat = _
    rw [BitVec.toNat_and]
  rw [h, BitVec.toNat_ofNat, Nat.mod_eq_of_lt (by omega)]
  exact Nat.and_le_right
/-- the law's word 0 of the script; a number out of it -/
def s0w (sa : SA) : Int32 := if 0 < sa.2.2.1 then sa.2.2.2 0 else 0
def zn (sa : SA) (sh : Int32) (m : Nat) : Nat := fz (s0w sa >>> (sh &&& 31)) m
def tq0 (_ : SA) : List Int32 := []
def tq1 (sa : SA) : List Int32 := tq0 sa ++ txB (txL 0)
def tq2 (sa : SA) : List Int32 := tq1 sa ++ dg (zn sa 3 31)
def tq3 (sa : SA) : List Int32 := tq2 sa ++ txB (txL 1)
def tq4 (sa : SA) : List Int32 := tq3 sa ++ dg (zn sa 8 7)
def tq5 (sa : SA) : List Int32 := tq4 sa ++ txB (txL 2)
def tq6 (sa : SA) : List Int32 := tq5 sa ++ dg (zn sa 11 15)
def tq7 (sa : SA) : List Int32 := tq6 sa ++ txB (txL 3)
def tq8 (sa : SA) : List Int32 := tq7 sa ++ dg (zn sa 15 7)
def tq9 (sa : SA) : List Int32 := tq8 sa ++ txB (txL 4)
def tq10 (sa : SA) : List Int32 := tq9 sa ++ dg (zn sa 18 63)
def tq11 (sa : SA) : List Int32 := tq10 sa ++ txB (txL 5)
def tq12 (sa : SA) : List Int32 := tq11 sa ++ dg (zn sa 24 3)
def tq13 (sa : SA) : List Int32 := tq12 sa ++ txB (txL 6)
def tq14 (sa : SA) : List Int32 := tq13 sa ++ dg (zn sa 26 1)
def tq15 (sa : SA) : List Int32 := tq14 sa ++ txB (txL 7)
theorem tql0 (sa : SA) : (tq0 sa).length = 0 := rfl
theorem tql1 (sa : SA) : 15 ≤ (tq1 sa).length ∧ (tq1 sa).length ≤ 15 := by
  have h := tql0 sa
  have e : (txB (txL 0)).length = 15 := by decide +kernel
  show 15 ≤ (tq0 sa ++ txB (txL 0)).length ∧ (tq0 sa ++ txB (txL 0)).length ≤ 15
  rw [List.length_append]; omega
theorem tql2 (sa : SA) : 16 ≤ (tq2 sa).length ∧ (tq2 sa).length ≤ 17 := by
  have h := tql1 sa
  have e := dg_le (zn sa 3 31)
  show 16 ≤ (tq1 sa ++ dg (zn sa 3 31)).length ∧ (tq1 sa ++ dg (zn sa 3 31)).length ≤ 17
  rw [List.length_append]; omega
theorem tql3 (sa : SA) : 23 ≤ (tq3 sa).length ∧ (tq3 sa).length ≤ 24 := by
  have h := tql2 sa
  have e : (txB (txL 1)).length = 7 := by decide +kernel
  show 23 ≤ (tq2 sa ++ txB (txL 1)).length ∧ (tq2 sa ++ txB (txL 1)).length ≤ 24
  rw [List.length_append]; omega
theorem tql4 (sa : SA) : 24 ≤ (tq4 sa).length ∧ (tq4 sa).length ≤ 26 := by
  have h := tql3 sa
  have e := dg_le (zn sa 8 7)
  show 24 ≤ (tq3 sa ++ dg (zn sa 8 7)).length ∧ (tq3 sa ++ dg (zn sa 8 7)).length ≤ 26
  rw [List.length_append]; omega
theorem tql5 (sa : SA) : 26 ≤ (tq5 sa).length ∧ (tq5 sa).length ≤ 28 := by
  have h := tql4 sa
  have e : (txB (txL 2)).length = 2 := by decide +kernel
  show 26 ≤ (tq4 sa ++ txB (txL 2)).length ∧ (tq4 sa ++ txB (txL 2)).length ≤ 28
  rw [List.length_append]; omega
theorem tql6 (sa : SA) : 27 ≤ (tq6 sa).length ∧ (tq6 sa).length ≤ 30 := by
  have h := tql5 sa
  have e := dg_le (zn sa 11 15)
  show 27 ≤ (tq5 sa ++ dg (zn sa 11 15)).length ∧ (tq5 sa ++ dg (zn sa 11 15)).length ≤ 30
  rw [List.length_append]; omega
theorem tql7 (sa : SA) : 39 ≤ (tq7 sa).length ∧ (tq7 sa).length ≤ 42 := by
  have h := tql6 sa
  have e : (txB (txL 3)).length = 12 := by decide +kernel
  show 39 ≤ (tq6 sa ++ txB (txL 3)).length ∧ (tq6 sa ++ txB (txL 3)).length ≤ 42
  rw [List.length_append]; omega
theorem tql8 (sa : SA) : 40 ≤ (tq8 sa).length ∧ (tq8 sa).length ≤ 44 := by
  have h := tql7 sa
  have e := dg_le (zn sa 15 7)
  show 40 ≤ (tq7 sa ++ dg (zn sa 15 7)).length ∧ (tq7 sa ++ dg (zn sa 15 7)).length ≤ 44
  rw [List.length_append]; omega
theorem tql9 (sa : SA) : 49 ≤ (tq9 sa).length ∧ (tq9 sa).length ≤ 53 := by
  have h := tql8 sa
  have e : (txB (txL 4)).length = 9 := by decide +kernel
  show 49 ≤ (tq8 sa ++ txB (txL 4)).length ∧ (tq8 sa ++ txB (txL 4)).length ≤ 53
  rw [List.length_append]; omega
theorem tql10 (sa : SA) : 50 ≤ (tq10 sa).length ∧ (tq10 sa).length ≤ 55 := by
  have h := tql9 sa
  have e := dg_le (zn sa 18 63)
  show 50 ≤ (tq9 sa ++ dg (zn sa 18 63)).length ∧ (tq9 sa ++ dg (zn sa 18 63)).length ≤ 55
  rw [List.length_append]; omega
theorem tql11 (sa : SA) : 60 ≤ (tq11 sa).length ∧ (tq11 sa).length ≤ 65 := by
  have h := tql10 sa
  have e : (txB (txL 5)).length = 10 := by decide +kernel
  show 60 ≤ (tq10 sa ++ txB (txL 5)).length ∧ (tq10 sa ++ txB (txL 5)).length ≤ 65
  rw [List.length_append]; omega
theorem tql12 (sa : SA) : 61 ≤ (tq12 sa).length ∧ (tq12 sa).length ≤ 67 := by
  have h := tql11 sa
  have e := dg_le (zn sa 24 3)
  show 61 ≤ (tq11 sa ++ dg (zn sa 24 3)).length ∧ (tq11 sa ++ dg (zn sa 24 3)).length ≤ 67
  rw [List.length_append]; omega
theorem tql13 (sa : SA) : 67 ≤ (tq13 sa).length ∧ (tq13 sa).length ≤ 73 := by
  have h := tql12 sa
  have e : (txB (txL 6)).length = 6 := by decide +kernel
  show 67 ≤ (tq12 sa ++ txB (txL 6)).length ∧ (tq12 sa ++ txB (txL 6)).length ≤ 73
  rw [List.length_append]; omega
theorem tql14 (sa : SA) : 68 ≤ (tq14 sa).length ∧ (tq14 sa).length ≤ 75 := by
  have h := tql13 sa
  have e := dg_le (zn sa 26 1)
  show 68 ≤ (tq13 sa ++ dg (zn sa 26 1)).length ∧ (tq13 sa ++ dg (zn sa 26 1)).length ≤ 75
  rw [List.length_append]; omega
theorem tql15 (sa : SA) : 83 ≤ (tq15 sa).length ∧ (tq15 sa).length ≤ 90 := by
  have h := tql14 sa
  have e : (txB (txL 7)).length = 15 := by decide +kernel
  show 83 ≤ (tq14 sa ++ txB (txL 7)).length ∧ (tq14 sa ++ txB (txL 7)).length ≤ 90
  rw [List.length_append]; omega
theorem okB_of : ∀ i, i < 8 → ∀ x ∈ txB (txL i), okB x := by decide +kernel
theorem okB_dg : ∀ z, z < 100 → ∀ x ∈ dg z, okB x := by decide +kernel
theorem fit_of : ∀ i, i < 8 → ∀ x ∈ txB (txL i), fits .byte (.int x) = true := by decide +kernel
theorem fit_tx (i : Nat) (h : i < 8) : sb_Fit (fun j => (txB (txL i)).getD j 0) := by
  intro j
  show fits .byte (.int ((txB (txL i)).getD j 0)) = true
  by_cases hj : j < (txB (txL i)).length
  · rw [show (txB (txL i)).getD j 0 = (txB (txL i))[j] from by simp [List.getD_eq_getElem?_getD, hj]]
    exact fit_of i h _ (List.getElem_mem hj)
  · rw [show (txB (txL i)).getD j 0 = 0 from by simp [List.getD_eq_getElem?_getD, List.getElem?_eq_none (Nat.le_of_not_lt hj)]]
    exact sb_fit0 0
theorem zn_lt (sa : SA) (sh : Int32) (m : Nat) (hm : m < 100) : zn sa sh m < 100 := Nat.lt_of_le_of_lt (fz_le _ m (by omega)) hm
theorem tq_ok (sa : SA) : ∀ x ∈ tq15 sa, okB x := by
  have h0 : ∀ x ∈ tq0 sa, okB x := fun x h => absurd h List.not_mem_nil
  have h1 : ∀ x ∈ tq1 sa, okB x := fun x h => (List.mem_append.mp h).elim (h0 x) (fun h => okB_of 0 (by decide) x h)
  have h2 : ∀ x ∈ tq2 sa, okB x := fun x h => (List.mem_append.mp h).elim (h1 x) (fun h => okB_dg _ (zn_lt sa _ _ (by decide)) x h)
  have h3 : ∀ x ∈ tq3 sa, okB x := fun x h => (List.mem_append.mp h).elim (h2 x) (fun h => okB_of 1 (by decide) x h)
  have h4 : ∀ x ∈ tq4 sa, okB x := fun x h => (List.mem_append.mp h).elim (h3 x) (fun h => okB_dg _ (zn_lt sa _ _ (by decide)) x h)
  have h5 : ∀ x ∈ tq5 sa, okB x := fun x h => (List.mem_append.mp h).elim (h4 x) (fun h => okB_of 2 (by decide) x h)
  have h6 : ∀ x ∈ tq6 sa, okB x := fun x h => (List.mem_append.mp h).elim (h5 x) (fun h => okB_dg _ (zn_lt sa _ _ (by decide)) x h)
  have h7 : ∀ x ∈ tq7 sa, okB x := fun x h => (List.mem_append.mp h).elim (h6 x) (fun h => okB_of 3 (by decide) x h)
  have h8 : ∀ x ∈ tq8 sa, okB x := fun x h => (List.mem_append.mp h).elim (h7 x) (fun h => okB_dg _ (zn_lt sa _ _ (by decide)) x h)
  have h9 : ∀ x ∈ tq9 sa, okB x := fun x h => (List.mem_append.mp h).elim (h8 x) (fun h => okB_of 4 (by decide) x h)
  have h10 : ∀ x ∈ tq10 sa, okB x := fun x h => (List.mem_append.mp h).elim (h9 x) (fun h => okB_dg _ (zn_lt sa _ _ (by decide)) x h)
  have h11 : ∀ x ∈ tq11 sa, okB x := fun x h => (List.mem_append.mp h).elim (h10 x) (fun h => okB_of 5 (by decide) x h)
  have h12 : ∀ x ∈ tq12 sa, okB x := fun x h => (List.mem_append.mp h).elim (h11 x) (fun h => okB_dg _ (zn_lt sa _ _ (by decide)) x h)
  have h13 : ∀ x ∈ tq13 sa, okB x := fun x h => (List.mem_append.mp h).elim (h12 x) (fun h => okB_of 6 (by decide) x h)
  have h14 : ∀ x ∈ tq14 sa, okB x := fun x h => (List.mem_append.mp h).elim (h13 x) (fun h => okB_dg _ (zn_lt sa _ _ (by decide)) x h)
  have h15 : ∀ x ∈ tq15 sa, okB x := fun x h => (List.mem_append.mp h).elim (h14 x) (fun h => okB_of 7 (by decide) x h)
  exact h15
theorem ix_one (a : Nat × va_E) (w : va_W) : (List.range' 1 w.length).map (fun i => (a :: w)[i]?) = w.map some := by
  apply List.ext_getElem?
  intro i
  rcases Nat.lt_or_ge i w.length with h | h
  · simp [h, Nat.add_comm 1 i]
  · rw [List.getElem?_eq_none (by simpa using h), List.getElem?_eq_none (by simpa using h)]
theorem dis_one (n : Nat) : ∀ i ∈ List.range' 1 n, i ∉ ([0] : List Nat) := by
  intro i hi h
  have := List.mem_range'_1.mp hi
  simp at h
  omega
section CEA
variable {l : Launch} {y : MethodName} {rk mc ms : Nat} {D : va_G} {tys : List (ClassId × FieldType)} {sa : SA} {wc : va_W} {av : List Value} {cc : ByteArray} {maxL : Nat} {ret : Option FieldType} {lv0 : List (Nat × Value)}
theorem ce_ofA (Qc : (Nat → Prop) → Array Value → State → Outcome → State → Prop) (own : String) (hown : y.cls = own) (hy : plainName y.cls = true) (hlen : (lg_sl av).length ≤ maxL) (h0 : lv_args 0 av = lv0)
    (body : ∀ (p : Program) (e : Env) (R : Room) (s : State) (m : MethodId) (args : Array Value) (below : List Frame) (meth : Method) (c : Code) (A : Nat → Prop), A = va_A wc s.heap.size → CY p R s m args meth c cc maxL own rk D tys A sa → R.cells = mc → R.slots = ms → meth.sig.returnType = ret → VV p l e R s m args below meth c maxL D A 0 0 (MQ below (Qc A) args s mc ms A) wc 0 lv0 []) :
    ∀ sz, Met l y (wsm y cc maxL ret) (rmc rk mc ms) (PC0 D tys sa wc av sz) (Qc (va_A wc sz)) mc ms (va_A wc sz) := by
  intro sz
  refine Met.ofW (cc := cc) (maxL := maxL) (ret := ret) hy rfl ?_
  intro p e s m args below meth c s₁ B hml hv
  obtain ⟨rfl, hsz, hP, hK, hD, hE⟩ := hv
  subst hsz
  have hts := atoms_spec (ws := wsm y cc maxL ret) B.pre
  have hown' : s.vm.findClass own = some m.cls := hown ▸ findClass_of_methodNamed B.named
  have C : CY p (headSpec (wsm y cc maxL ret) (rmc rk mc ms)).room s m av.toArray meth c cc maxL own rk D tys (va_A wc s.heap.size) sa := ⟨B.exec, B.bytes, hml, hown', fun w hw => hts w (List.mem_cons_of_mem _ hw), hK, fun q h => Or.inr h, hE, ⟨Nat.le_refl _, Nat.le_refl _⟩, B.notSynchronized⟩
  have hl := lv_entry av (n := maxL) hlen
  rw [h0] at hl
  rw [lg_entry_eq]
  exact body p e _ s m av.toArray below meth c _ rfl C rfl rfl B.returns s.heap [] _ hP (hD.self (sz := s.heap.size)) va_S.rf hl
end CEA
abbrev WSB (cB : ClassId) (q : Nat) (tx : List Int32) (u : SBS tx) : va_W := [(q, .inr (1, [.ref u.1.1, .int 0, .int 0, .int (i32 tx.length)])), (u.1.1, .inl (cB, u.1.2.1, .inl u.1.2.2))]
section BBR
variable {p : Program} {l : Launch} {e : Env} {R : Room} {s : State} {m : MethodId} {args : Array Value} {below : List Frame} {meth : Method} {c : Code} {D : va_G} {tys : List (ClassId × FieldType)} {A : Nat → Prop} {sa : SA} {Q : State → Prop} {cells slots pc pc2 : Nat} {lv : List (Nat × Value)} {cB : ClassId} {q x : Nat} {tx : List Int32} {u : SBS tx} {w : va_W}
theorem bb_S (C : CY p R s m args meth c cL_build 4 RL 610 D tys A sa) (ht4 : tys[4]? = some (cB, .byte)) (hRc : R.cells = 200) (hRs : R.slots = 16000) (hw : w.length = 73) (i : Nat) (hi : i < 8) (hb : (txB (txL i)).length ≤ 18) (ht : tx.length + (txB (txL i)).length ≤ 142) (hc : cells + 1 ≤ 200) (hs : slots + 300 ≤ 16000) (d : decode cL_build pc = .ok (.invokevirtual 68, 3)) (e2 : pc + 3 = pc2) (k : ∀ u' : SBS (tx ++ txB (txL i)), VV p l e R s m args below meth c 4 D A (cells + 1) (slots + 300) Q (WSB cB q (tx ++ txB (txL i)) u' ++ w) pc2 lv ([.ref q, .ref x])) : VV p l e R s m args below meth c 4 D A (cells) (slots) Q (WSB cB q tx u ++ w) pc lv ([.ref (sa.1 (10 + 2 * (2 + i))), .ref q, .ref x]) := by
  have hz := tz_at C.2.2.2.2.2.2.2.1.2.2.2.2.2.2.2.2.2.2.2.2.2.2.1 (2 + i) (by omega)
  have hbs : sa.2.1.getD (2 + i) [] = txB (txL i) := by rw [hz.2]; rcases (by omega : i = 0 ∨ i = 1 ∨ i = 2 ∨ i = 3 ∨ i = 4 ∨ i = 5 ∨ i = 6 ∨ i = 7) with rfl | rfl | rfl | rfl | rfl | rfl | rfl | rfl <;> rfl
  refine vx_callVr C (As := [.ref (sa.1 (10 + 2 * (2 + i)))]) (st := [.ref x]) [0, 1] (List.range' 2 73) (WSB cB q tx u) w rfl (by have := ix_two (q, .inr (1, [.ref u.1.1, .int 0, .int 0, .int (i32 tx.length)])) (u.1.1, .inl (cB, u.1.2.1, .inl u.1.2.2)) w; rw [hw] at this; exact this) (by decide) (nd_range' 2 73) (dis_two 73) 1 clw_J4.1 0 rfl (c_append ht4 q tx u (2 + i) hz.1 (txB (txL i)) hbs hb ht (fit_tx i hi)) zl_68 zb_V_J4_append_15ec4 (by decide) (by decide) rfl rfl (Nat.le_of_ble_eq_true rfl) (by rw [hRc]; omega) (by rw [hRs]; omega) d (cells + 1) (slots + 300) rfl rfl pc2 e2 (fun u' => ?_)
  exact vv_comm _ _ (k u')
theorem bb_I (C : CY p R s m args meth c cL_build 4 RL 610 D tys A sa) (ht4 : tys[4]? = some (cB, .byte)) (hRc : R.cells = 200) (hRs : R.slots = 16000) (hw : w.length = 73) (z : Nat) (hz : z < 100) (ht : tx.length + 2 ≤ 142) (hc : cells + 1 ≤ 200) (hs : slots + 300 ≤ 16000) (d : decode cL_build pc = .ok (.invokevirtual 75, 3)) (e2 : pc + 3 = pc2) (k : ∀ u' : SBS (tx ++ dg z), VV p l e R s m args below meth c 4 D A (cells + 1) (slots + 300) Q (WSB cB q (tx ++ dg z) u' ++ w) pc2 lv ([.ref q, .ref x])) : VV p l e R s m args below meth c 4 D A (cells) (slots) Q (WSB cB q tx u ++ w) pc lv ([.int (i32 z), .ref q, .ref x]) := by
  refine vx_callVr C (As := [.int (i32 z)]) (st := [.ref x]) [0, 1] (List.range' 2 73) (WSB cB q tx u) w rfl (by have := ix_two (q, .inr (1, [.ref u.1.1, .int 0, .int 0, .int (i32 tx.length)])) (u.1.1, .inl (cB, u.1.2.1, .inl u.1.2.2)) w; rw [hw] at this; exact this) (by decide) (nd_range' 2 73) (dis_two 73) 1 clw_J4.1 0 rfl (c_appI ht4 q tx u z hz ht) zl_75 zb_V_J4_append_bf812 (by decide) (by decide) rfl rfl (Nat.le_of_ble_eq_true rfl) (by rw [hRc]; omega) (by rw [hRs]; omega) d (cells + 1) (slots + 300) rfl rfl pc2 e2 (fun u' => ?_)
  exact vv_comm _ _ (k u')
theorem bb_at (C : CY p R s m args meth c cL_build 4 RL 610 D tys A sa) (ht4 : tys[4]? = some (cB, .byte)) (hRc : R.cells = 200) (hRs : R.slots = 16000) (hw : w.length = 75) {st : List Value} (hst : (st.map fun v => v.category).sum ≤ 8) (hc : cells ≤ 200) (hs : slots ≤ 16000) (d : decode cL_build pc = .ok (.invokestatic 72, 3)) (e2 : pc + 3 = pc2) (k : VV p l e R s m args below meth c 4 D A (cells) (slots) Q (w) pc2 lv (.int (s0w sa) :: st)) : VV p l e R s m args below meth c 4 D A (cells) (slots) Q (w) pc lv (.int 0 :: .ref (sa.1 3) :: st) := by
  refine vx_callSi C (As := [.ref (sa.1 3), .int 0]) (st := st) [] (List.range' 0 75) [] w rfl (by have := ix_all w; rw [hw] at this; exact this) (by decide) (nd_range' 0 75) (fun i _ h => absurd h List.not_mem_nil) (c_at ht4 0 (by decide) C.2.2.2.2.2.2.2.1.2.2.2.2.2.2.2.2.2.2.2.2.2.2.2.1) zl_72 zb_S_L_at (by decide) (by decide) rfl rfl hst (by rw [hRc]; omega) (by rw [hRs]; omega) d (cells + 0) (slots + 0) rfl rfl pc2 e2 (fun _ => ?_)
  rw [List.append_nil]
  exact k
end BBR
theorem zl_100 : Cond.methodLink RL 100 yX5_text ∈ TT := TT_of (i := 816) (by decide +kernel) rfl
theorem zl_102 : Cond.methodLink RL 102 yX5_force ∈ TT := TT_of (i := 820) (by decide +kernel) rfl
def sb0 (v : Nat) : SBS [] := ⟨(v, 16, fun _ => 0), Or.inl rfl, Nat.zero_le _, fun j hj => absurd hj (Nat.not_lt_zero j), sb_fit0⟩
set_option maxRecDepth 1000000 in
set_option maxHeartbeats 16000000 in
theorem bb_131 {p : Program} {l : Launch} {e : Env} {R : Room} {s : State} {m : MethodId} {args : Array Value} {below : List Frame} {meth : Method} {c : Code} {D : va_G} {tys : List (ClassId × FieldType)} {A : Nat → Prop} {sa : SA} {cells slots : Nat} {cB cI cT cS : ClassId} {ad : Nat → Nat} (C : CY p R s m args meth c cL_build 4 RL 610 D tys A sa) (ht4 : tys[4]? = some (cB, .byte)) (hRc : R.cells = 200) (hRs : R.slots = 16000) (hr : meth.sig.returnType = some (.object "SalvageOfDays")) (hge : GE YI ad (cAI cI cT cS) tys 73)
    {N : Nat} {ga gf g1 : Mem} {rf rt rq : Int32} (hfeed : feedX N (tq15 sa) ga = some (rf, gf)) {gt : Mem} (ht1x : X5_text N gf = some (rt, gt)) (ht2x : X5_force N rt gt = some (rq, g1)) (hc : cells ≤ 100) (hs : slots ≤ 8000) :
    VV p l e R s m args below meth c 4 D A (cells) (slots) (MQ below (QEr D (fun u : Nat → Nat => u 72) (fun u : Nat → Nat => wl YI u (cAI cI cT cS) 73 g1) A) args s 200 16000 A) (wl YI ad (cAI cI cT cS) 73 ga) 131 [(0, .ref (sa.1 3)), (1, .ref (ad 72))] [] := by
  have hwl : (wl YI ad (cAI cI cT cS) 73 ga).length = 73 := by simp [wl]
  refine vv_aload_n C 1 dL_build_131 rfl rfl 132 rfl ?_
  refine vv_new C tyJ4 tyJ4_ok clw_J4 zl_c63 zl_i4 zl_n4 [.null, .int 0, .int 0, .int 0] (by intro j hj; match j, hj with | 0, _ => rfl | 1, _ => rfl | 2, _ => rfl | 3, _ => rfl) (by rw [hRc]; omega) (by rw [hRs]; omega) dL_build_132 (cells + 1) (slots + 4) rfl rfl 135 rfl (fun q => ?_)
  refine vv_comm _ _ ?_
  refine vv_dup C dL_build_135 rfl 136 rfl ?_
  refine vv_callI C (As := []) (st := [.ref q, .ref (ad 72)]) [0] (List.range' 1 73) [(q, .inr (1, [.null, .int 0, .int 0, .int 0]))] (wl YI ad (cAI cI cT cS) 73 ga) rfl (by have := ix_one (q, .inr (1, [.null, .int 0, .int 0, .int 0])) (wl YI ad (cAI cI cT cS) 73 ga); rw [hwl] at this; exact this) (by decide) (nd_range' 1 73) (dis_one 73) (c_J4_init ht4 q) zl_65 zb_I_J4_init_da8c8 rfl (by decide) (by decide) rfl rfl (Nat.le_of_ble_eq_true rfl) (by rw [hRc]; omega) (by rw [hRs]; omega) dL_build_136 (cells + 1 + 1) (slots + 4 + 16) rfl rfl 139 rfl (fun v => ?_)
  refine vv_comm _ _ ?_
  refine vv_ws (ws2 := WSB cB q (tq0 sa) (sb0 v) ++ wl YI ad (cAI cI cT cS) 73 ga) rfl ?_
  generalize sb0 v = u0
  refine vx_ldcL C 0 (by decide) rfl rfl dL_build_139 141 rfl ?_
  refine bb_S C ht4 hRc hRs (tx := tq0 sa) (u := u0) hwl 0 (by decide) (by decide +kernel) (by have := tql0 sa; have e : (txB (txL 0)).length = 15 := (by decide +kernel); omega) (by omega) (by omega) dL_build_141 rfl (fun u1 => ?_)
  change SBS (tq1 sa) at u1
  change VV _ _ _ _ _ _ _ _ _ _ _ _ _ (cells + 1 + 1 + 1) (slots + 4 + 16 + 300) _ (WSB cB q (tq1 sa) u1 ++ wl YI ad (cAI cI cT cS) 73 ga) _ _ _
  refine vv_aload_n C 0 dL_build_144 rfl rfl 145 rfl ?_
  refine vv_iconst C (0 : Int32) dL_build_145 (by decide) 146 rfl ?_
  refine bb_at C ht4 hRc hRs (by rw [List.length_append, hwl]; rfl) (Nat.le_of_ble_eq_true rfl) (by omega) (by omega) dL_build_146 rfl ?_
  refine vv_iconst C (3 : Int32) dL_build_149 (by decide) 150 rfl ?_
  refine vx_ishr C dL_build_150 151 rfl ?_
  refine vv_bipush C (31 : Int32) dL_build_151 (by decide) 153 rfl ?_
  refine vx_iand C dL_build_153 154 rfl ?_
  rw [show ((s0w sa) >>> ((3 : Int32) &&& 31)) &&& (31 : Int32) = i32 (zn sa 3 31) from fz_eq _ 31]
  refine bb_I C ht4 hRc hRs (tx := tq1 sa) (u := u1) hwl (zn sa 3 31) (zn_lt sa _ _ (by decide)) (by have := tql1 sa; omega) (by omega) (by omega) dL_build_154 rfl (fun u2 => ?_)
  change SBS (tq2 sa) at u2
  change VV _ _ _ _ _ _ _ _ _ _ _ _ _ (cells + 1 + 1 + 1 + 1) (slots + 4 + 16 + 300 + 300) _ (WSB cB q (tq2 sa) u2 ++ wl YI ad (cAI cI cT cS) 73 ga) _ _ _
  refine vx_ldcL C 1 (by decide) rfl rfl dL_build_157 159 rfl ?_
  refine bb_S C ht4 hRc hRs (tx := tq2 sa) (u := u2) hwl 1 (by decide) (by decide +kernel) (by have := tql2 sa; have e : (txB (txL 1)).length = 7 := (by decide +kernel); omega) (by omega) (by omega) dL_build_159 rfl (fun u3 => ?_)
  change SBS (tq3 sa) at u3
  change VV _ _ _ _ _ _ _ _ _ _ _ _ _ (cells + 1 + 1 + 1 + 1 + 1) (slots + 4 + 16 + 300 + 300 + 300) _ (WSB cB q (tq3 sa) u3 ++ wl YI ad (cAI cI cT cS) 73 ga) _ _ _
  refine vv_aload_n C 0 dL_build_162 rfl rfl 163 rfl ?_
  refine vv_iconst C (0 : Int32) dL_build_163 (by decide) 164 rfl ?_
  refine bb_at C ht4 hRc hRs (by rw [List.length_append, hwl]; rfl) (Nat.le_of_ble_eq_true rfl) (by omega) (by omega) dL_build_164 rfl ?_
  refine vv_bipush C (8 : Int32) dL_build_167 (by decide) 169 rfl ?_
  refine vx_ishr C dL_build_169 170 rfl ?_
  refine vv_bipush C (7 : Int32) dL_build_170 (by decide) 172 rfl ?_
  refine vx_iand C dL_build_172 173 rfl ?_
  rw [show ((s0w sa) >>> ((8 : Int32) &&& 31)) &&& (7 : Int32) = i32 (zn sa 8 7) from fz_eq _ 7]
  refine bb_I C ht4 hRc hRs (tx := tq3 sa) (u := u3) hwl (zn sa 8 7) (zn_lt sa _ _ (by decide)) (by have := tql3 sa; omega) (by omega) (by omega) dL_build_173 rfl (fun u4 => ?_)
  change SBS (tq4 sa) at u4
  change VV _ _ _ _ _ _ _ _ _ _ _ _ _ (cells + 1 + 1 + 1 + 1 + 1 + 1) (slots + 4 + 16 + 300 + 300 + 300 + 300) _ (WSB cB q (tq4 sa) u4 ++ wl YI ad (cAI cI cT cS) 73 ga) _ _ _
  refine vx_ldcL C 2 (by decide) rfl rfl dL_build_176 178 rfl ?_
  refine bb_S C ht4 hRc hRs (tx := tq4 sa) (u := u4) hwl 2 (by decide) (by decide +kernel) (by have := tql4 sa; have e : (txB (txL 2)).length = 2 := (by decide +kernel); omega) (by omega) (by omega) dL_build_178 rfl (fun u5 => ?_)
  change SBS (tq5 sa) at u5
  change VV _ _ _ _ _ _ _ _ _ _ _ _ _ (cells + 1 + 1 + 1 + 1 + 1 + 1 + 1) (slots + 4 + 16 + 300 + 300 + 300 + 300 + 300) _ (WSB cB q (tq5 sa) u5 ++ wl YI ad (cAI cI cT cS) 73 ga) _ _ _
  refine vv_aload_n C 0 dL_build_181 rfl rfl 182 rfl ?_
  refine vv_iconst C (0 : Int32) dL_build_182 (by decide) 183 rfl ?_
  refine bb_at C ht4 hRc hRs (by rw [List.length_append, hwl]; rfl) (Nat.le_of_ble_eq_true rfl) (by omega) (by omega) dL_build_183 rfl ?_
  refine vv_bipush C (11 : Int32) dL_build_186 (by decide) 188 rfl ?_
  refine vx_ishr C dL_build_188 189 rfl ?_
  refine vv_bipush C (15 : Int32) dL_build_189 (by decide) 191 rfl ?_
  refine vx_iand C dL_build_191 192 rfl ?_
  rw [show ((s0w sa) >>> ((11 : Int32) &&& 31)) &&& (15 : Int32) = i32 (zn sa 11 15) from fz_eq _ 15]
  refine bb_I C ht4 hRc hRs (tx := tq5 sa) (u := u5) hwl (zn sa 11 15) (zn_lt sa _ _ (by decide)) (by have := tql5 sa; omega) (by omega) (by omega) dL_build_192 rfl (fun u6 => ?_)
  change SBS (tq6 sa) at u6
  change VV _ _ _ _ _ _ _ _ _ _ _ _ _ (cells + 1 + 1 + 1 + 1 + 1 + 1 + 1 + 1) (slots + 4 + 16 + 300 + 300 + 300 + 300 + 300 + 300) _ (WSB cB q (tq6 sa) u6 ++ wl YI ad (cAI cI cT cS) 73 ga) _ _ _
  refine vx_ldcL C 3 (by decide) rfl rfl dL_build_195 197 rfl ?_
  refine bb_S C ht4 hRc hRs (tx := tq6 sa) (u := u6) hwl 3 (by decide) (by decide +kernel) (by have := tql6 sa; have e : (txB (txL 3)).length = 12 := (by decide +kernel); omega) (by omega) (by omega) dL_build_197 rfl (fun u7 => ?_)
  change SBS (tq7 sa) at u7
  change VV _ _ _ _ _ _ _ _ _ _ _ _ _ (cells + 1 + 1 + 1 + 1 + 1 + 1 + 1 + 1 + 1) (slots + 4 + 16 + 300 + 300 + 300 + 300 + 300 + 300 + 300) _ (WSB cB q (tq7 sa) u7 ++ wl YI ad (cAI cI cT cS) 73 ga) _ _ _
  refine vv_aload_n C 0 dL_build_200 rfl rfl 201 rfl ?_
  refine vv_iconst C (0 : Int32) dL_build_201 (by decide) 202 rfl ?_
  refine bb_at C ht4 hRc hRs (by rw [List.length_append, hwl]; rfl) (Nat.le_of_ble_eq_true rfl) (by omega) (by omega) dL_build_202 rfl ?_
  refine vv_bipush C (15 : Int32) dL_build_205 (by decide) 207 rfl ?_
  refine vx_ishr C dL_build_207 208 rfl ?_
  refine vv_bipush C (7 : Int32) dL_build_208 (by decide) 210 rfl ?_
  refine vx_iand C dL_build_210 211 rfl ?_
  rw [show ((s0w sa) >>> ((15 : Int32) &&& 31)) &&& (7 : Int32) = i32 (zn sa 15 7) from fz_eq _ 7]
  refine bb_I C ht4 hRc hRs (tx := tq7 sa) (u := u7) hwl (zn sa 15 7) (zn_lt sa _ _ (by decide)) (by have := tql7 sa; omega) (by omega) (by omega) dL_build_211 rfl (fun u8 => ?_)
  change SBS (tq8 sa) at u8
  change VV _ _ _ _ _ _ _ _ _ _ _ _ _ (cells + 1 + 1 + 1 + 1 + 1 + 1 + 1 + 1 + 1 + 1) (slots + 4 + 16 + 300 + 300 + 300 + 300 + 300 + 300 + 300 + 300) _ (WSB cB q (tq8 sa) u8 ++ wl YI ad (cAI cI cT cS) 73 ga) _ _ _
  refine vx_ldcL C 4 (by decide) rfl rfl dL_build_214 216 rfl ?_
  refine bb_S C ht4 hRc hRs (tx := tq8 sa) (u := u8) hwl 4 (by decide) (by decide +kernel) (by have := tql8 sa; have e : (txB (txL 4)).length = 9 := (by decide +kernel); omega) (by omega) (by omega) dL_build_216 rfl (fun u9 => ?_)
  change SBS (tq9 sa) at u9
  change VV _ _ _ _ _ _ _ _ _ _ _ _ _ (cells + 1 + 1 + 1 + 1 + 1 + 1 + 1 + 1 + 1 + 1 + 1) (slots + 4 + 16 + 300 + 300 + 300 + 300 + 300 + 300 + 300 + 300 + 300) _ (WSB cB q (tq9 sa) u9 ++ wl YI ad (cAI cI cT cS) 73 ga) _ _ _
  refine vv_aload_n C 0 dL_build_219 rfl rfl 220 rfl ?_
  refine vv_iconst C (0 : Int32) dL_build_220 (by decide) 221 rfl ?_
  refine bb_at C ht4 hRc hRs (by rw [List.length_append, hwl]; rfl) (Nat.le_of_ble_eq_true rfl) (by omega) (by omega) dL_build_221 rfl ?_
  refine vv_bipush C (18 : Int32) dL_build_224 (by decide) 226 rfl ?_
  refine vx_ishr C dL_build_226 227 rfl ?_
  refine vv_bipush C (63 : Int32) dL_build_227 (by decide) 229 rfl ?_
  refine vx_iand C dL_build_229 230 rfl ?_
  rw [show ((s0w sa) >>> ((18 : Int32) &&& 31)) &&& (63 : Int32) = i32 (zn sa 18 63) from fz_eq _ 63]
  refine bb_I C ht4 hRc hRs (tx := tq9 sa) (u := u9) hwl (zn sa 18 63) (zn_lt sa _ _ (by decide)) (by have := tql9 sa; omega) (by omega) (by omega) dL_build_230 rfl (fun u10 => ?_)
  change SBS (tq10 sa) at u10
  change VV _ _ _ _ _ _ _ _ _ _ _ _ _ (cells + 1 + 1 + 1 + 1 + 1 + 1 + 1 + 1 + 1 + 1 + 1 + 1) (slots + 4 + 16 + 300 + 300 + 300 + 300 + 300 + 300 + 300 + 300 + 300 + 300) _ (WSB cB q (tq10 sa) u10 ++ wl YI ad (cAI cI cT cS) 73 ga) _ _ _
  refine vx_ldcL C 5 (by decide) rfl rfl dL_build_233 235 rfl ?_
  refine bb_S C ht4 hRc hRs (tx := tq10 sa) (u := u10) hwl 5 (by decide) (by decide +kernel) (by have := tql10 sa; have e : (txB (txL 5)).length = 10 := (by decide +kernel); omega) (by omega) (by omega) dL_build_235 rfl (fun u11 => ?_)
  change SBS (tq11 sa) at u11
  change VV _ _ _ _ _ _ _ _ _ _ _ _ _ (cells + 1 + 1 + 1 + 1 + 1 + 1 + 1 + 1 + 1 + 1 + 1 + 1 + 1) (slots + 4 + 16 + 300 + 300 + 300 + 300 + 300 + 300 + 300 + 300 + 300 + 300 + 300) _ (WSB cB q (tq11 sa) u11 ++ wl YI ad (cAI cI cT cS) 73 ga) _ _ _
  refine vv_aload_n C 0 dL_build_238 rfl rfl 239 rfl ?_
  refine vv_iconst C (0 : Int32) dL_build_239 (by decide) 240 rfl ?_
  refine bb_at C ht4 hRc hRs (by rw [List.length_append, hwl]; rfl) (Nat.le_of_ble_eq_true rfl) (by omega) (by omega) dL_build_240 rfl ?_
  refine vv_bipush C (24 : Int32) dL_build_243 (by decide) 245 rfl ?_
  refine vx_ishr C dL_build_245 246 rfl ?_
  refine vv_iconst C (3 : Int32) dL_build_246 (by decide) 247 rfl ?_
  refine vx_iand C dL_build_247 248 rfl ?_
  rw [show ((s0w sa) >>> ((24 : Int32) &&& 31)) &&& (3 : Int32) = i32 (zn sa 24 3) from fz_eq _ 3]
  refine bb_I C ht4 hRc hRs (tx := tq11 sa) (u := u11) hwl (zn sa 24 3) (zn_lt sa _ _ (by decide)) (by have := tql11 sa; omega) (by omega) (by omega) dL_build_248 rfl (fun u12 => ?_)
  change SBS (tq12 sa) at u12
  change VV _ _ _ _ _ _ _ _ _ _ _ _ _ (cells + 1 + 1 + 1 + 1 + 1 + 1 + 1 + 1 + 1 + 1 + 1 + 1 + 1 + 1) (slots + 4 + 16 + 300 + 300 + 300 + 300 + 300 + 300 + 300 + 300 + 300 + 300 + 300 + 300) _ (WSB cB q (tq12 sa) u12 ++ wl YI ad (cAI cI cT cS) 73 ga) _ _ _
  refine vx_ldcL C 6 (by decide) rfl rfl dL_build_251 253 rfl ?_
  refine bb_S C ht4 hRc hRs (tx := tq12 sa) (u := u12) hwl 6 (by decide) (by decide +kernel) (by have := tql12 sa; have e : (txB (txL 6)).length = 6 := (by decide +kernel); omega) (by omega) (by omega) dL_build_253 rfl (fun u13 => ?_)
  change SBS (tq13 sa) at u13
  change VV _ _ _ _ _ _ _ _ _ _ _ _ _ (cells + 1 + 1 + 1 + 1 + 1 + 1 + 1 + 1 + 1 + 1 + 1 + 1 + 1 + 1 + 1) (slots + 4 + 16 + 300 + 300 + 300 + 300 + 300 + 300 + 300 + 300 + 300 + 300 + 300 + 300 + 300) _ (WSB cB q (tq13 sa) u13 ++ wl YI ad (cAI cI cT cS) 73 ga) _ _ _
  refine vv_aload_n C 0 dL_build_256 rfl rfl 257 rfl ?_
  refine vv_iconst C (0 : Int32) dL_build_257 (by decide) 258 rfl ?_
  refine bb_at C ht4 hRc hRs (by rw [List.length_append, hwl]; rfl) (Nat.le_of_ble_eq_true rfl) (by omega) (by omega) dL_build_258 rfl ?_
  refine vv_bipush C (26 : Int32) dL_build_261 (by decide) 263 rfl ?_
  refine vx_ishr C dL_build_263 264 rfl ?_
  refine vv_iconst C (1 : Int32) dL_build_264 (by decide) 265 rfl ?_
  refine vx_iand C dL_build_265 266 rfl ?_
  rw [show ((s0w sa) >>> ((26 : Int32) &&& 31)) &&& (1 : Int32) = i32 (zn sa 26 1) from fz_eq _ 1]
  refine bb_I C ht4 hRc hRs (tx := tq13 sa) (u := u13) hwl (zn sa 26 1) (zn_lt sa _ _ (by decide)) (by have := tql13 sa; omega) (by omega) (by omega) dL_build_266 rfl (fun u14 => ?_)
  change SBS (tq14 sa) at u14
  change VV _ _ _ _ _ _ _ _ _ _ _ _ _ (cells + 1 + 1 + 1 + 1 + 1 + 1 + 1 + 1 + 1 + 1 + 1 + 1 + 1 + 1 + 1 + 1) (slots + 4 + 16 + 300 + 300 + 300 + 300 + 300 + 300 + 300 + 300 + 300 + 300 + 300 + 300 + 300 + 300) _ (WSB cB q (tq14 sa) u14 ++ wl YI ad (cAI cI cT cS) 73 ga) _ _ _
  refine vx_ldcL C 7 (by decide) rfl rfl dL_build_269 271 rfl ?_
  refine bb_S C ht4 hRc hRs (tx := tq14 sa) (u := u14) hwl 7 (by decide) (by decide +kernel) (by have := tql14 sa; have e : (txB (txL 7)).length = 15 := (by decide +kernel); omega) (by omega) (by omega) dL_build_271 rfl (fun u15 => ?_)
  change SBS (tq15 sa) at u15
  change VV _ _ _ _ _ _ _ _ _ _ _ _ _ (cells + 1 + 1 + 1 + 1 + 1 + 1 + 1 + 1 + 1 + 1 + 1 + 1 + 1 + 1 + 1 + 1 + 1) (slots + 4 + 16 + 300 + 300 + 300 + 300 + 300 + 300 + 300 + 300 + 300 + 300 + 300 + 300 + 300 + 300 + 300) _ (WSB cB q (tq15 sa) u15 ++ wl YI ad (cAI cI cT cS) 73 ga) _ _ _
  have hl15 := tql15 sa
  have hcap : (tq15 sa).length < u15.1.2.1 ∧ u15.1.2.1 ≤ 142 := by have h1 := u15.2.1; have h2 := u15.2.2.1; unfold capOK at h1; omega
  refine vx_callVr C (As := []) (st := [.ref (ad 72)]) [0, 1] (List.range' 2 73) (WSB cB q (tq15 sa) u15) (wl YI ad (cAI cI cT cS) 73 ga) rfl (by have := ix_two (q, .inr (1, [.ref u15.1.1, .int 0, .int 0, .int (i32 (tq15 sa).length)])) (u15.1.1, .inl (cB, u15.1.2.1, .inl u15.1.2.2)) (wl YI ad (cAI cI cT cS) 73 ga); rw [hwl] at this; exact this) (by decide) (nd_range' 2 73) (dis_two 73) 1 clw_J4.1 0 rfl (c_toS ht4 q u15.1.1 u15.1.2.1 (tq15 sa).length u15.1.2.2 hcap.1 (by omega) u15.2.2.2.2) zl_92 zb_V_J4_toString_0e30d (by decide) (by decide) rfl rfl (Nat.le_of_ble_eq_true rfl) (by rw [hRc]; omega) (by rw [hRs]; omega) dL_build_274 (cells + 1 + 1 + 1 + 1 + 1 + 1 + 1 + 1 + 1 + 1 + 1 + 1 + 1 + 1 + 1 + 1 + 1 + 2) (slots + 4 + 16 + 300 + 300 + 300 + 300 + 300 + 300 + 300 + 300 + 300 + 300 + 300 + 300 + 300 + 300 + 300 + 304) rfl rfl 277 rfl (fun w => ?_)
  refine vv_comm _ _ ?_
  refine vv_ws (ws2 := WSB cB q (tq15 sa) u15 ++ ([(w.1, .inr (0, [.ref w.2, .int 0, .int 0, .int 0])), (w.2, .inl (cB, (tq15 sa).length, .inl (va_cpy u15.1.2.2 (fun _ => 0) 0 0 (tq15 sa).length)))] ++ (wl YI ad (cAI cI cT cS) 73 ga ++ []))) (by rw [List.append_nil]; rfl) ?_
  refine vv_drop _ _ ?_
  refine vx_callSv C (As := [.ref (ad 72), .ref w.1]) (st := []) (List.range' 0 75) [] ([(w.1, .inr (0, [.ref w.2, .int 0, .int 0, .int 0])), (w.2, .inl (cB, (tq15 sa).length, .inl (va_cpy u15.1.2.2 (fun _ => 0) 0 0 (tq15 sa).length)))] ++ (wl YI ad (cAI cI cT cS) 73 ga ++ [])) [] (by have := ix_all ([(w.1, .inr (0, [.ref w.2, .int 0, .int 0, .int 0])), (w.2, .inl (cB, (tq15 sa).length, .inl (va_cpy u15.1.2.2 (fun _ => 0) 0 0 (tq15 sa).length)))] ++ (wl YI ad (cAI cI cT cS) 73 ga ++ [])); rw [show ([(w.1, .inr (0, [.ref w.2, .int 0, .int 0, .int 0])), (w.2, .inl (cB, (tq15 sa).length, .inl (va_cpy u15.1.2.2 (fun _ => 0) 0 0 (tq15 sa).length)))] ++ (wl YI ad (cAI cI cT cS) 73 ga ++ []) : va_W).length = 75 from by simp [wl]] at this; exact this) rfl (nd_range' 0 75) (by decide) (fun i h => absurd h List.not_mem_nil) (c_text ht4 hge w.1 w.2 (tq15 sa).length (va_cpy u15.1.2.2 (fun _ => 0) 0 0 (tq15 sa).length) (tq15 sa) rfl (by omega) (fun j hj => (sb_cpy0 hj).trans (u15.2.2.2.1 j hj)) (fun j hj => by
      rw [show (va_cpy u15.1.2.2 (fun _ => 0) 0 0 (tq15 sa).length) j = (tq15 sa)[j] from (sb_cpy0 hj).trans ((u15.2.2.2.1 j hj).trans (by simp [List.getD_eq_getElem?_getD, hj]))]
      exact tq_ok sa _ (List.getElem_mem hj)) hfeed) zl_96 zb_S_L_text (by decide) (by decide) rfl rfl (Nat.le_of_ble_eq_true rfl) (by rw [hRc]; omega) (by rw [hRs]; omega) dL_build_277 (cells + 1 + 1 + 1 + 1 + 1 + 1 + 1 + 1 + 1 + 1 + 1 + 1 + 1 + 1 + 1 + 1 + 1 + 2 + 0) (slots + 4 + 16 + 300 + 300 + 300 + 300 + 300 + 300 + 300 + 300 + 300 + 300 + 300 + 300 + 300 + 300 + 300 + 304 + 0) rfl rfl 280 rfl (fun _ => ?_)
  refine vv_ws (ws2 := [(w.1, .inr (0, [.ref w.2, .int 0, .int 0, .int 0])), (w.2, .inl (cB, (tq15 sa).length, .inl (va_cpy u15.1.2.2 (fun _ => 0) 0 0 (tq15 sa).length)))] ++ ([] ++ (wl YI ad (cAI cI cT cS) 73 gf ++ []))) rfl ?_
  refine vv_drop _ _ ?_
  refine vv_aload_n C 1 dL_build_280 rfl rfl 281 rfl ?_
  refine vv_aload_n C 1 dL_build_281 rfl rfl 282 rfl ?_
  refine vv_callWi C (As := []) (st := [.ref (ad 72)]) (pre := []) (post := []) rt cl_X5.1 (obX (by decide)) hge (k_X5_text (by decide) ht1x) zl_100 cm_X5_text (by decide) (by decide) rfl rfl (Nat.le_of_ble_eq_true rfl) ⟨by rw [hRc]; omega, by rw [hRs]; omega⟩ dL_build_282 285 rfl ?_
  refine vv_callWi C (As := [.int rt]) (st := []) (pre := []) (post := []) rq cl_X5.1 (obX (by decide)) hge (k_X5_force (by decide) ht2x) zl_102 cm_X5_force (by decide) (by decide) rfl rfl (Nat.le_of_ble_eq_true rfl) ⟨by rw [hRc]; omega, by rw [hRs]; omega⟩ dL_build_285 288 rfl ?_
  refine vv_pop C dL_build_288 rfl 289 rfl ?_
  refine vv_aload_n C 1 dL_build_289 rfl rfl 290 rfl ?_
  exact vx_aret (W1 := fun u : Nat → Nat => wl YI u (cAI cI cT cS) 73 g1) C ad rfl (by simp) (by omega) (by omega) dL_build_290 hr (Or.inl ⟨_, rfl⟩)
