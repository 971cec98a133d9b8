/-! CONSTRUCTORS: rows over an explicit world (cells named one by one), cells may be made -/
def pl (L : List Int32) : Nat → Int32 := fun j => L.getD j 0
theorem pl_nil : pl [] = fun _ => 0 := by funext j; simp [pl]
theorem pl_add (L : List Int32) (v : Int32) : upd (pl L) L.length v = pl (L ++ [v]) := by
  funext j
  unfold upd pl
  by_cases h : j = L.length
  · subst h; simp
  · rw [if_neg h]
    rcases Nat.lt_or_ge j L.length with q | q
    · simp [List.getD_eq_getElem?_getD, List.getElem?_append_left q]
    · have : L.length < j := by omega
      simp [List.getD_eq_getElem?_getD, List.getElem?_eq_none (Nat.le_of_lt this), List.getElem?_eq_none (show (L ++ [v]).length ≤ j by simp; omega)]
def CY (p : Program) (R : Room) (s : State) (m : MethodId) (args : Array Value) (meth : Method) (c : Code) (cc : ByteArray) (nL : Nat) (own : String) (rk : Nat) (D : va_G) (tys : List (ClassId × FieldType)) (A : Nat → Prop) (sa : SA) : Prop :=
  p.tables.exec = Jvm.exec ∧ c.code = cc ∧ c.maxLocals = nL ∧ s.vm.findClass own = some m.cls ∧ (∀ w ∈ TT, w.before args s = true) ∧ va_K D vwCl tys s ∧ (∀ q, s.heap.size ≤ q → A q) ∧ EX sa A s s.heap ∧ (rk ≤ R.frames ∧ 40 * rk ≤ R.locals) ∧ meth.locks = false
def VV (p : Program) (l : Launch) (e : Env) (R : Room) (s : State) (m : MethodId) (args : Array Value) (below : List Frame) (meth : Method) (c : Code) (nL : Nat) (D : va_G) (A : Nat → Prop) (cells slots : Nat) (Q : State → Prop) (ws : va_W) (pc : Nat) (lv : List (Nat × Value)) (st : List Value) : Prop :=
  ∀ (H : Heap) (locs : List Loc) (ls : Array Slot), va_P D vwCl ws H → va_D A ws → va_S A s.heap H locs → lv_has ls nL lv → W p l e R s m args below meth c H locs cells slots Q (F0 m pc ls st)
/-- a constructor's contract: its own cells in, those and new ones out -/
def PC0 (D : va_G) (tys : List (ClassId × FieldType)) (sa : SA) (wc : va_W) (av : List Value) (sz : Nat) : Array Value → State → Prop :=
  va_Pc av (fun U => U.heap.size = sz ∧ va_P D vwCl wc U.heap ∧ va_K D vwCl tys U ∧ va_D (fun _ => True) wc ∧ EX sa (va_A wc sz) U U.heap)
def rmc (rk mc ms : Nat) : Room := { frames := rk, cells := mc, slots := ms, locals := 40 * rk }
def CI {S : Type} (l : Launch) (y : MethodName) (ws : List Cond) (rk mc ms : Nat) (D : va_G) (tys : List (ClassId × FieldType)) (sa : SA) (wc : va_W) (av : List Value) (W1 : S → va_W) : Prop :=
  ∀ sz, Met l y ws (rmc rk mc ms) (PC0 D tys sa wc av sz) (va_Qv (fun _ : S => True) (fun u t => va_P D vwCl (W1 u) t.heap ∧ va_D (va_A wc sz) (W1 u)) (va_A wc sz)) mc ms (va_A wc sz)
theorem PC0_blind {D : va_G} {tys : List (ClassId × FieldType)} {sa : SA} {wc : va_W} {av : List Value} {sz : Nat} : FrameBlind (PC0 D tys sa wc av sz) := by
  intro a U fr mk h
  obtain ⟨h1, h2, h3, h4, h5, h6⟩ := h
  exact ⟨h1, h2, h3, va_K.moved (u := U) (U := U.calling fr mk a) (Vm.Alike.refl U.vm) h4, h5, by
    have := EX.same (u := U) (U := U.calling fr mk a) (A := va_A wc sz) rfl rfl (by exact h6)
    exact this⟩
section CIO
variable {l : Launch} {y : MethodName} {rk mc ms : Nat} {D : va_G} {tys : List (ClassId × FieldType)} {sa : SA} {wc : va_W} {av : List Value} {cc : ByteArray} {maxL : Nat} {lv0 : List (Nat × Value)}
theorem ci_of {S : Type} {W1 : S → va_W} (own : String) (hown : y.cls = own) (hy : plainName y.cls = true) (hlen : (lg_sl av).length ≤ maxL) (h0 : lv_args 0 av = lv0)
    (body : ∀ (p : Program) (e : Env) (R : Room) (s : State) (m : MethodId) (args : Array Value) (below : List Frame) (meth : Method) (c : Code) (A : Nat → Prop), A = va_A wc s.heap.size → CY p R s m args meth c cc maxL own rk D tys A sa → R.cells = mc → R.slots = ms → (meth.name = y.name) → meth.sig.returnType = none → VV p l e R s m args below meth c maxL D A 0 0 (MQ below (va_Qv (fun _ : S => True) (fun u t => va_P D vwCl (W1 u) t.heap ∧ va_D A (W1 u)) A) args s mc ms A) wc 0 lv0 []) :
    CI l y (wsm y cc maxL none) rk mc ms D tys sa wc av W1 := by
  intro sz
  refine Met.ofW (cc := cc) (maxL := maxL) (ret := none) hy rfl ?_
  intro p e s m args below meth c s₁ B hml hv
  obtain ⟨rfl, hsz, hP, hK, hD, hE⟩ := hv
  subst hsz
  have hts := atoms_spec (ws := wsm y cc maxL none) B.pre
  have hown' : s.vm.findClass own = some m.cls := hown ▸ findClass_of_methodNamed B.named
  have hnm : meth.name = y.name := (name_of_methodNamed B.named B.method).1
  have C : CY p (headSpec (wsm y cc maxL none) (rmc rk mc ms)).room s m av.toArray meth c cc maxL own rk D tys (va_A wc s.heap.size) sa := ⟨B.exec, B.bytes, hml, hown', fun w hw => hts w (List.mem_cons_of_mem _ hw), hK, fun q h => Or.inr h, hE, ⟨Nat.le_refl _, Nat.le_refl _⟩, B.notSynchronized⟩
  have hl := lv_entry av (n := maxL) hlen
  rw [h0] at hl
  rw [lg_entry_eq]
  exact body p e _ s m av.toArray below meth c _ rfl C rfl rfl hnm B.returns s.heap [] _ hP (hD.self (sz := s.heap.size)) va_S.rf hl
end CIO
section VVR
variable {p : Program} {l : Launch} {e : Env} {R : Room} {s : State} {m : MethodId} {args : Array Value} {below : List Frame} {meth : Method} {c : Code} {cc : ByteArray} {nL : Nat} {own : String} {rk : Nat} {D : va_G} {tys : List (ClassId × FieldType)} {A : Nat → Prop} {sa : SA} {Q : State → Prop} {cells slots pc : Nat} {ws ws' : va_W} {lv lv' : List (Nat × Value)} {st : List Value}
theorem vv_sub {D : va_G} {ws w : va_W} {H : Heap} (hP : va_P D vwCl ws H) (is : List Nat) (h1 : is.map (fun i => ws[i]?) = w.map some) : va_P D vwCl w H := by
  intro k q hk
  have h2 : (is.map (fun i => ws[i]?))[k]? = some (some q) := by rw [h1, List.getElem?_map, hk]; rfl
  rw [List.getElem?_map] at h2
  cases hi : is[k]? with
  | none => rw [hi] at h2; cases h2
  | some i => rw [hi] at h2; exact hP i q (Option.some.inj h2)
theorem vv_iconst (C : CY p R s m args meth c cc nL own rk D tys A sa) {z : Int} (v : Int32) (d : decode cc pc = .ok (.iconst z, 1)) (hv : Int32.ofInt z = v) (pc2 : Nat) (e2 : pc + 1 = pc2) (k : VV p l e R s m args below meth c nL D A (cells) (slots) Q (ws) pc2 lv (.int v :: st)) : VV p l e R s m args below meth c nL D A (cells) (slots) Q (ws) pc lv (st) := by
  subst e2; exact fun H locs ls hP hD hS hl => lv_iconst C.1 C.2.1 d hv (k H locs ls hP hD hS hl)
theorem vv_bipush (C : CY p R s m args meth c cc nL own rk D tys A sa) {z : Int} (v : Int32) (d : decode cc pc = .ok (.bipush z, 2)) (hv : (Int8.ofInt z).toInt32 = v) (pc2 : Nat) (e2 : pc + 2 = pc2) (k : VV p l e R s m args below meth c nL D A (cells) (slots) Q (ws) pc2 lv (.int v :: st)) : VV p l e R s m args below meth c nL D A (cells) (slots) Q (ws) pc lv (st) := by
  subst e2; exact fun H locs ls hP hD hS hl => lv_bipush C.1 C.2.1 d hv (k H locs ls hP hD hS hl)
theorem vv_sipush (C : CY p R s m args meth c cc nL own rk D tys A sa) {z : Int} (v : Int32) (d : decode cc pc = .ok (.sipush z, 3)) (hv : (Int16.ofInt z).toInt32 = v) (pc2 : Nat) (e2 : pc + 3 = pc2) (k : VV p l e R s m args below meth c nL D A (cells) (slots) Q (ws) pc2 lv (.int v :: st)) : VV p l e R s m args below meth c nL D A (cells) (slots) Q (ws) pc lv (st) := by
  subst e2; exact fun H locs ls hP hD hS hl => lv_sipush C.1 C.2.1 d hv (k H locs ls hP hD hS hl)
theorem vv_iload_n (C : CY p R s m args meth c cc nL own rk D tys A sa) {kk : Fin 4} {i : Nat} {x : Int32} (pl : Nat) (d : decode cc pc = .ok (.iload_n kk, 1)) (hi : (kk : Nat) = i) (hk : lv[pl]? = some (i, .int x)) (pc2 : Nat) (e2 : pc + 1 = pc2) (k : VV p l e R s m args below meth c nL D A (cells) (slots) Q (ws) pc2 lv (.int x :: st)) : VV p l e R s m args below meth c nL D A (cells) (slots) Q (ws) pc lv (st) := by
  subst e2; exact fun H locs ls hP hD hS hl => lv_iload_n C.1 C.2.1 d hi (lv_at hl pl hk) (k H locs ls hP hD hS hl)
theorem vv_aload_n (C : CY p R s m args meth c cc nL own rk D tys A sa) {kk : Fin 4} {i : Nat} {x : Nat} (pl : Nat) (d : decode cc pc = .ok (.aload_n kk, 1)) (hi : (kk : Nat) = i) (hk : lv[pl]? = some (i, .ref x)) (pc2 : Nat) (e2 : pc + 1 = pc2) (k : VV p l e R s m args below meth c nL D A (cells) (slots) Q (ws) pc2 lv (.ref x :: st)) : VV p l e R s m args below meth c nL D A (cells) (slots) Q (ws) pc lv (st) := by
  subst e2; exact fun H locs ls hP hD hS hl => lv_aload_n C.1 C.2.1 d hi (lv_at hl pl hk) (k H locs ls hP hD hS hl)
theorem vv_istore_n (C : CY p R s m args meth c cc nL own rk D tys A sa) {kk : Fin 4} {i : Nat} {x : Int32} (lv' : List (Nat × Value)) (d : decode cc pc = .ok (.istore_n kk, 1)) (hi : (kk : Nat) = i) (hn : i < nL) (hl' : (i, Value.int x) :: lv.filter (fun q => !(q.1 == i) && !(q.1 + 1 == i && q.2.category == 2)) = lv') (pc2 : Nat) (e2 : pc + 1 = pc2) (k : VV p l e R s m args below meth c nL D A (cells) (slots) Q (ws) pc2 lv' (st)) : VV p l e R s m args below meth c nL D A (cells) (slots) Q (ws) pc lv (.int x :: st) := by
  subst e2; exact fun H locs ls hP hD hS hl => lv_istore_n C.1 C.2.1 d hi hl hn hl' (fun ls2 hl2 => k H locs ls2 hP hD hS hl2)
theorem vv_astore_n (C : CY p R s m args meth c cc nL own rk D tys A sa) {kk : Fin 4} {i : Nat} {x : Nat} (lv' : List (Nat × Value)) (d : decode cc pc = .ok (.astore_n kk, 1)) (hi : (kk : Nat) = i) (hn : i < nL) (hl' : (i, Value.ref x) :: lv.filter (fun q => !(q.1 == i) && !(q.1 + 1 == i && q.2.category == 2)) = lv') (pc2 : Nat) (e2 : pc + 1 = pc2) (k : VV p l e R s m args below meth c nL D A (cells) (slots) Q (ws) pc2 lv' (st)) : VV p l e R s m args below meth c nL D A (cells) (slots) Q (ws) pc lv (.ref x :: st) := by
  subst e2; exact fun H locs ls hP hD hS hl => lv_astore_n C.1 C.2.1 d hi hl hn hl' (fun ls2 hl2 => k H locs ls2 hP hD hS hl2)
theorem vv_iinc (C : CY p R s m args meth c cc nL own rk D tys A sa) {i : Nat} {z : Int} {x : Int32} (pl : Nat) (v : Int32) (lv' : List (Nat × Value)) (d : decode cc pc = .ok (.iinc i z, 3)) (hk : lv[pl]? = some (i, .int x)) (hv : x + Int32.ofInt z = v) (hn : i < nL) (hl' : (i, Value.int v) :: lv.filter (fun q => !(q.1 == i) && !(q.1 + 1 == i && q.2.category == 2)) = lv') (pc2 : Nat) (e2 : pc + 3 = pc2) (k : VV p l e R s m args below meth c nL D A (cells) (slots) Q (ws) pc2 lv' (st)) : VV p l e R s m args below meth c nL D A (cells) (slots) Q (ws) pc lv (st) := by
  subst e2; exact fun H locs ls hP hD hS hl => lv_iinc C.1 C.2.1 d hl hk hv hn hl' (fun ls2 hl2 => k H locs ls2 hP hD hS hl2)
theorem vv_imul (C : CY p R s m args meth c cc nL own rk D tys A sa) {x y : Int32} (v : Int32) (d : decode cc pc = .ok (.imul, 1)) (hv : x * y = v) (pc2 : Nat) (e2 : pc + 1 = pc2) (k : VV p l e R s m args below meth c nL D A (cells) (slots) Q (ws) pc2 lv (.int v :: st)) : VV p l e R s m args below meth c nL D A (cells) (slots) Q (ws) pc lv (.int y :: .int x :: st) := by
  subst e2; subst hv; exact fun H locs ls hP hD hS hl => lv_imul C.1 C.2.1 d (k H locs ls hP hD hS hl)
theorem vv_irem (C : CY p R s m args meth c cc nL own rk D tys A sa) {x y : Int32} (v : Int32) (d : decode cc pc = .ok (.irem, 1)) (hy : ¬ y = 0) (hv : x - x / y * y = v) (pc2 : Nat) (e2 : pc + 1 = pc2) (k : VV p l e R s m args below meth c nL D A (cells) (slots) Q (ws) pc2 lv (.int v :: st)) : VV p l e R s m args below meth c nL D A (cells) (slots) Q (ws) pc lv (.int y :: .int x :: st) := by
  subst e2; subst hv; exact fun H locs ls hP hD hS hl => lv_irem C.1 C.2.1 d hy (k H locs ls hP hD hS hl)
theorem vv_dup (C : CY p R s m args meth c cc nL own rk D tys A sa) {v : Value} (d : decode cc pc = .ok (.dup, 1)) (hv : v.category = 1) (pc2 : Nat) (e2 : pc + 1 = pc2) (k : VV p l e R s m args below meth c nL D A (cells) (slots) Q (ws) pc2 lv (v :: v :: st)) : VV p l e R s m args below meth c nL D A (cells) (slots) Q (ws) pc lv (v :: st) := by
  subst e2; exact fun H locs ls hP hD hS hl => lv_dup C.1 C.2.1 d hv (k H locs ls hP hD hS hl)
theorem vv_pop (C : CY p R s m args meth c cc nL own rk D tys A sa) {v : Value} (d : decode cc pc = .ok (.pop, 1)) (hv : v.category = 1) (pc2 : Nat) (e2 : pc + 1 = pc2) (k : VV p l e R s m args below meth c nL D A (cells) (slots) Q (ws) pc2 lv (st)) : VV p l e R s m args below meth c nL D A (cells) (slots) Q (ws) pc lv (v :: st) := by
  subst e2; exact fun H locs ls hP hD hS hl => lv_pop C.1 C.2.1 d hv (k H locs ls hP hD hS hl)
theorem vv_goto (C : CY p R s m args meth c cc nL own rk D tys A sa) {off : Int} (tgt : Nat) (d : decode cc pc = .ok (.goto off, 3)) (ht : (pc : Int) + off = (tgt : Int)) (k : VV p l e R s m args below meth c nL D A (cells) (slots) Q (ws) tgt lv (st)) : VV p l e R s m args below meth c nL D A (cells) (slots) Q (ws) pc lv (st) := by
  exact fun H locs ls hP hD hS hl => lv_goto C.1 C.2.1 d ht (k H locs ls hP hD hS hl)
theorem vv_geT (C : CY p R s m args meth c cc nL own rk D tys A sa) {x y : Int32} {off : Int} (tgt : Nat) (d : decode cc pc = .ok (.if_icmp .ge off, 3)) (ht : (pc : Int) + off = (tgt : Int)) (hc : y ≤ x) (k : VV p l e R s m args below meth c nL D A (cells) (slots) Q (ws) tgt lv (st)) : VV p l e R s m args below meth c nL D A (cells) (slots) Q (ws) pc lv (.int y :: .int x :: st) := by
  exact fun H locs ls hP hD hS hl => lv_icmp_ge C.1 C.2.1 d ht (fun _ => (k H locs ls hP hD hS hl)) (fun h => absurd hc h)
theorem vv_geF (C : CY p R s m args meth c cc nL own rk D tys A sa) {x y : Int32} {off : Int} (d : decode cc pc = .ok (.if_icmp .ge off, 3)) (tgt : Nat) (ht : (pc : Int) + off = (tgt : Int)) (hc : ¬ y ≤ x) (pc2 : Nat) (e2 : pc + 3 = pc2) (k : VV p l e R s m args below meth c nL D A (cells) (slots) Q (ws) pc2 lv (st)) : VV p l e R s m args below meth c nL D A (cells) (slots) Q (ws) pc lv (.int y :: .int x :: st) := by
  subst e2; exact fun H locs ls hP hD hS hl => lv_icmp_ge (tgt := tgt) C.1 C.2.1 d ht (fun h => absurd h hc) (fun _ => (k H locs ls hP hD hS hl))
theorem vv_objInit (C : CY p R s m args meth c cc nL own rk D tys A sa) {a : Nat} {idx : Nat} (w1 : Cond.methodLink own idx objectInit ∈ TT) (w2 : Cond.instanceMethod objectInit ∈ TT ∧ Cond.code objectInit ⟨#[0xb1]⟩ 1 none ∈ TT) (h1 : 1 ≤ rk) (hst : (st.map fun v => v.category).sum ≤ 8) (d : decode cc pc = .ok (.invokespecial idx, 3)) (pc2 : Nat) (e2 : pc + 3 = pc2) (k : VV p l e R s m args below meth c nL D A (cells) (slots) Q (ws) pc2 lv (st)) : VV p l e R s m args below meth c nL D A (cells) (slots) Q (ws) pc lv (.ref a :: st) := by
  subst e2; exact fun H locs ls hP hD hS hl => W.objInit C.1 C.2.1 C.2.2.2.1 (C.2.2.2.2.1 _ w1) (C.2.2.2.2.1 _ w2.1) (C.2.2.2.2.1 _ w2.2) rfl (hl.1.trans C.2.2.1.symm) rfl d (Nat.le_trans h1 C.2.2.2.2.2.2.2.2.1.1) (by have := C.2.2.2.2.2.2.2.2.1.2; show 2 * 0 + _ + 12 ≤ _; omega) (k H locs ls hP hD hS hl)
theorem vv_new (C : CY p R s m args meth c cc nL own rk D tys A sa) {Cn : String} {T : u_T} {N ci ix : Nat} (ty : Nat → FieldType) (hty : ∀ k, k < N → parseFieldDescriptor (T k).2.2.1 = some (ty k)) (cl : vwCl[ci]? = some (Cn, T, N) ∧ (∀ w ∈ u_ws Cn T N, w ∈ TT)) (w1 : Cond.classLink own ix Cn ∈ TT) (w2 : Cond.instantiable Cn N ∈ TT) (w3 : Cond.initialized Cn ∈ TT) (fs : List Value) (hfs : ∀ j, j < N → defaultValue (ty j) = vp_V fs j) (hc : cells + 1 ≤ R.cells) (hs : slots + N ≤ R.slots) (d : decode cc pc = .ok (.new ix, 3)) (cells2 slots2 : Nat) (ec : cells + 1 = cells2) (es : slots + N = slots2) (pc2 : Nat) (e2 : pc + 3 = pc2) (k : ∀ q : Nat, VV p l e R s m args below meth c nL D A (cells2) (slots2) Q (ws ++ [(q, .inr (ci, fs))]) pc2 lv (.ref q :: st)) : VV p l e R s m args below meth c nL D A (cells) (slots) Q (ws) pc lv (st) := by
  subst e2; subst ec; subst es; exact fun H locs ls hP hD hS hl => va_new C.1 C.2.1 C.2.2.2.2.1 cl.2 ty hty C.2.2.2.1 (C.2.2.2.2.1 _ w1) (C.2.2.2.2.1 _ w2) (C.2.2.2.2.1 _ w3) C.2.2.2.2.2.1 hP hD hS C.2.2.2.2.2.2.1 cl.1 hfs hc hs d (fun q H1 hP1 hD1 hS1 => k q H1 locs ls hP1 hD1 hS1 hl)
theorem vv_newa (C : CY p R s m args meth c cc nL own rk D tys A sa) {cI : ClassId} (ht : tys[0]? = some (cI, .int)) (w1 : Cond.arrayClass .int ∈ TT) {z : Int32} (N : Nat) (hz : ¬ z < 0) (hN : z.toNatClampNeg = N) (hb9 : N * 4 ≤ 536870912) (hc : cells + 1 ≤ R.cells) (hs : slots + N ≤ R.slots) (d : decode cc pc = .ok (.newarray .int, 2)) (cells2 slots2 : Nat) (ec : cells + 1 = cells2) (es : slots + N = slots2) (pc2 : Nat) (e2 : pc + 2 = pc2) (k : ∀ q : Nat, VV p l e R s m args below meth c nL D A (cells2) (slots2) Q (ws ++ [(q, .inl (cI, N, .inl (pl [])))]) pc2 lv (.ref q :: st)) : VV p l e R s m args below meth c nL D A (cells) (slots) Q (ws) pc lv (.int z :: st) := by
  subst e2; subst ec; subst es
  intro H locs ls hP hD hS hl
  refine va_newa (atype := .int) (a0 := (N, .inl (fun _ => 0))) C.1 C.2.1 (C.2.2.2.2.1 _ w1) rfl C.2.2.2.2.2.1 hP hD hS C.2.2.2.2.2.2.1 (fun cA => rfl) hz hN hb9 hc hs d (fun q cA H1 hK1 hP1 hD1 hS1 => ?_)
  have e1 := (hK1.2 tys.length (cA, .int) (by rw [List.getElem?_append_right (Nat.le_refl _), Nat.sub_self]; rfl)).2
  have e0 := (C.2.2.2.2.2.1.2 0 _ ht).2
  have e3 : cA = cI := Option.some.inj ((show s.vm.findClass _ = some cA from e1).symm.trans (show s.vm.findClass _ = some cI from e0))
  subst e3
  rw [← pl_nil] at hP1 hD1
  exact k q H1 locs ls hP1 hD1 hS1 hl
theorem vv_newq (C : CY p R s m args meth c cc nL own rk D tys A sa) {Cn : String} {cT : ClassId} (t0 : Nat) (ht : tys[t0]? = some (cT, .object Cn)) {ix : Nat} (w1 : Cond.classLink own ix Cn ∈ TT) (hover : va_AO Cn s) {z : Int32} (N : Nat) (hz : ¬ z < 0) (hN : z.toNatClampNeg = N) (hb9 : N * 4 ≤ 536870912) (hc : cells + 1 ≤ R.cells) (hs : slots + N ≤ R.slots) (d : decode cc pc = .ok (.anewarray ix, 3)) (cells2 slots2 : Nat) (ec : cells + 1 = cells2) (es : slots + N = slots2) (pc2 : Nat) (e2 : pc + 3 = pc2) (k : ∀ q : Nat, VV p l e R s m args below meth c nL D A (cells2) (slots2) Q (ws ++ [(q, .inl (cT, N, .inr (.inr (.inr (.inr (fun _ => none))))))]) pc2 lv (.ref q :: st)) : VV p l e R s m args below meth c nL D A (cells) (slots) Q (ws) pc lv (.int z :: st) := by
  subst e2; subst ec; subst es
  intro H locs ls hP hD hS hl
  refine va_newq C.1 C.2.1 C.2.2.2.1 (C.2.2.2.2.1 _ w1) hover C.2.2.2.2.2.1 hP hD hS C.2.2.2.2.2.2.1 hz hN hb9 hc hs d (fun q cA H1 hK1 hP1 hD1 hS1 => ?_)
  obtain ⟨k1, c1, a1, a2, a3, a4⟩ := (hK1.2 tys.length (cA, .object Cn) (by simp)).2
  obtain ⟨k2, c2, b1, b2, b3, b4⟩ := (C.2.2.2.2.2.1.2 t0 _ ht).2
  have e3 : cA = cT := Option.some.inj (a4.symm.trans b4)
  subst e3
  exact k q H1 locs ls hP1 hD1 hS1 hl
theorem vv_get (C : CY p R s m args meth c cc nL own rk D tys A sa) {ci N : Nat} {Cn : String} {T : u_T} (cl : vwCl[ci]? = some (Cn, T, N) ∧ (∀ w ∈ u_ws Cn T N, w ∈ TT)) {a : Nat} (q0 : Nat) {fs : List Value} (he : ws[q0]? = some (a, .inr (ci, fs))) (j : Nat) (hj : j < N) {ix : Nat} (w : Cond.fieldLink own ix (T j).1 (T j).2.1 (T j).2.2.1 ∈ TT) (v : Value) (hv : fs[j]? = some v) (d : decode cc pc = .ok (.getfield ix, 3)) (pc2 : Nat) (e2 : pc + 3 = pc2) (k : VV p l e R s m args below meth c nL D A (cells) (slots) Q (ws) pc2 lv (v :: st)) : VV p l e R s m args below meth c nL D A (cells) (slots) Q (ws) pc lv (.ref a :: st) := by
  subst e2; exact fun H locs ls hP hD hS hl => va_get C.1 C.2.1 C.2.2.2.2.1 cl.2 C.2.2.2.1 C.2.2.2.2.2.1 hP q0 he cl.1 j hj (C.2.2.2.2.1 _ w) (fun _ h => h) hv d (k H locs ls hP hD hS hl)
theorem vv_put (C : CY p R s m args meth c cc nL own rk D tys A sa) {ci N : Nat} {Cn : String} {T : u_T} (cl : vwCl[ci]? = some (Cn, T, N) ∧ (∀ w ∈ u_ws Cn T N, w ∈ TT)) {a : Nat} (q0 : Nat) {fs : List Value} (he : ws[q0]? = some (a, .inr (ci, fs))) (j : Nat) (hj : j < N) (ty0 : Nat → FieldType) (hty : ∀ k, k < N → parseFieldDescriptor (T k).2.2.1 = some (ty0 k)) (hnm : ∀ a, a < N → ∀ b, b < N → a ≠ b → (T a).2.1 ≠ (T b).2.1) (hfin : (T j).2.2.2 = false) {ix : Nat} (w : Cond.fieldLink own ix (T j).1 (T j).2.1 (T j).2.2.1 ∈ TT) {v : Value} (hna : narrow (ty0 j) v = v) (hfi : fits (ty0 j) v = true) (hl9 : j < fs.length) (ws2 : va_W) (hws : ws.set q0 (a, .inr (ci, fs.set j v)) = ws2) (d : decode cc pc = .ok (.putfield ix, 3)) (pc2 : Nat) (e2 : pc + 3 = pc2) (k : VV p l e R s m args below meth c nL D A (cells) (slots) Q (ws2) pc2 lv (st)) : VV p l e R s m args below meth c nL D A (cells) (slots) Q (ws) pc lv (v :: .ref a :: st) := by
  subst e2; subst hws; exact fun H locs ls hP hD hS hl => va_put C.1 C.2.1 C.2.2.2.2.1 cl.2 ty0 hty hnm C.2.2.2.1 C.2.2.2.2.2.1 hP hD hS q0 he cl.1 j hj (C.2.2.2.2.1 _ w) (fun _ h => h) hfin (hty j hj) hna hfi hl9 d (fun H1 locs1 hP1 hD1 hS1 => k H1 locs1 ls hP1 hD1 hS1 hl)
theorem vv_putF (C : CY p R s m args meth c cc nL own rk D tys A sa) (hin : meth.name = "<init>") {ci N : Nat} {Cn : String} {T : u_T} (cl : vwCl[ci]? = some (Cn, T, N) ∧ (∀ w ∈ u_ws Cn T N, w ∈ TT)) {a : Nat} (q0 : Nat) {fs : List Value} (he : ws[q0]? = some (a, .inr (ci, fs))) (j : Nat) (hj : j < N) (ty0 : Nat → FieldType) (hty : ∀ k, k < N → parseFieldDescriptor (T k).2.2.1 = some (ty0 k)) (hnm : ∀ a, a < N → ∀ b, b < N → a ≠ b → (T a).2.1 ≠ (T b).2.1) (hfin : (T j).2.2.2 = true) (ho : (T j).1 = own) {ix : Nat} (w : Cond.fieldLink own ix (T j).1 (T j).2.1 (T j).2.2.1 ∈ TT) {v : Value} (hna : narrow (ty0 j) v = v) (hfi : fits (ty0 j) v = true) (hl9 : j < fs.length) (ws2 : va_W) (hws : ws.set q0 (a, .inr (ci, fs.set j v)) = ws2) (d : decode cc pc = .ok (.putfield ix, 3)) (pc2 : Nat) (e2 : pc + 3 = pc2) (k : VV p l e R s m args below meth c nL D A (cells) (slots) Q (ws2) pc2 lv (st)) : VV p l e R s m args below meth c nL D A (cells) (slots) Q (ws) pc lv (v :: .ref a :: st) := by
  subst e2; subst hws; exact fun H locs ls hP hD hS hl => va_putF C.1 C.2.1 C.2.2.2.2.1 cl.2 ty0 hty hnm C.2.2.2.1 C.2.2.2.2.2.1 hP hD hS q0 he cl.1 j hj (C.2.2.2.2.1 _ w) (fun _ h => h) hfin hin ho (hty j hj) hna hfi hl9 d (fun H1 locs1 hP1 hD1 hS1 => k H1 locs1 ls hP1 hD1 hS1 hl)
theorem vv_iastI (C : CY p R s m args meth c cc nL own rk D tys A sa) {a : Nat} (q0 : Nat) {cI : ClassId} (ht : tys[0]? = some (cI, .int)) {N : Nat} {L : List Int32} (he : ws[q0]? = some (a, .inl (cI, N, .inl (pl L)))) {i x : Int32} (hi : vp_in i N) (hL : i.toNatClampNeg = L.length) (ws2 : va_W) (hws : ws.set q0 (a, .inl (cI, N, .inl (pl (L ++ [x])))) = ws2) (d : decode cc pc = .ok (.iastore, 1)) (pc2 : Nat) (e2 : pc + 1 = pc2) (k : VV p l e R s m args below meth c nL D A (cells) (slots) Q (ws2) pc2 lv (st)) : VV p l e R s m args below meth c nL D A (cells) (slots) Q (ws) pc lv (.int x :: .int i :: .ref a :: st) := by
  subst e2; subst hws; exact fun H locs ls hP hD hS hl => va_iast C.1 C.2.1 C.2.2.2.2.2.1 hP hD hS q0 0 he ht hi d (fun H1 locs1 hP1 hD1 hS1 => k H1 locs1 ls (by rw [hL, pl_add] at hP1; exact hP1) (by rw [hL, pl_add] at hD1; exact hD1) hS1 hl)
theorem vv_iald (C : CY p R s m args meth c cc nL own rk D tys A sa) {a : Nat} (q0 : Nat) {cI : ClassId} (ht : tys[0]? = some (cI, .int)) {N : Nat} {f : Nat → Int32} (he : ws[q0]? = some (a, .inl (cI, N, .inl f))) {i : Int32} (hi : vp_in i N) (v : Int32) (hv : f i.toNatClampNeg = v) (d : decode cc pc = .ok (.iaload, 1)) (pc2 : Nat) (e2 : pc + 1 = pc2) (k : VV p l e R s m args below meth c nL D A (cells) (slots) Q (ws) pc2 lv (.int v :: st)) : VV p l e R s m args below meth c nL D A (cells) (slots) Q (ws) pc lv (.int i :: .ref a :: st) := by
  subst e2; subst hv; exact fun H locs ls hP hD hS hl => va_iald C.1 C.2.1 C.2.2.2.2.2.1 hP q0 0 he ht hi d (k H locs ls hP hD hS hl)
theorem vv_aast (C : CY p R s m args meth c cc nL own rk D tys A sa) {a v : Nat} (q0 t0 qk : Nat) {cT : ClassId} {r : vw_C} {ci N : Nat} {f : Nat → Option Nat} {vs : List Value} (ht : tys[t0]? = some (cT, .object r.1)) (he : ws[q0]? = some (a, .inl (cT, N, .inr (.inr (.inr (.inr f)))))) (hv : ws[qk]? = some (v, .inr (ci, vs))) (hc : vwCl[ci]? = some r) {i : Int32} (hi : vp_in i N) (ws2 : va_W) (hws : ws.set q0 (a, .inl (cT, N, .inr (.inr (.inr (.inr (va_up f i.toNatClampNeg (some v))))))) = ws2) (d : decode cc pc = .ok (.aastore, 1)) (pc2 : Nat) (e2 : pc + 1 = pc2) (k : VV p l e R s m args below meth c nL D A (cells) (slots) Q (ws2) pc2 lv (st)) : VV p l e R s m args below meth c nL D A (cells) (slots) Q (ws) pc lv (.ref v :: .int i :: .ref a :: st) := by
  subst e2; subst hws; exact fun H locs ls hP hD hS hl => va_astq C.1 C.2.1 C.2.2.2.2.2.1 hP hD hS q0 t0 qk ci he ht hv hc hi d (fun H1 locs1 hP1 hD1 hS1 => k H1 locs1 ls hP1 hD1 hS1 hl)
theorem vv_aald (C : CY p R s m args meth c cc nL own rk D tys A sa) {a : Nat} (q0 t0 : Nat) {cT : ClassId} {Cn : String} {N : Nat} {f : Nat → Option Nat} (ht : tys[t0]? = some (cT, .object Cn)) (he : ws[q0]? = some (a, .inl (cT, N, .inr (.inr (.inr (.inr f)))))) {i : Int32} (hi : vp_in i N) (v : Nat) (hv : f i.toNatClampNeg = some v) (d : decode cc pc = .ok (.aaload, 1)) (pc2 : Nat) (e2 : pc + 1 = pc2) (k : VV p l e R s m args below meth c nL D A (cells) (slots) Q (ws) pc2 lv (.ref v :: st)) : VV p l e R s m args below meth c nL D A (cells) (slots) Q (ws) pc lv (.int i :: .ref a :: st) := by
  subst e2; exact fun H locs ls hP hD hS hl => va_aldq C.1 C.2.1 C.2.2.2.2.2.1 hP q0 t0 he ht hi d (by rw [hv]; exact (k H locs ls hP hD hS hl))
theorem vv_world (C : CY p R s m args meth c cc nL own rk D tys A sa) (ws2 : va_W) (is : List Nat) (hn : va_nd is = true) (h1 : is.map (fun i => ws[i]?) = ws2.map some) (k : VV p l e R s m args below meth c nL D A (cells) (slots) Q (ws2) pc lv (st)) : VV p l e R s m args below meth c nL D A (cells) (slots) Q (ws) pc lv (st) := by
  exact fun H locs ls hP hD hS hl => k H locs ls (hP.sub is (by
    have h2 : ∀ (l : List Nat) (w : va_W), l.map (fun i => ws[i]?) = w.map some → l.filterMap (fun i => ws[i]?) = w := by
      intro l
      induction l with
      | nil => intro w h; cases w with
        | nil => rfl
        | cons x xs => cases h
      | cons a l ih => intro w h; cases w with
        | nil => cases h
        | cons x xs =>
          simp only [List.map_cons, List.cons.injEq] at h
          rw [List.filterMap_cons, h.1, ih xs h.2]
    exact h2 is ws2 h1)) (hD.sub is hn h1) hS hl
theorem vv_vret (C : CY p R s m args meth c cc nL own rk D tys A sa) {S : Type} {W1 : S → va_W} (u : S) (hw : ws = W1 u) {mc ms : Nat} (hc : cells ≤ mc) (hs : slots ≤ ms) (d : decode cc pc = .ok (.return_, 1)) (hr : meth.sig.returnType = none) : VV p l e R s m args below meth c nL D A (cells) (slots) (MQ below (va_Qv (fun _ : S => True) (fun u t => va_P D vwCl (W1 u) t.heap ∧ va_D A (W1 u)) A) args s mc ms A) (ws) pc lv [] := by
  subst hw; exact fun H locs ls hP hD hS hl => W.widen hc hs (W.vret C.1 C.2.1 hr (fun t ht hW => ⟨⟨u, rfl, trivial, by rw [ht]; exact hP, hD⟩, hS.F ht⟩) hS.2.2 d C.2.2.2.2.2.2.2.2.2)
theorem vv_callI (C : CY p R s m args meth c cc nL own rk D tys A sa) {S : Type} {W1 : S → va_W} {y : MethodName} {cy : ByteArray} {mL rk2 mc ms nA ix : Nat} {As : List Value} {stk : List Value} {b : Nat} (isC isR : List Nat) (wc wr : va_W) (hC : isC.map (fun i => ws[i]?) = wc.map some) (hR9 : isR.map (fun i => ws[i]?) = wr.map some) (hnC : va_nd isC = true) (hn9 : va_nd isR = true) (hdis : ∀ i ∈ isR, i ∉ isC) (K : CI l y (wsm y cy mL none) rk2 mc ms D tys sa wc (.ref b :: As) W1) (w1 : Cond.methodLink own ix y ∈ TT) (w2 : Cond.instanceMethod y ∈ TT ∧ Cond.initialized y.cls ∈ TT ∧ Cond.code y cy mL none ∈ TT ∧ (y.cls ≠ "java/lang/invoke/MethodHandle" ∧ y.cls ≠ "java/lang/invoke/VarHandle" ∧ (parseMethodDescriptor y.desc).map (fun d => d.parameters.length) = some nA)) (hy1 : y.name = "<init>") (hrk : rk2 + 1 ≤ rk) (hmL : mL ≤ 21) (hn : As.length = nA) (hst : stk = As.reverse ++ .ref b :: st) (hroom : (st.map fun v => v.category).sum ≤ 8) (hc : cells + mc ≤ R.cells) (hs : slots + ms ≤ R.slots) (d : decode cc pc = .ok (.invokespecial ix, 3)) (cells2 slots2 : Nat) (ec : cells + mc = cells2) (es : slots + ms = slots2) (pc2 : Nat) (e2 : pc + 3 = pc2) (k : ∀ u : S, VV p l e R s m args below meth c nL D A (cells2) (slots2) Q (wr ++ W1 u) pc2 lv (st)) : VV p l e R s m args below meth c nL D A (cells) (slots) Q (ws) pc lv (stk) := by
  subst e2; subst ec; subst es; subst hst
  intro H locs ls hP hD hS hl
  have hR0 := C.2.2.2.2.2.2.2.2.1
  have hRr : (rmc rk2 mc ms).frames + 1 ≤ R.frames ∧ 8 + (mL + 11) + (rmc rk2 mc ms).locals ≤ R.locals := ⟨(by show rk2 + 1 ≤ R.frames; omega), (by show 8 + (mL + 11) + 40 * rk2 ≤ R.locals; omega)⟩
  have hFc : ∀ q, va_A wc H.size q → A q := va_free hD hS C.2.2.2.2.2.2.1 isC hC
  have hPc : va_P D vwCl wc H := vv_sub hP isC hC
  have hDc : va_D A wc := hD.sub isC hnC hC
  refine va_callv (va_runI (As := As) (rest := st) ⟨C.1, C.2.1, C.2.2.1, C.2.2.2.1, C.2.2.2.2.1⟩ (K H.size) (cwI nA C.2.2.2.2.1 (gM w2.2.2.1) rfl rfl rfl (C.2.2.2.2.1 _ w2.2.1) (C.2.2.2.2.1 _ w1) (C.2.2.2.2.1 _ w2.1) hy1 w2.2.2.2 hRr) ⟨PC0_blind, fun U hU hW => ⟨rfl, by rw [hU], by rw [hU]; exact hPc, va_K.moved hW.alike C.2.2.2.2.2.1, hDc.weaken (fun _ _ _ _ => trivial), by have := C.2.2.2.2.2.2.2.1.call (B := va_A wc H.size) hS hU hW hFc; exact this⟩⟩ rfl hn hl.1 rfl (lv_room hroom) d ⟨hc, hs⟩) hS (fun q _ h => hFc q h) hFc (fun u t H1 locs1 ht hvm hw hB hz hk hS1 => ?_)
  rw [ht] at hB
  obtain ⟨hP2, hD2⟩ := va_join hP hD isC isR hC hR9 hn9 hdis hk hFc hB.1 hB.2
  exact k u H1 locs1 ls hP2 hD2 hS1 hl
theorem vv_callIN (C : CY p R s m args meth c cc nL own rk D tys A sa) {S : Type} {W1 : S → va_W} {y : MethodName} {cy : ByteArray} {mL rk2 mc ms nA ix : Nat} {As : List Value} {stk : List Value} {b : Nat} (isC isR : List Nat) (wc wr : va_W) (hC : isC.map (fun i => ws[i]?) = wc.map some) (hR9 : isR.map (fun i => ws[i]?) = wr.map some) (hnC : va_nd isC = true) (hn9 : va_nd isR = true) (hdis : ∀ i ∈ isR, i ∉ isC) (K : CI l y (wsm y cy mL none) rk2 mc ms D tys sa wc (.ref b :: As) W1) {host : String} (w1 : va_Nw (.methodLinkNest own ix y host) s) (w2 : Cond.instanceMethod y ∈ TT ∧ Cond.initialized y.cls ∈ TT ∧ Cond.code y cy mL none ∈ TT ∧ (y.cls ≠ "java/lang/invoke/MethodHandle" ∧ y.cls ≠ "java/lang/invoke/VarHandle" ∧ (parseMethodDescriptor y.desc).map (fun d => d.parameters.length) = some nA)) (hy1 : y.name = "<init>") (hrk : rk2 + 1 ≤ rk) (hmL : mL ≤ 21) (hn : As.length = nA) (hst : stk = As.reverse ++ .ref b :: st) (hroom : (st.map fun v => v.category).sum ≤ 8) (hc : cells + mc ≤ R.cells) (hs : slots + ms ≤ R.slots) (d : decode cc pc = .ok (.invokespecial ix, 3)) (cells2 slots2 : Nat) (ec : cells + mc = cells2) (es : slots + ms = slots2) (pc2 : Nat) (e2 : pc + 3 = pc2) (k : ∀ u : S, VV p l e R s m args below meth c nL D A (cells2) (slots2) Q (wr ++ W1 u) pc2 lv (st)) : VV p l e R s m args below meth c nL D A (cells) (slots) Q (ws) pc lv (stk) := by
  subst e2; subst ec; subst es; subst hst
  intro H locs ls hP hD hS hl
  have hR0 := C.2.2.2.2.2.2.2.2.1
  have hRr : (rmc rk2 mc ms).frames + 1 ≤ R.frames ∧ 8 + (mL + 11) + (rmc rk2 mc ms).locals ≤ R.locals := ⟨(by show rk2 + 1 ≤ R.frames; omega), (by show 8 + (mL + 11) + 40 * rk2 ≤ R.locals; omega)⟩
  have hFc : ∀ q, va_A wc H.size q → A q := va_free hD hS C.2.2.2.2.2.2.1 isC hC
  have hPc : va_P D vwCl wc H := vv_sub hP isC hC
  have hDc : va_D A wc := hD.sub isC hnC hC
  refine va_callv (va_runIN (As := As) (rest := st) ⟨C.1, C.2.1, C.2.2.1, C.2.2.2.1, C.2.2.2.2.1⟩ (K H.size) ⟨va_cnB nA C.2.2.2.2.1 (gM w2.2.2.1) rfl rfl rfl w1 (C.2.2.2.2.1 _ w2.2.1) w2.2.2.2 hRr, hy1, C.2.2.2.2.1 _ w2.1⟩ ⟨PC0_blind, fun U hU hW => ⟨rfl, by rw [hU], by rw [hU]; exact hPc, va_K.moved hW.alike C.2.2.2.2.2.1, hDc.weaken (fun _ _ _ _ => trivial), by have := C.2.2.2.2.2.2.2.1.call (B := va_A wc H.size) hS hU hW hFc; exact this⟩⟩ rfl hn hl.1 rfl (lv_room hroom) d ⟨hc, hs⟩) hS (fun q _ h => hFc q h) hFc (fun u t H1 locs1 ht hvm hw hB hz hk hS1 => ?_)
  rw [ht] at hB
  obtain ⟨hP2, hD2⟩ := va_join hP hD isC isR hC hR9 hn9 hdis hk hFc hB.1 hB.2
  exact k u H1 locs1 ls hP2 hD2 hS1 hl
theorem vv_ws (ws2 : va_W) (h : ws = ws2) (k : VV p l e R s m args below meth c nL D A (cells) (slots) Q (ws2) pc lv (st)) : VV p l e R s m args below meth c nL D A (cells) (slots) Q (ws) pc lv (st) := h ▸ k
theorem vp_d {x : Int32} {N : Nat} (h1 : ¬ x < 0) (h2 : x.toNatClampNeg < N) : vp_in x N := fun h => h.elim h1 (fun q => absurd h2 (Nat.not_lt.mpr q))
theorem clw_X1 : vwCl[2]? = some (RX1, TX1, 12) ∧ (∀ w ∈ u_ws RX1 TX1 12, w ∈ TT) := ⟨cl_X1.1, cl_X1.2.1⟩
theorem clw_X2 : vwCl[3]? = some (RX2, TX2, 3) ∧ (∀ w ∈ u_ws RX2 TX2 3, w ∈ TT) := ⟨cl_X2.1, cl_X2.2.1⟩
theorem clw_X3 : vwCl[4]? = some (RX3, TX3, 7) ∧ (∀ w ∈ u_ws RX3 TX3 7, w ∈ TT) := ⟨cl_X3.1, cl_X3.2.1⟩
theorem clw_X4 : vwCl[5]? = some (RX4, TX4, 6) ∧ (∀ w ∈ u_ws RX4 TX4 6, w ∈ TT) := ⟨cl_X4.1, cl_X4.2.1⟩
theorem clw_X5 : vwCl[6]? = some (RX5, TX5, 8) ∧ (∀ w ∈ u_ws RX5 TX5 8, w ∈ TT) := ⟨cl_X5.1, cl_X5.2.1⟩
end VVR
