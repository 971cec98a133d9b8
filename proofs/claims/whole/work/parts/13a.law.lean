/-! THE LAW: rows over two worlds, the class's and the reference's -/
def lA (s : State) : Nat → Prop := fun q => s.heap.size ≤ q
def LX (p : Program) (s : State) (m : MethodId) (c : Code) (b L : Nat) (xs : Nat → Int32) (D : va_G) (tys : List (ClassId × FieldType)) (sa : Nat → Nat) (cI cT cS : ClassId) (adI adM : Nat → Nat) : Prop :=
  p.tables.exec = Jvm.exec ∧ c.code = cL_law ∧ c.maxLocals = 4 ∧ s.vm.findClass RL = some m.cls ∧ (∀ w ∈ TT, w.before #[Value.ref b] s = true) ∧ va_K D vwCl tys s ∧ (GE YI adI (cAI cI cT cS) tys 73 ∧ GE YM adM (fun _ => cI) tys 20) ∧ EX sa (lA s) s s.heap ∧ (va_X b L xs s s.heap ∧ b < s.heap.size) ∧ ((∀ i, i < 73 → lA s (adI i)) ∧ (∀ j, j < 20 → lA s (adM j)) ∧ ∀ i j, i < 73 → j < 20 → adI i ≠ adM j)
def LW (p : Program) (l : Launch) (e : Env) (s : State) (m : MethodId) (below : List Frame) (meth : Method) (c : Code) (b : Nat) (D : va_G) (cI cT cS : ClassId) (adI adM : Nat → Nat) (cells slots : Nat) (Q : State → Prop) (gI gM : Mem) (pc : Nat) (lv : List (Nat × Value)) (st : List Value) : Prop :=
  ∀ (H : Heap) (locs : List Loc) (ls : Array Slot), va_P D vwCl (wl YI adI (cAI cI cT cS) 73 gI) H → va_P D vwCl (wl YM adM (fun _ => cI) 20 gM) H → va_S (lA s) s.heap H locs → lv_has ls 4 lv → W p l e room_1 s m #[Value.ref b] below meth c H locs cells slots Q (F0 m pc ls st)
def lvL (b : Nat) (adI adM : Nat → Nat) (x : Int32) : List (Nat × Value) := [(3, .int x), (2, .ref (adM 0)), (1, .ref (adI 72)), (0, .ref b)]
theorem wl_keep {Y : Lay} {ad : Nat → Nat} {cA : Nat → ClassId} {n : Nat} {g : Mem} {D : va_G} {H H1 : Heap} {B : Nat → Prop} (h : va_P D vwCl (wl Y ad cA n g) H) (hk : ∀ q : Nat, q < H.size → ¬ B q → H1[q]? = H[q]?) (hB : ∀ k, k < n → ad k < H.size → ¬ B (ad k)) : va_P D vwCl (wl Y ad cA n g) H1 := by
  refine h.kept (fun k q hq => ?_)
  obtain ⟨h1, rfl⟩ := wl_inv hq
  have hlt := (h k _ hq).lt
  exact hk _ hlt (hB k h1 hlt)
section LWR
variable {p : Program} {l : Launch} {e : Env} {s : State} {m : MethodId} {below : List Frame} {meth : Method} {c : Code} {b L : Nat} {xs : Nat → Int32} {D : va_G} {tys : List (ClassId × FieldType)} {sa : Nat → Nat} {cI cT cS : ClassId} {adI adM : Nat → Nat} {Q : State → Prop} {gI gM : Mem} {pc : Nat} {lv : List (Nat × Value)} {st : List Value}
theorem lw_iconst (C : LX p s m c b L xs D tys sa cI cT cS adI adM) {z : Int} (v : Int32) (d : decode cL_law pc = .ok (.iconst z, 1)) (hv : Int32.ofInt z = v) (pc2 : Nat) (e2 : pc + 1 = pc2) (k : LW p l e s m below meth c b D cI cT cS adI adM 93 4262 Q gI gM pc2 lv (.int v :: st)) : LW p l e s m below meth c b D cI cT cS adI adM 93 4262 Q gI gM pc lv (st) := by
  subst e2; exact fun H locs ls hI hM hS hl => lv_iconst C.1 C.2.1 d hv (k H locs ls hI hM hS hl)
theorem lw_bipush (C : LX p s m c b L xs D tys sa cI cT cS adI adM) {z : Int} (v : Int32) (d : decode cL_law pc = .ok (.bipush z, 2)) (hv : (Int8.ofInt z).toInt32 = v) (pc2 : Nat) (e2 : pc + 2 = pc2) (k : LW p l e s m below meth c b D cI cT cS adI adM 93 4262 Q gI gM pc2 lv (.int v :: st)) : LW p l e s m below meth c b D cI cT cS adI adM 93 4262 Q gI gM pc lv (st) := by
  subst e2; exact fun H locs ls hI hM hS hl => lv_bipush C.1 C.2.1 d hv (k H locs ls hI hM hS hl)
theorem lw_iload_n (C : LX p s m c b L xs D tys sa cI cT cS adI adM) {kk : Fin 4} {i : Nat} {x : Int32} (pl : Nat) (d : decode cL_law pc = .ok (.iload_n kk, 1)) (hi : (kk : Nat) = i) (hk : lv[pl]? = some (i, .int x)) (pc2 : Nat) (e2 : pc + 1 = pc2) (k : LW p l e s m below meth c b D cI cT cS adI adM 93 4262 Q gI gM pc2 lv (.int x :: st)) : LW p l e s m below meth c b D cI cT cS adI adM 93 4262 Q gI gM pc lv (st) := by
  subst e2; exact fun H locs ls hI hM hS hl => lv_iload_n C.1 C.2.1 d hi (lv_at hl pl hk) (k H locs ls hI hM hS hl)
theorem lw_aload_n (C : LX p s m c b L xs D tys sa cI cT cS adI adM) {kk : Fin 4} {i : Nat} {x : Nat} (pl : Nat) (d : decode cL_law pc = .ok (.aload_n kk, 1)) (hi : (kk : Nat) = i) (hk : lv[pl]? = some (i, .ref x)) (pc2 : Nat) (e2 : pc + 1 = pc2) (k : LW p l e s m below meth c b D cI cT cS adI adM 93 4262 Q gI gM pc2 lv (.ref x :: st)) : LW p l e s m below meth c b D cI cT cS adI adM 93 4262 Q gI gM pc lv (st) := by
  subst e2; exact fun H locs ls hI hM hS hl => lv_aload_n C.1 C.2.1 d hi (lv_at hl pl hk) (k H locs ls hI hM hS hl)
theorem lw_iadd (C : LX p s m c b L xs D tys sa cI cT cS adI adM) {x y : Int32} (d : decode cL_law pc = .ok (.iadd, 1)) (pc2 : Nat) (e2 : pc + 1 = pc2) (k : LW p l e s m below meth c b D cI cT cS adI adM 93 4262 Q gI gM pc2 lv (.int (x + y) :: st)) : LW p l e s m below meth c b D cI cT cS adI adM 93 4262 Q gI gM pc lv (.int y :: .int x :: st) := by
  subst e2; exact fun H locs ls hI hM hS hl => lv_iadd C.1 C.2.1 d (k H locs ls hI hM hS hl)
theorem lw_isub (C : LX p s m c b L xs D tys sa cI cT cS adI adM) {x y : Int32} (d : decode cL_law pc = .ok (.isub, 1)) (pc2 : Nat) (e2 : pc + 1 = pc2) (k : LW p l e s m below meth c b D cI cT cS adI adM 93 4262 Q gI gM pc2 lv (.int (x - y) :: st)) : LW p l e s m below meth c b D cI cT cS adI adM 93 4262 Q gI gM pc lv (.int y :: .int x :: st) := by
  subst e2; exact fun H locs ls hI hM hS hl => lv_isub C.1 C.2.1 d (k H locs ls hI hM hS hl)
theorem lw_iand (C : LX p s m c b L xs D tys sa cI cT cS adI adM) {x y : Int32} (d : decode cL_law pc = .ok (.iand, 1)) (pc2 : Nat) (e2 : pc + 1 = pc2) (k : LW p l e s m below meth c b D cI cT cS adI adM 93 4262 Q gI gM pc2 lv (.int (x &&& y) :: st)) : LW p l e s m below meth c b D cI cT cS adI adM 93 4262 Q gI gM pc lv (.int y :: .int x :: st) := by
  subst e2; exact fun H locs ls hI hM hS hl => lv_iand C.1 C.2.1 d (k H locs ls hI hM hS hl)
theorem lw_sld (C : LX p s m c b L xs D tys sa cI cT cS adI adM) {i : Int32} (hin : vp_in i L) (d : decode cL_law pc = .ok (.iaload, 1)) (pc2 : Nat) (e2 : pc + 1 = pc2) (k : LW p l e s m below meth c b D cI cT cS adI adM 93 4262 Q gI gM pc2 lv (.int (xs i.toNatClampNeg) :: st)) : LW p l e s m below meth c b D cI cT cS adI adM 93 4262 Q gI gM pc lv (.int i :: .ref b :: st) := by
  subst e2; exact fun H locs ls hI hM hS hl => va_sld C.1 C.2.1 C.2.2.2.2.2.2.2.2.1.1 C.2.2.2.2.2.2.2.2.1.2 (Nat.not_le.mpr C.2.2.2.2.2.2.2.2.1.2) hS hin d (k H locs ls hI hM hS hl)
theorem lw_slen (C : LX p s m c b L xs D tys sa cI cT cS adI adM) (d : decode cL_law pc = .ok (.arraylength, 1)) (pc2 : Nat) (e2 : pc + 1 = pc2) (k : LW p l e s m below meth c b D cI cT cS adI adM 93 4262 Q gI gM pc2 lv (.int (Int32.ofNat L) :: st)) : LW p l e s m below meth c b D cI cT cS adI adM 93 4262 Q gI gM pc lv (.ref b :: st) := by
  subst e2; exact fun H locs ls hI hM hS hl => va_slen C.1 C.2.1 C.2.2.2.2.2.2.2.2.1.1 C.2.2.2.2.2.2.2.2.1.2 (Nat.not_le.mpr C.2.2.2.2.2.2.2.2.1.2) hS d (k H locs ls hI hM hS hl)
theorem lw_lcmp (C : LX p s m c b L xs D tys sa cI cT cS adI adM) {x y : Int64} (d : decode cL_law pc = .ok (.lcmp, 1)) (pc2 : Nat) (e2 : pc + 1 = pc2) (k : LW p l e s m below meth c b D cI cT cS adI adM 93 4262 Q gI gM pc2 lv (.int (lg_cmp x y) :: st)) : LW p l e s m below meth c b D cI cT cS adI adM 93 4262 Q gI gM pc lv (.long y :: .long x :: st) := by
  subst e2; exact fun H locs ls hI hM hS hl => W.lcmp C.1 C.2.1 d (k H locs ls hI hM hS hl)
theorem lw_goto (C : LX p s m c b L xs D tys sa cI cT cS adI adM) {off : Int} (tgt : Nat) (d : decode cL_law pc = .ok (.goto off, 3)) (ht : (pc : Int) + off = (tgt : Int)) (k : LW p l e s m below meth c b D cI cT cS adI adM 93 4262 Q gI gM tgt lv (st)) : LW p l e s m below meth c b D cI cT cS adI adM 93 4262 Q gI gM pc lv (st) := fun H locs ls hI hM hS hl => lv_goto C.1 C.2.1 d ht (k H locs ls hI hM hS hl)
theorem lw_eqT (C : LX p s m c b L xs D tys sa cI cT cS adI adM) {x : Int32} {off : Int} (tgt : Nat) (d : decode cL_law pc = .ok (.if_icmp .eq off, 3)) (ht : (pc : Int) + off = (tgt : Int)) (k : LW p l e s m below meth c b D cI cT cS adI adM 93 4262 Q gI gM tgt lv (st)) : LW p l e s m below meth c b D cI cT cS adI adM 93 4262 Q gI gM pc lv (.int x :: .int x :: st) := fun H locs ls hI hM hS hl => lv_icmp_eq C.1 C.2.1 d ht (fun _ => (k H locs ls hI hM hS hl)) (fun h => absurd rfl h)
theorem lw_zT (C : LX p s m c b L xs D tys sa cI cT cS adI adM) {x : Int32} (hx : x = 0) {off : Int} (tgt : Nat) (d : decode cL_law pc = .ok (.ifCond .eq off, 3)) (ht : (pc : Int) + off = (tgt : Int)) (k : LW p l e s m below meth c b D cI cT cS adI adM 93 4262 Q gI gM tgt lv (st)) : LW p l e s m below meth c b D cI cT cS adI adM 93 4262 Q gI gM pc lv (.int x :: st) := fun H locs ls hI hM hS hl => lv_if_eq C.1 C.2.1 d ht (fun _ => (k H locs ls hI hM hS hl)) (fun h => absurd hx h)
theorem lw_gtT (C : LX p s m c b L xs D tys sa cI cT cS adI adM) {x y : Int32} {off : Int} (tgt : Nat) (d : decode cL_law pc = .ok (.if_icmp .gt off, 3)) (ht : (pc : Int) + off = (tgt : Int)) (hc : y < x) (k : LW p l e s m below meth c b D cI cT cS adI adM 93 4262 Q gI gM tgt lv (st)) : LW p l e s m below meth c b D cI cT cS adI adM 93 4262 Q gI gM pc lv (.int y :: .int x :: st) := fun H locs ls hI hM hS hl => lv_icmp_gt C.1 C.2.1 d ht (fun _ => (k H locs ls hI hM hS hl)) (fun h => absurd hc h)
theorem lw_gtF (C : LX p s m c b L xs D tys sa cI cT cS adI adM) {x y : Int32} {off : Int} (tgt : Nat) (d : decode cL_law pc = .ok (.if_icmp .gt off, 3)) (ht : (pc : Int) + off = (tgt : Int)) (hc : ¬ y < x) (pc2 : Nat) (e2 : pc + 3 = pc2) (k : LW p l e s m below meth c b D cI cT cS adI adM 93 4262 Q gI gM pc2 lv (st)) : LW p l e s m below meth c b D cI cT cS adI adM 93 4262 Q gI gM pc lv (.int y :: .int x :: st) := by
  subst e2; exact fun H locs ls hI hM hS hl => lv_icmp_gt (tgt := tgt) C.1 C.2.1 d ht (fun h => absurd h hc) (fun _ => (k H locs ls hI hM hS hl))
theorem lw_tin (C : LX p s m c b L xs D tys sa cI cT cS adI adM) {x v : Int32} (hx : x = v) {dflt lo hi : Int} {offs : Array Int} {len : Nat} {off : Int} (tgt : Nat) (d : decode cL_law pc = .ok (.tableswitch dflt lo hi offs, len)) (h1 : ¬ v.toInt < lo) (h2 : ¬ hi < v.toInt) (ho : offs[(v.toInt - lo).toNat]? = some off) (ht : (pc : Int) + off = (tgt : Int)) (k : LW p l e s m below meth c b D cI cT cS adI adM 93 4262 Q gI gM tgt lv (st)) : LW p l e s m below meth c b D cI cT cS adI adM 93 4262 Q gI gM pc lv (.int x :: st) := by
  subst hx; exact fun H locs ls hI hM hS hl => lv_tableIn C.1 C.2.1 d h1 h2 ho ht (k H locs ls hI hM hS hl)
theorem lw_tout (C : LX p s m c b L xs D tys sa cI cT cS adI adM) {x : Int32} {dflt lo hi : Int} {offs : Array Int} {len : Nat} (tgt : Nat) (d : decode cL_law pc = .ok (.tableswitch dflt lo hi offs, len)) (h : x.toInt < lo ∨ hi < x.toInt) (ht : (pc : Int) + dflt = (tgt : Int)) (k : LW p l e s m below meth c b D cI cT cS adI adM 93 4262 Q gI gM tgt lv (st)) : LW p l e s m below meth c b D cI cT cS adI adM 93 4262 Q gI gM pc lv (.int x :: st) := fun H locs ls hI hM hS hl => lv_tableOut C.1 C.2.1 d h ht (k H locs ls hI hM hS hl)
theorem lw_iinc (C : LX p s m c b L xs D tys sa cI cT cS adI adM) {i : Nat} {z : Int} {x : Int32} (pl : Nat) (v : Int32) (lv2 : List (Nat × Value)) (d : decode cL_law pc = .ok (.iinc i z, 3)) (hk : lv[pl]? = some (i, .int x)) (hv : x + Int32.ofInt z = v) (hn : i < 4) (hl2 : (i, Value.int v) :: lv.filter (fun q => !(q.1 == i) && !(q.1 + 1 == i && q.2.category == 2)) = lv2) (pc2 : Nat) (e2 : pc + 3 = pc2) (k : LW p l e s m below meth c b D cI cT cS adI adM 93 4262 Q gI gM pc2 lv2 (st)) : LW p l e s m below meth c b D cI cT cS adI adM 93 4262 Q gI gM pc lv (st) := by
  subst e2; exact fun H locs ls hI hM hS hl => lv_iinc C.1 C.2.1 d hl hk hv hn hl2 (fun ls2 hl3 => k H locs ls2 hI hM hS hl3)
theorem lw_arg (C : LX p s m c b L xs D tys sa cI cT cS adI adM) {z : Int} {x : Int32} (v : Int32) (hv : Int32.ofInt z = v) (hin : vp_in (x + v) L) (d0 : decode cL_law pc = .ok (.aload_n 0, 1)) (d1 : decode cL_law (pc + 1) = .ok (.iload_n 3, 1)) (d2 : decode cL_law (pc + 2) = .ok (.iconst z, 1)) (d3 : decode cL_law (pc + 3) = .ok (.iadd, 1)) (d4 : decode cL_law (pc + 4) = .ok (.iaload, 1)) (pc2 : Nat) (e2 : pc + 5 = pc2) (k : LW p l e s m below meth c b D cI cT cS adI adM 93 4262 Q gI gM pc2 (lvL b adI adM x) (.int (xs (x + v).toNatClampNeg) :: st)) : LW p l e s m below meth c b D cI cT cS adI adM 93 4262 Q gI gM pc (lvL b adI adM x) (st) := by
  subst e2
  refine lw_aload_n C 3 d0 rfl rfl (pc + 1) rfl ?_
  refine lw_iload_n C 0 d1 rfl rfl (pc + 2) rfl ?_
  refine lw_iconst C v d2 hv (pc + 3) rfl ?_
  refine lw_iadd C d3 (pc + 4) rfl ?_
  exact lw_sld C hin d4 _ rfl k
theorem lw_argb (C : LX p s m c b L xs D tys sa cI cT cS adI adM) {z : Int} {x : Int32} (v : Int32) (hv : (Int8.ofInt z).toInt32 = v) (hin : vp_in (x + v) L) (d0 : decode cL_law pc = .ok (.aload_n 0, 1)) (d1 : decode cL_law (pc + 1) = .ok (.iload_n 3, 1)) (d2 : decode cL_law (pc + 2) = .ok (.bipush z, 2)) (d3 : decode cL_law (pc + 4) = .ok (.iadd, 1)) (d4 : decode cL_law (pc + 5) = .ok (.iaload, 1)) (pc2 : Nat) (e2 : pc + 6 = pc2) (k : LW p l e s m below meth c b D cI cT cS adI adM 93 4262 Q gI gM pc2 (lvL b adI adM x) (.int (xs (x + v).toNatClampNeg) :: st)) : LW p l e s m below meth c b D cI cT cS adI adM 93 4262 Q gI gM pc (lvL b adI adM x) (st) := by
  subst e2
  refine lw_aload_n C 3 d0 rfl rfl (pc + 1) rfl ?_
  refine lw_iload_n C 0 d1 rfl rfl (pc + 2) rfl ?_
  refine lw_bipush C v d2 hv (pc + 4) rfl ?_
  refine lw_iadd C d3 (pc + 5) rfl ?_
  exact lw_sld C hin d4 _ rfl k
theorem lw_callIi (C : LX p s m c b L xs D tys sa cI cT cS adI adM) {y : MethodName} {cy : ByteArray} {mL rk2 nA ix : Nat} {ret : Option FieldType} {As : List Value} {stk : List Value} (r : Int32) (g1 : Mem) (K : CTi l y (wsm y cy mL ret) rk2 D YI adI (cAI cI cT cS) tys 73 sa gI (.ref (adI 72) :: As) r g1) (w1 : Cond.methodLink RL ix y ∈ TT) (w2 : CV RX5 y cy mL ret nA) (hrk : rk2 + 1 ≤ 2048) (hmL : 8 + (mL + 11) + 40 * rk2 ≤ 84000) (hn : As.length = nA) (hst : stk = As.reverse ++ .ref (adI 72) :: st) (hroom : (st.map fun v => v.category).sum ≤ 8) (d : decode cL_law pc = .ok (.invokevirtual ix, 3)) (pc2 : Nat) (e2 : pc + 3 = pc2) (k : LW p l e s m below meth c b D cI cT cS adI adM 93 4262 Q g1 gM pc2 lv (.int r :: st)) : LW p l e s m below meth c b D cI cT cS adI adM 93 4262 Q gI gM pc lv (stk) := by
  subst e2; subst hst
  intro H locs ls hI hM hS hl
  have hA : ∀ q, AA 73 adI H.size q → lA s q := fun q hq => hq.elim (fun ⟨i, hi, h9⟩ => h9 ▸ C.2.2.2.2.2.2.2.2.2.1 i hi) (fun z => Nat.le_trans hS.1 z)
  have o : OB YI 73 72 4 := ⟨by decide, rfl⟩
  exact va_calli (va_runV (As := As) (rest := st) ⟨C.1, C.2.1, C.2.2.1, C.2.2.2.1, C.2.2.2.2.1⟩ (K H.size) (cwV nA C.2.2.2.2.1 (gV w1 w2) rfl rfl rfl w2.2.2.2.2 ⟨hrk, hmL⟩) ⟨PRE_blind, va_recv (q0 := 72) (ci := 4) C.2.2.2.2.2.1 hI rfl ((wl_get o.1).trans (by rw [cf_ob o rfl])), fun U hU hW => ⟨rfl, by rw [hU], by rw [hU]; exact hI, va_K.moved hW.alike C.2.2.2.2.2.1, C.2.2.2.2.2.2.1.1, by have := C.2.2.2.2.2.2.2.1.call (B := AA 73 adI H.size) hS hU hW hA; exact this⟩⟩ rfl hn hl.1 rfl (lv_room hroom) d ⟨Nat.le_of_ble_eq_true rfl, Nat.le_of_ble_eq_true rfl⟩) hS (fun q _ hq => hA q hq) hA (fun r2 u t H1 locs1 ht hvm hw hB hz hk hS1 => by subst hw; rw [ht] at hB; exact k H1 locs1 ls hB (wl_keep hM hk (fun k hk hlt z => z.elim (fun ⟨i, hi, h9⟩ => C.2.2.2.2.2.2.2.2.2.2.2 i k hi hk h9.symm) (fun z => absurd hlt (Nat.not_lt.mpr z)))) hS1 hl)
theorem lw_callIl (C : LX p s m c b L xs D tys sa cI cT cS adI adM) {y : MethodName} {cy : ByteArray} {mL rk2 nA ix : Nat} {ret : Option FieldType} {As : List Value} {stk : List Value} (r : Int64) (g1 : Mem) (K : CTl l y (wsm y cy mL ret) rk2 D YI adI (cAI cI cT cS) tys 73 sa gI (.ref (adI 72) :: As) r g1) (w1 : Cond.methodLink RL ix y ∈ TT) (w2 : CV RX5 y cy mL ret nA) (hrk : rk2 + 1 ≤ 2048) (hmL : 8 + (mL + 11) + 40 * rk2 ≤ 84000) (hn : As.length = nA) (hst : stk = As.reverse ++ .ref (adI 72) :: st) (hroom : (st.map fun v => v.category).sum ≤ 8) (d : decode cL_law pc = .ok (.invokevirtual ix, 3)) (pc2 : Nat) (e2 : pc + 3 = pc2) (k : LW p l e s m below meth c b D cI cT cS adI adM 93 4262 Q g1 gM pc2 lv (.long r :: st)) : LW p l e s m below meth c b D cI cT cS adI adM 93 4262 Q gI gM pc lv (stk) := by
  subst e2; subst hst
  intro H locs ls hI hM hS hl
  have hA : ∀ q, AA 73 adI H.size q → lA s q := fun q hq => hq.elim (fun ⟨i, hi, h9⟩ => h9 ▸ C.2.2.2.2.2.2.2.2.2.1 i hi) (fun z => Nat.le_trans hS.1 z)
  have o : OB YI 73 72 4 := ⟨by decide, rfl⟩
  exact va_calll (va_runV (As := As) (rest := st) ⟨C.1, C.2.1, C.2.2.1, C.2.2.2.1, C.2.2.2.2.1⟩ (K H.size) (cwV nA C.2.2.2.2.1 (gV w1 w2) rfl rfl rfl w2.2.2.2.2 ⟨hrk, hmL⟩) ⟨PRE_blind, va_recv (q0 := 72) (ci := 4) C.2.2.2.2.2.1 hI rfl ((wl_get o.1).trans (by rw [cf_ob o rfl])), fun U hU hW => ⟨rfl, by rw [hU], by rw [hU]; exact hI, va_K.moved hW.alike C.2.2.2.2.2.1, C.2.2.2.2.2.2.1.1, by have := C.2.2.2.2.2.2.2.1.call (B := AA 73 adI H.size) hS hU hW hA; exact this⟩⟩ rfl hn hl.1 rfl (lv_room hroom) d ⟨Nat.le_of_ble_eq_true rfl, Nat.le_of_ble_eq_true rfl⟩) hS (fun q _ hq => hA q hq) hA (fun r2 u t H1 locs1 ht hvm hw hB hz hk hS1 => by subst hw; rw [ht] at hB; exact k H1 locs1 ls hB (wl_keep hM hk (fun k hk hlt z => z.elim (fun ⟨i, hi, h9⟩ => C.2.2.2.2.2.2.2.2.2.2.2 i k hi hk h9.symm) (fun z => absurd hlt (Nat.not_lt.mpr z)))) hS1 hl)
theorem lw_callMi (C : LX p s m c b L xs D tys sa cI cT cS adI adM) {y : MethodName} {cy : ByteArray} {mL rk2 nA ix : Nat} {ret : Option FieldType} {As : List Value} {stk : List Value} (r : Int32) (g1 : Mem) (K : CTi l y (wsm y cy mL ret) rk2 D YM adM (fun _ => cI) tys 20 sa gM (.ref (adM 0) :: As) r g1) (w1 : Cond.methodLink RL ix y ∈ TT) (w2 : CV RX6 y cy mL ret nA) (hrk : rk2 + 1 ≤ 2048) (hmL : 8 + (mL + 11) + 40 * rk2 ≤ 84000) (hn : As.length = nA) (hst : stk = As.reverse ++ .ref (adM 0) :: st) (hroom : (st.map fun v => v.category).sum ≤ 8) (d : decode cL_law pc = .ok (.invokevirtual ix, 3)) (pc2 : Nat) (e2 : pc + 3 = pc2) (k : LW p l e s m below meth c b D cI cT cS adI adM 93 4262 Q gI g1 pc2 lv (.int r :: st)) : LW p l e s m below meth c b D cI cT cS adI adM 93 4262 Q gI gM pc lv (stk) := by
  subst e2; subst hst
  intro H locs ls hI hM hS hl
  have hA : ∀ q, AA 20 adM H.size q → lA s q := fun q hq => hq.elim (fun ⟨i, hi, h9⟩ => h9 ▸ C.2.2.2.2.2.2.2.2.2.2.1 i hi) (fun z => Nat.le_trans hS.1 z)
  have o : OB YM 20 0 5 := ⟨by decide, rfl⟩
  exact va_calli (va_runV (As := As) (rest := st) ⟨C.1, C.2.1, C.2.2.1, C.2.2.2.1, C.2.2.2.2.1⟩ (K H.size) (cwV nA C.2.2.2.2.1 (gV w1 w2) rfl rfl rfl w2.2.2.2.2 ⟨hrk, hmL⟩) ⟨PRE_blind, va_recv (q0 := 0) (ci := 5) C.2.2.2.2.2.1 hM rfl ((wl_get o.1).trans (by rw [cf_ob o rfl])), fun U hU hW => ⟨rfl, by rw [hU], by rw [hU]; exact hM, va_K.moved hW.alike C.2.2.2.2.2.1, C.2.2.2.2.2.2.1.2, by have := C.2.2.2.2.2.2.2.1.call (B := AA 20 adM H.size) hS hU hW hA; exact this⟩⟩ rfl hn hl.1 rfl (lv_room hroom) d ⟨Nat.le_of_ble_eq_true rfl, Nat.le_of_ble_eq_true rfl⟩) hS (fun q _ hq => hA q hq) hA (fun r2 u t H1 locs1 ht hvm hw hB hz hk hS1 => by subst hw; rw [ht] at hB; exact k H1 locs1 ls (wl_keep hI hk (fun k hk hlt z => z.elim (fun ⟨j, hj, h9⟩ => C.2.2.2.2.2.2.2.2.2.2.2 k j hk hj h9) (fun z => absurd hlt (Nat.not_lt.mpr z)))) hB hS1 hl)
theorem lw_callMl (C : LX p s m c b L xs D tys sa cI cT cS adI adM) {y : MethodName} {cy : ByteArray} {mL rk2 nA ix : Nat} {ret : Option FieldType} {As : List Value} {stk : List Value} (r : Int64) (g1 : Mem) (K : CTl l y (wsm y cy mL ret) rk2 D YM adM (fun _ => cI) tys 20 sa gM (.ref (adM 0) :: As) r g1) (w1 : Cond.methodLink RL ix y ∈ TT) (w2 : CV RX6 y cy mL ret nA) (hrk : rk2 + 1 ≤ 2048) (hmL : 8 + (mL + 11) + 40 * rk2 ≤ 84000) (hn : As.length = nA) (hst : stk = As.reverse ++ .ref (adM 0) :: st) (hroom : (st.map fun v => v.category).sum ≤ 8) (d : decode cL_law pc = .ok (.invokevirtual ix, 3)) (pc2 : Nat) (e2 : pc + 3 = pc2) (k : LW p l e s m below meth c b D cI cT cS adI adM 93 4262 Q gI g1 pc2 lv (.long r :: st)) : LW p l e s m below meth c b D cI cT cS adI adM 93 4262 Q gI gM pc lv (stk) := by
  subst e2; subst hst
  intro H locs ls hI hM hS hl
  have hA : ∀ q, AA 20 adM H.size q → lA s q := fun q hq => hq.elim (fun ⟨i, hi, h9⟩ => h9 ▸ C.2.2.2.2.2.2.2.2.2.2.1 i hi) (fun z => Nat.le_trans hS.1 z)
  have o : OB YM 20 0 5 := ⟨by decide, rfl⟩
  exact va_calll (va_runV (As := As) (rest := st) ⟨C.1, C.2.1, C.2.2.1, C.2.2.2.1, C.2.2.2.2.1⟩ (K H.size) (cwV nA C.2.2.2.2.1 (gV w1 w2) rfl rfl rfl w2.2.2.2.2 ⟨hrk, hmL⟩) ⟨PRE_blind, va_recv (q0 := 0) (ci := 5) C.2.2.2.2.2.1 hM rfl ((wl_get o.1).trans (by rw [cf_ob o rfl])), fun U hU hW => ⟨rfl, by rw [hU], by rw [hU]; exact hM, va_K.moved hW.alike C.2.2.2.2.2.1, C.2.2.2.2.2.2.1.2, by have := C.2.2.2.2.2.2.2.1.call (B := AA 20 adM H.size) hS hU hW hA; exact this⟩⟩ rfl hn hl.1 rfl (lv_room hroom) d ⟨Nat.le_of_ble_eq_true rfl, Nat.le_of_ble_eq_true rfl⟩) hS (fun q _ hq => hA q hq) hA (fun r2 u t H1 locs1 ht hvm hw hB hz hk hS1 => by subst hw; rw [ht] at hB; exact k H1 locs1 ls (wl_keep hI hk (fun k hk hlt z => z.elim (fun ⟨j, hj, h9⟩ => C.2.2.2.2.2.2.2.2.2.2.2 k j hk hj h9) (fun z => absurd hlt (Nat.not_lt.mpr z)))) hB hS1 hl)
end LWR
theorem wl_13 : Cond.methodLink RL 13 yX5_count ∈ TT := TT_of (i := 390) (by decide +kernel) rfl
theorem wl_17 : Cond.methodLink RL 17 yX6_count ∈ TT := TT_of (i := 950) (by decide +kernel) rfl
theorem wl_18 : Cond.methodLink RL 18 yX5_cask ∈ TT := TT_of (i := 404) (by decide +kernel) rfl
theorem wl_22 : Cond.methodLink RL 22 yX6_cask ∈ TT := TT_of (i := 961) (by decide +kernel) rfl
theorem wl_23 : Cond.methodLink RL 23 yX5_lies ∈ TT := TT_of (i := 420) (by decide +kernel) rfl
theorem wl_27 : Cond.methodLink RL 27 yX6_lies ∈ TT := TT_of (i := 968) (by decide +kernel) rfl
theorem wl_28 : Cond.methodLink RL 28 yX5_sky ∈ TT := TT_of (i := 424) (by decide +kernel) rfl
theorem wl_31 : Cond.methodLink RL 31 yX6_sky ∈ TT := TT_of (i := 972) (by decide +kernel) rfl
theorem wl_32 : Cond.methodLink RL 32 yX5_feed ∈ TT := TT_of (i := 435) (by decide +kernel) rfl
theorem wl_36 : Cond.methodLink RL 36 yX6_feed ∈ TT := TT_of (i := 976) (by decide +kernel) rfl
theorem wl_37 : Cond.methodLink RL 37 yX5_text ∈ TT := TT_of (i := 446) (by decide +kernel) rfl
theorem wl_41 : Cond.methodLink RL 41 yX6_text ∈ TT := TT_of (i := 983) (by decide +kernel) rfl
theorem wl_42 : Cond.methodLink RL 42 yX5_force ∈ TT := TT_of (i := 450) (by decide +kernel) rfl
theorem wl_45 : Cond.methodLink RL 45 yX6_force ∈ TT := TT_of (i := 984) (by decide +kernel) rfl
theorem wl_46 : Cond.methodLink RL 46 yX5_asks ∈ TT := TT_of (i := 454) (by decide +kernel) rfl
theorem wl_49 : Cond.methodLink RL 49 yX6_asks ∈ TT := TT_of (i := 988) (by decide +kernel) rfl
theorem wl_50 : Cond.methodLink RL 50 yX5_diver ∈ TT := TT_of (i := 488) (by decide +kernel) rfl
theorem wl_53 : Cond.methodLink RL 53 yX6_diver ∈ TT := TT_of (i := 1013) (by decide +kernel) rfl
theorem wl_54 : Cond.methodLink RL 54 yX5_put ∈ TT := TT_of (i := 496) (by decide +kernel) rfl
theorem wl_57 : Cond.methodLink RL 57 yX6_put ∈ TT := TT_of (i := 1017) (by decide +kernel) rfl
theorem wl_58 : Cond.methodLink RL 58 yX5_told ∈ TT := TT_of (i := 500) (by decide +kernel) rfl
theorem wl_61 : Cond.methodLink RL 61 yX6_told ∈ TT := TT_of (i := 1021) (by decide +kernel) rfl
theorem wl_62 : Cond.methodLink RL 62 yX5_dives ∈ TT := TT_of (i := 531) (by decide +kernel) rfl
theorem wl_65 : Cond.methodLink RL 65 yX6_dives ∈ TT := TT_of (i := 1045) (by decide +kernel) rfl
theorem wl_66 : Cond.methodLink RL 66 yX5_dive ∈ TT := TT_of (i := 538) (by decide +kernel) rfl
theorem wl_69 : Cond.methodLink RL 69 yX6_dive ∈ TT := TT_of (i := 1049) (by decide +kernel) rfl
theorem wl_70 : Cond.methodLink RL 70 yX5_open ∈ TT := TT_of (i := 546) (by decide +kernel) rfl
theorem wl_73 : Cond.methodLink RL 73 yX6_open ∈ TT := TT_of (i := 1057) (by decide +kernel) rfl
theorem wl_74 : Cond.methodLink RL 74 yX5_hour ∈ TT := TT_of (i := 559) (by decide +kernel) rfl
theorem wl_77 : Cond.methodLink RL 77 yX6_hour ∈ TT := TT_of (i := 1065) (by decide +kernel) rfl
theorem wl_78 : Cond.methodLink RL 78 yX5_bay ∈ TT := TT_of (i := 578) (by decide +kernel) rfl
theorem wl_81 : Cond.methodLink RL 81 yX6_bay ∈ TT := TT_of (i := 1077) (by decide +kernel) rfl
theorem wl_82 : Cond.methodLink RL 82 yX5_run ∈ TT := TT_of (i := 592) (by decide +kernel) rfl
theorem wl_85 : Cond.methodLink RL 85 yX6_run ∈ TT := TT_of (i := 1089) (by decide +kernel) rfl
theorem wl_86 : Cond.methodLink RL 86 yX5_stills ∈ TT := TT_of (i := 603) (by decide +kernel) rfl
theorem wl_89 : Cond.methodLink RL 89 yX6_stills ∈ TT := TT_of (i := 1105) (by decide +kernel) rfl
theorem wl_90 : Cond.methodLink RL 90 yX5_row ∈ TT := TT_of (i := 607) (by decide +kernel) rfl
theorem wl_93 : Cond.methodLink RL 93 yX6_row ∈ TT := TT_of (i := 1109) (by decide +kernel) rfl
theorem wl_94 : Cond.methodLink RL 94 yX5_salvage ∈ TT := TT_of (i := 633) (by decide +kernel) rfl
theorem wl_97 : Cond.methodLink RL 97 yX6_salvage ∈ TT := TT_of (i := 1121) (by decide +kernel) rfl
theorem wl_98 : Cond.methodLink RL 98 yX5_which ∈ TT := TT_of (i := 637) (by decide +kernel) rfl
theorem wl_101 : Cond.methodLink RL 101 yX6_which ∈ TT := TT_of (i := 1125) (by decide +kernel) rfl
theorem wl_102 : Cond.methodLink RL 102 yX5_cargo ∈ TT := TT_of (i := 646) (by decide +kernel) rfl
theorem wl_105 : Cond.methodLink RL 105 yX6_cargo ∈ TT := TT_of (i := 1133) (by decide +kernel) rfl
theorem wl_106 : Cond.methodLink RL 106 yX5_last ∈ TT := TT_of (i := 653) (by decide +kernel) rfl
theorem wl_109 : Cond.methodLink RL 109 yX6_last ∈ TT := TT_of (i := 1137) (by decide +kernel) rfl
theorem wl_110 : Cond.methodLink RL 110 yX5_best ∈ TT := TT_of (i := 661) (by decide +kernel) rfl
theorem wl_113 : Cond.methodLink RL 113 yX6_best ∈ TT := TT_of (i := 1145) (by decide +kernel) rfl
theorem wl_114 : Cond.methodLink RL 114 yX5_share ∈ TT := TT_of (i := 665) (by decide +kernel) rfl
theorem wl_118 : Cond.methodLink RL 118 yX6_share ∈ TT := TT_of (i := 1149) (by decide +kernel) rfl
theorem wl_119 : Cond.methodLink RL 119 yX5_judge ∈ TT := TT_of (i := 673) (by decide +kernel) rfl
theorem wl_122 : Cond.methodLink RL 122 yX6_judge ∈ TT := TT_of (i := 1157) (by decide +kernel) rfl
theorem wl_123 : Cond.methodLink RL 123 yX5_opened ∈ TT := TT_of (i := 685) (by decide +kernel) rfl
theorem wl_126 : Cond.methodLink RL 126 yX6_opened ∈ TT := TT_of (i := 1173) (by decide +kernel) rfl
theorem wl_127 : Cond.methodLink RL 127 yX5_skies ∈ TT := TT_of (i := 689) (by decide +kernel) rfl
theorem wl_130 : Cond.methodLink RL 130 yX6_skies ∈ TT := TT_of (i := 1177) (by decide +kernel) rfl
theorem wl_131 : Cond.methodLink RL 131 yX5_whose ∈ TT := TT_of (i := 693) (by decide +kernel) rfl
theorem wl_134 : Cond.methodLink RL 134 yX6_whose ∈ TT := TT_of (i := 1181) (by decide +kernel) rfl
theorem wl_135 : Cond.methodLink RL 135 yX5_laws ∈ TT := TT_of (i := 697) (by decide +kernel) rfl
theorem wl_138 : Cond.methodLink RL 138 yX6_laws ∈ TT := TT_of (i := 1185) (by decide +kernel) rfl
theorem wl_139 : Cond.methodLink RL 139 yX5_film ∈ TT := TT_of (i := 701) (by decide +kernel) rfl
theorem wl_142 : Cond.methodLink RL 142 yX6_film ∈ TT := TT_of (i := 1189) (by decide +kernel) rfl
theorem wl_143 : Cond.methodLink RL 143 yX5_kinds ∈ TT := TT_of (i := 721) (by decide +kernel) rfl
theorem wl_146 : Cond.methodLink RL 146 yX6_kinds ∈ TT := TT_of (i := 1193) (by decide +kernel) rfl
theorem wl_147 : Cond.methodLink RL 147 yX5_breaths ∈ TT := TT_of (i := 733) (by decide +kernel) rfl
theorem wl_150 : Cond.methodLink RL 150 yX6_breaths ∈ TT := TT_of (i := 1205) (by decide +kernel) rfl
theorem wl_151 : Cond.methodLink RL 151 yX5_drawn ∈ TT := TT_of (i := 737) (by decide +kernel) rfl
theorem wl_154 : Cond.methodLink RL 154 yX6_drawn ∈ TT := TT_of (i := 1209) (by decide +kernel) rfl
theorem wl_155 : Cond.methodLink RL 155 yX5_odds ∈ TT := TT_of (i := 754) (by decide +kernel) rfl
theorem wl_159 : Cond.methodLink RL 159 yX6_odds ∈ TT := TT_of (i := 1222) (by decide +kernel) rfl
theorem wl_160 : Cond.methodLink RL 160 yX5_image ∈ TT := TT_of (i := 758) (by decide +kernel) rfl
theorem wl_163 : Cond.methodLink RL 163 yX6_image ∈ TT := TT_of (i := 1226) (by decide +kernel) rfl
theorem wl_164 : Cond.methodLink RL 164 yX5_back ∈ TT := TT_of (i := 762) (by decide +kernel) rfl
theorem wl_167 : Cond.methodLink RL 167 yX6_back ∈ TT := TT_of (i := 1230) (by decide +kernel) rfl
theorem wl_168 : Cond.methodLink RL 168 yX5_sheet ∈ TT := TT_of (i := 766) (by decide +kernel) rfl
theorem wl_171 : Cond.methodLink RL 171 yX6_sheet ∈ TT := TT_of (i := 1234) (by decide +kernel) rfl
theorem wl_172 : Cond.methodLink RL 172 yX5_cell ∈ TT := TT_of (i := 770) (by decide +kernel) rfl
theorem wl_175 : Cond.methodLink RL 175 yX6_cell ∈ TT := TT_of (i := 1238) (by decide +kernel) rfl
theorem wl_176 : Cond.methodLink RL 176 yX5_copy ∈ TT := TT_of (i := 774) (by decide +kernel) rfl
theorem wl_180 : Cond.methodLink RL 180 yX6_copy ∈ TT := TT_of (i := 1242) (by decide +kernel) rfl
theorem wl_181 : Cond.methodLink RL 181 yX5_diversBy ∈ TT := TT_of (i := 780) (by decide +kernel) rfl
theorem wl_185 : Cond.methodLink RL 185 yX6_diversBy ∈ TT := TT_of (i := 1246) (by decide +kernel) rfl
theorem wl_186 : Cond.methodLink RL 186 yX5_taken ∈ TT := TT_of (i := 785) (by decide +kernel) rfl
theorem wl_189 : Cond.methodLink RL 189 yX6_taken ∈ TT := TT_of (i := 1251) (by decide +kernel) rfl
theorem lg_self (r : Int64) : lg_cmp r r = 0 := by simp [lg_cmp]
