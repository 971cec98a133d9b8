theorem P_mem {D : va_G} {cl : List vw_C} {ws : va_W} {H : Heap} : va_P D cl ws H ↔ ∀ q ∈ ws, va_at D cl q H := by
  constructor
  · intro h q hq
    obtain ⟨i, hi⟩ := List.getElem?_of_mem hq
    exact h i q hi
  · intro h k q hk
    exact h q (List.mem_of_getElem? hk)
theorem D_fst {A : Nat → Prop} {ws w2 : va_W} (hD : va_D A ws) (h : ws.map Prod.fst = w2.map Prod.fst) : va_D A w2 := by
  have key : ∀ (k : Nat) (q : Nat × va_E), w2[k]? = some q → ∃ q0, ws[k]? = some q0 ∧ q0.1 = q.1 := by
    intro k q hk
    have h1 : (w2.map Prod.fst)[k]? = some q.1 := by rw [List.getElem?_map, hk]; rfl
    rw [← h, List.getElem?_map] at h1
    cases hw : ws[k]? with
    | none => rw [hw] at h1; cases h1
    | some z => rw [hw] at h1; exact ⟨z, rfl, Option.some.inj h1⟩
  refine ⟨fun i j p q hi hj hpq => ?_, fun k q hk => ?_⟩
  · obtain ⟨x, h1, h2⟩ := key i p hi
    obtain ⟨y, h3, h4⟩ := key j q hj
    exact hD.1 i j x y h1 h3 (h2.trans (hpq.trans h4.symm))
  · obtain ⟨x, h1, h2⟩ := key k q hk
    rw [← h2]; exact hD.2 k x h1
theorem wl_fst {Y : Lay} {ad : Nat → Nat} {cA : Nat → ClassId} {n : Nat} {g g1 : Mem} : (wl Y ad cA n g).map Prod.fst = (wl Y ad cA n g1).map Prod.fst := by simp [wl]
theorem wl_mem {Y : Lay} {ad : Nat → Nat} {cA : Nat → ClassId} {n : Nat} {g : Mem} {q : Nat × va_E} : q ∈ wl Y ad cA n g ↔ ∃ k, k < n ∧ q = (ad k, cf Y ad cA g k) := by
  simp only [wl, List.mem_map, List.mem_range]
  exact ⟨fun ⟨k, h1, h2⟩ => ⟨k, h1, h2.symm⟩, fun ⟨k, h1, h2⟩ => ⟨k, h1, h2.symm⟩⟩
theorem D_app {A : Nat → Prop} {a b : va_W} (h : va_D A (a ++ b)) : va_D A a ∧ va_D A b ∧ ∀ p ∈ a, ∀ q ∈ b, p.1 ≠ q.1 := by
  refine ⟨⟨fun i j p q hi hj e => h.1 i j p q ?_ ?_ e, fun k q hk => h.2 k q ?_⟩, ⟨fun i j p q hi hj e => ?_, fun k q hk => h.2 (a.length + k) q ?_⟩, fun p hp q hq e => ?_⟩
  · rw [List.getElem?_append_left (List.getElem?_eq_some_iff.mp hi).1]; exact hi
  · rw [List.getElem?_append_left (List.getElem?_eq_some_iff.mp hj).1]; exact hj
  · rw [List.getElem?_append_left (List.getElem?_eq_some_iff.mp hk).1]; exact hk
  · have := h.1 (a.length + i) (a.length + j) p q (by rw [List.getElem?_append_right (by omega)]; simpa using hi) (by rw [List.getElem?_append_right (by omega)]; simpa using hj) e
    omega
  · rw [List.getElem?_append_right (by omega)]; simpa using hk
  · obtain ⟨i, hi⟩ := List.getElem?_of_mem hp
    obtain ⟨j, hj⟩ := List.getElem?_of_mem hq
    have hl := (List.getElem?_eq_some_iff.mp hi).1
    have := h.1 i (a.length + j) p q (by rw [List.getElem?_append_left hl]; exact hi) (by rw [List.getElem?_append_right (by omega)]; simpa using hj) e
    omega
theorem D_mk {A : Nat → Prop} {a b : va_W} (h1 : va_D A a) (h2 : va_D A b) (h3 : ∀ p ∈ a, ∀ q ∈ b, p.1 ≠ q.1) : va_D A (a ++ b) := va_D.app h1 h2 (fun i j p q hi hj => h3 p (List.mem_of_getElem? hi) q (List.mem_of_getElem? hj))
def cAI (cI cT cS : ClassId) (k : Nat) : ClassId := if k = 2 then cT else if k = 3 then cS else cI
def rl (L : List Nat) : Nat → Option Nat := fun j => L[j]?
theorem rl_nil : rl [] = fun _ => none := by funext j; simp [rl]
theorem rl_add (L : List Nat) (v : Nat) : va_up (rl L) L.length (some v) = rl (L ++ [v]) := by
  funext j
  unfold va_up rl
  by_cases h : j = L.length
  · subst h; simp
  · rw [if_neg h]
    rcases Nat.lt_or_ge j L.length with q | q
    · rw [List.getElem?_append_left q]
    · have : L.length < j := by omega
      rw [List.getElem?_eq_none (Nat.le_of_lt this), List.getElem?_eq_none (by simp; omega)]
theorem at_refs {D : va_G} {q : Nat} {cT : ClassId} {N : Nat} {f f2 : Nat → Option Nat} {H : Heap} (h : va_at D vwCl (q, .inl (cT, N, .inr (.inr (.inr (.inr f))))) H) (hf : ∀ j, j < N → f j = f2 j) : va_at D vwCl (q, .inl (cT, N, .inr (.inr (.inr (.inr f2))))) H := by
  have h1 : H[q]? = some (vp_cell cT (N, .inr (.inr (.inr (.inr f))))) := h
  show H[q]? = some (vp_cell cT (N, .inr (.inr (.inr (.inr f2)))))
  rw [h1, vp_cell_q, vp_cell_q]
  have e : (fun j : Fin N => va_rf (f j.val)) = fun j : Fin N => va_rf (f2 j.val) := by
    funext j
    rw [hf j.val j.isLt]
  show some ({ cls := cT, slots := Array.ofFn (n := N) (fun j => va_rf (f j.val)), vm := .none } : Cell) = some ({ cls := cT, slots := Array.ofFn (n := N) (fun j => va_rf (f2 j.val)), vm := .none } : Cell)
  rw [e]
theorem wl_of {D : va_G} {Y : Lay} {ad : Nat → Nat} {cA : Nat → ClassId} {n : Nat} {g : Mem} {H : Heap} (h : ∀ k, k < n → va_at D vwCl (ad k, cf Y ad cA g k) H) : va_P D vwCl (wl Y ad cA n g) H := by
  rw [P_mem]
  intro q hq
  obtain ⟨k, hk, rfl⟩ := wl_mem.mp hq
  exact h k hk
theorem vv_conv {p : Program} {l : Launch} {e : Env} {R : Room} {s : State} {m : MethodId} {args : Array Value} {below : List Frame} {meth : Method} {c : Code} {nL : Nat} {D : va_G} {A : Nat → Prop} {Q : State → Prop} {cells slots pc : Nat} {ws : va_W} {lv : List (Nat × Value)} {st : List Value} (ws2 : va_W) (hP' : ∀ H, va_P D vwCl ws H → va_P D vwCl ws2 H) (hD' : ∀ A, va_D A ws → va_D A ws2) (k : VV p l e R s m args below meth c nL D A (cells) (slots) Q (ws2) pc lv (st)) : VV p l e R s m args below meth c nL D A (cells) (slots) Q (ws) pc lv (st) := fun H locs ls hP hD hS hl => k H locs ls (hP' H hP) (hD' A hD) hS hl
theorem vv_aastI {p : Program} {l : Launch} {e : Env} {R : Room} {s : State} {m : MethodId} {args : Array Value} {below : List Frame} {meth : Method} {c : Code} {cc : ByteArray} {nL : Nat} {own : String} {rk : Nat} {D : va_G} {tys : List (ClassId × FieldType)} {A : Nat → Prop} {sa : SA} {Q : State → Prop} {cells slots pc : Nat} {ws : va_W} {lv : List (Nat × Value)} {st : List Value} (C : CY p R s m args meth c cc nL own rk D tys A sa) {a v : Nat} (q0 t0 qk : Nat) {cT : ClassId} {r : vw_C} {ci N : Nat} {L : List Nat} {vs : List Value} (ht : tys[t0]? = some (cT, .object r.1)) (he : ws[q0]? = some (a, .inl (cT, N, .inr (.inr (.inr (.inr (rl L))))))) (hv : ws[qk]? = some (v, .inr (ci, vs))) (hc : vwCl[ci]? = some r) {i : Int32} (hi : vp_in i N) (hL : i.toNatClampNeg = L.length) (ws2 : va_W) (hws : ws.set q0 (a, .inl (cT, N, .inr (.inr (.inr (.inr (rl (L ++ [v]))))))) = ws2) (d : decode cc pc = .ok (.aastore, 1)) (pc2 : Nat) (e2 : pc + 1 = pc2) (k : VV p l e R s m args below meth c nL D A (cells) (slots) Q (ws2) pc2 lv (st)) : VV p l e R s m args below meth c nL D A (cells) (slots) Q (ws) pc lv (.ref v :: .int i :: .ref a :: st) := by
  subst e2
  subst hws
  exact fun H locs ls hP hD hS hl => va_astq C.1 C.2.1 C.2.2.2.2.2.1 hP hD hS q0 t0 qk ci he ht hv hc hi d (fun H1 locs1 hP1 hD1 hS1 => k H1 locs1 ls (by rw [hL, rl_add] at hP1; exact hP1) (by rw [hL, rl_add] at hD1; exact hD1) hS1 hl)
theorem vv_callWi {p : Program} {l : Launch} {e : Env} {R : Room} {s : State} {m : MethodId} {args : Array Value} {below : List Frame} {meth : Method} {c : Code} {cc : ByteArray} {nL : Nat} {own : String} {rk : Nat} {D : va_G} {tys : List (ClassId × FieldType)} {A : Nat → Prop} {sa : SA} {Q : State → Prop} {cells slots pc : Nat} {lv : List (Nat × Value)} {st : List Value} (C : CY p R s m args meth c cc nL own rk D tys A sa) {y : MethodName} {cy : ByteArray} {mL rk2 nA ix : Nat} {ret : Option FieldType} {As stk : List Value} {Y : Lay} {ad : Nat → Nat} {cA : Nat → ClassId} {n : Nat} {g g1 : Mem} {pre post : va_W} (r : Int32) {kc ci N : Nat} {Cn : String} {T : u_T} (cl : vwCl[ci]? = some (Cn, T, N)) (o : OB Y n kc ci) (hG : GE Y ad cA tys n) (K : CTi l y (wsm y cy mL ret) rk2 D Y ad cA tys n sa g (.ref (ad kc) :: As) r g1) (w1 : Cond.methodLink own ix y ∈ TT) (w2 : CV Cn y cy mL ret nA) (hrk : rk2 + 1 ≤ rk) (hmL : mL ≤ 21) (hn : As.length = nA) (hst : stk = As.reverse ++ .ref (ad kc) :: st) (hroom : (st.map fun v => v.category).sum ≤ 8) (hcz : cells ≤ R.cells ∧ slots ≤ R.slots) (d : decode cc pc = .ok (.invokevirtual ix, 3)) (pc2 : Nat) (e2 : pc + 3 = pc2) (k : VV p l e R s m args below meth c nL D A (cells) (slots) Q (pre ++ (wl Y ad cA n g1 ++ post)) pc2 lv (.int r :: st)) : VV p l e R s m args below meth c nL D A (cells) (slots) Q (pre ++ (wl Y ad cA n g ++ post)) pc lv (stk) := by
  subst e2
  subst hst
  intro H locs ls hP hD hS hl
  have hR0 := C.2.2.2.2.2.2.2.2.1
  have hPs := P_mem.mp hP
  have hPc : va_P D vwCl (wl Y ad cA n g) H := P_mem.mpr (fun q hq => hPs q (List.mem_append_right _ (List.mem_append_left _ hq)))
  obtain ⟨hD1, hD2, hD3⟩ := D_app hD
  obtain ⟨hD4, hD5, hD6⟩ := D_app hD2
  have hFc : ∀ q, AA n ad H.size q → A q := by
    intro q hq
    rcases hq with ⟨k, hk, rfl⟩ | hq
    · exact hD4.2 k _ (wl_get hk)
    · exact C.2.2.2.2.2.2.1 q (Nat.le_trans hS.1 hq)
  have hout : ∀ q ∈ pre ++ post, q.1 < H.size ∧ ¬ AA n ad H.size q.1 := by
    intro q hq
    have hm : q ∈ pre ++ (wl Y ad cA n g ++ post) := by
      rcases List.mem_append.mp hq with h | h
      · exact List.mem_append_left _ h
      · exact List.mem_append_right _ (List.mem_append_right _ h)
    have hlt := (hPs q hm).lt
    refine ⟨hlt, fun hA => ?_⟩
    rcases hA with ⟨k, hk, e⟩ | hA
    · have hw : (ad k, cf Y ad cA g k) ∈ wl Y ad cA n g := wl_mem.mpr ⟨k, hk, rfl⟩
      rcases List.mem_append.mp hq with h | h
      · exact hD3 q h _ (List.mem_append_left _ hw) e
      · exact hD6 _ hw q h e.symm
    · omega
  have back : ∀ (H1 : Heap) (g1 : Mem), (∀ q : Nat, q < H.size → ¬ AA n ad H.size q → H1[q]? = H[q]?) → va_P D vwCl (wl Y ad cA n g1) H1 → va_P D vwCl (pre ++ (wl Y ad cA n g1 ++ post)) H1 ∧ va_D A (pre ++ (wl Y ad cA n g1 ++ post)) := by
    intro H1 g1 hk hP1
    refine ⟨P_mem.mpr (fun q hq => ?_), D_fst hD (by simp [wl])⟩
    rcases List.mem_append.mp hq with h | h
    · exact (hPs q (List.mem_append_left _ h)).kept (hk _ (hout q (List.mem_append_left _ h)).1 (hout q (List.mem_append_left _ h)).2)
    · rcases List.mem_append.mp h with h | h
      · exact P_mem.mp hP1 q h
      · exact (hPs q (List.mem_append_right _ (List.mem_append_right _ h))).kept (hk _ (hout q (List.mem_append_right _ h)).1 (hout q (List.mem_append_right _ h)).2)
  exact va_calli (va_runV (As := As) (rest := st) ⟨C.1, C.2.1, C.2.2.1, C.2.2.2.1, C.2.2.2.2.1⟩ (K H.size) (cwV nA C.2.2.2.2.1 (gV w1 w2) rfl rfl rfl w2.2.2.2.2 ⟨(by show rk2 + 1 ≤ R.frames; omega), (by show 8 + (mL + 11) + 40 * rk2 ≤ R.locals; omega)⟩) ⟨PRE_blind, va_recv C.2.2.2.2.2.1 hPc cl ((wl_get o.1).trans (by rw [cf_ob o (cl_lt cl) rfl])), fun U hU hW => ⟨rfl, by rw [hU], by rw [hU]; exact hPc, va_K.moved hW.alike C.2.2.2.2.2.1, hG, by have := C.2.2.2.2.2.2.2.1.call (B := AA n ad H.size) hS hU hW hFc; exact this⟩⟩ rfl hn hl.1 rfl (lv_room hroom) d ⟨hcz.1, hcz.2⟩) hS (fun q _ hq => hFc q hq) hFc (fun r2 u t H1 locs1 ht hvm hw hB hz hk hS1 => by subst hw; rw [ht] at hB; exact k H1 locs1 ls (back H1 g1 hk hB).1 (back H1 g1 hk hB).2 hS1 hl)
theorem vv_callTi {p : Program} {l : Launch} {e : Env} {R : Room} {s : State} {m : MethodId} {args : Array Value} {below : List Frame} {meth : Method} {c : Code} {cc : ByteArray} {nL : Nat} {own : String} {rk : Nat} {D : va_G} {tys : List (ClassId × FieldType)} {A : Nat → Prop} {sa : SA} {Q : State → Prop} {cells slots pc : Nat} {lv : List (Nat × Value)} {st : List Value} (C : CY p R s m args meth c cc nL own rk D tys A sa) {y : MethodName} {cy : ByteArray} {mL rk2 nA ix : Nat} {ret : Option FieldType} {As stk : List Value} {Y : Lay} {ad : Nat → Nat} {cA : Nat → ClassId} {n : Nat} {g g1 : Mem} {pre post : va_W} (r : Int32) (i : Nat) (hi : i < sa.2.1.length) (hG : GE Y ad cA tys n) (K : CTi l y (wsm y cy mL ret) rk2 D Y ad cA tys n sa g (.ref (sa.1 (10 + 2 * i)) :: As) r g1) (w1 : Cond.methodLink own ix y ∈ TT) (w2 : CV "java/lang/String" y cy mL ret nA) (hrk : rk2 + 1 ≤ rk) (hmL : mL ≤ 21) (hn : As.length = nA) (hst : stk = As.reverse ++ .ref (sa.1 (10 + 2 * i)) :: st) (hroom : (st.map fun v => v.category).sum ≤ 8) (hcz : cells ≤ R.cells ∧ slots ≤ R.slots) (d : decode cc pc = .ok (.invokevirtual ix, 3)) (pc2 : Nat) (e2 : pc + 3 = pc2) (k : VV p l e R s m args below meth c nL D A (cells) (slots) Q (pre ++ (wl Y ad cA n g1 ++ post)) pc2 lv (.int r :: st)) : VV p l e R s m args below meth c nL D A (cells) (slots) Q (pre ++ (wl Y ad cA n g ++ post)) pc lv (stk) := by
  subst e2
  subst hst
  intro H locs ls hP hD hS hl
  have hR0 := C.2.2.2.2.2.2.2.2.1
  have hPs := P_mem.mp hP
  have hPc : va_P D vwCl (wl Y ad cA n g) H := P_mem.mpr (fun q hq => hPs q (List.mem_append_right _ (List.mem_append_left _ hq)))
  obtain ⟨hD1, hD2, hD3⟩ := D_app hD
  obtain ⟨hD4, hD5, hD6⟩ := D_app hD2
  have hFc : ∀ q, AA n ad H.size q → A q := by
    intro q hq
    rcases hq with ⟨k, hk, rfl⟩ | hq
    · exact hD4.2 k _ (wl_get hk)
    · exact C.2.2.2.2.2.2.1 q (Nat.le_trans hS.1 hq)
  have hout : ∀ q ∈ pre ++ post, q.1 < H.size ∧ ¬ AA n ad H.size q.1 := by
    intro q hq
    have hm : q ∈ pre ++ (wl Y ad cA n g ++ post) := by
      rcases List.mem_append.mp hq with h | h
      · exact List.mem_append_left _ h
      · exact List.mem_append_right _ (List.mem_append_right _ h)
    have hlt := (hPs q hm).lt
    refine ⟨hlt, fun hA => ?_⟩
    rcases hA with ⟨k, hk, e⟩ | hA
    · have hw : (ad k, cf Y ad cA g k) ∈ wl Y ad cA n g := wl_mem.mpr ⟨k, hk, rfl⟩
      rcases List.mem_append.mp hq with h | h
      · exact hD3 q h _ (List.mem_append_left _ hw) e
      · exact hD6 _ hw q h e.symm
    · omega
  have back : ∀ (H1 : Heap) (g1 : Mem), (∀ q : Nat, q < H.size → ¬ AA n ad H.size q → H1[q]? = H[q]?) → va_P D vwCl (wl Y ad cA n g1) H1 → va_P D vwCl (pre ++ (wl Y ad cA n g1 ++ post)) H1 ∧ va_D A (pre ++ (wl Y ad cA n g1 ++ post)) := by
    intro H1 g1 hk hP1
    refine ⟨P_mem.mpr (fun q hq => ?_), D_fst hD (by simp [wl])⟩
    rcases List.mem_append.mp hq with h | h
    · exact (hPs q (List.mem_append_left _ h)).kept (hk _ (hout q (List.mem_append_left _ h)).1 (hout q (List.mem_append_left _ h)).2)
    · rcases List.mem_append.mp h with h | h
      · exact P_mem.mp hP1 q h
      · exact (hPs q (List.mem_append_right _ (List.mem_append_right _ h))).kept (hk _ (hout q (List.mem_append_right _ h)).1 (hout q (List.mem_append_right _ h)).2)
  exact va_calli (va_runV (As := As) (rest := st) ⟨C.1, C.2.1, C.2.2.1, C.2.2.2.1, C.2.2.2.2.1⟩ (K H.size) (cwV nA C.2.2.2.2.1 (gV w1 w2) rfl rfl rfl w2.2.2.2.2 ⟨(by show rk2 + 1 ≤ R.frames; omega), (by show 8 + (mL + 11) + 40 * rk2 ≤ R.locals; omega)⟩) ⟨PRE_blind, vk_recv (C.2.2.2.2.2.2.2.1.2.2.2.2.2.1) hi hS, fun U hU hW => ⟨rfl, by rw [hU], by rw [hU]; exact hPc, va_K.moved hW.alike C.2.2.2.2.2.1, hG, by have := C.2.2.2.2.2.2.2.1.call (B := AA n ad H.size) hS hU hW hFc; exact this⟩⟩ rfl hn hl.1 rfl (lv_room hroom) d ⟨hcz.1, hcz.2⟩) hS (fun q _ hq => hFc q hq) hFc (fun r2 u t H1 locs1 ht hvm hw hB hz hk hS1 => by subst hw; rw [ht] at hB; exact k H1 locs1 ls (back H1 g1 hk hB).1 (back H1 g1 hk hB).2 hS1 hl)
theorem vv_callWv {p : Program} {l : Launch} {e : Env} {R : Room} {s : State} {m : MethodId} {args : Array Value} {below : List Frame} {meth : Method} {c : Code} {cc : ByteArray} {nL : Nat} {own : String} {rk : Nat} {D : va_G} {tys : List (ClassId × FieldType)} {A : Nat → Prop} {sa : SA} {Q : State → Prop} {cells slots pc : Nat} {lv : List (Nat × Value)} {st : List Value} (C : CY p R s m args meth c cc nL own rk D tys A sa) {y : MethodName} {cy : ByteArray} {mL rk2 nA ix : Nat} {ret : Option FieldType} {As stk : List Value} {Y : Lay} {ad : Nat → Nat} {cA : Nat → ClassId} {n : Nat} {g g1 : Mem} {pre post : va_W} {kc ci N : Nat} {Cn : String} {T : u_T} (cl : vwCl[ci]? = some (Cn, T, N)) (o : OB Y n kc ci) (hG : GE Y ad cA tys n) (K : CTv l y (wsm y cy mL ret) rk2 D Y ad cA tys n sa g (.ref (ad kc) :: As) g1) (w1 : Cond.methodLink own ix y ∈ TT) (w2 : CV Cn y cy mL ret nA) (hrk : rk2 + 1 ≤ rk) (hmL : mL ≤ 21) (hn : As.length = nA) (hst : stk = As.reverse ++ .ref (ad kc) :: st) (hroom : (st.map fun v => v.category).sum ≤ 8) (hcz : cells ≤ R.cells ∧ slots ≤ R.slots) (d : decode cc pc = .ok (.invokevirtual ix, 3)) (pc2 : Nat) (e2 : pc + 3 = pc2) (k : VV p l e R s m args below meth c nL D A (cells) (slots) Q (pre ++ (wl Y ad cA n g1 ++ post)) pc2 lv (st)) : VV p l e R s m args below meth c nL D A (cells) (slots) Q (pre ++ (wl Y ad cA n g ++ post)) pc lv (stk) := by
  subst e2
  subst hst
  intro H locs ls hP hD hS hl
  have hR0 := C.2.2.2.2.2.2.2.2.1
  have hPs := P_mem.mp hP
  have hPc : va_P D vwCl (wl Y ad cA n g) H := P_mem.mpr (fun q hq => hPs q (List.mem_append_right _ (List.mem_append_left _ hq)))
  obtain ⟨hD1, hD2, hD3⟩ := D_app hD
  obtain ⟨hD4, hD5, hD6⟩ := D_app hD2
  have hFc : ∀ q, AA n ad H.size q → A q := by
    intro q hq
    rcases hq with ⟨k, hk, rfl⟩ | hq
    · exact hD4.2 k _ (wl_get hk)
    · exact C.2.2.2.2.2.2.1 q (Nat.le_trans hS.1 hq)
  have hout : ∀ q ∈ pre ++ post, q.1 < H.size ∧ ¬ AA n ad H.size q.1 := by
    intro q hq
    have hm : q ∈ pre ++ (wl Y ad cA n g ++ post) := by
      rcases List.mem_append.mp hq with h | h
      · exact List.mem_append_left _ h
      · exact List.mem_append_right _ (List.mem_append_right _ h)
    have hlt := (hPs q hm).lt
    refine ⟨hlt, fun hA => ?_⟩
    rcases hA with ⟨k, hk, e⟩ | hA
    · have hw : (ad k, cf Y ad cA g k) ∈ wl Y ad cA n g := wl_mem.mpr ⟨k, hk, rfl⟩
      rcases List.mem_append.mp hq with h | h
      · exact hD3 q h _ (List.mem_append_left _ hw) e
      · exact hD6 _ hw q h e.symm
    · omega
  have back : ∀ (H1 : Heap) (g1 : Mem), (∀ q : Nat, q < H.size → ¬ AA n ad H.size q → H1[q]? = H[q]?) → va_P D vwCl (wl Y ad cA n g1) H1 → va_P D vwCl (pre ++ (wl Y ad cA n g1 ++ post)) H1 ∧ va_D A (pre ++ (wl Y ad cA n g1 ++ post)) := by
    intro H1 g1 hk hP1
    refine ⟨P_mem.mpr (fun q hq => ?_), D_fst hD (by simp [wl])⟩
    rcases List.mem_append.mp hq with h | h
    · exact (hPs q (List.mem_append_left _ h)).kept (hk _ (hout q (List.mem_append_left _ h)).1 (hout q (List.mem_append_left _ h)).2)
    · rcases List.mem_append.mp h with h | h
      · exact P_mem.mp hP1 q h
      · exact (hPs q (List.mem_append_right _ (List.mem_append_right _ h))).kept (hk _ (hout q (List.mem_append_right _ h)).1 (hout q (List.mem_append_right _ h)).2)
  exact va_callv (va_runV (As := As) (rest := st) ⟨C.1, C.2.1, C.2.2.1, C.2.2.2.1, C.2.2.2.2.1⟩ (K H.size) (cwV nA C.2.2.2.2.1 (gV w1 w2) rfl rfl rfl w2.2.2.2.2 ⟨(by show rk2 + 1 ≤ R.frames; omega), (by show 8 + (mL + 11) + 40 * rk2 ≤ R.locals; omega)⟩) ⟨PRE_blind, va_recv C.2.2.2.2.2.1 hPc cl ((wl_get o.1).trans (by rw [cf_ob o (cl_lt cl) rfl])), fun U hU hW => ⟨rfl, by rw [hU], by rw [hU]; exact hPc, va_K.moved hW.alike C.2.2.2.2.2.1, hG, by have := C.2.2.2.2.2.2.2.1.call (B := AA n ad H.size) hS hU hW hFc; exact this⟩⟩ rfl hn hl.1 rfl (lv_room hroom) d ⟨hcz.1, hcz.2⟩) hS (fun q _ hq => hFc q hq) hFc (fun u t H1 locs1 ht hvm hw hB hz hk hS1 => by rw [ht] at hB; exact k H1 locs1 ls (back H1 g1 hk hB).1 (back H1 g1 hk hB).2 hS1 hl)
theorem vv_ctor {p : Program} {l : Launch} {e : Env} {R : Room} {s : State} {m : MethodId} {args : Array Value} {below : List Frame} {meth : Method} {c : Code} {cc : ByteArray} {nL : Nat} {own : String} {rk : Nat} {D : va_G} {tys : List (ClassId × FieldType)} {A : Nat → Prop} {sa : SA} {Q : State → Prop} {cells slots pc : Nat} {ws : va_W} {lv : List (Nat × Value)} {st : List Value} (C : CY p R s m args meth c cc nL own rk D tys A sa) {S : Type} {W1 : S → va_W} {y : MethodName} {cy : ByteArray} {mL rk2 mc ms nA ix : Nat} {As : List Value} {stk : List Value} {b : Nat} (w0 : va_W) (ce : va_E) (hw0 : ws = w0 ++ [(b, ce)]) (K : CI l y (wsm y cy mL none) rk2 mc ms D tys sa [(b, ce)] (.ref b :: As) W1) (w1 : Cond.methodLink own ix y ∈ TT) (w2 : Cond.instanceMethod y ∈ TT ∧ Cond.initialized y.cls ∈ TT ∧ Cond.code y cy mL none ∈ TT ∧ (y.cls ≠ "java/lang/invoke/MethodHandle" ∧ y.cls ≠ "java/lang/invoke/VarHandle" ∧ (parseMethodDescriptor y.desc).map (fun d => d.parameters.length) = some nA)) (hy1 : y.name = "<init>") (hrk : rk2 + 1 ≤ rk) (hmL : mL ≤ 21) (hn : As.length = nA) (hst : stk = As.reverse ++ .ref b :: st) (hroom : (st.map fun v => v.category).sum ≤ 8) (hc : cells + mc ≤ R.cells) (hs : slots + ms ≤ R.slots) (d : decode cc pc = .ok (.invokespecial ix, 3)) (cells2 slots2 : Nat) (ec : cells + mc = cells2) (es : slots + ms = slots2) (pc2 : Nat) (e2 : pc + 3 = pc2) (k : ∀ u : S, VV p l e R s m args below meth c nL D A (cells2) (slots2) Q (w0 ++ W1 u) pc2 lv (st)) : VV p l e R s m args below meth c nL D A (cells) (slots) Q (ws) pc lv (stk) := by
  subst hw0
  refine vv_callI C [w0.length] (List.range w0.length) [(b, ce)] w0 (by simp) ?_ (by simp [va_nd]) ?_ ?_ K w1 w2 hy1 hrk hmL hn hst hroom hc hs d cells2 slots2 ec es pc2 e2 k
  · apply List.ext_getElem?
    intro i
    rcases Nat.lt_or_ge i w0.length with h | h
    · simp [h, List.getElem?_append_left h]
    · rw [List.getElem?_eq_none (by simpa using h), List.getElem?_eq_none (by simpa using h)]
  · have : ∀ (a n : Nat), va_nd (List.range' a n) = true := by
      intro a n
      induction n generalizing a with
      | zero => rfl
      | succ n ih =>
        rw [List.range'_succ]
        simp only [va_nd, Bool.and_eq_true, decide_eq_true_eq, ih, and_true]
        intro h
        have := List.mem_range'_1.mp h
        omega
    rw [List.range_eq_range']
    exact this 0 _
  · intro i hi h
    simp at hi h
    omega
theorem vv_ctorN {p : Program} {l : Launch} {e : Env} {R : Room} {s : State} {m : MethodId} {args : Array Value} {below : List Frame} {meth : Method} {c : Code} {cc : ByteArray} {nL : Nat} {own : String} {rk : Nat} {D : va_G} {tys : List (ClassId × FieldType)} {A : Nat → Prop} {sa : SA} {Q : State → Prop} {cells slots pc : Nat} {ws : va_W} {lv : List (Nat × Value)} {st : List Value} (C : CY p R s m args meth c cc nL own rk D tys A sa) {S : Type} {W1 : S → va_W} {y : MethodName} {cy : ByteArray} {mL rk2 mc ms nA ix : Nat} {As : List Value} {stk : List Value} {b : Nat} (w0 : va_W) (ce : va_E) (hw0 : ws = w0 ++ [(b, ce)]) (K : CI l y (wsm y cy mL none) rk2 mc ms D tys sa [(b, ce)] (.ref b :: As) W1) {host : String} (w1 : va_Nw (.methodLinkNest own ix y host) s) (w2 : Cond.instanceMethod y ∈ TT ∧ Cond.initialized y.cls ∈ TT ∧ Cond.code y cy mL none ∈ TT ∧ (y.cls ≠ "java/lang/invoke/MethodHandle" ∧ y.cls ≠ "java/lang/invoke/VarHandle" ∧ (parseMethodDescriptor y.desc).map (fun d => d.parameters.length) = some nA)) (hy1 : y.name = "<init>") (hrk : rk2 + 1 ≤ rk) (hmL : mL ≤ 21) (hn : As.length = nA) (hst : stk = As.reverse ++ .ref b :: st) (hroom : (st.map fun v => v.category).sum ≤ 8) (hc : cells + mc ≤ R.cells) (hs : slots + ms ≤ R.slots) (d : decode cc pc = .ok (.invokespecial ix, 3)) (cells2 slots2 : Nat) (ec : cells + mc = cells2) (es : slots + ms = slots2) (pc2 : Nat) (e2 : pc + 3 = pc2) (k : ∀ u : S, VV p l e R s m args below meth c nL D A (cells2) (slots2) Q (w0 ++ W1 u) pc2 lv (st)) : VV p l e R s m args below meth c nL D A (cells) (slots) Q (ws) pc lv (stk) := by
  subst hw0
  refine vv_callIN C [w0.length] (List.range w0.length) [(b, ce)] w0 (by simp) ?_ (by simp [va_nd]) ?_ ?_ K w1 w2 hy1 hrk hmL hn hst hroom hc hs d cells2 slots2 ec es pc2 e2 k
  · apply List.ext_getElem?
    intro i
    rcases Nat.lt_or_ge i w0.length with h | h
    · simp [h, List.getElem?_append_left h]
    · rw [List.getElem?_eq_none (by simpa using h), List.getElem?_eq_none (by simpa using h)]
  · have : ∀ (a n : Nat), va_nd (List.range' a n) = true := by
      intro a n
      induction n generalizing a with
      | zero => rfl
      | succ n ih =>
        rw [List.range'_succ]
        simp only [va_nd, Bool.and_eq_true, decide_eq_true_eq, ih, and_true]
        intro h
        have := List.mem_range'_1.mp h
        omega
    rw [List.range_eq_range']
    exact this 0 _
  · intro i hi h
    simp at hi h
    omega
def LI0 : List (List Int32) := [[], [], [], [], [0], [], [], [], [], [1], [], [], [], [], [2], [], [], [], [], [3], [], [], [], [], [4], [], [], [], [], [5], [], [], [], [], [0, -1, 0], [], [0, -1, 0], [], [0, -1, 0], [], [0, -1, 0], []]
def gI0 : Mem := (fun k => pl (LI0.getD k []), fun _ => none)
def LS1 : List (List Int32) := [[], [], [0, 1, 2, 3, 4, 5, 0, 1, 2, 3, 4, 5], [20, 20, 20, 20, 20, 20, 20, 20, 20, 20, 20, 20], [0, 3, 6, 9, 12, 15, 18, 21, 24, 27, 30, 33], [], [], [], [], []]
def LI1 : List (List Int32) := LS1 ++ (LS1 ++ (LS1 ++ [[0, 0, 1]]))
/-- the class's state behind its constructor, gB being what the tape's reading of the first law left -/
def gI1 (gB : Mem) : Mem := (fun k => if k < 42 then gB.1 k else pl (LI1.getD (k - 42) []), fun k => if k < 42 then gB.2 k else if k = 42 ∨ k = 52 ∨ k = 62 then some 4 else none)
def feedL (N : Nat) : List Int32 → Mem → Option (Int32 × Mem)
  | [], g => some (0, g)
  | b :: bs, g => ob (X3_add N b g) (fun _ g2 => feedL N bs g2)
def bl0 : List Int32 := [114, 101, 97, 99, 104, 101, 115, 32, 98, 114, 101, 97, 116, 104, 32, 59, 32, 99, 111, 115, 116, 115, 32, 100, 101, 101, 112, 32, 42, 32, 50, 32, 59, 32, 102, 97, 100, 101, 115, 32, 51, 32, 59, 32]
def bootI (N : Nat) (g : Mem) : Option (Int32 × Mem) := ob (feedL N bl0 g) (fun _ g1 => ob (X3_readInto N 4 g1) (fun _ g2 => X3_clear N g2))
theorem wl_inj {A : Nat → Prop} {Y : Lay} {ad : Nat → Nat} {cA : Nat → ClassId} {n : Nat} {g : Mem} (h : va_D A (wl Y ad cA n g)) : ∀ i j, i < n → j < n → ad i = ad j → i = j := fun i j hi hj e => h.1 i j _ _ (wl_get hi) (wl_get hj) e
theorem kdI1 {k : Nat} (hk : k < 73) (h : kdI k = 1) : k = 2 ∨ k = 3 := by
  have : ∀ k, k < 73 → kdI k = 1 → k = 2 ∨ k = 3 := by decide +kernel
  exact this k hk h
theorem GE_I {ad : Nat → Nat} {tys : List (ClassId × FieldType)} {cI cT cS : ClassId} {n : Nat} (ht0 : tys[0]? = some (cI, .int)) (ht1 : tys[1]? = some (cT, .object RX4)) (ht2 : tys[2]? = some (cS, .object RX2)) (hn : n ≤ 73) (hi : ∀ i j, i < n → j < n → ad i = ad j → i = j) : GE YI ad (cAI cI cT cS) tys n := by
  refine ⟨hi, fun k hk h0 => ?_, fun k hk h1 => ?_, fun k hk h9 => ?_, by omega⟩
  · have h2 : k ≠ 2 := fun e => by subst e; cases h0
    have h3 : k ≠ 3 := fun e => by subst e; cases h0
    simp [cAI, h2, h3, ht0]
  · rcases kdI1 (Nat.lt_of_lt_of_le hk hn) h1 with rfl | rfl
    · exact ⟨1, RX4, ht1⟩
    · exact ⟨2, RX2, ht2⟩
  · have := kdI_9 hk h9
    omega
theorem ix_wl {a : Nat × va_E} {post : va_W} {Y : Lay} {ad : Nat → Nat} {cA : Nat → ClassId} {n : Nat} {g : Mem} {k : Nat} (hk : k < n) : ([a] ++ (wl Y ad cA n g ++ post))[k + 1]? = some (ad k, cf Y ad cA g k) := by
  rw [List.singleton_append, List.getElem?_cons_succ, List.getElem?_append_left (by simpa [wl] using hk), wl_get hk]
theorem ix_po {a : Nat × va_E} {post : va_W} {Y : Lay} {ad : Nat → Nat} {cA : Nat → ClassId} {g : Mem} {k : Nat} {q : Nat × va_E} (hk : post[k]? = some q) : ([a] ++ (wl Y ad cA 42 g ++ post))[43 + k]? = some q := by
  rw [List.singleton_append, show 43 + k = (42 + k) + 1 by omega, List.getElem?_cons_succ, List.getElem?_append_right (by simp [wl])]
  simpa [wl] using hk
theorem soI_lt : ∀ k, k < 42 → ∀ j, j < 12 → (kdI k ≠ 1 → ftI (kdI k - 2) j = 2 → 2 ≤ kdI k → soI k j < 42) := by decide +kernel
theorem so2_lt : ∀ j, (j < 6 → soI 2 j < 42) ∧ (j < 4 → soI 3 j < 42) := fun j => ⟨fun h => by show 4 + 5 * j < 42; omega, fun h => by show 34 + 2 * j < 42; omega⟩
theorem nfI_le : ∀ k, k < 42 → nfI (kdI k - 2) ≤ 12 := by decide +kernel
theorem at_lo {D : va_G} {ad ad2 : Nat → Nat} {cA : Nat → ClassId} {g g2 : Mem} {k : Nat} {H : Heap} (hk : k < 42) (had : ∀ i, i < 42 → ad2 i = ad i) (hg : g2.1 k = g.1 k) (hg2 : g2.2 k = g.2 k) (hm : ∀ q, g.2 k = some q → q < 42) (h : va_at D vwCl (ad k, cf YI ad cA g k) H) : va_at D vwCl (ad2 k, cf YI ad2 cA g2 k) H := by
  rw [had k hk]
  by_cases h1 : kd YI k = 1
  · have e1 : cf YI ad cA g k = .inl (cA k, ln YI k, .inr (.inr (.inr (.inr (fun j => some (ad (so YI k j))))))) := by simp [cf, h1]
    have e2 : cf YI ad2 cA g2 k = .inl (cA k, ln YI k, .inr (.inr (.inr (.inr (fun j => some (ad2 (so YI k j))))))) := by simp [cf, h1]
    rw [e1] at h
    rw [e2]
    refine at_refs h (fun j hj => ?_)
    rcases kdI1 (Nat.lt_trans hk (by decide)) h1 with rfl | rfl
    · rw [had (so YI 2 j) ((so2_lt j).1 hj)]
    · rw [had (so YI 3 j) ((so2_lt j).2 hj)]
  · have e : cf YI ad2 cA g2 k = cf YI ad cA g k := by
      unfold cf
      by_cases h0 : kd YI k = 0
      · simp [h0, hg]
      · have h9 : ¬ kd YI k = 9 := fun e => by have := kdI_9 hk e; omega
        rw [if_neg h0, if_neg h0, if_neg h1, if_neg h1, if_neg h9, if_neg h9]
        congr 2
        refine List.map_congr_left (fun j hj => ?_)
        have hj' : j < 12 := Nat.lt_of_lt_of_le (List.mem_range.mp hj) (nfI_le k hk)
        unfold fv
        by_cases f0 : ft YI (kd YI k - 2) j = 0
        · simp [f0, hg]
        · by_cases f1 : ft YI (kd YI k - 2) j = 1
          · rw [if_neg f0, if_neg f0, if_pos f1, if_pos f1, hg2]
            cases hq : g.2 k with
            | none => rfl
            | some q => simp [va_rf, had q (hm q hq)]
          · rw [if_neg f0, if_neg f0, if_neg f1, if_neg f1]
            have f2 : ftI (kdI k - 2) j = 2 := by
              have : ∀ k, k < 42 → ∀ j, j < 12 → j < nfI (kdI k - 2) → ftI (kdI k - 2) j = 0 ∨ ftI (kdI k - 2) j = 1 ∨ ftI (kdI k - 2) j = 2 := by decide +kernel
              rcases this k hk j hj' (List.mem_range.mp hj) with z | z | z
              · exact absurd z f0
              · exact absurd z f1
              · exact z
            have k2 : 2 ≤ kdI k := by
              have e0 : kdI k ≠ 0 := h0
              have e1 : kdI k ≠ 1 := h1
              omega
            rw [had (so YI k j) (soI_lt k hk j hj' h1 f2 k2)]
    rw [e]
    exact h
theorem k_len44 {l : Launch} {D : va_G} {Y : Lay} {ad : Nat → Nat} {cA : Nat → ClassId} {tys : List (ClassId × FieldType)} {n : Nat} {sa : SA} (hb : ∀ i, i < 10 → sa.2.1[i]? = bytJS[i]?) {g : Mem} : CTi l yJ0_length_8abf5 (wsm yJ0_length_8abf5 cJ0_length_8abf5 1 (some .int)) 2 D Y ad cA tys n sa g [.ref (sa.1 (10 + 2 * 0))] 44 g := by
  obtain ⟨h1, h2⟩ := tz_at hb 0 (by decide)
  have h := k_len (l := l) (D := D) (Y := Y) (ad := ad) (cA := cA) (tys := tys) (n := n) (sa := sa) (g := g) 0 h1
  rw [lenS, h2, show (Int32.ofNat (bytJS.getD 0 []).length >>> ((0 : Int32) &&& 31)) = (44 : Int32) from by decide +kernel] at h
  exact h
theorem k_chr44 {l : Launch} {D : va_G} {Y : Lay} {ad : Nat → Nat} {cA : Nat → ClassId} {tys : List (ClassId × FieldType)} {n : Nat} {sa : SA} (hb : ∀ i, i < 10 → sa.2.1[i]? = bytJS[i]?) {g : Mem} {x v : Int32} (hx : vp_in x 44) (hv : chS 0 x.toNatClampNeg = v) : CTi l yJ0_charAt_5068e (wsm yJ0_charAt_5068e cJ0_charAt_5068e 2 (some .char)) 4 D Y ad cA tys n sa g [.ref (sa.1 (10 + 2 * 0)), .int x] v g := by
  obtain ⟨h1, h2⟩ := tz_at hb 0 (by decide)
  have h3 : (sa.2.1.map List.length).getD 0 0 = 44 := by rw [lenS, h2]; decide +kernel
  have h := k_chr (l := l) (D := D) (Y := Y) (ad := ad) (cA := cA) (tys := tys) (n := n) (sa := sa) (g := g) 0 h1 (by rw [h3]; decide) (x := x) (by rw [h3]; exact hx)
  have e3 := chS_ok 0 (by decide) x.toNatClampNeg (by have := vp_cl hx; exact this)
  rw [hv] at e3
  unfold chS at hv
  rw [h2, hv, e3] at h
  exact h
/-- the class's own constructor: what it wants beside a constructor's usual: rows of Text and Sheet, two words of nest mates -/
def CX5 {S : Type} (l : Launch) (D : va_G) (sa : SA) (tys : List (ClassId × FieldType)) (h0 : Nat) (mc ms : Nat) (W1 : S → va_W) : Prop :=
  ∀ sz, Met l yX5_init (wsm yX5_init cX5_init 2 none) (rmc 400 mc ms) (fun a U => PC0 D tys sa [(h0, .inr (6, [.null, .null, .int 0, .null, .null, .null, .null, .int 0]))] [.ref h0] sz a U ∧ NX U) (va_Qv (fun _ : S => True) (fun u t => va_P D vwCl (W1 u) t.heap ∧ va_D (va_A [(h0, .inr (6, [.null, .null, .int 0, .null, .null, .null, .null, .int 0]))] sz) (W1 u)) (va_A [(h0, .inr (6, [.null, .null, .int 0, .null, .null, .null, .null, .int 0]))] sz)) mc ms (va_A [(h0, .inr (6, [.null, .null, .int 0, .null, .null, .null, .null, .int 0]))] sz)
theorem cx5_of {l : Launch} {D : va_G} {sa : SA} {tys : List (ClassId × FieldType)} {h0 mc ms : Nat} {S : Type} {W1 : S → va_W}
    (body : ∀ (p : Program) (e : Env) (R : Room) (s : State) (m : MethodId) (args : Array Value) (below : List Frame) (meth : Method) (c : Code) (A : Nat → Prop), A = va_A [(h0, .inr (6, [.null, .null, .int 0, .null, .null, .null, .null, .int 0]))] s.heap.size → CY p R s m args meth c cX5_init 2 RX5 400 D tys A sa → R.cells = mc → R.slots = ms → meth.name = "<init>" → meth.sig.returnType = none → va_AO RX4 s → va_AO RX2 s → (va_Nw (.methodLinkNest RX5 9 yX3_init RX5) s ∧ va_Nw (.methodLinkNest RX5 31 yX2_init RX5) s) → VV p l e R s m args below meth c 2 D A 0 0 (MQ below (va_Qv (fun _ : S => True) (fun u t => va_P D vwCl (W1 u) t.heap ∧ va_D A (W1 u)) A) args s mc ms A) [(h0, .inr (6, [.null, .null, .int 0, .null, .null, .null, .null, .int 0]))] 0 [(0, .ref h0)] []) :
    CX5 l D sa tys h0 mc ms W1 := by
  intro sz
  refine Met.ofW (cc := cX5_init) (maxL := 2) (ret := none) (by decide +kernel) rfl ?_
  intro p e s m args below meth c s₁ B hml hv
  obtain ⟨⟨rfl, hsz, hP, hK, hD, hE⟩, hx1, hx2, hx3⟩ := hv
  subst hsz
  have hts := atoms_spec (ws := wsm yX5_init cX5_init 2 none) B.pre
  have hown' : s.vm.findClass RX5 = some m.cls := findClass_of_methodNamed B.named
  have hnm : meth.name = "<init>" := (name_of_methodNamed B.named B.method).1
  have C : CY p (headSpec (wsm yX5_init cX5_init 2 none) (rmc 400 mc ms)).room s m ([.ref h0] : List Value).toArray meth c cX5_init 2 RX5 400 D tys (va_A [(h0, .inr (6, [.null, .null, .int 0, .null, .null, .null, .null, .int 0]))] s.heap.size) sa := ⟨B.exec, B.bytes, hml, hown', fun w hw => hts w (List.mem_cons_of_mem _ hw), hK, fun q h => Or.inr h, hE, ⟨Nat.le_refl _, Nat.le_refl _⟩, B.notSynchronized⟩
  have hl := lv_entry ([.ref h0] : List Value) (n := 2) (Nat.le_of_ble_eq_true rfl)
  rw [lg_entry_eq]
  exact body p e _ s m _ below meth c _ rfl C rfl rfl hnm B.returns hx1 hx2 hx3 s.heap [] _ hP (hD.self (sz := s.heap.size)) va_S.rf hl

theorem vv_getD {p : Program} {l : Launch} {e : Env} {R : Room} {s : State} {m : MethodId} {args : Array Value} {below : List Frame} {meth : Method} {c : Code} {nL : Nat} {D : va_G} {A : Nat → Prop} {Q : State → Prop} {cells slots pc : Nat} {ws : va_W} {lv : List (Nat × Value)} {st : List Value} (k : va_D A ws → VV p l e R s m args below meth c nL D A (cells) (slots) Q (ws) pc lv (st)) : VV p l e R s m args below meth c nL D A (cells) (slots) Q (ws) pc lv (st) := fun H locs ls hP hD hS hl => k hD H locs ls hP hD hS hl
theorem vv_ldcS0 {p : Program} {l : Launch} {e : Env} {R : Room} {s : State} {m : MethodId} {args : Array Value} {below : List Frame} {meth : Method} {c : Code} {cc : ByteArray} {nL : Nat} {own : String} {rk : Nat} {D : va_G} {tys : List (ClassId × FieldType)} {A : Nat → Prop} {sa : SA} {Q : State → Prop} {cells slots pc : Nat} {ws : va_W} {lv : List (Nat × Value)} {st : List Value} (C : CY p R s m args meth c cc nL own rk D tys A sa) (ho : own = "SalvageOfDays") (d : decode cc pc = .ok (.ldc 32, 2)) (pc2 : Nat) (e2 : pc + 2 = pc2) (k : VV p l e R s m args below meth c nL D A (cells) (slots) Q (ws) pc2 lv (.ref (sa.1 10) :: st)) : VV p l e R s m args below meth c nL D A (cells) (slots) Q (ws) pc lv (st) := by
  subst e2
  subst ho
  exact fun H locs ls hP hD hS hl => va_ldcS C.1 C.2.1 C.2.2.2.1 C.2.2.2.2.2.2.2.1.2.2.2.2.2.2.2.1 d (k H locs ls hP hD hS hl)
