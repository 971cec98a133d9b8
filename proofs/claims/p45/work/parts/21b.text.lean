theorem zl_7 : Cond.methodLink RL 7 yJ0_length_8abf5 ∈ TT := TT_of (i := 803) (by decide +kernel) rfl
theorem zl_13 : Cond.methodLink RL 13 yJ0_charAt_5068e ∈ TT := TT_of (i := 804) (by decide +kernel) rfl
theorem zl_17 : Cond.methodLink RL 17 yX5_feed ∈ TT := TT_of (i := 805) (by decide +kernel) rfl
theorem zl_68 : Cond.methodLink RL 68 yJ4_append_15ec4 ∈ TT := TT_of (i := 616) (by decide +kernel) rfl
theorem zl_75 : Cond.methodLink RL 75 yJ4_append_bf812 ∈ TT := TT_of (i := 711) (by decide +kernel) rfl
theorem zl_92 : Cond.methodLink RL 92 yJ4_toString_0e30d ∈ TT := TT_of (i := 743) (by decide +kernel) rfl
theorem zl_96 : Cond.methodLink RL 96 yL_text ∈ TT := TT_of (i := 800) (by decide +kernel) rfl
theorem zl_72 : Cond.methodLink RL 72 yL_at ∈ TT := TT_of (i := 242) (by decide +kernel) rfl
theorem zl_65 : Cond.methodLink RL 65 yJ4_init_da8c8 ∈ TT := TT_of (i := 587) (by decide +kernel) rfl
theorem zl_c63 : Cond.classLink RL 63 RJ4 ∈ TT := TT_of (i := 585) (by decide +kernel) rfl
theorem zl_i4 : Cond.instantiable RJ4 4 ∈ TT := TT_of (i := 586) (by decide +kernel) rfl
theorem zl_n4 : Cond.initialized RJ4 ∈ TT := TT_of (i := 28) (by decide +kernel) rfl
theorem zl_c18 : Cond.classLink RL 18 RX5 ∈ TT := TT_of (i := 248) (by decide +kernel) rfl
theorem zl_i8 : Cond.instantiable RX5 8 ∈ TT := TT_of (i := 63) (by decide +kernel) rfl
theorem zl_n8 : Cond.initialized RX5 ∈ TT := TT_of (i := 18) (by decide +kernel) rfl
theorem zl_23 : Cond.methodLink RL 23 yX5_init ∈ TT := TT_of (i := 249) (by decide +kernel) rfl
theorem zb_V_J0_length_8abf5 : CV "java/lang/String" yJ0_length_8abf5 cJ0_length_8abf5 1 (some .int) 0 := ⟨TT_of (i := 330) (by decide +kernel) rfl, TT_of (i := 331) (by decide +kernel) rfl, TT_of (i := 22) (by decide +kernel) rfl, TT_of (i := 332) (by decide +kernel) rfl, by decide +kernel⟩
theorem zb_V_J0_charAt_5068e : CV "java/lang/String" yJ0_charAt_5068e cJ0_charAt_5068e 2 (some .char) 1 := ⟨TT_of (i := 340) (by decide +kernel) rfl, TT_of (i := 341) (by decide +kernel) rfl, TT_of (i := 22) (by decide +kernel) rfl, TT_of (i := 342) (by decide +kernel) rfl, by decide +kernel⟩
theorem zb_V_J4_append_15ec4 : CV "java/lang/StringBuilder" yJ4_append_15ec4 cJ4_append_15ec4 2 (some (.object "java/lang/StringBuilder")) 1 := ⟨TT_of (i := 617) (by decide +kernel) rfl, TT_of (i := 618) (by decide +kernel) rfl, TT_of (i := 28) (by decide +kernel) rfl, TT_of (i := 619) (by decide +kernel) rfl, by decide +kernel⟩
theorem zb_V_J4_append_bf812 : CV "java/lang/StringBuilder" yJ4_append_bf812 cJ4_append_bf812 2 (some (.object "java/lang/StringBuilder")) 1 := ⟨TT_of (i := 712) (by decide +kernel) rfl, TT_of (i := 713) (by decide +kernel) rfl, TT_of (i := 28) (by decide +kernel) rfl, TT_of (i := 714) (by decide +kernel) rfl, by decide +kernel⟩
theorem zb_V_J4_toString_0e30d : CV "java/lang/StringBuilder" yJ4_toString_0e30d cJ4_toString_0e30d 1 (some (.object "java/lang/String")) 0 := ⟨TT_of (i := 744) (by decide +kernel) rfl, TT_of (i := 745) (by decide +kernel) rfl, TT_of (i := 28) (by decide +kernel) rfl, TT_of (i := 746) (by decide +kernel) rfl, by decide +kernel⟩
theorem zb_S_L_text : CS yL_text cL_text 3 none 2 := ⟨TT_of (i := 801) (by decide +kernel) rfl, TT_of (i := 17) (by decide +kernel) rfl, TT_of (i := 802) (by decide +kernel) rfl, by decide +kernel⟩
theorem zb_S_L_at : CS yL_at cL_at 2 (some .int) 2 := ⟨TT_of (i := 243) (by decide +kernel) rfl, TT_of (i := 17) (by decide +kernel) rfl, TT_of (i := 244) (by decide +kernel) rfl, by decide +kernel⟩
theorem zb_I_J4_init_da8c8 : Cond.instanceMethod yJ4_init_da8c8 ∈ TT ∧ Cond.initialized yJ4_init_da8c8.cls ∈ TT ∧ Cond.code yJ4_init_da8c8 cJ4_init_da8c8 1 none ∈ TT ∧ (yJ4_init_da8c8.cls ≠ "java/lang/invoke/MethodHandle" ∧ yJ4_init_da8c8.cls ≠ "java/lang/invoke/VarHandle" ∧ (parseMethodDescriptor yJ4_init_da8c8.desc).map (fun d => d.parameters.length) = some 0) := ⟨TT_of (i := 588) (by decide +kernel) rfl, TT_of (i := 28) (by decide +kernel) rfl, TT_of (i := 589) (by decide +kernel) rfl, by decide +kernel⟩
theorem zb_I_X5_init : Cond.instanceMethod yX5_init ∈ TT ∧ Cond.initialized yX5_init.cls ∈ TT ∧ Cond.code yX5_init cX5_init 2 none ∈ TT ∧ (yX5_init.cls ≠ "java/lang/invoke/MethodHandle" ∧ yX5_init.cls ≠ "java/lang/invoke/VarHandle" ∧ (parseMethodDescriptor yX5_init.desc).map (fun d => d.parameters.length) = some 0) := ⟨TT_of (i := 250) (by decide +kernel) rfl, TT_of (i := 18) (by decide +kernel) rfl, TT_of (i := 251) (by decide +kernel) rfl, by decide +kernel⟩
theorem zb_S_L_build : CS yL_build cL_build 4 (some (.object "SalvageOfDays")) 1 := ⟨TT_of (i := 246) (by decide +kernel) rfl, TT_of (i := 17) (by decide +kernel) rfl, TT_of (i := 247) (by decide +kernel) rfl, by decide +kernel⟩
theorem zl_179 : Cond.methodLink RL 179 yL_build ∈ TT := TT_of (i := 245) (by decide +kernel) rfl
/-! THE LAW'S build: an object made, its text fed -/
theorem nd_range' : ∀ (a n : Nat), va_nd (List.range' a n) = true := by
  intro a n
  induction n generalizing a with
  | zero => rfl
  | succ n ih =>
    rw [List.range'_succ]
    simp only [va_nd, Bool.and_eq_true, decide_eq_true_eq, ih, and_true]
    intro h
    have := List.mem_range'_1.mp h
    omega
theorem ix_all (w : va_W) : (List.range' 0 w.length).map (fun i => w[i]?) = w.map some := by
  apply List.ext_getElem?
  intro i
  rcases Nat.lt_or_ge i w.length with h | h
  · simp [h]
  · rw [List.getElem?_eq_none (by simpa using h), List.getElem?_eq_none (by simpa using h)]
theorem ix_two (a b : Nat × va_E) (w : va_W) : (List.range' 2 w.length).map (fun i => (a :: b :: w)[i]?) = w.map some := by
  apply List.ext_getElem?
  intro i
  rcases Nat.lt_or_ge i w.length with h | h
  · simp [h, show 2 + i = (i + 1) + 1 from by omega]
  · rw [List.getElem?_eq_none (by simpa using h), List.getElem?_eq_none (by simpa using h)]
theorem dis_two (n : Nat) : ∀ i ∈ List.range' 2 n, i ∉ ([0, 1] : List Nat) := by
  intro i hi h
  have := List.mem_range'_1.mp hi
  simp at h
  omega
section BLD
variable {p : Program} {l : Launch} {e : Env} {R : Room} {s : State} {m : MethodId} {args : Array Value} {below : List Frame} {meth : Method} {c : Code} {cc : ByteArray} {nL : Nat} {own : String} {rk : Nat} {D : va_G} {tys : List (ClassId × FieldType)} {A : Nat → Prop} {sa : SA} {Q : State → Prop} {cells slots pc : Nat} {lv : List (Nat × Value)} {st : List Value}
theorem vv_comm (a b : va_W) (k : VV p l e R s m args below meth c nL D A (cells) (slots) Q (b ++ a) pc lv (st)) : VV p l e R s m args below meth c nL D A (cells) (slots) Q (a ++ b) pc lv (st) := fun H locs ls hP hD hS hl => k H locs ls (P_mem.mpr (fun q hq => P_mem.mp hP q (by rcases List.mem_append.mp hq with h | h; exact List.mem_append_right _ h; exact List.mem_append_left _ h))) (by
  obtain ⟨h1, h2, h3⟩ := D_app hD
  exact D_mk h2 h1 (fun p hp q hq e => h3 q hq p hp e.symm)) hS hl
theorem vv_drop (a b : va_W) (k : VV p l e R s m args below meth c nL D A (cells) (slots) Q (b) pc lv (st)) : VV p l e R s m args below meth c nL D A (cells) (slots) Q (a ++ b) pc lv (st) := fun H locs ls hP hD hS hl => k H locs ls (P_mem.mpr (fun q hq => P_mem.mp hP q (List.mem_append_right _ hq))) (D_app hD).2.1 hS hl
end BLD
def feedX (N : Nat) : List Int32 → Mem → Option (Int32 × Mem)
  | [], g => some (0, g)
  | b :: r, g => ob (X5_feed N 1 b 0 0 0 0 g) (fun _ g1 => feedX N r g1)
abbrev okB (x : Int32) : Prop := x = i32 x.toNatClampNeg ∧ x.toNatClampNeg < 128
set_option maxRecDepth 100000 in
set_option maxHeartbeats 8000000 in
theorem c_text {l : Launch} {D : va_G} {tys : List (ClassId × FieldType)} {cB : ClassId} (ht4 : tys[4]? = some (cB, .byte)) {sa : SA} {ad : Nat → Nat} {cA : Nat → ClassId} (hG : GE YI ad cA tys 73) (t v n : Nat) (f : Nat → Int32) (bs : List Int32) (hn : bs.length = n) (hn2 : n ≤ 1000) (hf : ∀ j, j < n → f j = bs.getD j 0) (hb : ∀ j, j < n → okB (f j)) {N : Nat} {g : Mem} {r : Int32} {g1 : Mem} (h : feedX N bs g = some (r, g1)) :
    CI l yL_text (wsm yL_text cL_text 3 none) 5 0 0 D tys sa ([(t, .inr (0, [.ref v, .int 0, .int 0, .int 0])), (v, .inl (cB, n, .inl f))] ++ (wl YI ad cA 73 g ++ [])) [.ref (ad 72), .ref t] (fun _ : Unit => [(t, .inr (0, [.ref v, .int 0, .int 0, .int 0])), (v, .inl (cB, n, .inl f))] ++ (wl YI ad cA 73 g1 ++ [])) := by
  refine ce_of (y := yL_text) (cc := cL_text) (maxL := 3) (ret := none) (av := [.ref (ad 72), .ref t]) (fun A => QEv D (fun _ : Unit => [(t, .inr (0, [.ref v, .int 0, .int 0, .int 0])), (v, .inl (cB, n, .inl f))] ++ (wl YI ad cA 73 g1 ++ [])) A) RL rfl (by decide +kernel) (Nat.le_of_ble_eq_true rfl) rfl ?_
  intro p0 e0 R0 s0_ m0_ args0 below0 meth0 c0_ A0 C hRc hRs hin hr
  have hlen : ∀ g, (wl YI ad cA 73 g ++ []).length = 73 := fun g => by simp [wl]
  have loop : ∀ (rest : List Int32) (k : Nat) (g2 : Mem), k + rest.length = n → (∀ j, j < rest.length → f (k + j) = rest.getD j 0) → feedX N rest g2 = some (r, g1) →
      VV p0 l e0 R0 s0_ m0_ args0 below0 meth0 c0_ 3 D A0 0 0 (MQ below0 (QEv D (fun _ : Unit => [(t, .inr (0, [.ref v, .int 0, .int 0, .int 0])), (v, .inl (cB, n, .inl f))] ++ (wl YI ad cA 73 g1 ++ [])) A0) args0 s0_ 0 0 A0) ([(t, .inr (0, [.ref v, .int 0, .int 0, .int 0])), (v, .inl (cB, n, .inl f))] ++ (wl YI ad cA 73 g2 ++ [])) 2 [(2, .int (i32 k)), (0, .ref (ad 72)), (1, .ref t)] [] := by
    intro rest
    induction rest with
    | nil =>
      intro k g2 hk _ hh
      cases hh
      simp only [List.length_nil, Nat.add_zero] at hk
      subst hk
      refine vv_iload_n C 0 dL_text_2 rfl rfl 3 rfl ?_
      refine vv_aload_n C 2 dL_text_3 rfl rfl 4 rfl ?_
      refine vx_callVi C (As := []) (st := [.int (i32 k)]) [0, 1] (List.range' 2 73) [(t, .inr (0, [.ref v, .int 0, .int 0, .int 0])), (v, .inl (cB, k, .inl f))] (wl YI ad cA 73 g1 ++ []) rfl (by have := ix_two (t, .inr (0, [.ref v, .int 0, .int 0, .int 0])) (v, .inl (cB, k, .inl f)) (wl YI ad cA 73 g1 ++ []); rw [hlen] at this; exact this) (by decide) (nd_range' 2 73) (dis_two 73) 0 clw_J0.1 0 rfl (c_lenW ht4 t v k f) zl_7 zb_V_J0_length_8abf5 (by decide) (by decide) rfl rfl (Nat.le_of_ble_eq_true rfl) (by rw [hRc]; omega) (by rw [hRs]; omega) dL_text_4 (0 + 0) (0 + 0) rfl rfl 7 rfl (fun _ => ?_)
      refine vv_comm _ _ ?_
      refine vx_icmp_geT C 31 dL_text_7 (by decide) (i32_lep (Nat.le_refl _) (by omega)) ?_
      exact vx_vret C () rfl (by omega) (by omega) dL_text_31 hr
    | cons b rest ih =>
      intro k g2 hk hr2 hh
      have hk2 : k < n := by simp at hk; omega
      have hfk : f k = b := by have := hr2 0 (by simp); simpa using this
      obtain ⟨r3, g3, h3, h4⟩ := ob_some (show ob (X5_feed N 1 b 0 0 0 0 g2) (fun _ g1 => feedX N rest g1) = some (r, g1) from hh)
      refine vv_iload_n C 0 dL_text_2 rfl rfl 3 rfl ?_
      refine vv_aload_n C 2 dL_text_3 rfl rfl 4 rfl ?_
      refine vx_callVi C (As := []) (st := [.int (i32 k)]) [0, 1] (List.range' 2 73) [(t, .inr (0, [.ref v, .int 0, .int 0, .int 0])), (v, .inl (cB, n, .inl f))] (wl YI ad cA 73 g2 ++ []) rfl (by have := ix_two (t, .inr (0, [.ref v, .int 0, .int 0, .int 0])) (v, .inl (cB, n, .inl f)) (wl YI ad cA 73 g2 ++ []); rw [hlen] at this; exact this) (by decide) (nd_range' 2 73) (dis_two 73) 0 clw_J0.1 0 rfl (c_lenW ht4 t v n f) zl_7 zb_V_J0_length_8abf5 (by decide) (by decide) rfl rfl (Nat.le_of_ble_eq_true rfl) (by rw [hRc]; omega) (by rw [hRs]; omega) dL_text_4 (0 + 0) (0 + 0) rfl rfl 7 rfl (fun _ => ?_)
      refine vv_comm _ _ ?_
      refine vx_icmp_geF C 31 dL_text_7 (by decide) (i32_nlep hk2 (by omega)) 10 rfl ?_
      refine vv_aload_n C 1 dL_text_10 rfl rfl 11 rfl ?_
      refine vv_iconst C (1 : Int32) dL_text_11 (by decide) 12 rfl ?_
      refine vv_aload_n C 2 dL_text_12 rfl rfl 13 rfl ?_
      refine vv_iload_n C 0 dL_text_13 rfl rfl 14 rfl ?_
      refine vx_callVi C (As := [.int (i32 k)]) (st := [.int 1, .ref (ad 72)]) [0, 1] (List.range' 2 73) [(t, .inr (0, [.ref v, .int 0, .int 0, .int 0])), (v, .inl (cB, n, .inl f))] (wl YI ad cA 73 g2 ++ []) rfl (by have := ix_two (t, .inr (0, [.ref v, .int 0, .int 0, .int 0])) (v, .inl (cB, n, .inl f)) (wl YI ad cA 73 g2 ++ []); rw [hlen] at this; exact this) (by decide) (nd_range' 2 73) (dis_two 73) 0 clw_J0.1 0 rfl (c_chrW ht4 t v n k f hk2 hn2 (hb k hk2)) zl_13 zb_V_J0_charAt_5068e (by decide) (by decide) rfl rfl (Nat.le_of_ble_eq_true rfl) (by rw [hRc]; omega) (by rw [hRs]; omega) dL_text_14 (0 + 0 + 0) (0 + 0 + 0) rfl rfl 17 rfl (fun _ => ?_)
      refine vv_comm _ _ ?_
      refine vv_iconst C (0 : Int32) dL_text_17 (by decide) 18 rfl ?_
      refine vv_iconst C (0 : Int32) dL_text_18 (by decide) 19 rfl ?_
      refine vv_iconst C (0 : Int32) dL_text_19 (by decide) 20 rfl ?_
      refine vv_iconst C (0 : Int32) dL_text_20 (by decide) 21 rfl ?_
      rw [hfk]
      refine vv_callWi C (As := [.int 1, .int b, .int 0, .int 0, .int 0, .int 0]) (st := []) (pre := [(t, .inr (0, [.ref v, .int 0, .int 0, .int 0])), (v, .inl (cB, n, .inl f))]) (post := []) r3 cl_X5.1 (obX (by decide)) hG (k_X5_feed (by decide) h3) zl_17 cm_X5_feed (by decide) (by decide) rfl rfl (Nat.le_of_ble_eq_true rfl) ⟨by rw [hRc]; omega, by rw [hRs]; omega⟩ dL_text_21 24 rfl ?_
      refine vv_pop C dL_text_24 rfl 25 rfl ?_
      refine vv_iinc C 0 (i32 (k + 1)) [(2, .int (i32 (k + 1))), (0, .ref (ad 72)), (1, .ref t)] dL_text_25 rfl (by rw [show Int32.ofInt 1 = i32 1 from by decide, i32_add]) (by decide) rfl 28 rfl ?_
      refine vv_goto C 2 dL_text_28 (by decide) ?_
      have e1 := ih (k + 1) g3 (by simp at hk; omega) (fun j hj => by have := hr2 (j + 1) (by simp; omega); rw [show k + 1 + j = k + (j + 1) from by omega, this]; simp) h4
      exact e1
  refine vv_iconst C (0 : Int32) dL_text_0 (by decide) 1 rfl ?_
  refine vv_istore_n C [(2, .int 0), (0, .ref (ad 72)), (1, .ref t)] dL_text_1 rfl (by decide) rfl 2 rfl ?_
  exact loop bs 0 g (by omega) (fun j hj => by rw [Nat.zero_add]; exact hf j (by omega)) h
