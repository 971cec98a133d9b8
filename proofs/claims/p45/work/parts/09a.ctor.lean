theorem wc_ac : Cond.arrayClass .int ∈ TT := TT_of (i := 284) (by decide +kernel) rfl
theorem wc_oi : Cond.instanceMethod objectInit ∈ TT ∧ Cond.code objectInit ⟨#[0xb1]⟩ 1 none ∈ TT := ⟨TT_of (i := 253) (by decide +kernel) rfl, TT_of (i := 254) (by decide +kernel) rfl⟩
theorem wc_88 : Cond.methodLink RX3 3 objectInit ∈ TT := TT_of (i := 260) (by decide +kernel) rfl
theorem wc_89 : Cond.fieldLink RX3 11 (TX3 0).1 (TX3 0).2.1 (TX3 0).2.2.1 ∈ TT := TT_of (i := 261) (by decide +kernel) rfl
theorem wc_146 : Cond.methodLink RX2 1 objectInit ∈ TT := TT_of (i := 318) (by decide +kernel) rfl
theorem wc_147 : Cond.fieldLink RX2 9 (TX2 0).1 (TX2 0).2.1 (TX2 0).2.2.1 ∈ TT := TT_of (i := 319) (by decide +kernel) rfl
theorem wc_150 : Cond.fieldLink RX2 13 (TX2 1).1 (TX2 1).2.1 (TX2 1).2.2.1 ∈ TT := TT_of (i := 320) (by decide +kernel) rfl
theorem wc_121 : Cond.methodLink RX4 3 objectInit ∈ TT := TT_of (i := 293) (by decide +kernel) rfl
theorem wc_124 : Cond.fieldLink RX4 11 (TX4 1).1 (TX4 1).2.1 (TX4 1).2.2.1 ∈ TT := TT_of (i := 296) (by decide +kernel) rfl
theorem wc_126 : Cond.fieldLink RX4 17 (TX4 3).1 (TX4 3).2.1 (TX4 3).2.2.1 ∈ TT := TT_of (i := 298) (by decide +kernel) rfl
theorem wc_127 : Cond.fieldLink RX4 20 (TX4 4).1 (TX4 4).2.1 (TX4 4).2.2.1 ∈ TT := TT_of (i := 299) (by decide +kernel) rfl
theorem wc_128 : Cond.fieldLink RX4 23 (TX4 5).1 (TX4 5).2.1 (TX4 5).2.2.1 ∈ TT := TT_of (i := 300) (by decide +kernel) rfl
theorem wc_122 : Cond.fieldLink RX4 26 (TX4 0).1 (TX4 0).2.1 (TX4 0).2.2.1 ∈ TT := TT_of (i := 294) (by decide +kernel) rfl
theorem wc_314 : Cond.methodLink RX1 3 objectInit ∈ TT := TT_of (i := 478) (by decide +kernel) rfl
theorem wc_315 : Cond.fieldLink RX1 9 (TX1 0).1 (TX1 0).2.1 (TX1 0).2.2.1 ∈ TT := TT_of (i := 479) (by decide +kernel) rfl
theorem wc_317 : Cond.fieldLink RX1 15 (TX1 1).1 (TX1 1).2.1 (TX1 1).2.2.1 ∈ TT := TT_of (i := 481) (by decide +kernel) rfl
theorem wc_319 : Cond.fieldLink RX1 18 (TX1 2).1 (TX1 2).2.1 (TX1 2).2.2.1 ∈ TT := TT_of (i := 483) (by decide +kernel) rfl
theorem wc_321 : Cond.fieldLink RX1 21 (TX1 3).1 (TX1 3).2.1 (TX1 3).2.2.1 ∈ TT := TT_of (i := 485) (by decide +kernel) rfl
theorem wc_323 : Cond.fieldLink RX1 24 (TX1 4).1 (TX1 4).2.1 (TX1 4).2.2.1 ∈ TT := TT_of (i := 487) (by decide +kernel) rfl
theorem wc_325 : Cond.fieldLink RX1 27 (TX1 5).1 (TX1 5).2.1 (TX1 5).2.2.1 ∈ TT := TT_of (i := 489) (by decide +kernel) rfl
theorem wc_327 : Cond.fieldLink RX1 30 (TX1 6).1 (TX1 6).2.1 (TX1 6).2.2.1 ∈ TT := TT_of (i := 491) (by decide +kernel) rfl
theorem wc_329 : Cond.fieldLink RX1 33 (TX1 7).1 (TX1 7).2.1 (TX1 7).2.2.1 ∈ TT := TT_of (i := 493) (by decide +kernel) rfl
theorem wc_331 : Cond.fieldLink RX1 36 (TX1 8).1 (TX1 8).2.1 (TX1 8).2.2.1 ∈ TT := TT_of (i := 495) (by decide +kernel) rfl
theorem wc_337 : Cond.fieldLink RX1 39 (TX1 11).1 (TX1 11).2.1 (TX1 11).2.2.1 ∈ TT := TT_of (i := 501) (by decide +kernel) rfl
set_option maxRecDepth 100000 in
set_option maxHeartbeats 4000000 in
theorem c_X3_init {l : Launch} {D : va_G} {sa : SA} {tys : List (ClassId × FieldType)} {cI : ClassId} (ht0 : tys[0]? = some (cI, .int)) (h0 : Nat) : CI l yX3_init (wsm yX3_init cX3_init 1 none) 2 1 160 D tys sa [(h0, .inr (4, [.null, .int 0, .int 0, .int 0, .int 0, .int 0, .null]))] [.ref h0] (fun u : Nat => [(h0, .inr (4, [.ref u, .int 0, .int 0, .int 0, .int 0, .int 0, .null])), (u, .inl (cI, 160, .inl (pl [])))]) := by
  refine ci_of RX3 rfl (by decide +kernel) (Nat.le_of_ble_eq_true rfl) rfl ?_
  intro p e R s m args below meth c A hA C hRc hRs hin hr
  refine vv_aload_n C 0 dX3_init_0 rfl rfl 1 rfl ?_
  refine vv_objInit C wc_88 wc_oi (by decide) (Nat.le_of_ble_eq_true rfl) dX3_init_1 4 rfl ?_
  refine vv_aload_n C 0 dX3_init_4 rfl rfl 5 rfl ?_
  refine vv_sipush C (160 : Int32) dX3_init_5 (by decide) 8 rfl ?_
  refine vv_newa C ht0 wc_ac 160 (by decide) (by decide) (by decide) (by rw [hRc]; exact Nat.le_of_ble_eq_true rfl) (by rw [hRs]; exact Nat.le_of_ble_eq_true rfl) dX3_init_8 1 160 rfl rfl 10 rfl (fun q0 => ?_)
  refine vv_ws (ws2 := [(h0, .inr (4, [.null, .int 0, .int 0, .int 0, .int 0, .int 0, .null])), (q0, .inl (cI, 160, .inl (pl [])))]) rfl ?_
  refine vv_putF C hin clw_X3 0 rfl 0 (by decide) tyX3 tyX3_ok nmX3 rfl rfl wc_89 rfl rfl (Nat.le_of_ble_eq_true rfl) [(h0, .inr (4, [.ref q0, .int 0, .int 0, .int 0, .int 0, .int 0, .null])), (q0, .inl (cI, 160, .inl (pl [])))] rfl dX3_init_10 13 rfl ?_
  exact vv_vret C q0 rfl (Nat.le_of_ble_eq_true rfl) (Nat.le_of_ble_eq_true rfl) dX3_init_13 hr
theorem cmc_X3_init : Cond.instanceMethod yX3_init ∈ TT ∧ Cond.initialized yX3_init.cls ∈ TT ∧ Cond.code yX3_init cX3_init 1 none ∈ TT ∧ (yX3_init.cls ≠ "java/lang/invoke/MethodHandle" ∧ yX3_init.cls ≠ "java/lang/invoke/VarHandle" ∧ (parseMethodDescriptor yX3_init.desc).map (fun d => d.parameters.length) = some 0) := ⟨TT_of (i := 258) (by decide +kernel) rfl, TT_of (i := 19) (by decide +kernel) rfl, TT_of (i := 259) (by decide +kernel) rfl, by decide +kernel⟩

set_option maxRecDepth 100000 in
set_option maxHeartbeats 4000000 in
theorem c_X2_init {l : Launch} {D : va_G} {sa : SA} {tys : List (ClassId × FieldType)} {cI : ClassId} (ht0 : tys[0]? = some (cI, .int)) (h0 : Nat) : CI l yX2_init (wsm yX2_init cX2_init 1 none) 2 1 40 D tys sa [(h0, .inr (3, [.null, .int 0, .int 0]))] [.ref h0] (fun u : Nat => [(h0, .inr (3, [.ref u, .int (-1), .int 0])), (u, .inl (cI, 40, .inl (pl [])))]) := by
  refine ci_of RX2 rfl (by decide +kernel) (Nat.le_of_ble_eq_true rfl) rfl ?_
  intro p e R s m args below meth c A hA C hRc hRs hin hr
  refine vv_aload_n C 0 dX2_init_0 rfl rfl 1 rfl ?_
  refine vv_objInit C wc_146 wc_oi (by decide) (Nat.le_of_ble_eq_true rfl) dX2_init_1 4 rfl ?_
  refine vv_aload_n C 0 dX2_init_4 rfl rfl 5 rfl ?_
  refine vv_bipush C (40 : Int32) dX2_init_5 (by decide) 7 rfl ?_
  refine vv_newa C ht0 wc_ac 40 (by decide) (by decide) (by decide) (by rw [hRc]; exact Nat.le_of_ble_eq_true rfl) (by rw [hRs]; exact Nat.le_of_ble_eq_true rfl) dX2_init_7 1 40 rfl rfl 9 rfl (fun q0 => ?_)
  refine vv_ws (ws2 := [(h0, .inr (3, [.null, .int 0, .int 0])), (q0, .inl (cI, 40, .inl (pl [])))]) rfl ?_
  refine vv_putF C hin clw_X2 0 rfl 0 (by decide) tyX2 tyX2_ok nmX2 rfl rfl wc_147 rfl rfl (Nat.le_of_ble_eq_true rfl) [(h0, .inr (3, [.ref q0, .int 0, .int 0])), (q0, .inl (cI, 40, .inl (pl [])))] rfl dX2_init_9 12 rfl ?_
  refine vv_aload_n C 0 dX2_init_12 rfl rfl 13 rfl ?_
  refine vv_iconst C (-1 : Int32) dX2_init_13 (by decide) 14 rfl ?_
  refine vv_put C clw_X2 0 rfl 1 (by decide) tyX2 tyX2_ok nmX2 rfl wc_150 rfl rfl (Nat.le_of_ble_eq_true rfl) [(h0, .inr (3, [.ref q0, .int (-1), .int 0])), (q0, .inl (cI, 40, .inl (pl [])))] rfl dX2_init_14 17 rfl ?_
  exact vv_vret C q0 rfl (Nat.le_of_ble_eq_true rfl) (Nat.le_of_ble_eq_true rfl) dX2_init_17 hr
theorem cmc_X2_init : Cond.instanceMethod yX2_init ∈ TT ∧ Cond.initialized yX2_init.cls ∈ TT ∧ Cond.code yX2_init cX2_init 1 none ∈ TT ∧ (yX2_init.cls ≠ "java/lang/invoke/MethodHandle" ∧ yX2_init.cls ≠ "java/lang/invoke/VarHandle" ∧ (parseMethodDescriptor yX2_init.desc).map (fun d => d.parameters.length) = some 0) := ⟨TT_of (i := 316) (by decide +kernel) rfl, TT_of (i := 21) (by decide +kernel) rfl, TT_of (i := 317) (by decide +kernel) rfl, by decide +kernel⟩

set_option maxRecDepth 100000 in
set_option maxHeartbeats 4000000 in
theorem c_X4_init {l : Launch} {D : va_G} {sa : SA} {tys : List (ClassId × FieldType)} {cI : ClassId} (ht0 : tys[0]? = some (cI, .int)) (h0 : Nat) (a1 : Int32) : CI l yX4_init (wsm yX4_init cX4_init 2 none) 2 4 209 D tys sa [(h0, .inr (5, [.int 0, .null, .int 0, .null, .null, .null]))] [.ref h0, .int a1] (fun u : Nat × Nat × Nat × Nat => [(h0, .inr (5, [.int a1, .ref u.1, .int 0, .ref u.2.1, .ref u.2.2.1, .ref u.2.2.2])), (u.1, .inl (cI, 160, .inl (pl []))), (u.2.1, .inl (cI, 3, .inl (pl []))), (u.2.2.1, .inl (cI, 6, .inl (pl []))), (u.2.2.2, .inl (cI, 40, .inl (pl [])))]) := by
  refine ci_of RX4 rfl (by decide +kernel) (Nat.le_of_ble_eq_true rfl) rfl ?_
  intro p e R s m args below meth c A hA C hRc hRs hin hr
  refine vv_aload_n C 0 dX4_init_0 rfl rfl 1 rfl ?_
  refine vv_objInit C wc_121 wc_oi (by decide) (Nat.le_of_ble_eq_true rfl) dX4_init_1 4 rfl ?_
  refine vv_aload_n C 0 dX4_init_4 rfl rfl 5 rfl ?_
  refine vv_sipush C (160 : Int32) dX4_init_5 (by decide) 8 rfl ?_
  refine vv_newa C ht0 wc_ac 160 (by decide) (by decide) (by decide) (by rw [hRc]; exact Nat.le_of_ble_eq_true rfl) (by rw [hRs]; exact Nat.le_of_ble_eq_true rfl) dX4_init_8 1 160 rfl rfl 10 rfl (fun q0 => ?_)
  refine vv_ws (ws2 := [(h0, .inr (5, [.int 0, .null, .int 0, .null, .null, .null])), (q0, .inl (cI, 160, .inl (pl [])))]) rfl ?_
  refine vv_putF C hin clw_X4 0 rfl 1 (by decide) tyX4 tyX4_ok nmX4 rfl rfl wc_124 rfl rfl (Nat.le_of_ble_eq_true rfl) [(h0, .inr (5, [.int 0, .ref q0, .int 0, .null, .null, .null])), (q0, .inl (cI, 160, .inl (pl [])))] rfl dX4_init_10 13 rfl ?_
  refine vv_aload_n C 0 dX4_init_13 rfl rfl 14 rfl ?_
  refine vv_iconst C (3 : Int32) dX4_init_14 (by decide) 15 rfl ?_
  refine vv_newa C ht0 wc_ac 3 (by decide) (by decide) (by decide) (by rw [hRc]; exact Nat.le_of_ble_eq_true rfl) (by rw [hRs]; exact Nat.le_of_ble_eq_true rfl) dX4_init_15 2 163 rfl rfl 17 rfl (fun q1 => ?_)
  refine vv_ws (ws2 := [(h0, .inr (5, [.int 0, .ref q0, .int 0, .null, .null, .null])), (q0, .inl (cI, 160, .inl (pl []))), (q1, .inl (cI, 3, .inl (pl [])))]) rfl ?_
  refine vv_putF C hin clw_X4 0 rfl 3 (by decide) tyX4 tyX4_ok nmX4 rfl rfl wc_126 rfl rfl (Nat.le_of_ble_eq_true rfl) [(h0, .inr (5, [.int 0, .ref q0, .int 0, .ref q1, .null, .null])), (q0, .inl (cI, 160, .inl (pl []))), (q1, .inl (cI, 3, .inl (pl [])))] rfl dX4_init_17 20 rfl ?_
  refine vv_aload_n C 0 dX4_init_20 rfl rfl 21 rfl ?_
  refine vv_bipush C (6 : Int32) dX4_init_21 (by decide) 23 rfl ?_
  refine vv_newa C ht0 wc_ac 6 (by decide) (by decide) (by decide) (by rw [hRc]; exact Nat.le_of_ble_eq_true rfl) (by rw [hRs]; exact Nat.le_of_ble_eq_true rfl) dX4_init_23 3 169 rfl rfl 25 rfl (fun q2 => ?_)
  refine vv_ws (ws2 := [(h0, .inr (5, [.int 0, .ref q0, .int 0, .ref q1, .null, .null])), (q0, .inl (cI, 160, .inl (pl []))), (q1, .inl (cI, 3, .inl (pl []))), (q2, .inl (cI, 6, .inl (pl [])))]) rfl ?_
  refine vv_putF C hin clw_X4 0 rfl 4 (by decide) tyX4 tyX4_ok nmX4 rfl rfl wc_127 rfl rfl (Nat.le_of_ble_eq_true rfl) [(h0, .inr (5, [.int 0, .ref q0, .int 0, .ref q1, .ref q2, .null])), (q0, .inl (cI, 160, .inl (pl []))), (q1, .inl (cI, 3, .inl (pl []))), (q2, .inl (cI, 6, .inl (pl [])))] rfl dX4_init_25 28 rfl ?_
  refine vv_aload_n C 0 dX4_init_28 rfl rfl 29 rfl ?_
  refine vv_bipush C (40 : Int32) dX4_init_29 (by decide) 31 rfl ?_
  refine vv_newa C ht0 wc_ac 40 (by decide) (by decide) (by decide) (by rw [hRc]; exact Nat.le_of_ble_eq_true rfl) (by rw [hRs]; exact Nat.le_of_ble_eq_true rfl) dX4_init_31 4 209 rfl rfl 33 rfl (fun q3 => ?_)
  refine vv_ws (ws2 := [(h0, .inr (5, [.int 0, .ref q0, .int 0, .ref q1, .ref q2, .null])), (q0, .inl (cI, 160, .inl (pl []))), (q1, .inl (cI, 3, .inl (pl []))), (q2, .inl (cI, 6, .inl (pl []))), (q3, .inl (cI, 40, .inl (pl [])))]) rfl ?_
  refine vv_putF C hin clw_X4 0 rfl 5 (by decide) tyX4 tyX4_ok nmX4 rfl rfl wc_128 rfl rfl (Nat.le_of_ble_eq_true rfl) [(h0, .inr (5, [.int 0, .ref q0, .int 0, .ref q1, .ref q2, .ref q3])), (q0, .inl (cI, 160, .inl (pl []))), (q1, .inl (cI, 3, .inl (pl []))), (q2, .inl (cI, 6, .inl (pl []))), (q3, .inl (cI, 40, .inl (pl [])))] rfl dX4_init_33 36 rfl ?_
  refine vv_aload_n C 0 dX4_init_36 rfl rfl 37 rfl ?_
  refine vv_iload_n C 1 dX4_init_37 rfl rfl 38 rfl ?_
  refine vv_putF C hin clw_X4 0 rfl 0 (by decide) tyX4 tyX4_ok nmX4 rfl rfl wc_122 rfl rfl (Nat.le_of_ble_eq_true rfl) [(h0, .inr (5, [.int a1, .ref q0, .int 0, .ref q1, .ref q2, .ref q3])), (q0, .inl (cI, 160, .inl (pl []))), (q1, .inl (cI, 3, .inl (pl []))), (q2, .inl (cI, 6, .inl (pl []))), (q3, .inl (cI, 40, .inl (pl [])))] rfl dX4_init_38 41 rfl ?_
  exact vv_vret C (q0, q1, q2, q3) rfl (Nat.le_of_ble_eq_true rfl) (Nat.le_of_ble_eq_true rfl) dX4_init_41 hr
theorem cmc_X4_init : Cond.instanceMethod yX4_init ∈ TT ∧ Cond.initialized yX4_init.cls ∈ TT ∧ Cond.code yX4_init cX4_init 2 none ∈ TT ∧ (yX4_init.cls ≠ "java/lang/invoke/MethodHandle" ∧ yX4_init.cls ≠ "java/lang/invoke/VarHandle" ∧ (parseMethodDescriptor yX4_init.desc).map (fun d => d.parameters.length) = some 1) := ⟨TT_of (i := 291) (by decide +kernel) rfl, TT_of (i := 20) (by decide +kernel) rfl, TT_of (i := 292) (by decide +kernel) rfl, by decide +kernel⟩

set_option maxRecDepth 100000 in
set_option maxHeartbeats 4000000 in
theorem c_X1_init {l : Launch} {D : va_G} {sa : SA} {tys : List (ClassId × FieldType)} {cI : ClassId} (ht0 : tys[0]? = some (cI, .int)) (h0 : Nat) (tq : Nat) : CI l yX1_init (wsm yX1_init cX1_init 3 none) 2 9 78 D tys sa [(h0, .inr (2, [.null, .null, .null, .null, .null, .null, .null, .null, .null, .int 0, .int 0, .null]))] [.ref h0, .ref tq] (fun u : Nat × Nat × Nat × Nat × Nat × Nat × Nat × Nat × Nat => [(h0, .inr (2, [.ref u.1, .ref u.2.1, .ref u.2.2.1, .ref u.2.2.2.1, .ref u.2.2.2.2.1, .ref u.2.2.2.2.2.1, .ref u.2.2.2.2.2.2.1, .ref u.2.2.2.2.2.2.2.1, .ref u.2.2.2.2.2.2.2.2, .int 0, .int 0, .ref tq])), (u.1, .inl (cI, 6, .inl (pl []))), (u.2.1, .inl (cI, 12, .inl (pl [0, 1, 2, 3, 4, 5, 0, 1, 2, 3, 4, 5]))), (u.2.2.1, .inl (cI, 12, .inl (pl [20, 20, 20, 20, 20, 20, 20, 20, 20, 20, 20, 20]))), (u.2.2.2.1, .inl (cI, 12, .inl (pl [0, 3, 6, 9, 12, 15, 18, 21, 24, 27, 30, 33]))), (u.2.2.2.2.1, .inl (cI, 12, .inl (pl []))), (u.2.2.2.2.2.1, .inl (cI, 6, .inl (pl []))), (u.2.2.2.2.2.2.1, .inl (cI, 6, .inl (pl []))), (u.2.2.2.2.2.2.2.1, .inl (cI, 6, .inl (pl []))), (u.2.2.2.2.2.2.2.2, .inl (cI, 6, .inl (pl [])))]) := by
  refine ci_of RX1 rfl (by decide +kernel) (Nat.le_of_ble_eq_true rfl) rfl ?_
  intro p e R s m args below meth c A hA C hRc hRs hin hr
  refine vv_aload_n C 0 dX1_init_0 rfl rfl 1 rfl ?_
  refine vv_objInit C wc_314 wc_oi (by decide) (Nat.le_of_ble_eq_true rfl) dX1_init_1 4 rfl ?_
  refine vv_aload_n C 0 dX1_init_4 rfl rfl 5 rfl ?_
  refine vv_bipush C (6 : Int32) dX1_init_5 (by decide) 7 rfl ?_
  refine vv_newa C ht0 wc_ac 6 (by decide) (by decide) (by decide) (by rw [hRc]; exact Nat.le_of_ble_eq_true rfl) (by rw [hRs]; exact Nat.le_of_ble_eq_true rfl) dX1_init_7 1 6 rfl rfl 9 rfl (fun q0 => ?_)
  refine vv_ws (ws2 := [(h0, .inr (2, [.null, .null, .null, .null, .null, .null, .null, .null, .null, .int 0, .int 0, .null])), (q0, .inl (cI, 6, .inl (pl [])))]) rfl ?_
  refine vv_putF C hin clw_X1 0 rfl 0 (by decide) tyX1 tyX1_ok nmX1 rfl rfl wc_315 rfl rfl (Nat.le_of_ble_eq_true rfl) [(h0, .inr (2, [.ref q0, .null, .null, .null, .null, .null, .null, .null, .null, .int 0, .int 0, .null])), (q0, .inl (cI, 6, .inl (pl [])))] rfl dX1_init_9 12 rfl ?_
  refine vv_aload_n C 0 dX1_init_12 rfl rfl 13 rfl ?_
  refine vv_bipush C (12 : Int32) dX1_init_13 (by decide) 15 rfl ?_
  refine vv_newa C ht0 wc_ac 12 (by decide) (by decide) (by decide) (by rw [hRc]; exact Nat.le_of_ble_eq_true rfl) (by rw [hRs]; exact Nat.le_of_ble_eq_true rfl) dX1_init_15 2 18 rfl rfl 17 rfl (fun q1 => ?_)
  refine vv_ws (ws2 := [(h0, .inr (2, [.ref q0, .null, .null, .null, .null, .null, .null, .null, .null, .int 0, .int 0, .null])), (q0, .inl (cI, 6, .inl (pl []))), (q1, .inl (cI, 12, .inl (pl [])))]) rfl ?_
  refine vv_putF C hin clw_X1 0 rfl 1 (by decide) tyX1 tyX1_ok nmX1 rfl rfl wc_317 rfl rfl (Nat.le_of_ble_eq_true rfl) [(h0, .inr (2, [.ref q0, .ref q1, .null, .null, .null, .null, .null, .null, .null, .int 0, .int 0, .null])), (q0, .inl (cI, 6, .inl (pl []))), (q1, .inl (cI, 12, .inl (pl [])))] rfl dX1_init_17 20 rfl ?_
  refine vv_aload_n C 0 dX1_init_20 rfl rfl 21 rfl ?_
  refine vv_bipush C (12 : Int32) dX1_init_21 (by decide) 23 rfl ?_
  refine vv_newa C ht0 wc_ac 12 (by decide) (by decide) (by decide) (by rw [hRc]; exact Nat.le_of_ble_eq_true rfl) (by rw [hRs]; exact Nat.le_of_ble_eq_true rfl) dX1_init_23 3 30 rfl rfl 25 rfl (fun q2 => ?_)
  refine vv_ws (ws2 := [(h0, .inr (2, [.ref q0, .ref q1, .null, .null, .null, .null, .null, .null, .null, .int 0, .int 0, .null])), (q0, .inl (cI, 6, .inl (pl []))), (q1, .inl (cI, 12, .inl (pl []))), (q2, .inl (cI, 12, .inl (pl [])))]) rfl ?_
  refine vv_putF C hin clw_X1 0 rfl 2 (by decide) tyX1 tyX1_ok nmX1 rfl rfl wc_319 rfl rfl (Nat.le_of_ble_eq_true rfl) [(h0, .inr (2, [.ref q0, .ref q1, .ref q2, .null, .null, .null, .null, .null, .null, .int 0, .int 0, .null])), (q0, .inl (cI, 6, .inl (pl []))), (q1, .inl (cI, 12, .inl (pl []))), (q2, .inl (cI, 12, .inl (pl [])))] rfl dX1_init_25 28 rfl ?_
  refine vv_aload_n C 0 dX1_init_28 rfl rfl 29 rfl ?_
  refine vv_bipush C (12 : Int32) dX1_init_29 (by decide) 31 rfl ?_
  refine vv_newa C ht0 wc_ac 12 (by decide) (by decide) (by decide) (by rw [hRc]; exact Nat.le_of_ble_eq_true rfl) (by rw [hRs]; exact Nat.le_of_ble_eq_true rfl) dX1_init_31 4 42 rfl rfl 33 rfl (fun q3 => ?_)
  refine vv_ws (ws2 := [(h0, .inr (2, [.ref q0, .ref q1, .ref q2, .null, .null, .null, .null, .null, .null, .int 0, .int 0, .null])), (q0, .inl (cI, 6, .inl (pl []))), (q1, .inl (cI, 12, .inl (pl []))), (q2, .inl (cI, 12, .inl (pl []))), (q3, .inl (cI, 12, .inl (pl [])))]) rfl ?_
  refine vv_putF C hin clw_X1 0 rfl 3 (by decide) tyX1 tyX1_ok nmX1 rfl rfl wc_321 rfl rfl (Nat.le_of_ble_eq_true rfl) [(h0, .inr (2, [.ref q0, .ref q1, .ref q2, .ref q3, .null, .null, .null, .null, .null, .int 0, .int 0, .null])), (q0, .inl (cI, 6, .inl (pl []))), (q1, .inl (cI, 12, .inl (pl []))), (q2, .inl (cI, 12, .inl (pl []))), (q3, .inl (cI, 12, .inl (pl [])))] rfl dX1_init_33 36 rfl ?_
  refine vv_aload_n C 0 dX1_init_36 rfl rfl 37 rfl ?_
  refine vv_bipush C (12 : Int32) dX1_init_37 (by decide) 39 rfl ?_
  refine vv_newa C ht0 wc_ac 12 (by decide) (by decide) (by decide) (by rw [hRc]; exact Nat.le_of_ble_eq_true rfl) (by rw [hRs]; exact Nat.le_of_ble_eq_true rfl) dX1_init_39 5 54 rfl rfl 41 rfl (fun q4 => ?_)
  refine vv_ws (ws2 := [(h0, .inr (2, [.ref q0, .ref q1, .ref q2, .ref q3, .null, .null, .null, .null, .null, .int 0, .int 0, .null])), (q0, .inl (cI, 6, .inl (pl []))), (q1, .inl (cI, 12, .inl (pl []))), (q2, .inl (cI, 12, .inl (pl []))), (q3, .inl (cI, 12, .inl (pl []))), (q4, .inl (cI, 12, .inl (pl [])))]) rfl ?_
  refine vv_putF C hin clw_X1 0 rfl 4 (by decide) tyX1 tyX1_ok nmX1 rfl rfl wc_323 rfl rfl (Nat.le_of_ble_eq_true rfl) [(h0, .inr (2, [.ref q0, .ref q1, .ref q2, .ref q3, .ref q4, .null, .null, .null, .null, .int 0, .int 0, .null])), (q0, .inl (cI, 6, .inl (pl []))), (q1, .inl (cI, 12, .inl (pl []))), (q2, .inl (cI, 12, .inl (pl []))), (q3, .inl (cI, 12, .inl (pl []))), (q4, .inl (cI, 12, .inl (pl [])))] rfl dX1_init_41 44 rfl ?_
  refine vv_aload_n C 0 dX1_init_44 rfl rfl 45 rfl ?_
  refine vv_bipush C (6 : Int32) dX1_init_45 (by decide) 47 rfl ?_
  refine vv_newa C ht0 wc_ac 6 (by decide) (by decide) (by decide) (by rw [hRc]; exact Nat.le_of_ble_eq_true rfl) (by rw [hRs]; exact Nat.le_of_ble_eq_true rfl) dX1_init_47 6 60 rfl rfl 49 rfl (fun q5 => ?_)
  refine vv_ws (ws2 := [(h0, .inr (2, [.ref q0, .ref q1, .ref q2, .ref q3, .ref q4, .null, .null, .null, .null, .int 0, .int 0, .null])), (q0, .inl (cI, 6, .inl (pl []))), (q1, .inl (cI, 12, .inl (pl []))), (q2, .inl (cI, 12, .inl (pl []))), (q3, .inl (cI, 12, .inl (pl []))), (q4, .inl (cI, 12, .inl (pl []))), (q5, .inl (cI, 6, .inl (pl [])))]) rfl ?_
  refine vv_putF C hin clw_X1 0 rfl 5 (by decide) tyX1 tyX1_ok nmX1 rfl rfl wc_325 rfl rfl (Nat.le_of_ble_eq_true rfl) [(h0, .inr (2, [.ref q0, .ref q1, .ref q2, .ref q3, .ref q4, .ref q5, .null, .null, .null, .int 0, .int 0, .null])), (q0, .inl (cI, 6, .inl (pl []))), (q1, .inl (cI, 12, .inl (pl []))), (q2, .inl (cI, 12, .inl (pl []))), (q3, .inl (cI, 12, .inl (pl []))), (q4, .inl (cI, 12, .inl (pl []))), (q5, .inl (cI, 6, .inl (pl [])))] rfl dX1_init_49 52 rfl ?_
  refine vv_aload_n C 0 dX1_init_52 rfl rfl 53 rfl ?_
  refine vv_bipush C (6 : Int32) dX1_init_53 (by decide) 55 rfl ?_
  refine vv_newa C ht0 wc_ac 6 (by decide) (by decide) (by decide) (by rw [hRc]; exact Nat.le_of_ble_eq_true rfl) (by rw [hRs]; exact Nat.le_of_ble_eq_true rfl) dX1_init_55 7 66 rfl rfl 57 rfl (fun q6 => ?_)
  refine vv_ws (ws2 := [(h0, .inr (2, [.ref q0, .ref q1, .ref q2, .ref q3, .ref q4, .ref q5, .null, .null, .null, .int 0, .int 0, .null])), (q0, .inl (cI, 6, .inl (pl []))), (q1, .inl (cI, 12, .inl (pl []))), (q2, .inl (cI, 12, .inl (pl []))), (q3, .inl (cI, 12, .inl (pl []))), (q4, .inl (cI, 12, .inl (pl []))), (q5, .inl (cI, 6, .inl (pl []))), (q6, .inl (cI, 6, .inl (pl [])))]) rfl ?_
  refine vv_putF C hin clw_X1 0 rfl 6 (by decide) tyX1 tyX1_ok nmX1 rfl rfl wc_327 rfl rfl (Nat.le_of_ble_eq_true rfl) [(h0, .inr (2, [.ref q0, .ref q1, .ref q2, .ref q3, .ref q4, .ref q5, .ref q6, .null, .null, .int 0, .int 0, .null])), (q0, .inl (cI, 6, .inl (pl []))), (q1, .inl (cI, 12, .inl (pl []))), (q2, .inl (cI, 12, .inl (pl []))), (q3, .inl (cI, 12, .inl (pl []))), (q4, .inl (cI, 12, .inl (pl []))), (q5, .inl (cI, 6, .inl (pl []))), (q6, .inl (cI, 6, .inl (pl [])))] rfl dX1_init_57 60 rfl ?_
  refine vv_aload_n C 0 dX1_init_60 rfl rfl 61 rfl ?_
  refine vv_bipush C (6 : Int32) dX1_init_61 (by decide) 63 rfl ?_
  refine vv_newa C ht0 wc_ac 6 (by decide) (by decide) (by decide) (by rw [hRc]; exact Nat.le_of_ble_eq_true rfl) (by rw [hRs]; exact Nat.le_of_ble_eq_true rfl) dX1_init_63 8 72 rfl rfl 65 rfl (fun q7 => ?_)
  refine vv_ws (ws2 := [(h0, .inr (2, [.ref q0, .ref q1, .ref q2, .ref q3, .ref q4, .ref q5, .ref q6, .null, .null, .int 0, .int 0, .null])), (q0, .inl (cI, 6, .inl (pl []))), (q1, .inl (cI, 12, .inl (pl []))), (q2, .inl (cI, 12, .inl (pl []))), (q3, .inl (cI, 12, .inl (pl []))), (q4, .inl (cI, 12, .inl (pl []))), (q5, .inl (cI, 6, .inl (pl []))), (q6, .inl (cI, 6, .inl (pl []))), (q7, .inl (cI, 6, .inl (pl [])))]) rfl ?_
  refine vv_putF C hin clw_X1 0 rfl 7 (by decide) tyX1 tyX1_ok nmX1 rfl rfl wc_329 rfl rfl (Nat.le_of_ble_eq_true rfl) [(h0, .inr (2, [.ref q0, .ref q1, .ref q2, .ref q3, .ref q4, .ref q5, .ref q6, .ref q7, .null, .int 0, .int 0, .null])), (q0, .inl (cI, 6, .inl (pl []))), (q1, .inl (cI, 12, .inl (pl []))), (q2, .inl (cI, 12, .inl (pl []))), (q3, .inl (cI, 12, .inl (pl []))), (q4, .inl (cI, 12, .inl (pl []))), (q5, .inl (cI, 6, .inl (pl []))), (q6, .inl (cI, 6, .inl (pl []))), (q7, .inl (cI, 6, .inl (pl [])))] rfl dX1_init_65 68 rfl ?_
  refine vv_aload_n C 0 dX1_init_68 rfl rfl 69 rfl ?_
  refine vv_bipush C (6 : Int32) dX1_init_69 (by decide) 71 rfl ?_
  refine vv_newa C ht0 wc_ac 6 (by decide) (by decide) (by decide) (by rw [hRc]; exact Nat.le_of_ble_eq_true rfl) (by rw [hRs]; exact Nat.le_of_ble_eq_true rfl) dX1_init_71 9 78 rfl rfl 73 rfl (fun q8 => ?_)
  refine vv_ws (ws2 := [(h0, .inr (2, [.ref q0, .ref q1, .ref q2, .ref q3, .ref q4, .ref q5, .ref q6, .ref q7, .null, .int 0, .int 0, .null])), (q0, .inl (cI, 6, .inl (pl []))), (q1, .inl (cI, 12, .inl (pl []))), (q2, .inl (cI, 12, .inl (pl []))), (q3, .inl (cI, 12, .inl (pl []))), (q4, .inl (cI, 12, .inl (pl []))), (q5, .inl (cI, 6, .inl (pl []))), (q6, .inl (cI, 6, .inl (pl []))), (q7, .inl (cI, 6, .inl (pl []))), (q8, .inl (cI, 6, .inl (pl [])))]) rfl ?_
  refine vv_putF C hin clw_X1 0 rfl 8 (by decide) tyX1 tyX1_ok nmX1 rfl rfl wc_331 rfl rfl (Nat.le_of_ble_eq_true rfl) [(h0, .inr (2, [.ref q0, .ref q1, .ref q2, .ref q3, .ref q4, .ref q5, .ref q6, .ref q7, .ref q8, .int 0, .int 0, .null])), (q0, .inl (cI, 6, .inl (pl []))), (q1, .inl (cI, 12, .inl (pl []))), (q2, .inl (cI, 12, .inl (pl []))), (q3, .inl (cI, 12, .inl (pl []))), (q4, .inl (cI, 12, .inl (pl []))), (q5, .inl (cI, 6, .inl (pl []))), (q6, .inl (cI, 6, .inl (pl []))), (q7, .inl (cI, 6, .inl (pl []))), (q8, .inl (cI, 6, .inl (pl [])))] rfl dX1_init_73 76 rfl ?_
  refine vv_aload_n C 0 dX1_init_76 rfl rfl 77 rfl ?_
  refine vv_aload_n C 1 dX1_init_77 rfl rfl 78 rfl ?_
  refine vv_put C clw_X1 0 rfl 11 (by decide) tyX1 tyX1_ok nmX1 rfl wc_337 rfl rfl (Nat.le_of_ble_eq_true rfl) [(h0, .inr (2, [.ref q0, .ref q1, .ref q2, .ref q3, .ref q4, .ref q5, .ref q6, .ref q7, .ref q8, .int 0, .int 0, .ref tq])), (q0, .inl (cI, 6, .inl (pl []))), (q1, .inl (cI, 12, .inl (pl []))), (q2, .inl (cI, 12, .inl (pl []))), (q3, .inl (cI, 12, .inl (pl []))), (q4, .inl (cI, 12, .inl (pl []))), (q5, .inl (cI, 6, .inl (pl []))), (q6, .inl (cI, 6, .inl (pl []))), (q7, .inl (cI, 6, .inl (pl []))), (q8, .inl (cI, 6, .inl (pl [])))] rfl dX1_init_78 81 rfl ?_
  refine vv_iconst C (0 : Int32) dX1_init_81 (by decide) 82 rfl ?_
  refine vv_istore_n C [(2, .int 0), (0, .ref h0), (1, .ref tq)] dX1_init_82 rfl (by decide) rfl 83 rfl ?_
  refine vv_iload_n C 0 dX1_init_83 rfl rfl 84 rfl ?_
  refine vv_bipush C (12 : Int32) dX1_init_84 (by decide) 86 rfl ?_
  refine vv_geF C dX1_init_86 122 (by decide) (by decide) 89 rfl ?_
  refine vv_aload_n C 1 dX1_init_89 rfl rfl 90 rfl ?_
  refine vv_get C clw_X1 0 rfl 1 (by decide) wc_317 (.ref q1) rfl dX1_init_90 93 rfl ?_
  refine vv_iload_n C 0 dX1_init_93 rfl rfl 94 rfl ?_
  refine vv_iload_n C 0 dX1_init_94 rfl rfl 95 rfl ?_
  refine vv_bipush C (6 : Int32) dX1_init_95 (by decide) 97 rfl ?_
  refine vv_irem C (0 : Int32) dX1_init_97 (by decide) (by decide) 98 rfl ?_
  refine vv_iastI C 2 ht0 rfl (vp_d (by decide) (by decide)) (by decide) [(h0, .inr (2, [.ref q0, .ref q1, .ref q2, .ref q3, .ref q4, .ref q5, .ref q6, .ref q7, .ref q8, .int 0, .int 0, .ref tq])), (q0, .inl (cI, 6, .inl (pl []))), (q1, .inl (cI, 12, .inl (pl [0]))), (q2, .inl (cI, 12, .inl (pl []))), (q3, .inl (cI, 12, .inl (pl []))), (q4, .inl (cI, 12, .inl (pl []))), (q5, .inl (cI, 6, .inl (pl []))), (q6, .inl (cI, 6, .inl (pl []))), (q7, .inl (cI, 6, .inl (pl []))), (q8, .inl (cI, 6, .inl (pl [])))] rfl dX1_init_98 99 rfl ?_
  refine vv_aload_n C 1 dX1_init_99 rfl rfl 100 rfl ?_
  refine vv_get C clw_X1 0 rfl 2 (by decide) wc_319 (.ref q2) rfl dX1_init_100 103 rfl ?_
  refine vv_iload_n C 0 dX1_init_103 rfl rfl 104 rfl ?_
  refine vv_bipush C (20 : Int32) dX1_init_104 (by decide) 106 rfl ?_
  refine vv_iastI C 3 ht0 rfl (vp_d (by decide) (by decide)) (by decide) [(h0, .inr (2, [.ref q0, .ref q1, .ref q2, .ref q3, .ref q4, .ref q5, .ref q6, .ref q7, .ref q8, .int 0, .int 0, .ref tq])), (q0, .inl (cI, 6, .inl (pl []))), (q1, .inl (cI, 12, .inl (pl [0]))), (q2, .inl (cI, 12, .inl (pl [20]))), (q3, .inl (cI, 12, .inl (pl []))), (q4, .inl (cI, 12, .inl (pl []))), (q5, .inl (cI, 6, .inl (pl []))), (q6, .inl (cI, 6, .inl (pl []))), (q7, .inl (cI, 6, .inl (pl []))), (q8, .inl (cI, 6, .inl (pl [])))] rfl dX1_init_106 107 rfl ?_
  refine vv_aload_n C 1 dX1_init_107 rfl rfl 108 rfl ?_
  refine vv_get C clw_X1 0 rfl 3 (by decide) wc_321 (.ref q3) rfl dX1_init_108 111 rfl ?_
  refine vv_iload_n C 0 dX1_init_111 rfl rfl 112 rfl ?_
  refine vv_iconst C (3 : Int32) dX1_init_112 (by decide) 113 rfl ?_
  refine vv_iload_n C 0 dX1_init_113 rfl rfl 114 rfl ?_
  refine vv_imul C (0 : Int32) dX1_init_114 (by decide) 115 rfl ?_
  refine vv_iastI C 4 ht0 rfl (vp_d (by decide) (by decide)) (by decide) [(h0, .inr (2, [.ref q0, .ref q1, .ref q2, .ref q3, .ref q4, .ref q5, .ref q6, .ref q7, .ref q8, .int 0, .int 0, .ref tq])), (q0, .inl (cI, 6, .inl (pl []))), (q1, .inl (cI, 12, .inl (pl [0]))), (q2, .inl (cI, 12, .inl (pl [20]))), (q3, .inl (cI, 12, .inl (pl [0]))), (q4, .inl (cI, 12, .inl (pl []))), (q5, .inl (cI, 6, .inl (pl []))), (q6, .inl (cI, 6, .inl (pl []))), (q7, .inl (cI, 6, .inl (pl []))), (q8, .inl (cI, 6, .inl (pl [])))] rfl dX1_init_115 116 rfl ?_
  refine vv_iinc C 0 (1 : Int32) [(2, .int 1), (0, .ref h0), (1, .ref tq)] dX1_init_116 rfl (by decide) (by decide) rfl 119 rfl ?_
  refine vv_goto C 83 dX1_init_119 (by decide) ?_
  refine vv_iload_n C 0 dX1_init_83 rfl rfl 84 rfl ?_
  refine vv_bipush C (12 : Int32) dX1_init_84 (by decide) 86 rfl ?_
  refine vv_geF C dX1_init_86 122 (by decide) (by decide) 89 rfl ?_
  refine vv_aload_n C 1 dX1_init_89 rfl rfl 90 rfl ?_
  refine vv_get C clw_X1 0 rfl 1 (by decide) wc_317 (.ref q1) rfl dX1_init_90 93 rfl ?_
  refine vv_iload_n C 0 dX1_init_93 rfl rfl 94 rfl ?_
  refine vv_iload_n C 0 dX1_init_94 rfl rfl 95 rfl ?_
  refine vv_bipush C (6 : Int32) dX1_init_95 (by decide) 97 rfl ?_
  refine vv_irem C (1 : Int32) dX1_init_97 (by decide) (by decide) 98 rfl ?_
  refine vv_iastI C 2 ht0 rfl (vp_d (by decide) (by decide)) (by decide) [(h0, .inr (2, [.ref q0, .ref q1, .ref q2, .ref q3, .ref q4, .ref q5, .ref q6, .ref q7, .ref q8, .int 0, .int 0, .ref tq])), (q0, .inl (cI, 6, .inl (pl []))), (q1, .inl (cI, 12, .inl (pl [0, 1]))), (q2, .inl (cI, 12, .inl (pl [20]))), (q3, .inl (cI, 12, .inl (pl [0]))), (q4, .inl (cI, 12, .inl (pl []))), (q5, .inl (cI, 6, .inl (pl []))), (q6, .inl (cI, 6, .inl (pl []))), (q7, .inl (cI, 6, .inl (pl []))), (q8, .inl (cI, 6, .inl (pl [])))] rfl dX1_init_98 99 rfl ?_
  refine vv_aload_n C 1 dX1_init_99 rfl rfl 100 rfl ?_
  refine vv_get C clw_X1 0 rfl 2 (by decide) wc_319 (.ref q2) rfl dX1_init_100 103 rfl ?_
  refine vv_iload_n C 0 dX1_init_103 rfl rfl 104 rfl ?_
  refine vv_bipush C (20 : Int32) dX1_init_104 (by decide) 106 rfl ?_
  refine vv_iastI C 3 ht0 rfl (vp_d (by decide) (by decide)) (by decide) [(h0, .inr (2, [.ref q0, .ref q1, .ref q2, .ref q3, .ref q4, .ref q5, .ref q6, .ref q7, .ref q8, .int 0, .int 0, .ref tq])), (q0, .inl (cI, 6, .inl (pl []))), (q1, .inl (cI, 12, .inl (pl [0, 1]))), (q2, .inl (cI, 12, .inl (pl [20, 20]))), (q3, .inl (cI, 12, .inl (pl [0]))), (q4, .inl (cI, 12, .inl (pl []))), (q5, .inl (cI, 6, .inl (pl []))), (q6, .inl (cI, 6, .inl (pl []))), (q7, .inl (cI, 6, .inl (pl []))), (q8, .inl (cI, 6, .inl (pl [])))] rfl dX1_init_106 107 rfl ?_
  refine vv_aload_n C 1 dX1_init_107 rfl rfl 108 rfl ?_
  refine vv_get C clw_X1 0 rfl 3 (by decide) wc_321 (.ref q3) rfl dX1_init_108 111 rfl ?_
  refine vv_iload_n C 0 dX1_init_111 rfl rfl 112 rfl ?_
  refine vv_iconst C (3 : Int32) dX1_init_112 (by decide) 113 rfl ?_
  refine vv_iload_n C 0 dX1_init_113 rfl rfl 114 rfl ?_
  refine vv_imul C (3 : Int32) dX1_init_114 (by decide) 115 rfl ?_
  refine vv_iastI C 4 ht0 rfl (vp_d (by decide) (by decide)) (by decide) [(h0, .inr (2, [.ref q0, .ref q1, .ref q2, .ref q3, .ref q4, .ref q5, .ref q6, .ref q7, .ref q8, .int 0, .int 0, .ref tq])), (q0, .inl (cI, 6, .inl (pl []))), (q1, .inl (cI, 12, .inl (pl [0, 1]))), (q2, .inl (cI, 12, .inl (pl [20, 20]))), (q3, .inl (cI, 12, .inl (pl [0, 3]))), (q4, .inl (cI, 12, .inl (pl []))), (q5, .inl (cI, 6, .inl (pl []))), (q6, .inl (cI, 6, .inl (pl []))), (q7, .inl (cI, 6, .inl (pl []))), (q8, .inl (cI, 6, .inl (pl [])))] rfl dX1_init_115 116 rfl ?_
  refine vv_iinc C 0 (2 : Int32) [(2, .int 2), (0, .ref h0), (1, .ref tq)] dX1_init_116 rfl (by decide) (by decide) rfl 119 rfl ?_
  refine vv_goto C 83 dX1_init_119 (by decide) ?_
  refine vv_iload_n C 0 dX1_init_83 rfl rfl 84 rfl ?_
  refine vv_bipush C (12 : Int32) dX1_init_84 (by decide) 86 rfl ?_
  refine vv_geF C dX1_init_86 122 (by decide) (by decide) 89 rfl ?_
  refine vv_aload_n C 1 dX1_init_89 rfl rfl 90 rfl ?_
  refine vv_get C clw_X1 0 rfl 1 (by decide) wc_317 (.ref q1) rfl dX1_init_90 93 rfl ?_
  refine vv_iload_n C 0 dX1_init_93 rfl rfl 94 rfl ?_
  refine vv_iload_n C 0 dX1_init_94 rfl rfl 95 rfl ?_
  refine vv_bipush C (6 : Int32) dX1_init_95 (by decide) 97 rfl ?_
  refine vv_irem C (2 : Int32) dX1_init_97 (by decide) (by decide) 98 rfl ?_
  refine vv_iastI C 2 ht0 rfl (vp_d (by decide) (by decide)) (by decide) [(h0, .inr (2, [.ref q0, .ref q1, .ref q2, .ref q3, .ref q4, .ref q5, .ref q6, .ref q7, .ref q8, .int 0, .int 0, .ref tq])), (q0, .inl (cI, 6, .inl (pl []))), (q1, .inl (cI, 12, .inl (pl [0, 1, 2]))), (q2, .inl (cI, 12, .inl (pl [20, 20]))), (q3, .inl (cI, 12, .inl (pl [0, 3]))), (q4, .inl (cI, 12, .inl (pl []))), (q5, .inl (cI, 6, .inl (pl []))), (q6, .inl (cI, 6, .inl (pl []))), (q7, .inl (cI, 6, .inl (pl []))), (q8, .inl (cI, 6, .inl (pl [])))] rfl dX1_init_98 99 rfl ?_
  refine vv_aload_n C 1 dX1_init_99 rfl rfl 100 rfl ?_
  refine vv_get C clw_X1 0 rfl 2 (by decide) wc_319 (.ref q2) rfl dX1_init_100 103 rfl ?_
  refine vv_iload_n C 0 dX1_init_103 rfl rfl 104 rfl ?_
  refine vv_bipush C (20 : Int32) dX1_init_104 (by decide) 106 rfl ?_
  refine vv_iastI C 3 ht0 rfl (vp_d (by decide) (by decide)) (by decide) [(h0, .inr (2, [.ref q0, .ref q1, .ref q2, .ref q3, .ref q4, .ref q5, .ref q6, .ref q7, .ref q8, .int 0, .int 0, .ref tq])), (q0, .inl (cI, 6, .inl (pl []))), (q1, .inl (cI, 12, .inl (pl [0, 1, 2]))), (q2, .inl (cI, 12, .inl (pl [20, 20, 20]))), (q3, .inl (cI, 12, .inl (pl [0, 3]))), (q4, .inl (cI, 12, .inl (pl []))), (q5, .inl (cI, 6, .inl (pl []))), (q6, .inl (cI, 6, .inl (pl []))), (q7, .inl (cI, 6, .inl (pl []))), (q8, .inl (cI, 6, .inl (pl [])))] rfl dX1_init_106 107 rfl ?_
  refine vv_aload_n C 1 dX1_init_107 rfl rfl 108 rfl ?_
  refine vv_get C clw_X1 0 rfl 3 (by decide) wc_321 (.ref q3) rfl dX1_init_108 111 rfl ?_
  refine vv_iload_n C 0 dX1_init_111 rfl rfl 112 rfl ?_
  refine vv_iconst C (3 : Int32) dX1_init_112 (by decide) 113 rfl ?_
  refine vv_iload_n C 0 dX1_init_113 rfl rfl 114 rfl ?_
  refine vv_imul C (6 : Int32) dX1_init_114 (by decide) 115 rfl ?_
  refine vv_iastI C 4 ht0 rfl (vp_d (by decide) (by decide)) (by decide) [(h0, .inr (2, [.ref q0, .ref q1, .ref q2, .ref q3, .ref q4, .ref q5, .ref q6, .ref q7, .ref q8, .int 0, .int 0, .ref tq])), (q0, .inl (cI, 6, .inl (pl []))), (q1, .inl (cI, 12, .inl (pl [0, 1, 2]))), (q2, .inl (cI, 12, .inl (pl [20, 20, 20]))), (q3, .inl (cI, 12, .inl (pl [0, 3, 6]))), (q4, .inl (cI, 12, .inl (pl []))), (q5, .inl (cI, 6, .inl (pl []))), (q6, .inl (cI, 6, .inl (pl []))), (q7, .inl (cI, 6, .inl (pl []))), (q8, .inl (cI, 6, .inl (pl [])))] rfl dX1_init_115 116 rfl ?_
  refine vv_iinc C 0 (3 : Int32) [(2, .int 3), (0, .ref h0), (1, .ref tq)] dX1_init_116 rfl (by decide) (by decide) rfl 119 rfl ?_
  refine vv_goto C 83 dX1_init_119 (by decide) ?_
  refine vv_iload_n C 0 dX1_init_83 rfl rfl 84 rfl ?_
  refine vv_bipush C (12 : Int32) dX1_init_84 (by decide) 86 rfl ?_
  refine vv_geF C dX1_init_86 122 (by decide) (by decide) 89 rfl ?_
  refine vv_aload_n C 1 dX1_init_89 rfl rfl 90 rfl ?_
  refine vv_get C clw_X1 0 rfl 1 (by decide) wc_317 (.ref q1) rfl dX1_init_90 93 rfl ?_
  refine vv_iload_n C 0 dX1_init_93 rfl rfl 94 rfl ?_
  refine vv_iload_n C 0 dX1_init_94 rfl rfl 95 rfl ?_
  refine vv_bipush C (6 : Int32) dX1_init_95 (by decide) 97 rfl ?_
  refine vv_irem C (3 : Int32) dX1_init_97 (by decide) (by decide) 98 rfl ?_
  refine vv_iastI C 2 ht0 rfl (vp_d (by decide) (by decide)) (by decide) [(h0, .inr (2, [.ref q0, .ref q1, .ref q2, .ref q3, .ref q4, .ref q5, .ref q6, .ref q7, .ref q8, .int 0, .int 0, .ref tq])), (q0, .inl (cI, 6, .inl (pl []))), (q1, .inl (cI, 12, .inl (pl [0, 1, 2, 3]))), (q2, .inl (cI, 12, .inl (pl [20, 20, 20]))), (q3, .inl (cI, 12, .inl (pl [0, 3, 6]))), (q4, .inl (cI, 12, .inl (pl []))), (q5, .inl (cI, 6, .inl (pl []))), (q6, .inl (cI, 6, .inl (pl []))), (q7, .inl (cI, 6, .inl (pl []))), (q8, .inl (cI, 6, .inl (pl [])))] rfl dX1_init_98 99 rfl ?_
  refine vv_aload_n C 1 dX1_init_99 rfl rfl 100 rfl ?_
  refine vv_get C clw_X1 0 rfl 2 (by decide) wc_319 (.ref q2) rfl dX1_init_100 103 rfl ?_
  refine vv_iload_n C 0 dX1_init_103 rfl rfl 104 rfl ?_
  refine vv_bipush C (20 : Int32) dX1_init_104 (by decide) 106 rfl ?_
  refine vv_iastI C 3 ht0 rfl (vp_d (by decide) (by decide)) (by decide) [(h0, .inr (2, [.ref q0, .ref q1, .ref q2, .ref q3, .ref q4, .ref q5, .ref q6, .ref q7, .ref q8, .int 0, .int 0, .ref tq])), (q0, .inl (cI, 6, .inl (pl []))), (q1, .inl (cI, 12, .inl (pl [0, 1, 2, 3]))), (q2, .inl (cI, 12, .inl (pl [20, 20, 20, 20]))), (q3, .inl (cI, 12, .inl (pl [0, 3, 6]))), (q4, .inl (cI, 12, .inl (pl []))), (q5, .inl (cI, 6, .inl (pl []))), (q6, .inl (cI, 6, .inl (pl []))), (q7, .inl (cI, 6, .inl (pl []))), (q8, .inl (cI, 6, .inl (pl [])))] rfl dX1_init_106 107 rfl ?_
  refine vv_aload_n C 1 dX1_init_107 rfl rfl 108 rfl ?_
  refine vv_get C clw_X1 0 rfl 3 (by decide) wc_321 (.ref q3) rfl dX1_init_108 111 rfl ?_
  refine vv_iload_n C 0 dX1_init_111 rfl rfl 112 rfl ?_
  refine vv_iconst C (3 : Int32) dX1_init_112 (by decide) 113 rfl ?_
  refine vv_iload_n C 0 dX1_init_113 rfl rfl 114 rfl ?_
  refine vv_imul C (9 : Int32) dX1_init_114 (by decide) 115 rfl ?_
  refine vv_iastI C 4 ht0 rfl (vp_d (by decide) (by decide)) (by decide) [(h0, .inr (2, [.ref q0, .ref q1, .ref q2, .ref q3, .ref q4, .ref q5, .ref q6, .ref q7, .ref q8, .int 0, .int 0, .ref tq])), (q0, .inl (cI, 6, .inl (pl []))), (q1, .inl (cI, 12, .inl (pl [0, 1, 2, 3]))), (q2, .inl (cI, 12, .inl (pl [20, 20, 20, 20]))), (q3, .inl (cI, 12, .inl (pl [0, 3, 6, 9]))), (q4, .inl (cI, 12, .inl (pl []))), (q5, .inl (cI, 6, .inl (pl []))), (q6, .inl (cI, 6, .inl (pl []))), (q7, .inl (cI, 6, .inl (pl []))), (q8, .inl (cI, 6, .inl (pl [])))] rfl dX1_init_115 116 rfl ?_
  refine vv_iinc C 0 (4 : Int32) [(2, .int 4), (0, .ref h0), (1, .ref tq)] dX1_init_116 rfl (by decide) (by decide) rfl 119 rfl ?_
  refine vv_goto C 83 dX1_init_119 (by decide) ?_
  refine vv_iload_n C 0 dX1_init_83 rfl rfl 84 rfl ?_
  refine vv_bipush C (12 : Int32) dX1_init_84 (by decide) 86 rfl ?_
  refine vv_geF C dX1_init_86 122 (by decide) (by decide) 89 rfl ?_
  refine vv_aload_n C 1 dX1_init_89 rfl rfl 90 rfl ?_
  refine vv_get C clw_X1 0 rfl 1 (by decide) wc_317 (.ref q1) rfl dX1_init_90 93 rfl ?_
  refine vv_iload_n C 0 dX1_init_93 rfl rfl 94 rfl ?_
  refine vv_iload_n C 0 dX1_init_94 rfl rfl 95 rfl ?_
  refine vv_bipush C (6 : Int32) dX1_init_95 (by decide) 97 rfl ?_
  refine vv_irem C (4 : Int32) dX1_init_97 (by decide) (by decide) 98 rfl ?_
  refine vv_iastI C 2 ht0 rfl (vp_d (by decide) (by decide)) (by decide) [(h0, .inr (2, [.ref q0, .ref q1, .ref q2, .ref q3, .ref q4, .ref q5, .ref q6, .ref q7, .ref q8, .int 0, .int 0, .ref tq])), (q0, .inl (cI, 6, .inl (pl []))), (q1, .inl (cI, 12, .inl (pl [0, 1, 2, 3, 4]))), (q2, .inl (cI, 12, .inl (pl [20, 20, 20, 20]))), (q3, .inl (cI, 12, .inl (pl [0, 3, 6, 9]))), (q4, .inl (cI, 12, .inl (pl []))), (q5, .inl (cI, 6, .inl (pl []))), (q6, .inl (cI, 6, .inl (pl []))), (q7, .inl (cI, 6, .inl (pl []))), (q8, .inl (cI, 6, .inl (pl [])))] rfl dX1_init_98 99 rfl ?_
  refine vv_aload_n C 1 dX1_init_99 rfl rfl 100 rfl ?_
  refine vv_get C clw_X1 0 rfl 2 (by decide) wc_319 (.ref q2) rfl dX1_init_100 103 rfl ?_
  refine vv_iload_n C 0 dX1_init_103 rfl rfl 104 rfl ?_
  refine vv_bipush C (20 : Int32) dX1_init_104 (by decide) 106 rfl ?_
  refine vv_iastI C 3 ht0 rfl (vp_d (by decide) (by decide)) (by decide) [(h0, .inr (2, [.ref q0, .ref q1, .ref q2, .ref q3, .ref q4, .ref q5, .ref q6, .ref q7, .ref q8, .int 0, .int 0, .ref tq])), (q0, .inl (cI, 6, .inl (pl []))), (q1, .inl (cI, 12, .inl (pl [0, 1, 2, 3, 4]))), (q2, .inl (cI, 12, .inl (pl [20, 20, 20, 20, 20]))), (q3, .inl (cI, 12, .inl (pl [0, 3, 6, 9]))), (q4, .inl (cI, 12, .inl (pl []))), (q5, .inl (cI, 6, .inl (pl []))), (q6, .inl (cI, 6, .inl (pl []))), (q7, .inl (cI, 6, .inl (pl []))), (q8, .inl (cI, 6, .inl (pl [])))] rfl dX1_init_106 107 rfl ?_
  refine vv_aload_n C 1 dX1_init_107 rfl rfl 108 rfl ?_
  refine vv_get C clw_X1 0 rfl 3 (by decide) wc_321 (.ref q3) rfl dX1_init_108 111 rfl ?_
  refine vv_iload_n C 0 dX1_init_111 rfl rfl 112 rfl ?_
  refine vv_iconst C (3 : Int32) dX1_init_112 (by decide) 113 rfl ?_
  refine vv_iload_n C 0 dX1_init_113 rfl rfl 114 rfl ?_
  refine vv_imul C (12 : Int32) dX1_init_114 (by decide) 115 rfl ?_
  refine vv_iastI C 4 ht0 rfl (vp_d (by decide) (by decide)) (by decide) [(h0, .inr (2, [.ref q0, .ref q1, .ref q2, .ref q3, .ref q4, .ref q5, .ref q6, .ref q7, .ref q8, .int 0, .int 0, .ref tq])), (q0, .inl (cI, 6, .inl (pl []))), (q1, .inl (cI, 12, .inl (pl [0, 1, 2, 3, 4]))), (q2, .inl (cI, 12, .inl (pl [20, 20, 20, 20, 20]))), (q3, .inl (cI, 12, .inl (pl [0, 3, 6, 9, 12]))), (q4, .inl (cI, 12, .inl (pl []))), (q5, .inl (cI, 6, .inl (pl []))), (q6, .inl (cI, 6, .inl (pl []))), (q7, .inl (cI, 6, .inl (pl []))), (q8, .inl (cI, 6, .inl (pl [])))] rfl dX1_init_115 116 rfl ?_
  refine vv_iinc C 0 (5 : Int32) [(2, .int 5), (0, .ref h0), (1, .ref tq)] dX1_init_116 rfl (by decide) (by decide) rfl 119 rfl ?_
  refine vv_goto C 83 dX1_init_119 (by decide) ?_
  refine vv_iload_n C 0 dX1_init_83 rfl rfl 84 rfl ?_
  refine vv_bipush C (12 : Int32) dX1_init_84 (by decide) 86 rfl ?_
  refine vv_geF C dX1_init_86 122 (by decide) (by decide) 89 rfl ?_
  refine vv_aload_n C 1 dX1_init_89 rfl rfl 90 rfl ?_
  refine vv_get C clw_X1 0 rfl 1 (by decide) wc_317 (.ref q1) rfl dX1_init_90 93 rfl ?_
  refine vv_iload_n C 0 dX1_init_93 rfl rfl 94 rfl ?_
  refine vv_iload_n C 0 dX1_init_94 rfl rfl 95 rfl ?_
  refine vv_bipush C (6 : Int32) dX1_init_95 (by decide) 97 rfl ?_
  refine vv_irem C (5 : Int32) dX1_init_97 (by decide) (by decide) 98 rfl ?_
  refine vv_iastI C 2 ht0 rfl (vp_d (by decide) (by decide)) (by decide) [(h0, .inr (2, [.ref q0, .ref q1, .ref q2, .ref q3, .ref q4, .ref q5, .ref q6, .ref q7, .ref q8, .int 0, .int 0, .ref tq])), (q0, .inl (cI, 6, .inl (pl []))), (q1, .inl (cI, 12, .inl (pl [0, 1, 2, 3, 4, 5]))), (q2, .inl (cI, 12, .inl (pl [20, 20, 20, 20, 20]))), (q3, .inl (cI, 12, .inl (pl [0, 3, 6, 9, 12]))), (q4, .inl (cI, 12, .inl (pl []))), (q5, .inl (cI, 6, .inl (pl []))), (q6, .inl (cI, 6, .inl (pl []))), (q7, .inl (cI, 6, .inl (pl []))), (q8, .inl (cI, 6, .inl (pl [])))] rfl dX1_init_98 99 rfl ?_
  refine vv_aload_n C 1 dX1_init_99 rfl rfl 100 rfl ?_
  refine vv_get C clw_X1 0 rfl 2 (by decide) wc_319 (.ref q2) rfl dX1_init_100 103 rfl ?_
  refine vv_iload_n C 0 dX1_init_103 rfl rfl 104 rfl ?_
  refine vv_bipush C (20 : Int32) dX1_init_104 (by decide) 106 rfl ?_
  refine vv_iastI C 3 ht0 rfl (vp_d (by decide) (by decide)) (by decide) [(h0, .inr (2, [.ref q0, .ref q1, .ref q2, .ref q3, .ref q4, .ref q5, .ref q6, .ref q7, .ref q8, .int 0, .int 0, .ref tq])), (q0, .inl (cI, 6, .inl (pl []))), (q1, .inl (cI, 12, .inl (pl [0, 1, 2, 3, 4, 5]))), (q2, .inl (cI, 12, .inl (pl [20, 20, 20, 20, 20, 20]))), (q3, .inl (cI, 12, .inl (pl [0, 3, 6, 9, 12]))), (q4, .inl (cI, 12, .inl (pl []))), (q5, .inl (cI, 6, .inl (pl []))), (q6, .inl (cI, 6, .inl (pl []))), (q7, .inl (cI, 6, .inl (pl []))), (q8, .inl (cI, 6, .inl (pl [])))] rfl dX1_init_106 107 rfl ?_
  refine vv_aload_n C 1 dX1_init_107 rfl rfl 108 rfl ?_
  refine vv_get C clw_X1 0 rfl 3 (by decide) wc_321 (.ref q3) rfl dX1_init_108 111 rfl ?_
  refine vv_iload_n C 0 dX1_init_111 rfl rfl 112 rfl ?_
  refine vv_iconst C (3 : Int32) dX1_init_112 (by decide) 113 rfl ?_
  refine vv_iload_n C 0 dX1_init_113 rfl rfl 114 rfl ?_
  refine vv_imul C (15 : Int32) dX1_init_114 (by decide) 115 rfl ?_
  refine vv_iastI C 4 ht0 rfl (vp_d (by decide) (by decide)) (by decide) [(h0, .inr (2, [.ref q0, .ref q1, .ref q2, .ref q3, .ref q4, .ref q5, .ref q6, .ref q7, .ref q8, .int 0, .int 0, .ref tq])), (q0, .inl (cI, 6, .inl (pl []))), (q1, .inl (cI, 12, .inl (pl [0, 1, 2, 3, 4, 5]))), (q2, .inl (cI, 12, .inl (pl [20, 20, 20, 20, 20, 20]))), (q3, .inl (cI, 12, .inl (pl [0, 3, 6, 9, 12, 15]))), (q4, .inl (cI, 12, .inl (pl []))), (q5, .inl (cI, 6, .inl (pl []))), (q6, .inl (cI, 6, .inl (pl []))), (q7, .inl (cI, 6, .inl (pl []))), (q8, .inl (cI, 6, .inl (pl [])))] rfl dX1_init_115 116 rfl ?_
  refine vv_iinc C 0 (6 : Int32) [(2, .int 6), (0, .ref h0), (1, .ref tq)] dX1_init_116 rfl (by decide) (by decide) rfl 119 rfl ?_
  refine vv_goto C 83 dX1_init_119 (by decide) ?_
  refine vv_iload_n C 0 dX1_init_83 rfl rfl 84 rfl ?_
  refine vv_bipush C (12 : Int32) dX1_init_84 (by decide) 86 rfl ?_
  refine vv_geF C dX1_init_86 122 (by decide) (by decide) 89 rfl ?_
  refine vv_aload_n C 1 dX1_init_89 rfl rfl 90 rfl ?_
  refine vv_get C clw_X1 0 rfl 1 (by decide) wc_317 (.ref q1) rfl dX1_init_90 93 rfl ?_
  refine vv_iload_n C 0 dX1_init_93 rfl rfl 94 rfl ?_
  refine vv_iload_n C 0 dX1_init_94 rfl rfl 95 rfl ?_
  refine vv_bipush C (6 : Int32) dX1_init_95 (by decide) 97 rfl ?_
  refine vv_irem C (0 : Int32) dX1_init_97 (by decide) (by decide) 98 rfl ?_
  refine vv_iastI C 2 ht0 rfl (vp_d (by decide) (by decide)) (by decide) [(h0, .inr (2, [.ref q0, .ref q1, .ref q2, .ref q3, .ref q4, .ref q5, .ref q6, .ref q7, .ref q8, .int 0, .int 0, .ref tq])), (q0, .inl (cI, 6, .inl (pl []))), (q1, .inl (cI, 12, .inl (pl [0, 1, 2, 3, 4, 5, 0]))), (q2, .inl (cI, 12, .inl (pl [20, 20, 20, 20, 20, 20]))), (q3, .inl (cI, 12, .inl (pl [0, 3, 6, 9, 12, 15]))), (q4, .inl (cI, 12, .inl (pl []))), (q5, .inl (cI, 6, .inl (pl []))), (q6, .inl (cI, 6, .inl (pl []))), (q7, .inl (cI, 6, .inl (pl []))), (q8, .inl (cI, 6, .inl (pl [])))] rfl dX1_init_98 99 rfl ?_
  refine vv_aload_n C 1 dX1_init_99 rfl rfl 100 rfl ?_
  refine vv_get C clw_X1 0 rfl 2 (by decide) wc_319 (.ref q2) rfl dX1_init_100 103 rfl ?_
  refine vv_iload_n C 0 dX1_init_103 rfl rfl 104 rfl ?_
  refine vv_bipush C (20 : Int32) dX1_init_104 (by decide) 106 rfl ?_
  refine vv_iastI C 3 ht0 rfl (vp_d (by decide) (by decide)) (by decide) [(h0, .inr (2, [.ref q0, .ref q1, .ref q2, .ref q3, .ref q4, .ref q5, .ref q6, .ref q7, .ref q8, .int 0, .int 0, .ref tq])), (q0, .inl (cI, 6, .inl (pl []))), (q1, .inl (cI, 12, .inl (pl [0, 1, 2, 3, 4, 5, 0]))), (q2, .inl (cI, 12, .inl (pl [20, 20, 20, 20, 20, 20, 20]))), (q3, .inl (cI, 12, .inl (pl [0, 3, 6, 9, 12, 15]))), (q4, .inl (cI, 12, .inl (pl []))), (q5, .inl (cI, 6, .inl (pl []))), (q6, .inl (cI, 6, .inl (pl []))), (q7, .inl (cI, 6, .inl (pl []))), (q8, .inl (cI, 6, .inl (pl [])))] rfl dX1_init_106 107 rfl ?_
  refine vv_aload_n C 1 dX1_init_107 rfl rfl 108 rfl ?_
  refine vv_get C clw_X1 0 rfl 3 (by decide) wc_321 (.ref q3) rfl dX1_init_108 111 rfl ?_
  refine vv_iload_n C 0 dX1_init_111 rfl rfl 112 rfl ?_
  refine vv_iconst C (3 : Int32) dX1_init_112 (by decide) 113 rfl ?_
  refine vv_iload_n C 0 dX1_init_113 rfl rfl 114 rfl ?_
  refine vv_imul C (18 : Int32) dX1_init_114 (by decide) 115 rfl ?_
  refine vv_iastI C 4 ht0 rfl (vp_d (by decide) (by decide)) (by decide) [(h0, .inr (2, [.ref q0, .ref q1, .ref q2, .ref q3, .ref q4, .ref q5, .ref q6, .ref q7, .ref q8, .int 0, .int 0, .ref tq])), (q0, .inl (cI, 6, .inl (pl []))), (q1, .inl (cI, 12, .inl (pl [0, 1, 2, 3, 4, 5, 0]))), (q2, .inl (cI, 12, .inl (pl [20, 20, 20, 20, 20, 20, 20]))), (q3, .inl (cI, 12, .inl (pl [0, 3, 6, 9, 12, 15, 18]))), (q4, .inl (cI, 12, .inl (pl []))), (q5, .inl (cI, 6, .inl (pl []))), (q6, .inl (cI, 6, .inl (pl []))), (q7, .inl (cI, 6, .inl (pl []))), (q8, .inl (cI, 6, .inl (pl [])))] rfl dX1_init_115 116 rfl ?_
  refine vv_iinc C 0 (7 : Int32) [(2, .int 7), (0, .ref h0), (1, .ref tq)] dX1_init_116 rfl (by decide) (by decide) rfl 119 rfl ?_
  refine vv_goto C 83 dX1_init_119 (by decide) ?_
  refine vv_iload_n C 0 dX1_init_83 rfl rfl 84 rfl ?_
  refine vv_bipush C (12 : Int32) dX1_init_84 (by decide) 86 rfl ?_
  refine vv_geF C dX1_init_86 122 (by decide) (by decide) 89 rfl ?_
  refine vv_aload_n C 1 dX1_init_89 rfl rfl 90 rfl ?_
  refine vv_get C clw_X1 0 rfl 1 (by decide) wc_317 (.ref q1) rfl dX1_init_90 93 rfl ?_
  refine vv_iload_n C 0 dX1_init_93 rfl rfl 94 rfl ?_
  refine vv_iload_n C 0 dX1_init_94 rfl rfl 95 rfl ?_
  refine vv_bipush C (6 : Int32) dX1_init_95 (by decide) 97 rfl ?_
  refine vv_irem C (1 : Int32) dX1_init_97 (by decide) (by decide) 98 rfl ?_
  refine vv_iastI C 2 ht0 rfl (vp_d (by decide) (by decide)) (by decide) [(h0, .inr (2, [.ref q0, .ref q1, .ref q2, .ref q3, .ref q4, .ref q5, .ref q6, .ref q7, .ref q8, .int 0, .int 0, .ref tq])), (q0, .inl (cI, 6, .inl (pl []))), (q1, .inl (cI, 12, .inl (pl [0, 1, 2, 3, 4, 5, 0, 1]))), (q2, .inl (cI, 12, .inl (pl [20, 20, 20, 20, 20, 20, 20]))), (q3, .inl (cI, 12, .inl (pl [0, 3, 6, 9, 12, 15, 18]))), (q4, .inl (cI, 12, .inl (pl []))), (q5, .inl (cI, 6, .inl (pl []))), (q6, .inl (cI, 6, .inl (pl []))), (q7, .inl (cI, 6, .inl (pl []))), (q8, .inl (cI, 6, .inl (pl [])))] rfl dX1_init_98 99 rfl ?_
  refine vv_aload_n C 1 dX1_init_99 rfl rfl 100 rfl ?_
  refine vv_get C clw_X1 0 rfl 2 (by decide) wc_319 (.ref q2) rfl dX1_init_100 103 rfl ?_
  refine vv_iload_n C 0 dX1_init_103 rfl rfl 104 rfl ?_
  refine vv_bipush C (20 : Int32) dX1_init_104 (by decide) 106 rfl ?_
  refine vv_iastI C 3 ht0 rfl (vp_d (by decide) (by decide)) (by decide) [(h0, .inr (2, [.ref q0, .ref q1, .ref q2, .ref q3, .ref q4, .ref q5, .ref q6, .ref q7, .ref q8, .int 0, .int 0, .ref tq])), (q0, .inl (cI, 6, .inl (pl []))), (q1, .inl (cI, 12, .inl (pl [0, 1, 2, 3, 4, 5, 0, 1]))), (q2, .inl (cI, 12, .inl (pl [20, 20, 20, 20, 20, 20, 20, 20]))), (q3, .inl (cI, 12, .inl (pl [0, 3, 6, 9, 12, 15, 18]))), (q4, .inl (cI, 12, .inl (pl []))), (q5, .inl (cI, 6, .inl (pl []))), (q6, .inl (cI, 6, .inl (pl []))), (q7, .inl (cI, 6, .inl (pl []))), (q8, .inl (cI, 6, .inl (pl [])))] rfl dX1_init_106 107 rfl ?_
  refine vv_aload_n C 1 dX1_init_107 rfl rfl 108 rfl ?_
  refine vv_get C clw_X1 0 rfl 3 (by decide) wc_321 (.ref q3) rfl dX1_init_108 111 rfl ?_
  refine vv_iload_n C 0 dX1_init_111 rfl rfl 112 rfl ?_
  refine vv_iconst C (3 : Int32) dX1_init_112 (by decide) 113 rfl ?_
  refine vv_iload_n C 0 dX1_init_113 rfl rfl 114 rfl ?_
  refine vv_imul C (21 : Int32) dX1_init_114 (by decide) 115 rfl ?_
  refine vv_iastI C 4 ht0 rfl (vp_d (by decide) (by decide)) (by decide) [(h0, .inr (2, [.ref q0, .ref q1, .ref q2, .ref q3, .ref q4, .ref q5, .ref q6, .ref q7, .ref q8, .int 0, .int 0, .ref tq])), (q0, .inl (cI, 6, .inl (pl []))), (q1, .inl (cI, 12, .inl (pl [0, 1, 2, 3, 4, 5, 0, 1]))), (q2, .inl (cI, 12, .inl (pl [20, 20, 20, 20, 20, 20, 20, 20]))), (q3, .inl (cI, 12, .inl (pl [0, 3, 6, 9, 12, 15, 18, 21]))), (q4, .inl (cI, 12, .inl (pl []))), (q5, .inl (cI, 6, .inl (pl []))), (q6, .inl (cI, 6, .inl (pl []))), (q7, .inl (cI, 6, .inl (pl []))), (q8, .inl (cI, 6, .inl (pl [])))] rfl dX1_init_115 116 rfl ?_
  refine vv_iinc C 0 (8 : Int32) [(2, .int 8), (0, .ref h0), (1, .ref tq)] dX1_init_116 rfl (by decide) (by decide) rfl 119 rfl ?_
  refine vv_goto C 83 dX1_init_119 (by decide) ?_
  refine vv_iload_n C 0 dX1_init_83 rfl rfl 84 rfl ?_
  refine vv_bipush C (12 : Int32) dX1_init_84 (by decide) 86 rfl ?_
  refine vv_geF C dX1_init_86 122 (by decide) (by decide) 89 rfl ?_
  refine vv_aload_n C 1 dX1_init_89 rfl rfl 90 rfl ?_
  refine vv_get C clw_X1 0 rfl 1 (by decide) wc_317 (.ref q1) rfl dX1_init_90 93 rfl ?_
  refine vv_iload_n C 0 dX1_init_93 rfl rfl 94 rfl ?_
  refine vv_iload_n C 0 dX1_init_94 rfl rfl 95 rfl ?_
  refine vv_bipush C (6 : Int32) dX1_init_95 (by decide) 97 rfl ?_
  refine vv_irem C (2 : Int32) dX1_init_97 (by decide) (by decide) 98 rfl ?_
  refine vv_iastI C 2 ht0 rfl (vp_d (by decide) (by decide)) (by decide) [(h0, .inr (2, [.ref q0, .ref q1, .ref q2, .ref q3, .ref q4, .ref q5, .ref q6, .ref q7, .ref q8, .int 0, .int 0, .ref tq])), (q0, .inl (cI, 6, .inl (pl []))), (q1, .inl (cI, 12, .inl (pl [0, 1, 2, 3, 4, 5, 0, 1, 2]))), (q2, .inl (cI, 12, .inl (pl [20, 20, 20, 20, 20, 20, 20, 20]))), (q3, .inl (cI, 12, .inl (pl [0, 3, 6, 9, 12, 15, 18, 21]))), (q4, .inl (cI, 12, .inl (pl []))), (q5, .inl (cI, 6, .inl (pl []))), (q6, .inl (cI, 6, .inl (pl []))), (q7, .inl (cI, 6, .inl (pl []))), (q8, .inl (cI, 6, .inl (pl [])))] rfl dX1_init_98 99 rfl ?_
  refine vv_aload_n C 1 dX1_init_99 rfl rfl 100 rfl ?_
  refine vv_get C clw_X1 0 rfl 2 (by decide) wc_319 (.ref q2) rfl dX1_init_100 103 rfl ?_
  refine vv_iload_n C 0 dX1_init_103 rfl rfl 104 rfl ?_
  refine vv_bipush C (20 : Int32) dX1_init_104 (by decide) 106 rfl ?_
  refine vv_iastI C 3 ht0 rfl (vp_d (by decide) (by decide)) (by decide) [(h0, .inr (2, [.ref q0, .ref q1, .ref q2, .ref q3, .ref q4, .ref q5, .ref q6, .ref q7, .ref q8, .int 0, .int 0, .ref tq])), (q0, .inl (cI, 6, .inl (pl []))), (q1, .inl (cI, 12, .inl (pl [0, 1, 2, 3, 4, 5, 0, 1, 2]))), (q2, .inl (cI, 12, .inl (pl [20, 20, 20, 20, 20, 20, 20, 20, 20]))), (q3, .inl (cI, 12, .inl (pl [0, 3, 6, 9, 12, 15, 18, 21]))), (q4, .inl (cI, 12, .inl (pl []))), (q5, .inl (cI, 6, .inl (pl []))), (q6, .inl (cI, 6, .inl (pl []))), (q7, .inl (cI, 6, .inl (pl []))), (q8, .inl (cI, 6, .inl (pl [])))] rfl dX1_init_106 107 rfl ?_
  refine vv_aload_n C 1 dX1_init_107 rfl rfl 108 rfl ?_
  refine vv_get C clw_X1 0 rfl 3 (by decide) wc_321 (.ref q3) rfl dX1_init_108 111 rfl ?_
  refine vv_iload_n C 0 dX1_init_111 rfl rfl 112 rfl ?_
  refine vv_iconst C (3 : Int32) dX1_init_112 (by decide) 113 rfl ?_
  refine vv_iload_n C 0 dX1_init_113 rfl rfl 114 rfl ?_
  refine vv_imul C (24 : Int32) dX1_init_114 (by decide) 115 rfl ?_
  refine vv_iastI C 4 ht0 rfl (vp_d (by decide) (by decide)) (by decide) [(h0, .inr (2, [.ref q0, .ref q1, .ref q2, .ref q3, .ref q4, .ref q5, .ref q6, .ref q7, .ref q8, .int 0, .int 0, .ref tq])), (q0, .inl (cI, 6, .inl (pl []))), (q1, .inl (cI, 12, .inl (pl [0, 1, 2, 3, 4, 5, 0, 1, 2]))), (q2, .inl (cI, 12, .inl (pl [20, 20, 20, 20, 20, 20, 20, 20, 20]))), (q3, .inl (cI, 12, .inl (pl [0, 3, 6, 9, 12, 15, 18, 21, 24]))), (q4, .inl (cI, 12, .inl (pl []))), (q5, .inl (cI, 6, .inl (pl []))), (q6, .inl (cI, 6, .inl (pl []))), (q7, .inl (cI, 6, .inl (pl []))), (q8, .inl (cI, 6, .inl (pl [])))] rfl dX1_init_115 116 rfl ?_
  refine vv_iinc C 0 (9 : Int32) [(2, .int 9), (0, .ref h0), (1, .ref tq)] dX1_init_116 rfl (by decide) (by decide) rfl 119 rfl ?_
  refine vv_goto C 83 dX1_init_119 (by decide) ?_
  refine vv_iload_n C 0 dX1_init_83 rfl rfl 84 rfl ?_
  refine vv_bipush C (12 : Int32) dX1_init_84 (by decide) 86 rfl ?_
  refine vv_geF C dX1_init_86 122 (by decide) (by decide) 89 rfl ?_
  refine vv_aload_n C 1 dX1_init_89 rfl rfl 90 rfl ?_
  refine vv_get C clw_X1 0 rfl 1 (by decide) wc_317 (.ref q1) rfl dX1_init_90 93 rfl ?_
  refine vv_iload_n C 0 dX1_init_93 rfl rfl 94 rfl ?_
  refine vv_iload_n C 0 dX1_init_94 rfl rfl 95 rfl ?_
  refine vv_bipush C (6 : Int32) dX1_init_95 (by decide) 97 rfl ?_
  refine vv_irem C (3 : Int32) dX1_init_97 (by decide) (by decide) 98 rfl ?_
  refine vv_iastI C 2 ht0 rfl (vp_d (by decide) (by decide)) (by decide) [(h0, .inr (2, [.ref q0, .ref q1, .ref q2, .ref q3, .ref q4, .ref q5, .ref q6, .ref q7, .ref q8, .int 0, .int 0, .ref tq])), (q0, .inl (cI, 6, .inl (pl []))), (q1, .inl (cI, 12, .inl (pl [0, 1, 2, 3, 4, 5, 0, 1, 2, 3]))), (q2, .inl (cI, 12, .inl (pl [20, 20, 20, 20, 20, 20, 20, 20, 20]))), (q3, .inl (cI, 12, .inl (pl [0, 3, 6, 9, 12, 15, 18, 21, 24]))), (q4, .inl (cI, 12, .inl (pl []))), (q5, .inl (cI, 6, .inl (pl []))), (q6, .inl (cI, 6, .inl (pl []))), (q7, .inl (cI, 6, .inl (pl []))), (q8, .inl (cI, 6, .inl (pl [])))] rfl dX1_init_98 99 rfl ?_
  refine vv_aload_n C 1 dX1_init_99 rfl rfl 100 rfl ?_
  refine vv_get C clw_X1 0 rfl 2 (by decide) wc_319 (.ref q2) rfl dX1_init_100 103 rfl ?_
  refine vv_iload_n C 0 dX1_init_103 rfl rfl 104 rfl ?_
  refine vv_bipush C (20 : Int32) dX1_init_104 (by decide) 106 rfl ?_
  refine vv_iastI C 3 ht0 rfl (vp_d (by decide) (by decide)) (by decide) [(h0, .inr (2, [.ref q0, .ref q1, .ref q2, .ref q3, .ref q4, .ref q5, .ref q6, .ref q7, .ref q8, .int 0, .int 0, .ref tq])), (q0, .inl (cI, 6, .inl (pl []))), (q1, .inl (cI, 12, .inl (pl [0, 1, 2, 3, 4, 5, 0, 1, 2, 3]))), (q2, .inl (cI, 12, .inl (pl [20, 20, 20, 20, 20, 20, 20, 20, 20, 20]))), (q3, .inl (cI, 12, .inl (pl [0, 3, 6, 9, 12, 15, 18, 21, 24]))), (q4, .inl (cI, 12, .inl (pl []))), (q5, .inl (cI, 6, .inl (pl []))), (q6, .inl (cI, 6, .inl (pl []))), (q7, .inl (cI, 6, .inl (pl []))), (q8, .inl (cI, 6, .inl (pl [])))] rfl dX1_init_106 107 rfl ?_
  refine vv_aload_n C 1 dX1_init_107 rfl rfl 108 rfl ?_
  refine vv_get C clw_X1 0 rfl 3 (by decide) wc_321 (.ref q3) rfl dX1_init_108 111 rfl ?_
  refine vv_iload_n C 0 dX1_init_111 rfl rfl 112 rfl ?_
  refine vv_iconst C (3 : Int32) dX1_init_112 (by decide) 113 rfl ?_
  refine vv_iload_n C 0 dX1_init_113 rfl rfl 114 rfl ?_
  refine vv_imul C (27 : Int32) dX1_init_114 (by decide) 115 rfl ?_
  refine vv_iastI C 4 ht0 rfl (vp_d (by decide) (by decide)) (by decide) [(h0, .inr (2, [.ref q0, .ref q1, .ref q2, .ref q3, .ref q4, .ref q5, .ref q6, .ref q7, .ref q8, .int 0, .int 0, .ref tq])), (q0, .inl (cI, 6, .inl (pl []))), (q1, .inl (cI, 12, .inl (pl [0, 1, 2, 3, 4, 5, 0, 1, 2, 3]))), (q2, .inl (cI, 12, .inl (pl [20, 20, 20, 20, 20, 20, 20, 20, 20, 20]))), (q3, .inl (cI, 12, .inl (pl [0, 3, 6, 9, 12, 15, 18, 21, 24, 27]))), (q4, .inl (cI, 12, .inl (pl []))), (q5, .inl (cI, 6, .inl (pl []))), (q6, .inl (cI, 6, .inl (pl []))), (q7, .inl (cI, 6, .inl (pl []))), (q8, .inl (cI, 6, .inl (pl [])))] rfl dX1_init_115 116 rfl ?_
  refine vv_iinc C 0 (10 : Int32) [(2, .int 10), (0, .ref h0), (1, .ref tq)] dX1_init_116 rfl (by decide) (by decide) rfl 119 rfl ?_
  refine vv_goto C 83 dX1_init_119 (by decide) ?_
  refine vv_iload_n C 0 dX1_init_83 rfl rfl 84 rfl ?_
  refine vv_bipush C (12 : Int32) dX1_init_84 (by decide) 86 rfl ?_
  refine vv_geF C dX1_init_86 122 (by decide) (by decide) 89 rfl ?_
  refine vv_aload_n C 1 dX1_init_89 rfl rfl 90 rfl ?_
  refine vv_get C clw_X1 0 rfl 1 (by decide) wc_317 (.ref q1) rfl dX1_init_90 93 rfl ?_
  refine vv_iload_n C 0 dX1_init_93 rfl rfl 94 rfl ?_
  refine vv_iload_n C 0 dX1_init_94 rfl rfl 95 rfl ?_
  refine vv_bipush C (6 : Int32) dX1_init_95 (by decide) 97 rfl ?_
  refine vv_irem C (4 : Int32) dX1_init_97 (by decide) (by decide) 98 rfl ?_
  refine vv_iastI C 2 ht0 rfl (vp_d (by decide) (by decide)) (by decide) [(h0, .inr (2, [.ref q0, .ref q1, .ref q2, .ref q3, .ref q4, .ref q5, .ref q6, .ref q7, .ref q8, .int 0, .int 0, .ref tq])), (q0, .inl (cI, 6, .inl (pl []))), (q1, .inl (cI, 12, .inl (pl [0, 1, 2, 3, 4, 5, 0, 1, 2, 3, 4]))), (q2, .inl (cI, 12, .inl (pl [20, 20, 20, 20, 20, 20, 20, 20, 20, 20]))), (q3, .inl (cI, 12, .inl (pl [0, 3, 6, 9, 12, 15, 18, 21, 24, 27]))), (q4, .inl (cI, 12, .inl (pl []))), (q5, .inl (cI, 6, .inl (pl []))), (q6, .inl (cI, 6, .inl (pl []))), (q7, .inl (cI, 6, .inl (pl []))), (q8, .inl (cI, 6, .inl (pl [])))] rfl dX1_init_98 99 rfl ?_
  refine vv_aload_n C 1 dX1_init_99 rfl rfl 100 rfl ?_
  refine vv_get C clw_X1 0 rfl 2 (by decide) wc_319 (.ref q2) rfl dX1_init_100 103 rfl ?_
  refine vv_iload_n C 0 dX1_init_103 rfl rfl 104 rfl ?_
  refine vv_bipush C (20 : Int32) dX1_init_104 (by decide) 106 rfl ?_
  refine vv_iastI C 3 ht0 rfl (vp_d (by decide) (by decide)) (by decide) [(h0, .inr (2, [.ref q0, .ref q1, .ref q2, .ref q3, .ref q4, .ref q5, .ref q6, .ref q7, .ref q8, .int 0, .int 0, .ref tq])), (q0, .inl (cI, 6, .inl (pl []))), (q1, .inl (cI, 12, .inl (pl [0, 1, 2, 3, 4, 5, 0, 1, 2, 3, 4]))), (q2, .inl (cI, 12, .inl (pl [20, 20, 20, 20, 20, 20, 20, 20, 20, 20, 20]))), (q3, .inl (cI, 12, .inl (pl [0, 3, 6, 9, 12, 15, 18, 21, 24, 27]))), (q4, .inl (cI, 12, .inl (pl []))), (q5, .inl (cI, 6, .inl (pl []))), (q6, .inl (cI, 6, .inl (pl []))), (q7, .inl (cI, 6, .inl (pl []))), (q8, .inl (cI, 6, .inl (pl [])))] rfl dX1_init_106 107 rfl ?_
  refine vv_aload_n C 1 dX1_init_107 rfl rfl 108 rfl ?_
  refine vv_get C clw_X1 0 rfl 3 (by decide) wc_321 (.ref q3) rfl dX1_init_108 111 rfl ?_
  refine vv_iload_n C 0 dX1_init_111 rfl rfl 112 rfl ?_
  refine vv_iconst C (3 : Int32) dX1_init_112 (by decide) 113 rfl ?_
  refine vv_iload_n C 0 dX1_init_113 rfl rfl 114 rfl ?_
  refine vv_imul C (30 : Int32) dX1_init_114 (by decide) 115 rfl ?_
  refine vv_iastI C 4 ht0 rfl (vp_d (by decide) (by decide)) (by decide) [(h0, .inr (2, [.ref q0, .ref q1, .ref q2, .ref q3, .ref q4, .ref q5, .ref q6, .ref q7, .ref q8, .int 0, .int 0, .ref tq])), (q0, .inl (cI, 6, .inl (pl []))), (q1, .inl (cI, 12, .inl (pl [0, 1, 2, 3, 4, 5, 0, 1, 2, 3, 4]))), (q2, .inl (cI, 12, .inl (pl [20, 20, 20, 20, 20, 20, 20, 20, 20, 20, 20]))), (q3, .inl (cI, 12, .inl (pl [0, 3, 6, 9, 12, 15, 18, 21, 24, 27, 30]))), (q4, .inl (cI, 12, .inl (pl []))), (q5, .inl (cI, 6, .inl (pl []))), (q6, .inl (cI, 6, .inl (pl []))), (q7, .inl (cI, 6, .inl (pl []))), (q8, .inl (cI, 6, .inl (pl [])))] rfl dX1_init_115 116 rfl ?_
  refine vv_iinc C 0 (11 : Int32) [(2, .int 11), (0, .ref h0), (1, .ref tq)] dX1_init_116 rfl (by decide) (by decide) rfl 119 rfl ?_
  refine vv_goto C 83 dX1_init_119 (by decide) ?_
  refine vv_iload_n C 0 dX1_init_83 rfl rfl 84 rfl ?_
  refine vv_bipush C (12 : Int32) dX1_init_84 (by decide) 86 rfl ?_
  refine vv_geF C dX1_init_86 122 (by decide) (by decide) 89 rfl ?_
  refine vv_aload_n C 1 dX1_init_89 rfl rfl 90 rfl ?_
  refine vv_get C clw_X1 0 rfl 1 (by decide) wc_317 (.ref q1) rfl dX1_init_90 93 rfl ?_
  refine vv_iload_n C 0 dX1_init_93 rfl rfl 94 rfl ?_
  refine vv_iload_n C 0 dX1_init_94 rfl rfl 95 rfl ?_
  refine vv_bipush C (6 : Int32) dX1_init_95 (by decide) 97 rfl ?_
  refine vv_irem C (5 : Int32) dX1_init_97 (by decide) (by decide) 98 rfl ?_
  refine vv_iastI C 2 ht0 rfl (vp_d (by decide) (by decide)) (by decide) [(h0, .inr (2, [.ref q0, .ref q1, .ref q2, .ref q3, .ref q4, .ref q5, .ref q6, .ref q7, .ref q8, .int 0, .int 0, .ref tq])), (q0, .inl (cI, 6, .inl (pl []))), (q1, .inl (cI, 12, .inl (pl [0, 1, 2, 3, 4, 5, 0, 1, 2, 3, 4, 5]))), (q2, .inl (cI, 12, .inl (pl [20, 20, 20, 20, 20, 20, 20, 20, 20, 20, 20]))), (q3, .inl (cI, 12, .inl (pl [0, 3, 6, 9, 12, 15, 18, 21, 24, 27, 30]))), (q4, .inl (cI, 12, .inl (pl []))), (q5, .inl (cI, 6, .inl (pl []))), (q6, .inl (cI, 6, .inl (pl []))), (q7, .inl (cI, 6, .inl (pl []))), (q8, .inl (cI, 6, .inl (pl [])))] rfl dX1_init_98 99 rfl ?_
  refine vv_aload_n C 1 dX1_init_99 rfl rfl 100 rfl ?_
  refine vv_get C clw_X1 0 rfl 2 (by decide) wc_319 (.ref q2) rfl dX1_init_100 103 rfl ?_
  refine vv_iload_n C 0 dX1_init_103 rfl rfl 104 rfl ?_
  refine vv_bipush C (20 : Int32) dX1_init_104 (by decide) 106 rfl ?_
  refine vv_iastI C 3 ht0 rfl (vp_d (by decide) (by decide)) (by decide) [(h0, .inr (2, [.ref q0, .ref q1, .ref q2, .ref q3, .ref q4, .ref q5, .ref q6, .ref q7, .ref q8, .int 0, .int 0, .ref tq])), (q0, .inl (cI, 6, .inl (pl []))), (q1, .inl (cI, 12, .inl (pl [0, 1, 2, 3, 4, 5, 0, 1, 2, 3, 4, 5]))), (q2, .inl (cI, 12, .inl (pl [20, 20, 20, 20, 20, 20, 20, 20, 20, 20, 20, 20]))), (q3, .inl (cI, 12, .inl (pl [0, 3, 6, 9, 12, 15, 18, 21, 24, 27, 30]))), (q4, .inl (cI, 12, .inl (pl []))), (q5, .inl (cI, 6, .inl (pl []))), (q6, .inl (cI, 6, .inl (pl []))), (q7, .inl (cI, 6, .inl (pl []))), (q8, .inl (cI, 6, .inl (pl [])))] rfl dX1_init_106 107 rfl ?_
  refine vv_aload_n C 1 dX1_init_107 rfl rfl 108 rfl ?_
  refine vv_get C clw_X1 0 rfl 3 (by decide) wc_321 (.ref q3) rfl dX1_init_108 111 rfl ?_
  refine vv_iload_n C 0 dX1_init_111 rfl rfl 112 rfl ?_
  refine vv_iconst C (3 : Int32) dX1_init_112 (by decide) 113 rfl ?_
  refine vv_iload_n C 0 dX1_init_113 rfl rfl 114 rfl ?_
  refine vv_imul C (33 : Int32) dX1_init_114 (by decide) 115 rfl ?_
  refine vv_iastI C 4 ht0 rfl (vp_d (by decide) (by decide)) (by decide) [(h0, .inr (2, [.ref q0, .ref q1, .ref q2, .ref q3, .ref q4, .ref q5, .ref q6, .ref q7, .ref q8, .int 0, .int 0, .ref tq])), (q0, .inl (cI, 6, .inl (pl []))), (q1, .inl (cI, 12, .inl (pl [0, 1, 2, 3, 4, 5, 0, 1, 2, 3, 4, 5]))), (q2, .inl (cI, 12, .inl (pl [20, 20, 20, 20, 20, 20, 20, 20, 20, 20, 20, 20]))), (q3, .inl (cI, 12, .inl (pl [0, 3, 6, 9, 12, 15, 18, 21, 24, 27, 30, 33]))), (q4, .inl (cI, 12, .inl (pl []))), (q5, .inl (cI, 6, .inl (pl []))), (q6, .inl (cI, 6, .inl (pl []))), (q7, .inl (cI, 6, .inl (pl []))), (q8, .inl (cI, 6, .inl (pl [])))] rfl dX1_init_115 116 rfl ?_
  refine vv_iinc C 0 (12 : Int32) [(2, .int 12), (0, .ref h0), (1, .ref tq)] dX1_init_116 rfl (by decide) (by decide) rfl 119 rfl ?_
  refine vv_goto C 83 dX1_init_119 (by decide) ?_
  refine vv_iload_n C 0 dX1_init_83 rfl rfl 84 rfl ?_
  refine vv_bipush C (12 : Int32) dX1_init_84 (by decide) 86 rfl ?_
  refine vv_geT C 122 dX1_init_86 (by decide) (by decide) ?_
  exact vv_vret C (q0, q1, q2, q3, q4, q5, q6, q7, q8) rfl (Nat.le_of_ble_eq_true rfl) (Nat.le_of_ble_eq_true rfl) dX1_init_122 hr
theorem cmc_X1_init : Cond.instanceMethod yX1_init ∈ TT ∧ Cond.initialized yX1_init.cls ∈ TT ∧ Cond.code yX1_init cX1_init 3 none ∈ TT ∧ (yX1_init.cls ≠ "java/lang/invoke/MethodHandle" ∧ yX1_init.cls ≠ "java/lang/invoke/VarHandle" ∧ (parseMethodDescriptor yX1_init.desc).map (fun d => d.parameters.length) = some 1) := ⟨TT_of (i := 476) (by decide +kernel) rfl, TT_of (i := 26) (by decide +kernel) rfl, TT_of (i := 477) (by decide +kernel) rfl, by decide +kernel⟩
