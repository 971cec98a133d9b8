set_option maxRecDepth 100000 in
set_option maxHeartbeats 4000000 in
theorem k_J6_bitCount_0f7a4 {l : Launch} {D : va_G} {ad : Nat → Nat} {cA : Nat → ClassId} {tys : List (ClassId × FieldType)} {n : Nat} {sa : SA} (hn : 73 ≤ n) {N : Nat} {g : Mem} {a1 : Int32} {r : Int32} {g1 : Mem} (h : J6_bitCount_0f7a4 N a1 g = some (r, g1)) : CTi l yJ6_bitCount_0f7a4 (wsm yJ6_bitCount_0f7a4 cJ6_bitCount_0f7a4 1 (some .int)) 1 D YI ad cA tys n sa g [.int a1] r g1 := by
  refine ct_of RJ6 rfl (by decide +kernel) (Nat.le_of_ble_eq_true rfl) rfl (fun sz => PBi D YI ad cA n r g1 sz) ?_
  intro p e R s m args below meth c C hr
  rw [J6_bitCount_0f7a4] at h
  refine ww_iload_n C 0 dJ6_bitCount_0f7a4_0 rfl rfl 1 rfl ?_
  refine ww_iload_n C 0 dJ6_bitCount_0f7a4_1 rfl rfl 2 rfl ?_
  refine ww_iconst C (1 : Int32) dJ6_bitCount_0f7a4_2 (by decide) 3 rfl ?_
  refine ww_iushr C dJ6_bitCount_0f7a4_3 4 rfl ?_
  refine ww_ldcw C (1431655765 : Int32) w_239 dJ6_bitCount_0f7a4_4 7 rfl ?_
  refine ww_iand C dJ6_bitCount_0f7a4_7 8 rfl ?_
  refine ww_isub C dJ6_bitCount_0f7a4_8 9 rfl ?_
  refine ww_bi h (fun v6 h => ?_)
  refine ww_istore_n C [(0, .int v6)] dJ6_bitCount_0f7a4_9 rfl (by decide) rfl 10 rfl ?_
  refine ww_iload_n C 0 dJ6_bitCount_0f7a4_10 rfl rfl 11 rfl ?_
  refine ww_ldcw C (858993459 : Int32) w_240 dJ6_bitCount_0f7a4_11 14 rfl ?_
  refine ww_iand C dJ6_bitCount_0f7a4_14 15 rfl ?_
  refine ww_iload_n C 0 dJ6_bitCount_0f7a4_15 rfl rfl 16 rfl ?_
  refine ww_iconst C (2 : Int32) dJ6_bitCount_0f7a4_16 (by decide) 17 rfl ?_
  refine ww_iushr C dJ6_bitCount_0f7a4_17 18 rfl ?_
  refine ww_ldcw C (858993459 : Int32) w_240 dJ6_bitCount_0f7a4_18 21 rfl ?_
  refine ww_iand C dJ6_bitCount_0f7a4_21 22 rfl ?_
  refine ww_iadd C dJ6_bitCount_0f7a4_22 23 rfl ?_
  refine ww_bi h (fun v7 h => ?_)
  refine ww_istore_n C [(0, .int v7)] dJ6_bitCount_0f7a4_23 rfl (by decide) rfl 24 rfl ?_
  refine ww_iload_n C 0 dJ6_bitCount_0f7a4_24 rfl rfl 25 rfl ?_
  refine ww_iload_n C 0 dJ6_bitCount_0f7a4_25 rfl rfl 26 rfl ?_
  refine ww_iconst C (4 : Int32) dJ6_bitCount_0f7a4_26 (by decide) 27 rfl ?_
  refine ww_iushr C dJ6_bitCount_0f7a4_27 28 rfl ?_
  refine ww_iadd C dJ6_bitCount_0f7a4_28 29 rfl ?_
  refine ww_ldcw C (252645135 : Int32) w_241 dJ6_bitCount_0f7a4_29 32 rfl ?_
  refine ww_iand C dJ6_bitCount_0f7a4_32 33 rfl ?_
  refine ww_bi h (fun v8 h => ?_)
  refine ww_istore_n C [(0, .int v8)] dJ6_bitCount_0f7a4_33 rfl (by decide) rfl 34 rfl ?_
  refine ww_iload_n C 0 dJ6_bitCount_0f7a4_34 rfl rfl 35 rfl ?_
  refine ww_iload_n C 0 dJ6_bitCount_0f7a4_35 rfl rfl 36 rfl ?_
  refine ww_bipush C (8 : Int32) dJ6_bitCount_0f7a4_36 (by decide) 38 rfl ?_
  refine ww_iushr C dJ6_bitCount_0f7a4_38 39 rfl ?_
  refine ww_iadd C dJ6_bitCount_0f7a4_39 40 rfl ?_
  refine ww_bi h (fun v9 h => ?_)
  refine ww_istore_n C [(0, .int v9)] dJ6_bitCount_0f7a4_40 rfl (by decide) rfl 41 rfl ?_
  refine ww_iload_n C 0 dJ6_bitCount_0f7a4_41 rfl rfl 42 rfl ?_
  refine ww_iload_n C 0 dJ6_bitCount_0f7a4_42 rfl rfl 43 rfl ?_
  refine ww_bipush C (16 : Int32) dJ6_bitCount_0f7a4_43 (by decide) 45 rfl ?_
  refine ww_iushr C dJ6_bitCount_0f7a4_45 46 rfl ?_
  refine ww_iadd C dJ6_bitCount_0f7a4_46 47 rfl ?_
  refine ww_bi h (fun v10 h => ?_)
  refine ww_istore_n C [(0, .int v10)] dJ6_bitCount_0f7a4_47 rfl (by decide) rfl 48 rfl ?_
  refine ww_iload_n C 0 dJ6_bitCount_0f7a4_48 rfl rfl 49 rfl ?_
  refine ww_bipush C (63 : Int32) dJ6_bitCount_0f7a4_49 (by decide) 51 rfl ?_
  refine ww_iand C dJ6_bitCount_0f7a4_51 52 rfl ?_
  exact ww_iret C dJ6_bitCount_0f7a4_52 hr h

set_option maxRecDepth 100000 in
set_option maxHeartbeats 4000000 in
theorem k_X5_isWithin {l : Launch} {D : va_G} {ad : Nat → Nat} {cA : Nat → ClassId} {tys : List (ClassId × FieldType)} {n : Nat} {sa : SA} (hn : 73 ≤ n) {N : Nat} {g : Mem} {a1 : Int32} {a2 : Int32} {r : Int32} {g1 : Mem} (h : X5_isWithin N a1 a2 g = some (r, g1)) : CTi l yX5_isWithin (wsm yX5_isWithin cX5_isWithin 2 (some .boolean)) 1 D YI ad cA tys n sa g [.int a1, .int a2] r g1 := by
  refine ct_of RX5 rfl (by decide +kernel) (Nat.le_of_ble_eq_true rfl) rfl (fun sz => PBi D YI ad cA n r g1 sz) ?_
  intro p e R s m args below meth c C hr
  rw [X5_isWithin] at h
  refine ww_iload_n C 0 dX5_isWithin_0 rfl rfl 1 rfl ?_
  refine ww_if_lt C 13 dX5_isWithin_1 (by decide) h 4 rfl (fun h => ?_) (fun h => ?_)
  · refine ww_iconst C (0 : Int32) dX5_isWithin_13 (by decide) 14 rfl ?_
    exact ww_zret C dX5_isWithin_14 hr rfl h
  · refine ww_iload_n C 0 dX5_isWithin_4 rfl rfl 5 rfl ?_
    refine ww_iload_n C 1 dX5_isWithin_5 rfl rfl 6 rfl ?_
    refine ww_icmp_gt C 13 dX5_isWithin_6 (by decide) h 9 rfl (fun h => ?_) (fun h => ?_)
    · refine ww_iconst C (0 : Int32) dX5_isWithin_13 (by decide) 14 rfl ?_
      exact ww_zret C dX5_isWithin_14 hr rfl h
    · refine ww_iconst C (1 : Int32) dX5_isWithin_9 (by decide) 10 rfl ?_
      refine ww_goto C 14 dX5_isWithin_10 (by decide) ?_
      exact ww_zret C dX5_isWithin_14 hr rfl h

set_option maxRecDepth 100000 in
set_option maxHeartbeats 4000000 in
theorem k_X5_isCask {l : Launch} {D : va_G} {ad : Nat → Nat} {cA : Nat → ClassId} {tys : List (ClassId × FieldType)} {n : Nat} {sa : SA} (hn : 73 ≤ n) {N : Nat} {g : Mem} {a1 : Int32} {r : Int32} {g1 : Mem} (h : X5_isCask N a1 g = some (r, g1)) : CTi l yX5_isCask (wsm yX5_isCask cX5_isCask 1 (some .boolean)) 2 D YI ad cA tys n sa g [.int a1] r g1 := by
  refine ct_of RX5 rfl (by decide +kernel) (Nat.le_of_ble_eq_true rfl) rfl (fun sz => PBi D YI ad cA n r g1 sz) ?_
  intro p e R s m args below meth c C hr
  rw [X5_isCask] at h
  refine ww_iload_n C 0 dX5_isCask_0 rfl rfl 1 rfl ?_
  refine ww_bipush C (11 : Int32) dX5_isCask_1 (by decide) 3 rfl ?_
  refine ww_callSi C (As := [.int a1, .int (11 : Int32)]) (st := []) h (fun _ _ hF => k_X5_isWithin hn hF) w_43 cm_X5_isWithin (by decide) (by decide) rfl rfl (Nat.le_of_ble_eq_true rfl) dX5_isCask_3 6 rfl (fun v4 u3 h => ?_)
  exact ww_zretG C dX5_isCask_6 hr h

set_option maxRecDepth 100000 in
set_option maxHeartbeats 4000000 in
theorem k_X5_isSort {l : Launch} {D : va_G} {ad : Nat → Nat} {cA : Nat → ClassId} {tys : List (ClassId × FieldType)} {n : Nat} {sa : SA} (hn : 73 ≤ n) {N : Nat} {g : Mem} {a1 : Int32} {r : Int32} {g1 : Mem} (h : X5_isSort N a1 g = some (r, g1)) : CTi l yX5_isSort (wsm yX5_isSort cX5_isSort 1 (some .boolean)) 2 D YI ad cA tys n sa g [.int a1] r g1 := by
  refine ct_of RX5 rfl (by decide +kernel) (Nat.le_of_ble_eq_true rfl) rfl (fun sz => PBi D YI ad cA n r g1 sz) ?_
  intro p e R s m args below meth c C hr
  rw [X5_isSort] at h
  refine ww_iload_n C 0 dX5_isSort_0 rfl rfl 1 rfl ?_
  refine ww_iconst C (5 : Int32) dX5_isSort_1 (by decide) 2 rfl ?_
  refine ww_callSi C (As := [.int a1, .int (5 : Int32)]) (st := []) h (fun _ _ hF => k_X5_isWithin hn hF) w_43 cm_X5_isWithin (by decide) (by decide) rfl rfl (Nat.le_of_ble_eq_true rfl) dX5_isSort_2 5 rfl (fun v4 u3 h => ?_)
  exact ww_zretG C dX5_isSort_5 hr h

set_option maxRecDepth 100000 in
set_option maxHeartbeats 4000000 in
theorem k_X0_reach {l : Launch} {D : va_G} {ad : Nat → Nat} {cA : Nat → ClassId} {tys : List (ClassId × FieldType)} {n : Nat} {sa : SA} (hn : 73 ≤ n) {N : Nat} {g : Mem} {a1 : Int32} {a2 : Int32} {a3 : Int32} {r : Int32} {g1 : Mem} (h : X0_reach N a1 a2 a3 g = some (r, g1)) : CTi l yX0_reach (wsm yX0_reach cX0_reach 3 (some .int)) 1 D YI ad cA tys n sa g [.int a1, .int a2, .int a3] r g1 := by
  refine ct_of RX0 rfl (by decide +kernel) (Nat.le_of_ble_eq_true rfl) rfl (fun sz => PBi D YI ad cA n r g1 sz) ?_
  intro p e R s m args below meth c C hr
  rw [X0_reach] at h
  refine ww_iload_n C 0 dX0_reach_0 rfl rfl 1 rfl ?_
  refine sw_1 h (fun e11 h => ?_) (fun n12 h => ?_)
  · refine ww_tin C (v := (1 : Int32)) e11 36 dX0_reach_1 (by decide) (by decide) rfl (by decide) ?_
    refine ww_iload_n C 1 dX0_reach_36 rfl rfl 37 rfl ?_
    refine ww_iconst C (2 : Int32) dX0_reach_37 (by decide) 38 rfl ?_
    refine ww_idiv C dX0_reach_38 h 39 rfl (fun h => ?_)
    refine ww_iload_n C 2 dX0_reach_39 rfl rfl 40 rfl ?_
    refine ww_iadd C dX0_reach_40 41 rfl ?_
    exact ww_iret C dX0_reach_41 hr h
  refine sw_1 h (fun e13 h => ?_) (fun n14 h => ?_)
  · refine ww_tin C (v := (2 : Int32)) e13 42 dX0_reach_1 (by decide) (by decide) rfl (by decide) ?_
    refine ww_iload_n C 1 dX0_reach_42 rfl rfl 43 rfl ?_
    refine ww_bipush C (10 : Int32) dX0_reach_43 (by decide) 45 rfl ?_
    refine ww_iadd C dX0_reach_45 46 rfl ?_
    exact ww_iret C dX0_reach_46 hr h
  refine sw_1 h (fun e15 h => ?_) (fun n16 h => ?_)
  · refine ww_tin C (v := (3 : Int32)) e15 47 dX0_reach_1 (by decide) (by decide) rfl (by decide) ?_
    refine ww_iload_n C 1 dX0_reach_47 rfl rfl 48 rfl ?_
    refine ww_iconst C (2 : Int32) dX0_reach_48 (by decide) 49 rfl ?_
    refine ww_idiv C dX0_reach_49 h 50 rfl (fun h => ?_)
    refine ww_iload_n C 2 dX0_reach_50 rfl rfl 51 rfl ?_
    refine ww_iadd C dX0_reach_51 52 rfl ?_
    refine ww_iload_n C 2 dX0_reach_52 rfl rfl 53 rfl ?_
    refine ww_iadd C dX0_reach_53 54 rfl ?_
    exact ww_iret C dX0_reach_54 hr h
  refine sw_1 h (fun e17 h => ?_) (fun n18 h => ?_)
  · refine ww_tin C (v := (4 : Int32)) e17 55 dX0_reach_1 (by decide) (by decide) rfl (by decide) ?_
    refine ww_iload_n C 2 dX0_reach_55 rfl rfl 56 rfl ?_
    exact ww_iret C dX0_reach_56 hr h
  refine sw_1 h (fun e19 h => ?_) (fun n20 h => ?_)
  · refine ww_tin C (v := (5 : Int32)) e19 57 dX0_reach_1 (by decide) (by decide) rfl (by decide) ?_
    refine ww_bipush C (99 : Int32) dX0_reach_57 (by decide) 59 rfl ?_
    exact ww_iret C dX0_reach_59 hr h
  refine ww_tout C 60 dX0_reach_1 (by have q0 := sw_ne (z := 1) n12 rfl; have q1 := sw_ne (z := 2) n14 rfl; have q2 := sw_ne (z := 3) n16 rfl; have q3 := sw_ne (z := 4) n18 rfl; have q4 := sw_ne (z := 5) n20 rfl; omega) (by decide) ?_
  refine ww_iload_n C 1 dX0_reach_60 rfl rfl 61 rfl ?_
  exact ww_iret C dX0_reach_61 hr h

set_option maxRecDepth 100000 in
set_option maxHeartbeats 4000000 in
theorem k_X0_cost {l : Launch} {D : va_G} {ad : Nat → Nat} {cA : Nat → ClassId} {tys : List (ClassId × FieldType)} {n : Nat} {sa : SA} (hn : 73 ≤ n) {N : Nat} {g : Mem} {a1 : Int32} {a2 : Int32} {a3 : Int32} {a4 : Int32} {a5 : Int32} {r : Int32} {g1 : Mem} (h : X0_cost N a1 a2 a3 a4 a5 g = some (r, g1)) : CTi l yX0_cost (wsm yX0_cost cX0_cost 5 (some .int)) 1 D YI ad cA tys n sa g [.int a1, .int a2, .int a3, .int a4, .int a5] r g1 := by
  refine ct_of RX0 rfl (by decide +kernel) (Nat.le_of_ble_eq_true rfl) rfl (fun sz => PBi D YI ad cA n r g1 sz) ?_
  intro p e R s m args below meth c C hr
  rw [X0_cost] at h
  refine ww_iload_n C 0 dX0_cost_0 rfl rfl 1 rfl ?_
  refine sw_1 h (fun e7 h => ?_) (fun n8 h => ?_)
  · refine ww_tin C (v := (2 : Int32)) e7 28 dX0_cost_1 (by decide) (by decide) rfl (by decide) ?_
    refine ww_iload_n C 3 dX0_cost_28 rfl rfl 29 rfl ?_
    refine ww_if_ne C 38 dX0_cost_29 (by decide) h 32 rfl (fun h => ?_) (fun h => ?_)
    · refine ww_iload_n C 1 dX0_cost_38 rfl rfl 39 rfl ?_
      refine ww_iload_n C 2 dX0_cost_39 rfl rfl 40 rfl ?_
      refine ww_iadd C dX0_cost_40 41 rfl ?_
      exact ww_iret C dX0_cost_41 hr h
    · refine ww_iload_n C 1 dX0_cost_32 rfl rfl 33 rfl ?_
      refine ww_iconst C (2 : Int32) dX0_cost_33 (by decide) 34 rfl ?_
      refine ww_idiv C dX0_cost_34 h 35 rfl (fun h => ?_)
      refine ww_goto C 41 dX0_cost_35 (by decide) ?_
      exact ww_iret C dX0_cost_41 hr h
  refine sw_1 h (fun e9 h => ?_) (fun n10 h => ?_)
  · refine ww_tin C (v := (3 : Int32)) e9 42 dX0_cost_1 (by decide) (by decide) rfl (by decide) ?_
    refine ww_iload C 4 dX0_cost_42 rfl 44 rfl ?_
    refine ww_iconst C (4 : Int32) dX0_cost_44 (by decide) 45 rfl ?_
    refine ww_irem C dX0_cost_45 h 46 rfl (fun h => ?_)
    refine ww_if_ne C 53 dX0_cost_46 (by decide) h 49 rfl (fun h => ?_) (fun h => ?_)
    · refine ww_iload_n C 1 dX0_cost_53 rfl rfl 54 rfl ?_
      exact ww_iret C dX0_cost_54 hr h
    · refine ww_iconst C (0 : Int32) dX0_cost_49 (by decide) 50 rfl ?_
      refine ww_goto C 54 dX0_cost_50 (by decide) ?_
      exact ww_iret C dX0_cost_54 hr h
  refine sw_1 h (fun e11 h => ?_) (fun n12 h => ?_)
  · refine ww_tin C (v := (4 : Int32)) e11 28 dX0_cost_1 (by decide) (by decide) rfl (by decide) ?_
    refine ww_iload_n C 3 dX0_cost_28 rfl rfl 29 rfl ?_
    refine ww_if_ne C 38 dX0_cost_29 (by decide) h 32 rfl (fun h => ?_) (fun h => ?_)
    · refine ww_iload_n C 1 dX0_cost_38 rfl rfl 39 rfl ?_
      refine ww_iload_n C 2 dX0_cost_39 rfl rfl 40 rfl ?_
      refine ww_iadd C dX0_cost_40 41 rfl ?_
      exact ww_iret C dX0_cost_41 hr h
    · refine ww_iload_n C 1 dX0_cost_32 rfl rfl 33 rfl ?_
      refine ww_iconst C (2 : Int32) dX0_cost_33 (by decide) 34 rfl ?_
      refine ww_idiv C dX0_cost_34 h 35 rfl (fun h => ?_)
      refine ww_goto C 41 dX0_cost_35 (by decide) ?_
      exact ww_iret C dX0_cost_41 hr h
  refine ww_tout C 55 dX0_cost_1 (by have q0 := sw_ne (z := 2) n8 rfl; have q1 := sw_ne (z := 3) n10 rfl; have q2 := sw_ne (z := 4) n12 rfl; omega) (by decide) ?_
  refine ww_iload_n C 1 dX0_cost_55 rfl rfl 56 rfl ?_
  exact ww_iret C dX0_cost_56 hr h

set_option maxRecDepth 100000 in
set_option maxHeartbeats 4000000 in
theorem k_X0_breathing {l : Launch} {D : va_G} {ad : Nat → Nat} {cA : Nat → ClassId} {tys : List (ClassId × FieldType)} {n : Nat} {sa : SA} (hn : 73 ≤ n) {N : Nat} {g : Mem} {a1 : Int32} {a2 : Int32} {r : Int32} {g1 : Mem} (h : X0_breathing N a1 a2 g = some (r, g1)) : CTi l yX0_breathing (wsm yX0_breathing cX0_breathing 2 (some .int)) 1 D YI ad cA tys n sa g [.int a1, .int a2] r g1 := by
  refine ct_of RX0 rfl (by decide +kernel) (Nat.le_of_ble_eq_true rfl) rfl (fun sz => PBi D YI ad cA n r g1 sz) ?_
  intro p e R s m args below meth c C hr
  rw [X0_breathing] at h
  refine ww_iload_n C 0 dX0_breathing_0 rfl rfl 1 rfl ?_
  refine sw_1 h (fun e11 h => ?_) (fun n12 h => ?_)
  · refine ww_tin C (v := (1 : Int32)) e11 36 dX0_breathing_1 (by decide) (by decide) rfl (by decide) ?_
    refine ww_bipush C (10 : Int32) dX0_breathing_36 (by decide) 38 rfl ?_
    exact ww_iret C dX0_breathing_38 hr h
  refine sw_1 h (fun e13 h => ?_) (fun n14 h => ?_)
  · refine ww_tin C (v := (2 : Int32)) e13 45 dX0_breathing_1 (by decide) (by decide) rfl (by decide) ?_
    refine ww_iconst C (5 : Int32) dX0_breathing_45 (by decide) 46 rfl ?_
    exact ww_iret C dX0_breathing_46 hr h
  refine sw_1 h (fun e15 h => ?_) (fun n16 h => ?_)
  · refine ww_tin C (v := (3 : Int32)) e15 36 dX0_breathing_1 (by decide) (by decide) rfl (by decide) ?_
    refine ww_bipush C (10 : Int32) dX0_breathing_36 (by decide) 38 rfl ?_
    exact ww_iret C dX0_breathing_38 hr h
  refine sw_1 h (fun e17 h => ?_) (fun n18 h => ?_)
  · refine ww_tin C (v := (4 : Int32)) e17 39 dX0_breathing_1 (by decide) (by decide) rfl (by decide) ?_
    refine ww_iconst C (5 : Int32) dX0_breathing_39 (by decide) 40 rfl ?_
    refine ww_iload_n C 1 dX0_breathing_40 rfl rfl 41 rfl ?_
    refine ww_iadd C dX0_breathing_41 42 rfl ?_
    exact ww_iret C dX0_breathing_42 hr h
  refine sw_1 h (fun e19 h => ?_) (fun n20 h => ?_)
  · refine ww_tin C (v := (5 : Int32)) e19 43 dX0_breathing_1 (by decide) (by decide) rfl (by decide) ?_
    refine ww_iconst C (0 : Int32) dX0_breathing_43 (by decide) 44 rfl ?_
    exact ww_iret C dX0_breathing_44 hr h
  refine ww_tout C 45 dX0_breathing_1 (by have q0 := sw_ne (z := 1) n12 rfl; have q1 := sw_ne (z := 2) n14 rfl; have q2 := sw_ne (z := 3) n16 rfl; have q3 := sw_ne (z := 4) n18 rfl; have q4 := sw_ne (z := 5) n20 rfl; omega) (by decide) ?_
  refine ww_iconst C (5 : Int32) dX0_breathing_45 (by decide) 46 rfl ?_
  exact ww_iret C dX0_breathing_46 hr h

