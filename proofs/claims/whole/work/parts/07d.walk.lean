set_option maxRecDepth 100000 in
set_option maxHeartbeats 4000000 in
theorem k_X5_count {l : Launch} {D : va_G} {ad : Nat → Nat} {cA : Nat → ClassId} {tys : List (ClassId × FieldType)} {n : Nat} {sa : Nat → Nat} (hn : 73 ≤ n) {N : Nat} {g : Mem} {a1 : Int32} {r : Int32} {g1 : Mem} (h : X5_count N a1 g = some (r, g1)) : CTi l yX5_count (wsm yX5_count cX5_count 2 (some .int)) 2 D YI ad cA tys n sa g [.ref (ad 72), .int a1] r g1 := by
  refine ct_of RX5 rfl (by decide +kernel) (Nat.le_of_ble_eq_true rfl) rfl (fun sz => PBi D YI ad cA n r g1 sz) ?_
  intro p e R s m args below meth c C hr
  rw [X5_count] at h
  refine ww_iload_n C 1 dX5_count_0 rfl rfl 1 rfl ?_
  refine sw_1 h (fun e24 h => ?_) (fun n25 h => ?_)
  · refine ww_tin C (v := (0 : Int32)) e24 44 dX5_count_1 (by decide) (by decide) rfl (by decide) ?_
    refine ww_aload_n C 0 dX5_count_44 rfl rfl 45 rfl ?_
    refine ww_getS C cl_X5 (obX hn) 4 (by decide) rfl 42 rfl w_369 dX5_count_45 48 rfl ?_
    refine ww_getI C cl_X1 (obScene (by decide) hn) 9 (by decide) rfl w_333 dX5_count_48 51 rfl ?_
    exact ww_iret C dX5_count_51 hr h
  refine sw_1 h (fun e26 h => ?_) (fun n27 h => ?_)
  · refine ww_tin C (v := (1 : Int32)) e26 52 dX5_count_1 (by decide) (by decide) rfl (by decide) ?_
    refine ww_aload_n C 0 dX5_count_52 rfl rfl 53 rfl ?_
    refine ww_getS C cl_X5 (obX hn) 4 (by decide) rfl 42 rfl w_369 dX5_count_53 56 rfl ?_
    refine ww_iconst C (0 : Int32) dX5_count_56 (by decide) 57 rfl ?_
    refine ww_callVi C (As := [.int (0 : Int32)]) (st := []) h cl_X1.1 (obScene (by decide) hn) (fun _ _ hF => k_X1_casksAt hn (by decide) hF) w_394 cm_X1_casksAt (by decide) (by decide) rfl rfl (Nat.le_of_ble_eq_true rfl) dX5_count_57 60 rfl (fun v29 u28 h => ?_)
    refine ww_callSi C (As := [.int v29]) (st := []) h (fun _ _ hF => k_J6_bitCount_0f7a4 hn hF) w_398 cm_J6_bitCount_0f7a4 (by decide) (by decide) rfl rfl (Nat.le_of_ble_eq_true rfl) dX5_count_60 63 rfl (fun v31 u30 h => ?_)
    exact ww_iret C dX5_count_63 hr h
  refine sw_1 h (fun e32 h => ?_) (fun n33 h => ?_)
  · refine ww_tin C (v := (2 : Int32)) e32 64 dX5_count_1 (by decide) (by decide) rfl (by decide) ?_
    refine ww_aload_n C 0 dX5_count_64 rfl rfl 65 rfl ?_
    refine ww_getS C cl_X5 (obX hn) 4 (by decide) rfl 42 rfl w_369 dX5_count_65 68 rfl ?_
    refine ww_iconst C (1 : Int32) dX5_count_68 (by decide) 69 rfl ?_
    refine ww_callVi C (As := [.int (1 : Int32)]) (st := []) h cl_X1.1 (obScene (by decide) hn) (fun _ _ hF => k_X1_casksAt hn (by decide) hF) w_394 cm_X1_casksAt (by decide) (by decide) rfl rfl (Nat.le_of_ble_eq_true rfl) dX5_count_69 72 rfl (fun v35 u34 h => ?_)
    refine ww_callSi C (As := [.int v35]) (st := []) h (fun _ _ hF => k_J6_bitCount_0f7a4 hn hF) w_398 cm_J6_bitCount_0f7a4 (by decide) (by decide) rfl rfl (Nat.le_of_ble_eq_true rfl) dX5_count_72 75 rfl (fun v37 u36 h => ?_)
    exact ww_iret C dX5_count_75 hr h
  refine sw_1 h (fun e38 h => ?_) (fun n39 h => ?_)
  · refine ww_tin C (v := (3 : Int32)) e38 76 dX5_count_1 (by decide) (by decide) rfl (by decide) ?_
    refine ww_aload_n C 0 dX5_count_76 rfl rfl 77 rfl ?_
    refine ww_getS C cl_X5 (obX hn) 4 (by decide) rfl 42 rfl w_369 dX5_count_77 80 rfl ?_
    refine ww_getI C cl_X1 (obScene (by decide) hn) 10 (by decide) rfl w_335 dX5_count_80 83 rfl ?_
    exact ww_iret C dX5_count_83 hr h
  refine sw_1 h (fun e40 h => ?_) (fun n41 h => ?_)
  · refine ww_tin C (v := (4 : Int32)) e40 84 dX5_count_1 (by decide) (by decide) rfl (by decide) ?_
    refine ww_aload_n C 0 dX5_count_84 rfl rfl 85 rfl ?_
    refine ww_getI C cl_X5 (obX hn) 2 (by decide) rfl w_367 dX5_count_85 88 rfl ?_
    exact ww_iret C dX5_count_88 hr h
  refine sw_1 h (fun e42 h => ?_) (fun n43 h => ?_)
  · refine ww_tin C (v := (5 : Int32)) e42 89 dX5_count_1 (by decide) (by decide) rfl (by decide) ?_
    refine ww_aload_n C 0 dX5_count_89 rfl rfl 90 rfl ?_
    refine ww_getS C cl_X5 (obX hn) 4 (by decide) rfl 42 rfl w_369 dX5_count_90 93 rfl ?_
    refine ww_getM C cl_X1 (obScene (by decide) hn) 11 (by decide) rfl w_338 dX5_count_93 h 96 rfl (fun t44 ht44 h => ?_)
    refine ww_getI C cl_X4 (obText ht44 (Nat.le_trans (by decide) hn)) 0 (by decide) rfl w_123 dX5_count_96 99 rfl ?_
    exact ww_iret C dX5_count_99 hr h
  refine sw_1 h (fun e45 h => ?_) (fun n46 h => ?_)
  · refine ww_tin C (v := (6 : Int32)) e45 100 dX5_count_1 (by decide) (by decide) rfl (by decide) ?_
    refine ww_aload_n C 0 dX5_count_100 rfl rfl 101 rfl ?_
    refine ww_getS C cl_X5 (obX hn) 0 (by decide) rfl 0 rfl w_365 dX5_count_101 104 rfl ?_
    refine ww_getI C cl_X3 (obTape (Nat.le_trans (by decide) hn)) 1 (by decide) rfl w_91 dX5_count_104 107 rfl ?_
    exact ww_iret C dX5_count_107 hr h
  refine ww_tout C 108 dX5_count_1 (by have q0 := sw_ne (z := 0) n25 rfl; have q1 := sw_ne (z := 1) n27 rfl; have q2 := sw_ne (z := 2) n33 rfl; have q3 := sw_ne (z := 3) n39 rfl; have q4 := sw_ne (z := 4) n41 rfl; have q5 := sw_ne (z := 5) n43 rfl; have q6 := sw_ne (z := 6) n46 rfl; omega) (by decide) ?_
  refine ww_bipush C (-2 : Int32) dX5_count_108 (by decide) 110 rfl ?_
  exact ww_iret C dX5_count_110 hr h

set_option maxRecDepth 100000 in
set_option maxHeartbeats 4000000 in
theorem k_X5_cask {l : Launch} {D : va_G} {ad : Nat → Nat} {cA : Nat → ClassId} {tys : List (ClassId × FieldType)} {n : Nat} {sa : Nat → Nat} (hn : 73 ≤ n) {N : Nat} {g : Mem} {a1 : Int32} {a2 : Int32} {a3 : Int32} {r : Int32} {g1 : Mem} (h : X5_cask N a1 a2 a3 g = some (r, g1)) : CTi l yX5_cask (wsm yX5_cask cX5_cask 6 (some .int)) 3 D YI ad cA tys n sa g [.ref (ad 72), .int a1, .int a2, .int a3] r g1 := by
  refine ct_of RX5 rfl (by decide +kernel) (Nat.le_of_ble_eq_true rfl) rfl (fun sz => PBi D YI ad cA n r g1 sz) ?_
  intro p e R s m args below meth c C hr
  rw [X5_cask] at h
  refine ww_iload_n C 1 dX5_cask_0 rfl rfl 1 rfl ?_
  refine ww_callSi C (As := [.int a1]) (st := []) h (fun _ _ hF => k_X5_isCask hn hF) w_408 cm_X5_isCask (by decide) (by decide) rfl rfl (Nat.le_of_ble_eq_true rfl) dX5_cask_1 4 rfl (fun v14 u13 h => ?_)
  refine ww_if_ne C 10 dX5_cask_4 (by decide) h 7 rfl (fun h => ?_) (fun h => ?_)
  · refine ww_iload_n C 2 dX5_cask_10 rfl rfl 11 rfl ?_
    refine ww_gets0 C w_414 dX5_cask_11 14 rfl ?_
    refine ww_tlen0 C (4 : Int32) (by decide) dX5_cask_14 15 rfl ?_
    refine ww_iconst C (1 : Int32) dX5_cask_15 (by decide) 16 rfl ?_
    refine ww_isub C dX5_cask_16 17 rfl ?_
    refine ww_callSi C (As := [.int a2, .int ((4 : Int32) - (1 : Int32))]) (st := []) h (fun _ _ hF => k_X5_isWithin hn hF) w_411 cm_X5_isWithin (by decide) (by decide) rfl rfl (Nat.le_of_ble_eq_true rfl) dX5_cask_17 20 rfl (fun v16 u15 h => ?_)
    refine ww_if_eq C 35 dX5_cask_20 (by decide) h 23 rfl (fun h => ?_) (fun h => ?_)
    · refine ww_bipush C (-7 : Int32) dX5_cask_35 (by decide) 37 rfl ?_
      exact ww_iret C dX5_cask_37 hr h
    · refine ww_iload_n C 3 dX5_cask_23 rfl rfl 24 rfl ?_
      refine ww_gets0 C w_414 dX5_cask_24 27 rfl ?_
      refine ww_iload_n C 2 dX5_cask_27 rfl rfl 28 rfl ?_
      refine ww_tld0 C dX5_cask_28 h 29 rfl (fun h => ?_)
      refine ww_callSi C (As := [.int a3, .int (fCM (a2).toNatClampNeg)]) (st := []) h (fun _ _ hF => k_X5_isWithin hn hF) w_411 cm_X5_isWithin (by decide) (by decide) rfl rfl (Nat.le_of_ble_eq_true rfl) dX5_cask_29 32 rfl (fun v18 u17 h => ?_)
      refine ww_if_ne C 38 dX5_cask_32 (by decide) h 35 rfl (fun h => ?_) (fun h => ?_)
      · refine ww_aload_n C 0 dX5_cask_38 rfl rfl 39 rfl ?_
        refine ww_getS C cl_X5 (obX hn) 4 (by decide) rfl 42 rfl w_369 dX5_cask_39 42 rfl ?_
        refine ww_iload_n C 2 dX5_cask_42 rfl rfl 43 rfl ?_
        refine ww_callVq C (As := [.int a2]) (st := []) h cl_X1.1 (obScene (by decide) hn) (fun _ _ hF => k_X1_caskRow hn (by decide) hF) w_416 cm_X1_caskRow (by decide) (by decide) rfl rfl (Nat.le_of_ble_eq_true rfl) dX5_cask_43 46 rfl (fun v20 u19 h => ?_)
        refine ww_astore C [(4, .ref (ad v20)), (0, .ref (ad 72)), (1, .int a1), (2, .int a2), (3, .int a3)] dX5_cask_46 (by decide) rfl 48 rfl ?_
        refine ww_aload C 0 dX5_cask_48 rfl 50 rfl ?_
        refine ww_iload_n C 2 dX5_cask_50 rfl rfl 51 rfl ?_
        obtain ⟨hd21, h⟩ := gd_some h
        refine ww_iald C (iaDyn hd21 hn) dX5_cask_51 h 52 rfl (fun h => ?_)
        refine ww_bi h (fun v22 h => ?_)
        refine ww_istore C [(5, .int v22), (4, .ref (ad v20)), (0, .ref (ad 72)), (1, .int a1), (2, .int a2), (3, .int a3)] dX5_cask_52 (by decide) rfl 54 rfl ?_
        refine ww_aload C 1 dX5_cask_54 rfl 56 rfl ?_
        refine ww_iload_n C 3 dX5_cask_56 rfl rfl 57 rfl ?_
        refine ww_iload_n C 5 dX5_cask_57 rfl rfl 58 rfl ?_
        obtain ⟨hd24, h⟩ := gd_some h
        refine ww_iast C (iaDyn hd24 hn) dX5_cask_58 h 59 rfl (fun u23 h => ?_)
        refine ww_iload C 0 dX5_cask_59 rfl 61 rfl ?_
        exact ww_iret C dX5_cask_61 hr h
      · refine ww_bipush C (-7 : Int32) dX5_cask_35 (by decide) 37 rfl ?_
        exact ww_iret C dX5_cask_37 hr h
  · refine ww_bipush C (-5 : Int32) dX5_cask_7 (by decide) 9 rfl ?_
    exact ww_iret C dX5_cask_9 hr h

set_option maxRecDepth 100000 in
set_option maxHeartbeats 4000000 in
theorem k_X5_lies {l : Launch} {D : va_G} {ad : Nat → Nat} {cA : Nat → ClassId} {tys : List (ClassId × FieldType)} {n : Nat} {sa : Nat → Nat} (hn : 73 ≤ n) {N : Nat} {g : Mem} {a1 : Int32} {a2 : Int32} {r : Int32} {g1 : Mem} (h : X5_lies N a1 a2 g = some (r, g1)) : CTi l yX5_lies (wsm yX5_lies cX5_lies 3 (some .int)) 3 D YI ad cA tys n sa g [.ref (ad 72), .int a1, .int a2] r g1 := by
  refine ct_of RX5 rfl (by decide +kernel) (Nat.le_of_ble_eq_true rfl) rfl (fun sz => PBi D YI ad cA n r g1 sz) ?_
  intro p e R s m args below meth c C hr
  rw [X5_lies] at h
  refine ww_iload_n C 1 dX5_lies_0 rfl rfl 1 rfl ?_
  refine ww_callSi C (As := [.int a1]) (st := []) h (fun _ _ hF => k_X5_isCask hn hF) w_408 cm_X5_isCask (by decide) (by decide) rfl rfl (Nat.le_of_ble_eq_true rfl) dX5_lies_1 4 rfl (fun v9 u8 h => ?_)
  refine ww_if_ne C 10 dX5_lies_4 (by decide) h 7 rfl (fun h => ?_) (fun h => ?_)
  · refine ww_iload_n C 2 dX5_lies_10 rfl rfl 11 rfl ?_
    refine ww_gets0 C w_414 dX5_lies_11 14 rfl ?_
    refine ww_tlen0 C (4 : Int32) (by decide) dX5_lies_14 15 rfl ?_
    refine ww_iconst C (1 : Int32) dX5_lies_15 (by decide) 16 rfl ?_
    refine ww_isub C dX5_lies_16 17 rfl ?_
    refine ww_callSi C (As := [.int a2, .int ((4 : Int32) - (1 : Int32))]) (st := []) h (fun _ _ hF => k_X5_isWithin hn hF) w_411 cm_X5_isWithin (by decide) (by decide) rfl rfl (Nat.le_of_ble_eq_true rfl) dX5_lies_17 20 rfl (fun v11 u10 h => ?_)
    refine ww_if_eq C 36 dX5_lies_20 (by decide) h 23 rfl (fun h => ?_) (fun h => ?_)
    · refine ww_bipush C (-7 : Int32) dX5_lies_36 (by decide) 38 rfl ?_
      exact ww_iret C dX5_lies_38 hr h
    · refine ww_aload_n C 0 dX5_lies_23 rfl rfl 24 rfl ?_
      refine ww_getS C cl_X5 (obX hn) 4 (by decide) rfl 42 rfl w_369 dX5_lies_24 27 rfl ?_
      refine ww_iload_n C 2 dX5_lies_27 rfl rfl 28 rfl ?_
      refine ww_callVq C (As := [.int a2]) (st := []) h cl_X1.1 (obScene (by decide) hn) (fun _ _ hF => k_X1_caskRow hn (by decide) hF) w_416 cm_X1_caskRow (by decide) (by decide) rfl rfl (Nat.le_of_ble_eq_true rfl) dX5_lies_28 31 rfl (fun v13 u12 h => ?_)
      refine ww_iload_n C 1 dX5_lies_31 rfl rfl 32 rfl ?_
      obtain ⟨hd14, h⟩ := gd_some h
      refine ww_iald C (iaDyn hd14 hn) dX5_lies_32 h 33 rfl (fun h => ?_)
      refine ww_goto C 38 dX5_lies_33 (by decide) ?_
      exact ww_iret C dX5_lies_38 hr h
  · refine ww_bipush C (-5 : Int32) dX5_lies_7 (by decide) 9 rfl ?_
    exact ww_iret C dX5_lies_9 hr h

set_option maxRecDepth 100000 in
set_option maxHeartbeats 4000000 in
theorem k_X5_setHour {l : Launch} {D : va_G} {ad : Nat → Nat} {cA : Nat → ClassId} {tys : List (ClassId × FieldType)} {n : Nat} {sa : Nat → Nat} (hn : 73 ≤ n) {N : Nat} {g : Mem} {a1 : Int32} {r : Int32} {g1 : Mem} (h : X5_setHour N a1 g = some (r, g1)) : CTi l yX5_setHour (wsm yX5_setHour cX5_setHour 3 (some .int)) 2 D YI ad cA tys n sa g [.ref (ad 72), .int a1] r g1 := by
  refine ct_of RX5 rfl (by decide +kernel) (Nat.le_of_ble_eq_true rfl) rfl (fun sz => PBi D YI ad cA n r g1 sz) ?_
  intro p e R s m args below meth c C hr
  rw [X5_setHour] at h
  refine ww_iload_n C 1 dX5_setHour_0 rfl rfl 1 rfl ?_
  refine ww_sipush C (999 : Int32) dX5_setHour_1 (by decide) 4 rfl ?_
  refine ww_callSi C (As := [.int a1, .int (999 : Int32)]) (st := []) h (fun _ _ hF => k_X5_isWithin hn hF) w_411 cm_X5_isWithin (by decide) (by decide) rfl rfl (Nat.le_of_ble_eq_true rfl) dX5_setHour_4 7 rfl (fun v6 u5 h => ?_)
  refine ww_if_ne C 13 dX5_setHour_7 (by decide) h 10 rfl (fun h => ?_) (fun h => ?_)
  · refine ww_aload_n C 0 dX5_setHour_13 rfl rfl 14 rfl ?_
    refine ww_getS C cl_X5 (obX hn) 4 (by decide) rfl 42 rfl w_369 dX5_setHour_14 17 rfl ?_
    refine ww_getI C cl_X1 (obScene (by decide) hn) 10 (by decide) rfl w_335 dX5_setHour_17 20 rfl ?_
    refine ww_bi h (fun v7 h => ?_)
    refine ww_istore_n C [(2, .int v7), (0, .ref (ad 72)), (1, .int a1)] dX5_setHour_20 rfl (by decide) rfl 21 rfl ?_
    refine ww_aload_n C 1 dX5_setHour_21 rfl rfl 22 rfl ?_
    refine ww_getS C cl_X5 (obX hn) 4 (by decide) rfl 42 rfl w_369 dX5_setHour_22 25 rfl ?_
    refine ww_iload_n C 2 dX5_setHour_25 rfl rfl 26 rfl ?_
    refine ww_putI C cl_X1 (obScene (by decide) hn) 10 (by decide) rfl tyX1 tyX1_ok nmX1 rfl rfl rfl w_335 dX5_setHour_26 h 29 rfl (fun u8 h => ?_)
    refine ww_iload_n C 0 dX5_setHour_29 rfl rfl 30 rfl ?_
    exact ww_iret C dX5_setHour_30 hr h
  · refine ww_bipush C (-7 : Int32) dX5_setHour_10 (by decide) 12 rfl ?_
    exact ww_iret C dX5_setHour_12 hr h

set_option maxRecDepth 100000 in
set_option maxHeartbeats 4000000 in
theorem k_X5_sky {l : Launch} {D : va_G} {ad : Nat → Nat} {cA : Nat → ClassId} {tys : List (ClassId × FieldType)} {n : Nat} {sa : Nat → Nat} (hn : 73 ≤ n) {N : Nat} {g : Mem} {a1 : Int32} {a2 : Int32} {r : Int32} {g1 : Mem} (h : X5_sky N a1 a2 g = some (r, g1)) : CTi l yX5_sky (wsm yX5_sky cX5_sky 4 (some .int)) 3 D YI ad cA tys n sa g [.ref (ad 72), .int a1, .int a2] r g1 := by
  refine ct_of RX5 rfl (by decide +kernel) (Nat.le_of_ble_eq_true rfl) rfl (fun sz => PBi D YI ad cA n r g1 sz) ?_
  intro p e R s m args below meth c C hr
  rw [X5_sky] at h
  refine ww_iload_n C 1 dX5_sky_0 rfl rfl 1 rfl ?_
  refine ww_bipush C (6 : Int32) dX5_sky_1 (by decide) 3 rfl ?_
  refine ww_icmp_ne C 12 dX5_sky_3 (by decide) h 6 rfl (fun h => ?_) (fun h => ?_)
  · refine ww_iload_n C 1 dX5_sky_12 rfl rfl 13 rfl ?_
    refine ww_callSi C (As := [.int a1]) (st := []) h (fun _ _ hF => k_X5_isSort hn hF) w_432 cm_X5_isSort (by decide) (by decide) rfl rfl (Nat.le_of_ble_eq_true rfl) dX5_sky_13 16 rfl (fun v10 u9 h => ?_)
    refine ww_if_ne C 22 dX5_sky_16 (by decide) h 19 rfl (fun h => ?_) (fun h => ?_)
    · refine ww_iload_n C 2 dX5_sky_22 rfl rfl 23 rfl ?_
      refine ww_bipush C (99 : Int32) dX5_sky_23 (by decide) 25 rfl ?_
      refine ww_callSi C (As := [.int a2, .int (99 : Int32)]) (st := []) h (fun _ _ hF => k_X5_isWithin hn hF) w_411 cm_X5_isWithin (by decide) (by decide) rfl rfl (Nat.le_of_ble_eq_true rfl) dX5_sky_25 28 rfl (fun v12 u11 h => ?_)
      refine ww_if_ne C 34 dX5_sky_28 (by decide) h 31 rfl (fun h => ?_) (fun h => ?_)
      · refine ww_aload_n C 0 dX5_sky_34 rfl rfl 35 rfl ?_
        refine ww_getS C cl_X5 (obX hn) 4 (by decide) rfl 42 rfl w_369 dX5_sky_35 38 rfl ?_
        refine ww_getS C cl_X1 (obScene (by decide) hn) 0 (by decide) rfl 43 rfl w_316 dX5_sky_38 41 rfl ?_
        refine ww_iload_n C 1 dX5_sky_41 rfl rfl 42 rfl ?_
        refine ww_iald C (iaScene (q := 42) (by decide) hn 1 6 (by decide)) dX5_sky_42 h 43 rfl (fun h => ?_)
        refine ww_bi h (fun v13 h => ?_)
        refine ww_istore_n C [(3, .int v13), (0, .ref (ad 72)), (1, .int a1), (2, .int a2)] dX5_sky_43 rfl (by decide) rfl 44 rfl ?_
        refine ww_aload_n C 1 dX5_sky_44 rfl rfl 45 rfl ?_
        refine ww_getS C cl_X5 (obX hn) 4 (by decide) rfl 42 rfl w_369 dX5_sky_45 48 rfl ?_
        refine ww_getS C cl_X1 (obScene (by decide) hn) 0 (by decide) rfl 43 rfl w_316 dX5_sky_48 51 rfl ?_
        refine ww_iload_n C 2 dX5_sky_51 rfl rfl 52 rfl ?_
        refine ww_iload_n C 3 dX5_sky_52 rfl rfl 53 rfl ?_
        refine ww_iast C (iaScene (q := 42) (by decide) hn 1 6 (by decide)) dX5_sky_53 h 54 rfl (fun u14 h => ?_)
        refine ww_iload_n C 0 dX5_sky_54 rfl rfl 55 rfl ?_
        exact ww_iret C dX5_sky_55 hr h
      · refine ww_bipush C (-7 : Int32) dX5_sky_31 (by decide) 33 rfl ?_
        exact ww_iret C dX5_sky_33 hr h
    · refine ww_bipush C (-5 : Int32) dX5_sky_19 (by decide) 21 rfl ?_
      exact ww_iret C dX5_sky_21 hr h
  · refine ww_aload_n C 0 dX5_sky_6 rfl rfl 7 rfl ?_
    refine ww_iload_n C 2 dX5_sky_7 rfl rfl 8 rfl ?_
    refine ww_callVi C (As := [.int a2]) (st := []) h cl_X5.1 (obX hn) (fun _ _ hF => k_X5_setHour hn hF) w_428 cm_X5_setHour (by decide) (by decide) rfl rfl (Nat.le_of_ble_eq_true rfl) dX5_sky_8 11 rfl (fun v16 u15 h => ?_)
    exact ww_iret C dX5_sky_11 hr h

set_option maxRecDepth 100000 in
set_option maxHeartbeats 4000000 in
theorem k_X5_areBytes {l : Launch} {D : va_G} {ad : Nat → Nat} {cA : Nat → ClassId} {tys : List (ClassId × FieldType)} {n : Nat} {sa : Nat → Nat} (hn : 73 ≤ n) {N : Nat} {g : Mem} {a1 : Int32} {a2 : Int32} {a3 : Int32} {a4 : Int32} {a5 : Int32} {r : Int32} {g1 : Mem} (h : X5_areBytes N a1 a2 a3 a4 a5 g = some (r, g1)) : CTi l yX5_areBytes (wsm yX5_areBytes cX5_areBytes 5 (some .boolean)) 2 D YI ad cA tys n sa g [.int a1, .int a2, .int a3, .int a4, .int a5] r g1 := by
  refine ct_of RX5 rfl (by decide +kernel) (Nat.le_of_ble_eq_true rfl) rfl (fun sz => PBi D YI ad cA n r g1 sz) ?_
  intro p e R s m args below meth c C hr
  rw [X5_areBytes] at h
  refine ww_iload_n C 0 dX5_areBytes_0 rfl rfl 1 rfl ?_
  refine ww_sipush C (255 : Int32) dX5_areBytes_1 (by decide) 4 rfl ?_
  refine ww_callSi C (As := [.int a1, .int (255 : Int32)]) (st := []) h (fun _ _ hF => k_X5_isWithin hn hF) w_411 cm_X5_isWithin (by decide) (by decide) rfl rfl (Nat.le_of_ble_eq_true rfl) dX5_areBytes_4 7 rfl (fun v12 u11 h => ?_)
  refine ww_if_eq C 55 dX5_areBytes_7 (by decide) h 10 rfl (fun h => ?_) (fun h => ?_)
  · refine ww_iconst C (0 : Int32) dX5_areBytes_55 (by decide) 56 rfl ?_
    exact ww_zret C dX5_areBytes_56 hr rfl h
  · refine ww_iload_n C 1 dX5_areBytes_10 rfl rfl 11 rfl ?_
    refine ww_sipush C (255 : Int32) dX5_areBytes_11 (by decide) 14 rfl ?_
    refine ww_callSi C (As := [.int a2, .int (255 : Int32)]) (st := []) h (fun _ _ hF => k_X5_isWithin hn hF) w_411 cm_X5_isWithin (by decide) (by decide) rfl rfl (Nat.le_of_ble_eq_true rfl) dX5_areBytes_14 17 rfl (fun v14 u13 h => ?_)
    refine ww_if_eq C 55 dX5_areBytes_17 (by decide) h 20 rfl (fun h => ?_) (fun h => ?_)
    · refine ww_iconst C (0 : Int32) dX5_areBytes_55 (by decide) 56 rfl ?_
      exact ww_zret C dX5_areBytes_56 hr rfl h
    · refine ww_iload_n C 2 dX5_areBytes_20 rfl rfl 21 rfl ?_
      refine ww_sipush C (255 : Int32) dX5_areBytes_21 (by decide) 24 rfl ?_
      refine ww_callSi C (As := [.int a3, .int (255 : Int32)]) (st := []) h (fun _ _ hF => k_X5_isWithin hn hF) w_411 cm_X5_isWithin (by decide) (by decide) rfl rfl (Nat.le_of_ble_eq_true rfl) dX5_areBytes_24 27 rfl (fun v16 u15 h => ?_)
      refine ww_if_eq C 55 dX5_areBytes_27 (by decide) h 30 rfl (fun h => ?_) (fun h => ?_)
      · refine ww_iconst C (0 : Int32) dX5_areBytes_55 (by decide) 56 rfl ?_
        exact ww_zret C dX5_areBytes_56 hr rfl h
      · refine ww_iload_n C 3 dX5_areBytes_30 rfl rfl 31 rfl ?_
        refine ww_sipush C (255 : Int32) dX5_areBytes_31 (by decide) 34 rfl ?_
        refine ww_callSi C (As := [.int a4, .int (255 : Int32)]) (st := []) h (fun _ _ hF => k_X5_isWithin hn hF) w_411 cm_X5_isWithin (by decide) (by decide) rfl rfl (Nat.le_of_ble_eq_true rfl) dX5_areBytes_34 37 rfl (fun v18 u17 h => ?_)
        refine ww_if_eq C 55 dX5_areBytes_37 (by decide) h 40 rfl (fun h => ?_) (fun h => ?_)
        · refine ww_iconst C (0 : Int32) dX5_areBytes_55 (by decide) 56 rfl ?_
          exact ww_zret C dX5_areBytes_56 hr rfl h
        · refine ww_iload C 4 dX5_areBytes_40 rfl 42 rfl ?_
          refine ww_sipush C (255 : Int32) dX5_areBytes_42 (by decide) 45 rfl ?_
          refine ww_callSi C (As := [.int a5, .int (255 : Int32)]) (st := []) h (fun _ _ hF => k_X5_isWithin hn hF) w_411 cm_X5_isWithin (by decide) (by decide) rfl rfl (Nat.le_of_ble_eq_true rfl) dX5_areBytes_45 48 rfl (fun v20 u19 h => ?_)
          refine ww_if_eq C 55 dX5_areBytes_48 (by decide) h 51 rfl (fun h => ?_) (fun h => ?_)
          · refine ww_iconst C (0 : Int32) dX5_areBytes_55 (by decide) 56 rfl ?_
            exact ww_zret C dX5_areBytes_56 hr rfl h
          · refine ww_iconst C (1 : Int32) dX5_areBytes_51 (by decide) 52 rfl ?_
            refine ww_goto C 56 dX5_areBytes_52 (by decide) ?_
            exact ww_zret C dX5_areBytes_56 hr rfl h

set_option maxRecDepth 100000 in
set_option maxHeartbeats 4000000 in
theorem k_X5_feed {l : Launch} {D : va_G} {ad : Nat → Nat} {cA : Nat → ClassId} {tys : List (ClassId × FieldType)} {n : Nat} {sa : Nat → Nat} (hn : 73 ≤ n) {N : Nat} {g : Mem} {a1 : Int32} {a2 : Int32} {a3 : Int32} {a4 : Int32} {a5 : Int32} {a6 : Int32} {r : Int32} {g1 : Mem} (h : X5_feed N a1 a2 a3 a4 a5 a6 g = some (r, g1)) : CTi l yX5_feed (wsm yX5_feed cX5_feed 7 (some .int)) 3 D YI ad cA tys n sa g [.ref (ad 72), .int a1, .int a2, .int a3, .int a4, .int a5, .int a6] r g1 := by
  refine ct_of RX5 rfl (by decide +kernel) (Nat.le_of_ble_eq_true rfl) rfl (fun sz => PBi D YI ad cA n r g1 sz) ?_
  intro p e R s m args below meth c C hr
  rw [X5_feed] at h
  refine ww_iload_n C 1 dX5_feed_0 rfl rfl 1 rfl ?_
  refine ww_iconst C (1 : Int32) dX5_feed_1 (by decide) 2 rfl ?_
  refine ww_icmp_lt C 24 dX5_feed_2 (by decide) h 5 rfl (fun h => ?_) (fun h => ?_)
  · refine ww_bipush C (-2 : Int32) dX5_feed_24 (by decide) 26 rfl ?_
    exact ww_iret C dX5_feed_26 hr h
  · refine ww_iload_n C 1 dX5_feed_5 rfl rfl 6 rfl ?_
    refine ww_iconst C (5 : Int32) dX5_feed_6 (by decide) 7 rfl ?_
    refine ww_icmp_gt C 24 dX5_feed_7 (by decide) h 10 rfl (fun h => ?_) (fun h => ?_)
    · refine ww_bipush C (-2 : Int32) dX5_feed_24 (by decide) 26 rfl ?_
      exact ww_iret C dX5_feed_26 hr h
    · refine ww_iload_n C 2 dX5_feed_10 rfl rfl 11 rfl ?_
      refine ww_iload_n C 3 dX5_feed_11 rfl rfl 12 rfl ?_
      refine ww_iload C 4 dX5_feed_12 rfl 14 rfl ?_
      refine ww_iload C 5 dX5_feed_14 rfl 16 rfl ?_
      refine ww_iload C 6 dX5_feed_16 rfl 18 rfl ?_
      refine ww_callSi C (As := [.int a2, .int a3, .int a4, .int a5, .int a6]) (st := []) h (fun _ _ hF => k_X5_areBytes hn hF) w_439 cm_X5_areBytes (by decide) (by decide) rfl rfl (Nat.le_of_ble_eq_true rfl) dX5_feed_18 21 rfl (fun v38 u37 h => ?_)
      refine ww_if_ne C 27 dX5_feed_21 (by decide) h 24 rfl (fun h => ?_) (fun h => ?_)
      · refine ww_aload_n C 0 dX5_feed_27 rfl rfl 28 rfl ?_
        refine ww_getS C cl_X5 (obX hn) 0 (by decide) rfl 0 rfl w_365 dX5_feed_28 31 rfl ?_
        refine ww_iload_n C 1 dX5_feed_31 rfl rfl 32 rfl ?_
        refine ww_callVi C (As := [.int a1]) (st := []) h cl_X3.1 (obTape (Nat.le_trans (by decide) hn)) (fun _ _ hF => k_X3_hasRoom (Nat.le_trans (by decide) hn) hF) w_442 cm_X3_hasRoom (by decide) (by decide) rfl rfl (Nat.le_of_ble_eq_true rfl) dX5_feed_32 35 rfl (fun v40 u39 h => ?_)
        refine ww_if_ne C 41 dX5_feed_35 (by decide) h 38 rfl (fun h => ?_) (fun h => ?_)
        · refine ww_aload_n C 0 dX5_feed_41 rfl rfl 42 rfl ?_
          refine ww_getS C cl_X5 (obX hn) 0 (by decide) rfl 0 rfl w_365 dX5_feed_42 45 rfl ?_
          refine ww_iload_n C 2 dX5_feed_45 rfl rfl 46 rfl ?_
          refine ww_callVv C (As := [.int a2]) (st := []) h cl_X3.1 (obTape (Nat.le_trans (by decide) hn)) (fun _ _ hF => k_X3_add (Nat.le_trans (by decide) hn) hF) w_211 cm_X3_add (by decide) (by decide) rfl rfl (Nat.le_of_ble_eq_true rfl) dX5_feed_46 49 rfl (fun _ u41 h => ?_)
          refine ww_iload_n C 1 dX5_feed_49 rfl rfl 50 rfl ?_
          refine ww_iconst C (1 : Int32) dX5_feed_50 (by decide) 51 rfl ?_
          refine ww_icmp_le C 62 dX5_feed_51 (by decide) h 54 rfl (fun h => ?_) (fun h => ?_)
          · refine ww_iload_n C 1 dX5_feed_62 rfl rfl 63 rfl ?_
            refine ww_iconst C (2 : Int32) dX5_feed_63 (by decide) 64 rfl ?_
            refine ww_icmp_le C 76 dX5_feed_64 (by decide) h 67 rfl (fun h => ?_) (fun h => ?_)
            · refine ww_iload_n C 1 dX5_feed_76 rfl rfl 77 rfl ?_
              refine ww_iconst C (3 : Int32) dX5_feed_77 (by decide) 78 rfl ?_
              refine ww_icmp_le C 90 dX5_feed_78 (by decide) h 81 rfl (fun h => ?_) (fun h => ?_)
              · refine ww_iload_n C 1 dX5_feed_90 rfl rfl 91 rfl ?_
                refine ww_iconst C (4 : Int32) dX5_feed_91 (by decide) 92 rfl ?_
                refine ww_icmp_le C 104 dX5_feed_92 (by decide) h 95 rfl (fun h => ?_) (fun h => ?_)
                · refine ww_aload_n C 0 dX5_feed_104 rfl rfl 105 rfl ?_
                  refine ww_getS C cl_X5 (obX hn) 0 (by decide) rfl 0 rfl w_365 dX5_feed_105 108 rfl ?_
                  refine ww_getI C cl_X3 (obTape (Nat.le_trans (by decide) hn)) 1 (by decide) rfl w_91 dX5_feed_108 111 rfl ?_
                  exact ww_iret C dX5_feed_111 hr h
                · refine ww_aload_n C 0 dX5_feed_95 rfl rfl 96 rfl ?_
                  refine ww_getS C cl_X5 (obX hn) 0 (by decide) rfl 0 rfl w_365 dX5_feed_96 99 rfl ?_
                  refine ww_iload C 6 dX5_feed_99 rfl 101 rfl ?_
                  refine ww_callVv C (As := [.int a6]) (st := []) h cl_X3.1 (obTape (Nat.le_trans (by decide) hn)) (fun _ _ hF => k_X3_add (Nat.le_trans (by decide) hn) hF) w_211 cm_X3_add (by decide) (by decide) rfl rfl (Nat.le_of_ble_eq_true rfl) dX5_feed_101 104 rfl (fun _ u43 h => ?_)
                  refine ww_aload_n C 0 dX5_feed_104 rfl rfl 105 rfl ?_
                  refine ww_getS C cl_X5 (obX hn) 0 (by decide) rfl 0 rfl w_365 dX5_feed_105 108 rfl ?_
                  refine ww_getI C cl_X3 (obTape (Nat.le_trans (by decide) hn)) 1 (by decide) rfl w_91 dX5_feed_108 111 rfl ?_
                  exact ww_iret C dX5_feed_111 hr h
              · refine ww_aload_n C 0 dX5_feed_81 rfl rfl 82 rfl ?_
                refine ww_getS C cl_X5 (obX hn) 0 (by decide) rfl 0 rfl w_365 dX5_feed_82 85 rfl ?_
                refine ww_iload C 5 dX5_feed_85 rfl 87 rfl ?_
                refine ww_callVv C (As := [.int a5]) (st := []) h cl_X3.1 (obTape (Nat.le_trans (by decide) hn)) (fun _ _ hF => k_X3_add (Nat.le_trans (by decide) hn) hF) w_211 cm_X3_add (by decide) (by decide) rfl rfl (Nat.le_of_ble_eq_true rfl) dX5_feed_87 90 rfl (fun _ u45 h => ?_)
                refine ww_iload_n C 1 dX5_feed_90 rfl rfl 91 rfl ?_
                refine ww_iconst C (4 : Int32) dX5_feed_91 (by decide) 92 rfl ?_
                refine ww_icmp_le C 104 dX5_feed_92 (by decide) h 95 rfl (fun h => ?_) (fun h => ?_)
                · refine ww_aload_n C 0 dX5_feed_104 rfl rfl 105 rfl ?_
                  refine ww_getS C cl_X5 (obX hn) 0 (by decide) rfl 0 rfl w_365 dX5_feed_105 108 rfl ?_
                  refine ww_getI C cl_X3 (obTape (Nat.le_trans (by decide) hn)) 1 (by decide) rfl w_91 dX5_feed_108 111 rfl ?_
                  exact ww_iret C dX5_feed_111 hr h
                · refine ww_aload_n C 0 dX5_feed_95 rfl rfl 96 rfl ?_
                  refine ww_getS C cl_X5 (obX hn) 0 (by decide) rfl 0 rfl w_365 dX5_feed_96 99 rfl ?_
                  refine ww_iload C 6 dX5_feed_99 rfl 101 rfl ?_
                  refine ww_callVv C (As := [.int a6]) (st := []) h cl_X3.1 (obTape (Nat.le_trans (by decide) hn)) (fun _ _ hF => k_X3_add (Nat.le_trans (by decide) hn) hF) w_211 cm_X3_add (by decide) (by decide) rfl rfl (Nat.le_of_ble_eq_true rfl) dX5_feed_101 104 rfl (fun _ u47 h => ?_)
                  refine ww_aload_n C 0 dX5_feed_104 rfl rfl 105 rfl ?_
                  refine ww_getS C cl_X5 (obX hn) 0 (by decide) rfl 0 rfl w_365 dX5_feed_105 108 rfl ?_
                  refine ww_getI C cl_X3 (obTape (Nat.le_trans (by decide) hn)) 1 (by decide) rfl w_91 dX5_feed_108 111 rfl ?_
                  exact ww_iret C dX5_feed_111 hr h
            · refine ww_aload_n C 0 dX5_feed_67 rfl rfl 68 rfl ?_
              refine ww_getS C cl_X5 (obX hn) 0 (by decide) rfl 0 rfl w_365 dX5_feed_68 71 rfl ?_
              refine ww_iload C 4 dX5_feed_71 rfl 73 rfl ?_
              refine ww_callVv C (As := [.int a4]) (st := []) h cl_X3.1 (obTape (Nat.le_trans (by decide) hn)) (fun _ _ hF => k_X3_add (Nat.le_trans (by decide) hn) hF) w_211 cm_X3_add (by decide) (by decide) rfl rfl (Nat.le_of_ble_eq_true rfl) dX5_feed_73 76 rfl (fun _ u49 h => ?_)
              refine ww_iload_n C 1 dX5_feed_76 rfl rfl 77 rfl ?_
              refine ww_iconst C (3 : Int32) dX5_feed_77 (by decide) 78 rfl ?_
              refine ww_icmp_le C 90 dX5_feed_78 (by decide) h 81 rfl (fun h => ?_) (fun h => ?_)
              · refine ww_iload_n C 1 dX5_feed_90 rfl rfl 91 rfl ?_
                refine ww_iconst C (4 : Int32) dX5_feed_91 (by decide) 92 rfl ?_
                refine ww_icmp_le C 104 dX5_feed_92 (by decide) h 95 rfl (fun h => ?_) (fun h => ?_)
                · refine ww_aload_n C 0 dX5_feed_104 rfl rfl 105 rfl ?_
                  refine ww_getS C cl_X5 (obX hn) 0 (by decide) rfl 0 rfl w_365 dX5_feed_105 108 rfl ?_
                  refine ww_getI C cl_X3 (obTape (Nat.le_trans (by decide) hn)) 1 (by decide) rfl w_91 dX5_feed_108 111 rfl ?_
                  exact ww_iret C dX5_feed_111 hr h
                · refine ww_aload_n C 0 dX5_feed_95 rfl rfl 96 rfl ?_
                  refine ww_getS C cl_X5 (obX hn) 0 (by decide) rfl 0 rfl w_365 dX5_feed_96 99 rfl ?_
                  refine ww_iload C 6 dX5_feed_99 rfl 101 rfl ?_
                  refine ww_callVv C (As := [.int a6]) (st := []) h cl_X3.1 (obTape (Nat.le_trans (by decide) hn)) (fun _ _ hF => k_X3_add (Nat.le_trans (by decide) hn) hF) w_211 cm_X3_add (by decide) (by decide) rfl rfl (Nat.le_of_ble_eq_true rfl) dX5_feed_101 104 rfl (fun _ u51 h => ?_)
                  refine ww_aload_n C 0 dX5_feed_104 rfl rfl 105 rfl ?_
                  refine ww_getS C cl_X5 (obX hn) 0 (by decide) rfl 0 rfl w_365 dX5_feed_105 108 rfl ?_
                  refine ww_getI C cl_X3 (obTape (Nat.le_trans (by decide) hn)) 1 (by decide) rfl w_91 dX5_feed_108 111 rfl ?_
                  exact ww_iret C dX5_feed_111 hr h
              · refine ww_aload_n C 0 dX5_feed_81 rfl rfl 82 rfl ?_
                refine ww_getS C cl_X5 (obX hn) 0 (by decide) rfl 0 rfl w_365 dX5_feed_82 85 rfl ?_
                refine ww_iload C 5 dX5_feed_85 rfl 87 rfl ?_
                refine ww_callVv C (As := [.int a5]) (st := []) h cl_X3.1 (obTape (Nat.le_trans (by decide) hn)) (fun _ _ hF => k_X3_add (Nat.le_trans (by decide) hn) hF) w_211 cm_X3_add (by decide) (by decide) rfl rfl (Nat.le_of_ble_eq_true rfl) dX5_feed_87 90 rfl (fun _ u53 h => ?_)
                refine ww_iload_n C 1 dX5_feed_90 rfl rfl 91 rfl ?_
                refine ww_iconst C (4 : Int32) dX5_feed_91 (by decide) 92 rfl ?_
                refine ww_icmp_le C 104 dX5_feed_92 (by decide) h 95 rfl (fun h => ?_) (fun h => ?_)
                · refine ww_aload_n C 0 dX5_feed_104 rfl rfl 105 rfl ?_
                  refine ww_getS C cl_X5 (obX hn) 0 (by decide) rfl 0 rfl w_365 dX5_feed_105 108 rfl ?_
                  refine ww_getI C cl_X3 (obTape (Nat.le_trans (by decide) hn)) 1 (by decide) rfl w_91 dX5_feed_108 111 rfl ?_
                  exact ww_iret C dX5_feed_111 hr h
                · refine ww_aload_n C 0 dX5_feed_95 rfl rfl 96 rfl ?_
                  refine ww_getS C cl_X5 (obX hn) 0 (by decide) rfl 0 rfl w_365 dX5_feed_96 99 rfl ?_
                  refine ww_iload C 6 dX5_feed_99 rfl 101 rfl ?_
                  refine ww_callVv C (As := [.int a6]) (st := []) h cl_X3.1 (obTape (Nat.le_trans (by decide) hn)) (fun _ _ hF => k_X3_add (Nat.le_trans (by decide) hn) hF) w_211 cm_X3_add (by decide) (by decide) rfl rfl (Nat.le_of_ble_eq_true rfl) dX5_feed_101 104 rfl (fun _ u55 h => ?_)
                  refine ww_aload_n C 0 dX5_feed_104 rfl rfl 105 rfl ?_
                  refine ww_getS C cl_X5 (obX hn) 0 (by decide) rfl 0 rfl w_365 dX5_feed_105 108 rfl ?_
                  refine ww_getI C cl_X3 (obTape (Nat.le_trans (by decide) hn)) 1 (by decide) rfl w_91 dX5_feed_108 111 rfl ?_
                  exact ww_iret C dX5_feed_111 hr h
          · refine ww_aload_n C 0 dX5_feed_54 rfl rfl 55 rfl ?_
            refine ww_getS C cl_X5 (obX hn) 0 (by decide) rfl 0 rfl w_365 dX5_feed_55 58 rfl ?_
            refine ww_iload_n C 3 dX5_feed_58 rfl rfl 59 rfl ?_
            refine ww_callVv C (As := [.int a3]) (st := []) h cl_X3.1 (obTape (Nat.le_trans (by decide) hn)) (fun _ _ hF => k_X3_add (Nat.le_trans (by decide) hn) hF) w_211 cm_X3_add (by decide) (by decide) rfl rfl (Nat.le_of_ble_eq_true rfl) dX5_feed_59 62 rfl (fun _ u57 h => ?_)
            refine ww_iload_n C 1 dX5_feed_62 rfl rfl 63 rfl ?_
            refine ww_iconst C (2 : Int32) dX5_feed_63 (by decide) 64 rfl ?_
            refine ww_icmp_le C 76 dX5_feed_64 (by decide) h 67 rfl (fun h => ?_) (fun h => ?_)
            · refine ww_iload_n C 1 dX5_feed_76 rfl rfl 77 rfl ?_
              refine ww_iconst C (3 : Int32) dX5_feed_77 (by decide) 78 rfl ?_
              refine ww_icmp_le C 90 dX5_feed_78 (by decide) h 81 rfl (fun h => ?_) (fun h => ?_)
              · refine ww_iload_n C 1 dX5_feed_90 rfl rfl 91 rfl ?_
                refine ww_iconst C (4 : Int32) dX5_feed_91 (by decide) 92 rfl ?_
                refine ww_icmp_le C 104 dX5_feed_92 (by decide) h 95 rfl (fun h => ?_) (fun h => ?_)
                · refine ww_aload_n C 0 dX5_feed_104 rfl rfl 105 rfl ?_
                  refine ww_getS C cl_X5 (obX hn) 0 (by decide) rfl 0 rfl w_365 dX5_feed_105 108 rfl ?_
                  refine ww_getI C cl_X3 (obTape (Nat.le_trans (by decide) hn)) 1 (by decide) rfl w_91 dX5_feed_108 111 rfl ?_
                  exact ww_iret C dX5_feed_111 hr h
                · refine ww_aload_n C 0 dX5_feed_95 rfl rfl 96 rfl ?_
                  refine ww_getS C cl_X5 (obX hn) 0 (by decide) rfl 0 rfl w_365 dX5_feed_96 99 rfl ?_
                  refine ww_iload C 6 dX5_feed_99 rfl 101 rfl ?_
                  refine ww_callVv C (As := [.int a6]) (st := []) h cl_X3.1 (obTape (Nat.le_trans (by decide) hn)) (fun _ _ hF => k_X3_add (Nat.le_trans (by decide) hn) hF) w_211 cm_X3_add (by decide) (by decide) rfl rfl (Nat.le_of_ble_eq_true rfl) dX5_feed_101 104 rfl (fun _ u59 h => ?_)
                  refine ww_aload_n C 0 dX5_feed_104 rfl rfl 105 rfl ?_
                  refine ww_getS C cl_X5 (obX hn) 0 (by decide) rfl 0 rfl w_365 dX5_feed_105 108 rfl ?_
                  refine ww_getI C cl_X3 (obTape (Nat.le_trans (by decide) hn)) 1 (by decide) rfl w_91 dX5_feed_108 111 rfl ?_
                  exact ww_iret C dX5_feed_111 hr h
              · refine ww_aload_n C 0 dX5_feed_81 rfl rfl 82 rfl ?_
                refine ww_getS C cl_X5 (obX hn) 0 (by decide) rfl 0 rfl w_365 dX5_feed_82 85 rfl ?_
                refine ww_iload C 5 dX5_feed_85 rfl 87 rfl ?_
                refine ww_callVv C (As := [.int a5]) (st := []) h cl_X3.1 (obTape (Nat.le_trans (by decide) hn)) (fun _ _ hF => k_X3_add (Nat.le_trans (by decide) hn) hF) w_211 cm_X3_add (by decide) (by decide) rfl rfl (Nat.le_of_ble_eq_true rfl) dX5_feed_87 90 rfl (fun _ u61 h => ?_)
                refine ww_iload_n C 1 dX5_feed_90 rfl rfl 91 rfl ?_
                refine ww_iconst C (4 : Int32) dX5_feed_91 (by decide) 92 rfl ?_
                refine ww_icmp_le C 104 dX5_feed_92 (by decide) h 95 rfl (fun h => ?_) (fun h => ?_)
                · refine ww_aload_n C 0 dX5_feed_104 rfl rfl 105 rfl ?_
                  refine ww_getS C cl_X5 (obX hn) 0 (by decide) rfl 0 rfl w_365 dX5_feed_105 108 rfl ?_
                  refine ww_getI C cl_X3 (obTape (Nat.le_trans (by decide) hn)) 1 (by decide) rfl w_91 dX5_feed_108 111 rfl ?_
                  exact ww_iret C dX5_feed_111 hr h
                · refine ww_aload_n C 0 dX5_feed_95 rfl rfl 96 rfl ?_
                  refine ww_getS C cl_X5 (obX hn) 0 (by decide) rfl 0 rfl w_365 dX5_feed_96 99 rfl ?_
                  refine ww_iload C 6 dX5_feed_99 rfl 101 rfl ?_
                  refine ww_callVv C (As := [.int a6]) (st := []) h cl_X3.1 (obTape (Nat.le_trans (by decide) hn)) (fun _ _ hF => k_X3_add (Nat.le_trans (by decide) hn) hF) w_211 cm_X3_add (by decide) (by decide) rfl rfl (Nat.le_of_ble_eq_true rfl) dX5_feed_101 104 rfl (fun _ u63 h => ?_)
                  refine ww_aload_n C 0 dX5_feed_104 rfl rfl 105 rfl ?_
                  refine ww_getS C cl_X5 (obX hn) 0 (by decide) rfl 0 rfl w_365 dX5_feed_105 108 rfl ?_
                  refine ww_getI C cl_X3 (obTape (Nat.le_trans (by decide) hn)) 1 (by decide) rfl w_91 dX5_feed_108 111 rfl ?_
                  exact ww_iret C dX5_feed_111 hr h
            · refine ww_aload_n C 0 dX5_feed_67 rfl rfl 68 rfl ?_
              refine ww_getS C cl_X5 (obX hn) 0 (by decide) rfl 0 rfl w_365 dX5_feed_68 71 rfl ?_
              refine ww_iload C 4 dX5_feed_71 rfl 73 rfl ?_
              refine ww_callVv C (As := [.int a4]) (st := []) h cl_X3.1 (obTape (Nat.le_trans (by decide) hn)) (fun _ _ hF => k_X3_add (Nat.le_trans (by decide) hn) hF) w_211 cm_X3_add (by decide) (by decide) rfl rfl (Nat.le_of_ble_eq_true rfl) dX5_feed_73 76 rfl (fun _ u65 h => ?_)
              refine ww_iload_n C 1 dX5_feed_76 rfl rfl 77 rfl ?_
              refine ww_iconst C (3 : Int32) dX5_feed_77 (by decide) 78 rfl ?_
              refine ww_icmp_le C 90 dX5_feed_78 (by decide) h 81 rfl (fun h => ?_) (fun h => ?_)
              · refine ww_iload_n C 1 dX5_feed_90 rfl rfl 91 rfl ?_
                refine ww_iconst C (4 : Int32) dX5_feed_91 (by decide) 92 rfl ?_
                refine ww_icmp_le C 104 dX5_feed_92 (by decide) h 95 rfl (fun h => ?_) (fun h => ?_)
                · refine ww_aload_n C 0 dX5_feed_104 rfl rfl 105 rfl ?_
                  refine ww_getS C cl_X5 (obX hn) 0 (by decide) rfl 0 rfl w_365 dX5_feed_105 108 rfl ?_
                  refine ww_getI C cl_X3 (obTape (Nat.le_trans (by decide) hn)) 1 (by decide) rfl w_91 dX5_feed_108 111 rfl ?_
                  exact ww_iret C dX5_feed_111 hr h
                · refine ww_aload_n C 0 dX5_feed_95 rfl rfl 96 rfl ?_
                  refine ww_getS C cl_X5 (obX hn) 0 (by decide) rfl 0 rfl w_365 dX5_feed_96 99 rfl ?_
                  refine ww_iload C 6 dX5_feed_99 rfl 101 rfl ?_
                  refine ww_callVv C (As := [.int a6]) (st := []) h cl_X3.1 (obTape (Nat.le_trans (by decide) hn)) (fun _ _ hF => k_X3_add (Nat.le_trans (by decide) hn) hF) w_211 cm_X3_add (by decide) (by decide) rfl rfl (Nat.le_of_ble_eq_true rfl) dX5_feed_101 104 rfl (fun _ u67 h => ?_)
                  refine ww_aload_n C 0 dX5_feed_104 rfl rfl 105 rfl ?_
                  refine ww_getS C cl_X5 (obX hn) 0 (by decide) rfl 0 rfl w_365 dX5_feed_105 108 rfl ?_
                  refine ww_getI C cl_X3 (obTape (Nat.le_trans (by decide) hn)) 1 (by decide) rfl w_91 dX5_feed_108 111 rfl ?_
                  exact ww_iret C dX5_feed_111 hr h
              · refine ww_aload_n C 0 dX5_feed_81 rfl rfl 82 rfl ?_
                refine ww_getS C cl_X5 (obX hn) 0 (by decide) rfl 0 rfl w_365 dX5_feed_82 85 rfl ?_
                refine ww_iload C 5 dX5_feed_85 rfl 87 rfl ?_
                refine ww_callVv C (As := [.int a5]) (st := []) h cl_X3.1 (obTape (Nat.le_trans (by decide) hn)) (fun _ _ hF => k_X3_add (Nat.le_trans (by decide) hn) hF) w_211 cm_X3_add (by decide) (by decide) rfl rfl (Nat.le_of_ble_eq_true rfl) dX5_feed_87 90 rfl (fun _ u69 h => ?_)
                refine ww_iload_n C 1 dX5_feed_90 rfl rfl 91 rfl ?_
                refine ww_iconst C (4 : Int32) dX5_feed_91 (by decide) 92 rfl ?_
                refine ww_icmp_le C 104 dX5_feed_92 (by decide) h 95 rfl (fun h => ?_) (fun h => ?_)
                · refine ww_aload_n C 0 dX5_feed_104 rfl rfl 105 rfl ?_
                  refine ww_getS C cl_X5 (obX hn) 0 (by decide) rfl 0 rfl w_365 dX5_feed_105 108 rfl ?_
                  refine ww_getI C cl_X3 (obTape (Nat.le_trans (by decide) hn)) 1 (by decide) rfl w_91 dX5_feed_108 111 rfl ?_
                  exact ww_iret C dX5_feed_111 hr h
                · refine ww_aload_n C 0 dX5_feed_95 rfl rfl 96 rfl ?_
                  refine ww_getS C cl_X5 (obX hn) 0 (by decide) rfl 0 rfl w_365 dX5_feed_96 99 rfl ?_
                  refine ww_iload C 6 dX5_feed_99 rfl 101 rfl ?_
                  refine ww_callVv C (As := [.int a6]) (st := []) h cl_X3.1 (obTape (Nat.le_trans (by decide) hn)) (fun _ _ hF => k_X3_add (Nat.le_trans (by decide) hn) hF) w_211 cm_X3_add (by decide) (by decide) rfl rfl (Nat.le_of_ble_eq_true rfl) dX5_feed_101 104 rfl (fun _ u71 h => ?_)
                  refine ww_aload_n C 0 dX5_feed_104 rfl rfl 105 rfl ?_
                  refine ww_getS C cl_X5 (obX hn) 0 (by decide) rfl 0 rfl w_365 dX5_feed_105 108 rfl ?_
                  refine ww_getI C cl_X3 (obTape (Nat.le_trans (by decide) hn)) 1 (by decide) rfl w_91 dX5_feed_108 111 rfl ?_
                  exact ww_iret C dX5_feed_111 hr h
        · refine ww_bipush C (-4 : Int32) dX5_feed_38 (by decide) 40 rfl ?_
          exact ww_iret C dX5_feed_40 hr h
      · refine ww_bipush C (-2 : Int32) dX5_feed_24 (by decide) 26 rfl ?_
        exact ww_iret C dX5_feed_26 hr h

set_option maxRecDepth 100000 in
set_option maxHeartbeats 4000000 in
theorem k_X5_text {l : Launch} {D : va_G} {ad : Nat → Nat} {cA : Nat → ClassId} {tys : List (ClassId × FieldType)} {n : Nat} {sa : Nat → Nat} (hn : 73 ≤ n) {N : Nat} {g : Mem} {r : Int32} {g1 : Mem} (h : X5_text N g = some (r, g1)) : CTi l yX5_text (wsm yX5_text cX5_text 2 (some .int)) 116 D YI ad cA tys n sa g [.ref (ad 72)] r g1 := by
  refine ct_of RX5 rfl (by decide +kernel) (Nat.le_of_ble_eq_true rfl) rfl (fun sz => PBi D YI ad cA n r g1 sz) ?_
  intro p e R s m args below meth c C hr
  rw [X5_text] at h
  refine ww_aload_n C 0 dX5_text_0 rfl rfl 1 rfl ?_
  refine ww_getI C cl_X5 (obX hn) 2 (by decide) rfl w_367 dX5_text_1 4 rfl ?_
  refine ww_bipush C (6 : Int32) dX5_text_4 (by decide) 6 rfl ?_
  refine ww_icmp_lt C 12 dX5_text_6 (by decide) h 9 rfl (fun h => ?_) (fun h => ?_)
  · refine ww_aload_n C 0 dX5_text_12 rfl rfl 13 rfl ?_
    refine ww_getS C cl_X5 (obX hn) 0 (by decide) rfl 0 rfl w_365 dX5_text_13 16 rfl ?_
    refine ww_aload_n C 0 dX5_text_16 rfl rfl 17 rfl ?_
    refine ww_getS C cl_X5 (obX hn) 1 (by decide) rfl 2 rfl w_366 dX5_text_17 20 rfl ?_
    refine ww_aload_n C 0 dX5_text_20 rfl rfl 21 rfl ?_
    refine ww_getI C cl_X5 (obX hn) 2 (by decide) rfl w_367 dX5_text_21 24 rfl ?_
    refine ww_aald C (q := 2) (L := 6) (by omega) rfl rfl dX5_text_24 h (4 + 5 * (g.1 72 2).toNatClampNeg) rfl 25 rfl (fun hv7 h => ?_)
    refine ww_callVi C (As := [.ref (ad (4 + 5 * (g.1 72 2).toNatClampNeg))]) (st := []) h cl_X3.1 (obTape (Nat.le_trans (by decide) hn)) (fun _ _ hF => k_X3_readInto (Nat.le_trans (by decide) hn) (isText_at hv7) hF) w_215 cm_X3_readInto (by decide) (by decide) rfl rfl (Nat.le_of_ble_eq_true rfl) dX5_text_25 28 rfl (fun v9 u8 h => ?_)
    refine ww_istore_n C [(1, .int v9), (0, .ref (ad 72))] dX5_text_28 rfl (by decide) rfl 29 rfl ?_
    refine ww_aload_n C 1 dX5_text_29 rfl rfl 30 rfl ?_
    refine ww_getS C cl_X5 (obX hn) 0 (by decide) rfl 0 rfl w_365 dX5_text_30 33 rfl ?_
    refine ww_callVv C (As := []) (st := []) h cl_X3.1 (obTape (Nat.le_trans (by decide) hn)) (fun _ _ hF => k_X3_clear (Nat.le_trans (by decide) hn) hF) w_305 cm_X3_clear (by decide) (by decide) rfl rfl (Nat.le_of_ble_eq_true rfl) dX5_text_33 36 rfl (fun _ u10 h => ?_)
    refine ww_iload_n C 0 dX5_text_36 rfl rfl 37 rfl ?_
    refine ww_if_lt C 45 dX5_text_37 (by decide) h 40 rfl (fun h => ?_) (fun h => ?_)
    · refine ww_aload_n C 1 dX5_text_45 rfl rfl 46 rfl ?_
      refine ww_dup C dX5_text_46 rfl 47 rfl ?_
      refine ww_getI C cl_X5 (obX hn) 2 (by decide) rfl w_367 dX5_text_47 50 rfl ?_
      refine ww_iconst C (1 : Int32) dX5_text_50 (by decide) 51 rfl ?_
      refine ww_iadd C dX5_text_51 52 rfl ?_
      refine ww_putI C cl_X5 (obX hn) 2 (by decide) rfl tyX5 tyX5_ok nmX5 rfl rfl rfl w_367 dX5_text_52 h 55 rfl (fun u12 h => ?_)
      refine ww_aload_n C 1 dX5_text_55 rfl rfl 56 rfl ?_
      refine ww_getI C cl_X5 (obX hn) 2 (by decide) rfl w_367 dX5_text_56 59 rfl ?_
      refine ww_iconst C (1 : Int32) dX5_text_59 (by decide) 60 rfl ?_
      refine ww_isub C dX5_text_60 61 rfl ?_
      exact ww_iret C dX5_text_61 hr h
    · refine ww_bipush C (-100 : Int32) dX5_text_40 (by decide) 42 rfl ?_
      refine ww_iload_n C 0 dX5_text_42 rfl rfl 43 rfl ?_
      refine ww_isub C dX5_text_43 44 rfl ?_
      exact ww_iret C dX5_text_44 hr h
  · refine ww_bipush C (-4 : Int32) dX5_text_9 (by decide) 11 rfl ?_
    exact ww_iret C dX5_text_11 hr h

set_option maxRecDepth 100000 in
set_option maxHeartbeats 4000000 in
theorem k_X5_force {l : Launch} {D : va_G} {ad : Nat → Nat} {cA : Nat → ClassId} {tys : List (ClassId × FieldType)} {n : Nat} {sa : Nat → Nat} (hn : 73 ≤ n) {N : Nat} {g : Mem} {a1 : Int32} {r : Int32} {g1 : Mem} (h : X5_force N a1 g = some (r, g1)) : CTi l yX5_force (wsm yX5_force cX5_force 3 (some .int)) 2 D YI ad cA tys n sa g [.ref (ad 72), .int a1] r g1 := by
  refine ct_of RX5 rfl (by decide +kernel) (Nat.le_of_ble_eq_true rfl) rfl (fun sz => PBi D YI ad cA n r g1 sz) ?_
  intro p e R s m args below meth c C hr
  rw [X5_force] at h
  refine ww_iload_n C 1 dX5_force_0 rfl rfl 1 rfl ?_
  refine ww_aload_n C 0 dX5_force_1 rfl rfl 2 rfl ?_
  refine ww_getI C cl_X5 (obX hn) 2 (by decide) rfl w_367 dX5_force_2 5 rfl ?_
  refine ww_iconst C (1 : Int32) dX5_force_5 (by decide) 6 rfl ?_
  refine ww_isub C dX5_force_6 7 rfl ?_
  refine ww_callSi C (As := [.int a1, .int ((g.1 72 2) - (1 : Int32))]) (st := []) h (fun _ _ hF => k_X5_isWithin hn hF) w_411 cm_X5_isWithin (by decide) (by decide) rfl rfl (Nat.le_of_ble_eq_true rfl) dX5_force_7 10 rfl (fun v8 u7 h => ?_)
  refine ww_if_ne C 16 dX5_force_10 (by decide) h 13 rfl (fun h => ?_) (fun h => ?_)
  · refine ww_aload_n C 0 dX5_force_16 rfl rfl 17 rfl ?_
    refine ww_getS C cl_X5 (obX hn) 4 (by decide) rfl 42 rfl w_369 dX5_force_17 20 rfl ?_
    refine ww_getM C cl_X1 (obScene (by decide) hn) 11 (by decide) rfl w_338 dX5_force_20 h 23 rfl (fun t9 ht9 h => ?_)
    refine ww_getI C cl_X4 (obText ht9 (Nat.le_trans (by decide) hn)) 0 (by decide) rfl w_123 dX5_force_23 26 rfl ?_
    refine ww_bi h (fun v10 h => ?_)
    refine ww_istore_n C [(2, .int v10), (0, .ref (ad 72)), (1, .int a1)] dX5_force_26 rfl (by decide) rfl 27 rfl ?_
    refine ww_aload_n C 1 dX5_force_27 rfl rfl 28 rfl ?_
    refine ww_getS C cl_X5 (obX hn) 4 (by decide) rfl 42 rfl w_369 dX5_force_28 31 rfl ?_
    refine ww_aload_n C 1 dX5_force_31 rfl rfl 32 rfl ?_
    refine ww_getS C cl_X5 (obX hn) 1 (by decide) rfl 2 rfl w_366 dX5_force_32 35 rfl ?_
    refine ww_iload_n C 2 dX5_force_35 rfl rfl 36 rfl ?_
    refine ww_aald C (q := 2) (L := 6) (by omega) rfl rfl dX5_force_36 h (4 + 5 * (a1).toNatClampNeg) rfl 37 rfl (fun hv11 h => ?_)
    refine ww_putM C cl_X1 (obScene (by decide) hn) 11 (by decide) rfl (by decide) tyX1 tyX1_ok nmX1 rfl rfl rfl w_338 dX5_force_37 h 40 rfl (fun u12 h => ?_)
    refine ww_iload_n C 0 dX5_force_40 rfl rfl 41 rfl ?_
    exact ww_iret C dX5_force_41 hr h
  · refine ww_bipush C (-2 : Int32) dX5_force_13 (by decide) 15 rfl ?_
    exact ww_iret C dX5_force_15 hr h

set_option maxRecDepth 100000 in
set_option maxHeartbeats 4000000 in
theorem k_X5_isDiver {l : Launch} {D : va_G} {ad : Nat → Nat} {cA : Nat → ClassId} {tys : List (ClassId × FieldType)} {n : Nat} {sa : Nat → Nat} (hn : 73 ≤ n) {N : Nat} {g : Mem} {a1 : Int32} {r : Int32} {g1 : Mem} (h : X5_isDiver N a1 g = some (r, g1)) : CTi l yX5_isDiver (wsm yX5_isDiver cX5_isDiver 2 (some .boolean)) 2 D YI ad cA tys n sa g [.ref (ad 72), .int a1] r g1 := by
  refine ct_of RX5 rfl (by decide +kernel) (Nat.le_of_ble_eq_true rfl) rfl (fun sz => PBi D YI ad cA n r g1 sz) ?_
  intro p e R s m args below meth c C hr
  rw [X5_isDiver] at h
  refine ww_iload_n C 1 dX5_isDiver_0 rfl rfl 1 rfl ?_
  refine ww_aload_n C 0 dX5_isDiver_1 rfl rfl 2 rfl ?_
  refine ww_getS C cl_X5 (obX hn) 4 (by decide) rfl 42 rfl w_369 dX5_isDiver_2 5 rfl ?_
  refine ww_getI C cl_X1 (obScene (by decide) hn) 9 (by decide) rfl w_333 dX5_isDiver_5 8 rfl ?_
  refine ww_iconst C (1 : Int32) dX5_isDiver_8 (by decide) 9 rfl ?_
  refine ww_isub C dX5_isDiver_9 10 rfl ?_
  refine ww_callSi C (As := [.int a1, .int ((g.1 42 9) - (1 : Int32))]) (st := []) h (fun _ _ hF => k_X5_isWithin hn hF) w_411 cm_X5_isWithin (by decide) (by decide) rfl rfl (Nat.le_of_ble_eq_true rfl) dX5_isDiver_10 13 rfl (fun v4 u3 h => ?_)
  exact ww_zretG C dX5_isDiver_13 hr h

set_option maxRecDepth 100000 in
set_option maxHeartbeats 4000000 in
theorem k_X5_asks {l : Launch} {D : va_G} {ad : Nat → Nat} {cA : Nat → ClassId} {tys : List (ClassId × FieldType)} {n : Nat} {sa : Nat → Nat} (hn : 73 ≤ n) {N : Nat} {g : Mem} {a1 : Int32} {a2 : Int32} {a3 : Int32} {r : Int32} {g1 : Mem} (h : X5_asks N a1 a2 a3 g = some (r, g1)) : CTi l yX5_asks (wsm yX5_asks cX5_asks 4 (some .int)) 4 D YI ad cA tys n sa g [.ref (ad 72), .int a1, .int a2, .int a3] r g1 := by
  refine ct_of RX5 rfl (by decide +kernel) (Nat.le_of_ble_eq_true rfl) rfl (fun sz => PBi D YI ad cA n r g1 sz) ?_
  intro p e R s m args below meth c C hr
  rw [X5_asks] at h
  refine ww_iload_n C 1 dX5_asks_0 rfl rfl 1 rfl ?_
  refine ww_iconst C (2 : Int32) dX5_asks_1 (by decide) 2 rfl ?_
  refine ww_icmp_ne C 43 dX5_asks_2 (by decide) h 5 rfl (fun h => ?_) (fun h => ?_)
  · refine ww_aload_n C 0 dX5_asks_43 rfl rfl 44 rfl ?_
    refine ww_iload_n C 2 dX5_asks_44 rfl rfl 45 rfl ?_
    refine ww_callVi C (As := [.int a2]) (st := []) h cl_X5.1 (obX hn) (fun _ _ hF => k_X5_isDiver hn hF) w_476 cm_X5_isDiver (by decide) (by decide) rfl rfl (Nat.le_of_ble_eq_true rfl) dX5_asks_45 48 rfl (fun v14 u13 h => ?_)
    refine ww_if_eq C 58 dX5_asks_48 (by decide) h 51 rfl (fun h => ?_) (fun h => ?_)
    · refine ww_sipush C (-1000 : Int32) dX5_asks_58 (by decide) 61 rfl ?_
      exact ww_iret C dX5_asks_61 hr h
    · refine ww_iload_n C 3 dX5_asks_51 rfl rfl 52 rfl ?_
      refine ww_callSi C (As := [.int a3]) (st := []) h (fun _ _ hF => k_X5_isCask hn hF) w_408 cm_X5_isCask (by decide) (by decide) rfl rfl (Nat.le_of_ble_eq_true rfl) dX5_asks_52 55 rfl (fun v16 u15 h => ?_)
      refine ww_if_ne C 62 dX5_asks_55 (by decide) h 58 rfl (fun h => ?_) (fun h => ?_)
      · refine ww_iload_n C 1 dX5_asks_62 rfl rfl 63 rfl ?_
        refine ww_if_ne C 76 dX5_asks_63 (by decide) h 66 rfl (fun h => ?_) (fun h => ?_)
        · refine ww_iload_n C 1 dX5_asks_76 rfl rfl 77 rfl ?_
          refine ww_iconst C (1 : Int32) dX5_asks_77 (by decide) 78 rfl ?_
          refine ww_icmp_ne C 93 dX5_asks_78 (by decide) h 81 rfl (fun h => ?_) (fun h => ?_)
          · refine ww_sipush C (-1000 : Int32) dX5_asks_93 (by decide) 96 rfl ?_
            exact ww_iret C dX5_asks_96 hr h
          · refine ww_aload_n C 0 dX5_asks_81 rfl rfl 82 rfl ?_
            refine ww_getS C cl_X5 (obX hn) 4 (by decide) rfl 42 rfl w_369 dX5_asks_82 85 rfl ?_
            refine ww_iload_n C 2 dX5_asks_85 rfl rfl 86 rfl ?_
            refine ww_iload_n C 3 dX5_asks_86 rfl rfl 87 rfl ?_
            refine ww_callVi C (As := [.int a2, .int a3]) (st := []) h cl_X1.1 (obScene (by decide) hn) (fun _ _ hF => k_X1_saidCost hn (by decide) hF) w_484 cm_X1_saidCost (by decide) (by decide) rfl rfl (Nat.le_of_ble_eq_true rfl) dX5_asks_87 90 rfl (fun v18 u17 h => ?_)
            refine ww_goto C 96 dX5_asks_90 (by decide) ?_
            exact ww_iret C dX5_asks_96 hr h
        · refine ww_aload_n C 0 dX5_asks_66 rfl rfl 67 rfl ?_
          refine ww_getS C cl_X5 (obX hn) 4 (by decide) rfl 42 rfl w_369 dX5_asks_67 70 rfl ?_
          refine ww_iload_n C 2 dX5_asks_70 rfl rfl 71 rfl ?_
          refine ww_iload_n C 3 dX5_asks_71 rfl rfl 72 rfl ?_
          refine ww_callVi C (As := [.int a2, .int a3]) (st := []) h cl_X1.1 (obScene (by decide) hn) (fun _ _ hF => k_X1_saidReach hn (by decide) hF) w_480 cm_X1_saidReach (by decide) (by decide) rfl rfl (Nat.le_of_ble_eq_true rfl) dX5_asks_72 75 rfl (fun v20 u19 h => ?_)
          exact ww_iret C dX5_asks_75 hr h
      · refine ww_sipush C (-1000 : Int32) dX5_asks_58 (by decide) 61 rfl ?_
        exact ww_iret C dX5_asks_61 hr h
  · refine ww_iload_n C 3 dX5_asks_5 rfl rfl 6 rfl ?_
    refine ww_callSi C (As := [.int a3]) (st := []) h (fun _ _ hF => k_X5_isSort hn hF) w_432 cm_X5_isSort (by decide) (by decide) rfl rfl (Nat.le_of_ble_eq_true rfl) dX5_asks_6 9 rfl (fun v22 u21 h => ?_)
    refine ww_if_eq C 39 dX5_asks_9 (by decide) h 12 rfl (fun h => ?_) (fun h => ?_)
    · refine ww_sipush C (-1000 : Int32) dX5_asks_39 (by decide) 42 rfl ?_
      exact ww_iret C dX5_asks_42 hr h
    · refine ww_aload_n C 0 dX5_asks_12 rfl rfl 13 rfl ?_
      refine ww_getS C cl_X5 (obX hn) 4 (by decide) rfl 42 rfl w_369 dX5_asks_13 16 rfl ?_
      refine ww_iload_n C 3 dX5_asks_16 rfl rfl 17 rfl ?_
      refine ww_aload_n C 0 dX5_asks_17 rfl rfl 18 rfl ?_
      refine ww_getS C cl_X5 (obX hn) 4 (by decide) rfl 42 rfl w_369 dX5_asks_18 21 rfl ?_
      refine ww_getS C cl_X1 (obScene (by decide) hn) 0 (by decide) rfl 43 rfl w_316 dX5_asks_21 24 rfl ?_
      refine ww_iload_n C 3 dX5_asks_24 rfl rfl 25 rfl ?_
      refine ww_iald C (iaScene (q := 42) (by decide) hn 1 6 (by decide)) dX5_asks_25 h 26 rfl (fun h => ?_)
      refine ww_aload_n C 0 dX5_asks_26 rfl rfl 27 rfl ?_
      refine ww_getS C cl_X5 (obX hn) 4 (by decide) rfl 42 rfl w_369 dX5_asks_27 30 rfl ?_
      refine ww_getI C cl_X1 (obScene (by decide) hn) 10 (by decide) rfl w_335 dX5_asks_30 33 rfl ?_
      refine ww_callVi C (As := [.int a3, .int (u21.1 43 (a3).toNatClampNeg), .int (u21.1 42 10)]) (st := []) h cl_X1.1 (obScene (by decide) hn) (fun _ _ hF => k_X1_fading hn (by decide) hF) w_458 cm_X1_fading (by decide) (by decide) rfl rfl (Nat.le_of_ble_eq_true rfl) dX5_asks_33 36 rfl (fun v24 u23 h => ?_)
      refine ww_goto C 42 dX5_asks_36 (by decide) ?_
      exact ww_iret C dX5_asks_42 hr h

set_option maxRecDepth 100000 in
set_option maxHeartbeats 4000000 in
theorem k_X5_diver {l : Launch} {D : va_G} {ad : Nat → Nat} {cA : Nat → ClassId} {tys : List (ClassId × FieldType)} {n : Nat} {sa : Nat → Nat} (hn : 73 ≤ n) {N : Nat} {g : Mem} {a1 : Int32} {a2 : Int32} {r : Int32} {g1 : Mem} (h : X5_diver N a1 a2 g = some (r, g1)) : CTi l yX5_diver (wsm yX5_diver cX5_diver 3 (some .int)) 2 D YI ad cA tys n sa g [.ref (ad 72), .int a1, .int a2] r g1 := by
  refine ct_of RX5 rfl (by decide +kernel) (Nat.le_of_ble_eq_true rfl) rfl (fun sz => PBi D YI ad cA n r g1 sz) ?_
  intro p e R s m args below meth c C hr
  rw [X5_diver] at h
  refine ww_iload_n C 1 dX5_diver_0 rfl rfl 1 rfl ?_
  refine ww_bipush C (59 : Int32) dX5_diver_1 (by decide) 3 rfl ?_
  refine ww_callSi C (As := [.int a1, .int (59 : Int32)]) (st := []) h (fun _ _ hF => k_X5_isWithin hn hF) w_411 cm_X5_isWithin (by decide) (by decide) rfl rfl (Nat.le_of_ble_eq_true rfl) dX5_diver_3 6 rfl (fun v8 u7 h => ?_)
  refine ww_if_eq C 18 dX5_diver_6 (by decide) h 9 rfl (fun h => ?_) (fun h => ?_)
  · refine ww_bipush C (-2 : Int32) dX5_diver_18 (by decide) 20 rfl ?_
    exact ww_iret C dX5_diver_20 hr h
  · refine ww_iload_n C 2 dX5_diver_9 rfl rfl 10 rfl ?_
    refine ww_bipush C (99 : Int32) dX5_diver_10 (by decide) 12 rfl ?_
    refine ww_callSi C (As := [.int a2, .int (99 : Int32)]) (st := []) h (fun _ _ hF => k_X5_isWithin hn hF) w_411 cm_X5_isWithin (by decide) (by decide) rfl rfl (Nat.le_of_ble_eq_true rfl) dX5_diver_12 15 rfl (fun v10 u9 h => ?_)
    refine ww_if_ne C 21 dX5_diver_15 (by decide) h 18 rfl (fun h => ?_) (fun h => ?_)
    · refine ww_aload_n C 0 dX5_diver_21 rfl rfl 22 rfl ?_
      refine ww_getS C cl_X5 (obX hn) 4 (by decide) rfl 42 rfl w_369 dX5_diver_22 25 rfl ?_
      refine ww_getI C cl_X1 (obScene (by decide) hn) 9 (by decide) rfl w_333 dX5_diver_25 28 rfl ?_
      refine ww_bipush C (6 : Int32) dX5_diver_28 (by decide) 30 rfl ?_
      refine ww_icmp_lt C 36 dX5_diver_30 (by decide) h 33 rfl (fun h => ?_) (fun h => ?_)
      · refine ww_aload_n C 0 dX5_diver_36 rfl rfl 37 rfl ?_
        refine ww_getS C cl_X5 (obX hn) 4 (by decide) rfl 42 rfl w_369 dX5_diver_37 40 rfl ?_
        refine ww_iload_n C 1 dX5_diver_40 rfl rfl 41 rfl ?_
        refine ww_bipush C (10 : Int32) dX5_diver_41 (by decide) 43 rfl ?_
        refine ww_idiv C dX5_diver_43 h 44 rfl (fun h => ?_)
        refine ww_iload_n C 1 dX5_diver_44 rfl rfl 45 rfl ?_
        refine ww_bipush C (10 : Int32) dX5_diver_45 (by decide) 47 rfl ?_
        refine ww_irem C dX5_diver_47 h 48 rfl (fun h => ?_)
        refine ww_iload_n C 2 dX5_diver_48 rfl rfl 49 rfl ?_
        refine ww_callVi C (As := [.int (a1 / (10 : Int32)), .int (a1 - a1 / (10 : Int32) * (10 : Int32)), .int a2]) (st := []) h cl_X1.1 (obScene (by decide) hn) (fun _ _ hF => k_X1_comes hn (by decide) hF) w_492 cm_X1_comes (by decide) (by decide) rfl rfl (Nat.le_of_ble_eq_true rfl) dX5_diver_49 52 rfl (fun v12 u11 h => ?_)
        exact ww_iret C dX5_diver_52 hr h
      · refine ww_bipush C (-4 : Int32) dX5_diver_33 (by decide) 35 rfl ?_
        exact ww_iret C dX5_diver_35 hr h
    · refine ww_bipush C (-2 : Int32) dX5_diver_18 (by decide) 20 rfl ?_
      exact ww_iret C dX5_diver_20 hr h

set_option maxRecDepth 100000 in
set_option maxHeartbeats 4000000 in
theorem k_X5_put {l : Launch} {D : va_G} {ad : Nat → Nat} {cA : Nat → ClassId} {tys : List (ClassId × FieldType)} {n : Nat} {sa : Nat → Nat} (hn : 73 ≤ n) {N : Nat} {g : Mem} {a1 : Int32} {a2 : Int32} {r : Int32} {g1 : Mem} (h : X5_put N a1 a2 g = some (r, g1)) : CTi l yX5_put (wsm yX5_put cX5_put 4 (some .int)) 3 D YI ad cA tys n sa g [.ref (ad 72), .int a1, .int a2] r g1 := by
  refine ct_of RX5 rfl (by decide +kernel) (Nat.le_of_ble_eq_true rfl) rfl (fun sz => PBi D YI ad cA n r g1 sz) ?_
  intro p e R s m args below meth c C hr
  rw [X5_put] at h
  refine ww_aload_n C 0 dX5_put_0 rfl rfl 1 rfl ?_
  refine ww_iload_n C 1 dX5_put_1 rfl rfl 2 rfl ?_
  refine ww_callVi C (As := [.int a1]) (st := []) h cl_X5.1 (obX hn) (fun _ _ hF => k_X5_isDiver hn hF) w_476 cm_X5_isDiver (by decide) (by decide) rfl rfl (Nat.le_of_ble_eq_true rfl) dX5_put_2 5 rfl (fun v8 u7 h => ?_)
  refine ww_if_ne C 11 dX5_put_5 (by decide) h 8 rfl (fun h => ?_) (fun h => ?_)
  · refine ww_iload_n C 2 dX5_put_11 rfl rfl 12 rfl ?_
    refine ww_bipush C (99 : Int32) dX5_put_12 (by decide) 14 rfl ?_
    refine ww_callSi C (As := [.int a2, .int (99 : Int32)]) (st := []) h (fun _ _ hF => k_X5_isWithin hn hF) w_411 cm_X5_isWithin (by decide) (by decide) rfl rfl (Nat.le_of_ble_eq_true rfl) dX5_put_14 17 rfl (fun v10 u9 h => ?_)
    refine ww_if_ne C 23 dX5_put_17 (by decide) h 20 rfl (fun h => ?_) (fun h => ?_)
    · refine ww_aload_n C 0 dX5_put_23 rfl rfl 24 rfl ?_
      refine ww_getS C cl_X5 (obX hn) 4 (by decide) rfl 42 rfl w_369 dX5_put_24 27 rfl ?_
      refine ww_getS C cl_X1 (obScene (by decide) hn) 7 (by decide) rfl 50 rfl w_330 dX5_put_27 30 rfl ?_
      refine ww_iload_n C 1 dX5_put_30 rfl rfl 31 rfl ?_
      refine ww_iald C (iaScene (q := 42) (by decide) hn 8 6 (by decide)) dX5_put_31 h 32 rfl (fun h => ?_)
      refine ww_bi h (fun v11 h => ?_)
      refine ww_istore_n C [(3, .int v11), (0, .ref (ad 72)), (1, .int a1), (2, .int a2)] dX5_put_32 rfl (by decide) rfl 33 rfl ?_
      refine ww_aload_n C 1 dX5_put_33 rfl rfl 34 rfl ?_
      refine ww_getS C cl_X5 (obX hn) 4 (by decide) rfl 42 rfl w_369 dX5_put_34 37 rfl ?_
      refine ww_getS C cl_X1 (obScene (by decide) hn) 7 (by decide) rfl 50 rfl w_330 dX5_put_37 40 rfl ?_
      refine ww_iload_n C 2 dX5_put_40 rfl rfl 41 rfl ?_
      refine ww_iload_n C 3 dX5_put_41 rfl rfl 42 rfl ?_
      refine ww_iast C (iaScene (q := 42) (by decide) hn 8 6 (by decide)) dX5_put_42 h 43 rfl (fun u12 h => ?_)
      refine ww_iload_n C 0 dX5_put_43 rfl rfl 44 rfl ?_
      exact ww_iret C dX5_put_44 hr h
    · refine ww_bipush C (-7 : Int32) dX5_put_20 (by decide) 22 rfl ?_
      exact ww_iret C dX5_put_22 hr h
  · refine ww_bipush C (-5 : Int32) dX5_put_8 (by decide) 10 rfl ?_
    exact ww_iret C dX5_put_10 hr h

set_option maxRecDepth 100000 in
set_option maxHeartbeats 4000000 in
theorem k_X5_told {l : Launch} {D : va_G} {ad : Nat → Nat} {cA : Nat → ClassId} {tys : List (ClassId × FieldType)} {n : Nat} {sa : Nat → Nat} (hn : 73 ≤ n) {N : Nat} {g : Mem} {a1 : Int32} {a2 : Int32} {r : Int32} {g1 : Mem} (h : X5_told N a1 a2 g = some (r, g1)) : CTi l yX5_told (wsm yX5_told cX5_told 3 (some .int)) 7 D YI ad cA tys n sa g [.ref (ad 72), .int a1, .int a2] r g1 := by
  refine ct_of RX5 rfl (by decide +kernel) (Nat.le_of_ble_eq_true rfl) rfl (fun sz => PBi D YI ad cA n r g1 sz) ?_
  intro p e R s m args below meth c C hr
  rw [X5_told] at h
  refine ww_aload_n C 0 dX5_told_0 rfl rfl 1 rfl ?_
  refine ww_iload_n C 1 dX5_told_1 rfl rfl 2 rfl ?_
  refine ww_callVi C (As := [.int a1]) (st := []) h cl_X5.1 (obX hn) (fun _ _ hF => k_X5_isDiver hn hF) w_476 cm_X5_isDiver (by decide) (by decide) rfl rfl (Nat.le_of_ble_eq_true rfl) dX5_told_2 5 rfl (fun v20 u19 h => ?_)
  refine ww_if_ne C 11 dX5_told_5 (by decide) h 8 rfl (fun h => ?_) (fun h => ?_)
  · refine ww_iload_n C 2 dX5_told_11 rfl rfl 12 rfl ?_
    refine sw_1 h (fun e21 h => ?_) (fun n22 h => ?_)
    · refine ww_tin C (v := (0 : Int32)) e21 52 dX5_told_12 (by decide) (by decide) rfl (by decide) ?_
      refine ww_aload_n C 0 dX5_told_52 rfl rfl 53 rfl ?_
      refine ww_getS C cl_X5 (obX hn) 4 (by decide) rfl 42 rfl w_369 dX5_told_53 56 rfl ?_
      refine ww_getS C cl_X1 (obScene (by decide) hn) 7 (by decide) rfl 50 rfl w_330 dX5_told_56 59 rfl ?_
      refine ww_iload_n C 1 dX5_told_59 rfl rfl 60 rfl ?_
      refine ww_iald C (iaScene (q := 42) (by decide) hn 8 6 (by decide)) dX5_told_60 h 61 rfl (fun h => ?_)
      exact ww_iret C dX5_told_61 hr h
    refine sw_1 h (fun e23 h => ?_) (fun n24 h => ?_)
    · refine ww_tin C (v := (1 : Int32)) e23 62 dX5_told_12 (by decide) (by decide) rfl (by decide) ?_
      refine ww_aload_n C 0 dX5_told_62 rfl rfl 63 rfl ?_
      refine ww_getS C cl_X5 (obX hn) 4 (by decide) rfl 42 rfl w_369 dX5_told_63 66 rfl ?_
      refine ww_getS C cl_X1 (obScene (by decide) hn) 8 (by decide) rfl 51 rfl w_332 dX5_told_66 69 rfl ?_
      refine ww_iload_n C 1 dX5_told_69 rfl rfl 70 rfl ?_
      refine ww_iald C (iaScene (q := 42) (by decide) hn 9 6 (by decide)) dX5_told_70 h 71 rfl (fun h => ?_)
      exact ww_iret C dX5_told_71 hr h
    refine sw_1 h (fun e25 h => ?_) (fun n26 h => ?_)
    · refine ww_tin C (v := (2 : Int32)) e25 72 dX5_told_12 (by decide) (by decide) rfl (by decide) ?_
      refine ww_aload_n C 0 dX5_told_72 rfl rfl 73 rfl ?_
      refine ww_getS C cl_X5 (obX hn) 4 (by decide) rfl 42 rfl w_369 dX5_told_73 76 rfl ?_
      refine ww_getS C cl_X1 (obScene (by decide) hn) 5 (by decide) rfl 48 rfl w_326 dX5_told_76 79 rfl ?_
      refine ww_iload_n C 1 dX5_told_79 rfl rfl 80 rfl ?_
      refine ww_iald C (iaScene (q := 42) (by decide) hn 6 6 (by decide)) dX5_told_80 h 81 rfl (fun h => ?_)
      exact ww_iret C dX5_told_81 hr h
    refine sw_1 h (fun e27 h => ?_) (fun n28 h => ?_)
    · refine ww_tin C (v := (3 : Int32)) e27 82 dX5_told_12 (by decide) (by decide) rfl (by decide) ?_
      refine ww_aload_n C 0 dX5_told_82 rfl rfl 83 rfl ?_
      refine ww_getS C cl_X5 (obX hn) 4 (by decide) rfl 42 rfl w_369 dX5_told_83 86 rfl ?_
      refine ww_getS C cl_X1 (obScene (by decide) hn) 6 (by decide) rfl 49 rfl w_328 dX5_told_86 89 rfl ?_
      refine ww_iload_n C 1 dX5_told_89 rfl rfl 90 rfl ?_
      refine ww_iald C (iaScene (q := 42) (by decide) hn 7 6 (by decide)) dX5_told_90 h 91 rfl (fun h => ?_)
      exact ww_iret C dX5_told_91 hr h
    refine sw_1 h (fun e29 h => ?_) (fun n30 h => ?_)
    · refine ww_tin C (v := (4 : Int32)) e29 92 dX5_told_12 (by decide) (by decide) rfl (by decide) ?_
      refine ww_aload_n C 0 dX5_told_92 rfl rfl 93 rfl ?_
      refine ww_getS C cl_X5 (obX hn) 4 (by decide) rfl 42 rfl w_369 dX5_told_93 96 rfl ?_
      refine ww_iload_n C 1 dX5_told_96 rfl rfl 97 rfl ?_
      refine ww_callVi C (As := [.int a1]) (st := []) h cl_X1.1 (obScene (by decide) hn) (fun _ _ hF => k_X1_casksFor hn (by decide) hF) w_504 cm_X1_casksFor (by decide) (by decide) rfl rfl (Nat.le_of_ble_eq_true rfl) dX5_told_97 100 rfl (fun v32 u31 h => ?_)
      exact ww_iret C dX5_told_100 hr h
    refine sw_1 h (fun e33 h => ?_) (fun n34 h => ?_)
    · refine ww_tin C (v := (5 : Int32)) e33 101 dX5_told_12 (by decide) (by decide) rfl (by decide) ?_
      refine ww_aload_n C 0 dX5_told_101 rfl rfl 102 rfl ?_
      refine ww_getS C cl_X5 (obX hn) 4 (by decide) rfl 42 rfl w_369 dX5_told_102 105 rfl ?_
      refine ww_getS C cl_X1 (obScene (by decide) hn) 5 (by decide) rfl 48 rfl w_326 dX5_told_105 108 rfl ?_
      refine ww_iload_n C 1 dX5_told_108 rfl rfl 109 rfl ?_
      refine ww_iald C (iaScene (q := 42) (by decide) hn 6 6 (by decide)) dX5_told_109 h 110 rfl (fun h => ?_)
      refine ww_aload_n C 0 dX5_told_110 rfl rfl 111 rfl ?_
      refine ww_getS C cl_X5 (obX hn) 4 (by decide) rfl 42 rfl w_369 dX5_told_111 114 rfl ?_
      refine ww_getS C cl_X1 (obScene (by decide) hn) 6 (by decide) rfl 49 rfl w_328 dX5_told_114 117 rfl ?_
      refine ww_iload_n C 1 dX5_told_117 rfl rfl 118 rfl ?_
      refine ww_iald C (iaScene (q := 42) (by decide) hn 7 6 (by decide)) dX5_told_118 h 119 rfl (fun h => ?_)
      refine ww_callSi C (As := [.int (u19.1 48 (a1).toNatClampNeg), .int (u19.1 49 (a1).toNatClampNeg)]) (st := []) h (fun _ _ hF => k_X0_breathing hn hF) w_528 cm_X0_breathing (by decide) (by decide) rfl rfl (Nat.le_of_ble_eq_true rfl) dX5_told_119 122 rfl (fun v36 u35 h => ?_)
      exact ww_iret C dX5_told_122 hr h
    refine ww_tout C 123 dX5_told_12 (by have q0 := sw_ne (z := 0) n22 rfl; have q1 := sw_ne (z := 1) n24 rfl; have q2 := sw_ne (z := 2) n26 rfl; have q3 := sw_ne (z := 3) n28 rfl; have q4 := sw_ne (z := 4) n30 rfl; have q5 := sw_ne (z := 5) n34 rfl; omega) (by decide) ?_
    refine ww_bipush C (-7 : Int32) dX5_told_123 (by decide) 125 rfl ?_
    exact ww_iret C dX5_told_125 hr h
  · refine ww_bipush C (-5 : Int32) dX5_told_8 (by decide) 10 rfl ?_
    exact ww_iret C dX5_told_10 hr h

set_option maxRecDepth 100000 in
set_option maxHeartbeats 4000000 in
theorem k_X5_dives {l : Launch} {D : va_G} {ad : Nat → Nat} {cA : Nat → ClassId} {tys : List (ClassId × FieldType)} {n : Nat} {sa : Nat → Nat} (hn : 73 ≤ n) {N : Nat} {g : Mem} {a1 : Int32} {a2 : Int32} {a3 : Int32} {r : Int32} {g1 : Mem} (h : X5_dives N a1 a2 a3 g = some (r, g1)) : CTi l yX5_dives (wsm yX5_dives cX5_dives 4 (some .int)) 6 D YI ad cA tys n sa g [.ref (ad 72), .int a1, .int a2, .int a3] r g1 := by
  refine ct_of RX5 rfl (by decide +kernel) (Nat.le_of_ble_eq_true rfl) rfl (fun sz => PBi D YI ad cA n r g1 sz) ?_
  intro p e R s m args below meth c C hr
  rw [X5_dives] at h
  refine ww_aload_n C 0 dX5_dives_0 rfl rfl 1 rfl ?_
  refine ww_iload_n C 1 dX5_dives_1 rfl rfl 2 rfl ?_
  refine ww_callVi C (As := [.int a1]) (st := []) h cl_X5.1 (obX hn) (fun _ _ hF => k_X5_isDiver hn hF) w_476 cm_X5_isDiver (by decide) (by decide) rfl rfl (Nat.le_of_ble_eq_true rfl) dX5_dives_2 5 rfl (fun v18 u17 h => ?_)
  refine ww_if_eq C 15 dX5_dives_5 (by decide) h 8 rfl (fun h => ?_) (fun h => ?_)
  · refine ww_bipush C (-5 : Int32) dX5_dives_15 (by decide) 17 rfl ?_
    exact ww_iret C dX5_dives_17 hr h
  · refine ww_iload_n C 2 dX5_dives_8 rfl rfl 9 rfl ?_
    refine ww_callSi C (As := [.int a2]) (st := []) h (fun _ _ hF => k_X5_isCask hn hF) w_408 cm_X5_isCask (by decide) (by decide) rfl rfl (Nat.le_of_ble_eq_true rfl) dX5_dives_9 12 rfl (fun v20 u19 h => ?_)
    refine ww_if_ne C 18 dX5_dives_12 (by decide) h 15 rfl (fun h => ?_) (fun h => ?_)
    · refine ww_iload_n C 3 dX5_dives_18 rfl rfl 19 rfl ?_
      refine sw_1 h (fun e21 h => ?_) (fun n22 h => ?_)
      · refine ww_tin C (v := (0 : Int32)) e21 44 dX5_dives_19 (by decide) (by decide) rfl (by decide) ?_
        refine ww_aload_n C 0 dX5_dives_44 rfl rfl 45 rfl ?_
        refine ww_getS C cl_X5 (obX hn) 4 (by decide) rfl 42 rfl w_369 dX5_dives_45 48 rfl ?_
        refine ww_iload_n C 1 dX5_dives_48 rfl rfl 49 rfl ?_
        refine ww_iload_n C 2 dX5_dives_49 rfl rfl 50 rfl ?_
        refine ww_callVi C (As := [.int a1, .int a2]) (st := []) h cl_X1.1 (obScene (by decide) hn) (fun _ _ hF => k_X1_reach hn (by decide) hF) w_535 cm_X1_reach (by decide) (by decide) rfl rfl (Nat.le_of_ble_eq_true rfl) dX5_dives_50 53 rfl (fun v24 u23 h => ?_)
        exact ww_iret C dX5_dives_53 hr h
      refine sw_1 h (fun e25 h => ?_) (fun n26 h => ?_)
      · refine ww_tin C (v := (1 : Int32)) e25 54 dX5_dives_19 (by decide) (by decide) rfl (by decide) ?_
        refine ww_aload_n C 0 dX5_dives_54 rfl rfl 55 rfl ?_
        refine ww_getS C cl_X5 (obX hn) 4 (by decide) rfl 42 rfl w_369 dX5_dives_55 58 rfl ?_
        refine ww_iload_n C 1 dX5_dives_58 rfl rfl 59 rfl ?_
        refine ww_iload_n C 2 dX5_dives_59 rfl rfl 60 rfl ?_
        refine ww_callVi C (As := [.int a1, .int a2]) (st := []) h cl_X1.1 (obScene (by decide) hn) (fun _ _ hF => k_X1_cost hn (by decide) hF) w_536 cm_X1_cost (by decide) (by decide) rfl rfl (Nat.le_of_ble_eq_true rfl) dX5_dives_60 63 rfl (fun v28 u27 h => ?_)
        exact ww_iret C dX5_dives_63 hr h
      refine sw_1 h (fun e29 h => ?_) (fun n30 h => ?_)
      · refine ww_tin C (v := (2 : Int32)) e29 64 dX5_dives_19 (by decide) (by decide) rfl (by decide) ?_
        refine ww_aload_n C 0 dX5_dives_64 rfl rfl 65 rfl ?_
        refine ww_getS C cl_X5 (obX hn) 4 (by decide) rfl 42 rfl w_369 dX5_dives_65 68 rfl ?_
        refine ww_iload_n C 1 dX5_dives_68 rfl rfl 69 rfl ?_
        refine ww_iload_n C 2 dX5_dives_69 rfl rfl 70 rfl ?_
        refine ww_callVi C (As := [.int a1, .int a2]) (st := []) h cl_X1.1 (obScene (by decide) hn) (fun _ _ hF => k_X1_can hn (by decide) hF) w_537 cm_X1_can (by decide) (by decide) rfl rfl (Nat.le_of_ble_eq_true rfl) dX5_dives_70 73 rfl (fun v32 u31 h => ?_)
        refine ww_if_eq C 80 dX5_dives_73 (by decide) h 76 rfl (fun h => ?_) (fun h => ?_)
        · refine ww_iconst C (0 : Int32) dX5_dives_80 (by decide) 81 rfl ?_
          exact ww_iret C dX5_dives_81 hr h
        · refine ww_iconst C (1 : Int32) dX5_dives_76 (by decide) 77 rfl ?_
          refine ww_goto C 81 dX5_dives_77 (by decide) ?_
          exact ww_iret C dX5_dives_81 hr h
      refine ww_tout C 82 dX5_dives_19 (by have q0 := sw_ne (z := 0) n22 rfl; have q1 := sw_ne (z := 1) n26 rfl; have q2 := sw_ne (z := 2) n30 rfl; omega) (by decide) ?_
      refine ww_bipush C (-7 : Int32) dX5_dives_82 (by decide) 84 rfl ?_
      exact ww_iret C dX5_dives_84 hr h
    · refine ww_bipush C (-5 : Int32) dX5_dives_15 (by decide) 17 rfl ?_
      exact ww_iret C dX5_dives_17 hr h

set_option maxRecDepth 100000 in
set_option maxHeartbeats 4000000 in
theorem k_X5_dive {l : Launch} {D : va_G} {ad : Nat → Nat} {cA : Nat → ClassId} {tys : List (ClassId × FieldType)} {n : Nat} {sa : Nat → Nat} (hn : 73 ≤ n) {N : Nat} {g : Mem} {a1 : Int32} {a2 : Int32} {r : Int32} {g1 : Mem} (h : X5_dive N a1 a2 g = some (r, g1)) : CTi l yX5_dive (wsm yX5_dive cX5_dive 3 (some .int)) 6 D YI ad cA tys n sa g [.ref (ad 72), .int a1, .int a2] r g1 := by
  refine ct_of RX5 rfl (by decide +kernel) (Nat.le_of_ble_eq_true rfl) rfl (fun sz => PBi D YI ad cA n r g1 sz) ?_
  intro p e R s m args below meth c C hr
  rw [X5_dive] at h
  refine ww_aload_n C 0 dX5_dive_0 rfl rfl 1 rfl ?_
  refine ww_iload_n C 1 dX5_dive_1 rfl rfl 2 rfl ?_
  refine ww_callVi C (As := [.int a1]) (st := []) h cl_X5.1 (obX hn) (fun _ _ hF => k_X5_isDiver hn hF) w_476 cm_X5_isDiver (by decide) (by decide) rfl rfl (Nat.le_of_ble_eq_true rfl) dX5_dive_2 5 rfl (fun v10 u9 h => ?_)
  refine ww_if_ne C 11 dX5_dive_5 (by decide) h 8 rfl (fun h => ?_) (fun h => ?_)
  · refine ww_iload_n C 2 dX5_dive_11 rfl rfl 12 rfl ?_
    refine ww_callSi C (As := [.int a2]) (st := []) h (fun _ _ hF => k_X5_isCask hn hF) w_408 cm_X5_isCask (by decide) (by decide) rfl rfl (Nat.le_of_ble_eq_true rfl) dX5_dive_12 15 rfl (fun v12 u11 h => ?_)
    refine ww_if_ne C 21 dX5_dive_15 (by decide) h 18 rfl (fun h => ?_) (fun h => ?_)
    · refine ww_aload_n C 0 dX5_dive_21 rfl rfl 22 rfl ?_
      refine ww_getS C cl_X5 (obX hn) 4 (by decide) rfl 42 rfl w_369 dX5_dive_22 25 rfl ?_
      refine ww_iload_n C 1 dX5_dive_25 rfl rfl 26 rfl ?_
      refine ww_iload_n C 2 dX5_dive_26 rfl rfl 27 rfl ?_
      refine ww_callVi C (As := [.int a1, .int a2]) (st := []) h cl_X1.1 (obScene (by decide) hn) (fun _ _ hF => k_X1_can hn (by decide) hF) w_537 cm_X1_can (by decide) (by decide) rfl rfl (Nat.le_of_ble_eq_true rfl) dX5_dive_27 30 rfl (fun v14 u13 h => ?_)
      refine ww_if_ne C 36 dX5_dive_30 (by decide) h 33 rfl (fun h => ?_) (fun h => ?_)
      · refine ww_aload_n C 0 dX5_dive_36 rfl rfl 37 rfl ?_
        refine ww_getS C cl_X5 (obX hn) 4 (by decide) rfl 42 rfl w_369 dX5_dive_37 40 rfl ?_
        refine ww_iload_n C 1 dX5_dive_40 rfl rfl 41 rfl ?_
        refine ww_iload_n C 2 dX5_dive_41 rfl rfl 42 rfl ?_
        refine ww_callVv C (As := [.int a1, .int a2]) (st := []) h cl_X1.1 (obScene (by decide) hn) (fun _ _ hF => k_X1_bringUp hn (by decide) hF) w_542 cm_X1_bringUp (by decide) (by decide) rfl rfl (Nat.le_of_ble_eq_true rfl) dX5_dive_42 45 rfl (fun _ u15 h => ?_)
        refine ww_aload_n C 0 dX5_dive_45 rfl rfl 46 rfl ?_
        refine ww_getS C cl_X5 (obX hn) 4 (by decide) rfl 42 rfl w_369 dX5_dive_46 49 rfl ?_
        refine ww_getS C cl_X1 (obScene (by decide) hn) 7 (by decide) rfl 50 rfl w_330 dX5_dive_49 52 rfl ?_
        refine ww_iload_n C 1 dX5_dive_52 rfl rfl 53 rfl ?_
        refine ww_iald C (iaScene (q := 42) (by decide) hn 8 6 (by decide)) dX5_dive_53 h 54 rfl (fun h => ?_)
        exact ww_iret C dX5_dive_54 hr h
      · refine ww_bipush C (-3 : Int32) dX5_dive_33 (by decide) 35 rfl ?_
        exact ww_iret C dX5_dive_35 hr h
    · refine ww_bipush C (-6 : Int32) dX5_dive_18 (by decide) 20 rfl ?_
      exact ww_iret C dX5_dive_20 hr h
  · refine ww_bipush C (-5 : Int32) dX5_dive_8 (by decide) 10 rfl ?_
    exact ww_iret C dX5_dive_10 hr h

set_option maxRecDepth 100000 in
set_option maxHeartbeats 4000000 in
theorem k_X5_open {l : Launch} {D : va_G} {ad : Nat → Nat} {cA : Nat → ClassId} {tys : List (ClassId × FieldType)} {n : Nat} {sa : Nat → Nat} (hn : 73 ≤ n) {N : Nat} {g : Mem} {a1 : Int32} {r : Int32} {g1 : Mem} (h : X5_open N a1 g = some (r, g1)) : CTi l yX5_open (wsm yX5_open cX5_open 2 (some .int)) 4 D YI ad cA tys n sa g [.ref (ad 72), .int a1] r g1 := by
  refine ct_of RX5 rfl (by decide +kernel) (Nat.le_of_ble_eq_true rfl) rfl (fun sz => PBi D YI ad cA n r g1 sz) ?_
  intro p e R s m args below meth c C hr
  rw [X5_open] at h
  refine ww_iload_n C 1 dX5_open_0 rfl rfl 1 rfl ?_
  refine ww_callSi C (As := [.int a1]) (st := []) h (fun _ _ hF => k_X5_isCask hn hF) w_408 cm_X5_isCask (by decide) (by decide) rfl rfl (Nat.le_of_ble_eq_true rfl) dX5_open_1 4 rfl (fun v6 u5 h => ?_)
  refine ww_if_ne C 10 dX5_open_4 (by decide) h 7 rfl (fun h => ?_) (fun h => ?_)
  · refine ww_aload_n C 0 dX5_open_10 rfl rfl 11 rfl ?_
    refine ww_getS C cl_X5 (obX hn) 4 (by decide) rfl 42 rfl w_369 dX5_open_11 14 rfl ?_
    refine ww_getS C cl_X1 (obScene (by decide) hn) 4 (by decide) rfl 47 rfl w_324 dX5_open_14 17 rfl ?_
    refine ww_iload_n C 1 dX5_open_17 rfl rfl 18 rfl ?_
    refine ww_iald C (iaScene (q := 42) (by decide) hn 5 12 (by decide)) dX5_open_18 h 19 rfl (fun h => ?_)
    refine ww_iconst C (1 : Int32) dX5_open_19 (by decide) 20 rfl ?_
    refine ww_icmp_eq C 26 dX5_open_20 (by decide) h 23 rfl (fun h => ?_) (fun h => ?_)
    · refine ww_aload_n C 0 dX5_open_26 rfl rfl 27 rfl ?_
      refine ww_getS C cl_X5 (obX hn) 4 (by decide) rfl 42 rfl w_369 dX5_open_27 30 rfl ?_
      refine ww_iload_n C 1 dX5_open_30 rfl rfl 31 rfl ?_
      refine ww_callVv C (As := [.int a1]) (st := []) h cl_X1.1 (obScene (by decide) hn) (fun _ _ hF => k_X1_letLoose hn (by decide) hF) w_550 cm_X1_letLoose (by decide) (by decide) rfl rfl (Nat.le_of_ble_eq_true rfl) dX5_open_31 34 rfl (fun _ u7 h => ?_)
      refine ww_aload_n C 0 dX5_open_34 rfl rfl 35 rfl ?_
      refine ww_getS C cl_X5 (obX hn) 4 (by decide) rfl 42 rfl w_369 dX5_open_35 38 rfl ?_
      refine ww_getS C cl_X1 (obScene (by decide) hn) 0 (by decide) rfl 43 rfl w_316 dX5_open_38 41 rfl ?_
      refine ww_aload_n C 0 dX5_open_41 rfl rfl 42 rfl ?_
      refine ww_getS C cl_X5 (obX hn) 4 (by decide) rfl 42 rfl w_369 dX5_open_42 45 rfl ?_
      refine ww_getS C cl_X1 (obScene (by decide) hn) 1 (by decide) rfl 44 rfl w_318 dX5_open_45 48 rfl ?_
      refine ww_iload_n C 1 dX5_open_48 rfl rfl 49 rfl ?_
      refine ww_iald C (iaScene (q := 42) (by decide) hn 2 12 (by decide)) dX5_open_49 h 50 rfl (fun h => ?_)
      refine ww_iald C (iaScene (q := 42) (by decide) hn 1 6 (by decide)) dX5_open_50 h 51 rfl (fun h => ?_)
      exact ww_iret C dX5_open_51 hr h
    · refine ww_bipush C (-3 : Int32) dX5_open_23 (by decide) 25 rfl ?_
      exact ww_iret C dX5_open_25 hr h
  · refine ww_bipush C (-6 : Int32) dX5_open_7 (by decide) 9 rfl ?_
    exact ww_iret C dX5_open_9 hr h

set_option maxRecDepth 100000 in
set_option maxHeartbeats 4000000 in
theorem k_X5_hour {l : Launch} {D : va_G} {ad : Nat → Nat} {cA : Nat → ClassId} {tys : List (ClassId × FieldType)} {n : Nat} {sa : Nat → Nat} (hn : 73 ≤ n) {N : Nat} {g : Mem} {r : Int32} {g1 : Mem} (h : X5_hour N g = some (r, g1)) : CTi l yX5_hour (wsm yX5_hour cX5_hour 1 (some .int)) 6 D YI ad cA tys n sa g [.ref (ad 72)] r g1 := by
  refine ct_of RX5 rfl (by decide +kernel) (Nat.le_of_ble_eq_true rfl) rfl (fun sz => PBi D YI ad cA n r g1 sz) ?_
  intro p e R s m args below meth c C hr
  rw [X5_hour] at h
  refine ww_aload_n C 0 dX5_hour_0 rfl rfl 1 rfl ?_
  refine ww_getS C cl_X5 (obX hn) 4 (by decide) rfl 42 rfl w_369 dX5_hour_1 4 rfl ?_
  refine ww_getI C cl_X1 (obScene (by decide) hn) 10 (by decide) rfl w_335 dX5_hour_4 7 rfl ?_
  refine ww_sipush C (999 : Int32) dX5_hour_7 (by decide) 10 rfl ?_
  refine ww_icmp_lt C 16 dX5_hour_10 (by decide) h 13 rfl (fun h => ?_) (fun h => ?_)
  · refine ww_aload_n C 0 dX5_hour_16 rfl rfl 17 rfl ?_
    refine ww_getS C cl_X5 (obX hn) 4 (by decide) rfl 42 rfl w_369 dX5_hour_17 20 rfl ?_
    refine ww_iconst C (1 : Int32) dX5_hour_20 (by decide) 21 rfl ?_
    refine ww_callVv C (As := [.int (1 : Int32)]) (st := []) h cl_X1.1 (obScene (by decide) hn) (fun _ _ hF => k_X1_passHours hn (by decide) hF) w_563 cm_X1_passHours (by decide) (by decide) rfl rfl (Nat.le_of_ble_eq_true rfl) dX5_hour_21 24 rfl (fun _ u5 h => ?_)
    refine ww_aload_n C 0 dX5_hour_24 rfl rfl 25 rfl ?_
    refine ww_getS C cl_X5 (obX hn) 4 (by decide) rfl 42 rfl w_369 dX5_hour_25 28 rfl ?_
    refine ww_callVi C (As := []) (st := []) h cl_X1.1 (obScene (by decide) hn) (fun _ _ hF => k_X1_mainSort hn (by decide) hF) w_574 cm_X1_mainSort (by decide) (by decide) rfl rfl (Nat.le_of_ble_eq_true rfl) dX5_hour_28 31 rfl (fun v8 u7 h => ?_)
    exact ww_iret C dX5_hour_31 hr h
  · refine ww_bipush C (-3 : Int32) dX5_hour_13 (by decide) 15 rfl ?_
    exact ww_iret C dX5_hour_15 hr h

set_option maxRecDepth 100000 in
set_option maxHeartbeats 4000000 in
theorem k_X5_bay {l : Launch} {D : va_G} {ad : Nat → Nat} {cA : Nat → ClassId} {tys : List (ClassId × FieldType)} {n : Nat} {sa : Nat → Nat} (hn : 73 ≤ n) {N : Nat} {g : Mem} {a1 : Int32} {r : Int32} {g1 : Mem} (h : X5_bay N a1 g = some (r, g1)) : CTi l yX5_bay (wsm yX5_bay cX5_bay 2 (some .int)) 4 D YI ad cA tys n sa g [.ref (ad 72), .int a1] r g1 := by
  refine ct_of RX5 rfl (by decide +kernel) (Nat.le_of_ble_eq_true rfl) rfl (fun sz => PBi D YI ad cA n r g1 sz) ?_
  intro p e R s m args below meth c C hr
  rw [X5_bay] at h
  refine ww_iload_n C 1 dX5_bay_0 rfl rfl 1 rfl ?_
  refine ww_bipush C (7 : Int32) dX5_bay_1 (by decide) 3 rfl ?_
  refine ww_callSi C (As := [.int a1, .int (7 : Int32)]) (st := []) h (fun _ _ hF => k_X5_isWithin hn hF) w_411 cm_X5_isWithin (by decide) (by decide) rfl rfl (Nat.le_of_ble_eq_true rfl) dX5_bay_3 6 rfl (fun v6 u5 h => ?_)
  refine ww_if_eq C 20 dX5_bay_6 (by decide) h 9 rfl (fun h => ?_) (fun h => ?_)
  · refine ww_sipush C (-1000 : Int32) dX5_bay_20 (by decide) 23 rfl ?_
    exact ww_iret C dX5_bay_23 hr h
  · refine ww_aload_n C 0 dX5_bay_9 rfl rfl 10 rfl ?_
    refine ww_getS C cl_X5 (obX hn) 4 (by decide) rfl 42 rfl w_369 dX5_bay_10 13 rfl ?_
    refine ww_iload_n C 1 dX5_bay_13 rfl rfl 14 rfl ?_
    refine ww_callVi C (As := [.int a1]) (st := []) h cl_X1.1 (obScene (by decide) hn) (fun _ _ hF => k_X1_overBay hn (by decide) hF) w_582 cm_X1_overBay (by decide) (by decide) rfl rfl (Nat.le_of_ble_eq_true rfl) dX5_bay_14 17 rfl (fun v8 u7 h => ?_)
    refine ww_goto C 23 dX5_bay_17 (by decide) ?_
    exact ww_iret C dX5_bay_23 hr h

set_option maxRecDepth 100000 in
set_option maxHeartbeats 4000000 in
theorem k_X5_run {l : Launch} {D : va_G} {ad : Nat → Nat} {cA : Nat → ClassId} {tys : List (ClassId × FieldType)} {n : Nat} {sa : Nat → Nat} (hn : 73 ≤ n) {N : Nat} {g : Mem} {a1 : Int32} {a2 : Int32} {r : Int32} {g1 : Mem} (h : X5_run N a1 a2 g = some (r, g1)) : CTi l yX5_run (wsm yX5_run cX5_run 5 (some .int)) 6 D YI ad cA tys n sa g [.ref (ad 72), .int a1, .int a2] r g1 := by
  refine ct_of RX5 rfl (by decide +kernel) (Nat.le_of_ble_eq_true rfl) rfl (fun sz => PBi D YI ad cA n r g1 sz) ?_
  intro p e R s m args below meth c C hr
  rw [X5_run] at h
  refine ww_iload_n C 2 dX5_run_0 rfl rfl 1 rfl ?_
  refine ww_bipush C (7 : Int32) dX5_run_1 (by decide) 3 rfl ?_
  refine ww_callSi C (As := [.int a2, .int (7 : Int32)]) (st := []) h (fun _ _ hF => k_X5_isWithin hn hF) w_411 cm_X5_isWithin (by decide) (by decide) rfl rfl (Nat.le_of_ble_eq_true rfl) dX5_run_3 6 rfl (fun v48 u47 h => ?_)
  refine ww_istore_n C [(3, .int v48), (0, .ref (ad 72)), (1, .int a1), (2, .int a2)] dX5_run_6 rfl (by decide) rfl 7 rfl ?_
  refine ww_iload_n C 3 dX5_run_7 rfl rfl 8 rfl ?_
  refine ww_bipush C (10 : Int32) dX5_run_8 (by decide) 10 rfl ?_
  refine ww_icmp_lt C 28 dX5_run_10 (by decide) h 13 rfl (fun h => ?_) (fun h => ?_)
  · refine ww_iconst C (0 : Int32) dX5_run_28 (by decide) 29 rfl ?_
    refine ww_istore C [(4, .int (0 : Int32)), (3, .int v48), (0, .ref (ad 72)), (1, .int a1), (2, .int a2)] dX5_run_29 (by decide) rfl 31 rfl ?_
    refine ww_iload_n C 3 dX5_run_31 rfl rfl 32 rfl ?_
    refine ww_bipush C (40 : Int32) dX5_run_32 (by decide) 34 rfl ?_
    refine ww_callSi C (As := [.int a1, .int (40 : Int32)]) (st := []) h (fun _ _ hF => k_X5_isWithin hn hF) w_411 cm_X5_isWithin (by decide) (by decide) rfl rfl (Nat.le_of_ble_eq_true rfl) dX5_run_34 37 rfl (fun v50 u49 h => ?_)
    refine ww_if_eq C 49 dX5_run_37 (by decide) h 40 rfl (fun h => ?_) (fun h => ?_)
    · refine ww_sipush C (-1000 : Int32) dX5_run_49 (by decide) 52 rfl ?_
      exact ww_iret C dX5_run_52 hr h
    · refine ww_iload_n C 1 dX5_run_40 rfl rfl 41 rfl ?_
      refine ww_if_ne C 53 dX5_run_41 (by decide) h 44 rfl (fun h => ?_) (fun h => ?_)
      · refine ww_aload_n C 2 dX5_run_53 rfl rfl 54 rfl ?_
        refine ww_getS C cl_X5 (obX hn) 5 (by decide) rfl 52 rfl w_370 dX5_run_54 57 rfl ?_
        refine ww_aload_n C 2 dX5_run_57 rfl rfl 58 rfl ?_
        refine ww_getS C cl_X5 (obX hn) 4 (by decide) rfl 42 rfl w_369 dX5_run_58 61 rfl ?_
        refine ww_callVv C (As := [.ref (ad 42)]) (st := []) h cl_X1.1 (obScene (by decide) hn) (fun _ _ hF => k_X1_becomes hn (by decide) (by decide) hF) w_596 cm_X1_becomes (by decide) (by decide) rfl rfl (Nat.le_of_ble_eq_true rfl) dX5_run_61 64 rfl (fun _ u51 h => ?_)
        refine ww_aload_n C 2 dX5_run_64 rfl rfl 65 rfl ?_
        refine ww_getS C cl_X5 (obX hn) 5 (by decide) rfl 52 rfl w_370 dX5_run_65 68 rfl ?_
        refine ww_iload_n C 3 dX5_run_68 rfl rfl 69 rfl ?_
        refine ww_callVv C (As := [.int a1]) (st := []) h cl_X1.1 (obScene (by decide) hn) (fun _ _ hF => k_X1_passHours hn (by decide) hF) w_563 cm_X1_passHours (by decide) (by decide) rfl rfl (Nat.le_of_ble_eq_true rfl) dX5_run_69 72 rfl (fun _ u53 h => ?_)
        refine ww_iload_n C 1 dX5_run_72 rfl rfl 73 rfl ?_
        refine ww_if_eq C 87 dX5_run_73 (by decide) h 76 rfl (fun h => ?_) (fun h => ?_)
        · refine ww_aload_n C 2 dX5_run_87 rfl rfl 88 rfl ?_
          refine ww_getS C cl_X5 (obX hn) 5 (by decide) rfl 52 rfl w_370 dX5_run_88 91 rfl ?_
          refine ww_getS C cl_X1 (obScene (by decide) hn) 7 (by decide) rfl 60 rfl w_330 dX5_run_91 94 rfl ?_
          refine ww_iload_n C 4 dX5_run_94 rfl rfl 95 rfl ?_
          refine ww_bipush C (10 : Int32) dX5_run_95 (by decide) 97 rfl ?_
          refine ww_isub C dX5_run_97 98 rfl ?_
          refine ww_iald C (iaScene (q := 52) (by decide) hn 8 6 (by decide)) dX5_run_98 h 99 rfl (fun h => ?_)
          exact ww_iret C dX5_run_99 hr h
        · refine ww_aload_n C 2 dX5_run_76 rfl rfl 77 rfl ?_
          refine ww_getS C cl_X5 (obX hn) 5 (by decide) rfl 52 rfl w_370 dX5_run_77 80 rfl ?_
          refine ww_iload_n C 4 dX5_run_80 rfl rfl 81 rfl ?_
          refine ww_callVi C (As := [.int a2]) (st := []) h cl_X1.1 (obScene (by decide) hn) (fun _ _ hF => k_X1_overBay hn (by decide) hF) w_582 cm_X1_overBay (by decide) (by decide) rfl rfl (Nat.le_of_ble_eq_true rfl) dX5_run_81 84 rfl (fun v56 u55 h => ?_)
          refine ww_goto C 99 dX5_run_84 (by decide) ?_
          exact ww_iret C dX5_run_99 hr h
      · refine ww_iload C 0 dX5_run_44 rfl 46 rfl ?_
        refine ww_if_ne C 53 dX5_run_46 (by decide) h 49 rfl (fun h => ?_) (fun h => ?_)
        · refine ww_aload_n C 2 dX5_run_53 rfl rfl 54 rfl ?_
          refine ww_getS C cl_X5 (obX hn) 5 (by decide) rfl 52 rfl w_370 dX5_run_54 57 rfl ?_
          refine ww_aload_n C 2 dX5_run_57 rfl rfl 58 rfl ?_
          refine ww_getS C cl_X5 (obX hn) 4 (by decide) rfl 42 rfl w_369 dX5_run_58 61 rfl ?_
          refine ww_callVv C (As := [.ref (ad 42)]) (st := []) h cl_X1.1 (obScene (by decide) hn) (fun _ _ hF => k_X1_becomes hn (by decide) (by decide) hF) w_596 cm_X1_becomes (by decide) (by decide) rfl rfl (Nat.le_of_ble_eq_true rfl) dX5_run_61 64 rfl (fun _ u57 h => ?_)
          refine ww_aload_n C 2 dX5_run_64 rfl rfl 65 rfl ?_
          refine ww_getS C cl_X5 (obX hn) 5 (by decide) rfl 52 rfl w_370 dX5_run_65 68 rfl ?_
          refine ww_iload_n C 3 dX5_run_68 rfl rfl 69 rfl ?_
          refine ww_callVv C (As := [.int a1]) (st := []) h cl_X1.1 (obScene (by decide) hn) (fun _ _ hF => k_X1_passHours hn (by decide) hF) w_563 cm_X1_passHours (by decide) (by decide) rfl rfl (Nat.le_of_ble_eq_true rfl) dX5_run_69 72 rfl (fun _ u59 h => ?_)
          refine ww_iload_n C 1 dX5_run_72 rfl rfl 73 rfl ?_
          refine ww_if_eq C 87 dX5_run_73 (by decide) h 76 rfl (fun h => ?_) (fun h => ?_)
          · refine ww_aload_n C 2 dX5_run_87 rfl rfl 88 rfl ?_
            refine ww_getS C cl_X5 (obX hn) 5 (by decide) rfl 52 rfl w_370 dX5_run_88 91 rfl ?_
            refine ww_getS C cl_X1 (obScene (by decide) hn) 7 (by decide) rfl 60 rfl w_330 dX5_run_91 94 rfl ?_
            refine ww_iload_n C 4 dX5_run_94 rfl rfl 95 rfl ?_
            refine ww_bipush C (10 : Int32) dX5_run_95 (by decide) 97 rfl ?_
            refine ww_isub C dX5_run_97 98 rfl ?_
            refine ww_iald C (iaScene (q := 52) (by decide) hn 8 6 (by decide)) dX5_run_98 h 99 rfl (fun h => ?_)
            exact ww_iret C dX5_run_99 hr h
          · refine ww_aload_n C 2 dX5_run_76 rfl rfl 77 rfl ?_
            refine ww_getS C cl_X5 (obX hn) 5 (by decide) rfl 52 rfl w_370 dX5_run_77 80 rfl ?_
            refine ww_iload_n C 4 dX5_run_80 rfl rfl 81 rfl ?_
            refine ww_callVi C (As := [.int a2]) (st := []) h cl_X1.1 (obScene (by decide) hn) (fun _ _ hF => k_X1_overBay hn (by decide) hF) w_582 cm_X1_overBay (by decide) (by decide) rfl rfl (Nat.le_of_ble_eq_true rfl) dX5_run_81 84 rfl (fun v62 u61 h => ?_)
            refine ww_goto C 99 dX5_run_84 (by decide) ?_
            exact ww_iret C dX5_run_99 hr h
        · refine ww_sipush C (-1000 : Int32) dX5_run_49 (by decide) 52 rfl ?_
          exact ww_iret C dX5_run_52 hr h
  · refine ww_aload_n C 1 dX5_run_13 rfl rfl 14 rfl ?_
    refine ww_iload_n C 3 dX5_run_14 rfl rfl 15 rfl ?_
    refine ww_bipush C (10 : Int32) dX5_run_15 (by decide) 17 rfl ?_
    refine ww_isub C dX5_run_17 18 rfl ?_
    refine ww_callVi C (As := [.int (a2 - (10 : Int32))]) (st := []) h cl_X5.1 (obX hn) (fun _ _ hF => k_X5_isDiver hn hF) w_476 cm_X5_isDiver (by decide) (by decide) rfl rfl (Nat.le_of_ble_eq_true rfl) dX5_run_18 21 rfl (fun v64 u63 h => ?_)
    refine ww_if_eq C 28 dX5_run_21 (by decide) h 24 rfl (fun h => ?_) (fun h => ?_)
    · refine ww_iconst C (0 : Int32) dX5_run_28 (by decide) 29 rfl ?_
      refine ww_istore C [(4, .int (0 : Int32)), (3, .int v48), (0, .ref (ad 72)), (1, .int a1), (2, .int a2)] dX5_run_29 (by decide) rfl 31 rfl ?_
      refine ww_iload_n C 3 dX5_run_31 rfl rfl 32 rfl ?_
      refine ww_bipush C (40 : Int32) dX5_run_32 (by decide) 34 rfl ?_
      refine ww_callSi C (As := [.int a1, .int (40 : Int32)]) (st := []) h (fun _ _ hF => k_X5_isWithin hn hF) w_411 cm_X5_isWithin (by decide) (by decide) rfl rfl (Nat.le_of_ble_eq_true rfl) dX5_run_34 37 rfl (fun v66 u65 h => ?_)
      refine ww_if_eq C 49 dX5_run_37 (by decide) h 40 rfl (fun h => ?_) (fun h => ?_)
      · refine ww_sipush C (-1000 : Int32) dX5_run_49 (by decide) 52 rfl ?_
        exact ww_iret C dX5_run_52 hr h
      · refine ww_iload_n C 1 dX5_run_40 rfl rfl 41 rfl ?_
        refine ww_if_ne C 53 dX5_run_41 (by decide) h 44 rfl (fun h => ?_) (fun h => ?_)
        · refine ww_aload_n C 2 dX5_run_53 rfl rfl 54 rfl ?_
          refine ww_getS C cl_X5 (obX hn) 5 (by decide) rfl 52 rfl w_370 dX5_run_54 57 rfl ?_
          refine ww_aload_n C 2 dX5_run_57 rfl rfl 58 rfl ?_
          refine ww_getS C cl_X5 (obX hn) 4 (by decide) rfl 42 rfl w_369 dX5_run_58 61 rfl ?_
          refine ww_callVv C (As := [.ref (ad 42)]) (st := []) h cl_X1.1 (obScene (by decide) hn) (fun _ _ hF => k_X1_becomes hn (by decide) (by decide) hF) w_596 cm_X1_becomes (by decide) (by decide) rfl rfl (Nat.le_of_ble_eq_true rfl) dX5_run_61 64 rfl (fun _ u67 h => ?_)
          refine ww_aload_n C 2 dX5_run_64 rfl rfl 65 rfl ?_
          refine ww_getS C cl_X5 (obX hn) 5 (by decide) rfl 52 rfl w_370 dX5_run_65 68 rfl ?_
          refine ww_iload_n C 3 dX5_run_68 rfl rfl 69 rfl ?_
          refine ww_callVv C (As := [.int a1]) (st := []) h cl_X1.1 (obScene (by decide) hn) (fun _ _ hF => k_X1_passHours hn (by decide) hF) w_563 cm_X1_passHours (by decide) (by decide) rfl rfl (Nat.le_of_ble_eq_true rfl) dX5_run_69 72 rfl (fun _ u69 h => ?_)
          refine ww_iload_n C 1 dX5_run_72 rfl rfl 73 rfl ?_
          refine ww_if_eq C 87 dX5_run_73 (by decide) h 76 rfl (fun h => ?_) (fun h => ?_)
          · refine ww_aload_n C 2 dX5_run_87 rfl rfl 88 rfl ?_
            refine ww_getS C cl_X5 (obX hn) 5 (by decide) rfl 52 rfl w_370 dX5_run_88 91 rfl ?_
            refine ww_getS C cl_X1 (obScene (by decide) hn) 7 (by decide) rfl 60 rfl w_330 dX5_run_91 94 rfl ?_
            refine ww_iload_n C 4 dX5_run_94 rfl rfl 95 rfl ?_
            refine ww_bipush C (10 : Int32) dX5_run_95 (by decide) 97 rfl ?_
            refine ww_isub C dX5_run_97 98 rfl ?_
            refine ww_iald C (iaScene (q := 52) (by decide) hn 8 6 (by decide)) dX5_run_98 h 99 rfl (fun h => ?_)
            exact ww_iret C dX5_run_99 hr h
          · refine ww_aload_n C 2 dX5_run_76 rfl rfl 77 rfl ?_
            refine ww_getS C cl_X5 (obX hn) 5 (by decide) rfl 52 rfl w_370 dX5_run_77 80 rfl ?_
            refine ww_iload_n C 4 dX5_run_80 rfl rfl 81 rfl ?_
            refine ww_callVi C (As := [.int a2]) (st := []) h cl_X1.1 (obScene (by decide) hn) (fun _ _ hF => k_X1_overBay hn (by decide) hF) w_582 cm_X1_overBay (by decide) (by decide) rfl rfl (Nat.le_of_ble_eq_true rfl) dX5_run_81 84 rfl (fun v72 u71 h => ?_)
            refine ww_goto C 99 dX5_run_84 (by decide) ?_
            exact ww_iret C dX5_run_99 hr h
        · refine ww_iload C 0 dX5_run_44 rfl 46 rfl ?_
          refine ww_if_ne C 53 dX5_run_46 (by decide) h 49 rfl (fun h => ?_) (fun h => ?_)
          · refine ww_aload_n C 2 dX5_run_53 rfl rfl 54 rfl ?_
            refine ww_getS C cl_X5 (obX hn) 5 (by decide) rfl 52 rfl w_370 dX5_run_54 57 rfl ?_
            refine ww_aload_n C 2 dX5_run_57 rfl rfl 58 rfl ?_
            refine ww_getS C cl_X5 (obX hn) 4 (by decide) rfl 42 rfl w_369 dX5_run_58 61 rfl ?_
            refine ww_callVv C (As := [.ref (ad 42)]) (st := []) h cl_X1.1 (obScene (by decide) hn) (fun _ _ hF => k_X1_becomes hn (by decide) (by decide) hF) w_596 cm_X1_becomes (by decide) (by decide) rfl rfl (Nat.le_of_ble_eq_true rfl) dX5_run_61 64 rfl (fun _ u73 h => ?_)
            refine ww_aload_n C 2 dX5_run_64 rfl rfl 65 rfl ?_
            refine ww_getS C cl_X5 (obX hn) 5 (by decide) rfl 52 rfl w_370 dX5_run_65 68 rfl ?_
            refine ww_iload_n C 3 dX5_run_68 rfl rfl 69 rfl ?_
            refine ww_callVv C (As := [.int a1]) (st := []) h cl_X1.1 (obScene (by decide) hn) (fun _ _ hF => k_X1_passHours hn (by decide) hF) w_563 cm_X1_passHours (by decide) (by decide) rfl rfl (Nat.le_of_ble_eq_true rfl) dX5_run_69 72 rfl (fun _ u75 h => ?_)
            refine ww_iload_n C 1 dX5_run_72 rfl rfl 73 rfl ?_
            refine ww_if_eq C 87 dX5_run_73 (by decide) h 76 rfl (fun h => ?_) (fun h => ?_)
            · refine ww_aload_n C 2 dX5_run_87 rfl rfl 88 rfl ?_
              refine ww_getS C cl_X5 (obX hn) 5 (by decide) rfl 52 rfl w_370 dX5_run_88 91 rfl ?_
              refine ww_getS C cl_X1 (obScene (by decide) hn) 7 (by decide) rfl 60 rfl w_330 dX5_run_91 94 rfl ?_
              refine ww_iload_n C 4 dX5_run_94 rfl rfl 95 rfl ?_
              refine ww_bipush C (10 : Int32) dX5_run_95 (by decide) 97 rfl ?_
              refine ww_isub C dX5_run_97 98 rfl ?_
              refine ww_iald C (iaScene (q := 52) (by decide) hn 8 6 (by decide)) dX5_run_98 h 99 rfl (fun h => ?_)
              exact ww_iret C dX5_run_99 hr h
            · refine ww_aload_n C 2 dX5_run_76 rfl rfl 77 rfl ?_
              refine ww_getS C cl_X5 (obX hn) 5 (by decide) rfl 52 rfl w_370 dX5_run_77 80 rfl ?_
              refine ww_iload_n C 4 dX5_run_80 rfl rfl 81 rfl ?_
              refine ww_callVi C (As := [.int a2]) (st := []) h cl_X1.1 (obScene (by decide) hn) (fun _ _ hF => k_X1_overBay hn (by decide) hF) w_582 cm_X1_overBay (by decide) (by decide) rfl rfl (Nat.le_of_ble_eq_true rfl) dX5_run_81 84 rfl (fun v78 u77 h => ?_)
              refine ww_goto C 99 dX5_run_84 (by decide) ?_
              exact ww_iret C dX5_run_99 hr h
          · refine ww_sipush C (-1000 : Int32) dX5_run_49 (by decide) 52 rfl ?_
            exact ww_iret C dX5_run_52 hr h
    · refine ww_iconst C (1 : Int32) dX5_run_24 (by decide) 25 rfl ?_
      refine ww_goto C 29 dX5_run_25 (by decide) ?_
      refine ww_istore C [(4, .int (1 : Int32)), (3, .int v48), (0, .ref (ad 72)), (1, .int a1), (2, .int a2)] dX5_run_29 (by decide) rfl 31 rfl ?_
      refine ww_iload_n C 3 dX5_run_31 rfl rfl 32 rfl ?_
      refine ww_bipush C (40 : Int32) dX5_run_32 (by decide) 34 rfl ?_
      refine ww_callSi C (As := [.int a1, .int (40 : Int32)]) (st := []) h (fun _ _ hF => k_X5_isWithin hn hF) w_411 cm_X5_isWithin (by decide) (by decide) rfl rfl (Nat.le_of_ble_eq_true rfl) dX5_run_34 37 rfl (fun v80 u79 h => ?_)
      refine ww_if_eq C 49 dX5_run_37 (by decide) h 40 rfl (fun h => ?_) (fun h => ?_)
      · refine ww_sipush C (-1000 : Int32) dX5_run_49 (by decide) 52 rfl ?_
        exact ww_iret C dX5_run_52 hr h
      · refine ww_iload_n C 1 dX5_run_40 rfl rfl 41 rfl ?_
        refine ww_if_ne C 53 dX5_run_41 (by decide) h 44 rfl (fun h => ?_) (fun h => ?_)
        · refine ww_aload_n C 2 dX5_run_53 rfl rfl 54 rfl ?_
          refine ww_getS C cl_X5 (obX hn) 5 (by decide) rfl 52 rfl w_370 dX5_run_54 57 rfl ?_
          refine ww_aload_n C 2 dX5_run_57 rfl rfl 58 rfl ?_
          refine ww_getS C cl_X5 (obX hn) 4 (by decide) rfl 42 rfl w_369 dX5_run_58 61 rfl ?_
          refine ww_callVv C (As := [.ref (ad 42)]) (st := []) h cl_X1.1 (obScene (by decide) hn) (fun _ _ hF => k_X1_becomes hn (by decide) (by decide) hF) w_596 cm_X1_becomes (by decide) (by decide) rfl rfl (Nat.le_of_ble_eq_true rfl) dX5_run_61 64 rfl (fun _ u81 h => ?_)
          refine ww_aload_n C 2 dX5_run_64 rfl rfl 65 rfl ?_
          refine ww_getS C cl_X5 (obX hn) 5 (by decide) rfl 52 rfl w_370 dX5_run_65 68 rfl ?_
          refine ww_iload_n C 3 dX5_run_68 rfl rfl 69 rfl ?_
          refine ww_callVv C (As := [.int a1]) (st := []) h cl_X1.1 (obScene (by decide) hn) (fun _ _ hF => k_X1_passHours hn (by decide) hF) w_563 cm_X1_passHours (by decide) (by decide) rfl rfl (Nat.le_of_ble_eq_true rfl) dX5_run_69 72 rfl (fun _ u83 h => ?_)
          refine ww_iload_n C 1 dX5_run_72 rfl rfl 73 rfl ?_
          refine ww_if_eq C 87 dX5_run_73 (by decide) h 76 rfl (fun h => ?_) (fun h => ?_)
          · refine ww_aload_n C 2 dX5_run_87 rfl rfl 88 rfl ?_
            refine ww_getS C cl_X5 (obX hn) 5 (by decide) rfl 52 rfl w_370 dX5_run_88 91 rfl ?_
            refine ww_getS C cl_X1 (obScene (by decide) hn) 7 (by decide) rfl 60 rfl w_330 dX5_run_91 94 rfl ?_
            refine ww_iload_n C 4 dX5_run_94 rfl rfl 95 rfl ?_
            refine ww_bipush C (10 : Int32) dX5_run_95 (by decide) 97 rfl ?_
            refine ww_isub C dX5_run_97 98 rfl ?_
            refine ww_iald C (iaScene (q := 52) (by decide) hn 8 6 (by decide)) dX5_run_98 h 99 rfl (fun h => ?_)
            exact ww_iret C dX5_run_99 hr h
          · refine ww_aload_n C 2 dX5_run_76 rfl rfl 77 rfl ?_
            refine ww_getS C cl_X5 (obX hn) 5 (by decide) rfl 52 rfl w_370 dX5_run_77 80 rfl ?_
            refine ww_iload_n C 4 dX5_run_80 rfl rfl 81 rfl ?_
            refine ww_callVi C (As := [.int a2]) (st := []) h cl_X1.1 (obScene (by decide) hn) (fun _ _ hF => k_X1_overBay hn (by decide) hF) w_582 cm_X1_overBay (by decide) (by decide) rfl rfl (Nat.le_of_ble_eq_true rfl) dX5_run_81 84 rfl (fun v86 u85 h => ?_)
            refine ww_goto C 99 dX5_run_84 (by decide) ?_
            exact ww_iret C dX5_run_99 hr h
        · refine ww_iload C 0 dX5_run_44 rfl 46 rfl ?_
          refine ww_if_ne C 53 dX5_run_46 (by decide) h 49 rfl (fun h => ?_) (fun h => ?_)
          · refine ww_aload_n C 2 dX5_run_53 rfl rfl 54 rfl ?_
            refine ww_getS C cl_X5 (obX hn) 5 (by decide) rfl 52 rfl w_370 dX5_run_54 57 rfl ?_
            refine ww_aload_n C 2 dX5_run_57 rfl rfl 58 rfl ?_
            refine ww_getS C cl_X5 (obX hn) 4 (by decide) rfl 42 rfl w_369 dX5_run_58 61 rfl ?_
            refine ww_callVv C (As := [.ref (ad 42)]) (st := []) h cl_X1.1 (obScene (by decide) hn) (fun _ _ hF => k_X1_becomes hn (by decide) (by decide) hF) w_596 cm_X1_becomes (by decide) (by decide) rfl rfl (Nat.le_of_ble_eq_true rfl) dX5_run_61 64 rfl (fun _ u87 h => ?_)
            refine ww_aload_n C 2 dX5_run_64 rfl rfl 65 rfl ?_
            refine ww_getS C cl_X5 (obX hn) 5 (by decide) rfl 52 rfl w_370 dX5_run_65 68 rfl ?_
            refine ww_iload_n C 3 dX5_run_68 rfl rfl 69 rfl ?_
            refine ww_callVv C (As := [.int a1]) (st := []) h cl_X1.1 (obScene (by decide) hn) (fun _ _ hF => k_X1_passHours hn (by decide) hF) w_563 cm_X1_passHours (by decide) (by decide) rfl rfl (Nat.le_of_ble_eq_true rfl) dX5_run_69 72 rfl (fun _ u89 h => ?_)
            refine ww_iload_n C 1 dX5_run_72 rfl rfl 73 rfl ?_
            refine ww_if_eq C 87 dX5_run_73 (by decide) h 76 rfl (fun h => ?_) (fun h => ?_)
            · refine ww_aload_n C 2 dX5_run_87 rfl rfl 88 rfl ?_
              refine ww_getS C cl_X5 (obX hn) 5 (by decide) rfl 52 rfl w_370 dX5_run_88 91 rfl ?_
              refine ww_getS C cl_X1 (obScene (by decide) hn) 7 (by decide) rfl 60 rfl w_330 dX5_run_91 94 rfl ?_
              refine ww_iload_n C 4 dX5_run_94 rfl rfl 95 rfl ?_
              refine ww_bipush C (10 : Int32) dX5_run_95 (by decide) 97 rfl ?_
              refine ww_isub C dX5_run_97 98 rfl ?_
              refine ww_iald C (iaScene (q := 52) (by decide) hn 8 6 (by decide)) dX5_run_98 h 99 rfl (fun h => ?_)
              exact ww_iret C dX5_run_99 hr h
            · refine ww_aload_n C 2 dX5_run_76 rfl rfl 77 rfl ?_
              refine ww_getS C cl_X5 (obX hn) 5 (by decide) rfl 52 rfl w_370 dX5_run_77 80 rfl ?_
              refine ww_iload_n C 4 dX5_run_80 rfl rfl 81 rfl ?_
              refine ww_callVi C (As := [.int a2]) (st := []) h cl_X1.1 (obScene (by decide) hn) (fun _ _ hF => k_X1_overBay hn (by decide) hF) w_582 cm_X1_overBay (by decide) (by decide) rfl rfl (Nat.le_of_ble_eq_true rfl) dX5_run_81 84 rfl (fun v92 u91 h => ?_)
              refine ww_goto C 99 dX5_run_84 (by decide) ?_
              exact ww_iret C dX5_run_99 hr h
          · refine ww_sipush C (-1000 : Int32) dX5_run_49 (by decide) 52 rfl ?_
            exact ww_iret C dX5_run_52 hr h

set_option maxRecDepth 100000 in
set_option maxHeartbeats 4000000 in
theorem k_X5_stills {l : Launch} {D : va_G} {ad : Nat → Nat} {cA : Nat → ClassId} {tys : List (ClassId × FieldType)} {n : Nat} {sa : Nat → Nat} (hn : 73 ≤ n) {N : Nat} {g : Mem} {r : Int32} {g1 : Mem} (h : X5_stills N g = some (r, g1)) : CTi l yX5_stills (wsm yX5_stills cX5_stills 2 (some .int)) 6 D YI ad cA tys n sa g [.ref (ad 72)] r g1 := by
  refine ct_of RX5 rfl (by decide +kernel) (Nat.le_of_ble_eq_true rfl) rfl (fun sz => PBi D YI ad cA n r g1 sz) ?_
  intro p e R s m args below meth c C hr
  have L13h : ∀ (fu : Nat), (∀ (x1 : Int32) (g : Mem), X5_stills_L13 N fu x1 g = some (r, g1) → WW p l e R s m args below meth c 2 D YI ad cA n (MQ below (PBi D YI ad cA n r g1 s.heap.size) args s 0 0 (AA n ad s.heap.size)) g 13 [(0, .ref (ad 72)), (1, .int x1)] []) := by
    intro fu
    induction fu with
    | zero => intro x1 g h; cases h
    | succ fu ih =>
      intro x1 g h
      rw [X5_stills_L13] at h
      refine ww_iload_n C 1 dX5_stills_13 rfl rfl 14 rfl ?_
      refine ww_bipush C (60 : Int32) dX5_stills_14 (by decide) 16 rfl ?_
      refine ww_icmp_gt C 46 dX5_stills_16 (by decide) h 19 rfl (fun h => ?_) (fun h => ?_)
      · refine ww_iconst C (-1 : Int32) dX5_stills_46 (by decide) 47 rfl ?_
        exact ww_iret C dX5_stills_47 hr h
      · refine ww_aload_n C 0 dX5_stills_19 rfl rfl 20 rfl ?_
        refine ww_getS C cl_X5 (obX hn) 5 (by decide) rfl 52 rfl w_370 dX5_stills_20 23 rfl ?_
        refine ww_callVi C (As := []) (st := []) h cl_X1.1 (obScene (by decide) hn) (fun _ _ hF => k_X1_mainSort hn (by decide) hF) w_574 cm_X1_mainSort (by decide) (by decide) rfl rfl (Nat.le_of_ble_eq_true rfl) dX5_stills_23 26 rfl (fun v9 u8 h => ?_)
        refine ww_iconst C (-1 : Int32) dX5_stills_26 (by decide) 27 rfl ?_
        refine ww_icmp_ne C 32 dX5_stills_27 (by decide) h 30 rfl (fun h => ?_) (fun h => ?_)
        · refine ww_aload_n C 0 dX5_stills_32 rfl rfl 33 rfl ?_
          refine ww_getS C cl_X5 (obX hn) 5 (by decide) rfl 52 rfl w_370 dX5_stills_33 36 rfl ?_
          refine ww_iconst C (1 : Int32) dX5_stills_36 (by decide) 37 rfl ?_
          refine ww_callVv C (As := [.int (1 : Int32)]) (st := []) h cl_X1.1 (obScene (by decide) hn) (fun _ _ hF => k_X1_passHours hn (by decide) hF) w_563 cm_X1_passHours (by decide) (by decide) rfl rfl (Nat.le_of_ble_eq_true rfl) dX5_stills_37 40 rfl (fun _ u10 h => ?_)
          refine ww_iinc C 1 (1 : Int32) (by decide) (fun v12 => [(1, .int v12), (0, .ref (ad 72))]) dX5_stills_40 rfl (by decide) (fun _ => rfl) h 43 rfl (fun v12 h => ?_)
          refine ww_goto C 13 dX5_stills_43 (by decide) ?_
          exact ww_sub [1, 0] rfl (ih _ _ h)
        · refine ww_iload_n C 1 dX5_stills_30 rfl rfl 31 rfl ?_
          exact ww_iret C dX5_stills_31 hr h
  rw [X5_stills] at h
  refine ww_aload_n C 0 dX5_stills_0 rfl rfl 1 rfl ?_
  refine ww_getS C cl_X5 (obX hn) 5 (by decide) rfl 52 rfl w_370 dX5_stills_1 4 rfl ?_
  refine ww_aload_n C 0 dX5_stills_4 rfl rfl 5 rfl ?_
  refine ww_getS C cl_X5 (obX hn) 4 (by decide) rfl 42 rfl w_369 dX5_stills_5 8 rfl ?_
  refine ww_callVv C (As := [.ref (ad 42)]) (st := []) h cl_X1.1 (obScene (by decide) hn) (fun _ _ hF => k_X1_becomes hn (by decide) (by decide) hF) w_596 cm_X1_becomes (by decide) (by decide) rfl rfl (Nat.le_of_ble_eq_true rfl) dX5_stills_8 11 rfl (fun _ u13 h => ?_)
  refine ww_iconst C (0 : Int32) dX5_stills_11 (by decide) 12 rfl ?_
  refine ww_istore_n C [(1, .int (0 : Int32)), (0, .ref (ad 72))] dX5_stills_12 rfl (by decide) rfl 13 rfl ?_
  exact ww_sub [1, 0] rfl (L13h N _ _ h)

set_option maxRecDepth 100000 in
set_option maxHeartbeats 4000000 in
theorem k_X5_isSheet {l : Launch} {D : va_G} {ad : Nat → Nat} {cA : Nat → ClassId} {tys : List (ClassId × FieldType)} {n : Nat} {sa : Nat → Nat} (hn : 73 ≤ n) {N : Nat} {g : Mem} {a1 : Int32} {r : Int32} {g1 : Mem} (h : X5_isSheet N a1 g = some (r, g1)) : CTi l yX5_isSheet (wsm yX5_isSheet cX5_isSheet 1 (some .boolean)) 2 D YI ad cA tys n sa g [.int a1] r g1 := by
  refine ct_of RX5 rfl (by decide +kernel) (Nat.le_of_ble_eq_true rfl) rfl (fun sz => PBi D YI ad cA n r g1 sz) ?_
  intro p e R s m args below meth c C hr
  rw [X5_isSheet] at h
  refine ww_iload_n C 0 dX5_isSheet_0 rfl rfl 1 rfl ?_
  refine ww_iconst C (3 : Int32) dX5_isSheet_1 (by decide) 2 rfl ?_
  refine ww_callSi C (As := [.int a1, .int (3 : Int32)]) (st := []) h (fun _ _ hF => k_X5_isWithin hn hF) w_411 cm_X5_isWithin (by decide) (by decide) rfl rfl (Nat.le_of_ble_eq_true rfl) dX5_isSheet_2 5 rfl (fun v4 u3 h => ?_)
  exact ww_zretG C dX5_isSheet_5 hr h

set_option maxRecDepth 100000 in
set_option maxHeartbeats 4000000 in
theorem k_X5_refusalOfSheet {l : Launch} {D : va_G} {ad : Nat → Nat} {cA : Nat → ClassId} {tys : List (ClassId × FieldType)} {n : Nat} {sa : Nat → Nat} (hn : 73 ≤ n) {N : Nat} {g : Mem} {a1 : Int32} {a2 : Int32} {r : Int32} {g1 : Mem} (h : X5_refusalOfSheet N a1 a2 g = some (r, g1)) : CTi l yX5_refusalOfSheet (wsm yX5_refusalOfSheet cX5_refusalOfSheet 3 (some .int)) 3 D YI ad cA tys n sa g [.ref (ad 72), .int a1, .int a2] r g1 := by
  refine ct_of RX5 rfl (by decide +kernel) (Nat.le_of_ble_eq_true rfl) rfl (fun sz => PBi D YI ad cA n r g1 sz) ?_
  intro p e R s m args below meth c C hr
  rw [X5_refusalOfSheet] at h
  refine ww_iload_n C 1 dX5_refusalOfSheet_0 rfl rfl 1 rfl ?_
  refine ww_callSi C (As := [.int a1]) (st := []) h (fun _ _ hF => k_X5_isSheet hn hF) w_619 cm_X5_isSheet (by decide) (by decide) rfl rfl (Nat.le_of_ble_eq_true rfl) dX5_refusalOfSheet_1 4 rfl (fun v6 u5 h => ?_)
  refine ww_if_ne C 10 dX5_refusalOfSheet_4 (by decide) h 7 rfl (fun h => ?_) (fun h => ?_)
  · refine ww_aload_n C 0 dX5_refusalOfSheet_10 rfl rfl 11 rfl ?_
    refine ww_getS C cl_X5 (obX hn) 3 (by decide) rfl 3 rfl w_368 dX5_refusalOfSheet_11 14 rfl ?_
    refine ww_iload_n C 1 dX5_refusalOfSheet_14 rfl rfl 15 rfl ?_
    refine ww_aald C (q := 3) (L := 4) (by omega) rfl rfl dX5_refusalOfSheet_15 h (34 + 2 * (a1).toNatClampNeg) rfl 16 rfl (fun hv7 h => ?_)
    refine ww_getI C cl_X2 (obSheet (isSheet_at hv7) (Nat.le_trans (by decide) hn)) 1 (by decide) rfl w_151 dX5_refusalOfSheet_16 19 rfl ?_
    refine ww_iconst C (-1 : Int32) dX5_refusalOfSheet_19 (by decide) 20 rfl ?_
    refine ww_icmp_ne C 26 dX5_refusalOfSheet_20 (by decide) h 23 rfl (fun h => ?_) (fun h => ?_)
    · refine ww_aload_n C 0 dX5_refusalOfSheet_26 rfl rfl 27 rfl ?_
      refine ww_getS C cl_X5 (obX hn) 3 (by decide) rfl 3 rfl w_368 dX5_refusalOfSheet_27 30 rfl ?_
      refine ww_iload_n C 1 dX5_refusalOfSheet_30 rfl rfl 31 rfl ?_
      refine ww_aald C (q := 3) (L := 4) (by omega) rfl rfl dX5_refusalOfSheet_31 h (34 + 2 * (a1).toNatClampNeg) rfl 32 rfl (fun hv8 h => ?_)
      refine ww_getI C cl_X2 (obSheet (isSheet_at hv8) (Nat.le_trans (by decide) hn)) 2 (by decide) rfl w_154 dX5_refusalOfSheet_32 35 rfl ?_
      refine ww_iload_n C 2 dX5_refusalOfSheet_35 rfl rfl 36 rfl ?_
      refine ww_icmp_le C 44 dX5_refusalOfSheet_36 (by decide) h 39 rfl (fun h => ?_) (fun h => ?_)
      · refine ww_iconst C (0 : Int32) dX5_refusalOfSheet_44 (by decide) 45 rfl ?_
        exact ww_iret C dX5_refusalOfSheet_45 hr h
      · refine ww_bipush C (-2 : Int32) dX5_refusalOfSheet_39 (by decide) 41 rfl ?_
        refine ww_goto C 45 dX5_refusalOfSheet_41 (by decide) ?_
        exact ww_iret C dX5_refusalOfSheet_45 hr h
    · refine ww_bipush C (-11 : Int32) dX5_refusalOfSheet_23 (by decide) 25 rfl ?_
      exact ww_iret C dX5_refusalOfSheet_25 hr h
  · refine ww_bipush C (-2 : Int32) dX5_refusalOfSheet_7 (by decide) 9 rfl ?_
    exact ww_iret C dX5_refusalOfSheet_9 hr h

set_option maxRecDepth 100000 in
set_option maxHeartbeats 4000000 in
theorem k_X5_refusalOfRow {l : Launch} {D : va_G} {ad : Nat → Nat} {cA : Nat → ClassId} {tys : List (ClassId × FieldType)} {n : Nat} {sa : Nat → Nat} (hn : 73 ≤ n) {N : Nat} {g : Mem} {a1 : Int32} {a2 : Int32} {r : Int32} {g1 : Mem} (h : X5_refusalOfRow N a1 a2 g = some (r, g1)) : CTi l yX5_refusalOfRow (wsm yX5_refusalOfRow cX5_refusalOfRow 4 (some .int)) 4 D YI ad cA tys n sa g [.ref (ad 72), .int a1, .int a2] r g1 := by
  refine ct_of RX5 rfl (by decide +kernel) (Nat.le_of_ble_eq_true rfl) rfl (fun sz => PBi D YI ad cA n r g1 sz) ?_
  intro p e R s m args below meth c C hr
  rw [X5_refusalOfRow] at h
  refine ww_aload_n C 0 dX5_refusalOfRow_0 rfl rfl 1 rfl ?_
  refine ww_iload_n C 1 dX5_refusalOfRow_1 rfl rfl 2 rfl ?_
  refine ww_bipush C (40 : Int32) dX5_refusalOfRow_2 (by decide) 4 rfl ?_
  refine ww_callVi C (As := [.int a1, .int (40 : Int32)]) (st := []) h cl_X5.1 (obX hn) (fun _ _ hF => k_X5_refusalOfSheet hn hF) w_615 cm_X5_refusalOfSheet (by decide) (by decide) rfl rfl (Nat.le_of_ble_eq_true rfl) dX5_refusalOfRow_4 7 rfl (fun v9 u8 h => ?_)
  refine ww_istore_n C [(3, .int v9), (0, .ref (ad 72)), (1, .int a1), (2, .int a2)] dX5_refusalOfRow_7 rfl (by decide) rfl 8 rfl ?_
  refine ww_iload_n C 0 dX5_refusalOfRow_8 rfl rfl 9 rfl ?_
  refine ww_if_eq C 14 dX5_refusalOfRow_9 (by decide) h 12 rfl (fun h => ?_) (fun h => ?_)
  · refine ww_aload_n C 1 dX5_refusalOfRow_14 rfl rfl 15 rfl ?_
    refine ww_getS C cl_X5 (obX hn) 3 (by decide) rfl 3 rfl w_368 dX5_refusalOfRow_15 18 rfl ?_
    refine ww_iload_n C 2 dX5_refusalOfRow_18 rfl rfl 19 rfl ?_
    refine ww_aald C (q := 3) (L := 4) (by omega) rfl rfl dX5_refusalOfRow_19 h (34 + 2 * (a1).toNatClampNeg) rfl 20 rfl (fun hv10 h => ?_)
    refine ww_bipush C (12 : Int32) dX5_refusalOfRow_20 (by decide) 22 rfl ?_
    refine ww_callVi C (As := [.int (12 : Int32)]) (st := []) h cl_X2.1 (obSheet (isSheet_at hv10) (Nat.le_trans (by decide) hn)) (fun _ _ hF => k_X2_tellsOnly hn (isSheet_at hv10) hF) w_622 cm_X2_tellsOnly (by decide) (by decide) rfl rfl (Nat.le_of_ble_eq_true rfl) dX5_refusalOfRow_22 25 rfl (fun v12 u11 h => ?_)
    refine ww_if_ne C 31 dX5_refusalOfRow_25 (by decide) h 28 rfl (fun h => ?_) (fun h => ?_)
    · refine ww_aload_n C 1 dX5_refusalOfRow_31 rfl rfl 32 rfl ?_
      refine ww_iload_n C 3 dX5_refusalOfRow_32 rfl rfl 33 rfl ?_
      refine ww_callVi C (As := [.int a2]) (st := []) h cl_X5.1 (obX hn) (fun _ _ hF => k_X5_isDiver hn hF) w_476 cm_X5_isDiver (by decide) (by decide) rfl rfl (Nat.le_of_ble_eq_true rfl) dX5_refusalOfRow_33 36 rfl (fun v14 u13 h => ?_)
      refine ww_if_eq C 43 dX5_refusalOfRow_36 (by decide) h 39 rfl (fun h => ?_) (fun h => ?_)
      · refine ww_bipush C (-5 : Int32) dX5_refusalOfRow_43 (by decide) 45 rfl ?_
        exact ww_iret C dX5_refusalOfRow_45 hr h
      · refine ww_iconst C (0 : Int32) dX5_refusalOfRow_39 (by decide) 40 rfl ?_
        refine ww_goto C 45 dX5_refusalOfRow_40 (by decide) ?_
        exact ww_iret C dX5_refusalOfRow_45 hr h
    · refine ww_bipush C (-2 : Int32) dX5_refusalOfRow_28 (by decide) 30 rfl ?_
      exact ww_iret C dX5_refusalOfRow_30 hr h
  · refine ww_iload_n C 0 dX5_refusalOfRow_12 rfl rfl 13 rfl ?_
    exact ww_iret C dX5_refusalOfRow_13 hr h

set_option maxRecDepth 100000 in
set_option maxHeartbeats 4000000 in
theorem k_X5_row {l : Launch} {D : va_G} {ad : Nat → Nat} {cA : Nat → ClassId} {tys : List (ClassId × FieldType)} {n : Nat} {sa : Nat → Nat} (hn : 73 ≤ n) {N : Nat} {g : Mem} {a1 : Int32} {a2 : Int32} {a3 : Int32} {r : Int32} {g1 : Mem} (h : X5_row N a1 a2 a3 g = some (r, g1)) : CTi l yX5_row (wsm yX5_row cX5_row 6 (some .int)) 7 D YI ad cA tys n sa g [.ref (ad 72), .int a1, .int a2, .int a3] r g1 := by
  refine ct_of RX5 rfl (by decide +kernel) (Nat.le_of_ble_eq_true rfl) rfl (fun sz => PBi D YI ad cA n r g1 sz) ?_
  intro p e R s m args below meth c C hr
  rw [X5_row] at h
  refine ww_aload_n C 0 dX5_row_0 rfl rfl 1 rfl ?_
  refine ww_iload_n C 1 dX5_row_1 rfl rfl 2 rfl ?_
  refine ww_iload_n C 2 dX5_row_2 rfl rfl 3 rfl ?_
  refine ww_callVi C (As := [.int a1, .int a2]) (st := []) h cl_X5.1 (obX hn) (fun _ _ hF => k_X5_refusalOfRow hn hF) w_611 cm_X5_refusalOfRow (by decide) (by decide) rfl rfl (Nat.le_of_ble_eq_true rfl) dX5_row_3 6 rfl (fun v19 u18 h => ?_)
  refine ww_istore C [(4, .int v19), (0, .ref (ad 72)), (1, .int a1), (2, .int a2), (3, .int a3)] dX5_row_6 (by decide) rfl 8 rfl ?_
  refine ww_iload C 0 dX5_row_8 rfl 10 rfl ?_
  refine ww_if_eq C 16 dX5_row_10 (by decide) h 13 rfl (fun h => ?_) (fun h => ?_)
  · refine ww_iload_n C 4 dX5_row_16 rfl rfl 17 rfl ?_
    refine ww_iconst C (3 : Int32) dX5_row_17 (by decide) 18 rfl ?_
    refine ww_callSi C (As := [.int a3, .int (3 : Int32)]) (st := []) h (fun _ _ hF => k_X5_isWithin hn hF) w_411 cm_X5_isWithin (by decide) (by decide) rfl rfl (Nat.le_of_ble_eq_true rfl) dX5_row_18 21 rfl (fun v21 u20 h => ?_)
    refine ww_if_ne C 27 dX5_row_21 (by decide) h 24 rfl (fun h => ?_) (fun h => ?_)
    · refine ww_aload_n C 1 dX5_row_27 rfl rfl 28 rfl ?_
      refine ww_getS C cl_X5 (obX hn) 5 (by decide) rfl 52 rfl w_370 dX5_row_28 31 rfl ?_
      refine ww_aload_n C 1 dX5_row_31 rfl rfl 32 rfl ?_
      refine ww_getS C cl_X5 (obX hn) 4 (by decide) rfl 42 rfl w_369 dX5_row_32 35 rfl ?_
      refine ww_callVv C (As := [.ref (ad 42)]) (st := []) h cl_X1.1 (obScene (by decide) hn) (fun _ _ hF => k_X1_becomes hn (by decide) (by decide) hF) w_596 cm_X1_becomes (by decide) (by decide) rfl rfl (Nat.le_of_ble_eq_true rfl) dX5_row_35 38 rfl (fun _ u22 h => ?_)
      refine ww_aload_n C 1 dX5_row_38 rfl rfl 39 rfl ?_
      refine ww_getS C cl_X5 (obX hn) 5 (by decide) rfl 52 rfl w_370 dX5_row_39 42 rfl ?_
      refine ww_aload_n C 1 dX5_row_42 rfl rfl 43 rfl ?_
      refine ww_getS C cl_X5 (obX hn) 3 (by decide) rfl 3 rfl w_368 dX5_row_43 46 rfl ?_
      refine ww_iload_n C 2 dX5_row_46 rfl rfl 47 rfl ?_
      refine ww_aald C (q := 3) (L := 4) (by omega) rfl rfl dX5_row_47 h (34 + 2 * (a1).toNatClampNeg) rfl 48 rfl (fun hv24 h => ?_)
      refine ww_iload_n C 3 dX5_row_48 rfl rfl 49 rfl ?_
      refine ww_callVi C (As := [.ref (ad (34 + 2 * (a1).toNatClampNeg)), .int a2]) (st := []) h cl_X1.1 (obScene (by decide) hn) (fun _ _ hF => k_X1_bringsInRow hn (by decide) (isSheet_at hv24) hF) w_626 cm_X1_bringsInRow (by decide) (by decide) rfl rfl (Nat.le_of_ble_eq_true rfl) dX5_row_49 52 rfl (fun v26 u25 h => ?_)
      refine ww_istore C [(5, .int v26), (4, .int v19), (0, .ref (ad 72)), (1, .int a1), (2, .int a2), (3, .int a3)] dX5_row_52 (by decide) rfl 54 rfl ?_
      refine ww_iload_n C 5 dX5_row_54 rfl rfl 55 rfl ?_
      refine sw_1 h (fun e27 h => ?_) (fun n28 h => ?_)
      · refine ww_tin C (v := (0 : Int32)) e27 80 dX5_row_55 (by decide) (by decide) rfl (by decide) ?_
        refine ww_aload_n C 2 dX5_row_80 rfl rfl 81 rfl ?_
        refine ww_getS C cl_X5 (obX hn) 5 (by decide) rfl 52 rfl w_370 dX5_row_81 84 rfl ?_
        refine ww_iconst C (1 : Int32) dX5_row_84 (by decide) 85 rfl ?_
        refine ww_callVi C (As := [.int (1 : Int32)]) (st := []) h cl_X1.1 (obScene (by decide) hn) (fun _ _ hF => k_X1_casksAt hn (by decide) hF) w_394 cm_X1_casksAt (by decide) (by decide) rfl rfl (Nat.le_of_ble_eq_true rfl) dX5_row_85 88 rfl (fun v30 u29 h => ?_)
        exact ww_iret C dX5_row_88 hr h
      refine sw_1 h (fun e31 h => ?_) (fun n32 h => ?_)
      · refine ww_tin C (v := (1 : Int32)) e31 89 dX5_row_55 (by decide) (by decide) rfl (by decide) ?_
        refine ww_iload C 0 dX5_row_89 rfl 91 rfl ?_
        exact ww_iret C dX5_row_91 hr h
      refine sw_1 h (fun e33 h => ?_) (fun n34 h => ?_)
      · refine ww_tin C (v := (2 : Int32)) e33 92 dX5_row_55 (by decide) (by decide) rfl (by decide) ?_
        refine ww_aload_n C 2 dX5_row_92 rfl rfl 93 rfl ?_
        refine ww_getS C cl_X5 (obX hn) 5 (by decide) rfl 52 rfl w_370 dX5_row_93 96 rfl ?_
        refine ww_getS C cl_X1 (obScene (by decide) hn) 7 (by decide) rfl 60 rfl w_330 dX5_row_96 99 rfl ?_
        refine ww_iload_n C 4 dX5_row_99 rfl rfl 100 rfl ?_
        refine ww_iald C (iaScene (q := 52) (by decide) hn 8 6 (by decide)) dX5_row_100 h 101 rfl (fun h => ?_)
        exact ww_iret C dX5_row_101 hr h
      refine ww_tout C 102 dX5_row_55 (by have q0 := sw_ne (z := 0) n28 rfl; have q1 := sw_ne (z := 1) n32 rfl; have q2 := sw_ne (z := 2) n34 rfl; omega) (by decide) ?_
      refine ww_aload_n C 2 dX5_row_102 rfl rfl 103 rfl ?_
      refine ww_getS C cl_X5 (obX hn) 5 (by decide) rfl 52 rfl w_370 dX5_row_103 106 rfl ?_
      refine ww_getI C cl_X1 (obScene (by decide) hn) 10 (by decide) rfl w_335 dX5_row_106 109 rfl ?_
      refine ww_aload_n C 2 dX5_row_109 rfl rfl 110 rfl ?_
      refine ww_getS C cl_X5 (obX hn) 4 (by decide) rfl 42 rfl w_369 dX5_row_110 113 rfl ?_
      refine ww_getI C cl_X1 (obScene (by decide) hn) 10 (by decide) rfl w_335 dX5_row_113 116 rfl ?_
      refine ww_isub C dX5_row_116 117 rfl ?_
      exact ww_iret C dX5_row_117 hr h
    · refine ww_bipush C (-7 : Int32) dX5_row_24 (by decide) 26 rfl ?_
      exact ww_iret C dX5_row_26 hr h
  · refine ww_iload C 0 dX5_row_13 rfl 15 rfl ?_
    exact ww_iret C dX5_row_15 hr h

set_option maxRecDepth 100000 in
set_option maxHeartbeats 4000000 in
theorem k_X5_salvage {l : Launch} {D : va_G} {ad : Nat → Nat} {cA : Nat → ClassId} {tys : List (ClassId × FieldType)} {n : Nat} {sa : Nat → Nat} (hn : 73 ≤ n) {N : Nat} {g : Mem} {a1 : Int32} {a2 : Int32} {r : Int32} {g1 : Mem} (h : X5_salvage N a1 a2 g = some (r, g1)) : CTi l yX5_salvage (wsm yX5_salvage cX5_salvage 4 (some .int)) 7 D YI ad cA tys n sa g [.ref (ad 72), .int a1, .int a2] r g1 := by
  refine ct_of RX5 rfl (by decide +kernel) (Nat.le_of_ble_eq_true rfl) rfl (fun sz => PBi D YI ad cA n r g1 sz) ?_
  intro p e R s m args below meth c C hr
  rw [X5_salvage] at h
  refine ww_aload_n C 0 dX5_salvage_0 rfl rfl 1 rfl ?_
  refine ww_iload_n C 1 dX5_salvage_1 rfl rfl 2 rfl ?_
  refine ww_iload_n C 2 dX5_salvage_2 rfl rfl 3 rfl ?_
  refine ww_callVi C (As := [.int a1, .int a2]) (st := []) h cl_X5.1 (obX hn) (fun _ _ hF => k_X5_refusalOfRow hn hF) w_611 cm_X5_refusalOfRow (by decide) (by decide) rfl rfl (Nat.le_of_ble_eq_true rfl) dX5_salvage_3 6 rfl (fun v8 u7 h => ?_)
  refine ww_istore_n C [(3, .int v8), (0, .ref (ad 72)), (1, .int a1), (2, .int a2)] dX5_salvage_6 rfl (by decide) rfl 7 rfl ?_
  refine ww_iload_n C 0 dX5_salvage_7 rfl rfl 8 rfl ?_
  refine ww_if_eq C 13 dX5_salvage_8 (by decide) h 11 rfl (fun h => ?_) (fun h => ?_)
  · refine ww_aload_n C 1 dX5_salvage_13 rfl rfl 14 rfl ?_
    refine ww_getS C cl_X5 (obX hn) 4 (by decide) rfl 42 rfl w_369 dX5_salvage_14 17 rfl ?_
    refine ww_getI C cl_X1 (obScene (by decide) hn) 10 (by decide) rfl w_335 dX5_salvage_17 20 rfl ?_
    refine ww_aload_n C 1 dX5_salvage_20 rfl rfl 21 rfl ?_
    refine ww_getS C cl_X5 (obX hn) 3 (by decide) rfl 3 rfl w_368 dX5_salvage_21 24 rfl ?_
    refine ww_iload_n C 2 dX5_salvage_24 rfl rfl 25 rfl ?_
    refine ww_aald C (q := 3) (L := 4) (by omega) rfl rfl dX5_salvage_25 h (34 + 2 * (a1).toNatClampNeg) rfl 26 rfl (fun hv9 h => ?_)
    refine ww_getI C cl_X2 (obSheet (isSheet_at hv9) (Nat.le_trans (by decide) hn)) 2 (by decide) rfl w_154 dX5_salvage_26 29 rfl ?_
    refine ww_iadd C dX5_salvage_29 30 rfl ?_
    refine ww_sipush C (999 : Int32) dX5_salvage_30 (by decide) 33 rfl ?_
    refine ww_icmp_le C 39 dX5_salvage_33 (by decide) h 36 rfl (fun h => ?_) (fun h => ?_)
    · refine ww_aload_n C 1 dX5_salvage_39 rfl rfl 40 rfl ?_
      refine ww_getS C cl_X5 (obX hn) 4 (by decide) rfl 42 rfl w_369 dX5_salvage_40 43 rfl ?_
      refine ww_aload_n C 1 dX5_salvage_43 rfl rfl 44 rfl ?_
      refine ww_getS C cl_X5 (obX hn) 3 (by decide) rfl 3 rfl w_368 dX5_salvage_44 47 rfl ?_
      refine ww_iload_n C 2 dX5_salvage_47 rfl rfl 48 rfl ?_
      refine ww_aald C (q := 3) (L := 4) (by omega) rfl rfl dX5_salvage_48 h (34 + 2 * (a1).toNatClampNeg) rfl 49 rfl (fun hv10 h => ?_)
      refine ww_iload_n C 3 dX5_salvage_49 rfl rfl 50 rfl ?_
      refine ww_callVi C (As := [.ref (ad (34 + 2 * (a1).toNatClampNeg)), .int a2]) (st := []) h cl_X1.1 (obScene (by decide) hn) (fun _ _ hF => k_X1_bringsInRow hn (by decide) (isSheet_at hv10) hF) w_626 cm_X1_bringsInRow (by decide) (by decide) rfl rfl (Nat.le_of_ble_eq_true rfl) dX5_salvage_50 53 rfl (fun v12 u11 h => ?_)
      exact ww_iret C dX5_salvage_53 hr h
    · refine ww_bipush C (-3 : Int32) dX5_salvage_36 (by decide) 38 rfl ?_
      exact ww_iret C dX5_salvage_38 hr h
  · refine ww_iload_n C 0 dX5_salvage_11 rfl rfl 12 rfl ?_
    exact ww_iret C dX5_salvage_12 hr h

set_option maxRecDepth 100000 in
set_option maxHeartbeats 4000000 in
theorem k_X5_fairBehind {l : Launch} {D : va_G} {ad : Nat → Nat} {cA : Nat → ClassId} {tys : List (ClassId × FieldType)} {n : Nat} {sa : Nat → Nat} (hn : 73 ≤ n) {N : Nat} {g : Mem} {a1 : Int32} {a2 : Int32} {r : Int32} {g1 : Mem} (h : X5_fairBehind N a1 a2 g = some (r, g1)) : CTi l yX5_fairBehind (wsm yX5_fairBehind cX5_fairBehind 3 (some .int)) 6 D YI ad cA tys n sa g [.ref (ad 72), .int a1, .int a2] r g1 := by
  refine ct_of RX5 rfl (by decide +kernel) (Nat.le_of_ble_eq_true rfl) rfl (fun sz => PBi D YI ad cA n r g1 sz) ?_
  intro p e R s m args below meth c C hr
  rw [X5_fairBehind] at h
  refine ww_aload_n C 0 dX5_fairBehind_0 rfl rfl 1 rfl ?_
  refine ww_getS C cl_X5 (obX hn) 5 (by decide) rfl 52 rfl w_370 dX5_fairBehind_1 4 rfl ?_
  refine ww_aload_n C 0 dX5_fairBehind_4 rfl rfl 5 rfl ?_
  refine ww_getS C cl_X5 (obX hn) 4 (by decide) rfl 42 rfl w_369 dX5_fairBehind_5 8 rfl ?_
  refine ww_callVv C (As := [.ref (ad 42)]) (st := []) h cl_X1.1 (obScene (by decide) hn) (fun _ _ hF => k_X1_becomes hn (by decide) (by decide) hF) w_596 cm_X1_becomes (by decide) (by decide) rfl rfl (Nat.le_of_ble_eq_true rfl) dX5_fairBehind_8 11 rfl (fun _ u15 h => ?_)
  refine ww_iload_n C 2 dX5_fairBehind_11 rfl rfl 12 rfl ?_
  refine ww_callSi C (As := [.int a2]) (st := []) h (fun _ _ hF => k_X5_isCask hn hF) w_408 cm_X5_isCask (by decide) (by decide) rfl rfl (Nat.le_of_ble_eq_true rfl) dX5_fairBehind_12 15 rfl (fun v18 u17 h => ?_)
  refine ww_if_eq C 26 dX5_fairBehind_15 (by decide) h 18 rfl (fun h => ?_) (fun h => ?_)
  · refine ww_aload_n C 0 dX5_fairBehind_26 rfl rfl 27 rfl ?_
    refine ww_getS C cl_X5 (obX hn) 5 (by decide) rfl 52 rfl w_370 dX5_fairBehind_27 30 rfl ?_
    refine ww_iload_n C 1 dX5_fairBehind_30 rfl rfl 31 rfl ?_
    refine ww_callVv C (As := [.int a1]) (st := []) h cl_X1.1 (obScene (by decide) hn) (fun _ _ hF => k_X1_passHours hn (by decide) hF) w_563 cm_X1_passHours (by decide) (by decide) rfl rfl (Nat.le_of_ble_eq_true rfl) dX5_fairBehind_31 34 rfl (fun _ u19 h => ?_)
    refine ww_aload_n C 0 dX5_fairBehind_34 rfl rfl 35 rfl ?_
    refine ww_getS C cl_X5 (obX hn) 5 (by decide) rfl 52 rfl w_370 dX5_fairBehind_35 38 rfl ?_
    refine ww_callVi C (As := []) (st := []) h cl_X1.1 (obScene (by decide) hn) (fun _ _ hF => k_X1_fair hn (by decide) hF) w_645 cm_X1_fair (by decide) (by decide) rfl rfl (Nat.le_of_ble_eq_true rfl) dX5_fairBehind_38 41 rfl (fun v22 u21 h => ?_)
    exact ww_iret C dX5_fairBehind_41 hr h
  · refine ww_aload_n C 0 dX5_fairBehind_18 rfl rfl 19 rfl ?_
    refine ww_getS C cl_X5 (obX hn) 5 (by decide) rfl 52 rfl w_370 dX5_fairBehind_19 22 rfl ?_
    refine ww_iload_n C 2 dX5_fairBehind_22 rfl rfl 23 rfl ?_
    refine ww_callVv C (As := [.int a2]) (st := []) h cl_X1.1 (obScene (by decide) hn) (fun _ _ hF => k_X1_letLoose hn (by decide) hF) w_550 cm_X1_letLoose (by decide) (by decide) rfl rfl (Nat.le_of_ble_eq_true rfl) dX5_fairBehind_23 26 rfl (fun _ u23 h => ?_)
    refine ww_aload_n C 0 dX5_fairBehind_26 rfl rfl 27 rfl ?_
    refine ww_getS C cl_X5 (obX hn) 5 (by decide) rfl 52 rfl w_370 dX5_fairBehind_27 30 rfl ?_
    refine ww_iload_n C 1 dX5_fairBehind_30 rfl rfl 31 rfl ?_
    refine ww_callVv C (As := [.int a1]) (st := []) h cl_X1.1 (obScene (by decide) hn) (fun _ _ hF => k_X1_passHours hn (by decide) hF) w_563 cm_X1_passHours (by decide) (by decide) rfl rfl (Nat.le_of_ble_eq_true rfl) dX5_fairBehind_31 34 rfl (fun _ u25 h => ?_)
    refine ww_aload_n C 0 dX5_fairBehind_34 rfl rfl 35 rfl ?_
    refine ww_getS C cl_X5 (obX hn) 5 (by decide) rfl 52 rfl w_370 dX5_fairBehind_35 38 rfl ?_
    refine ww_callVi C (As := []) (st := []) h cl_X1.1 (obScene (by decide) hn) (fun _ _ hF => k_X1_fair hn (by decide) hF) w_645 cm_X1_fair (by decide) (by decide) rfl rfl (Nat.le_of_ble_eq_true rfl) dX5_fairBehind_38 41 rfl (fun v28 u27 h => ?_)
    exact ww_iret C dX5_fairBehind_41 hr h

set_option maxRecDepth 100000 in
set_option maxHeartbeats 4000000 in
theorem k_X5_which {l : Launch} {D : va_G} {ad : Nat → Nat} {cA : Nat → ClassId} {tys : List (ClassId × FieldType)} {n : Nat} {sa : Nat → Nat} (hn : 73 ≤ n) {N : Nat} {g : Mem} {a1 : Int32} {a2 : Int32} {r : Int32} {g1 : Mem} (h : X5_which N a1 a2 g = some (r, g1)) : CTi l yX5_which (wsm yX5_which cX5_which 7 (some .int)) 7 D YI ad cA tys n sa g [.ref (ad 72), .int a1, .int a2] r g1 := by
  refine ct_of RX5 rfl (by decide +kernel) (Nat.le_of_ble_eq_true rfl) rfl (fun sz => PBi D YI ad cA n r g1 sz) ?_
  intro p e R s m args below meth c C hr
  have L34h : ∀ (fu : Nat), (∀ (x3 : Int32) (x4 : Int32) (x5 : Int32) (g : Mem), X5_which_L34 N a1 a2 fu x3 x4 x5 g = some (r, g1) → WW p l e R s m args below meth c 7 D YI ad cA n (MQ below (PBi D YI ad cA n r g1 s.heap.size) args s 0 0 (AA n ad s.heap.size)) g 34 [(0, .ref (ad 72)), (1, .int a1), (2, .int a2), (3, .int x3), (4, .int x4), (5, .int x5)] []) := by
    intro fu
    induction fu with
    | zero => intro x3 x4 x5 g h; cases h
    | succ fu ih =>
      intro x3 x4 x5 g h
      rw [X5_which_L34] at h
      refine ww_iload C 5 dX5_which_34 rfl 36 rfl ?_
      refine ww_bipush C (12 : Int32) dX5_which_36 (by decide) 38 rfl ?_
      refine ww_icmp_ge C 84 dX5_which_38 (by decide) h 41 rfl (fun h => ?_) (fun h => ?_)
      · refine ww_iload_n C 2 dX5_which_84 rfl rfl 85 rfl ?_
        refine ww_if_ne C 92 dX5_which_85 (by decide) h 88 rfl (fun h => ?_) (fun h => ?_)
        · refine ww_iload C 4 dX5_which_92 rfl 94 rfl ?_
          exact ww_iret C dX5_which_94 hr h
        · refine ww_iload_n C 3 dX5_which_88 rfl rfl 89 rfl ?_
          refine ww_goto C 94 dX5_which_89 (by decide) ?_
          exact ww_iret C dX5_which_94 hr h
      · refine ww_aload_n C 0 dX5_which_41 rfl rfl 42 rfl ?_
        refine ww_getS C cl_X5 (obX hn) 4 (by decide) rfl 42 rfl w_369 dX5_which_42 45 rfl ?_
        refine ww_getS C cl_X1 (obScene (by decide) hn) 4 (by decide) rfl 47 rfl w_324 dX5_which_45 48 rfl ?_
        refine ww_iload C 5 dX5_which_48 rfl 50 rfl ?_
        refine ww_iald C (iaScene (q := 42) (by decide) hn 5 12 (by decide)) dX5_which_50 h 51 rfl (fun h => ?_)
        refine ww_iconst C (1 : Int32) dX5_which_51 (by decide) 52 rfl ?_
        refine ww_icmp_ne C 78 dX5_which_52 (by decide) h 55 rfl (fun h => ?_) (fun h => ?_)
        · refine ww_iinc C 5 (1 : Int32) (by decide) (fun v12 => [(5, .int v12), (0, .ref (ad 72)), (1, .int a1), (2, .int a2), (3, .int x3), (4, .int x4)]) dX5_which_78 rfl (by decide) (fun _ => rfl) h 81 rfl (fun v12 h => ?_)
          refine ww_goto C 34 dX5_which_81 (by decide) ?_
          exact ww_sub [1, 2, 3, 4, 5, 0] rfl (ih _ _ _ _ h)
        · refine ww_aload_n C 0 dX5_which_55 rfl rfl 56 rfl ?_
          refine ww_iload_n C 1 dX5_which_56 rfl rfl 57 rfl ?_
          refine ww_iload C 5 dX5_which_57 rfl 59 rfl ?_
          refine ww_callVi C (As := [.int a1, .int x5]) (st := []) h cl_X5.1 (obX hn) (fun _ _ hF => k_X5_fairBehind hn hF) w_641 cm_X5_fairBehind (by decide) (by decide) rfl rfl (Nat.le_of_ble_eq_true rfl) dX5_which_59 62 rfl (fun v14 u13 h => ?_)
          refine ww_istore C [(6, .int v14), (0, .ref (ad 72)), (1, .int a1), (2, .int a2), (3, .int x3), (4, .int x4), (5, .int x5)] dX5_which_62 (by decide) rfl 64 rfl ?_
          refine ww_iload C 0 dX5_which_64 rfl 66 rfl ?_
          refine ww_iload C 5 dX5_which_66 rfl 68 rfl ?_
          refine ww_icmp_le C 78 dX5_which_68 (by decide) h 71 rfl (fun h => ?_) (fun h => ?_)
          · refine ww_iinc C 6 (1 : Int32) (by decide) (fun v15 => [(5, .int v15), (6, .int v14), (0, .ref (ad 72)), (1, .int a1), (2, .int a2), (3, .int x3), (4, .int x4)]) dX5_which_78 rfl (by decide) (fun _ => rfl) h 81 rfl (fun v15 h => ?_)
            refine ww_goto C 34 dX5_which_81 (by decide) ?_
            exact ww_sub [2, 3, 4, 5, 6, 0] rfl (ih _ _ _ _ h)
          · refine ww_iload C 0 dX5_which_71 rfl 73 rfl ?_
            refine ww_istore C [(4, .int v14), (6, .int v14), (0, .ref (ad 72)), (1, .int a1), (2, .int a2), (3, .int x3), (5, .int x5)] dX5_which_73 (by decide) rfl 75 rfl ?_
            refine ww_iload C 6 dX5_which_75 rfl 77 rfl ?_
            refine ww_istore_n C [(3, .int x5), (4, .int v14), (6, .int v14), (0, .ref (ad 72)), (1, .int a1), (2, .int a2), (5, .int x5)] dX5_which_77 rfl (by decide) rfl 78 rfl ?_
            refine ww_iinc C 6 (1 : Int32) (by decide) (fun v16 => [(5, .int v16), (3, .int x5), (4, .int v14), (6, .int v14), (0, .ref (ad 72)), (1, .int a1), (2, .int a2)]) dX5_which_78 rfl (by decide) (fun _ => rfl) h 81 rfl (fun v16 h => ?_)
            refine ww_goto C 34 dX5_which_81 (by decide) ?_
            exact ww_sub [4, 5, 6, 1, 2, 0] rfl (ih _ _ _ _ h)
  rw [X5_which] at h
  refine ww_iload_n C 1 dX5_which_0 rfl rfl 1 rfl ?_
  refine ww_bipush C (40 : Int32) dX5_which_1 (by decide) 3 rfl ?_
  refine ww_callSi C (As := [.int a1, .int (40 : Int32)]) (st := []) h (fun _ _ hF => k_X5_isWithin hn hF) w_411 cm_X5_isWithin (by decide) (by decide) rfl rfl (Nat.le_of_ble_eq_true rfl) dX5_which_3 6 rfl (fun v18 u17 h => ?_)
  refine ww_if_eq C 17 dX5_which_6 (by decide) h 9 rfl (fun h => ?_) (fun h => ?_)
  · refine ww_sipush C (-1000 : Int32) dX5_which_17 (by decide) 20 rfl ?_
    exact ww_iret C dX5_which_20 hr h
  · refine ww_iload_n C 2 dX5_which_9 rfl rfl 10 rfl ?_
    refine ww_iconst C (1 : Int32) dX5_which_10 (by decide) 11 rfl ?_
    refine ww_callSi C (As := [.int a2, .int (1 : Int32)]) (st := []) h (fun _ _ hF => k_X5_isWithin hn hF) w_411 cm_X5_isWithin (by decide) (by decide) rfl rfl (Nat.le_of_ble_eq_true rfl) dX5_which_11 14 rfl (fun v20 u19 h => ?_)
    refine ww_if_ne C 21 dX5_which_14 (by decide) h 17 rfl (fun h => ?_) (fun h => ?_)
    · refine ww_iconst C (-1 : Int32) dX5_which_21 (by decide) 22 rfl ?_
      refine ww_istore_n C [(3, .int (-1 : Int32)), (0, .ref (ad 72)), (1, .int a1), (2, .int a2)] dX5_which_22 rfl (by decide) rfl 23 rfl ?_
      refine ww_aload_n C 1 dX5_which_23 rfl rfl 24 rfl ?_
      refine ww_iload_n C 2 dX5_which_24 rfl rfl 25 rfl ?_
      refine ww_iconst C (-1 : Int32) dX5_which_25 (by decide) 26 rfl ?_
      refine ww_callVi C (As := [.int a1, .int (-1 : Int32)]) (st := []) h cl_X5.1 (obX hn) (fun _ _ hF => k_X5_fairBehind hn hF) w_641 cm_X5_fairBehind (by decide) (by decide) rfl rfl (Nat.le_of_ble_eq_true rfl) dX5_which_26 29 rfl (fun v22 u21 h => ?_)
      refine ww_istore C [(4, .int v22), (3, .int (-1 : Int32)), (0, .ref (ad 72)), (1, .int a1), (2, .int a2)] dX5_which_29 (by decide) rfl 31 rfl ?_
      refine ww_iconst C (0 : Int32) dX5_which_31 (by decide) 32 rfl ?_
      refine ww_istore C [(5, .int (0 : Int32)), (4, .int v22), (3, .int (-1 : Int32)), (0, .ref (ad 72)), (1, .int a1), (2, .int a2)] dX5_which_32 (by decide) rfl 34 rfl ?_
      exact ww_sub [3, 4, 5, 2, 1, 0] rfl (L34h N _ _ _ _ h)
    · refine ww_sipush C (-1000 : Int32) dX5_which_17 (by decide) 20 rfl ?_
      exact ww_iret C dX5_which_20 hr h

set_option maxRecDepth 100000 in
set_option maxHeartbeats 4000000 in
theorem k_X5_cargo {l : Launch} {D : va_G} {ad : Nat → Nat} {cA : Nat → ClassId} {tys : List (ClassId × FieldType)} {n : Nat} {sa : Nat → Nat} (hn : 73 ≤ n) {N : Nat} {g : Mem} {a1 : Int32} {a2 : Int32} {r : Int32} {g1 : Mem} (h : X5_cargo N a1 a2 g = some (r, g1)) : CTi l yX5_cargo (wsm yX5_cargo cX5_cargo 8 (some .int)) 2 D YI ad cA tys n sa g [.ref (ad 72), .int a1, .int a2] r g1 := by
  refine ct_of RX5 rfl (by decide +kernel) (Nat.le_of_ble_eq_true rfl) rfl (fun sz => PBi D YI ad cA n r g1 sz) ?_
  intro p e R s m args below meth c C hr
  have L41h : ∀ (fu : Nat), (∀ (x3 : Int32) (x4 : Int32) (x5 : Int32) (x6 : Int32) (g : Mem), X5_cargo_L41 N a1 a2 fu x3 x4 x5 x6 g = some (r, g1) → WW p l e R s m args below meth c 8 D YI ad cA n (MQ below (PBi D YI ad cA n r g1 s.heap.size) args s 0 0 (AA n ad s.heap.size)) g 41 [(0, .ref (ad 72)), (1, .int a1), (2, .int a2), (3, .int x3), (4, .int x4), (5, .int x5), (6, .int x6)] []) := by
    intro fu
    induction fu with
    | zero => intro x3 x4 x5 x6 g h; cases h
    | succ fu ih =>
      intro x3 x4 x5 x6 g h
      rw [X5_cargo_L41] at h
      refine ww_iload C 6 dX5_cargo_41 rfl 43 rfl ?_
      refine ww_sipush C (4096 : Int32) dX5_cargo_43 (by decide) 46 rfl ?_
      refine ww_icmp_ge C 107 dX5_cargo_46 (by decide) h 49 rfl (fun h => ?_) (fun h => ?_)
      · refine ww_iload_n C 2 dX5_cargo_107 rfl rfl 108 rfl ?_
        refine ww_if_ne C 116 dX5_cargo_108 (by decide) h 111 rfl (fun h => ?_) (fun h => ?_)
        · refine ww_iload C 5 dX5_cargo_116 rfl 118 rfl ?_
          exact ww_iret C dX5_cargo_118 hr h
        · refine ww_iload C 4 dX5_cargo_111 rfl 113 rfl ?_
          refine ww_goto C 118 dX5_cargo_113 (by decide) ?_
          exact ww_iret C dX5_cargo_118 hr h
      · refine ww_iload C 6 dX5_cargo_49 rfl 51 rfl ?_
        refine ww_iload_n C 3 dX5_cargo_51 rfl rfl 52 rfl ?_
        refine ww_iand C dX5_cargo_52 53 rfl ?_
        refine ww_if_ne C 101 dX5_cargo_53 (by decide) h 56 rfl (fun h => ?_) (fun h => ?_)
        · refine ww_iinc C 6 (1 : Int32) (by decide) (fun v16 => [(6, .int v16), (0, .ref (ad 72)), (1, .int a1), (2, .int a2), (3, .int x3), (4, .int x4), (5, .int x5)]) dX5_cargo_101 rfl (by decide) (fun _ => rfl) h 104 rfl (fun v16 h => ?_)
          refine ww_goto C 41 dX5_cargo_104 (by decide) ?_
          exact ww_sub [1, 2, 3, 4, 5, 6, 0] rfl (ih _ _ _ _ _ h)
        · refine ww_aload_n C 0 dX5_cargo_56 rfl rfl 57 rfl ?_
          refine ww_getS C cl_X5 (obX hn) 4 (by decide) rfl 42 rfl w_369 dX5_cargo_57 60 rfl ?_
          refine ww_getS C cl_X1 (obScene (by decide) hn) 3 (by decide) rfl 46 rfl w_322 dX5_cargo_60 63 rfl ?_
          refine ww_iload C 6 dX5_cargo_63 rfl 65 rfl ?_
          refine ww_callSi C (As := [.ref (ad 46), .int x6]) (st := []) h (fun _ _ hF => k_X1_sum hn hF) w_650 cm_X1_sum (by decide) (by decide) rfl rfl (Nat.le_of_ble_eq_true rfl) dX5_cargo_65 68 rfl (fun v18 u17 h => ?_)
          refine ww_iload_n C 1 dX5_cargo_68 rfl rfl 69 rfl ?_
          refine ww_icmp_gt C 101 dX5_cargo_69 (by decide) h 72 rfl (fun h => ?_) (fun h => ?_)
          · refine ww_iinc C 6 (1 : Int32) (by decide) (fun v19 => [(6, .int v19), (0, .ref (ad 72)), (1, .int a1), (2, .int a2), (3, .int x3), (4, .int x4), (5, .int x5)]) dX5_cargo_101 rfl (by decide) (fun _ => rfl) h 104 rfl (fun v19 h => ?_)
            refine ww_goto C 41 dX5_cargo_104 (by decide) ?_
            exact ww_sub [1, 2, 3, 4, 5, 6, 0] rfl (ih _ _ _ _ _ h)
          · refine ww_aload_n C 0 dX5_cargo_72 rfl rfl 73 rfl ?_
            refine ww_getS C cl_X5 (obX hn) 4 (by decide) rfl 42 rfl w_369 dX5_cargo_73 76 rfl ?_
            refine ww_getS C cl_X1 (obScene (by decide) hn) 2 (by decide) rfl 45 rfl w_320 dX5_cargo_76 79 rfl ?_
            refine ww_iload C 6 dX5_cargo_79 rfl 81 rfl ?_
            refine ww_callSi C (As := [.ref (ad 45), .int x6]) (st := []) h (fun _ _ hF => k_X1_sum hn hF) w_650 cm_X1_sum (by decide) (by decide) rfl rfl (Nat.le_of_ble_eq_true rfl) dX5_cargo_81 84 rfl (fun v21 u20 h => ?_)
            refine ww_istore C [(7, .int v21), (0, .ref (ad 72)), (1, .int a1), (2, .int a2), (3, .int x3), (4, .int x4), (5, .int x5), (6, .int x6)] dX5_cargo_84 (by decide) rfl 86 rfl ?_
            refine ww_iload C 0 dX5_cargo_86 rfl 88 rfl ?_
            refine ww_iload C 6 dX5_cargo_88 rfl 90 rfl ?_
            refine ww_icmp_le C 101 dX5_cargo_90 (by decide) h 93 rfl (fun h => ?_) (fun h => ?_)
            · refine ww_iinc C 7 (1 : Int32) (by decide) (fun v22 => [(6, .int v22), (7, .int v21), (0, .ref (ad 72)), (1, .int a1), (2, .int a2), (3, .int x3), (4, .int x4), (5, .int x5)]) dX5_cargo_101 rfl (by decide) (fun _ => rfl) h 104 rfl (fun v22 h => ?_)
              refine ww_goto C 41 dX5_cargo_104 (by decide) ?_
              exact ww_sub [2, 3, 4, 5, 6, 7, 0] rfl (ih _ _ _ _ _ h)
            · refine ww_iload C 0 dX5_cargo_93 rfl 95 rfl ?_
              refine ww_istore C [(5, .int v21), (7, .int v21), (0, .ref (ad 72)), (1, .int a1), (2, .int a2), (3, .int x3), (4, .int x4), (6, .int x6)] dX5_cargo_95 (by decide) rfl 97 rfl ?_
              refine ww_iload C 7 dX5_cargo_97 rfl 99 rfl ?_
              refine ww_istore C [(4, .int x6), (5, .int v21), (7, .int v21), (0, .ref (ad 72)), (1, .int a1), (2, .int a2), (3, .int x3), (6, .int x6)] dX5_cargo_99 (by decide) rfl 101 rfl ?_
              refine ww_iinc C 7 (1 : Int32) (by decide) (fun v23 => [(6, .int v23), (4, .int x6), (5, .int v21), (7, .int v21), (0, .ref (ad 72)), (1, .int a1), (2, .int a2), (3, .int x3)]) dX5_cargo_101 rfl (by decide) (fun _ => rfl) h 104 rfl (fun v23 h => ?_)
              refine ww_goto C 41 dX5_cargo_104 (by decide) ?_
              exact ww_sub [4, 5, 6, 7, 1, 2, 0] rfl (ih _ _ _ _ _ h)
  rw [X5_cargo] at h
  refine ww_iload_n C 1 dX5_cargo_0 rfl rfl 1 rfl ?_
  refine ww_sipush C (999 : Int32) dX5_cargo_1 (by decide) 4 rfl ?_
  refine ww_callSi C (As := [.int a1, .int (999 : Int32)]) (st := []) h (fun _ _ hF => k_X5_isWithin hn hF) w_411 cm_X5_isWithin (by decide) (by decide) rfl rfl (Nat.le_of_ble_eq_true rfl) dX5_cargo_4 7 rfl (fun v25 u24 h => ?_)
  refine ww_if_eq C 18 dX5_cargo_7 (by decide) h 10 rfl (fun h => ?_) (fun h => ?_)
  · refine ww_bipush C (-2 : Int32) dX5_cargo_18 (by decide) 20 rfl ?_
    exact ww_iret C dX5_cargo_20 hr h
  · refine ww_iload_n C 2 dX5_cargo_10 rfl rfl 11 rfl ?_
    refine ww_iconst C (1 : Int32) dX5_cargo_11 (by decide) 12 rfl ?_
    refine ww_callSi C (As := [.int a2, .int (1 : Int32)]) (st := []) h (fun _ _ hF => k_X5_isWithin hn hF) w_411 cm_X5_isWithin (by decide) (by decide) rfl rfl (Nat.le_of_ble_eq_true rfl) dX5_cargo_12 15 rfl (fun v27 u26 h => ?_)
    refine ww_if_ne C 21 dX5_cargo_15 (by decide) h 18 rfl (fun h => ?_) (fun h => ?_)
    · refine ww_aload_n C 0 dX5_cargo_21 rfl rfl 22 rfl ?_
      refine ww_getS C cl_X5 (obX hn) 4 (by decide) rfl 42 rfl w_369 dX5_cargo_22 25 rfl ?_
      refine ww_iconst C (1 : Int32) dX5_cargo_25 (by decide) 26 rfl ?_
      refine ww_callVi C (As := [.int (1 : Int32)]) (st := []) h cl_X1.1 (obScene (by decide) hn) (fun _ _ hF => k_X1_casksAt hn (by decide) hF) w_394 cm_X1_casksAt (by decide) (by decide) rfl rfl (Nat.le_of_ble_eq_true rfl) dX5_cargo_26 29 rfl (fun v29 u28 h => ?_)
      refine ww_iconst C (-1 : Int32) dX5_cargo_29 (by decide) 30 rfl ?_
      refine ww_ixor C dX5_cargo_30 31 rfl ?_
      refine ww_bi h (fun v30 h => ?_)
      refine ww_istore_n C [(3, .int v30), (0, .ref (ad 72)), (1, .int a1), (2, .int a2)] dX5_cargo_31 rfl (by decide) rfl 32 rfl ?_
      refine ww_iconst C (0 : Int32) dX5_cargo_32 (by decide) 33 rfl ?_
      refine ww_istore C [(4, .int (0 : Int32)), (3, .int v30), (0, .ref (ad 72)), (1, .int a1), (2, .int a2)] dX5_cargo_33 (by decide) rfl 35 rfl ?_
      refine ww_iconst C (0 : Int32) dX5_cargo_35 (by decide) 36 rfl ?_
      refine ww_istore C [(5, .int (0 : Int32)), (4, .int (0 : Int32)), (3, .int v30), (0, .ref (ad 72)), (1, .int a1), (2, .int a2)] dX5_cargo_36 (by decide) rfl 38 rfl ?_
      refine ww_iconst C (1 : Int32) dX5_cargo_38 (by decide) 39 rfl ?_
      refine ww_istore C [(6, .int (1 : Int32)), (5, .int (0 : Int32)), (4, .int (0 : Int32)), (3, .int v30), (0, .ref (ad 72)), (1, .int a1), (2, .int a2)] dX5_cargo_39 (by decide) rfl 41 rfl ?_
      exact ww_sub [4, 5, 6, 3, 2, 1, 0] rfl (L41h N _ _ _ _ _ h)
    · refine ww_bipush C (-2 : Int32) dX5_cargo_18 (by decide) 20 rfl ?_
      exact ww_iret C dX5_cargo_20 hr h

set_option maxRecDepth 100000 in
set_option maxHeartbeats 4000000 in
theorem k_X5_mostLeft {l : Launch} {D : va_G} {ad : Nat → Nat} {cA : Nat → ClassId} {tys : List (ClassId × FieldType)} {n : Nat} {sa : Nat → Nat} (hn : 73 ≤ n) {N : Nat} {G : Nat → Int32 → Int32 → Int32 → Mem → Option (Int32 × Mem)} {rkG : Nat} (hrk : 6 ≤ rkG) (hG_X5_mostLeft : ∀ {a1 : Nat} (ha1 : isScene a1) {a2 a3 a4 : Int32} {g : Mem} {r : Int32} {g1 : Mem}, G a1 a2 a3 a4 g = some (r, g1) → CTi l yX5_mostLeft (wsm yX5_mostLeft cX5_mostLeft 7 (some .int)) rkG D YI ad cA tys n sa g [.ref (ad a1), .int a2, .int a3, .int a4] r g1) {g : Mem} {a1 : Nat} (ha1 : isScene a1) {a2 : Int32} {a3 : Int32} {a4 : Int32} {r : Int32} {g1 : Mem} (h : X5_mostLeft N G a1 a2 a3 a4 g = some (r, g1)) : CTi l yX5_mostLeft (wsm yX5_mostLeft cX5_mostLeft 7 (some .int)) (rkG + 1) D YI ad cA tys n sa g [.ref (ad a1), .int a2, .int a3, .int a4] r g1 := by
  refine ct_of RX5 rfl (by decide +kernel) (Nat.le_of_ble_eq_true rfl) rfl (fun sz => PBi D YI ad cA n r g1 sz) ?_
  intro p e R s m args below meth c C hr
  have L37h : ∀ (fu : Nat), (∀ (x4 : Int32) (x5 : Int32) (g : Mem), X5_mostLeft_L37 N G a1 a2 a3 a4 fu x4 x5 g = some (r, g1) → WW p l e R s m args below meth c 7 D YI ad cA n (MQ below (PBi D YI ad cA n r g1 s.heap.size) args s 0 0 (AA n ad s.heap.size)) g 37 [(0, .ref (ad a1)), (1, .int a2), (2, .int a3), (3, .int a4), (4, .int x4), (5, .int x5)] []) := by
    intro fu
    induction fu with
    | zero => intro x4 x5 g h; cases h
    | succ fu ih =>
      intro x4 x5 g h
      rw [X5_mostLeft_L37] at h
      refine ww_iload C 5 dX5_mostLeft_37 rfl 39 rfl ?_
      refine ww_bipush C (12 : Int32) dX5_mostLeft_39 (by decide) 41 rfl ?_
      refine ww_icmp_ge C 113 dX5_mostLeft_41 (by decide) h 44 rfl (fun h => ?_) (fun h => ?_)
      · refine ww_iload C 4 dX5_mostLeft_113 rfl 115 rfl ?_
        exact ww_iret C dX5_mostLeft_115 hr h
      · refine ww_iload C 5 dX5_mostLeft_44 rfl 46 rfl ?_
        refine ww_iload_n C 2 dX5_mostLeft_46 rfl rfl 47 rfl ?_
        refine ww_icmp_eq C 107 dX5_mostLeft_47 (by decide) h 50 rfl (fun h => ?_) (fun h => ?_)
        · refine ww_iinc C 5 (1 : Int32) (by decide) (fun v18 => [(5, .int v18), (0, .ref (ad a1)), (1, .int a2), (2, .int a3), (3, .int a4), (4, .int x4)]) dX5_mostLeft_107 rfl (by decide) (fun _ => rfl) h 110 rfl (fun v18 h => ?_)
          refine ww_goto C 37 dX5_mostLeft_110 (by decide) ?_
          exact ww_sub [1, 2, 3, 4, 5, 0] rfl (ih _ _ _ h)
        · refine ww_aload_n C 0 dX5_mostLeft_50 rfl rfl 51 rfl ?_
          refine ww_iload_n C 1 dX5_mostLeft_51 rfl rfl 52 rfl ?_
          refine ww_iload C 5 dX5_mostLeft_52 rfl 54 rfl ?_
          refine ww_callVi C (As := [.int a2, .int x5]) (st := []) h cl_X1.1 (obScene ha1 hn) (fun _ _ hF => k_X1_can hn ha1 hF) w_537 cm_X1_can (by omega) (by decide) rfl rfl (Nat.le_of_ble_eq_true rfl) dX5_mostLeft_54 57 rfl (fun v20 u19 h => ?_)
          refine ww_if_eq C 107 dX5_mostLeft_57 (by decide) h 60 rfl (fun h => ?_) (fun h => ?_)
          · refine ww_iinc C 5 (1 : Int32) (by decide) (fun v21 => [(5, .int v21), (0, .ref (ad a1)), (1, .int a2), (2, .int a3), (3, .int a4), (4, .int x4)]) dX5_mostLeft_107 rfl (by decide) (fun _ => rfl) h 110 rfl (fun v21 h => ?_)
            refine ww_goto C 37 dX5_mostLeft_110 (by decide) ?_
            exact ww_sub [1, 2, 3, 4, 5, 0] rfl (ih _ _ _ h)
          · refine ww_aload_n C 0 dX5_mostLeft_60 rfl rfl 61 rfl ?_
            refine ww_getS C cl_X1 (obScene ha1 hn) 7 (by decide) rfl (a1 + 8) (so_scene ha1 7 8 (by decide) rfl) w_330 dX5_mostLeft_61 64 rfl ?_
            refine ww_iload_n C 1 dX5_mostLeft_64 rfl rfl 65 rfl ?_
            refine ww_iald C (iaScene (q := a1) ha1 hn 8 6 (by decide)) dX5_mostLeft_65 h 66 rfl (fun h => ?_)
            refine ww_bi h (fun v22 h => ?_)
            refine ww_istore C [(6, .int v22), (0, .ref (ad a1)), (1, .int a2), (2, .int a3), (3, .int a4), (4, .int x4), (5, .int x5)] dX5_mostLeft_66 (by decide) rfl 68 rfl ?_
            refine ww_aload_n C 1 dX5_mostLeft_68 rfl rfl 69 rfl ?_
            refine ww_iload_n C 2 dX5_mostLeft_69 rfl rfl 70 rfl ?_
            refine ww_iload C 6 dX5_mostLeft_70 rfl 72 rfl ?_
            refine ww_callVv C (As := [.int a2, .int x5]) (st := []) h cl_X1.1 (obScene ha1 hn) (fun _ _ hF => k_X1_bringUp hn ha1 hF) w_542 cm_X1_bringUp (by omega) (by decide) rfl rfl (Nat.le_of_ble_eq_true rfl) dX5_mostLeft_72 75 rfl (fun _ u23 h => ?_)
            refine ww_iload C 5 dX5_mostLeft_75 rfl 77 rfl ?_
            refine ww_aload_n C 1 dX5_mostLeft_77 rfl rfl 78 rfl ?_
            refine ww_iload_n C 2 dX5_mostLeft_78 rfl rfl 79 rfl ?_
            refine ww_iload_n C 3 dX5_mostLeft_79 rfl rfl 80 rfl ?_
            refine ww_iload_n C 4 dX5_mostLeft_80 rfl rfl 81 rfl ?_
            refine ww_iconst C (1 : Int32) dX5_mostLeft_81 (by decide) 82 rfl ?_
            refine ww_isub C dX5_mostLeft_82 83 rfl ?_
            refine ww_callSi C (As := [.ref (ad a1), .int a2, .int a3, .int (a4 - (1 : Int32))]) (st := [.int x4]) h (fun _ _ hF => hG_X5_mostLeft ha1 hF) w_657 cm_X5_mostLeft (Nat.le_refl _) (by decide) rfl rfl (Nat.le_of_ble_eq_true rfl) dX5_mostLeft_83 86 rfl (fun v26 u25 h => ?_)
            refine ww_max C w_660 wm_max (by omega) (Nat.le_of_ble_eq_true rfl) dX5_mostLeft_86 89 rfl ?_
            refine ww_bi h (fun v27 h => ?_)
            refine ww_istore C [(4, .int v27), (6, .int v22), (0, .ref (ad a1)), (1, .int a2), (2, .int a3), (3, .int a4), (5, .int x5)] dX5_mostLeft_89 (by decide) rfl 91 rfl ?_
            refine ww_aload_n C 2 dX5_mostLeft_91 rfl rfl 92 rfl ?_
            refine ww_getS C cl_X1 (obScene ha1 hn) 7 (by decide) rfl (a1 + 8) (so_scene ha1 7 8 (by decide) rfl) w_330 dX5_mostLeft_92 95 rfl ?_
            refine ww_iload_n C 3 dX5_mostLeft_95 rfl rfl 96 rfl ?_
            refine ww_iload C 1 dX5_mostLeft_96 rfl 98 rfl ?_
            refine ww_iast C (iaScene (q := a1) ha1 hn 8 6 (by decide)) dX5_mostLeft_98 h 99 rfl (fun u28 h => ?_)
            refine ww_aload_n C 2 dX5_mostLeft_99 rfl rfl 100 rfl ?_
            refine ww_getS C cl_X1 (obScene ha1 hn) 4 (by decide) rfl (a1 + 5) (so_scene ha1 4 5 (by decide) rfl) w_324 dX5_mostLeft_100 103 rfl ?_
            refine ww_iload C 6 dX5_mostLeft_103 rfl 105 rfl ?_
            refine ww_iconst C (0 : Int32) dX5_mostLeft_105 (by decide) 106 rfl ?_
            refine ww_iast C (iaScene (q := a1) ha1 hn 5 12 (by decide)) dX5_mostLeft_106 h 107 rfl (fun u29 h => ?_)
            refine ww_iinc C 6 (1 : Int32) (by decide) (fun v30 => [(5, .int v30), (4, .int v27), (6, .int v22), (0, .ref (ad a1)), (1, .int a2), (2, .int a3), (3, .int a4)]) dX5_mostLeft_107 rfl (by decide) (fun _ => rfl) h 110 rfl (fun v30 h => ?_)
            refine ww_goto C 37 dX5_mostLeft_110 (by decide) ?_
            exact ww_sub [3, 4, 5, 6, 1, 0] rfl (ih _ _ _ h)
  rw [X5_mostLeft] at h
  refine ww_iload_n C 3 dX5_mostLeft_0 rfl rfl 1 rfl ?_
  refine ww_if_gt C 31 dX5_mostLeft_1 (by decide) h 4 rfl (fun h => ?_) (fun h => ?_)
  · refine ww_iconst C (-1 : Int32) dX5_mostLeft_31 (by decide) 32 rfl ?_
    refine ww_istore C [(4, .int (-1 : Int32)), (0, .ref (ad a1)), (1, .int a2), (2, .int a3), (3, .int a4)] dX5_mostLeft_32 (by decide) rfl 34 rfl ?_
    refine ww_iconst C (0 : Int32) dX5_mostLeft_34 (by decide) 35 rfl ?_
    refine ww_istore C [(5, .int (0 : Int32)), (4, .int (-1 : Int32)), (0, .ref (ad a1)), (1, .int a2), (2, .int a3), (3, .int a4)] dX5_mostLeft_35 (by decide) rfl 37 rfl ?_
    exact ww_sub [2, 3, 4, 5, 1, 0] rfl (L37h N _ _ _ h)
  · refine ww_aload_n C 0 dX5_mostLeft_4 rfl rfl 5 rfl ?_
    refine ww_iload_n C 1 dX5_mostLeft_5 rfl rfl 6 rfl ?_
    refine ww_iload_n C 2 dX5_mostLeft_6 rfl rfl 7 rfl ?_
    refine ww_callVi C (As := [.int a2, .int a3]) (st := []) h cl_X1.1 (obScene ha1 hn) (fun _ _ hF => k_X1_can hn ha1 hF) w_537 cm_X1_can (by omega) (by decide) rfl rfl (Nat.le_of_ble_eq_true rfl) dX5_mostLeft_7 10 rfl (fun v32 u31 h => ?_)
    refine ww_if_eq C 29 dX5_mostLeft_10 (by decide) h 13 rfl (fun h => ?_) (fun h => ?_)
    · refine ww_iconst C (-1 : Int32) dX5_mostLeft_29 (by decide) 30 rfl ?_
      exact ww_iret C dX5_mostLeft_30 hr h
    · refine ww_aload_n C 0 dX5_mostLeft_13 rfl rfl 14 rfl ?_
      refine ww_getS C cl_X1 (obScene ha1 hn) 7 (by decide) rfl (a1 + 8) (so_scene ha1 7 8 (by decide) rfl) w_330 dX5_mostLeft_14 17 rfl ?_
      refine ww_iload_n C 1 dX5_mostLeft_17 rfl rfl 18 rfl ?_
      refine ww_iald C (iaScene (q := a1) ha1 hn 8 6 (by decide)) dX5_mostLeft_18 h 19 rfl (fun h => ?_)
      refine ww_aload_n C 0 dX5_mostLeft_19 rfl rfl 20 rfl ?_
      refine ww_iload_n C 1 dX5_mostLeft_20 rfl rfl 21 rfl ?_
      refine ww_iload_n C 2 dX5_mostLeft_21 rfl rfl 22 rfl ?_
      refine ww_callVi C (As := [.int a2, .int a3]) (st := [.int (u31.1 (a1 + 8) (a2).toNatClampNeg)]) h cl_X1.1 (obScene ha1 hn) (fun _ _ hF => k_X1_cost hn ha1 hF) w_536 cm_X1_cost (by omega) (by decide) rfl rfl (Nat.le_of_ble_eq_true rfl) dX5_mostLeft_22 25 rfl (fun v34 u33 h => ?_)
      refine ww_isub C dX5_mostLeft_25 26 rfl ?_
      refine ww_goto C 30 dX5_mostLeft_26 (by decide) ?_
      exact ww_iret C dX5_mostLeft_30 hr h

theorem kk_ML {l : Launch} {D : va_G} {ad : Nat → Nat} {cA : Nat → ClassId} {tys : List (ClassId × FieldType)} {n : Nat} {sa : Nat → Nat} (hn : 73 ≤ n) {N : Nat} : ∀ (d : Nat) {a1 : Nat} (ha1 : isScene a1) {a2 a3 a4 : Int32} {g : Mem} {r : Int32} {g1 : Mem}, ML N d a1 a2 a3 a4 g = some (r, g1) → CTi l yX5_mostLeft (wsm yX5_mostLeft cX5_mostLeft 7 (some .int)) (6 + d) D YI ad cA tys n sa g [.ref (ad a1), .int a2, .int a3, .int a4] r g1 := by
  intro d
  induction d with
  | zero => intro a1 ha1 a2 a3 a4 g r g1 h; cases h
  | succ d ih =>
    intro a1 ha1 a2 a3 a4 g r g1 h
    rw [ML] at h
    exact k_X5_mostLeft hn (Nat.le_add_right 6 d) (fun {a1} ha1 {a2 a3 a4 g r g1} hF => ih ha1 hF) ha1 h
theorem kk_X5_mostLeft {l : Launch} {D : va_G} {ad : Nat → Nat} {cA : Nat → ClassId} {tys : List (ClassId × FieldType)} {n : Nat} {sa : Nat → Nat} (hn : 73 ≤ n) {N : Nat} {g : Mem} {a1 : Nat} (ha1 : isScene a1) {a2 a3 a4 : Int32} {r : Int32} {g1 : Mem} (h : ML N 20 a1 a2 a3 a4 g = some (r, g1)) : CTi l yX5_mostLeft (wsm yX5_mostLeft cX5_mostLeft 7 (some .int)) 26 D YI ad cA tys n sa g [.ref (ad a1), .int a2, .int a3, .int a4] r g1 := kk_ML hn 20 ha1 h

set_option maxRecDepth 100000 in
set_option maxHeartbeats 4000000 in
theorem k_X5_last {l : Launch} {D : va_G} {ad : Nat → Nat} {cA : Nat → ClassId} {tys : List (ClassId × FieldType)} {n : Nat} {sa : Nat → Nat} (hn : 73 ≤ n) {N : Nat} {g : Mem} {a1 : Int32} {a2 : Int32} {a3 : Int32} {r : Int32} {g1 : Mem} (h : X5_last N a1 a2 a3 g = some (r, g1)) : CTi l yX5_last (wsm yX5_last cX5_last 4 (some .int)) 27 D YI ad cA tys n sa g [.ref (ad 72), .int a1, .int a2, .int a3] r g1 := by
  refine ct_of RX5 rfl (by decide +kernel) (Nat.le_of_ble_eq_true rfl) rfl (fun sz => PBi D YI ad cA n r g1 sz) ?_
  intro p e R s m args below meth c C hr
  rw [X5_last] at h
  refine ww_aload_n C 0 dX5_last_0 rfl rfl 1 rfl ?_
  refine ww_iload_n C 1 dX5_last_1 rfl rfl 2 rfl ?_
  refine ww_callVi C (As := [.int a1]) (st := []) h cl_X5.1 (obX hn) (fun _ _ hF => k_X5_isDiver hn hF) w_476 cm_X5_isDiver (by decide) (by decide) rfl rfl (Nat.le_of_ble_eq_true rfl) dX5_last_2 5 rfl (fun v12 u11 h => ?_)
  refine ww_if_ne C 11 dX5_last_5 (by decide) h 8 rfl (fun h => ?_) (fun h => ?_)
  · refine ww_iload_n C 2 dX5_last_11 rfl rfl 12 rfl ?_
    refine ww_callSi C (As := [.int a2]) (st := []) h (fun _ _ hF => k_X5_isCask hn hF) w_408 cm_X5_isCask (by decide) (by decide) rfl rfl (Nat.le_of_ble_eq_true rfl) dX5_last_12 15 rfl (fun v14 u13 h => ?_)
    refine ww_if_ne C 21 dX5_last_15 (by decide) h 18 rfl (fun h => ?_) (fun h => ?_)
    · refine ww_iload_n C 3 dX5_last_21 rfl rfl 22 rfl ?_
      refine ww_iconst C (3 : Int32) dX5_last_22 (by decide) 23 rfl ?_
      refine ww_callSi C (As := [.int a3, .int (3 : Int32)]) (st := []) h (fun _ _ hF => k_X5_isWithin hn hF) w_411 cm_X5_isWithin (by decide) (by decide) rfl rfl (Nat.le_of_ble_eq_true rfl) dX5_last_23 26 rfl (fun v16 u15 h => ?_)
      refine ww_if_ne C 32 dX5_last_26 (by decide) h 29 rfl (fun h => ?_) (fun h => ?_)
      · refine ww_aload_n C 0 dX5_last_32 rfl rfl 33 rfl ?_
        refine ww_getS C cl_X5 (obX hn) 5 (by decide) rfl 52 rfl w_370 dX5_last_33 36 rfl ?_
        refine ww_aload_n C 0 dX5_last_36 rfl rfl 37 rfl ?_
        refine ww_getS C cl_X5 (obX hn) 4 (by decide) rfl 42 rfl w_369 dX5_last_37 40 rfl ?_
        refine ww_callVv C (As := [.ref (ad 42)]) (st := []) h cl_X1.1 (obScene (by decide) hn) (fun _ _ hF => k_X1_becomes hn (by decide) (by decide) hF) w_596 cm_X1_becomes (by decide) (by decide) rfl rfl (Nat.le_of_ble_eq_true rfl) dX5_last_40 43 rfl (fun _ u17 h => ?_)
        refine ww_aload_n C 0 dX5_last_43 rfl rfl 44 rfl ?_
        refine ww_getS C cl_X5 (obX hn) 5 (by decide) rfl 52 rfl w_370 dX5_last_44 47 rfl ?_
        refine ww_iload_n C 1 dX5_last_47 rfl rfl 48 rfl ?_
        refine ww_iload_n C 2 dX5_last_48 rfl rfl 49 rfl ?_
        refine ww_iload_n C 3 dX5_last_49 rfl rfl 50 rfl ?_
        refine ww_callSi C (As := [.ref (ad 52), .int a1, .int a2, .int a3]) (st := []) h (fun _ _ hF => kk_X5_mostLeft hn (by decide) hF) w_657 cm_X5_mostLeft (by decide) (by decide) rfl rfl (Nat.le_of_ble_eq_true rfl) dX5_last_50 53 rfl (fun v20 u19 h => ?_)
        exact ww_iret C dX5_last_53 hr h
      · refine ww_bipush C (-7 : Int32) dX5_last_29 (by decide) 31 rfl ?_
        exact ww_iret C dX5_last_31 hr h
    · refine ww_bipush C (-6 : Int32) dX5_last_18 (by decide) 20 rfl ?_
      exact ww_iret C dX5_last_20 hr h
  · refine ww_bipush C (-5 : Int32) dX5_last_8 (by decide) 10 rfl ?_
    exact ww_iret C dX5_last_10 hr h

set_option maxRecDepth 100000 in
set_option maxHeartbeats 4000000 in
theorem k_X5_best {l : Launch} {D : va_G} {ad : Nat → Nat} {cA : Nat → ClassId} {tys : List (ClassId × FieldType)} {n : Nat} {sa : Nat → Nat} (hn : 73 ≤ n) {N : Nat} {g : Mem} {a1 : Int32} {r : Int32} {g1 : Mem} (h : X5_best N a1 g = some (r, g1)) : CTi l yX5_best (wsm yX5_best cX5_best 6 (some .int)) 7 D YI ad cA tys n sa g [.ref (ad 72), .int a1] r g1 := by
  refine ct_of RX5 rfl (by decide +kernel) (Nat.le_of_ble_eq_true rfl) rfl (fun sz => PBi D YI ad cA n r g1 sz) ?_
  intro p e R s m args below meth c C hr
  have L18h : ∀ (fu : Nat), (∀ (x2 : Int32) (x3 : Int32) (x4 : Int32) (g : Mem), X5_best_L18 N a1 fu x2 x3 x4 g = some (r, g1) → WW p l e R s m args below meth c 6 D YI ad cA n (MQ below (PBi D YI ad cA n r g1 s.heap.size) args s 0 0 (AA n ad s.heap.size)) g 18 [(0, .ref (ad 72)), (1, .int a1), (2, .int x2), (3, .int x3), (4, .int x4)] []) := by
    intro fu
    induction fu with
    | zero => intro x2 x3 x4 g h; cases h
    | succ fu ih =>
      intro x2 x3 x4 g h
      rw [X5_best_L18] at h
      refine ww_iload C 4 dX5_best_18 rfl 20 rfl ?_
      refine ww_aload_n C 0 dX5_best_20 rfl rfl 21 rfl ?_
      refine ww_getS C cl_X5 (obX hn) 4 (by decide) rfl 42 rfl w_369 dX5_best_21 24 rfl ?_
      refine ww_getI C cl_X1 (obScene (by decide) hn) 9 (by decide) rfl w_333 dX5_best_24 27 rfl ?_
      refine ww_icmp_ge C 62 dX5_best_27 (by decide) h 30 rfl (fun h => ?_) (fun h => ?_)
      · refine ww_iload_n C 1 dX5_best_62 rfl rfl 63 rfl ?_
        refine ww_if_ne C 70 dX5_best_63 (by decide) h 66 rfl (fun h => ?_) (fun h => ?_)
        · refine ww_iload_n C 3 dX5_best_70 rfl rfl 71 rfl ?_
          exact ww_iret C dX5_best_71 hr h
        · refine ww_iload_n C 2 dX5_best_66 rfl rfl 67 rfl ?_
          refine ww_goto C 71 dX5_best_67 (by decide) ?_
          exact ww_iret C dX5_best_71 hr h
      · refine ww_aload_n C 0 dX5_best_30 rfl rfl 31 rfl ?_
        refine ww_getS C cl_X5 (obX hn) 4 (by decide) rfl 42 rfl w_369 dX5_best_31 34 rfl ?_
        refine ww_iload C 4 dX5_best_34 rfl 36 rfl ?_
        refine ww_callVi C (As := [.int x4]) (st := []) h cl_X1.1 (obScene (by decide) hn) (fun _ _ hF => k_X1_casksFor hn (by decide) hF) w_504 cm_X1_casksFor (by decide) (by decide) rfl rfl (Nat.le_of_ble_eq_true rfl) dX5_best_36 39 rfl (fun v10 u9 h => ?_)
        refine ww_callSi C (As := [.int v10]) (st := []) h (fun _ _ hF => k_J6_bitCount_0f7a4 hn hF) w_398 cm_J6_bitCount_0f7a4 (by decide) (by decide) rfl rfl (Nat.le_of_ble_eq_true rfl) dX5_best_39 42 rfl (fun v12 u11 h => ?_)
        refine ww_istore C [(5, .int v12), (0, .ref (ad 72)), (1, .int a1), (2, .int x2), (3, .int x3), (4, .int x4)] dX5_best_42 (by decide) rfl 44 rfl ?_
        refine ww_iload C 0 dX5_best_44 rfl 46 rfl ?_
        refine ww_iload_n C 4 dX5_best_46 rfl rfl 47 rfl ?_
        refine ww_icmp_le C 56 dX5_best_47 (by decide) h 50 rfl (fun h => ?_) (fun h => ?_)
        · refine ww_iinc C 5 (1 : Int32) (by decide) (fun v13 => [(4, .int v13), (5, .int v12), (0, .ref (ad 72)), (1, .int a1), (2, .int x2), (3, .int x3)]) dX5_best_56 rfl (by decide) (fun _ => rfl) h 59 rfl (fun v13 h => ?_)
          refine ww_goto C 18 dX5_best_59 (by decide) ?_
          exact ww_sub [2, 3, 4, 5, 0] rfl (ih _ _ _ _ h)
        · refine ww_iload C 0 dX5_best_50 rfl 52 rfl ?_
          refine ww_istore_n C [(3, .int v12), (5, .int v12), (0, .ref (ad 72)), (1, .int a1), (2, .int x2), (4, .int x4)] dX5_best_52 rfl (by decide) rfl 53 rfl ?_
          refine ww_iload C 5 dX5_best_53 rfl 55 rfl ?_
          refine ww_istore_n C [(2, .int x4), (3, .int v12), (5, .int v12), (0, .ref (ad 72)), (1, .int a1), (4, .int x4)] dX5_best_55 rfl (by decide) rfl 56 rfl ?_
          refine ww_iinc C 5 (1 : Int32) (by decide) (fun v14 => [(4, .int v14), (2, .int x4), (3, .int v12), (5, .int v12), (0, .ref (ad 72)), (1, .int a1)]) dX5_best_56 rfl (by decide) (fun _ => rfl) h 59 rfl (fun v14 h => ?_)
          refine ww_goto C 18 dX5_best_59 (by decide) ?_
          exact ww_sub [4, 5, 1, 2, 0] rfl (ih _ _ _ _ h)
  rw [X5_best] at h
  refine ww_iload_n C 1 dX5_best_0 rfl rfl 1 rfl ?_
  refine ww_iconst C (1 : Int32) dX5_best_1 (by decide) 2 rfl ?_
  refine ww_callSi C (As := [.int a1, .int (1 : Int32)]) (st := []) h (fun _ _ hF => k_X5_isWithin hn hF) w_411 cm_X5_isWithin (by decide) (by decide) rfl rfl (Nat.le_of_ble_eq_true rfl) dX5_best_2 5 rfl (fun v16 u15 h => ?_)
  refine ww_if_ne C 11 dX5_best_5 (by decide) h 8 rfl (fun h => ?_) (fun h => ?_)
  · refine ww_iconst C (-1 : Int32) dX5_best_11 (by decide) 12 rfl ?_
    refine ww_istore_n C [(2, .int (-1 : Int32)), (0, .ref (ad 72)), (1, .int a1)] dX5_best_12 rfl (by decide) rfl 13 rfl ?_
    refine ww_iconst C (0 : Int32) dX5_best_13 (by decide) 14 rfl ?_
    refine ww_istore_n C [(3, .int (0 : Int32)), (2, .int (-1 : Int32)), (0, .ref (ad 72)), (1, .int a1)] dX5_best_14 rfl (by decide) rfl 15 rfl ?_
    refine ww_iconst C (0 : Int32) dX5_best_15 (by decide) 16 rfl ?_
    refine ww_istore C [(4, .int (0 : Int32)), (3, .int (0 : Int32)), (2, .int (-1 : Int32)), (0, .ref (ad 72)), (1, .int a1)] dX5_best_16 (by decide) rfl 18 rfl ?_
    exact ww_sub [3, 4, 2, 1, 0] rfl (L18h N _ _ _ _ h)
  · refine ww_bipush C (-2 : Int32) dX5_best_8 (by decide) 10 rfl ?_
    exact ww_iret C dX5_best_10 hr h

set_option maxRecDepth 100000 in
set_option maxHeartbeats 4000000 in
theorem k_X5_lowest {l : Launch} {D : va_G} {ad : Nat → Nat} {cA : Nat → ClassId} {tys : List (ClassId × FieldType)} {n : Nat} {sa : Nat → Nat} (hn : 73 ≤ n) {N : Nat} {g : Mem} {a1 : Int32} {a2 : Int32} {a3 : Int32} {r : Int64} {g1 : Mem} (h : X5_lowest N a1 a2 a3 g = some (r, g1)) : CTl l yX5_lowest (wsm yX5_lowest cX5_lowest 7 (some .long)) 1 D YI ad cA tys n sa g [.int a1, .int a2, .int a3] r g1 := by
  refine ct_of RX5 rfl (by decide +kernel) (Nat.le_of_ble_eq_true rfl) rfl (fun sz => PBl D YI ad cA n r g1 sz) ?_
  intro p e R s m args below meth c C hr
  have L8h : ∀ (fu : Nat), (∀ (x3 : Int32) (x4 : Int32) (x5 : Int32) (g : Mem), X5_lowest_L8 N a1 a2 a3 fu x3 x4 x5 g = some (r, g1) → WW p l e R s m args below meth c 7 D YI ad cA n (MQ below (PBl D YI ad cA n r g1 s.heap.size) args s 0 0 (AA n ad s.heap.size)) g 8 [(0, .int a1), (1, .int a2), (2, .int a3), (3, .int x3), (4, .int x4), (5, .int x5)] []) := by
    intro fu
    induction fu with
    | zero => intro x3 x4 x5 g h; cases h
    | succ fu ih =>
      intro x3 x4 x5 g h
      rw [X5_lowest_L8] at h
      refine ww_iload C 5 dX5_lowest_8 rfl 10 rfl ?_
      refine ww_bipush C (64 : Int32) dX5_lowest_10 (by decide) 12 rfl ?_
      refine ww_icmp_ge C 37 dX5_lowest_12 (by decide) h 15 rfl (fun h => ?_) (fun h => ?_)
      · refine ww_iload_n C 2 dX5_lowest_37 rfl rfl 38 rfl ?_
        refine ww_if_ne C 45 dX5_lowest_38 (by decide) h 41 rfl (fun h => ?_) (fun h => ?_)
        · refine ww_iload_n C 1 dX5_lowest_45 rfl rfl 46 rfl ?_
          refine ww_istore C [(5, .int a2), (0, .int a1), (1, .int a2), (2, .int a3), (3, .int x3), (4, .int x4)] dX5_lowest_46 (by decide) rfl 48 rfl ?_
          refine ww_iload C 5 dX5_lowest_48 rfl 50 rfl ?_
          refine ww_if_ne C 59 dX5_lowest_50 (by decide) h 53 rfl (fun h => ?_) (fun h => ?_)
          · refine ww_iload C 0 dX5_lowest_59 rfl 61 rfl ?_
            refine ww_iload C 5 dX5_lowest_61 rfl 63 rfl ?_
            refine ww_idiv C dX5_lowest_63 h 64 rfl (fun h => ?_)
            refine ww_i2l C dX5_lowest_64 65 rfl ?_
            exact ww_lret C dX5_lowest_65 hr h
          · refine ww_iload C 0 dX5_lowest_53 rfl 55 rfl ?_
            refine ww_i2l C dX5_lowest_55 56 rfl ?_
            refine ww_goto C 65 dX5_lowest_56 (by decide) ?_
            exact ww_lret C dX5_lowest_65 hr h
        · refine ww_iload_n C 0 dX5_lowest_41 rfl rfl 42 rfl ?_
          refine ww_goto C 46 dX5_lowest_42 (by decide) ?_
          refine ww_istore C [(5, .int a1), (0, .int a1), (1, .int a2), (2, .int a3), (3, .int x3), (4, .int x4)] dX5_lowest_46 (by decide) rfl 48 rfl ?_
          refine ww_iload C 5 dX5_lowest_48 rfl 50 rfl ?_
          refine ww_if_ne C 59 dX5_lowest_50 (by decide) h 53 rfl (fun h => ?_) (fun h => ?_)
          · refine ww_iload C 0 dX5_lowest_59 rfl 61 rfl ?_
            refine ww_iload C 5 dX5_lowest_61 rfl 63 rfl ?_
            refine ww_idiv C dX5_lowest_63 h 64 rfl (fun h => ?_)
            refine ww_i2l C dX5_lowest_64 65 rfl ?_
            exact ww_lret C dX5_lowest_65 hr h
          · refine ww_iload C 0 dX5_lowest_53 rfl 55 rfl ?_
            refine ww_i2l C dX5_lowest_55 56 rfl ?_
            refine ww_goto C 65 dX5_lowest_56 (by decide) ?_
            exact ww_lret C dX5_lowest_65 hr h
      · refine ww_iload_n C 3 dX5_lowest_15 rfl rfl 16 rfl ?_
        refine ww_if_eq C 37 dX5_lowest_16 (by decide) h 19 rfl (fun h => ?_) (fun h => ?_)
        · refine ww_iload_n C 2 dX5_lowest_37 rfl rfl 38 rfl ?_
          refine ww_if_ne C 45 dX5_lowest_38 (by decide) h 41 rfl (fun h => ?_) (fun h => ?_)
          · refine ww_iload_n C 1 dX5_lowest_45 rfl rfl 46 rfl ?_
            refine ww_istore C [(5, .int a2), (0, .int a1), (1, .int a2), (2, .int a3), (3, .int x3), (4, .int x4)] dX5_lowest_46 (by decide) rfl 48 rfl ?_
            refine ww_iload C 5 dX5_lowest_48 rfl 50 rfl ?_
            refine ww_if_ne C 59 dX5_lowest_50 (by decide) h 53 rfl (fun h => ?_) (fun h => ?_)
            · refine ww_iload C 0 dX5_lowest_59 rfl 61 rfl ?_
              refine ww_iload C 5 dX5_lowest_61 rfl 63 rfl ?_
              refine ww_idiv C dX5_lowest_63 h 64 rfl (fun h => ?_)
              refine ww_i2l C dX5_lowest_64 65 rfl ?_
              exact ww_lret C dX5_lowest_65 hr h
            · refine ww_iload C 0 dX5_lowest_53 rfl 55 rfl ?_
              refine ww_i2l C dX5_lowest_55 56 rfl ?_
              refine ww_goto C 65 dX5_lowest_56 (by decide) ?_
              exact ww_lret C dX5_lowest_65 hr h
          · refine ww_iload_n C 0 dX5_lowest_41 rfl rfl 42 rfl ?_
            refine ww_goto C 46 dX5_lowest_42 (by decide) ?_
            refine ww_istore C [(5, .int a1), (0, .int a1), (1, .int a2), (2, .int a3), (3, .int x3), (4, .int x4)] dX5_lowest_46 (by decide) rfl 48 rfl ?_
            refine ww_iload C 5 dX5_lowest_48 rfl 50 rfl ?_
            refine ww_if_ne C 59 dX5_lowest_50 (by decide) h 53 rfl (fun h => ?_) (fun h => ?_)
            · refine ww_iload C 0 dX5_lowest_59 rfl 61 rfl ?_
              refine ww_iload C 5 dX5_lowest_61 rfl 63 rfl ?_
              refine ww_idiv C dX5_lowest_63 h 64 rfl (fun h => ?_)
              refine ww_i2l C dX5_lowest_64 65 rfl ?_
              exact ww_lret C dX5_lowest_65 hr h
            · refine ww_iload C 0 dX5_lowest_53 rfl 55 rfl ?_
              refine ww_i2l C dX5_lowest_55 56 rfl ?_
              refine ww_goto C 65 dX5_lowest_56 (by decide) ?_
              exact ww_lret C dX5_lowest_65 hr h
        · refine ww_iload C 4 dX5_lowest_19 rfl 21 rfl ?_
          refine ww_iload_n C 3 dX5_lowest_21 rfl rfl 22 rfl ?_
          refine ww_irem C dX5_lowest_22 h 23 rfl (fun h => ?_)
          refine ww_bi h (fun v3 h => ?_)
          refine ww_istore C [(6, .int v3), (0, .int a1), (1, .int a2), (2, .int a3), (3, .int x3), (4, .int x4), (5, .int x5)] dX5_lowest_23 (by decide) rfl 25 rfl ?_
          refine ww_iload_n C 4 dX5_lowest_25 rfl rfl 26 rfl ?_
          refine ww_istore C [(4, .int x3), (6, .int v3), (0, .int a1), (1, .int a2), (2, .int a3), (3, .int x3), (5, .int x5)] dX5_lowest_26 (by decide) rfl 28 rfl ?_
          refine ww_iload C 1 dX5_lowest_28 rfl 30 rfl ?_
          refine ww_istore_n C [(3, .int v3), (4, .int x3), (6, .int v3), (0, .int a1), (1, .int a2), (2, .int a3), (5, .int x5)] dX5_lowest_30 rfl (by decide) rfl 31 rfl ?_
          refine ww_iinc C 6 (1 : Int32) (by decide) (fun v4 => [(5, .int v4), (3, .int v3), (4, .int x3), (6, .int v3), (0, .int a1), (1, .int a2), (2, .int a3)]) dX5_lowest_31 rfl (by decide) (fun _ => rfl) h 34 rfl (fun v4 h => ?_)
          refine ww_goto C 8 dX5_lowest_34 (by decide) ?_
          exact ww_sub [4, 5, 6, 1, 2, 0] rfl (ih _ _ _ _ h)
  rw [X5_lowest] at h
  refine ww_iload_n C 0 dX5_lowest_0 rfl rfl 1 rfl ?_
  refine ww_istore_n C [(3, .int a1), (0, .int a1), (1, .int a2), (2, .int a3)] dX5_lowest_1 rfl (by decide) rfl 2 rfl ?_
  refine ww_iload_n C 2 dX5_lowest_2 rfl rfl 3 rfl ?_
  refine ww_istore C [(4, .int a2), (3, .int a1), (0, .int a1), (1, .int a2), (2, .int a3)] dX5_lowest_3 (by decide) rfl 5 rfl ?_
  refine ww_iconst C (0 : Int32) dX5_lowest_5 (by decide) 6 rfl ?_
  refine ww_istore C [(5, .int (0 : Int32)), (4, .int a2), (3, .int a1), (0, .int a1), (1, .int a2), (2, .int a3)] dX5_lowest_6 (by decide) rfl 8 rfl ?_
  exact ww_sub [3, 4, 5, 2, 1, 0] rfl (L8h N _ _ _ _ h)

set_option maxRecDepth 100000 in
set_option maxHeartbeats 4000000 in
theorem k_X5_share {l : Launch} {D : va_G} {ad : Nat → Nat} {cA : Nat → ClassId} {tys : List (ClassId × FieldType)} {n : Nat} {sa : Nat → Nat} (hn : 73 ≤ n) {N : Nat} {g : Mem} {a1 : Int32} {a2 : Int32} {r : Int64} {g1 : Mem} (h : X5_share N a1 a2 g = some (r, g1)) : CTl l yX5_share (wsm yX5_share cX5_share 5 (some .long)) 3 D YI ad cA tys n sa g [.ref (ad 72), .int a1, .int a2] r g1 := by
  refine ct_of RX5 rfl (by decide +kernel) (Nat.le_of_ble_eq_true rfl) rfl (fun sz => PBl D YI ad cA n r g1 sz) ?_
  intro p e R s m args below meth c C hr
  have L24h : ∀ (fu : Nat), (∀ (x3 : Int32) (x4 : Int32) (g : Mem), X5_share_L24 N a1 a2 fu x3 x4 g = some (r, g1) → WW p l e R s m args below meth c 5 D YI ad cA n (MQ below (PBl D YI ad cA n r g1 s.heap.size) args s 0 0 (AA n ad s.heap.size)) g 24 [(0, .ref (ad 72)), (1, .int a1), (2, .int a2), (3, .int x3), (4, .int x4)] []) := by
    intro fu
    induction fu with
    | zero => intro x3 x4 g h; cases h
    | succ fu ih =>
      intro x3 x4 g h
      rw [X5_share_L24] at h
      refine ww_iload C 4 dX5_share_24 rfl 26 rfl ?_
      refine ww_bipush C (6 : Int32) dX5_share_26 (by decide) 28 rfl ?_
      refine ww_icmp_ge C 50 dX5_share_28 (by decide) h 31 rfl (fun h => ?_) (fun h => ?_)
      · refine ww_iload_n C 3 dX5_share_50 rfl rfl 51 rfl ?_
        refine ww_if_ne C 60 dX5_share_51 (by decide) h 54 rfl (fun h => ?_) (fun h => ?_)
        · refine ww_aload_n C 0 dX5_share_60 rfl rfl 61 rfl ?_
          refine ww_getS C cl_X5 (obX hn) 4 (by decide) rfl 42 rfl w_369 dX5_share_61 64 rfl ?_
          refine ww_getS C cl_X1 (obScene (by decide) hn) 0 (by decide) rfl 43 rfl w_316 dX5_share_64 67 rfl ?_
          refine ww_iload_n C 1 dX5_share_67 rfl rfl 68 rfl ?_
          refine ww_iald C (iaScene (q := 42) (by decide) hn 1 6 (by decide)) dX5_share_68 h 69 rfl (fun h => ?_)
          refine ww_iload_n C 3 dX5_share_69 rfl rfl 70 rfl ?_
          refine ww_iload_n C 2 dX5_share_70 rfl rfl 71 rfl ?_
          refine ww_callSl C (As := [.int (g.1 43 (a1).toNatClampNeg), .int x3, .int a2]) (st := []) h (fun _ _ hF => k_X5_lowest hn hF) w_670 cm_X5_lowest (by decide) (by decide) rfl rfl (Nat.le_of_ble_eq_true rfl) dX5_share_71 74 rfl (fun v10 u9 h => ?_)
          exact ww_lret C dX5_share_74 hr h
        · refine ww_ldc2 C (-4611686018427387904 : Int64) w_669 dX5_share_54 57 rfl ?_
          refine ww_goto C 74 dX5_share_57 (by decide) ?_
          exact ww_lret C dX5_share_74 hr h
      · refine ww_iload_n C 3 dX5_share_31 rfl rfl 32 rfl ?_
        refine ww_aload_n C 0 dX5_share_32 rfl rfl 33 rfl ?_
        refine ww_getS C cl_X5 (obX hn) 4 (by decide) rfl 42 rfl w_369 dX5_share_33 36 rfl ?_
        refine ww_getS C cl_X1 (obScene (by decide) hn) 0 (by decide) rfl 43 rfl w_316 dX5_share_36 39 rfl ?_
        refine ww_iload C 4 dX5_share_39 rfl 41 rfl ?_
        refine ww_iald C (iaScene (q := 42) (by decide) hn 1 6 (by decide)) dX5_share_41 h 42 rfl (fun h => ?_)
        refine ww_iadd C dX5_share_42 43 rfl ?_
        refine ww_bi h (fun v11 h => ?_)
        refine ww_istore_n C [(3, .int v11), (0, .ref (ad 72)), (1, .int a1), (2, .int a2), (4, .int x4)] dX5_share_43 rfl (by decide) rfl 44 rfl ?_
        refine ww_iinc C 4 (1 : Int32) (by decide) (fun v12 => [(4, .int v12), (3, .int v11), (0, .ref (ad 72)), (1, .int a1), (2, .int a2)]) dX5_share_44 rfl (by decide) (fun _ => rfl) h 47 rfl (fun v12 h => ?_)
        refine ww_goto C 24 dX5_share_47 (by decide) ?_
        exact ww_sub [2, 3, 4, 1, 0] rfl (ih _ _ _ h)
  rw [X5_share] at h
  refine ww_iload_n C 1 dX5_share_0 rfl rfl 1 rfl ?_
  refine ww_callSi C (As := [.int a1]) (st := []) h (fun _ _ hF => k_X5_isSort hn hF) w_432 cm_X5_isSort (by decide) (by decide) rfl rfl (Nat.le_of_ble_eq_true rfl) dX5_share_1 4 rfl (fun v14 u13 h => ?_)
  refine ww_if_eq C 15 dX5_share_4 (by decide) h 7 rfl (fun h => ?_) (fun h => ?_)
  · refine ww_ldc2 C (-4611686018427387904 : Int64) w_669 dX5_share_15 18 rfl ?_
    exact ww_lret C dX5_share_18 hr h
  · refine ww_iload_n C 2 dX5_share_7 rfl rfl 8 rfl ?_
    refine ww_iconst C (1 : Int32) dX5_share_8 (by decide) 9 rfl ?_
    refine ww_callSi C (As := [.int a2, .int (1 : Int32)]) (st := []) h (fun _ _ hF => k_X5_isWithin hn hF) w_411 cm_X5_isWithin (by decide) (by decide) rfl rfl (Nat.le_of_ble_eq_true rfl) dX5_share_9 12 rfl (fun v16 u15 h => ?_)
    refine ww_if_ne C 19 dX5_share_12 (by decide) h 15 rfl (fun h => ?_) (fun h => ?_)
    · refine ww_iconst C (0 : Int32) dX5_share_19 (by decide) 20 rfl ?_
      refine ww_istore_n C [(3, .int (0 : Int32)), (0, .ref (ad 72)), (1, .int a1), (2, .int a2)] dX5_share_20 rfl (by decide) rfl 21 rfl ?_
      refine ww_iconst C (0 : Int32) dX5_share_21 (by decide) 22 rfl ?_
      refine ww_istore C [(4, .int (0 : Int32)), (3, .int (0 : Int32)), (0, .ref (ad 72)), (1, .int a1), (2, .int a2)] dX5_share_22 (by decide) rfl 24 rfl ?_
      exact ww_sub [2, 3, 4, 1, 0] rfl (L24h N _ _ _ h)
    · refine ww_ldc2 C (-4611686018427387904 : Int64) w_669 dX5_share_15 18 rfl ?_
      exact ww_lret C dX5_share_18 hr h

set_option maxRecDepth 100000 in
set_option maxHeartbeats 4000000 in
theorem k_X5_refusalOfHours {l : Launch} {D : va_G} {ad : Nat → Nat} {cA : Nat → ClassId} {tys : List (ClassId × FieldType)} {n : Nat} {sa : Nat → Nat} (hn : 73 ≤ n) {N : Nat} {g : Mem} {a1 : Int32} {a2 : Int32} {r : Int32} {g1 : Mem} (h : X5_refusalOfHours N a1 a2 g = some (r, g1)) : CTi l yX5_refusalOfHours (wsm yX5_refusalOfHours cX5_refusalOfHours 4 (some .int)) 4 D YI ad cA tys n sa g [.ref (ad 72), .int a1, .int a2] r g1 := by
  refine ct_of RX5 rfl (by decide +kernel) (Nat.le_of_ble_eq_true rfl) rfl (fun sz => PBi D YI ad cA n r g1 sz) ?_
  intro p e R s m args below meth c C hr
  rw [X5_refusalOfHours] at h
  refine ww_aload_n C 0 dX5_refusalOfHours_0 rfl rfl 1 rfl ?_
  refine ww_iload_n C 1 dX5_refusalOfHours_1 rfl rfl 2 rfl ?_
  refine ww_bipush C (20 : Int32) dX5_refusalOfHours_2 (by decide) 4 rfl ?_
  refine ww_callVi C (As := [.int a1, .int (20 : Int32)]) (st := []) h cl_X5.1 (obX hn) (fun _ _ hF => k_X5_refusalOfSheet hn hF) w_615 cm_X5_refusalOfSheet (by decide) (by decide) rfl rfl (Nat.le_of_ble_eq_true rfl) dX5_refusalOfHours_4 7 rfl (fun v6 u5 h => ?_)
  refine ww_istore_n C [(3, .int v6), (0, .ref (ad 72)), (1, .int a1), (2, .int a2)] dX5_refusalOfHours_7 rfl (by decide) rfl 8 rfl ?_
  refine ww_iload_n C 0 dX5_refusalOfHours_8 rfl rfl 9 rfl ?_
  refine ww_if_eq C 14 dX5_refusalOfHours_9 (by decide) h 12 rfl (fun h => ?_) (fun h => ?_)
  · refine ww_iload_n C 3 dX5_refusalOfHours_14 rfl rfl 15 rfl ?_
    refine ww_callSi C (As := [.int a2]) (st := []) h (fun _ _ hF => k_X5_isSort hn hF) w_432 cm_X5_isSort (by decide) (by decide) rfl rfl (Nat.le_of_ble_eq_true rfl) dX5_refusalOfHours_15 18 rfl (fun v8 u7 h => ?_)
    refine ww_if_eq C 25 dX5_refusalOfHours_18 (by decide) h 21 rfl (fun h => ?_) (fun h => ?_)
    · refine ww_bipush C (-5 : Int32) dX5_refusalOfHours_25 (by decide) 27 rfl ?_
      exact ww_iret C dX5_refusalOfHours_27 hr h
    · refine ww_iconst C (0 : Int32) dX5_refusalOfHours_21 (by decide) 22 rfl ?_
      refine ww_goto C 27 dX5_refusalOfHours_22 (by decide) ?_
      exact ww_iret C dX5_refusalOfHours_27 hr h
  · refine ww_iload_n C 0 dX5_refusalOfHours_12 rfl rfl 13 rfl ?_
    exact ww_iret C dX5_refusalOfHours_13 hr h

set_option maxRecDepth 100000 in
set_option maxHeartbeats 4000000 in
theorem k_X5_judge {l : Launch} {D : va_G} {ad : Nat → Nat} {cA : Nat → ClassId} {tys : List (ClassId × FieldType)} {n : Nat} {sa : Nat → Nat} (hn : 73 ≤ n) {N : Nat} {g : Mem} {a1 : Int32} {a2 : Int32} {r : Int32} {g1 : Mem} (h : X5_judge N a1 a2 g = some (r, g1)) : CTi l yX5_judge (wsm yX5_judge cX5_judge 4 (some .int)) 6 D YI ad cA tys n sa g [.ref (ad 72), .int a1, .int a2] r g1 := by
  refine ct_of RX5 rfl (by decide +kernel) (Nat.le_of_ble_eq_true rfl) rfl (fun sz => PBi D YI ad cA n r g1 sz) ?_
  intro p e R s m args below meth c C hr
  rw [X5_judge] at h
  refine ww_aload_n C 0 dX5_judge_0 rfl rfl 1 rfl ?_
  refine ww_iload_n C 1 dX5_judge_1 rfl rfl 2 rfl ?_
  refine ww_iload_n C 2 dX5_judge_2 rfl rfl 3 rfl ?_
  refine ww_callVi C (As := [.int a1, .int a2]) (st := []) h cl_X5.1 (obX hn) (fun _ _ hF => k_X5_refusalOfHours hn hF) w_677 cm_X5_refusalOfHours (by decide) (by decide) rfl rfl (Nat.le_of_ble_eq_true rfl) dX5_judge_3 6 rfl (fun v7 u6 h => ?_)
  refine ww_istore_n C [(3, .int v7), (0, .ref (ad 72)), (1, .int a1), (2, .int a2)] dX5_judge_6 rfl (by decide) rfl 7 rfl ?_
  refine ww_iload_n C 0 dX5_judge_7 rfl rfl 8 rfl ?_
  refine ww_if_eq C 15 dX5_judge_8 (by decide) h 11 rfl (fun h => ?_) (fun h => ?_)
  · refine ww_aload_n C 1 dX5_judge_15 rfl rfl 16 rfl ?_
    refine ww_getS C cl_X5 (obX hn) 4 (by decide) rfl 42 rfl w_369 dX5_judge_16 19 rfl ?_
    refine ww_aload_n C 1 dX5_judge_19 rfl rfl 20 rfl ?_
    refine ww_getS C cl_X5 (obX hn) 3 (by decide) rfl 3 rfl w_368 dX5_judge_20 23 rfl ?_
    refine ww_iload_n C 2 dX5_judge_23 rfl rfl 24 rfl ?_
    refine ww_aald C (q := 3) (L := 4) (by omega) rfl rfl dX5_judge_24 h (34 + 2 * (a1).toNatClampNeg) rfl 25 rfl (fun hv8 h => ?_)
    refine ww_iload_n C 3 dX5_judge_25 rfl rfl 26 rfl ?_
    refine ww_callVi C (As := [.ref (ad (34 + 2 * (a1).toNatClampNeg)), .int a2]) (st := []) h cl_X1.1 (obScene (by decide) hn) (fun _ _ hF => k_X1_firstOtherwise hn (by decide) (isSheet_at hv8) hF) w_681 cm_X1_firstOtherwise (by decide) (by decide) rfl rfl (Nat.le_of_ble_eq_true rfl) dX5_judge_26 29 rfl (fun v10 u9 h => ?_)
    exact ww_iret C dX5_judge_29 hr h
  · refine ww_iload_n C 0 dX5_judge_11 rfl rfl 12 rfl ?_
    refine ww_goto C 29 dX5_judge_12 (by decide) ?_
    exact ww_iret C dX5_judge_29 hr h

set_option maxRecDepth 100000 in
set_option maxHeartbeats 4000000 in
theorem k_X5_opened {l : Launch} {D : va_G} {ad : Nat → Nat} {cA : Nat → ClassId} {tys : List (ClassId × FieldType)} {n : Nat} {sa : Nat → Nat} (hn : 73 ≤ n) {N : Nat} {g : Mem} {a1 : Int32} {a2 : Int32} {r : Int32} {g1 : Mem} (h : X5_opened N a1 a2 g = some (r, g1)) : CTi l yX5_opened (wsm yX5_opened cX5_opened 6 (some .int)) 6 D YI ad cA tys n sa g [.ref (ad 72), .int a1, .int a2] r g1 := by
  refine ct_of RX5 rfl (by decide +kernel) (Nat.le_of_ble_eq_true rfl) rfl (fun sz => PBi D YI ad cA n r g1 sz) ?_
  intro p e R s m args below meth c C hr
  have L19h : ∀ (fu : Nat), (∀ (x4 : Int32) (x5 : Int32) (g : Mem), X5_opened_L19 N a1 a2 fu x4 x5 g = some (r, g1) → WW p l e R s m args below meth c 6 D YI ad cA n (MQ below (PBi D YI ad cA n r g1 s.heap.size) args s 0 0 (AA n ad s.heap.size)) g 19 [(0, .ref (ad 72)), (1, .int a1), (2, .int a2), (4, .int x4), (5, .int x5)] []) := by
    intro fu
    induction fu with
    | zero => intro x4 x5 g h; cases h
    | succ fu ih =>
      intro x4 x5 g h
      rw [X5_opened_L19] at h
      refine ww_iload C 4 dX5_opened_19 rfl 21 rfl ?_
      refine ww_bipush C (12 : Int32) dX5_opened_21 (by decide) 23 rfl ?_
      refine ww_icmp_ge C 93 dX5_opened_23 (by decide) h 26 rfl (fun h => ?_) (fun h => ?_)
      · refine ww_iload C 3 dX5_opened_93 rfl 95 rfl ?_
        exact ww_iret C dX5_opened_95 hr h
      · refine ww_aload_n C 0 dX5_opened_26 rfl rfl 27 rfl ?_
        refine ww_getS C cl_X5 (obX hn) 4 (by decide) rfl 42 rfl w_369 dX5_opened_27 30 rfl ?_
        refine ww_getS C cl_X1 (obScene (by decide) hn) 4 (by decide) rfl 47 rfl w_324 dX5_opened_30 33 rfl ?_
        refine ww_iload C 4 dX5_opened_33 rfl 35 rfl ?_
        refine ww_iald C (iaScene (q := 42) (by decide) hn 5 12 (by decide)) dX5_opened_35 h 36 rfl (fun h => ?_)
        refine ww_iconst C (1 : Int32) dX5_opened_36 (by decide) 37 rfl ?_
        refine ww_icmp_ne C 87 dX5_opened_37 (by decide) h 40 rfl (fun h => ?_) (fun h => ?_)
        · refine ww_iinc C 4 (1 : Int32) (by decide) (fun v14 => [(5, .int v14), (0, .ref (ad 72)), (1, .int a1), (2, .int a2), (4, .int x4)]) dX5_opened_87 rfl (by decide) (fun _ => rfl) h 90 rfl (fun v14 h => ?_)
          refine ww_goto C 19 dX5_opened_90 (by decide) ?_
          exact ww_sub [1, 2, 3, 4, 0] rfl (ih _ _ _ h)
        · refine ww_aload_n C 0 dX5_opened_40 rfl rfl 41 rfl ?_
          refine ww_getS C cl_X5 (obX hn) 5 (by decide) rfl 52 rfl w_370 dX5_opened_41 44 rfl ?_
          refine ww_aload_n C 0 dX5_opened_44 rfl rfl 45 rfl ?_
          refine ww_getS C cl_X5 (obX hn) 4 (by decide) rfl 42 rfl w_369 dX5_opened_45 48 rfl ?_
          refine ww_callVv C (As := [.ref (ad 42)]) (st := []) h cl_X1.1 (obScene (by decide) hn) (fun _ _ hF => k_X1_becomes hn (by decide) (by decide) hF) w_596 cm_X1_becomes (by decide) (by decide) rfl rfl (Nat.le_of_ble_eq_true rfl) dX5_opened_48 51 rfl (fun _ u15 h => ?_)
          refine ww_aload_n C 0 dX5_opened_51 rfl rfl 52 rfl ?_
          refine ww_getS C cl_X5 (obX hn) 5 (by decide) rfl 52 rfl w_370 dX5_opened_52 55 rfl ?_
          refine ww_iload C 4 dX5_opened_55 rfl 57 rfl ?_
          refine ww_callVv C (As := [.int x5]) (st := []) h cl_X1.1 (obScene (by decide) hn) (fun _ _ hF => k_X1_letLoose hn (by decide) hF) w_550 cm_X1_letLoose (by decide) (by decide) rfl rfl (Nat.le_of_ble_eq_true rfl) dX5_opened_57 60 rfl (fun _ u17 h => ?_)
          refine ww_aload_n C 0 dX5_opened_60 rfl rfl 61 rfl ?_
          refine ww_getS C cl_X5 (obX hn) 5 (by decide) rfl 52 rfl w_370 dX5_opened_61 64 rfl ?_
          refine ww_aload_n C 0 dX5_opened_64 rfl rfl 65 rfl ?_
          refine ww_getS C cl_X5 (obX hn) 3 (by decide) rfl 3 rfl w_368 dX5_opened_65 68 rfl ?_
          refine ww_iload_n C 1 dX5_opened_68 rfl rfl 69 rfl ?_
          refine ww_aald C (q := 3) (L := 4) (by omega) rfl rfl dX5_opened_69 h (34 + 2 * (a1).toNatClampNeg) rfl 70 rfl (fun hv19 h => ?_)
          refine ww_iload_n C 2 dX5_opened_70 rfl rfl 71 rfl ?_
          refine ww_callVi C (As := [.ref (ad (34 + 2 * (a1).toNatClampNeg)), .int a2]) (st := []) h cl_X1.1 (obScene (by decide) hn) (fun _ _ hF => k_X1_firstOtherwise hn (by decide) (isSheet_at hv19) hF) w_681 cm_X1_firstOtherwise (by decide) (by decide) rfl rfl (Nat.le_of_ble_eq_true rfl) dX5_opened_71 74 rfl (fun v21 u20 h => ?_)
          refine ww_iconst C (-1 : Int32) dX5_opened_74 (by decide) 75 rfl ?_
          refine ww_icmp_ne C 87 dX5_opened_75 (by decide) h 78 rfl (fun h => ?_) (fun h => ?_)
          · refine ww_iinc C 4 (1 : Int32) (by decide) (fun v22 => [(5, .int v22), (0, .ref (ad 72)), (1, .int a1), (2, .int a2), (4, .int x4)]) dX5_opened_87 rfl (by decide) (fun _ => rfl) h 90 rfl (fun v22 h => ?_)
            refine ww_goto C 19 dX5_opened_90 (by decide) ?_
            exact ww_sub [1, 2, 3, 4, 0] rfl (ih _ _ _ h)
          · refine ww_iload C 3 dX5_opened_78 rfl 80 rfl ?_
            refine ww_iconst C (1 : Int32) dX5_opened_80 (by decide) 81 rfl ?_
            refine ww_iload C 4 dX5_opened_81 rfl 83 rfl ?_
            refine ww_ishl C dX5_opened_83 84 rfl ?_
            refine ww_ior C dX5_opened_84 85 rfl ?_
            refine ww_bi h (fun v23 h => ?_)
            refine ww_istore C [(4, .int v23), (0, .ref (ad 72)), (1, .int a1), (2, .int a2), (5, .int x5)] dX5_opened_85 (by decide) rfl 87 rfl ?_
            refine ww_iinc C 4 (1 : Int32) (by decide) (fun v24 => [(5, .int v24), (4, .int v23), (0, .ref (ad 72)), (1, .int a1), (2, .int a2)]) dX5_opened_87 rfl (by decide) (fun _ => rfl) h 90 rfl (fun v24 h => ?_)
            refine ww_goto C 19 dX5_opened_90 (by decide) ?_
            exact ww_sub [2, 3, 4, 1, 0] rfl (ih _ _ _ h)
  rw [X5_opened] at h
  refine ww_aload_n C 0 dX5_opened_0 rfl rfl 1 rfl ?_
  refine ww_iload_n C 1 dX5_opened_1 rfl rfl 2 rfl ?_
  refine ww_iload_n C 2 dX5_opened_2 rfl rfl 3 rfl ?_
  refine ww_callVi C (As := [.int a1, .int a2]) (st := []) h cl_X5.1 (obX hn) (fun _ _ hF => k_X5_refusalOfHours hn hF) w_677 cm_X5_refusalOfHours (by decide) (by decide) rfl rfl (Nat.le_of_ble_eq_true rfl) dX5_opened_3 6 rfl (fun v26 u25 h => ?_)
  refine ww_istore_n C [(3, .int v26), (0, .ref (ad 72)), (1, .int a1), (2, .int a2)] dX5_opened_6 rfl (by decide) rfl 7 rfl ?_
  refine ww_iload_n C 0 dX5_opened_7 rfl rfl 8 rfl ?_
  refine ww_if_eq C 13 dX5_opened_8 (by decide) h 11 rfl (fun h => ?_) (fun h => ?_)
  · refine ww_iconst C (0 : Int32) dX5_opened_13 (by decide) 14 rfl ?_
    refine ww_istore C [(4, .int (0 : Int32)), (3, .int v26), (0, .ref (ad 72)), (1, .int a1), (2, .int a2)] dX5_opened_14 (by decide) rfl 16 rfl ?_
    refine ww_iconst C (0 : Int32) dX5_opened_16 (by decide) 17 rfl ?_
    refine ww_istore C [(5, .int (0 : Int32)), (4, .int (0 : Int32)), (3, .int v26), (0, .ref (ad 72)), (1, .int a1), (2, .int a2)] dX5_opened_17 (by decide) rfl 19 rfl ?_
    exact ww_sub [3, 4, 5, 1, 0] rfl (L19h N _ _ _ h)
  · refine ww_iload_n C 0 dX5_opened_11 rfl rfl 12 rfl ?_
    exact ww_iret C dX5_opened_12 hr h

set_option maxRecDepth 100000 in
set_option maxHeartbeats 4000000 in
theorem k_X5_skies {l : Launch} {D : va_G} {ad : Nat → Nat} {cA : Nat → ClassId} {tys : List (ClassId × FieldType)} {n : Nat} {sa : Nat → Nat} (hn : 73 ≤ n) {N : Nat} {g : Mem} {a1 : Int32} {a2 : Int32} {a3 : Int32} {r : Int32} {g1 : Mem} (h : X5_skies N a1 a2 a3 g = some (r, g1)) : CTi l yX5_skies (wsm yX5_skies cX5_skies 8 (some .int)) 6 D YI ad cA tys n sa g [.ref (ad 72), .int a1, .int a2, .int a3] r g1 := by
  refine ct_of RX5 rfl (by decide +kernel) (Nat.le_of_ble_eq_true rfl) rfl (fun sz => PBi D YI ad cA n r g1 sz) ?_
  intro p e R s m args below meth c C hr
  have L48h : ∀ (fu : Nat), (∀ (x5 : Int32) (x6 : Int32) (x7 : Int32) (g : Mem), X5_skies_L48 N a1 a2 a3 fu x5 x6 x7 g = some (r, g1) → WW p l e R s m args below meth c 8 D YI ad cA n (MQ below (PBi D YI ad cA n r g1 s.heap.size) args s 0 0 (AA n ad s.heap.size)) g 48 [(0, .ref (ad 72)), (1, .int a1), (2, .int a2), (3, .int a3), (5, .int x5), (6, .int x6), (7, .int x7)] []) := by
    intro fu
    induction fu with
    | zero => intro x5 x6 x7 g h; cases h
    | succ fu ih =>
      intro x5 x6 x7 g h
      rw [X5_skies_L48] at h
      refine ww_iload C 6 dX5_skies_48 rfl 50 rfl ?_
      refine ww_if_lt C 95 dX5_skies_50 (by decide) h 53 rfl (fun h => ?_) (fun h => ?_)
      · refine ww_iload_n C 3 dX5_skies_95 rfl rfl 96 rfl ?_
        refine ww_if_ne C 104 dX5_skies_96 (by decide) h 99 rfl (fun h => ?_) (fun h => ?_)
        · refine ww_iload C 5 dX5_skies_104 rfl 106 rfl ?_
          exact ww_iret C dX5_skies_106 hr h
        · refine ww_iload C 4 dX5_skies_99 rfl 101 rfl ?_
          refine ww_goto C 106 dX5_skies_101 (by decide) ?_
          exact ww_iret C dX5_skies_106 hr h
      · refine ww_aload_n C 0 dX5_skies_53 rfl rfl 54 rfl ?_
        refine ww_getS C cl_X5 (obX hn) 5 (by decide) rfl 52 rfl w_370 dX5_skies_54 57 rfl ?_
        refine ww_getS C cl_X1 (obScene (by decide) hn) 0 (by decide) rfl 53 rfl w_316 dX5_skies_57 60 rfl ?_
        refine ww_iload_n C 2 dX5_skies_60 rfl rfl 61 rfl ?_
        refine ww_iload C 6 dX5_skies_61 rfl 63 rfl ?_
        refine ww_iast C (iaScene (q := 52) (by decide) hn 1 6 (by decide)) dX5_skies_63 h 64 rfl (fun u14 h => ?_)
        refine ww_aload_n C 0 dX5_skies_64 rfl rfl 65 rfl ?_
        refine ww_getS C cl_X5 (obX hn) 5 (by decide) rfl 52 rfl w_370 dX5_skies_65 68 rfl ?_
        refine ww_aload_n C 0 dX5_skies_68 rfl rfl 69 rfl ?_
        refine ww_getS C cl_X5 (obX hn) 3 (by decide) rfl 3 rfl w_368 dX5_skies_69 72 rfl ?_
        refine ww_iload_n C 1 dX5_skies_72 rfl rfl 73 rfl ?_
        refine ww_aald C (q := 3) (L := 4) (by omega) rfl rfl dX5_skies_73 h (34 + 2 * (a1).toNatClampNeg) rfl 74 rfl (fun hv15 h => ?_)
        refine ww_iload_n C 2 dX5_skies_74 rfl rfl 75 rfl ?_
        refine ww_callVi C (As := [.ref (ad (34 + 2 * (a1).toNatClampNeg)), .int a2]) (st := []) h cl_X1.1 (obScene (by decide) hn) (fun _ _ hF => k_X1_firstOtherwise hn (by decide) (isSheet_at hv15) hF) w_681 cm_X1_firstOtherwise (by decide) (by decide) rfl rfl (Nat.le_of_ble_eq_true rfl) dX5_skies_75 78 rfl (fun v17 u16 h => ?_)
        refine ww_iconst C (-1 : Int32) dX5_skies_78 (by decide) 79 rfl ?_
        refine ww_icmp_ne C 89 dX5_skies_79 (by decide) h 82 rfl (fun h => ?_) (fun h => ?_)
        · refine ww_iinc C 6 (-1 : Int32) (by decide) (fun v18 => [(7, .int v18), (0, .ref (ad 72)), (1, .int a1), (2, .int a2), (3, .int a3), (5, .int x5), (6, .int x6)]) dX5_skies_89 rfl (by decide) (fun _ => rfl) h 92 rfl (fun v18 h => ?_)
          refine ww_goto C 48 dX5_skies_92 (by decide) ?_
          exact ww_sub [1, 2, 3, 4, 5, 6, 0] rfl (ih _ _ _ _ h)
        · refine ww_iinc C 4 (1 : Int32) (by decide) (fun v19 => [(5, .int v19), (0, .ref (ad 72)), (1, .int a1), (2, .int a2), (3, .int a3), (6, .int x6), (7, .int x7)]) dX5_skies_82 rfl (by decide) (fun _ => rfl) h 85 rfl (fun v19 h => ?_)
          refine ww_iload C 6 dX5_skies_85 rfl 87 rfl ?_
          refine ww_istore C [(6, .int x7), (5, .int v19), (0, .ref (ad 72)), (1, .int a1), (2, .int a2), (3, .int a3), (7, .int x7)] dX5_skies_87 (by decide) rfl 89 rfl ?_
          refine ww_iinc C 6 (-1 : Int32) (by decide) (fun v20 => [(7, .int v20), (6, .int x7), (5, .int v19), (0, .ref (ad 72)), (1, .int a1), (2, .int a2), (3, .int a3)]) dX5_skies_89 rfl (by decide) (fun _ => rfl) h 92 rfl (fun v20 h => ?_)
          refine ww_goto C 48 dX5_skies_92 (by decide) ?_
          exact ww_sub [3, 4, 5, 6, 2, 1, 0] rfl (ih _ _ _ _ h)
  rw [X5_skies] at h
  refine ww_aload_n C 0 dX5_skies_0 rfl rfl 1 rfl ?_
  refine ww_iload_n C 1 dX5_skies_1 rfl rfl 2 rfl ?_
  refine ww_iload_n C 2 dX5_skies_2 rfl rfl 3 rfl ?_
  refine ww_callVi C (As := [.int a1, .int a2]) (st := []) h cl_X5.1 (obX hn) (fun _ _ hF => k_X5_refusalOfHours hn hF) w_677 cm_X5_refusalOfHours (by decide) (by decide) rfl rfl (Nat.le_of_ble_eq_true rfl) dX5_skies_3 6 rfl (fun v22 u21 h => ?_)
  refine ww_istore C [(4, .int v22), (0, .ref (ad 72)), (1, .int a1), (2, .int a2), (3, .int a3)] dX5_skies_6 (by decide) rfl 8 rfl ?_
  refine ww_iload C 0 dX5_skies_8 rfl 10 rfl ?_
  refine ww_if_eq C 16 dX5_skies_10 (by decide) h 13 rfl (fun h => ?_) (fun h => ?_)
  · refine ww_iload_n C 4 dX5_skies_16 rfl rfl 17 rfl ?_
    refine ww_iconst C (1 : Int32) dX5_skies_17 (by decide) 18 rfl ?_
    refine ww_callSi C (As := [.int a3, .int (1 : Int32)]) (st := []) h (fun _ _ hF => k_X5_isWithin hn hF) w_411 cm_X5_isWithin (by decide) (by decide) rfl rfl (Nat.le_of_ble_eq_true rfl) dX5_skies_18 21 rfl (fun v24 u23 h => ?_)
    refine ww_if_ne C 27 dX5_skies_21 (by decide) h 24 rfl (fun h => ?_) (fun h => ?_)
    · refine ww_aload_n C 1 dX5_skies_27 rfl rfl 28 rfl ?_
      refine ww_getS C cl_X5 (obX hn) 5 (by decide) rfl 52 rfl w_370 dX5_skies_28 31 rfl ?_
      refine ww_aload_n C 1 dX5_skies_31 rfl rfl 32 rfl ?_
      refine ww_getS C cl_X5 (obX hn) 4 (by decide) rfl 42 rfl w_369 dX5_skies_32 35 rfl ?_
      refine ww_callVv C (As := [.ref (ad 42)]) (st := []) h cl_X1.1 (obScene (by decide) hn) (fun _ _ hF => k_X1_becomes hn (by decide) (by decide) hF) w_596 cm_X1_becomes (by decide) (by decide) rfl rfl (Nat.le_of_ble_eq_true rfl) dX5_skies_35 38 rfl (fun _ u25 h => ?_)
      refine ww_iconst C (0 : Int32) dX5_skies_38 (by decide) 39 rfl ?_
      refine ww_istore C [(5, .int (0 : Int32)), (4, .int v22), (0, .ref (ad 72)), (1, .int a1), (2, .int a2), (3, .int a3)] dX5_skies_39 (by decide) rfl 41 rfl ?_
      refine ww_iconst C (-1 : Int32) dX5_skies_41 (by decide) 42 rfl ?_
      refine ww_istore C [(6, .int (-1 : Int32)), (5, .int (0 : Int32)), (4, .int v22), (0, .ref (ad 72)), (1, .int a1), (2, .int a2), (3, .int a3)] dX5_skies_42 (by decide) rfl 44 rfl ?_
      refine ww_bipush C (99 : Int32) dX5_skies_44 (by decide) 46 rfl ?_
      refine ww_istore C [(7, .int (99 : Int32)), (6, .int (-1 : Int32)), (5, .int (0 : Int32)), (4, .int v22), (0, .ref (ad 72)), (1, .int a1), (2, .int a2), (3, .int a3)] dX5_skies_46 (by decide) rfl 48 rfl ?_
      exact ww_sub [4, 5, 6, 7, 2, 1, 0] rfl (L48h N _ _ _ _ h)
    · refine ww_bipush C (-7 : Int32) dX5_skies_24 (by decide) 26 rfl ?_
      exact ww_iret C dX5_skies_26 hr h
  · refine ww_iload C 0 dX5_skies_13 rfl 15 rfl ?_
    exact ww_iret C dX5_skies_15 hr h

set_option maxRecDepth 100000 in
set_option maxHeartbeats 4000000 in
theorem k_X5_whose {l : Launch} {D : va_G} {ad : Nat → Nat} {cA : Nat → ClassId} {tys : List (ClassId × FieldType)} {n : Nat} {sa : Nat → Nat} (hn : 73 ≤ n) {N : Nat} {g : Mem} {a1 : Int32} {r : Int32} {g1 : Mem} (h : X5_whose N a1 g = some (r, g1)) : CTi l yX5_whose (wsm yX5_whose cX5_whose 5 (some .int)) 6 D YI ad cA tys n sa g [.ref (ad 72), .int a1] r g1 := by
  refine ct_of RX5 rfl (by decide +kernel) (Nat.le_of_ble_eq_true rfl) rfl (fun sz => PBi D YI ad cA n r g1 sz) ?_
  intro p e R s m args below meth c C hr
  have L19h : ∀ (fu : Nat), (∀ (x3 : Int32) (x4 : Int32) (g : Mem), X5_whose_L19 N a1 fu x3 x4 g = some (r, g1) → WW p l e R s m args below meth c 5 D YI ad cA n (MQ below (PBi D YI ad cA n r g1 s.heap.size) args s 0 0 (AA n ad s.heap.size)) g 19 [(0, .ref (ad 72)), (1, .int a1), (3, .int x3), (4, .int x4)] []) := by
    intro fu
    induction fu with
    | zero => intro x3 x4 g h; cases h
    | succ fu ih =>
      intro x3 x4 g h
      rw [X5_whose_L19] at h
      refine ww_iload C 3 dX5_whose_19 rfl 21 rfl ?_
      refine ww_bipush C (6 : Int32) dX5_whose_21 (by decide) 23 rfl ?_
      refine ww_icmp_ge C 58 dX5_whose_23 (by decide) h 26 rfl (fun h => ?_) (fun h => ?_)
      · refine ww_iload_n C 2 dX5_whose_58 rfl rfl 59 rfl ?_
        exact ww_iret C dX5_whose_59 hr h
      · refine ww_aload_n C 0 dX5_whose_26 rfl rfl 27 rfl ?_
        refine ww_getS C cl_X5 (obX hn) 4 (by decide) rfl 42 rfl w_369 dX5_whose_27 30 rfl ?_
        refine ww_aload_n C 0 dX5_whose_30 rfl rfl 31 rfl ?_
        refine ww_getS C cl_X5 (obX hn) 3 (by decide) rfl 3 rfl w_368 dX5_whose_31 34 rfl ?_
        refine ww_iload_n C 1 dX5_whose_34 rfl rfl 35 rfl ?_
        refine ww_aald C (q := 3) (L := 4) (by omega) rfl rfl dX5_whose_35 h (34 + 2 * (a1).toNatClampNeg) rfl 36 rfl (fun hv9 h => ?_)
        refine ww_iload C 3 dX5_whose_36 rfl 38 rfl ?_
        refine ww_callVi C (As := [.ref (ad (34 + 2 * (a1).toNatClampNeg)), .int x4]) (st := []) h cl_X1.1 (obScene (by decide) hn) (fun _ _ hF => k_X1_firstOtherwise hn (by decide) (isSheet_at hv9) hF) w_681 cm_X1_firstOtherwise (by decide) (by decide) rfl rfl (Nat.le_of_ble_eq_true rfl) dX5_whose_38 41 rfl (fun v11 u10 h => ?_)
        refine ww_iconst C (-1 : Int32) dX5_whose_41 (by decide) 42 rfl ?_
        refine ww_icmp_ne C 52 dX5_whose_42 (by decide) h 45 rfl (fun h => ?_) (fun h => ?_)
        · refine ww_iinc C 3 (1 : Int32) (by decide) (fun v12 => [(4, .int v12), (0, .ref (ad 72)), (1, .int a1), (3, .int x3)]) dX5_whose_52 rfl (by decide) (fun _ => rfl) h 55 rfl (fun v12 h => ?_)
          refine ww_goto C 19 dX5_whose_55 (by decide) ?_
          exact ww_sub [1, 2, 3, 0] rfl (ih _ _ _ h)
        · refine ww_iload_n C 2 dX5_whose_45 rfl rfl 46 rfl ?_
          refine ww_iconst C (1 : Int32) dX5_whose_46 (by decide) 47 rfl ?_
          refine ww_iload C 3 dX5_whose_47 rfl 49 rfl ?_
          refine ww_ishl C dX5_whose_49 50 rfl ?_
          refine ww_ior C dX5_whose_50 51 rfl ?_
          refine ww_bi h (fun v13 h => ?_)
          refine ww_istore_n C [(3, .int v13), (0, .ref (ad 72)), (1, .int a1), (4, .int x4)] dX5_whose_51 rfl (by decide) rfl 52 rfl ?_
          refine ww_iinc C 3 (1 : Int32) (by decide) (fun v14 => [(4, .int v14), (3, .int v13), (0, .ref (ad 72)), (1, .int a1)]) dX5_whose_52 rfl (by decide) (fun _ => rfl) h 55 rfl (fun v14 h => ?_)
          refine ww_goto C 19 dX5_whose_55 (by decide) ?_
          exact ww_sub [2, 3, 1, 0] rfl (ih _ _ _ h)
  rw [X5_whose] at h
  refine ww_aload_n C 0 dX5_whose_0 rfl rfl 1 rfl ?_
  refine ww_iload_n C 1 dX5_whose_1 rfl rfl 2 rfl ?_
  refine ww_bipush C (20 : Int32) dX5_whose_2 (by decide) 4 rfl ?_
  refine ww_callVi C (As := [.int a1, .int (20 : Int32)]) (st := []) h cl_X5.1 (obX hn) (fun _ _ hF => k_X5_refusalOfSheet hn hF) w_615 cm_X5_refusalOfSheet (by decide) (by decide) rfl rfl (Nat.le_of_ble_eq_true rfl) dX5_whose_4 7 rfl (fun v16 u15 h => ?_)
  refine ww_istore_n C [(2, .int v16), (0, .ref (ad 72)), (1, .int a1)] dX5_whose_7 rfl (by decide) rfl 8 rfl ?_
  refine ww_iload_n C 0 dX5_whose_8 rfl rfl 9 rfl ?_
  refine ww_if_eq C 14 dX5_whose_9 (by decide) h 12 rfl (fun h => ?_) (fun h => ?_)
  · refine ww_iconst C (0 : Int32) dX5_whose_14 (by decide) 15 rfl ?_
    refine ww_istore_n C [(3, .int (0 : Int32)), (2, .int v16), (0, .ref (ad 72)), (1, .int a1)] dX5_whose_15 rfl (by decide) rfl 16 rfl ?_
    refine ww_iconst C (0 : Int32) dX5_whose_16 (by decide) 17 rfl ?_
    refine ww_istore C [(4, .int (0 : Int32)), (3, .int (0 : Int32)), (2, .int v16), (0, .ref (ad 72)), (1, .int a1)] dX5_whose_17 (by decide) rfl 19 rfl ?_
    exact ww_sub [3, 4, 1, 0] rfl (L19h N _ _ _ h)
  · refine ww_iload_n C 0 dX5_whose_12 rfl rfl 13 rfl ?_
    exact ww_iret C dX5_whose_13 hr h

set_option maxRecDepth 100000 in
set_option maxHeartbeats 4000000 in
theorem k_X5_laws {l : Launch} {D : va_G} {ad : Nat → Nat} {cA : Nat → ClassId} {tys : List (ClassId × FieldType)} {n : Nat} {sa : Nat → Nat} (hn : 73 ≤ n) {N : Nat} {g : Mem} {a1 : Int32} {a2 : Int32} {r : Int32} {g1 : Mem} (h : X5_laws N a1 a2 g = some (r, g1)) : CTi l yX5_laws (wsm yX5_laws cX5_laws 6 (some .int)) 6 D YI ad cA tys n sa g [.ref (ad 72), .int a1, .int a2] r g1 := by
  refine ct_of RX5 rfl (by decide +kernel) (Nat.le_of_ble_eq_true rfl) rfl (fun sz => PBi D YI ad cA n r g1 sz) ?_
  intro p e R s m args below meth c C hr
  have L30h : ∀ (fu : Nat), (∀ (x4 : Int32) (x5 : Int32) (g : Mem), X5_laws_L30 N a1 a2 fu x4 x5 g = some (r, g1) → WW p l e R s m args below meth c 6 D YI ad cA n (MQ below (PBi D YI ad cA n r g1 s.heap.size) args s 0 0 (AA n ad s.heap.size)) g 30 [(0, .ref (ad 72)), (1, .int a1), (2, .int a2), (4, .int x4), (5, .int x5)] []) := by
    intro fu
    induction fu with
    | zero => intro x4 x5 g h; cases h
    | succ fu ih =>
      intro x4 x5 g h
      rw [X5_laws_L30] at h
      refine ww_iload C 4 dX5_laws_30 rfl 32 rfl ?_
      refine ww_aload_n C 0 dX5_laws_32 rfl rfl 33 rfl ?_
      refine ww_getI C cl_X5 (obX hn) 2 (by decide) rfl w_367 dX5_laws_33 36 rfl ?_
      refine ww_icmp_ge C 86 dX5_laws_36 (by decide) h 39 rfl (fun h => ?_) (fun h => ?_)
      · refine ww_iload C 3 dX5_laws_86 rfl 88 rfl ?_
        exact ww_iret C dX5_laws_88 hr h
      · refine ww_aload_n C 0 dX5_laws_39 rfl rfl 40 rfl ?_
        refine ww_getS C cl_X5 (obX hn) 5 (by decide) rfl 52 rfl w_370 dX5_laws_40 43 rfl ?_
        refine ww_aload_n C 0 dX5_laws_43 rfl rfl 44 rfl ?_
        refine ww_getS C cl_X5 (obX hn) 1 (by decide) rfl 2 rfl w_366 dX5_laws_44 47 rfl ?_
        refine ww_iload C 4 dX5_laws_47 rfl 49 rfl ?_
        refine ww_aald C (q := 2) (L := 6) (by omega) rfl rfl dX5_laws_49 h (4 + 5 * (x5).toNatClampNeg) rfl 50 rfl (fun hv13 h => ?_)
        refine ww_putM C cl_X1 (obScene (by decide) hn) 11 (by decide) rfl (by decide) tyX1 tyX1_ok nmX1 rfl rfl rfl w_338 dX5_laws_50 h 53 rfl (fun u14 h => ?_)
        refine ww_aload_n C 0 dX5_laws_53 rfl rfl 54 rfl ?_
        refine ww_getS C cl_X5 (obX hn) 5 (by decide) rfl 52 rfl w_370 dX5_laws_54 57 rfl ?_
        refine ww_aload_n C 0 dX5_laws_57 rfl rfl 58 rfl ?_
        refine ww_getS C cl_X5 (obX hn) 3 (by decide) rfl 3 rfl w_368 dX5_laws_58 61 rfl ?_
        refine ww_iload_n C 1 dX5_laws_61 rfl rfl 62 rfl ?_
        refine ww_aald C (q := 3) (L := 4) (by omega) rfl rfl dX5_laws_62 h (34 + 2 * (a1).toNatClampNeg) rfl 63 rfl (fun hv15 h => ?_)
        refine ww_iload_n C 2 dX5_laws_63 rfl rfl 64 rfl ?_
        refine ww_callVi C (As := [.ref (ad (34 + 2 * (a1).toNatClampNeg)), .int a2]) (st := []) h cl_X1.1 (obScene (by decide) hn) (fun _ _ hF => k_X1_firstOtherwise hn (by decide) (isSheet_at hv15) hF) w_681 cm_X1_firstOtherwise (by decide) (by decide) rfl rfl (Nat.le_of_ble_eq_true rfl) dX5_laws_64 67 rfl (fun v17 u16 h => ?_)
        refine ww_iconst C (-1 : Int32) dX5_laws_67 (by decide) 68 rfl ?_
        refine ww_icmp_ne C 80 dX5_laws_68 (by decide) h 71 rfl (fun h => ?_) (fun h => ?_)
        · refine ww_iinc C 4 (1 : Int32) (by decide) (fun v18 => [(5, .int v18), (0, .ref (ad 72)), (1, .int a1), (2, .int a2), (4, .int x4)]) dX5_laws_80 rfl (by decide) (fun _ => rfl) h 83 rfl (fun v18 h => ?_)
          refine ww_goto C 30 dX5_laws_83 (by decide) ?_
          exact ww_sub [1, 2, 3, 4, 0] rfl (ih _ _ _ h)
        · refine ww_iload C 3 dX5_laws_71 rfl 73 rfl ?_
          refine ww_iconst C (1 : Int32) dX5_laws_73 (by decide) 74 rfl ?_
          refine ww_iload C 4 dX5_laws_74 rfl 76 rfl ?_
          refine ww_ishl C dX5_laws_76 77 rfl ?_
          refine ww_ior C dX5_laws_77 78 rfl ?_
          refine ww_bi h (fun v19 h => ?_)
          refine ww_istore C [(4, .int v19), (0, .ref (ad 72)), (1, .int a1), (2, .int a2), (5, .int x5)] dX5_laws_78 (by decide) rfl 80 rfl ?_
          refine ww_iinc C 4 (1 : Int32) (by decide) (fun v20 => [(5, .int v20), (4, .int v19), (0, .ref (ad 72)), (1, .int a1), (2, .int a2)]) dX5_laws_80 rfl (by decide) (fun _ => rfl) h 83 rfl (fun v20 h => ?_)
          refine ww_goto C 30 dX5_laws_83 (by decide) ?_
          exact ww_sub [2, 3, 4, 1, 0] rfl (ih _ _ _ h)
  rw [X5_laws] at h
  refine ww_aload_n C 0 dX5_laws_0 rfl rfl 1 rfl ?_
  refine ww_iload_n C 1 dX5_laws_1 rfl rfl 2 rfl ?_
  refine ww_iload_n C 2 dX5_laws_2 rfl rfl 3 rfl ?_
  refine ww_callVi C (As := [.int a1, .int a2]) (st := []) h cl_X5.1 (obX hn) (fun _ _ hF => k_X5_refusalOfHours hn hF) w_677 cm_X5_refusalOfHours (by decide) (by decide) rfl rfl (Nat.le_of_ble_eq_true rfl) dX5_laws_3 6 rfl (fun v22 u21 h => ?_)
  refine ww_istore_n C [(3, .int v22), (0, .ref (ad 72)), (1, .int a1), (2, .int a2)] dX5_laws_6 rfl (by decide) rfl 7 rfl ?_
  refine ww_iload_n C 0 dX5_laws_7 rfl rfl 8 rfl ?_
  refine ww_if_eq C 13 dX5_laws_8 (by decide) h 11 rfl (fun h => ?_) (fun h => ?_)
  · refine ww_aload_n C 1 dX5_laws_13 rfl rfl 14 rfl ?_
    refine ww_getS C cl_X5 (obX hn) 5 (by decide) rfl 52 rfl w_370 dX5_laws_14 17 rfl ?_
    refine ww_aload_n C 1 dX5_laws_17 rfl rfl 18 rfl ?_
    refine ww_getS C cl_X5 (obX hn) 4 (by decide) rfl 42 rfl w_369 dX5_laws_18 21 rfl ?_
    refine ww_callVv C (As := [.ref (ad 42)]) (st := []) h cl_X1.1 (obScene (by decide) hn) (fun _ _ hF => k_X1_becomes hn (by decide) (by decide) hF) w_596 cm_X1_becomes (by decide) (by decide) rfl rfl (Nat.le_of_ble_eq_true rfl) dX5_laws_21 24 rfl (fun _ u23 h => ?_)
    refine ww_iconst C (0 : Int32) dX5_laws_24 (by decide) 25 rfl ?_
    refine ww_istore C [(4, .int (0 : Int32)), (3, .int v22), (0, .ref (ad 72)), (1, .int a1), (2, .int a2)] dX5_laws_25 (by decide) rfl 27 rfl ?_
    refine ww_iconst C (0 : Int32) dX5_laws_27 (by decide) 28 rfl ?_
    refine ww_istore C [(5, .int (0 : Int32)), (4, .int (0 : Int32)), (3, .int v22), (0, .ref (ad 72)), (1, .int a1), (2, .int a2)] dX5_laws_28 (by decide) rfl 30 rfl ?_
    exact ww_sub [3, 4, 5, 1, 0] rfl (L30h N _ _ _ h)
  · refine ww_iload_n C 0 dX5_laws_11 rfl rfl 12 rfl ?_
    exact ww_iret C dX5_laws_12 hr h

set_option maxRecDepth 100000 in
set_option maxHeartbeats 4000000 in
theorem k_X5_film {l : Launch} {D : va_G} {ad : Nat → Nat} {cA : Nat → ClassId} {tys : List (ClassId × FieldType)} {n : Nat} {sa : Nat → Nat} (hn : 73 ≤ n) {N : Nat} {g : Mem} {a1 : Int32} {a2 : Int32} {a3 : Int32} {r : Int32} {g1 : Mem} (h : X5_film N a1 a2 a3 g = some (r, g1)) : CTi l yX5_film (wsm yX5_film cX5_film 6 (some .int)) 5 D YI ad cA tys n sa g [.ref (ad 72), .int a1, .int a2, .int a3] r g1 := by
  refine ct_of RX5 rfl (by decide +kernel) (Nat.le_of_ble_eq_true rfl) rfl (fun sz => PBi D YI ad cA n r g1 sz) ?_
  intro p e R s m args below meth c C hr
  have L57h : ∀ (fu : Nat), (∀ (x4 : Int32) (x5 : Int32) (g : Mem), X5_film_L57 N a1 a2 a3 fu x4 x5 g = some (r, g1) → WW p l e R s m args below meth c 6 D YI ad cA n (MQ below (PBi D YI ad cA n r g1 s.heap.size) args s 0 0 (AA n ad s.heap.size)) g 57 [(0, .ref (ad 72)), (1, .int a1), (2, .int a2), (3, .int a3), (4, .int x4), (5, .int x5)] []) := by
    intro fu
    induction fu with
    | zero => intro x4 x5 g h; cases h
    | succ fu ih =>
      intro x4 x5 g h
      rw [X5_film_L57] at h
      refine ww_iload C 5 dX5_film_57 rfl 59 rfl ?_
      refine ww_iload_n C 3 dX5_film_59 rfl rfl 60 rfl ?_
      refine ww_icmp_ge C 105 dX5_film_60 (by decide) h 63 rfl (fun h => ?_) (fun h => ?_)
      · refine ww_iload_n C 3 dX5_film_105 rfl rfl 106 rfl ?_
        exact ww_iret C dX5_film_106 hr h
      · refine ww_aload_n C 0 dX5_film_63 rfl rfl 64 rfl ?_
        refine ww_getS C cl_X5 (obX hn) 4 (by decide) rfl 42 rfl w_369 dX5_film_64 67 rfl ?_
        refine ww_iload_n C 2 dX5_film_67 rfl rfl 68 rfl ?_
        refine ww_iload C 4 dX5_film_68 rfl 70 rfl ?_
        refine ww_aload_n C 0 dX5_film_70 rfl rfl 71 rfl ?_
        refine ww_getS C cl_X5 (obX hn) 4 (by decide) rfl 42 rfl w_369 dX5_film_71 74 rfl ?_
        refine ww_getI C cl_X1 (obScene (by decide) hn) 10 (by decide) rfl w_335 dX5_film_74 77 rfl ?_
        refine ww_iload C 5 dX5_film_77 rfl 79 rfl ?_
        refine ww_iadd C dX5_film_79 80 rfl ?_
        refine ww_callVi C (As := [.int a2, .int x4, .int ((g.1 42 10) + x5)]) (st := []) h cl_X1.1 (obScene (by decide) hn) (fun _ _ hF => k_X1_faded hn (by decide) hF) w_712 cm_X1_faded (by decide) (by decide) rfl rfl (Nat.le_of_ble_eq_true rfl) dX5_film_80 83 rfl (fun v18 u17 h => ?_)
        refine ww_istore C [(4, .int v18), (0, .ref (ad 72)), (1, .int a1), (2, .int a2), (3, .int a3), (5, .int x5)] dX5_film_83 (by decide) rfl 85 rfl ?_
        refine ww_aload_n C 1 dX5_film_85 rfl rfl 86 rfl ?_
        refine ww_getS C cl_X5 (obX hn) 3 (by decide) rfl 3 rfl w_368 dX5_film_86 89 rfl ?_
        refine ww_iload_n C 2 dX5_film_89 rfl rfl 90 rfl ?_
        refine ww_aald C (q := 3) (L := 4) (by omega) rfl rfl dX5_film_90 h (34 + 2 * (a1).toNatClampNeg) rfl 91 rfl (fun hv19 h => ?_)
        refine ww_iload C 5 dX5_film_91 rfl 93 rfl ?_
        refine ww_iload C 0 dX5_film_93 rfl 95 rfl ?_
        refine ww_callVi C (As := [.int x5, .int v18]) (st := []) h cl_X2.1 (obSheet (isSheet_at hv19) (Nat.le_trans (by decide) hn)) (fun _ _ hF => k_X2_set hn (isSheet_at hv19) hF) w_713 cm_X2_set (by decide) (by decide) rfl rfl (Nat.le_of_ble_eq_true rfl) dX5_film_95 98 rfl (fun v21 u20 h => ?_)
        refine ww_pop C dX5_film_98 rfl 99 rfl ?_
        refine ww_iinc C 5 (1 : Int32) (by decide) (fun v22 => [(5, .int v22), (4, .int v18), (0, .ref (ad 72)), (1, .int a1), (2, .int a2), (3, .int a3)]) dX5_film_99 rfl (by decide) (fun _ => rfl) h 102 rfl (fun v22 h => ?_)
        refine ww_goto C 57 dX5_film_102 (by decide) ?_
        exact ww_sub [2, 3, 4, 5, 1, 0] rfl (ih _ _ _ h)
  rw [X5_film] at h
  refine ww_iload_n C 1 dX5_film_0 rfl rfl 1 rfl ?_
  refine ww_callSi C (As := [.int a1]) (st := []) h (fun _ _ hF => k_X5_isSheet hn hF) w_619 cm_X5_isSheet (by decide) (by decide) rfl rfl (Nat.le_of_ble_eq_true rfl) dX5_film_1 4 rfl (fun v24 u23 h => ?_)
  refine ww_if_ne C 10 dX5_film_4 (by decide) h 7 rfl (fun h => ?_) (fun h => ?_)
  · refine ww_iload_n C 2 dX5_film_10 rfl rfl 11 rfl ?_
    refine ww_callSi C (As := [.int a2]) (st := []) h (fun _ _ hF => k_X5_isSort hn hF) w_432 cm_X5_isSort (by decide) (by decide) rfl rfl (Nat.le_of_ble_eq_true rfl) dX5_film_11 14 rfl (fun v26 u25 h => ?_)
    refine ww_if_ne C 20 dX5_film_14 (by decide) h 17 rfl (fun h => ?_) (fun h => ?_)
    · refine ww_iload_n C 3 dX5_film_20 rfl rfl 21 rfl ?_
      refine ww_bipush C (20 : Int32) dX5_film_21 (by decide) 23 rfl ?_
      refine ww_callSi C (As := [.int a3, .int (20 : Int32)]) (st := []) h (fun _ _ hF => k_X5_isWithin hn hF) w_411 cm_X5_isWithin (by decide) (by decide) rfl rfl (Nat.le_of_ble_eq_true rfl) dX5_film_23 26 rfl (fun v28 u27 h => ?_)
      refine ww_if_ne C 32 dX5_film_26 (by decide) h 29 rfl (fun h => ?_) (fun h => ?_)
      · refine ww_aload_n C 0 dX5_film_32 rfl rfl 33 rfl ?_
        refine ww_getS C cl_X5 (obX hn) 3 (by decide) rfl 3 rfl w_368 dX5_film_33 36 rfl ?_
        refine ww_iload_n C 1 dX5_film_36 rfl rfl 37 rfl ?_
        refine ww_aald C (q := 3) (L := 4) (by omega) rfl rfl dX5_film_37 h (34 + 2 * (a1).toNatClampNeg) rfl 38 rfl (fun hv29 h => ?_)
        refine ww_iconst C (0 : Int32) dX5_film_38 (by decide) 39 rfl ?_
        refine ww_iload_n C 3 dX5_film_39 rfl rfl 40 rfl ?_
        refine ww_callVv C (As := [.int (0 : Int32), .int a3]) (st := []) h cl_X2.1 (obSheet (isSheet_at hv29) (Nat.le_trans (by decide) hn)) (fun _ _ hF => k_X2_becomes hn (isSheet_at hv29) hF) w_705 cm_X2_becomes (by decide) (by decide) rfl rfl (Nat.le_of_ble_eq_true rfl) dX5_film_40 43 rfl (fun _ u30 h => ?_)
        refine ww_aload_n C 0 dX5_film_43 rfl rfl 44 rfl ?_
        refine ww_getS C cl_X5 (obX hn) 4 (by decide) rfl 42 rfl w_369 dX5_film_44 47 rfl ?_
        refine ww_getS C cl_X1 (obScene (by decide) hn) 0 (by decide) rfl 43 rfl w_316 dX5_film_47 50 rfl ?_
        refine ww_iload_n C 2 dX5_film_50 rfl rfl 51 rfl ?_
        refine ww_iald C (iaScene (q := 42) (by decide) hn 1 6 (by decide)) dX5_film_51 h 52 rfl (fun h => ?_)
        refine ww_bi h (fun v32 h => ?_)
        refine ww_istore C [(4, .int v32), (0, .ref (ad 72)), (1, .int a1), (2, .int a2), (3, .int a3)] dX5_film_52 (by decide) rfl 54 rfl ?_
        refine ww_iconst C (0 : Int32) dX5_film_54 (by decide) 55 rfl ?_
        refine ww_istore C [(5, .int (0 : Int32)), (4, .int v32), (0, .ref (ad 72)), (1, .int a1), (2, .int a2), (3, .int a3)] dX5_film_55 (by decide) rfl 57 rfl ?_
        exact ww_sub [2, 3, 4, 5, 1, 0] rfl (L57h N _ _ _ h)
      · refine ww_bipush C (-7 : Int32) dX5_film_29 (by decide) 31 rfl ?_
        exact ww_iret C dX5_film_31 hr h
    · refine ww_bipush C (-5 : Int32) dX5_film_17 (by decide) 19 rfl ?_
      exact ww_iret C dX5_film_19 hr h
  · refine ww_bipush C (-2 : Int32) dX5_film_7 (by decide) 9 rfl ?_
    exact ww_iret C dX5_film_9 hr h

set_option maxRecDepth 100000 in
set_option maxHeartbeats 4000000 in
theorem k_X5_refusalOfTries {l : Launch} {D : va_G} {ad : Nat → Nat} {cA : Nat → ClassId} {tys : List (ClassId × FieldType)} {n : Nat} {sa : Nat → Nat} (hn : 73 ≤ n) {N : Nat} {g : Mem} {a1 : Int32} {a2 : Int32} {a3 : Int32} {r : Int32} {g1 : Mem} (h : X5_refusalOfTries N a1 a2 a3 g = some (r, g1)) : CTi l yX5_refusalOfTries (wsm yX5_refusalOfTries cX5_refusalOfTries 5 (some .int)) 4 D YI ad cA tys n sa g [.ref (ad 72), .int a1, .int a2, .int a3] r g1 := by
  refine ct_of RX5 rfl (by decide +kernel) (Nat.le_of_ble_eq_true rfl) rfl (fun sz => PBi D YI ad cA n r g1 sz) ?_
  intro p e R s m args below meth c C hr
  rw [X5_refusalOfTries] at h
  refine ww_aload_n C 0 dX5_refusalOfTries_0 rfl rfl 1 rfl ?_
  refine ww_iload_n C 1 dX5_refusalOfTries_1 rfl rfl 2 rfl ?_
  refine ww_bipush C (12 : Int32) dX5_refusalOfTries_2 (by decide) 4 rfl ?_
  refine ww_callVi C (As := [.int a1, .int (12 : Int32)]) (st := []) h cl_X5.1 (obX hn) (fun _ _ hF => k_X5_refusalOfSheet hn hF) w_615 cm_X5_refusalOfSheet (by decide) (by decide) rfl rfl (Nat.le_of_ble_eq_true rfl) dX5_refusalOfTries_4 7 rfl (fun v8 u7 h => ?_)
  refine ww_istore C [(4, .int v8), (0, .ref (ad 72)), (1, .int a1), (2, .int a2), (3, .int a3)] dX5_refusalOfTries_7 (by decide) rfl 9 rfl ?_
  refine ww_iload C 0 dX5_refusalOfTries_9 rfl 11 rfl ?_
  refine ww_if_eq C 17 dX5_refusalOfTries_11 (by decide) h 14 rfl (fun h => ?_) (fun h => ?_)
  · refine ww_aload_n C 1 dX5_refusalOfTries_17 rfl rfl 18 rfl ?_
    refine ww_iload_n C 3 dX5_refusalOfTries_18 rfl rfl 19 rfl ?_
    refine ww_callVi C (As := [.int a2]) (st := []) h cl_X5.1 (obX hn) (fun _ _ hF => k_X5_isDiver hn hF) w_476 cm_X5_isDiver (by decide) (by decide) rfl rfl (Nat.le_of_ble_eq_true rfl) dX5_refusalOfTries_19 22 rfl (fun v10 u9 h => ?_)
    refine ww_if_ne C 28 dX5_refusalOfTries_22 (by decide) h 25 rfl (fun h => ?_) (fun h => ?_)
    · refine ww_iload_n C 4 dX5_refusalOfTries_28 rfl rfl 29 rfl ?_
      refine ww_iconst C (1 : Int32) dX5_refusalOfTries_29 (by decide) 30 rfl ?_
      refine ww_callSi C (As := [.int a3, .int (1 : Int32)]) (st := []) h (fun _ _ hF => k_X5_isWithin hn hF) w_411 cm_X5_isWithin (by decide) (by decide) rfl rfl (Nat.le_of_ble_eq_true rfl) dX5_refusalOfTries_30 33 rfl (fun v12 u11 h => ?_)
      refine ww_if_eq C 40 dX5_refusalOfTries_33 (by decide) h 36 rfl (fun h => ?_) (fun h => ?_)
      · refine ww_bipush C (-7 : Int32) dX5_refusalOfTries_40 (by decide) 42 rfl ?_
        exact ww_iret C dX5_refusalOfTries_42 hr h
      · refine ww_iconst C (0 : Int32) dX5_refusalOfTries_36 (by decide) 37 rfl ?_
        refine ww_goto C 42 dX5_refusalOfTries_37 (by decide) ?_
        exact ww_iret C dX5_refusalOfTries_42 hr h
    · refine ww_bipush C (-5 : Int32) dX5_refusalOfTries_25 (by decide) 27 rfl ?_
      exact ww_iret C dX5_refusalOfTries_27 hr h
  · refine ww_iload C 0 dX5_refusalOfTries_14 rfl 16 rfl ?_
    exact ww_iret C dX5_refusalOfTries_16 hr h

set_option maxRecDepth 100000 in
set_option maxHeartbeats 4000000 in
theorem k_X5_kinds {l : Launch} {D : va_G} {ad : Nat → Nat} {cA : Nat → ClassId} {tys : List (ClassId × FieldType)} {n : Nat} {sa : Nat → Nat} (hn : 73 ≤ n) {N : Nat} {g : Mem} {a1 : Int32} {a2 : Int32} {a3 : Int32} {r : Int32} {g1 : Mem} (h : X5_kinds N a1 a2 a3 g = some (r, g1)) : CTi l yX5_kinds (wsm yX5_kinds cX5_kinds 8 (some .int)) 7 D YI ad cA tys n sa g [.ref (ad 72), .int a1, .int a2, .int a3] r g1 := by
  refine ct_of RX5 rfl (by decide +kernel) (Nat.le_of_ble_eq_true rfl) rfl (fun sz => PBi D YI ad cA n r g1 sz) ?_
  intro p e R s m args below meth c C hr
  have L57h : ∀ (fu : Nat), (∀ (x5a : Nat) (x6 : Int32) (x7 : Int32) (g : Mem), X5_kinds_L57 N a1 a2 a3 fu x5a x6 x7 g = some (r, g1) → WW p l e R s m args below meth c 8 D YI ad cA n (MQ below (PBi D YI ad cA n r g1 s.heap.size) args s 0 0 (AA n ad s.heap.size)) g 57 [(0, .ref (ad 72)), (1, .int a1), (2, .int a2), (3, .int a3), (5, .ref (ad x5a)), (6, .int x6), (7, .int x7)] []) := by
    intro fu
    induction fu with
    | zero => intro x5a x6 x7 g h; cases h
    | succ fu ih =>
      intro x5a x6 x7 g h
      rw [X5_kinds_L57] at h
      refine ww_iload C 6 dX5_kinds_57 rfl 59 rfl ?_
      refine ww_iload_n C 3 dX5_kinds_59 rfl rfl 60 rfl ?_
      refine ww_if_ne C 68 dX5_kinds_60 (by decide) h 63 rfl (fun h => ?_) (fun h => ?_)
      · refine ww_bipush C (10 : Int32) dX5_kinds_68 (by decide) 70 rfl ?_
        refine ww_icmp_ge C 111 dX5_kinds_70 (by decide) h 73 rfl (fun h => ?_) (fun h => ?_)
        · refine ww_iload C 5 dX5_kinds_111 rfl 113 rfl ?_
          exact ww_iret C dX5_kinds_113 hr h
        · refine ww_aload C 4 dX5_kinds_73 rfl 75 rfl ?_
          refine ww_iload_n C 2 dX5_kinds_75 rfl rfl 76 rfl ?_
          refine ww_iload C 6 dX5_kinds_76 rfl 78 rfl ?_
          obtain ⟨hd22, h⟩ := gd_some h
          refine ww_iast C (iaDyn hd22 hn) dX5_kinds_78 h 79 rfl (fun u21 h => ?_)
          refine ww_aload_n C 0 dX5_kinds_79 rfl rfl 80 rfl ?_
          refine ww_getS C cl_X5 (obX hn) 5 (by decide) rfl 52 rfl w_370 dX5_kinds_80 83 rfl ?_
          refine ww_aload_n C 0 dX5_kinds_83 rfl rfl 84 rfl ?_
          refine ww_getS C cl_X5 (obX hn) 3 (by decide) rfl 3 rfl w_368 dX5_kinds_84 87 rfl ?_
          refine ww_iload_n C 1 dX5_kinds_87 rfl rfl 88 rfl ?_
          refine ww_aald C (q := 3) (L := 4) (by omega) rfl rfl dX5_kinds_88 h (34 + 2 * (a1).toNatClampNeg) rfl 89 rfl (fun hv23 h => ?_)
          refine ww_iload_n C 2 dX5_kinds_89 rfl rfl 90 rfl ?_
          refine ww_callVi C (As := [.ref (ad (34 + 2 * (a1).toNatClampNeg)), .int a2]) (st := []) h cl_X1.1 (obScene (by decide) hn) (fun _ _ hF => k_X1_isSoOfAll hn (by decide) (isSheet_at hv23) hF) w_729 cm_X1_isSoOfAll (by decide) (by decide) rfl rfl (Nat.le_of_ble_eq_true rfl) dX5_kinds_90 93 rfl (fun v25 u24 h => ?_)
          refine ww_if_eq C 105 dX5_kinds_93 (by decide) h 96 rfl (fun h => ?_) (fun h => ?_)
          · refine ww_iinc C 6 (1 : Int32) (by decide) (fun v26 => [(7, .int v26), (0, .ref (ad 72)), (1, .int a1), (2, .int a2), (3, .int a3), (5, .ref (ad x5a)), (6, .int x6)]) dX5_kinds_105 rfl (by decide) (fun _ => rfl) h 108 rfl (fun v26 h => ?_)
            refine ww_goto C 57 dX5_kinds_108 (by decide) ?_
            exact ww_sub [1, 2, 3, 4, 5, 6, 0] rfl (ih _ _ _ _ h)
          · refine ww_iload C 5 dX5_kinds_96 rfl 98 rfl ?_
            refine ww_iconst C (1 : Int32) dX5_kinds_98 (by decide) 99 rfl ?_
            refine ww_iload C 6 dX5_kinds_99 rfl 101 rfl ?_
            refine ww_ishl C dX5_kinds_101 102 rfl ?_
            refine ww_ior C dX5_kinds_102 103 rfl ?_
            refine ww_bi h (fun v27 h => ?_)
            refine ww_istore C [(6, .int v27), (0, .ref (ad 72)), (1, .int a1), (2, .int a2), (3, .int a3), (5, .ref (ad x5a)), (7, .int x7)] dX5_kinds_103 (by decide) rfl 105 rfl ?_
            refine ww_iinc C 6 (1 : Int32) (by decide) (fun v28 => [(7, .int v28), (6, .int v27), (0, .ref (ad 72)), (1, .int a1), (2, .int a2), (3, .int a3), (5, .ref (ad x5a))]) dX5_kinds_105 rfl (by decide) (fun _ => rfl) h 108 rfl (fun v28 h => ?_)
            refine ww_goto C 57 dX5_kinds_108 (by decide) ?_
            exact ww_sub [2, 3, 4, 5, 6, 1, 0] rfl (ih _ _ _ _ h)
      · refine ww_bipush C (6 : Int32) dX5_kinds_63 (by decide) 65 rfl ?_
        refine ww_goto C 70 dX5_kinds_65 (by decide) ?_
        refine ww_icmp_ge C 111 dX5_kinds_70 (by decide) h 73 rfl (fun h => ?_) (fun h => ?_)
        · refine ww_iload C 5 dX5_kinds_111 rfl 113 rfl ?_
          exact ww_iret C dX5_kinds_113 hr h
        · refine ww_aload C 4 dX5_kinds_73 rfl 75 rfl ?_
          refine ww_iload_n C 2 dX5_kinds_75 rfl rfl 76 rfl ?_
          refine ww_iload C 6 dX5_kinds_76 rfl 78 rfl ?_
          obtain ⟨hd30, h⟩ := gd_some h
          refine ww_iast C (iaDyn hd30 hn) dX5_kinds_78 h 79 rfl (fun u29 h => ?_)
          refine ww_aload_n C 0 dX5_kinds_79 rfl rfl 80 rfl ?_
          refine ww_getS C cl_X5 (obX hn) 5 (by decide) rfl 52 rfl w_370 dX5_kinds_80 83 rfl ?_
          refine ww_aload_n C 0 dX5_kinds_83 rfl rfl 84 rfl ?_
          refine ww_getS C cl_X5 (obX hn) 3 (by decide) rfl 3 rfl w_368 dX5_kinds_84 87 rfl ?_
          refine ww_iload_n C 1 dX5_kinds_87 rfl rfl 88 rfl ?_
          refine ww_aald C (q := 3) (L := 4) (by omega) rfl rfl dX5_kinds_88 h (34 + 2 * (a1).toNatClampNeg) rfl 89 rfl (fun hv31 h => ?_)
          refine ww_iload_n C 2 dX5_kinds_89 rfl rfl 90 rfl ?_
          refine ww_callVi C (As := [.ref (ad (34 + 2 * (a1).toNatClampNeg)), .int a2]) (st := []) h cl_X1.1 (obScene (by decide) hn) (fun _ _ hF => k_X1_isSoOfAll hn (by decide) (isSheet_at hv31) hF) w_729 cm_X1_isSoOfAll (by decide) (by decide) rfl rfl (Nat.le_of_ble_eq_true rfl) dX5_kinds_90 93 rfl (fun v33 u32 h => ?_)
          refine ww_if_eq C 105 dX5_kinds_93 (by decide) h 96 rfl (fun h => ?_) (fun h => ?_)
          · refine ww_iinc C 6 (1 : Int32) (by decide) (fun v34 => [(7, .int v34), (0, .ref (ad 72)), (1, .int a1), (2, .int a2), (3, .int a3), (5, .ref (ad x5a)), (6, .int x6)]) dX5_kinds_105 rfl (by decide) (fun _ => rfl) h 108 rfl (fun v34 h => ?_)
            refine ww_goto C 57 dX5_kinds_108 (by decide) ?_
            exact ww_sub [1, 2, 3, 4, 5, 6, 0] rfl (ih _ _ _ _ h)
          · refine ww_iload C 5 dX5_kinds_96 rfl 98 rfl ?_
            refine ww_iconst C (1 : Int32) dX5_kinds_98 (by decide) 99 rfl ?_
            refine ww_iload C 6 dX5_kinds_99 rfl 101 rfl ?_
            refine ww_ishl C dX5_kinds_101 102 rfl ?_
            refine ww_ior C dX5_kinds_102 103 rfl ?_
            refine ww_bi h (fun v35 h => ?_)
            refine ww_istore C [(6, .int v35), (0, .ref (ad 72)), (1, .int a1), (2, .int a2), (3, .int a3), (5, .ref (ad x5a)), (7, .int x7)] dX5_kinds_103 (by decide) rfl 105 rfl ?_
            refine ww_iinc C 6 (1 : Int32) (by decide) (fun v36 => [(7, .int v36), (6, .int v35), (0, .ref (ad 72)), (1, .int a1), (2, .int a2), (3, .int a3), (5, .ref (ad x5a))]) dX5_kinds_105 rfl (by decide) (fun _ => rfl) h 108 rfl (fun v36 h => ?_)
            refine ww_goto C 57 dX5_kinds_108 (by decide) ?_
            exact ww_sub [2, 3, 4, 5, 6, 1, 0] rfl (ih _ _ _ _ h)
  rw [X5_kinds] at h
  refine ww_aload_n C 0 dX5_kinds_0 rfl rfl 1 rfl ?_
  refine ww_iload_n C 1 dX5_kinds_1 rfl rfl 2 rfl ?_
  refine ww_iload_n C 2 dX5_kinds_2 rfl rfl 3 rfl ?_
  refine ww_iload_n C 3 dX5_kinds_3 rfl rfl 4 rfl ?_
  refine ww_callVi C (As := [.int a1, .int a2, .int a3]) (st := []) h cl_X5.1 (obX hn) (fun _ _ hF => k_X5_refusalOfTries hn hF) w_725 cm_X5_refusalOfTries (by decide) (by decide) rfl rfl (Nat.le_of_ble_eq_true rfl) dX5_kinds_4 7 rfl (fun v38 u37 h => ?_)
  refine ww_istore C [(4, .int v38), (0, .ref (ad 72)), (1, .int a1), (2, .int a2), (3, .int a3)] dX5_kinds_7 (by decide) rfl 9 rfl ?_
  refine ww_iload C 0 dX5_kinds_9 rfl 11 rfl ?_
  refine ww_if_eq C 17 dX5_kinds_11 (by decide) h 14 rfl (fun h => ?_) (fun h => ?_)
  · refine ww_aload_n C 1 dX5_kinds_17 rfl rfl 18 rfl ?_
    refine ww_getS C cl_X5 (obX hn) 5 (by decide) rfl 52 rfl w_370 dX5_kinds_18 21 rfl ?_
    refine ww_aload_n C 1 dX5_kinds_21 rfl rfl 22 rfl ?_
    refine ww_getS C cl_X5 (obX hn) 4 (by decide) rfl 42 rfl w_369 dX5_kinds_22 25 rfl ?_
    refine ww_callVv C (As := [.ref (ad 42)]) (st := []) h cl_X1.1 (obScene (by decide) hn) (fun _ _ hF => k_X1_becomes hn (by decide) (by decide) hF) w_596 cm_X1_becomes (by decide) (by decide) rfl rfl (Nat.le_of_ble_eq_true rfl) dX5_kinds_25 28 rfl (fun _ u39 h => ?_)
    refine ww_iload_n C 4 dX5_kinds_28 rfl rfl 29 rfl ?_
    refine ww_if_ne C 42 dX5_kinds_29 (by decide) h 32 rfl (fun h => ?_) (fun h => ?_)
    · refine ww_aload_n C 1 dX5_kinds_42 rfl rfl 43 rfl ?_
      refine ww_getS C cl_X5 (obX hn) 5 (by decide) rfl 52 rfl w_370 dX5_kinds_43 46 rfl ?_
      refine ww_getS C cl_X1 (obScene (by decide) hn) 6 (by decide) rfl 59 rfl w_328 dX5_kinds_46 49 rfl ?_
      refine ww_astore C [(5, .ref (ad 59)), (4, .int v38), (0, .ref (ad 72)), (1, .int a1), (2, .int a2), (3, .int a3)] dX5_kinds_49 (by decide) rfl 51 rfl ?_
      refine ww_iconst C (0 : Int32) dX5_kinds_51 (by decide) 52 rfl ?_
      refine ww_istore C [(6, .int (0 : Int32)), (5, .ref (ad 59)), (4, .int v38), (0, .ref (ad 72)), (1, .int a1), (2, .int a2), (3, .int a3)] dX5_kinds_52 (by decide) rfl 54 rfl ?_
      refine ww_iconst C (0 : Int32) dX5_kinds_54 (by decide) 55 rfl ?_
      refine ww_istore C [(7, .int (0 : Int32)), (6, .int (0 : Int32)), (5, .ref (ad 59)), (4, .int v38), (0, .ref (ad 72)), (1, .int a1), (2, .int a2), (3, .int a3)] dX5_kinds_55 (by decide) rfl 57 rfl ?_
      exact ww_sub [4, 5, 6, 7, 2, 1, 0] rfl (L57h N _ _ _ _ h)
    · refine ww_aload_n C 1 dX5_kinds_32 rfl rfl 33 rfl ?_
      refine ww_getS C cl_X5 (obX hn) 5 (by decide) rfl 52 rfl w_370 dX5_kinds_33 36 rfl ?_
      refine ww_getS C cl_X1 (obScene (by decide) hn) 5 (by decide) rfl 58 rfl w_326 dX5_kinds_36 39 rfl ?_
      refine ww_goto C 49 dX5_kinds_39 (by decide) ?_
      refine ww_astore C [(5, .ref (ad 58)), (4, .int v38), (0, .ref (ad 72)), (1, .int a1), (2, .int a2), (3, .int a3)] dX5_kinds_49 (by decide) rfl 51 rfl ?_
      refine ww_iconst C (0 : Int32) dX5_kinds_51 (by decide) 52 rfl ?_
      refine ww_istore C [(6, .int (0 : Int32)), (5, .ref (ad 58)), (4, .int v38), (0, .ref (ad 72)), (1, .int a1), (2, .int a2), (3, .int a3)] dX5_kinds_52 (by decide) rfl 54 rfl ?_
      refine ww_iconst C (0 : Int32) dX5_kinds_54 (by decide) 55 rfl ?_
      refine ww_istore C [(7, .int (0 : Int32)), (6, .int (0 : Int32)), (5, .ref (ad 58)), (4, .int v38), (0, .ref (ad 72)), (1, .int a1), (2, .int a2), (3, .int a3)] dX5_kinds_55 (by decide) rfl 57 rfl ?_
      exact ww_sub [4, 5, 6, 7, 2, 1, 0] rfl (L57h N _ _ _ _ h)
  · refine ww_iload C 0 dX5_kinds_14 rfl 16 rfl ?_
    exact ww_iret C dX5_kinds_16 hr h

set_option maxRecDepth 100000 in
set_option maxHeartbeats 4000000 in
theorem k_X5_breaths {l : Launch} {D : va_G} {ad : Nat → Nat} {cA : Nat → ClassId} {tys : List (ClassId × FieldType)} {n : Nat} {sa : Nat → Nat} (hn : 73 ≤ n) {N : Nat} {g : Mem} {a1 : Int32} {a2 : Int32} {a3 : Int32} {r : Int32} {g1 : Mem} (h : X5_breaths N a1 a2 a3 g = some (r, g1)) : CTi l yX5_breaths (wsm yX5_breaths cX5_breaths 8 (some .int)) 7 D YI ad cA tys n sa g [.ref (ad 72), .int a1, .int a2, .int a3] r g1 := by
  refine ct_of RX5 rfl (by decide +kernel) (Nat.le_of_ble_eq_true rfl) rfl (fun sz => PBi D YI ad cA n r g1 sz) ?_
  intro p e R s m args below meth c C hr
  have L38h : ∀ (fu : Nat), (∀ (x5 : Int32) (x6 : Int32) (x7 : Int32) (g : Mem), X5_breaths_L38 N a1 a2 a3 fu x5 x6 x7 g = some (r, g1) → WW p l e R s m args below meth c 8 D YI ad cA n (MQ below (PBi D YI ad cA n r g1 s.heap.size) args s 0 0 (AA n ad s.heap.size)) g 38 [(0, .ref (ad 72)), (1, .int a1), (2, .int a2), (3, .int a3), (5, .int x5), (6, .int x6), (7, .int x7)] []) := by
    intro fu
    induction fu with
    | zero => intro x5 x6 x7 g h; cases h
    | succ fu ih =>
      intro x5 x6 x7 g h
      rw [X5_breaths_L38] at h
      refine ww_iload C 6 dX5_breaths_38 rfl 40 rfl ?_
      refine ww_if_lt C 84 dX5_breaths_40 (by decide) h 43 rfl (fun h => ?_) (fun h => ?_)
      · refine ww_iload_n C 3 dX5_breaths_84 rfl rfl 85 rfl ?_
        refine ww_if_ne C 93 dX5_breaths_85 (by decide) h 88 rfl (fun h => ?_) (fun h => ?_)
        · refine ww_iload C 5 dX5_breaths_93 rfl 95 rfl ?_
          exact ww_iret C dX5_breaths_95 hr h
        · refine ww_iload C 4 dX5_breaths_88 rfl 90 rfl ?_
          refine ww_goto C 95 dX5_breaths_90 (by decide) ?_
          exact ww_iret C dX5_breaths_95 hr h
      · refine ww_aload_n C 0 dX5_breaths_43 rfl rfl 44 rfl ?_
        refine ww_getS C cl_X5 (obX hn) 5 (by decide) rfl 52 rfl w_370 dX5_breaths_44 47 rfl ?_
        refine ww_getS C cl_X1 (obScene (by decide) hn) 7 (by decide) rfl 60 rfl w_330 dX5_breaths_47 50 rfl ?_
        refine ww_iload_n C 2 dX5_breaths_50 rfl rfl 51 rfl ?_
        refine ww_iload C 6 dX5_breaths_51 rfl 53 rfl ?_
        refine ww_iast C (iaScene (q := 52) (by decide) hn 8 6 (by decide)) dX5_breaths_53 h 54 rfl (fun u12 h => ?_)
        refine ww_aload_n C 0 dX5_breaths_54 rfl rfl 55 rfl ?_
        refine ww_getS C cl_X5 (obX hn) 5 (by decide) rfl 52 rfl w_370 dX5_breaths_55 58 rfl ?_
        refine ww_aload_n C 0 dX5_breaths_58 rfl rfl 59 rfl ?_
        refine ww_getS C cl_X5 (obX hn) 3 (by decide) rfl 3 rfl w_368 dX5_breaths_59 62 rfl ?_
        refine ww_iload_n C 1 dX5_breaths_62 rfl rfl 63 rfl ?_
        refine ww_aald C (q := 3) (L := 4) (by omega) rfl rfl dX5_breaths_63 h (34 + 2 * (a1).toNatClampNeg) rfl 64 rfl (fun hv13 h => ?_)
        refine ww_iload_n C 2 dX5_breaths_64 rfl rfl 65 rfl ?_
        refine ww_callVi C (As := [.ref (ad (34 + 2 * (a1).toNatClampNeg)), .int a2]) (st := []) h cl_X1.1 (obScene (by decide) hn) (fun _ _ hF => k_X1_isSoOfAll hn (by decide) (isSheet_at hv13) hF) w_729 cm_X1_isSoOfAll (by decide) (by decide) rfl rfl (Nat.le_of_ble_eq_true rfl) dX5_breaths_65 68 rfl (fun v15 u14 h => ?_)
        refine ww_if_eq C 78 dX5_breaths_68 (by decide) h 71 rfl (fun h => ?_) (fun h => ?_)
        · refine ww_iinc C 6 (-1 : Int32) (by decide) (fun v16 => [(7, .int v16), (0, .ref (ad 72)), (1, .int a1), (2, .int a2), (3, .int a3), (5, .int x5), (6, .int x6)]) dX5_breaths_78 rfl (by decide) (fun _ => rfl) h 81 rfl (fun v16 h => ?_)
          refine ww_goto C 38 dX5_breaths_81 (by decide) ?_
          exact ww_sub [1, 2, 3, 4, 5, 6, 0] rfl (ih _ _ _ _ h)
        · refine ww_iinc C 4 (1 : Int32) (by decide) (fun v17 => [(5, .int v17), (0, .ref (ad 72)), (1, .int a1), (2, .int a2), (3, .int a3), (6, .int x6), (7, .int x7)]) dX5_breaths_71 rfl (by decide) (fun _ => rfl) h 74 rfl (fun v17 h => ?_)
          refine ww_iload C 6 dX5_breaths_74 rfl 76 rfl ?_
          refine ww_istore C [(6, .int x7), (5, .int v17), (0, .ref (ad 72)), (1, .int a1), (2, .int a2), (3, .int a3), (7, .int x7)] dX5_breaths_76 (by decide) rfl 78 rfl ?_
          refine ww_iinc C 6 (-1 : Int32) (by decide) (fun v18 => [(7, .int v18), (6, .int x7), (5, .int v17), (0, .ref (ad 72)), (1, .int a1), (2, .int a2), (3, .int a3)]) dX5_breaths_78 rfl (by decide) (fun _ => rfl) h 81 rfl (fun v18 h => ?_)
          refine ww_goto C 38 dX5_breaths_81 (by decide) ?_
          exact ww_sub [3, 4, 5, 6, 2, 1, 0] rfl (ih _ _ _ _ h)
  rw [X5_breaths] at h
  refine ww_aload_n C 0 dX5_breaths_0 rfl rfl 1 rfl ?_
  refine ww_iload_n C 1 dX5_breaths_1 rfl rfl 2 rfl ?_
  refine ww_iload_n C 2 dX5_breaths_2 rfl rfl 3 rfl ?_
  refine ww_iload_n C 3 dX5_breaths_3 rfl rfl 4 rfl ?_
  refine ww_callVi C (As := [.int a1, .int a2, .int a3]) (st := []) h cl_X5.1 (obX hn) (fun _ _ hF => k_X5_refusalOfTries hn hF) w_725 cm_X5_refusalOfTries (by decide) (by decide) rfl rfl (Nat.le_of_ble_eq_true rfl) dX5_breaths_4 7 rfl (fun v20 u19 h => ?_)
  refine ww_istore C [(4, .int v20), (0, .ref (ad 72)), (1, .int a1), (2, .int a2), (3, .int a3)] dX5_breaths_7 (by decide) rfl 9 rfl ?_
  refine ww_iload C 0 dX5_breaths_9 rfl 11 rfl ?_
  refine ww_if_eq C 17 dX5_breaths_11 (by decide) h 14 rfl (fun h => ?_) (fun h => ?_)
  · refine ww_aload_n C 1 dX5_breaths_17 rfl rfl 18 rfl ?_
    refine ww_getS C cl_X5 (obX hn) 5 (by decide) rfl 52 rfl w_370 dX5_breaths_18 21 rfl ?_
    refine ww_aload_n C 1 dX5_breaths_21 rfl rfl 22 rfl ?_
    refine ww_getS C cl_X5 (obX hn) 4 (by decide) rfl 42 rfl w_369 dX5_breaths_22 25 rfl ?_
    refine ww_callVv C (As := [.ref (ad 42)]) (st := []) h cl_X1.1 (obScene (by decide) hn) (fun _ _ hF => k_X1_becomes hn (by decide) (by decide) hF) w_596 cm_X1_becomes (by decide) (by decide) rfl rfl (Nat.le_of_ble_eq_true rfl) dX5_breaths_25 28 rfl (fun _ u21 h => ?_)
    refine ww_iconst C (0 : Int32) dX5_breaths_28 (by decide) 29 rfl ?_
    refine ww_istore C [(5, .int (0 : Int32)), (4, .int v20), (0, .ref (ad 72)), (1, .int a1), (2, .int a2), (3, .int a3)] dX5_breaths_29 (by decide) rfl 31 rfl ?_
    refine ww_iconst C (-1 : Int32) dX5_breaths_31 (by decide) 32 rfl ?_
    refine ww_istore C [(6, .int (-1 : Int32)), (5, .int (0 : Int32)), (4, .int v20), (0, .ref (ad 72)), (1, .int a1), (2, .int a2), (3, .int a3)] dX5_breaths_32 (by decide) rfl 34 rfl ?_
    refine ww_bipush C (99 : Int32) dX5_breaths_34 (by decide) 36 rfl ?_
    refine ww_istore C [(7, .int (99 : Int32)), (6, .int (-1 : Int32)), (5, .int (0 : Int32)), (4, .int v20), (0, .ref (ad 72)), (1, .int a1), (2, .int a2), (3, .int a3)] dX5_breaths_36 (by decide) rfl 38 rfl ?_
    exact ww_sub [4, 5, 6, 7, 2, 1, 0] rfl (L38h N _ _ _ _ h)
  · refine ww_iload C 0 dX5_breaths_14 rfl 16 rfl ?_
    exact ww_iret C dX5_breaths_16 hr h

set_option maxRecDepth 100000 in
set_option maxHeartbeats 4000000 in
theorem k_X5_nextLot {l : Launch} {D : va_G} {ad : Nat → Nat} {cA : Nat → ClassId} {tys : List (ClassId × FieldType)} {n : Nat} {sa : Nat → Nat} (hn : 73 ≤ n) {N : Nat} {g : Mem} {a1 : Int64} {r : Int64} {g1 : Mem} (h : X5_nextLot N a1 g = some (r, g1)) : CTl l yX5_nextLot (wsm yX5_nextLot cX5_nextLot 2 (some .long)) 1 D YI ad cA tys n sa g [.long a1] r g1 := by
  refine ct_of RX5 rfl (by decide +kernel) (Nat.le_of_ble_eq_true rfl) rfl (fun sz => PBl D YI ad cA n r g1 sz) ?_
  intro p e R s m args below meth c C hr
  rw [X5_nextLot] at h
  refine ww_lload_n C 0 dX5_nextLot_0 rfl rfl 1 rfl ?_
  refine ww_ldc2 C (48271 : Int64) w_749 dX5_nextLot_1 4 rfl ?_
  refine ww_lmul C dX5_nextLot_4 5 rfl ?_
  refine ww_ldc2 C (2147483647 : Int64) w_750 dX5_nextLot_5 8 rfl ?_
  refine ww_lrem C dX5_nextLot_8 h 9 rfl (fun h => ?_)
  exact ww_lret C dX5_nextLot_9 hr h

set_option maxRecDepth 100000 in
set_option maxHeartbeats 4000000 in
theorem k_X5_storm {l : Launch} {D : va_G} {ad : Nat → Nat} {cA : Nat → ClassId} {tys : List (ClassId × FieldType)} {n : Nat} {sa : Nat → Nat} (hn : 73 ≤ n) {N : Nat} {g : Mem} {a1 : Int32} {r : Int32} {g1 : Mem} (h : X5_storm N a1 g = some (r, g1)) : CTv l yX5_storm (wsm yX5_storm cX5_storm 6 none) 6 D YI ad cA tys n sa g [.ref (ad 72), .int a1] g1 := by
  refine ct_of RX5 rfl (by decide +kernel) (Nat.le_of_ble_eq_true rfl) rfl (fun sz => PBv D YI ad cA n g1 sz) ?_
  intro p e R s m args below meth c C hr
  have L19h : ∀ (fu : Nat), (∀ (x2l : Int64) (x4 : Int32) (g : Mem), X5_storm_L19 N a1 fu x2l x4 g = some (r, g1) → WW p l e R s m args below meth c 6 D YI ad cA n (MQ below (PBv D YI ad cA n g1 s.heap.size) args s 0 0 (AA n ad s.heap.size)) g 19 [(0, .ref (ad 72)), (1, .int a1), (2, .long x2l), (4, .int x4)] []) := by
    intro fu
    induction fu with
    | zero => intro x2l x4 g h; cases h
    | succ fu ih =>
      intro x2l x4 g h
      rw [X5_storm_L19] at h
      refine ww_iload C 3 dX5_storm_19 rfl 21 rfl ?_
      refine ww_bipush C (8 : Int32) dX5_storm_21 (by decide) 23 rfl ?_
      refine ww_icmp_ge C 73 dX5_storm_23 (by decide) h 26 rfl (fun h => ?_) (fun h => ?_)
      · exact ww_vret C dX5_storm_73 hr h
      · refine ww_lload_n C 2 dX5_storm_26 rfl rfl 27 rfl ?_
        refine ww_callSl C (As := [.long x2l]) (st := []) h (fun _ _ hF => k_X5_nextLot hn hF) w_746 cm_X5_nextLot (by decide) (by decide) rfl rfl (Nat.le_of_ble_eq_true rfl) dX5_storm_27 30 rfl (fun v15 u14 h => ?_)
        refine ww_lstore_n C [(2, .long v15), (0, .ref (ad 72)), (1, .int a1), (4, .int x4)] dX5_storm_30 rfl (by decide) rfl 31 rfl ?_
        refine ww_lload_n C 0 dX5_storm_31 rfl rfl 32 rfl ?_
        refine ww_ldc2 C (6 : Int64) w_751 dX5_storm_32 35 rfl ?_
        refine ww_lrem C dX5_storm_35 h 36 rfl (fun h => ?_)
        refine ww_l2i C dX5_storm_36 37 rfl ?_
        refine ww_bi h (fun v16 h => ?_)
        refine ww_istore C [(5, .int v16), (2, .long v15), (0, .ref (ad 72)), (1, .int a1), (4, .int x4)] dX5_storm_37 (by decide) rfl 39 rfl ?_
        refine ww_lload_n C 1 dX5_storm_39 rfl rfl 40 rfl ?_
        refine ww_callSl C (As := [.long v15]) (st := []) h (fun _ _ hF => k_X5_nextLot hn hF) w_746 cm_X5_nextLot (by decide) (by decide) rfl rfl (Nat.le_of_ble_eq_true rfl) dX5_storm_40 43 rfl (fun v18 u17 h => ?_)
        refine ww_lstore_n C [(2, .long v18), (5, .int v16), (0, .ref (ad 72)), (1, .int a1), (4, .int x4)] dX5_storm_43 rfl (by decide) rfl 44 rfl ?_
        refine ww_aload_n C 2 dX5_storm_44 rfl rfl 45 rfl ?_
        refine ww_getS C cl_X5 (obX hn) 5 (by decide) rfl 52 rfl w_370 dX5_storm_45 48 rfl ?_
        refine ww_iload C 1 dX5_storm_48 rfl 50 rfl ?_
        refine ww_lload_n C 0 dX5_storm_50 rfl rfl 51 rfl ?_
        refine ww_ldc2 C (30 : Int64) w_752 dX5_storm_51 54 rfl ?_
        refine ww_lrem C dX5_storm_54 h 55 rfl (fun h => ?_)
        refine ww_l2i C dX5_storm_55 56 rfl ?_
        refine ww_callVv C (As := [.int v16, .int ((v18 - v18 / (30 : Int64) * (30 : Int64)).toInt32)]) (st := []) h cl_X1.1 (obScene (by decide) hn) (fun _ _ hF => k_X1_blowUp hn (by decide) hF) w_753 cm_X1_blowUp (by decide) (by decide) rfl rfl (Nat.le_of_ble_eq_true rfl) dX5_storm_56 59 rfl (fun _ u19 h => ?_)
        refine ww_aload_n C 2 dX5_storm_59 rfl rfl 60 rfl ?_
        refine ww_getS C cl_X5 (obX hn) 5 (by decide) rfl 52 rfl w_370 dX5_storm_60 63 rfl ?_
        refine ww_iconst C (1 : Int32) dX5_storm_63 (by decide) 64 rfl ?_
        refine ww_callVv C (As := [.int (1 : Int32)]) (st := []) h cl_X1.1 (obScene (by decide) hn) (fun _ _ hF => k_X1_passHours hn (by decide) hF) w_563 cm_X1_passHours (by decide) (by decide) rfl rfl (Nat.le_of_ble_eq_true rfl) dX5_storm_64 67 rfl (fun _ u21 h => ?_)
        refine ww_iinc C 4 (1 : Int32) (by decide) (fun v23 => [(4, .int v23), (2, .long v18), (5, .int v16), (0, .ref (ad 72)), (1, .int a1)]) dX5_storm_67 rfl (by decide) (fun _ => rfl) h 70 rfl (fun v23 h => ?_)
        refine ww_goto C 19 dX5_storm_70 (by decide) ?_
        exact ww_sub [3, 4, 1, 0] rfl (ih _ _ _ h)
  rw [X5_storm] at h
  refine ww_aload_n C 0 dX5_storm_0 rfl rfl 1 rfl ?_
  refine ww_getS C cl_X5 (obX hn) 5 (by decide) rfl 52 rfl w_370 dX5_storm_1 4 rfl ?_
  refine ww_aload_n C 0 dX5_storm_4 rfl rfl 5 rfl ?_
  refine ww_getS C cl_X5 (obX hn) 4 (by decide) rfl 42 rfl w_369 dX5_storm_5 8 rfl ?_
  refine ww_callVv C (As := [.ref (ad 42)]) (st := []) h cl_X1.1 (obScene (by decide) hn) (fun _ _ hF => k_X1_becomes hn (by decide) (by decide) hF) w_596 cm_X1_becomes (by decide) (by decide) rfl rfl (Nat.le_of_ble_eq_true rfl) dX5_storm_8 11 rfl (fun _ u24 h => ?_)
  refine ww_iload_n C 1 dX5_storm_11 rfl rfl 12 rfl ?_
  refine ww_i2l C dX5_storm_12 13 rfl ?_
  refine ww_lconst C (1 : Int64) dX5_storm_13 (by decide) 14 rfl ?_
  refine ww_ladd C dX5_storm_14 15 rfl ?_
  refine ww_bl h (fun v26 h => ?_)
  refine ww_lstore_n C [(2, .long v26), (0, .ref (ad 72)), (1, .int a1)] dX5_storm_15 rfl (by decide) rfl 16 rfl ?_
  refine ww_iconst C (0 : Int32) dX5_storm_16 (by decide) 17 rfl ?_
  refine ww_istore C [(4, .int (0 : Int32)), (2, .long v26), (0, .ref (ad 72)), (1, .int a1)] dX5_storm_17 (by decide) rfl 19 rfl ?_
  exact ww_sub [2, 3, 1, 0] rfl (L19h N _ _ _ h)

set_option maxRecDepth 100000 in
set_option maxHeartbeats 4000000 in
theorem k_X5_drawn {l : Launch} {D : va_G} {ad : Nat → Nat} {cA : Nat → ClassId} {tys : List (ClassId × FieldType)} {n : Nat} {sa : Nat → Nat} (hn : 73 ≤ n) {N : Nat} {g : Mem} {a1 : Int32} {a2 : Int32} {r : Int32} {g1 : Mem} (h : X5_drawn N a1 a2 g = some (r, g1)) : CTi l yX5_drawn (wsm yX5_drawn cX5_drawn 3 (some .int)) 7 D YI ad cA tys n sa g [.ref (ad 72), .int a1, .int a2] r g1 := by
  refine ct_of RX5 rfl (by decide +kernel) (Nat.le_of_ble_eq_true rfl) rfl (fun sz => PBi D YI ad cA n r g1 sz) ?_
  intro p e R s m args below meth c C hr
  rw [X5_drawn] at h
  refine ww_iload_n C 1 dX5_drawn_0 rfl rfl 1 rfl ?_
  refine ww_ldcw C (99999 : Int32) w_741 dX5_drawn_1 4 rfl ?_
  refine ww_callSi C (As := [.int a1, .int (99999 : Int32)]) (st := []) h (fun _ _ hF => k_X5_isWithin hn hF) w_411 cm_X5_isWithin (by decide) (by decide) rfl rfl (Nat.le_of_ble_eq_true rfl) dX5_drawn_4 7 rfl (fun v12 u11 h => ?_)
  refine ww_if_eq C 18 dX5_drawn_7 (by decide) h 10 rfl (fun h => ?_) (fun h => ?_)
  · refine ww_sipush C (-1000 : Int32) dX5_drawn_18 (by decide) 21 rfl ?_
    exact ww_iret C dX5_drawn_21 hr h
  · refine ww_iload_n C 2 dX5_drawn_10 rfl rfl 11 rfl ?_
    refine ww_iconst C (1 : Int32) dX5_drawn_11 (by decide) 12 rfl ?_
    refine ww_callSi C (As := [.int a2, .int (1 : Int32)]) (st := []) h (fun _ _ hF => k_X5_isWithin hn hF) w_411 cm_X5_isWithin (by decide) (by decide) rfl rfl (Nat.le_of_ble_eq_true rfl) dX5_drawn_12 15 rfl (fun v14 u13 h => ?_)
    refine ww_if_ne C 22 dX5_drawn_15 (by decide) h 18 rfl (fun h => ?_) (fun h => ?_)
    · refine ww_aload_n C 0 dX5_drawn_22 rfl rfl 23 rfl ?_
      refine ww_iload_n C 1 dX5_drawn_23 rfl rfl 24 rfl ?_
      refine ww_callVv C (As := [.int a1]) (st := []) h cl_X5.1 (obX hn) (fun _ _ hF => k_X5_storm hn hF) w_742 cm_X5_storm (by decide) (by decide) rfl rfl (Nat.le_of_ble_eq_true rfl) dX5_drawn_24 27 rfl (fun _ u15 h => ?_)
      refine ww_iload_n C 2 dX5_drawn_27 rfl rfl 28 rfl ?_
      refine ww_if_ne C 41 dX5_drawn_28 (by decide) h 31 rfl (fun h => ?_) (fun h => ?_)
      · refine ww_aload_n C 0 dX5_drawn_41 rfl rfl 42 rfl ?_
        refine ww_getS C cl_X5 (obX hn) 5 (by decide) rfl 52 rfl w_370 dX5_drawn_42 45 rfl ?_
        refine ww_callVi C (As := []) (st := []) h cl_X1.1 (obScene (by decide) hn) (fun _ _ hF => k_X1_fair hn (by decide) hF) w_645 cm_X1_fair (by decide) (by decide) rfl rfl (Nat.le_of_ble_eq_true rfl) dX5_drawn_45 48 rfl (fun v18 u17 h => ?_)
        exact ww_iret C dX5_drawn_48 hr h
      · refine ww_aload_n C 0 dX5_drawn_31 rfl rfl 32 rfl ?_
        refine ww_getS C cl_X5 (obX hn) 5 (by decide) rfl 52 rfl w_370 dX5_drawn_32 35 rfl ?_
        refine ww_callVi C (As := []) (st := []) h cl_X1.1 (obScene (by decide) hn) (fun _ _ hF => k_X1_mainSort hn (by decide) hF) w_574 cm_X1_mainSort (by decide) (by decide) rfl rfl (Nat.le_of_ble_eq_true rfl) dX5_drawn_35 38 rfl (fun v20 u19 h => ?_)
        refine ww_goto C 48 dX5_drawn_38 (by decide) ?_
        exact ww_iret C dX5_drawn_48 hr h
    · refine ww_sipush C (-1000 : Int32) dX5_drawn_18 (by decide) 21 rfl ?_
      exact ww_iret C dX5_drawn_21 hr h

set_option maxRecDepth 100000 in
set_option maxHeartbeats 4000000 in
theorem k_X5_odds {l : Launch} {D : va_G} {ad : Nat → Nat} {cA : Nat → ClassId} {tys : List (ClassId × FieldType)} {n : Nat} {sa : Nat → Nat} (hn : 73 ≤ n) {N : Nat} {g : Mem} {a1 : Int32} {a2 : Int32} {a3 : Int32} {a4 : Int32} {r : Int64} {g1 : Mem} (h : X5_odds N a1 a2 a3 a4 g = some (r, g1)) : CTl l yX5_odds (wsm yX5_odds cX5_odds 7 (some .long)) 7 D YI ad cA tys n sa g [.ref (ad 72), .int a1, .int a2, .int a3, .int a4] r g1 := by
  refine ct_of RX5 rfl (by decide +kernel) (Nat.le_of_ble_eq_true rfl) rfl (fun sz => PBl D YI ad cA n r g1 sz) ?_
  intro p e R s m args below meth c C hr
  have L51h : ∀ (fu : Nat), (∀ (x5 : Int32) (x6 : Int32) (g : Mem), X5_odds_L51 N a1 a2 a3 a4 fu x5 x6 g = some (r, g1) → WW p l e R s m args below meth c 7 D YI ad cA n (MQ below (PBl D YI ad cA n r g1 s.heap.size) args s 0 0 (AA n ad s.heap.size)) g 51 [(0, .ref (ad 72)), (1, .int a1), (2, .int a2), (3, .int a3), (4, .int a4), (5, .int x5), (6, .int x6)] []) := by
    intro fu
    induction fu with
    | zero => intro x5 x6 g h; cases h
    | succ fu ih =>
      intro x5 x6 g h
      rw [X5_odds_L51] at h
      refine ww_iload C 6 dX5_odds_51 rfl 53 rfl ?_
      refine ww_iload_n C 2 dX5_odds_53 rfl rfl 54 rfl ?_
      refine ww_icmp_ge C 85 dX5_odds_54 (by decide) h 57 rfl (fun h => ?_) (fun h => ?_)
      · refine ww_iload C 5 dX5_odds_85 rfl 87 rfl ?_
        refine ww_iload_n C 2 dX5_odds_87 rfl rfl 88 rfl ?_
        refine ww_iload C 4 dX5_odds_88 rfl 90 rfl ?_
        refine ww_callSl C (As := [.int x5, .int a2, .int a4]) (st := []) h (fun _ _ hF => k_X5_lowest hn hF) w_670 cm_X5_lowest (by decide) (by decide) rfl rfl (Nat.le_of_ble_eq_true rfl) dX5_odds_90 93 rfl (fun v17 u16 h => ?_)
        exact ww_lret C dX5_odds_93 hr h
      · refine ww_aload_n C 0 dX5_odds_57 rfl rfl 58 rfl ?_
        refine ww_iload_n C 1 dX5_odds_58 rfl rfl 59 rfl ?_
        refine ww_iload C 6 dX5_odds_59 rfl 61 rfl ?_
        refine ww_iadd C dX5_odds_61 62 rfl ?_
        refine ww_callVv C (As := [.int (a1 + x6)]) (st := []) h cl_X5.1 (obX hn) (fun _ _ hF => k_X5_storm hn hF) w_742 cm_X5_storm (by decide) (by decide) rfl rfl (Nat.le_of_ble_eq_true rfl) dX5_odds_62 65 rfl (fun _ u18 h => ?_)
        refine ww_aload_n C 0 dX5_odds_65 rfl rfl 66 rfl ?_
        refine ww_getS C cl_X5 (obX hn) 5 (by decide) rfl 52 rfl w_370 dX5_odds_66 69 rfl ?_
        refine ww_callVi C (As := []) (st := []) h cl_X1.1 (obScene (by decide) hn) (fun _ _ hF => k_X1_mainSort hn (by decide) hF) w_574 cm_X1_mainSort (by decide) (by decide) rfl rfl (Nat.le_of_ble_eq_true rfl) dX5_odds_69 72 rfl (fun v21 u20 h => ?_)
        refine ww_iload_n C 3 dX5_odds_72 rfl rfl 73 rfl ?_
        refine ww_icmp_ne C 79 dX5_odds_73 (by decide) h 76 rfl (fun h => ?_) (fun h => ?_)
        · refine ww_iinc C 6 (1 : Int32) (by decide) (fun v22 => [(6, .int v22), (0, .ref (ad 72)), (1, .int a1), (2, .int a2), (3, .int a3), (4, .int a4), (5, .int x5)]) dX5_odds_79 rfl (by decide) (fun _ => rfl) h 82 rfl (fun v22 h => ?_)
          refine ww_goto C 51 dX5_odds_82 (by decide) ?_
          exact ww_sub [1, 2, 3, 4, 5, 6, 0] rfl (ih _ _ _ h)
        · refine ww_iinc C 5 (1 : Int32) (by decide) (fun v23 => [(5, .int v23), (0, .ref (ad 72)), (1, .int a1), (2, .int a2), (3, .int a3), (4, .int a4), (6, .int x6)]) dX5_odds_76 rfl (by decide) (fun _ => rfl) h 79 rfl (fun v23 h => ?_)
          refine ww_iinc C 6 (1 : Int32) (by decide) (fun v24 => [(6, .int v24), (5, .int v23), (0, .ref (ad 72)), (1, .int a1), (2, .int a2), (3, .int a3), (4, .int a4)]) dX5_odds_79 rfl (by decide) (fun _ => rfl) h 82 rfl (fun v24 h => ?_)
          refine ww_goto C 51 dX5_odds_82 (by decide) ?_
          exact ww_sub [2, 3, 4, 5, 6, 1, 0] rfl (ih _ _ _ h)
  rw [X5_odds] at h
  refine ww_iload_n C 1 dX5_odds_0 rfl rfl 1 rfl ?_
  refine ww_ldcw C (99999 : Int32) w_741 dX5_odds_1 4 rfl ?_
  refine ww_callSi C (As := [.int a1, .int (99999 : Int32)]) (st := []) h (fun _ _ hF => k_X5_isWithin hn hF) w_411 cm_X5_isWithin (by decide) (by decide) rfl rfl (Nat.le_of_ble_eq_true rfl) dX5_odds_4 7 rfl (fun v26 u25 h => ?_)
  refine ww_if_eq C 21 dX5_odds_7 (by decide) h 10 rfl (fun h => ?_) (fun h => ?_)
  · refine ww_ldc2 C (-4611686018427387904 : Int64) w_669 dX5_odds_21 24 rfl ?_
    exact ww_lret C dX5_odds_24 hr h
  · refine ww_iload_n C 2 dX5_odds_10 rfl rfl 11 rfl ?_
    refine ww_iconst C (1 : Int32) dX5_odds_11 (by decide) 12 rfl ?_
    refine ww_icmp_lt C 21 dX5_odds_12 (by decide) h 15 rfl (fun h => ?_) (fun h => ?_)
    · refine ww_ldc2 C (-4611686018427387904 : Int64) w_669 dX5_odds_21 24 rfl ?_
      exact ww_lret C dX5_odds_24 hr h
    · refine ww_iload_n C 2 dX5_odds_15 rfl rfl 16 rfl ?_
      refine ww_bipush C (40 : Int32) dX5_odds_16 (by decide) 18 rfl ?_
      refine ww_icmp_le C 25 dX5_odds_18 (by decide) h 21 rfl (fun h => ?_) (fun h => ?_)
      · refine ww_iload_n C 3 dX5_odds_25 rfl rfl 26 rfl ?_
        refine ww_callSi C (As := [.int a3]) (st := []) h (fun _ _ hF => k_X5_isSort hn hF) w_432 cm_X5_isSort (by decide) (by decide) rfl rfl (Nat.le_of_ble_eq_true rfl) dX5_odds_26 29 rfl (fun v28 u27 h => ?_)
        refine ww_if_eq C 41 dX5_odds_29 (by decide) h 32 rfl (fun h => ?_) (fun h => ?_)
        · refine ww_ldc2 C (-4611686018427387904 : Int64) w_669 dX5_odds_41 44 rfl ?_
          exact ww_lret C dX5_odds_44 hr h
        · refine ww_iload C 4 dX5_odds_32 rfl 34 rfl ?_
          refine ww_iconst C (1 : Int32) dX5_odds_34 (by decide) 35 rfl ?_
          refine ww_callSi C (As := [.int a4, .int (1 : Int32)]) (st := []) h (fun _ _ hF => k_X5_isWithin hn hF) w_411 cm_X5_isWithin (by decide) (by decide) rfl rfl (Nat.le_of_ble_eq_true rfl) dX5_odds_35 38 rfl (fun v30 u29 h => ?_)
          refine ww_if_ne C 45 dX5_odds_38 (by decide) h 41 rfl (fun h => ?_) (fun h => ?_)
          · refine ww_iconst C (0 : Int32) dX5_odds_45 (by decide) 46 rfl ?_
            refine ww_istore C [(5, .int (0 : Int32)), (0, .ref (ad 72)), (1, .int a1), (2, .int a2), (3, .int a3), (4, .int a4)] dX5_odds_46 (by decide) rfl 48 rfl ?_
            refine ww_iconst C (0 : Int32) dX5_odds_48 (by decide) 49 rfl ?_
            refine ww_istore C [(6, .int (0 : Int32)), (5, .int (0 : Int32)), (0, .ref (ad 72)), (1, .int a1), (2, .int a2), (3, .int a3), (4, .int a4)] dX5_odds_49 (by decide) rfl 51 rfl ?_
            exact ww_sub [2, 3, 4, 5, 6, 1, 0] rfl (L51h N _ _ _ h)
          · refine ww_ldc2 C (-4611686018427387904 : Int64) w_669 dX5_odds_41 44 rfl ?_
            exact ww_lret C dX5_odds_44 hr h
      · refine ww_ldc2 C (-4611686018427387904 : Int64) w_669 dX5_odds_21 24 rfl ?_
        exact ww_lret C dX5_odds_24 hr h

set_option maxRecDepth 100000 in
set_option maxHeartbeats 4000000 in
theorem k_X5_image {l : Launch} {D : va_G} {ad : Nat → Nat} {cA : Nat → ClassId} {tys : List (ClassId × FieldType)} {n : Nat} {sa : Nat → Nat} (hn : 73 ≤ n) {N : Nat} {g : Mem} {r : Int32} {g1 : Mem} (h : X5_image N g = some (r, g1)) : CTi l yX5_image (wsm yX5_image cX5_image 1 (some .int)) 3 D YI ad cA tys n sa g [.ref (ad 72)] r g1 := by
  refine ct_of RX5 rfl (by decide +kernel) (Nat.le_of_ble_eq_true rfl) rfl (fun sz => PBi D YI ad cA n r g1 sz) ?_
  intro p e R s m args below meth c C hr
  rw [X5_image] at h
  refine ww_aload_n C 0 dX5_image_0 rfl rfl 1 rfl ?_
  refine ww_getS C cl_X5 (obX hn) 6 (by decide) rfl 62 rfl w_371 dX5_image_1 4 rfl ?_
  refine ww_aload_n C 0 dX5_image_4 rfl rfl 5 rfl ?_
  refine ww_getS C cl_X5 (obX hn) 4 (by decide) rfl 42 rfl w_369 dX5_image_5 8 rfl ?_
  refine ww_callVv C (As := [.ref (ad 42)]) (st := []) h cl_X1.1 (obScene (by decide) hn) (fun _ _ hF => k_X1_becomes hn (by decide) (by decide) hF) w_596 cm_X1_becomes (by decide) (by decide) rfl rfl (Nat.le_of_ble_eq_true rfl) dX5_image_8 11 rfl (fun _ u4 h => ?_)
  refine ww_aload_n C 0 dX5_image_11 rfl rfl 12 rfl ?_
  refine ww_iconst C (1 : Int32) dX5_image_12 (by decide) 13 rfl ?_
  refine ww_putI C cl_X5 (obX hn) 7 (by decide) rfl tyX5 tyX5_ok nmX5 rfl rfl rfl w_372 dX5_image_13 h 16 rfl (fun u6 h => ?_)
  refine ww_aload_n C 0 dX5_image_16 rfl rfl 17 rfl ?_
  refine ww_getS C cl_X5 (obX hn) 6 (by decide) rfl 62 rfl w_371 dX5_image_17 20 rfl ?_
  refine ww_getI C cl_X1 (obScene (by decide) hn) 9 (by decide) rfl w_333 dX5_image_20 23 rfl ?_
  exact ww_iret C dX5_image_23 hr h

set_option maxRecDepth 100000 in
set_option maxHeartbeats 4000000 in
theorem k_X5_back {l : Launch} {D : va_G} {ad : Nat → Nat} {cA : Nat → ClassId} {tys : List (ClassId × FieldType)} {n : Nat} {sa : Nat → Nat} (hn : 73 ≤ n) {N : Nat} {g : Mem} {r : Int32} {g1 : Mem} (h : X5_back N g = some (r, g1)) : CTi l yX5_back (wsm yX5_back cX5_back 1 (some .int)) 3 D YI ad cA tys n sa g [.ref (ad 72)] r g1 := by
  refine ct_of RX5 rfl (by decide +kernel) (Nat.le_of_ble_eq_true rfl) rfl (fun sz => PBi D YI ad cA n r g1 sz) ?_
  intro p e R s m args below meth c C hr
  rw [X5_back] at h
  refine ww_aload_n C 0 dX5_back_0 rfl rfl 1 rfl ?_
  refine ww_getI C cl_X5 (obX hn) 7 (by decide) rfl w_372 dX5_back_1 4 rfl ?_
  refine ww_if_ne C 10 dX5_back_4 (by decide) h 7 rfl (fun h => ?_) (fun h => ?_)
  · refine ww_aload_n C 0 dX5_back_10 rfl rfl 11 rfl ?_
    refine ww_getS C cl_X5 (obX hn) 4 (by decide) rfl 42 rfl w_369 dX5_back_11 14 rfl ?_
    refine ww_aload_n C 0 dX5_back_14 rfl rfl 15 rfl ?_
    refine ww_getS C cl_X5 (obX hn) 6 (by decide) rfl 62 rfl w_371 dX5_back_15 18 rfl ?_
    refine ww_callVv C (As := [.ref (ad 62)]) (st := []) h cl_X1.1 (obScene (by decide) hn) (fun _ _ hF => k_X1_becomes hn (by decide) (by decide) hF) w_596 cm_X1_becomes (by decide) (by decide) rfl rfl (Nat.le_of_ble_eq_true rfl) dX5_back_18 21 rfl (fun _ u3 h => ?_)
    refine ww_aload_n C 0 dX5_back_21 rfl rfl 22 rfl ?_
    refine ww_getS C cl_X5 (obX hn) 4 (by decide) rfl 42 rfl w_369 dX5_back_22 25 rfl ?_
    refine ww_getI C cl_X1 (obScene (by decide) hn) 9 (by decide) rfl w_333 dX5_back_25 28 rfl ?_
    exact ww_iret C dX5_back_28 hr h
  · refine ww_bipush C (-3 : Int32) dX5_back_7 (by decide) 9 rfl ?_
    exact ww_iret C dX5_back_9 hr h

set_option maxRecDepth 100000 in
set_option maxHeartbeats 4000000 in
theorem k_X5_sheet {l : Launch} {D : va_G} {ad : Nat → Nat} {cA : Nat → ClassId} {tys : List (ClassId × FieldType)} {n : Nat} {sa : Nat → Nat} (hn : 73 ≤ n) {N : Nat} {g : Mem} {a1 : Int32} {a2 : Int32} {a3 : Int32} {r : Int32} {g1 : Mem} (h : X5_sheet N a1 a2 a3 g = some (r, g1)) : CTi l yX5_sheet (wsm yX5_sheet cX5_sheet 4 (some .int)) 3 D YI ad cA tys n sa g [.ref (ad 72), .int a1, .int a2, .int a3] r g1 := by
  refine ct_of RX5 rfl (by decide +kernel) (Nat.le_of_ble_eq_true rfl) rfl (fun sz => PBi D YI ad cA n r g1 sz) ?_
  intro p e R s m args below meth c C hr
  rw [X5_sheet] at h
  refine ww_iload_n C 1 dX5_sheet_0 rfl rfl 1 rfl ?_
  refine ww_callSi C (As := [.int a1]) (st := []) h (fun _ _ hF => k_X5_isSheet hn hF) w_619 cm_X5_isSheet (by decide) (by decide) rfl rfl (Nat.le_of_ble_eq_true rfl) dX5_sheet_1 4 rfl (fun v10 u9 h => ?_)
  refine ww_if_eq C 17 dX5_sheet_4 (by decide) h 7 rfl (fun h => ?_) (fun h => ?_)
  · refine ww_bipush C (-2 : Int32) dX5_sheet_17 (by decide) 19 rfl ?_
    exact ww_iret C dX5_sheet_19 hr h
  · refine ww_iload_n C 2 dX5_sheet_7 rfl rfl 8 rfl ?_
    refine ww_iconst C (-1 : Int32) dX5_sheet_8 (by decide) 9 rfl ?_
    refine ww_icmp_lt C 17 dX5_sheet_9 (by decide) h 12 rfl (fun h => ?_) (fun h => ?_)
    · refine ww_bipush C (-2 : Int32) dX5_sheet_17 (by decide) 19 rfl ?_
      exact ww_iret C dX5_sheet_19 hr h
    · refine ww_iload_n C 2 dX5_sheet_12 rfl rfl 13 rfl ?_
      refine ww_iconst C (2 : Int32) dX5_sheet_13 (by decide) 14 rfl ?_
      refine ww_icmp_le C 20 dX5_sheet_14 (by decide) h 17 rfl (fun h => ?_) (fun h => ?_)
      · refine ww_iload_n C 2 dX5_sheet_20 rfl rfl 21 rfl ?_
        refine ww_iconst C (-1 : Int32) dX5_sheet_21 (by decide) 22 rfl ?_
        refine ww_icmp_ne C 38 dX5_sheet_22 (by decide) h 25 rfl (fun h => ?_) (fun h => ?_)
        · refine ww_iload_n C 3 dX5_sheet_38 rfl rfl 39 rfl ?_
          refine ww_bipush C (40 : Int32) dX5_sheet_39 (by decide) 41 rfl ?_
          refine ww_icmp_le C 47 dX5_sheet_41 (by decide) h 44 rfl (fun h => ?_) (fun h => ?_)
          · refine ww_iload_n C 3 dX5_sheet_47 rfl rfl 48 rfl ?_
            refine ww_if_ge C 54 dX5_sheet_48 (by decide) h 51 rfl (fun h => ?_) (fun h => ?_)
            · refine ww_aload_n C 0 dX5_sheet_54 rfl rfl 55 rfl ?_
              refine ww_getS C cl_X5 (obX hn) 3 (by decide) rfl 3 rfl w_368 dX5_sheet_55 58 rfl ?_
              refine ww_iload_n C 1 dX5_sheet_58 rfl rfl 59 rfl ?_
              refine ww_aald C (q := 3) (L := 4) (by omega) rfl rfl dX5_sheet_59 h (34 + 2 * (a1).toNatClampNeg) rfl 60 rfl (fun hv11 h => ?_)
              refine ww_iload_n C 2 dX5_sheet_60 rfl rfl 61 rfl ?_
              refine ww_iload_n C 3 dX5_sheet_61 rfl rfl 62 rfl ?_
              refine ww_callVv C (As := [.int a2, .int a3]) (st := []) h cl_X2.1 (obSheet (isSheet_at hv11) (Nat.le_trans (by decide) hn)) (fun _ _ hF => k_X2_becomes hn (isSheet_at hv11) hF) w_705 cm_X2_becomes (by decide) (by decide) rfl rfl (Nat.le_of_ble_eq_true rfl) dX5_sheet_62 65 rfl (fun _ u12 h => ?_)
              refine ww_iconst C (1 : Int32) dX5_sheet_65 (by decide) 66 rfl ?_
              exact ww_iret C dX5_sheet_66 hr h
            · refine ww_bipush C (-14 : Int32) dX5_sheet_51 (by decide) 53 rfl ?_
              exact ww_iret C dX5_sheet_53 hr h
          · refine ww_bipush C (-2 : Int32) dX5_sheet_44 (by decide) 46 rfl ?_
            exact ww_iret C dX5_sheet_46 hr h
        · refine ww_aload_n C 0 dX5_sheet_25 rfl rfl 26 rfl ?_
          refine ww_getS C cl_X5 (obX hn) 3 (by decide) rfl 3 rfl w_368 dX5_sheet_26 29 rfl ?_
          refine ww_iload_n C 1 dX5_sheet_29 rfl rfl 30 rfl ?_
          refine ww_aald C (q := 3) (L := 4) (by omega) rfl rfl dX5_sheet_30 h (34 + 2 * (a1).toNatClampNeg) rfl 31 rfl (fun hv14 h => ?_)
          refine ww_iconst C (-1 : Int32) dX5_sheet_31 (by decide) 32 rfl ?_
          refine ww_iconst C (0 : Int32) dX5_sheet_32 (by decide) 33 rfl ?_
          refine ww_callVv C (As := [.int (-1 : Int32), .int (0 : Int32)]) (st := []) h cl_X2.1 (obSheet (isSheet_at hv14) (Nat.le_trans (by decide) hn)) (fun _ _ hF => k_X2_becomes hn (isSheet_at hv14) hF) w_705 cm_X2_becomes (by decide) (by decide) rfl rfl (Nat.le_of_ble_eq_true rfl) dX5_sheet_33 36 rfl (fun _ u15 h => ?_)
          refine ww_iconst C (1 : Int32) dX5_sheet_36 (by decide) 37 rfl ?_
          exact ww_iret C dX5_sheet_37 hr h
      · refine ww_bipush C (-2 : Int32) dX5_sheet_17 (by decide) 19 rfl ?_
        exact ww_iret C dX5_sheet_19 hr h

set_option maxRecDepth 100000 in
set_option maxHeartbeats 4000000 in
theorem k_X5_cell {l : Launch} {D : va_G} {ad : Nat → Nat} {cA : Nat → ClassId} {tys : List (ClassId × FieldType)} {n : Nat} {sa : Nat → Nat} (hn : 73 ≤ n) {N : Nat} {g : Mem} {a1 : Int32} {a2 : Int32} {a3 : Int32} {r : Int32} {g1 : Mem} (h : X5_cell N a1 a2 a3 g = some (r, g1)) : CTi l yX5_cell (wsm yX5_cell cX5_cell 5 (some .int)) 4 D YI ad cA tys n sa g [.ref (ad 72), .int a1, .int a2, .int a3] r g1 := by
  refine ct_of RX5 rfl (by decide +kernel) (Nat.le_of_ble_eq_true rfl) rfl (fun sz => PBi D YI ad cA n r g1 sz) ?_
  intro p e R s m args below meth c C hr
  rw [X5_cell] at h
  refine ww_aload_n C 0 dX5_cell_0 rfl rfl 1 rfl ?_
  refine ww_iload_n C 1 dX5_cell_1 rfl rfl 2 rfl ?_
  refine ww_bipush C (40 : Int32) dX5_cell_2 (by decide) 4 rfl ?_
  refine ww_callVi C (As := [.int a1, .int (40 : Int32)]) (st := []) h cl_X5.1 (obX hn) (fun _ _ hF => k_X5_refusalOfSheet hn hF) w_615 cm_X5_refusalOfSheet (by decide) (by decide) rfl rfl (Nat.le_of_ble_eq_true rfl) dX5_cell_4 7 rfl (fun v7 u6 h => ?_)
  refine ww_istore C [(4, .int v7), (0, .ref (ad 72)), (1, .int a1), (2, .int a2), (3, .int a3)] dX5_cell_7 (by decide) rfl 9 rfl ?_
  refine ww_iload C 0 dX5_cell_9 rfl 11 rfl ?_
  refine ww_if_eq C 17 dX5_cell_11 (by decide) h 14 rfl (fun h => ?_) (fun h => ?_)
  · refine ww_aload_n C 1 dX5_cell_17 rfl rfl 18 rfl ?_
    refine ww_getS C cl_X5 (obX hn) 3 (by decide) rfl 3 rfl w_368 dX5_cell_18 21 rfl ?_
    refine ww_iload_n C 2 dX5_cell_21 rfl rfl 22 rfl ?_
    refine ww_aald C (q := 3) (L := 4) (by omega) rfl rfl dX5_cell_22 h (34 + 2 * (a1).toNatClampNeg) rfl 23 rfl (fun hv8 h => ?_)
    refine ww_iload_n C 3 dX5_cell_23 rfl rfl 24 rfl ?_
    refine ww_iload_n C 4 dX5_cell_24 rfl rfl 25 rfl ?_
    refine ww_callVi C (As := [.int a2, .int a3]) (st := []) h cl_X2.1 (obSheet (isSheet_at hv8) (Nat.le_trans (by decide) hn)) (fun _ _ hF => k_X2_set hn (isSheet_at hv8) hF) w_713 cm_X2_set (by decide) (by decide) rfl rfl (Nat.le_of_ble_eq_true rfl) dX5_cell_25 28 rfl (fun v10 u9 h => ?_)
    refine ww_if_eq C 35 dX5_cell_28 (by decide) h 31 rfl (fun h => ?_) (fun h => ?_)
    · refine ww_bipush C (-12 : Int32) dX5_cell_35 (by decide) 37 rfl ?_
      exact ww_iret C dX5_cell_37 hr h
    · refine ww_iconst C (1 : Int32) dX5_cell_31 (by decide) 32 rfl ?_
      refine ww_goto C 37 dX5_cell_32 (by decide) ?_
      exact ww_iret C dX5_cell_37 hr h
  · refine ww_iload C 0 dX5_cell_14 rfl 16 rfl ?_
    exact ww_iret C dX5_cell_16 hr h

set_option maxRecDepth 100000 in
set_option maxHeartbeats 4000000 in
theorem k_X5_copy {l : Launch} {D : va_G} {ad : Nat → Nat} {cA : Nat → ClassId} {tys : List (ClassId × FieldType)} {n : Nat} {sa : Nat → Nat} (hn : 73 ≤ n) {N : Nat} {g : Mem} {a1 : Int32} {a2 : Int32} {a3 : Int32} {a4 : Int32} {a5 : Int32} {r : Int32} {g1 : Mem} (h : X5_copy N a1 a2 a3 a4 a5 g = some (r, g1)) : CTi l yX5_copy (wsm yX5_copy cX5_copy 8 (some .int)) 3 D YI ad cA tys n sa g [.ref (ad 72), .int a1, .int a2, .int a3, .int a4, .int a5] r g1 := by
  refine ct_of RX5 rfl (by decide +kernel) (Nat.le_of_ble_eq_true rfl) rfl (fun sz => PBi D YI ad cA n r g1 sz) ?_
  intro p e R s m args below meth c C hr
  rw [X5_copy] at h
  refine ww_iload_n C 1 dX5_copy_0 rfl rfl 1 rfl ?_
  refine ww_callSi C (As := [.int a1]) (st := []) h (fun _ _ hF => k_X5_isSheet hn hF) w_619 cm_X5_isSheet (by decide) (by decide) rfl rfl (Nat.le_of_ble_eq_true rfl) dX5_copy_1 4 rfl (fun v13 u12 h => ?_)
  refine ww_if_eq C 14 dX5_copy_4 (by decide) h 7 rfl (fun h => ?_) (fun h => ?_)
  · refine ww_bipush C (-2 : Int32) dX5_copy_14 (by decide) 16 rfl ?_
    exact ww_iret C dX5_copy_16 hr h
  · refine ww_iload_n C 3 dX5_copy_7 rfl rfl 8 rfl ?_
    refine ww_callSi C (As := [.int a3]) (st := []) h (fun _ _ hF => k_X5_isSheet hn hF) w_619 cm_X5_isSheet (by decide) (by decide) rfl rfl (Nat.le_of_ble_eq_true rfl) dX5_copy_8 11 rfl (fun v15 u14 h => ?_)
    refine ww_if_ne C 17 dX5_copy_11 (by decide) h 14 rfl (fun h => ?_) (fun h => ?_)
    · refine ww_aload_n C 0 dX5_copy_17 rfl rfl 18 rfl ?_
      refine ww_getS C cl_X5 (obX hn) 3 (by decide) rfl 3 rfl w_368 dX5_copy_18 21 rfl ?_
      refine ww_iload_n C 1 dX5_copy_21 rfl rfl 22 rfl ?_
      refine ww_aald C (q := 3) (L := 4) (by omega) rfl rfl dX5_copy_22 h (34 + 2 * (a1).toNatClampNeg) rfl 23 rfl (fun hv16 h => ?_)
      refine ww_astore C [(6, .ref (ad (34 + 2 * (a1).toNatClampNeg))), (0, .ref (ad 72)), (1, .int a1), (2, .int a2), (3, .int a3), (4, .int a4), (5, .int a5)] dX5_copy_23 (by decide) rfl 25 rfl ?_
      refine ww_aload_n C 1 dX5_copy_25 rfl rfl 26 rfl ?_
      refine ww_getS C cl_X5 (obX hn) 3 (by decide) rfl 3 rfl w_368 dX5_copy_26 29 rfl ?_
      refine ww_iload_n C 4 dX5_copy_29 rfl rfl 30 rfl ?_
      refine ww_aald C (q := 3) (L := 4) (by omega) rfl rfl dX5_copy_30 h (34 + 2 * (a3).toNatClampNeg) rfl 31 rfl (fun hv17 h => ?_)
      refine ww_astore C [(7, .ref (ad (34 + 2 * (a3).toNatClampNeg))), (6, .ref (ad (34 + 2 * (a1).toNatClampNeg))), (0, .ref (ad 72)), (1, .int a1), (2, .int a2), (3, .int a3), (4, .int a4), (5, .int a5)] dX5_copy_31 (by decide) rfl 33 rfl ?_
      refine ww_aload C 1 dX5_copy_33 rfl 35 rfl ?_
      refine ww_getI C cl_X2 (obSheet (isSheet_at hv16) (Nat.le_trans (by decide) hn)) 1 (by decide) rfl w_151 dX5_copy_35 38 rfl ?_
      refine ww_iconst C (-1 : Int32) dX5_copy_38 (by decide) 39 rfl ?_
      refine ww_icmp_eq C 51 dX5_copy_39 (by decide) h 42 rfl (fun h => ?_) (fun h => ?_)
      · refine ww_bipush C (-11 : Int32) dX5_copy_51 (by decide) 53 rfl ?_
        exact ww_iret C dX5_copy_53 hr h
      · refine ww_aload C 0 dX5_copy_42 rfl 44 rfl ?_
        refine ww_getI C cl_X2 (obSheet (isSheet_at hv17) (Nat.le_trans (by decide) hn)) 1 (by decide) rfl w_151 dX5_copy_44 47 rfl ?_
        refine ww_iconst C (-1 : Int32) dX5_copy_47 (by decide) 48 rfl ?_
        refine ww_icmp_ne C 54 dX5_copy_48 (by decide) h 51 rfl (fun h => ?_) (fun h => ?_)
        · refine ww_aload C 1 dX5_copy_54 rfl 56 rfl ?_
          refine ww_getI C cl_X2 (obSheet (isSheet_at hv16) (Nat.le_trans (by decide) hn)) 1 (by decide) rfl w_151 dX5_copy_56 59 rfl ?_
          refine ww_aload C 0 dX5_copy_59 rfl 61 rfl ?_
          refine ww_getI C cl_X2 (obSheet (isSheet_at hv17) (Nat.le_trans (by decide) hn)) 1 (by decide) rfl w_151 dX5_copy_61 64 rfl ?_
          refine ww_icmp_eq C 70 dX5_copy_64 (by decide) h 67 rfl (fun h => ?_) (fun h => ?_)
          · refine ww_aload C 1 dX5_copy_70 rfl 72 rfl ?_
            refine ww_iload_n C 4 dX5_copy_72 rfl rfl 73 rfl ?_
            refine ww_iload C 7 dX5_copy_73 rfl 75 rfl ?_
            refine ww_callVi C (As := [.int a2, .int a5]) (st := []) h cl_X2.1 (obSheet (isSheet_at hv16) (Nat.le_trans (by decide) hn)) (fun _ _ hF => k_X2_holds hn (isSheet_at hv16) hF) w_778 cm_X2_holds (by decide) (by decide) rfl rfl (Nat.le_of_ble_eq_true rfl) dX5_copy_75 78 rfl (fun v19 u18 h => ?_)
            refine ww_if_eq C 93 dX5_copy_78 (by decide) h 81 rfl (fun h => ?_) (fun h => ?_)
            · refine ww_bipush C (-12 : Int32) dX5_copy_93 (by decide) 95 rfl ?_
              exact ww_iret C dX5_copy_95 hr h
            · refine ww_aload C 0 dX5_copy_81 rfl 83 rfl ?_
              refine ww_iload C 6 dX5_copy_83 rfl 85 rfl ?_
              refine ww_iload C 7 dX5_copy_85 rfl 87 rfl ?_
              refine ww_callVi C (As := [.int a4, .int a5]) (st := []) h cl_X2.1 (obSheet (isSheet_at hv17) (Nat.le_trans (by decide) hn)) (fun _ _ hF => k_X2_holds hn (isSheet_at hv17) hF) w_778 cm_X2_holds (by decide) (by decide) rfl rfl (Nat.le_of_ble_eq_true rfl) dX5_copy_87 90 rfl (fun v21 u20 h => ?_)
              refine ww_if_ne C 96 dX5_copy_90 (by decide) h 93 rfl (fun h => ?_) (fun h => ?_)
              · refine ww_aload C 1 dX5_copy_96 rfl 98 rfl ?_
                refine ww_getS C cl_X2 (obSheet (isSheet_at hv16) (Nat.le_trans (by decide) hn)) 0 (by decide) rfl ((34 + 2 * (a1).toNatClampNeg) + 1) (so_sheet (isSheet_at hv16)) w_149 dX5_copy_98 101 rfl ?_
                refine ww_iload_n C 4 dX5_copy_101 rfl rfl 102 rfl ?_
                refine ww_aload C 0 dX5_copy_102 rfl 104 rfl ?_
                refine ww_getS C cl_X2 (obSheet (isSheet_at hv17) (Nat.le_trans (by decide) hn)) 0 (by decide) rfl ((34 + 2 * (a3).toNatClampNeg) + 1) (so_sheet (isSheet_at hv17)) w_149 dX5_copy_104 107 rfl ?_
                refine ww_iload C 6 dX5_copy_107 rfl 109 rfl ?_
                refine ww_iload C 7 dX5_copy_109 rfl 111 rfl ?_
                refine ww_copy C (iaSheet (q := (34 + 2 * (a1).toNatClampNeg)) (isSheet_at hv16) (Nat.le_trans (by decide) hn)) (iaSheet (q := (34 + 2 * (a3).toNatClampNeg)) (isSheet_at hv17) (Nat.le_trans (by decide) hn)) w_779 wm_copy (by decide) (Nat.le_of_ble_eq_true rfl) dX5_copy_111 h 114 rfl (fun u22 h => ?_)
                refine ww_iload C 7 dX5_copy_114 rfl 116 rfl ?_
                exact ww_iret C dX5_copy_116 hr h
              · refine ww_bipush C (-12 : Int32) dX5_copy_93 (by decide) 95 rfl ?_
                exact ww_iret C dX5_copy_95 hr h
          · refine ww_bipush C (-13 : Int32) dX5_copy_67 (by decide) 69 rfl ?_
            exact ww_iret C dX5_copy_69 hr h
        · refine ww_bipush C (-11 : Int32) dX5_copy_51 (by decide) 53 rfl ?_
          exact ww_iret C dX5_copy_53 hr h
    · refine ww_bipush C (-2 : Int32) dX5_copy_14 (by decide) 16 rfl ?_
      exact ww_iret C dX5_copy_16 hr h

set_option maxRecDepth 100000 in
set_option maxHeartbeats 4000000 in
theorem k_X5_diversBy {l : Launch} {D : va_G} {ad : Nat → Nat} {cA : Nat → ClassId} {tys : List (ClassId × FieldType)} {n : Nat} {sa : Nat → Nat} (hn : 73 ≤ n) {N : Nat} {g : Mem} {a1 : Int32} {a2 : Int32} {a3 : Int32} {a4 : Int32} {r : Int32} {g1 : Mem} (h : X5_diversBy N a1 a2 a3 a4 g = some (r, g1)) : CTi l yX5_diversBy (wsm yX5_diversBy cX5_diversBy 9 (some .int)) 3 D YI ad cA tys n sa g [.ref (ad 72), .int a1, .int a2, .int a3, .int a4] r g1 := by
  refine ct_of RX5 rfl (by decide +kernel) (Nat.le_of_ble_eq_true rfl) rfl (fun sz => PBi D YI ad cA n r g1 sz) ?_
  intro p e R s m args below meth c C hr
  have L69h : ∀ (fu : Nat), (∀ (x5o : Nat) (x6 : Int32) (x7 : Int32) (x8 : Int32) (g : Mem) (hx5o : isSheet x5o), X5_diversBy_L69 N a1 a2 a3 a4 fu x5o x6 x7 x8 g = some (r, g1) → WW p l e R s m args below meth c 9 D YI ad cA n (MQ below (PBi D YI ad cA n r g1 s.heap.size) args s 0 0 (AA n ad s.heap.size)) g 69 [(0, .ref (ad 72)), (1, .int a1), (2, .int a2), (3, .int a3), (4, .int a4), (5, .ref (ad x5o)), (6, .int x6), (7, .int x7), (8, .int x8)] []) := by
    intro fu
    induction fu with
    | zero => intro x5o x6 x7 x8 g hx5o h; cases h
    | succ fu ih =>
      intro x5o x6 x7 x8 g hx5o h
      rw [X5_diversBy_L69] at h
      refine ww_iload C 8 dX5_diversBy_69 rfl 71 rfl ?_
      refine ww_iload C 4 dX5_diversBy_71 rfl 73 rfl ?_
      refine ww_icmp_ge C 127 dX5_diversBy_73 (by decide) h 76 rfl (fun h => ?_) (fun h => ?_)
      · refine ww_iload C 6 dX5_diversBy_127 rfl 129 rfl ?_
        exact ww_iret C dX5_diversBy_129 hr h
      · refine ww_aload C 5 dX5_diversBy_76 rfl 78 rfl ?_
        refine ww_iload C 7 dX5_diversBy_78 rfl 80 rfl ?_
        refine ww_iconst C (2 : Int32) dX5_diversBy_80 (by decide) 81 rfl ?_
        refine ww_callVi C (As := [.int x7, .int (2 : Int32)]) (st := []) h cl_X2.1 (obSheet hx5o (Nat.le_trans (by decide) hn)) (fun _ _ hF => k_X2_holds hn hx5o hF) w_778 cm_X2_holds (by decide) (by decide) rfl rfl (Nat.le_of_ble_eq_true rfl) dX5_diversBy_81 84 rfl (fun v18 u17 h => ?_)
        refine ww_if_ne C 90 dX5_diversBy_84 (by decide) h 87 rfl (fun h => ?_) (fun h => ?_)
        · refine ww_aload_n C 0 dX5_diversBy_90 rfl rfl 91 rfl ?_
          refine ww_aload C 5 dX5_diversBy_91 rfl 93 rfl ?_
          refine ww_getS C cl_X2 (obSheet hx5o (Nat.le_trans (by decide) hn)) 0 (by decide) rfl (x5o + 1) (so_sheet hx5o) w_149 dX5_diversBy_93 96 rfl ?_
          refine ww_iload C 7 dX5_diversBy_96 rfl 98 rfl ?_
          refine ww_iald C (iaSheet (q := x5o) hx5o (Nat.le_trans (by decide) hn)) dX5_diversBy_98 h 99 rfl (fun h => ?_)
          refine ww_aload C 5 dX5_diversBy_99 rfl 101 rfl ?_
          refine ww_getS C cl_X2 (obSheet hx5o (Nat.le_trans (by decide) hn)) 0 (by decide) rfl (x5o + 1) (so_sheet hx5o) w_149 dX5_diversBy_101 104 rfl ?_
          refine ww_iload C 7 dX5_diversBy_104 rfl 106 rfl ?_
          refine ww_iconst C (1 : Int32) dX5_diversBy_106 (by decide) 107 rfl ?_
          refine ww_iadd C dX5_diversBy_107 108 rfl ?_
          refine ww_iald C (iaSheet (q := x5o) hx5o (Nat.le_trans (by decide) hn)) dX5_diversBy_108 h 109 rfl (fun h => ?_)
          refine ww_callVi C (As := [.int (u17.1 (x5o + 1) (x7).toNatClampNeg), .int (u17.1 (x5o + 1) (x7 + (1 : Int32)).toNatClampNeg)]) (st := []) h cl_X5.1 (obX hn) (fun _ _ hF => k_X5_diver hn hF) w_784 cm_X5_diver (by decide) (by decide) rfl rfl (Nat.le_of_ble_eq_true rfl) dX5_diversBy_109 112 rfl (fun v20 u19 h => ?_)
          refine ww_if_lt C 118 dX5_diversBy_112 (by decide) h 115 rfl (fun h => ?_) (fun h => ?_)
          · refine ww_iinc C 7 (2 : Int32) (by decide) (fun v21 => [(7, .int v21), (0, .ref (ad 72)), (1, .int a1), (2, .int a2), (3, .int a3), (4, .int a4), (5, .ref (ad x5o)), (6, .int x6), (8, .int x8)]) dX5_diversBy_118 rfl (by decide) (fun _ => rfl) h 121 rfl (fun v21 h => ?_)
            refine ww_iinc C 8 (1 : Int32) (by decide) (fun v22 => [(8, .int v22), (7, .int v21), (0, .ref (ad 72)), (1, .int a1), (2, .int a2), (3, .int a3), (4, .int a4), (5, .ref (ad x5o)), (6, .int x6)]) dX5_diversBy_121 rfl (by decide) (fun _ => rfl) h 124 rfl (fun v22 h => ?_)
            refine ww_goto C 69 dX5_diversBy_124 (by decide) ?_
            exact ww_sub [2, 3, 4, 5, 6, 7, 8, 1, 0] rfl (ih _ _ _ _ _ hx5o h)
          · refine ww_iinc C 6 (1 : Int32) (by decide) (fun v23 => [(6, .int v23), (0, .ref (ad 72)), (1, .int a1), (2, .int a2), (3, .int a3), (4, .int a4), (5, .ref (ad x5o)), (7, .int x7), (8, .int x8)]) dX5_diversBy_115 rfl (by decide) (fun _ => rfl) h 118 rfl (fun v23 h => ?_)
            refine ww_iinc C 7 (2 : Int32) (by decide) (fun v24 => [(7, .int v24), (6, .int v23), (0, .ref (ad 72)), (1, .int a1), (2, .int a2), (3, .int a3), (4, .int a4), (5, .ref (ad x5o)), (8, .int x8)]) dX5_diversBy_118 rfl (by decide) (fun _ => rfl) h 121 rfl (fun v24 h => ?_)
            refine ww_iinc C 8 (1 : Int32) (by decide) (fun v25 => [(8, .int v25), (7, .int v24), (6, .int v23), (0, .ref (ad 72)), (1, .int a1), (2, .int a2), (3, .int a3), (4, .int a4), (5, .ref (ad x5o))]) dX5_diversBy_121 rfl (by decide) (fun _ => rfl) h 124 rfl (fun v25 h => ?_)
            refine ww_goto C 69 dX5_diversBy_124 (by decide) ?_
            exact ww_sub [3, 4, 5, 6, 7, 8, 2, 1, 0] rfl (ih _ _ _ _ _ hx5o h)
        · refine ww_bipush C (-12 : Int32) dX5_diversBy_87 (by decide) 89 rfl ?_
          exact ww_iret C dX5_diversBy_89 hr h
  rw [X5_diversBy] at h
  refine ww_iload_n C 1 dX5_diversBy_0 rfl rfl 1 rfl ?_
  refine ww_callSi C (As := [.int a1]) (st := []) h (fun _ _ hF => k_X5_isSheet hn hF) w_619 cm_X5_isSheet (by decide) (by decide) rfl rfl (Nat.le_of_ble_eq_true rfl) dX5_diversBy_1 4 rfl (fun v27 u26 h => ?_)
  refine ww_if_eq C 25 dX5_diversBy_4 (by decide) h 7 rfl (fun h => ?_) (fun h => ?_)
  · refine ww_bipush C (-2 : Int32) dX5_diversBy_25 (by decide) 27 rfl ?_
    exact ww_iret C dX5_diversBy_27 hr h
  · refine ww_iload_n C 2 dX5_diversBy_7 rfl rfl 8 rfl ?_
    refine ww_iconst C (2 : Int32) dX5_diversBy_8 (by decide) 9 rfl ?_
    refine ww_callSi C (As := [.int a2, .int (2 : Int32)]) (st := []) h (fun _ _ hF => k_X5_isWithin hn hF) w_411 cm_X5_isWithin (by decide) (by decide) rfl rfl (Nat.le_of_ble_eq_true rfl) dX5_diversBy_9 12 rfl (fun v29 u28 h => ?_)
    refine ww_if_eq C 25 dX5_diversBy_12 (by decide) h 15 rfl (fun h => ?_) (fun h => ?_)
    · refine ww_bipush C (-2 : Int32) dX5_diversBy_25 (by decide) 27 rfl ?_
      exact ww_iret C dX5_diversBy_27 hr h
    · refine ww_iload C 4 dX5_diversBy_15 rfl 17 rfl ?_
      refine ww_bipush C (6 : Int32) dX5_diversBy_17 (by decide) 19 rfl ?_
      refine ww_callSi C (As := [.int a4, .int (6 : Int32)]) (st := []) h (fun _ _ hF => k_X5_isWithin hn hF) w_411 cm_X5_isWithin (by decide) (by decide) rfl rfl (Nat.le_of_ble_eq_true rfl) dX5_diversBy_19 22 rfl (fun v31 u30 h => ?_)
      refine ww_if_ne C 28 dX5_diversBy_22 (by decide) h 25 rfl (fun h => ?_) (fun h => ?_)
      · refine ww_aload_n C 0 dX5_diversBy_28 rfl rfl 29 rfl ?_
        refine ww_getS C cl_X5 (obX hn) 3 (by decide) rfl 3 rfl w_368 dX5_diversBy_29 32 rfl ?_
        refine ww_iload_n C 1 dX5_diversBy_32 rfl rfl 33 rfl ?_
        refine ww_aald C (q := 3) (L := 4) (by omega) rfl rfl dX5_diversBy_33 h (34 + 2 * (a1).toNatClampNeg) rfl 34 rfl (fun hv32 h => ?_)
        refine ww_astore C [(5, .ref (ad (34 + 2 * (a1).toNatClampNeg))), (0, .ref (ad 72)), (1, .int a1), (2, .int a2), (3, .int a3), (4, .int a4)] dX5_diversBy_34 (by decide) rfl 36 rfl ?_
        refine ww_aload C 0 dX5_diversBy_36 rfl 38 rfl ?_
        refine ww_getI C cl_X2 (obSheet (isSheet_at hv32) (Nat.le_trans (by decide) hn)) 1 (by decide) rfl w_151 dX5_diversBy_38 41 rfl ?_
        refine ww_iconst C (-1 : Int32) dX5_diversBy_41 (by decide) 42 rfl ?_
        refine ww_icmp_ne C 48 dX5_diversBy_42 (by decide) h 45 rfl (fun h => ?_) (fun h => ?_)
        · refine ww_aload C 0 dX5_diversBy_48 rfl 50 rfl ?_
          refine ww_getI C cl_X2 (obSheet (isSheet_at hv32) (Nat.le_trans (by decide) hn)) 1 (by decide) rfl w_151 dX5_diversBy_50 53 rfl ?_
          refine ww_iload_n C 3 dX5_diversBy_53 rfl rfl 54 rfl ?_
          refine ww_icmp_eq C 60 dX5_diversBy_54 (by decide) h 57 rfl (fun h => ?_) (fun h => ?_)
          · refine ww_iconst C (0 : Int32) dX5_diversBy_60 (by decide) 61 rfl ?_
            refine ww_istore C [(6, .int (0 : Int32)), (5, .ref (ad (34 + 2 * (a1).toNatClampNeg))), (0, .ref (ad 72)), (1, .int a1), (2, .int a2), (3, .int a3), (4, .int a4)] dX5_diversBy_61 (by decide) rfl 63 rfl ?_
            refine ww_iload_n C 5 dX5_diversBy_63 rfl rfl 64 rfl ?_
            refine ww_istore C [(7, .int a3), (6, .int (0 : Int32)), (5, .ref (ad (34 + 2 * (a1).toNatClampNeg))), (0, .ref (ad 72)), (1, .int a1), (2, .int a2), (3, .int a3), (4, .int a4)] dX5_diversBy_64 (by decide) rfl 66 rfl ?_
            refine ww_iconst C (0 : Int32) dX5_diversBy_66 (by decide) 67 rfl ?_
            refine ww_istore C [(8, .int (0 : Int32)), (7, .int a3), (6, .int (0 : Int32)), (5, .ref (ad (34 + 2 * (a1).toNatClampNeg))), (0, .ref (ad 72)), (1, .int a1), (2, .int a2), (3, .int a3), (4, .int a4)] dX5_diversBy_67 (by decide) rfl 69 rfl ?_
            exact ww_sub [4, 5, 6, 7, 8, 3, 2, 1, 0] rfl (L69h N _ _ _ _ _ (isSheet_at hv32) h)
          · refine ww_bipush C (-13 : Int32) dX5_diversBy_57 (by decide) 59 rfl ?_
            exact ww_iret C dX5_diversBy_59 hr h
        · refine ww_bipush C (-11 : Int32) dX5_diversBy_45 (by decide) 47 rfl ?_
          exact ww_iret C dX5_diversBy_47 hr h
      · refine ww_bipush C (-2 : Int32) dX5_diversBy_25 (by decide) 27 rfl ?_
        exact ww_iret C dX5_diversBy_27 hr h

set_option maxRecDepth 100000 in
set_option maxHeartbeats 4000000 in
theorem k_X5_taken {l : Launch} {D : va_G} {ad : Nat → Nat} {cA : Nat → ClassId} {tys : List (ClassId × FieldType)} {n : Nat} {sa : Nat → Nat} (hn : 73 ≤ n) {N : Nat} {g : Mem} {a1 : Int32} {a2 : Int32} {r : Int32} {g1 : Mem} (h : X5_taken N a1 a2 g = some (r, g1)) : CTi l yX5_taken (wsm yX5_taken cX5_taken 5 (some .int)) 3 D YI ad cA tys n sa g [.ref (ad 72), .int a1, .int a2] r g1 := by
  refine ct_of RX5 rfl (by decide +kernel) (Nat.le_of_ble_eq_true rfl) rfl (fun sz => PBi D YI ad cA n r g1 sz) ?_
  intro p e R s m args below meth c C hr
  rw [X5_taken] at h
  refine ww_iload_n C 2 dX5_taken_0 rfl rfl 1 rfl ?_
  refine ww_bipush C (6 : Int32) dX5_taken_1 (by decide) 3 rfl ?_
  refine ww_callSi C (As := [.int a2, .int (6 : Int32)]) (st := []) h (fun _ _ hF => k_X5_isWithin hn hF) w_411 cm_X5_isWithin (by decide) (by decide) rfl rfl (Nat.le_of_ble_eq_true rfl) dX5_taken_3 6 rfl (fun v16 u15 h => ?_)
  refine ww_if_ne C 12 dX5_taken_6 (by decide) h 9 rfl (fun h => ?_) (fun h => ?_)
  · refine ww_iload_n C 1 dX5_taken_12 rfl rfl 13 rfl ?_
    refine ww_bipush C (17 : Int32) dX5_taken_13 (by decide) 15 rfl ?_
    refine ww_callSi C (As := [.int a1, .int (17 : Int32)]) (st := []) h (fun _ _ hF => k_X5_isWithin hn hF) w_411 cm_X5_isWithin (by decide) (by decide) rfl rfl (Nat.le_of_ble_eq_true rfl) dX5_taken_15 18 rfl (fun v18 u17 h => ?_)
    refine ww_if_ne C 24 dX5_taken_18 (by decide) h 21 rfl (fun h => ?_) (fun h => ?_)
    · refine ww_iload_n C 2 dX5_taken_24 rfl rfl 25 rfl ?_
      refine ww_bipush C (6 : Int32) dX5_taken_25 (by decide) 27 rfl ?_
      refine ww_icmp_ne C 34 dX5_taken_27 (by decide) h 30 rfl (fun h => ?_) (fun h => ?_)
      · refine ww_iconst C (0 : Int32) dX5_taken_34 (by decide) 35 rfl ?_
        refine ww_istore_n C [(3, .int (0 : Int32)), (0, .ref (ad 72)), (1, .int a1), (2, .int a2)] dX5_taken_35 rfl (by decide) rfl 36 rfl ?_
        refine ww_iload_n C 2 dX5_taken_36 rfl rfl 37 rfl ?_
        refine ww_bipush C (6 : Int32) dX5_taken_37 (by decide) 39 rfl ?_
        refine ww_icmp_ge C 80 dX5_taken_39 (by decide) h 42 rfl (fun h => ?_) (fun h => ?_)
        · refine ww_iload_n C 2 dX5_taken_80 rfl rfl 81 rfl ?_
          refine ww_bipush C (6 : Int32) dX5_taken_81 (by decide) 83 rfl ?_
          refine ww_isub C dX5_taken_83 84 rfl ?_
          refine ww_bi h (fun v19 h => ?_)
          refine ww_istore C [(4, .int v19), (3, .int (0 : Int32)), (0, .ref (ad 72)), (1, .int a1), (2, .int a2)] dX5_taken_84 (by decide) rfl 86 rfl ?_
          refine ww_aload_n C 2 dX5_taken_86 rfl rfl 87 rfl ?_
          refine ww_getS C cl_X5 (obX hn) 4 (by decide) rfl 42 rfl w_369 dX5_taken_87 90 rfl ?_
          refine ww_getS C cl_X1 (obScene (by decide) hn) 4 (by decide) rfl 47 rfl w_324 dX5_taken_90 93 rfl ?_
          refine ww_iload C 0 dX5_taken_93 rfl 95 rfl ?_
          refine ww_iald C (iaScene (q := 42) (by decide) hn 5 12 (by decide)) dX5_taken_95 h 96 rfl (fun h => ?_)
          refine ww_iconst C (2 : Int32) dX5_taken_96 (by decide) 97 rfl ?_
          refine ww_icmp_ne C 103 dX5_taken_97 (by decide) h 100 rfl (fun h => ?_) (fun h => ?_)
          · refine ww_iload_n C 1 dX5_taken_103 rfl rfl 104 rfl ?_
            refine ww_if_eq C 120 dX5_taken_104 (by decide) h 107 rfl (fun h => ?_) (fun h => ?_)
            · refine ww_bipush C (-13 : Int32) dX5_taken_120 (by decide) 122 rfl ?_
              exact ww_iret C dX5_taken_122 hr h
            · refine ww_aload_n C 2 dX5_taken_107 rfl rfl 108 rfl ?_
              refine ww_getS C cl_X5 (obX hn) 4 (by decide) rfl 42 rfl w_369 dX5_taken_108 111 rfl ?_
              refine ww_getS C cl_X1 (obScene (by decide) hn) 2 (by decide) rfl 45 rfl w_320 dX5_taken_111 114 rfl ?_
              refine ww_iload C 0 dX5_taken_114 rfl 116 rfl ?_
              refine ww_iald C (iaScene (q := 42) (by decide) hn 3 12 (by decide)) dX5_taken_116 h 117 rfl (fun h => ?_)
              refine ww_goto C 122 dX5_taken_117 (by decide) ?_
              exact ww_iret C dX5_taken_122 hr h
          · refine ww_bipush C (-11 : Int32) dX5_taken_100 (by decide) 102 rfl ?_
            exact ww_iret C dX5_taken_102 hr h
        · refine ww_aload_n C 1 dX5_taken_42 rfl rfl 43 rfl ?_
          refine ww_iload_n C 2 dX5_taken_43 rfl rfl 44 rfl ?_
          refine ww_callVi C (As := [.int a1]) (st := []) h cl_X5.1 (obX hn) (fun _ _ hF => k_X5_isDiver hn hF) w_476 cm_X5_isDiver (by decide) (by decide) rfl rfl (Nat.le_of_ble_eq_true rfl) dX5_taken_44 47 rfl (fun v21 u20 h => ?_)
          refine ww_if_ne C 53 dX5_taken_47 (by decide) h 50 rfl (fun h => ?_) (fun h => ?_)
          · refine ww_iload_n C 0 dX5_taken_53 rfl rfl 54 rfl ?_
            refine ww_if_ne C 77 dX5_taken_54 (by decide) h 57 rfl (fun h => ?_) (fun h => ?_)
            · refine ww_bipush C (-13 : Int32) dX5_taken_77 (by decide) 79 rfl ?_
              exact ww_iret C dX5_taken_79 hr h
            · refine ww_aload_n C 1 dX5_taken_57 rfl rfl 58 rfl ?_
              refine ww_getS C cl_X5 (obX hn) 4 (by decide) rfl 42 rfl w_369 dX5_taken_58 61 rfl ?_
              refine ww_getS C cl_X1 (obScene (by decide) hn) 5 (by decide) rfl 48 rfl w_326 dX5_taken_61 64 rfl ?_
              refine ww_iload_n C 2 dX5_taken_64 rfl rfl 65 rfl ?_
              refine ww_iald C (iaScene (q := 42) (by decide) hn 6 6 (by decide)) dX5_taken_65 h 66 rfl (fun h => ?_)
              refine ww_iload_n C 3 dX5_taken_66 rfl rfl 67 rfl ?_
              refine ww_callSi C (As := [.int (u20.1 48 (a1).toNatClampNeg), .int a2]) (st := []) h (fun _ _ hF => k_X0_isOf hn hF) w_789 cm_X0_isOf (by decide) (by decide) rfl rfl (Nat.le_of_ble_eq_true rfl) dX5_taken_67 70 rfl (fun v23 u22 h => ?_)
              refine ww_if_eq C 77 dX5_taken_70 (by decide) h 73 rfl (fun h => ?_) (fun h => ?_)
              · refine ww_bipush C (-13 : Int32) dX5_taken_77 (by decide) 79 rfl ?_
                exact ww_iret C dX5_taken_79 hr h
              · refine ww_iload_n C 2 dX5_taken_73 rfl rfl 74 rfl ?_
                refine ww_goto C 79 dX5_taken_74 (by decide) ?_
                exact ww_iret C dX5_taken_79 hr h
          · refine ww_bipush C (-11 : Int32) dX5_taken_50 (by decide) 52 rfl ?_
            exact ww_iret C dX5_taken_52 hr h
      · refine ww_iconst C (1 : Int32) dX5_taken_30 (by decide) 31 rfl ?_
        refine ww_goto C 35 dX5_taken_31 (by decide) ?_
        refine ww_istore_n C [(3, .int (1 : Int32)), (0, .ref (ad 72)), (1, .int a1), (2, .int a2)] dX5_taken_35 rfl (by decide) rfl 36 rfl ?_
        refine ww_iload_n C 2 dX5_taken_36 rfl rfl 37 rfl ?_
        refine ww_bipush C (6 : Int32) dX5_taken_37 (by decide) 39 rfl ?_
        refine ww_icmp_ge C 80 dX5_taken_39 (by decide) h 42 rfl (fun h => ?_) (fun h => ?_)
        · refine ww_iload_n C 2 dX5_taken_80 rfl rfl 81 rfl ?_
          refine ww_bipush C (6 : Int32) dX5_taken_81 (by decide) 83 rfl ?_
          refine ww_isub C dX5_taken_83 84 rfl ?_
          refine ww_bi h (fun v24 h => ?_)
          refine ww_istore C [(4, .int v24), (3, .int (1 : Int32)), (0, .ref (ad 72)), (1, .int a1), (2, .int a2)] dX5_taken_84 (by decide) rfl 86 rfl ?_
          refine ww_aload_n C 2 dX5_taken_86 rfl rfl 87 rfl ?_
          refine ww_getS C cl_X5 (obX hn) 4 (by decide) rfl 42 rfl w_369 dX5_taken_87 90 rfl ?_
          refine ww_getS C cl_X1 (obScene (by decide) hn) 4 (by decide) rfl 47 rfl w_324 dX5_taken_90 93 rfl ?_
          refine ww_iload C 0 dX5_taken_93 rfl 95 rfl ?_
          refine ww_iald C (iaScene (q := 42) (by decide) hn 5 12 (by decide)) dX5_taken_95 h 96 rfl (fun h => ?_)
          refine ww_iconst C (2 : Int32) dX5_taken_96 (by decide) 97 rfl ?_
          refine ww_icmp_ne C 103 dX5_taken_97 (by decide) h 100 rfl (fun h => ?_) (fun h => ?_)
          · refine ww_iload_n C 1 dX5_taken_103 rfl rfl 104 rfl ?_
            refine ww_if_eq C 120 dX5_taken_104 (by decide) h 107 rfl (fun h => ?_) (fun h => ?_)
            · refine ww_bipush C (-13 : Int32) dX5_taken_120 (by decide) 122 rfl ?_
              exact ww_iret C dX5_taken_122 hr h
            · refine ww_aload_n C 2 dX5_taken_107 rfl rfl 108 rfl ?_
              refine ww_getS C cl_X5 (obX hn) 4 (by decide) rfl 42 rfl w_369 dX5_taken_108 111 rfl ?_
              refine ww_getS C cl_X1 (obScene (by decide) hn) 2 (by decide) rfl 45 rfl w_320 dX5_taken_111 114 rfl ?_
              refine ww_iload C 0 dX5_taken_114 rfl 116 rfl ?_
              refine ww_iald C (iaScene (q := 42) (by decide) hn 3 12 (by decide)) dX5_taken_116 h 117 rfl (fun h => ?_)
              refine ww_goto C 122 dX5_taken_117 (by decide) ?_
              exact ww_iret C dX5_taken_122 hr h
          · refine ww_bipush C (-11 : Int32) dX5_taken_100 (by decide) 102 rfl ?_
            exact ww_iret C dX5_taken_102 hr h
        · refine ww_aload_n C 1 dX5_taken_42 rfl rfl 43 rfl ?_
          refine ww_iload_n C 2 dX5_taken_43 rfl rfl 44 rfl ?_
          refine ww_callVi C (As := [.int a1]) (st := []) h cl_X5.1 (obX hn) (fun _ _ hF => k_X5_isDiver hn hF) w_476 cm_X5_isDiver (by decide) (by decide) rfl rfl (Nat.le_of_ble_eq_true rfl) dX5_taken_44 47 rfl (fun v26 u25 h => ?_)
          refine ww_if_ne C 53 dX5_taken_47 (by decide) h 50 rfl (fun h => ?_) (fun h => ?_)
          · refine ww_iload_n C 0 dX5_taken_53 rfl rfl 54 rfl ?_
            refine ww_if_ne C 77 dX5_taken_54 (by decide) h 57 rfl (fun h => ?_) (fun h => ?_)
            · refine ww_bipush C (-13 : Int32) dX5_taken_77 (by decide) 79 rfl ?_
              exact ww_iret C dX5_taken_79 hr h
            · refine ww_aload_n C 1 dX5_taken_57 rfl rfl 58 rfl ?_
              refine ww_getS C cl_X5 (obX hn) 4 (by decide) rfl 42 rfl w_369 dX5_taken_58 61 rfl ?_
              refine ww_getS C cl_X1 (obScene (by decide) hn) 5 (by decide) rfl 48 rfl w_326 dX5_taken_61 64 rfl ?_
              refine ww_iload_n C 2 dX5_taken_64 rfl rfl 65 rfl ?_
              refine ww_iald C (iaScene (q := 42) (by decide) hn 6 6 (by decide)) dX5_taken_65 h 66 rfl (fun h => ?_)
              refine ww_iload_n C 3 dX5_taken_66 rfl rfl 67 rfl ?_
              refine ww_callSi C (As := [.int (u25.1 48 (a1).toNatClampNeg), .int a2]) (st := []) h (fun _ _ hF => k_X0_isOf hn hF) w_789 cm_X0_isOf (by decide) (by decide) rfl rfl (Nat.le_of_ble_eq_true rfl) dX5_taken_67 70 rfl (fun v28 u27 h => ?_)
              refine ww_if_eq C 77 dX5_taken_70 (by decide) h 73 rfl (fun h => ?_) (fun h => ?_)
              · refine ww_bipush C (-13 : Int32) dX5_taken_77 (by decide) 79 rfl ?_
                exact ww_iret C dX5_taken_79 hr h
              · refine ww_iload_n C 2 dX5_taken_73 rfl rfl 74 rfl ?_
                refine ww_goto C 79 dX5_taken_74 (by decide) ?_
                exact ww_iret C dX5_taken_79 hr h
          · refine ww_bipush C (-11 : Int32) dX5_taken_50 (by decide) 52 rfl ?_
            exact ww_iret C dX5_taken_52 hr h
    · refine ww_bipush C (-12 : Int32) dX5_taken_21 (by decide) 23 rfl ?_
      exact ww_iret C dX5_taken_23 hr h
  · refine ww_bipush C (-2 : Int32) dX5_taken_9 (by decide) 11 rfl ?_
    exact ww_iret C dX5_taken_11 hr h

