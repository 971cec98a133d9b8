set_option maxRecDepth 100000 in
set_option maxHeartbeats 4000000 in
theorem k_X5_count {l : Launch} {D : va_G} {ad : Nat → Nat} {cA : Nat → ClassId} {tys : List (ClassId × FieldType)} {n : Nat} {sa : SA} (hn : 73 ≤ n) {N : Nat} {g : Mem} {a1 : Int32} {r : Int32} {g1 : Mem} (h : X5_count N a1 g = some (r, g1)) : CTi l yX5_count (wsm yX5_count cX5_count 2 (some .int)) 2 D YI ad cA tys n sa g [.ref (ad 72), .int a1] r g1 := by
  refine ct_of RX5 rfl (by decide +kernel) (Nat.le_of_ble_eq_true rfl) rfl (fun sz => PBi D YI ad cA n r g1 sz) ?_
  intro p e R s m args below meth c C hr
  rw [X5_count] at h
  refine ww_iload_n C 1 dX5_count_0 rfl rfl 1 rfl ?_
  refine sw_1 h (fun e24 h => ?_) (fun n25 h => ?_)
  · refine ww_tin C (v := (0 : Int32)) e24 44 dX5_count_1 (by decide) (by decide) rfl (by decide) ?_
    refine ww_aload_n C 0 dX5_count_44 rfl rfl 45 rfl ?_
    refine ww_getS C cl_X5 (obX hn) 4 (by decide) rfl 42 rfl w_533 dX5_count_45 48 rfl ?_
    refine ww_getI C cl_X1 (obScene (by decide) hn) 9 (by decide) rfl w_497 dX5_count_48 51 rfl ?_
    exact ww_iret C dX5_count_51 hr h
  refine sw_1 h (fun e26 h => ?_) (fun n27 h => ?_)
  · refine ww_tin C (v := (1 : Int32)) e26 52 dX5_count_1 (by decide) (by decide) rfl (by decide) ?_
    refine ww_aload_n C 0 dX5_count_52 rfl rfl 53 rfl ?_
    refine ww_getS C cl_X5 (obX hn) 4 (by decide) rfl 42 rfl w_533 dX5_count_53 56 rfl ?_
    refine ww_iconst C (0 : Int32) dX5_count_56 (by decide) 57 rfl ?_
    refine ww_callVi C (As := [.int (0 : Int32)]) (st := []) h cl_X1.1 (obScene (by decide) hn) (fun _ _ hF => k_X1_casksAt hn (by decide) hF) w_217 cm_X1_casksAt (by decide) (by decide) rfl rfl (Nat.le_of_ble_eq_true rfl) dX5_count_57 60 rfl (fun v29 u28 h => ?_)
    refine ww_callSi C (As := [.int v29]) (st := []) h (fun _ _ hF => k_J6_bitCount_0f7a4 hn hF) w_236 cm_J6_bitCount_0f7a4 (by decide) (by decide) rfl rfl (Nat.le_of_ble_eq_true rfl) dX5_count_60 63 rfl (fun v31 u30 h => ?_)
    exact ww_iret C dX5_count_63 hr h
  refine sw_1 h (fun e32 h => ?_) (fun n33 h => ?_)
  · refine ww_tin C (v := (2 : Int32)) e32 64 dX5_count_1 (by decide) (by decide) rfl (by decide) ?_
    refine ww_aload_n C 0 dX5_count_64 rfl rfl 65 rfl ?_
    refine ww_getS C cl_X5 (obX hn) 4 (by decide) rfl 42 rfl w_533 dX5_count_65 68 rfl ?_
    refine ww_iconst C (1 : Int32) dX5_count_68 (by decide) 69 rfl ?_
    refine ww_callVi C (As := [.int (1 : Int32)]) (st := []) h cl_X1.1 (obScene (by decide) hn) (fun _ _ hF => k_X1_casksAt hn (by decide) hF) w_217 cm_X1_casksAt (by decide) (by decide) rfl rfl (Nat.le_of_ble_eq_true rfl) dX5_count_69 72 rfl (fun v35 u34 h => ?_)
    refine ww_callSi C (As := [.int v35]) (st := []) h (fun _ _ hF => k_J6_bitCount_0f7a4 hn hF) w_236 cm_J6_bitCount_0f7a4 (by decide) (by decide) rfl rfl (Nat.le_of_ble_eq_true rfl) dX5_count_72 75 rfl (fun v37 u36 h => ?_)
    exact ww_iret C dX5_count_75 hr h
  refine sw_1 h (fun e38 h => ?_) (fun n39 h => ?_)
  · refine ww_tin C (v := (3 : Int32)) e38 76 dX5_count_1 (by decide) (by decide) rfl (by decide) ?_
    refine ww_aload_n C 0 dX5_count_76 rfl rfl 77 rfl ?_
    refine ww_getS C cl_X5 (obX hn) 4 (by decide) rfl 42 rfl w_533 dX5_count_77 80 rfl ?_
    refine ww_getI C cl_X1 (obScene (by decide) hn) 10 (by decide) rfl w_499 dX5_count_80 83 rfl ?_
    exact ww_iret C dX5_count_83 hr h
  refine sw_1 h (fun e40 h => ?_) (fun n41 h => ?_)
  · refine ww_tin C (v := (4 : Int32)) e40 84 dX5_count_1 (by decide) (by decide) rfl (by decide) ?_
    refine ww_aload_n C 0 dX5_count_84 rfl rfl 85 rfl ?_
    refine ww_getI C cl_X5 (obX hn) 2 (by decide) rfl w_531 dX5_count_85 88 rfl ?_
    exact ww_iret C dX5_count_88 hr h
  refine sw_1 h (fun e42 h => ?_) (fun n43 h => ?_)
  · refine ww_tin C (v := (5 : Int32)) e42 89 dX5_count_1 (by decide) (by decide) rfl (by decide) ?_
    refine ww_aload_n C 0 dX5_count_89 rfl rfl 90 rfl ?_
    refine ww_getS C cl_X5 (obX hn) 4 (by decide) rfl 42 rfl w_533 dX5_count_90 93 rfl ?_
    refine ww_getM C cl_X1 (obScene (by decide) hn) 11 (by decide) rfl w_502 dX5_count_93 h 96 rfl (fun t44 ht44 h => ?_)
    refine ww_getI C cl_X4 (obText ht44 (Nat.le_trans (by decide) hn)) 0 (by decide) rfl w_295 dX5_count_96 99 rfl ?_
    exact ww_iret C dX5_count_99 hr h
  refine sw_1 h (fun e45 h => ?_) (fun n46 h => ?_)
  · refine ww_tin C (v := (6 : Int32)) e45 100 dX5_count_1 (by decide) (by decide) rfl (by decide) ?_
    refine ww_aload_n C 0 dX5_count_100 rfl rfl 101 rfl ?_
    refine ww_getS C cl_X5 (obX hn) 0 (by decide) rfl 0 rfl w_529 dX5_count_101 104 rfl ?_
    refine ww_getI C cl_X3 (obTape (Nat.le_trans (by decide) hn)) 1 (by decide) rfl w_263 dX5_count_104 107 rfl ?_
    exact ww_iret C dX5_count_107 hr h
  refine ww_tout C 108 dX5_count_1 (by have q0 := sw_ne (z := 0) n25 rfl; have q1 := sw_ne (z := 1) n27 rfl; have q2 := sw_ne (z := 2) n33 rfl; have q3 := sw_ne (z := 3) n39 rfl; have q4 := sw_ne (z := 4) n41 rfl; have q5 := sw_ne (z := 5) n43 rfl; have q6 := sw_ne (z := 6) n46 rfl; omega) (by decide) ?_
  refine ww_bipush C (-2 : Int32) dX5_count_108 (by decide) 110 rfl ?_
  exact ww_iret C dX5_count_110 hr h

set_option maxRecDepth 100000 in
set_option maxHeartbeats 4000000 in
theorem k_X5_cask {l : Launch} {D : va_G} {ad : Nat → Nat} {cA : Nat → ClassId} {tys : List (ClassId × FieldType)} {n : Nat} {sa : SA} (hn : 73 ≤ n) {N : Nat} {g : Mem} {a1 : Int32} {a2 : Int32} {a3 : Int32} {r : Int32} {g1 : Mem} (h : X5_cask N a1 a2 a3 g = some (r, g1)) : CTi l yX5_cask (wsm yX5_cask cX5_cask 6 (some .int)) 3 D YI ad cA tys n sa g [.ref (ad 72), .int a1, .int a2, .int a3] r g1 := by
  refine ct_of RX5 rfl (by decide +kernel) (Nat.le_of_ble_eq_true rfl) rfl (fun sz => PBi D YI ad cA n r g1 sz) ?_
  intro p e R s m args below meth c C hr
  rw [X5_cask] at h
  refine ww_iload_n C 1 dX5_cask_0 rfl rfl 1 rfl ?_
  refine ww_callSi C (As := [.int a1]) (st := []) h (fun _ _ hF => k_X5_isCask hn hF) w_40 cm_X5_isCask (by decide) (by decide) rfl rfl (Nat.le_of_ble_eq_true rfl) dX5_cask_1 4 rfl (fun v14 u13 h => ?_)
  refine ww_if_ne C 10 dX5_cask_4 (by decide) h 7 rfl (fun h => ?_) (fun h => ?_)
  · refine ww_iload_n C 2 dX5_cask_10 rfl rfl 11 rfl ?_
    refine ww_gets0 C w_46 dX5_cask_11 14 rfl ?_
    refine ww_tlen0 C (4 : Int32) (by decide) dX5_cask_14 15 rfl ?_
    refine ww_iconst C (1 : Int32) dX5_cask_15 (by decide) 16 rfl ?_
    refine ww_isub C dX5_cask_16 17 rfl ?_
    refine ww_callSi C (As := [.int a2, .int ((4 : Int32) - (1 : Int32))]) (st := []) h (fun _ _ hF => k_X5_isWithin hn hF) w_43 cm_X5_isWithin (by decide) (by decide) rfl rfl (Nat.le_of_ble_eq_true rfl) dX5_cask_17 20 rfl (fun v16 u15 h => ?_)
    refine ww_if_eq C 35 dX5_cask_20 (by decide) h 23 rfl (fun h => ?_) (fun h => ?_)
    · refine ww_bipush C (-7 : Int32) dX5_cask_35 (by decide) 37 rfl ?_
      exact ww_iret C dX5_cask_37 hr h
    · refine ww_iload_n C 3 dX5_cask_23 rfl rfl 24 rfl ?_
      refine ww_gets0 C w_46 dX5_cask_24 27 rfl ?_
      refine ww_iload_n C 2 dX5_cask_27 rfl rfl 28 rfl ?_
      refine ww_tld0 C dX5_cask_28 h 29 rfl (fun h => ?_)
      refine ww_callSi C (As := [.int a3, .int (fCM (a2).toNatClampNeg)]) (st := []) h (fun _ _ hF => k_X5_isWithin hn hF) w_43 cm_X5_isWithin (by decide) (by decide) rfl rfl (Nat.le_of_ble_eq_true rfl) dX5_cask_29 32 rfl (fun v18 u17 h => ?_)
      refine ww_if_ne C 38 dX5_cask_32 (by decide) h 35 rfl (fun h => ?_) (fun h => ?_)
      · refine ww_aload_n C 0 dX5_cask_38 rfl rfl 39 rfl ?_
        refine ww_getS C cl_X5 (obX hn) 4 (by decide) rfl 42 rfl w_533 dX5_cask_39 42 rfl ?_
        refine ww_iload_n C 2 dX5_cask_42 rfl rfl 43 rfl ?_
        refine ww_callVq C (As := [.int a2]) (st := []) h cl_X1.1 (obScene (by decide) hn) (fun _ _ hF => k_X1_caskRow hn (by decide) hF) w_48 cm_X1_caskRow (by decide) (by decide) rfl rfl (Nat.le_of_ble_eq_true rfl) dX5_cask_43 46 rfl (fun v20 u19 h => ?_)
        refine ww_astore C [(4, .ref (ad v20)), (0, .ref (ad 72)), (1, .int a1), (2, .int a2), (3, .int a3)] dX5_cask_46 (by decide) rfl 48 rfl ?_
        refine ww_aload C 0 dX5_cask_48 rfl 50 rfl ?_
        refine ww_iload_n C 2 dX5_cask_50 rfl rfl 51 rfl ?_
        obtain ⟨hd21, h⟩ := gd_some h
        refine ww_iald C (iaDyn hd21 hn) dX5_cask_51 h 52 rfl (fun h => ?_)
        refine ww_bi h (fun v22 h => ?_)
        refine ww_istore C [(5, .int v22), (4, .ref (ad v20)), (0, .ref (ad 72)), (1, .int a1), (2, .int a2), (3, .int a3)] dX5_cask_52 (by decide) rfl 54 rfl ?_
        refine ww_aload C 1 dX5_cask_54 rfl 56 rfl ?_
        refine ww_iload_n C 3 dX5_cask_56 rfl rfl 57 rfl ?_
        refine ww_iload_n C 5 dX5_cask_57 rfl rfl 58 rfl ?_
        obtain ⟨hd24, h⟩ := gd_some h
        refine ww_iast C (iaDyn hd24 hn) dX5_cask_58 h 59 rfl (fun u23 h => ?_)
        refine ww_iload C 0 dX5_cask_59 rfl 61 rfl ?_
        exact ww_iret C dX5_cask_61 hr h
      · refine ww_bipush C (-7 : Int32) dX5_cask_35 (by decide) 37 rfl ?_
        exact ww_iret C dX5_cask_37 hr h
  · refine ww_bipush C (-5 : Int32) dX5_cask_7 (by decide) 9 rfl ?_
    exact ww_iret C dX5_cask_9 hr h

set_option maxRecDepth 100000 in
set_option maxHeartbeats 4000000 in
theorem k_X5_lies {l : Launch} {D : va_G} {ad : Nat → Nat} {cA : Nat → ClassId} {tys : List (ClassId × FieldType)} {n : Nat} {sa : SA} (hn : 73 ≤ n) {N : Nat} {g : Mem} {a1 : Int32} {a2 : Int32} {r : Int32} {g1 : Mem} (h : X5_lies N a1 a2 g = some (r, g1)) : CTi l yX5_lies (wsm yX5_lies cX5_lies 3 (some .int)) 3 D YI ad cA tys n sa g [.ref (ad 72), .int a1, .int a2] r g1 := by
  refine ct_of RX5 rfl (by decide +kernel) (Nat.le_of_ble_eq_true rfl) rfl (fun sz => PBi D YI ad cA n r g1 sz) ?_
  intro p e R s m args below meth c C hr
  rw [X5_lies] at h
  refine ww_iload_n C 1 dX5_lies_0 rfl rfl 1 rfl ?_
  refine ww_callSi C (As := [.int a1]) (st := []) h (fun _ _ hF => k_X5_isCask hn hF) w_40 cm_X5_isCask (by decide) (by decide) rfl rfl (Nat.le_of_ble_eq_true rfl) dX5_lies_1 4 rfl (fun v9 u8 h => ?_)
  refine ww_if_ne C 10 dX5_lies_4 (by decide) h 7 rfl (fun h => ?_) (fun h => ?_)
  · refine ww_iload_n C 2 dX5_lies_10 rfl rfl 11 rfl ?_
    refine ww_gets0 C w_46 dX5_lies_11 14 rfl ?_
    refine ww_tlen0 C (4 : Int32) (by decide) dX5_lies_14 15 rfl ?_
    refine ww_iconst C (1 : Int32) dX5_lies_15 (by decide) 16 rfl ?_
    refine ww_isub C dX5_lies_16 17 rfl ?_
    refine ww_callSi C (As := [.int a2, .int ((4 : Int32) - (1 : Int32))]) (st := []) h (fun _ _ hF => k_X5_isWithin hn hF) w_43 cm_X5_isWithin (by decide) (by decide) rfl rfl (Nat.le_of_ble_eq_true rfl) dX5_lies_17 20 rfl (fun v11 u10 h => ?_)
    refine ww_if_eq C 36 dX5_lies_20 (by decide) h 23 rfl (fun h => ?_) (fun h => ?_)
    · refine ww_bipush C (-7 : Int32) dX5_lies_36 (by decide) 38 rfl ?_
      exact ww_iret C dX5_lies_38 hr h
    · refine ww_aload_n C 0 dX5_lies_23 rfl rfl 24 rfl ?_
      refine ww_getS C cl_X5 (obX hn) 4 (by decide) rfl 42 rfl w_533 dX5_lies_24 27 rfl ?_
      refine ww_iload_n C 2 dX5_lies_27 rfl rfl 28 rfl ?_
      refine ww_callVq C (As := [.int a2]) (st := []) h cl_X1.1 (obScene (by decide) hn) (fun _ _ hF => k_X1_caskRow hn (by decide) hF) w_48 cm_X1_caskRow (by decide) (by decide) rfl rfl (Nat.le_of_ble_eq_true rfl) dX5_lies_28 31 rfl (fun v13 u12 h => ?_)
      refine ww_iload_n C 1 dX5_lies_31 rfl rfl 32 rfl ?_
      obtain ⟨hd14, h⟩ := gd_some h
      refine ww_iald C (iaDyn hd14 hn) dX5_lies_32 h 33 rfl (fun h => ?_)
      refine ww_goto C 38 dX5_lies_33 (by decide) ?_
      exact ww_iret C dX5_lies_38 hr h
  · refine ww_bipush C (-5 : Int32) dX5_lies_7 (by decide) 9 rfl ?_
    exact ww_iret C dX5_lies_9 hr h

set_option maxRecDepth 100000 in
set_option maxHeartbeats 4000000 in
theorem k_X5_setHour {l : Launch} {D : va_G} {ad : Nat → Nat} {cA : Nat → ClassId} {tys : List (ClassId × FieldType)} {n : Nat} {sa : SA} (hn : 73 ≤ n) {N : Nat} {g : Mem} {a1 : Int32} {r : Int32} {g1 : Mem} (h : X5_setHour N a1 g = some (r, g1)) : CTi l yX5_setHour (wsm yX5_setHour cX5_setHour 3 (some .int)) 2 D YI ad cA tys n sa g [.ref (ad 72), .int a1] r g1 := by
  refine ct_of RX5 rfl (by decide +kernel) (Nat.le_of_ble_eq_true rfl) rfl (fun sz => PBi D YI ad cA n r g1 sz) ?_
  intro p e R s m args below meth c C hr
  rw [X5_setHour] at h
  refine ww_iload_n C 1 dX5_setHour_0 rfl rfl 1 rfl ?_
  refine ww_sipush C (999 : Int32) dX5_setHour_1 (by decide) 4 rfl ?_
  refine ww_callSi C (As := [.int a1, .int (999 : Int32)]) (st := []) h (fun _ _ hF => k_X5_isWithin hn hF) w_43 cm_X5_isWithin (by decide) (by decide) rfl rfl (Nat.le_of_ble_eq_true rfl) dX5_setHour_4 7 rfl (fun v6 u5 h => ?_)
  refine ww_if_ne C 13 dX5_setHour_7 (by decide) h 10 rfl (fun h => ?_) (fun h => ?_)
  · refine ww_aload_n C 0 dX5_setHour_13 rfl rfl 14 rfl ?_
    refine ww_getS C cl_X5 (obX hn) 4 (by decide) rfl 42 rfl w_533 dX5_setHour_14 17 rfl ?_
    refine ww_getI C cl_X1 (obScene (by decide) hn) 10 (by decide) rfl w_499 dX5_setHour_17 20 rfl ?_
    refine ww_bi h (fun v7 h => ?_)
    refine ww_istore_n C [(2, .int v7), (0, .ref (ad 72)), (1, .int a1)] dX5_setHour_20 rfl (by decide) rfl 21 rfl ?_
    refine ww_aload_n C 1 dX5_setHour_21 rfl rfl 22 rfl ?_
    refine ww_getS C cl_X5 (obX hn) 4 (by decide) rfl 42 rfl w_533 dX5_setHour_22 25 rfl ?_
    refine ww_iload_n C 2 dX5_setHour_25 rfl rfl 26 rfl ?_
    refine ww_putI C cl_X1 (obScene (by decide) hn) 10 (by decide) rfl tyX1 tyX1_ok nmX1 rfl rfl rfl w_499 dX5_setHour_26 h 29 rfl (fun u8 h => ?_)
    refine ww_iload_n C 0 dX5_setHour_29 rfl rfl 30 rfl ?_
    exact ww_iret C dX5_setHour_30 hr h
  · refine ww_bipush C (-7 : Int32) dX5_setHour_10 (by decide) 12 rfl ?_
    exact ww_iret C dX5_setHour_12 hr h

set_option maxRecDepth 100000 in
set_option maxHeartbeats 4000000 in
theorem k_X5_sky {l : Launch} {D : va_G} {ad : Nat → Nat} {cA : Nat → ClassId} {tys : List (ClassId × FieldType)} {n : Nat} {sa : SA} (hn : 73 ≤ n) {N : Nat} {g : Mem} {a1 : Int32} {a2 : Int32} {r : Int32} {g1 : Mem} (h : X5_sky N a1 a2 g = some (r, g1)) : CTi l yX5_sky (wsm yX5_sky cX5_sky 4 (some .int)) 3 D YI ad cA tys n sa g [.ref (ad 72), .int a1, .int a2] r g1 := by
  refine ct_of RX5 rfl (by decide +kernel) (Nat.le_of_ble_eq_true rfl) rfl (fun sz => PBi D YI ad cA n r g1 sz) ?_
  intro p e R s m args below meth c C hr
  rw [X5_sky] at h
  refine ww_iload_n C 1 dX5_sky_0 rfl rfl 1 rfl ?_
  refine ww_bipush C (6 : Int32) dX5_sky_1 (by decide) 3 rfl ?_
  refine ww_icmp_ne C 12 dX5_sky_3 (by decide) h 6 rfl (fun h => ?_) (fun h => ?_)
  · refine ww_iload_n C 1 dX5_sky_12 rfl rfl 13 rfl ?_
    refine ww_callSi C (As := [.int a1]) (st := []) h (fun _ _ hF => k_X5_isSort hn hF) w_65 cm_X5_isSort (by decide) (by decide) rfl rfl (Nat.le_of_ble_eq_true rfl) dX5_sky_13 16 rfl (fun v10 u9 h => ?_)
    refine ww_if_ne C 22 dX5_sky_16 (by decide) h 19 rfl (fun h => ?_) (fun h => ?_)
    · refine ww_iload_n C 2 dX5_sky_22 rfl rfl 23 rfl ?_
      refine ww_bipush C (99 : Int32) dX5_sky_23 (by decide) 25 rfl ?_
      refine ww_callSi C (As := [.int a2, .int (99 : Int32)]) (st := []) h (fun _ _ hF => k_X5_isWithin hn hF) w_43 cm_X5_isWithin (by decide) (by decide) rfl rfl (Nat.le_of_ble_eq_true rfl) dX5_sky_25 28 rfl (fun v12 u11 h => ?_)
      refine ww_if_ne C 34 dX5_sky_28 (by decide) h 31 rfl (fun h => ?_) (fun h => ?_)
      · refine ww_aload_n C 0 dX5_sky_34 rfl rfl 35 rfl ?_
        refine ww_getS C cl_X5 (obX hn) 4 (by decide) rfl 42 rfl w_533 dX5_sky_35 38 rfl ?_
        refine ww_getS C cl_X1 (obScene (by decide) hn) 0 (by decide) rfl 43 rfl w_480 dX5_sky_38 41 rfl ?_
        refine ww_iload_n C 1 dX5_sky_41 rfl rfl 42 rfl ?_
        refine ww_iald C (iaScene (q := 42) (by decide) hn 1 6 (by decide)) dX5_sky_42 h 43 rfl (fun h => ?_)
        refine ww_bi h (fun v13 h => ?_)
        refine ww_istore_n C [(3, .int v13), (0, .ref (ad 72)), (1, .int a1), (2, .int a2)] dX5_sky_43 rfl (by decide) rfl 44 rfl ?_
        refine ww_aload_n C 1 dX5_sky_44 rfl rfl 45 rfl ?_
        refine ww_getS C cl_X5 (obX hn) 4 (by decide) rfl 42 rfl w_533 dX5_sky_45 48 rfl ?_
        refine ww_getS C cl_X1 (obScene (by decide) hn) 0 (by decide) rfl 43 rfl w_480 dX5_sky_48 51 rfl ?_
        refine ww_iload_n C 2 dX5_sky_51 rfl rfl 52 rfl ?_
        refine ww_iload_n C 3 dX5_sky_52 rfl rfl 53 rfl ?_
        refine ww_iast C (iaScene (q := 42) (by decide) hn 1 6 (by decide)) dX5_sky_53 h 54 rfl (fun u14 h => ?_)
        refine ww_iload_n C 0 dX5_sky_54 rfl rfl 55 rfl ?_
        exact ww_iret C dX5_sky_55 hr h
      · refine ww_bipush C (-7 : Int32) dX5_sky_31 (by decide) 33 rfl ?_
        exact ww_iret C dX5_sky_33 hr h
    · refine ww_bipush C (-5 : Int32) dX5_sky_19 (by decide) 21 rfl ?_
      exact ww_iret C dX5_sky_21 hr h
  · refine ww_aload_n C 0 dX5_sky_6 rfl rfl 7 rfl ?_
    refine ww_iload_n C 2 dX5_sky_7 rfl rfl 8 rfl ?_
    refine ww_callVi C (As := [.int a2]) (st := []) h cl_X5.1 (obX hn) (fun _ _ hF => k_X5_setHour hn hF) w_60 cm_X5_setHour (by decide) (by decide) rfl rfl (Nat.le_of_ble_eq_true rfl) dX5_sky_8 11 rfl (fun v16 u15 h => ?_)
    exact ww_iret C dX5_sky_11 hr h

set_option maxRecDepth 100000 in
set_option maxHeartbeats 4000000 in
theorem k_X5_areBytes {l : Launch} {D : va_G} {ad : Nat → Nat} {cA : Nat → ClassId} {tys : List (ClassId × FieldType)} {n : Nat} {sa : SA} (hn : 73 ≤ n) {N : Nat} {g : Mem} {a1 : Int32} {a2 : Int32} {a3 : Int32} {a4 : Int32} {a5 : Int32} {r : Int32} {g1 : Mem} (h : X5_areBytes N a1 a2 a3 a4 a5 g = some (r, g1)) : CTi l yX5_areBytes (wsm yX5_areBytes cX5_areBytes 5 (some .boolean)) 2 D YI ad cA tys n sa g [.int a1, .int a2, .int a3, .int a4, .int a5] r g1 := by
  refine ct_of RX5 rfl (by decide +kernel) (Nat.le_of_ble_eq_true rfl) rfl (fun sz => PBi D YI ad cA n r g1 sz) ?_
  intro p e R s m args below meth c C hr
  rw [X5_areBytes] at h
  refine ww_iload_n C 0 dX5_areBytes_0 rfl rfl 1 rfl ?_
  refine ww_sipush C (255 : Int32) dX5_areBytes_1 (by decide) 4 rfl ?_
  refine ww_callSi C (As := [.int a1, .int (255 : Int32)]) (st := []) h (fun _ _ hF => k_X5_isWithin hn hF) w_43 cm_X5_isWithin (by decide) (by decide) rfl rfl (Nat.le_of_ble_eq_true rfl) dX5_areBytes_4 7 rfl (fun v12 u11 h => ?_)
  refine ww_if_eq C 55 dX5_areBytes_7 (by decide) h 10 rfl (fun h => ?_) (fun h => ?_)
  · refine ww_iconst C (0 : Int32) dX5_areBytes_55 (by decide) 56 rfl ?_
    exact ww_zret C dX5_areBytes_56 hr rfl h
  · refine ww_iload_n C 1 dX5_areBytes_10 rfl rfl 11 rfl ?_
    refine ww_sipush C (255 : Int32) dX5_areBytes_11 (by decide) 14 rfl ?_
    refine ww_callSi C (As := [.int a2, .int (255 : Int32)]) (st := []) h (fun _ _ hF => k_X5_isWithin hn hF) w_43 cm_X5_isWithin (by decide) (by decide) rfl rfl (Nat.le_of_ble_eq_true rfl) dX5_areBytes_14 17 rfl (fun v14 u13 h => ?_)
    refine ww_if_eq C 55 dX5_areBytes_17 (by decide) h 20 rfl (fun h => ?_) (fun h => ?_)
    · refine ww_iconst C (0 : Int32) dX5_areBytes_55 (by decide) 56 rfl ?_
      exact ww_zret C dX5_areBytes_56 hr rfl h
    · refine ww_iload_n C 2 dX5_areBytes_20 rfl rfl 21 rfl ?_
      refine ww_sipush C (255 : Int32) dX5_areBytes_21 (by decide) 24 rfl ?_
      refine ww_callSi C (As := [.int a3, .int (255 : Int32)]) (st := []) h (fun _ _ hF => k_X5_isWithin hn hF) w_43 cm_X5_isWithin (by decide) (by decide) rfl rfl (Nat.le_of_ble_eq_true rfl) dX5_areBytes_24 27 rfl (fun v16 u15 h => ?_)
      refine ww_if_eq C 55 dX5_areBytes_27 (by decide) h 30 rfl (fun h => ?_) (fun h => ?_)
      · refine ww_iconst C (0 : Int32) dX5_areBytes_55 (by decide) 56 rfl ?_
        exact ww_zret C dX5_areBytes_56 hr rfl h
      · refine ww_iload_n C 3 dX5_areBytes_30 rfl rfl 31 rfl ?_
        refine ww_sipush C (255 : Int32) dX5_areBytes_31 (by decide) 34 rfl ?_
        refine ww_callSi C (As := [.int a4, .int (255 : Int32)]) (st := []) h (fun _ _ hF => k_X5_isWithin hn hF) w_43 cm_X5_isWithin (by decide) (by decide) rfl rfl (Nat.le_of_ble_eq_true rfl) dX5_areBytes_34 37 rfl (fun v18 u17 h => ?_)
        refine ww_if_eq C 55 dX5_areBytes_37 (by decide) h 40 rfl (fun h => ?_) (fun h => ?_)
        · refine ww_iconst C (0 : Int32) dX5_areBytes_55 (by decide) 56 rfl ?_
          exact ww_zret C dX5_areBytes_56 hr rfl h
        · refine ww_iload C 4 dX5_areBytes_40 rfl 42 rfl ?_
          refine ww_sipush C (255 : Int32) dX5_areBytes_42 (by decide) 45 rfl ?_
          refine ww_callSi C (As := [.int a5, .int (255 : Int32)]) (st := []) h (fun _ _ hF => k_X5_isWithin hn hF) w_43 cm_X5_isWithin (by decide) (by decide) rfl rfl (Nat.le_of_ble_eq_true rfl) dX5_areBytes_45 48 rfl (fun v20 u19 h => ?_)
          refine ww_if_eq C 55 dX5_areBytes_48 (by decide) h 51 rfl (fun h => ?_) (fun h => ?_)
          · refine ww_iconst C (0 : Int32) dX5_areBytes_55 (by decide) 56 rfl ?_
            exact ww_zret C dX5_areBytes_56 hr rfl h
          · refine ww_iconst C (1 : Int32) dX5_areBytes_51 (by decide) 52 rfl ?_
            refine ww_goto C 56 dX5_areBytes_52 (by decide) ?_
            exact ww_zret C dX5_areBytes_56 hr rfl h

set_option maxRecDepth 100000 in
set_option maxHeartbeats 4000000 in
theorem k_X5_feed {l : Launch} {D : va_G} {ad : Nat → Nat} {cA : Nat → ClassId} {tys : List (ClassId × FieldType)} {n : Nat} {sa : SA} (hn : 73 ≤ n) {N : Nat} {g : Mem} {a1 : Int32} {a2 : Int32} {a3 : Int32} {a4 : Int32} {a5 : Int32} {a6 : Int32} {r : Int32} {g1 : Mem} (h : X5_feed N a1 a2 a3 a4 a5 a6 g = some (r, g1)) : CTi l yX5_feed (wsm yX5_feed cX5_feed 7 (some .int)) 3 D YI ad cA tys n sa g [.ref (ad 72), .int a1, .int a2, .int a3, .int a4, .int a5, .int a6] r g1 := by
  refine ct_of RX5 rfl (by decide +kernel) (Nat.le_of_ble_eq_true rfl) rfl (fun sz => PBi D YI ad cA n r g1 sz) ?_
  intro p e R s m args below meth c C hr
  rw [X5_feed] at h
  refine ww_iload_n C 1 dX5_feed_0 rfl rfl 1 rfl ?_
  refine ww_iconst C (1 : Int32) dX5_feed_1 (by decide) 2 rfl ?_
  refine ww_icmp_lt C 24 dX5_feed_2 (by decide) h 5 rfl (fun h => ?_) (fun h => ?_)
  · refine ww_bipush C (-2 : Int32) dX5_feed_24 (by decide) 26 rfl ?_
    exact ww_iret C dX5_feed_26 hr h
  · refine ww_iload_n C 1 dX5_feed_5 rfl rfl 6 rfl ?_
    refine ww_iconst C (5 : Int32) dX5_feed_6 (by decide) 7 rfl ?_
    refine ww_icmp_gt C 24 dX5_feed_7 (by decide) h 10 rfl (fun h => ?_) (fun h => ?_)
    · refine ww_bipush C (-2 : Int32) dX5_feed_24 (by decide) 26 rfl ?_
      exact ww_iret C dX5_feed_26 hr h
    · refine ww_iload_n C 2 dX5_feed_10 rfl rfl 11 rfl ?_
      refine ww_iload_n C 3 dX5_feed_11 rfl rfl 12 rfl ?_
      refine ww_iload C 4 dX5_feed_12 rfl 14 rfl ?_
      refine ww_iload C 5 dX5_feed_14 rfl 16 rfl ?_
      refine ww_iload C 6 dX5_feed_16 rfl 18 rfl ?_
      refine ww_callSi C (As := [.int a2, .int a3, .int a4, .int a5, .int a6]) (st := []) h (fun _ _ hF => k_X5_areBytes hn hF) w_809 cm_X5_areBytes (by decide) (by decide) rfl rfl (Nat.le_of_ble_eq_true rfl) dX5_feed_18 21 rfl (fun v38 u37 h => ?_)
      refine ww_if_ne C 27 dX5_feed_21 (by decide) h 24 rfl (fun h => ?_) (fun h => ?_)
      · refine ww_aload_n C 0 dX5_feed_27 rfl rfl 28 rfl ?_
        refine ww_getS C cl_X5 (obX hn) 0 (by decide) rfl 0 rfl w_529 dX5_feed_28 31 rfl ?_
        refine ww_iload_n C 1 dX5_feed_31 rfl rfl 32 rfl ?_
        refine ww_callVi C (As := [.int a1]) (st := []) h cl_X3.1 (obTape (Nat.le_trans (by decide) hn)) (fun _ _ hF => k_X3_hasRoom (Nat.le_trans (by decide) hn) hF) w_812 cm_X3_hasRoom (by decide) (by decide) rfl rfl (Nat.le_of_ble_eq_true rfl) dX5_feed_32 35 rfl (fun v40 u39 h => ?_)
        refine ww_if_ne C 41 dX5_feed_35 (by decide) h 38 rfl (fun h => ?_) (fun h => ?_)
        · refine ww_aload_n C 0 dX5_feed_41 rfl rfl 42 rfl ?_
          refine ww_getS C cl_X5 (obX hn) 0 (by decide) rfl 0 rfl w_529 dX5_feed_42 45 rfl ?_
          refine ww_iload_n C 2 dX5_feed_45 rfl rfl 46 rfl ?_
          refine ww_callVv C (As := [.int a2]) (st := []) h cl_X3.1 (obTape (Nat.le_trans (by decide) hn)) (fun _ _ hF => k_X3_add (Nat.le_trans (by decide) hn) hF) w_377 cm_X3_add (by decide) (by decide) rfl rfl (Nat.le_of_ble_eq_true rfl) dX5_feed_46 49 rfl (fun _ u41 h => ?_)
          refine ww_iload_n C 1 dX5_feed_49 rfl rfl 50 rfl ?_
          refine ww_iconst C (1 : Int32) dX5_feed_50 (by decide) 51 rfl ?_
          refine ww_icmp_le C 62 dX5_feed_51 (by decide) h 54 rfl (fun h => ?_) (fun h => ?_)
          · refine ww_iload_n C 1 dX5_feed_62 rfl rfl 63 rfl ?_
            refine ww_iconst C (2 : Int32) dX5_feed_63 (by decide) 64 rfl ?_
            refine ww_icmp_le C 76 dX5_feed_64 (by decide) h 67 rfl (fun h => ?_) (fun h => ?_)
            · refine ww_iload_n C 1 dX5_feed_76 rfl rfl 77 rfl ?_
              refine ww_iconst C (3 : Int32) dX5_feed_77 (by decide) 78 rfl ?_
              refine ww_icmp_le C 90 dX5_feed_78 (by decide) h 81 rfl (fun h => ?_) (fun h => ?_)
              · refine ww_iload_n C 1 dX5_feed_90 rfl rfl 91 rfl ?_
                refine ww_iconst C (4 : Int32) dX5_feed_91 (by decide) 92 rfl ?_
                refine ww_icmp_le C 104 dX5_feed_92 (by decide) h 95 rfl (fun h => ?_) (fun h => ?_)
                · refine ww_aload_n C 0 dX5_feed_104 rfl rfl 105 rfl ?_
                  refine ww_getS C cl_X5 (obX hn) 0 (by decide) rfl 0 rfl w_529 dX5_feed_105 108 rfl ?_
                  refine ww_getI C cl_X3 (obTape (Nat.le_trans (by decide) hn)) 1 (by decide) rfl w_263 dX5_feed_108 111 rfl ?_
                  exact ww_iret C dX5_feed_111 hr h
                · refine ww_aload_n C 0 dX5_feed_95 rfl rfl 96 rfl ?_
                  refine ww_getS C cl_X5 (obX hn) 0 (by decide) rfl 0 rfl w_529 dX5_feed_96 99 rfl ?_
                  refine ww_iload C 6 dX5_feed_99 rfl 101 rfl ?_
                  refine ww_callVv C (As := [.int a6]) (st := []) h cl_X3.1 (obTape (Nat.le_trans (by decide) hn)) (fun _ _ hF => k_X3_add (Nat.le_trans (by decide) hn) hF) w_377 cm_X3_add (by decide) (by decide) rfl rfl (Nat.le_of_ble_eq_true rfl) dX5_feed_101 104 rfl (fun _ u43 h => ?_)
                  refine ww_aload_n C 0 dX5_feed_104 rfl rfl 105 rfl ?_
                  refine ww_getS C cl_X5 (obX hn) 0 (by decide) rfl 0 rfl w_529 dX5_feed_105 108 rfl ?_
                  refine ww_getI C cl_X3 (obTape (Nat.le_trans (by decide) hn)) 1 (by decide) rfl w_263 dX5_feed_108 111 rfl ?_
                  exact ww_iret C dX5_feed_111 hr h
              · refine ww_aload_n C 0 dX5_feed_81 rfl rfl 82 rfl ?_
                refine ww_getS C cl_X5 (obX hn) 0 (by decide) rfl 0 rfl w_529 dX5_feed_82 85 rfl ?_
                refine ww_iload C 5 dX5_feed_85 rfl 87 rfl ?_
                refine ww_callVv C (As := [.int a5]) (st := []) h cl_X3.1 (obTape (Nat.le_trans (by decide) hn)) (fun _ _ hF => k_X3_add (Nat.le_trans (by decide) hn) hF) w_377 cm_X3_add (by decide) (by decide) rfl rfl (Nat.le_of_ble_eq_true rfl) dX5_feed_87 90 rfl (fun _ u45 h => ?_)
                refine ww_iload_n C 1 dX5_feed_90 rfl rfl 91 rfl ?_
                refine ww_iconst C (4 : Int32) dX5_feed_91 (by decide) 92 rfl ?_
                refine ww_icmp_le C 104 dX5_feed_92 (by decide) h 95 rfl (fun h => ?_) (fun h => ?_)
                · refine ww_aload_n C 0 dX5_feed_104 rfl rfl 105 rfl ?_
                  refine ww_getS C cl_X5 (obX hn) 0 (by decide) rfl 0 rfl w_529 dX5_feed_105 108 rfl ?_
                  refine ww_getI C cl_X3 (obTape (Nat.le_trans (by decide) hn)) 1 (by decide) rfl w_263 dX5_feed_108 111 rfl ?_
                  exact ww_iret C dX5_feed_111 hr h
                · refine ww_aload_n C 0 dX5_feed_95 rfl rfl 96 rfl ?_
                  refine ww_getS C cl_X5 (obX hn) 0 (by decide) rfl 0 rfl w_529 dX5_feed_96 99 rfl ?_
                  refine ww_iload C 6 dX5_feed_99 rfl 101 rfl ?_
                  refine ww_callVv C (As := [.int a6]) (st := []) h cl_X3.1 (obTape (Nat.le_trans (by decide) hn)) (fun _ _ hF => k_X3_add (Nat.le_trans (by decide) hn) hF) w_377 cm_X3_add (by decide) (by decide) rfl rfl (Nat.le_of_ble_eq_true rfl) dX5_feed_101 104 rfl (fun _ u47 h => ?_)
                  refine ww_aload_n C 0 dX5_feed_104 rfl rfl 105 rfl ?_
                  refine ww_getS C cl_X5 (obX hn) 0 (by decide) rfl 0 rfl w_529 dX5_feed_105 108 rfl ?_
                  refine ww_getI C cl_X3 (obTape (Nat.le_trans (by decide) hn)) 1 (by decide) rfl w_263 dX5_feed_108 111 rfl ?_
                  exact ww_iret C dX5_feed_111 hr h
            · refine ww_aload_n C 0 dX5_feed_67 rfl rfl 68 rfl ?_
              refine ww_getS C cl_X5 (obX hn) 0 (by decide) rfl 0 rfl w_529 dX5_feed_68 71 rfl ?_
              refine ww_iload C 4 dX5_feed_71 rfl 73 rfl ?_
              refine ww_callVv C (As := [.int a4]) (st := []) h cl_X3.1 (obTape (Nat.le_trans (by decide) hn)) (fun _ _ hF => k_X3_add (Nat.le_trans (by decide) hn) hF) w_377 cm_X3_add (by decide) (by decide) rfl rfl (Nat.le_of_ble_eq_true rfl) dX5_feed_73 76 rfl (fun _ u49 h => ?_)
              refine ww_iload_n C 1 dX5_feed_76 rfl rfl 77 rfl ?_
              refine ww_iconst C (3 : Int32) dX5_feed_77 (by decide) 78 rfl ?_
              refine ww_icmp_le C 90 dX5_feed_78 (by decide) h 81 rfl (fun h => ?_) (fun h => ?_)
              · refine ww_iload_n C 1 dX5_feed_90 rfl rfl 91 rfl ?_
                refine ww_iconst C (4 : Int32) dX5_feed_91 (by decide) 92 rfl ?_
                refine ww_icmp_le C 104 dX5_feed_92 (by decide) h 95 rfl (fun h => ?_) (fun h => ?_)
                · refine ww_aload_n C 0 dX5_feed_104 rfl rfl 105 rfl ?_
                  refine ww_getS C cl_X5 (obX hn) 0 (by decide) rfl 0 rfl w_529 dX5_feed_105 108 rfl ?_
                  refine ww_getI C cl_X3 (obTape (Nat.le_trans (by decide) hn)) 1 (by decide) rfl w_263 dX5_feed_108 111 rfl ?_
                  exact ww_iret C dX5_feed_111 hr h
                · refine ww_aload_n C 0 dX5_feed_95 rfl rfl 96 rfl ?_
                  refine ww_getS C cl_X5 (obX hn) 0 (by decide) rfl 0 rfl w_529 dX5_feed_96 99 rfl ?_
                  refine ww_iload C 6 dX5_feed_99 rfl 101 rfl ?_
                  refine ww_callVv C (As := [.int a6]) (st := []) h cl_X3.1 (obTape (Nat.le_trans (by decide) hn)) (fun _ _ hF => k_X3_add (Nat.le_trans (by decide) hn) hF) w_377 cm_X3_add (by decide) (by decide) rfl rfl (Nat.le_of_ble_eq_true rfl) dX5_feed_101 104 rfl (fun _ u51 h => ?_)
                  refine ww_aload_n C 0 dX5_feed_104 rfl rfl 105 rfl ?_
                  refine ww_getS C cl_X5 (obX hn) 0 (by decide) rfl 0 rfl w_529 dX5_feed_105 108 rfl ?_
                  refine ww_getI C cl_X3 (obTape (Nat.le_trans (by decide) hn)) 1 (by decide) rfl w_263 dX5_feed_108 111 rfl ?_
                  exact ww_iret C dX5_feed_111 hr h
              · refine ww_aload_n C 0 dX5_feed_81 rfl rfl 82 rfl ?_
                refine ww_getS C cl_X5 (obX hn) 0 (by decide) rfl 0 rfl w_529 dX5_feed_82 85 rfl ?_
                refine ww_iload C 5 dX5_feed_85 rfl 87 rfl ?_
                refine ww_callVv C (As := [.int a5]) (st := []) h cl_X3.1 (obTape (Nat.le_trans (by decide) hn)) (fun _ _ hF => k_X3_add (Nat.le_trans (by decide) hn) hF) w_377 cm_X3_add (by decide) (by decide) rfl rfl (Nat.le_of_ble_eq_true rfl) dX5_feed_87 90 rfl (fun _ u53 h => ?_)
                refine ww_iload_n C 1 dX5_feed_90 rfl rfl 91 rfl ?_
                refine ww_iconst C (4 : Int32) dX5_feed_91 (by decide) 92 rfl ?_
                refine ww_icmp_le C 104 dX5_feed_92 (by decide) h 95 rfl (fun h => ?_) (fun h => ?_)
                · refine ww_aload_n C 0 dX5_feed_104 rfl rfl 105 rfl ?_
                  refine ww_getS C cl_X5 (obX hn) 0 (by decide) rfl 0 rfl w_529 dX5_feed_105 108 rfl ?_
                  refine ww_getI C cl_X3 (obTape (Nat.le_trans (by decide) hn)) 1 (by decide) rfl w_263 dX5_feed_108 111 rfl ?_
                  exact ww_iret C dX5_feed_111 hr h
                · refine ww_aload_n C 0 dX5_feed_95 rfl rfl 96 rfl ?_
                  refine ww_getS C cl_X5 (obX hn) 0 (by decide) rfl 0 rfl w_529 dX5_feed_96 99 rfl ?_
                  refine ww_iload C 6 dX5_feed_99 rfl 101 rfl ?_
                  refine ww_callVv C (As := [.int a6]) (st := []) h cl_X3.1 (obTape (Nat.le_trans (by decide) hn)) (fun _ _ hF => k_X3_add (Nat.le_trans (by decide) hn) hF) w_377 cm_X3_add (by decide) (by decide) rfl rfl (Nat.le_of_ble_eq_true rfl) dX5_feed_101 104 rfl (fun _ u55 h => ?_)
                  refine ww_aload_n C 0 dX5_feed_104 rfl rfl 105 rfl ?_
                  refine ww_getS C cl_X5 (obX hn) 0 (by decide) rfl 0 rfl w_529 dX5_feed_105 108 rfl ?_
                  refine ww_getI C cl_X3 (obTape (Nat.le_trans (by decide) hn)) 1 (by decide) rfl w_263 dX5_feed_108 111 rfl ?_
                  exact ww_iret C dX5_feed_111 hr h
          · refine ww_aload_n C 0 dX5_feed_54 rfl rfl 55 rfl ?_
            refine ww_getS C cl_X5 (obX hn) 0 (by decide) rfl 0 rfl w_529 dX5_feed_55 58 rfl ?_
            refine ww_iload_n C 3 dX5_feed_58 rfl rfl 59 rfl ?_
            refine ww_callVv C (As := [.int a3]) (st := []) h cl_X3.1 (obTape (Nat.le_trans (by decide) hn)) (fun _ _ hF => k_X3_add (Nat.le_trans (by decide) hn) hF) w_377 cm_X3_add (by decide) (by decide) rfl rfl (Nat.le_of_ble_eq_true rfl) dX5_feed_59 62 rfl (fun _ u57 h => ?_)
            refine ww_iload_n C 1 dX5_feed_62 rfl rfl 63 rfl ?_
            refine ww_iconst C (2 : Int32) dX5_feed_63 (by decide) 64 rfl ?_
            refine ww_icmp_le C 76 dX5_feed_64 (by decide) h 67 rfl (fun h => ?_) (fun h => ?_)
            · refine ww_iload_n C 1 dX5_feed_76 rfl rfl 77 rfl ?_
              refine ww_iconst C (3 : Int32) dX5_feed_77 (by decide) 78 rfl ?_
              refine ww_icmp_le C 90 dX5_feed_78 (by decide) h 81 rfl (fun h => ?_) (fun h => ?_)
              · refine ww_iload_n C 1 dX5_feed_90 rfl rfl 91 rfl ?_
                refine ww_iconst C (4 : Int32) dX5_feed_91 (by decide) 92 rfl ?_
                refine ww_icmp_le C 104 dX5_feed_92 (by decide) h 95 rfl (fun h => ?_) (fun h => ?_)
                · refine ww_aload_n C 0 dX5_feed_104 rfl rfl 105 rfl ?_
                  refine ww_getS C cl_X5 (obX hn) 0 (by decide) rfl 0 rfl w_529 dX5_feed_105 108 rfl ?_
                  refine ww_getI C cl_X3 (obTape (Nat.le_trans (by decide) hn)) 1 (by decide) rfl w_263 dX5_feed_108 111 rfl ?_
                  exact ww_iret C dX5_feed_111 hr h
                · refine ww_aload_n C 0 dX5_feed_95 rfl rfl 96 rfl ?_
                  refine ww_getS C cl_X5 (obX hn) 0 (by decide) rfl 0 rfl w_529 dX5_feed_96 99 rfl ?_
                  refine ww_iload C 6 dX5_feed_99 rfl 101 rfl ?_
                  refine ww_callVv C (As := [.int a6]) (st := []) h cl_X3.1 (obTape (Nat.le_trans (by decide) hn)) (fun _ _ hF => k_X3_add (Nat.le_trans (by decide) hn) hF) w_377 cm_X3_add (by decide) (by decide) rfl rfl (Nat.le_of_ble_eq_true rfl) dX5_feed_101 104 rfl (fun _ u59 h => ?_)
                  refine ww_aload_n C 0 dX5_feed_104 rfl rfl 105 rfl ?_
                  refine ww_getS C cl_X5 (obX hn) 0 (by decide) rfl 0 rfl w_529 dX5_feed_105 108 rfl ?_
                  refine ww_getI C cl_X3 (obTape (Nat.le_trans (by decide) hn)) 1 (by decide) rfl w_263 dX5_feed_108 111 rfl ?_
                  exact ww_iret C dX5_feed_111 hr h
              · refine ww_aload_n C 0 dX5_feed_81 rfl rfl 82 rfl ?_
                refine ww_getS C cl_X5 (obX hn) 0 (by decide) rfl 0 rfl w_529 dX5_feed_82 85 rfl ?_
                refine ww_iload C 5 dX5_feed_85 rfl 87 rfl ?_
                refine ww_callVv C (As := [.int a5]) (st := []) h cl_X3.1 (obTape (Nat.le_trans (by decide) hn)) (fun _ _ hF => k_X3_add (Nat.le_trans (by decide) hn) hF) w_377 cm_X3_add (by decide) (by decide) rfl rfl (Nat.le_of_ble_eq_true rfl) dX5_feed_87 90 rfl (fun _ u61 h => ?_)
                refine ww_iload_n C 1 dX5_feed_90 rfl rfl 91 rfl ?_
                refine ww_iconst C (4 : Int32) dX5_feed_91 (by decide) 92 rfl ?_
                refine ww_icmp_le C 104 dX5_feed_92 (by decide) h 95 rfl (fun h => ?_) (fun h => ?_)
                · refine ww_aload_n C 0 dX5_feed_104 rfl rfl 105 rfl ?_
                  refine ww_getS C cl_X5 (obX hn) 0 (by decide) rfl 0 rfl w_529 dX5_feed_105 108 rfl ?_
                  refine ww_getI C cl_X3 (obTape (Nat.le_trans (by decide) hn)) 1 (by decide) rfl w_263 dX5_feed_108 111 rfl ?_
                  exact ww_iret C dX5_feed_111 hr h
                · refine ww_aload_n C 0 dX5_feed_95 rfl rfl 96 rfl ?_
                  refine ww_getS C cl_X5 (obX hn) 0 (by decide) rfl 0 rfl w_529 dX5_feed_96 99 rfl ?_
                  refine ww_iload C 6 dX5_feed_99 rfl 101 rfl ?_
                  refine ww_callVv C (As := [.int a6]) (st := []) h cl_X3.1 (obTape (Nat.le_trans (by decide) hn)) (fun _ _ hF => k_X3_add (Nat.le_trans (by decide) hn) hF) w_377 cm_X3_add (by decide) (by decide) rfl rfl (Nat.le_of_ble_eq_true rfl) dX5_feed_101 104 rfl (fun _ u63 h => ?_)
                  refine ww_aload_n C 0 dX5_feed_104 rfl rfl 105 rfl ?_
                  refine ww_getS C cl_X5 (obX hn) 0 (by decide) rfl 0 rfl w_529 dX5_feed_105 108 rfl ?_
                  refine ww_getI C cl_X3 (obTape (Nat.le_trans (by decide) hn)) 1 (by decide) rfl w_263 dX5_feed_108 111 rfl ?_
                  exact ww_iret C dX5_feed_111 hr h
            · refine ww_aload_n C 0 dX5_feed_67 rfl rfl 68 rfl ?_
              refine ww_getS C cl_X5 (obX hn) 0 (by decide) rfl 0 rfl w_529 dX5_feed_68 71 rfl ?_
              refine ww_iload C 4 dX5_feed_71 rfl 73 rfl ?_
              refine ww_callVv C (As := [.int a4]) (st := []) h cl_X3.1 (obTape (Nat.le_trans (by decide) hn)) (fun _ _ hF => k_X3_add (Nat.le_trans (by decide) hn) hF) w_377 cm_X3_add (by decide) (by decide) rfl rfl (Nat.le_of_ble_eq_true rfl) dX5_feed_73 76 rfl (fun _ u65 h => ?_)
              refine ww_iload_n C 1 dX5_feed_76 rfl rfl 77 rfl ?_
              refine ww_iconst C (3 : Int32) dX5_feed_77 (by decide) 78 rfl ?_
              refine ww_icmp_le C 90 dX5_feed_78 (by decide) h 81 rfl (fun h => ?_) (fun h => ?_)
              · refine ww_iload_n C 1 dX5_feed_90 rfl rfl 91 rfl ?_
                refine ww_iconst C (4 : Int32) dX5_feed_91 (by decide) 92 rfl ?_
                refine ww_icmp_le C 104 dX5_feed_92 (by decide) h 95 rfl (fun h => ?_) (fun h => ?_)
                · refine ww_aload_n C 0 dX5_feed_104 rfl rfl 105 rfl ?_
                  refine ww_getS C cl_X5 (obX hn) 0 (by decide) rfl 0 rfl w_529 dX5_feed_105 108 rfl ?_
                  refine ww_getI C cl_X3 (obTape (Nat.le_trans (by decide) hn)) 1 (by decide) rfl w_263 dX5_feed_108 111 rfl ?_
                  exact ww_iret C dX5_feed_111 hr h
                · refine ww_aload_n C 0 dX5_feed_95 rfl rfl 96 rfl ?_
                  refine ww_getS C cl_X5 (obX hn) 0 (by decide) rfl 0 rfl w_529 dX5_feed_96 99 rfl ?_
                  refine ww_iload C 6 dX5_feed_99 rfl 101 rfl ?_
                  refine ww_callVv C (As := [.int a6]) (st := []) h cl_X3.1 (obTape (Nat.le_trans (by decide) hn)) (fun _ _ hF => k_X3_add (Nat.le_trans (by decide) hn) hF) w_377 cm_X3_add (by decide) (by decide) rfl rfl (Nat.le_of_ble_eq_true rfl) dX5_feed_101 104 rfl (fun _ u67 h => ?_)
                  refine ww_aload_n C 0 dX5_feed_104 rfl rfl 105 rfl ?_
                  refine ww_getS C cl_X5 (obX hn) 0 (by decide) rfl 0 rfl w_529 dX5_feed_105 108 rfl ?_
                  refine ww_getI C cl_X3 (obTape (Nat.le_trans (by decide) hn)) 1 (by decide) rfl w_263 dX5_feed_108 111 rfl ?_
                  exact ww_iret C dX5_feed_111 hr h
              · refine ww_aload_n C 0 dX5_feed_81 rfl rfl 82 rfl ?_
                refine ww_getS C cl_X5 (obX hn) 0 (by decide) rfl 0 rfl w_529 dX5_feed_82 85 rfl ?_
                refine ww_iload C 5 dX5_feed_85 rfl 87 rfl ?_
                refine ww_callVv C (As := [.int a5]) (st := []) h cl_X3.1 (obTape (Nat.le_trans (by decide) hn)) (fun _ _ hF => k_X3_add (Nat.le_trans (by decide) hn) hF) w_377 cm_X3_add (by decide) (by decide) rfl rfl (Nat.le_of_ble_eq_true rfl) dX5_feed_87 90 rfl (fun _ u69 h => ?_)
                refine ww_iload_n C 1 dX5_feed_90 rfl rfl 91 rfl ?_
                refine ww_iconst C (4 : Int32) dX5_feed_91 (by decide) 92 rfl ?_
                refine ww_icmp_le C 104 dX5_feed_92 (by decide) h 95 rfl (fun h => ?_) (fun h => ?_)
                · refine ww_aload_n C 0 dX5_feed_104 rfl rfl 105 rfl ?_
                  refine ww_getS C cl_X5 (obX hn) 0 (by decide) rfl 0 rfl w_529 dX5_feed_105 108 rfl ?_
                  refine ww_getI C cl_X3 (obTape (Nat.le_trans (by decide) hn)) 1 (by decide) rfl w_263 dX5_feed_108 111 rfl ?_
                  exact ww_iret C dX5_feed_111 hr h
                · refine ww_aload_n C 0 dX5_feed_95 rfl rfl 96 rfl ?_
                  refine ww_getS C cl_X5 (obX hn) 0 (by decide) rfl 0 rfl w_529 dX5_feed_96 99 rfl ?_
                  refine ww_iload C 6 dX5_feed_99 rfl 101 rfl ?_
                  refine ww_callVv C (As := [.int a6]) (st := []) h cl_X3.1 (obTape (Nat.le_trans (by decide) hn)) (fun _ _ hF => k_X3_add (Nat.le_trans (by decide) hn) hF) w_377 cm_X3_add (by decide) (by decide) rfl rfl (Nat.le_of_ble_eq_true rfl) dX5_feed_101 104 rfl (fun _ u71 h => ?_)
                  refine ww_aload_n C 0 dX5_feed_104 rfl rfl 105 rfl ?_
                  refine ww_getS C cl_X5 (obX hn) 0 (by decide) rfl 0 rfl w_529 dX5_feed_105 108 rfl ?_
                  refine ww_getI C cl_X3 (obTape (Nat.le_trans (by decide) hn)) 1 (by decide) rfl w_263 dX5_feed_108 111 rfl ?_
                  exact ww_iret C dX5_feed_111 hr h
        · refine ww_bipush C (-4 : Int32) dX5_feed_38 (by decide) 40 rfl ?_
          exact ww_iret C dX5_feed_40 hr h
      · refine ww_bipush C (-2 : Int32) dX5_feed_24 (by decide) 26 rfl ?_
        exact ww_iret C dX5_feed_26 hr h

set_option maxRecDepth 100000 in
set_option maxHeartbeats 4000000 in
theorem k_X5_text {l : Launch} {D : va_G} {ad : Nat → Nat} {cA : Nat → ClassId} {tys : List (ClassId × FieldType)} {n : Nat} {sa : SA} (hn : 73 ≤ n) {N : Nat} {g : Mem} {r : Int32} {g1 : Mem} (h : X5_text N g = some (r, g1)) : CTi l yX5_text (wsm yX5_text cX5_text 2 (some .int)) 116 D YI ad cA tys n sa g [.ref (ad 72)] r g1 := by
  refine ct_of RX5 rfl (by decide +kernel) (Nat.le_of_ble_eq_true rfl) rfl (fun sz => PBi D YI ad cA n r g1 sz) ?_
  intro p e R s m args below meth c C hr
  rw [X5_text] at h
  refine ww_aload_n C 0 dX5_text_0 rfl rfl 1 rfl ?_
  refine ww_getI C cl_X5 (obX hn) 2 (by decide) rfl w_531 dX5_text_1 4 rfl ?_
  refine ww_bipush C (6 : Int32) dX5_text_4 (by decide) 6 rfl ?_
  refine ww_icmp_lt C 12 dX5_text_6 (by decide) h 9 rfl (fun h => ?_) (fun h => ?_)
  · refine ww_aload_n C 0 dX5_text_12 rfl rfl 13 rfl ?_
    refine ww_getS C cl_X5 (obX hn) 0 (by decide) rfl 0 rfl w_529 dX5_text_13 16 rfl ?_
    refine ww_aload_n C 0 dX5_text_16 rfl rfl 17 rfl ?_
    refine ww_getS C cl_X5 (obX hn) 1 (by decide) rfl 2 rfl w_530 dX5_text_17 20 rfl ?_
    refine ww_aload_n C 0 dX5_text_20 rfl rfl 21 rfl ?_
    refine ww_getI C cl_X5 (obX hn) 2 (by decide) rfl w_531 dX5_text_21 24 rfl ?_
    refine ww_aald C (q := 2) (L := 6) (by omega) rfl rfl dX5_text_24 h (4 + 5 * (g.1 72 2).toNatClampNeg) rfl 25 rfl (fun hv7 h => ?_)
    refine ww_callVi C (As := [.ref (ad (4 + 5 * (g.1 72 2).toNatClampNeg))]) (st := []) h cl_X3.1 (obTape (Nat.le_trans (by decide) hn)) (fun _ _ hF => k_X3_readInto (Nat.le_trans (by decide) hn) (isText_at hv7) hF) w_381 cm_X3_readInto (by decide) (by decide) rfl rfl (Nat.le_of_ble_eq_true rfl) dX5_text_25 28 rfl (fun v9 u8 h => ?_)
    refine ww_istore_n C [(1, .int v9), (0, .ref (ad 72))] dX5_text_28 rfl (by decide) rfl 29 rfl ?_
    refine ww_aload_n C 1 dX5_text_29 rfl rfl 30 rfl ?_
    refine ww_getS C cl_X5 (obX hn) 0 (by decide) rfl 0 rfl w_529 dX5_text_30 33 rfl ?_
    refine ww_callVv C (As := []) (st := []) h cl_X3.1 (obTape (Nat.le_trans (by decide) hn)) (fun _ _ hF => k_X3_clear (Nat.le_trans (by decide) hn) hF) w_469 cm_X3_clear (by decide) (by decide) rfl rfl (Nat.le_of_ble_eq_true rfl) dX5_text_33 36 rfl (fun _ u10 h => ?_)
    refine ww_iload_n C 0 dX5_text_36 rfl rfl 37 rfl ?_
    refine ww_if_lt C 45 dX5_text_37 (by decide) h 40 rfl (fun h => ?_) (fun h => ?_)
    · refine ww_aload_n C 1 dX5_text_45 rfl rfl 46 rfl ?_
      refine ww_dup C dX5_text_46 rfl 47 rfl ?_
      refine ww_getI C cl_X5 (obX hn) 2 (by decide) rfl w_531 dX5_text_47 50 rfl ?_
      refine ww_iconst C (1 : Int32) dX5_text_50 (by decide) 51 rfl ?_
      refine ww_iadd C dX5_text_51 52 rfl ?_
      refine ww_putI C cl_X5 (obX hn) 2 (by decide) rfl tyX5 tyX5_ok nmX5 rfl rfl rfl w_531 dX5_text_52 h 55 rfl (fun u12 h => ?_)
      refine ww_aload_n C 1 dX5_text_55 rfl rfl 56 rfl ?_
      refine ww_getI C cl_X5 (obX hn) 2 (by decide) rfl w_531 dX5_text_56 59 rfl ?_
      refine ww_iconst C (1 : Int32) dX5_text_59 (by decide) 60 rfl ?_
      refine ww_isub C dX5_text_60 61 rfl ?_
      exact ww_iret C dX5_text_61 hr h
    · refine ww_bipush C (-100 : Int32) dX5_text_40 (by decide) 42 rfl ?_
      refine ww_iload_n C 0 dX5_text_42 rfl rfl 43 rfl ?_
      refine ww_isub C dX5_text_43 44 rfl ?_
      exact ww_iret C dX5_text_44 hr h
  · refine ww_bipush C (-4 : Int32) dX5_text_9 (by decide) 11 rfl ?_
    exact ww_iret C dX5_text_11 hr h

set_option maxRecDepth 100000 in
set_option maxHeartbeats 4000000 in
theorem k_X5_force {l : Launch} {D : va_G} {ad : Nat → Nat} {cA : Nat → ClassId} {tys : List (ClassId × FieldType)} {n : Nat} {sa : SA} (hn : 73 ≤ n) {N : Nat} {g : Mem} {a1 : Int32} {r : Int32} {g1 : Mem} (h : X5_force N a1 g = some (r, g1)) : CTi l yX5_force (wsm yX5_force cX5_force 3 (some .int)) 2 D YI ad cA tys n sa g [.ref (ad 72), .int a1] r g1 := by
  refine ct_of RX5 rfl (by decide +kernel) (Nat.le_of_ble_eq_true rfl) rfl (fun sz => PBi D YI ad cA n r g1 sz) ?_
  intro p e R s m args below meth c C hr
  rw [X5_force] at h
  refine ww_iload_n C 1 dX5_force_0 rfl rfl 1 rfl ?_
  refine ww_aload_n C 0 dX5_force_1 rfl rfl 2 rfl ?_
  refine ww_getI C cl_X5 (obX hn) 2 (by decide) rfl w_531 dX5_force_2 5 rfl ?_
  refine ww_iconst C (1 : Int32) dX5_force_5 (by decide) 6 rfl ?_
  refine ww_isub C dX5_force_6 7 rfl ?_
  refine ww_callSi C (As := [.int a1, .int ((g.1 72 2) - (1 : Int32))]) (st := []) h (fun _ _ hF => k_X5_isWithin hn hF) w_43 cm_X5_isWithin (by decide) (by decide) rfl rfl (Nat.le_of_ble_eq_true rfl) dX5_force_7 10 rfl (fun v8 u7 h => ?_)
  refine ww_if_ne C 16 dX5_force_10 (by decide) h 13 rfl (fun h => ?_) (fun h => ?_)
  · refine ww_aload_n C 0 dX5_force_16 rfl rfl 17 rfl ?_
    refine ww_getS C cl_X5 (obX hn) 4 (by decide) rfl 42 rfl w_533 dX5_force_17 20 rfl ?_
    refine ww_getM C cl_X1 (obScene (by decide) hn) 11 (by decide) rfl w_502 dX5_force_20 h 23 rfl (fun t9 ht9 h => ?_)
    refine ww_getI C cl_X4 (obText ht9 (Nat.le_trans (by decide) hn)) 0 (by decide) rfl w_295 dX5_force_23 26 rfl ?_
    refine ww_bi h (fun v10 h => ?_)
    refine ww_istore_n C [(2, .int v10), (0, .ref (ad 72)), (1, .int a1)] dX5_force_26 rfl (by decide) rfl 27 rfl ?_
    refine ww_aload_n C 1 dX5_force_27 rfl rfl 28 rfl ?_
    refine ww_getS C cl_X5 (obX hn) 4 (by decide) rfl 42 rfl w_533 dX5_force_28 31 rfl ?_
    refine ww_aload_n C 1 dX5_force_31 rfl rfl 32 rfl ?_
    refine ww_getS C cl_X5 (obX hn) 1 (by decide) rfl 2 rfl w_530 dX5_force_32 35 rfl ?_
    refine ww_iload_n C 2 dX5_force_35 rfl rfl 36 rfl ?_
    refine ww_aald C (q := 2) (L := 6) (by omega) rfl rfl dX5_force_36 h (4 + 5 * (a1).toNatClampNeg) rfl 37 rfl (fun hv11 h => ?_)
    refine ww_putM C cl_X1 (by decide) (obScene (by decide) hn) 11 (by decide) rfl (by decide) tyX1 tyX1_ok nmX1 rfl rfl rfl w_502 dX5_force_37 h 40 rfl (fun u12 h => ?_)
    refine ww_iload_n C 0 dX5_force_40 rfl rfl 41 rfl ?_
    exact ww_iret C dX5_force_41 hr h
  · refine ww_bipush C (-2 : Int32) dX5_force_13 (by decide) 15 rfl ?_
    exact ww_iret C dX5_force_15 hr h

set_option maxRecDepth 100000 in
set_option maxHeartbeats 4000000 in
theorem k_X5_diver {l : Launch} {D : va_G} {ad : Nat → Nat} {cA : Nat → ClassId} {tys : List (ClassId × FieldType)} {n : Nat} {sa : SA} (hn : 73 ≤ n) {N : Nat} {g : Mem} {a1 : Int32} {a2 : Int32} {r : Int32} {g1 : Mem} (h : X5_diver N a1 a2 g = some (r, g1)) : CTi l yX5_diver (wsm yX5_diver cX5_diver 3 (some .int)) 2 D YI ad cA tys n sa g [.ref (ad 72), .int a1, .int a2] r g1 := by
  refine ct_of RX5 rfl (by decide +kernel) (Nat.le_of_ble_eq_true rfl) rfl (fun sz => PBi D YI ad cA n r g1 sz) ?_
  intro p e R s m args below meth c C hr
  rw [X5_diver] at h
  refine ww_iload_n C 1 dX5_diver_0 rfl rfl 1 rfl ?_
  refine ww_bipush C (59 : Int32) dX5_diver_1 (by decide) 3 rfl ?_
  refine ww_callSi C (As := [.int a1, .int (59 : Int32)]) (st := []) h (fun _ _ hF => k_X5_isWithin hn hF) w_43 cm_X5_isWithin (by decide) (by decide) rfl rfl (Nat.le_of_ble_eq_true rfl) dX5_diver_3 6 rfl (fun v8 u7 h => ?_)
  refine ww_if_eq C 18 dX5_diver_6 (by decide) h 9 rfl (fun h => ?_) (fun h => ?_)
  · refine ww_bipush C (-2 : Int32) dX5_diver_18 (by decide) 20 rfl ?_
    exact ww_iret C dX5_diver_20 hr h
  · refine ww_iload_n C 2 dX5_diver_9 rfl rfl 10 rfl ?_
    refine ww_bipush C (99 : Int32) dX5_diver_10 (by decide) 12 rfl ?_
    refine ww_callSi C (As := [.int a2, .int (99 : Int32)]) (st := []) h (fun _ _ hF => k_X5_isWithin hn hF) w_43 cm_X5_isWithin (by decide) (by decide) rfl rfl (Nat.le_of_ble_eq_true rfl) dX5_diver_12 15 rfl (fun v10 u9 h => ?_)
    refine ww_if_ne C 21 dX5_diver_15 (by decide) h 18 rfl (fun h => ?_) (fun h => ?_)
    · refine ww_aload_n C 0 dX5_diver_21 rfl rfl 22 rfl ?_
      refine ww_getS C cl_X5 (obX hn) 4 (by decide) rfl 42 rfl w_533 dX5_diver_22 25 rfl ?_
      refine ww_getI C cl_X1 (obScene (by decide) hn) 9 (by decide) rfl w_497 dX5_diver_25 28 rfl ?_
      refine ww_bipush C (6 : Int32) dX5_diver_28 (by decide) 30 rfl ?_
      refine ww_icmp_lt C 36 dX5_diver_30 (by decide) h 33 rfl (fun h => ?_) (fun h => ?_)
      · refine ww_aload_n C 0 dX5_diver_36 rfl rfl 37 rfl ?_
        refine ww_getS C cl_X5 (obX hn) 4 (by decide) rfl 42 rfl w_533 dX5_diver_37 40 rfl ?_
        refine ww_iload_n C 1 dX5_diver_40 rfl rfl 41 rfl ?_
        refine ww_bipush C (10 : Int32) dX5_diver_41 (by decide) 43 rfl ?_
        refine ww_idiv C dX5_diver_43 h 44 rfl (fun h => ?_)
        refine ww_iload_n C 1 dX5_diver_44 rfl rfl 45 rfl ?_
        refine ww_bipush C (10 : Int32) dX5_diver_45 (by decide) 47 rfl ?_
        refine ww_irem C dX5_diver_47 h 48 rfl (fun h => ?_)
        refine ww_iload_n C 2 dX5_diver_48 rfl rfl 49 rfl ?_
        refine ww_callVi C (As := [.int (a1 / (10 : Int32)), .int (a1 - a1 / (10 : Int32) * (10 : Int32)), .int a2]) (st := []) h cl_X1.1 (obScene (by decide) hn) (fun _ _ hF => k_X1_comes hn (by decide) hF) w_578 cm_X1_comes (by decide) (by decide) rfl rfl (Nat.le_of_ble_eq_true rfl) dX5_diver_49 52 rfl (fun v12 u11 h => ?_)
        exact ww_iret C dX5_diver_52 hr h
      · refine ww_bipush C (-4 : Int32) dX5_diver_33 (by decide) 35 rfl ?_
        exact ww_iret C dX5_diver_35 hr h
    · refine ww_bipush C (-2 : Int32) dX5_diver_18 (by decide) 20 rfl ?_
      exact ww_iret C dX5_diver_20 hr h

set_option maxRecDepth 100000 in
set_option maxHeartbeats 4000000 in
theorem k_X5_isDiver {l : Launch} {D : va_G} {ad : Nat → Nat} {cA : Nat → ClassId} {tys : List (ClassId × FieldType)} {n : Nat} {sa : SA} (hn : 73 ≤ n) {N : Nat} {g : Mem} {a1 : Int32} {r : Int32} {g1 : Mem} (h : X5_isDiver N a1 g = some (r, g1)) : CTi l yX5_isDiver (wsm yX5_isDiver cX5_isDiver 2 (some .boolean)) 2 D YI ad cA tys n sa g [.ref (ad 72), .int a1] r g1 := by
  refine ct_of RX5 rfl (by decide +kernel) (Nat.le_of_ble_eq_true rfl) rfl (fun sz => PBi D YI ad cA n r g1 sz) ?_
  intro p e R s m args below meth c C hr
  rw [X5_isDiver] at h
  refine ww_iload_n C 1 dX5_isDiver_0 rfl rfl 1 rfl ?_
  refine ww_aload_n C 0 dX5_isDiver_1 rfl rfl 2 rfl ?_
  refine ww_getS C cl_X5 (obX hn) 4 (by decide) rfl 42 rfl w_533 dX5_isDiver_2 5 rfl ?_
  refine ww_getI C cl_X1 (obScene (by decide) hn) 9 (by decide) rfl w_497 dX5_isDiver_5 8 rfl ?_
  refine ww_iconst C (1 : Int32) dX5_isDiver_8 (by decide) 9 rfl ?_
  refine ww_isub C dX5_isDiver_9 10 rfl ?_
  refine ww_callSi C (As := [.int a1, .int ((g.1 42 9) - (1 : Int32))]) (st := []) h (fun _ _ hF => k_X5_isWithin hn hF) w_43 cm_X5_isWithin (by decide) (by decide) rfl rfl (Nat.le_of_ble_eq_true rfl) dX5_isDiver_10 13 rfl (fun v4 u3 h => ?_)
  exact ww_zretG C dX5_isDiver_13 hr h

set_option maxRecDepth 100000 in
set_option maxHeartbeats 4000000 in
theorem k_X5_put {l : Launch} {D : va_G} {ad : Nat → Nat} {cA : Nat → ClassId} {tys : List (ClassId × FieldType)} {n : Nat} {sa : SA} (hn : 73 ≤ n) {N : Nat} {g : Mem} {a1 : Int32} {a2 : Int32} {r : Int32} {g1 : Mem} (h : X5_put N a1 a2 g = some (r, g1)) : CTi l yX5_put (wsm yX5_put cX5_put 4 (some .int)) 3 D YI ad cA tys n sa g [.ref (ad 72), .int a1, .int a2] r g1 := by
  refine ct_of RX5 rfl (by decide +kernel) (Nat.le_of_ble_eq_true rfl) rfl (fun sz => PBi D YI ad cA n r g1 sz) ?_
  intro p e R s m args below meth c C hr
  rw [X5_put] at h
  refine ww_aload_n C 0 dX5_put_0 rfl rfl 1 rfl ?_
  refine ww_iload_n C 1 dX5_put_1 rfl rfl 2 rfl ?_
  refine ww_callVi C (As := [.int a1]) (st := []) h cl_X5.1 (obX hn) (fun _ _ hF => k_X5_isDiver hn hF) w_72 cm_X5_isDiver (by decide) (by decide) rfl rfl (Nat.le_of_ble_eq_true rfl) dX5_put_2 5 rfl (fun v8 u7 h => ?_)
  refine ww_if_ne C 11 dX5_put_5 (by decide) h 8 rfl (fun h => ?_) (fun h => ?_)
  · refine ww_iload_n C 2 dX5_put_11 rfl rfl 12 rfl ?_
    refine ww_bipush C (99 : Int32) dX5_put_12 (by decide) 14 rfl ?_
    refine ww_callSi C (As := [.int a2, .int (99 : Int32)]) (st := []) h (fun _ _ hF => k_X5_isWithin hn hF) w_43 cm_X5_isWithin (by decide) (by decide) rfl rfl (Nat.le_of_ble_eq_true rfl) dX5_put_14 17 rfl (fun v10 u9 h => ?_)
    refine ww_if_ne C 23 dX5_put_17 (by decide) h 20 rfl (fun h => ?_) (fun h => ?_)
    · refine ww_aload_n C 0 dX5_put_23 rfl rfl 24 rfl ?_
      refine ww_getS C cl_X5 (obX hn) 4 (by decide) rfl 42 rfl w_533 dX5_put_24 27 rfl ?_
      refine ww_getS C cl_X1 (obScene (by decide) hn) 7 (by decide) rfl 50 rfl w_494 dX5_put_27 30 rfl ?_
      refine ww_iload_n C 1 dX5_put_30 rfl rfl 31 rfl ?_
      refine ww_iald C (iaScene (q := 42) (by decide) hn 8 6 (by decide)) dX5_put_31 h 32 rfl (fun h => ?_)
      refine ww_bi h (fun v11 h => ?_)
      refine ww_istore_n C [(3, .int v11), (0, .ref (ad 72)), (1, .int a1), (2, .int a2)] dX5_put_32 rfl (by decide) rfl 33 rfl ?_
      refine ww_aload_n C 1 dX5_put_33 rfl rfl 34 rfl ?_
      refine ww_getS C cl_X5 (obX hn) 4 (by decide) rfl 42 rfl w_533 dX5_put_34 37 rfl ?_
      refine ww_getS C cl_X1 (obScene (by decide) hn) 7 (by decide) rfl 50 rfl w_494 dX5_put_37 40 rfl ?_
      refine ww_iload_n C 2 dX5_put_40 rfl rfl 41 rfl ?_
      refine ww_iload_n C 3 dX5_put_41 rfl rfl 42 rfl ?_
      refine ww_iast C (iaScene (q := 42) (by decide) hn 8 6 (by decide)) dX5_put_42 h 43 rfl (fun u12 h => ?_)
      refine ww_iload_n C 0 dX5_put_43 rfl rfl 44 rfl ?_
      exact ww_iret C dX5_put_44 hr h
    · refine ww_bipush C (-7 : Int32) dX5_put_20 (by decide) 22 rfl ?_
      exact ww_iret C dX5_put_22 hr h
  · refine ww_bipush C (-5 : Int32) dX5_put_8 (by decide) 10 rfl ?_
    exact ww_iret C dX5_put_10 hr h

set_option maxRecDepth 100000 in
set_option maxHeartbeats 4000000 in
theorem k_X5_told {l : Launch} {D : va_G} {ad : Nat → Nat} {cA : Nat → ClassId} {tys : List (ClassId × FieldType)} {n : Nat} {sa : SA} (hn : 73 ≤ n) {N : Nat} {g : Mem} {a1 : Int32} {a2 : Int32} {r : Int32} {g1 : Mem} (h : X5_told N a1 a2 g = some (r, g1)) : CTi l yX5_told (wsm yX5_told cX5_told 3 (some .int)) 7 D YI ad cA tys n sa g [.ref (ad 72), .int a1, .int a2] r g1 := by
  refine ct_of RX5 rfl (by decide +kernel) (Nat.le_of_ble_eq_true rfl) rfl (fun sz => PBi D YI ad cA n r g1 sz) ?_
  intro p e R s m args below meth c C hr
  rw [X5_told] at h
  refine ww_aload_n C 0 dX5_told_0 rfl rfl 1 rfl ?_
  refine ww_iload_n C 1 dX5_told_1 rfl rfl 2 rfl ?_
  refine ww_callVi C (As := [.int a1]) (st := []) h cl_X5.1 (obX hn) (fun _ _ hF => k_X5_isDiver hn hF) w_72 cm_X5_isDiver (by decide) (by decide) rfl rfl (Nat.le_of_ble_eq_true rfl) dX5_told_2 5 rfl (fun v20 u19 h => ?_)
  refine ww_if_ne C 11 dX5_told_5 (by decide) h 8 rfl (fun h => ?_) (fun h => ?_)
  · refine ww_iload_n C 2 dX5_told_11 rfl rfl 12 rfl ?_
    refine sw_1 h (fun e21 h => ?_) (fun n22 h => ?_)
    · refine ww_tin C (v := (0 : Int32)) e21 52 dX5_told_12 (by decide) (by decide) rfl (by decide) ?_
      refine ww_aload_n C 0 dX5_told_52 rfl rfl 53 rfl ?_
      refine ww_getS C cl_X5 (obX hn) 4 (by decide) rfl 42 rfl w_533 dX5_told_53 56 rfl ?_
      refine ww_getS C cl_X1 (obScene (by decide) hn) 7 (by decide) rfl 50 rfl w_494 dX5_told_56 59 rfl ?_
      refine ww_iload_n C 1 dX5_told_59 rfl rfl 60 rfl ?_
      refine ww_iald C (iaScene (q := 42) (by decide) hn 8 6 (by decide)) dX5_told_60 h 61 rfl (fun h => ?_)
      exact ww_iret C dX5_told_61 hr h
    refine sw_1 h (fun e23 h => ?_) (fun n24 h => ?_)
    · refine ww_tin C (v := (1 : Int32)) e23 62 dX5_told_12 (by decide) (by decide) rfl (by decide) ?_
      refine ww_aload_n C 0 dX5_told_62 rfl rfl 63 rfl ?_
      refine ww_getS C cl_X5 (obX hn) 4 (by decide) rfl 42 rfl w_533 dX5_told_63 66 rfl ?_
      refine ww_getS C cl_X1 (obScene (by decide) hn) 8 (by decide) rfl 51 rfl w_496 dX5_told_66 69 rfl ?_
      refine ww_iload_n C 1 dX5_told_69 rfl rfl 70 rfl ?_
      refine ww_iald C (iaScene (q := 42) (by decide) hn 9 6 (by decide)) dX5_told_70 h 71 rfl (fun h => ?_)
      exact ww_iret C dX5_told_71 hr h
    refine sw_1 h (fun e25 h => ?_) (fun n26 h => ?_)
    · refine ww_tin C (v := (2 : Int32)) e25 72 dX5_told_12 (by decide) (by decide) rfl (by decide) ?_
      refine ww_aload_n C 0 dX5_told_72 rfl rfl 73 rfl ?_
      refine ww_getS C cl_X5 (obX hn) 4 (by decide) rfl 42 rfl w_533 dX5_told_73 76 rfl ?_
      refine ww_getS C cl_X1 (obScene (by decide) hn) 5 (by decide) rfl 48 rfl w_490 dX5_told_76 79 rfl ?_
      refine ww_iload_n C 1 dX5_told_79 rfl rfl 80 rfl ?_
      refine ww_iald C (iaScene (q := 42) (by decide) hn 6 6 (by decide)) dX5_told_80 h 81 rfl (fun h => ?_)
      exact ww_iret C dX5_told_81 hr h
    refine sw_1 h (fun e27 h => ?_) (fun n28 h => ?_)
    · refine ww_tin C (v := (3 : Int32)) e27 82 dX5_told_12 (by decide) (by decide) rfl (by decide) ?_
      refine ww_aload_n C 0 dX5_told_82 rfl rfl 83 rfl ?_
      refine ww_getS C cl_X5 (obX hn) 4 (by decide) rfl 42 rfl w_533 dX5_told_83 86 rfl ?_
      refine ww_getS C cl_X1 (obScene (by decide) hn) 6 (by decide) rfl 49 rfl w_492 dX5_told_86 89 rfl ?_
      refine ww_iload_n C 1 dX5_told_89 rfl rfl 90 rfl ?_
      refine ww_iald C (iaScene (q := 42) (by decide) hn 7 6 (by decide)) dX5_told_90 h 91 rfl (fun h => ?_)
      exact ww_iret C dX5_told_91 hr h
    refine sw_1 h (fun e29 h => ?_) (fun n30 h => ?_)
    · refine ww_tin C (v := (4 : Int32)) e29 92 dX5_told_12 (by decide) (by decide) rfl (by decide) ?_
      refine ww_aload_n C 0 dX5_told_92 rfl rfl 93 rfl ?_
      refine ww_getS C cl_X5 (obX hn) 4 (by decide) rfl 42 rfl w_533 dX5_told_93 96 rfl ?_
      refine ww_iload_n C 1 dX5_told_96 rfl rfl 97 rfl ?_
      refine ww_callVi C (As := [.int a1]) (st := []) h cl_X1.1 (obScene (by decide) hn) (fun _ _ hF => k_X1_casksFor hn (by decide) hF) w_80 cm_X1_casksFor (by decide) (by decide) rfl rfl (Nat.le_of_ble_eq_true rfl) dX5_told_97 100 rfl (fun v32 u31 h => ?_)
      exact ww_iret C dX5_told_100 hr h
    refine sw_1 h (fun e33 h => ?_) (fun n34 h => ?_)
    · refine ww_tin C (v := (5 : Int32)) e33 101 dX5_told_12 (by decide) (by decide) rfl (by decide) ?_
      refine ww_aload_n C 0 dX5_told_101 rfl rfl 102 rfl ?_
      refine ww_getS C cl_X5 (obX hn) 4 (by decide) rfl 42 rfl w_533 dX5_told_102 105 rfl ?_
      refine ww_getS C cl_X1 (obScene (by decide) hn) 5 (by decide) rfl 48 rfl w_490 dX5_told_105 108 rfl ?_
      refine ww_iload_n C 1 dX5_told_108 rfl rfl 109 rfl ?_
      refine ww_iald C (iaScene (q := 42) (by decide) hn 6 6 (by decide)) dX5_told_109 h 110 rfl (fun h => ?_)
      refine ww_aload_n C 0 dX5_told_110 rfl rfl 111 rfl ?_
      refine ww_getS C cl_X5 (obX hn) 4 (by decide) rfl 42 rfl w_533 dX5_told_111 114 rfl ?_
      refine ww_getS C cl_X1 (obScene (by decide) hn) 6 (by decide) rfl 49 rfl w_492 dX5_told_114 117 rfl ?_
      refine ww_iload_n C 1 dX5_told_117 rfl rfl 118 rfl ?_
      refine ww_iald C (iaScene (q := 42) (by decide) hn 7 6 (by decide)) dX5_told_118 h 119 rfl (fun h => ?_)
      refine ww_callSi C (As := [.int (u19.1 48 (a1).toNatClampNeg), .int (u19.1 49 (a1).toNatClampNeg)]) (st := []) h (fun _ _ hF => k_X0_breathing hn hF) w_126 cm_X0_breathing (by decide) (by decide) rfl rfl (Nat.le_of_ble_eq_true rfl) dX5_told_119 122 rfl (fun v36 u35 h => ?_)
      exact ww_iret C dX5_told_122 hr h
    refine ww_tout C 123 dX5_told_12 (by have q0 := sw_ne (z := 0) n22 rfl; have q1 := sw_ne (z := 1) n24 rfl; have q2 := sw_ne (z := 2) n26 rfl; have q3 := sw_ne (z := 3) n28 rfl; have q4 := sw_ne (z := 4) n30 rfl; have q5 := sw_ne (z := 5) n34 rfl; omega) (by decide) ?_
    refine ww_bipush C (-7 : Int32) dX5_told_123 (by decide) 125 rfl ?_
    exact ww_iret C dX5_told_125 hr h
  · refine ww_bipush C (-5 : Int32) dX5_told_8 (by decide) 10 rfl ?_
    exact ww_iret C dX5_told_10 hr h

set_option maxRecDepth 100000 in
set_option maxHeartbeats 4000000 in
theorem k_X5_dives {l : Launch} {D : va_G} {ad : Nat → Nat} {cA : Nat → ClassId} {tys : List (ClassId × FieldType)} {n : Nat} {sa : SA} (hn : 73 ≤ n) {N : Nat} {g : Mem} {a1 : Int32} {a2 : Int32} {a3 : Int32} {r : Int32} {g1 : Mem} (h : X5_dives N a1 a2 a3 g = some (r, g1)) : CTi l yX5_dives (wsm yX5_dives cX5_dives 4 (some .int)) 6 D YI ad cA tys n sa g [.ref (ad 72), .int a1, .int a2, .int a3] r g1 := by
  refine ct_of RX5 rfl (by decide +kernel) (Nat.le_of_ble_eq_true rfl) rfl (fun sz => PBi D YI ad cA n r g1 sz) ?_
  intro p e R s m args below meth c C hr
  rw [X5_dives] at h
  refine ww_aload_n C 0 dX5_dives_0 rfl rfl 1 rfl ?_
  refine ww_iload_n C 1 dX5_dives_1 rfl rfl 2 rfl ?_
  refine ww_callVi C (As := [.int a1]) (st := []) h cl_X5.1 (obX hn) (fun _ _ hF => k_X5_isDiver hn hF) w_72 cm_X5_isDiver (by decide) (by decide) rfl rfl (Nat.le_of_ble_eq_true rfl) dX5_dives_2 5 rfl (fun v18 u17 h => ?_)
  refine ww_if_eq C 15 dX5_dives_5 (by decide) h 8 rfl (fun h => ?_) (fun h => ?_)
  · refine ww_bipush C (-5 : Int32) dX5_dives_15 (by decide) 17 rfl ?_
    exact ww_iret C dX5_dives_17 hr h
  · refine ww_iload_n C 2 dX5_dives_8 rfl rfl 9 rfl ?_
    refine ww_callSi C (As := [.int a2]) (st := []) h (fun _ _ hF => k_X5_isCask hn hF) w_40 cm_X5_isCask (by decide) (by decide) rfl rfl (Nat.le_of_ble_eq_true rfl) dX5_dives_9 12 rfl (fun v20 u19 h => ?_)
    refine ww_if_ne C 18 dX5_dives_12 (by decide) h 15 rfl (fun h => ?_) (fun h => ?_)
    · refine ww_iload_n C 3 dX5_dives_18 rfl rfl 19 rfl ?_
      refine sw_1 h (fun e21 h => ?_) (fun n22 h => ?_)
      · refine ww_tin C (v := (0 : Int32)) e21 44 dX5_dives_19 (by decide) (by decide) rfl (by decide) ?_
        refine ww_aload_n C 0 dX5_dives_44 rfl rfl 45 rfl ?_
        refine ww_getS C cl_X5 (obX hn) 4 (by decide) rfl 42 rfl w_533 dX5_dives_45 48 rfl ?_
        refine ww_iload_n C 1 dX5_dives_48 rfl rfl 49 rfl ?_
        refine ww_iload_n C 2 dX5_dives_49 rfl rfl 50 rfl ?_
        refine ww_callVi C (As := [.int a1, .int a2]) (st := []) h cl_X1.1 (obScene (by decide) hn) (fun _ _ hF => k_X1_reach hn (by decide) hF) w_133 cm_X1_reach (by decide) (by decide) rfl rfl (Nat.le_of_ble_eq_true rfl) dX5_dives_50 53 rfl (fun v24 u23 h => ?_)
        exact ww_iret C dX5_dives_53 hr h
      refine sw_1 h (fun e25 h => ?_) (fun n26 h => ?_)
      · refine ww_tin C (v := (1 : Int32)) e25 54 dX5_dives_19 (by decide) (by decide) rfl (by decide) ?_
        refine ww_aload_n C 0 dX5_dives_54 rfl rfl 55 rfl ?_
        refine ww_getS C cl_X5 (obX hn) 4 (by decide) rfl 42 rfl w_533 dX5_dives_55 58 rfl ?_
        refine ww_iload_n C 1 dX5_dives_58 rfl rfl 59 rfl ?_
        refine ww_iload_n C 2 dX5_dives_59 rfl rfl 60 rfl ?_
        refine ww_callVi C (As := [.int a1, .int a2]) (st := []) h cl_X1.1 (obScene (by decide) hn) (fun _ _ hF => k_X1_cost hn (by decide) hF) w_134 cm_X1_cost (by decide) (by decide) rfl rfl (Nat.le_of_ble_eq_true rfl) dX5_dives_60 63 rfl (fun v28 u27 h => ?_)
        exact ww_iret C dX5_dives_63 hr h
      refine sw_1 h (fun e29 h => ?_) (fun n30 h => ?_)
      · refine ww_tin C (v := (2 : Int32)) e29 64 dX5_dives_19 (by decide) (by decide) rfl (by decide) ?_
        refine ww_aload_n C 0 dX5_dives_64 rfl rfl 65 rfl ?_
        refine ww_getS C cl_X5 (obX hn) 4 (by decide) rfl 42 rfl w_533 dX5_dives_65 68 rfl ?_
        refine ww_iload_n C 1 dX5_dives_68 rfl rfl 69 rfl ?_
        refine ww_iload_n C 2 dX5_dives_69 rfl rfl 70 rfl ?_
        refine ww_callVi C (As := [.int a1, .int a2]) (st := []) h cl_X1.1 (obScene (by decide) hn) (fun _ _ hF => k_X1_can hn (by decide) hF) w_135 cm_X1_can (by decide) (by decide) rfl rfl (Nat.le_of_ble_eq_true rfl) dX5_dives_70 73 rfl (fun v32 u31 h => ?_)
        refine ww_if_eq C 80 dX5_dives_73 (by decide) h 76 rfl (fun h => ?_) (fun h => ?_)
        · refine ww_iconst C (0 : Int32) dX5_dives_80 (by decide) 81 rfl ?_
          exact ww_iret C dX5_dives_81 hr h
        · refine ww_iconst C (1 : Int32) dX5_dives_76 (by decide) 77 rfl ?_
          refine ww_goto C 81 dX5_dives_77 (by decide) ?_
          exact ww_iret C dX5_dives_81 hr h
      refine ww_tout C 82 dX5_dives_19 (by have q0 := sw_ne (z := 0) n22 rfl; have q1 := sw_ne (z := 1) n26 rfl; have q2 := sw_ne (z := 2) n30 rfl; omega) (by decide) ?_
      refine ww_bipush C (-7 : Int32) dX5_dives_82 (by decide) 84 rfl ?_
      exact ww_iret C dX5_dives_84 hr h
    · refine ww_bipush C (-5 : Int32) dX5_dives_15 (by decide) 17 rfl ?_
      exact ww_iret C dX5_dives_17 hr h

set_option maxRecDepth 100000 in
set_option maxHeartbeats 4000000 in
theorem k_X5_dive {l : Launch} {D : va_G} {ad : Nat → Nat} {cA : Nat → ClassId} {tys : List (ClassId × FieldType)} {n : Nat} {sa : SA} (hn : 73 ≤ n) {N : Nat} {g : Mem} {a1 : Int32} {a2 : Int32} {r : Int32} {g1 : Mem} (h : X5_dive N a1 a2 g = some (r, g1)) : CTi l yX5_dive (wsm yX5_dive cX5_dive 3 (some .int)) 6 D YI ad cA tys n sa g [.ref (ad 72), .int a1, .int a2] r g1 := by
  refine ct_of RX5 rfl (by decide +kernel) (Nat.le_of_ble_eq_true rfl) rfl (fun sz => PBi D YI ad cA n r g1 sz) ?_
  intro p e R s m args below meth c C hr
  rw [X5_dive] at h
  refine ww_aload_n C 0 dX5_dive_0 rfl rfl 1 rfl ?_
  refine ww_iload_n C 1 dX5_dive_1 rfl rfl 2 rfl ?_
  refine ww_callVi C (As := [.int a1]) (st := []) h cl_X5.1 (obX hn) (fun _ _ hF => k_X5_isDiver hn hF) w_72 cm_X5_isDiver (by decide) (by decide) rfl rfl (Nat.le_of_ble_eq_true rfl) dX5_dive_2 5 rfl (fun v10 u9 h => ?_)
  refine ww_if_ne C 11 dX5_dive_5 (by decide) h 8 rfl (fun h => ?_) (fun h => ?_)
  · refine ww_iload_n C 2 dX5_dive_11 rfl rfl 12 rfl ?_
    refine ww_callSi C (As := [.int a2]) (st := []) h (fun _ _ hF => k_X5_isCask hn hF) w_40 cm_X5_isCask (by decide) (by decide) rfl rfl (Nat.le_of_ble_eq_true rfl) dX5_dive_12 15 rfl (fun v12 u11 h => ?_)
    refine ww_if_ne C 21 dX5_dive_15 (by decide) h 18 rfl (fun h => ?_) (fun h => ?_)
    · refine ww_aload_n C 0 dX5_dive_21 rfl rfl 22 rfl ?_
      refine ww_getS C cl_X5 (obX hn) 4 (by decide) rfl 42 rfl w_533 dX5_dive_22 25 rfl ?_
      refine ww_iload_n C 1 dX5_dive_25 rfl rfl 26 rfl ?_
      refine ww_iload_n C 2 dX5_dive_26 rfl rfl 27 rfl ?_
      refine ww_callVi C (As := [.int a1, .int a2]) (st := []) h cl_X1.1 (obScene (by decide) hn) (fun _ _ hF => k_X1_can hn (by decide) hF) w_135 cm_X1_can (by decide) (by decide) rfl rfl (Nat.le_of_ble_eq_true rfl) dX5_dive_27 30 rfl (fun v14 u13 h => ?_)
      refine ww_if_ne C 36 dX5_dive_30 (by decide) h 33 rfl (fun h => ?_) (fun h => ?_)
      · refine ww_aload_n C 0 dX5_dive_36 rfl rfl 37 rfl ?_
        refine ww_getS C cl_X5 (obX hn) 4 (by decide) rfl 42 rfl w_533 dX5_dive_37 40 rfl ?_
        refine ww_iload_n C 1 dX5_dive_40 rfl rfl 41 rfl ?_
        refine ww_iload_n C 2 dX5_dive_41 rfl rfl 42 rfl ?_
        refine ww_callVv C (As := [.int a1, .int a2]) (st := []) h cl_X1.1 (obScene (by decide) hn) (fun _ _ hF => k_X1_bringUp hn (by decide) hF) w_140 cm_X1_bringUp (by decide) (by decide) rfl rfl (Nat.le_of_ble_eq_true rfl) dX5_dive_42 45 rfl (fun _ u15 h => ?_)
        refine ww_aload_n C 0 dX5_dive_45 rfl rfl 46 rfl ?_
        refine ww_getS C cl_X5 (obX hn) 4 (by decide) rfl 42 rfl w_533 dX5_dive_46 49 rfl ?_
        refine ww_getS C cl_X1 (obScene (by decide) hn) 7 (by decide) rfl 50 rfl w_494 dX5_dive_49 52 rfl ?_
        refine ww_iload_n C 1 dX5_dive_52 rfl rfl 53 rfl ?_
        refine ww_iald C (iaScene (q := 42) (by decide) hn 8 6 (by decide)) dX5_dive_53 h 54 rfl (fun h => ?_)
        exact ww_iret C dX5_dive_54 hr h
      · refine ww_bipush C (-3 : Int32) dX5_dive_33 (by decide) 35 rfl ?_
        exact ww_iret C dX5_dive_35 hr h
    · refine ww_bipush C (-6 : Int32) dX5_dive_18 (by decide) 20 rfl ?_
      exact ww_iret C dX5_dive_20 hr h
  · refine ww_bipush C (-5 : Int32) dX5_dive_8 (by decide) 10 rfl ?_
    exact ww_iret C dX5_dive_10 hr h

set_option maxRecDepth 100000 in
set_option maxHeartbeats 4000000 in
theorem k_X5_open {l : Launch} {D : va_G} {ad : Nat → Nat} {cA : Nat → ClassId} {tys : List (ClassId × FieldType)} {n : Nat} {sa : SA} (hn : 73 ≤ n) {N : Nat} {g : Mem} {a1 : Int32} {r : Int32} {g1 : Mem} (h : X5_open N a1 g = some (r, g1)) : CTi l yX5_open (wsm yX5_open cX5_open 2 (some .int)) 4 D YI ad cA tys n sa g [.ref (ad 72), .int a1] r g1 := by
  refine ct_of RX5 rfl (by decide +kernel) (Nat.le_of_ble_eq_true rfl) rfl (fun sz => PBi D YI ad cA n r g1 sz) ?_
  intro p e R s m args below meth c C hr
  rw [X5_open] at h
  refine ww_iload_n C 1 dX5_open_0 rfl rfl 1 rfl ?_
  refine ww_callSi C (As := [.int a1]) (st := []) h (fun _ _ hF => k_X5_isCask hn hF) w_40 cm_X5_isCask (by decide) (by decide) rfl rfl (Nat.le_of_ble_eq_true rfl) dX5_open_1 4 rfl (fun v6 u5 h => ?_)
  refine ww_if_ne C 10 dX5_open_4 (by decide) h 7 rfl (fun h => ?_) (fun h => ?_)
  · refine ww_aload_n C 0 dX5_open_10 rfl rfl 11 rfl ?_
    refine ww_getS C cl_X5 (obX hn) 4 (by decide) rfl 42 rfl w_533 dX5_open_11 14 rfl ?_
    refine ww_getS C cl_X1 (obScene (by decide) hn) 4 (by decide) rfl 47 rfl w_488 dX5_open_14 17 rfl ?_
    refine ww_iload_n C 1 dX5_open_17 rfl rfl 18 rfl ?_
    refine ww_iald C (iaScene (q := 42) (by decide) hn 5 12 (by decide)) dX5_open_18 h 19 rfl (fun h => ?_)
    refine ww_iconst C (1 : Int32) dX5_open_19 (by decide) 20 rfl ?_
    refine ww_icmp_eq C 26 dX5_open_20 (by decide) h 23 rfl (fun h => ?_) (fun h => ?_)
    · refine ww_aload_n C 0 dX5_open_26 rfl rfl 27 rfl ?_
      refine ww_getS C cl_X5 (obX hn) 4 (by decide) rfl 42 rfl w_533 dX5_open_27 30 rfl ?_
      refine ww_iload_n C 1 dX5_open_30 rfl rfl 31 rfl ?_
      refine ww_callVv C (As := [.int a1]) (st := []) h cl_X1.1 (obScene (by decide) hn) (fun _ _ hF => k_X1_letLoose hn (by decide) hF) w_148 cm_X1_letLoose (by decide) (by decide) rfl rfl (Nat.le_of_ble_eq_true rfl) dX5_open_31 34 rfl (fun _ u7 h => ?_)
      refine ww_aload_n C 0 dX5_open_34 rfl rfl 35 rfl ?_
      refine ww_getS C cl_X5 (obX hn) 4 (by decide) rfl 42 rfl w_533 dX5_open_35 38 rfl ?_
      refine ww_getS C cl_X1 (obScene (by decide) hn) 0 (by decide) rfl 43 rfl w_480 dX5_open_38 41 rfl ?_
      refine ww_aload_n C 0 dX5_open_41 rfl rfl 42 rfl ?_
      refine ww_getS C cl_X5 (obX hn) 4 (by decide) rfl 42 rfl w_533 dX5_open_42 45 rfl ?_
      refine ww_getS C cl_X1 (obScene (by decide) hn) 1 (by decide) rfl 44 rfl w_482 dX5_open_45 48 rfl ?_
      refine ww_iload_n C 1 dX5_open_48 rfl rfl 49 rfl ?_
      refine ww_iald C (iaScene (q := 42) (by decide) hn 2 12 (by decide)) dX5_open_49 h 50 rfl (fun h => ?_)
      refine ww_iald C (iaScene (q := 42) (by decide) hn 1 6 (by decide)) dX5_open_50 h 51 rfl (fun h => ?_)
      exact ww_iret C dX5_open_51 hr h
    · refine ww_bipush C (-3 : Int32) dX5_open_23 (by decide) 25 rfl ?_
      exact ww_iret C dX5_open_25 hr h
  · refine ww_bipush C (-6 : Int32) dX5_open_7 (by decide) 9 rfl ?_
    exact ww_iret C dX5_open_9 hr h

set_option maxRecDepth 100000 in
set_option maxHeartbeats 4000000 in
theorem k_X5_hour {l : Launch} {D : va_G} {ad : Nat → Nat} {cA : Nat → ClassId} {tys : List (ClassId × FieldType)} {n : Nat} {sa : SA} (hn : 73 ≤ n) {N : Nat} {g : Mem} {r : Int32} {g1 : Mem} (h : X5_hour N g = some (r, g1)) : CTi l yX5_hour (wsm yX5_hour cX5_hour 1 (some .int)) 6 D YI ad cA tys n sa g [.ref (ad 72)] r g1 := by
  refine ct_of RX5 rfl (by decide +kernel) (Nat.le_of_ble_eq_true rfl) rfl (fun sz => PBi D YI ad cA n r g1 sz) ?_
  intro p e R s m args below meth c C hr
  rw [X5_hour] at h
  refine ww_aload_n C 0 dX5_hour_0 rfl rfl 1 rfl ?_
  refine ww_getS C cl_X5 (obX hn) 4 (by decide) rfl 42 rfl w_533 dX5_hour_1 4 rfl ?_
  refine ww_getI C cl_X1 (obScene (by decide) hn) 10 (by decide) rfl w_499 dX5_hour_4 7 rfl ?_
  refine ww_sipush C (999 : Int32) dX5_hour_7 (by decide) 10 rfl ?_
  refine ww_icmp_lt C 16 dX5_hour_10 (by decide) h 13 rfl (fun h => ?_) (fun h => ?_)
  · refine ww_aload_n C 0 dX5_hour_16 rfl rfl 17 rfl ?_
    refine ww_getS C cl_X5 (obX hn) 4 (by decide) rfl 42 rfl w_533 dX5_hour_17 20 rfl ?_
    refine ww_iconst C (1 : Int32) dX5_hour_20 (by decide) 21 rfl ?_
    refine ww_callVv C (As := [.int (1 : Int32)]) (st := []) h cl_X1.1 (obScene (by decide) hn) (fun _ _ hF => k_X1_passHours hn (by decide) hF) w_161 cm_X1_passHours (by decide) (by decide) rfl rfl (Nat.le_of_ble_eq_true rfl) dX5_hour_21 24 rfl (fun _ u5 h => ?_)
    refine ww_aload_n C 0 dX5_hour_24 rfl rfl 25 rfl ?_
    refine ww_getS C cl_X5 (obX hn) 4 (by decide) rfl 42 rfl w_533 dX5_hour_25 28 rfl ?_
    refine ww_callVi C (As := []) (st := []) h cl_X1.1 (obScene (by decide) hn) (fun _ _ hF => k_X1_mainSort hn (by decide) hF) w_175 cm_X1_mainSort (by decide) (by decide) rfl rfl (Nat.le_of_ble_eq_true rfl) dX5_hour_28 31 rfl (fun v8 u7 h => ?_)
    exact ww_iret C dX5_hour_31 hr h
  · refine ww_bipush C (-3 : Int32) dX5_hour_13 (by decide) 15 rfl ?_
    exact ww_iret C dX5_hour_15 hr h

set_option maxRecDepth 100000 in
set_option maxHeartbeats 4000000 in
theorem k_X5_bay {l : Launch} {D : va_G} {ad : Nat → Nat} {cA : Nat → ClassId} {tys : List (ClassId × FieldType)} {n : Nat} {sa : SA} (hn : 73 ≤ n) {N : Nat} {g : Mem} {a1 : Int32} {r : Int32} {g1 : Mem} (h : X5_bay N a1 g = some (r, g1)) : CTi l yX5_bay (wsm yX5_bay cX5_bay 2 (some .int)) 4 D YI ad cA tys n sa g [.ref (ad 72), .int a1] r g1 := by
  refine ct_of RX5 rfl (by decide +kernel) (Nat.le_of_ble_eq_true rfl) rfl (fun sz => PBi D YI ad cA n r g1 sz) ?_
  intro p e R s m args below meth c C hr
  rw [X5_bay] at h
  refine ww_iload_n C 1 dX5_bay_0 rfl rfl 1 rfl ?_
  refine ww_bipush C (7 : Int32) dX5_bay_1 (by decide) 3 rfl ?_
  refine ww_callSi C (As := [.int a1, .int (7 : Int32)]) (st := []) h (fun _ _ hF => k_X5_isWithin hn hF) w_43 cm_X5_isWithin (by decide) (by decide) rfl rfl (Nat.le_of_ble_eq_true rfl) dX5_bay_3 6 rfl (fun v6 u5 h => ?_)
  refine ww_if_eq C 20 dX5_bay_6 (by decide) h 9 rfl (fun h => ?_) (fun h => ?_)
  · refine ww_sipush C (-1000 : Int32) dX5_bay_20 (by decide) 23 rfl ?_
    exact ww_iret C dX5_bay_23 hr h
  · refine ww_aload_n C 0 dX5_bay_9 rfl rfl 10 rfl ?_
    refine ww_getS C cl_X5 (obX hn) 4 (by decide) rfl 42 rfl w_533 dX5_bay_10 13 rfl ?_
    refine ww_iload_n C 1 dX5_bay_13 rfl rfl 14 rfl ?_
    refine ww_callVi C (As := [.int a1]) (st := []) h cl_X1.1 (obScene (by decide) hn) (fun _ _ hF => k_X1_overBay hn (by decide) hF) w_183 cm_X1_overBay (by decide) (by decide) rfl rfl (Nat.le_of_ble_eq_true rfl) dX5_bay_14 17 rfl (fun v8 u7 h => ?_)
    refine ww_goto C 23 dX5_bay_17 (by decide) ?_
    exact ww_iret C dX5_bay_23 hr h

set_option maxRecDepth 100000 in
set_option maxHeartbeats 4000000 in
theorem k_X5_run {l : Launch} {D : va_G} {ad : Nat → Nat} {cA : Nat → ClassId} {tys : List (ClassId × FieldType)} {n : Nat} {sa : SA} (hn : 73 ≤ n) {N : Nat} {g : Mem} {a1 : Int32} {a2 : Int32} {r : Int32} {g1 : Mem} (h : X5_run N a1 a2 g = some (r, g1)) : CTi l yX5_run (wsm yX5_run cX5_run 5 (some .int)) 6 D YI ad cA tys n sa g [.ref (ad 72), .int a1, .int a2] r g1 := by
  refine ct_of RX5 rfl (by decide +kernel) (Nat.le_of_ble_eq_true rfl) rfl (fun sz => PBi D YI ad cA n r g1 sz) ?_
  intro p e R s m args below meth c C hr
  rw [X5_run] at h
  refine ww_iload_n C 2 dX5_run_0 rfl rfl 1 rfl ?_
  refine ww_bipush C (7 : Int32) dX5_run_1 (by decide) 3 rfl ?_
  refine ww_callSi C (As := [.int a2, .int (7 : Int32)]) (st := []) h (fun _ _ hF => k_X5_isWithin hn hF) w_43 cm_X5_isWithin (by decide) (by decide) rfl rfl (Nat.le_of_ble_eq_true rfl) dX5_run_3 6 rfl (fun v48 u47 h => ?_)
  refine ww_istore_n C [(3, .int v48), (0, .ref (ad 72)), (1, .int a1), (2, .int a2)] dX5_run_6 rfl (by decide) rfl 7 rfl ?_
  refine ww_iload_n C 3 dX5_run_7 rfl rfl 8 rfl ?_
  refine ww_bipush C (10 : Int32) dX5_run_8 (by decide) 10 rfl ?_
  refine ww_icmp_lt C 28 dX5_run_10 (by decide) h 13 rfl (fun h => ?_) (fun h => ?_)
  · refine ww_iconst C (0 : Int32) dX5_run_28 (by decide) 29 rfl ?_
    refine ww_istore C [(4, .int (0 : Int32)), (3, .int v48), (0, .ref (ad 72)), (1, .int a1), (2, .int a2)] dX5_run_29 (by decide) rfl 31 rfl ?_
    refine ww_iload_n C 3 dX5_run_31 rfl rfl 32 rfl ?_
    refine ww_bipush C (40 : Int32) dX5_run_32 (by decide) 34 rfl ?_
    refine ww_callSi C (As := [.int a1, .int (40 : Int32)]) (st := []) h (fun _ _ hF => k_X5_isWithin hn hF) w_43 cm_X5_isWithin (by decide) (by decide) rfl rfl (Nat.le_of_ble_eq_true rfl) dX5_run_34 37 rfl (fun v50 u49 h => ?_)
    refine ww_if_eq C 49 dX5_run_37 (by decide) h 40 rfl (fun h => ?_) (fun h => ?_)
    · refine ww_sipush C (-1000 : Int32) dX5_run_49 (by decide) 52 rfl ?_
      exact ww_iret C dX5_run_52 hr h
    · refine ww_iload_n C 1 dX5_run_40 rfl rfl 41 rfl ?_
      refine ww_if_ne C 53 dX5_run_41 (by decide) h 44 rfl (fun h => ?_) (fun h => ?_)
      · refine ww_aload_n C 2 dX5_run_53 rfl rfl 54 rfl ?_
        refine ww_getS C cl_X5 (obX hn) 5 (by decide) rfl 52 rfl w_534 dX5_run_54 57 rfl ?_
        refine ww_aload_n C 2 dX5_run_57 rfl rfl 58 rfl ?_
        refine ww_getS C cl_X5 (obX hn) 4 (by decide) rfl 42 rfl w_533 dX5_run_58 61 rfl ?_
        refine ww_callVv C (As := [.ref (ad 42)]) (st := []) h cl_X1.1 (obScene (by decide) hn) (fun _ _ hF => k_X1_becomes hn (by decide) (by decide) hF) w_197 cm_X1_becomes (by decide) (by decide) rfl rfl (Nat.le_of_ble_eq_true rfl) dX5_run_61 64 rfl (fun _ u51 h => ?_)
        refine ww_aload_n C 2 dX5_run_64 rfl rfl 65 rfl ?_
        refine ww_getS C cl_X5 (obX hn) 5 (by decide) rfl 52 rfl w_534 dX5_run_65 68 rfl ?_
        refine ww_iload_n C 3 dX5_run_68 rfl rfl 69 rfl ?_
        refine ww_callVv C (As := [.int a1]) (st := []) h cl_X1.1 (obScene (by decide) hn) (fun _ _ hF => k_X1_passHours hn (by decide) hF) w_161 cm_X1_passHours (by decide) (by decide) rfl rfl (Nat.le_of_ble_eq_true rfl) dX5_run_69 72 rfl (fun _ u53 h => ?_)
        refine ww_iload_n C 1 dX5_run_72 rfl rfl 73 rfl ?_
        refine ww_if_eq C 87 dX5_run_73 (by decide) h 76 rfl (fun h => ?_) (fun h => ?_)
        · refine ww_aload_n C 2 dX5_run_87 rfl rfl 88 rfl ?_
          refine ww_getS C cl_X5 (obX hn) 5 (by decide) rfl 52 rfl w_534 dX5_run_88 91 rfl ?_
          refine ww_getS C cl_X1 (obScene (by decide) hn) 7 (by decide) rfl 60 rfl w_494 dX5_run_91 94 rfl ?_
          refine ww_iload_n C 4 dX5_run_94 rfl rfl 95 rfl ?_
          refine ww_bipush C (10 : Int32) dX5_run_95 (by decide) 97 rfl ?_
          refine ww_isub C dX5_run_97 98 rfl ?_
          refine ww_iald C (iaScene (q := 52) (by decide) hn 8 6 (by decide)) dX5_run_98 h 99 rfl (fun h => ?_)
          exact ww_iret C dX5_run_99 hr h
        · refine ww_aload_n C 2 dX5_run_76 rfl rfl 77 rfl ?_
          refine ww_getS C cl_X5 (obX hn) 5 (by decide) rfl 52 rfl w_534 dX5_run_77 80 rfl ?_
          refine ww_iload_n C 4 dX5_run_80 rfl rfl 81 rfl ?_
          refine ww_callVi C (As := [.int a2]) (st := []) h cl_X1.1 (obScene (by decide) hn) (fun _ _ hF => k_X1_overBay hn (by decide) hF) w_183 cm_X1_overBay (by decide) (by decide) rfl rfl (Nat.le_of_ble_eq_true rfl) dX5_run_81 84 rfl (fun v56 u55 h => ?_)
          refine ww_goto C 99 dX5_run_84 (by decide) ?_
          exact ww_iret C dX5_run_99 hr h
      · refine ww_iload C 0 dX5_run_44 rfl 46 rfl ?_
        refine ww_if_ne C 53 dX5_run_46 (by decide) h 49 rfl (fun h => ?_) (fun h => ?_)
        · refine ww_aload_n C 2 dX5_run_53 rfl rfl 54 rfl ?_
          refine ww_getS C cl_X5 (obX hn) 5 (by decide) rfl 52 rfl w_534 dX5_run_54 57 rfl ?_
          refine ww_aload_n C 2 dX5_run_57 rfl rfl 58 rfl ?_
          refine ww_getS C cl_X5 (obX hn) 4 (by decide) rfl 42 rfl w_533 dX5_run_58 61 rfl ?_
          refine ww_callVv C (As := [.ref (ad 42)]) (st := []) h cl_X1.1 (obScene (by decide) hn) (fun _ _ hF => k_X1_becomes hn (by decide) (by decide) hF) w_197 cm_X1_becomes (by decide) (by decide) rfl rfl (Nat.le_of_ble_eq_true rfl) dX5_run_61 64 rfl (fun _ u57 h => ?_)
          refine ww_aload_n C 2 dX5_run_64 rfl rfl 65 rfl ?_
          refine ww_getS C cl_X5 (obX hn) 5 (by decide) rfl 52 rfl w_534 dX5_run_65 68 rfl ?_
          refine ww_iload_n C 3 dX5_run_68 rfl rfl 69 rfl ?_
          refine ww_callVv C (As := [.int a1]) (st := []) h cl_X1.1 (obScene (by decide) hn) (fun _ _ hF => k_X1_passHours hn (by decide) hF) w_161 cm_X1_passHours (by decide) (by decide) rfl rfl (Nat.le_of_ble_eq_true rfl) dX5_run_69 72 rfl (fun _ u59 h => ?_)
          refine ww_iload_n C 1 dX5_run_72 rfl rfl 73 rfl ?_
          refine ww_if_eq C 87 dX5_run_73 (by decide) h 76 rfl (fun h => ?_) (fun h => ?_)
          · refine ww_aload_n C 2 dX5_run_87 rfl rfl 88 rfl ?_
            refine ww_getS C cl_X5 (obX hn) 5 (by decide) rfl 52 rfl w_534 dX5_run_88 91 rfl ?_
            refine ww_getS C cl_X1 (obScene (by decide) hn) 7 (by decide) rfl 60 rfl w_494 dX5_run_91 94 rfl ?_
            refine ww_iload_n C 4 dX5_run_94 rfl rfl 95 rfl ?_
            refine ww_bipush C (10 : Int32) dX5_run_95 (by decide) 97 rfl ?_
            refine ww_isub C dX5_run_97 98 rfl ?_
            refine ww_iald C (iaScene (q := 52) (by decide) hn 8 6 (by decide)) dX5_run_98 h 99 rfl (fun h => ?_)
            exact ww_iret C dX5_run_99 hr h
          · refine ww_aload_n C 2 dX5_run_76 rfl rfl 77 rfl ?_
            refine ww_getS C cl_X5 (obX hn) 5 (by decide) rfl 52 rfl w_534 dX5_run_77 80 rfl ?_
            refine ww_iload_n C 4 dX5_run_80 rfl rfl 81 rfl ?_
            refine ww_callVi C (As := [.int a2]) (st := []) h cl_X1.1 (obScene (by decide) hn) (fun _ _ hF => k_X1_overBay hn (by decide) hF) w_183 cm_X1_overBay (by decide) (by decide) rfl rfl (Nat.le_of_ble_eq_true rfl) dX5_run_81 84 rfl (fun v62 u61 h => ?_)
            refine ww_goto C 99 dX5_run_84 (by decide) ?_
            exact ww_iret C dX5_run_99 hr h
        · refine ww_sipush C (-1000 : Int32) dX5_run_49 (by decide) 52 rfl ?_
          exact ww_iret C dX5_run_52 hr h
  · refine ww_aload_n C 1 dX5_run_13 rfl rfl 14 rfl ?_
    refine ww_iload_n C 3 dX5_run_14 rfl rfl 15 rfl ?_
    refine ww_bipush C (10 : Int32) dX5_run_15 (by decide) 17 rfl ?_
    refine ww_isub C dX5_run_17 18 rfl ?_
    refine ww_callVi C (As := [.int (a2 - (10 : Int32))]) (st := []) h cl_X5.1 (obX hn) (fun _ _ hF => k_X5_isDiver hn hF) w_72 cm_X5_isDiver (by decide) (by decide) rfl rfl (Nat.le_of_ble_eq_true rfl) dX5_run_18 21 rfl (fun v64 u63 h => ?_)
    refine ww_if_eq C 28 dX5_run_21 (by decide) h 24 rfl (fun h => ?_) (fun h => ?_)
    · refine ww_iconst C (0 : Int32) dX5_run_28 (by decide) 29 rfl ?_
      refine ww_istore C [(4, .int (0 : Int32)), (3, .int v48), (0, .ref (ad 72)), (1, .int a1), (2, .int a2)] dX5_run_29 (by decide) rfl 31 rfl ?_
      refine ww_iload_n C 3 dX5_run_31 rfl rfl 32 rfl ?_
      refine ww_bipush C (40 : Int32) dX5_run_32 (by decide) 34 rfl ?_
      refine ww_callSi C (As := [.int a1, .int (40 : Int32)]) (st := []) h (fun _ _ hF => k_X5_isWithin hn hF) w_43 cm_X5_isWithin (by decide) (by decide) rfl rfl (Nat.le_of_ble_eq_true rfl) dX5_run_34 37 rfl (fun v66 u65 h => ?_)
      refine ww_if_eq C 49 dX5_run_37 (by decide) h 40 rfl (fun h => ?_) (fun h => ?_)
      · refine ww_sipush C (-1000 : Int32) dX5_run_49 (by decide) 52 rfl ?_
        exact ww_iret C dX5_run_52 hr h
      · refine ww_iload_n C 1 dX5_run_40 rfl rfl 41 rfl ?_
        refine ww_if_ne C 53 dX5_run_41 (by decide) h 44 rfl (fun h => ?_) (fun h => ?_)
        · refine ww_aload_n C 2 dX5_run_53 rfl rfl 54 rfl ?_
          refine ww_getS C cl_X5 (obX hn) 5 (by decide) rfl 52 rfl w_534 dX5_run_54 57 rfl ?_
          refine ww_aload_n C 2 dX5_run_57 rfl rfl 58 rfl ?_
          refine ww_getS C cl_X5 (obX hn) 4 (by decide) rfl 42 rfl w_533 dX5_run_58 61 rfl ?_
          refine ww_callVv C (As := [.ref (ad 42)]) (st := []) h cl_X1.1 (obScene (by decide) hn) (fun _ _ hF => k_X1_becomes hn (by decide) (by decide) hF) w_197 cm_X1_becomes (by decide) (by decide) rfl rfl (Nat.le_of_ble_eq_true rfl) dX5_run_61 64 rfl (fun _ u67 h => ?_)
          refine ww_aload_n C 2 dX5_run_64 rfl rfl 65 rfl ?_
          refine ww_getS C cl_X5 (obX hn) 5 (by decide) rfl 52 rfl w_534 dX5_run_65 68 rfl ?_
          refine ww_iload_n C 3 dX5_run_68 rfl rfl 69 rfl ?_
          refine ww_callVv C (As := [.int a1]) (st := []) h cl_X1.1 (obScene (by decide) hn) (fun _ _ hF => k_X1_passHours hn (by decide) hF) w_161 cm_X1_passHours (by decide) (by decide) rfl rfl (Nat.le_of_ble_eq_true rfl) dX5_run_69 72 rfl (fun _ u69 h => ?_)
          refine ww_iload_n C 1 dX5_run_72 rfl rfl 73 rfl ?_
          refine ww_if_eq C 87 dX5_run_73 (by decide) h 76 rfl (fun h => ?_) (fun h => ?_)
          · refine ww_aload_n C 2 dX5_run_87 rfl rfl 88 rfl ?_
            refine ww_getS C cl_X5 (obX hn) 5 (by decide) rfl 52 rfl w_534 dX5_run_88 91 rfl ?_
            refine ww_getS C cl_X1 (obScene (by decide) hn) 7 (by decide) rfl 60 rfl w_494 dX5_run_91 94 rfl ?_
            refine ww_iload_n C 4 dX5_run_94 rfl rfl 95 rfl ?_
            refine ww_bipush C (10 : Int32) dX5_run_95 (by decide) 97 rfl ?_
            refine ww_isub C dX5_run_97 98 rfl ?_
            refine ww_iald C (iaScene (q := 52) (by decide) hn 8 6 (by decide)) dX5_run_98 h 99 rfl (fun h => ?_)
            exact ww_iret C dX5_run_99 hr h
          · refine ww_aload_n C 2 dX5_run_76 rfl rfl 77 rfl ?_
            refine ww_getS C cl_X5 (obX hn) 5 (by decide) rfl 52 rfl w_534 dX5_run_77 80 rfl ?_
            refine ww_iload_n C 4 dX5_run_80 rfl rfl 81 rfl ?_
            refine ww_callVi C (As := [.int a2]) (st := []) h cl_X1.1 (obScene (by decide) hn) (fun _ _ hF => k_X1_overBay hn (by decide) hF) w_183 cm_X1_overBay (by decide) (by decide) rfl rfl (Nat.le_of_ble_eq_true rfl) dX5_run_81 84 rfl (fun v72 u71 h => ?_)
            refine ww_goto C 99 dX5_run_84 (by decide) ?_
            exact ww_iret C dX5_run_99 hr h
        · refine ww_iload C 0 dX5_run_44 rfl 46 rfl ?_
          refine ww_if_ne C 53 dX5_run_46 (by decide) h 49 rfl (fun h => ?_) (fun h => ?_)
          · refine ww_aload_n C 2 dX5_run_53 rfl rfl 54 rfl ?_
            refine ww_getS C cl_X5 (obX hn) 5 (by decide) rfl 52 rfl w_534 dX5_run_54 57 rfl ?_
            refine ww_aload_n C 2 dX5_run_57 rfl rfl 58 rfl ?_
            refine ww_getS C cl_X5 (obX hn) 4 (by decide) rfl 42 rfl w_533 dX5_run_58 61 rfl ?_
            refine ww_callVv C (As := [.ref (ad 42)]) (st := []) h cl_X1.1 (obScene (by decide) hn) (fun _ _ hF => k_X1_becomes hn (by decide) (by decide) hF) w_197 cm_X1_becomes (by decide) (by decide) rfl rfl (Nat.le_of_ble_eq_true rfl) dX5_run_61 64 rfl (fun _ u73 h => ?_)
            refine ww_aload_n C 2 dX5_run_64 rfl rfl 65 rfl ?_
            refine ww_getS C cl_X5 (obX hn) 5 (by decide) rfl 52 rfl w_534 dX5_run_65 68 rfl ?_
            refine ww_iload_n C 3 dX5_run_68 rfl rfl 69 rfl ?_
            refine ww_callVv C (As := [.int a1]) (st := []) h cl_X1.1 (obScene (by decide) hn) (fun _ _ hF => k_X1_passHours hn (by decide) hF) w_161 cm_X1_passHours (by decide) (by decide) rfl rfl (Nat.le_of_ble_eq_true rfl) dX5_run_69 72 rfl (fun _ u75 h => ?_)
            refine ww_iload_n C 1 dX5_run_72 rfl rfl 73 rfl ?_
            refine ww_if_eq C 87 dX5_run_73 (by decide) h 76 rfl (fun h => ?_) (fun h => ?_)
            · refine ww_aload_n C 2 dX5_run_87 rfl rfl 88 rfl ?_
              refine ww_getS C cl_X5 (obX hn) 5 (by decide) rfl 52 rfl w_534 dX5_run_88 91 rfl ?_
              refine ww_getS C cl_X1 (obScene (by decide) hn) 7 (by decide) rfl 60 rfl w_494 dX5_run_91 94 rfl ?_
              refine ww_iload_n C 4 dX5_run_94 rfl rfl 95 rfl ?_
              refine ww_bipush C (10 : Int32) dX5_run_95 (by decide) 97 rfl ?_
              refine ww_isub C dX5_run_97 98 rfl ?_
              refine ww_iald C (iaScene (q := 52) (by decide) hn 8 6 (by decide)) dX5_run_98 h 99 rfl (fun h => ?_)
              exact ww_iret C dX5_run_99 hr h
            · refine ww_aload_n C 2 dX5_run_76 rfl rfl 77 rfl ?_
              refine ww_getS C cl_X5 (obX hn) 5 (by decide) rfl 52 rfl w_534 dX5_run_77 80 rfl ?_
              refine ww_iload_n C 4 dX5_run_80 rfl rfl 81 rfl ?_
              refine ww_callVi C (As := [.int a2]) (st := []) h cl_X1.1 (obScene (by decide) hn) (fun _ _ hF => k_X1_overBay hn (by decide) hF) w_183 cm_X1_overBay (by decide) (by decide) rfl rfl (Nat.le_of_ble_eq_true rfl) dX5_run_81 84 rfl (fun v78 u77 h => ?_)
              refine ww_goto C 99 dX5_run_84 (by decide) ?_
              exact ww_iret C dX5_run_99 hr h
          · refine ww_sipush C (-1000 : Int32) dX5_run_49 (by decide) 52 rfl ?_
            exact ww_iret C dX5_run_52 hr h
    · refine ww_iconst C (1 : Int32) dX5_run_24 (by decide) 25 rfl ?_
      refine ww_goto C 29 dX5_run_25 (by decide) ?_
      refine ww_istore C [(4, .int (1 : Int32)), (3, .int v48), (0, .ref (ad 72)), (1, .int a1), (2, .int a2)] dX5_run_29 (by decide) rfl 31 rfl ?_
      refine ww_iload_n C 3 dX5_run_31 rfl rfl 32 rfl ?_
      refine ww_bipush C (40 : Int32) dX5_run_32 (by decide) 34 rfl ?_
      refine ww_callSi C (As := [.int a1, .int (40 : Int32)]) (st := []) h (fun _ _ hF => k_X5_isWithin hn hF) w_43 cm_X5_isWithin (by decide) (by decide) rfl rfl (Nat.le_of_ble_eq_true rfl) dX5_run_34 37 rfl (fun v80 u79 h => ?_)
      refine ww_if_eq C 49 dX5_run_37 (by decide) h 40 rfl (fun h => ?_) (fun h => ?_)
      · refine ww_sipush C (-1000 : Int32) dX5_run_49 (by decide) 52 rfl ?_
        exact ww_iret C dX5_run_52 hr h
      · refine ww_iload_n C 1 dX5_run_40 rfl rfl 41 rfl ?_
        refine ww_if_ne C 53 dX5_run_41 (by decide) h 44 rfl (fun h => ?_) (fun h => ?_)
        · refine ww_aload_n C 2 dX5_run_53 rfl rfl 54 rfl ?_
          refine ww_getS C cl_X5 (obX hn) 5 (by decide) rfl 52 rfl w_534 dX5_run_54 57 rfl ?_
          refine ww_aload_n C 2 dX5_run_57 rfl rfl 58 rfl ?_
          refine ww_getS C cl_X5 (obX hn) 4 (by decide) rfl 42 rfl w_533 dX5_run_58 61 rfl ?_
          refine ww_callVv C (As := [.ref (ad 42)]) (st := []) h cl_X1.1 (obScene (by decide) hn) (fun _ _ hF => k_X1_becomes hn (by decide) (by decide) hF) w_197 cm_X1_becomes (by decide) (by decide) rfl rfl (Nat.le_of_ble_eq_true rfl) dX5_run_61 64 rfl (fun _ u81 h => ?_)
          refine ww_aload_n C 2 dX5_run_64 rfl rfl 65 rfl ?_
          refine ww_getS C cl_X5 (obX hn) 5 (by decide) rfl 52 rfl w_534 dX5_run_65 68 rfl ?_
          refine ww_iload_n C 3 dX5_run_68 rfl rfl 69 rfl ?_
          refine ww_callVv C (As := [.int a1]) (st := []) h cl_X1.1 (obScene (by decide) hn) (fun _ _ hF => k_X1_passHours hn (by decide) hF) w_161 cm_X1_passHours (by decide) (by decide) rfl rfl (Nat.le_of_ble_eq_true rfl) dX5_run_69 72 rfl (fun _ u83 h => ?_)
          refine ww_iload_n C 1 dX5_run_72 rfl rfl 73 rfl ?_
          refine ww_if_eq C 87 dX5_run_73 (by decide) h 76 rfl (fun h => ?_) (fun h => ?_)
          · refine ww_aload_n C 2 dX5_run_87 rfl rfl 88 rfl ?_
            refine ww_getS C cl_X5 (obX hn) 5 (by decide) rfl 52 rfl w_534 dX5_run_88 91 rfl ?_
            refine ww_getS C cl_X1 (obScene (by decide) hn) 7 (by decide) rfl 60 rfl w_494 dX5_run_91 94 rfl ?_
            refine ww_iload_n C 4 dX5_run_94 rfl rfl 95 rfl ?_
            refine ww_bipush C (10 : Int32) dX5_run_95 (by decide) 97 rfl ?_
            refine ww_isub C dX5_run_97 98 rfl ?_
            refine ww_iald C (iaScene (q := 52) (by decide) hn 8 6 (by decide)) dX5_run_98 h 99 rfl (fun h => ?_)
            exact ww_iret C dX5_run_99 hr h
          · refine ww_aload_n C 2 dX5_run_76 rfl rfl 77 rfl ?_
            refine ww_getS C cl_X5 (obX hn) 5 (by decide) rfl 52 rfl w_534 dX5_run_77 80 rfl ?_
            refine ww_iload_n C 4 dX5_run_80 rfl rfl 81 rfl ?_
            refine ww_callVi C (As := [.int a2]) (st := []) h cl_X1.1 (obScene (by decide) hn) (fun _ _ hF => k_X1_overBay hn (by decide) hF) w_183 cm_X1_overBay (by decide) (by decide) rfl rfl (Nat.le_of_ble_eq_true rfl) dX5_run_81 84 rfl (fun v86 u85 h => ?_)
            refine ww_goto C 99 dX5_run_84 (by decide) ?_
            exact ww_iret C dX5_run_99 hr h
        · refine ww_iload C 0 dX5_run_44 rfl 46 rfl ?_
          refine ww_if_ne C 53 dX5_run_46 (by decide) h 49 rfl (fun h => ?_) (fun h => ?_)
          · refine ww_aload_n C 2 dX5_run_53 rfl rfl 54 rfl ?_
            refine ww_getS C cl_X5 (obX hn) 5 (by decide) rfl 52 rfl w_534 dX5_run_54 57 rfl ?_
            refine ww_aload_n C 2 dX5_run_57 rfl rfl 58 rfl ?_
            refine ww_getS C cl_X5 (obX hn) 4 (by decide) rfl 42 rfl w_533 dX5_run_58 61 rfl ?_
            refine ww_callVv C (As := [.ref (ad 42)]) (st := []) h cl_X1.1 (obScene (by decide) hn) (fun _ _ hF => k_X1_becomes hn (by decide) (by decide) hF) w_197 cm_X1_becomes (by decide) (by decide) rfl rfl (Nat.le_of_ble_eq_true rfl) dX5_run_61 64 rfl (fun _ u87 h => ?_)
            refine ww_aload_n C 2 dX5_run_64 rfl rfl 65 rfl ?_
            refine ww_getS C cl_X5 (obX hn) 5 (by decide) rfl 52 rfl w_534 dX5_run_65 68 rfl ?_
            refine ww_iload_n C 3 dX5_run_68 rfl rfl 69 rfl ?_
            refine ww_callVv C (As := [.int a1]) (st := []) h cl_X1.1 (obScene (by decide) hn) (fun _ _ hF => k_X1_passHours hn (by decide) hF) w_161 cm_X1_passHours (by decide) (by decide) rfl rfl (Nat.le_of_ble_eq_true rfl) dX5_run_69 72 rfl (fun _ u89 h => ?_)
            refine ww_iload_n C 1 dX5_run_72 rfl rfl 73 rfl ?_
            refine ww_if_eq C 87 dX5_run_73 (by decide) h 76 rfl (fun h => ?_) (fun h => ?_)
            · refine ww_aload_n C 2 dX5_run_87 rfl rfl 88 rfl ?_
              refine ww_getS C cl_X5 (obX hn) 5 (by decide) rfl 52 rfl w_534 dX5_run_88 91 rfl ?_
              refine ww_getS C cl_X1 (obScene (by decide) hn) 7 (by decide) rfl 60 rfl w_494 dX5_run_91 94 rfl ?_
              refine ww_iload_n C 4 dX5_run_94 rfl rfl 95 rfl ?_
              refine ww_bipush C (10 : Int32) dX5_run_95 (by decide) 97 rfl ?_
              refine ww_isub C dX5_run_97 98 rfl ?_
              refine ww_iald C (iaScene (q := 52) (by decide) hn 8 6 (by decide)) dX5_run_98 h 99 rfl (fun h => ?_)
              exact ww_iret C dX5_run_99 hr h
            · refine ww_aload_n C 2 dX5_run_76 rfl rfl 77 rfl ?_
              refine ww_getS C cl_X5 (obX hn) 5 (by decide) rfl 52 rfl w_534 dX5_run_77 80 rfl ?_
              refine ww_iload_n C 4 dX5_run_80 rfl rfl 81 rfl ?_
              refine ww_callVi C (As := [.int a2]) (st := []) h cl_X1.1 (obScene (by decide) hn) (fun _ _ hF => k_X1_overBay hn (by decide) hF) w_183 cm_X1_overBay (by decide) (by decide) rfl rfl (Nat.le_of_ble_eq_true rfl) dX5_run_81 84 rfl (fun v92 u91 h => ?_)
              refine ww_goto C 99 dX5_run_84 (by decide) ?_
              exact ww_iret C dX5_run_99 hr h
          · refine ww_sipush C (-1000 : Int32) dX5_run_49 (by decide) 52 rfl ?_
            exact ww_iret C dX5_run_52 hr h

set_option maxRecDepth 100000 in
set_option maxHeartbeats 4000000 in
theorem k_X5_fairBehind {l : Launch} {D : va_G} {ad : Nat → Nat} {cA : Nat → ClassId} {tys : List (ClassId × FieldType)} {n : Nat} {sa : SA} (hn : 73 ≤ n) {N : Nat} {g : Mem} {a1 : Int32} {a2 : Int32} {r : Int32} {g1 : Mem} (h : X5_fairBehind N a1 a2 g = some (r, g1)) : CTi l yX5_fairBehind (wsm yX5_fairBehind cX5_fairBehind 3 (some .int)) 6 D YI ad cA tys n sa g [.ref (ad 72), .int a1, .int a2] r g1 := by
  refine ct_of RX5 rfl (by decide +kernel) (Nat.le_of_ble_eq_true rfl) rfl (fun sz => PBi D YI ad cA n r g1 sz) ?_
  intro p e R s m args below meth c C hr
  rw [X5_fairBehind] at h
  refine ww_aload_n C 0 dX5_fairBehind_0 rfl rfl 1 rfl ?_
  refine ww_getS C cl_X5 (obX hn) 5 (by decide) rfl 52 rfl w_534 dX5_fairBehind_1 4 rfl ?_
  refine ww_aload_n C 0 dX5_fairBehind_4 rfl rfl 5 rfl ?_
  refine ww_getS C cl_X5 (obX hn) 4 (by decide) rfl 42 rfl w_533 dX5_fairBehind_5 8 rfl ?_
  refine ww_callVv C (As := [.ref (ad 42)]) (st := []) h cl_X1.1 (obScene (by decide) hn) (fun _ _ hF => k_X1_becomes hn (by decide) (by decide) hF) w_197 cm_X1_becomes (by decide) (by decide) rfl rfl (Nat.le_of_ble_eq_true rfl) dX5_fairBehind_8 11 rfl (fun _ u15 h => ?_)
  refine ww_iload_n C 2 dX5_fairBehind_11 rfl rfl 12 rfl ?_
  refine ww_callSi C (As := [.int a2]) (st := []) h (fun _ _ hF => k_X5_isCask hn hF) w_40 cm_X5_isCask (by decide) (by decide) rfl rfl (Nat.le_of_ble_eq_true rfl) dX5_fairBehind_12 15 rfl (fun v18 u17 h => ?_)
  refine ww_if_eq C 26 dX5_fairBehind_15 (by decide) h 18 rfl (fun h => ?_) (fun h => ?_)
  · refine ww_aload_n C 0 dX5_fairBehind_26 rfl rfl 27 rfl ?_
    refine ww_getS C cl_X5 (obX hn) 5 (by decide) rfl 52 rfl w_534 dX5_fairBehind_27 30 rfl ?_
    refine ww_iload_n C 1 dX5_fairBehind_30 rfl rfl 31 rfl ?_
    refine ww_callVv C (As := [.int a1]) (st := []) h cl_X1.1 (obScene (by decide) hn) (fun _ _ hF => k_X1_passHours hn (by decide) hF) w_161 cm_X1_passHours (by decide) (by decide) rfl rfl (Nat.le_of_ble_eq_true rfl) dX5_fairBehind_31 34 rfl (fun _ u19 h => ?_)
    refine ww_aload_n C 0 dX5_fairBehind_34 rfl rfl 35 rfl ?_
    refine ww_getS C cl_X5 (obX hn) 5 (by decide) rfl 52 rfl w_534 dX5_fairBehind_35 38 rfl ?_
    refine ww_callVi C (As := []) (st := []) h cl_X1.1 (obScene (by decide) hn) (fun _ _ hF => k_X1_fair hn (by decide) hF) w_212 cm_X1_fair (by decide) (by decide) rfl rfl (Nat.le_of_ble_eq_true rfl) dX5_fairBehind_38 41 rfl (fun v22 u21 h => ?_)
    exact ww_iret C dX5_fairBehind_41 hr h
  · refine ww_aload_n C 0 dX5_fairBehind_18 rfl rfl 19 rfl ?_
    refine ww_getS C cl_X5 (obX hn) 5 (by decide) rfl 52 rfl w_534 dX5_fairBehind_19 22 rfl ?_
    refine ww_iload_n C 2 dX5_fairBehind_22 rfl rfl 23 rfl ?_
    refine ww_callVv C (As := [.int a2]) (st := []) h cl_X1.1 (obScene (by decide) hn) (fun _ _ hF => k_X1_letLoose hn (by decide) hF) w_148 cm_X1_letLoose (by decide) (by decide) rfl rfl (Nat.le_of_ble_eq_true rfl) dX5_fairBehind_23 26 rfl (fun _ u23 h => ?_)
    refine ww_aload_n C 0 dX5_fairBehind_26 rfl rfl 27 rfl ?_
    refine ww_getS C cl_X5 (obX hn) 5 (by decide) rfl 52 rfl w_534 dX5_fairBehind_27 30 rfl ?_
    refine ww_iload_n C 1 dX5_fairBehind_30 rfl rfl 31 rfl ?_
    refine ww_callVv C (As := [.int a1]) (st := []) h cl_X1.1 (obScene (by decide) hn) (fun _ _ hF => k_X1_passHours hn (by decide) hF) w_161 cm_X1_passHours (by decide) (by decide) rfl rfl (Nat.le_of_ble_eq_true rfl) dX5_fairBehind_31 34 rfl (fun _ u25 h => ?_)
    refine ww_aload_n C 0 dX5_fairBehind_34 rfl rfl 35 rfl ?_
    refine ww_getS C cl_X5 (obX hn) 5 (by decide) rfl 52 rfl w_534 dX5_fairBehind_35 38 rfl ?_
    refine ww_callVi C (As := []) (st := []) h cl_X1.1 (obScene (by decide) hn) (fun _ _ hF => k_X1_fair hn (by decide) hF) w_212 cm_X1_fair (by decide) (by decide) rfl rfl (Nat.le_of_ble_eq_true rfl) dX5_fairBehind_38 41 rfl (fun v28 u27 h => ?_)
    exact ww_iret C dX5_fairBehind_41 hr h

set_option maxRecDepth 100000 in
set_option maxHeartbeats 4000000 in
theorem k_X5_which {l : Launch} {D : va_G} {ad : Nat → Nat} {cA : Nat → ClassId} {tys : List (ClassId × FieldType)} {n : Nat} {sa : SA} (hn : 73 ≤ n) {N : Nat} {g : Mem} {a1 : Int32} {a2 : Int32} {r : Int32} {g1 : Mem} (h : X5_which N a1 a2 g = some (r, g1)) : CTi l yX5_which (wsm yX5_which cX5_which 7 (some .int)) 7 D YI ad cA tys n sa g [.ref (ad 72), .int a1, .int a2] r g1 := by
  refine ct_of RX5 rfl (by decide +kernel) (Nat.le_of_ble_eq_true rfl) rfl (fun sz => PBi D YI ad cA n r g1 sz) ?_
  intro p e R s m args below meth c C hr
  have L34h : ∀ (fu : Nat), (∀ (x3 : Int32) (x4 : Int32) (x5 : Int32) (g : Mem), X5_which_L34 N a1 a2 fu x3 x4 x5 g = some (r, g1) → WW p l e R s m args below meth c 7 D YI ad cA n (MQ below (PBi D YI ad cA n r g1 s.heap.size) args s 0 0 (AA n ad s.heap.size)) g 34 [(0, .ref (ad 72)), (1, .int a1), (2, .int a2), (3, .int x3), (4, .int x4), (5, .int x5)] []) := by
    intro fu
    induction fu with
    | zero => intro x3 x4 x5 g h; cases h
    | succ fu ih =>
      intro x3 x4 x5 g h
      rw [X5_which_L34] at h
      refine ww_iload C 5 dX5_which_34 rfl 36 rfl ?_
      refine ww_bipush C (12 : Int32) dX5_which_36 (by decide) 38 rfl ?_
      refine ww_icmp_ge C 84 dX5_which_38 (by decide) h 41 rfl (fun h => ?_) (fun h => ?_)
      · refine ww_iload_n C 2 dX5_which_84 rfl rfl 85 rfl ?_
        refine ww_if_ne C 92 dX5_which_85 (by decide) h 88 rfl (fun h => ?_) (fun h => ?_)
        · refine ww_iload C 4 dX5_which_92 rfl 94 rfl ?_
          exact ww_iret C dX5_which_94 hr h
        · refine ww_iload_n C 3 dX5_which_88 rfl rfl 89 rfl ?_
          refine ww_goto C 94 dX5_which_89 (by decide) ?_
          exact ww_iret C dX5_which_94 hr h
      · refine ww_aload_n C 0 dX5_which_41 rfl rfl 42 rfl ?_
        refine ww_getS C cl_X5 (obX hn) 4 (by decide) rfl 42 rfl w_533 dX5_which_42 45 rfl ?_
        refine ww_getS C cl_X1 (obScene (by decide) hn) 4 (by decide) rfl 47 rfl w_488 dX5_which_45 48 rfl ?_
        refine ww_iload C 5 dX5_which_48 rfl 50 rfl ?_
        refine ww_iald C (iaScene (q := 42) (by decide) hn 5 12 (by decide)) dX5_which_50 h 51 rfl (fun h => ?_)
        refine ww_iconst C (1 : Int32) dX5_which_51 (by decide) 52 rfl ?_
        refine ww_icmp_ne C 78 dX5_which_52 (by decide) h 55 rfl (fun h => ?_) (fun h => ?_)
        · refine ww_iinc C 5 (1 : Int32) (by decide) (fun v12 => [(5, .int v12), (0, .ref (ad 72)), (1, .int a1), (2, .int a2), (3, .int x3), (4, .int x4)]) dX5_which_78 rfl (by decide) (fun _ => rfl) h 81 rfl (fun v12 h => ?_)
          refine ww_goto C 34 dX5_which_81 (by decide) ?_
          exact ww_sub [1, 2, 3, 4, 5, 0] rfl (ih _ _ _ _ h)
        · refine ww_aload_n C 0 dX5_which_55 rfl rfl 56 rfl ?_
          refine ww_iload_n C 1 dX5_which_56 rfl rfl 57 rfl ?_
          refine ww_iload C 5 dX5_which_57 rfl 59 rfl ?_
          refine ww_callVi C (As := [.int a1, .int x5]) (st := []) h cl_X5.1 (obX hn) (fun _ _ hF => k_X5_fairBehind hn hF) w_208 cm_X5_fairBehind (by decide) (by decide) rfl rfl (Nat.le_of_ble_eq_true rfl) dX5_which_59 62 rfl (fun v14 u13 h => ?_)
          refine ww_istore C [(6, .int v14), (0, .ref (ad 72)), (1, .int a1), (2, .int a2), (3, .int x3), (4, .int x4), (5, .int x5)] dX5_which_62 (by decide) rfl 64 rfl ?_
          refine ww_iload C 0 dX5_which_64 rfl 66 rfl ?_
          refine ww_iload C 5 dX5_which_66 rfl 68 rfl ?_
          refine ww_icmp_le C 78 dX5_which_68 (by decide) h 71 rfl (fun h => ?_) (fun h => ?_)
          · refine ww_iinc C 6 (1 : Int32) (by decide) (fun v15 => [(5, .int v15), (6, .int v14), (0, .ref (ad 72)), (1, .int a1), (2, .int a2), (3, .int x3), (4, .int x4)]) dX5_which_78 rfl (by decide) (fun _ => rfl) h 81 rfl (fun v15 h => ?_)
            refine ww_goto C 34 dX5_which_81 (by decide) ?_
            exact ww_sub [2, 3, 4, 5, 6, 0] rfl (ih _ _ _ _ h)
          · refine ww_iload C 0 dX5_which_71 rfl 73 rfl ?_
            refine ww_istore C [(4, .int v14), (6, .int v14), (0, .ref (ad 72)), (1, .int a1), (2, .int a2), (3, .int x3), (5, .int x5)] dX5_which_73 (by decide) rfl 75 rfl ?_
            refine ww_iload C 6 dX5_which_75 rfl 77 rfl ?_
            refine ww_istore_n C [(3, .int x5), (4, .int v14), (6, .int v14), (0, .ref (ad 72)), (1, .int a1), (2, .int a2), (5, .int x5)] dX5_which_77 rfl (by decide) rfl 78 rfl ?_
            refine ww_iinc C 6 (1 : Int32) (by decide) (fun v16 => [(5, .int v16), (3, .int x5), (4, .int v14), (6, .int v14), (0, .ref (ad 72)), (1, .int a1), (2, .int a2)]) dX5_which_78 rfl (by decide) (fun _ => rfl) h 81 rfl (fun v16 h => ?_)
            refine ww_goto C 34 dX5_which_81 (by decide) ?_
            exact ww_sub [4, 5, 6, 1, 2, 0] rfl (ih _ _ _ _ h)
  rw [X5_which] at h
  refine ww_iload_n C 1 dX5_which_0 rfl rfl 1 rfl ?_
  refine ww_bipush C (40 : Int32) dX5_which_1 (by decide) 3 rfl ?_
  refine ww_callSi C (As := [.int a1, .int (40 : Int32)]) (st := []) h (fun _ _ hF => k_X5_isWithin hn hF) w_43 cm_X5_isWithin (by decide) (by decide) rfl rfl (Nat.le_of_ble_eq_true rfl) dX5_which_3 6 rfl (fun v18 u17 h => ?_)
  refine ww_if_eq C 17 dX5_which_6 (by decide) h 9 rfl (fun h => ?_) (fun h => ?_)
  · refine ww_sipush C (-1000 : Int32) dX5_which_17 (by decide) 20 rfl ?_
    exact ww_iret C dX5_which_20 hr h
  · refine ww_iload_n C 2 dX5_which_9 rfl rfl 10 rfl ?_
    refine ww_iconst C (1 : Int32) dX5_which_10 (by decide) 11 rfl ?_
    refine ww_callSi C (As := [.int a2, .int (1 : Int32)]) (st := []) h (fun _ _ hF => k_X5_isWithin hn hF) w_43 cm_X5_isWithin (by decide) (by decide) rfl rfl (Nat.le_of_ble_eq_true rfl) dX5_which_11 14 rfl (fun v20 u19 h => ?_)
    refine ww_if_ne C 21 dX5_which_14 (by decide) h 17 rfl (fun h => ?_) (fun h => ?_)
    · refine ww_iconst C (-1 : Int32) dX5_which_21 (by decide) 22 rfl ?_
      refine ww_istore_n C [(3, .int (-1 : Int32)), (0, .ref (ad 72)), (1, .int a1), (2, .int a2)] dX5_which_22 rfl (by decide) rfl 23 rfl ?_
      refine ww_aload_n C 1 dX5_which_23 rfl rfl 24 rfl ?_
      refine ww_iload_n C 2 dX5_which_24 rfl rfl 25 rfl ?_
      refine ww_iconst C (-1 : Int32) dX5_which_25 (by decide) 26 rfl ?_
      refine ww_callVi C (As := [.int a1, .int (-1 : Int32)]) (st := []) h cl_X5.1 (obX hn) (fun _ _ hF => k_X5_fairBehind hn hF) w_208 cm_X5_fairBehind (by decide) (by decide) rfl rfl (Nat.le_of_ble_eq_true rfl) dX5_which_26 29 rfl (fun v22 u21 h => ?_)
      refine ww_istore C [(4, .int v22), (3, .int (-1 : Int32)), (0, .ref (ad 72)), (1, .int a1), (2, .int a2)] dX5_which_29 (by decide) rfl 31 rfl ?_
      refine ww_iconst C (0 : Int32) dX5_which_31 (by decide) 32 rfl ?_
      refine ww_istore C [(5, .int (0 : Int32)), (4, .int v22), (3, .int (-1 : Int32)), (0, .ref (ad 72)), (1, .int a1), (2, .int a2)] dX5_which_32 (by decide) rfl 34 rfl ?_
      exact ww_sub [3, 4, 5, 2, 1, 0] rfl (L34h N _ _ _ _ h)
    · refine ww_sipush C (-1000 : Int32) dX5_which_17 (by decide) 20 rfl ?_
      exact ww_iret C dX5_which_20 hr h

set_option maxRecDepth 100000 in
set_option maxHeartbeats 4000000 in
theorem k_X5_cargo {l : Launch} {D : va_G} {ad : Nat → Nat} {cA : Nat → ClassId} {tys : List (ClassId × FieldType)} {n : Nat} {sa : SA} (hn : 73 ≤ n) {N : Nat} {g : Mem} {a1 : Int32} {a2 : Int32} {r : Int32} {g1 : Mem} (h : X5_cargo N a1 a2 g = some (r, g1)) : CTi l yX5_cargo (wsm yX5_cargo cX5_cargo 8 (some .int)) 2 D YI ad cA tys n sa g [.ref (ad 72), .int a1, .int a2] r g1 := by
  refine ct_of RX5 rfl (by decide +kernel) (Nat.le_of_ble_eq_true rfl) rfl (fun sz => PBi D YI ad cA n r g1 sz) ?_
  intro p e R s m args below meth c C hr
  have L41h : ∀ (fu : Nat), (∀ (x3 : Int32) (x4 : Int32) (x5 : Int32) (x6 : Int32) (g : Mem), X5_cargo_L41 N a1 a2 fu x3 x4 x5 x6 g = some (r, g1) → WW p l e R s m args below meth c 8 D YI ad cA n (MQ below (PBi D YI ad cA n r g1 s.heap.size) args s 0 0 (AA n ad s.heap.size)) g 41 [(0, .ref (ad 72)), (1, .int a1), (2, .int a2), (3, .int x3), (4, .int x4), (5, .int x5), (6, .int x6)] []) := by
    intro fu
    induction fu with
    | zero => intro x3 x4 x5 x6 g h; cases h
    | succ fu ih =>
      intro x3 x4 x5 x6 g h
      rw [X5_cargo_L41] at h
      refine ww_iload C 6 dX5_cargo_41 rfl 43 rfl ?_
      refine ww_sipush C (4096 : Int32) dX5_cargo_43 (by decide) 46 rfl ?_
      refine ww_icmp_ge C 107 dX5_cargo_46 (by decide) h 49 rfl (fun h => ?_) (fun h => ?_)
      · refine ww_iload_n C 2 dX5_cargo_107 rfl rfl 108 rfl ?_
        refine ww_if_ne C 116 dX5_cargo_108 (by decide) h 111 rfl (fun h => ?_) (fun h => ?_)
        · refine ww_iload C 5 dX5_cargo_116 rfl 118 rfl ?_
          exact ww_iret C dX5_cargo_118 hr h
        · refine ww_iload C 4 dX5_cargo_111 rfl 113 rfl ?_
          refine ww_goto C 118 dX5_cargo_113 (by decide) ?_
          exact ww_iret C dX5_cargo_118 hr h
      · refine ww_iload C 6 dX5_cargo_49 rfl 51 rfl ?_
        refine ww_iload_n C 3 dX5_cargo_51 rfl rfl 52 rfl ?_
        refine ww_iand C dX5_cargo_52 53 rfl ?_
        refine ww_if_ne C 101 dX5_cargo_53 (by decide) h 56 rfl (fun h => ?_) (fun h => ?_)
        · refine ww_iinc C 6 (1 : Int32) (by decide) (fun v16 => [(6, .int v16), (0, .ref (ad 72)), (1, .int a1), (2, .int a2), (3, .int x3), (4, .int x4), (5, .int x5)]) dX5_cargo_101 rfl (by decide) (fun _ => rfl) h 104 rfl (fun v16 h => ?_)
          refine ww_goto C 41 dX5_cargo_104 (by decide) ?_
          exact ww_sub [1, 2, 3, 4, 5, 6, 0] rfl (ih _ _ _ _ _ h)
        · refine ww_aload_n C 0 dX5_cargo_56 rfl rfl 57 rfl ?_
          refine ww_getS C cl_X5 (obX hn) 4 (by decide) rfl 42 rfl w_533 dX5_cargo_57 60 rfl ?_
          refine ww_getS C cl_X1 (obScene (by decide) hn) 3 (by decide) rfl 46 rfl w_486 dX5_cargo_60 63 rfl ?_
          refine ww_iload C 6 dX5_cargo_63 rfl 65 rfl ?_
          refine ww_callSi C (As := [.ref (ad 46), .int x6]) (st := []) h (fun _ _ hF => k_X1_sum hn hF) w_221 cm_X1_sum (by decide) (by decide) rfl rfl (Nat.le_of_ble_eq_true rfl) dX5_cargo_65 68 rfl (fun v18 u17 h => ?_)
          refine ww_iload_n C 1 dX5_cargo_68 rfl rfl 69 rfl ?_
          refine ww_icmp_gt C 101 dX5_cargo_69 (by decide) h 72 rfl (fun h => ?_) (fun h => ?_)
          · refine ww_iinc C 6 (1 : Int32) (by decide) (fun v19 => [(6, .int v19), (0, .ref (ad 72)), (1, .int a1), (2, .int a2), (3, .int x3), (4, .int x4), (5, .int x5)]) dX5_cargo_101 rfl (by decide) (fun _ => rfl) h 104 rfl (fun v19 h => ?_)
            refine ww_goto C 41 dX5_cargo_104 (by decide) ?_
            exact ww_sub [1, 2, 3, 4, 5, 6, 0] rfl (ih _ _ _ _ _ h)
          · refine ww_aload_n C 0 dX5_cargo_72 rfl rfl 73 rfl ?_
            refine ww_getS C cl_X5 (obX hn) 4 (by decide) rfl 42 rfl w_533 dX5_cargo_73 76 rfl ?_
            refine ww_getS C cl_X1 (obScene (by decide) hn) 2 (by decide) rfl 45 rfl w_484 dX5_cargo_76 79 rfl ?_
            refine ww_iload C 6 dX5_cargo_79 rfl 81 rfl ?_
            refine ww_callSi C (As := [.ref (ad 45), .int x6]) (st := []) h (fun _ _ hF => k_X1_sum hn hF) w_221 cm_X1_sum (by decide) (by decide) rfl rfl (Nat.le_of_ble_eq_true rfl) dX5_cargo_81 84 rfl (fun v21 u20 h => ?_)
            refine ww_istore C [(7, .int v21), (0, .ref (ad 72)), (1, .int a1), (2, .int a2), (3, .int x3), (4, .int x4), (5, .int x5), (6, .int x6)] dX5_cargo_84 (by decide) rfl 86 rfl ?_
            refine ww_iload C 0 dX5_cargo_86 rfl 88 rfl ?_
            refine ww_iload C 6 dX5_cargo_88 rfl 90 rfl ?_
            refine ww_icmp_le C 101 dX5_cargo_90 (by decide) h 93 rfl (fun h => ?_) (fun h => ?_)
            · refine ww_iinc C 7 (1 : Int32) (by decide) (fun v22 => [(6, .int v22), (7, .int v21), (0, .ref (ad 72)), (1, .int a1), (2, .int a2), (3, .int x3), (4, .int x4), (5, .int x5)]) dX5_cargo_101 rfl (by decide) (fun _ => rfl) h 104 rfl (fun v22 h => ?_)
              refine ww_goto C 41 dX5_cargo_104 (by decide) ?_
              exact ww_sub [2, 3, 4, 5, 6, 7, 0] rfl (ih _ _ _ _ _ h)
            · refine ww_iload C 0 dX5_cargo_93 rfl 95 rfl ?_
              refine ww_istore C [(5, .int v21), (7, .int v21), (0, .ref (ad 72)), (1, .int a1), (2, .int a2), (3, .int x3), (4, .int x4), (6, .int x6)] dX5_cargo_95 (by decide) rfl 97 rfl ?_
              refine ww_iload C 7 dX5_cargo_97 rfl 99 rfl ?_
              refine ww_istore C [(4, .int x6), (5, .int v21), (7, .int v21), (0, .ref (ad 72)), (1, .int a1), (2, .int a2), (3, .int x3), (6, .int x6)] dX5_cargo_99 (by decide) rfl 101 rfl ?_
              refine ww_iinc C 7 (1 : Int32) (by decide) (fun v23 => [(6, .int v23), (4, .int x6), (5, .int v21), (7, .int v21), (0, .ref (ad 72)), (1, .int a1), (2, .int a2), (3, .int x3)]) dX5_cargo_101 rfl (by decide) (fun _ => rfl) h 104 rfl (fun v23 h => ?_)
              refine ww_goto C 41 dX5_cargo_104 (by decide) ?_
              exact ww_sub [4, 5, 6, 7, 1, 2, 0] rfl (ih _ _ _ _ _ h)
  rw [X5_cargo] at h
  refine ww_iload_n C 1 dX5_cargo_0 rfl rfl 1 rfl ?_
  refine ww_sipush C (999 : Int32) dX5_cargo_1 (by decide) 4 rfl ?_
  refine ww_callSi C (As := [.int a1, .int (999 : Int32)]) (st := []) h (fun _ _ hF => k_X5_isWithin hn hF) w_43 cm_X5_isWithin (by decide) (by decide) rfl rfl (Nat.le_of_ble_eq_true rfl) dX5_cargo_4 7 rfl (fun v25 u24 h => ?_)
  refine ww_if_eq C 18 dX5_cargo_7 (by decide) h 10 rfl (fun h => ?_) (fun h => ?_)
  · refine ww_bipush C (-2 : Int32) dX5_cargo_18 (by decide) 20 rfl ?_
    exact ww_iret C dX5_cargo_20 hr h
  · refine ww_iload_n C 2 dX5_cargo_10 rfl rfl 11 rfl ?_
    refine ww_iconst C (1 : Int32) dX5_cargo_11 (by decide) 12 rfl ?_
    refine ww_callSi C (As := [.int a2, .int (1 : Int32)]) (st := []) h (fun _ _ hF => k_X5_isWithin hn hF) w_43 cm_X5_isWithin (by decide) (by decide) rfl rfl (Nat.le_of_ble_eq_true rfl) dX5_cargo_12 15 rfl (fun v27 u26 h => ?_)
    refine ww_if_ne C 21 dX5_cargo_15 (by decide) h 18 rfl (fun h => ?_) (fun h => ?_)
    · refine ww_aload_n C 0 dX5_cargo_21 rfl rfl 22 rfl ?_
      refine ww_getS C cl_X5 (obX hn) 4 (by decide) rfl 42 rfl w_533 dX5_cargo_22 25 rfl ?_
      refine ww_iconst C (1 : Int32) dX5_cargo_25 (by decide) 26 rfl ?_
      refine ww_callVi C (As := [.int (1 : Int32)]) (st := []) h cl_X1.1 (obScene (by decide) hn) (fun _ _ hF => k_X1_casksAt hn (by decide) hF) w_217 cm_X1_casksAt (by decide) (by decide) rfl rfl (Nat.le_of_ble_eq_true rfl) dX5_cargo_26 29 rfl (fun v29 u28 h => ?_)
      refine ww_iconst C (-1 : Int32) dX5_cargo_29 (by decide) 30 rfl ?_
      refine ww_ixor C dX5_cargo_30 31 rfl ?_
      refine ww_bi h (fun v30 h => ?_)
      refine ww_istore_n C [(3, .int v30), (0, .ref (ad 72)), (1, .int a1), (2, .int a2)] dX5_cargo_31 rfl (by decide) rfl 32 rfl ?_
      refine ww_iconst C (0 : Int32) dX5_cargo_32 (by decide) 33 rfl ?_
      refine ww_istore C [(4, .int (0 : Int32)), (3, .int v30), (0, .ref (ad 72)), (1, .int a1), (2, .int a2)] dX5_cargo_33 (by decide) rfl 35 rfl ?_
      refine ww_iconst C (0 : Int32) dX5_cargo_35 (by decide) 36 rfl ?_
      refine ww_istore C [(5, .int (0 : Int32)), (4, .int (0 : Int32)), (3, .int v30), (0, .ref (ad 72)), (1, .int a1), (2, .int a2)] dX5_cargo_36 (by decide) rfl 38 rfl ?_
      refine ww_iconst C (1 : Int32) dX5_cargo_38 (by decide) 39 rfl ?_
      refine ww_istore C [(6, .int (1 : Int32)), (5, .int (0 : Int32)), (4, .int (0 : Int32)), (3, .int v30), (0, .ref (ad 72)), (1, .int a1), (2, .int a2)] dX5_cargo_39 (by decide) rfl 41 rfl ?_
      exact ww_sub [4, 5, 6, 3, 2, 1, 0] rfl (L41h N _ _ _ _ _ h)
    · refine ww_bipush C (-2 : Int32) dX5_cargo_18 (by decide) 20 rfl ?_
      exact ww_iret C dX5_cargo_20 hr h

set_option maxRecDepth 100000 in
set_option maxHeartbeats 4000000 in
theorem k_X5_mostLeft {l : Launch} {D : va_G} {ad : Nat → Nat} {cA : Nat → ClassId} {tys : List (ClassId × FieldType)} {n : Nat} {sa : SA} (hn : 73 ≤ n) {N : Nat} {G : Nat → Int32 → Int32 → Int32 → Mem → Option (Int32 × Mem)} {rkG : Nat} (hrk : 6 ≤ rkG) (hG_X5_mostLeft : ∀ {a1 : Nat} (ha1 : isScene a1) {a2 a3 a4 : Int32} {g : Mem} {r : Int32} {g1 : Mem}, G a1 a2 a3 a4 g = some (r, g1) → CTi l yX5_mostLeft (wsm yX5_mostLeft cX5_mostLeft 7 (some .int)) rkG D YI ad cA tys n sa g [.ref (ad a1), .int a2, .int a3, .int a4] r g1) {g : Mem} {a1 : Nat} (ha1 : isScene a1) {a2 : Int32} {a3 : Int32} {a4 : Int32} {r : Int32} {g1 : Mem} (h : X5_mostLeft N G a1 a2 a3 a4 g = some (r, g1)) : CTi l yX5_mostLeft (wsm yX5_mostLeft cX5_mostLeft 7 (some .int)) (rkG + 1) D YI ad cA tys n sa g [.ref (ad a1), .int a2, .int a3, .int a4] r g1 := by
  refine ct_of RX5 rfl (by decide +kernel) (Nat.le_of_ble_eq_true rfl) rfl (fun sz => PBi D YI ad cA n r g1 sz) ?_
  intro p e R s m args below meth c C hr
  have L37h : ∀ (fu : Nat), (∀ (x4 : Int32) (x5 : Int32) (g : Mem), X5_mostLeft_L37 N G a1 a2 a3 a4 fu x4 x5 g = some (r, g1) → WW p l e R s m args below meth c 7 D YI ad cA n (MQ below (PBi D YI ad cA n r g1 s.heap.size) args s 0 0 (AA n ad s.heap.size)) g 37 [(0, .ref (ad a1)), (1, .int a2), (2, .int a3), (3, .int a4), (4, .int x4), (5, .int x5)] []) := by
    intro fu
    induction fu with
    | zero => intro x4 x5 g h; cases h
    | succ fu ih =>
      intro x4 x5 g h
      rw [X5_mostLeft_L37] at h
      refine ww_iload C 5 dX5_mostLeft_37 rfl 39 rfl ?_
      refine ww_bipush C (12 : Int32) dX5_mostLeft_39 (by decide) 41 rfl ?_
      refine ww_icmp_ge C 113 dX5_mostLeft_41 (by decide) h 44 rfl (fun h => ?_) (fun h => ?_)
      · refine ww_iload C 4 dX5_mostLeft_113 rfl 115 rfl ?_
        exact ww_iret C dX5_mostLeft_115 hr h
      · refine ww_iload C 5 dX5_mostLeft_44 rfl 46 rfl ?_
        refine ww_iload_n C 2 dX5_mostLeft_46 rfl rfl 47 rfl ?_
        refine ww_icmp_eq C 107 dX5_mostLeft_47 (by decide) h 50 rfl (fun h => ?_) (fun h => ?_)
        · refine ww_iinc C 5 (1 : Int32) (by decide) (fun v18 => [(5, .int v18), (0, .ref (ad a1)), (1, .int a2), (2, .int a3), (3, .int a4), (4, .int x4)]) dX5_mostLeft_107 rfl (by decide) (fun _ => rfl) h 110 rfl (fun v18 h => ?_)
          refine ww_goto C 37 dX5_mostLeft_110 (by decide) ?_
          exact ww_sub [1, 2, 3, 4, 5, 0] rfl (ih _ _ _ h)
        · refine ww_aload_n C 0 dX5_mostLeft_50 rfl rfl 51 rfl ?_
          refine ww_iload_n C 1 dX5_mostLeft_51 rfl rfl 52 rfl ?_
          refine ww_iload C 5 dX5_mostLeft_52 rfl 54 rfl ?_
          refine ww_callVi C (As := [.int a2, .int x5]) (st := []) h cl_X1.1 (obScene ha1 hn) (fun _ _ hF => k_X1_can hn ha1 hF) w_135 cm_X1_can (by omega) (by decide) rfl rfl (Nat.le_of_ble_eq_true rfl) dX5_mostLeft_54 57 rfl (fun v20 u19 h => ?_)
          refine ww_if_eq C 107 dX5_mostLeft_57 (by decide) h 60 rfl (fun h => ?_) (fun h => ?_)
          · refine ww_iinc C 5 (1 : Int32) (by decide) (fun v21 => [(5, .int v21), (0, .ref (ad a1)), (1, .int a2), (2, .int a3), (3, .int a4), (4, .int x4)]) dX5_mostLeft_107 rfl (by decide) (fun _ => rfl) h 110 rfl (fun v21 h => ?_)
            refine ww_goto C 37 dX5_mostLeft_110 (by decide) ?_
            exact ww_sub [1, 2, 3, 4, 5, 0] rfl (ih _ _ _ h)
          · refine ww_aload_n C 0 dX5_mostLeft_60 rfl rfl 61 rfl ?_
            refine ww_getS C cl_X1 (obScene ha1 hn) 7 (by decide) rfl (a1 + 8) (so_scene ha1 7 8 (by decide) rfl) w_494 dX5_mostLeft_61 64 rfl ?_
            refine ww_iload_n C 1 dX5_mostLeft_64 rfl rfl 65 rfl ?_
            refine ww_iald C (iaScene (q := a1) ha1 hn 8 6 (by decide)) dX5_mostLeft_65 h 66 rfl (fun h => ?_)
            refine ww_bi h (fun v22 h => ?_)
            refine ww_istore C [(6, .int v22), (0, .ref (ad a1)), (1, .int a2), (2, .int a3), (3, .int a4), (4, .int x4), (5, .int x5)] dX5_mostLeft_66 (by decide) rfl 68 rfl ?_
            refine ww_aload_n C 1 dX5_mostLeft_68 rfl rfl 69 rfl ?_
            refine ww_iload_n C 2 dX5_mostLeft_69 rfl rfl 70 rfl ?_
            refine ww_iload C 6 dX5_mostLeft_70 rfl 72 rfl ?_
            refine ww_callVv C (As := [.int a2, .int x5]) (st := []) h cl_X1.1 (obScene ha1 hn) (fun _ _ hF => k_X1_bringUp hn ha1 hF) w_140 cm_X1_bringUp (by omega) (by decide) rfl rfl (Nat.le_of_ble_eq_true rfl) dX5_mostLeft_72 75 rfl (fun _ u23 h => ?_)
            refine ww_iload C 5 dX5_mostLeft_75 rfl 77 rfl ?_
            refine ww_aload_n C 1 dX5_mostLeft_77 rfl rfl 78 rfl ?_
            refine ww_iload_n C 2 dX5_mostLeft_78 rfl rfl 79 rfl ?_
            refine ww_iload_n C 3 dX5_mostLeft_79 rfl rfl 80 rfl ?_
            refine ww_iload_n C 4 dX5_mostLeft_80 rfl rfl 81 rfl ?_
            refine ww_iconst C (1 : Int32) dX5_mostLeft_81 (by decide) 82 rfl ?_
            refine ww_isub C dX5_mostLeft_82 83 rfl ?_
            refine ww_callSi C (As := [.ref (ad a1), .int a2, .int a3, .int (a4 - (1 : Int32))]) (st := [.int x4]) h (fun _ _ hF => hG_X5_mostLeft ha1 hF) w_228 cm_X5_mostLeft (Nat.le_refl _) (by decide) rfl rfl (Nat.le_of_ble_eq_true rfl) dX5_mostLeft_83 86 rfl (fun v26 u25 h => ?_)
            refine ww_max C w_231 wm_max (by omega) (Nat.le_of_ble_eq_true rfl) dX5_mostLeft_86 89 rfl ?_
            refine ww_bi h (fun v27 h => ?_)
            refine ww_istore C [(4, .int v27), (6, .int v22), (0, .ref (ad a1)), (1, .int a2), (2, .int a3), (3, .int a4), (5, .int x5)] dX5_mostLeft_89 (by decide) rfl 91 rfl ?_
            refine ww_aload_n C 2 dX5_mostLeft_91 rfl rfl 92 rfl ?_
            refine ww_getS C cl_X1 (obScene ha1 hn) 7 (by decide) rfl (a1 + 8) (so_scene ha1 7 8 (by decide) rfl) w_494 dX5_mostLeft_92 95 rfl ?_
            refine ww_iload_n C 3 dX5_mostLeft_95 rfl rfl 96 rfl ?_
            refine ww_iload C 1 dX5_mostLeft_96 rfl 98 rfl ?_
            refine ww_iast C (iaScene (q := a1) ha1 hn 8 6 (by decide)) dX5_mostLeft_98 h 99 rfl (fun u28 h => ?_)
            refine ww_aload_n C 2 dX5_mostLeft_99 rfl rfl 100 rfl ?_
            refine ww_getS C cl_X1 (obScene ha1 hn) 4 (by decide) rfl (a1 + 5) (so_scene ha1 4 5 (by decide) rfl) w_488 dX5_mostLeft_100 103 rfl ?_
            refine ww_iload C 6 dX5_mostLeft_103 rfl 105 rfl ?_
            refine ww_iconst C (0 : Int32) dX5_mostLeft_105 (by decide) 106 rfl ?_
            refine ww_iast C (iaScene (q := a1) ha1 hn 5 12 (by decide)) dX5_mostLeft_106 h 107 rfl (fun u29 h => ?_)
            refine ww_iinc C 6 (1 : Int32) (by decide) (fun v30 => [(5, .int v30), (4, .int v27), (6, .int v22), (0, .ref (ad a1)), (1, .int a2), (2, .int a3), (3, .int a4)]) dX5_mostLeft_107 rfl (by decide) (fun _ => rfl) h 110 rfl (fun v30 h => ?_)
            refine ww_goto C 37 dX5_mostLeft_110 (by decide) ?_
            exact ww_sub [3, 4, 5, 6, 1, 0] rfl (ih _ _ _ h)
  rw [X5_mostLeft] at h
  refine ww_iload_n C 3 dX5_mostLeft_0 rfl rfl 1 rfl ?_
  refine ww_if_gt C 31 dX5_mostLeft_1 (by decide) h 4 rfl (fun h => ?_) (fun h => ?_)
  · refine ww_iconst C (-1 : Int32) dX5_mostLeft_31 (by decide) 32 rfl ?_
    refine ww_istore C [(4, .int (-1 : Int32)), (0, .ref (ad a1)), (1, .int a2), (2, .int a3), (3, .int a4)] dX5_mostLeft_32 (by decide) rfl 34 rfl ?_
    refine ww_iconst C (0 : Int32) dX5_mostLeft_34 (by decide) 35 rfl ?_
    refine ww_istore C [(5, .int (0 : Int32)), (4, .int (-1 : Int32)), (0, .ref (ad a1)), (1, .int a2), (2, .int a3), (3, .int a4)] dX5_mostLeft_35 (by decide) rfl 37 rfl ?_
    exact ww_sub [2, 3, 4, 5, 1, 0] rfl (L37h N _ _ _ h)
  · refine ww_aload_n C 0 dX5_mostLeft_4 rfl rfl 5 rfl ?_
    refine ww_iload_n C 1 dX5_mostLeft_5 rfl rfl 6 rfl ?_
    refine ww_iload_n C 2 dX5_mostLeft_6 rfl rfl 7 rfl ?_
    refine ww_callVi C (As := [.int a2, .int a3]) (st := []) h cl_X1.1 (obScene ha1 hn) (fun _ _ hF => k_X1_can hn ha1 hF) w_135 cm_X1_can (by omega) (by decide) rfl rfl (Nat.le_of_ble_eq_true rfl) dX5_mostLeft_7 10 rfl (fun v32 u31 h => ?_)
    refine ww_if_eq C 29 dX5_mostLeft_10 (by decide) h 13 rfl (fun h => ?_) (fun h => ?_)
    · refine ww_iconst C (-1 : Int32) dX5_mostLeft_29 (by decide) 30 rfl ?_
      exact ww_iret C dX5_mostLeft_30 hr h
    · refine ww_aload_n C 0 dX5_mostLeft_13 rfl rfl 14 rfl ?_
      refine ww_getS C cl_X1 (obScene ha1 hn) 7 (by decide) rfl (a1 + 8) (so_scene ha1 7 8 (by decide) rfl) w_494 dX5_mostLeft_14 17 rfl ?_
      refine ww_iload_n C 1 dX5_mostLeft_17 rfl rfl 18 rfl ?_
      refine ww_iald C (iaScene (q := a1) ha1 hn 8 6 (by decide)) dX5_mostLeft_18 h 19 rfl (fun h => ?_)
      refine ww_aload_n C 0 dX5_mostLeft_19 rfl rfl 20 rfl ?_
      refine ww_iload_n C 1 dX5_mostLeft_20 rfl rfl 21 rfl ?_
      refine ww_iload_n C 2 dX5_mostLeft_21 rfl rfl 22 rfl ?_
      refine ww_callVi C (As := [.int a2, .int a3]) (st := [.int (u31.1 (a1 + 8) (a2).toNatClampNeg)]) h cl_X1.1 (obScene ha1 hn) (fun _ _ hF => k_X1_cost hn ha1 hF) w_134 cm_X1_cost (by omega) (by decide) rfl rfl (Nat.le_of_ble_eq_true rfl) dX5_mostLeft_22 25 rfl (fun v34 u33 h => ?_)
      refine ww_isub C dX5_mostLeft_25 26 rfl ?_
      refine ww_goto C 30 dX5_mostLeft_26 (by decide) ?_
      exact ww_iret C dX5_mostLeft_30 hr h

theorem kk_ML {l : Launch} {D : va_G} {ad : Nat → Nat} {cA : Nat → ClassId} {tys : List (ClassId × FieldType)} {n : Nat} {sa : SA} (hn : 73 ≤ n) {N : Nat} : ∀ (d : Nat) {a1 : Nat} (ha1 : isScene a1) {a2 a3 a4 : Int32} {g : Mem} {r : Int32} {g1 : Mem}, ML N d a1 a2 a3 a4 g = some (r, g1) → CTi l yX5_mostLeft (wsm yX5_mostLeft cX5_mostLeft 7 (some .int)) (6 + d) D YI ad cA tys n sa g [.ref (ad a1), .int a2, .int a3, .int a4] r g1 := by
  intro d
  induction d with
  | zero => intro a1 ha1 a2 a3 a4 g r g1 h; cases h
  | succ d ih =>
    intro a1 ha1 a2 a3 a4 g r g1 h
    rw [ML] at h
    exact k_X5_mostLeft hn (Nat.le_add_right 6 d) (fun {a1} ha1 {a2 a3 a4 g r g1} hF => ih ha1 hF) ha1 h
theorem kk_X5_mostLeft {l : Launch} {D : va_G} {ad : Nat → Nat} {cA : Nat → ClassId} {tys : List (ClassId × FieldType)} {n : Nat} {sa : SA} (hn : 73 ≤ n) {N : Nat} {g : Mem} {a1 : Nat} (ha1 : isScene a1) {a2 a3 a4 : Int32} {r : Int32} {g1 : Mem} (h : ML N 20 a1 a2 a3 a4 g = some (r, g1)) : CTi l yX5_mostLeft (wsm yX5_mostLeft cX5_mostLeft 7 (some .int)) 26 D YI ad cA tys n sa g [.ref (ad a1), .int a2, .int a3, .int a4] r g1 := kk_ML hn 20 ha1 h

set_option maxRecDepth 100000 in
set_option maxHeartbeats 4000000 in
theorem k_X5_last {l : Launch} {D : va_G} {ad : Nat → Nat} {cA : Nat → ClassId} {tys : List (ClassId × FieldType)} {n : Nat} {sa : SA} (hn : 73 ≤ n) {N : Nat} {g : Mem} {a1 : Int32} {a2 : Int32} {a3 : Int32} {r : Int32} {g1 : Mem} (h : X5_last N a1 a2 a3 g = some (r, g1)) : CTi l yX5_last (wsm yX5_last cX5_last 4 (some .int)) 27 D YI ad cA tys n sa g [.ref (ad 72), .int a1, .int a2, .int a3] r g1 := by
  refine ct_of RX5 rfl (by decide +kernel) (Nat.le_of_ble_eq_true rfl) rfl (fun sz => PBi D YI ad cA n r g1 sz) ?_
  intro p e R s m args below meth c C hr
  rw [X5_last] at h
  refine ww_aload_n C 0 dX5_last_0 rfl rfl 1 rfl ?_
  refine ww_iload_n C 1 dX5_last_1 rfl rfl 2 rfl ?_
  refine ww_callVi C (As := [.int a1]) (st := []) h cl_X5.1 (obX hn) (fun _ _ hF => k_X5_isDiver hn hF) w_72 cm_X5_isDiver (by decide) (by decide) rfl rfl (Nat.le_of_ble_eq_true rfl) dX5_last_2 5 rfl (fun v12 u11 h => ?_)
  refine ww_if_ne C 11 dX5_last_5 (by decide) h 8 rfl (fun h => ?_) (fun h => ?_)
  · refine ww_iload_n C 2 dX5_last_11 rfl rfl 12 rfl ?_
    refine ww_callSi C (As := [.int a2]) (st := []) h (fun _ _ hF => k_X5_isCask hn hF) w_40 cm_X5_isCask (by decide) (by decide) rfl rfl (Nat.le_of_ble_eq_true rfl) dX5_last_12 15 rfl (fun v14 u13 h => ?_)
    refine ww_if_ne C 21 dX5_last_15 (by decide) h 18 rfl (fun h => ?_) (fun h => ?_)
    · refine ww_iload_n C 3 dX5_last_21 rfl rfl 22 rfl ?_
      refine ww_iconst C (3 : Int32) dX5_last_22 (by decide) 23 rfl ?_
      refine ww_callSi C (As := [.int a3, .int (3 : Int32)]) (st := []) h (fun _ _ hF => k_X5_isWithin hn hF) w_43 cm_X5_isWithin (by decide) (by decide) rfl rfl (Nat.le_of_ble_eq_true rfl) dX5_last_23 26 rfl (fun v16 u15 h => ?_)
      refine ww_if_ne C 32 dX5_last_26 (by decide) h 29 rfl (fun h => ?_) (fun h => ?_)
      · refine ww_aload_n C 0 dX5_last_32 rfl rfl 33 rfl ?_
        refine ww_getS C cl_X5 (obX hn) 5 (by decide) rfl 52 rfl w_534 dX5_last_33 36 rfl ?_
        refine ww_aload_n C 0 dX5_last_36 rfl rfl 37 rfl ?_
        refine ww_getS C cl_X5 (obX hn) 4 (by decide) rfl 42 rfl w_533 dX5_last_37 40 rfl ?_
        refine ww_callVv C (As := [.ref (ad 42)]) (st := []) h cl_X1.1 (obScene (by decide) hn) (fun _ _ hF => k_X1_becomes hn (by decide) (by decide) hF) w_197 cm_X1_becomes (by decide) (by decide) rfl rfl (Nat.le_of_ble_eq_true rfl) dX5_last_40 43 rfl (fun _ u17 h => ?_)
        refine ww_aload_n C 0 dX5_last_43 rfl rfl 44 rfl ?_
        refine ww_getS C cl_X5 (obX hn) 5 (by decide) rfl 52 rfl w_534 dX5_last_44 47 rfl ?_
        refine ww_iload_n C 1 dX5_last_47 rfl rfl 48 rfl ?_
        refine ww_iload_n C 2 dX5_last_48 rfl rfl 49 rfl ?_
        refine ww_iload_n C 3 dX5_last_49 rfl rfl 50 rfl ?_
        refine ww_callSi C (As := [.ref (ad 52), .int a1, .int a2, .int a3]) (st := []) h (fun _ _ hF => kk_X5_mostLeft hn (by decide) hF) w_228 cm_X5_mostLeft (by decide) (by decide) rfl rfl (Nat.le_of_ble_eq_true rfl) dX5_last_50 53 rfl (fun v20 u19 h => ?_)
        exact ww_iret C dX5_last_53 hr h
      · refine ww_bipush C (-7 : Int32) dX5_last_29 (by decide) 31 rfl ?_
        exact ww_iret C dX5_last_31 hr h
    · refine ww_bipush C (-6 : Int32) dX5_last_18 (by decide) 20 rfl ?_
      exact ww_iret C dX5_last_20 hr h
  · refine ww_bipush C (-5 : Int32) dX5_last_8 (by decide) 10 rfl ?_
    exact ww_iret C dX5_last_10 hr h

set_option maxRecDepth 100000 in
set_option maxHeartbeats 4000000 in
theorem k_X5_best {l : Launch} {D : va_G} {ad : Nat → Nat} {cA : Nat → ClassId} {tys : List (ClassId × FieldType)} {n : Nat} {sa : SA} (hn : 73 ≤ n) {N : Nat} {g : Mem} {a1 : Int32} {r : Int32} {g1 : Mem} (h : X5_best N a1 g = some (r, g1)) : CTi l yX5_best (wsm yX5_best cX5_best 6 (some .int)) 7 D YI ad cA tys n sa g [.ref (ad 72), .int a1] r g1 := by
  refine ct_of RX5 rfl (by decide +kernel) (Nat.le_of_ble_eq_true rfl) rfl (fun sz => PBi D YI ad cA n r g1 sz) ?_
  intro p e R s m args below meth c C hr
  have L18h : ∀ (fu : Nat), (∀ (x2 : Int32) (x3 : Int32) (x4 : Int32) (g : Mem), X5_best_L18 N a1 fu x2 x3 x4 g = some (r, g1) → WW p l e R s m args below meth c 6 D YI ad cA n (MQ below (PBi D YI ad cA n r g1 s.heap.size) args s 0 0 (AA n ad s.heap.size)) g 18 [(0, .ref (ad 72)), (1, .int a1), (2, .int x2), (3, .int x3), (4, .int x4)] []) := by
    intro fu
    induction fu with
    | zero => intro x2 x3 x4 g h; cases h
    | succ fu ih =>
      intro x2 x3 x4 g h
      rw [X5_best_L18] at h
      refine ww_iload C 4 dX5_best_18 rfl 20 rfl ?_
      refine ww_aload_n C 0 dX5_best_20 rfl rfl 21 rfl ?_
      refine ww_getS C cl_X5 (obX hn) 4 (by decide) rfl 42 rfl w_533 dX5_best_21 24 rfl ?_
      refine ww_getI C cl_X1 (obScene (by decide) hn) 9 (by decide) rfl w_497 dX5_best_24 27 rfl ?_
      refine ww_icmp_ge C 62 dX5_best_27 (by decide) h 30 rfl (fun h => ?_) (fun h => ?_)
      · refine ww_iload_n C 1 dX5_best_62 rfl rfl 63 rfl ?_
        refine ww_if_ne C 70 dX5_best_63 (by decide) h 66 rfl (fun h => ?_) (fun h => ?_)
        · refine ww_iload_n C 3 dX5_best_70 rfl rfl 71 rfl ?_
          exact ww_iret C dX5_best_71 hr h
        · refine ww_iload_n C 2 dX5_best_66 rfl rfl 67 rfl ?_
          refine ww_goto C 71 dX5_best_67 (by decide) ?_
          exact ww_iret C dX5_best_71 hr h
      · refine ww_aload_n C 0 dX5_best_30 rfl rfl 31 rfl ?_
        refine ww_getS C cl_X5 (obX hn) 4 (by decide) rfl 42 rfl w_533 dX5_best_31 34 rfl ?_
        refine ww_iload C 4 dX5_best_34 rfl 36 rfl ?_
        refine ww_callVi C (As := [.int x4]) (st := []) h cl_X1.1 (obScene (by decide) hn) (fun _ _ hF => k_X1_casksFor hn (by decide) hF) w_80 cm_X1_casksFor (by decide) (by decide) rfl rfl (Nat.le_of_ble_eq_true rfl) dX5_best_36 39 rfl (fun v10 u9 h => ?_)
        refine ww_callSi C (As := [.int v10]) (st := []) h (fun _ _ hF => k_J6_bitCount_0f7a4 hn hF) w_236 cm_J6_bitCount_0f7a4 (by decide) (by decide) rfl rfl (Nat.le_of_ble_eq_true rfl) dX5_best_39 42 rfl (fun v12 u11 h => ?_)
        refine ww_istore C [(5, .int v12), (0, .ref (ad 72)), (1, .int a1), (2, .int x2), (3, .int x3), (4, .int x4)] dX5_best_42 (by decide) rfl 44 rfl ?_
        refine ww_iload C 0 dX5_best_44 rfl 46 rfl ?_
        refine ww_iload_n C 4 dX5_best_46 rfl rfl 47 rfl ?_
        refine ww_icmp_le C 56 dX5_best_47 (by decide) h 50 rfl (fun h => ?_) (fun h => ?_)
        · refine ww_iinc C 5 (1 : Int32) (by decide) (fun v13 => [(4, .int v13), (5, .int v12), (0, .ref (ad 72)), (1, .int a1), (2, .int x2), (3, .int x3)]) dX5_best_56 rfl (by decide) (fun _ => rfl) h 59 rfl (fun v13 h => ?_)
          refine ww_goto C 18 dX5_best_59 (by decide) ?_
          exact ww_sub [2, 3, 4, 5, 0] rfl (ih _ _ _ _ h)
        · refine ww_iload C 0 dX5_best_50 rfl 52 rfl ?_
          refine ww_istore_n C [(3, .int v12), (5, .int v12), (0, .ref (ad 72)), (1, .int a1), (2, .int x2), (4, .int x4)] dX5_best_52 rfl (by decide) rfl 53 rfl ?_
          refine ww_iload C 5 dX5_best_53 rfl 55 rfl ?_
          refine ww_istore_n C [(2, .int x4), (3, .int v12), (5, .int v12), (0, .ref (ad 72)), (1, .int a1), (4, .int x4)] dX5_best_55 rfl (by decide) rfl 56 rfl ?_
          refine ww_iinc C 5 (1 : Int32) (by decide) (fun v14 => [(4, .int v14), (2, .int x4), (3, .int v12), (5, .int v12), (0, .ref (ad 72)), (1, .int a1)]) dX5_best_56 rfl (by decide) (fun _ => rfl) h 59 rfl (fun v14 h => ?_)
          refine ww_goto C 18 dX5_best_59 (by decide) ?_
          exact ww_sub [4, 5, 1, 2, 0] rfl (ih _ _ _ _ h)
  rw [X5_best] at h
  refine ww_iload_n C 1 dX5_best_0 rfl rfl 1 rfl ?_
  refine ww_iconst C (1 : Int32) dX5_best_1 (by decide) 2 rfl ?_
  refine ww_callSi C (As := [.int a1, .int (1 : Int32)]) (st := []) h (fun _ _ hF => k_X5_isWithin hn hF) w_43 cm_X5_isWithin (by decide) (by decide) rfl rfl (Nat.le_of_ble_eq_true rfl) dX5_best_2 5 rfl (fun v16 u15 h => ?_)
  refine ww_if_ne C 11 dX5_best_5 (by decide) h 8 rfl (fun h => ?_) (fun h => ?_)
  · refine ww_iconst C (-1 : Int32) dX5_best_11 (by decide) 12 rfl ?_
    refine ww_istore_n C [(2, .int (-1 : Int32)), (0, .ref (ad 72)), (1, .int a1)] dX5_best_12 rfl (by decide) rfl 13 rfl ?_
    refine ww_iconst C (0 : Int32) dX5_best_13 (by decide) 14 rfl ?_
    refine ww_istore_n C [(3, .int (0 : Int32)), (2, .int (-1 : Int32)), (0, .ref (ad 72)), (1, .int a1)] dX5_best_14 rfl (by decide) rfl 15 rfl ?_
    refine ww_iconst C (0 : Int32) dX5_best_15 (by decide) 16 rfl ?_
    refine ww_istore C [(4, .int (0 : Int32)), (3, .int (0 : Int32)), (2, .int (-1 : Int32)), (0, .ref (ad 72)), (1, .int a1)] dX5_best_16 (by decide) rfl 18 rfl ?_
    exact ww_sub [3, 4, 2, 1, 0] rfl (L18h N _ _ _ _ h)
  · refine ww_bipush C (-2 : Int32) dX5_best_8 (by decide) 10 rfl ?_
    exact ww_iret C dX5_best_10 hr h

