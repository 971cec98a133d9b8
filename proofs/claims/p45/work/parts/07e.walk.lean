set_option maxRecDepth 100000 in
set_option maxHeartbeats 4000000 in
theorem k_L_at {l : Launch} {D : va_G} {ad : Nat → Nat} {cA : Nat → ClassId} {tys : List (ClassId × FieldType)} {n : Nat} {sa : SA} (hn : 73 ≤ n) {N : Nat} {g : Mem} {a2 : Int32} {r : Int32} {g1 : Mem} (h : L_at N sa a2 g = some (r, g1)) : CTi l yL_at (wsm yL_at cL_at 2 (some .int)) 1 D YI ad cA tys n sa g [.ref (sa.1 3), .int a2] r g1 := by
  refine ct_of RL rfl (by decide +kernel) (Nat.le_of_ble_eq_true rfl) rfl (fun sz => PBi D YI ad cA n r g1 sz) ?_
  intro p e R s m args below meth c C hr
  rw [L_at] at h
  refine ww_iload_n C 1 dL_at_0 rfl rfl 1 rfl ?_
  refine ww_aload_n C 0 dL_at_1 rfl rfl 2 rfl ?_
  refine ww_slen C (Int32.ofNat sa.2.2.1) rfl dL_at_2 3 rfl ?_
  refine ww_icmp_ge C 12 dL_at_3 (by decide) h 6 rfl (fun h => ?_) (fun h => ?_)
  · refine ww_iconst C (0 : Int32) dL_at_12 (by decide) 13 rfl ?_
    exact ww_iret C dL_at_13 hr h
  · refine ww_aload_n C 0 dL_at_6 rfl rfl 7 rfl ?_
    refine ww_iload_n C 1 dL_at_7 rfl rfl 8 rfl ?_
    refine ww_sld C dL_at_8 h 9 rfl (fun h => ?_)
    refine ww_goto C 13 dL_at_9 (by decide) ?_
    exact ww_iret C dL_at_13 hr h

set_option maxRecDepth 100000 in
set_option maxHeartbeats 4000000 in
theorem k_L_plain {l : Launch} {D : va_G} {ad : Nat → Nat} {cA : Nat → ClassId} {tys : List (ClassId × FieldType)} {n : Nat} {sa : SA} (hn : 73 ≤ n) {N : Nat} {g : Mem} {r : Int32} {g1 : Mem} (h : L_plain N sa g = some (r, g1)) : CTi l yL_plain (wsm yL_plain cL_plain 1 (some .boolean)) 2 D YI ad cA tys n sa g [.ref (sa.1 3)] r g1 := by
  refine ct_of RL rfl (by decide +kernel) (Nat.le_of_ble_eq_true rfl) rfl (fun sz => PBi D YI ad cA n r g1 sz) ?_
  intro p e R s m args below meth c C hr
  rw [L_plain] at h
  refine ww_aload_n C 0 dL_plain_0 rfl rfl 1 rfl ?_
  refine ww_iconst C (0 : Int32) dL_plain_1 (by decide) 2 rfl ?_
  refine ww_callSi C (As := [.ref (sa.1 3), .int (0 : Int32)]) (st := []) h (fun _ _ hF => k_L_at hn hF) w_242 cm_L_at (by decide) (by decide) rfl rfl (Nat.le_of_ble_eq_true rfl) dL_plain_2 5 rfl (fun v4 u3 h => ?_)
  refine ww_iconst C (2 : Int32) dL_plain_5 (by decide) 6 rfl ?_
  refine ww_ishr C dL_plain_6 7 rfl ?_
  refine ww_iconst C (1 : Int32) dL_plain_7 (by decide) 8 rfl ?_
  refine ww_iand C dL_plain_8 9 rfl ?_
  refine ww_if_ne C 16 dL_plain_9 (by decide) h 12 rfl (fun h => ?_) (fun h => ?_)
  · refine ww_iconst C (0 : Int32) dL_plain_16 (by decide) 17 rfl ?_
    exact ww_zret C dL_plain_17 hr rfl h
  · refine ww_iconst C (1 : Int32) dL_plain_12 (by decide) 13 rfl ?_
    refine ww_goto C 17 dL_plain_13 (by decide) ?_
    exact ww_zret C dL_plain_17 hr rfl h

set_option maxRecDepth 100000 in
set_option maxHeartbeats 4000000 in
theorem k_L_many {l : Launch} {D : va_G} {ad : Nat → Nat} {cA : Nat → ClassId} {tys : List (ClassId × FieldType)} {n : Nat} {sa : SA} (hn : 73 ≤ n) {N : Nat} {g : Mem} {r : Int32} {g1 : Mem} (h : L_many N sa g = some (r, g1)) : CTi l yL_many (wsm yL_many cL_many 1 (some .int)) 2 D YI ad cA tys n sa g [.ref (sa.1 3)] r g1 := by
  refine ct_of RL rfl (by decide +kernel) (Nat.le_of_ble_eq_true rfl) rfl (fun sz => PBi D YI ad cA n r g1 sz) ?_
  intro p e R s m args below meth c C hr
  rw [L_many] at h
  refine ww_iconst C (1 : Int32) dL_many_0 (by decide) 1 rfl ?_
  refine ww_aload_n C 0 dL_many_1 rfl rfl 2 rfl ?_
  refine ww_iconst C (0 : Int32) dL_many_2 (by decide) 3 rfl ?_
  refine ww_callSi C (As := [.ref (sa.1 3), .int (0 : Int32)]) (st := [.int (1 : Int32)]) h (fun _ _ hF => k_L_at hn hF) w_242 cm_L_at (by decide) (by decide) rfl rfl (Nat.le_of_ble_eq_true rfl) dL_many_3 6 rfl (fun v4 u3 h => ?_)
  refine ww_iconst C (3 : Int32) dL_many_6 (by decide) 7 rfl ?_
  refine ww_iand C dL_many_7 8 rfl ?_
  refine ww_iadd C dL_many_8 9 rfl ?_
  exact ww_iret C dL_many_9 hr h

set_option maxRecDepth 100000 in
set_option maxHeartbeats 4000000 in
theorem k_L_hour {l : Launch} {D : va_G} {ad : Nat → Nat} {cA : Nat → ClassId} {tys : List (ClassId × FieldType)} {n : Nat} {sa : SA} (hn : 73 ≤ n) {N : Nat} {g : Mem} {r : Int32} {g1 : Mem} (h : L_hour N sa g = some (r, g1)) : CTi l yL_hour (wsm yL_hour cL_hour 1 (some .int)) 2 D YI ad cA tys n sa g [.ref (sa.1 3)] r g1 := by
  refine ct_of RL rfl (by decide +kernel) (Nat.le_of_ble_eq_true rfl) rfl (fun sz => PBi D YI ad cA n r g1 sz) ?_
  intro p e R s m args below meth c C hr
  rw [L_hour] at h
  refine ww_aload_n C 0 dL_hour_0 rfl rfl 1 rfl ?_
  refine ww_iconst C (0 : Int32) dL_hour_1 (by decide) 2 rfl ?_
  refine ww_callSi C (As := [.ref (sa.1 3), .int (0 : Int32)]) (st := []) h (fun _ _ hF => k_L_at hn hF) w_242 cm_L_at (by decide) (by decide) rfl rfl (Nat.le_of_ble_eq_true rfl) dL_hour_2 5 rfl (fun v4 u3 h => ?_)
  refine ww_bipush C (27 : Int32) dL_hour_5 (by decide) 7 rfl ?_
  refine ww_ishr C dL_hour_7 8 rfl ?_
  refine ww_bipush C (15 : Int32) dL_hour_8 (by decide) 10 rfl ?_
  refine ww_iand C dL_hour_10 11 rfl ?_
  exact ww_iret C dL_hour_11 hr h

set_option maxRecDepth 100000 in
set_option maxHeartbeats 4000000 in
theorem k_L_sky {l : Launch} {D : va_G} {ad : Nat → Nat} {cA : Nat → ClassId} {tys : List (ClassId × FieldType)} {n : Nat} {sa : SA} (hn : 73 ≤ n) {N : Nat} {g : Mem} {a2 : Int32} {r : Int32} {g1 : Mem} (h : L_sky N sa a2 g = some (r, g1)) : CTi l yL_sky (wsm yL_sky cL_sky 2 (some .int)) 2 D YI ad cA tys n sa g [.ref (sa.1 3), .int a2] r g1 := by
  refine ct_of RL rfl (by decide +kernel) (Nat.le_of_ble_eq_true rfl) rfl (fun sz => PBi D YI ad cA n r g1 sz) ?_
  intro p e R s m args below meth c C hr
  rw [L_sky] at h
  refine ww_iconst C (3 : Int32) dL_sky_0 (by decide) 1 rfl ?_
  refine ww_aload_n C 0 dL_sky_1 rfl rfl 2 rfl ?_
  refine ww_iconst C (5 : Int32) dL_sky_2 (by decide) 3 rfl ?_
  refine ww_callSi C (As := [.ref (sa.1 3), .int (5 : Int32)]) (st := [.int (3 : Int32)]) h (fun _ _ hF => k_L_at hn hF) w_242 cm_L_at (by decide) (by decide) rfl rfl (Nat.le_of_ble_eq_true rfl) dL_sky_3 6 rfl (fun v4 u3 h => ?_)
  refine ww_iconst C (5 : Int32) dL_sky_6 (by decide) 7 rfl ?_
  refine ww_iload_n C 1 dL_sky_7 rfl rfl 8 rfl ?_
  refine ww_imul C dL_sky_8 9 rfl ?_
  refine ww_ishr C dL_sky_9 10 rfl ?_
  refine ww_bipush C (31 : Int32) dL_sky_10 (by decide) 12 rfl ?_
  refine ww_iand C dL_sky_12 13 rfl ?_
  refine ww_imul C dL_sky_13 14 rfl ?_
  exact ww_iret C dL_sky_14 hr h

set_option maxRecDepth 100000 in
set_option maxHeartbeats 4000000 in
theorem k_L_cask {l : Launch} {D : va_G} {ad : Nat → Nat} {cA : Nat → ClassId} {tys : List (ClassId × FieldType)} {n : Nat} {sa : SA} (hn : 73 ≤ n) {N : Nat} {g : Mem} {a2 : Int32} {a3 : Int32} {r : Int32} {g1 : Mem} (h : L_cask N sa a2 a3 g = some (r, g1)) : CTi l yL_cask (wsm yL_cask cL_cask 4 (some .int)) 2 D YI ad cA tys n sa g [.ref (sa.1 3), .int a2, .int a3] r g1 := by
  refine ct_of RL rfl (by decide +kernel) (Nat.le_of_ble_eq_true rfl) rfl (fun sz => PBi D YI ad cA n r g1 sz) ?_
  intro p e R s m args below meth c C hr
  rw [L_cask] at h
  refine ww_aload_n C 0 dL_cask_0 rfl rfl 1 rfl ?_
  refine ww_bipush C (6 : Int32) dL_cask_1 (by decide) 3 rfl ?_
  refine ww_iload_n C 1 dL_cask_3 rfl rfl 4 rfl ?_
  refine ww_iconst C (2 : Int32) dL_cask_4 (by decide) 5 rfl ?_
  refine ww_idiv C dL_cask_5 h 6 rfl (fun h => ?_)
  refine ww_iadd C dL_cask_6 7 rfl ?_
  refine ww_callSi C (As := [.ref (sa.1 3), .int ((6 : Int32) + (a2 / (2 : Int32)))]) (st := []) h (fun _ _ hF => k_L_at hn hF) w_242 cm_L_at (by decide) (by decide) rfl rfl (Nat.le_of_ble_eq_true rfl) dL_cask_7 10 rfl (fun v5 u4 h => ?_)
  refine ww_bipush C (15 : Int32) dL_cask_10 (by decide) 12 rfl ?_
  refine ww_iload_n C 1 dL_cask_12 rfl rfl 13 rfl ?_
  refine ww_iconst C (2 : Int32) dL_cask_13 (by decide) 14 rfl ?_
  refine ww_irem C dL_cask_14 h 15 rfl (fun h => ?_)
  refine ww_imul C dL_cask_15 16 rfl ?_
  refine ww_ishr C dL_cask_16 17 rfl ?_
  refine ww_bi h (fun v6 h => ?_)
  refine ww_istore_n C [(3, .int v6), (0, .ref (sa.1 3)), (1, .int a2), (2, .int a3)] dL_cask_17 rfl (by decide) rfl 18 rfl ?_
  refine ww_iload_n C 3 dL_cask_18 rfl rfl 19 rfl ?_
  refine ww_if_ne C 32 dL_cask_19 (by decide) h 22 rfl (fun h => ?_) (fun h => ?_)
  · refine ww_iload_n C 3 dL_cask_32 rfl rfl 33 rfl ?_
    refine ww_iconst C (1 : Int32) dL_cask_33 (by decide) 34 rfl ?_
    refine ww_icmp_ne C 48 dL_cask_34 (by decide) h 37 rfl (fun h => ?_) (fun h => ?_)
    · refine ww_iload_n C 3 dL_cask_48 rfl rfl 49 rfl ?_
      refine ww_iconst C (2 : Int32) dL_cask_49 (by decide) 50 rfl ?_
      refine ww_icmp_ne C 63 dL_cask_50 (by decide) h 53 rfl (fun h => ?_) (fun h => ?_)
      · refine ww_iload_n C 0 dL_cask_63 rfl rfl 64 rfl ?_
        refine ww_bipush C (13 : Int32) dL_cask_64 (by decide) 66 rfl ?_
        refine ww_ishr C dL_cask_66 67 rfl ?_
        refine ww_iconst C (3 : Int32) dL_cask_67 (by decide) 68 rfl ?_
        refine ww_iand C dL_cask_68 69 rfl ?_
        refine ww_iconst C (3 : Int32) dL_cask_69 (by decide) 70 rfl ?_
        refine ww_irem C dL_cask_70 h 71 rfl (fun h => ?_)
        exact ww_iret C dL_cask_71 hr h
      · refine ww_iload_n C 0 dL_cask_53 rfl rfl 54 rfl ?_
        refine ww_bipush C (8 : Int32) dL_cask_54 (by decide) 56 rfl ?_
        refine ww_ishr C dL_cask_56 57 rfl ?_
        refine ww_bipush C (31 : Int32) dL_cask_57 (by decide) 59 rfl ?_
        refine ww_iand C dL_cask_59 60 rfl ?_
        refine ww_goto C 71 dL_cask_60 (by decide) ?_
        exact ww_iret C dL_cask_71 hr h
    · refine ww_iconst C (3 : Int32) dL_cask_37 (by decide) 38 rfl ?_
      refine ww_iload_n C 0 dL_cask_38 rfl rfl 39 rfl ?_
      refine ww_iconst C (3 : Int32) dL_cask_39 (by decide) 40 rfl ?_
      refine ww_ishr C dL_cask_40 41 rfl ?_
      refine ww_bipush C (31 : Int32) dL_cask_41 (by decide) 43 rfl ?_
      refine ww_iand C dL_cask_43 44 rfl ?_
      refine ww_imul C dL_cask_44 45 rfl ?_
      refine ww_goto C 71 dL_cask_45 (by decide) ?_
      exact ww_iret C dL_cask_71 hr h
  · refine ww_iload_n C 0 dL_cask_22 rfl rfl 23 rfl ?_
    refine ww_bipush C (7 : Int32) dL_cask_23 (by decide) 25 rfl ?_
    refine ww_iand C dL_cask_25 26 rfl ?_
    refine ww_bipush C (6 : Int32) dL_cask_26 (by decide) 28 rfl ?_
    refine ww_irem C dL_cask_28 h 29 rfl (fun h => ?_)
    refine ww_goto C 71 dL_cask_29 (by decide) ?_
    exact ww_iret C dL_cask_71 hr h

set_option maxRecDepth 100000 in
set_option maxHeartbeats 4000000 in
theorem k_L_kind {l : Launch} {D : va_G} {ad : Nat → Nat} {cA : Nat → ClassId} {tys : List (ClassId × FieldType)} {n : Nat} {sa : SA} (hn : 73 ≤ n) {N : Nat} {g : Mem} {a2 : Int32} {r : Int32} {g1 : Mem} (h : L_kind N sa a2 g = some (r, g1)) : CTi l yL_kind (wsm yL_kind cL_kind 2 (some .int)) 2 D YI ad cA tys n sa g [.ref (sa.1 3), .int a2] r g1 := by
  refine ct_of RL rfl (by decide +kernel) (Nat.le_of_ble_eq_true rfl) rfl (fun sz => PBi D YI ad cA n r g1 sz) ?_
  intro p e R s m args below meth c C hr
  rw [L_kind] at h
  refine ww_aload_n C 0 dL_kind_0 rfl rfl 1 rfl ?_
  refine ww_iconst C (1 : Int32) dL_kind_1 (by decide) 2 rfl ?_
  refine ww_iload_n C 1 dL_kind_2 rfl rfl 3 rfl ?_
  refine ww_iadd C dL_kind_3 4 rfl ?_
  refine ww_callSi C (As := [.ref (sa.1 3), .int ((1 : Int32) + a2)]) (st := []) h (fun _ _ hF => k_L_at hn hF) w_242 cm_L_at (by decide) (by decide) rfl rfl (Nat.le_of_ble_eq_true rfl) dL_kind_4 7 rfl (fun v4 u3 h => ?_)
  refine ww_bipush C (7 : Int32) dL_kind_7 (by decide) 9 rfl ?_
  refine ww_iand C dL_kind_9 10 rfl ?_
  refine ww_bipush C (6 : Int32) dL_kind_10 (by decide) 12 rfl ?_
  refine ww_irem C dL_kind_12 h 13 rfl (fun h => ?_)
  exact ww_iret C dL_kind_13 hr h

set_option maxRecDepth 100000 in
set_option maxHeartbeats 4000000 in
theorem k_L_more {l : Launch} {D : va_G} {ad : Nat → Nat} {cA : Nat → ClassId} {tys : List (ClassId × FieldType)} {n : Nat} {sa : SA} (hn : 73 ≤ n) {N : Nat} {g : Mem} {a2 : Int32} {r : Int32} {g1 : Mem} (h : L_more N sa a2 g = some (r, g1)) : CTi l yL_more (wsm yL_more cL_more 2 (some .int)) 2 D YI ad cA tys n sa g [.ref (sa.1 3), .int a2] r g1 := by
  refine ct_of RL rfl (by decide +kernel) (Nat.le_of_ble_eq_true rfl) rfl (fun sz => PBi D YI ad cA n r g1 sz) ?_
  intro p e R s m args below meth c C hr
  rw [L_more] at h
  refine ww_aload_n C 0 dL_more_0 rfl rfl 1 rfl ?_
  refine ww_iconst C (1 : Int32) dL_more_1 (by decide) 2 rfl ?_
  refine ww_iload_n C 1 dL_more_2 rfl rfl 3 rfl ?_
  refine ww_iadd C dL_more_3 4 rfl ?_
  refine ww_callSi C (As := [.ref (sa.1 3), .int ((1 : Int32) + a2)]) (st := []) h (fun _ _ hF => k_L_at hn hF) w_242 cm_L_at (by decide) (by decide) rfl rfl (Nat.le_of_ble_eq_true rfl) dL_more_4 7 rfl (fun v4 u3 h => ?_)
  refine ww_iconst C (3 : Int32) dL_more_7 (by decide) 8 rfl ?_
  refine ww_ishr C dL_more_8 9 rfl ?_
  refine ww_bipush C (15 : Int32) dL_more_9 (by decide) 11 rfl ?_
  refine ww_iand C dL_more_11 12 rfl ?_
  refine ww_bipush C (10 : Int32) dL_more_12 (by decide) 14 rfl ?_
  refine ww_irem C dL_more_14 h 15 rfl (fun h => ?_)
  exact ww_iret C dL_more_15 hr h

set_option maxRecDepth 100000 in
set_option maxHeartbeats 4000000 in
theorem k_L_breath {l : Launch} {D : va_G} {ad : Nat → Nat} {cA : Nat → ClassId} {tys : List (ClassId × FieldType)} {n : Nat} {sa : SA} (hn : 73 ≤ n) {N : Nat} {g : Mem} {a2 : Int32} {r : Int32} {g1 : Mem} (h : L_breath N sa a2 g = some (r, g1)) : CTi l yL_breath (wsm yL_breath cL_breath 2 (some .int)) 2 D YI ad cA tys n sa g [.ref (sa.1 3), .int a2] r g1 := by
  refine ct_of RL rfl (by decide +kernel) (Nat.le_of_ble_eq_true rfl) rfl (fun sz => PBi D YI ad cA n r g1 sz) ?_
  intro p e R s m args below meth c C hr
  rw [L_breath] at h
  refine ww_aload_n C 0 dL_breath_0 rfl rfl 1 rfl ?_
  refine ww_iconst C (1 : Int32) dL_breath_1 (by decide) 2 rfl ?_
  refine ww_iload_n C 1 dL_breath_2 rfl rfl 3 rfl ?_
  refine ww_iadd C dL_breath_3 4 rfl ?_
  refine ww_callSi C (As := [.ref (sa.1 3), .int ((1 : Int32) + a2)]) (st := []) h (fun _ _ hF => k_L_at hn hF) w_242 cm_L_at (by decide) (by decide) rfl rfl (Nat.le_of_ble_eq_true rfl) dL_breath_4 7 rfl (fun v4 u3 h => ?_)
  refine ww_bipush C (7 : Int32) dL_breath_7 (by decide) 9 rfl ?_
  refine ww_ishr C dL_breath_9 10 rfl ?_
  refine ww_bipush C (127 : Int32) dL_breath_10 (by decide) 12 rfl ?_
  refine ww_iand C dL_breath_12 13 rfl ?_
  refine ww_bipush C (100 : Int32) dL_breath_13 (by decide) 15 rfl ?_
  refine ww_irem C dL_breath_15 h 16 rfl (fun h => ?_)
  exact ww_iret C dL_breath_16 hr h

set_option maxRecDepth 100000 in
set_option maxHeartbeats 4000000 in
theorem k_L_held {l : Launch} {D : va_G} {ad : Nat → Nat} {cA : Nat → ClassId} {tys : List (ClassId × FieldType)} {n : Nat} {sa : SA} (hn : 73 ≤ n) {N : Nat} {g : Mem} {a1 : Int64} {a2 : Int32} {a3 : Int32} {r : Int32} {g1 : Mem} (h : L_held N a1 a2 a3 g = some (r, g1)) : CTi l yL_held (wsm yL_held cL_held 4 (some .int)) 2 D YI ad cA tys n sa g [.long a1, .int a2, .int a3] r g1 := by
  refine ct_of RL rfl (by decide +kernel) (Nat.le_of_ble_eq_true rfl) rfl (fun sz => PBi D YI ad cA n r g1 sz) ?_
  intro p e R s m args below meth c C hr
  rw [L_held] at h
  refine ww_iload_n C 1 dL_held_0 rfl rfl 1 rfl ?_
  refine ww_i2l C dL_held_1 2 rfl ?_
  refine ww_iload_n C 2 dL_held_2 rfl rfl 3 rfl ?_
  refine ww_i2l C dL_held_3 4 rfl ?_
  refine ww_lload_n C 0 dL_held_4 rfl rfl 5 rfl ?_
  refine ww_lmin C w_839 wm_lmin (by decide) (Nat.le_of_ble_eq_true rfl) dL_held_5 8 rfl ?_
  refine ww_lmax C w_842 wm_lmax (by decide) (Nat.le_of_ble_eq_true rfl) dL_held_8 11 rfl ?_
  refine ww_l2i C dL_held_11 12 rfl ?_
  exact ww_iret C dL_held_12 hr h

set_option maxRecDepth 100000 in
set_option maxHeartbeats 4000000 in
theorem k_L_start {l : Launch} {D : va_G} {ad : Nat → Nat} {cA : Nat → ClassId} {tys : List (ClassId × FieldType)} {n : Nat} {sa : SA} (hn : 74 ≤ n) {N : Nat} {g : Mem} {r : Int32} {g1 : Mem} (h : L_start N sa g = some (r, g1)) : CTv l yL_start (wsm yL_start cL_start 3 none) 3 D YI ad cA tys n sa g [.ref (sa.1 3), .ref (ad 73)] g1 := by
  refine ct_of RL rfl (by decide +kernel) (Nat.le_of_ble_eq_true rfl) rfl (fun sz => PBv D YI ad cA n g1 sz) ?_
  intro p e R s m args below meth c C hr
  have L92h : ∀ (fu : Nat), (∀ (x2 : Int32) (g : Mem), L_start_L92 N sa fu x2 g = some (r, g1) → WW p l e R s m args below meth c 3 D YI ad cA n (MQ below (PBv D YI ad cA n g1 s.heap.size) args s 0 0 (AA n ad s.heap.size)) g 92 [(0, .ref (sa.1 3)), (1, .ref (ad 73)), (2, .int x2)] []) := by
    intro fu
    induction fu with
    | zero => intro x2 g h; cases h
    | succ fu ih =>
      intro x2 g h
      rw [L_start_L92] at h
      refine ww_iload_n C 2 dL_start_92 rfl rfl 93 rfl ?_
      refine ww_bipush C (6 : Int32) dL_start_93 (by decide) 95 rfl ?_
      refine ww_icmp_ge C 116 dL_start_95 (by decide) h 98 rfl (fun h => ?_) (fun h => ?_)
      · refine ww_aload_n C 1 dL_start_116 rfl rfl 117 rfl ?_
        refine ww_bipush C (70 : Int32) dL_start_117 (by decide) 119 rfl ?_
        refine ww_aload_n C 0 dL_start_119 rfl rfl 120 rfl ?_
        refine ww_callSi C (As := [.ref (sa.1 3)]) (st := [.int (70 : Int32), .ref (ad 73)]) h (fun _ _ hF => k_L_hour (Nat.le_trans (by decide) hn) hF) w_553 cm_L_hour (by decide) (by decide) rfl rfl (Nat.le_of_ble_eq_true rfl) dL_start_120 123 rfl (fun v26 u25 h => ?_)
        refine ww_i2l C dL_start_123 124 rfl ?_
        refine ww_last C (laH hn) (fun a ha h9 => kdI_9 ha h9) dL_start_124 h 125 rfl (fun u27 h => ?_)
        exact ww_vret C dL_start_125 hr h
      · refine ww_aload_n C 1 dL_start_98 rfl rfl 99 rfl ?_
        refine ww_bipush C (64 : Int32) dL_start_99 (by decide) 101 rfl ?_
        refine ww_iload_n C 2 dL_start_101 rfl rfl 102 rfl ?_
        refine ww_iadd C dL_start_102 103 rfl ?_
        refine ww_aload_n C 0 dL_start_103 rfl rfl 104 rfl ?_
        refine ww_iload_n C 2 dL_start_104 rfl rfl 105 rfl ?_
        refine ww_callSi C (As := [.ref (sa.1 3), .int x2]) (st := [.int ((64 : Int32) + x2), .ref (ad 73)]) h (fun _ _ hF => k_L_sky (Nat.le_trans (by decide) hn) hF) w_556 cm_L_sky (by decide) (by decide) rfl rfl (Nat.le_of_ble_eq_true rfl) dL_start_105 108 rfl (fun v29 u28 h => ?_)
        refine ww_i2l C dL_start_108 109 rfl ?_
        refine ww_last C (laH hn) (fun a ha h9 => kdI_9 ha h9) dL_start_109 h 110 rfl (fun u30 h => ?_)
        refine ww_iinc C 2 (1 : Int32) (by decide) (fun v31 => [(2, .int v31), (0, .ref (sa.1 3)), (1, .ref (ad 73))]) dL_start_110 rfl (by decide) (fun _ => rfl) h 113 rfl (fun v31 h => ?_)
        refine ww_goto C 92 dL_start_113 (by decide) ?_
        exact ww_sub [1, 2, 0] rfl (ih _ _ h)
  have L61h : ∀ (fu : Nat), (∀ (x2 : Int32) (g : Mem), L_start_L61 N sa fu x2 g = some (r, g1) → WW p l e R s m args below meth c 3 D YI ad cA n (MQ below (PBv D YI ad cA n g1 s.heap.size) args s 0 0 (AA n ad s.heap.size)) g 61 [(0, .ref (sa.1 3)), (1, .ref (ad 73)), (2, .int x2)] []) := by
    intro fu
    induction fu with
    | zero => intro x2 g h; cases h
    | succ fu ih =>
      intro x2 g h
      rw [L_start_L61] at h
      refine ww_iload_n C 2 dL_start_61 rfl rfl 62 rfl ?_
      refine ww_bipush C (48 : Int32) dL_start_62 (by decide) 64 rfl ?_
      refine ww_icmp_ge C 90 dL_start_64 (by decide) h 67 rfl (fun h => ?_) (fun h => ?_)
      · refine ww_iconst C (0 : Int32) dL_start_90 (by decide) 91 rfl ?_
        refine ww_istore_n C [(2, .int (0 : Int32)), (0, .ref (sa.1 3)), (1, .ref (ad 73))] dL_start_91 rfl (by decide) rfl 92 rfl ?_
        exact ww_sub [1, 2, 0] rfl (L92h N _ _ h)
      · refine ww_aload_n C 1 dL_start_67 rfl rfl 68 rfl ?_
        refine ww_bipush C (16 : Int32) dL_start_68 (by decide) 70 rfl ?_
        refine ww_iload_n C 2 dL_start_70 rfl rfl 71 rfl ?_
        refine ww_iadd C dL_start_71 72 rfl ?_
        refine ww_aload_n C 0 dL_start_72 rfl rfl 73 rfl ?_
        refine ww_iload_n C 2 dL_start_73 rfl rfl 74 rfl ?_
        refine ww_iconst C (4 : Int32) dL_start_74 (by decide) 75 rfl ?_
        refine ww_idiv C dL_start_75 h 76 rfl (fun h => ?_)
        refine ww_iload_n C 2 dL_start_76 rfl rfl 77 rfl ?_
        refine ww_iconst C (4 : Int32) dL_start_77 (by decide) 78 rfl ?_
        refine ww_irem C dL_start_78 h 79 rfl (fun h => ?_)
        refine ww_callSi C (As := [.ref (sa.1 3), .int (x2 / (4 : Int32)), .int (x2 - x2 / (4 : Int32) * (4 : Int32))]) (st := [.int ((16 : Int32) + x2), .ref (ad 73)]) h (fun _ _ hF => k_L_cask (Nat.le_trans (by decide) hn) hF) w_559 cm_L_cask (by decide) (by decide) rfl rfl (Nat.le_of_ble_eq_true rfl) dL_start_79 82 rfl (fun v33 u32 h => ?_)
        refine ww_i2l C dL_start_82 83 rfl ?_
        refine ww_last C (laH hn) (fun a ha h9 => kdI_9 ha h9) dL_start_83 h 84 rfl (fun u34 h => ?_)
        refine ww_iinc C 2 (1 : Int32) (by decide) (fun v35 => [(2, .int v35), (0, .ref (sa.1 3)), (1, .ref (ad 73))]) dL_start_84 rfl (by decide) (fun _ => rfl) h 87 rfl (fun v35 h => ?_)
        refine ww_goto C 61 dL_start_87 (by decide) ?_
        exact ww_sub [1, 2, 0] rfl (ih _ _ h)
  have L2h : ∀ (fu : Nat), (∀ (x2 : Int32) (g : Mem), L_start_L2 N sa fu x2 g = some (r, g1) → WW p l e R s m args below meth c 3 D YI ad cA n (MQ below (PBv D YI ad cA n g1 s.heap.size) args s 0 0 (AA n ad s.heap.size)) g 2 [(0, .ref (sa.1 3)), (1, .ref (ad 73)), (2, .int x2)] []) := by
    intro fu
    induction fu with
    | zero => intro x2 g h; cases h
    | succ fu ih =>
      intro x2 g h
      rw [L_start_L2] at h
      refine ww_iload_n C 2 dL_start_2 rfl rfl 3 rfl ?_
      refine ww_aload_n C 0 dL_start_3 rfl rfl 4 rfl ?_
      refine ww_callSi C (As := [.ref (sa.1 3)]) (st := [.int x2]) h (fun _ _ hF => k_L_many (Nat.le_trans (by decide) hn) hF) w_562 cm_L_many (by decide) (by decide) rfl rfl (Nat.le_of_ble_eq_true rfl) dL_start_4 7 rfl (fun v37 u36 h => ?_)
      refine ww_icmp_ge C 59 dL_start_7 (by decide) h 10 rfl (fun h => ?_) (fun h => ?_)
      · refine ww_iconst C (0 : Int32) dL_start_59 (by decide) 60 rfl ?_
        refine ww_istore_n C [(2, .int (0 : Int32)), (0, .ref (sa.1 3)), (1, .ref (ad 73))] dL_start_60 rfl (by decide) rfl 61 rfl ?_
        exact ww_sub [1, 2, 0] rfl (L61h N _ _ h)
      · refine ww_aload_n C 1 dL_start_10 rfl rfl 11 rfl ?_
        refine ww_iconst C (2 : Int32) dL_start_11 (by decide) 12 rfl ?_
        refine ww_iload_n C 2 dL_start_12 rfl rfl 13 rfl ?_
        refine ww_imul C dL_start_13 14 rfl ?_
        refine ww_aload_n C 0 dL_start_14 rfl rfl 15 rfl ?_
        refine ww_iload_n C 2 dL_start_15 rfl rfl 16 rfl ?_
        refine ww_callSi C (As := [.ref (sa.1 3), .int x2]) (st := [.int ((2 : Int32) * x2), .ref (ad 73)]) h (fun _ _ hF => k_L_breath (Nat.le_trans (by decide) hn) hF) w_571 cm_L_breath (by decide) (by decide) rfl rfl (Nat.le_of_ble_eq_true rfl) dL_start_16 19 rfl (fun v39 u38 h => ?_)
        refine ww_i2l C dL_start_19 20 rfl ?_
        refine ww_last C (laH hn) (fun a ha h9 => kdI_9 ha h9) dL_start_20 h 21 rfl (fun u40 h => ?_)
        refine ww_aload_n C 1 dL_start_21 rfl rfl 22 rfl ?_
        refine ww_iconst C (2 : Int32) dL_start_22 (by decide) 23 rfl ?_
        refine ww_iload_n C 2 dL_start_23 rfl rfl 24 rfl ?_
        refine ww_imul C dL_start_24 25 rfl ?_
        refine ww_iconst C (1 : Int32) dL_start_25 (by decide) 26 rfl ?_
        refine ww_iadd C dL_start_26 27 rfl ?_
        refine ww_lconst C (0 : Int64) dL_start_27 (by decide) 28 rfl ?_
        refine ww_last C (laH hn) (fun a ha h9 => kdI_9 ha h9) dL_start_28 h 29 rfl (fun u41 h => ?_)
        refine ww_aload_n C 1 dL_start_29 rfl rfl 30 rfl ?_
        refine ww_bipush C (8 : Int32) dL_start_30 (by decide) 32 rfl ?_
        refine ww_iload_n C 2 dL_start_32 rfl rfl 33 rfl ?_
        refine ww_iadd C dL_start_33 34 rfl ?_
        refine ww_aload_n C 0 dL_start_34 rfl rfl 35 rfl ?_
        refine ww_iload_n C 2 dL_start_35 rfl rfl 36 rfl ?_
        refine ww_callSi C (As := [.ref (sa.1 3), .int x2]) (st := [.int ((8 : Int32) + x2), .ref (ad 73)]) h (fun _ _ hF => k_L_kind (Nat.le_trans (by decide) hn) hF) w_565 cm_L_kind (by decide) (by decide) rfl rfl (Nat.le_of_ble_eq_true rfl) dL_start_36 39 rfl (fun v43 u42 h => ?_)
        refine ww_i2l C dL_start_39 40 rfl ?_
        refine ww_last C (laH hn) (fun a ha h9 => kdI_9 ha h9) dL_start_40 h 41 rfl (fun u44 h => ?_)
        refine ww_aload_n C 1 dL_start_41 rfl rfl 42 rfl ?_
        refine ww_bipush C (12 : Int32) dL_start_42 (by decide) 44 rfl ?_
        refine ww_iload_n C 2 dL_start_44 rfl rfl 45 rfl ?_
        refine ww_iadd C dL_start_45 46 rfl ?_
        refine ww_aload_n C 0 dL_start_46 rfl rfl 47 rfl ?_
        refine ww_iload_n C 2 dL_start_47 rfl rfl 48 rfl ?_
        refine ww_callSi C (As := [.ref (sa.1 3), .int x2]) (st := [.int ((12 : Int32) + x2), .ref (ad 73)]) h (fun _ _ hF => k_L_more (Nat.le_trans (by decide) hn) hF) w_568 cm_L_more (by decide) (by decide) rfl rfl (Nat.le_of_ble_eq_true rfl) dL_start_48 51 rfl (fun v46 u45 h => ?_)
        refine ww_i2l C dL_start_51 52 rfl ?_
        refine ww_last C (laH hn) (fun a ha h9 => kdI_9 ha h9) dL_start_52 h 53 rfl (fun u47 h => ?_)
        refine ww_iinc C 2 (1 : Int32) (by decide) (fun v48 => [(2, .int v48), (0, .ref (sa.1 3)), (1, .ref (ad 73))]) dL_start_53 rfl (by decide) (fun _ => rfl) h 56 rfl (fun v48 h => ?_)
        refine ww_goto C 2 dL_start_56 (by decide) ?_
        exact ww_sub [1, 2, 0] rfl (ih _ _ h)
  rw [L_start] at h
  refine ww_iconst C (0 : Int32) dL_start_0 (by decide) 1 rfl ?_
  refine ww_istore_n C [(2, .int (0 : Int32)), (0, .ref (sa.1 3)), (1, .ref (ad 73))] dL_start_1 rfl (by decide) rfl 2 rfl ?_
  exact ww_sub [1, 2, 0] rfl (L2h N _ _ h)

set_option maxRecDepth 100000 in
set_option maxHeartbeats 4000000 in
theorem k_L_reaches {l : Launch} {D : va_G} {ad : Nat → Nat} {cA : Nat → ClassId} {tys : List (ClassId × FieldType)} {n : Nat} {sa : SA} (hn : 74 ≤ n) {N : Nat} {g : Mem} {a3 : Int32} {a4 : Int32} {r : Int64} {g1 : Mem} (h : L_reaches N sa a3 a4 g = some (r, g1)) : CTl l yL_reaches (wsm yL_reaches cL_reaches 8 (some .long)) 3 D YI ad cA tys n sa g [.ref (sa.1 3), .ref (ad 73), .int a3, .int a4] r g1 := by
  refine ct_of RL rfl (by decide +kernel) (Nat.le_of_ble_eq_true rfl) rfl (fun sz => PBl D YI ad cA n r g1 sz) ?_
  intro p e R s m args below meth c C hr
  rw [L_reaches] at h
  refine ww_aload_n C 1 dL_reaches_0 rfl rfl 1 rfl ?_
  refine ww_bipush C (8 : Int32) dL_reaches_1 (by decide) 3 rfl ?_
  refine ww_iload_n C 2 dL_reaches_3 rfl rfl 4 rfl ?_
  refine ww_iadd C dL_reaches_4 5 rfl ?_
  refine ww_lald C (laH hn) dL_reaches_5 h 6 rfl (fun h => ?_)
  refine ww_bl h (fun v17 h => ?_)
  refine ww_lstore C [(4, .long v17), (0, .ref (sa.1 3)), (1, .ref (ad 73)), (2, .int a3), (3, .int a4)] dL_reaches_6 (by decide) rfl 8 rfl ?_
  refine ww_aload_n C 1 dL_reaches_8 rfl rfl 9 rfl ?_
  refine ww_callSi C (As := [.ref (sa.1 3)]) (st := []) h (fun _ _ hF => k_L_plain (Nat.le_trans (by decide) hn) hF) w_582 cm_L_plain (by decide) (by decide) rfl rfl (Nat.le_of_ble_eq_true rfl) dL_reaches_9 12 rfl (fun v19 u18 h => ?_)
  refine ww_if_eq C 23 dL_reaches_12 (by decide) h 15 rfl (fun h => ?_) (fun h => ?_)
  · refine ww_aload_n C 2 dL_reaches_23 rfl rfl 24 rfl ?_
    refine ww_iconst C (2 : Int32) dL_reaches_24 (by decide) 25 rfl ?_
    refine ww_iload_n C 3 dL_reaches_25 rfl rfl 26 rfl ?_
    refine ww_imul C dL_reaches_26 27 rfl ?_
    refine ww_lald C (laH hn) dL_reaches_27 h 28 rfl (fun h => ?_)
    refine ww_aload_n C 1 dL_reaches_28 rfl rfl 29 rfl ?_
    refine ww_iconst C (0 : Int32) dL_reaches_29 (by decide) 30 rfl ?_
    refine ww_callSi C (As := [.ref (sa.1 3), .int (0 : Int32)]) (st := [.long (ldL u18 ((2 : Int32) * a3).toNatClampNeg)]) h (fun _ _ hF => k_L_at (Nat.le_trans (by decide) hn) hF) w_242 cm_L_at (by decide) (by decide) rfl rfl (Nat.le_of_ble_eq_true rfl) dL_reaches_30 33 rfl (fun v21 u20 h => ?_)
    refine ww_iconst C (3 : Int32) dL_reaches_33 (by decide) 34 rfl ?_
    refine ww_ishr C dL_reaches_34 35 rfl ?_
    refine ww_bipush C (31 : Int32) dL_reaches_35 (by decide) 37 rfl ?_
    refine ww_iand C dL_reaches_37 38 rfl ?_
    refine ww_i2l C dL_reaches_38 39 rfl ?_
    refine ww_lsub C dL_reaches_39 40 rfl ?_
    refine ww_aload_n C 2 dL_reaches_40 rfl rfl 41 rfl ?_
    refine ww_bipush C (16 : Int32) dL_reaches_41 (by decide) 43 rfl ?_
    refine ww_iconst C (4 : Int32) dL_reaches_43 (by decide) 44 rfl ?_
    refine ww_iload_n C 4 dL_reaches_44 rfl rfl 45 rfl ?_
    refine ww_imul C dL_reaches_45 46 rfl ?_
    refine ww_iadd C dL_reaches_46 47 rfl ?_
    refine ww_lald C (laH hn) dL_reaches_47 h 48 rfl (fun h => ?_)
    refine ww_aload_n C 1 dL_reaches_48 rfl rfl 49 rfl ?_
    refine ww_iconst C (0 : Int32) dL_reaches_49 (by decide) 50 rfl ?_
    refine ww_callSi C (As := [.ref (sa.1 3), .int (0 : Int32)]) (st := [.long (ldL u20 ((16 : Int32) + ((4 : Int32) * a4)).toNatClampNeg), .long ((ldL u18 ((2 : Int32) * a3).toNatClampNeg) - (((v21 >>> ((3 : Int32) &&& 31)) &&& (31 : Int32)).toInt64))]) h (fun _ _ hF => k_L_at (Nat.le_trans (by decide) hn) hF) w_242 cm_L_at (by decide) (by decide) rfl rfl (Nat.le_of_ble_eq_true rfl) dL_reaches_50 53 rfl (fun v23 u22 h => ?_)
    refine ww_bipush C (8 : Int32) dL_reaches_53 (by decide) 55 rfl ?_
    refine ww_ishr C dL_reaches_55 56 rfl ?_
    refine ww_bipush C (7 : Int32) dL_reaches_56 (by decide) 58 rfl ?_
    refine ww_iand C dL_reaches_58 59 rfl ?_
    refine ww_i2l C dL_reaches_59 60 rfl ?_
    refine ww_lcmp C dL_reaches_60 61 rfl ?_
    refine ww_if_ge C 78 dL_reaches_61 (by decide) h 64 rfl (fun h => ?_) (fun h => ?_)
    · refine ww_iconst C (0 : Int32) dL_reaches_78 (by decide) 79 rfl ?_
      refine ww_i2l C dL_reaches_79 80 rfl ?_
      refine ww_ladd C dL_reaches_80 81 rfl ?_
      refine ww_iconst C (0 : Int32) dL_reaches_81 (by decide) 82 rfl ?_
      refine ww_bipush C (99 : Int32) dL_reaches_82 (by decide) 84 rfl ?_
      refine ww_callSi C (As := [.long (((ldL u18 ((2 : Int32) * a3).toNatClampNeg) - (((v21 >>> ((3 : Int32) &&& 31)) &&& (31 : Int32)).toInt64)) + (((0 : Int32)).toInt64)), .int (0 : Int32), .int (99 : Int32)]) (st := []) h (fun _ _ hF => k_L_held (Nat.le_trans (by decide) hn) hF) w_836 cm_L_held (by decide) (by decide) rfl rfl (Nat.le_of_ble_eq_true rfl) dL_reaches_84 87 rfl (fun v25 u24 h => ?_)
      refine ww_i2l C dL_reaches_87 88 rfl ?_
      refine ww_bl h (fun v26 h => ?_)
      refine ww_lstore C [(6, .long v26), (4, .long v17), (0, .ref (sa.1 3)), (1, .ref (ad 73)), (2, .int a3), (3, .int a4)] dL_reaches_88 (by decide) rfl 90 rfl ?_
      refine ww_lload C 1 dL_reaches_90 rfl 92 rfl ?_
      refine ww_lconst C (1 : Int64) dL_reaches_92 (by decide) 93 rfl ?_
      refine ww_lcmp C dL_reaches_93 94 rfl ?_
      refine ww_if_ne C 113 dL_reaches_94 (by decide) h 97 rfl (fun h => ?_) (fun h => ?_)
      · refine ww_lload C 1 dL_reaches_113 rfl 115 rfl ?_
        refine ww_ldc2 C (3 : Int64) w_846 dL_reaches_115 118 rfl ?_
        refine ww_lcmp C dL_reaches_118 119 rfl ?_
        refine ww_if_ne C 142 dL_reaches_119 (by decide) h 122 rfl (fun h => ?_) (fun h => ?_)
        · refine ww_lload C 1 dL_reaches_142 rfl 144 rfl ?_
          refine ww_ldc2 C (2 : Int64) w_845 dL_reaches_144 147 rfl ?_
          refine ww_lcmp C dL_reaches_147 148 rfl ?_
          refine ww_if_ne C 160 dL_reaches_148 (by decide) h 151 rfl (fun h => ?_) (fun h => ?_)
          · refine ww_lload C 1 dL_reaches_160 rfl 162 rfl ?_
            refine ww_ldc2 C (4 : Int64) w_848 dL_reaches_162 165 rfl ?_
            refine ww_lcmp C dL_reaches_165 166 rfl ?_
            refine ww_if_ne C 178 dL_reaches_166 (by decide) h 169 rfl (fun h => ?_) (fun h => ?_)
            · refine ww_lload C 1 dL_reaches_178 rfl 180 rfl ?_
              refine ww_ldc2 C (5 : Int64) w_849 dL_reaches_180 183 rfl ?_
              refine ww_lcmp C dL_reaches_183 184 rfl ?_
              refine ww_if_ne C 193 dL_reaches_184 (by decide) h 187 rfl (fun h => ?_) (fun h => ?_)
              · refine ww_lload C 0 dL_reaches_193 rfl 195 rfl ?_
                exact ww_lret C dL_reaches_195 hr h
              · refine ww_ldc2 C (99 : Int64) w_850 dL_reaches_187 190 rfl ?_
                refine ww_goto C 195 dL_reaches_190 (by decide) ?_
                exact ww_lret C dL_reaches_195 hr h
            · refine ww_aload_n C 3 dL_reaches_169 rfl rfl 170 rfl ?_
              refine ww_bipush C (12 : Int32) dL_reaches_170 (by decide) 172 rfl ?_
              refine ww_iload_n C 4 dL_reaches_172 rfl rfl 173 rfl ?_
              refine ww_iadd C dL_reaches_173 174 rfl ?_
              refine ww_lald C (laH hn) dL_reaches_174 h 175 rfl (fun h => ?_)
              refine ww_goto C 195 dL_reaches_175 (by decide) ?_
              exact ww_lret C dL_reaches_195 hr h
          · refine ww_lload C 0 dL_reaches_151 rfl 153 rfl ?_
            refine ww_ldc2 C (10 : Int64) w_847 dL_reaches_153 156 rfl ?_
            refine ww_ladd C dL_reaches_156 157 rfl ?_
            refine ww_goto C 195 dL_reaches_157 (by decide) ?_
            exact ww_lret C dL_reaches_195 hr h
        · refine ww_lload C 0 dL_reaches_122 rfl 124 rfl ?_
          refine ww_ldc2 C (2 : Int64) w_845 dL_reaches_124 127 rfl ?_
          refine ww_ldiv C dL_reaches_127 h 128 rfl (fun h => ?_)
          refine ww_ldc2 C (2 : Int64) w_845 dL_reaches_128 131 rfl ?_
          refine ww_aload_n C 3 dL_reaches_131 rfl rfl 132 rfl ?_
          refine ww_bipush C (12 : Int32) dL_reaches_132 (by decide) 134 rfl ?_
          refine ww_iload_n C 4 dL_reaches_134 rfl rfl 135 rfl ?_
          refine ww_iadd C dL_reaches_135 136 rfl ?_
          refine ww_lald C (laH hn) dL_reaches_136 h 137 rfl (fun h => ?_)
          refine ww_lmul C dL_reaches_137 138 rfl ?_
          refine ww_ladd C dL_reaches_138 139 rfl ?_
          refine ww_goto C 195 dL_reaches_139 (by decide) ?_
          exact ww_lret C dL_reaches_195 hr h
      · refine ww_lload C 0 dL_reaches_97 rfl 99 rfl ?_
        refine ww_ldc2 C (2 : Int64) w_845 dL_reaches_99 102 rfl ?_
        refine ww_ldiv C dL_reaches_102 h 103 rfl (fun h => ?_)
        refine ww_aload_n C 3 dL_reaches_103 rfl rfl 104 rfl ?_
        refine ww_bipush C (12 : Int32) dL_reaches_104 (by decide) 106 rfl ?_
        refine ww_iload_n C 4 dL_reaches_106 rfl rfl 107 rfl ?_
        refine ww_iadd C dL_reaches_107 108 rfl ?_
        refine ww_lald C (laH hn) dL_reaches_108 h 109 rfl (fun h => ?_)
        refine ww_ladd C dL_reaches_109 110 rfl ?_
        refine ww_goto C 195 dL_reaches_110 (by decide) ?_
        exact ww_lret C dL_reaches_195 hr h
    · refine ww_aload_n C 1 dL_reaches_64 rfl rfl 65 rfl ?_
      refine ww_iconst C (0 : Int32) dL_reaches_65 (by decide) 66 rfl ?_
      refine ww_callSi C (As := [.ref (sa.1 3), .int (0 : Int32)]) (st := [.long ((ldL u18 ((2 : Int32) * a3).toNatClampNeg) - (((v21 >>> ((3 : Int32) &&& 31)) &&& (31 : Int32)).toInt64))]) h (fun _ _ hF => k_L_at (Nat.le_trans (by decide) hn) hF) w_242 cm_L_at (by decide) (by decide) rfl rfl (Nat.le_of_ble_eq_true rfl) dL_reaches_66 69 rfl (fun v28 u27 h => ?_)
      refine ww_bipush C (11 : Int32) dL_reaches_69 (by decide) 71 rfl ?_
      refine ww_ishr C dL_reaches_71 72 rfl ?_
      refine ww_bipush C (15 : Int32) dL_reaches_72 (by decide) 74 rfl ?_
      refine ww_iand C dL_reaches_74 75 rfl ?_
      refine ww_goto C 79 dL_reaches_75 (by decide) ?_
      refine ww_i2l C dL_reaches_79 80 rfl ?_
      refine ww_ladd C dL_reaches_80 81 rfl ?_
      refine ww_iconst C (0 : Int32) dL_reaches_81 (by decide) 82 rfl ?_
      refine ww_bipush C (99 : Int32) dL_reaches_82 (by decide) 84 rfl ?_
      refine ww_callSi C (As := [.long (((ldL u18 ((2 : Int32) * a3).toNatClampNeg) - (((v21 >>> ((3 : Int32) &&& 31)) &&& (31 : Int32)).toInt64)) + (((v28 >>> ((11 : Int32) &&& 31)) &&& (15 : Int32)).toInt64)), .int (0 : Int32), .int (99 : Int32)]) (st := []) h (fun _ _ hF => k_L_held (Nat.le_trans (by decide) hn) hF) w_836 cm_L_held (by decide) (by decide) rfl rfl (Nat.le_of_ble_eq_true rfl) dL_reaches_84 87 rfl (fun v30 u29 h => ?_)
      refine ww_i2l C dL_reaches_87 88 rfl ?_
      refine ww_bl h (fun v31 h => ?_)
      refine ww_lstore C [(6, .long v31), (4, .long v17), (0, .ref (sa.1 3)), (1, .ref (ad 73)), (2, .int a3), (3, .int a4)] dL_reaches_88 (by decide) rfl 90 rfl ?_
      refine ww_lload C 1 dL_reaches_90 rfl 92 rfl ?_
      refine ww_lconst C (1 : Int64) dL_reaches_92 (by decide) 93 rfl ?_
      refine ww_lcmp C dL_reaches_93 94 rfl ?_
      refine ww_if_ne C 113 dL_reaches_94 (by decide) h 97 rfl (fun h => ?_) (fun h => ?_)
      · refine ww_lload C 1 dL_reaches_113 rfl 115 rfl ?_
        refine ww_ldc2 C (3 : Int64) w_846 dL_reaches_115 118 rfl ?_
        refine ww_lcmp C dL_reaches_118 119 rfl ?_
        refine ww_if_ne C 142 dL_reaches_119 (by decide) h 122 rfl (fun h => ?_) (fun h => ?_)
        · refine ww_lload C 1 dL_reaches_142 rfl 144 rfl ?_
          refine ww_ldc2 C (2 : Int64) w_845 dL_reaches_144 147 rfl ?_
          refine ww_lcmp C dL_reaches_147 148 rfl ?_
          refine ww_if_ne C 160 dL_reaches_148 (by decide) h 151 rfl (fun h => ?_) (fun h => ?_)
          · refine ww_lload C 1 dL_reaches_160 rfl 162 rfl ?_
            refine ww_ldc2 C (4 : Int64) w_848 dL_reaches_162 165 rfl ?_
            refine ww_lcmp C dL_reaches_165 166 rfl ?_
            refine ww_if_ne C 178 dL_reaches_166 (by decide) h 169 rfl (fun h => ?_) (fun h => ?_)
            · refine ww_lload C 1 dL_reaches_178 rfl 180 rfl ?_
              refine ww_ldc2 C (5 : Int64) w_849 dL_reaches_180 183 rfl ?_
              refine ww_lcmp C dL_reaches_183 184 rfl ?_
              refine ww_if_ne C 193 dL_reaches_184 (by decide) h 187 rfl (fun h => ?_) (fun h => ?_)
              · refine ww_lload C 0 dL_reaches_193 rfl 195 rfl ?_
                exact ww_lret C dL_reaches_195 hr h
              · refine ww_ldc2 C (99 : Int64) w_850 dL_reaches_187 190 rfl ?_
                refine ww_goto C 195 dL_reaches_190 (by decide) ?_
                exact ww_lret C dL_reaches_195 hr h
            · refine ww_aload_n C 3 dL_reaches_169 rfl rfl 170 rfl ?_
              refine ww_bipush C (12 : Int32) dL_reaches_170 (by decide) 172 rfl ?_
              refine ww_iload_n C 4 dL_reaches_172 rfl rfl 173 rfl ?_
              refine ww_iadd C dL_reaches_173 174 rfl ?_
              refine ww_lald C (laH hn) dL_reaches_174 h 175 rfl (fun h => ?_)
              refine ww_goto C 195 dL_reaches_175 (by decide) ?_
              exact ww_lret C dL_reaches_195 hr h
          · refine ww_lload C 0 dL_reaches_151 rfl 153 rfl ?_
            refine ww_ldc2 C (10 : Int64) w_847 dL_reaches_153 156 rfl ?_
            refine ww_ladd C dL_reaches_156 157 rfl ?_
            refine ww_goto C 195 dL_reaches_157 (by decide) ?_
            exact ww_lret C dL_reaches_195 hr h
        · refine ww_lload C 0 dL_reaches_122 rfl 124 rfl ?_
          refine ww_ldc2 C (2 : Int64) w_845 dL_reaches_124 127 rfl ?_
          refine ww_ldiv C dL_reaches_127 h 128 rfl (fun h => ?_)
          refine ww_ldc2 C (2 : Int64) w_845 dL_reaches_128 131 rfl ?_
          refine ww_aload_n C 3 dL_reaches_131 rfl rfl 132 rfl ?_
          refine ww_bipush C (12 : Int32) dL_reaches_132 (by decide) 134 rfl ?_
          refine ww_iload_n C 4 dL_reaches_134 rfl rfl 135 rfl ?_
          refine ww_iadd C dL_reaches_135 136 rfl ?_
          refine ww_lald C (laH hn) dL_reaches_136 h 137 rfl (fun h => ?_)
          refine ww_lmul C dL_reaches_137 138 rfl ?_
          refine ww_ladd C dL_reaches_138 139 rfl ?_
          refine ww_goto C 195 dL_reaches_139 (by decide) ?_
          exact ww_lret C dL_reaches_195 hr h
      · refine ww_lload C 0 dL_reaches_97 rfl 99 rfl ?_
        refine ww_ldc2 C (2 : Int64) w_845 dL_reaches_99 102 rfl ?_
        refine ww_ldiv C dL_reaches_102 h 103 rfl (fun h => ?_)
        refine ww_aload_n C 3 dL_reaches_103 rfl rfl 104 rfl ?_
        refine ww_bipush C (12 : Int32) dL_reaches_104 (by decide) 106 rfl ?_
        refine ww_iload_n C 4 dL_reaches_106 rfl rfl 107 rfl ?_
        refine ww_iadd C dL_reaches_107 108 rfl ?_
        refine ww_lald C (laH hn) dL_reaches_108 h 109 rfl (fun h => ?_)
        refine ww_ladd C dL_reaches_109 110 rfl ?_
        refine ww_goto C 195 dL_reaches_110 (by decide) ?_
        exact ww_lret C dL_reaches_195 hr h
  · refine ww_aload_n C 2 dL_reaches_15 rfl rfl 16 rfl ?_
    refine ww_iconst C (2 : Int32) dL_reaches_16 (by decide) 17 rfl ?_
    refine ww_iload_n C 3 dL_reaches_17 rfl rfl 18 rfl ?_
    refine ww_imul C dL_reaches_18 19 rfl ?_
    refine ww_lald C (laH hn) dL_reaches_19 h 20 rfl (fun h => ?_)
    refine ww_goto C 88 dL_reaches_20 (by decide) ?_
    refine ww_bl h (fun v32 h => ?_)
    refine ww_lstore C [(6, .long v32), (4, .long v17), (0, .ref (sa.1 3)), (1, .ref (ad 73)), (2, .int a3), (3, .int a4)] dL_reaches_88 (by decide) rfl 90 rfl ?_
    refine ww_lload C 1 dL_reaches_90 rfl 92 rfl ?_
    refine ww_lconst C (1 : Int64) dL_reaches_92 (by decide) 93 rfl ?_
    refine ww_lcmp C dL_reaches_93 94 rfl ?_
    refine ww_if_ne C 113 dL_reaches_94 (by decide) h 97 rfl (fun h => ?_) (fun h => ?_)
    · refine ww_lload C 1 dL_reaches_113 rfl 115 rfl ?_
      refine ww_ldc2 C (3 : Int64) w_846 dL_reaches_115 118 rfl ?_
      refine ww_lcmp C dL_reaches_118 119 rfl ?_
      refine ww_if_ne C 142 dL_reaches_119 (by decide) h 122 rfl (fun h => ?_) (fun h => ?_)
      · refine ww_lload C 1 dL_reaches_142 rfl 144 rfl ?_
        refine ww_ldc2 C (2 : Int64) w_845 dL_reaches_144 147 rfl ?_
        refine ww_lcmp C dL_reaches_147 148 rfl ?_
        refine ww_if_ne C 160 dL_reaches_148 (by decide) h 151 rfl (fun h => ?_) (fun h => ?_)
        · refine ww_lload C 1 dL_reaches_160 rfl 162 rfl ?_
          refine ww_ldc2 C (4 : Int64) w_848 dL_reaches_162 165 rfl ?_
          refine ww_lcmp C dL_reaches_165 166 rfl ?_
          refine ww_if_ne C 178 dL_reaches_166 (by decide) h 169 rfl (fun h => ?_) (fun h => ?_)
          · refine ww_lload C 1 dL_reaches_178 rfl 180 rfl ?_
            refine ww_ldc2 C (5 : Int64) w_849 dL_reaches_180 183 rfl ?_
            refine ww_lcmp C dL_reaches_183 184 rfl ?_
            refine ww_if_ne C 193 dL_reaches_184 (by decide) h 187 rfl (fun h => ?_) (fun h => ?_)
            · refine ww_lload C 0 dL_reaches_193 rfl 195 rfl ?_
              exact ww_lret C dL_reaches_195 hr h
            · refine ww_ldc2 C (99 : Int64) w_850 dL_reaches_187 190 rfl ?_
              refine ww_goto C 195 dL_reaches_190 (by decide) ?_
              exact ww_lret C dL_reaches_195 hr h
          · refine ww_aload_n C 3 dL_reaches_169 rfl rfl 170 rfl ?_
            refine ww_bipush C (12 : Int32) dL_reaches_170 (by decide) 172 rfl ?_
            refine ww_iload_n C 4 dL_reaches_172 rfl rfl 173 rfl ?_
            refine ww_iadd C dL_reaches_173 174 rfl ?_
            refine ww_lald C (laH hn) dL_reaches_174 h 175 rfl (fun h => ?_)
            refine ww_goto C 195 dL_reaches_175 (by decide) ?_
            exact ww_lret C dL_reaches_195 hr h
        · refine ww_lload C 0 dL_reaches_151 rfl 153 rfl ?_
          refine ww_ldc2 C (10 : Int64) w_847 dL_reaches_153 156 rfl ?_
          refine ww_ladd C dL_reaches_156 157 rfl ?_
          refine ww_goto C 195 dL_reaches_157 (by decide) ?_
          exact ww_lret C dL_reaches_195 hr h
      · refine ww_lload C 0 dL_reaches_122 rfl 124 rfl ?_
        refine ww_ldc2 C (2 : Int64) w_845 dL_reaches_124 127 rfl ?_
        refine ww_ldiv C dL_reaches_127 h 128 rfl (fun h => ?_)
        refine ww_ldc2 C (2 : Int64) w_845 dL_reaches_128 131 rfl ?_
        refine ww_aload_n C 3 dL_reaches_131 rfl rfl 132 rfl ?_
        refine ww_bipush C (12 : Int32) dL_reaches_132 (by decide) 134 rfl ?_
        refine ww_iload_n C 4 dL_reaches_134 rfl rfl 135 rfl ?_
        refine ww_iadd C dL_reaches_135 136 rfl ?_
        refine ww_lald C (laH hn) dL_reaches_136 h 137 rfl (fun h => ?_)
        refine ww_lmul C dL_reaches_137 138 rfl ?_
        refine ww_ladd C dL_reaches_138 139 rfl ?_
        refine ww_goto C 195 dL_reaches_139 (by decide) ?_
        exact ww_lret C dL_reaches_195 hr h
    · refine ww_lload C 0 dL_reaches_97 rfl 99 rfl ?_
      refine ww_ldc2 C (2 : Int64) w_845 dL_reaches_99 102 rfl ?_
      refine ww_ldiv C dL_reaches_102 h 103 rfl (fun h => ?_)
      refine ww_aload_n C 3 dL_reaches_103 rfl rfl 104 rfl ?_
      refine ww_bipush C (12 : Int32) dL_reaches_104 (by decide) 106 rfl ?_
      refine ww_iload_n C 4 dL_reaches_106 rfl rfl 107 rfl ?_
      refine ww_iadd C dL_reaches_107 108 rfl ?_
      refine ww_lald C (laH hn) dL_reaches_108 h 109 rfl (fun h => ?_)
      refine ww_ladd C dL_reaches_109 110 rfl ?_
      refine ww_goto C 195 dL_reaches_110 (by decide) ?_
      exact ww_lret C dL_reaches_195 hr h

set_option maxRecDepth 100000 in
set_option maxHeartbeats 4000000 in
theorem k_L_costs {l : Launch} {D : va_G} {ad : Nat → Nat} {cA : Nat → ClassId} {tys : List (ClassId × FieldType)} {n : Nat} {sa : SA} (hn : 74 ≤ n) {N : Nat} {g : Mem} {a3 : Int32} {a4 : Int32} {r : Int64} {g1 : Mem} (h : L_costs N sa a3 a4 g = some (r, g1)) : CTl l yL_costs (wsm yL_costs cL_costs 8 (some .long)) 3 D YI ad cA tys n sa g [.ref (sa.1 3), .ref (ad 73), .int a3, .int a4] r g1 := by
  refine ct_of RL rfl (by decide +kernel) (Nat.le_of_ble_eq_true rfl) rfl (fun sz => PBl D YI ad cA n r g1 sz) ?_
  intro p e R s m args below meth c C hr
  rw [L_costs] at h
  refine ww_aload_n C 1 dL_costs_0 rfl rfl 1 rfl ?_
  refine ww_bipush C (8 : Int32) dL_costs_1 (by decide) 3 rfl ?_
  refine ww_iload_n C 2 dL_costs_3 rfl rfl 4 rfl ?_
  refine ww_iadd C dL_costs_4 5 rfl ?_
  refine ww_lald C (laH hn) dL_costs_5 h 6 rfl (fun h => ?_)
  refine ww_bl h (fun v17 h => ?_)
  refine ww_lstore C [(4, .long v17), (0, .ref (sa.1 3)), (1, .ref (ad 73)), (2, .int a3), (3, .int a4)] dL_costs_6 (by decide) rfl 8 rfl ?_
  refine ww_aload_n C 1 dL_costs_8 rfl rfl 9 rfl ?_
  refine ww_callSi C (As := [.ref (sa.1 3)]) (st := []) h (fun _ _ hF => k_L_plain (Nat.le_trans (by decide) hn) hF) w_582 cm_L_plain (by decide) (by decide) rfl rfl (Nat.le_of_ble_eq_true rfl) dL_costs_9 12 rfl (fun v19 u18 h => ?_)
  refine ww_if_eq C 30 dL_costs_12 (by decide) h 15 rfl (fun h => ?_) (fun h => ?_)
  · refine ww_aload_n C 2 dL_costs_30 rfl rfl 31 rfl ?_
    refine ww_bipush C (18 : Int32) dL_costs_31 (by decide) 33 rfl ?_
    refine ww_iconst C (4 : Int32) dL_costs_33 (by decide) 34 rfl ?_
    refine ww_iload_n C 4 dL_costs_34 rfl rfl 35 rfl ?_
    refine ww_imul C dL_costs_35 36 rfl ?_
    refine ww_iadd C dL_costs_36 37 rfl ?_
    refine ww_lald C (laH hn) dL_costs_37 h 38 rfl (fun h => ?_)
    refine ww_aload_n C 1 dL_costs_38 rfl rfl 39 rfl ?_
    refine ww_iconst C (0 : Int32) dL_costs_39 (by decide) 40 rfl ?_
    refine ww_callSi C (As := [.ref (sa.1 3), .int (0 : Int32)]) (st := [.long (ldL u18 ((18 : Int32) + ((4 : Int32) * a4)).toNatClampNeg)]) h (fun _ _ hF => k_L_at (Nat.le_trans (by decide) hn) hF) w_242 cm_L_at (by decide) (by decide) rfl rfl (Nat.le_of_ble_eq_true rfl) dL_costs_40 43 rfl (fun v21 u20 h => ?_)
    refine ww_bipush C (15 : Int32) dL_costs_43 (by decide) 45 rfl ?_
    refine ww_ishr C dL_costs_45 46 rfl ?_
    refine ww_bipush C (7 : Int32) dL_costs_46 (by decide) 48 rfl ?_
    refine ww_iand C dL_costs_48 49 rfl ?_
    refine ww_i2l C dL_costs_49 50 rfl ?_
    refine ww_ladd C dL_costs_50 51 rfl ?_
    refine ww_aload_n C 2 dL_costs_51 rfl rfl 52 rfl ?_
    refine ww_bipush C (17 : Int32) dL_costs_52 (by decide) 54 rfl ?_
    refine ww_iconst C (4 : Int32) dL_costs_54 (by decide) 55 rfl ?_
    refine ww_iload_n C 4 dL_costs_55 rfl rfl 56 rfl ?_
    refine ww_imul C dL_costs_56 57 rfl ?_
    refine ww_iadd C dL_costs_57 58 rfl ?_
    refine ww_lald C (laH hn) dL_costs_58 h 59 rfl (fun h => ?_)
    refine ww_aload_n C 1 dL_costs_59 rfl rfl 60 rfl ?_
    refine ww_iconst C (0 : Int32) dL_costs_60 (by decide) 61 rfl ?_
    refine ww_callSi C (As := [.ref (sa.1 3), .int (0 : Int32)]) (st := [.long (ldL u20 ((17 : Int32) + ((4 : Int32) * a4)).toNatClampNeg), .long ((ldL u18 ((18 : Int32) + ((4 : Int32) * a4)).toNatClampNeg) + (((v21 >>> ((15 : Int32) &&& 31)) &&& (7 : Int32)).toInt64))]) h (fun _ _ hF => k_L_at (Nat.le_trans (by decide) hn) hF) w_242 cm_L_at (by decide) (by decide) rfl rfl (Nat.le_of_ble_eq_true rfl) dL_costs_61 64 rfl (fun v23 u22 h => ?_)
    refine ww_bipush C (18 : Int32) dL_costs_64 (by decide) 66 rfl ?_
    refine ww_ishr C dL_costs_66 67 rfl ?_
    refine ww_bipush C (63 : Int32) dL_costs_67 (by decide) 69 rfl ?_
    refine ww_iand C dL_costs_69 70 rfl ?_
    refine ww_i2l C dL_costs_70 71 rfl ?_
    refine ww_lcmp C dL_costs_71 72 rfl ?_
    refine ww_if_ge C 81 dL_costs_72 (by decide) h 75 rfl (fun h => ?_) (fun h => ?_)
    · refine ww_lconst C (0 : Int64) dL_costs_81 (by decide) 82 rfl ?_
      refine ww_lsub C dL_costs_82 83 rfl ?_
      refine ww_iconst C (0 : Int32) dL_costs_83 (by decide) 84 rfl ?_
      refine ww_bipush C (99 : Int32) dL_costs_84 (by decide) 86 rfl ?_
      refine ww_callSi C (As := [.long (((ldL u18 ((18 : Int32) + ((4 : Int32) * a4)).toNatClampNeg) + (((v21 >>> ((15 : Int32) &&& 31)) &&& (7 : Int32)).toInt64)) - (0 : Int64)), .int (0 : Int32), .int (99 : Int32)]) (st := []) h (fun _ _ hF => k_L_held (Nat.le_trans (by decide) hn) hF) w_836 cm_L_held (by decide) (by decide) rfl rfl (Nat.le_of_ble_eq_true rfl) dL_costs_86 89 rfl (fun v25 u24 h => ?_)
      refine ww_i2l C dL_costs_89 90 rfl ?_
      refine ww_bl h (fun v26 h => ?_)
      refine ww_lstore C [(6, .long v26), (4, .long v17), (0, .ref (sa.1 3)), (1, .ref (ad 73)), (2, .int a3), (3, .int a4)] dL_costs_90 (by decide) rfl 92 rfl ?_
      refine ww_lload C 1 dL_costs_92 rfl 94 rfl ?_
      refine ww_ldc2 C (2 : Int64) w_845 dL_costs_94 97 rfl ?_
      refine ww_lcmp C dL_costs_97 98 rfl ?_
      refine ww_if_eq C 110 dL_costs_98 (by decide) h 101 rfl (fun h => ?_) (fun h => ?_)
      · refine ww_aload_n C 3 dL_costs_110 rfl rfl 111 rfl ?_
        refine ww_bipush C (16 : Int32) dL_costs_111 (by decide) 113 rfl ?_
        refine ww_iconst C (4 : Int32) dL_costs_113 (by decide) 114 rfl ?_
        refine ww_iload_n C 5 dL_costs_114 rfl rfl 115 rfl ?_
        refine ww_imul C dL_costs_115 116 rfl ?_
        refine ww_iadd C dL_costs_116 117 rfl ?_
        refine ww_lald C (laH hn) dL_costs_117 h 118 rfl (fun h => ?_)
        refine ww_lconst C (0 : Int64) dL_costs_118 (by decide) 119 rfl ?_
        refine ww_lcmp C dL_costs_119 120 rfl ?_
        refine ww_if_ne C 132 dL_costs_120 (by decide) h 123 rfl (fun h => ?_) (fun h => ?_)
        · refine ww_lload C 0 dL_costs_132 rfl 134 rfl ?_
          refine ww_aload_n C 3 dL_costs_134 rfl rfl 135 rfl ?_
          refine ww_bipush C (12 : Int32) dL_costs_135 (by decide) 137 rfl ?_
          refine ww_iload_n C 4 dL_costs_137 rfl rfl 138 rfl ?_
          refine ww_iadd C dL_costs_138 139 rfl ?_
          refine ww_lald C (laH hn) dL_costs_139 h 140 rfl (fun h => ?_)
          refine ww_ladd C dL_costs_140 141 rfl ?_
          refine ww_goto C 172 dL_costs_141 (by decide) ?_
          exact ww_lret C dL_costs_172 hr h
        · refine ww_lload C 0 dL_costs_123 rfl 125 rfl ?_
          refine ww_ldc2 C (2 : Int64) w_845 dL_costs_125 128 rfl ?_
          refine ww_ldiv C dL_costs_128 h 129 rfl (fun h => ?_)
          refine ww_goto C 172 dL_costs_129 (by decide) ?_
          exact ww_lret C dL_costs_172 hr h
      · refine ww_lload C 1 dL_costs_101 rfl 103 rfl ?_
        refine ww_ldc2 C (4 : Int64) w_848 dL_costs_103 106 rfl ?_
        refine ww_lcmp C dL_costs_106 107 rfl ?_
        refine ww_if_ne C 144 dL_costs_107 (by decide) h 110 rfl (fun h => ?_) (fun h => ?_)
        · refine ww_lload C 1 dL_costs_144 rfl 146 rfl ?_
          refine ww_ldc2 C (3 : Int64) w_846 dL_costs_146 149 rfl ?_
          refine ww_lcmp C dL_costs_149 150 rfl ?_
          refine ww_if_ne C 170 dL_costs_150 (by decide) h 153 rfl (fun h => ?_) (fun h => ?_)
          · refine ww_lload C 0 dL_costs_170 rfl 172 rfl ?_
            exact ww_lret C dL_costs_172 hr h
          · refine ww_aload_n C 3 dL_costs_153 rfl rfl 154 rfl ?_
            refine ww_bipush C (70 : Int32) dL_costs_154 (by decide) 156 rfl ?_
            refine ww_lald C (laH hn) dL_costs_156 h 157 rfl (fun h => ?_)
            refine ww_ldc2 C (4 : Int64) w_848 dL_costs_157 160 rfl ?_
            refine ww_lrem C dL_costs_160 h 161 rfl (fun h => ?_)
            refine ww_lconst C (0 : Int64) dL_costs_161 (by decide) 162 rfl ?_
            refine ww_lcmp C dL_costs_162 163 rfl ?_
            refine ww_if_ne C 170 dL_costs_163 (by decide) h 166 rfl (fun h => ?_) (fun h => ?_)
            · refine ww_lload C 0 dL_costs_170 rfl 172 rfl ?_
              exact ww_lret C dL_costs_172 hr h
            · refine ww_lconst C (0 : Int64) dL_costs_166 (by decide) 167 rfl ?_
              refine ww_goto C 172 dL_costs_167 (by decide) ?_
              exact ww_lret C dL_costs_172 hr h
        · refine ww_aload_n C 3 dL_costs_110 rfl rfl 111 rfl ?_
          refine ww_bipush C (16 : Int32) dL_costs_111 (by decide) 113 rfl ?_
          refine ww_iconst C (4 : Int32) dL_costs_113 (by decide) 114 rfl ?_
          refine ww_iload_n C 5 dL_costs_114 rfl rfl 115 rfl ?_
          refine ww_imul C dL_costs_115 116 rfl ?_
          refine ww_iadd C dL_costs_116 117 rfl ?_
          refine ww_lald C (laH hn) dL_costs_117 h 118 rfl (fun h => ?_)
          refine ww_lconst C (0 : Int64) dL_costs_118 (by decide) 119 rfl ?_
          refine ww_lcmp C dL_costs_119 120 rfl ?_
          refine ww_if_ne C 132 dL_costs_120 (by decide) h 123 rfl (fun h => ?_) (fun h => ?_)
          · refine ww_lload C 0 dL_costs_132 rfl 134 rfl ?_
            refine ww_aload_n C 3 dL_costs_134 rfl rfl 135 rfl ?_
            refine ww_bipush C (12 : Int32) dL_costs_135 (by decide) 137 rfl ?_
            refine ww_iload_n C 4 dL_costs_137 rfl rfl 138 rfl ?_
            refine ww_iadd C dL_costs_138 139 rfl ?_
            refine ww_lald C (laH hn) dL_costs_139 h 140 rfl (fun h => ?_)
            refine ww_ladd C dL_costs_140 141 rfl ?_
            refine ww_goto C 172 dL_costs_141 (by decide) ?_
            exact ww_lret C dL_costs_172 hr h
          · refine ww_lload C 0 dL_costs_123 rfl 125 rfl ?_
            refine ww_ldc2 C (2 : Int64) w_845 dL_costs_125 128 rfl ?_
            refine ww_ldiv C dL_costs_128 h 129 rfl (fun h => ?_)
            refine ww_goto C 172 dL_costs_129 (by decide) ?_
            exact ww_lret C dL_costs_172 hr h
    · refine ww_ldc2 C (4 : Int64) w_848 dL_costs_75 78 rfl ?_
      refine ww_goto C 82 dL_costs_78 (by decide) ?_
      refine ww_lsub C dL_costs_82 83 rfl ?_
      refine ww_iconst C (0 : Int32) dL_costs_83 (by decide) 84 rfl ?_
      refine ww_bipush C (99 : Int32) dL_costs_84 (by decide) 86 rfl ?_
      refine ww_callSi C (As := [.long (((ldL u18 ((18 : Int32) + ((4 : Int32) * a4)).toNatClampNeg) + (((v21 >>> ((15 : Int32) &&& 31)) &&& (7 : Int32)).toInt64)) - (4 : Int64)), .int (0 : Int32), .int (99 : Int32)]) (st := []) h (fun _ _ hF => k_L_held (Nat.le_trans (by decide) hn) hF) w_836 cm_L_held (by decide) (by decide) rfl rfl (Nat.le_of_ble_eq_true rfl) dL_costs_86 89 rfl (fun v28 u27 h => ?_)
      refine ww_i2l C dL_costs_89 90 rfl ?_
      refine ww_bl h (fun v29 h => ?_)
      refine ww_lstore C [(6, .long v29), (4, .long v17), (0, .ref (sa.1 3)), (1, .ref (ad 73)), (2, .int a3), (3, .int a4)] dL_costs_90 (by decide) rfl 92 rfl ?_
      refine ww_lload C 1 dL_costs_92 rfl 94 rfl ?_
      refine ww_ldc2 C (2 : Int64) w_845 dL_costs_94 97 rfl ?_
      refine ww_lcmp C dL_costs_97 98 rfl ?_
      refine ww_if_eq C 110 dL_costs_98 (by decide) h 101 rfl (fun h => ?_) (fun h => ?_)
      · refine ww_aload_n C 3 dL_costs_110 rfl rfl 111 rfl ?_
        refine ww_bipush C (16 : Int32) dL_costs_111 (by decide) 113 rfl ?_
        refine ww_iconst C (4 : Int32) dL_costs_113 (by decide) 114 rfl ?_
        refine ww_iload_n C 5 dL_costs_114 rfl rfl 115 rfl ?_
        refine ww_imul C dL_costs_115 116 rfl ?_
        refine ww_iadd C dL_costs_116 117 rfl ?_
        refine ww_lald C (laH hn) dL_costs_117 h 118 rfl (fun h => ?_)
        refine ww_lconst C (0 : Int64) dL_costs_118 (by decide) 119 rfl ?_
        refine ww_lcmp C dL_costs_119 120 rfl ?_
        refine ww_if_ne C 132 dL_costs_120 (by decide) h 123 rfl (fun h => ?_) (fun h => ?_)
        · refine ww_lload C 0 dL_costs_132 rfl 134 rfl ?_
          refine ww_aload_n C 3 dL_costs_134 rfl rfl 135 rfl ?_
          refine ww_bipush C (12 : Int32) dL_costs_135 (by decide) 137 rfl ?_
          refine ww_iload_n C 4 dL_costs_137 rfl rfl 138 rfl ?_
          refine ww_iadd C dL_costs_138 139 rfl ?_
          refine ww_lald C (laH hn) dL_costs_139 h 140 rfl (fun h => ?_)
          refine ww_ladd C dL_costs_140 141 rfl ?_
          refine ww_goto C 172 dL_costs_141 (by decide) ?_
          exact ww_lret C dL_costs_172 hr h
        · refine ww_lload C 0 dL_costs_123 rfl 125 rfl ?_
          refine ww_ldc2 C (2 : Int64) w_845 dL_costs_125 128 rfl ?_
          refine ww_ldiv C dL_costs_128 h 129 rfl (fun h => ?_)
          refine ww_goto C 172 dL_costs_129 (by decide) ?_
          exact ww_lret C dL_costs_172 hr h
      · refine ww_lload C 1 dL_costs_101 rfl 103 rfl ?_
        refine ww_ldc2 C (4 : Int64) w_848 dL_costs_103 106 rfl ?_
        refine ww_lcmp C dL_costs_106 107 rfl ?_
        refine ww_if_ne C 144 dL_costs_107 (by decide) h 110 rfl (fun h => ?_) (fun h => ?_)
        · refine ww_lload C 1 dL_costs_144 rfl 146 rfl ?_
          refine ww_ldc2 C (3 : Int64) w_846 dL_costs_146 149 rfl ?_
          refine ww_lcmp C dL_costs_149 150 rfl ?_
          refine ww_if_ne C 170 dL_costs_150 (by decide) h 153 rfl (fun h => ?_) (fun h => ?_)
          · refine ww_lload C 0 dL_costs_170 rfl 172 rfl ?_
            exact ww_lret C dL_costs_172 hr h
          · refine ww_aload_n C 3 dL_costs_153 rfl rfl 154 rfl ?_
            refine ww_bipush C (70 : Int32) dL_costs_154 (by decide) 156 rfl ?_
            refine ww_lald C (laH hn) dL_costs_156 h 157 rfl (fun h => ?_)
            refine ww_ldc2 C (4 : Int64) w_848 dL_costs_157 160 rfl ?_
            refine ww_lrem C dL_costs_160 h 161 rfl (fun h => ?_)
            refine ww_lconst C (0 : Int64) dL_costs_161 (by decide) 162 rfl ?_
            refine ww_lcmp C dL_costs_162 163 rfl ?_
            refine ww_if_ne C 170 dL_costs_163 (by decide) h 166 rfl (fun h => ?_) (fun h => ?_)
            · refine ww_lload C 0 dL_costs_170 rfl 172 rfl ?_
              exact ww_lret C dL_costs_172 hr h
            · refine ww_lconst C (0 : Int64) dL_costs_166 (by decide) 167 rfl ?_
              refine ww_goto C 172 dL_costs_167 (by decide) ?_
              exact ww_lret C dL_costs_172 hr h
        · refine ww_aload_n C 3 dL_costs_110 rfl rfl 111 rfl ?_
          refine ww_bipush C (16 : Int32) dL_costs_111 (by decide) 113 rfl ?_
          refine ww_iconst C (4 : Int32) dL_costs_113 (by decide) 114 rfl ?_
          refine ww_iload_n C 5 dL_costs_114 rfl rfl 115 rfl ?_
          refine ww_imul C dL_costs_115 116 rfl ?_
          refine ww_iadd C dL_costs_116 117 rfl ?_
          refine ww_lald C (laH hn) dL_costs_117 h 118 rfl (fun h => ?_)
          refine ww_lconst C (0 : Int64) dL_costs_118 (by decide) 119 rfl ?_
          refine ww_lcmp C dL_costs_119 120 rfl ?_
          refine ww_if_ne C 132 dL_costs_120 (by decide) h 123 rfl (fun h => ?_) (fun h => ?_)
          · refine ww_lload C 0 dL_costs_132 rfl 134 rfl ?_
            refine ww_aload_n C 3 dL_costs_134 rfl rfl 135 rfl ?_
            refine ww_bipush C (12 : Int32) dL_costs_135 (by decide) 137 rfl ?_
            refine ww_iload_n C 4 dL_costs_137 rfl rfl 138 rfl ?_
            refine ww_iadd C dL_costs_138 139 rfl ?_
            refine ww_lald C (laH hn) dL_costs_139 h 140 rfl (fun h => ?_)
            refine ww_ladd C dL_costs_140 141 rfl ?_
            refine ww_goto C 172 dL_costs_141 (by decide) ?_
            exact ww_lret C dL_costs_172 hr h
          · refine ww_lload C 0 dL_costs_123 rfl 125 rfl ?_
            refine ww_ldc2 C (2 : Int64) w_845 dL_costs_125 128 rfl ?_
            refine ww_ldiv C dL_costs_128 h 129 rfl (fun h => ?_)
            refine ww_goto C 172 dL_costs_129 (by decide) ?_
            exact ww_lret C dL_costs_172 hr h
  · refine ww_ldc2 C (2 : Int64) w_845 dL_costs_15 18 rfl ?_
    refine ww_aload_n C 2 dL_costs_18 rfl rfl 19 rfl ?_
    refine ww_bipush C (18 : Int32) dL_costs_19 (by decide) 21 rfl ?_
    refine ww_iconst C (4 : Int32) dL_costs_21 (by decide) 22 rfl ?_
    refine ww_iload_n C 4 dL_costs_22 rfl rfl 23 rfl ?_
    refine ww_imul C dL_costs_23 24 rfl ?_
    refine ww_iadd C dL_costs_24 25 rfl ?_
    refine ww_lald C (laH hn) dL_costs_25 h 26 rfl (fun h => ?_)
    refine ww_lmul C dL_costs_26 27 rfl ?_
    refine ww_goto C 83 dL_costs_27 (by decide) ?_
    refine ww_iconst C (0 : Int32) dL_costs_83 (by decide) 84 rfl ?_
    refine ww_bipush C (99 : Int32) dL_costs_84 (by decide) 86 rfl ?_
    refine ww_callSi C (As := [.long ((2 : Int64) * (ldL u18 ((18 : Int32) + ((4 : Int32) * a4)).toNatClampNeg)), .int (0 : Int32), .int (99 : Int32)]) (st := []) h (fun _ _ hF => k_L_held (Nat.le_trans (by decide) hn) hF) w_836 cm_L_held (by decide) (by decide) rfl rfl (Nat.le_of_ble_eq_true rfl) dL_costs_86 89 rfl (fun v31 u30 h => ?_)
    refine ww_i2l C dL_costs_89 90 rfl ?_
    refine ww_bl h (fun v32 h => ?_)
    refine ww_lstore C [(6, .long v32), (4, .long v17), (0, .ref (sa.1 3)), (1, .ref (ad 73)), (2, .int a3), (3, .int a4)] dL_costs_90 (by decide) rfl 92 rfl ?_
    refine ww_lload C 1 dL_costs_92 rfl 94 rfl ?_
    refine ww_ldc2 C (2 : Int64) w_845 dL_costs_94 97 rfl ?_
    refine ww_lcmp C dL_costs_97 98 rfl ?_
    refine ww_if_eq C 110 dL_costs_98 (by decide) h 101 rfl (fun h => ?_) (fun h => ?_)
    · refine ww_aload_n C 3 dL_costs_110 rfl rfl 111 rfl ?_
      refine ww_bipush C (16 : Int32) dL_costs_111 (by decide) 113 rfl ?_
      refine ww_iconst C (4 : Int32) dL_costs_113 (by decide) 114 rfl ?_
      refine ww_iload_n C 5 dL_costs_114 rfl rfl 115 rfl ?_
      refine ww_imul C dL_costs_115 116 rfl ?_
      refine ww_iadd C dL_costs_116 117 rfl ?_
      refine ww_lald C (laH hn) dL_costs_117 h 118 rfl (fun h => ?_)
      refine ww_lconst C (0 : Int64) dL_costs_118 (by decide) 119 rfl ?_
      refine ww_lcmp C dL_costs_119 120 rfl ?_
      refine ww_if_ne C 132 dL_costs_120 (by decide) h 123 rfl (fun h => ?_) (fun h => ?_)
      · refine ww_lload C 0 dL_costs_132 rfl 134 rfl ?_
        refine ww_aload_n C 3 dL_costs_134 rfl rfl 135 rfl ?_
        refine ww_bipush C (12 : Int32) dL_costs_135 (by decide) 137 rfl ?_
        refine ww_iload_n C 4 dL_costs_137 rfl rfl 138 rfl ?_
        refine ww_iadd C dL_costs_138 139 rfl ?_
        refine ww_lald C (laH hn) dL_costs_139 h 140 rfl (fun h => ?_)
        refine ww_ladd C dL_costs_140 141 rfl ?_
        refine ww_goto C 172 dL_costs_141 (by decide) ?_
        exact ww_lret C dL_costs_172 hr h
      · refine ww_lload C 0 dL_costs_123 rfl 125 rfl ?_
        refine ww_ldc2 C (2 : Int64) w_845 dL_costs_125 128 rfl ?_
        refine ww_ldiv C dL_costs_128 h 129 rfl (fun h => ?_)
        refine ww_goto C 172 dL_costs_129 (by decide) ?_
        exact ww_lret C dL_costs_172 hr h
    · refine ww_lload C 1 dL_costs_101 rfl 103 rfl ?_
      refine ww_ldc2 C (4 : Int64) w_848 dL_costs_103 106 rfl ?_
      refine ww_lcmp C dL_costs_106 107 rfl ?_
      refine ww_if_ne C 144 dL_costs_107 (by decide) h 110 rfl (fun h => ?_) (fun h => ?_)
      · refine ww_lload C 1 dL_costs_144 rfl 146 rfl ?_
        refine ww_ldc2 C (3 : Int64) w_846 dL_costs_146 149 rfl ?_
        refine ww_lcmp C dL_costs_149 150 rfl ?_
        refine ww_if_ne C 170 dL_costs_150 (by decide) h 153 rfl (fun h => ?_) (fun h => ?_)
        · refine ww_lload C 0 dL_costs_170 rfl 172 rfl ?_
          exact ww_lret C dL_costs_172 hr h
        · refine ww_aload_n C 3 dL_costs_153 rfl rfl 154 rfl ?_
          refine ww_bipush C (70 : Int32) dL_costs_154 (by decide) 156 rfl ?_
          refine ww_lald C (laH hn) dL_costs_156 h 157 rfl (fun h => ?_)
          refine ww_ldc2 C (4 : Int64) w_848 dL_costs_157 160 rfl ?_
          refine ww_lrem C dL_costs_160 h 161 rfl (fun h => ?_)
          refine ww_lconst C (0 : Int64) dL_costs_161 (by decide) 162 rfl ?_
          refine ww_lcmp C dL_costs_162 163 rfl ?_
          refine ww_if_ne C 170 dL_costs_163 (by decide) h 166 rfl (fun h => ?_) (fun h => ?_)
          · refine ww_lload C 0 dL_costs_170 rfl 172 rfl ?_
            exact ww_lret C dL_costs_172 hr h
          · refine ww_lconst C (0 : Int64) dL_costs_166 (by decide) 167 rfl ?_
            refine ww_goto C 172 dL_costs_167 (by decide) ?_
            exact ww_lret C dL_costs_172 hr h
      · refine ww_aload_n C 3 dL_costs_110 rfl rfl 111 rfl ?_
        refine ww_bipush C (16 : Int32) dL_costs_111 (by decide) 113 rfl ?_
        refine ww_iconst C (4 : Int32) dL_costs_113 (by decide) 114 rfl ?_
        refine ww_iload_n C 5 dL_costs_114 rfl rfl 115 rfl ?_
        refine ww_imul C dL_costs_115 116 rfl ?_
        refine ww_iadd C dL_costs_116 117 rfl ?_
        refine ww_lald C (laH hn) dL_costs_117 h 118 rfl (fun h => ?_)
        refine ww_lconst C (0 : Int64) dL_costs_118 (by decide) 119 rfl ?_
        refine ww_lcmp C dL_costs_119 120 rfl ?_
        refine ww_if_ne C 132 dL_costs_120 (by decide) h 123 rfl (fun h => ?_) (fun h => ?_)
        · refine ww_lload C 0 dL_costs_132 rfl 134 rfl ?_
          refine ww_aload_n C 3 dL_costs_134 rfl rfl 135 rfl ?_
          refine ww_bipush C (12 : Int32) dL_costs_135 (by decide) 137 rfl ?_
          refine ww_iload_n C 4 dL_costs_137 rfl rfl 138 rfl ?_
          refine ww_iadd C dL_costs_138 139 rfl ?_
          refine ww_lald C (laH hn) dL_costs_139 h 140 rfl (fun h => ?_)
          refine ww_ladd C dL_costs_140 141 rfl ?_
          refine ww_goto C 172 dL_costs_141 (by decide) ?_
          exact ww_lret C dL_costs_172 hr h
        · refine ww_lload C 0 dL_costs_123 rfl 125 rfl ?_
          refine ww_ldc2 C (2 : Int64) w_845 dL_costs_125 128 rfl ?_
          refine ww_ldiv C dL_costs_128 h 129 rfl (fun h => ?_)
          refine ww_goto C 172 dL_costs_129 (by decide) ?_
          exact ww_lret C dL_costs_172 hr h

set_option maxRecDepth 100000 in
set_option maxHeartbeats 4000000 in
theorem k_L_breathes {l : Launch} {D : va_G} {ad : Nat → Nat} {cA : Nat → ClassId} {tys : List (ClassId × FieldType)} {n : Nat} {sa : SA} (hn : 74 ≤ n) {N : Nat} {g : Mem} {a2 : Int32} {r : Int64} {g1 : Mem} (h : L_breathes N a2 g = some (r, g1)) : CTl l yL_breathes (wsm yL_breathes cL_breathes 4 (some .long)) 1 D YI ad cA tys n sa g [.ref (ad 73), .int a2] r g1 := by
  refine ct_of RL rfl (by decide +kernel) (Nat.le_of_ble_eq_true rfl) rfl (fun sz => PBl D YI ad cA n r g1 sz) ?_
  intro p e R s m args below meth c C hr
  rw [L_breathes] at h
  refine ww_aload_n C 0 dL_breathes_0 rfl rfl 1 rfl ?_
  refine ww_bipush C (8 : Int32) dL_breathes_1 (by decide) 3 rfl ?_
  refine ww_iload_n C 1 dL_breathes_3 rfl rfl 4 rfl ?_
  refine ww_iadd C dL_breathes_4 5 rfl ?_
  refine ww_lald C (laH hn) dL_breathes_5 h 6 rfl (fun h => ?_)
  refine ww_bl h (fun v2 h => ?_)
  refine ww_lstore_n C [(2, .long v2), (0, .ref (ad 73)), (1, .int a2)] dL_breathes_6 rfl (by decide) rfl 7 rfl ?_
  refine ww_lload_n C 0 dL_breathes_7 rfl rfl 8 rfl ?_
  refine ww_lconst C (1 : Int64) dL_breathes_8 (by decide) 9 rfl ?_
  refine ww_lcmp C dL_breathes_9 10 rfl ?_
  refine ww_if_eq C 21 dL_breathes_10 (by decide) h 13 rfl (fun h => ?_) (fun h => ?_)
  · refine ww_ldc2 C (10 : Int64) w_847 dL_breathes_21 24 rfl ?_
    refine ww_goto C 63 dL_breathes_24 (by decide) ?_
    exact ww_lret C dL_breathes_63 hr h
  · refine ww_lload_n C 0 dL_breathes_13 rfl rfl 14 rfl ?_
    refine ww_ldc2 C (3 : Int64) w_846 dL_breathes_14 17 rfl ?_
    refine ww_lcmp C dL_breathes_17 18 rfl ?_
    refine ww_if_ne C 27 dL_breathes_18 (by decide) h 21 rfl (fun h => ?_) (fun h => ?_)
    · refine ww_lload_n C 0 dL_breathes_27 rfl rfl 28 rfl ?_
      refine ww_ldc2 C (4 : Int64) w_848 dL_breathes_28 31 rfl ?_
      refine ww_lcmp C dL_breathes_31 32 rfl ?_
      refine ww_if_ne C 48 dL_breathes_32 (by decide) h 35 rfl (fun h => ?_) (fun h => ?_)
      · refine ww_lload_n C 0 dL_breathes_48 rfl rfl 49 rfl ?_
        refine ww_ldc2 C (5 : Int64) w_849 dL_breathes_49 52 rfl ?_
        refine ww_lcmp C dL_breathes_52 53 rfl ?_
        refine ww_if_ne C 60 dL_breathes_53 (by decide) h 56 rfl (fun h => ?_) (fun h => ?_)
        · refine ww_ldc2 C (5 : Int64) w_849 dL_breathes_60 63 rfl ?_
          exact ww_lret C dL_breathes_63 hr h
        · refine ww_lconst C (0 : Int64) dL_breathes_56 (by decide) 57 rfl ?_
          refine ww_goto C 63 dL_breathes_57 (by decide) ?_
          exact ww_lret C dL_breathes_63 hr h
      · refine ww_ldc2 C (5 : Int64) w_849 dL_breathes_35 38 rfl ?_
        refine ww_aload_n C 1 dL_breathes_38 rfl rfl 39 rfl ?_
        refine ww_bipush C (12 : Int32) dL_breathes_39 (by decide) 41 rfl ?_
        refine ww_iload_n C 2 dL_breathes_41 rfl rfl 42 rfl ?_
        refine ww_iadd C dL_breathes_42 43 rfl ?_
        refine ww_lald C (laH hn) dL_breathes_43 h 44 rfl (fun h => ?_)
        refine ww_ladd C dL_breathes_44 45 rfl ?_
        refine ww_goto C 63 dL_breathes_45 (by decide) ?_
        exact ww_lret C dL_breathes_63 hr h
    · refine ww_ldc2 C (10 : Int64) w_847 dL_breathes_21 24 rfl ?_
      refine ww_goto C 63 dL_breathes_24 (by decide) ?_
      exact ww_lret C dL_breathes_63 hr h

set_option maxRecDepth 100000 in
set_option maxHeartbeats 4000000 in
theorem k_L_can {l : Launch} {D : va_G} {ad : Nat → Nat} {cA : Nat → ClassId} {tys : List (ClassId × FieldType)} {n : Nat} {sa : SA} (hn : 74 ≤ n) {N : Nat} {g : Mem} {a3 : Int32} {a4 : Int32} {r : Int32} {g1 : Mem} (h : L_can N sa a3 a4 g = some (r, g1)) : CTi l yL_can (wsm yL_can cL_can 4 (some .boolean)) 4 D YI ad cA tys n sa g [.ref (sa.1 3), .ref (ad 73), .int a3, .int a4] r g1 := by
  refine ct_of RL rfl (by decide +kernel) (Nat.le_of_ble_eq_true rfl) rfl (fun sz => PBi D YI ad cA n r g1 sz) ?_
  intro p e R s m args below meth c C hr
  rw [L_can] at h
  refine ww_aload_n C 1 dL_can_0 rfl rfl 1 rfl ?_
  refine ww_bipush C (19 : Int32) dL_can_1 (by decide) 3 rfl ?_
  refine ww_iconst C (4 : Int32) dL_can_3 (by decide) 4 rfl ?_
  refine ww_iload_n C 3 dL_can_4 rfl rfl 5 rfl ?_
  refine ww_imul C dL_can_5 6 rfl ?_
  refine ww_iadd C dL_can_6 7 rfl ?_
  refine ww_lald C (laH hn) dL_can_7 h 8 rfl (fun h => ?_)
  refine ww_lconst C (0 : Int64) dL_can_8 (by decide) 9 rfl ?_
  refine ww_lcmp C dL_can_9 10 rfl ?_
  refine ww_if_ne C 52 dL_can_10 (by decide) h 13 rfl (fun h => ?_) (fun h => ?_)
  · refine ww_iconst C (0 : Int32) dL_can_52 (by decide) 53 rfl ?_
    exact ww_zret C dL_can_53 hr rfl h
  · refine ww_aload_n C 0 dL_can_13 rfl rfl 14 rfl ?_
    refine ww_aload_n C 1 dL_can_14 rfl rfl 15 rfl ?_
    refine ww_iload_n C 2 dL_can_15 rfl rfl 16 rfl ?_
    refine ww_iload_n C 3 dL_can_16 rfl rfl 17 rfl ?_
    refine ww_callSl C (As := [.ref (sa.1 3), .ref (ad 73), .int a3, .int a4]) (st := []) h (fun _ _ hF => k_L_reaches hn hF) w_833 cm_L_reaches (by decide) (by decide) rfl rfl (Nat.le_of_ble_eq_true rfl) dL_can_17 20 rfl (fun v6 u5 h => ?_)
    refine ww_aload_n C 1 dL_can_20 rfl rfl 21 rfl ?_
    refine ww_bipush C (18 : Int32) dL_can_21 (by decide) 23 rfl ?_
    refine ww_iconst C (4 : Int32) dL_can_23 (by decide) 24 rfl ?_
    refine ww_iload_n C 3 dL_can_24 rfl rfl 25 rfl ?_
    refine ww_imul C dL_can_25 26 rfl ?_
    refine ww_iadd C dL_can_26 27 rfl ?_
    refine ww_lald C (laH hn) dL_can_27 h 28 rfl (fun h => ?_)
    refine ww_lcmp C dL_can_28 29 rfl ?_
    refine ww_if_lt C 52 dL_can_29 (by decide) h 32 rfl (fun h => ?_) (fun h => ?_)
    · refine ww_iconst C (0 : Int32) dL_can_52 (by decide) 53 rfl ?_
      exact ww_zret C dL_can_53 hr rfl h
    · refine ww_aload_n C 0 dL_can_32 rfl rfl 33 rfl ?_
      refine ww_aload_n C 1 dL_can_33 rfl rfl 34 rfl ?_
      refine ww_iload_n C 2 dL_can_34 rfl rfl 35 rfl ?_
      refine ww_iload_n C 3 dL_can_35 rfl rfl 36 rfl ?_
      refine ww_callSl C (As := [.ref (sa.1 3), .ref (ad 73), .int a3, .int a4]) (st := []) h (fun _ _ hF => k_L_costs hn hF) w_851 cm_L_costs (by decide) (by decide) rfl rfl (Nat.le_of_ble_eq_true rfl) dL_can_36 39 rfl (fun v8 u7 h => ?_)
      refine ww_aload_n C 1 dL_can_39 rfl rfl 40 rfl ?_
      refine ww_iconst C (2 : Int32) dL_can_40 (by decide) 41 rfl ?_
      refine ww_iload_n C 2 dL_can_41 rfl rfl 42 rfl ?_
      refine ww_imul C dL_can_42 43 rfl ?_
      refine ww_lald C (laH hn) dL_can_43 h 44 rfl (fun h => ?_)
      refine ww_lcmp C dL_can_44 45 rfl ?_
      refine ww_if_gt C 52 dL_can_45 (by decide) h 48 rfl (fun h => ?_) (fun h => ?_)
      · refine ww_iconst C (0 : Int32) dL_can_52 (by decide) 53 rfl ?_
        exact ww_zret C dL_can_53 hr rfl h
      · refine ww_iconst C (1 : Int32) dL_can_48 (by decide) 49 rfl ?_
        refine ww_goto C 53 dL_can_49 (by decide) ?_
        exact ww_zret C dL_can_53 hr rfl h

set_option maxRecDepth 100000 in
set_option maxHeartbeats 4000000 in
theorem k_L_cans {l : Launch} {D : va_G} {ad : Nat → Nat} {cA : Nat → ClassId} {tys : List (ClassId × FieldType)} {n : Nat} {sa : SA} (hn : 74 ≤ n) {N : Nat} {g : Mem} {a3 : Int32} {r : Int32} {g1 : Mem} (h : L_cans N sa a3 g = some (r, g1)) : CTi l yL_cans (wsm yL_cans cL_cans 5 (some .int)) 5 D YI ad cA tys n sa g [.ref (sa.1 3), .ref (ad 73), .int a3] r g1 := by
  refine ct_of RL rfl (by decide +kernel) (Nat.le_of_ble_eq_true rfl) rfl (fun sz => PBi D YI ad cA n r g1 sz) ?_
  intro p e R s m args below meth c C hr
  have L5h : ∀ (fu : Nat), (∀ (x3 : Int32) (x4 : Int32) (g : Mem), L_cans_L5 N sa a3 fu x3 x4 g = some (r, g1) → WW p l e R s m args below meth c 5 D YI ad cA n (MQ below (PBi D YI ad cA n r g1 s.heap.size) args s 0 0 (AA n ad s.heap.size)) g 5 [(0, .ref (sa.1 3)), (1, .ref (ad 73)), (2, .int a3), (3, .int x3), (4, .int x4)] []) := by
    intro fu
    induction fu with
    | zero => intro x3 x4 g h; cases h
    | succ fu ih =>
      intro x3 x4 g h
      rw [L_cans_L5] at h
      refine ww_iload C 4 dL_cans_5 rfl 7 rfl ?_
      refine ww_bipush C (12 : Int32) dL_cans_7 (by decide) 9 rfl ?_
      refine ww_icmp_ge C 40 dL_cans_9 (by decide) h 12 rfl (fun h => ?_) (fun h => ?_)
      · refine ww_iload_n C 3 dL_cans_40 rfl rfl 41 rfl ?_
        exact ww_iret C dL_cans_41 hr h
      · refine ww_iload_n C 3 dL_cans_12 rfl rfl 13 rfl ?_
        refine ww_aload_n C 0 dL_cans_13 rfl rfl 14 rfl ?_
        refine ww_aload_n C 1 dL_cans_14 rfl rfl 15 rfl ?_
        refine ww_iload_n C 2 dL_cans_15 rfl rfl 16 rfl ?_
        refine ww_iload C 4 dL_cans_16 rfl 18 rfl ?_
        refine ww_callSi C (As := [.ref (sa.1 3), .ref (ad 73), .int a3, .int x4]) (st := [.int x3]) h (fun _ _ hF => k_L_can hn hF) w_830 cm_L_can (by decide) (by decide) rfl rfl (Nat.le_of_ble_eq_true rfl) dL_cans_18 21 rfl (fun v8 u7 h => ?_)
        refine ww_if_eq C 31 dL_cans_21 (by decide) h 24 rfl (fun h => ?_) (fun h => ?_)
        · refine ww_iconst C (0 : Int32) dL_cans_31 (by decide) 32 rfl ?_
          refine ww_ior C dL_cans_32 33 rfl ?_
          refine ww_bi h (fun v9 h => ?_)
          refine ww_istore_n C [(3, .int v9), (0, .ref (sa.1 3)), (1, .ref (ad 73)), (2, .int a3), (4, .int x4)] dL_cans_33 rfl (by decide) rfl 34 rfl ?_
          refine ww_iinc C 4 (1 : Int32) (by decide) (fun v10 => [(4, .int v10), (3, .int v9), (0, .ref (sa.1 3)), (1, .ref (ad 73)), (2, .int a3)]) dL_cans_34 rfl (by decide) (fun _ => rfl) h 37 rfl (fun v10 h => ?_)
          refine ww_goto C 5 dL_cans_37 (by decide) ?_
          exact ww_sub [2, 3, 4, 1, 0] rfl (ih _ _ _ h)
        · refine ww_iconst C (1 : Int32) dL_cans_24 (by decide) 25 rfl ?_
          refine ww_iload C 4 dL_cans_25 rfl 27 rfl ?_
          refine ww_ishl C dL_cans_27 28 rfl ?_
          refine ww_goto C 32 dL_cans_28 (by decide) ?_
          refine ww_ior C dL_cans_32 33 rfl ?_
          refine ww_bi h (fun v11 h => ?_)
          refine ww_istore_n C [(3, .int v11), (0, .ref (sa.1 3)), (1, .ref (ad 73)), (2, .int a3), (4, .int x4)] dL_cans_33 rfl (by decide) rfl 34 rfl ?_
          refine ww_iinc C 4 (1 : Int32) (by decide) (fun v12 => [(4, .int v12), (3, .int v11), (0, .ref (sa.1 3)), (1, .ref (ad 73)), (2, .int a3)]) dL_cans_34 rfl (by decide) (fun _ => rfl) h 37 rfl (fun v12 h => ?_)
          refine ww_goto C 5 dL_cans_37 (by decide) ?_
          exact ww_sub [2, 3, 4, 1, 0] rfl (ih _ _ _ h)
  rw [L_cans] at h
  refine ww_iconst C (0 : Int32) dL_cans_0 (by decide) 1 rfl ?_
  refine ww_istore_n C [(3, .int (0 : Int32)), (0, .ref (sa.1 3)), (1, .ref (ad 73)), (2, .int a3)] dL_cans_1 rfl (by decide) rfl 2 rfl ?_
  refine ww_iconst C (0 : Int32) dL_cans_2 (by decide) 3 rfl ?_
  refine ww_istore C [(4, .int (0 : Int32)), (3, .int (0 : Int32)), (0, .ref (sa.1 3)), (1, .ref (ad 73)), (2, .int a3)] dL_cans_3 (by decide) rfl 5 rfl ?_
  exact ww_sub [2, 3, 4, 1, 0] rfl (L5h N _ _ _ h)

set_option maxRecDepth 100000 in
set_option maxHeartbeats 4000000 in
theorem k_L_dive {l : Launch} {D : va_G} {ad : Nat → Nat} {cA : Nat → ClassId} {tys : List (ClassId × FieldType)} {n : Nat} {sa : SA} (hn : 74 ≤ n) {N : Nat} {g : Mem} {a3 : Int32} {a4 : Int32} {r : Int32} {g1 : Mem} (h : L_dive N sa a3 a4 g = some (r, g1)) : CTi l yL_dive (wsm yL_dive cL_dive 4 (some .boolean)) 5 D YI ad cA tys n sa g [.ref (sa.1 3), .ref (ad 73), .int a3, .int a4] r g1 := by
  refine ct_of RL rfl (by decide +kernel) (Nat.le_of_ble_eq_true rfl) rfl (fun sz => PBi D YI ad cA n r g1 sz) ?_
  intro p e R s m args below meth c C hr
  rw [L_dive] at h
  refine ww_aload_n C 0 dL_dive_0 rfl rfl 1 rfl ?_
  refine ww_aload_n C 1 dL_dive_1 rfl rfl 2 rfl ?_
  refine ww_iload_n C 2 dL_dive_2 rfl rfl 3 rfl ?_
  refine ww_iload_n C 3 dL_dive_3 rfl rfl 4 rfl ?_
  refine ww_callSi C (As := [.ref (sa.1 3), .ref (ad 73), .int a3, .int a4]) (st := []) h (fun _ _ hF => k_L_can hn hF) w_830 cm_L_can (by decide) (by decide) rfl rfl (Nat.le_of_ble_eq_true rfl) dL_dive_4 7 rfl (fun v11 u10 h => ?_)
  refine ww_if_ne C 12 dL_dive_7 (by decide) h 10 rfl (fun h => ?_) (fun h => ?_)
  · refine ww_aload_n C 1 dL_dive_12 rfl rfl 13 rfl ?_
    refine ww_iconst C (2 : Int32) dL_dive_13 (by decide) 14 rfl ?_
    refine ww_iload_n C 2 dL_dive_14 rfl rfl 15 rfl ?_
    refine ww_imul C dL_dive_15 16 rfl ?_
    refine ww_bi h (fun v12 h => ?_)
    refine ww_dup2 C dL_dive_16 rfl rfl 17 rfl ?_
    refine ww_lald C (laH hn) dL_dive_17 h 18 rfl (fun h => ?_)
    refine ww_aload_n C 0 dL_dive_18 rfl rfl 19 rfl ?_
    refine ww_aload_n C 1 dL_dive_19 rfl rfl 20 rfl ?_
    refine ww_iload_n C 2 dL_dive_20 rfl rfl 21 rfl ?_
    refine ww_iload_n C 3 dL_dive_21 rfl rfl 22 rfl ?_
    refine ww_callSl C (As := [.ref (sa.1 3), .ref (ad 73), .int a3, .int a4]) (st := [.long (ldL u10 (v12).toNatClampNeg), .int v12, .ref (ad 73)]) h (fun _ _ hF => k_L_costs hn hF) w_851 cm_L_costs (by decide) (by decide) rfl rfl (Nat.le_of_ble_eq_true rfl) dL_dive_22 25 rfl (fun v14 u13 h => ?_)
    refine ww_lsub C dL_dive_25 26 rfl ?_
    refine ww_last C (laH hn) (fun a ha h9 => kdI_9 ha h9) dL_dive_26 h 27 rfl (fun u15 h => ?_)
    refine ww_aload_n C 1 dL_dive_27 rfl rfl 28 rfl ?_
    refine ww_iconst C (2 : Int32) dL_dive_28 (by decide) 29 rfl ?_
    refine ww_iload_n C 2 dL_dive_29 rfl rfl 30 rfl ?_
    refine ww_imul C dL_dive_30 31 rfl ?_
    refine ww_iconst C (1 : Int32) dL_dive_31 (by decide) 32 rfl ?_
    refine ww_iadd C dL_dive_32 33 rfl ?_
    refine ww_bi h (fun v16 h => ?_)
    refine ww_dup2 C dL_dive_33 rfl rfl 34 rfl ?_
    refine ww_lald C (laH hn) dL_dive_34 h 35 rfl (fun h => ?_)
    refine ww_lconst C (1 : Int64) dL_dive_35 (by decide) 36 rfl ?_
    refine ww_ladd C dL_dive_36 37 rfl ?_
    refine ww_last C (laH hn) (fun a ha h9 => kdI_9 ha h9) dL_dive_37 h 38 rfl (fun u17 h => ?_)
    refine ww_aload_n C 1 dL_dive_38 rfl rfl 39 rfl ?_
    refine ww_bipush C (19 : Int32) dL_dive_39 (by decide) 41 rfl ?_
    refine ww_iconst C (4 : Int32) dL_dive_41 (by decide) 42 rfl ?_
    refine ww_iload_n C 3 dL_dive_42 rfl rfl 43 rfl ?_
    refine ww_imul C dL_dive_43 44 rfl ?_
    refine ww_iadd C dL_dive_44 45 rfl ?_
    refine ww_lconst C (1 : Int64) dL_dive_45 (by decide) 46 rfl ?_
    refine ww_last C (laH hn) (fun a ha h9 => kdI_9 ha h9) dL_dive_46 h 47 rfl (fun u18 h => ?_)
    refine ww_iconst C (1 : Int32) dL_dive_47 (by decide) 48 rfl ?_
    exact ww_zret C dL_dive_48 hr rfl h
  · refine ww_iconst C (0 : Int32) dL_dive_10 (by decide) 11 rfl ?_
    exact ww_zret C dL_dive_11 hr rfl h

set_option maxRecDepth 100000 in
set_option maxHeartbeats 4000000 in
theorem k_L_open {l : Launch} {D : va_G} {ad : Nat → Nat} {cA : Nat → ClassId} {tys : List (ClassId × FieldType)} {n : Nat} {sa : SA} (hn : 74 ≤ n) {N : Nat} {g : Mem} {a2 : Int32} {r : Int32} {g1 : Mem} (h : L_open N a2 g = some (r, g1)) : CTi l yL_open (wsm yL_open cL_open 3 (some .boolean)) 2 D YI ad cA tys n sa g [.ref (ad 73), .int a2] r g1 := by
  refine ct_of RL rfl (by decide +kernel) (Nat.le_of_ble_eq_true rfl) rfl (fun sz => PBi D YI ad cA n r g1 sz) ?_
  intro p e R s m args below meth c C hr
  rw [L_open] at h
  refine ww_aload_n C 0 dL_open_0 rfl rfl 1 rfl ?_
  refine ww_bipush C (19 : Int32) dL_open_1 (by decide) 3 rfl ?_
  refine ww_iconst C (4 : Int32) dL_open_3 (by decide) 4 rfl ?_
  refine ww_iload_n C 1 dL_open_4 rfl rfl 5 rfl ?_
  refine ww_imul C dL_open_5 6 rfl ?_
  refine ww_iadd C dL_open_6 7 rfl ?_
  refine ww_lald C (laH hn) dL_open_7 h 8 rfl (fun h => ?_)
  refine ww_lconst C (1 : Int64) dL_open_8 (by decide) 9 rfl ?_
  refine ww_lcmp C dL_open_9 10 rfl ?_
  refine ww_if_eq C 15 dL_open_10 (by decide) h 13 rfl (fun h => ?_) (fun h => ?_)
  · refine ww_bipush C (64 : Int32) dL_open_15 (by decide) 17 rfl ?_
    refine ww_aload_n C 0 dL_open_17 rfl rfl 18 rfl ?_
    refine ww_bipush C (16 : Int32) dL_open_18 (by decide) 20 rfl ?_
    refine ww_iconst C (4 : Int32) dL_open_20 (by decide) 21 rfl ?_
    refine ww_iload_n C 1 dL_open_21 rfl rfl 22 rfl ?_
    refine ww_imul C dL_open_22 23 rfl ?_
    refine ww_iadd C dL_open_23 24 rfl ?_
    refine ww_lald C (laH hn) dL_open_24 h 25 rfl (fun h => ?_)
    refine ww_l2i C dL_open_25 26 rfl ?_
    refine ww_iadd C dL_open_26 27 rfl ?_
    refine ww_bi h (fun v4 h => ?_)
    refine ww_istore_n C [(2, .int v4), (0, .ref (ad 73)), (1, .int a2)] dL_open_27 rfl (by decide) rfl 28 rfl ?_
    refine ww_aload_n C 1 dL_open_28 rfl rfl 29 rfl ?_
    refine ww_iload_n C 0 dL_open_29 rfl rfl 30 rfl ?_
    refine ww_ldc2 C (99 : Int64) w_850 dL_open_30 33 rfl ?_
    refine ww_aload_n C 1 dL_open_33 rfl rfl 34 rfl ?_
    refine ww_iload_n C 0 dL_open_34 rfl rfl 35 rfl ?_
    refine ww_lald C (laH hn) dL_open_35 h 36 rfl (fun h => ?_)
    refine ww_aload_n C 1 dL_open_36 rfl rfl 37 rfl ?_
    refine ww_bipush C (17 : Int32) dL_open_37 (by decide) 39 rfl ?_
    refine ww_iconst C (4 : Int32) dL_open_39 (by decide) 40 rfl ?_
    refine ww_iload_n C 2 dL_open_40 rfl rfl 41 rfl ?_
    refine ww_imul C dL_open_41 42 rfl ?_
    refine ww_iadd C dL_open_42 43 rfl ?_
    refine ww_lald C (laH hn) dL_open_43 h 44 rfl (fun h => ?_)
    refine ww_ladd C dL_open_44 45 rfl ?_
    refine ww_lmin C w_839 wm_lmin (by decide) (Nat.le_of_ble_eq_true rfl) dL_open_45 48 rfl ?_
    refine ww_last C (laH hn) (fun a ha h9 => kdI_9 ha h9) dL_open_48 h 49 rfl (fun u5 h => ?_)
    refine ww_aload_n C 1 dL_open_49 rfl rfl 50 rfl ?_
    refine ww_bipush C (19 : Int32) dL_open_50 (by decide) 52 rfl ?_
    refine ww_iconst C (4 : Int32) dL_open_52 (by decide) 53 rfl ?_
    refine ww_iload_n C 2 dL_open_53 rfl rfl 54 rfl ?_
    refine ww_imul C dL_open_54 55 rfl ?_
    refine ww_iadd C dL_open_55 56 rfl ?_
    refine ww_ldc2 C (2 : Int64) w_845 dL_open_56 59 rfl ?_
    refine ww_last C (laH hn) (fun a ha h9 => kdI_9 ha h9) dL_open_59 h 60 rfl (fun u6 h => ?_)
    refine ww_iconst C (1 : Int32) dL_open_60 (by decide) 61 rfl ?_
    exact ww_zret C dL_open_61 hr rfl h
  · refine ww_iconst C (0 : Int32) dL_open_13 (by decide) 14 rfl ?_
    exact ww_zret C dL_open_14 hr rfl h

set_option maxRecDepth 100000 in
set_option maxHeartbeats 4000000 in
theorem k_L_fair {l : Launch} {D : va_G} {ad : Nat → Nat} {cA : Nat → ClassId} {tys : List (ClassId × FieldType)} {n : Nat} {sa : SA} (hn : 74 ≤ n) {N : Nat} {g : Mem} {r : Int64} {g1 : Mem} (h : L_fair N g = some (r, g1)) : CTl l yL_fair (wsm yL_fair cL_fair 1 (some .long)) 1 D YI ad cA tys n sa g [.ref (ad 73)] r g1 := by
  refine ct_of RL rfl (by decide +kernel) (Nat.le_of_ble_eq_true rfl) rfl (fun sz => PBl D YI ad cA n r g1 sz) ?_
  intro p e R s m args below meth c C hr
  rw [L_fair] at h
  refine ww_aload_n C 0 dL_fair_0 rfl rfl 1 rfl ?_
  refine ww_bipush C (64 : Int32) dL_fair_1 (by decide) 3 rfl ?_
  refine ww_lald C (laH hn) dL_fair_3 h 4 rfl (fun h => ?_)
  refine ww_aload_n C 0 dL_fair_4 rfl rfl 5 rfl ?_
  refine ww_bipush C (67 : Int32) dL_fair_5 (by decide) 7 rfl ?_
  refine ww_lald C (laH hn) dL_fair_7 h 8 rfl (fun h => ?_)
  refine ww_ladd C dL_fair_8 9 rfl ?_
  refine ww_aload_n C 0 dL_fair_9 rfl rfl 10 rfl ?_
  refine ww_bipush C (66 : Int32) dL_fair_10 (by decide) 12 rfl ?_
  refine ww_lald C (laH hn) dL_fair_12 h 13 rfl (fun h => ?_)
  refine ww_lsub C dL_fair_13 14 rfl ?_
  refine ww_ldc2 C (2 : Int64) w_845 dL_fair_14 17 rfl ?_
  refine ww_aload_n C 0 dL_fair_17 rfl rfl 18 rfl ?_
  refine ww_bipush C (69 : Int32) dL_fair_18 (by decide) 20 rfl ?_
  refine ww_lald C (laH hn) dL_fair_20 h 21 rfl (fun h => ?_)
  refine ww_lmul C dL_fair_21 22 rfl ?_
  refine ww_lsub C dL_fair_22 23 rfl ?_
  exact ww_lret C dL_fair_23 hr h

set_option maxRecDepth 100000 in
set_option maxHeartbeats 4000000 in
theorem k_L_first {l : Launch} {D : va_G} {ad : Nat → Nat} {cA : Nat → ClassId} {tys : List (ClassId × FieldType)} {n : Nat} {sa : SA} (hn : 74 ≤ n) {N : Nat} {g : Mem} {r : Int32} {g1 : Mem} (h : L_first N g = some (r, g1)) : CTi l yL_first (wsm yL_first cL_first 3 (some .int)) 1 D YI ad cA tys n sa g [.ref (ad 73)] r g1 := by
  refine ct_of RL rfl (by decide +kernel) (Nat.le_of_ble_eq_true rfl) rfl (fun sz => PBi D YI ad cA n r g1 sz) ?_
  intro p e R s m args below meth c C hr
  have L4h : ∀ (fu : Nat), (∀ (x1 : Int32) (x2 : Int32) (g : Mem), L_first_L4 N fu x1 x2 g = some (r, g1) → WW p l e R s m args below meth c 3 D YI ad cA n (MQ below (PBi D YI ad cA n r g1 s.heap.size) args s 0 0 (AA n ad s.heap.size)) g 4 [(0, .ref (ad 73)), (1, .int x1), (2, .int x2)] []) := by
    intro fu
    induction fu with
    | zero => intro x1 x2 g h; cases h
    | succ fu ih =>
      intro x1 x2 g h
      rw [L_first_L4] at h
      refine ww_iload_n C 2 dL_first_4 rfl rfl 5 rfl ?_
      refine ww_bipush C (6 : Int32) dL_first_5 (by decide) 7 rfl ?_
      refine ww_icmp_ge C 46 dL_first_7 (by decide) h 10 rfl (fun h => ?_) (fun h => ?_)
      · refine ww_iload_n C 1 dL_first_46 rfl rfl 47 rfl ?_
        exact ww_iret C dL_first_47 hr h
      · refine ww_aload_n C 0 dL_first_10 rfl rfl 11 rfl ?_
        refine ww_bipush C (64 : Int32) dL_first_11 (by decide) 13 rfl ?_
        refine ww_iload_n C 2 dL_first_13 rfl rfl 14 rfl ?_
        refine ww_iadd C dL_first_14 15 rfl ?_
        refine ww_lald C (laH hn) dL_first_15 h 16 rfl (fun h => ?_)
        refine ww_iload_n C 1 dL_first_16 rfl rfl 17 rfl ?_
        refine ww_if_ge C 24 dL_first_17 (by decide) h 20 rfl (fun h => ?_) (fun h => ?_)
        · refine ww_aload_n C 0 dL_first_24 rfl rfl 25 rfl ?_
          refine ww_bipush C (64 : Int32) dL_first_25 (by decide) 27 rfl ?_
          refine ww_iload_n C 1 dL_first_27 rfl rfl 28 rfl ?_
          refine ww_iadd C dL_first_28 29 rfl ?_
          refine ww_lald C (laH hn) dL_first_29 h 30 rfl (fun h => ?_)
          refine ww_lcmp C dL_first_30 31 rfl ?_
          refine ww_if_le C 38 dL_first_31 (by decide) h 34 rfl (fun h => ?_) (fun h => ?_)
          · refine ww_iload_n C 1 dL_first_38 rfl rfl 39 rfl ?_
            refine ww_istore_n C [(1, .int x1), (0, .ref (ad 73)), (2, .int x2)] dL_first_39 rfl (by decide) rfl 40 rfl ?_
            refine ww_iinc C 2 (1 : Int32) (by decide) (fun v5 => [(2, .int v5), (1, .int x1), (0, .ref (ad 73))]) dL_first_40 rfl (by decide) (fun _ => rfl) h 43 rfl (fun v5 h => ?_)
            refine ww_goto C 4 dL_first_43 (by decide) ?_
            exact ww_sub [2, 1, 0] rfl (ih _ _ _ h)
          · refine ww_iload_n C 2 dL_first_34 rfl rfl 35 rfl ?_
            refine ww_goto C 39 dL_first_35 (by decide) ?_
            refine ww_istore_n C [(1, .int x2), (0, .ref (ad 73)), (2, .int x2)] dL_first_39 rfl (by decide) rfl 40 rfl ?_
            refine ww_iinc C 2 (1 : Int32) (by decide) (fun v6 => [(2, .int v6), (1, .int x2), (0, .ref (ad 73))]) dL_first_40 rfl (by decide) (fun _ => rfl) h 43 rfl (fun v6 h => ?_)
            refine ww_goto C 4 dL_first_43 (by decide) ?_
            exact ww_sub [2, 1, 0] rfl (ih _ _ _ h)
        · refine ww_lconst C (0 : Int64) dL_first_20 (by decide) 21 rfl ?_
          refine ww_goto C 30 dL_first_21 (by decide) ?_
          refine ww_lcmp C dL_first_30 31 rfl ?_
          refine ww_if_le C 38 dL_first_31 (by decide) h 34 rfl (fun h => ?_) (fun h => ?_)
          · refine ww_iload_n C 1 dL_first_38 rfl rfl 39 rfl ?_
            refine ww_istore_n C [(1, .int x1), (0, .ref (ad 73)), (2, .int x2)] dL_first_39 rfl (by decide) rfl 40 rfl ?_
            refine ww_iinc C 2 (1 : Int32) (by decide) (fun v7 => [(2, .int v7), (1, .int x1), (0, .ref (ad 73))]) dL_first_40 rfl (by decide) (fun _ => rfl) h 43 rfl (fun v7 h => ?_)
            refine ww_goto C 4 dL_first_43 (by decide) ?_
            exact ww_sub [2, 1, 0] rfl (ih _ _ _ h)
          · refine ww_iload_n C 2 dL_first_34 rfl rfl 35 rfl ?_
            refine ww_goto C 39 dL_first_35 (by decide) ?_
            refine ww_istore_n C [(1, .int x2), (0, .ref (ad 73)), (2, .int x2)] dL_first_39 rfl (by decide) rfl 40 rfl ?_
            refine ww_iinc C 2 (1 : Int32) (by decide) (fun v8 => [(2, .int v8), (1, .int x2), (0, .ref (ad 73))]) dL_first_40 rfl (by decide) (fun _ => rfl) h 43 rfl (fun v8 h => ?_)
            refine ww_goto C 4 dL_first_43 (by decide) ?_
            exact ww_sub [2, 1, 0] rfl (ih _ _ _ h)
  rw [L_first] at h
  refine ww_iconst C (-1 : Int32) dL_first_0 (by decide) 1 rfl ?_
  refine ww_istore_n C [(1, .int (-1 : Int32)), (0, .ref (ad 73))] dL_first_1 rfl (by decide) rfl 2 rfl ?_
  refine ww_iconst C (0 : Int32) dL_first_2 (by decide) 3 rfl ?_
  refine ww_istore_n C [(2, .int (0 : Int32)), (1, .int (-1 : Int32)), (0, .ref (ad 73))] dL_first_3 rfl (by decide) rfl 4 rfl ?_
  exact ww_sub [2, 1, 0] rfl (L4h N _ _ _ h)

set_option maxRecDepth 100000 in
set_option maxHeartbeats 4000000 in
theorem k_L_pass {l : Launch} {D : va_G} {ad : Nat → Nat} {cA : Nat → ClassId} {tys : List (ClassId × FieldType)} {n : Nat} {sa : SA} (hn : 74 ≤ n) {N : Nat} {g : Mem} {r : Int32} {g1 : Mem} (h : L_pass N sa g = some (r, g1)) : CTi l yL_pass (wsm yL_pass cL_pass 3 (some .int)) 3 D YI ad cA tys n sa g [.ref (sa.1 3), .ref (ad 73)] r g1 := by
  refine ct_of RL rfl (by decide +kernel) (Nat.le_of_ble_eq_true rfl) rfl (fun sz => PBi D YI ad cA n r g1 sz) ?_
  intro p e R s m args below meth c C hr
  have L90h : ∀ (fu : Nat), (∀ (x2 : Int32) (g : Mem), L_pass_L90 N sa fu x2 g = some (r, g1) → WW p l e R s m args below meth c 3 D YI ad cA n (MQ below (PBi D YI ad cA n r g1 s.heap.size) args s 0 0 (AA n ad s.heap.size)) g 90 [(0, .ref (sa.1 3)), (1, .ref (ad 73)), (2, .int x2)] []) := by
    intro fu
    induction fu with
    | zero => intro x2 g h; cases h
    | succ fu ih =>
      intro x2 g h
      rw [L_pass_L90] at h
      refine ww_iload_n C 2 dL_pass_90 rfl rfl 91 rfl ?_
      refine ww_aload_n C 0 dL_pass_91 rfl rfl 92 rfl ?_
      refine ww_callSi C (As := [.ref (sa.1 3)]) (st := [.int x2]) h (fun _ _ hF => k_L_many (Nat.le_trans (by decide) hn) hF) w_562 cm_L_many (by decide) (by decide) rfl rfl (Nat.le_of_ble_eq_true rfl) dL_pass_92 95 rfl (fun v23 u22 h => ?_)
      refine ww_icmp_ge C 126 dL_pass_95 (by decide) h 98 rfl (fun h => ?_) (fun h => ?_)
      · refine ww_aload_n C 1 dL_pass_126 rfl rfl 127 rfl ?_
        refine ww_bipush C (70 : Int32) dL_pass_127 (by decide) 129 rfl ?_
        refine ww_dup2 C dL_pass_129 rfl rfl 130 rfl ?_
        refine ww_lald C (laH hn) dL_pass_130 h 131 rfl (fun h => ?_)
        refine ww_lconst C (1 : Int64) dL_pass_131 (by decide) 132 rfl ?_
        refine ww_ladd C dL_pass_132 133 rfl ?_
        refine ww_last C (laH hn) (fun a ha h9 => kdI_9 ha h9) dL_pass_133 h 134 rfl (fun u24 h => ?_)
        refine ww_aload_n C 1 dL_pass_134 rfl rfl 135 rfl ?_
        refine ww_callSi C (As := [.ref (ad 73)]) (st := []) h (fun _ _ hF => k_L_first hn hF) w_863 cm_L_first (by decide) (by decide) rfl rfl (Nat.le_of_ble_eq_true rfl) dL_pass_135 138 rfl (fun v26 u25 h => ?_)
        exact ww_iret C dL_pass_138 hr h
      · refine ww_aload_n C 1 dL_pass_98 rfl rfl 99 rfl ?_
        refine ww_iconst C (2 : Int32) dL_pass_99 (by decide) 100 rfl ?_
        refine ww_iload_n C 2 dL_pass_100 rfl rfl 101 rfl ?_
        refine ww_imul C dL_pass_101 102 rfl ?_
        refine ww_ldc2 C (99 : Int64) w_850 dL_pass_102 105 rfl ?_
        refine ww_aload_n C 1 dL_pass_105 rfl rfl 106 rfl ?_
        refine ww_iconst C (2 : Int32) dL_pass_106 (by decide) 107 rfl ?_
        refine ww_iload_n C 2 dL_pass_107 rfl rfl 108 rfl ?_
        refine ww_imul C dL_pass_108 109 rfl ?_
        refine ww_lald C (laH hn) dL_pass_109 h 110 rfl (fun h => ?_)
        refine ww_aload_n C 1 dL_pass_110 rfl rfl 111 rfl ?_
        refine ww_iload_n C 2 dL_pass_111 rfl rfl 112 rfl ?_
        refine ww_callSl C (As := [.ref (ad 73), .int x2]) (st := [.long (ldL u22 ((2 : Int32) * x2).toNatClampNeg), .long (99 : Int64), .int ((2 : Int32) * x2), .ref (ad 73)]) h (fun _ _ hF => k_L_breathes hn hF) w_860 cm_L_breathes (by decide) (by decide) rfl rfl (Nat.le_of_ble_eq_true rfl) dL_pass_112 115 rfl (fun v28 u27 h => ?_)
        refine ww_ladd C dL_pass_115 116 rfl ?_
        refine ww_lmin C w_839 wm_lmin (by decide) (Nat.le_of_ble_eq_true rfl) dL_pass_116 119 rfl ?_
        refine ww_last C (laH hn) (fun a ha h9 => kdI_9 ha h9) dL_pass_119 h 120 rfl (fun u29 h => ?_)
        refine ww_iinc C 2 (1 : Int32) (by decide) (fun v30 => [(2, .int v30), (0, .ref (sa.1 3)), (1, .ref (ad 73))]) dL_pass_120 rfl (by decide) (fun _ => rfl) h 123 rfl (fun v30 h => ?_)
        refine ww_goto C 90 dL_pass_123 (by decide) ?_
        exact ww_sub [1, 2, 0] rfl (ih _ _ h)
  have L2h : ∀ (fu : Nat), (∀ (x2 : Int32) (g : Mem), L_pass_L2 N sa fu x2 g = some (r, g1) → WW p l e R s m args below meth c 3 D YI ad cA n (MQ below (PBi D YI ad cA n r g1 s.heap.size) args s 0 0 (AA n ad s.heap.size)) g 2 [(0, .ref (sa.1 3)), (1, .ref (ad 73)), (2, .int x2)] []) := by
    intro fu
    induction fu with
    | zero => intro x2 g h; cases h
    | succ fu ih =>
      intro x2 g h
      rw [L_pass_L2] at h
      refine ww_iload_n C 2 dL_pass_2 rfl rfl 3 rfl ?_
      refine ww_bipush C (6 : Int32) dL_pass_3 (by decide) 5 rfl ?_
      refine ww_icmp_ge C 88 dL_pass_5 (by decide) h 8 rfl (fun h => ?_) (fun h => ?_)
      · refine ww_iconst C (0 : Int32) dL_pass_88 (by decide) 89 rfl ?_
        refine ww_istore_n C [(2, .int (0 : Int32)), (0, .ref (sa.1 3)), (1, .ref (ad 73))] dL_pass_89 rfl (by decide) rfl 90 rfl ?_
        exact ww_sub [1, 2, 0] rfl (L90h N _ _ h)
      · refine ww_aload_n C 1 dL_pass_8 rfl rfl 9 rfl ?_
        refine ww_bipush C (64 : Int32) dL_pass_9 (by decide) 11 rfl ?_
        refine ww_iload_n C 2 dL_pass_11 rfl rfl 12 rfl ?_
        refine ww_iadd C dL_pass_12 13 rfl ?_
        refine ww_lconst C (0 : Int64) dL_pass_13 (by decide) 14 rfl ?_
        refine ww_aload_n C 1 dL_pass_14 rfl rfl 15 rfl ?_
        refine ww_bipush C (64 : Int32) dL_pass_15 (by decide) 17 rfl ?_
        refine ww_iload_n C 2 dL_pass_17 rfl rfl 18 rfl ?_
        refine ww_iadd C dL_pass_18 19 rfl ?_
        refine ww_lald C (laH hn) dL_pass_19 h 20 rfl (fun h => ?_)
        refine ww_aload_n C 0 dL_pass_20 rfl rfl 21 rfl ?_
        refine ww_callSi C (As := [.ref (sa.1 3)]) (st := [.long (ldL g ((64 : Int32) + x2).toNatClampNeg), .long (0 : Int64), .int ((64 : Int32) + x2), .ref (ad 73)]) h (fun _ _ hF => k_L_plain (Nat.le_trans (by decide) hn) hF) w_582 cm_L_plain (by decide) (by decide) rfl rfl (Nat.le_of_ble_eq_true rfl) dL_pass_21 24 rfl (fun v32 u31 h => ?_)
        refine ww_if_eq C 33 dL_pass_24 (by decide) h 27 rfl (fun h => ?_) (fun h => ?_)
        · refine ww_aload_n C 0 dL_pass_33 rfl rfl 34 rfl ?_
          refine ww_iconst C (0 : Int32) dL_pass_34 (by decide) 35 rfl ?_
          refine ww_callSi C (As := [.ref (sa.1 3), .int (0 : Int32)]) (st := [.long (ldL g ((64 : Int32) + x2).toNatClampNeg), .long (0 : Int64), .int ((64 : Int32) + x2), .ref (ad 73)]) h (fun _ _ hF => k_L_at (Nat.le_trans (by decide) hn) hF) w_242 cm_L_at (by decide) (by decide) rfl rfl (Nat.le_of_ble_eq_true rfl) dL_pass_35 38 rfl (fun v34 u33 h => ?_)
          refine ww_bipush C (24 : Int32) dL_pass_38 (by decide) 40 rfl ?_
          refine ww_ishr C dL_pass_40 41 rfl ?_
          refine ww_iconst C (3 : Int32) dL_pass_41 (by decide) 42 rfl ?_
          refine ww_iand C dL_pass_42 43 rfl ?_
          refine ww_iload_n C 2 dL_pass_43 rfl rfl 44 rfl ?_
          refine ww_aload_n C 0 dL_pass_44 rfl rfl 45 rfl ?_
          refine ww_iconst C (0 : Int32) dL_pass_45 (by decide) 46 rfl ?_
          refine ww_callSi C (As := [.ref (sa.1 3), .int (0 : Int32)]) (st := [.int x2, .int ((v34 >>> ((24 : Int32) &&& 31)) &&& (3 : Int32)), .long (ldL g ((64 : Int32) + x2).toNatClampNeg), .long (0 : Int64), .int ((64 : Int32) + x2), .ref (ad 73)]) h (fun _ _ hF => k_L_at (Nat.le_trans (by decide) hn) hF) w_242 cm_L_at (by decide) (by decide) rfl rfl (Nat.le_of_ble_eq_true rfl) dL_pass_46 49 rfl (fun v36 u35 h => ?_)
          refine ww_bipush C (26 : Int32) dL_pass_49 (by decide) 51 rfl ?_
          refine ww_ishr C dL_pass_51 52 rfl ?_
          refine ww_iconst C (1 : Int32) dL_pass_52 (by decide) 53 rfl ?_
          refine ww_iand C dL_pass_53 54 rfl ?_
          refine ww_imul C dL_pass_54 55 rfl ?_
          refine ww_iadd C dL_pass_55 56 rfl ?_
          refine ww_i2l C dL_pass_56 57 rfl ?_
          refine ww_aload_n C 1 dL_pass_57 rfl rfl 58 rfl ?_
          refine ww_bipush C (64 : Int32) dL_pass_58 (by decide) 60 rfl ?_
          refine ww_iload_n C 2 dL_pass_60 rfl rfl 61 rfl ?_
          refine ww_iadd C dL_pass_61 62 rfl ?_
          refine ww_lald C (laH hn) dL_pass_62 h 63 rfl (fun h => ?_)
          refine ww_aload_n C 1 dL_pass_63 rfl rfl 64 rfl ?_
          refine ww_bipush C (70 : Int32) dL_pass_64 (by decide) 66 rfl ?_
          refine ww_lald C (laH hn) dL_pass_66 h 67 rfl (fun h => ?_)
          refine ww_lcmp C dL_pass_67 68 rfl ?_
          refine ww_if_ge C 75 dL_pass_68 (by decide) h 71 rfl (fun h => ?_) (fun h => ?_)
          · refine ww_lconst C (0 : Int64) dL_pass_75 (by decide) 76 rfl ?_
            refine ww_ladd C dL_pass_76 77 rfl ?_
            refine ww_lsub C dL_pass_77 78 rfl ?_
            refine ww_lmax C w_842 wm_lmax (by decide) (Nat.le_of_ble_eq_true rfl) dL_pass_78 81 rfl ?_
            refine ww_last C (laH hn) (fun a ha h9 => kdI_9 ha h9) dL_pass_81 h 82 rfl (fun u37 h => ?_)
            refine ww_iinc C 2 (1 : Int32) (by decide) (fun v38 => [(2, .int v38), (0, .ref (sa.1 3)), (1, .ref (ad 73))]) dL_pass_82 rfl (by decide) (fun _ => rfl) h 85 rfl (fun v38 h => ?_)
            refine ww_goto C 2 dL_pass_85 (by decide) ?_
            exact ww_sub [1, 2, 0] rfl (ih _ _ h)
          · refine ww_lconst C (1 : Int64) dL_pass_71 (by decide) 72 rfl ?_
            refine ww_goto C 76 dL_pass_72 (by decide) ?_
            refine ww_ladd C dL_pass_76 77 rfl ?_
            refine ww_lsub C dL_pass_77 78 rfl ?_
            refine ww_lmax C w_842 wm_lmax (by decide) (Nat.le_of_ble_eq_true rfl) dL_pass_78 81 rfl ?_
            refine ww_last C (laH hn) (fun a ha h9 => kdI_9 ha h9) dL_pass_81 h 82 rfl (fun u39 h => ?_)
            refine ww_iinc C 2 (1 : Int32) (by decide) (fun v40 => [(2, .int v40), (0, .ref (sa.1 3)), (1, .ref (ad 73))]) dL_pass_82 rfl (by decide) (fun _ => rfl) h 85 rfl (fun v40 h => ?_)
            refine ww_goto C 2 dL_pass_85 (by decide) ?_
            exact ww_sub [1, 2, 0] rfl (ih _ _ h)
        · refine ww_ldc2 C (3 : Int64) w_846 dL_pass_27 30 rfl ?_
          refine ww_goto C 77 dL_pass_30 (by decide) ?_
          refine ww_lsub C dL_pass_77 78 rfl ?_
          refine ww_lmax C w_842 wm_lmax (by decide) (Nat.le_of_ble_eq_true rfl) dL_pass_78 81 rfl ?_
          refine ww_last C (laH hn) (fun a ha h9 => kdI_9 ha h9) dL_pass_81 h 82 rfl (fun u41 h => ?_)
          refine ww_iinc C 2 (1 : Int32) (by decide) (fun v42 => [(2, .int v42), (0, .ref (sa.1 3)), (1, .ref (ad 73))]) dL_pass_82 rfl (by decide) (fun _ => rfl) h 85 rfl (fun v42 h => ?_)
          refine ww_goto C 2 dL_pass_85 (by decide) ?_
          exact ww_sub [1, 2, 0] rfl (ih _ _ h)
  rw [L_pass] at h
  refine ww_iconst C (0 : Int32) dL_pass_0 (by decide) 1 rfl ?_
  refine ww_istore_n C [(2, .int (0 : Int32)), (0, .ref (sa.1 3)), (1, .ref (ad 73))] dL_pass_1 rfl (by decide) rfl 2 rfl ?_
  exact ww_sub [1, 2, 0] rfl (L2h N _ _ h)

set_option maxRecDepth 100000 in
set_option maxHeartbeats 4000000 in
theorem k_L_same {l : Launch} {D : va_G} {ad : Nat → Nat} {cA : Nat → ClassId} {tys : List (ClassId × FieldType)} {n : Nat} {sa : SA} (hn : 74 ≤ n) {N : Nat} {g : Mem} {r : Int32} {g1 : Mem} (h : L_same N sa g = some (r, g1)) : CTi l yL_same (wsm yL_same cL_same 7 (some .boolean)) 8 D YI ad cA tys n sa g [.ref (sa.1 3), .ref (ad 73), .ref (ad 72)] r g1 := by
  refine ct_of RL rfl (by decide +kernel) (Nat.le_of_ble_eq_true rfl) rfl (fun sz => PBi D YI ad cA n r g1 sz) ?_
  intro p e R s m args below meth c C hr
  have L325h : ∀ (fu : Nat), (∀ (x3 : Int32) (x4 : Int32) (x5 : Int32) (g : Mem), L_same_L325 N sa fu x3 x4 x5 g = some (r, g1) → WW p l e R s m args below meth c 7 D YI ad cA n (MQ below (PBi D YI ad cA n r g1 s.heap.size) args s 0 0 (AA n ad s.heap.size)) g 325 [(0, .ref (sa.1 3)), (1, .ref (ad 73)), (2, .ref (ad 72)), (3, .int x3), (4, .int x4), (5, .int x5)] []) := by
    intro fu
    induction fu with
    | zero => intro x3 x4 x5 g h; cases h
    | succ fu ih =>
      intro x3 x4 x5 g h
      rw [L_same_L325] at h
      refine ww_iload C 5 dL_same_325 rfl 327 rfl ?_
      refine ww_bipush C (6 : Int32) dL_same_327 (by decide) 329 rfl ?_
      refine ww_icmp_ge C 358 dL_same_329 (by decide) h 332 rfl (fun h => ?_) (fun h => ?_)
      · refine ww_aload_n C 2 dL_same_358 rfl rfl 359 rfl ?_
        refine ww_bipush C (6 : Int32) dL_same_359 (by decide) 361 rfl ?_
        refine ww_callVi C (As := [.int (6 : Int32)]) (st := []) h cl_X5.1 (obX (Nat.le_trans (by decide) hn)) (fun _ _ hF => k_X5_bay (Nat.le_trans (by decide) hn) hF) w_179 cm_X5_bay (by decide) (by decide) rfl rfl (Nat.le_of_ble_eq_true rfl) dL_same_361 364 rfl (fun v70 u69 h => ?_)
        refine ww_aload_n C 1 dL_same_364 rfl rfl 365 rfl ?_
        refine ww_callSi C (As := [.ref (ad 73)]) (st := [.int v70]) h (fun _ _ hF => k_L_first hn hF) w_863 cm_L_first (by decide) (by decide) rfl rfl (Nat.le_of_ble_eq_true rfl) dL_same_365 368 rfl (fun v72 u71 h => ?_)
        refine ww_icmp_ne C 435 dL_same_368 (by decide) h 371 rfl (fun h => ?_) (fun h => ?_)
        · refine ww_iconst C (0 : Int32) dL_same_435 (by decide) 436 rfl ?_
          exact ww_zret C dL_same_436 hr rfl h
        · refine ww_aload_n C 2 dL_same_371 rfl rfl 372 rfl ?_
          refine ww_bipush C (7 : Int32) dL_same_372 (by decide) 374 rfl ?_
          refine ww_callVi C (As := [.int (7 : Int32)]) (st := []) h cl_X5.1 (obX (Nat.le_trans (by decide) hn)) (fun _ _ hF => k_X5_bay (Nat.le_trans (by decide) hn) hF) w_179 cm_X5_bay (by decide) (by decide) rfl rfl (Nat.le_of_ble_eq_true rfl) dL_same_374 377 rfl (fun v74 u73 h => ?_)
          refine ww_i2l C dL_same_377 378 rfl ?_
          refine ww_aload_n C 1 dL_same_378 rfl rfl 379 rfl ?_
          refine ww_callSl C (As := [.ref (ad 73)]) (st := [.long ((v74).toInt64)]) h (fun _ _ hF => k_L_fair hn hF) w_873 cm_L_fair (by decide) (by decide) rfl rfl (Nat.le_of_ble_eq_true rfl) dL_same_379 382 rfl (fun v76 u75 h => ?_)
          refine ww_lcmp C dL_same_382 383 rfl ?_
          refine ww_if_ne C 435 dL_same_383 (by decide) h 386 rfl (fun h => ?_) (fun h => ?_)
          · refine ww_iconst C (0 : Int32) dL_same_435 (by decide) 436 rfl ?_
            exact ww_zret C dL_same_436 hr rfl h
          · refine ww_aload_n C 2 dL_same_386 rfl rfl 387 rfl ?_
            refine ww_iconst C (0 : Int32) dL_same_387 (by decide) 388 rfl ?_
            refine ww_callVi C (As := [.int (0 : Int32)]) (st := []) h cl_X5.1 (obX (Nat.le_trans (by decide) hn)) (fun _ _ hF => k_X5_count (Nat.le_trans (by decide) hn) hF) w_876 cm_X5_count (by decide) (by decide) rfl rfl (Nat.le_of_ble_eq_true rfl) dL_same_388 391 rfl (fun v78 u77 h => ?_)
            refine ww_aload_n C 0 dL_same_391 rfl rfl 392 rfl ?_
            refine ww_callSi C (As := [.ref (sa.1 3)]) (st := [.int v78]) h (fun _ _ hF => k_L_many (Nat.le_trans (by decide) hn) hF) w_562 cm_L_many (by decide) (by decide) rfl rfl (Nat.le_of_ble_eq_true rfl) dL_same_392 395 rfl (fun v80 u79 h => ?_)
            refine ww_icmp_ne C 435 dL_same_395 (by decide) h 398 rfl (fun h => ?_) (fun h => ?_)
            · refine ww_iconst C (0 : Int32) dL_same_435 (by decide) 436 rfl ?_
              exact ww_zret C dL_same_436 hr rfl h
            · refine ww_aload_n C 2 dL_same_398 rfl rfl 399 rfl ?_
              refine ww_iconst C (1 : Int32) dL_same_399 (by decide) 400 rfl ?_
              refine ww_callVi C (As := [.int (1 : Int32)]) (st := []) h cl_X5.1 (obX (Nat.le_trans (by decide) hn)) (fun _ _ hF => k_X5_count (Nat.le_trans (by decide) hn) hF) w_876 cm_X5_count (by decide) (by decide) rfl rfl (Nat.le_of_ble_eq_true rfl) dL_same_400 403 rfl (fun v82 u81 h => ?_)
              refine ww_iload_n C 3 dL_same_403 rfl rfl 404 rfl ?_
              refine ww_icmp_ne C 435 dL_same_404 (by decide) h 407 rfl (fun h => ?_) (fun h => ?_)
              · refine ww_iconst C (0 : Int32) dL_same_435 (by decide) 436 rfl ?_
                exact ww_zret C dL_same_436 hr rfl h
              · refine ww_aload_n C 2 dL_same_407 rfl rfl 408 rfl ?_
                refine ww_iconst C (2 : Int32) dL_same_408 (by decide) 409 rfl ?_
                refine ww_callVi C (As := [.int (2 : Int32)]) (st := []) h cl_X5.1 (obX (Nat.le_trans (by decide) hn)) (fun _ _ hF => k_X5_count (Nat.le_trans (by decide) hn) hF) w_876 cm_X5_count (by decide) (by decide) rfl rfl (Nat.le_of_ble_eq_true rfl) dL_same_409 412 rfl (fun v84 u83 h => ?_)
                refine ww_iload C 4 dL_same_412 rfl 414 rfl ?_
                refine ww_icmp_ne C 435 dL_same_414 (by decide) h 417 rfl (fun h => ?_) (fun h => ?_)
                · refine ww_iconst C (0 : Int32) dL_same_435 (by decide) 436 rfl ?_
                  exact ww_zret C dL_same_436 hr rfl h
                · refine ww_aload_n C 2 dL_same_417 rfl rfl 418 rfl ?_
                  refine ww_iconst C (3 : Int32) dL_same_418 (by decide) 419 rfl ?_
                  refine ww_callVi C (As := [.int (3 : Int32)]) (st := []) h cl_X5.1 (obX (Nat.le_trans (by decide) hn)) (fun _ _ hF => k_X5_count (Nat.le_trans (by decide) hn) hF) w_876 cm_X5_count (by decide) (by decide) rfl rfl (Nat.le_of_ble_eq_true rfl) dL_same_419 422 rfl (fun v86 u85 h => ?_)
                  refine ww_i2l C dL_same_422 423 rfl ?_
                  refine ww_aload_n C 1 dL_same_423 rfl rfl 424 rfl ?_
                  refine ww_bipush C (70 : Int32) dL_same_424 (by decide) 426 rfl ?_
                  refine ww_lald C (laH hn) dL_same_426 h 427 rfl (fun h => ?_)
                  refine ww_lcmp C dL_same_427 428 rfl ?_
                  refine ww_if_ne C 435 dL_same_428 (by decide) h 431 rfl (fun h => ?_) (fun h => ?_)
                  · refine ww_iconst C (0 : Int32) dL_same_435 (by decide) 436 rfl ?_
                    exact ww_zret C dL_same_436 hr rfl h
                  · refine ww_iconst C (1 : Int32) dL_same_431 (by decide) 432 rfl ?_
                    refine ww_goto C 436 dL_same_432 (by decide) ?_
                    exact ww_zret C dL_same_436 hr rfl h
      · refine ww_aload_n C 2 dL_same_332 rfl rfl 333 rfl ?_
        refine ww_iload C 5 dL_same_333 rfl 335 rfl ?_
        refine ww_callVi C (As := [.int x5]) (st := []) h cl_X5.1 (obX (Nat.le_trans (by decide) hn)) (fun _ _ hF => k_X5_bay (Nat.le_trans (by decide) hn) hF) w_179 cm_X5_bay (by decide) (by decide) rfl rfl (Nat.le_of_ble_eq_true rfl) dL_same_335 338 rfl (fun v88 u87 h => ?_)
        refine ww_i2l C dL_same_338 339 rfl ?_
        refine ww_aload_n C 1 dL_same_339 rfl rfl 340 rfl ?_
        refine ww_bipush C (64 : Int32) dL_same_340 (by decide) 342 rfl ?_
        refine ww_iload C 5 dL_same_342 rfl 344 rfl ?_
        refine ww_iadd C dL_same_344 345 rfl ?_
        refine ww_lald C (laH hn) dL_same_345 h 346 rfl (fun h => ?_)
        refine ww_lcmp C dL_same_346 347 rfl ?_
        refine ww_if_eq C 352 dL_same_347 (by decide) h 350 rfl (fun h => ?_) (fun h => ?_)
        · refine ww_iinc C 5 (1 : Int32) (by decide) (fun v89 => [(5, .int v89), (0, .ref (sa.1 3)), (1, .ref (ad 73)), (2, .ref (ad 72)), (3, .int x3), (4, .int x4)]) dL_same_352 rfl (by decide) (fun _ => rfl) h 355 rfl (fun v89 h => ?_)
          refine ww_goto C 325 dL_same_355 (by decide) ?_
          exact ww_sub [1, 2, 3, 4, 5, 0] rfl (ih _ _ _ _ h)
        · refine ww_iconst C (0 : Int32) dL_same_350 (by decide) 351 rfl ?_
          exact ww_zret C dL_same_351 hr rfl h
  have G221h : ∀ (fu : Nat), (∀ (x3 : Int32) (x4 : Int32) (x5 : Int32) (x6 : Int32) (g : Mem), L_same_G221 N sa fu 0 x3 x4 x5 x6 g = some (r, g1) → WW p l e R s m args below meth c 7 D YI ad cA n (MQ below (PBi D YI ad cA n r g1 s.heap.size) args s 0 0 (AA n ad s.heap.size)) g 221 [(0, .ref (sa.1 3)), (1, .ref (ad 73)), (2, .ref (ad 72)), (3, .int x3), (4, .int x4), (5, .int x5)] []) ∧ (∀ (x3 : Int32) (x4 : Int32) (x5 : Int32) (x6 : Int32) (g : Mem), L_same_G221 N sa fu 1 x3 x4 x5 x6 g = some (r, g1) → WW p l e R s m args below meth c 7 D YI ad cA n (MQ below (PBi D YI ad cA n r g1 s.heap.size) args s 0 0 (AA n ad s.heap.size)) g 277 [(0, .ref (sa.1 3)), (1, .ref (ad 73)), (2, .ref (ad 72)), (3, .int x3), (4, .int x4), (5, .int x5), (6, .int x6)] []) := by
    intro fu
    induction fu with
    | zero => exact ⟨(by intro x3 x4 x5 x6 g h; cases h), (by intro x3 x4 x5 x6 g h; cases h)⟩
    | succ fu ih =>
      refine ⟨?_, ?_⟩
      · intro x3 x4 x5 x6 g h
        rw [L_same_G221] at h
        refine ww_iload C 5 dL_same_221 rfl 223 rfl ?_
        refine ww_bipush C (12 : Int32) dL_same_223 (by decide) 225 rfl ?_
        refine ww_icmp_ge C 322 dL_same_225 (by decide) h 228 rfl (fun h => ?_) (fun h => ?_)
        · refine ww_iconst C (0 : Int32) dL_same_322 (by decide) 323 rfl ?_
          refine ww_istore C [(5, .int (0 : Int32)), (0, .ref (sa.1 3)), (1, .ref (ad 73)), (2, .ref (ad 72)), (3, .int x3), (4, .int x4)] dL_same_323 (by decide) rfl 325 rfl ?_
          exact ww_sub [1, 2, 3, 4, 5, 0] rfl (L325h N _ _ _ _ h)
        · refine ww_iload_n C 3 dL_same_228 rfl rfl 229 rfl ?_
          refine ww_aload_n C 1 dL_same_229 rfl rfl 230 rfl ?_
          refine ww_bipush C (19 : Int32) dL_same_230 (by decide) 232 rfl ?_
          refine ww_iconst C (4 : Int32) dL_same_232 (by decide) 233 rfl ?_
          refine ww_iload C 5 dL_same_233 rfl 235 rfl ?_
          refine ww_imul C dL_same_235 236 rfl ?_
          refine ww_iadd C dL_same_236 237 rfl ?_
          refine ww_lald C (laH hn) dL_same_237 h 238 rfl (fun h => ?_)
          refine ww_lconst C (0 : Int64) dL_same_238 (by decide) 239 rfl ?_
          refine ww_lcmp C dL_same_239 240 rfl ?_
          refine ww_if_ne C 247 dL_same_240 (by decide) h 243 rfl (fun h => ?_) (fun h => ?_)
          · refine ww_iconst C (0 : Int32) dL_same_247 (by decide) 248 rfl ?_
            refine ww_iadd C dL_same_248 249 rfl ?_
            refine ww_bi h (fun v90 h => ?_)
            refine ww_istore_n C [(3, .int v90), (0, .ref (sa.1 3)), (1, .ref (ad 73)), (2, .ref (ad 72)), (4, .int x4), (5, .int x5)] dL_same_249 rfl (by decide) rfl 250 rfl ?_
            refine ww_iload C 4 dL_same_250 rfl 252 rfl ?_
            refine ww_aload_n C 2 dL_same_252 rfl rfl 253 rfl ?_
            refine ww_bipush C (19 : Int32) dL_same_253 (by decide) 255 rfl ?_
            refine ww_iconst C (4 : Int32) dL_same_255 (by decide) 256 rfl ?_
            refine ww_iload C 5 dL_same_256 rfl 258 rfl ?_
            refine ww_imul C dL_same_258 259 rfl ?_
            refine ww_iadd C dL_same_259 260 rfl ?_
            refine ww_lald C (laH hn) dL_same_260 h 261 rfl (fun h => ?_)
            refine ww_lconst C (1 : Int64) dL_same_261 (by decide) 262 rfl ?_
            refine ww_lcmp C dL_same_262 263 rfl ?_
            refine ww_if_ne C 270 dL_same_263 (by decide) h 266 rfl (fun h => ?_) (fun h => ?_)
            · refine ww_iconst C (0 : Int32) dL_same_270 (by decide) 271 rfl ?_
              refine ww_iadd C dL_same_271 272 rfl ?_
              refine ww_bi h (fun v91 h => ?_)
              refine ww_istore C [(4, .int v91), (3, .int v90), (0, .ref (sa.1 3)), (1, .ref (ad 73)), (2, .ref (ad 72)), (5, .int x5)] dL_same_272 (by decide) rfl 274 rfl ?_
              refine ww_iconst C (0 : Int32) dL_same_274 (by decide) 275 rfl ?_
              refine ww_istore C [(6, .int (0 : Int32)), (4, .int v91), (3, .int v90), (0, .ref (sa.1 3)), (1, .ref (ad 73)), (2, .ref (ad 72)), (5, .int x5)] dL_same_275 (by decide) rfl 277 rfl ?_
              exact ww_sub [3, 4, 5, 2, 1, 6, 0] rfl ((ih).2 _ _ _ _ _ h)
            · refine ww_iconst C (1 : Int32) dL_same_266 (by decide) 267 rfl ?_
              refine ww_goto C 271 dL_same_267 (by decide) ?_
              refine ww_iadd C dL_same_271 272 rfl ?_
              refine ww_bi h (fun v92 h => ?_)
              refine ww_istore C [(4, .int v92), (3, .int v90), (0, .ref (sa.1 3)), (1, .ref (ad 73)), (2, .ref (ad 72)), (5, .int x5)] dL_same_272 (by decide) rfl 274 rfl ?_
              refine ww_iconst C (0 : Int32) dL_same_274 (by decide) 275 rfl ?_
              refine ww_istore C [(6, .int (0 : Int32)), (4, .int v92), (3, .int v90), (0, .ref (sa.1 3)), (1, .ref (ad 73)), (2, .ref (ad 72)), (5, .int x5)] dL_same_275 (by decide) rfl 277 rfl ?_
              exact ww_sub [3, 4, 5, 2, 1, 6, 0] rfl ((ih).2 _ _ _ _ _ h)
          · refine ww_iconst C (1 : Int32) dL_same_243 (by decide) 244 rfl ?_
            refine ww_goto C 248 dL_same_244 (by decide) ?_
            refine ww_iadd C dL_same_248 249 rfl ?_
            refine ww_bi h (fun v93 h => ?_)
            refine ww_istore_n C [(3, .int v93), (0, .ref (sa.1 3)), (1, .ref (ad 73)), (2, .ref (ad 72)), (4, .int x4), (5, .int x5)] dL_same_249 rfl (by decide) rfl 250 rfl ?_
            refine ww_iload C 4 dL_same_250 rfl 252 rfl ?_
            refine ww_aload_n C 2 dL_same_252 rfl rfl 253 rfl ?_
            refine ww_bipush C (19 : Int32) dL_same_253 (by decide) 255 rfl ?_
            refine ww_iconst C (4 : Int32) dL_same_255 (by decide) 256 rfl ?_
            refine ww_iload C 5 dL_same_256 rfl 258 rfl ?_
            refine ww_imul C dL_same_258 259 rfl ?_
            refine ww_iadd C dL_same_259 260 rfl ?_
            refine ww_lald C (laH hn) dL_same_260 h 261 rfl (fun h => ?_)
            refine ww_lconst C (1 : Int64) dL_same_261 (by decide) 262 rfl ?_
            refine ww_lcmp C dL_same_262 263 rfl ?_
            refine ww_if_ne C 270 dL_same_263 (by decide) h 266 rfl (fun h => ?_) (fun h => ?_)
            · refine ww_iconst C (0 : Int32) dL_same_270 (by decide) 271 rfl ?_
              refine ww_iadd C dL_same_271 272 rfl ?_
              refine ww_bi h (fun v94 h => ?_)
              refine ww_istore C [(4, .int v94), (3, .int v93), (0, .ref (sa.1 3)), (1, .ref (ad 73)), (2, .ref (ad 72)), (5, .int x5)] dL_same_272 (by decide) rfl 274 rfl ?_
              refine ww_iconst C (0 : Int32) dL_same_274 (by decide) 275 rfl ?_
              refine ww_istore C [(6, .int (0 : Int32)), (4, .int v94), (3, .int v93), (0, .ref (sa.1 3)), (1, .ref (ad 73)), (2, .ref (ad 72)), (5, .int x5)] dL_same_275 (by decide) rfl 277 rfl ?_
              exact ww_sub [3, 4, 5, 2, 1, 6, 0] rfl ((ih).2 _ _ _ _ _ h)
            · refine ww_iconst C (1 : Int32) dL_same_266 (by decide) 267 rfl ?_
              refine ww_goto C 271 dL_same_267 (by decide) ?_
              refine ww_iadd C dL_same_271 272 rfl ?_
              refine ww_bi h (fun v95 h => ?_)
              refine ww_istore C [(4, .int v95), (3, .int v93), (0, .ref (sa.1 3)), (1, .ref (ad 73)), (2, .ref (ad 72)), (5, .int x5)] dL_same_272 (by decide) rfl 274 rfl ?_
              refine ww_iconst C (0 : Int32) dL_same_274 (by decide) 275 rfl ?_
              refine ww_istore C [(6, .int (0 : Int32)), (4, .int v95), (3, .int v93), (0, .ref (sa.1 3)), (1, .ref (ad 73)), (2, .ref (ad 72)), (5, .int x5)] dL_same_275 (by decide) rfl 277 rfl ?_
              exact ww_sub [3, 4, 5, 2, 1, 6, 0] rfl ((ih).2 _ _ _ _ _ h)
      · intro x3 x4 x5 x6 g h
        rw [L_same_G221] at h
        refine ww_iload C 6 dL_same_277 rfl 279 rfl ?_
        refine ww_iconst C (4 : Int32) dL_same_279 (by decide) 280 rfl ?_
        refine ww_icmp_ge C 316 dL_same_280 (by decide) h 283 rfl (fun h => ?_) (fun h => ?_)
        · refine ww_iinc C 5 (1 : Int32) (by decide) (fun v96 => [(5, .int v96), (0, .ref (sa.1 3)), (1, .ref (ad 73)), (2, .ref (ad 72)), (3, .int x3), (4, .int x4), (6, .int x6)]) dL_same_316 rfl (by decide) (fun _ => rfl) h 319 rfl (fun v96 h => ?_)
          refine ww_goto C 221 dL_same_319 (by decide) ?_
          exact ww_sub [1, 2, 3, 4, 5, 0] rfl ((ih).1 _ _ _ _ _ h)
        · refine ww_aload_n C 2 dL_same_283 rfl rfl 284 rfl ?_
          refine ww_iload C 5 dL_same_284 rfl 286 rfl ?_
          refine ww_iload C 6 dL_same_286 rfl 288 rfl ?_
          refine ww_callVi C (As := [.int x5, .int x6]) (st := []) h cl_X5.1 (obX (Nat.le_trans (by decide) hn)) (fun _ _ hF => k_X5_lies (Nat.le_trans (by decide) hn) hF) w_52 cm_X5_lies (by decide) (by decide) rfl rfl (Nat.le_of_ble_eq_true rfl) dL_same_288 291 rfl (fun v98 u97 h => ?_)
          refine ww_i2l C dL_same_291 292 rfl ?_
          refine ww_aload_n C 1 dL_same_292 rfl rfl 293 rfl ?_
          refine ww_bipush C (16 : Int32) dL_same_293 (by decide) 295 rfl ?_
          refine ww_iconst C (4 : Int32) dL_same_295 (by decide) 296 rfl ?_
          refine ww_iload C 5 dL_same_296 rfl 298 rfl ?_
          refine ww_imul C dL_same_298 299 rfl ?_
          refine ww_iadd C dL_same_299 300 rfl ?_
          refine ww_iload C 6 dL_same_300 rfl 302 rfl ?_
          refine ww_iadd C dL_same_302 303 rfl ?_
          refine ww_lald C (laH hn) dL_same_303 h 304 rfl (fun h => ?_)
          refine ww_lcmp C dL_same_304 305 rfl ?_
          refine ww_if_eq C 310 dL_same_305 (by decide) h 308 rfl (fun h => ?_) (fun h => ?_)
          · refine ww_iinc C 6 (1 : Int32) (by decide) (fun v99 => [(6, .int v99), (0, .ref (sa.1 3)), (1, .ref (ad 73)), (2, .ref (ad 72)), (3, .int x3), (4, .int x4), (5, .int x5)]) dL_same_310 rfl (by decide) (fun _ => rfl) h 313 rfl (fun v99 h => ?_)
            refine ww_goto C 277 dL_same_313 (by decide) ?_
            exact ww_sub [1, 2, 3, 4, 5, 6, 0] rfl ((ih).2 _ _ _ _ _ h)
          · refine ww_iconst C (0 : Int32) dL_same_308 (by decide) 309 rfl ?_
            exact ww_zret C dL_same_309 hr rfl h
  have L8h : ∀ (fu : Nat), (∀ (x3 : Int32) (x4 : Int32) (x5 : Int32) (g : Mem), L_same_L8 N sa fu x3 x4 x5 g = some (r, g1) → WW p l e R s m args below meth c 7 D YI ad cA n (MQ below (PBi D YI ad cA n r g1 s.heap.size) args s 0 0 (AA n ad s.heap.size)) g 8 [(0, .ref (sa.1 3)), (1, .ref (ad 73)), (2, .ref (ad 72)), (3, .int x3), (4, .int x4), (5, .int x5)] []) := by
    intro fu
    induction fu with
    | zero => intro x3 x4 x5 g h; cases h
    | succ fu ih =>
      intro x3 x4 x5 g h
      rw [L_same_L8] at h
      refine ww_iload C 5 dL_same_8 rfl 10 rfl ?_
      refine ww_aload_n C 0 dL_same_10 rfl rfl 11 rfl ?_
      refine ww_callSi C (As := [.ref (sa.1 3)]) (st := [.int x5]) h (fun _ _ hF => k_L_many (Nat.le_trans (by decide) hn) hF) w_562 cm_L_many (by decide) (by decide) rfl rfl (Nat.le_of_ble_eq_true rfl) dL_same_11 14 rfl (fun v101 u100 h => ?_)
      refine ww_icmp_ge C 218 dL_same_14 (by decide) h 17 rfl (fun h => ?_) (fun h => ?_)
      · refine ww_iconst C (0 : Int32) dL_same_218 (by decide) 219 rfl ?_
        refine ww_istore C [(5, .int (0 : Int32)), (0, .ref (sa.1 3)), (1, .ref (ad 73)), (2, .ref (ad 72)), (3, .int x3), (4, .int x4)] dL_same_219 (by decide) rfl 221 rfl ?_
        exact ww_sub [1, 2, 3, 4, 5, 0] rfl ((G221h N).1 _ _ _ _ _ h)
      · refine ww_aload_n C 2 dL_same_17 rfl rfl 18 rfl ?_
        refine ww_iload C 5 dL_same_18 rfl 20 rfl ?_
        refine ww_iconst C (0 : Int32) dL_same_20 (by decide) 21 rfl ?_
        refine ww_callVi C (As := [.int x5, .int (0 : Int32)]) (st := []) h cl_X5.1 (obX (Nat.le_trans (by decide) hn)) (fun _ _ hF => k_X5_told (Nat.le_trans (by decide) hn) hF) w_76 cm_X5_told (by decide) (by decide) rfl rfl (Nat.le_of_ble_eq_true rfl) dL_same_21 24 rfl (fun v103 u102 h => ?_)
        refine ww_i2l C dL_same_24 25 rfl ?_
        refine ww_aload_n C 1 dL_same_25 rfl rfl 26 rfl ?_
        refine ww_iconst C (2 : Int32) dL_same_26 (by decide) 27 rfl ?_
        refine ww_iload C 5 dL_same_27 rfl 29 rfl ?_
        refine ww_imul C dL_same_29 30 rfl ?_
        refine ww_lald C (laH hn) dL_same_30 h 31 rfl (fun h => ?_)
        refine ww_lcmp C dL_same_31 32 rfl ?_
        refine ww_if_ne C 122 dL_same_32 (by decide) h 35 rfl (fun h => ?_) (fun h => ?_)
        · refine ww_iconst C (0 : Int32) dL_same_122 (by decide) 123 rfl ?_
          exact ww_zret C dL_same_123 hr rfl h
        · refine ww_aload_n C 2 dL_same_35 rfl rfl 36 rfl ?_
          refine ww_iload C 5 dL_same_36 rfl 38 rfl ?_
          refine ww_iconst C (1 : Int32) dL_same_38 (by decide) 39 rfl ?_
          refine ww_callVi C (As := [.int x5, .int (1 : Int32)]) (st := []) h cl_X5.1 (obX (Nat.le_trans (by decide) hn)) (fun _ _ hF => k_X5_told (Nat.le_trans (by decide) hn) hF) w_76 cm_X5_told (by decide) (by decide) rfl rfl (Nat.le_of_ble_eq_true rfl) dL_same_39 42 rfl (fun v105 u104 h => ?_)
          refine ww_i2l C dL_same_42 43 rfl ?_
          refine ww_aload_n C 1 dL_same_43 rfl rfl 44 rfl ?_
          refine ww_iconst C (2 : Int32) dL_same_44 (by decide) 45 rfl ?_
          refine ww_iload C 5 dL_same_45 rfl 47 rfl ?_
          refine ww_imul C dL_same_47 48 rfl ?_
          refine ww_iconst C (1 : Int32) dL_same_48 (by decide) 49 rfl ?_
          refine ww_iadd C dL_same_49 50 rfl ?_
          refine ww_lald C (laH hn) dL_same_50 h 51 rfl (fun h => ?_)
          refine ww_lcmp C dL_same_51 52 rfl ?_
          refine ww_if_ne C 122 dL_same_52 (by decide) h 55 rfl (fun h => ?_) (fun h => ?_)
          · refine ww_iconst C (0 : Int32) dL_same_122 (by decide) 123 rfl ?_
            exact ww_zret C dL_same_123 hr rfl h
          · refine ww_aload_n C 2 dL_same_55 rfl rfl 56 rfl ?_
            refine ww_iload C 5 dL_same_56 rfl 58 rfl ?_
            refine ww_iconst C (2 : Int32) dL_same_58 (by decide) 59 rfl ?_
            refine ww_callVi C (As := [.int x5, .int (2 : Int32)]) (st := []) h cl_X5.1 (obX (Nat.le_trans (by decide) hn)) (fun _ _ hF => k_X5_told (Nat.le_trans (by decide) hn) hF) w_76 cm_X5_told (by decide) (by decide) rfl rfl (Nat.le_of_ble_eq_true rfl) dL_same_59 62 rfl (fun v107 u106 h => ?_)
            refine ww_aload_n C 0 dL_same_62 rfl rfl 63 rfl ?_
            refine ww_iload C 5 dL_same_63 rfl 65 rfl ?_
            refine ww_callSi C (As := [.ref (sa.1 3), .int x5]) (st := [.int v107]) h (fun _ _ hF => k_L_kind (Nat.le_trans (by decide) hn) hF) w_565 cm_L_kind (by decide) (by decide) rfl rfl (Nat.le_of_ble_eq_true rfl) dL_same_65 68 rfl (fun v109 u108 h => ?_)
            refine ww_icmp_ne C 122 dL_same_68 (by decide) h 71 rfl (fun h => ?_) (fun h => ?_)
            · refine ww_iconst C (0 : Int32) dL_same_122 (by decide) 123 rfl ?_
              exact ww_zret C dL_same_123 hr rfl h
            · refine ww_aload_n C 2 dL_same_71 rfl rfl 72 rfl ?_
              refine ww_iload C 5 dL_same_72 rfl 74 rfl ?_
              refine ww_iconst C (3 : Int32) dL_same_74 (by decide) 75 rfl ?_
              refine ww_callVi C (As := [.int x5, .int (3 : Int32)]) (st := []) h cl_X5.1 (obX (Nat.le_trans (by decide) hn)) (fun _ _ hF => k_X5_told (Nat.le_trans (by decide) hn) hF) w_76 cm_X5_told (by decide) (by decide) rfl rfl (Nat.le_of_ble_eq_true rfl) dL_same_75 78 rfl (fun v111 u110 h => ?_)
              refine ww_aload_n C 0 dL_same_78 rfl rfl 79 rfl ?_
              refine ww_iload C 5 dL_same_79 rfl 81 rfl ?_
              refine ww_callSi C (As := [.ref (sa.1 3), .int x5]) (st := [.int v111]) h (fun _ _ hF => k_L_more (Nat.le_trans (by decide) hn) hF) w_568 cm_L_more (by decide) (by decide) rfl rfl (Nat.le_of_ble_eq_true rfl) dL_same_81 84 rfl (fun v113 u112 h => ?_)
              refine ww_icmp_ne C 122 dL_same_84 (by decide) h 87 rfl (fun h => ?_) (fun h => ?_)
              · refine ww_iconst C (0 : Int32) dL_same_122 (by decide) 123 rfl ?_
                exact ww_zret C dL_same_123 hr rfl h
              · refine ww_aload_n C 2 dL_same_87 rfl rfl 88 rfl ?_
                refine ww_iload C 5 dL_same_88 rfl 90 rfl ?_
                refine ww_iconst C (4 : Int32) dL_same_90 (by decide) 91 rfl ?_
                refine ww_callVi C (As := [.int x5, .int (4 : Int32)]) (st := []) h cl_X5.1 (obX (Nat.le_trans (by decide) hn)) (fun _ _ hF => k_X5_told (Nat.le_trans (by decide) hn) hF) w_76 cm_X5_told (by decide) (by decide) rfl rfl (Nat.le_of_ble_eq_true rfl) dL_same_91 94 rfl (fun v115 u114 h => ?_)
                refine ww_aload_n C 0 dL_same_94 rfl rfl 95 rfl ?_
                refine ww_aload_n C 1 dL_same_95 rfl rfl 96 rfl ?_
                refine ww_iload C 5 dL_same_96 rfl 98 rfl ?_
                refine ww_callSi C (As := [.ref (sa.1 3), .ref (ad 73), .int x5]) (st := [.int v115]) h (fun _ _ hF => k_L_cans hn hF) w_869 cm_L_cans (by decide) (by decide) rfl rfl (Nat.le_of_ble_eq_true rfl) dL_same_98 101 rfl (fun v117 u116 h => ?_)
                refine ww_icmp_ne C 122 dL_same_101 (by decide) h 104 rfl (fun h => ?_) (fun h => ?_)
                · refine ww_iconst C (0 : Int32) dL_same_122 (by decide) 123 rfl ?_
                  exact ww_zret C dL_same_123 hr rfl h
                · refine ww_aload_n C 2 dL_same_104 rfl rfl 105 rfl ?_
                  refine ww_iload C 5 dL_same_105 rfl 107 rfl ?_
                  refine ww_iconst C (5 : Int32) dL_same_107 (by decide) 108 rfl ?_
                  refine ww_callVi C (As := [.int x5, .int (5 : Int32)]) (st := []) h cl_X5.1 (obX (Nat.le_trans (by decide) hn)) (fun _ _ hF => k_X5_told (Nat.le_trans (by decide) hn) hF) w_76 cm_X5_told (by decide) (by decide) rfl rfl (Nat.le_of_ble_eq_true rfl) dL_same_108 111 rfl (fun v119 u118 h => ?_)
                  refine ww_i2l C dL_same_111 112 rfl ?_
                  refine ww_aload_n C 1 dL_same_112 rfl rfl 113 rfl ?_
                  refine ww_iload C 5 dL_same_113 rfl 115 rfl ?_
                  refine ww_callSl C (As := [.ref (ad 73), .int x5]) (st := [.long ((v119).toInt64)]) h (fun _ _ hF => k_L_breathes hn hF) w_860 cm_L_breathes (by decide) (by decide) rfl rfl (Nat.le_of_ble_eq_true rfl) dL_same_115 118 rfl (fun v121 u120 h => ?_)
                  refine ww_lcmp C dL_same_118 119 rfl ?_
                  refine ww_if_eq C 124 dL_same_119 (by decide) h 122 rfl (fun h => ?_) (fun h => ?_)
                  · refine ww_aload_n C 1 dL_same_124 rfl rfl 125 rfl ?_
                    refine ww_bipush C (70 : Int32) dL_same_125 (by decide) 127 rfl ?_
                    refine ww_lald C (laH hn) dL_same_127 h 128 rfl (fun h => ?_)
                    refine ww_ldc2 C (12 : Int64) w_872 dL_same_128 131 rfl ?_
                    refine ww_lrem C dL_same_131 h 132 rfl (fun h => ?_)
                    refine ww_l2i C dL_same_132 133 rfl ?_
                    refine ww_bi h (fun v122 h => ?_)
                    refine ww_istore C [(6, .int v122), (0, .ref (sa.1 3)), (1, .ref (ad 73)), (2, .ref (ad 72)), (3, .int x3), (4, .int x4), (5, .int x5)] dL_same_133 (by decide) rfl 135 rfl ?_
                    refine ww_aload_n C 3 dL_same_135 rfl rfl 136 rfl ?_
                    refine ww_iload C 6 dL_same_136 rfl 138 rfl ?_
                    refine ww_iload C 0 dL_same_138 rfl 140 rfl ?_
                    refine ww_iconst C (0 : Int32) dL_same_140 (by decide) 141 rfl ?_
                    refine ww_callVi C (As := [.int x5, .int v122, .int (0 : Int32)]) (st := []) h cl_X5.1 (obX (Nat.le_trans (by decide) hn)) (fun _ _ hF => k_X5_dives (Nat.le_trans (by decide) hn) hF) w_129 cm_X5_dives (by decide) (by decide) rfl rfl (Nat.le_of_ble_eq_true rfl) dL_same_141 144 rfl (fun v124 u123 h => ?_)
                    refine ww_i2l C dL_same_144 145 rfl ?_
                    refine ww_aload_n C 1 dL_same_145 rfl rfl 146 rfl ?_
                    refine ww_aload_n C 2 dL_same_146 rfl rfl 147 rfl ?_
                    refine ww_iload C 6 dL_same_147 rfl 149 rfl ?_
                    refine ww_iload C 0 dL_same_149 rfl 151 rfl ?_
                    refine ww_callSl C (As := [.ref (sa.1 3), .ref (ad 73), .int x5, .int v122]) (st := [.long ((v124).toInt64)]) h (fun _ _ hF => k_L_reaches hn hF) w_833 cm_L_reaches (by decide) (by decide) rfl rfl (Nat.le_of_ble_eq_true rfl) dL_same_151 154 rfl (fun v126 u125 h => ?_)
                    refine ww_lcmp C dL_same_154 155 rfl ?_
                    refine ww_if_ne C 210 dL_same_155 (by decide) h 158 rfl (fun h => ?_) (fun h => ?_)
                    · refine ww_iconst C (0 : Int32) dL_same_210 (by decide) 211 rfl ?_
                      exact ww_zret C dL_same_211 hr rfl h
                    · refine ww_aload_n C 3 dL_same_158 rfl rfl 159 rfl ?_
                      refine ww_iload C 6 dL_same_159 rfl 161 rfl ?_
                      refine ww_iload C 0 dL_same_161 rfl 163 rfl ?_
                      refine ww_iconst C (1 : Int32) dL_same_163 (by decide) 164 rfl ?_
                      refine ww_callVi C (As := [.int x5, .int v122, .int (1 : Int32)]) (st := []) h cl_X5.1 (obX (Nat.le_trans (by decide) hn)) (fun _ _ hF => k_X5_dives (Nat.le_trans (by decide) hn) hF) w_129 cm_X5_dives (by decide) (by decide) rfl rfl (Nat.le_of_ble_eq_true rfl) dL_same_164 167 rfl (fun v128 u127 h => ?_)
                      refine ww_i2l C dL_same_167 168 rfl ?_
                      refine ww_aload_n C 1 dL_same_168 rfl rfl 169 rfl ?_
                      refine ww_aload_n C 2 dL_same_169 rfl rfl 170 rfl ?_
                      refine ww_iload C 6 dL_same_170 rfl 172 rfl ?_
                      refine ww_iload C 0 dL_same_172 rfl 174 rfl ?_
                      refine ww_callSl C (As := [.ref (sa.1 3), .ref (ad 73), .int x5, .int v122]) (st := [.long ((v128).toInt64)]) h (fun _ _ hF => k_L_costs hn hF) w_851 cm_L_costs (by decide) (by decide) rfl rfl (Nat.le_of_ble_eq_true rfl) dL_same_174 177 rfl (fun v130 u129 h => ?_)
                      refine ww_lcmp C dL_same_177 178 rfl ?_
                      refine ww_if_ne C 210 dL_same_178 (by decide) h 181 rfl (fun h => ?_) (fun h => ?_)
                      · refine ww_iconst C (0 : Int32) dL_same_210 (by decide) 211 rfl ?_
                        exact ww_zret C dL_same_211 hr rfl h
                      · refine ww_aload_n C 3 dL_same_181 rfl rfl 182 rfl ?_
                        refine ww_iload C 6 dL_same_182 rfl 184 rfl ?_
                        refine ww_iload C 0 dL_same_184 rfl 186 rfl ?_
                        refine ww_iconst C (2 : Int32) dL_same_186 (by decide) 187 rfl ?_
                        refine ww_callVi C (As := [.int x5, .int v122, .int (2 : Int32)]) (st := []) h cl_X5.1 (obX (Nat.le_trans (by decide) hn)) (fun _ _ hF => k_X5_dives (Nat.le_trans (by decide) hn) hF) w_129 cm_X5_dives (by decide) (by decide) rfl rfl (Nat.le_of_ble_eq_true rfl) dL_same_187 190 rfl (fun v132 u131 h => ?_)
                        refine ww_aload_n C 1 dL_same_190 rfl rfl 191 rfl ?_
                        refine ww_aload_n C 2 dL_same_191 rfl rfl 192 rfl ?_
                        refine ww_iload C 6 dL_same_192 rfl 194 rfl ?_
                        refine ww_iload C 0 dL_same_194 rfl 196 rfl ?_
                        refine ww_callSi C (As := [.ref (sa.1 3), .ref (ad 73), .int x5, .int v122]) (st := [.int v132]) h (fun _ _ hF => k_L_can hn hF) w_830 cm_L_can (by decide) (by decide) rfl rfl (Nat.le_of_ble_eq_true rfl) dL_same_196 199 rfl (fun v134 u133 h => ?_)
                        refine ww_if_eq C 206 dL_same_199 (by decide) h 202 rfl (fun h => ?_) (fun h => ?_)
                        · refine ww_iconst C (0 : Int32) dL_same_206 (by decide) 207 rfl ?_
                          refine ww_icmp_eq C 212 dL_same_207 (by decide) h 210 rfl (fun h => ?_) (fun h => ?_)
                          · refine ww_iinc C 6 (1 : Int32) (by decide) (fun v135 => [(5, .int v135), (6, .int v122), (0, .ref (sa.1 3)), (1, .ref (ad 73)), (2, .ref (ad 72)), (3, .int x3), (4, .int x4)]) dL_same_212 rfl (by decide) (fun _ => rfl) h 215 rfl (fun v135 h => ?_)
                            refine ww_goto C 8 dL_same_215 (by decide) ?_
                            exact ww_sub [2, 3, 4, 5, 6, 0] rfl (ih _ _ _ _ h)
                          · refine ww_iconst C (0 : Int32) dL_same_210 (by decide) 211 rfl ?_
                            exact ww_zret C dL_same_211 hr rfl h
                        · refine ww_iconst C (1 : Int32) dL_same_202 (by decide) 203 rfl ?_
                          refine ww_goto C 207 dL_same_203 (by decide) ?_
                          refine ww_icmp_eq C 212 dL_same_207 (by decide) h 210 rfl (fun h => ?_) (fun h => ?_)
                          · refine ww_iinc C 6 (1 : Int32) (by decide) (fun v136 => [(5, .int v136), (6, .int v122), (0, .ref (sa.1 3)), (1, .ref (ad 73)), (2, .ref (ad 72)), (3, .int x3), (4, .int x4)]) dL_same_212 rfl (by decide) (fun _ => rfl) h 215 rfl (fun v136 h => ?_)
                            refine ww_goto C 8 dL_same_215 (by decide) ?_
                            exact ww_sub [2, 3, 4, 5, 6, 0] rfl (ih _ _ _ _ h)
                          · refine ww_iconst C (0 : Int32) dL_same_210 (by decide) 211 rfl ?_
                            exact ww_zret C dL_same_211 hr rfl h
                  · refine ww_iconst C (0 : Int32) dL_same_122 (by decide) 123 rfl ?_
                    exact ww_zret C dL_same_123 hr rfl h
  rw [L_same] at h
  refine ww_iconst C (0 : Int32) dL_same_0 (by decide) 1 rfl ?_
  refine ww_istore_n C [(3, .int (0 : Int32)), (0, .ref (sa.1 3)), (1, .ref (ad 73)), (2, .ref (ad 72))] dL_same_1 rfl (by decide) rfl 2 rfl ?_
  refine ww_iconst C (0 : Int32) dL_same_2 (by decide) 3 rfl ?_
  refine ww_istore C [(4, .int (0 : Int32)), (3, .int (0 : Int32)), (0, .ref (sa.1 3)), (1, .ref (ad 73)), (2, .ref (ad 72))] dL_same_3 (by decide) rfl 5 rfl ?_
  refine ww_iconst C (0 : Int32) dL_same_5 (by decide) 6 rfl ?_
  refine ww_istore C [(5, .int (0 : Int32)), (4, .int (0 : Int32)), (3, .int (0 : Int32)), (0, .ref (sa.1 3)), (1, .ref (ad 73)), (2, .ref (ad 72))] dL_same_6 (by decide) rfl 8 rfl ?_
  exact ww_sub [3, 4, 5, 2, 1, 0] rfl (L8h N _ _ _ _ h)

set_option maxRecDepth 100000 in
set_option maxHeartbeats 8000000 in
theorem k_L_buildA {p : Program} {l : Launch} {e : Env} {R : Room} {s : State} {m : MethodId} {args : Array Value} {below : List Frame} {meth : Method} {c : Code} {D : va_G} {ad : Nat → Nat} {cA : Nat → ClassId} {tys : List (ClassId × FieldType)} {n : Nat} {sa : SA} {Q : State → Prop} (hn : 73 ≤ n) {N : Nat} (C : CX p R s m args meth c cL_build 4 RL 140 D YI ad cA tys n sa) {g : Mem} {r : Int32} {g1 : Mem} (hx131 : ∀ (g2 : Mem), some ((0 : Int32), g2) = some (r, g1) → WW p l e R s m args below meth c 4 D YI ad cA n Q g2 131 [(0, .ref (sa.1 3)), (1, .ref (ad 72))] []) (hx289 : ∀ (g2 : Mem), some ((1 : Int32), g2) = some (r, g1) → WW p l e R s m args below meth c 4 D YI ad cA n Q g2 289 [(0, .ref (sa.1 3)), (1, .ref (ad 72))] []) (h : L_buildA N sa g = some (r, g1)) : WW p l e R s m args below meth c 4 D YI ad cA n Q g 8 [(0, .ref (sa.1 3)), (1, .ref (ad 72))] [] := by
  have L86h : ∀ (fu : Nat), (∀ (x2 : Int32) (g : Mem), L_buildA_L86 N sa fu x2 g = some (r, g1) → WW p l e R s m args below meth c 4 D YI ad cA n Q g 86 [(0, .ref (sa.1 3)), (1, .ref (ad 72)), (2, .int x2)] []) := by
    intro fu
    induction fu with
    | zero => intro x2 g h; cases h
    | succ fu ih =>
      intro x2 g h
      rw [L_buildA_L86] at h
      refine ww_iload_n C 2 dL_build_86 rfl rfl 87 rfl ?_
      refine ww_aload_n C 0 dL_build_87 rfl rfl 88 rfl ?_
      refine ww_callSi C (As := [.ref (sa.1 3)]) (st := [.int x2]) h (fun _ _ hF => k_L_many hn hF) w_562 cm_L_many (by decide) (by decide) rfl rfl (Nat.le_of_ble_eq_true rfl) dL_build_88 91 rfl (fun v30 u29 h => ?_)
      refine ww_icmp_ge C 124 dL_build_91 (by decide) h 94 rfl (fun h => ?_) (fun h => ?_)
      · refine ww_aload_n C 0 dL_build_124 rfl rfl 125 rfl ?_
        refine ww_callSi C (As := [.ref (sa.1 3)]) (st := []) h (fun _ _ hF => k_L_plain hn hF) w_582 cm_L_plain (by decide) (by decide) rfl rfl (Nat.le_of_ble_eq_true rfl) dL_build_125 128 rfl (fun v32 u31 h => ?_)
        refine ww_if_ne C 289 dL_build_128 (by decide) h 131 rfl (fun h => ?_) (fun h => ?_)
        · exact ww_sub [0, 1] rfl (hx289 _ h)
        · exact ww_sub [0, 1] rfl (hx131 _ h)
      · refine ww_aload_n C 1 dL_build_94 rfl rfl 95 rfl ?_
        refine ww_bipush C (10 : Int32) dL_build_95 (by decide) 97 rfl ?_
        refine ww_aload_n C 0 dL_build_97 rfl rfl 98 rfl ?_
        refine ww_iload_n C 2 dL_build_98 rfl rfl 99 rfl ?_
        refine ww_callSi C (As := [.ref (sa.1 3), .int x2]) (st := [.int (10 : Int32), .ref (ad 72)]) h (fun _ _ hF => k_L_kind hn hF) w_565 cm_L_kind (by decide) (by decide) rfl rfl (Nat.le_of_ble_eq_true rfl) dL_build_99 102 rfl (fun v34 u33 h => ?_)
        refine ww_imul C dL_build_102 103 rfl ?_
        refine ww_aload_n C 0 dL_build_103 rfl rfl 104 rfl ?_
        refine ww_iload_n C 2 dL_build_104 rfl rfl 105 rfl ?_
        refine ww_callSi C (As := [.ref (sa.1 3), .int x2]) (st := [.int ((10 : Int32) * v34), .ref (ad 72)]) h (fun _ _ hF => k_L_more hn hF) w_568 cm_L_more (by decide) (by decide) rfl rfl (Nat.le_of_ble_eq_true rfl) dL_build_105 108 rfl (fun v36 u35 h => ?_)
        refine ww_iadd C dL_build_108 109 rfl ?_
        refine ww_aload_n C 0 dL_build_109 rfl rfl 110 rfl ?_
        refine ww_iload_n C 2 dL_build_110 rfl rfl 111 rfl ?_
        refine ww_callSi C (As := [.ref (sa.1 3), .int x2]) (st := [.int (((10 : Int32) * v34) + v36), .ref (ad 72)]) h (fun _ _ hF => k_L_breath hn hF) w_571 cm_L_breath (by decide) (by decide) rfl rfl (Nat.le_of_ble_eq_true rfl) dL_build_111 114 rfl (fun v38 u37 h => ?_)
        refine ww_callVi C (As := [.int (((10 : Int32) * v34) + v36), .int v38]) (st := []) h cl_X5.1 (obX hn) (fun _ _ hF => k_X5_diver hn hF) w_574 cm_X5_diver (by decide) (by decide) rfl rfl (Nat.le_of_ble_eq_true rfl) dL_build_114 117 rfl (fun v40 u39 h => ?_)
        refine ww_pop C dL_build_117 rfl 118 rfl ?_
        refine ww_iinc C 2 (1 : Int32) (by decide) (fun v41 => [(2, .int v41), (0, .ref (sa.1 3)), (1, .ref (ad 72))]) dL_build_118 rfl (by decide) (fun _ => rfl) h 121 rfl (fun v41 h => ?_)
        refine ww_goto C 86 dL_build_121 (by decide) ?_
        exact ww_sub [1, 2, 0] rfl (ih _ _ h)
  have G46h : ∀ (fu : Nat), (∀ (x2 : Int32) (x3 : Int32) (g : Mem), L_buildA_G46 N sa fu 0 x2 x3 g = some (r, g1) → WW p l e R s m args below meth c 4 D YI ad cA n Q g 46 [(0, .ref (sa.1 3)), (1, .ref (ad 72)), (2, .int x2)] []) ∧ (∀ (x2 : Int32) (x3 : Int32) (g : Mem), L_buildA_G46 N sa fu 1 x2 x3 g = some (r, g1) → WW p l e R s m args below meth c 4 D YI ad cA n Q g 54 [(0, .ref (sa.1 3)), (1, .ref (ad 72)), (2, .int x2), (3, .int x3)] []) := by
    intro fu
    induction fu with
    | zero => exact ⟨(by intro x2 x3 g h; cases h), (by intro x2 x3 g h; cases h)⟩
    | succ fu ih =>
      refine ⟨?_, ?_⟩
      · intro x2 x3 g h
        rw [L_buildA_G46] at h
        refine ww_iload_n C 2 dL_build_46 rfl rfl 47 rfl ?_
        refine ww_bipush C (12 : Int32) dL_build_47 (by decide) 49 rfl ?_
        refine ww_icmp_ge C 84 dL_build_49 (by decide) h 52 rfl (fun h => ?_) (fun h => ?_)
        · refine ww_iconst C (0 : Int32) dL_build_84 (by decide) 85 rfl ?_
          refine ww_istore_n C [(2, .int (0 : Int32)), (0, .ref (sa.1 3)), (1, .ref (ad 72))] dL_build_85 rfl (by decide) rfl 86 rfl ?_
          exact ww_sub [1, 2, 0] rfl (L86h N _ _ h)
        · refine ww_iconst C (0 : Int32) dL_build_52 (by decide) 53 rfl ?_
          refine ww_istore_n C [(3, .int (0 : Int32)), (0, .ref (sa.1 3)), (1, .ref (ad 72)), (2, .int x2)] dL_build_53 rfl (by decide) rfl 54 rfl ?_
          exact ww_sub [1, 2, 3, 0] rfl ((ih).2 _ _ _ h)
      · intro x2 x3 g h
        rw [L_buildA_G46] at h
        refine ww_iload_n C 3 dL_build_54 rfl rfl 55 rfl ?_
        refine ww_iconst C (4 : Int32) dL_build_55 (by decide) 56 rfl ?_
        refine ww_icmp_ge C 78 dL_build_56 (by decide) h 59 rfl (fun h => ?_) (fun h => ?_)
        · refine ww_iinc C 2 (1 : Int32) (by decide) (fun v42 => [(2, .int v42), (0, .ref (sa.1 3)), (1, .ref (ad 72)), (3, .int x3)]) dL_build_78 rfl (by decide) (fun _ => rfl) h 81 rfl (fun v42 h => ?_)
          refine ww_goto C 46 dL_build_81 (by decide) ?_
          exact ww_sub [1, 2, 0] rfl ((ih).1 _ _ _ h)
        · refine ww_aload_n C 1 dL_build_59 rfl rfl 60 rfl ?_
          refine ww_iload_n C 2 dL_build_60 rfl rfl 61 rfl ?_
          refine ww_iload_n C 3 dL_build_61 rfl rfl 62 rfl ?_
          refine ww_aload_n C 0 dL_build_62 rfl rfl 63 rfl ?_
          refine ww_iload_n C 2 dL_build_63 rfl rfl 64 rfl ?_
          refine ww_iload_n C 3 dL_build_64 rfl rfl 65 rfl ?_
          refine ww_callSi C (As := [.ref (sa.1 3), .int x2, .int x3]) (st := [.int x3, .int x2, .ref (ad 72)]) h (fun _ _ hF => k_L_cask hn hF) w_559 cm_L_cask (by decide) (by decide) rfl rfl (Nat.le_of_ble_eq_true rfl) dL_build_65 68 rfl (fun v44 u43 h => ?_)
          refine ww_callVi C (As := [.int x2, .int x3, .int v44]) (st := []) h cl_X5.1 (obX hn) (fun _ _ hF => k_X5_cask hn hF) w_36 cm_X5_cask (by decide) (by decide) rfl rfl (Nat.le_of_ble_eq_true rfl) dL_build_68 71 rfl (fun v46 u45 h => ?_)
          refine ww_pop C dL_build_71 rfl 72 rfl ?_
          refine ww_iinc C 3 (1 : Int32) (by decide) (fun v47 => [(3, .int v47), (0, .ref (sa.1 3)), (1, .ref (ad 72)), (2, .int x2)]) dL_build_72 rfl (by decide) (fun _ => rfl) h 75 rfl (fun v47 h => ?_)
          refine ww_goto C 54 dL_build_75 (by decide) ?_
          exact ww_sub [1, 2, 3, 0] rfl ((ih).2 _ _ _ h)
  have L21h : ∀ (fu : Nat), (∀ (x2 : Int32) (g : Mem), L_buildA_L21 N sa fu x2 g = some (r, g1) → WW p l e R s m args below meth c 4 D YI ad cA n Q g 21 [(0, .ref (sa.1 3)), (1, .ref (ad 72)), (2, .int x2)] []) := by
    intro fu
    induction fu with
    | zero => intro x2 g h; cases h
    | succ fu ih =>
      intro x2 g h
      rw [L_buildA_L21] at h
      refine ww_iload_n C 2 dL_build_21 rfl rfl 22 rfl ?_
      refine ww_bipush C (6 : Int32) dL_build_22 (by decide) 24 rfl ?_
      refine ww_icmp_ge C 44 dL_build_24 (by decide) h 27 rfl (fun h => ?_) (fun h => ?_)
      · refine ww_iconst C (0 : Int32) dL_build_44 (by decide) 45 rfl ?_
        refine ww_istore_n C [(2, .int (0 : Int32)), (0, .ref (sa.1 3)), (1, .ref (ad 72))] dL_build_45 rfl (by decide) rfl 46 rfl ?_
        exact ww_sub [1, 2, 0] rfl ((G46h N).1 _ _ _ h)
      · refine ww_aload_n C 1 dL_build_27 rfl rfl 28 rfl ?_
        refine ww_iload_n C 2 dL_build_28 rfl rfl 29 rfl ?_
        refine ww_aload_n C 0 dL_build_29 rfl rfl 30 rfl ?_
        refine ww_iload_n C 2 dL_build_30 rfl rfl 31 rfl ?_
        refine ww_callSi C (As := [.ref (sa.1 3), .int x2]) (st := [.int x2, .ref (ad 72)]) h (fun _ _ hF => k_L_sky hn hF) w_556 cm_L_sky (by decide) (by decide) rfl rfl (Nat.le_of_ble_eq_true rfl) dL_build_31 34 rfl (fun v49 u48 h => ?_)
        refine ww_callVi C (As := [.int x2, .int v49]) (st := []) h cl_X5.1 (obX hn) (fun _ _ hF => k_X5_sky hn hF) w_56 cm_X5_sky (by decide) (by decide) rfl rfl (Nat.le_of_ble_eq_true rfl) dL_build_34 37 rfl (fun v51 u50 h => ?_)
        refine ww_pop C dL_build_37 rfl 38 rfl ?_
        refine ww_iinc C 2 (1 : Int32) (by decide) (fun v52 => [(2, .int v52), (0, .ref (sa.1 3)), (1, .ref (ad 72))]) dL_build_38 rfl (by decide) (fun _ => rfl) h 41 rfl (fun v52 h => ?_)
        refine ww_goto C 21 dL_build_41 (by decide) ?_
        exact ww_sub [1, 2, 0] rfl (ih _ _ h)
  rw [L_buildA] at h
  refine ww_aload_n C 1 dL_build_8 rfl rfl 9 rfl ?_
  refine ww_bipush C (6 : Int32) dL_build_9 (by decide) 11 rfl ?_
  refine ww_aload_n C 0 dL_build_11 rfl rfl 12 rfl ?_
  refine ww_callSi C (As := [.ref (sa.1 3)]) (st := [.int (6 : Int32), .ref (ad 72)]) h (fun _ _ hF => k_L_hour hn hF) w_553 cm_L_hour (by decide) (by decide) rfl rfl (Nat.le_of_ble_eq_true rfl) dL_build_12 15 rfl (fun v54 u53 h => ?_)
  refine ww_callVi C (As := [.int (6 : Int32), .int v54]) (st := []) h cl_X5.1 (obX hn) (fun _ _ hF => k_X5_sky hn hF) w_56 cm_X5_sky (by decide) (by decide) rfl rfl (Nat.le_of_ble_eq_true rfl) dL_build_15 18 rfl (fun v56 u55 h => ?_)
  refine ww_pop C dL_build_18 rfl 19 rfl ?_
  refine ww_iconst C (0 : Int32) dL_build_19 (by decide) 20 rfl ?_
  refine ww_istore_n C [(2, .int (0 : Int32)), (0, .ref (sa.1 3)), (1, .ref (ad 72))] dL_build_20 rfl (by decide) rfl 21 rfl ?_
  exact ww_sub [1, 2, 0] rfl (L21h N _ _ h)

set_option maxRecDepth 100000 in
set_option maxHeartbeats 8000000 in
theorem k_L_buildB {p : Program} {l : Launch} {e : Env} {R : Room} {s : State} {m : MethodId} {args : Array Value} {below : List Frame} {meth : Method} {c : Code} {D : va_G} {ad : Nat → Nat} {cA : Nat → ClassId} {tys : List (ClassId × FieldType)} {n : Nat} {sa : SA} {Q : State → Prop} (hn : 73 ≤ n) {N : Nat} (C : CX p R s m args meth c cL_build 4 RL 140 D YI ad cA tys n sa) {g : Mem} {r : Int32} {g1 : Mem} (hx289 : ∀ (g2 : Mem), some ((0 : Int32), g2) = some (r, g1) → WW p l e R s m args below meth c 4 D YI ad cA n Q g2 289 [(0, .ref (sa.1 3)), (1, .ref (ad 72))] []) (h : L_buildB N sa g = some (r, g1)) : WW p l e R s m args below meth c 4 D YI ad cA n Q g 280 [(0, .ref (sa.1 3)), (1, .ref (ad 72))] [] := by
  rw [L_buildB] at h
  refine ww_aload_n C 1 dL_build_280 rfl rfl 281 rfl ?_
  refine ww_aload_n C 1 dL_build_281 rfl rfl 282 rfl ?_
  refine ww_callVi C (As := []) (st := [.ref (ad 72)]) h cl_X5.1 (obX hn) (fun _ _ hF => k_X5_text hn hF) w_816 cm_X5_text (by decide) (by decide) rfl rfl (Nat.le_of_ble_eq_true rfl) dL_build_282 285 rfl (fun v6 u5 h => ?_)
  refine ww_callVi C (As := [.int v6]) (st := []) h cl_X5.1 (obX hn) (fun _ _ hF => k_X5_force hn hF) w_820 cm_X5_force (by decide) (by decide) rfl rfl (Nat.le_of_ble_eq_true rfl) dL_build_285 288 rfl (fun v8 u7 h => ?_)
  refine ww_pop C dL_build_288 rfl 289 rfl ?_
  exact ww_sub [0, 1] rfl (hx289 _ h)

set_option maxRecDepth 100000 in
set_option maxHeartbeats 8000000 in
theorem k_L_law {p : Program} {l : Launch} {e : Env} {R : Room} {s : State} {m : MethodId} {args : Array Value} {below : List Frame} {meth : Method} {c : Code} {D : va_G} {ad : Nat → Nat} {cA : Nat → ClassId} {tys : List (ClassId × FieldType)} {n : Nat} {sa : SA} {Q : State → Prop} (hn : 74 ≤ n) {N : Nat} (C : CX p R s m args meth c cL_law 9 RL 40 D YI ad cA tys n sa) (hr : ∀ (g : Mem) (pc : Nat) (lv : List (Nat × Value)), decode cL_law pc = .ok (.ireturn, 1) → WW p l e R s m args below meth c 9 D YI ad cA n Q g pc lv [.int 1]) {g : Mem} {r : Int32} {g1 : Mem} (hv1 : r = 1) (h : L_law N sa g = some (r, g1)) : WW p l e R s m args below meth c 9 D YI ad cA n Q g 10 [(0, .ref (sa.1 3)), (1, .ref (ad 72)), (2, .ref (ad 73))] [] := by
  subst hv1
  have L306h : ∀ (fu : Nat), (∀ (x3 : Int32) (x4 : Int32) (g : Mem), L_law_L306 N sa fu x3 x4 g = some ((1 : Int32), g1) → WW p l e R s m args below meth c 9 D YI ad cA n Q g 306 [(0, .ref (sa.1 3)), (1, .ref (ad 72)), (2, .ref (ad 73)), (3, .int x3), (4, .int x4)] []) := by
    intro fu
    induction fu with
    | zero => intro x3 x4 g h; cases h
    | succ fu ih =>
      intro x3 x4 g h
      rw [L_law_L306] at h
      refine ww_iload C 4 dL_law_306 rfl 308 rfl ?_
      refine ww_bipush C (6 : Int32) dL_law_308 (by decide) 310 rfl ?_
      refine ww_icmp_ge C 478 dL_law_310 (by decide) h 313 rfl (fun h => ?_) (fun h => ?_)
      · refine ww_aload_n C 0 dL_law_478 rfl rfl 479 rfl ?_
        refine ww_aload_n C 2 dL_law_479 rfl rfl 480 rfl ?_
        refine ww_aload_n C 1 dL_law_480 rfl rfl 481 rfl ?_
        refine ww_callSi C (As := [.ref (sa.1 3), .ref (ad 73), .ref (ad 72)]) (st := []) h (fun _ _ hF => k_L_same hn hF) w_866 cm_L_same (by decide) (by decide) rfl rfl (Nat.le_of_ble_eq_true rfl) dL_law_481 484 rfl (fun v150 u149 h => ?_)
        refine ww_if_eq C 770 dL_law_484 (by decide) h 487 rfl (fun h => ?_) (fun h => ?_)
        · refine ww_iconst C (0 : Int32) dL_law_770 (by decide) 771 rfl ?_
          cases h
        · refine ww_aload_n C 1 dL_law_487 rfl rfl 488 rfl ?_
          refine ww_bipush C (6 : Int32) dL_law_488 (by decide) 490 rfl ?_
          refine ww_iconst C (0 : Int32) dL_law_490 (by decide) 491 rfl ?_
          refine ww_callVi C (As := [.int (6 : Int32), .int (0 : Int32)]) (st := []) h cl_X5.1 (obX (Nat.le_trans (by decide) hn)) (fun _ _ hF => k_X5_dive (Nat.le_trans (by decide) hn) hF) w_136 cm_X5_dive (by decide) (by decide) rfl rfl (Nat.le_of_ble_eq_true rfl) dL_law_491 494 rfl (fun v152 u151 h => ?_)
          refine ww_bipush C (-5 : Int32) dL_law_494 (by decide) 496 rfl ?_
          refine ww_icmp_ne C 770 dL_law_496 (by decide) h 499 rfl (fun h => ?_) (fun h => ?_)
          · refine ww_iconst C (0 : Int32) dL_law_770 (by decide) 771 rfl ?_
            cases h
          · refine ww_aload_n C 1 dL_law_499 rfl rfl 500 rfl ?_
            refine ww_iconst C (0 : Int32) dL_law_500 (by decide) 501 rfl ?_
            refine ww_bipush C (12 : Int32) dL_law_501 (by decide) 503 rfl ?_
            refine ww_callVi C (As := [.int (0 : Int32), .int (12 : Int32)]) (st := []) h cl_X5.1 (obX (Nat.le_trans (by decide) hn)) (fun _ _ hF => k_X5_dive (Nat.le_trans (by decide) hn) hF) w_136 cm_X5_dive (by decide) (by decide) rfl rfl (Nat.le_of_ble_eq_true rfl) dL_law_503 506 rfl (fun v154 u153 h => ?_)
            refine ww_bipush C (-6 : Int32) dL_law_506 (by decide) 508 rfl ?_
            refine ww_icmp_ne C 770 dL_law_508 (by decide) h 511 rfl (fun h => ?_) (fun h => ?_)
            · refine ww_iconst C (0 : Int32) dL_law_770 (by decide) 771 rfl ?_
              cases h
            · refine ww_aload_n C 1 dL_law_511 rfl rfl 512 rfl ?_
              refine ww_bipush C (12 : Int32) dL_law_512 (by decide) 514 rfl ?_
              refine ww_callVi C (As := [.int (12 : Int32)]) (st := []) h cl_X5.1 (obX (Nat.le_trans (by decide) hn)) (fun _ _ hF => k_X5_open (Nat.le_trans (by decide) hn) hF) w_144 cm_X5_open (by decide) (by decide) rfl rfl (Nat.le_of_ble_eq_true rfl) dL_law_514 517 rfl (fun v156 u155 h => ?_)
              refine ww_bipush C (-6 : Int32) dL_law_517 (by decide) 519 rfl ?_
              refine ww_icmp_ne C 770 dL_law_519 (by decide) h 522 rfl (fun h => ?_) (fun h => ?_)
              · refine ww_iconst C (0 : Int32) dL_law_770 (by decide) 771 rfl ?_
                cases h
              · refine ww_aload_n C 1 dL_law_522 rfl rfl 523 rfl ?_
                refine ww_iconst C (-1 : Int32) dL_law_523 (by decide) 524 rfl ?_
                refine ww_callVi C (As := [.int (-1 : Int32)]) (st := []) h cl_X5.1 (obX (Nat.le_trans (by decide) hn)) (fun _ _ hF => k_X5_open (Nat.le_trans (by decide) hn) hF) w_144 cm_X5_open (by decide) (by decide) rfl rfl (Nat.le_of_ble_eq_true rfl) dL_law_524 527 rfl (fun v158 u157 h => ?_)
                refine ww_bipush C (-6 : Int32) dL_law_527 (by decide) 529 rfl ?_
                refine ww_icmp_ne C 770 dL_law_529 (by decide) h 532 rfl (fun h => ?_) (fun h => ?_)
                · refine ww_iconst C (0 : Int32) dL_law_770 (by decide) 771 rfl ?_
                  cases h
                · refine ww_aload_n C 1 dL_law_532 rfl rfl 533 rfl ?_
                  refine ww_bipush C (12 : Int32) dL_law_533 (by decide) 535 rfl ?_
                  refine ww_iconst C (0 : Int32) dL_law_535 (by decide) 536 rfl ?_
                  refine ww_iconst C (0 : Int32) dL_law_536 (by decide) 537 rfl ?_
                  refine ww_callVi C (As := [.int (12 : Int32), .int (0 : Int32), .int (0 : Int32)]) (st := []) h cl_X5.1 (obX (Nat.le_trans (by decide) hn)) (fun _ _ hF => k_X5_cask (Nat.le_trans (by decide) hn) hF) w_36 cm_X5_cask (by decide) (by decide) rfl rfl (Nat.le_of_ble_eq_true rfl) dL_law_537 540 rfl (fun v160 u159 h => ?_)
                  refine ww_bipush C (-5 : Int32) dL_law_540 (by decide) 542 rfl ?_
                  refine ww_icmp_ne C 770 dL_law_542 (by decide) h 545 rfl (fun h => ?_) (fun h => ?_)
                  · refine ww_iconst C (0 : Int32) dL_law_770 (by decide) 771 rfl ?_
                    cases h
                  · refine ww_aload_n C 1 dL_law_545 rfl rfl 546 rfl ?_
                    refine ww_iconst C (0 : Int32) dL_law_546 (by decide) 547 rfl ?_
                    refine ww_iconst C (4 : Int32) dL_law_547 (by decide) 548 rfl ?_
                    refine ww_iconst C (0 : Int32) dL_law_548 (by decide) 549 rfl ?_
                    refine ww_callVi C (As := [.int (0 : Int32), .int (4 : Int32), .int (0 : Int32)]) (st := []) h cl_X5.1 (obX (Nat.le_trans (by decide) hn)) (fun _ _ hF => k_X5_cask (Nat.le_trans (by decide) hn) hF) w_36 cm_X5_cask (by decide) (by decide) rfl rfl (Nat.le_of_ble_eq_true rfl) dL_law_549 552 rfl (fun v162 u161 h => ?_)
                    refine ww_bipush C (-7 : Int32) dL_law_552 (by decide) 554 rfl ?_
                    refine ww_icmp_ne C 770 dL_law_554 (by decide) h 557 rfl (fun h => ?_) (fun h => ?_)
                    · refine ww_iconst C (0 : Int32) dL_law_770 (by decide) 771 rfl ?_
                      cases h
                    · refine ww_aload_n C 1 dL_law_557 rfl rfl 558 rfl ?_
                      refine ww_iconst C (0 : Int32) dL_law_558 (by decide) 559 rfl ?_
                      refine ww_iconst C (0 : Int32) dL_law_559 (by decide) 560 rfl ?_
                      refine ww_bipush C (6 : Int32) dL_law_560 (by decide) 562 rfl ?_
                      refine ww_callVi C (As := [.int (0 : Int32), .int (0 : Int32), .int (6 : Int32)]) (st := []) h cl_X5.1 (obX (Nat.le_trans (by decide) hn)) (fun _ _ hF => k_X5_cask (Nat.le_trans (by decide) hn) hF) w_36 cm_X5_cask (by decide) (by decide) rfl rfl (Nat.le_of_ble_eq_true rfl) dL_law_562 565 rfl (fun v164 u163 h => ?_)
                      refine ww_bipush C (-7 : Int32) dL_law_565 (by decide) 567 rfl ?_
                      refine ww_icmp_ne C 770 dL_law_567 (by decide) h 570 rfl (fun h => ?_) (fun h => ?_)
                      · refine ww_iconst C (0 : Int32) dL_law_770 (by decide) 771 rfl ?_
                        cases h
                      · refine ww_aload_n C 1 dL_law_570 rfl rfl 571 rfl ?_
                        refine ww_iconst C (0 : Int32) dL_law_571 (by decide) 572 rfl ?_
                        refine ww_iconst C (1 : Int32) dL_law_572 (by decide) 573 rfl ?_
                        refine ww_bipush C (100 : Int32) dL_law_573 (by decide) 575 rfl ?_
                        refine ww_callVi C (As := [.int (0 : Int32), .int (1 : Int32), .int (100 : Int32)]) (st := []) h cl_X5.1 (obX (Nat.le_trans (by decide) hn)) (fun _ _ hF => k_X5_cask (Nat.le_trans (by decide) hn) hF) w_36 cm_X5_cask (by decide) (by decide) rfl rfl (Nat.le_of_ble_eq_true rfl) dL_law_575 578 rfl (fun v166 u165 h => ?_)
                        refine ww_bipush C (-7 : Int32) dL_law_578 (by decide) 580 rfl ?_
                        refine ww_icmp_ne C 770 dL_law_580 (by decide) h 583 rfl (fun h => ?_) (fun h => ?_)
                        · refine ww_iconst C (0 : Int32) dL_law_770 (by decide) 771 rfl ?_
                          cases h
                        · refine ww_aload_n C 1 dL_law_583 rfl rfl 584 rfl ?_
                          refine ww_iconst C (0 : Int32) dL_law_584 (by decide) 585 rfl ?_
                          refine ww_iconst C (2 : Int32) dL_law_585 (by decide) 586 rfl ?_
                          refine ww_iconst C (-1 : Int32) dL_law_586 (by decide) 587 rfl ?_
                          refine ww_callVi C (As := [.int (0 : Int32), .int (2 : Int32), .int (-1 : Int32)]) (st := []) h cl_X5.1 (obX (Nat.le_trans (by decide) hn)) (fun _ _ hF => k_X5_cask (Nat.le_trans (by decide) hn) hF) w_36 cm_X5_cask (by decide) (by decide) rfl rfl (Nat.le_of_ble_eq_true rfl) dL_law_587 590 rfl (fun v168 u167 h => ?_)
                          refine ww_bipush C (-7 : Int32) dL_law_590 (by decide) 592 rfl ?_
                          refine ww_icmp_ne C 770 dL_law_592 (by decide) h 595 rfl (fun h => ?_) (fun h => ?_)
                          · refine ww_iconst C (0 : Int32) dL_law_770 (by decide) 771 rfl ?_
                            cases h
                          · refine ww_aload_n C 1 dL_law_595 rfl rfl 596 rfl ?_
                            refine ww_iconst C (0 : Int32) dL_law_596 (by decide) 597 rfl ?_
                            refine ww_iconst C (3 : Int32) dL_law_597 (by decide) 598 rfl ?_
                            refine ww_iconst C (3 : Int32) dL_law_598 (by decide) 599 rfl ?_
                            refine ww_callVi C (As := [.int (0 : Int32), .int (3 : Int32), .int (3 : Int32)]) (st := []) h cl_X5.1 (obX (Nat.le_trans (by decide) hn)) (fun _ _ hF => k_X5_cask (Nat.le_trans (by decide) hn) hF) w_36 cm_X5_cask (by decide) (by decide) rfl rfl (Nat.le_of_ble_eq_true rfl) dL_law_599 602 rfl (fun v170 u169 h => ?_)
                            refine ww_bipush C (-7 : Int32) dL_law_602 (by decide) 604 rfl ?_
                            refine ww_icmp_ne C 770 dL_law_604 (by decide) h 607 rfl (fun h => ?_) (fun h => ?_)
                            · refine ww_iconst C (0 : Int32) dL_law_770 (by decide) 771 rfl ?_
                              cases h
                            · refine ww_aload_n C 1 dL_law_607 rfl rfl 608 rfl ?_
                              refine ww_bipush C (12 : Int32) dL_law_608 (by decide) 610 rfl ?_
                              refine ww_iconst C (0 : Int32) dL_law_610 (by decide) 611 rfl ?_
                              refine ww_callVi C (As := [.int (12 : Int32), .int (0 : Int32)]) (st := []) h cl_X5.1 (obX (Nat.le_trans (by decide) hn)) (fun _ _ hF => k_X5_lies (Nat.le_trans (by decide) hn) hF) w_52 cm_X5_lies (by decide) (by decide) rfl rfl (Nat.le_of_ble_eq_true rfl) dL_law_611 614 rfl (fun v172 u171 h => ?_)
                              refine ww_bipush C (-5 : Int32) dL_law_614 (by decide) 616 rfl ?_
                              refine ww_icmp_ne C 770 dL_law_616 (by decide) h 619 rfl (fun h => ?_) (fun h => ?_)
                              · refine ww_iconst C (0 : Int32) dL_law_770 (by decide) 771 rfl ?_
                                cases h
                              · refine ww_aload_n C 1 dL_law_619 rfl rfl 620 rfl ?_
                                refine ww_iconst C (0 : Int32) dL_law_620 (by decide) 621 rfl ?_
                                refine ww_iconst C (4 : Int32) dL_law_621 (by decide) 622 rfl ?_
                                refine ww_callVi C (As := [.int (0 : Int32), .int (4 : Int32)]) (st := []) h cl_X5.1 (obX (Nat.le_trans (by decide) hn)) (fun _ _ hF => k_X5_lies (Nat.le_trans (by decide) hn) hF) w_52 cm_X5_lies (by decide) (by decide) rfl rfl (Nat.le_of_ble_eq_true rfl) dL_law_622 625 rfl (fun v174 u173 h => ?_)
                                refine ww_bipush C (-7 : Int32) dL_law_625 (by decide) 627 rfl ?_
                                refine ww_icmp_ne C 770 dL_law_627 (by decide) h 630 rfl (fun h => ?_) (fun h => ?_)
                                · refine ww_iconst C (0 : Int32) dL_law_770 (by decide) 771 rfl ?_
                                  cases h
                                · refine ww_aload_n C 1 dL_law_630 rfl rfl 631 rfl ?_
                                  refine ww_bipush C (7 : Int32) dL_law_631 (by decide) 633 rfl ?_
                                  refine ww_iconst C (0 : Int32) dL_law_633 (by decide) 634 rfl ?_
                                  refine ww_callVi C (As := [.int (7 : Int32), .int (0 : Int32)]) (st := []) h cl_X5.1 (obX (Nat.le_trans (by decide) hn)) (fun _ _ hF => k_X5_sky (Nat.le_trans (by decide) hn) hF) w_56 cm_X5_sky (by decide) (by decide) rfl rfl (Nat.le_of_ble_eq_true rfl) dL_law_634 637 rfl (fun v176 u175 h => ?_)
                                  refine ww_bipush C (-5 : Int32) dL_law_637 (by decide) 639 rfl ?_
                                  refine ww_icmp_ne C 770 dL_law_639 (by decide) h 642 rfl (fun h => ?_) (fun h => ?_)
                                  · refine ww_iconst C (0 : Int32) dL_law_770 (by decide) 771 rfl ?_
                                    cases h
                                  · refine ww_aload_n C 1 dL_law_642 rfl rfl 643 rfl ?_
                                    refine ww_iconst C (0 : Int32) dL_law_643 (by decide) 644 rfl ?_
                                    refine ww_bipush C (100 : Int32) dL_law_644 (by decide) 646 rfl ?_
                                    refine ww_callVi C (As := [.int (0 : Int32), .int (100 : Int32)]) (st := []) h cl_X5.1 (obX (Nat.le_trans (by decide) hn)) (fun _ _ hF => k_X5_sky (Nat.le_trans (by decide) hn) hF) w_56 cm_X5_sky (by decide) (by decide) rfl rfl (Nat.le_of_ble_eq_true rfl) dL_law_646 649 rfl (fun v178 u177 h => ?_)
                                    refine ww_bipush C (-7 : Int32) dL_law_649 (by decide) 651 rfl ?_
                                    refine ww_icmp_ne C 770 dL_law_651 (by decide) h 654 rfl (fun h => ?_) (fun h => ?_)
                                    · refine ww_iconst C (0 : Int32) dL_law_770 (by decide) 771 rfl ?_
                                      cases h
                                    · refine ww_aload_n C 1 dL_law_654 rfl rfl 655 rfl ?_
                                      refine ww_bipush C (6 : Int32) dL_law_655 (by decide) 657 rfl ?_
                                      refine ww_sipush C (1000 : Int32) dL_law_657 (by decide) 660 rfl ?_
                                      refine ww_callVi C (As := [.int (6 : Int32), .int (1000 : Int32)]) (st := []) h cl_X5.1 (obX (Nat.le_trans (by decide) hn)) (fun _ _ hF => k_X5_sky (Nat.le_trans (by decide) hn) hF) w_56 cm_X5_sky (by decide) (by decide) rfl rfl (Nat.le_of_ble_eq_true rfl) dL_law_660 663 rfl (fun v180 u179 h => ?_)
                                      refine ww_bipush C (-7 : Int32) dL_law_663 (by decide) 665 rfl ?_
                                      refine ww_icmp_ne C 770 dL_law_665 (by decide) h 668 rfl (fun h => ?_) (fun h => ?_)
                                      · refine ww_iconst C (0 : Int32) dL_law_770 (by decide) 771 rfl ?_
                                        cases h
                                      · refine ww_aload_n C 1 dL_law_668 rfl rfl 669 rfl ?_
                                        refine ww_bipush C (6 : Int32) dL_law_669 (by decide) 671 rfl ?_
                                        refine ww_iconst C (0 : Int32) dL_law_671 (by decide) 672 rfl ?_
                                        refine ww_callVi C (As := [.int (6 : Int32), .int (0 : Int32)]) (st := []) h cl_X5.1 (obX (Nat.le_trans (by decide) hn)) (fun _ _ hF => k_X5_put (Nat.le_trans (by decide) hn) hF) w_68 cm_X5_put (by decide) (by decide) rfl rfl (Nat.le_of_ble_eq_true rfl) dL_law_672 675 rfl (fun v182 u181 h => ?_)
                                        refine ww_bipush C (-5 : Int32) dL_law_675 (by decide) 677 rfl ?_
                                        refine ww_icmp_ne C 770 dL_law_677 (by decide) h 680 rfl (fun h => ?_) (fun h => ?_)
                                        · refine ww_iconst C (0 : Int32) dL_law_770 (by decide) 771 rfl ?_
                                          cases h
                                        · refine ww_aload_n C 1 dL_law_680 rfl rfl 681 rfl ?_
                                          refine ww_iconst C (0 : Int32) dL_law_681 (by decide) 682 rfl ?_
                                          refine ww_bipush C (100 : Int32) dL_law_682 (by decide) 684 rfl ?_
                                          refine ww_callVi C (As := [.int (0 : Int32), .int (100 : Int32)]) (st := []) h cl_X5.1 (obX (Nat.le_trans (by decide) hn)) (fun _ _ hF => k_X5_put (Nat.le_trans (by decide) hn) hF) w_68 cm_X5_put (by decide) (by decide) rfl rfl (Nat.le_of_ble_eq_true rfl) dL_law_684 687 rfl (fun v184 u183 h => ?_)
                                          refine ww_bipush C (-7 : Int32) dL_law_687 (by decide) 689 rfl ?_
                                          refine ww_icmp_ne C 770 dL_law_689 (by decide) h 692 rfl (fun h => ?_) (fun h => ?_)
                                          · refine ww_iconst C (0 : Int32) dL_law_770 (by decide) 771 rfl ?_
                                            cases h
                                          · refine ww_aload_n C 1 dL_law_692 rfl rfl 693 rfl ?_
                                            refine ww_bipush C (6 : Int32) dL_law_693 (by decide) 695 rfl ?_
                                            refine ww_iconst C (0 : Int32) dL_law_695 (by decide) 696 rfl ?_
                                            refine ww_callVi C (As := [.int (6 : Int32), .int (0 : Int32)]) (st := []) h cl_X5.1 (obX (Nat.le_trans (by decide) hn)) (fun _ _ hF => k_X5_told (Nat.le_trans (by decide) hn) hF) w_76 cm_X5_told (by decide) (by decide) rfl rfl (Nat.le_of_ble_eq_true rfl) dL_law_696 699 rfl (fun v186 u185 h => ?_)
                                            refine ww_bipush C (-5 : Int32) dL_law_699 (by decide) 701 rfl ?_
                                            refine ww_icmp_ne C 770 dL_law_701 (by decide) h 704 rfl (fun h => ?_) (fun h => ?_)
                                            · refine ww_iconst C (0 : Int32) dL_law_770 (by decide) 771 rfl ?_
                                              cases h
                                            · refine ww_aload_n C 1 dL_law_704 rfl rfl 705 rfl ?_
                                              refine ww_iconst C (0 : Int32) dL_law_705 (by decide) 706 rfl ?_
                                              refine ww_bipush C (6 : Int32) dL_law_706 (by decide) 708 rfl ?_
                                              refine ww_callVi C (As := [.int (0 : Int32), .int (6 : Int32)]) (st := []) h cl_X5.1 (obX (Nat.le_trans (by decide) hn)) (fun _ _ hF => k_X5_told (Nat.le_trans (by decide) hn) hF) w_76 cm_X5_told (by decide) (by decide) rfl rfl (Nat.le_of_ble_eq_true rfl) dL_law_708 711 rfl (fun v188 u187 h => ?_)
                                              refine ww_bipush C (-7 : Int32) dL_law_711 (by decide) 713 rfl ?_
                                              refine ww_icmp_ne C 770 dL_law_713 (by decide) h 716 rfl (fun h => ?_) (fun h => ?_)
                                              · refine ww_iconst C (0 : Int32) dL_law_770 (by decide) 771 rfl ?_
                                                cases h
                                              · refine ww_aload_n C 1 dL_law_716 rfl rfl 717 rfl ?_
                                                refine ww_bipush C (6 : Int32) dL_law_717 (by decide) 719 rfl ?_
                                                refine ww_iconst C (0 : Int32) dL_law_719 (by decide) 720 rfl ?_
                                                refine ww_iconst C (0 : Int32) dL_law_720 (by decide) 721 rfl ?_
                                                refine ww_callVi C (As := [.int (6 : Int32), .int (0 : Int32), .int (0 : Int32)]) (st := []) h cl_X5.1 (obX (Nat.le_trans (by decide) hn)) (fun _ _ hF => k_X5_dives (Nat.le_trans (by decide) hn) hF) w_129 cm_X5_dives (by decide) (by decide) rfl rfl (Nat.le_of_ble_eq_true rfl) dL_law_721 724 rfl (fun v190 u189 h => ?_)
                                                refine ww_bipush C (-5 : Int32) dL_law_724 (by decide) 726 rfl ?_
                                                refine ww_icmp_ne C 770 dL_law_726 (by decide) h 729 rfl (fun h => ?_) (fun h => ?_)
                                                · refine ww_iconst C (0 : Int32) dL_law_770 (by decide) 771 rfl ?_
                                                  cases h
                                                · refine ww_aload_n C 1 dL_law_729 rfl rfl 730 rfl ?_
                                                  refine ww_iconst C (0 : Int32) dL_law_730 (by decide) 731 rfl ?_
                                                  refine ww_bipush C (12 : Int32) dL_law_731 (by decide) 733 rfl ?_
                                                  refine ww_iconst C (0 : Int32) dL_law_733 (by decide) 734 rfl ?_
                                                  refine ww_callVi C (As := [.int (0 : Int32), .int (12 : Int32), .int (0 : Int32)]) (st := []) h cl_X5.1 (obX (Nat.le_trans (by decide) hn)) (fun _ _ hF => k_X5_dives (Nat.le_trans (by decide) hn) hF) w_129 cm_X5_dives (by decide) (by decide) rfl rfl (Nat.le_of_ble_eq_true rfl) dL_law_734 737 rfl (fun v192 u191 h => ?_)
                                                  refine ww_bipush C (-5 : Int32) dL_law_737 (by decide) 739 rfl ?_
                                                  refine ww_icmp_ne C 770 dL_law_739 (by decide) h 742 rfl (fun h => ?_) (fun h => ?_)
                                                  · refine ww_iconst C (0 : Int32) dL_law_770 (by decide) 771 rfl ?_
                                                    cases h
                                                  · refine ww_aload_n C 1 dL_law_742 rfl rfl 743 rfl ?_
                                                    refine ww_iconst C (0 : Int32) dL_law_743 (by decide) 744 rfl ?_
                                                    refine ww_iconst C (0 : Int32) dL_law_744 (by decide) 745 rfl ?_
                                                    refine ww_iconst C (3 : Int32) dL_law_745 (by decide) 746 rfl ?_
                                                    refine ww_callVi C (As := [.int (0 : Int32), .int (0 : Int32), .int (3 : Int32)]) (st := []) h cl_X5.1 (obX (Nat.le_trans (by decide) hn)) (fun _ _ hF => k_X5_dives (Nat.le_trans (by decide) hn) hF) w_129 cm_X5_dives (by decide) (by decide) rfl rfl (Nat.le_of_ble_eq_true rfl) dL_law_746 749 rfl (fun v194 u193 h => ?_)
                                                    refine ww_bipush C (-7 : Int32) dL_law_749 (by decide) 751 rfl ?_
                                                    refine ww_icmp_ne C 770 dL_law_751 (by decide) h 754 rfl (fun h => ?_) (fun h => ?_)
                                                    · refine ww_iconst C (0 : Int32) dL_law_770 (by decide) 771 rfl ?_
                                                      cases h
                                                    · refine ww_aload_n C 1 dL_law_754 rfl rfl 755 rfl ?_
                                                      refine ww_bipush C (8 : Int32) dL_law_755 (by decide) 757 rfl ?_
                                                      refine ww_callVi C (As := [.int (8 : Int32)]) (st := []) h cl_X5.1 (obX (Nat.le_trans (by decide) hn)) (fun _ _ hF => k_X5_bay (Nat.le_trans (by decide) hn) hF) w_179 cm_X5_bay (by decide) (by decide) rfl rfl (Nat.le_of_ble_eq_true rfl) dL_law_757 760 rfl (fun v196 u195 h => ?_)
                                                      refine ww_sipush C (-1000 : Int32) dL_law_760 (by decide) 763 rfl ?_
                                                      refine ww_icmp_ne C 770 dL_law_763 (by decide) h 766 rfl (fun h => ?_) (fun h => ?_)
                                                      · refine ww_iconst C (0 : Int32) dL_law_770 (by decide) 771 rfl ?_
                                                        cases h
                                                      · refine ww_iconst C (1 : Int32) dL_law_766 (by decide) 767 rfl ?_
                                                        refine ww_goto C 771 dL_law_767 (by decide) ?_
                                                        exact hr _ _ _ dL_law_771
      · refine ww_aload_n C 0 dL_law_313 rfl rfl 314 rfl ?_
        refine ww_aload_n C 2 dL_law_314 rfl rfl 315 rfl ?_
        refine ww_aload_n C 1 dL_law_315 rfl rfl 316 rfl ?_
        refine ww_callSi C (As := [.ref (sa.1 3), .ref (ad 73), .ref (ad 72)]) (st := []) h (fun _ _ hF => k_L_same hn hF) w_866 cm_L_same (by decide) (by decide) rfl rfl (Nat.le_of_ble_eq_true rfl) dL_law_316 319 rfl (fun v198 u197 h => ?_)
        refine ww_if_ne C 324 dL_law_319 (by decide) h 322 rfl (fun h => ?_) (fun h => ?_)
        · refine ww_aload_n C 0 dL_law_324 rfl rfl 325 rfl ?_
          refine ww_bipush C (12 : Int32) dL_law_325 (by decide) 327 rfl ?_
          refine ww_callSi C (As := [.ref (sa.1 3), .int (12 : Int32)]) (st := []) h (fun _ _ hF => k_L_at (Nat.le_trans (by decide) hn) hF) w_242 cm_L_at (by decide) (by decide) rfl rfl (Nat.le_of_ble_eq_true rfl) dL_law_327 330 rfl (fun v200 u199 h => ?_)
          refine ww_iconst C (5 : Int32) dL_law_330 (by decide) 331 rfl ?_
          refine ww_iload C 4 dL_law_331 rfl 333 rfl ?_
          refine ww_imul C dL_law_333 334 rfl ?_
          refine ww_ishr C dL_law_334 335 rfl ?_
          refine ww_bi h (fun v201 h => ?_)
          refine ww_istore C [(5, .int v201), (0, .ref (sa.1 3)), (1, .ref (ad 72)), (2, .ref (ad 73)), (3, .int x3), (4, .int x4)] dL_law_335 (by decide) rfl 337 rfl ?_
          refine ww_iload C 0 dL_law_337 rfl 339 rfl ?_
          refine ww_iconst C (3 : Int32) dL_law_339 (by decide) 340 rfl ?_
          refine ww_iand C dL_law_340 341 rfl ?_
          refine ww_iload_n C 4 dL_law_341 rfl rfl 342 rfl ?_
          refine ww_irem C dL_law_342 h 343 rfl (fun h => ?_)
          refine ww_bi h (fun v202 h => ?_)
          refine ww_istore C [(6, .int v202), (5, .int v201), (0, .ref (sa.1 3)), (1, .ref (ad 72)), (2, .ref (ad 73)), (3, .int x3), (4, .int x4)] dL_law_343 (by decide) rfl 345 rfl ?_
          refine ww_iload C 1 dL_law_345 rfl 347 rfl ?_
          refine ww_iconst C (1 : Int32) dL_law_347 (by decide) 348 rfl ?_
          refine ww_ishr C dL_law_348 349 rfl ?_
          refine ww_bipush C (15 : Int32) dL_law_349 (by decide) 351 rfl ?_
          refine ww_iand C dL_law_351 352 rfl ?_
          refine ww_bipush C (12 : Int32) dL_law_352 (by decide) 354 rfl ?_
          refine ww_irem C dL_law_354 h 355 rfl (fun h => ?_)
          refine ww_bi h (fun v203 h => ?_)
          refine ww_istore C [(7, .int v203), (6, .int v202), (5, .int v201), (0, .ref (sa.1 3)), (1, .ref (ad 72)), (2, .ref (ad 73)), (3, .int x3), (4, .int x4)] dL_law_355 (by decide) rfl 357 rfl ?_
          refine ww_aload_n C 4 dL_law_357 rfl rfl 358 rfl ?_
          refine ww_iload C 1 dL_law_358 rfl 360 rfl ?_
          refine ww_iload C 0 dL_law_360 rfl 362 rfl ?_
          refine ww_callVi C (As := [.int v202, .int v203]) (st := []) h cl_X5.1 (obX (Nat.le_trans (by decide) hn)) (fun _ _ hF => k_X5_dive (Nat.le_trans (by decide) hn) hF) w_136 cm_X5_dive (by decide) (by decide) rfl rfl (Nat.le_of_ble_eq_true rfl) dL_law_362 365 rfl (fun v205 u204 h => ?_)
          refine ww_i2l C dL_law_365 366 rfl ?_
          refine ww_aload_n C 3 dL_law_366 rfl rfl 367 rfl ?_
          refine ww_aload_n C 5 dL_law_367 rfl rfl 368 rfl ?_
          refine ww_iload C 1 dL_law_368 rfl 370 rfl ?_
          refine ww_iload C 0 dL_law_370 rfl 372 rfl ?_
          refine ww_callSi C (As := [.ref (sa.1 3), .ref (ad 73), .int v202, .int v203]) (st := [.long ((v205).toInt64)]) h (fun _ _ hF => k_L_dive hn hF) w_827 cm_L_dive (by decide) (by decide) rfl rfl (Nat.le_of_ble_eq_true rfl) dL_law_372 375 rfl (fun v207 u206 h => ?_)
          refine ww_if_eq C 387 dL_law_375 (by decide) h 378 rfl (fun h => ?_) (fun h => ?_)
          · refine ww_ldc2 C (-3 : Int64) w_881 dL_law_387 390 rfl ?_
            refine ww_lcmp C dL_law_390 391 rfl ?_
            refine ww_if_eq C 396 dL_law_391 (by decide) h 394 rfl (fun h => ?_) (fun h => ?_)
            · refine ww_iload C 2 dL_law_396 rfl 398 rfl ?_
              refine ww_bipush C (15 : Int32) dL_law_398 (by decide) 400 rfl ?_
              refine ww_iand C dL_law_400 401 rfl ?_
              refine ww_bipush C (12 : Int32) dL_law_401 (by decide) 403 rfl ?_
              refine ww_irem C dL_law_403 h 404 rfl (fun h => ?_)
              refine ww_bi h (fun v208 h => ?_)
              refine ww_istore C [(7, .int v208), (6, .int v202), (5, .int v201), (0, .ref (sa.1 3)), (1, .ref (ad 72)), (2, .ref (ad 73)), (3, .int x3), (4, .int x4)] dL_law_404 (by decide) rfl 406 rfl ?_
              refine ww_aload_n C 4 dL_law_406 rfl rfl 407 rfl ?_
              refine ww_iload C 0 dL_law_407 rfl 409 rfl ?_
              refine ww_callVi C (As := [.int v208]) (st := []) h cl_X5.1 (obX (Nat.le_trans (by decide) hn)) (fun _ _ hF => k_X5_open (Nat.le_trans (by decide) hn) hF) w_144 cm_X5_open (by decide) (by decide) rfl rfl (Nat.le_of_ble_eq_true rfl) dL_law_409 412 rfl (fun v210 u209 h => ?_)
              refine ww_i2l C dL_law_412 413 rfl ?_
              refine ww_aload_n C 5 dL_law_413 rfl rfl 414 rfl ?_
              refine ww_iload C 0 dL_law_414 rfl 416 rfl ?_
              refine ww_callSi C (As := [.ref (ad 73), .int v208]) (st := [.long ((v210).toInt64)]) h (fun _ _ hF => k_L_open hn hF) w_854 cm_L_open (by decide) (by decide) rfl rfl (Nat.le_of_ble_eq_true rfl) dL_law_416 419 rfl (fun v212 u211 h => ?_)
              refine ww_if_eq C 440 dL_law_419 (by decide) h 422 rfl (fun h => ?_) (fun h => ?_)
              · refine ww_ldc2 C (-3 : Int64) w_881 dL_law_440 443 rfl ?_
                refine ww_lcmp C dL_law_443 444 rfl ?_
                refine ww_if_eq C 449 dL_law_444 (by decide) h 447 rfl (fun h => ?_) (fun h => ?_)
                · refine ww_aload_n C 3 dL_law_449 rfl rfl 450 rfl ?_
                  refine ww_aload_n C 5 dL_law_450 rfl rfl 451 rfl ?_
                  refine ww_aload_n C 4 dL_law_451 rfl rfl 452 rfl ?_
                  refine ww_callSi C (As := [.ref (sa.1 3), .ref (ad 73), .ref (ad 72)]) (st := []) h (fun _ _ hF => k_L_same hn hF) w_866 cm_L_same (by decide) (by decide) rfl rfl (Nat.le_of_ble_eq_true rfl) dL_law_452 455 rfl (fun v214 u213 h => ?_)
                  refine ww_if_eq C 470 dL_law_455 (by decide) h 458 rfl (fun h => ?_) (fun h => ?_)
                  · refine ww_iconst C (0 : Int32) dL_law_470 (by decide) 471 rfl ?_
                    cases h
                  · refine ww_aload_n C 4 dL_law_458 rfl rfl 459 rfl ?_
                    refine ww_callVi C (As := []) (st := []) h cl_X5.1 (obX (Nat.le_trans (by decide) hn)) (fun _ _ hF => k_X5_hour (Nat.le_trans (by decide) hn) hF) w_157 cm_X5_hour (by decide) (by decide) rfl rfl (Nat.le_of_ble_eq_true rfl) dL_law_459 462 rfl (fun v216 u215 h => ?_)
                    refine ww_aload_n C 3 dL_law_462 rfl rfl 463 rfl ?_
                    refine ww_aload_n C 5 dL_law_463 rfl rfl 464 rfl ?_
                    refine ww_callSi C (As := [.ref (sa.1 3), .ref (ad 73)]) (st := [.int v216]) h (fun _ _ hF => k_L_pass hn hF) w_857 cm_L_pass (by decide) (by decide) rfl rfl (Nat.le_of_ble_eq_true rfl) dL_law_464 467 rfl (fun v218 u217 h => ?_)
                    refine ww_icmp_eq C 472 dL_law_467 (by decide) h 470 rfl (fun h => ?_) (fun h => ?_)
                    · refine ww_iinc C 7 (1 : Int32) (by decide) (fun v219 => [(4, .int v219), (7, .int v208), (6, .int v202), (5, .int v201), (0, .ref (sa.1 3)), (1, .ref (ad 72)), (2, .ref (ad 73)), (3, .int x3)]) dL_law_472 rfl (by decide) (fun _ => rfl) h 475 rfl (fun v219 h => ?_)
                      refine ww_goto C 306 dL_law_475 (by decide) ?_
                      exact ww_sub [4, 5, 6, 7, 0] rfl (ih _ _ _ h)
                    · refine ww_iconst C (0 : Int32) dL_law_470 (by decide) 471 rfl ?_
                      cases h
                · refine ww_iconst C (0 : Int32) dL_law_447 (by decide) 448 rfl ?_
                  cases h
              · refine ww_aload_n C 5 dL_law_422 rfl rfl 423 rfl ?_
                refine ww_bipush C (64 : Int32) dL_law_423 (by decide) 425 rfl ?_
                refine ww_aload_n C 5 dL_law_425 rfl rfl 426 rfl ?_
                refine ww_bipush C (16 : Int32) dL_law_426 (by decide) 428 rfl ?_
                refine ww_iconst C (4 : Int32) dL_law_428 (by decide) 429 rfl ?_
                refine ww_iload C 0 dL_law_429 rfl 431 rfl ?_
                refine ww_imul C dL_law_431 432 rfl ?_
                refine ww_iadd C dL_law_432 433 rfl ?_
                refine ww_lald C (laH hn) dL_law_433 h 434 rfl (fun h => ?_)
                refine ww_l2i C dL_law_434 435 rfl ?_
                refine ww_iadd C dL_law_435 436 rfl ?_
                refine ww_lald C (laH hn) dL_law_436 h 437 rfl (fun h => ?_)
                refine ww_goto C 443 dL_law_437 (by decide) ?_
                refine ww_lcmp C dL_law_443 444 rfl ?_
                refine ww_if_eq C 449 dL_law_444 (by decide) h 447 rfl (fun h => ?_) (fun h => ?_)
                · refine ww_aload_n C 3 dL_law_449 rfl rfl 450 rfl ?_
                  refine ww_aload_n C 5 dL_law_450 rfl rfl 451 rfl ?_
                  refine ww_aload_n C 4 dL_law_451 rfl rfl 452 rfl ?_
                  refine ww_callSi C (As := [.ref (sa.1 3), .ref (ad 73), .ref (ad 72)]) (st := []) h (fun _ _ hF => k_L_same hn hF) w_866 cm_L_same (by decide) (by decide) rfl rfl (Nat.le_of_ble_eq_true rfl) dL_law_452 455 rfl (fun v221 u220 h => ?_)
                  refine ww_if_eq C 470 dL_law_455 (by decide) h 458 rfl (fun h => ?_) (fun h => ?_)
                  · refine ww_iconst C (0 : Int32) dL_law_470 (by decide) 471 rfl ?_
                    cases h
                  · refine ww_aload_n C 4 dL_law_458 rfl rfl 459 rfl ?_
                    refine ww_callVi C (As := []) (st := []) h cl_X5.1 (obX (Nat.le_trans (by decide) hn)) (fun _ _ hF => k_X5_hour (Nat.le_trans (by decide) hn) hF) w_157 cm_X5_hour (by decide) (by decide) rfl rfl (Nat.le_of_ble_eq_true rfl) dL_law_459 462 rfl (fun v223 u222 h => ?_)
                    refine ww_aload_n C 3 dL_law_462 rfl rfl 463 rfl ?_
                    refine ww_aload_n C 5 dL_law_463 rfl rfl 464 rfl ?_
                    refine ww_callSi C (As := [.ref (sa.1 3), .ref (ad 73)]) (st := [.int v223]) h (fun _ _ hF => k_L_pass hn hF) w_857 cm_L_pass (by decide) (by decide) rfl rfl (Nat.le_of_ble_eq_true rfl) dL_law_464 467 rfl (fun v225 u224 h => ?_)
                    refine ww_icmp_eq C 472 dL_law_467 (by decide) h 470 rfl (fun h => ?_) (fun h => ?_)
                    · refine ww_iinc C 7 (1 : Int32) (by decide) (fun v226 => [(4, .int v226), (7, .int v208), (6, .int v202), (5, .int v201), (0, .ref (sa.1 3)), (1, .ref (ad 72)), (2, .ref (ad 73)), (3, .int x3)]) dL_law_472 rfl (by decide) (fun _ => rfl) h 475 rfl (fun v226 h => ?_)
                      refine ww_goto C 306 dL_law_475 (by decide) ?_
                      exact ww_sub [4, 5, 6, 7, 0] rfl (ih _ _ _ h)
                    · refine ww_iconst C (0 : Int32) dL_law_470 (by decide) 471 rfl ?_
                      cases h
                · refine ww_iconst C (0 : Int32) dL_law_447 (by decide) 448 rfl ?_
                  cases h
            · refine ww_iconst C (0 : Int32) dL_law_394 (by decide) 395 rfl ?_
              cases h
          · refine ww_aload_n C 5 dL_law_378 rfl rfl 379 rfl ?_
            refine ww_iconst C (2 : Int32) dL_law_379 (by decide) 380 rfl ?_
            refine ww_iload C 1 dL_law_380 rfl 382 rfl ?_
            refine ww_imul C dL_law_382 383 rfl ?_
            refine ww_lald C (laH hn) dL_law_383 h 384 rfl (fun h => ?_)
            refine ww_goto C 390 dL_law_384 (by decide) ?_
            refine ww_lcmp C dL_law_390 391 rfl ?_
            refine ww_if_eq C 396 dL_law_391 (by decide) h 394 rfl (fun h => ?_) (fun h => ?_)
            · refine ww_iload C 2 dL_law_396 rfl 398 rfl ?_
              refine ww_bipush C (15 : Int32) dL_law_398 (by decide) 400 rfl ?_
              refine ww_iand C dL_law_400 401 rfl ?_
              refine ww_bipush C (12 : Int32) dL_law_401 (by decide) 403 rfl ?_
              refine ww_irem C dL_law_403 h 404 rfl (fun h => ?_)
              refine ww_bi h (fun v227 h => ?_)
              refine ww_istore C [(7, .int v227), (6, .int v202), (5, .int v201), (0, .ref (sa.1 3)), (1, .ref (ad 72)), (2, .ref (ad 73)), (3, .int x3), (4, .int x4)] dL_law_404 (by decide) rfl 406 rfl ?_
              refine ww_aload_n C 4 dL_law_406 rfl rfl 407 rfl ?_
              refine ww_iload C 0 dL_law_407 rfl 409 rfl ?_
              refine ww_callVi C (As := [.int v227]) (st := []) h cl_X5.1 (obX (Nat.le_trans (by decide) hn)) (fun _ _ hF => k_X5_open (Nat.le_trans (by decide) hn) hF) w_144 cm_X5_open (by decide) (by decide) rfl rfl (Nat.le_of_ble_eq_true rfl) dL_law_409 412 rfl (fun v229 u228 h => ?_)
              refine ww_i2l C dL_law_412 413 rfl ?_
              refine ww_aload_n C 5 dL_law_413 rfl rfl 414 rfl ?_
              refine ww_iload C 0 dL_law_414 rfl 416 rfl ?_
              refine ww_callSi C (As := [.ref (ad 73), .int v227]) (st := [.long ((v229).toInt64)]) h (fun _ _ hF => k_L_open hn hF) w_854 cm_L_open (by decide) (by decide) rfl rfl (Nat.le_of_ble_eq_true rfl) dL_law_416 419 rfl (fun v231 u230 h => ?_)
              refine ww_if_eq C 440 dL_law_419 (by decide) h 422 rfl (fun h => ?_) (fun h => ?_)
              · refine ww_ldc2 C (-3 : Int64) w_881 dL_law_440 443 rfl ?_
                refine ww_lcmp C dL_law_443 444 rfl ?_
                refine ww_if_eq C 449 dL_law_444 (by decide) h 447 rfl (fun h => ?_) (fun h => ?_)
                · refine ww_aload_n C 3 dL_law_449 rfl rfl 450 rfl ?_
                  refine ww_aload_n C 5 dL_law_450 rfl rfl 451 rfl ?_
                  refine ww_aload_n C 4 dL_law_451 rfl rfl 452 rfl ?_
                  refine ww_callSi C (As := [.ref (sa.1 3), .ref (ad 73), .ref (ad 72)]) (st := []) h (fun _ _ hF => k_L_same hn hF) w_866 cm_L_same (by decide) (by decide) rfl rfl (Nat.le_of_ble_eq_true rfl) dL_law_452 455 rfl (fun v233 u232 h => ?_)
                  refine ww_if_eq C 470 dL_law_455 (by decide) h 458 rfl (fun h => ?_) (fun h => ?_)
                  · refine ww_iconst C (0 : Int32) dL_law_470 (by decide) 471 rfl ?_
                    cases h
                  · refine ww_aload_n C 4 dL_law_458 rfl rfl 459 rfl ?_
                    refine ww_callVi C (As := []) (st := []) h cl_X5.1 (obX (Nat.le_trans (by decide) hn)) (fun _ _ hF => k_X5_hour (Nat.le_trans (by decide) hn) hF) w_157 cm_X5_hour (by decide) (by decide) rfl rfl (Nat.le_of_ble_eq_true rfl) dL_law_459 462 rfl (fun v235 u234 h => ?_)
                    refine ww_aload_n C 3 dL_law_462 rfl rfl 463 rfl ?_
                    refine ww_aload_n C 5 dL_law_463 rfl rfl 464 rfl ?_
                    refine ww_callSi C (As := [.ref (sa.1 3), .ref (ad 73)]) (st := [.int v235]) h (fun _ _ hF => k_L_pass hn hF) w_857 cm_L_pass (by decide) (by decide) rfl rfl (Nat.le_of_ble_eq_true rfl) dL_law_464 467 rfl (fun v237 u236 h => ?_)
                    refine ww_icmp_eq C 472 dL_law_467 (by decide) h 470 rfl (fun h => ?_) (fun h => ?_)
                    · refine ww_iinc C 7 (1 : Int32) (by decide) (fun v238 => [(4, .int v238), (7, .int v227), (6, .int v202), (5, .int v201), (0, .ref (sa.1 3)), (1, .ref (ad 72)), (2, .ref (ad 73)), (3, .int x3)]) dL_law_472 rfl (by decide) (fun _ => rfl) h 475 rfl (fun v238 h => ?_)
                      refine ww_goto C 306 dL_law_475 (by decide) ?_
                      exact ww_sub [4, 5, 6, 7, 0] rfl (ih _ _ _ h)
                    · refine ww_iconst C (0 : Int32) dL_law_470 (by decide) 471 rfl ?_
                      cases h
                · refine ww_iconst C (0 : Int32) dL_law_447 (by decide) 448 rfl ?_
                  cases h
              · refine ww_aload_n C 5 dL_law_422 rfl rfl 423 rfl ?_
                refine ww_bipush C (64 : Int32) dL_law_423 (by decide) 425 rfl ?_
                refine ww_aload_n C 5 dL_law_425 rfl rfl 426 rfl ?_
                refine ww_bipush C (16 : Int32) dL_law_426 (by decide) 428 rfl ?_
                refine ww_iconst C (4 : Int32) dL_law_428 (by decide) 429 rfl ?_
                refine ww_iload C 0 dL_law_429 rfl 431 rfl ?_
                refine ww_imul C dL_law_431 432 rfl ?_
                refine ww_iadd C dL_law_432 433 rfl ?_
                refine ww_lald C (laH hn) dL_law_433 h 434 rfl (fun h => ?_)
                refine ww_l2i C dL_law_434 435 rfl ?_
                refine ww_iadd C dL_law_435 436 rfl ?_
                refine ww_lald C (laH hn) dL_law_436 h 437 rfl (fun h => ?_)
                refine ww_goto C 443 dL_law_437 (by decide) ?_
                refine ww_lcmp C dL_law_443 444 rfl ?_
                refine ww_if_eq C 449 dL_law_444 (by decide) h 447 rfl (fun h => ?_) (fun h => ?_)
                · refine ww_aload_n C 3 dL_law_449 rfl rfl 450 rfl ?_
                  refine ww_aload_n C 5 dL_law_450 rfl rfl 451 rfl ?_
                  refine ww_aload_n C 4 dL_law_451 rfl rfl 452 rfl ?_
                  refine ww_callSi C (As := [.ref (sa.1 3), .ref (ad 73), .ref (ad 72)]) (st := []) h (fun _ _ hF => k_L_same hn hF) w_866 cm_L_same (by decide) (by decide) rfl rfl (Nat.le_of_ble_eq_true rfl) dL_law_452 455 rfl (fun v240 u239 h => ?_)
                  refine ww_if_eq C 470 dL_law_455 (by decide) h 458 rfl (fun h => ?_) (fun h => ?_)
                  · refine ww_iconst C (0 : Int32) dL_law_470 (by decide) 471 rfl ?_
                    cases h
                  · refine ww_aload_n C 4 dL_law_458 rfl rfl 459 rfl ?_
                    refine ww_callVi C (As := []) (st := []) h cl_X5.1 (obX (Nat.le_trans (by decide) hn)) (fun _ _ hF => k_X5_hour (Nat.le_trans (by decide) hn) hF) w_157 cm_X5_hour (by decide) (by decide) rfl rfl (Nat.le_of_ble_eq_true rfl) dL_law_459 462 rfl (fun v242 u241 h => ?_)
                    refine ww_aload_n C 3 dL_law_462 rfl rfl 463 rfl ?_
                    refine ww_aload_n C 5 dL_law_463 rfl rfl 464 rfl ?_
                    refine ww_callSi C (As := [.ref (sa.1 3), .ref (ad 73)]) (st := [.int v242]) h (fun _ _ hF => k_L_pass hn hF) w_857 cm_L_pass (by decide) (by decide) rfl rfl (Nat.le_of_ble_eq_true rfl) dL_law_464 467 rfl (fun v244 u243 h => ?_)
                    refine ww_icmp_eq C 472 dL_law_467 (by decide) h 470 rfl (fun h => ?_) (fun h => ?_)
                    · refine ww_iinc C 7 (1 : Int32) (by decide) (fun v245 => [(4, .int v245), (7, .int v227), (6, .int v202), (5, .int v201), (0, .ref (sa.1 3)), (1, .ref (ad 72)), (2, .ref (ad 73)), (3, .int x3)]) dL_law_472 rfl (by decide) (fun _ => rfl) h 475 rfl (fun v245 h => ?_)
                      refine ww_goto C 306 dL_law_475 (by decide) ?_
                      exact ww_sub [4, 5, 6, 7, 0] rfl (ih _ _ _ h)
                    · refine ww_iconst C (0 : Int32) dL_law_470 (by decide) 471 rfl ?_
                      cases h
                · refine ww_iconst C (0 : Int32) dL_law_447 (by decide) 448 rfl ?_
                  cases h
            · refine ww_iconst C (0 : Int32) dL_law_394 (by decide) 395 rfl ?_
              cases h
        · refine ww_iconst C (0 : Int32) dL_law_322 (by decide) 323 rfl ?_
          cases h
  have G192h : ∀ (fu : Nat), (∀ (x3 : Int32) (x4 : Int32) (x5 : Int32) (g : Mem), L_law_G192 N sa fu 0 x3 x4 x5 g = some ((1 : Int32), g1) → WW p l e R s m args below meth c 9 D YI ad cA n Q g 192 [(0, .ref (sa.1 3)), (1, .ref (ad 72)), (2, .ref (ad 73)), (3, .int x3), (4, .int x4)] []) ∧ (∀ (x3 : Int32) (x4 : Int32) (x5 : Int32) (g : Mem), L_law_G192 N sa fu 1 x3 x4 x5 g = some ((1 : Int32), g1) → WW p l e R s m args below meth c 9 D YI ad cA n Q g 201 [(0, .ref (sa.1 3)), (1, .ref (ad 72)), (2, .ref (ad 73)), (3, .int x3), (4, .int x4), (5, .int x5)] []) := by
    intro fu
    induction fu with
    | zero => exact ⟨(by intro x3 x4 x5 g h; cases h), (by intro x3 x4 x5 g h; cases h)⟩
    | succ fu ih =>
      refine ⟨?_, ?_⟩
      · intro x3 x4 x5 g h
        rw [L_law_G192] at h
        refine ww_iload C 4 dL_law_192 rfl 194 rfl ?_
        refine ww_iload_n C 3 dL_law_194 rfl rfl 195 rfl ?_
        refine ww_icmp_ge C 303 dL_law_195 (by decide) h 198 rfl (fun h => ?_) (fun h => ?_)
        · refine ww_iconst C (0 : Int32) dL_law_303 (by decide) 304 rfl ?_
          refine ww_istore C [(4, .int (0 : Int32)), (0, .ref (sa.1 3)), (1, .ref (ad 72)), (2, .ref (ad 73)), (3, .int x3)] dL_law_304 (by decide) rfl 306 rfl ?_
          exact ww_sub [1, 2, 3, 4, 0] rfl (L306h N _ _ _ h)
        · refine ww_iconst C (0 : Int32) dL_law_198 (by decide) 199 rfl ?_
          refine ww_istore C [(5, .int (0 : Int32)), (0, .ref (sa.1 3)), (1, .ref (ad 72)), (2, .ref (ad 73)), (3, .int x3), (4, .int x4)] dL_law_199 (by decide) rfl 201 rfl ?_
          exact ww_sub [1, 2, 3, 4, 5, 0] rfl ((ih).2 _ _ _ _ h)
      · intro x3 x4 x5 g h
        rw [L_law_G192] at h
        refine ww_iload C 5 dL_law_201 rfl 203 rfl ?_
        refine ww_bipush C (12 : Int32) dL_law_203 (by decide) 205 rfl ?_
        refine ww_icmp_ge C 277 dL_law_205 (by decide) h 208 rfl (fun h => ?_) (fun h => ?_)
        · refine ww_aload_n C 1 dL_law_277 rfl rfl 278 rfl ?_
          refine ww_iconst C (1 : Int32) dL_law_278 (by decide) 279 rfl ?_
          refine ww_callVi C (As := [.int (1 : Int32)]) (st := []) h cl_X5.1 (obX (Nat.le_trans (by decide) hn)) (fun _ _ hF => k_X5_best (Nat.le_trans (by decide) hn) hF) w_232 cm_X5_best (by decide) (by decide) rfl rfl (Nat.le_of_ble_eq_true rfl) dL_law_279 282 rfl (fun v247 u246 h => ?_)
          refine ww_aload_n C 1 dL_law_282 rfl rfl 283 rfl ?_
          refine ww_iload C 4 dL_law_283 rfl 285 rfl ?_
          refine ww_iconst C (4 : Int32) dL_law_285 (by decide) 286 rfl ?_
          refine ww_callVi C (As := [.int x4, .int (4 : Int32)]) (st := [.int v247]) h cl_X5.1 (obX (Nat.le_trans (by decide) hn)) (fun _ _ hF => k_X5_told (Nat.le_trans (by decide) hn) hF) w_76 cm_X5_told (by decide) (by decide) rfl rfl (Nat.le_of_ble_eq_true rfl) dL_law_286 289 rfl (fun v249 u248 h => ?_)
          refine ww_callSi C (As := [.int v249]) (st := [.int v247]) h (fun _ _ hF => k_J6_bitCount_0f7a4 (Nat.le_trans (by decide) hn) hF) w_880 cm_J6_bitCount_0f7a4 (by decide) (by decide) rfl rfl (Nat.le_of_ble_eq_true rfl) dL_law_289 292 rfl (fun v251 u250 h => ?_)
          refine ww_icmp_ge C 297 dL_law_292 (by decide) h 295 rfl (fun h => ?_) (fun h => ?_)
          · refine ww_iinc C 4 (1 : Int32) (by decide) (fun v252 => [(4, .int v252), (0, .ref (sa.1 3)), (1, .ref (ad 72)), (2, .ref (ad 73)), (3, .int x3), (5, .int x5)]) dL_law_297 rfl (by decide) (fun _ => rfl) h 300 rfl (fun v252 h => ?_)
            refine ww_goto C 192 dL_law_300 (by decide) ?_
            exact ww_sub [1, 2, 3, 4, 0] rfl ((ih).1 _ _ _ _ h)
          · refine ww_iconst C (0 : Int32) dL_law_295 (by decide) 296 rfl ?_
            cases h
        · refine ww_aload_n C 1 dL_law_208 rfl rfl 209 rfl ?_
          refine ww_iload C 4 dL_law_209 rfl 211 rfl ?_
          refine ww_iconst C (4 : Int32) dL_law_211 (by decide) 212 rfl ?_
          refine ww_callVi C (As := [.int x4, .int (4 : Int32)]) (st := []) h cl_X5.1 (obX (Nat.le_trans (by decide) hn)) (fun _ _ hF => k_X5_told (Nat.le_trans (by decide) hn) hF) w_76 cm_X5_told (by decide) (by decide) rfl rfl (Nat.le_of_ble_eq_true rfl) dL_law_212 215 rfl (fun v254 u253 h => ?_)
          refine ww_iload C 5 dL_law_215 rfl 217 rfl ?_
          refine ww_ishr C dL_law_217 218 rfl ?_
          refine ww_iconst C (1 : Int32) dL_law_218 (by decide) 219 rfl ?_
          refine ww_iand C dL_law_219 220 rfl ?_
          refine ww_iconst C (1 : Int32) dL_law_220 (by decide) 221 rfl ?_
          refine ww_icmp_ne C 228 dL_law_221 (by decide) h 224 rfl (fun h => ?_) (fun h => ?_)
          · refine ww_iconst C (0 : Int32) dL_law_228 (by decide) 229 rfl ?_
            refine ww_istore C [(6, .int (0 : Int32)), (0, .ref (sa.1 3)), (1, .ref (ad 72)), (2, .ref (ad 73)), (3, .int x3), (4, .int x4), (5, .int x5)] dL_law_229 (by decide) rfl 231 rfl ?_
            refine ww_aload_n C 2 dL_law_231 rfl rfl 232 rfl ?_
            refine ww_iload C 5 dL_law_232 rfl 234 rfl ?_
            refine ww_iload C 6 dL_law_234 rfl 236 rfl ?_
            refine ww_iconst C (0 : Int32) dL_law_236 (by decide) 237 rfl ?_
            refine ww_callVi C (As := [.int x4, .int x5, .int (0 : Int32)]) (st := []) h cl_X5.1 (obX (Nat.le_trans (by decide) hn)) (fun _ _ hF => k_X5_last (Nat.le_trans (by decide) hn) hF) w_224 cm_X5_last (by decide) (by decide) rfl rfl (Nat.le_of_ble_eq_true rfl) dL_law_237 240 rfl (fun v256 u255 h => ?_)
            refine ww_iload C 0 dL_law_240 rfl 242 rfl ?_
            refine ww_if_eq C 265 dL_law_242 (by decide) h 245 rfl (fun h => ?_) (fun h => ?_)
            · refine ww_iconst C (-1 : Int32) dL_law_265 (by decide) 266 rfl ?_
              refine ww_icmp_eq C 271 dL_law_266 (by decide) h 269 rfl (fun h => ?_) (fun h => ?_)
              · refine ww_iinc C 6 (1 : Int32) (by decide) (fun v257 => [(5, .int v257), (6, .int (0 : Int32)), (0, .ref (sa.1 3)), (1, .ref (ad 72)), (2, .ref (ad 73)), (3, .int x3), (4, .int x4)]) dL_law_271 rfl (by decide) (fun _ => rfl) h 274 rfl (fun v257 h => ?_)
                refine ww_goto C 201 dL_law_274 (by decide) ?_
                exact ww_sub [2, 3, 4, 5, 6, 0] rfl ((ih).2 _ _ _ _ h)
              · refine ww_iconst C (0 : Int32) dL_law_269 (by decide) 270 rfl ?_
                cases h
            · refine ww_aload_n C 2 dL_law_245 rfl rfl 246 rfl ?_
              refine ww_iload C 5 dL_law_246 rfl 248 rfl ?_
              refine ww_iconst C (0 : Int32) dL_law_248 (by decide) 249 rfl ?_
              refine ww_callVi C (As := [.int x4, .int (0 : Int32)]) (st := [.int v256]) h cl_X5.1 (obX (Nat.le_trans (by decide) hn)) (fun _ _ hF => k_X5_told (Nat.le_trans (by decide) hn) hF) w_76 cm_X5_told (by decide) (by decide) rfl rfl (Nat.le_of_ble_eq_true rfl) dL_law_249 252 rfl (fun v259 u258 h => ?_)
              refine ww_aload_n C 2 dL_law_252 rfl rfl 253 rfl ?_
              refine ww_iload C 5 dL_law_253 rfl 255 rfl ?_
              refine ww_iload C 6 dL_law_255 rfl 257 rfl ?_
              refine ww_iconst C (1 : Int32) dL_law_257 (by decide) 258 rfl ?_
              refine ww_callVi C (As := [.int x4, .int x5, .int (1 : Int32)]) (st := [.int v259, .int v256]) h cl_X5.1 (obX (Nat.le_trans (by decide) hn)) (fun _ _ hF => k_X5_dives (Nat.le_trans (by decide) hn) hF) w_129 cm_X5_dives (by decide) (by decide) rfl rfl (Nat.le_of_ble_eq_true rfl) dL_law_258 261 rfl (fun v261 u260 h => ?_)
              refine ww_isub C dL_law_261 262 rfl ?_
              refine ww_goto C 266 dL_law_262 (by decide) ?_
              refine ww_icmp_eq C 271 dL_law_266 (by decide) h 269 rfl (fun h => ?_) (fun h => ?_)
              · refine ww_iinc C 6 (1 : Int32) (by decide) (fun v262 => [(5, .int v262), (6, .int (0 : Int32)), (0, .ref (sa.1 3)), (1, .ref (ad 72)), (2, .ref (ad 73)), (3, .int x3), (4, .int x4)]) dL_law_271 rfl (by decide) (fun _ => rfl) h 274 rfl (fun v262 h => ?_)
                refine ww_goto C 201 dL_law_274 (by decide) ?_
                exact ww_sub [2, 3, 4, 5, 6, 0] rfl ((ih).2 _ _ _ _ h)
              · refine ww_iconst C (0 : Int32) dL_law_269 (by decide) 270 rfl ?_
                cases h
          · refine ww_iconst C (1 : Int32) dL_law_224 (by decide) 225 rfl ?_
            refine ww_goto C 229 dL_law_225 (by decide) ?_
            refine ww_istore C [(6, .int (1 : Int32)), (0, .ref (sa.1 3)), (1, .ref (ad 72)), (2, .ref (ad 73)), (3, .int x3), (4, .int x4), (5, .int x5)] dL_law_229 (by decide) rfl 231 rfl ?_
            refine ww_aload_n C 2 dL_law_231 rfl rfl 232 rfl ?_
            refine ww_iload C 5 dL_law_232 rfl 234 rfl ?_
            refine ww_iload C 6 dL_law_234 rfl 236 rfl ?_
            refine ww_iconst C (0 : Int32) dL_law_236 (by decide) 237 rfl ?_
            refine ww_callVi C (As := [.int x4, .int x5, .int (0 : Int32)]) (st := []) h cl_X5.1 (obX (Nat.le_trans (by decide) hn)) (fun _ _ hF => k_X5_last (Nat.le_trans (by decide) hn) hF) w_224 cm_X5_last (by decide) (by decide) rfl rfl (Nat.le_of_ble_eq_true rfl) dL_law_237 240 rfl (fun v264 u263 h => ?_)
            refine ww_iload C 0 dL_law_240 rfl 242 rfl ?_
            refine ww_if_eq C 265 dL_law_242 (by decide) h 245 rfl (fun h => ?_) (fun h => ?_)
            · refine ww_iconst C (-1 : Int32) dL_law_265 (by decide) 266 rfl ?_
              refine ww_icmp_eq C 271 dL_law_266 (by decide) h 269 rfl (fun h => ?_) (fun h => ?_)
              · refine ww_iinc C 6 (1 : Int32) (by decide) (fun v265 => [(5, .int v265), (6, .int (1 : Int32)), (0, .ref (sa.1 3)), (1, .ref (ad 72)), (2, .ref (ad 73)), (3, .int x3), (4, .int x4)]) dL_law_271 rfl (by decide) (fun _ => rfl) h 274 rfl (fun v265 h => ?_)
                refine ww_goto C 201 dL_law_274 (by decide) ?_
                exact ww_sub [2, 3, 4, 5, 6, 0] rfl ((ih).2 _ _ _ _ h)
              · refine ww_iconst C (0 : Int32) dL_law_269 (by decide) 270 rfl ?_
                cases h
            · refine ww_aload_n C 2 dL_law_245 rfl rfl 246 rfl ?_
              refine ww_iload C 5 dL_law_246 rfl 248 rfl ?_
              refine ww_iconst C (0 : Int32) dL_law_248 (by decide) 249 rfl ?_
              refine ww_callVi C (As := [.int x4, .int (0 : Int32)]) (st := [.int v264]) h cl_X5.1 (obX (Nat.le_trans (by decide) hn)) (fun _ _ hF => k_X5_told (Nat.le_trans (by decide) hn) hF) w_76 cm_X5_told (by decide) (by decide) rfl rfl (Nat.le_of_ble_eq_true rfl) dL_law_249 252 rfl (fun v267 u266 h => ?_)
              refine ww_aload_n C 2 dL_law_252 rfl rfl 253 rfl ?_
              refine ww_iload C 5 dL_law_253 rfl 255 rfl ?_
              refine ww_iload C 6 dL_law_255 rfl 257 rfl ?_
              refine ww_iconst C (1 : Int32) dL_law_257 (by decide) 258 rfl ?_
              refine ww_callVi C (As := [.int x4, .int x5, .int (1 : Int32)]) (st := [.int v267, .int v264]) h cl_X5.1 (obX (Nat.le_trans (by decide) hn)) (fun _ _ hF => k_X5_dives (Nat.le_trans (by decide) hn) hF) w_129 cm_X5_dives (by decide) (by decide) rfl rfl (Nat.le_of_ble_eq_true rfl) dL_law_258 261 rfl (fun v269 u268 h => ?_)
              refine ww_isub C dL_law_261 262 rfl ?_
              refine ww_goto C 266 dL_law_262 (by decide) ?_
              refine ww_icmp_eq C 271 dL_law_266 (by decide) h 269 rfl (fun h => ?_) (fun h => ?_)
              · refine ww_iinc C 6 (1 : Int32) (by decide) (fun v270 => [(5, .int v270), (6, .int (1 : Int32)), (0, .ref (sa.1 3)), (1, .ref (ad 72)), (2, .ref (ad 73)), (3, .int x3), (4, .int x4)]) dL_law_271 rfl (by decide) (fun _ => rfl) h 274 rfl (fun v270 h => ?_)
                refine ww_goto C 201 dL_law_274 (by decide) ?_
                exact ww_sub [2, 3, 4, 5, 6, 0] rfl ((ih).2 _ _ _ _ h)
              · refine ww_iconst C (0 : Int32) dL_law_269 (by decide) 270 rfl ?_
                cases h
  have G59h : ∀ (fu : Nat), (∀ (x3 : Int32) (x4 : Int32) (x5 : Int32) (x6 : Int32) (x7 : Int32) (x8 : Int32) (g : Mem), L_law_G59 N sa fu 0 x3 x4 x5 x6 x7 x8 g = some ((1 : Int32), g1) → WW p l e R s m args below meth c 9 D YI ad cA n Q g 59 [(0, .ref (sa.1 3)), (1, .ref (ad 72)), (2, .ref (ad 73)), (3, .int x3), (4, .int x4)] []) ∧ (∀ (x3 : Int32) (x4 : Int32) (x5 : Int32) (x6 : Int32) (x7 : Int32) (x8 : Int32) (g : Mem), L_law_G59 N sa fu 1 x3 x4 x5 x6 x7 x8 g = some ((1 : Int32), g1) → WW p l e R s m args below meth c 9 D YI ad cA n Q g 84 [(0, .ref (sa.1 3)), (1, .ref (ad 72)), (2, .ref (ad 73)), (3, .int x3), (4, .int x4), (5, .int x5), (6, .int x6), (7, .int x7), (8, .int x8)] []) := by
    intro fu
    induction fu with
    | zero => exact ⟨(by intro x3 x4 x5 x6 x7 x8 g h; cases h), (by intro x3 x4 x5 x6 x7 x8 g h; cases h)⟩
    | succ fu ih =>
      refine ⟨?_, ?_⟩
      · intro x3 x4 x5 x6 x7 x8 g h
        rw [L_law_G59] at h
        refine ww_iload C 4 dL_law_59 rfl 61 rfl ?_
        refine ww_bipush C (80 : Int32) dL_law_61 (by decide) 63 rfl ?_
        refine ww_icmp_ge C 189 dL_law_63 (by decide) h 66 rfl (fun h => ?_) (fun h => ?_)
        · refine ww_iconst C (0 : Int32) dL_law_189 (by decide) 190 rfl ?_
          refine ww_istore C [(4, .int (0 : Int32)), (0, .ref (sa.1 3)), (1, .ref (ad 72)), (2, .ref (ad 73)), (3, .int x3)] dL_law_190 (by decide) rfl 192 rfl ?_
          exact ww_sub [1, 2, 3, 4, 0] rfl ((G192h N).1 _ _ _ _ h)
        · refine ww_aload_n C 1 dL_law_66 rfl rfl 67 rfl ?_
          refine ww_iload C 4 dL_law_67 rfl 69 rfl ?_
          refine ww_iconst C (0 : Int32) dL_law_69 (by decide) 70 rfl ?_
          refine ww_callVi C (As := [.int x4, .int (0 : Int32)]) (st := []) h cl_X5.1 (obX (Nat.le_trans (by decide) hn)) (fun _ _ hF => k_X5_cargo (Nat.le_trans (by decide) hn) hF) w_213 cm_X5_cargo (by decide) (by decide) rfl rfl (Nat.le_of_ble_eq_true rfl) dL_law_70 73 rfl (fun v272 u271 h => ?_)
          refine ww_istore C [(5, .int v272), (0, .ref (sa.1 3)), (1, .ref (ad 72)), (2, .ref (ad 73)), (3, .int x3), (4, .int x4)] dL_law_73 (by decide) rfl 75 rfl ?_
          refine ww_iconst C (0 : Int32) dL_law_75 (by decide) 76 rfl ?_
          refine ww_istore C [(6, .int (0 : Int32)), (5, .int v272), (0, .ref (sa.1 3)), (1, .ref (ad 72)), (2, .ref (ad 73)), (3, .int x3), (4, .int x4)] dL_law_76 (by decide) rfl 78 rfl ?_
          refine ww_iconst C (0 : Int32) dL_law_78 (by decide) 79 rfl ?_
          refine ww_istore C [(7, .int (0 : Int32)), (6, .int (0 : Int32)), (5, .int v272), (0, .ref (sa.1 3)), (1, .ref (ad 72)), (2, .ref (ad 73)), (3, .int x3), (4, .int x4)] dL_law_79 (by decide) rfl 81 rfl ?_
          refine ww_iconst C (0 : Int32) dL_law_81 (by decide) 82 rfl ?_
          refine ww_istore C [(8, .int (0 : Int32)), (7, .int (0 : Int32)), (6, .int (0 : Int32)), (5, .int v272), (0, .ref (sa.1 3)), (1, .ref (ad 72)), (2, .ref (ad 73)), (3, .int x3), (4, .int x4)] dL_law_82 (by decide) rfl 84 rfl ?_
          exact ww_sub [4, 5, 6, 7, 8, 3, 2, 1, 0] rfl ((ih).2 _ _ _ _ _ _ _ h)
      · intro x3 x4 x5 x6 x7 x8 g h
        rw [L_law_G59] at h
        refine ww_iload C 8 dL_law_84 rfl 86 rfl ?_
        refine ww_bipush C (12 : Int32) dL_law_86 (by decide) 88 rfl ?_
        refine ww_icmp_ge C 147 dL_law_88 (by decide) h 91 rfl (fun h => ?_) (fun h => ?_)
        · refine ww_iload C 6 dL_law_147 rfl 149 rfl ?_
          refine ww_iload C 4 dL_law_149 rfl 151 rfl ?_
          refine ww_icmp_gt C 181 dL_law_151 (by decide) h 154 rfl (fun h => ?_) (fun h => ?_)
          · refine ww_iconst C (0 : Int32) dL_law_181 (by decide) 182 rfl ?_
            cases h
          · refine ww_iload C 7 dL_law_154 rfl 156 rfl ?_
            refine ww_aload_n C 1 dL_law_156 rfl rfl 157 rfl ?_
            refine ww_iload C 4 dL_law_157 rfl 159 rfl ?_
            refine ww_iconst C (1 : Int32) dL_law_159 (by decide) 160 rfl ?_
            refine ww_callVi C (As := [.int x4, .int (1 : Int32)]) (st := [.int x7]) h cl_X5.1 (obX (Nat.le_trans (by decide) hn)) (fun _ _ hF => k_X5_cargo (Nat.le_trans (by decide) hn) hF) w_213 cm_X5_cargo (by decide) (by decide) rfl rfl (Nat.le_of_ble_eq_true rfl) dL_law_160 163 rfl (fun v274 u273 h => ?_)
            refine ww_icmp_ne C 181 dL_law_163 (by decide) h 166 rfl (fun h => ?_) (fun h => ?_)
            · refine ww_iconst C (0 : Int32) dL_law_181 (by decide) 182 rfl ?_
              cases h
            · refine ww_iload C 7 dL_law_166 rfl 168 rfl ?_
              refine ww_aload_n C 1 dL_law_168 rfl rfl 169 rfl ?_
              refine ww_iload C 4 dL_law_169 rfl 171 rfl ?_
              refine ww_bipush C (20 : Int32) dL_law_171 (by decide) 173 rfl ?_
              refine ww_iadd C dL_law_173 174 rfl ?_
              refine ww_iconst C (1 : Int32) dL_law_174 (by decide) 175 rfl ?_
              refine ww_callVi C (As := [.int (x4 + (20 : Int32)), .int (1 : Int32)]) (st := [.int x7]) h cl_X5.1 (obX (Nat.le_trans (by decide) hn)) (fun _ _ hF => k_X5_cargo (Nat.le_trans (by decide) hn) hF) w_213 cm_X5_cargo (by decide) (by decide) rfl rfl (Nat.le_of_ble_eq_true rfl) dL_law_175 178 rfl (fun v276 u275 h => ?_)
              refine ww_icmp_le C 183 dL_law_178 (by decide) h 181 rfl (fun h => ?_) (fun h => ?_)
              · refine ww_iinc C 4 (20 : Int32) (by decide) (fun v277 => [(4, .int v277), (0, .ref (sa.1 3)), (1, .ref (ad 72)), (2, .ref (ad 73)), (3, .int x3), (5, .int x5), (6, .int x6), (7, .int x7), (8, .int x8)]) dL_law_183 rfl (by decide) (fun _ => rfl) h 186 rfl (fun v277 h => ?_)
                refine ww_goto C 59 dL_law_186 (by decide) ?_
                exact ww_sub [1, 2, 3, 4, 0] rfl ((ih).1 _ _ _ _ _ _ _ h)
              · refine ww_iconst C (0 : Int32) dL_law_181 (by decide) 182 rfl ?_
                cases h
        · refine ww_iload C 5 dL_law_91 rfl 93 rfl ?_
          refine ww_iload C 8 dL_law_93 rfl 95 rfl ?_
          refine ww_ishr C dL_law_95 96 rfl ?_
          refine ww_iconst C (1 : Int32) dL_law_96 (by decide) 97 rfl ?_
          refine ww_iand C dL_law_97 98 rfl ?_
          refine ww_if_ne C 104 dL_law_98 (by decide) h 101 rfl (fun h => ?_) (fun h => ?_)
          · refine ww_aload_n C 1 dL_law_104 rfl rfl 105 rfl ?_
            refine ww_iload C 8 dL_law_105 rfl 107 rfl ?_
            refine ww_iconst C (3 : Int32) dL_law_107 (by decide) 108 rfl ?_
            refine ww_callVi C (As := [.int x8, .int (3 : Int32)]) (st := []) h cl_X5.1 (obX (Nat.le_trans (by decide) hn)) (fun _ _ hF => k_X5_lies (Nat.le_trans (by decide) hn) hF) w_52 cm_X5_lies (by decide) (by decide) rfl rfl (Nat.le_of_ble_eq_true rfl) dL_law_108 111 rfl (fun v279 u278 h => ?_)
            refine ww_iconst C (1 : Int32) dL_law_111 (by decide) 112 rfl ?_
            refine ww_icmp_eq C 117 dL_law_112 (by decide) h 115 rfl (fun h => ?_) (fun h => ?_)
            · refine ww_iload C 6 dL_law_117 rfl 119 rfl ?_
              refine ww_aload_n C 1 dL_law_119 rfl rfl 120 rfl ?_
              refine ww_iload C 8 dL_law_120 rfl 122 rfl ?_
              refine ww_iconst C (2 : Int32) dL_law_122 (by decide) 123 rfl ?_
              refine ww_callVi C (As := [.int x8, .int (2 : Int32)]) (st := [.int x6]) h cl_X5.1 (obX (Nat.le_trans (by decide) hn)) (fun _ _ hF => k_X5_lies (Nat.le_trans (by decide) hn) hF) w_52 cm_X5_lies (by decide) (by decide) rfl rfl (Nat.le_of_ble_eq_true rfl) dL_law_123 126 rfl (fun v281 u280 h => ?_)
              refine ww_iadd C dL_law_126 127 rfl ?_
              refine ww_bi h (fun v282 h => ?_)
              refine ww_istore C [(6, .int v282), (0, .ref (sa.1 3)), (1, .ref (ad 72)), (2, .ref (ad 73)), (3, .int x3), (4, .int x4), (5, .int x5), (7, .int x7), (8, .int x8)] dL_law_127 (by decide) rfl 129 rfl ?_
              refine ww_iload C 7 dL_law_129 rfl 131 rfl ?_
              refine ww_aload_n C 2 dL_law_131 rfl rfl 132 rfl ?_
              refine ww_iload C 8 dL_law_132 rfl 134 rfl ?_
              refine ww_iconst C (1 : Int32) dL_law_134 (by decide) 135 rfl ?_
              refine ww_callVi C (As := [.int x8, .int (1 : Int32)]) (st := [.int x7]) h cl_X5.1 (obX (Nat.le_trans (by decide) hn)) (fun _ _ hF => k_X5_lies (Nat.le_trans (by decide) hn) hF) w_52 cm_X5_lies (by decide) (by decide) rfl rfl (Nat.le_of_ble_eq_true rfl) dL_law_135 138 rfl (fun v284 u283 h => ?_)
              refine ww_iadd C dL_law_138 139 rfl ?_
              refine ww_bi h (fun v285 h => ?_)
              refine ww_istore C [(7, .int v285), (6, .int v282), (0, .ref (sa.1 3)), (1, .ref (ad 72)), (2, .ref (ad 73)), (3, .int x3), (4, .int x4), (5, .int x5), (8, .int x8)] dL_law_139 (by decide) rfl 141 rfl ?_
              refine ww_iinc C 8 (1 : Int32) (by decide) (fun v286 => [(8, .int v286), (7, .int v285), (6, .int v282), (0, .ref (sa.1 3)), (1, .ref (ad 72)), (2, .ref (ad 73)), (3, .int x3), (4, .int x4), (5, .int x5)]) dL_law_141 rfl (by decide) (fun _ => rfl) h 144 rfl (fun v286 h => ?_)
              refine ww_goto C 84 dL_law_144 (by decide) ?_
              exact ww_sub [3, 4, 5, 6, 7, 8, 2, 1, 0] rfl ((ih).2 _ _ _ _ _ _ _ h)
            · refine ww_iconst C (0 : Int32) dL_law_115 (by decide) 116 rfl ?_
              cases h
          · refine ww_goto C 141 dL_law_101 (by decide) ?_
            refine ww_iinc C 8 (1 : Int32) (by decide) (fun v287 => [(8, .int v287), (0, .ref (sa.1 3)), (1, .ref (ad 72)), (2, .ref (ad 73)), (3, .int x3), (4, .int x4), (5, .int x5), (6, .int x6), (7, .int x7)]) dL_law_141 rfl (by decide) (fun _ => rfl) h 144 rfl (fun v287 h => ?_)
            refine ww_goto C 84 dL_law_144 (by decide) ?_
            exact ww_sub [1, 2, 3, 4, 5, 6, 7, 8, 0] rfl ((ih).2 _ _ _ _ _ _ _ h)
  have L23h : ∀ (fu : Nat), (∀ (x3 : Int32) (x4 : Int32) (g : Mem), L_law_L23 N sa fu x3 x4 g = some ((1 : Int32), g1) → WW p l e R s m args below meth c 9 D YI ad cA n Q g 23 [(0, .ref (sa.1 3)), (1, .ref (ad 72)), (2, .ref (ad 73)), (3, .int x3), (4, .int x4)] []) := by
    intro fu
    induction fu with
    | zero => intro x3 x4 g h; cases h
    | succ fu ih =>
      intro x3 x4 g h
      rw [L_law_L23] at h
      refine ww_iload C 4 dL_law_23 rfl 25 rfl ?_
      refine ww_bipush C (9 : Int32) dL_law_25 (by decide) 27 rfl ?_
      refine ww_icmp_ge C 56 dL_law_27 (by decide) h 30 rfl (fun h => ?_) (fun h => ?_)
      · refine ww_iconst C (0 : Int32) dL_law_56 (by decide) 57 rfl ?_
        refine ww_istore C [(4, .int (0 : Int32)), (0, .ref (sa.1 3)), (1, .ref (ad 72)), (2, .ref (ad 73)), (3, .int x3)] dL_law_57 (by decide) rfl 59 rfl ?_
        exact ww_sub [1, 2, 3, 4, 0] rfl ((G59h N).1 _ _ _ _ _ _ _ h)
      · refine ww_aload_n C 1 dL_law_30 rfl rfl 31 rfl ?_
        refine ww_iload C 4 dL_law_31 rfl 33 rfl ?_
        refine ww_iconst C (1 : Int32) dL_law_33 (by decide) 34 rfl ?_
        refine ww_callVi C (As := [.int x4, .int (1 : Int32)]) (st := []) h cl_X5.1 (obX (Nat.le_trans (by decide) hn)) (fun _ _ hF => k_X5_which (Nat.le_trans (by decide) hn) hF) w_204 cm_X5_which (by decide) (by decide) rfl rfl (Nat.le_of_ble_eq_true rfl) dL_law_34 37 rfl (fun v289 u288 h => ?_)
        refine ww_aload_n C 1 dL_law_37 rfl rfl 38 rfl ?_
        refine ww_iload C 4 dL_law_38 rfl 40 rfl ?_
        refine ww_bipush C (7 : Int32) dL_law_40 (by decide) 42 rfl ?_
        refine ww_callVi C (As := [.int x4, .int (7 : Int32)]) (st := [.int v289]) h cl_X5.1 (obX (Nat.le_trans (by decide) hn)) (fun _ _ hF => k_X5_run (Nat.le_trans (by decide) hn) hF) w_193 cm_X5_run (by decide) (by decide) rfl rfl (Nat.le_of_ble_eq_true rfl) dL_law_42 45 rfl (fun v291 u290 h => ?_)
        refine ww_icmp_ge C 50 dL_law_45 (by decide) h 48 rfl (fun h => ?_) (fun h => ?_)
        · refine ww_iinc C 4 (4 : Int32) (by decide) (fun v292 => [(4, .int v292), (0, .ref (sa.1 3)), (1, .ref (ad 72)), (2, .ref (ad 73)), (3, .int x3)]) dL_law_50 rfl (by decide) (fun _ => rfl) h 53 rfl (fun v292 h => ?_)
          refine ww_goto C 23 dL_law_53 (by decide) ?_
          exact ww_sub [1, 2, 3, 4, 0] rfl (ih _ _ _ h)
        · refine ww_iconst C (0 : Int32) dL_law_48 (by decide) 49 rfl ?_
          cases h
  rw [L_law] at h
  refine ww_aload_n C 0 dL_law_10 rfl rfl 11 rfl ?_
  refine ww_callSi C (As := [.ref (sa.1 3)]) (st := []) h (fun _ _ hF => k_L_many (Nat.le_trans (by decide) hn) hF) w_562 cm_L_many (by decide) (by decide) rfl rfl (Nat.le_of_ble_eq_true rfl) dL_law_11 14 rfl (fun v294 u293 h => ?_)
  refine ww_istore_n C [(3, .int v294), (0, .ref (sa.1 3)), (1, .ref (ad 72)), (2, .ref (ad 73))] dL_law_14 rfl (by decide) rfl 15 rfl ?_
  refine ww_aload_n C 1 dL_law_15 rfl rfl 16 rfl ?_
  refine ww_aload_n C 3 dL_law_16 rfl rfl 17 rfl ?_
  refine ww_callSv C (As := [.ref (sa.1 3), .ref (ad 73)]) (st := []) h (fun _ _ hF => k_L_start hn hF) w_824 cm_L_start (by decide) (by decide) rfl rfl (Nat.le_of_ble_eq_true rfl) dL_law_17 20 rfl (fun _ u295 h => ?_)
  refine ww_iconst C (0 : Int32) dL_law_20 (by decide) 21 rfl ?_
  refine ww_istore C [(4, .int (0 : Int32)), (3, .int v294), (0, .ref (sa.1 3)), (1, .ref (ad 72)), (2, .ref (ad 73))] dL_law_21 (by decide) rfl 23 rfl ?_
  exact ww_sub [2, 3, 4, 1, 0] rfl (L23h N _ _ _ h)

